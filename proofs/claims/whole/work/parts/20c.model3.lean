def r_X12_lotCount (M : fM) : Int32 := ((fst1 M 296 7 (0 : Int32)) 297 ((3 : Int32)).toNatClampNeg)
def m_X12_lotCount (M : fM) : fM := (fst1 M 296 7 (0 : Int32))
set_option maxRecDepth 100000 in
set_option maxHeartbeats 4000000 in
theorem c_X12_lotCount {G : fG} (hG : fOK G) {d : Nat} (hd : 0 ≤ d) (M : fM) (dv : UInt64) : fCt G z_X12_lotCount d [.ref 296] (sS M dv) 0 0 (fD (some (.int (r_X12_lotCount M))) (sS (m_X12_lotCount M) dv)) := by
  refine fCt_to [some (.ref 296)] k_X12_lotCount rfl (Nat.le_of_ble_eq_true rfl) rfl ?_
  refine f_aload_n dX12_lotCount_0 rfl rfl ?_
  refine f_iconst (v := 0) dX12_lotCount_1 rfl ?_
  refine s_puti hG fl_X12_45 (Or.inl rfl) dX12_lotCount_2 rfl rfl rfl rfl ?_
  refine f_aload_n dX12_lotCount_5 rfl rfl ?_
  refine s_getr hG fl_X12_7 dX12_lotCount_6 rfl rfl ?_
  refine f_iconst (v := 3) dX12_lotCount_9 rfl ?_
  refine s_iaload hG dX12_lotCount_10 rfl ((show ¬ ((3 : Int32) < 0 ∨ 127 ≤ (3 : Int32).toNatClampNeg) by decide)) ?_
  refine f_ireturn dX12_lotCount_11 rfl rfl ?_
  exact ⟨by rw [r_X12_lotCount], by rw [m_X12_lotCount]⟩

def r_X12_lotAt (M : fM) (a : Int32) : Int32 := (if (r_X12_in M a (0 : Int32) ((M 297 ((3 : Int32)).toNatClampNeg) - (1 : Int32))) = 0 then (0 : Int32) else (r_X12_by (fst1 M 296 7 (0 : Int32)) a (0 : Int32)))
def m_X12_lotAt (M : fM) (a : Int32) : fM := (if (r_X12_in M a (0 : Int32) ((M 297 ((3 : Int32)).toNatClampNeg) - (1 : Int32))) = 0 then (fst1 M 296 7 (1 : Int32)) else (fst1 M 296 7 (0 : Int32)))
def N_X12_lotAt (M : fM) (a : Int32) : Prop := (¬ ((r_X12_in M a (0 : Int32) ((M 297 ((3 : Int32)).toNatClampNeg) - (1 : Int32))) = 0) → N_X12_by (fst1 M 296 7 (0 : Int32)) a (0 : Int32))
set_option maxRecDepth 100000 in
set_option maxHeartbeats 4000000 in
theorem c_X12_lotAt {G : fG} (hG : fOK G) {d : Nat} (hd : 1 ≤ d) (M : fM) (dv : UInt64) (a : Int32) (hN : N_X12_lotAt M a) : fCt G z_X12_lotAt d [.ref 296, .int a] (sS M dv) 0 0 (fD (some (.int (r_X12_lotAt M a))) (sS (m_X12_lotAt M a) dv)) := by
  refine fCt_to [some (.ref 296), some (.int a)] k_X12_lotAt rfl (Nat.le_of_ble_eq_true rfl) rfl ?_
  have q0 : ¬ ((r_X12_in M a (0 : Int32) ((M 297 ((3 : Int32)).toNatClampNeg) - (1 : Int32))) = 0) → N_X12_by (fst1 M 296 7 (0 : Int32)) a (0 : Int32) := hN
  refine f_aload_n dX12_lotAt_0 rfl rfl ?_
  refine f_iload_n dX12_lotAt_1 rfl rfl ?_
  refine f_iconst (v := 0) dX12_lotAt_2 rfl ?_
  refine f_aload_n dX12_lotAt_3 rfl rfl ?_
  refine s_getr hG fl_X12_7 dX12_lotAt_4 rfl rfl ?_
  refine f_iconst (v := 3) dX12_lotAt_7 rfl ?_
  refine s_iaload hG dX12_lotAt_8 rfl ((show ¬ ((3 : Int32) < 0 ∨ 127 ≤ (3 : Int32).toNatClampNeg) by decide)) ?_
  refine f_iconst (v := 1) dX12_lotAt_9 rfl ?_
  refine f_isub dX12_lotAt_10 ?_
  refine f_cS hG (As := [_, _, _]) dX12_lotAt_11 rfl k_X12_in rfl rfl ml_X12_59 sm_X12_in (c_X12_in hG (d := 0) (Nat.le_refl _) _ _ _ _ _) (by omega) (Nat.le_of_ble_eq_true rfl) (Nat.zero_le _) (Nat.zero_le _) ?_
  refine f_if_eq (tgt := 21) dX12_lotAt_14 (by decide) (fun c_14 => ?_) (fun c_14 => ?_)
  · refine f_iconst (v := 1) dX12_lotAt_21 rfl ?_
    refine f_cV hG (As := [_]) dX12_lotAt_22 rfl k_X12_fails rfl rfl ml_X12_63 im_X12_fails se_X12_fails rfl rfl (c_X12_failsT hG (d := 0) (Nat.le_refl _) _ _ _ (by decide)) (by omega) (Nat.le_of_ble_eq_true rfl) (Nat.zero_le _) (Nat.zero_le _) ?_
    refine f_if_eq (tgt := 32) dX12_lotAt_25 (by decide) (fun c_25 => absurd c_25 (by decide)) (fun c_25 => ?_)
    refine f_iconst (v := 0) dX12_lotAt_28 rfl ?_
    refine f_goto (tgt := 38) dX12_lotAt_29 (by decide) ?_
    refine f_ireturn dX12_lotAt_38 rfl rfl ?_
    exact ⟨by rw [r_X12_lotAt, if_pos c_14], by rw [m_X12_lotAt, if_pos c_14]⟩
  · refine f_iconst (v := 0) dX12_lotAt_17 rfl ?_
    refine f_goto (tgt := 22) dX12_lotAt_18 (by decide) ?_
    refine f_cV hG (As := [_]) dX12_lotAt_22 rfl k_X12_fails rfl rfl ml_X12_63 im_X12_fails se_X12_fails rfl rfl (c_X12_failsF hG (d := 0) (Nat.le_refl _) _ _ _ (by decide)) (by omega) (Nat.le_of_ble_eq_true rfl) (Nat.zero_le _) (Nat.zero_le _) ?_
    refine f_if_eq (tgt := 32) dX12_lotAt_25 (by decide) (fun c_25 => ?_) (fun c_25 => absurd c_25 (by decide))
    refine f_aload_n dX12_lotAt_32 rfl rfl ?_
    refine f_iload_n dX12_lotAt_33 rfl rfl ?_
    refine f_iconst (v := 0) dX12_lotAt_34 rfl ?_
    refine f_cV hG (As := [_, _]) dX12_lotAt_35 rfl k_X12_by rfl rfl ml_X12_107 im_X12_by se_X12_by rfl rfl (c_X12_by hG (d := 0) (Nat.le_refl _) _ _ _ _ (q0 c_14)) (by omega) (Nat.le_of_ble_eq_true rfl) (Nat.zero_le _) (Nat.zero_le _) ?_
    refine f_ireturn dX12_lotAt_38 rfl rfl ?_
    exact ⟨by rw [r_X12_lotAt, if_neg c_14], by rw [m_X12_lotAt, if_neg c_14]⟩

def r_X12_isLost (M : fM) (a : Int32) : Int32 := (if 0 ≤ (r_X12_placeOf M a) then (0 : Int32) else (1 : Int32))
def m_X12_isLost (M : fM) (a : Int32) : fM := (if 0 ≤ (r_X12_placeOf M a) then (fst1 M 296 7 (0 : Int32)) else (fst1 M 296 7 (1 : Int32)))
theorem n_X12_isLost (M : fM) (a : Int32) : narrow .boolean (.int (r_X12_isLost M a)) = .int (r_X12_isLost M a) := by
  unfold r_X12_isLost
  repeat' with_reducible apply n_ite
  all_goals first | rfl | exact pk_nc _
def N_X12_isLost (M : fM) (a : Int32) : Prop := (N_X12_placeOf M a)
set_option maxRecDepth 100000 in
set_option maxHeartbeats 4000000 in
theorem c_X12_isLost {G : fG} (hG : fOK G) {d : Nat} (hd : 2 ≤ d) (M : fM) (dv : UInt64) (a : Int32) (hN : N_X12_isLost M a) : fCt G z_X12_isLost d [.ref 296, .int a] (sS M dv) 0 0 (fD (some (.int (r_X12_isLost M a))) (sS (m_X12_isLost M a) dv)) := by
  refine fCt_to [some (.ref 296), some (.int a)] k_X12_isLost rfl (Nat.le_of_ble_eq_true rfl) rfl ?_
  have q0 : N_X12_placeOf M a := hN
  refine f_aload_n dX12_isLost_0 rfl rfl ?_
  refine f_aload_n dX12_isLost_1 rfl rfl ?_
  refine f_iload_n dX12_isLost_2 rfl rfl ?_
  refine f_cV hG (As := [_]) dX12_isLost_3 rfl k_X12_placeOf rfl rfl ml_X12_113 im_X12_placeOf se_X12_placeOf rfl rfl (c_X12_placeOf hG (d := 1) (Nat.le_refl _) _ _ _ q0) (by omega) (Nat.le_of_ble_eq_true rfl) (Nat.zero_le _) (Nat.zero_le _) ?_
  refine f_if_ge (tgt := 13) dX12_isLost_6 (by decide) (fun c_6 => ?_) (fun c_6 => ?_)
  · refine f_iconst (v := 0) dX12_isLost_13 rfl ?_
    refine f_cV hG (As := [_]) dX12_isLost_14 rfl k_X12_fails rfl rfl ml_X12_63 im_X12_fails se_X12_fails rfl rfl (c_X12_failsF hG (d := 0) (Nat.le_refl _) _ _ _ (by decide)) (by omega) (Nat.le_of_ble_eq_true rfl) (Nat.zero_le _) (Nat.zero_le _) ?_
    refine f_ireturn dX12_isLost_17 rfl rfl ?_
    exact ⟨by rw [r_X12_isLost, if_pos c_6], by rw [m_X12_isLost, if_pos c_6]⟩
  · refine f_iconst (v := 1) dX12_isLost_9 rfl ?_
    refine f_goto (tgt := 14) dX12_isLost_10 (by decide) ?_
    refine f_cV hG (As := [_]) dX12_isLost_14 rfl k_X12_fails rfl rfl ml_X12_63 im_X12_fails se_X12_fails rfl rfl (c_X12_failsT hG (d := 0) (Nat.le_refl _) _ _ _ (by decide)) (by omega) (Nat.le_of_ble_eq_true rfl) (Nat.zero_le _) (Nat.zero_le _) ?_
    refine f_ireturn dX12_isLost_17 rfl rfl ?_
    exact ⟨by rw [r_X12_isLost, if_neg c_6], by rw [m_X12_isLost, if_neg c_6]⟩

def r_X12_jarsOf (M : fM) (a : Int32) : Int32 := (if (r_X12_isLost M a) = 0 then (r_X12_by (m_X12_isLost M a) (r_X12_placeOf (m_X12_isLost M a) a) (1 : Int32)) else (0 : Int32))
def m_X12_jarsOf (M : fM) (a : Int32) : fM := (if (r_X12_isLost M a) = 0 then (m_X12_isLost M a) else (m_X12_isLost M a))
def N_X12_jarsOf (M : fM) (a : Int32) : Prop := (N_X12_isLost M a) ∧ (((r_X12_isLost M a) = 0) → N_X12_placeOf (m_X12_isLost M a) a) ∧ (((r_X12_isLost M a) = 0) → N_X12_by (m_X12_isLost M a) (r_X12_placeOf (m_X12_isLost M a) a) (1 : Int32))
set_option maxRecDepth 100000 in
set_option maxHeartbeats 4000000 in
theorem c_X12_jarsOf {G : fG} (hG : fOK G) {d : Nat} (hd : 3 ≤ d) (M : fM) (dv : UInt64) (a : Int32) (hN : N_X12_jarsOf M a) : fCt G z_X12_jarsOf d [.ref 296, .int a] (sS M dv) 0 0 (fD (some (.int (r_X12_jarsOf M a))) (sS (m_X12_jarsOf M a) dv)) := by
  refine fCt_to [some (.ref 296), some (.int a)] k_X12_jarsOf rfl (Nat.le_of_ble_eq_true rfl) rfl ?_
  obtain ⟨q0, q1, q2⟩ := hN
  refine f_aload_n dX12_jarsOf_0 rfl rfl ?_
  refine f_iload_n dX12_jarsOf_1 rfl rfl ?_
  refine f_cV hG (As := [_]) dX12_jarsOf_2 rfl k_X12_isLost rfl rfl ml_X12_129 im_X12_isLost se_X12_isLost rfl rfl (c_X12_isLost hG (d := 2) (Nat.le_refl _) _ _ _ q0) (by omega) (Nat.le_of_ble_eq_true rfl) (Nat.zero_le _) (Nat.zero_le _) ?_
  refine f_if_eq (tgt := 12) dX12_jarsOf_5 (by decide) (fun c_5 => ?_) (fun c_5 => ?_)
  · refine f_aload_n dX12_jarsOf_12 rfl rfl ?_
    refine f_aload_n dX12_jarsOf_13 rfl rfl ?_
    refine f_iload_n dX12_jarsOf_14 rfl rfl ?_
    refine f_cV hG (As := [_]) dX12_jarsOf_15 rfl k_X12_placeOf rfl rfl ml_X12_113 im_X12_placeOf se_X12_placeOf rfl rfl (c_X12_placeOf hG (d := 1) (Nat.le_refl _) _ _ _ (q1 c_5)) (by omega) (Nat.le_of_ble_eq_true rfl) (Nat.zero_le _) (Nat.zero_le _) ?_
    refine f_iconst (v := 1) dX12_jarsOf_18 rfl ?_
    refine f_cV hG (As := [_, _]) dX12_jarsOf_19 rfl k_X12_by rfl rfl ml_X12_107 im_X12_by se_X12_by rfl rfl (c_X12_by hG (d := 0) (Nat.le_refl _) _ _ _ _ (q2 c_5)) (by omega) (Nat.le_of_ble_eq_true rfl) (Nat.zero_le _) (Nat.zero_le _) ?_
    refine f_ireturn dX12_jarsOf_22 rfl rfl ?_
    exact ⟨by rw [r_X12_jarsOf, if_pos c_5], by rw [m_X12_jarsOf, if_pos c_5]⟩
  · refine f_iconst (v := 0) dX12_jarsOf_8 rfl ?_
    refine f_goto (tgt := 22) dX12_jarsOf_9 (by decide) ?_
    refine f_ireturn dX12_jarsOf_22 rfl rfl ?_
    exact ⟨by rw [r_X12_jarsOf, if_neg c_5], by rw [m_X12_jarsOf, if_neg c_5]⟩

def r_X12_labelOf (M : fM) (a : Int32) : Int32 := (if (r_X12_isLost M a) = 0 then (r_X12_by (m_X12_isLost M a) (r_X12_placeOf (m_X12_isLost M a) a) (2 : Int32)) else (0 : Int32))
def m_X12_labelOf (M : fM) (a : Int32) : fM := (if (r_X12_isLost M a) = 0 then (m_X12_isLost M a) else (m_X12_isLost M a))
def N_X12_labelOf (M : fM) (a : Int32) : Prop := (N_X12_isLost M a) ∧ (((r_X12_isLost M a) = 0) → N_X12_placeOf (m_X12_isLost M a) a) ∧ (((r_X12_isLost M a) = 0) → N_X12_by (m_X12_isLost M a) (r_X12_placeOf (m_X12_isLost M a) a) (2 : Int32))
set_option maxRecDepth 100000 in
set_option maxHeartbeats 4000000 in
theorem c_X12_labelOf {G : fG} (hG : fOK G) {d : Nat} (hd : 3 ≤ d) (M : fM) (dv : UInt64) (a : Int32) (hN : N_X12_labelOf M a) : fCt G z_X12_labelOf d [.ref 296, .int a] (sS M dv) 0 0 (fD (some (.int (r_X12_labelOf M a))) (sS (m_X12_labelOf M a) dv)) := by
  refine fCt_to [some (.ref 296), some (.int a)] k_X12_labelOf rfl (Nat.le_of_ble_eq_true rfl) rfl ?_
  obtain ⟨q0, q1, q2⟩ := hN
  refine f_aload_n dX12_labelOf_0 rfl rfl ?_
  refine f_iload_n dX12_labelOf_1 rfl rfl ?_
  refine f_cV hG (As := [_]) dX12_labelOf_2 rfl k_X12_isLost rfl rfl ml_X12_129 im_X12_isLost se_X12_isLost rfl rfl (c_X12_isLost hG (d := 2) (Nat.le_refl _) _ _ _ q0) (by omega) (Nat.le_of_ble_eq_true rfl) (Nat.zero_le _) (Nat.zero_le _) ?_
  refine f_if_eq (tgt := 12) dX12_labelOf_5 (by decide) (fun c_5 => ?_) (fun c_5 => ?_)
  · refine f_aload_n dX12_labelOf_12 rfl rfl ?_
    refine f_aload_n dX12_labelOf_13 rfl rfl ?_
    refine f_iload_n dX12_labelOf_14 rfl rfl ?_
    refine f_cV hG (As := [_]) dX12_labelOf_15 rfl k_X12_placeOf rfl rfl ml_X12_113 im_X12_placeOf se_X12_placeOf rfl rfl (c_X12_placeOf hG (d := 1) (Nat.le_refl _) _ _ _ (q1 c_5)) (by omega) (Nat.le_of_ble_eq_true rfl) (Nat.zero_le _) (Nat.zero_le _) ?_
    refine f_iconst (v := 2) dX12_labelOf_18 rfl ?_
    refine f_cV hG (As := [_, _]) dX12_labelOf_19 rfl k_X12_by rfl rfl ml_X12_107 im_X12_by se_X12_by rfl rfl (c_X12_by hG (d := 0) (Nat.le_refl _) _ _ _ _ (q2 c_5)) (by omega) (Nat.le_of_ble_eq_true rfl) (Nat.zero_le _) (Nat.zero_le _) ?_
    refine f_ireturn dX12_labelOf_22 rfl rfl ?_
    exact ⟨by rw [r_X12_labelOf, if_pos c_5], by rw [m_X12_labelOf, if_pos c_5]⟩
  · refine f_iconst (v := 0) dX12_labelOf_8 rfl ?_
    refine f_goto (tgt := 22) dX12_labelOf_9 (by decide) ?_
    refine f_ireturn dX12_labelOf_22 rfl rfl ?_
    exact ⟨by rw [r_X12_labelOf, if_neg c_5], by rw [m_X12_labelOf, if_neg c_5]⟩

def r_X12_strengthOfLot (M : fM) (a : Int32) : Int32 := (if (r_X12_isLost M a) = 0 then (r_X12_strong (m_X12_isLost M a) (r_X12_placeOf (m_X12_isLost M a) a)) else (0 : Int32))
def m_X12_strengthOfLot (M : fM) (a : Int32) : fM := (if (r_X12_isLost M a) = 0 then (m_X12_isLost M a) else (m_X12_isLost M a))
def N_X12_strengthOfLot (M : fM) (a : Int32) : Prop := (N_X12_isLost M a) ∧ (((r_X12_isLost M a) = 0) → N_X12_placeOf (m_X12_isLost M a) a) ∧ (((r_X12_isLost M a) = 0) → N_X12_strong (m_X12_isLost M a) (r_X12_placeOf (m_X12_isLost M a) a))
set_option maxRecDepth 100000 in
set_option maxHeartbeats 4000000 in
theorem c_X12_strengthOfLot {G : fG} (hG : fOK G) {d : Nat} (hd : 3 ≤ d) (M : fM) (dv : UInt64) (a : Int32) (hN : N_X12_strengthOfLot M a) : fCt G z_X12_strengthOfLot d [.ref 296, .int a] (sS M dv) 0 0 (fD (some (.int (r_X12_strengthOfLot M a))) (sS (m_X12_strengthOfLot M a) dv)) := by
  refine fCt_to [some (.ref 296), some (.int a)] k_X12_strengthOfLot rfl (Nat.le_of_ble_eq_true rfl) rfl ?_
  obtain ⟨q0, q1, q2⟩ := hN
  refine f_aload_n dX12_strengthOfLot_0 rfl rfl ?_
  refine f_iload_n dX12_strengthOfLot_1 rfl rfl ?_
  refine f_cV hG (As := [_]) dX12_strengthOfLot_2 rfl k_X12_isLost rfl rfl ml_X12_129 im_X12_isLost se_X12_isLost rfl rfl (c_X12_isLost hG (d := 2) (Nat.le_refl _) _ _ _ q0) (by omega) (Nat.le_of_ble_eq_true rfl) (Nat.zero_le _) (Nat.zero_le _) ?_
  refine f_if_eq (tgt := 12) dX12_strengthOfLot_5 (by decide) (fun c_5 => ?_) (fun c_5 => ?_)
  · refine f_aload_n dX12_strengthOfLot_12 rfl rfl ?_
    refine f_aload_n dX12_strengthOfLot_13 rfl rfl ?_
    refine f_iload_n dX12_strengthOfLot_14 rfl rfl ?_
    refine f_cV hG (As := [_]) dX12_strengthOfLot_15 rfl k_X12_placeOf rfl rfl ml_X12_113 im_X12_placeOf se_X12_placeOf rfl rfl (c_X12_placeOf hG (d := 1) (Nat.le_refl _) _ _ _ (q1 c_5)) (by omega) (Nat.le_of_ble_eq_true rfl) (Nat.zero_le _) (Nat.zero_le _) ?_
    refine f_cV hG (As := [_]) dX12_strengthOfLot_18 rfl k_X12_strong rfl rfl ml_X12_110 im_X12_strong se_X12_strong rfl rfl (c_X12_strong hG (d := 1) (Nat.le_refl _) _ _ _ (q2 c_5)) (by omega) (Nat.le_of_ble_eq_true rfl) (Nat.zero_le _) (Nat.zero_le _) ?_
    refine f_ireturn dX12_strengthOfLot_21 rfl rfl ?_
    exact ⟨by rw [r_X12_strengthOfLot, if_pos c_5], by rw [m_X12_strengthOfLot, if_pos c_5]⟩
  · refine f_iconst (v := 0) dX12_strengthOfLot_8 rfl ?_
    refine f_goto (tgt := 21) dX12_strengthOfLot_9 (by decide) ?_
    refine f_ireturn dX12_strengthOfLot_21 rfl rfl ?_
    exact ⟨by rw [r_X12_strengthOfLot, if_neg c_5], by rw [m_X12_strengthOfLot, if_neg c_5]⟩

def r_X12_pressureOf (M : fM) (a : Int32) : Int32 := (if (r_X12_isLost M a) = 0 then (r_X12_by (m_X12_isLost M a) (r_X12_placeOf (m_X12_isLost M a) a) (5 : Int32)) else (0 : Int32))
def m_X12_pressureOf (M : fM) (a : Int32) : fM := (if (r_X12_isLost M a) = 0 then (m_X12_isLost M a) else (m_X12_isLost M a))
def N_X12_pressureOf (M : fM) (a : Int32) : Prop := (N_X12_isLost M a) ∧ (((r_X12_isLost M a) = 0) → N_X12_placeOf (m_X12_isLost M a) a) ∧ (((r_X12_isLost M a) = 0) → N_X12_by (m_X12_isLost M a) (r_X12_placeOf (m_X12_isLost M a) a) (5 : Int32))
set_option maxRecDepth 100000 in
set_option maxHeartbeats 4000000 in
theorem c_X12_pressureOf {G : fG} (hG : fOK G) {d : Nat} (hd : 3 ≤ d) (M : fM) (dv : UInt64) (a : Int32) (hN : N_X12_pressureOf M a) : fCt G z_X12_pressureOf d [.ref 296, .int a] (sS M dv) 0 0 (fD (some (.int (r_X12_pressureOf M a))) (sS (m_X12_pressureOf M a) dv)) := by
  refine fCt_to [some (.ref 296), some (.int a)] k_X12_pressureOf rfl (Nat.le_of_ble_eq_true rfl) rfl ?_
  obtain ⟨q0, q1, q2⟩ := hN
  refine f_aload_n dX12_pressureOf_0 rfl rfl ?_
  refine f_iload_n dX12_pressureOf_1 rfl rfl ?_
  refine f_cV hG (As := [_]) dX12_pressureOf_2 rfl k_X12_isLost rfl rfl ml_X12_129 im_X12_isLost se_X12_isLost rfl rfl (c_X12_isLost hG (d := 2) (Nat.le_refl _) _ _ _ q0) (by omega) (Nat.le_of_ble_eq_true rfl) (Nat.zero_le _) (Nat.zero_le _) ?_
  refine f_if_eq (tgt := 12) dX12_pressureOf_5 (by decide) (fun c_5 => ?_) (fun c_5 => ?_)
  · refine f_aload_n dX12_pressureOf_12 rfl rfl ?_
    refine f_aload_n dX12_pressureOf_13 rfl rfl ?_
    refine f_iload_n dX12_pressureOf_14 rfl rfl ?_
    refine f_cV hG (As := [_]) dX12_pressureOf_15 rfl k_X12_placeOf rfl rfl ml_X12_113 im_X12_placeOf se_X12_placeOf rfl rfl (c_X12_placeOf hG (d := 1) (Nat.le_refl _) _ _ _ (q1 c_5)) (by omega) (Nat.le_of_ble_eq_true rfl) (Nat.zero_le _) (Nat.zero_le _) ?_
    refine f_iconst (v := 5) dX12_pressureOf_18 rfl ?_
    refine f_cV hG (As := [_, _]) dX12_pressureOf_19 rfl k_X12_by rfl rfl ml_X12_107 im_X12_by se_X12_by rfl rfl (c_X12_by hG (d := 0) (Nat.le_refl _) _ _ _ _ (q2 c_5)) (by omega) (Nat.le_of_ble_eq_true rfl) (Nat.zero_le _) (Nat.zero_le _) ?_
    refine f_ireturn dX12_pressureOf_22 rfl rfl ?_
    exact ⟨by rw [r_X12_pressureOf, if_pos c_5], by rw [m_X12_pressureOf, if_pos c_5]⟩
  · refine f_iconst (v := 0) dX12_pressureOf_8 rfl ?_
    refine f_goto (tgt := 22) dX12_pressureOf_9 (by decide) ?_
    refine f_ireturn dX12_pressureOf_22 rfl rfl ?_
    exact ⟨by rw [r_X12_pressureOf, if_neg c_5], by rw [m_X12_pressureOf, if_neg c_5]⟩

def r_X12_lotContains (M : fM) (a : Int32) (b : Int32) : Int32 := (if 0 ≤ (r_X12_placeOf M a) then (if (r_X12_isRaw M b) = 0 then (0 : Int32) else (if (((r_X12_inside (fst1 M 296 7 (0 : Int32)) (r_X12_placeOf (fst1 M 296 7 (0 : Int32)) a)) >>> (b &&& 31)) &&& (1 : Int32)) = (1 : Int32) then (1 : Int32) else (0 : Int32))) else (0 : Int32))
def m_X12_lotContains (M : fM) (a : Int32) (b : Int32) : fM := (if 0 ≤ (r_X12_placeOf M a) then (if (r_X12_isRaw M b) = 0 then (fst1 M 296 7 (2 : Int32)) else (if (((r_X12_inside (fst1 M 296 7 (0 : Int32)) (r_X12_placeOf (fst1 M 296 7 (0 : Int32)) a)) >>> (b &&& 31)) &&& (1 : Int32)) = (1 : Int32) then (fst1 M 296 7 (0 : Int32)) else (fst1 M 296 7 (0 : Int32)))) else (fst1 M 296 7 (1 : Int32)))
theorem n_X12_lotContains (M : fM) (a : Int32) (b : Int32) : narrow .boolean (.int (r_X12_lotContains M a b)) = .int (r_X12_lotContains M a b) := by
  unfold r_X12_lotContains
  repeat' with_reducible apply n_ite
  all_goals first | rfl | exact pk_nc _
def N_X12_lotContains (M : fM) (a : Int32) (b : Int32) : Prop := (N_X12_placeOf M a) ∧ ((0 ≤ (r_X12_placeOf M a)) → ¬ ((r_X12_isRaw M b) = 0) → N_X12_placeOf (fst1 M 296 7 (0 : Int32)) a) ∧ ((0 ≤ (r_X12_placeOf M a)) → ¬ ((r_X12_isRaw M b) = 0) → N_X12_inside (fst1 M 296 7 (0 : Int32)) (r_X12_placeOf (fst1 M 296 7 (0 : Int32)) a))
set_option maxRecDepth 100000 in
set_option maxHeartbeats 4000000 in
theorem c_X12_lotContains {G : fG} (hG : fOK G) {d : Nat} (hd : 2 ≤ d) (M : fM) (dv : UInt64) (a : Int32) (b : Int32) (hN : N_X12_lotContains M a b) : fCt G z_X12_lotContains d [.ref 296, .int a, .int b] (sS M dv) 0 0 (fD (some (.int (r_X12_lotContains M a b))) (sS (m_X12_lotContains M a b) dv)) := by
  refine fCt_to [some (.ref 296), some (.int a), some (.int b)] k_X12_lotContains rfl (Nat.le_of_ble_eq_true rfl) rfl ?_
  obtain ⟨q0, q1, q2⟩ := hN
  refine f_aload_n dX12_lotContains_0 rfl rfl ?_
  refine f_aload_n dX12_lotContains_1 rfl rfl ?_
  refine f_iload_n dX12_lotContains_2 rfl rfl ?_
  refine f_cV hG (As := [_]) dX12_lotContains_3 rfl k_X12_placeOf rfl rfl ml_X12_113 im_X12_placeOf se_X12_placeOf rfl rfl (c_X12_placeOf hG (d := 1) (Nat.le_refl _) _ _ _ q0) (by omega) (Nat.le_of_ble_eq_true rfl) (Nat.zero_le _) (Nat.zero_le _) ?_
  refine f_if_ge (tgt := 13) dX12_lotContains_6 (by decide) (fun c_6 => ?_) (fun c_6 => ?_)
  · refine f_aload_n dX12_lotContains_13 rfl rfl ?_
    refine f_iload_n dX12_lotContains_14 rfl rfl ?_
    refine f_cV hG (As := [_]) dX12_lotContains_15 rfl k_X12_isRaw rfl rfl ml_X12_71 im_X12_isRaw se_X12_isRaw rfl rfl (c_X12_isRaw hG (d := 1) (Nat.le_refl _) _ _ _) (by omega) (Nat.le_of_ble_eq_true rfl) (Nat.zero_le _) (Nat.zero_le _) ?_
    refine f_if_eq (tgt := 25) dX12_lotContains_18 (by decide) (fun c_18 => ?_) (fun c_18 => ?_)
    · refine f_iconst (v := 2) dX12_lotContains_25 rfl ?_
      refine f_cV hG (As := [_]) dX12_lotContains_26 rfl k_X12_fails rfl rfl ml_X12_63 im_X12_fails se_X12_fails rfl rfl (c_X12_failsT hG (d := 0) (Nat.le_refl _) _ _ _ (by decide)) (by omega) (Nat.le_of_ble_eq_true rfl) (Nat.zero_le _) (Nat.zero_le _) ?_
      refine f_if_ne (tgt := 53) dX12_lotContains_29 (by decide) (fun c_29 => ?_) (fun c_29 => absurd c_29 (by decide))
      refine f_iconst (v := 0) dX12_lotContains_53 rfl ?_
      refine f_ireturn dX12_lotContains_54 rfl rfl ?_
      exact ⟨by rw [r_X12_lotContains, if_pos c_6, if_pos c_18], by rw [m_X12_lotContains, if_pos c_6, if_pos c_18]⟩
    · refine f_iconst (v := 0) dX12_lotContains_21 rfl ?_
      refine f_goto (tgt := 26) dX12_lotContains_22 (by decide) ?_
      refine f_cV hG (As := [_]) dX12_lotContains_26 rfl k_X12_fails rfl rfl ml_X12_63 im_X12_fails se_X12_fails rfl rfl (c_X12_failsF hG (d := 0) (Nat.le_refl _) _ _ _ (by decide)) (by omega) (Nat.le_of_ble_eq_true rfl) (Nat.zero_le _) (Nat.zero_le _) ?_
      refine f_if_ne (tgt := 53) dX12_lotContains_29 (by decide) (fun c_29 => absurd c_29 (by decide)) (fun c_29 => ?_)
      refine f_aload_n dX12_lotContains_32 rfl rfl ?_
      refine f_aload_n dX12_lotContains_33 rfl rfl ?_
      refine f_iload_n dX12_lotContains_34 rfl rfl ?_
      refine f_cV hG (As := [_]) dX12_lotContains_35 rfl k_X12_placeOf rfl rfl ml_X12_113 im_X12_placeOf se_X12_placeOf rfl rfl (c_X12_placeOf hG (d := 1) (Nat.le_refl _) _ _ _ (q1 c_6 c_18)) (by omega) (Nat.le_of_ble_eq_true rfl) (Nat.zero_le _) (Nat.zero_le _) ?_
      refine f_cV hG (As := [_]) dX12_lotContains_38 rfl k_X12_inside rfl rfl ml_X12_126 im_X12_inside se_X12_inside rfl rfl (c_X12_inside hG (d := 1) (Nat.le_refl _) _ _ _ (q2 c_6 c_18)) (by omega) (Nat.le_of_ble_eq_true rfl) (Nat.zero_le _) (Nat.zero_le _) ?_
      refine f_iload_n dX12_lotContains_41 rfl rfl ?_
      refine f_ishr dX12_lotContains_42 ?_
      refine f_iconst (v := 1) dX12_lotContains_43 rfl ?_
      refine f_iand dX12_lotContains_44 ?_
      refine f_iconst (v := 1) dX12_lotContains_45 rfl ?_
      refine f_icmp_ne (tgt := 53) dX12_lotContains_46 (by decide) (fun c_46 => ?_) (fun c_46 => ?_)
      · refine f_iconst (v := 0) dX12_lotContains_53 rfl ?_
        refine f_ireturn dX12_lotContains_54 rfl rfl ?_
        exact ⟨by rw [r_X12_lotContains, if_pos c_6, if_neg c_18, if_neg c_46], by rw [m_X12_lotContains, if_pos c_6, if_neg c_18, if_neg c_46]⟩
      · refine f_iconst (v := 1) dX12_lotContains_49 rfl ?_
        refine f_goto (tgt := 54) dX12_lotContains_50 (by decide) ?_
        refine f_ireturn dX12_lotContains_54 rfl rfl ?_
        exact ⟨by rw [r_X12_lotContains, if_pos c_6, if_neg c_18, if_pos c_46], by rw [m_X12_lotContains, if_pos c_6, if_neg c_18, if_pos c_46]⟩
  · refine f_iconst (v := 1) dX12_lotContains_9 rfl ?_
    refine f_goto (tgt := 26) dX12_lotContains_10 (by decide) ?_
    refine f_cV hG (As := [_]) dX12_lotContains_26 rfl k_X12_fails rfl rfl ml_X12_63 im_X12_fails se_X12_fails rfl rfl (c_X12_failsT hG (d := 0) (Nat.le_refl _) _ _ _ (by decide)) (by omega) (Nat.le_of_ble_eq_true rfl) (Nat.zero_le _) (Nat.zero_le _) ?_
    refine f_if_ne (tgt := 53) dX12_lotContains_29 (by decide) (fun c_29 => ?_) (fun c_29 => absurd c_29 (by decide))
    refine f_iconst (v := 0) dX12_lotContains_53 rfl ?_
    refine f_ireturn dX12_lotContains_54 rfl rfl ?_
    exact ⟨by rw [r_X12_lotContains, if_neg c_6], by rw [m_X12_lotContains, if_neg c_6]⟩

def l_X12_toPopL (a : Int32) (pv : Int32) (M : fM) : Nat → Nat → Int32 → Int32 → Int32 × Int32
  | 0, _, v3, v4 => (v3, v4)
  | m + 1, j, v3, v4 => (if (60 : Int32) ≤ v4 then (v3, v4) else (l_X12_toPopL a pv M m (j + 1) (v3 + 1) (v4 + (r_X12_grows M pv))))
set_option maxRecDepth 100000 in
set_option maxHeartbeats 4000000 in
theorem lc_X12_toPopL {G : fG} (hG : fOK G) {d : Nat} (hd : 3 ≤ d) (M : fM) (dv : UInt64) (a : Int32) (pv : Int32) (q0 : ∀ (j : Nat) (v3 : Int32) (v4 : Int32), j ≤ 60 → ¬ ((60 : Int32) ≤ v4) → j < 60) (q1 : ∀ (j : Nat) (v3 : Int32) (v4 : Int32), j ≤ 60 → ¬ ((60 : Int32) ≤ v4) → N_X12_grows M pv) {Q : fR → fS → Prop} {kc ks : Nat} : ∀ (m j : Nat) (v3 : Int32) (v4 : Int32), j ≤ 60 → 60 + 1 ≤ j + m → fV G z_X12_toPop d Q 49 [some (.ref 296), some (.int a), some (.int pv), some (.int ((l_X12_toPopL a pv M m j v3 v4).1)), some (.int ((l_X12_toPopL a pv M m j v3 v4).2))] [] (sS M dv) kc ks → fV G z_X12_toPop d Q 26 [some (.ref 296), some (.int a), some (.int pv), some (.int v3), some (.int v4)] [] (sS M dv) kc ks := by
  intro m
  induction m with
  | zero => intros; omega
  | succ m ih =>
    intro j v3 v4 hj hm kk
    refine f_iload dX12_toPop_26 rfl ?_
    refine f_bipush (v := 60) dX12_toPop_28 (by decide) ?_
    refine f_icmp_ge (tgt := 49) dX12_toPop_30 (by decide) (fun c_30 => ?_) (fun c_30 => ?_)
    · have e9 : l_X12_toPopL a pv M (m + 1) j v3 v4 = (v3, v4) := by rw [l_X12_toPopL, if_pos c_30]
      rw [e9] at kk
      exact kk
    · have hlt : j < 60 := (q0 j v3 v4 hj c_30)
      refine f_iinc (v := v3 + 1) (ls' := [_, _, _, _, _]) dX12_toPop_33 rfl rfl (Nat.le_of_ble_eq_true rfl) rfl rfl ?_
      refine f_iload dX12_toPop_36 rfl ?_
      refine f_aload_n dX12_toPop_38 rfl rfl ?_
      refine f_iload_n dX12_toPop_39 rfl rfl ?_
      refine f_cV hG (As := [_]) dX12_toPop_40 rfl k_X12_grows rfl rfl ml_X12_119 im_X12_grows se_X12_grows rfl rfl (c_X12_grows hG (d := 2) (Nat.le_refl _) _ _ _ (q1 j v3 v4 hj c_30)) (by omega) (Nat.le_of_ble_eq_true rfl) (Nat.zero_le _) (Nat.zero_le _) ?_
      refine f_iadd dX12_toPop_43 ?_
      refine f_istore (ls' := [_, _, _, _, _]) dX12_toPop_44 (Nat.le_of_ble_eq_true rfl) rfl rfl ?_
      refine f_goto (tgt := 26) dX12_toPop_46 (by decide) ?_
      have e9 : l_X12_toPopL a pv M (m + 1) j v3 v4 = l_X12_toPopL a pv M m (j + 1) (v3 + 1) (v4 + (r_X12_grows M pv)) := by rw [l_X12_toPopL, if_neg c_30]
      exact ih (j + 1) (v3 + 1) (v4 + (r_X12_grows M pv)) (by omega) (by omega) (by rw [e9] at kk; exact kk)

def r_X12_toPop (M : fM) (a : Int32) : Int32 := (if (r_X12_isLost M a) = 0 then (l_X12_toPopL a (r_X12_placeOf (m_X12_isLost M a) a) (m_X12_isLost M a) 61 0 (0 : Int32) (r_X12_by (m_X12_isLost M a) (r_X12_placeOf (m_X12_isLost M a) a) (5 : Int32))).1 else (0 : Int32))
def m_X12_toPop (M : fM) (a : Int32) : fM := (if (r_X12_isLost M a) = 0 then (m_X12_isLost M a) else (m_X12_isLost M a))
def N_X12_toPop (M : fM) (a : Int32) : Prop := (N_X12_isLost M a) ∧ (((r_X12_isLost M a) = 0) → N_X12_placeOf (m_X12_isLost M a) a) ∧ (((r_X12_isLost M a) = 0) → N_X12_by (m_X12_isLost M a) (r_X12_placeOf (m_X12_isLost M a) a) (5 : Int32)) ∧ (((r_X12_isLost M a) = 0) → ∀ (j_191 : Nat) (v3_191 : Int32) (v4_191 : Int32), j_191 ≤ 60 → ¬ ((60 : Int32) ≤ v4_191) → j_191 < 60) ∧ (((r_X12_isLost M a) = 0) → ∀ (j_192 : Nat) (v3_192 : Int32) (v4_192 : Int32), j_192 ≤ 60 → ¬ ((60 : Int32) ≤ v4_192) → N_X12_grows (m_X12_isLost M a) (r_X12_placeOf (m_X12_isLost M a) a))
set_option maxRecDepth 100000 in
set_option maxHeartbeats 4000000 in
theorem c_X12_toPop {G : fG} (hG : fOK G) {d : Nat} (hd : 3 ≤ d) (M : fM) (dv : UInt64) (a : Int32) (hN : N_X12_toPop M a) : fCt G z_X12_toPop d [.ref 296, .int a] (sS M dv) 0 0 (fD (some (.int (r_X12_toPop M a))) (sS (m_X12_toPop M a) dv)) := by
  refine fCt_to [some (.ref 296), some (.int a), none, none, none] k_X12_toPop rfl (Nat.le_of_ble_eq_true rfl) rfl ?_
  obtain ⟨q0, q1, q2, q3, q4⟩ := hN
  refine f_aload_n dX12_toPop_0 rfl rfl ?_
  refine f_iload_n dX12_toPop_1 rfl rfl ?_
  refine f_cV hG (As := [_]) dX12_toPop_2 rfl k_X12_isLost rfl rfl ml_X12_129 im_X12_isLost se_X12_isLost rfl rfl (c_X12_isLost hG (d := 2) (Nat.le_refl _) _ _ _ q0) (by omega) (Nat.le_of_ble_eq_true rfl) (Nat.zero_le _) (Nat.zero_le _) ?_
  refine f_if_eq (tgt := 10) dX12_toPop_5 (by decide) (fun c_5 => ?_) (fun c_5 => ?_)
  · refine f_aload_n dX12_toPop_10 rfl rfl ?_
    refine f_iload_n dX12_toPop_11 rfl rfl ?_
    refine f_cV hG (As := [_]) dX12_toPop_12 rfl k_X12_placeOf rfl rfl ml_X12_113 im_X12_placeOf se_X12_placeOf rfl rfl (c_X12_placeOf hG (d := 1) (Nat.le_refl _) _ _ _ (q1 c_5)) (by omega) (Nat.le_of_ble_eq_true rfl) (Nat.zero_le _) (Nat.zero_le _) ?_
    refine f_istore_n (ls' := [_, _, _, _, _]) dX12_toPop_15 rfl (Nat.le_of_ble_eq_true rfl) rfl rfl ?_
    refine f_iconst (v := 0) dX12_toPop_16 rfl ?_
    refine f_istore_n (ls' := [_, _, _, _, _]) dX12_toPop_17 rfl (Nat.le_of_ble_eq_true rfl) rfl rfl ?_
    refine f_aload_n dX12_toPop_18 rfl rfl ?_
    refine f_iload_n dX12_toPop_19 rfl rfl ?_
    refine f_iconst (v := 5) dX12_toPop_20 rfl ?_
    refine f_cV hG (As := [_, _]) dX12_toPop_21 rfl k_X12_by rfl rfl ml_X12_107 im_X12_by se_X12_by rfl rfl (c_X12_by hG (d := 0) (Nat.le_refl _) _ _ _ _ (q2 c_5)) (by omega) (Nat.le_of_ble_eq_true rfl) (Nat.zero_le _) (Nat.zero_le _) ?_
    refine f_istore (ls' := [_, _, _, _, _]) dX12_toPop_24 (Nat.le_of_ble_eq_true rfl) rfl rfl ?_
    refine lc_X12_toPopL hG (by omega) _ dv _ _ (q3 c_5) (q4 c_5) 61 0 _ _ (by omega) (by omega) ?_
    refine f_iload_n dX12_toPop_49 rfl rfl ?_
    refine f_ireturn dX12_toPop_50 rfl rfl ?_
    exact ⟨by rw [r_X12_toPop, if_pos c_5], by rw [m_X12_toPop, if_pos c_5]⟩
  · refine f_iconst (v := 0) dX12_toPop_8 rfl ?_
    refine f_ireturn dX12_toPop_9 rfl rfl ?_
    exact ⟨by rw [r_X12_toPop, if_neg c_5], by rw [m_X12_toPop, if_neg c_5]⟩

def r_X12_daysUntilPop (M : fM) (a : Int32) : Int32 := (r_X12_toPop M a)
def m_X12_daysUntilPop (M : fM) (a : Int32) : fM := (m_X12_toPop M a)
def N_X12_daysUntilPop (M : fM) (a : Int32) : Prop := (N_X12_toPop M a)
set_option maxRecDepth 100000 in
set_option maxHeartbeats 4000000 in
theorem c_X12_daysUntilPop {G : fG} (hG : fOK G) {d : Nat} (hd : 4 ≤ d) (M : fM) (dv : UInt64) (a : Int32) (hN : N_X12_daysUntilPop M a) : fCt G z_X12_daysUntilPop d [.ref 296, .int a] (sS M dv) 0 0 (fD (some (.int (r_X12_daysUntilPop M a))) (sS (m_X12_daysUntilPop M a) dv)) := by
  refine fCt_to [some (.ref 296), some (.int a)] k_X12_daysUntilPop rfl (Nat.le_of_ble_eq_true rfl) rfl ?_
  have q0 : N_X12_toPop M a := hN
  refine f_aload_n dX12_daysUntilPop_0 rfl rfl ?_
  refine f_iload_n dX12_daysUntilPop_1 rfl rfl ?_
  refine f_cV hG (As := [_]) dX12_daysUntilPop_2 rfl k_X12_toPop rfl rfl ml_X12_132 im_X12_toPop se_X12_toPop rfl rfl (c_X12_toPop hG (d := 3) (Nat.le_refl _) _ _ _ q0) (by omega) (Nat.le_of_ble_eq_true rfl) (Nat.zero_le _) (Nat.zero_le _) ?_
  refine f_ireturn dX12_daysUntilPop_5 rfl rfl ?_
  exact ⟨by rw [r_X12_daysUntilPop], by rw [m_X12_daysUntilPop]⟩

def r_X12_daysByDivision (M : fM) (a : Int32) : Int32 := (r_X12_toPop M a)
def m_X12_daysByDivision (M : fM) (a : Int32) : fM := (m_X12_toPop M a)
def N_X12_daysByDivision (M : fM) (a : Int32) : Prop := (N_X12_toPop M a)
set_option maxRecDepth 100000 in
set_option maxHeartbeats 4000000 in
theorem c_X12_daysByDivision {G : fG} (hG : fOK G) {d : Nat} (hd : 4 ≤ d) (M : fM) (dv : UInt64) (a : Int32) (hN : N_X12_daysByDivision M a) : fCt G z_X12_daysByDivision d [.ref 296, .int a] (sS M dv) 0 0 (fD (some (.int (r_X12_daysByDivision M a))) (sS (m_X12_daysByDivision M a) dv)) := by
  refine fCt_to [some (.ref 296), some (.int a)] k_X12_daysByDivision rfl (Nat.le_of_ble_eq_true rfl) rfl ?_
  have q0 : N_X12_toPop M a := hN
  refine f_aload_n dX12_daysByDivision_0 rfl rfl ?_
  refine f_iload_n dX12_daysByDivision_1 rfl rfl ?_
  refine f_cV hG (As := [_]) dX12_daysByDivision_2 rfl k_X12_toPop rfl rfl ml_X12_132 im_X12_toPop se_X12_toPop rfl rfl (c_X12_toPop hG (d := 3) (Nat.le_refl _) _ _ _ q0) (by omega) (Nat.le_of_ble_eq_true rfl) (Nat.zero_le _) (Nat.zero_le _) ?_
  refine f_ireturn dX12_daysByDivision_5 rfl rfl ?_
  exact ⟨by rw [r_X12_daysByDivision], by rw [m_X12_daysByDivision]⟩

def l_X12_lotByPressureI (a : Int32) (kv : Int32) (M : fM) : Nat → Nat → Int32 → Int32
  | 0, _, v3 => v3
  | m + 1, j, v3 => (if (M 297 ((3 : Int32)).toNatClampNeg) ≤ (nI j) then v3 else (if (r_X12_by M kv (5 : Int32)) < (r_X12_by M (nI j) (5 : Int32)) then (l_X12_lotByPressureI a kv M m (j + 1) (v3 + (1 : Int32))) else (if (r_X12_by M (nI j) (5 : Int32)) = (r_X12_by M kv (5 : Int32)) then (if kv ≤ (nI j) then (l_X12_lotByPressureI a kv M m (j + 1) (v3 + (0 : Int32))) else (l_X12_lotByPressureI a kv M m (j + 1) (v3 + (1 : Int32)))) else (l_X12_lotByPressureI a kv M m (j + 1) (v3 + (0 : Int32))))))
set_option maxRecDepth 100000 in
set_option maxHeartbeats 4000000 in
theorem lc_X12_lotByPressureI {G : fG} (hG : fOK G) {d : Nat} (hd : 1 ≤ d) (M : fM) (dv : UInt64) (a : Int32) (kv : Int32) (q0 : ∀ (j : Nat) (v3 : Int32), j ≤ 8 → ¬ ((M 297 ((3 : Int32)).toNatClampNeg) ≤ (nI j)) → j < 8) (q1 : ∀ (j : Nat) (v3 : Int32), j ≤ 8 → ¬ ((M 297 ((3 : Int32)).toNatClampNeg) ≤ (nI j)) → N_X12_by M (nI j) (5 : Int32)) (q2 : ∀ (j : Nat) (v3 : Int32), j ≤ 8 → ¬ ((M 297 ((3 : Int32)).toNatClampNeg) ≤ (nI j)) → N_X12_by M kv (5 : Int32)) (q3 : ∀ (j : Nat) (v3 : Int32), j ≤ 8 → ¬ ((M 297 ((3 : Int32)).toNatClampNeg) ≤ (nI j)) → ¬ ((r_X12_by M kv (5 : Int32)) < (r_X12_by M (nI j) (5 : Int32))) → N_X12_by M (nI j) (5 : Int32)) (q4 : ∀ (j : Nat) (v3 : Int32), j ≤ 8 → ¬ ((M 297 ((3 : Int32)).toNatClampNeg) ≤ (nI j)) → ¬ ((r_X12_by M kv (5 : Int32)) < (r_X12_by M (nI j) (5 : Int32))) → N_X12_by M kv (5 : Int32)) {Q : fR → fS → Prop} {kc ks : Nat} : ∀ (m j : Nat) (v3 : Int32), j ≤ 8 → 8 + 1 ≤ j + m → fV G z_X12_lotByPressure d Q 80 [some (.ref 296), some (.int a), some (.int kv), some (.int (l_X12_lotByPressureI a kv M m j v3)), none] [] (sS M dv) kc ks → fV G z_X12_lotByPressure d Q 17 [some (.ref 296), some (.int a), some (.int kv), some (.int v3), some (.int (nI j))] [] (sS M dv) kc ks := by
  intro m
  induction m with
  | zero => intros; omega
  | succ m ih =>
    intro j v3 hj hm kk
    refine f_iload dX12_lotByPressure_17 rfl ?_
    refine f_aload_n dX12_lotByPressure_19 rfl rfl ?_
    refine s_getr hG fl_X12_7 dX12_lotByPressure_20 rfl rfl ?_
    refine f_iconst (v := 3) dX12_lotByPressure_23 rfl ?_
    refine s_iaload hG dX12_lotByPressure_24 rfl ((show ¬ ((3 : Int32) < 0 ∨ 127 ≤ (3 : Int32).toNatClampNeg) by decide)) ?_
    refine f_icmp_ge (tgt := 80) dX12_lotByPressure_25 (by decide) (fun c_25 => ?_) (fun c_25 => ?_)
    · have e9 : l_X12_lotByPressureI a kv M (m + 1) j v3 = v3 := by rw [l_X12_lotByPressureI, if_pos c_25]
      rw [e9] at kk
      refine f_drop 4 ?_
      exact kk
    · have hlt : j < 8 := (q0 j v3 hj c_25)
      refine f_iload_n dX12_lotByPressure_28 rfl rfl ?_
      refine f_aload_n dX12_lotByPressure_29 rfl rfl ?_
      refine f_iload dX12_lotByPressure_30 rfl ?_
      refine f_iconst (v := 5) dX12_lotByPressure_32 rfl ?_
      refine f_cV hG (As := [_, _]) dX12_lotByPressure_33 rfl k_X12_by rfl rfl ml_X12_107 im_X12_by se_X12_by rfl rfl (c_X12_by hG (d := 0) (Nat.le_refl _) _ _ _ _ (q1 j v3 hj c_25)) (by omega) (Nat.le_of_ble_eq_true rfl) (Nat.zero_le _) (Nat.zero_le _) ?_
      refine f_aload_n dX12_lotByPressure_36 rfl rfl ?_
      refine f_iload_n dX12_lotByPressure_37 rfl rfl ?_
      refine f_iconst (v := 5) dX12_lotByPressure_38 rfl ?_
      refine f_cV hG (As := [_, _]) dX12_lotByPressure_39 rfl k_X12_by rfl rfl ml_X12_107 im_X12_by se_X12_by rfl rfl (c_X12_by hG (d := 0) (Nat.le_refl _) _ _ _ _ (q2 j v3 hj c_25)) (by omega) (Nat.le_of_ble_eq_true rfl) (Nat.zero_le _) (Nat.zero_le _) ?_
      refine f_icmp_gt (tgt := 67) dX12_lotByPressure_42 (by decide) (fun c_42 => ?_) (fun c_42 => ?_)
      · refine f_iconst (v := 1) dX12_lotByPressure_67 rfl ?_
        refine f_goto (tgt := 72) dX12_lotByPressure_68 (by decide) ?_
        refine f_iadd dX12_lotByPressure_72 ?_
        refine f_istore_n (ls' := [_, _, _, _, _]) dX12_lotByPressure_73 rfl (Nat.le_of_ble_eq_true rfl) rfl rfl ?_
        refine f_iinc (v := nI (j + 1)) (ls' := [_, _, _, _, _]) dX12_lotByPressure_74 rfl (nI_1 j) (Nat.le_of_ble_eq_true rfl) rfl rfl ?_
        refine f_goto (tgt := 17) dX12_lotByPressure_77 (by decide) ?_
        have e9 : l_X12_lotByPressureI a kv M (m + 1) j v3 = l_X12_lotByPressureI a kv M m (j + 1) (v3 + (1 : Int32)) := by rw [l_X12_lotByPressureI, if_neg c_25, if_pos c_42]
        exact ih (j + 1) (v3 + (1 : Int32)) (by omega) (by omega) (by rw [e9] at kk; exact kk)
      · refine f_aload_n dX12_lotByPressure_45 rfl rfl ?_
        refine f_iload dX12_lotByPressure_46 rfl ?_
        refine f_iconst (v := 5) dX12_lotByPressure_48 rfl ?_
        refine f_cV hG (As := [_, _]) dX12_lotByPressure_49 rfl k_X12_by rfl rfl ml_X12_107 im_X12_by se_X12_by rfl rfl (c_X12_by hG (d := 0) (Nat.le_refl _) _ _ _ _ (q3 j v3 hj c_25 c_42)) (by omega) (Nat.le_of_ble_eq_true rfl) (Nat.zero_le _) (Nat.zero_le _) ?_
        refine f_aload_n dX12_lotByPressure_52 rfl rfl ?_
        refine f_iload_n dX12_lotByPressure_53 rfl rfl ?_
        refine f_iconst (v := 5) dX12_lotByPressure_54 rfl ?_
        refine f_cV hG (As := [_, _]) dX12_lotByPressure_55 rfl k_X12_by rfl rfl ml_X12_107 im_X12_by se_X12_by rfl rfl (c_X12_by hG (d := 0) (Nat.le_refl _) _ _ _ _ (q4 j v3 hj c_25 c_42)) (by omega) (Nat.le_of_ble_eq_true rfl) (Nat.zero_le _) (Nat.zero_le _) ?_
        refine f_icmp_ne (tgt := 71) dX12_lotByPressure_58 (by decide) (fun c_58 => ?_) (fun c_58 => ?_)
        · refine f_iconst (v := 0) dX12_lotByPressure_71 rfl ?_
          refine f_iadd dX12_lotByPressure_72 ?_
          refine f_istore_n (ls' := [_, _, _, _, _]) dX12_lotByPressure_73 rfl (Nat.le_of_ble_eq_true rfl) rfl rfl ?_
          refine f_iinc (v := nI (j + 1)) (ls' := [_, _, _, _, _]) dX12_lotByPressure_74 rfl (nI_1 j) (Nat.le_of_ble_eq_true rfl) rfl rfl ?_
          refine f_goto (tgt := 17) dX12_lotByPressure_77 (by decide) ?_
          have e9 : l_X12_lotByPressureI a kv M (m + 1) j v3 = l_X12_lotByPressureI a kv M m (j + 1) (v3 + (0 : Int32)) := by rw [l_X12_lotByPressureI, if_neg c_25, if_neg c_42, if_neg c_58]
          exact ih (j + 1) (v3 + (0 : Int32)) (by omega) (by omega) (by rw [e9] at kk; exact kk)
        · refine f_iload dX12_lotByPressure_61 rfl ?_
          refine f_iload_n dX12_lotByPressure_63 rfl rfl ?_
          refine f_icmp_ge (tgt := 71) dX12_lotByPressure_64 (by decide) (fun c_64 => ?_) (fun c_64 => ?_)
          · refine f_iconst (v := 0) dX12_lotByPressure_71 rfl ?_
            refine f_iadd dX12_lotByPressure_72 ?_
            refine f_istore_n (ls' := [_, _, _, _, _]) dX12_lotByPressure_73 rfl (Nat.le_of_ble_eq_true rfl) rfl rfl ?_
            refine f_iinc (v := nI (j + 1)) (ls' := [_, _, _, _, _]) dX12_lotByPressure_74 rfl (nI_1 j) (Nat.le_of_ble_eq_true rfl) rfl rfl ?_
            refine f_goto (tgt := 17) dX12_lotByPressure_77 (by decide) ?_
            have e9 : l_X12_lotByPressureI a kv M (m + 1) j v3 = l_X12_lotByPressureI a kv M m (j + 1) (v3 + (0 : Int32)) := by rw [l_X12_lotByPressureI, if_neg c_25, if_neg c_42, if_pos c_58, if_pos c_64]
            exact ih (j + 1) (v3 + (0 : Int32)) (by omega) (by omega) (by rw [e9] at kk; exact kk)
          · refine f_iconst (v := 1) dX12_lotByPressure_67 rfl ?_
            refine f_goto (tgt := 72) dX12_lotByPressure_68 (by decide) ?_
            refine f_iadd dX12_lotByPressure_72 ?_
            refine f_istore_n (ls' := [_, _, _, _, _]) dX12_lotByPressure_73 rfl (Nat.le_of_ble_eq_true rfl) rfl rfl ?_
            refine f_iinc (v := nI (j + 1)) (ls' := [_, _, _, _, _]) dX12_lotByPressure_74 rfl (nI_1 j) (Nat.le_of_ble_eq_true rfl) rfl rfl ?_
            refine f_goto (tgt := 17) dX12_lotByPressure_77 (by decide) ?_
            have e9 : l_X12_lotByPressureI a kv M (m + 1) j v3 = l_X12_lotByPressureI a kv M m (j + 1) (v3 + (1 : Int32)) := by rw [l_X12_lotByPressureI, if_neg c_25, if_neg c_42, if_pos c_58, if_neg c_64]
            exact ih (j + 1) (v3 + (1 : Int32)) (by omega) (by omega) (by rw [e9] at kk; exact kk)

def l_X12_lotByPressure (a : Int32) (M : fM) : Nat → Nat → Int32 × fM
  | 0, _ => (0, M)
  | m + 1, j => (if (M 297 ((3 : Int32)).toNatClampNeg) ≤ (nI j) then ((0 : Int32), (fst1 M 296 7 (1 : Int32))) else (if (l_X12_lotByPressureI a (nI j) M 9 0 (0 : Int32)) = a then ((r_X12_by (fst1 M 296 7 (0 : Int32)) (nI j) (0 : Int32)), (fst1 M 296 7 (0 : Int32))) else (l_X12_lotByPressure a M m (j + 1))))
set_option maxRecDepth 100000 in
set_option maxHeartbeats 4000000 in
theorem lp_X12_lotByPressure {G : fG} (hG : fOK G) {d : Nat} (hd : 1 ≤ d) (M : fM) (dv : UInt64) (a : Int32) (q0 : ∀ (j : Nat), j ≤ 8 → ¬ ((M 297 ((3 : Int32)).toNatClampNeg) ≤ (nI j)) → j < 8) (q1 : ∀ (j : Nat), j ≤ 8 → ¬ ((M 297 ((3 : Int32)).toNatClampNeg) ≤ (nI j)) → ∀ (j_199 : Nat) (v3_199 : Int32), j_199 ≤ 8 → ¬ ((M 297 ((3 : Int32)).toNatClampNeg) ≤ (nI j_199)) → j_199 < 8) (q2 : ∀ (j : Nat), j ≤ 8 → ¬ ((M 297 ((3 : Int32)).toNatClampNeg) ≤ (nI j)) → ∀ (j_200 : Nat) (v3_200 : Int32), j_200 ≤ 8 → ¬ ((M 297 ((3 : Int32)).toNatClampNeg) ≤ (nI j_200)) → N_X12_by M (nI j_200) (5 : Int32)) (q3 : ∀ (j : Nat), j ≤ 8 → ¬ ((M 297 ((3 : Int32)).toNatClampNeg) ≤ (nI j)) → ∀ (j_201 : Nat) (v3_201 : Int32), j_201 ≤ 8 → ¬ ((M 297 ((3 : Int32)).toNatClampNeg) ≤ (nI j_201)) → N_X12_by M (nI j) (5 : Int32)) (q4 : ∀ (j : Nat), j ≤ 8 → ¬ ((M 297 ((3 : Int32)).toNatClampNeg) ≤ (nI j)) → ∀ (j_202 : Nat) (v3_202 : Int32), j_202 ≤ 8 → ¬ ((M 297 ((3 : Int32)).toNatClampNeg) ≤ (nI j_202)) → ¬ ((r_X12_by M (nI j) (5 : Int32)) < (r_X12_by M (nI j_202) (5 : Int32))) → N_X12_by M (nI j_202) (5 : Int32)) (q5 : ∀ (j : Nat), j ≤ 8 → ¬ ((M 297 ((3 : Int32)).toNatClampNeg) ≤ (nI j)) → ∀ (j_203 : Nat) (v3_203 : Int32), j_203 ≤ 8 → ¬ ((M 297 ((3 : Int32)).toNatClampNeg) ≤ (nI j_203)) → ¬ ((r_X12_by M (nI j) (5 : Int32)) < (r_X12_by M (nI j_203) (5 : Int32))) → N_X12_by M (nI j) (5 : Int32)) (q6 : ∀ (j : Nat), j ≤ 8 → ¬ ((M 297 ((3 : Int32)).toNatClampNeg) ≤ (nI j)) → ((l_X12_lotByPressureI a (nI j) M 9 0 (0 : Int32)) = a) → N_X12_by (fst1 M 296 7 (0 : Int32)) (nI j) (0 : Int32)) : ∀ (m j : Nat), j ≤ 8 → 8 + 1 ≤ j + m → fV G z_X12_lotByPressure d (fD (some (.int (l_X12_lotByPressure a M m j).1)) (sS (l_X12_lotByPressure a M m j).2 dv)) 2 [some (.ref 296), some (.int a), some (.int (nI j)), none, none] [] (sS M dv) 0 0 := by
  intro m
  induction m with
  | zero => intros; omega
  | succ m ih =>
    intro j hj hm
    refine f_iload_n dX12_lotByPressure_2 rfl rfl ?_
    refine f_aload_n dX12_lotByPressure_3 rfl rfl ?_
    refine s_getr hG fl_X12_7 dX12_lotByPressure_4 rfl rfl ?_
    refine f_iconst (v := 3) dX12_lotByPressure_7 rfl ?_
    refine s_iaload hG dX12_lotByPressure_8 rfl ((show ¬ ((3 : Int32) < 0 ∨ 127 ≤ (3 : Int32).toNatClampNeg) by decide)) ?_
    refine f_icmp_ge (tgt := 106) dX12_lotByPressure_9 (by decide) (fun c_9 => ?_) (fun c_9 => ?_)
    · refine f_aload_n dX12_lotByPressure_106 rfl rfl ?_
      refine f_iconst (v := 1) dX12_lotByPressure_107 rfl ?_
      refine s_puti hG fl_X12_45 (Or.inl rfl) dX12_lotByPressure_108 rfl rfl rfl rfl ?_
      refine f_iconst (v := 0) dX12_lotByPressure_111 rfl ?_
      refine f_ireturn dX12_lotByPressure_112 rfl rfl ?_
      exact ⟨by rw [l_X12_lotByPressure, if_pos c_9], by rw [l_X12_lotByPressure, if_pos c_9]⟩
    · have hlt : j < 8 := (q0 j hj c_9)
      refine f_iconst (v := 0) dX12_lotByPressure_12 rfl ?_
      refine f_istore_n (ls' := [_, _, _, _, _]) dX12_lotByPressure_13 rfl (Nat.le_of_ble_eq_true rfl) rfl rfl ?_
      refine f_iconst (v := 0) dX12_lotByPressure_14 rfl ?_
      refine f_istore (ls' := [_, _, _, _, _]) dX12_lotByPressure_15 (Nat.le_of_ble_eq_true rfl) rfl rfl ?_
      refine lc_X12_lotByPressureI hG (by omega) _ dv _ _ (q1 j hj c_9) (q2 j hj c_9) (q3 j hj c_9) (q4 j hj c_9) (q5 j hj c_9) 9 0 _ (by omega) (by omega) ?_
      refine f_iload_n dX12_lotByPressure_80 rfl rfl ?_
      refine f_iload_n dX12_lotByPressure_81 rfl rfl ?_
      refine f_icmp_eq (tgt := 88) dX12_lotByPressure_82 (by decide) (fun c_82 => ?_) (fun c_82 => ?_)
      · refine f_aload_n dX12_lotByPressure_88 rfl rfl ?_
        refine f_iconst (v := 0) dX12_lotByPressure_89 rfl ?_
        refine s_puti hG fl_X12_45 (Or.inl rfl) dX12_lotByPressure_90 rfl rfl rfl rfl ?_
        refine f_aload_n dX12_lotByPressure_93 rfl rfl ?_
        refine f_iload_n dX12_lotByPressure_94 rfl rfl ?_
        refine f_iconst (v := 0) dX12_lotByPressure_95 rfl ?_
        refine f_cV hG (As := [_, _]) dX12_lotByPressure_96 rfl k_X12_by rfl rfl ml_X12_107 im_X12_by se_X12_by rfl rfl (c_X12_by hG (d := 0) (Nat.le_refl _) _ _ _ _ (q6 j hj c_9 c_82)) (by omega) (Nat.le_of_ble_eq_true rfl) (Nat.zero_le _) (Nat.zero_le _) ?_
        refine f_ireturn dX12_lotByPressure_99 rfl rfl ?_
        exact ⟨by rw [l_X12_lotByPressure, if_neg c_9, if_pos c_82], by rw [l_X12_lotByPressure, if_neg c_9, if_pos c_82]⟩
      · refine f_goto (tgt := 100) dX12_lotByPressure_85 (by decide) ?_
        refine f_iinc (v := nI (j + 1)) (ls' := [_, _, _, _, _]) dX12_lotByPressure_100 rfl (nI_1 j) (Nat.le_of_ble_eq_true rfl) rfl rfl ?_
        refine f_goto (tgt := 2) dX12_lotByPressure_103 (by decide) ?_
        have e9 : l_X12_lotByPressure a M (m + 1) j = l_X12_lotByPressure a M m (j + 1) := by rw [l_X12_lotByPressure, if_neg c_9, if_neg c_82]
        rw [e9]
        refine f_drop 3 ?_
        refine f_drop 4 ?_
        exact ih (j + 1) (by omega) (by omega)
def r_X12_lotByPressure (M : fM) (a : Int32) : Int32 := (l_X12_lotByPressure a M 9 0).1
def m_X12_lotByPressure (M : fM) (a : Int32) : fM := (l_X12_lotByPressure a M 9 0).2
def N_X12_lotByPressure (M : fM) (a : Int32) : Prop := (∀ (j : Nat), j ≤ 8 → ¬ ((M 297 ((3 : Int32)).toNatClampNeg) ≤ (nI j)) → j < 8) ∧ (∀ (j : Nat), j ≤ 8 → ¬ ((M 297 ((3 : Int32)).toNatClampNeg) ≤ (nI j)) → ∀ (j_199 : Nat) (v3_199 : Int32), j_199 ≤ 8 → ¬ ((M 297 ((3 : Int32)).toNatClampNeg) ≤ (nI j_199)) → j_199 < 8) ∧ (∀ (j : Nat), j ≤ 8 → ¬ ((M 297 ((3 : Int32)).toNatClampNeg) ≤ (nI j)) → ∀ (j_200 : Nat) (v3_200 : Int32), j_200 ≤ 8 → ¬ ((M 297 ((3 : Int32)).toNatClampNeg) ≤ (nI j_200)) → N_X12_by M (nI j_200) (5 : Int32)) ∧ (∀ (j : Nat), j ≤ 8 → ¬ ((M 297 ((3 : Int32)).toNatClampNeg) ≤ (nI j)) → ∀ (j_201 : Nat) (v3_201 : Int32), j_201 ≤ 8 → ¬ ((M 297 ((3 : Int32)).toNatClampNeg) ≤ (nI j_201)) → N_X12_by M (nI j) (5 : Int32)) ∧ (∀ (j : Nat), j ≤ 8 → ¬ ((M 297 ((3 : Int32)).toNatClampNeg) ≤ (nI j)) → ∀ (j_202 : Nat) (v3_202 : Int32), j_202 ≤ 8 → ¬ ((M 297 ((3 : Int32)).toNatClampNeg) ≤ (nI j_202)) → ¬ ((r_X12_by M (nI j) (5 : Int32)) < (r_X12_by M (nI j_202) (5 : Int32))) → N_X12_by M (nI j_202) (5 : Int32)) ∧ (∀ (j : Nat), j ≤ 8 → ¬ ((M 297 ((3 : Int32)).toNatClampNeg) ≤ (nI j)) → ∀ (j_203 : Nat) (v3_203 : Int32), j_203 ≤ 8 → ¬ ((M 297 ((3 : Int32)).toNatClampNeg) ≤ (nI j_203)) → ¬ ((r_X12_by M (nI j) (5 : Int32)) < (r_X12_by M (nI j_203) (5 : Int32))) → N_X12_by M (nI j) (5 : Int32)) ∧ (∀ (j : Nat), j ≤ 8 → ¬ ((M 297 ((3 : Int32)).toNatClampNeg) ≤ (nI j)) → ((l_X12_lotByPressureI a (nI j) M 9 0 (0 : Int32)) = a) → N_X12_by (fst1 M 296 7 (0 : Int32)) (nI j) (0 : Int32))
set_option maxRecDepth 100000 in
set_option maxHeartbeats 4000000 in
theorem c_X12_lotByPressure {G : fG} (hG : fOK G) {d : Nat} (hd : 1 ≤ d) (M : fM) (dv : UInt64) (a : Int32) (hN : N_X12_lotByPressure M a) : fCt G z_X12_lotByPressure d [.ref 296, .int a] (sS M dv) 0 0 (fD (some (.int (r_X12_lotByPressure M a))) (sS (m_X12_lotByPressure M a) dv)) := by
  refine fCt_to [some (.ref 296), some (.int a), none, none, none] k_X12_lotByPressure rfl (Nat.le_of_ble_eq_true rfl) rfl ?_
  obtain ⟨q0, q1, q2, q3, q4, q5, q6⟩ := hN
  refine f_iconst (v := 0) dX12_lotByPressure_0 rfl ?_
  refine f_istore_n (ls' := [_, _, _, _, _]) dX12_lotByPressure_1 rfl (Nat.le_of_ble_eq_true rfl) rfl rfl ?_
  exact lp_X12_lotByPressure hG hd _ dv a q0 q1 q2 q3 q4 q5 q6 9 0 (by omega) (by omega)

def l_X12_affectedL (a : Int32) (M : fM) : Nat → Nat → Int32 → Int32
  | 0, _, v2 => v2
  | m + 1, j, v2 => (if (M 297 ((3 : Int32)).toNatClampNeg) ≤ (nI j) then v2 else (l_X12_affectedL a M m (j + 1) (v2 + (((r_X12_inside M (nI j)) >>> (a &&& 31)) &&& (1 : Int32)))))
set_option maxRecDepth 100000 in
set_option maxHeartbeats 4000000 in
theorem lc_X12_affectedL {G : fG} (hG : fOK G) {d : Nat} (hd : 2 ≤ d) (M : fM) (dv : UInt64) (a : Int32) (q0 : ∀ (j : Nat) (v2 : Int32), j ≤ 8 → ¬ ((M 297 ((3 : Int32)).toNatClampNeg) ≤ (nI j)) → j < 8) (q1 : ∀ (j : Nat) (v2 : Int32), j ≤ 8 → ¬ ((M 297 ((3 : Int32)).toNatClampNeg) ≤ (nI j)) → N_X12_inside M (nI j)) {Q : fR → fS → Prop} {kc ks : Nat} : ∀ (m j : Nat) (v2 : Int32), j ≤ 8 → 8 + 1 ≤ j + m → fV G z_X12_affected d Q 54 [some (.ref 296), some (.int a), some (.int (l_X12_affectedL a M m j v2)), none] [] (sS M dv) kc ks → fV G z_X12_affected d Q 26 [some (.ref 296), some (.int a), some (.int v2), some (.int (nI j))] [] (sS M dv) kc ks := by
  intro m
  induction m with
  | zero => intros; omega
  | succ m ih =>
    intro j v2 hj hm kk
    refine f_iload_n dX12_affected_26 rfl rfl ?_
    refine f_aload_n dX12_affected_27 rfl rfl ?_
    refine s_getr hG fl_X12_7 dX12_affected_28 rfl rfl ?_
    refine f_iconst (v := 3) dX12_affected_31 rfl ?_
    refine s_iaload hG dX12_affected_32 rfl ((show ¬ ((3 : Int32) < 0 ∨ 127 ≤ (3 : Int32).toNatClampNeg) by decide)) ?_
    refine f_icmp_ge (tgt := 54) dX12_affected_33 (by decide) (fun c_33 => ?_) (fun c_33 => ?_)
    · have e9 : l_X12_affectedL a M (m + 1) j v2 = v2 := by rw [l_X12_affectedL, if_pos c_33]
      rw [e9] at kk
      refine f_drop 3 ?_
      exact kk
    · have hlt : j < 8 := (q0 j v2 hj c_33)
      refine f_iload_n dX12_affected_36 rfl rfl ?_
      refine f_aload_n dX12_affected_37 rfl rfl ?_
      refine f_iload_n dX12_affected_38 rfl rfl ?_
      refine f_cV hG (As := [_]) dX12_affected_39 rfl k_X12_inside rfl rfl ml_X12_126 im_X12_inside se_X12_inside rfl rfl (c_X12_inside hG (d := 1) (Nat.le_refl _) _ _ _ (q1 j v2 hj c_33)) (by omega) (Nat.le_of_ble_eq_true rfl) (Nat.zero_le _) (Nat.zero_le _) ?_
      refine f_iload_n dX12_affected_42 rfl rfl ?_
      refine f_ishr dX12_affected_43 ?_
      refine f_iconst (v := 1) dX12_affected_44 rfl ?_
      refine f_iand dX12_affected_45 ?_
      refine f_iadd dX12_affected_46 ?_
      refine f_istore_n (ls' := [_, _, _, _]) dX12_affected_47 rfl (Nat.le_of_ble_eq_true rfl) rfl rfl ?_
      refine f_iinc (v := nI (j + 1)) (ls' := [_, _, _, _]) dX12_affected_48 rfl (nI_1 j) (Nat.le_of_ble_eq_true rfl) rfl rfl ?_
      refine f_goto (tgt := 26) dX12_affected_51 (by decide) ?_
      have e9 : l_X12_affectedL a M (m + 1) j v2 = l_X12_affectedL a M m (j + 1) (v2 + (((r_X12_inside M (nI j)) >>> (a &&& 31)) &&& (1 : Int32))) := by rw [l_X12_affectedL, if_neg c_33]
      exact ih (j + 1) (v2 + (((r_X12_inside M (nI j)) >>> (a &&& 31)) &&& (1 : Int32))) (by omega) (by omega) (by rw [e9] at kk; exact kk)

def r_X12_affected (M : fM) (a : Int32) : Int32 := (if (r_X12_isRaw M a) = 0 then (0 : Int32) else (l_X12_affectedL a (fst1 M 296 7 (0 : Int32)) 9 0 (0 : Int32)))
def m_X12_affected (M : fM) (a : Int32) : fM := (if (r_X12_isRaw M a) = 0 then (fst1 M 296 7 (1 : Int32)) else (fst1 M 296 7 (0 : Int32)))
def N_X12_affected (M : fM) (a : Int32) : Prop := (¬ ((r_X12_isRaw M a) = 0) → ∀ (j_208 : Nat) (v2_208 : Int32), j_208 ≤ 8 → ¬ (((fst1 M 296 7 (0 : Int32)) 297 ((3 : Int32)).toNatClampNeg) ≤ (nI j_208)) → j_208 < 8) ∧ (¬ ((r_X12_isRaw M a) = 0) → ∀ (j_209 : Nat) (v2_209 : Int32), j_209 ≤ 8 → ¬ (((fst1 M 296 7 (0 : Int32)) 297 ((3 : Int32)).toNatClampNeg) ≤ (nI j_209)) → N_X12_inside (fst1 M 296 7 (0 : Int32)) (nI j_209))
set_option maxRecDepth 100000 in
set_option maxHeartbeats 4000000 in
theorem c_X12_affected {G : fG} (hG : fOK G) {d : Nat} (hd : 2 ≤ d) (M : fM) (dv : UInt64) (a : Int32) (hN : N_X12_affected M a) : fCt G z_X12_affected d [.ref 296, .int a] (sS M dv) 0 0 (fD (some (.int (r_X12_affected M a))) (sS (m_X12_affected M a) dv)) := by
  refine fCt_to [some (.ref 296), some (.int a), none, none] k_X12_affected rfl (Nat.le_of_ble_eq_true rfl) rfl ?_
  obtain ⟨q0, q1⟩ := hN
  refine f_aload_n dX12_affected_0 rfl rfl ?_
  refine f_aload_n dX12_affected_1 rfl rfl ?_
  refine f_iload_n dX12_affected_2 rfl rfl ?_
  refine f_cV hG (As := [_]) dX12_affected_3 rfl k_X12_isRaw rfl rfl ml_X12_71 im_X12_isRaw se_X12_isRaw rfl rfl (c_X12_isRaw hG (d := 1) (Nat.le_refl _) _ _ _) (by omega) (Nat.le_of_ble_eq_true rfl) (Nat.zero_le _) (Nat.zero_le _) ?_
  refine f_if_eq (tgt := 13) dX12_affected_6 (by decide) (fun c_6 => ?_) (fun c_6 => ?_)
  · refine f_iconst (v := 1) dX12_affected_13 rfl ?_
    refine f_cV hG (As := [_]) dX12_affected_14 rfl k_X12_fails rfl rfl ml_X12_63 im_X12_fails se_X12_fails rfl rfl (c_X12_failsT hG (d := 0) (Nat.le_refl _) _ _ _ (by decide)) (by omega) (Nat.le_of_ble_eq_true rfl) (Nat.zero_le _) (Nat.zero_le _) ?_
    refine f_if_eq (tgt := 22) dX12_affected_17 (by decide) (fun c_17 => absurd c_17 (by decide)) (fun c_17 => ?_)
    refine f_iconst (v := 0) dX12_affected_20 rfl ?_
    refine f_ireturn dX12_affected_21 rfl rfl ?_
    exact ⟨by rw [r_X12_affected, if_pos c_6], by rw [m_X12_affected, if_pos c_6]⟩
  · refine f_iconst (v := 0) dX12_affected_9 rfl ?_
    refine f_goto (tgt := 14) dX12_affected_10 (by decide) ?_
    refine f_cV hG (As := [_]) dX12_affected_14 rfl k_X12_fails rfl rfl ml_X12_63 im_X12_fails se_X12_fails rfl rfl (c_X12_failsF hG (d := 0) (Nat.le_refl _) _ _ _ (by decide)) (by omega) (Nat.le_of_ble_eq_true rfl) (Nat.zero_le _) (Nat.zero_le _) ?_
    refine f_if_eq (tgt := 22) dX12_affected_17 (by decide) (fun c_17 => ?_) (fun c_17 => absurd c_17 (by decide))
    refine f_iconst (v := 0) dX12_affected_22 rfl ?_
    refine f_istore_n (ls' := [_, _, _, _]) dX12_affected_23 rfl (Nat.le_of_ble_eq_true rfl) rfl rfl ?_
    refine f_iconst (v := 0) dX12_affected_24 rfl ?_
    refine f_istore_n (ls' := [_, _, _, _]) dX12_affected_25 rfl (Nat.le_of_ble_eq_true rfl) rfl rfl ?_
    refine lc_X12_affectedL hG (by omega) _ dv _ (q0 c_6) (q1 c_6) 9 0 _ (by omega) (by omega) ?_
    refine f_iload_n dX12_affected_54 rfl rfl ?_
    refine f_ireturn dX12_affected_55 rfl rfl ?_
    exact ⟨by rw [r_X12_affected, if_neg c_6], by rw [m_X12_affected, if_neg c_6]⟩

def r_X12_affectedLots (M : fM) (a : Int32) : Int32 := (r_X12_affected M a)
def m_X12_affectedLots (M : fM) (a : Int32) : fM := (m_X12_affected M a)
def N_X12_affectedLots (M : fM) (a : Int32) : Prop := (N_X12_affected M a)
set_option maxRecDepth 100000 in
set_option maxHeartbeats 4000000 in
theorem c_X12_affectedLots {G : fG} (hG : fOK G) {d : Nat} (hd : 3 ≤ d) (M : fM) (dv : UInt64) (a : Int32) (hN : N_X12_affectedLots M a) : fCt G z_X12_affectedLots d [.ref 296, .int a] (sS M dv) 0 0 (fD (some (.int (r_X12_affectedLots M a))) (sS (m_X12_affectedLots M a) dv)) := by
  refine fCt_to [some (.ref 296), some (.int a)] k_X12_affectedLots rfl (Nat.le_of_ble_eq_true rfl) rfl ?_
  have q0 : N_X12_affected M a := hN
  refine f_aload_n dX12_affectedLots_0 rfl rfl ?_
  refine f_iload_n dX12_affectedLots_1 rfl rfl ?_
  refine f_cV hG (As := [_]) dX12_affectedLots_2 rfl k_X12_affected rfl rfl ml_X12_135 im_X12_affected se_X12_affected rfl rfl (c_X12_affected hG (d := 2) (Nat.le_refl _) _ _ _ q0) (by omega) (Nat.le_of_ble_eq_true rfl) (Nat.zero_le _) (Nat.zero_le _) ?_
  refine f_ireturn dX12_affectedLots_5 rfl rfl ?_
  exact ⟨by rw [r_X12_affectedLots], by rw [m_X12_affectedLots]⟩

def r_X12_affectedBySets (M : fM) (a : Int32) : Int32 := (r_X12_affected M a)
def m_X12_affectedBySets (M : fM) (a : Int32) : fM := (m_X12_affected M a)
def N_X12_affectedBySets (M : fM) (a : Int32) : Prop := (N_X12_affected M a)
set_option maxRecDepth 100000 in
set_option maxHeartbeats 4000000 in
theorem c_X12_affectedBySets {G : fG} (hG : fOK G) {d : Nat} (hd : 3 ≤ d) (M : fM) (dv : UInt64) (a : Int32) (hN : N_X12_affectedBySets M a) : fCt G z_X12_affectedBySets d [.ref 296, .int a] (sS M dv) 0 0 (fD (some (.int (r_X12_affectedBySets M a))) (sS (m_X12_affectedBySets M a) dv)) := by
  refine fCt_to [some (.ref 296), some (.int a)] k_X12_affectedBySets rfl (Nat.le_of_ble_eq_true rfl) rfl ?_
  have q0 : N_X12_affected M a := hN
  refine f_aload_n dX12_affectedBySets_0 rfl rfl ?_
  refine f_iload_n dX12_affectedBySets_1 rfl rfl ?_
  refine f_cV hG (As := [_]) dX12_affectedBySets_2 rfl k_X12_affected rfl rfl ml_X12_135 im_X12_affected se_X12_affected rfl rfl (c_X12_affected hG (d := 2) (Nat.le_refl _) _ _ _ q0) (by omega) (Nat.le_of_ble_eq_true rfl) (Nat.zero_le _) (Nat.zero_le _) ?_
  refine f_ireturn dX12_affectedBySets_5 rfl rfl ?_
  exact ⟨by rw [r_X12_affectedBySets], by rw [m_X12_affectedBySets]⟩

def a0_X12_crates (M : fM) (sv : Int32) (j : Nat) : fM := (fst1 M 304 (sv).toNatClampNeg (r_X12_least M (M 304 (sv).toNatClampNeg) (((100 : Int32) * (((M 304 ((sv ^^^ ((1 : Int32) <<< ((nI j) &&& 31)))).toNatClampNeg) / (100 : Int32)) + (1 : Int32))) + (r_X12_by M (nI j) (1 : Int32)))))
def a1_X12_crates (M : fM) (sv : Int32) (j : Nat) : fM := (fst1 M 304 (sv).toNatClampNeg (r_X12_least M (M 304 (sv).toNatClampNeg) ((M 304 ((sv ^^^ ((1 : Int32) <<< ((nI j) &&& 31)))).toNatClampNeg) + (r_X12_by M (nI j) (1 : Int32)))))
def l_X12_cratesI (a : Int32) (av : Int32) (sv : Int32) : fM → Nat → Nat → fM
  | M, 0, _ => M
  | M, m + 1, j => (if (M 297 ((3 : Int32)).toNatClampNeg) ≤ (nI j) then M else (if ((sv >>> ((nI j) &&& 31)) &&& (1 : Int32)) = 0 then (l_X12_cratesI a av sv M m (j + 1)) else (if (M 304 ((sv ^^^ ((1 : Int32) <<< ((nI j) &&& 31)))).toNatClampNeg) = 0 then (l_X12_cratesI a av sv (a0_X12_crates M sv j) m (j + 1)) else (if (((M 304 ((sv ^^^ ((1 : Int32) <<< ((nI j) &&& 31)))).toNatClampNeg) - (M 304 ((sv ^^^ ((1 : Int32) <<< ((nI j) &&& 31)))).toNatClampNeg) / (100 : Int32) * (100 : Int32)) + (r_X12_by M (nI j) (1 : Int32))) ≤ a then (l_X12_cratesI a av sv (a1_X12_crates M sv j) m (j + 1)) else (l_X12_cratesI a av sv (a0_X12_crates M sv j) m (j + 1))))))
set_option maxRecDepth 100000 in
set_option maxHeartbeats 4000000 in
theorem lc_X12_cratesI {G : fG} (hG : fOK G) {d : Nat} (hd : 1 ≤ d) (dv : UInt64) (a : Int32) (av : Int32) (sv : Int32) (Pv : Nat → fM → Prop) (q0 : ∀ (j : Nat) (W_210 : fM), j ≤ 8 → Pv j W_210 → ¬ ((W_210 297 ((3 : Int32)).toNatClampNeg) ≤ (nI j)) → j < 8) (q1 : ∀ (j : Nat) (W_210 : fM), j ≤ 8 → Pv j W_210 → ¬ ((W_210 297 ((3 : Int32)).toNatClampNeg) ≤ (nI j)) → ¬ (((sv >>> ((nI j) &&& 31)) &&& (1 : Int32)) = 0) → vp_in (sv ^^^ ((1 : Int32) <<< ((nI j) &&& 31))) 256) (q2 : ∀ (j : Nat) (W_210 : fM), j ≤ 8 → Pv j W_210 → ¬ ((W_210 297 ((3 : Int32)).toNatClampNeg) ≤ (nI j)) → ¬ (((sv >>> ((nI j) &&& 31)) &&& (1 : Int32)) = 0) → ((W_210 304 ((sv ^^^ ((1 : Int32) <<< ((nI j) &&& 31)))).toNatClampNeg) = 0) → vp_in sv 256) (q3 : ∀ (j : Nat) (W_210 : fM), j ≤ 8 → Pv j W_210 → ¬ ((W_210 297 ((3 : Int32)).toNatClampNeg) ≤ (nI j)) → ¬ (((sv >>> ((nI j) &&& 31)) &&& (1 : Int32)) = 0) → ((W_210 304 ((sv ^^^ ((1 : Int32) <<< ((nI j) &&& 31)))).toNatClampNeg) = 0) → N_X12_by W_210 (nI j) (1 : Int32)) (q4 : ∀ (j : Nat) (W_210 : fM), j ≤ 8 → Pv j W_210 → ¬ ((W_210 297 ((3 : Int32)).toNatClampNeg) ≤ (nI j)) → ¬ (((sv >>> ((nI j) &&& 31)) &&& (1 : Int32)) = 0) → ((W_210 304 ((sv ^^^ ((1 : Int32) <<< ((nI j) &&& 31)))).toNatClampNeg) = 0) → Pv (j + 1) (a0_X12_crates W_210 sv j)) (q5 : ∀ (j : Nat) (W_210 : fM), j ≤ 8 → Pv j W_210 → ¬ ((W_210 297 ((3 : Int32)).toNatClampNeg) ≤ (nI j)) → ¬ (((sv >>> ((nI j) &&& 31)) &&& (1 : Int32)) = 0) → ¬ ((W_210 304 ((sv ^^^ ((1 : Int32) <<< ((nI j) &&& 31)))).toNatClampNeg) = 0) → N_X12_by W_210 (nI j) (1 : Int32)) (q6 : ∀ (j : Nat) (W_210 : fM), j ≤ 8 → Pv j W_210 → ¬ ((W_210 297 ((3 : Int32)).toNatClampNeg) ≤ (nI j)) → ¬ (((sv >>> ((nI j) &&& 31)) &&& (1 : Int32)) = 0) → ¬ ((W_210 304 ((sv ^^^ ((1 : Int32) <<< ((nI j) &&& 31)))).toNatClampNeg) = 0) → ((((W_210 304 ((sv ^^^ ((1 : Int32) <<< ((nI j) &&& 31)))).toNatClampNeg) - (W_210 304 ((sv ^^^ ((1 : Int32) <<< ((nI j) &&& 31)))).toNatClampNeg) / (100 : Int32) * (100 : Int32)) + (r_X12_by W_210 (nI j) (1 : Int32))) ≤ a) → vp_in sv 256) (q7 : ∀ (j : Nat) (W_210 : fM), j ≤ 8 → Pv j W_210 → ¬ ((W_210 297 ((3 : Int32)).toNatClampNeg) ≤ (nI j)) → ¬ (((sv >>> ((nI j) &&& 31)) &&& (1 : Int32)) = 0) → ¬ ((W_210 304 ((sv ^^^ ((1 : Int32) <<< ((nI j) &&& 31)))).toNatClampNeg) = 0) → ((((W_210 304 ((sv ^^^ ((1 : Int32) <<< ((nI j) &&& 31)))).toNatClampNeg) - (W_210 304 ((sv ^^^ ((1 : Int32) <<< ((nI j) &&& 31)))).toNatClampNeg) / (100 : Int32) * (100 : Int32)) + (r_X12_by W_210 (nI j) (1 : Int32))) ≤ a) → N_X12_by W_210 (nI j) (1 : Int32)) (q8 : ∀ (j : Nat) (W_210 : fM), j ≤ 8 → Pv j W_210 → ¬ ((W_210 297 ((3 : Int32)).toNatClampNeg) ≤ (nI j)) → ¬ (((sv >>> ((nI j) &&& 31)) &&& (1 : Int32)) = 0) → ¬ ((W_210 304 ((sv ^^^ ((1 : Int32) <<< ((nI j) &&& 31)))).toNatClampNeg) = 0) → ((((W_210 304 ((sv ^^^ ((1 : Int32) <<< ((nI j) &&& 31)))).toNatClampNeg) - (W_210 304 ((sv ^^^ ((1 : Int32) <<< ((nI j) &&& 31)))).toNatClampNeg) / (100 : Int32) * (100 : Int32)) + (r_X12_by W_210 (nI j) (1 : Int32))) ≤ a) → Pv (j + 1) (a1_X12_crates W_210 sv j)) (q9 : ∀ (j : Nat) (W_210 : fM), j ≤ 8 → Pv j W_210 → ¬ ((W_210 297 ((3 : Int32)).toNatClampNeg) ≤ (nI j)) → ¬ (((sv >>> ((nI j) &&& 31)) &&& (1 : Int32)) = 0) → ¬ ((W_210 304 ((sv ^^^ ((1 : Int32) <<< ((nI j) &&& 31)))).toNatClampNeg) = 0) → ¬ ((((W_210 304 ((sv ^^^ ((1 : Int32) <<< ((nI j) &&& 31)))).toNatClampNeg) - (W_210 304 ((sv ^^^ ((1 : Int32) <<< ((nI j) &&& 31)))).toNatClampNeg) / (100 : Int32) * (100 : Int32)) + (r_X12_by W_210 (nI j) (1 : Int32))) ≤ a) → vp_in sv 256) (q10 : ∀ (j : Nat) (W_210 : fM), j ≤ 8 → Pv j W_210 → ¬ ((W_210 297 ((3 : Int32)).toNatClampNeg) ≤ (nI j)) → ¬ (((sv >>> ((nI j) &&& 31)) &&& (1 : Int32)) = 0) → ¬ ((W_210 304 ((sv ^^^ ((1 : Int32) <<< ((nI j) &&& 31)))).toNatClampNeg) = 0) → ¬ ((((W_210 304 ((sv ^^^ ((1 : Int32) <<< ((nI j) &&& 31)))).toNatClampNeg) - (W_210 304 ((sv ^^^ ((1 : Int32) <<< ((nI j) &&& 31)))).toNatClampNeg) / (100 : Int32) * (100 : Int32)) + (r_X12_by W_210 (nI j) (1 : Int32))) ≤ a) → N_X12_by W_210 (nI j) (1 : Int32)) (q11 : ∀ (j : Nat) (W_210 : fM), j ≤ 8 → Pv j W_210 → ¬ ((W_210 297 ((3 : Int32)).toNatClampNeg) ≤ (nI j)) → ¬ (((sv >>> ((nI j) &&& 31)) &&& (1 : Int32)) = 0) → ¬ ((W_210 304 ((sv ^^^ ((1 : Int32) <<< ((nI j) &&& 31)))).toNatClampNeg) = 0) → ¬ ((((W_210 304 ((sv ^^^ ((1 : Int32) <<< ((nI j) &&& 31)))).toNatClampNeg) - (W_210 304 ((sv ^^^ ((1 : Int32) <<< ((nI j) &&& 31)))).toNatClampNeg) / (100 : Int32) * (100 : Int32)) + (r_X12_by W_210 (nI j) (1 : Int32))) ≤ a) → Pv (j + 1) (a0_X12_crates W_210 sv j)) (q12 : ∀ (j : Nat) (W_210 : fM), j ≤ 8 → Pv j W_210 → ¬ ((W_210 297 ((3 : Int32)).toNatClampNeg) ≤ (nI j)) → (((sv >>> ((nI j) &&& 31)) &&& (1 : Int32)) = 0) → Pv (j + 1) W_210) {Q : fR → fS → Prop} {kc ks : Nat} : ∀ (m j : Nat) (M : fM), j ≤ 8 → 8 + 1 ≤ j + m → Pv j M → fV G z_X12_crates d Q 183 [some (.ref 296), some (.int a), some (.int av), some (.int sv), none, none, none] [] (sS (l_X12_cratesI a av sv M m j) dv) kc ks → fV G z_X12_crates d Q 61 [some (.ref 296), some (.int a), some (.int av), some (.int sv), some (.int (nI j)), none, none] [] (sS M dv) kc ks := by
  intro m
  induction m with
  | zero => intros; omega
  | succ m ih =>
    intro j M hj hm hI kk
    refine f_iload dX12_crates_61 rfl ?_
    refine f_aload_n dX12_crates_63 rfl rfl ?_
    refine s_getr hG fl_X12_7 dX12_crates_64 rfl rfl ?_
    refine f_iconst (v := 3) dX12_crates_67 rfl ?_
    refine s_iaload hG dX12_crates_68 rfl ((show ¬ ((3 : Int32) < 0 ∨ 127 ≤ (3 : Int32).toNatClampNeg) by decide)) ?_
    refine f_icmp_ge (tgt := 183) dX12_crates_69 (by decide) (fun c_69 => ?_) (fun c_69 => ?_)
    · have e9 : l_X12_cratesI a av sv M (m + 1) j = M := by rw [l_X12_cratesI, if_pos c_69]
      rw [e9] at kk
      refine f_drop 4 ?_
      refine f_drop 5 ?_
      refine f_drop 6 ?_
      exact kk
    · have hlt : j < 8 := (q0 j M hj hI c_69)
      refine f_iload_n dX12_crates_72 rfl rfl ?_
      refine f_iload dX12_crates_73 rfl ?_
      refine f_ishr dX12_crates_75 ?_
      refine f_iconst (v := 1) dX12_crates_76 rfl ?_
      refine f_iand dX12_crates_77 ?_
      refine f_if_ne (tgt := 84) dX12_crates_78 (by decide) (fun c_78 => ?_) (fun c_78 => ?_)
      · refine f_aload_n dX12_crates_84 rfl rfl ?_
        refine s_getr hG fl_X12_39 dX12_crates_85 rfl rfl ?_
        refine f_iload_n dX12_crates_88 rfl rfl ?_
        refine f_iconst (v := 1) dX12_crates_89 rfl ?_
        refine f_iload dX12_crates_90 rfl ?_
        refine f_ishl dX12_crates_92 ?_
        refine f_ixor dX12_crates_93 ?_
        refine s_iaload hG dX12_crates_94 rfl ((q1 j M hj hI c_69 c_78)) ?_
        refine f_istore (ls' := [_, _, _, _, _, _, _]) dX12_crates_95 (Nat.le_of_ble_eq_true rfl) rfl rfl ?_
        refine f_iload dX12_crates_97 rfl ?_
        refine f_if_eq (tgt := 119) dX12_crates_99 (by decide) (fun c_99 => ?_) (fun c_99 => ?_)
        · refine f_iconst (v := 1) dX12_crates_119 rfl ?_
          refine f_goto (tgt := 124) dX12_crates_120 (by decide) ?_
          refine f_istore (ls' := [_, _, _, _, _, _, _]) dX12_crates_124 (Nat.le_of_ble_eq_true rfl) rfl rfl ?_
          refine f_aload_n dX12_crates_126 rfl rfl ?_
          refine s_getr hG fl_X12_39 dX12_crates_127 rfl rfl ?_
          refine f_iload_n dX12_crates_130 rfl rfl ?_
          refine f_aload_n dX12_crates_131 rfl rfl ?_
          refine s_getr hG fl_X12_39 dX12_crates_132 rfl rfl ?_
          refine f_iload_n dX12_crates_135 rfl rfl ?_
          refine s_iaload hG dX12_crates_136 rfl ((q2 j M hj hI c_69 c_78 c_99)) ?_
          refine f_iload dX12_crates_137 rfl ?_
          refine f_if_eq (tgt := 163) dX12_crates_139 (by decide) (fun c_139 => absurd c_139 (by decide)) (fun c_139 => ?_)
          refine f_bipush (v := 100) dX12_crates_142 (by decide) ?_
          refine f_iload dX12_crates_144 rfl ?_
          refine f_bipush (v := 100) dX12_crates_146 (by decide) ?_
          refine f_idiv dX12_crates_148 (by decide) ?_
          refine f_iconst (v := 1) dX12_crates_149 rfl ?_
          refine f_iadd dX12_crates_150 ?_
          refine f_imul dX12_crates_151 ?_
          refine f_aload_n dX12_crates_152 rfl rfl ?_
          refine f_iload dX12_crates_153 rfl ?_
          refine f_iconst (v := 1) dX12_crates_155 rfl ?_
          refine f_cV hG (As := [_, _]) dX12_crates_156 rfl k_X12_by rfl rfl ml_X12_107 im_X12_by se_X12_by rfl rfl (c_X12_by hG (d := 0) (Nat.le_refl _) _ _ _ _ (q3 j M hj hI c_69 c_78 c_99)) (by omega) (Nat.le_of_ble_eq_true rfl) (Nat.zero_le _) (Nat.zero_le _) ?_
          refine f_iadd dX12_crates_159 ?_
          refine f_goto (tgt := 173) dX12_crates_160 (by decide) ?_
          refine f_cS hG (As := [_, _]) dX12_crates_173 rfl k_X12_least rfl rfl ml_X12_97 sm_X12_least (c_X12_least hG (d := 0) (Nat.le_refl _) _ _ _ _) (by omega) (Nat.le_of_ble_eq_true rfl) (Nat.zero_le _) (Nat.zero_le _) ?_
          refine s_iastore hG dX12_crates_176 rfl ((q2 j M hj hI c_69 c_78 c_99)) ?_
          refine f_mem (M := (fst1 M 304 (sv).toNatClampNeg (r_X12_least M (M 304 (sv).toNatClampNeg) (((100 : Int32) * (((M 304 ((sv ^^^ ((1 : Int32) <<< ((nI j) &&& 31)))).toNatClampNeg) / (100 : Int32)) + (1 : Int32))) + (r_X12_by M (nI j) (1 : Int32)))))) (M' := (a0_X12_crates M sv j)) (by rw [a0_X12_crates]) ?_
          refine f_iinc (v := nI (j + 1)) (ls' := [_, _, _, _, _, _, _]) dX12_crates_177 rfl (nI_1 j) (Nat.le_of_ble_eq_true rfl) rfl rfl ?_
          refine f_goto (tgt := 61) dX12_crates_180 (by decide) ?_
          have e9 : l_X12_cratesI a av sv M (m + 1) j = l_X12_cratesI a av sv (a0_X12_crates M sv j) m (j + 1) := by rw [l_X12_cratesI, if_neg c_69, if_neg c_78, if_pos c_99]
          refine f_drop 5 ?_
          refine f_drop 6 ?_
          exact ih (j + 1) (a0_X12_crates M sv j) (by omega) (by omega) (q4 j M hj hI c_69 c_78 c_99) (by rw [e9] at kk; exact kk)
        · refine f_iload dX12_crates_102 rfl ?_
          refine f_bipush (v := 100) dX12_crates_104 (by decide) ?_
          refine f_irem dX12_crates_106 (by decide) ?_
          refine f_aload_n dX12_crates_107 rfl rfl ?_
          refine f_iload dX12_crates_108 rfl ?_
          refine f_iconst (v := 1) dX12_crates_110 rfl ?_
          refine f_cV hG (As := [_, _]) dX12_crates_111 rfl k_X12_by rfl rfl ml_X12_107 im_X12_by se_X12_by rfl rfl (c_X12_by hG (d := 0) (Nat.le_refl _) _ _ _ _ (q5 j M hj hI c_69 c_78 c_99)) (by omega) (Nat.le_of_ble_eq_true rfl) (Nat.zero_le _) (Nat.zero_le _) ?_
          refine f_iadd dX12_crates_114 ?_
          refine f_iload_n dX12_crates_115 rfl rfl ?_
          refine f_icmp_le (tgt := 123) dX12_crates_116 (by decide) (fun c_116 => ?_) (fun c_116 => ?_)
          · refine f_iconst (v := 0) dX12_crates_123 rfl ?_
            refine f_istore (ls' := [_, _, _, _, _, _, _]) dX12_crates_124 (Nat.le_of_ble_eq_true rfl) rfl rfl ?_
            refine f_aload_n dX12_crates_126 rfl rfl ?_
            refine s_getr hG fl_X12_39 dX12_crates_127 rfl rfl ?_
            refine f_iload_n dX12_crates_130 rfl rfl ?_
            refine f_aload_n dX12_crates_131 rfl rfl ?_
            refine s_getr hG fl_X12_39 dX12_crates_132 rfl rfl ?_
            refine f_iload_n dX12_crates_135 rfl rfl ?_
            refine s_iaload hG dX12_crates_136 rfl ((q6 j M hj hI c_69 c_78 c_99 c_116)) ?_
            refine f_iload dX12_crates_137 rfl ?_
            refine f_if_eq (tgt := 163) dX12_crates_139 (by decide) (fun c_139 => ?_) (fun c_139 => absurd c_139 (by decide))
            refine f_iload dX12_crates_163 rfl ?_
            refine f_aload_n dX12_crates_165 rfl rfl ?_
            refine f_iload dX12_crates_166 rfl ?_
            refine f_iconst (v := 1) dX12_crates_168 rfl ?_
            refine f_cV hG (As := [_, _]) dX12_crates_169 rfl k_X12_by rfl rfl ml_X12_107 im_X12_by se_X12_by rfl rfl (c_X12_by hG (d := 0) (Nat.le_refl _) _ _ _ _ (q7 j M hj hI c_69 c_78 c_99 c_116)) (by omega) (Nat.le_of_ble_eq_true rfl) (Nat.zero_le _) (Nat.zero_le _) ?_
            refine f_iadd dX12_crates_172 ?_
            refine f_cS hG (As := [_, _]) dX12_crates_173 rfl k_X12_least rfl rfl ml_X12_97 sm_X12_least (c_X12_least hG (d := 0) (Nat.le_refl _) _ _ _ _) (by omega) (Nat.le_of_ble_eq_true rfl) (Nat.zero_le _) (Nat.zero_le _) ?_
            refine s_iastore hG dX12_crates_176 rfl ((q6 j M hj hI c_69 c_78 c_99 c_116)) ?_
            refine f_mem (M := (fst1 M 304 (sv).toNatClampNeg (r_X12_least M (M 304 (sv).toNatClampNeg) ((M 304 ((sv ^^^ ((1 : Int32) <<< ((nI j) &&& 31)))).toNatClampNeg) + (r_X12_by M (nI j) (1 : Int32)))))) (M' := (a1_X12_crates M sv j)) (by rw [a1_X12_crates]) ?_
            refine f_iinc (v := nI (j + 1)) (ls' := [_, _, _, _, _, _, _]) dX12_crates_177 rfl (nI_1 j) (Nat.le_of_ble_eq_true rfl) rfl rfl ?_
            refine f_goto (tgt := 61) dX12_crates_180 (by decide) ?_
            have e9 : l_X12_cratesI a av sv M (m + 1) j = l_X12_cratesI a av sv (a1_X12_crates M sv j) m (j + 1) := by rw [l_X12_cratesI, if_neg c_69, if_neg c_78, if_neg c_99, if_pos c_116]
            refine f_drop 5 ?_
            refine f_drop 6 ?_
            exact ih (j + 1) (a1_X12_crates M sv j) (by omega) (by omega) (q8 j M hj hI c_69 c_78 c_99 c_116) (by rw [e9] at kk; exact kk)
          · refine f_iconst (v := 1) dX12_crates_119 rfl ?_
            refine f_goto (tgt := 124) dX12_crates_120 (by decide) ?_
            refine f_istore (ls' := [_, _, _, _, _, _, _]) dX12_crates_124 (Nat.le_of_ble_eq_true rfl) rfl rfl ?_
            refine f_aload_n dX12_crates_126 rfl rfl ?_
            refine s_getr hG fl_X12_39 dX12_crates_127 rfl rfl ?_
            refine f_iload_n dX12_crates_130 rfl rfl ?_
            refine f_aload_n dX12_crates_131 rfl rfl ?_
            refine s_getr hG fl_X12_39 dX12_crates_132 rfl rfl ?_
            refine f_iload_n dX12_crates_135 rfl rfl ?_
            refine s_iaload hG dX12_crates_136 rfl ((q9 j M hj hI c_69 c_78 c_99 c_116)) ?_
            refine f_iload dX12_crates_137 rfl ?_
            refine f_if_eq (tgt := 163) dX12_crates_139 (by decide) (fun c_139 => absurd c_139 (by decide)) (fun c_139 => ?_)
            refine f_bipush (v := 100) dX12_crates_142 (by decide) ?_
            refine f_iload dX12_crates_144 rfl ?_
            refine f_bipush (v := 100) dX12_crates_146 (by decide) ?_
            refine f_idiv dX12_crates_148 (by decide) ?_
            refine f_iconst (v := 1) dX12_crates_149 rfl ?_
            refine f_iadd dX12_crates_150 ?_
            refine f_imul dX12_crates_151 ?_
            refine f_aload_n dX12_crates_152 rfl rfl ?_
            refine f_iload dX12_crates_153 rfl ?_
            refine f_iconst (v := 1) dX12_crates_155 rfl ?_
            refine f_cV hG (As := [_, _]) dX12_crates_156 rfl k_X12_by rfl rfl ml_X12_107 im_X12_by se_X12_by rfl rfl (c_X12_by hG (d := 0) (Nat.le_refl _) _ _ _ _ (q10 j M hj hI c_69 c_78 c_99 c_116)) (by omega) (Nat.le_of_ble_eq_true rfl) (Nat.zero_le _) (Nat.zero_le _) ?_
            refine f_iadd dX12_crates_159 ?_
            refine f_goto (tgt := 173) dX12_crates_160 (by decide) ?_
            refine f_cS hG (As := [_, _]) dX12_crates_173 rfl k_X12_least rfl rfl ml_X12_97 sm_X12_least (c_X12_least hG (d := 0) (Nat.le_refl _) _ _ _ _) (by omega) (Nat.le_of_ble_eq_true rfl) (Nat.zero_le _) (Nat.zero_le _) ?_
            refine s_iastore hG dX12_crates_176 rfl ((q9 j M hj hI c_69 c_78 c_99 c_116)) ?_
            refine f_mem (M := (fst1 M 304 (sv).toNatClampNeg (r_X12_least M (M 304 (sv).toNatClampNeg) (((100 : Int32) * (((M 304 ((sv ^^^ ((1 : Int32) <<< ((nI j) &&& 31)))).toNatClampNeg) / (100 : Int32)) + (1 : Int32))) + (r_X12_by M (nI j) (1 : Int32)))))) (M' := (a0_X12_crates M sv j)) (by rw [a0_X12_crates]) ?_
            refine f_iinc (v := nI (j + 1)) (ls' := [_, _, _, _, _, _, _]) dX12_crates_177 rfl (nI_1 j) (Nat.le_of_ble_eq_true rfl) rfl rfl ?_
            refine f_goto (tgt := 61) dX12_crates_180 (by decide) ?_
            have e9 : l_X12_cratesI a av sv M (m + 1) j = l_X12_cratesI a av sv (a0_X12_crates M sv j) m (j + 1) := by rw [l_X12_cratesI, if_neg c_69, if_neg c_78, if_neg c_99, if_neg c_116]
            refine f_drop 5 ?_
            refine f_drop 6 ?_
            exact ih (j + 1) (a0_X12_crates M sv j) (by omega) (by omega) (q11 j M hj hI c_69 c_78 c_99 c_116) (by rw [e9] at kk; exact kk)
      · refine f_goto (tgt := 177) dX12_crates_81 (by decide) ?_
        refine f_iinc (v := nI (j + 1)) (ls' := [_, _, _, _, _, _, _]) dX12_crates_177 rfl (nI_1 j) (Nat.le_of_ble_eq_true rfl) rfl rfl ?_
        refine f_goto (tgt := 61) dX12_crates_180 (by decide) ?_
        have e9 : l_X12_cratesI a av sv M (m + 1) j = l_X12_cratesI a av sv M m (j + 1) := by rw [l_X12_cratesI, if_neg c_69, if_pos c_78]
        refine f_drop 5 ?_
        refine f_drop 6 ?_
        exact ih (j + 1) M (by omega) (by omega) (q12 j M hj hI c_69 c_78) (by rw [e9] at kk; exact kk)

def l_X12_cratesO (a : Int32) (av : Int32) : fM → Nat → Nat → fM
  | M, 0, _ => M
  | M, m + 1, j => (if av < (nI j) then M else (l_X12_cratesO a av (l_X12_cratesI a av (nI j) (fst1 M 304 ((nI j)).toNatClampNeg (100000 : Int32)) 9 0) m (j + 1)))
set_option maxRecDepth 100000 in
set_option maxHeartbeats 4000000 in
theorem lc_X12_cratesO {G : fG} (hG : fOK G) {d : Nat} (hd : 1 ≤ d) (dv : UInt64) (a : Int32) (av : Int32) (Pv : Nat → fM → Prop) (q0 : ∀ (j : Nat) (W_239 : fM), j ≤ 256 → Pv j W_239 → ¬ (av < (nI j)) → j < 256) (q1 : ∀ (j : Nat) (W_239 : fM), j ≤ 256 → Pv j W_239 → ¬ (av < (nI j)) → ∃ Pv : Nat → fM → Prop, Pv 0 (fst1 W_239 304 ((nI j)).toNatClampNeg (100000 : Int32)) ∧ (∀ (j_226 : Nat) (W_210 : fM), j_226 ≤ 8 → Pv j_226 W_210 → ¬ ((W_210 297 ((3 : Int32)).toNatClampNeg) ≤ (nI j_226)) → j_226 < 8) ∧ (∀ (j_227 : Nat) (W_210 : fM), j_227 ≤ 8 → Pv j_227 W_210 → ¬ ((W_210 297 ((3 : Int32)).toNatClampNeg) ≤ (nI j_227)) → ¬ ((((nI j) >>> ((nI j_227) &&& 31)) &&& (1 : Int32)) = 0) → vp_in ((nI j) ^^^ ((1 : Int32) <<< ((nI j_227) &&& 31))) 256) ∧ (∀ (j_228 : Nat) (W_210 : fM), j_228 ≤ 8 → Pv j_228 W_210 → ¬ ((W_210 297 ((3 : Int32)).toNatClampNeg) ≤ (nI j_228)) → ¬ ((((nI j) >>> ((nI j_228) &&& 31)) &&& (1 : Int32)) = 0) → ((W_210 304 (((nI j) ^^^ ((1 : Int32) <<< ((nI j_228) &&& 31)))).toNatClampNeg) = 0) → vp_in (nI j) 256) ∧ (∀ (j_229 : Nat) (W_210 : fM), j_229 ≤ 8 → Pv j_229 W_210 → ¬ ((W_210 297 ((3 : Int32)).toNatClampNeg) ≤ (nI j_229)) → ¬ ((((nI j) >>> ((nI j_229) &&& 31)) &&& (1 : Int32)) = 0) → ((W_210 304 (((nI j) ^^^ ((1 : Int32) <<< ((nI j_229) &&& 31)))).toNatClampNeg) = 0) → N_X12_by W_210 (nI j_229) (1 : Int32)) ∧ (∀ (j_230 : Nat) (W_210 : fM), j_230 ≤ 8 → Pv j_230 W_210 → ¬ ((W_210 297 ((3 : Int32)).toNatClampNeg) ≤ (nI j_230)) → ¬ ((((nI j) >>> ((nI j_230) &&& 31)) &&& (1 : Int32)) = 0) → ((W_210 304 (((nI j) ^^^ ((1 : Int32) <<< ((nI j_230) &&& 31)))).toNatClampNeg) = 0) → Pv (j_230 + 1) (a0_X12_crates W_210 (nI j) j_230)) ∧ (∀ (j_231 : Nat) (W_210 : fM), j_231 ≤ 8 → Pv j_231 W_210 → ¬ ((W_210 297 ((3 : Int32)).toNatClampNeg) ≤ (nI j_231)) → ¬ ((((nI j) >>> ((nI j_231) &&& 31)) &&& (1 : Int32)) = 0) → ¬ ((W_210 304 (((nI j) ^^^ ((1 : Int32) <<< ((nI j_231) &&& 31)))).toNatClampNeg) = 0) → N_X12_by W_210 (nI j_231) (1 : Int32)) ∧ (∀ (j_232 : Nat) (W_210 : fM), j_232 ≤ 8 → Pv j_232 W_210 → ¬ ((W_210 297 ((3 : Int32)).toNatClampNeg) ≤ (nI j_232)) → ¬ ((((nI j) >>> ((nI j_232) &&& 31)) &&& (1 : Int32)) = 0) → ¬ ((W_210 304 (((nI j) ^^^ ((1 : Int32) <<< ((nI j_232) &&& 31)))).toNatClampNeg) = 0) → ((((W_210 304 (((nI j) ^^^ ((1 : Int32) <<< ((nI j_232) &&& 31)))).toNatClampNeg) - (W_210 304 (((nI j) ^^^ ((1 : Int32) <<< ((nI j_232) &&& 31)))).toNatClampNeg) / (100 : Int32) * (100 : Int32)) + (r_X12_by W_210 (nI j_232) (1 : Int32))) ≤ a) → vp_in (nI j) 256) ∧ (∀ (j_233 : Nat) (W_210 : fM), j_233 ≤ 8 → Pv j_233 W_210 → ¬ ((W_210 297 ((3 : Int32)).toNatClampNeg) ≤ (nI j_233)) → ¬ ((((nI j) >>> ((nI j_233) &&& 31)) &&& (1 : Int32)) = 0) → ¬ ((W_210 304 (((nI j) ^^^ ((1 : Int32) <<< ((nI j_233) &&& 31)))).toNatClampNeg) = 0) → ((((W_210 304 (((nI j) ^^^ ((1 : Int32) <<< ((nI j_233) &&& 31)))).toNatClampNeg) - (W_210 304 (((nI j) ^^^ ((1 : Int32) <<< ((nI j_233) &&& 31)))).toNatClampNeg) / (100 : Int32) * (100 : Int32)) + (r_X12_by W_210 (nI j_233) (1 : Int32))) ≤ a) → N_X12_by W_210 (nI j_233) (1 : Int32)) ∧ (∀ (j_234 : Nat) (W_210 : fM), j_234 ≤ 8 → Pv j_234 W_210 → ¬ ((W_210 297 ((3 : Int32)).toNatClampNeg) ≤ (nI j_234)) → ¬ ((((nI j) >>> ((nI j_234) &&& 31)) &&& (1 : Int32)) = 0) → ¬ ((W_210 304 (((nI j) ^^^ ((1 : Int32) <<< ((nI j_234) &&& 31)))).toNatClampNeg) = 0) → ((((W_210 304 (((nI j) ^^^ ((1 : Int32) <<< ((nI j_234) &&& 31)))).toNatClampNeg) - (W_210 304 (((nI j) ^^^ ((1 : Int32) <<< ((nI j_234) &&& 31)))).toNatClampNeg) / (100 : Int32) * (100 : Int32)) + (r_X12_by W_210 (nI j_234) (1 : Int32))) ≤ a) → Pv (j_234 + 1) (a1_X12_crates W_210 (nI j) j_234)) ∧ (∀ (j_235 : Nat) (W_210 : fM), j_235 ≤ 8 → Pv j_235 W_210 → ¬ ((W_210 297 ((3 : Int32)).toNatClampNeg) ≤ (nI j_235)) → ¬ ((((nI j) >>> ((nI j_235) &&& 31)) &&& (1 : Int32)) = 0) → ¬ ((W_210 304 (((nI j) ^^^ ((1 : Int32) <<< ((nI j_235) &&& 31)))).toNatClampNeg) = 0) → ¬ ((((W_210 304 (((nI j) ^^^ ((1 : Int32) <<< ((nI j_235) &&& 31)))).toNatClampNeg) - (W_210 304 (((nI j) ^^^ ((1 : Int32) <<< ((nI j_235) &&& 31)))).toNatClampNeg) / (100 : Int32) * (100 : Int32)) + (r_X12_by W_210 (nI j_235) (1 : Int32))) ≤ a) → vp_in (nI j) 256) ∧ (∀ (j_236 : Nat) (W_210 : fM), j_236 ≤ 8 → Pv j_236 W_210 → ¬ ((W_210 297 ((3 : Int32)).toNatClampNeg) ≤ (nI j_236)) → ¬ ((((nI j) >>> ((nI j_236) &&& 31)) &&& (1 : Int32)) = 0) → ¬ ((W_210 304 (((nI j) ^^^ ((1 : Int32) <<< ((nI j_236) &&& 31)))).toNatClampNeg) = 0) → ¬ ((((W_210 304 (((nI j) ^^^ ((1 : Int32) <<< ((nI j_236) &&& 31)))).toNatClampNeg) - (W_210 304 (((nI j) ^^^ ((1 : Int32) <<< ((nI j_236) &&& 31)))).toNatClampNeg) / (100 : Int32) * (100 : Int32)) + (r_X12_by W_210 (nI j_236) (1 : Int32))) ≤ a) → N_X12_by W_210 (nI j_236) (1 : Int32)) ∧ (∀ (j_237 : Nat) (W_210 : fM), j_237 ≤ 8 → Pv j_237 W_210 → ¬ ((W_210 297 ((3 : Int32)).toNatClampNeg) ≤ (nI j_237)) → ¬ ((((nI j) >>> ((nI j_237) &&& 31)) &&& (1 : Int32)) = 0) → ¬ ((W_210 304 (((nI j) ^^^ ((1 : Int32) <<< ((nI j_237) &&& 31)))).toNatClampNeg) = 0) → ¬ ((((W_210 304 (((nI j) ^^^ ((1 : Int32) <<< ((nI j_237) &&& 31)))).toNatClampNeg) - (W_210 304 (((nI j) ^^^ ((1 : Int32) <<< ((nI j_237) &&& 31)))).toNatClampNeg) / (100 : Int32) * (100 : Int32)) + (r_X12_by W_210 (nI j_237) (1 : Int32))) ≤ a) → Pv (j_237 + 1) (a0_X12_crates W_210 (nI j) j_237)) ∧ (∀ (j_238 : Nat) (W_210 : fM), j_238 ≤ 8 → Pv j_238 W_210 → ¬ ((W_210 297 ((3 : Int32)).toNatClampNeg) ≤ (nI j_238)) → ((((nI j) >>> ((nI j_238) &&& 31)) &&& (1 : Int32)) = 0) → Pv (j_238 + 1) W_210)) (q2 : ∀ (j : Nat) (W_239 : fM), j ≤ 256 → Pv j W_239 → ¬ (av < (nI j)) → Pv (j + 1) (l_X12_cratesI a av (nI j) (fst1 W_239 304 ((nI j)).toNatClampNeg (100000 : Int32)) 9 0)) {Q : fR → fS → Prop} {kc ks : Nat} : ∀ (m j : Nat) (M : fM), j ≤ 256 → 256 + 1 ≤ j + m → Pv j M → fV G z_X12_crates d Q 189 [some (.ref 296), some (.int a), some (.int av), none, none, none, none] [] (sS (l_X12_cratesO a av M m j) dv) kc ks → fV G z_X12_crates d Q 45 [some (.ref 296), some (.int a), some (.int av), some (.int (nI j)), none, none, none] [] (sS M dv) kc ks := by
  intro m
  induction m with
  | zero => intros; omega
  | succ m ih =>
    intro j M hj hm hI kk
    refine f_iload_n dX12_crates_45 rfl rfl ?_
    refine f_iload_n dX12_crates_46 rfl rfl ?_
    refine f_icmp_gt (tgt := 189) dX12_crates_47 (by decide) (fun c_47 => ?_) (fun c_47 => ?_)
    · have e9 : l_X12_cratesO a av M (m + 1) j = M := by rw [l_X12_cratesO, if_pos c_47]
      rw [e9] at kk
      refine f_drop 3 ?_
      refine f_drop 4 ?_
      refine f_drop 5 ?_
      refine f_drop 6 ?_
      exact kk
    · have hlt : j < 256 := (q0 j M hj hI c_47)
      refine f_aload_n dX12_crates_50 rfl rfl ?_
      refine s_getr hG fl_X12_39 dX12_crates_51 rfl rfl ?_
      refine f_iload_n dX12_crates_54 rfl rfl ?_
      refine f_ldc hG cw_X12_138 dX12_crates_55 ?_
      refine s_iastore hG dX12_crates_57 rfl ((vp_in_nI (by omega) (by decide))) ?_
      refine f_iconst (v := 0) dX12_crates_58 rfl ?_
      refine f_istore (ls' := [_, _, _, _, _, _, _]) dX12_crates_59 (Nat.le_of_ble_eq_true rfl) rfl rfl ?_
      obtain ⟨Pv225, hI225, w225_0, w225_1, w225_2, w225_3, w225_4, w225_5, w225_6, w225_7, w225_8, w225_9, w225_10, w225_11, w225_12⟩ := (q1 j M hj hI c_47)
      refine lc_X12_cratesI hG (by omega) dv _ _ _ Pv225 w225_0 w225_1 w225_2 w225_3 w225_4 w225_5 w225_6 w225_7 w225_8 w225_9 w225_10 w225_11 w225_12 9 0 _ (by omega) (by omega) hI225 ?_
      refine f_iinc (v := nI (j + 1)) (ls' := [_, _, _, _, _, _, _]) dX12_crates_183 rfl (nI_1 j) (Nat.le_of_ble_eq_true rfl) rfl rfl ?_
      refine f_goto (tgt := 45) dX12_crates_186 (by decide) ?_
      have e9 : l_X12_cratesO a av M (m + 1) j = l_X12_cratesO a av (l_X12_cratesI a av (nI j) (fst1 M 304 ((nI j)).toNatClampNeg (100000 : Int32)) 9 0) m (j + 1) := by rw [l_X12_cratesO, if_neg c_47]
      refine f_drop 4 ?_
      refine f_drop 5 ?_
      refine f_drop 6 ?_
      exact ih (j + 1) (l_X12_cratesI a av (nI j) (fst1 M 304 ((nI j)).toNatClampNeg (100000 : Int32)) 9 0) (by omega) (by omega) (q2 j M hj hI c_47) (by rw [e9] at kk; exact kk)

def a2_X12_crates (M : fM) (a : Int32) : fM := (l_X12_cratesO a (((1 : Int32) <<< (((fst1 (fst1 M 296 7 (0 : Int32)) 304 ((0 : Int32)).toNatClampNeg (0 : Int32)) 297 ((3 : Int32)).toNatClampNeg) &&& 31)) - (1 : Int32)) (fst1 (fst1 M 296 7 (0 : Int32)) 304 ((0 : Int32)).toNatClampNeg (0 : Int32)) 257 1)
def r_X12_crates (M : fM) (a : Int32) : Int32 := (if (r_X12_in M a (9 : Int32) (40 : Int32)) = 0 then (0 : Int32) else (((a2_X12_crates M a) 304 ((((1 : Int32) <<< (((fst1 (fst1 M 296 7 (0 : Int32)) 304 ((0 : Int32)).toNatClampNeg (0 : Int32)) 297 ((3 : Int32)).toNatClampNeg) &&& 31)) - (1 : Int32))).toNatClampNeg) / (100 : Int32)))
def m_X12_crates (M : fM) (a : Int32) : fM := (if (r_X12_in M a (9 : Int32) (40 : Int32)) = 0 then (fst1 M 296 7 (1 : Int32)) else (a2_X12_crates M a))
def N_X12_crates (M : fM) (a : Int32) : Prop := (¬ ((r_X12_in M a (9 : Int32) (40 : Int32)) = 0) → ∃ Pv : Nat → fM → Prop, Pv 1 (fst1 (fst1 M 296 7 (0 : Int32)) 304 ((0 : Int32)).toNatClampNeg (0 : Int32)) ∧ (∀ (j_245 : Nat) (W_239 : fM), j_245 ≤ 256 → Pv j_245 W_239 → ¬ ((((1 : Int32) <<< (((fst1 (fst1 M 296 7 (0 : Int32)) 304 ((0 : Int32)).toNatClampNeg (0 : Int32)) 297 ((3 : Int32)).toNatClampNeg) &&& 31)) - (1 : Int32)) < (nI j_245)) → j_245 < 256) ∧ (∀ (j_246 : Nat) (W_239 : fM), j_246 ≤ 256 → Pv j_246 W_239 → ¬ ((((1 : Int32) <<< (((fst1 (fst1 M 296 7 (0 : Int32)) 304 ((0 : Int32)).toNatClampNeg (0 : Int32)) 297 ((3 : Int32)).toNatClampNeg) &&& 31)) - (1 : Int32)) < (nI j_246)) → ∃ Pv : Nat → fM → Prop, Pv 0 (fst1 W_239 304 ((nI j_246)).toNatClampNeg (100000 : Int32)) ∧ (∀ (j_246x1 : Nat) (W_210 : fM), j_246x1 ≤ 8 → Pv j_246x1 W_210 → ¬ ((W_210 297 ((3 : Int32)).toNatClampNeg) ≤ (nI j_246x1)) → j_246x1 < 8) ∧ (∀ (j_246x2 : Nat) (W_210 : fM), j_246x2 ≤ 8 → Pv j_246x2 W_210 → ¬ ((W_210 297 ((3 : Int32)).toNatClampNeg) ≤ (nI j_246x2)) → ¬ ((((nI j_246) >>> ((nI j_246x2) &&& 31)) &&& (1 : Int32)) = 0) → vp_in ((nI j_246) ^^^ ((1 : Int32) <<< ((nI j_246x2) &&& 31))) 256) ∧ (∀ (j_246x3 : Nat) (W_210 : fM), j_246x3 ≤ 8 → Pv j_246x3 W_210 → ¬ ((W_210 297 ((3 : Int32)).toNatClampNeg) ≤ (nI j_246x3)) → ¬ ((((nI j_246) >>> ((nI j_246x3) &&& 31)) &&& (1 : Int32)) = 0) → ((W_210 304 (((nI j_246) ^^^ ((1 : Int32) <<< ((nI j_246x3) &&& 31)))).toNatClampNeg) = 0) → vp_in (nI j_246) 256) ∧ (∀ (j_246x4 : Nat) (W_210 : fM), j_246x4 ≤ 8 → Pv j_246x4 W_210 → ¬ ((W_210 297 ((3 : Int32)).toNatClampNeg) ≤ (nI j_246x4)) → ¬ ((((nI j_246) >>> ((nI j_246x4) &&& 31)) &&& (1 : Int32)) = 0) → ((W_210 304 (((nI j_246) ^^^ ((1 : Int32) <<< ((nI j_246x4) &&& 31)))).toNatClampNeg) = 0) → N_X12_by W_210 (nI j_246x4) (1 : Int32)) ∧ (∀ (j_246x5 : Nat) (W_210 : fM), j_246x5 ≤ 8 → Pv j_246x5 W_210 → ¬ ((W_210 297 ((3 : Int32)).toNatClampNeg) ≤ (nI j_246x5)) → ¬ ((((nI j_246) >>> ((nI j_246x5) &&& 31)) &&& (1 : Int32)) = 0) → ((W_210 304 (((nI j_246) ^^^ ((1 : Int32) <<< ((nI j_246x5) &&& 31)))).toNatClampNeg) = 0) → Pv (j_246x5 + 1) (a0_X12_crates W_210 (nI j_246) j_246x5)) ∧ (∀ (j_246x6 : Nat) (W_210 : fM), j_246x6 ≤ 8 → Pv j_246x6 W_210 → ¬ ((W_210 297 ((3 : Int32)).toNatClampNeg) ≤ (nI j_246x6)) → ¬ ((((nI j_246) >>> ((nI j_246x6) &&& 31)) &&& (1 : Int32)) = 0) → ¬ ((W_210 304 (((nI j_246) ^^^ ((1 : Int32) <<< ((nI j_246x6) &&& 31)))).toNatClampNeg) = 0) → N_X12_by W_210 (nI j_246x6) (1 : Int32)) ∧ (∀ (j_246x7 : Nat) (W_210 : fM), j_246x7 ≤ 8 → Pv j_246x7 W_210 → ¬ ((W_210 297 ((3 : Int32)).toNatClampNeg) ≤ (nI j_246x7)) → ¬ ((((nI j_246) >>> ((nI j_246x7) &&& 31)) &&& (1 : Int32)) = 0) → ¬ ((W_210 304 (((nI j_246) ^^^ ((1 : Int32) <<< ((nI j_246x7) &&& 31)))).toNatClampNeg) = 0) → ((((W_210 304 (((nI j_246) ^^^ ((1 : Int32) <<< ((nI j_246x7) &&& 31)))).toNatClampNeg) - (W_210 304 (((nI j_246) ^^^ ((1 : Int32) <<< ((nI j_246x7) &&& 31)))).toNatClampNeg) / (100 : Int32) * (100 : Int32)) + (r_X12_by W_210 (nI j_246x7) (1 : Int32))) ≤ a) → vp_in (nI j_246) 256) ∧ (∀ (j_246x8 : Nat) (W_210 : fM), j_246x8 ≤ 8 → Pv j_246x8 W_210 → ¬ ((W_210 297 ((3 : Int32)).toNatClampNeg) ≤ (nI j_246x8)) → ¬ ((((nI j_246) >>> ((nI j_246x8) &&& 31)) &&& (1 : Int32)) = 0) → ¬ ((W_210 304 (((nI j_246) ^^^ ((1 : Int32) <<< ((nI j_246x8) &&& 31)))).toNatClampNeg) = 0) → ((((W_210 304 (((nI j_246) ^^^ ((1 : Int32) <<< ((nI j_246x8) &&& 31)))).toNatClampNeg) - (W_210 304 (((nI j_246) ^^^ ((1 : Int32) <<< ((nI j_246x8) &&& 31)))).toNatClampNeg) / (100 : Int32) * (100 : Int32)) + (r_X12_by W_210 (nI j_246x8) (1 : Int32))) ≤ a) → N_X12_by W_210 (nI j_246x8) (1 : Int32)) ∧ (∀ (j_246x9 : Nat) (W_210 : fM), j_246x9 ≤ 8 → Pv j_246x9 W_210 → ¬ ((W_210 297 ((3 : Int32)).toNatClampNeg) ≤ (nI j_246x9)) → ¬ ((((nI j_246) >>> ((nI j_246x9) &&& 31)) &&& (1 : Int32)) = 0) → ¬ ((W_210 304 (((nI j_246) ^^^ ((1 : Int32) <<< ((nI j_246x9) &&& 31)))).toNatClampNeg) = 0) → ((((W_210 304 (((nI j_246) ^^^ ((1 : Int32) <<< ((nI j_246x9) &&& 31)))).toNatClampNeg) - (W_210 304 (((nI j_246) ^^^ ((1 : Int32) <<< ((nI j_246x9) &&& 31)))).toNatClampNeg) / (100 : Int32) * (100 : Int32)) + (r_X12_by W_210 (nI j_246x9) (1 : Int32))) ≤ a) → Pv (j_246x9 + 1) (a1_X12_crates W_210 (nI j_246) j_246x9)) ∧ (∀ (j_246x10 : Nat) (W_210 : fM), j_246x10 ≤ 8 → Pv j_246x10 W_210 → ¬ ((W_210 297 ((3 : Int32)).toNatClampNeg) ≤ (nI j_246x10)) → ¬ ((((nI j_246) >>> ((nI j_246x10) &&& 31)) &&& (1 : Int32)) = 0) → ¬ ((W_210 304 (((nI j_246) ^^^ ((1 : Int32) <<< ((nI j_246x10) &&& 31)))).toNatClampNeg) = 0) → ¬ ((((W_210 304 (((nI j_246) ^^^ ((1 : Int32) <<< ((nI j_246x10) &&& 31)))).toNatClampNeg) - (W_210 304 (((nI j_246) ^^^ ((1 : Int32) <<< ((nI j_246x10) &&& 31)))).toNatClampNeg) / (100 : Int32) * (100 : Int32)) + (r_X12_by W_210 (nI j_246x10) (1 : Int32))) ≤ a) → vp_in (nI j_246) 256) ∧ (∀ (j_246x11 : Nat) (W_210 : fM), j_246x11 ≤ 8 → Pv j_246x11 W_210 → ¬ ((W_210 297 ((3 : Int32)).toNatClampNeg) ≤ (nI j_246x11)) → ¬ ((((nI j_246) >>> ((nI j_246x11) &&& 31)) &&& (1 : Int32)) = 0) → ¬ ((W_210 304 (((nI j_246) ^^^ ((1 : Int32) <<< ((nI j_246x11) &&& 31)))).toNatClampNeg) = 0) → ¬ ((((W_210 304 (((nI j_246) ^^^ ((1 : Int32) <<< ((nI j_246x11) &&& 31)))).toNatClampNeg) - (W_210 304 (((nI j_246) ^^^ ((1 : Int32) <<< ((nI j_246x11) &&& 31)))).toNatClampNeg) / (100 : Int32) * (100 : Int32)) + (r_X12_by W_210 (nI j_246x11) (1 : Int32))) ≤ a) → N_X12_by W_210 (nI j_246x11) (1 : Int32)) ∧ (∀ (j_246x12 : Nat) (W_210 : fM), j_246x12 ≤ 8 → Pv j_246x12 W_210 → ¬ ((W_210 297 ((3 : Int32)).toNatClampNeg) ≤ (nI j_246x12)) → ¬ ((((nI j_246) >>> ((nI j_246x12) &&& 31)) &&& (1 : Int32)) = 0) → ¬ ((W_210 304 (((nI j_246) ^^^ ((1 : Int32) <<< ((nI j_246x12) &&& 31)))).toNatClampNeg) = 0) → ¬ ((((W_210 304 (((nI j_246) ^^^ ((1 : Int32) <<< ((nI j_246x12) &&& 31)))).toNatClampNeg) - (W_210 304 (((nI j_246) ^^^ ((1 : Int32) <<< ((nI j_246x12) &&& 31)))).toNatClampNeg) / (100 : Int32) * (100 : Int32)) + (r_X12_by W_210 (nI j_246x12) (1 : Int32))) ≤ a) → Pv (j_246x12 + 1) (a0_X12_crates W_210 (nI j_246) j_246x12)) ∧ (∀ (j_246x13 : Nat) (W_210 : fM), j_246x13 ≤ 8 → Pv j_246x13 W_210 → ¬ ((W_210 297 ((3 : Int32)).toNatClampNeg) ≤ (nI j_246x13)) → ((((nI j_246) >>> ((nI j_246x13) &&& 31)) &&& (1 : Int32)) = 0) → Pv (j_246x13 + 1) W_210)) ∧ (∀ (j_247 : Nat) (W_239 : fM), j_247 ≤ 256 → Pv j_247 W_239 → ¬ ((((1 : Int32) <<< (((fst1 (fst1 M 296 7 (0 : Int32)) 304 ((0 : Int32)).toNatClampNeg (0 : Int32)) 297 ((3 : Int32)).toNatClampNeg) &&& 31)) - (1 : Int32)) < (nI j_247)) → Pv (j_247 + 1) (l_X12_cratesI a (((1 : Int32) <<< (((fst1 (fst1 M 296 7 (0 : Int32)) 304 ((0 : Int32)).toNatClampNeg (0 : Int32)) 297 ((3 : Int32)).toNatClampNeg) &&& 31)) - (1 : Int32)) (nI j_247) (fst1 W_239 304 ((nI j_247)).toNatClampNeg (100000 : Int32)) 9 0))) ∧ (¬ ((r_X12_in M a (9 : Int32) (40 : Int32)) = 0) → vp_in (((1 : Int32) <<< (((fst1 (fst1 M 296 7 (0 : Int32)) 304 ((0 : Int32)).toNatClampNeg (0 : Int32)) 297 ((3 : Int32)).toNatClampNeg) &&& 31)) - (1 : Int32)) 256)
set_option maxRecDepth 100000 in
set_option maxHeartbeats 4000000 in
theorem c_X12_crates {G : fG} (hG : fOK G) {d : Nat} (hd : 1 ≤ d) (M : fM) (dv : UInt64) (a : Int32) (hN : N_X12_crates M a) : fCt G z_X12_crates d [.ref 296, .int a] (sS M dv) 0 0 (fD (some (.int (r_X12_crates M a))) (sS (m_X12_crates M a) dv)) := by
  refine fCt_to [some (.ref 296), some (.int a), none, none, none, none, none] k_X12_crates rfl (Nat.le_of_ble_eq_true rfl) rfl ?_
  obtain ⟨q0, q1⟩ := hN
  refine f_aload_n dX12_crates_0 rfl rfl ?_
  refine f_iload_n dX12_crates_1 rfl rfl ?_
  refine f_bipush (v := 9) dX12_crates_2 (by decide) ?_
  refine f_bipush (v := 40) dX12_crates_4 (by decide) ?_
  refine f_cS hG (As := [_, _, _]) dX12_crates_6 rfl k_X12_in rfl rfl ml_X12_59 sm_X12_in (c_X12_in hG (d := 0) (Nat.le_refl _) _ _ _ _ _) (by omega) (Nat.le_of_ble_eq_true rfl) (Nat.zero_le _) (Nat.zero_le _) ?_
  refine f_if_eq (tgt := 16) dX12_crates_9 (by decide) (fun c_9 => ?_) (fun c_9 => ?_)
  · refine f_iconst (v := 1) dX12_crates_16 rfl ?_
    refine f_cV hG (As := [_]) dX12_crates_17 rfl k_X12_fails rfl rfl ml_X12_63 im_X12_fails se_X12_fails rfl rfl (c_X12_failsT hG (d := 0) (Nat.le_refl _) _ _ _ (by decide)) (by omega) (Nat.le_of_ble_eq_true rfl) (Nat.zero_le _) (Nat.zero_le _) ?_
    refine f_if_eq (tgt := 25) dX12_crates_20 (by decide) (fun c_20 => absurd c_20 (by decide)) (fun c_20 => ?_)
    refine f_iconst (v := 0) dX12_crates_23 rfl ?_
    refine f_ireturn dX12_crates_24 rfl rfl ?_
    exact ⟨by rw [r_X12_crates, if_pos c_9], by rw [m_X12_crates, if_pos c_9]⟩
  · refine f_iconst (v := 0) dX12_crates_12 rfl ?_
    refine f_goto (tgt := 17) dX12_crates_13 (by decide) ?_
    refine f_cV hG (As := [_]) dX12_crates_17 rfl k_X12_fails rfl rfl ml_X12_63 im_X12_fails se_X12_fails rfl rfl (c_X12_failsF hG (d := 0) (Nat.le_refl _) _ _ _ (by decide)) (by omega) (Nat.le_of_ble_eq_true rfl) (Nat.zero_le _) (Nat.zero_le _) ?_
    refine f_if_eq (tgt := 25) dX12_crates_20 (by decide) (fun c_20 => ?_) (fun c_20 => absurd c_20 (by decide))
    refine f_aload_n dX12_crates_25 rfl rfl ?_
    refine s_getr hG fl_X12_39 dX12_crates_26 rfl rfl ?_
    refine f_iconst (v := 0) dX12_crates_29 rfl ?_
    refine f_iconst (v := 0) dX12_crates_30 rfl ?_
    refine s_iastore hG dX12_crates_31 rfl ((show ¬ ((0 : Int32) < 0 ∨ 256 ≤ (0 : Int32).toNatClampNeg) by decide)) ?_
    refine f_iconst (v := 1) dX12_crates_32 rfl ?_
    refine f_aload_n dX12_crates_33 rfl rfl ?_
    refine s_getr hG fl_X12_7 dX12_crates_34 rfl rfl ?_
    refine f_iconst (v := 3) dX12_crates_37 rfl ?_
    refine s_iaload hG dX12_crates_38 rfl ((show ¬ ((3 : Int32) < 0 ∨ 127 ≤ (3 : Int32).toNatClampNeg) by decide)) ?_
    refine f_ishl dX12_crates_39 ?_
    refine f_iconst (v := 1) dX12_crates_40 rfl ?_
    refine f_isub dX12_crates_41 ?_
    refine f_istore_n (ls' := [_, _, _, _, _, _, _]) dX12_crates_42 rfl (Nat.le_of_ble_eq_true rfl) rfl rfl ?_
    refine f_iconst (v := 1) dX12_crates_43 rfl ?_
    refine f_istore_n (ls' := [_, _, _, _, _, _, _]) dX12_crates_44 rfl (Nat.le_of_ble_eq_true rfl) rfl rfl ?_
    obtain ⟨Pv244, hI244, w244_0, w244_1, w244_2⟩ := (q0 c_9)
    refine lc_X12_cratesO hG (by omega) dv _ _ Pv244 w244_0 w244_1 w244_2 257 1 _ (by omega) (by omega) hI244 ?_
    refine f_mem (M := (l_X12_cratesO a (((1 : Int32) <<< (((fst1 (fst1 M 296 7 (0 : Int32)) 304 ((0 : Int32)).toNatClampNeg (0 : Int32)) 297 ((3 : Int32)).toNatClampNeg) &&& 31)) - (1 : Int32)) (fst1 (fst1 M 296 7 (0 : Int32)) 304 ((0 : Int32)).toNatClampNeg (0 : Int32)) 257 1)) (M' := (a2_X12_crates M a)) (by rw [a2_X12_crates]) ?_
    refine f_aload_n dX12_crates_189 rfl rfl ?_
    refine s_getr hG fl_X12_39 dX12_crates_190 rfl rfl ?_
    refine f_iload_n dX12_crates_193 rfl rfl ?_
    refine s_iaload hG dX12_crates_194 rfl ((q1 c_9)) ?_
    refine f_bipush (v := 100) dX12_crates_195 (by decide) ?_
    refine f_idiv dX12_crates_197 (by decide) ?_
    refine f_ireturn dX12_crates_198 rfl rfl ?_
    exact ⟨by rw [r_X12_crates, if_neg c_9], by rw [m_X12_crates, if_neg c_9]⟩

def r_X12_leastCrates (M : fM) (a : Int32) : Int32 := (r_X12_crates M a)
def m_X12_leastCrates (M : fM) (a : Int32) : fM := (m_X12_crates M a)
def N_X12_leastCrates (M : fM) (a : Int32) : Prop := (N_X12_crates M a)
set_option maxRecDepth 100000 in
set_option maxHeartbeats 4000000 in
theorem c_X12_leastCrates {G : fG} (hG : fOK G) {d : Nat} (hd : 2 ≤ d) (M : fM) (dv : UInt64) (a : Int32) (hN : N_X12_leastCrates M a) : fCt G z_X12_leastCrates d [.ref 296, .int a] (sS M dv) 0 0 (fD (some (.int (r_X12_leastCrates M a))) (sS (m_X12_leastCrates M a) dv)) := by
  refine fCt_to [some (.ref 296), some (.int a)] k_X12_leastCrates rfl (Nat.le_of_ble_eq_true rfl) rfl ?_
  have q0 : N_X12_crates M a := hN
  refine f_aload_n dX12_leastCrates_0 rfl rfl ?_
  refine f_iload_n dX12_leastCrates_1 rfl rfl ?_
  refine f_cV hG (As := [_]) dX12_leastCrates_2 rfl k_X12_crates rfl rfl ml_X12_139 im_X12_crates se_X12_crates rfl rfl (c_X12_crates hG (d := 1) (Nat.le_refl _) _ _ _ q0) (by omega) (Nat.le_of_ble_eq_true rfl) (Nat.zero_le _) (Nat.zero_le _) ?_
  refine f_ireturn dX12_leastCrates_5 rfl rfl ?_
  exact ⟨by rw [r_X12_leastCrates], by rw [m_X12_leastCrates]⟩

def r_X12_leastCratesByTrial (M : fM) (a : Int32) : Int32 := (r_X12_crates M a)
def m_X12_leastCratesByTrial (M : fM) (a : Int32) : fM := (m_X12_crates M a)
def N_X12_leastCratesByTrial (M : fM) (a : Int32) : Prop := (N_X12_crates M a)
set_option maxRecDepth 100000 in
set_option maxHeartbeats 4000000 in
theorem c_X12_leastCratesByTrial {G : fG} (hG : fOK G) {d : Nat} (hd : 2 ≤ d) (M : fM) (dv : UInt64) (a : Int32) (hN : N_X12_leastCratesByTrial M a) : fCt G z_X12_leastCratesByTrial d [.ref 296, .int a] (sS M dv) 0 0 (fD (some (.int (r_X12_leastCratesByTrial M a))) (sS (m_X12_leastCratesByTrial M a) dv)) := by
  refine fCt_to [some (.ref 296), some (.int a)] k_X12_leastCratesByTrial rfl (Nat.le_of_ble_eq_true rfl) rfl ?_
  have q0 : N_X12_crates M a := hN
  refine f_aload_n dX12_leastCratesByTrial_0 rfl rfl ?_
  refine f_iload_n dX12_leastCratesByTrial_1 rfl rfl ?_
  refine f_cV hG (As := [_]) dX12_leastCratesByTrial_2 rfl k_X12_crates rfl rfl ml_X12_139 im_X12_crates se_X12_crates rfl rfl (c_X12_crates hG (d := 1) (Nat.le_refl _) _ _ _ q0) (by omega) (Nat.le_of_ble_eq_true rfl) (Nat.zero_le _) (Nat.zero_le _) ?_
  refine f_ireturn dX12_leastCratesByTrial_5 rfl rfl ?_
  exact ⟨by rw [r_X12_leastCratesByTrial], by rw [m_X12_leastCratesByTrial]⟩

def l_X12_isTest (a : Int32) (M : fM) : Nat → Nat → Int32
  | 0, _ => 0
  | m + 1, j => (if (M 297 ((3 : Int32)).toNatClampNeg) ≤ (nI j) then (1 : Int32) else (if ((r_X12_inside M (nI j)) &&& a) = 0 then (0 : Int32) else (l_X12_isTest a M m (j + 1))))
set_option maxRecDepth 100000 in
set_option maxHeartbeats 4000000 in
theorem lp_X12_isTest {G : fG} (hG : fOK G) {d : Nat} (hd : 2 ≤ d) (M : fM) (dv : UInt64) (a : Int32) (q0 : ∀ (j : Nat), j ≤ 8 → ¬ ((M 297 ((3 : Int32)).toNatClampNeg) ≤ (nI j)) → j < 8) (q1 : ∀ (j : Nat), j ≤ 8 → ¬ ((M 297 ((3 : Int32)).toNatClampNeg) ≤ (nI j)) → N_X12_inside M (nI j)) : ∀ (m j : Nat), j ≤ 8 → 8 + 1 ≤ j + m → fV G z_X12_isTest d (fD (some (.int (l_X12_isTest a M m j))) (sS M dv)) 2 [some (.ref 296), some (.int a), some (.int (nI j))] [] (sS M dv) 0 0 := by
  intro m
  induction m with
  | zero => intros; omega
  | succ m ih =>
    intro j hj hm
    refine f_iload_n dX12_isTest_2 rfl rfl ?_
    refine f_aload_n dX12_isTest_3 rfl rfl ?_
    refine s_getr hG fl_X12_7 dX12_isTest_4 rfl rfl ?_
    refine f_iconst (v := 3) dX12_isTest_7 rfl ?_
    refine s_iaload hG dX12_isTest_8 rfl ((show ¬ ((3 : Int32) < 0 ∨ 127 ≤ (3 : Int32).toNatClampNeg) by decide)) ?_
    refine f_icmp_ge (tgt := 30) dX12_isTest_9 (by decide) (fun c_9 => ?_) (fun c_9 => ?_)
    · refine f_iconst (v := 1) dX12_isTest_30 rfl ?_
      refine f_ireturn dX12_isTest_31 rfl rfl ?_
      exact ⟨by rw [l_X12_isTest, if_pos c_9], rfl⟩
    · have hlt : j < 8 := (q0 j hj c_9)
      refine f_aload_n dX12_isTest_12 rfl rfl ?_
      refine f_iload_n dX12_isTest_13 rfl rfl ?_
      refine f_cV hG (As := [_]) dX12_isTest_14 rfl k_X12_inside rfl rfl ml_X12_126 im_X12_inside se_X12_inside rfl rfl (c_X12_inside hG (d := 1) (Nat.le_refl _) _ _ _ (q1 j hj c_9)) (by omega) (Nat.le_of_ble_eq_true rfl) (Nat.zero_le _) (Nat.zero_le _) ?_
      refine f_iload_n dX12_isTest_17 rfl rfl ?_
      refine f_iand dX12_isTest_18 ?_
      refine f_if_ne (tgt := 24) dX12_isTest_19 (by decide) (fun c_19 => ?_) (fun c_19 => ?_)
      · refine f_iinc (v := nI (j + 1)) (ls' := [_, _, _]) dX12_isTest_24 rfl (nI_1 j) (Nat.le_of_ble_eq_true rfl) rfl rfl ?_
        refine f_goto (tgt := 2) dX12_isTest_27 (by decide) ?_
        have e9 : l_X12_isTest a M (m + 1) j = l_X12_isTest a M m (j + 1) := by rw [l_X12_isTest, if_neg c_9, if_neg c_19]
        rw [e9]
        exact ih (j + 1) (by omega) (by omega)
      · refine f_iconst (v := 0) dX12_isTest_22 rfl ?_
        refine f_ireturn dX12_isTest_23 rfl rfl ?_
        exact ⟨by rw [l_X12_isTest, if_neg c_9, if_pos c_19], rfl⟩
def r_X12_isTest (M : fM) (a : Int32) : Int32 := (l_X12_isTest a M 9 0)
theorem n_l_X12_isTest (a : Int32) : ∀ (m j : Nat) (M : fM), narrow .boolean (.int (l_X12_isTest a M m j)) = .int (l_X12_isTest a M m j) := by
  intro m
  induction m with
  | zero => intros; unfold l_X12_isTest; first | rfl | (dsimp only; rfl)
  | succ m ih =>
    intro j M
    unfold l_X12_isTest
    repeat' split
    all_goals (try dsimp only)
    all_goals first | rfl | exact pk_nc _ | exact ih _ _ ..
theorem n_X12_isTest (M : fM) (a : Int32) : narrow .boolean (.int (r_X12_isTest M a)) = .int (r_X12_isTest M a) := by
  unfold r_X12_isTest
  exact n_l_X12_isTest ..
def N_X12_isTest (M : fM) (a : Int32) : Prop := (∀ (j : Nat), j ≤ 8 → ¬ ((M 297 ((3 : Int32)).toNatClampNeg) ≤ (nI j)) → j < 8) ∧ (∀ (j : Nat), j ≤ 8 → ¬ ((M 297 ((3 : Int32)).toNatClampNeg) ≤ (nI j)) → N_X12_inside M (nI j))
set_option maxRecDepth 100000 in
set_option maxHeartbeats 4000000 in
theorem c_X12_isTest {G : fG} (hG : fOK G) {d : Nat} (hd : 2 ≤ d) (M : fM) (dv : UInt64) (a : Int32) (hN : N_X12_isTest M a) : fCt G z_X12_isTest d [.ref 296, .int a] (sS M dv) 0 0 (fD (some (.int (r_X12_isTest M a))) (sS M dv)) := by
  refine fCt_to [some (.ref 296), some (.int a), none] k_X12_isTest rfl (Nat.le_of_ble_eq_true rfl) rfl ?_
  obtain ⟨q0, q1⟩ := hN
  refine f_iconst (v := 0) dX12_isTest_0 rfl ?_
  refine f_istore_n (ls' := [_, _, _]) dX12_isTest_1 rfl (Nat.le_of_ble_eq_true rfl) rfl rfl ?_
  exact lp_X12_isTest hG hd _ dv a q0 q1 9 0 (by omega) (by omega)

def l_X12_bestL (M : fM) : Nat → Int32 → Int32
  | 0, v1 => v1
  | i + 1, v1 => (if (r_X12_isTest M (nI i)) = 0 then (l_X12_bestL M i v1) else (if (r_X12_bits M v1) < (r_X12_bits M (nI i)) then (l_X12_bestL M i v1) else (l_X12_bestL M i (nI i))))
set_option maxRecDepth 100000 in
set_option maxHeartbeats 4000000 in
theorem lc_X12_bestL {G : fG} (hG : fOK G) {d : Nat} (hd : 3 ≤ d) (M : fM) (dv : UInt64) (q0 : ∀ (i : Nat) (v1 : Int32), i < 64 → N_X12_isTest M (nI i)) {Q : fR → fS → Prop} {kc ks : Nat} : ∀ (j : Nat) (v1 : Int32), j ≤ 64 → fV G z_X12_best d Q 44 [some (.ref 296), some (.int (l_X12_bestL M j v1)), none] [] (sS M dv) kc ks → fV G z_X12_best d Q 13 [some (.ref 296), some (.int v1), some (.int (nI j - 1))] [] (sS M dv) kc ks := by
  intro j
  induction j with
  | zero =>
    intro v1 hj kk
    refine f_iload_n dX12_best_13 rfl rfl ?_
    refine f_if_lt (tgt := 44) dX12_best_14 (by decide) (fun c_14 => ?_) (fun c_14 => absurd (show (nI 0 - 1 : Int32) < 0 by decide) c_14)
    have e9 : l_X12_bestL M 0 v1 = v1 := by rw [l_X12_bestL]
    rw [e9] at kk
    refine f_drop 2 ?_
    exact kk
  | succ i ih =>
    intro v1 hj kk
    refine f_cg (ls' := [some (.ref 296), some (.int v1), some (.int (nI i))]) (by rw [nI_pred]) rfl rfl ?_
    refine f_iload_n dX12_best_13 rfl rfl ?_
    refine f_if_lt (tgt := 44) dX12_best_14 (by decide) (fun c_14 => absurd c_14 (nI_pos (by omega))) (fun c_14 => ?_)
    refine f_aload_n dX12_best_17 rfl rfl ?_
    refine f_iload_n dX12_best_18 rfl rfl ?_
    refine f_cV hG (As := [_]) dX12_best_19 rfl k_X12_isTest rfl rfl ml_X12_142 im_X12_isTest se_X12_isTest rfl rfl (c_X12_isTest hG (d := 2) (Nat.le_refl _) _ _ _ (q0 i v1 (by omega))) (by omega) (Nat.le_of_ble_eq_true rfl) (Nat.zero_le _) (Nat.zero_le _) ?_
    refine f_if_eq (tgt := 38) dX12_best_22 (by decide) (fun c_22 => ?_) (fun c_22 => ?_)
    · refine f_iinc (v := nI i - 1) (ls' := [_, _, _]) dX12_best_38 rfl (dec1 _) (Nat.le_of_ble_eq_true rfl) rfl rfl ?_
      refine f_goto (tgt := 13) dX12_best_41 (by decide) ?_
      have e9 : l_X12_bestL M (i + 1) v1 = l_X12_bestL M i v1 := by rw [l_X12_bestL, if_pos c_22]
      exact ih v1 (by omega) (by rw [e9] at kk; exact kk)
    · refine f_iload_n dX12_best_25 rfl rfl ?_
      refine f_cS hG (As := [_]) dX12_best_26 rfl k_X12_bits rfl rfl ml_X12_145 sm_X12_bits (c_X12_bits hG (d := 0) (Nat.le_refl _) _ _ _) (by omega) (Nat.le_of_ble_eq_true rfl) (Nat.zero_le _) (Nat.zero_le _) ?_
      refine f_iload_n dX12_best_29 rfl rfl ?_
      refine f_cS hG (As := [_]) dX12_best_30 rfl k_X12_bits rfl rfl ml_X12_145 sm_X12_bits (c_X12_bits hG (d := 0) (Nat.le_refl _) _ _ _) (by omega) (Nat.le_of_ble_eq_true rfl) (Nat.zero_le _) (Nat.zero_le _) ?_
      refine f_icmp_gt (tgt := 38) dX12_best_33 (by decide) (fun c_33 => ?_) (fun c_33 => ?_)
      · refine f_iinc (v := nI i - 1) (ls' := [_, _, _]) dX12_best_38 rfl (dec1 _) (Nat.le_of_ble_eq_true rfl) rfl rfl ?_
        refine f_goto (tgt := 13) dX12_best_41 (by decide) ?_
        have e9 : l_X12_bestL M (i + 1) v1 = l_X12_bestL M i v1 := by rw [l_X12_bestL, if_neg c_22, if_pos c_33]
        exact ih v1 (by omega) (by rw [e9] at kk; exact kk)
      · refine f_iload_n dX12_best_36 rfl rfl ?_
        refine f_istore_n (ls' := [_, _, _]) dX12_best_37 rfl (Nat.le_of_ble_eq_true rfl) rfl rfl ?_
        refine f_iinc (v := nI i - 1) (ls' := [_, _, _]) dX12_best_38 rfl (dec1 _) (Nat.le_of_ble_eq_true rfl) rfl rfl ?_
        refine f_goto (tgt := 13) dX12_best_41 (by decide) ?_
        have e9 : l_X12_bestL M (i + 1) v1 = l_X12_bestL M i (nI i) := by rw [l_X12_bestL, if_neg c_22, if_neg c_33]
        exact ih (nI i) (by omega) (by rw [e9] at kk; exact kk)

def r_X12_best (M : fM) : Int32 := (l_X12_bestL M (((1 : Int32) <<< ((M 297 ((0 : Int32)).toNatClampNeg) &&& 31))).toNatClampNeg (((1 : Int32) <<< ((M 297 ((0 : Int32)).toNatClampNeg) &&& 31)) - (1 : Int32)))
def N_X12_best (M : fM) : Prop := (sm ((1 : Int32) <<< ((M 297 ((0 : Int32)).toNatClampNeg) &&& 31)) 65) ∧ (∀ (i_251 : Nat) (v1_251 : Int32), i_251 < 64 → N_X12_isTest M (nI i_251))
set_option maxRecDepth 100000 in
set_option maxHeartbeats 4000000 in
theorem c_X12_best {G : fG} (hG : fOK G) {d : Nat} (hd : 3 ≤ d) (M : fM) (dv : UInt64) (hN : N_X12_best M) : fCt G z_X12_best d [.ref 296] (sS M dv) 0 0 (fD (some (.int (r_X12_best M))) (sS M dv)) := by
  refine fCt_to [some (.ref 296), none, none] k_X12_best rfl (Nat.le_of_ble_eq_true rfl) rfl ?_
  obtain ⟨q0, q1⟩ := hN
  refine f_iconst (v := 1) dX12_best_0 rfl ?_
  refine f_aload_n dX12_best_1 rfl rfl ?_
  refine s_getr hG fl_X12_7 dX12_best_2 rfl rfl ?_
  refine f_iconst (v := 0) dX12_best_5 rfl ?_
  refine s_iaload hG dX12_best_6 rfl ((show ¬ ((0 : Int32) < 0 ∨ 127 ≤ (0 : Int32).toNatClampNeg) by decide)) ?_
  refine f_ishl dX12_best_7 ?_
  refine f_iconst (v := 1) dX12_best_8 rfl ?_
  refine f_isub dX12_best_9 ?_
  refine f_istore_n (ls' := [_, _, _]) dX12_best_10 rfl (Nat.le_of_ble_eq_true rfl) rfl rfl ?_
  refine f_iload_n dX12_best_11 rfl rfl ?_
  refine f_istore_n (ls' := [_, _, _]) dX12_best_12 rfl (Nat.le_of_ble_eq_true rfl) rfl rfl ?_
  refine f_cg (ls' := [some (.ref 296), some (.int (((1 : Int32) <<< ((M 297 ((0 : Int32)).toNatClampNeg) &&& 31)) - (1 : Int32))), some (.int (nI (((1 : Int32) <<< ((M 297 ((0 : Int32)).toNatClampNeg) &&& 31))).toNatClampNeg - 1))]) (by rw [show (((1 : Int32) <<< ((M 297 ((0 : Int32)).toNatClampNeg) &&& 31)) - (1 : Int32)) = nI (((1 : Int32) <<< ((M 297 ((0 : Int32)).toNatClampNeg) &&& 31))).toNatClampNeg - 1 from congrArg (fun q => q - 1) (q0).1]) rfl rfl ?_
  refine lc_X12_bestL hG (by omega) _ dv q1 (((1 : Int32) <<< ((M 297 ((0 : Int32)).toNatClampNeg) &&& 31))).toNatClampNeg _ (Nat.le_of_lt_succ (q0).2) ?_
  refine f_iload_n dX12_best_44 rfl rfl ?_
  refine f_ireturn dX12_best_45 rfl rfl ?_
  exact ⟨by rw [r_X12_best], rfl⟩

def r_X12_fewestTests (M : fM) : Int32 := (r_X12_bits (fst1 M 296 7 (0 : Int32)) (r_X12_best (fst1 M 296 7 (0 : Int32))))
def m_X12_fewestTests (M : fM) : fM := (fst1 M 296 7 (0 : Int32))
def N_X12_fewestTests (M : fM) : Prop := (N_X12_best (fst1 M 296 7 (0 : Int32)))
set_option maxRecDepth 100000 in
set_option maxHeartbeats 4000000 in
theorem c_X12_fewestTests {G : fG} (hG : fOK G) {d : Nat} (hd : 4 ≤ d) (M : fM) (dv : UInt64) (hN : N_X12_fewestTests M) : fCt G z_X12_fewestTests d [.ref 296] (sS M dv) 0 0 (fD (some (.int (r_X12_fewestTests M))) (sS (m_X12_fewestTests M) dv)) := by
  refine fCt_to [some (.ref 296)] k_X12_fewestTests rfl (Nat.le_of_ble_eq_true rfl) rfl ?_
  have q0 : N_X12_best (fst1 M 296 7 (0 : Int32)) := hN
  refine f_aload_n dX12_fewestTests_0 rfl rfl ?_
  refine f_iconst (v := 0) dX12_fewestTests_1 rfl ?_
  refine s_puti hG fl_X12_45 (Or.inl rfl) dX12_fewestTests_2 rfl rfl rfl rfl ?_
  refine f_aload_n dX12_fewestTests_5 rfl rfl ?_
  refine f_cV hG (As := []) dX12_fewestTests_6 rfl k_X12_best rfl rfl ml_X12_148 im_X12_best se_X12_best rfl rfl (c_X12_best hG (d := 3) (Nat.le_refl _) _ _ q0) (by omega) (Nat.le_of_ble_eq_true rfl) (Nat.zero_le _) (Nat.zero_le _) ?_
  refine f_cS hG (As := [_]) dX12_fewestTests_9 rfl k_X12_bits rfl rfl ml_X12_145 sm_X12_bits (c_X12_bits hG (d := 0) (Nat.le_refl _) _ _ _) (by omega) (Nat.le_of_ble_eq_true rfl) (Nat.zero_le _) (Nat.zero_le _) ?_
  refine f_ireturn dX12_fewestTests_12 rfl rfl ?_
  exact ⟨by rw [r_X12_fewestTests], by rw [m_X12_fewestTests]⟩

def r_X12_fewestTestsByBranching (M : fM) : Int32 := (r_X12_bits (fst1 M 296 7 (0 : Int32)) (r_X12_best (fst1 M 296 7 (0 : Int32))))
def m_X12_fewestTestsByBranching (M : fM) : fM := (fst1 M 296 7 (0 : Int32))
def N_X12_fewestTestsByBranching (M : fM) : Prop := (N_X12_best (fst1 M 296 7 (0 : Int32)))
set_option maxRecDepth 100000 in
set_option maxHeartbeats 4000000 in
theorem c_X12_fewestTestsByBranching {G : fG} (hG : fOK G) {d : Nat} (hd : 4 ≤ d) (M : fM) (dv : UInt64) (hN : N_X12_fewestTestsByBranching M) : fCt G z_X12_fewestTestsByBranching d [.ref 296] (sS M dv) 0 0 (fD (some (.int (r_X12_fewestTestsByBranching M))) (sS (m_X12_fewestTestsByBranching M) dv)) := by
  refine fCt_to [some (.ref 296)] k_X12_fewestTestsByBranching rfl (Nat.le_of_ble_eq_true rfl) rfl ?_
  have q0 : N_X12_best (fst1 M 296 7 (0 : Int32)) := hN
  refine f_aload_n dX12_fewestTestsByBranching_0 rfl rfl ?_
  refine f_iconst (v := 0) dX12_fewestTestsByBranching_1 rfl ?_
  refine s_puti hG fl_X12_45 (Or.inl rfl) dX12_fewestTestsByBranching_2 rfl rfl rfl rfl ?_
  refine f_aload_n dX12_fewestTestsByBranching_5 rfl rfl ?_
  refine f_cV hG (As := []) dX12_fewestTestsByBranching_6 rfl k_X12_best rfl rfl ml_X12_148 im_X12_best se_X12_best rfl rfl (c_X12_best hG (d := 3) (Nat.le_refl _) _ _ q0) (by omega) (Nat.le_of_ble_eq_true rfl) (Nat.zero_le _) (Nat.zero_le _) ?_
  refine f_cS hG (As := [_]) dX12_fewestTestsByBranching_9 rfl k_X12_bits rfl rfl ml_X12_145 sm_X12_bits (c_X12_bits hG (d := 0) (Nat.le_refl _) _ _ _) (by omega) (Nat.le_of_ble_eq_true rfl) (Nat.zero_le _) (Nat.zero_le _) ?_
  refine f_ireturn dX12_fewestTestsByBranching_12 rfl rfl ?_
  exact ⟨by rw [r_X12_fewestTestsByBranching], by rw [m_X12_fewestTestsByBranching]⟩

def r_X12_isTested (M : fM) (a : Int32) : Int32 := (if (r_X12_isRaw M a) = 0 then (0 : Int32) else (if (((r_X12_best (fst1 M 296 7 (0 : Int32))) >>> (a &&& 31)) &&& (1 : Int32)) = (1 : Int32) then (1 : Int32) else (0 : Int32)))
def m_X12_isTested (M : fM) (a : Int32) : fM := (if (r_X12_isRaw M a) = 0 then (fst1 M 296 7 (1 : Int32)) else (if (((r_X12_best (fst1 M 296 7 (0 : Int32))) >>> (a &&& 31)) &&& (1 : Int32)) = (1 : Int32) then (fst1 M 296 7 (0 : Int32)) else (fst1 M 296 7 (0 : Int32))))
theorem n_X12_isTested (M : fM) (a : Int32) : narrow .boolean (.int (r_X12_isTested M a)) = .int (r_X12_isTested M a) := by
  unfold r_X12_isTested
  repeat' with_reducible apply n_ite
  all_goals first | rfl | exact pk_nc _
def N_X12_isTested (M : fM) (a : Int32) : Prop := (¬ ((r_X12_isRaw M a) = 0) → N_X12_best (fst1 M 296 7 (0 : Int32)))
set_option maxRecDepth 100000 in
set_option maxHeartbeats 4000000 in
theorem c_X12_isTested {G : fG} (hG : fOK G) {d : Nat} (hd : 4 ≤ d) (M : fM) (dv : UInt64) (a : Int32) (hN : N_X12_isTested M a) : fCt G z_X12_isTested d [.ref 296, .int a] (sS M dv) 0 0 (fD (some (.int (r_X12_isTested M a))) (sS (m_X12_isTested M a) dv)) := by
  refine fCt_to [some (.ref 296), some (.int a)] k_X12_isTested rfl (Nat.le_of_ble_eq_true rfl) rfl ?_
  have q0 : ¬ ((r_X12_isRaw M a) = 0) → N_X12_best (fst1 M 296 7 (0 : Int32)) := hN
  refine f_aload_n dX12_isTested_0 rfl rfl ?_
  refine f_aload_n dX12_isTested_1 rfl rfl ?_
  refine f_iload_n dX12_isTested_2 rfl rfl ?_
  refine f_cV hG (As := [_]) dX12_isTested_3 rfl k_X12_isRaw rfl rfl ml_X12_71 im_X12_isRaw se_X12_isRaw rfl rfl (c_X12_isRaw hG (d := 1) (Nat.le_refl _) _ _ _) (by omega) (Nat.le_of_ble_eq_true rfl) (Nat.zero_le _) (Nat.zero_le _) ?_
  refine f_if_eq (tgt := 13) dX12_isTested_6 (by decide) (fun c_6 => ?_) (fun c_6 => ?_)
  · refine f_iconst (v := 1) dX12_isTested_13 rfl ?_
    refine f_cV hG (As := [_]) dX12_isTested_14 rfl k_X12_fails rfl rfl ml_X12_63 im_X12_fails se_X12_fails rfl rfl (c_X12_failsT hG (d := 0) (Nat.le_refl _) _ _ _ (by decide)) (by omega) (Nat.le_of_ble_eq_true rfl) (Nat.zero_le _) (Nat.zero_le _) ?_
    refine f_if_ne (tgt := 36) dX12_isTested_17 (by decide) (fun c_17 => ?_) (fun c_17 => absurd c_17 (by decide))
    refine f_iconst (v := 0) dX12_isTested_36 rfl ?_
    refine f_ireturn dX12_isTested_37 rfl rfl ?_
    exact ⟨by rw [r_X12_isTested, if_pos c_6], by rw [m_X12_isTested, if_pos c_6]⟩
  · refine f_iconst (v := 0) dX12_isTested_9 rfl ?_
    refine f_goto (tgt := 14) dX12_isTested_10 (by decide) ?_
    refine f_cV hG (As := [_]) dX12_isTested_14 rfl k_X12_fails rfl rfl ml_X12_63 im_X12_fails se_X12_fails rfl rfl (c_X12_failsF hG (d := 0) (Nat.le_refl _) _ _ _ (by decide)) (by omega) (Nat.le_of_ble_eq_true rfl) (Nat.zero_le _) (Nat.zero_le _) ?_
    refine f_if_ne (tgt := 36) dX12_isTested_17 (by decide) (fun c_17 => absurd c_17 (by decide)) (fun c_17 => ?_)
    refine f_aload_n dX12_isTested_20 rfl rfl ?_
    refine f_cV hG (As := []) dX12_isTested_21 rfl k_X12_best rfl rfl ml_X12_148 im_X12_best se_X12_best rfl rfl (c_X12_best hG (d := 3) (Nat.le_refl _) _ _ (q0 c_6)) (by omega) (Nat.le_of_ble_eq_true rfl) (Nat.zero_le _) (Nat.zero_le _) ?_
    refine f_iload_n dX12_isTested_24 rfl rfl ?_
    refine f_ishr dX12_isTested_25 ?_
    refine f_iconst (v := 1) dX12_isTested_26 rfl ?_
    refine f_iand dX12_isTested_27 ?_
    refine f_iconst (v := 1) dX12_isTested_28 rfl ?_
    refine f_icmp_ne (tgt := 36) dX12_isTested_29 (by decide) (fun c_29 => ?_) (fun c_29 => ?_)
    · refine f_iconst (v := 0) dX12_isTested_36 rfl ?_
      refine f_ireturn dX12_isTested_37 rfl rfl ?_
      exact ⟨by rw [r_X12_isTested, if_neg c_6, if_neg c_29], by rw [m_X12_isTested, if_neg c_6, if_neg c_29]⟩
    · refine f_iconst (v := 1) dX12_isTested_32 rfl ?_
      refine f_goto (tgt := 37) dX12_isTested_33 (by decide) ?_
      refine f_ireturn dX12_isTested_37 rfl rfl ?_
      exact ⟨by rw [r_X12_isTested, if_neg c_6, if_pos c_29], by rw [m_X12_isTested, if_neg c_6, if_pos c_29]⟩

def r_X12_dayCount (M : fM) : Int32 := ((fst1 M 296 7 (0 : Int32)) 297 ((5 : Int32)).toNatClampNeg)
def m_X12_dayCount (M : fM) : fM := (fst1 M 296 7 (0 : Int32))
set_option maxRecDepth 100000 in
set_option maxHeartbeats 4000000 in
theorem c_X12_dayCount {G : fG} (hG : fOK G) {d : Nat} (hd : 0 ≤ d) (M : fM) (dv : UInt64) : fCt G z_X12_dayCount d [.ref 296] (sS M dv) 0 0 (fD (some (.int (r_X12_dayCount M))) (sS (m_X12_dayCount M) dv)) := by
  refine fCt_to [some (.ref 296)] k_X12_dayCount rfl (Nat.le_of_ble_eq_true rfl) rfl ?_
  refine f_aload_n dX12_dayCount_0 rfl rfl ?_
  refine f_iconst (v := 0) dX12_dayCount_1 rfl ?_
  refine s_puti hG fl_X12_45 (Or.inl rfl) dX12_dayCount_2 rfl rfl rfl rfl ?_
  refine f_aload_n dX12_dayCount_5 rfl rfl ?_
  refine s_getr hG fl_X12_7 dX12_dayCount_6 rfl rfl ?_
  refine f_iconst (v := 5) dX12_dayCount_9 rfl ?_
  refine s_iaload hG dX12_dayCount_10 rfl ((show ¬ ((5 : Int32) < 0 ∨ 127 ≤ (5 : Int32).toNatClampNeg) by decide)) ?_
  refine f_ireturn dX12_dayCount_11 rfl rfl ?_
  exact ⟨by rw [r_X12_dayCount], by rw [m_X12_dayCount]⟩

def r_X12_filled (M : fM) : Int32 := ((fst1 M 296 7 (0 : Int32)) 297 ((7 : Int32)).toNatClampNeg)
def m_X12_filled (M : fM) : fM := (fst1 M 296 7 (0 : Int32))
set_option maxRecDepth 100000 in
set_option maxHeartbeats 4000000 in
theorem c_X12_filled {G : fG} (hG : fOK G) {d : Nat} (hd : 0 ≤ d) (M : fM) (dv : UInt64) : fCt G z_X12_filled d [.ref 296] (sS M dv) 0 0 (fD (some (.int (r_X12_filled M))) (sS (m_X12_filled M) dv)) := by
  refine fCt_to [some (.ref 296)] k_X12_filled rfl (Nat.le_of_ble_eq_true rfl) rfl ?_
  refine f_aload_n dX12_filled_0 rfl rfl ?_
  refine f_iconst (v := 0) dX12_filled_1 rfl ?_
  refine s_puti hG fl_X12_45 (Or.inl rfl) dX12_filled_2 rfl rfl rfl rfl ?_
  refine f_aload_n dX12_filled_5 rfl rfl ?_
  refine s_getr hG fl_X12_7 dX12_filled_6 rfl rfl ?_
  refine f_bipush (v := 7) dX12_filled_9 (by decide) ?_
  refine s_iaload hG dX12_filled_11 rfl ((show ¬ ((7 : Int32) < 0 ∨ 127 ≤ (7 : Int32).toNatClampNeg) by decide)) ?_
  refine f_ireturn dX12_filled_12 rfl rfl ?_
  exact ⟨by rw [r_X12_filled], by rw [m_X12_filled]⟩

def l_X12_keptJars (M : fM) : Nat → Nat → Int32 → Int32
  | 0, _, _ => 0
  | m + 1, j, v1 => (if (M 297 ((3 : Int32)).toNatClampNeg) ≤ (nI j) then v1 else (l_X12_keptJars M m (j + 1) (v1 + (r_X12_by M (nI j) (1 : Int32)))))
set_option maxRecDepth 100000 in
set_option maxHeartbeats 4000000 in
theorem lp_X12_keptJars {G : fG} (hG : fOK G) {d : Nat} (hd : 1 ≤ d) (M : fM) (dv : UInt64) (q0 : ∀ (j : Nat) (v1 : Int32), j ≤ 8 → ¬ ((M 297 ((3 : Int32)).toNatClampNeg) ≤ (nI j)) → j < 8) (q1 : ∀ (j : Nat) (v1 : Int32), j ≤ 8 → ¬ ((M 297 ((3 : Int32)).toNatClampNeg) ≤ (nI j)) → N_X12_by M (nI j) (1 : Int32)) : ∀ (m j : Nat) (v1 : Int32), j ≤ 8 → 8 + 1 ≤ j + m → fV G z_X12_keptJars d (fD (some (.int (l_X12_keptJars M m j v1))) (sS M dv)) 4 [some (.ref 296), some (.int v1), some (.int (nI j))] [] (sS M dv) 0 0 := by
  intro m
  induction m with
  | zero => intros; omega
  | succ m ih =>
    intro j v1 hj hm
    refine f_iload_n dX12_keptJars_4 rfl rfl ?_
    refine f_aload_n dX12_keptJars_5 rfl rfl ?_
    refine s_getr hG fl_X12_7 dX12_keptJars_6 rfl rfl ?_
    refine f_iconst (v := 3) dX12_keptJars_9 rfl ?_
    refine s_iaload hG dX12_keptJars_10 rfl ((show ¬ ((3 : Int32) < 0 ∨ 127 ≤ (3 : Int32).toNatClampNeg) by decide)) ?_
    refine f_icmp_ge (tgt := 29) dX12_keptJars_11 (by decide) (fun c_11 => ?_) (fun c_11 => ?_)
    · refine f_iload_n dX12_keptJars_29 rfl rfl ?_
      refine f_ireturn dX12_keptJars_30 rfl rfl ?_
      exact ⟨by rw [l_X12_keptJars, if_pos c_11], rfl⟩
    · have hlt : j < 8 := (q0 j v1 hj c_11)
      refine f_iload_n dX12_keptJars_14 rfl rfl ?_
      refine f_aload_n dX12_keptJars_15 rfl rfl ?_
      refine f_iload_n dX12_keptJars_16 rfl rfl ?_
      refine f_iconst (v := 1) dX12_keptJars_17 rfl ?_
      refine f_cV hG (As := [_, _]) dX12_keptJars_18 rfl k_X12_by rfl rfl ml_X12_107 im_X12_by se_X12_by rfl rfl (c_X12_by hG (d := 0) (Nat.le_refl _) _ _ _ _ (q1 j v1 hj c_11)) (by omega) (Nat.le_of_ble_eq_true rfl) (Nat.zero_le _) (Nat.zero_le _) ?_
      refine f_iadd dX12_keptJars_21 ?_
      refine f_istore_n (ls' := [_, _, _]) dX12_keptJars_22 rfl (Nat.le_of_ble_eq_true rfl) rfl rfl ?_
      refine f_iinc (v := nI (j + 1)) (ls' := [_, _, _]) dX12_keptJars_23 rfl (nI_1 j) (Nat.le_of_ble_eq_true rfl) rfl rfl ?_
      refine f_goto (tgt := 4) dX12_keptJars_26 (by decide) ?_
      have e9 : l_X12_keptJars M (m + 1) j v1 = l_X12_keptJars M m (j + 1) (v1 + (r_X12_by M (nI j) (1 : Int32))) := by rw [l_X12_keptJars, if_neg c_11]
      rw [e9]
      exact ih (j + 1) (v1 + (r_X12_by M (nI j) (1 : Int32))) (by omega) (by omega)
def r_X12_keptJars (M : fM) : Int32 := (l_X12_keptJars M 9 0 (0 : Int32))
def N_X12_keptJars (M : fM) : Prop := (∀ (j : Nat) (v1 : Int32), j ≤ 8 → ¬ ((M 297 ((3 : Int32)).toNatClampNeg) ≤ (nI j)) → j < 8) ∧ (∀ (j : Nat) (v1 : Int32), j ≤ 8 → ¬ ((M 297 ((3 : Int32)).toNatClampNeg) ≤ (nI j)) → N_X12_by M (nI j) (1 : Int32))
set_option maxRecDepth 100000 in
set_option maxHeartbeats 4000000 in
theorem c_X12_keptJars {G : fG} (hG : fOK G) {d : Nat} (hd : 1 ≤ d) (M : fM) (dv : UInt64) (hN : N_X12_keptJars M) : fCt G z_X12_keptJars d [.ref 296] (sS M dv) 0 0 (fD (some (.int (r_X12_keptJars M))) (sS M dv)) := by
  refine fCt_to [some (.ref 296), none, none] k_X12_keptJars rfl (Nat.le_of_ble_eq_true rfl) rfl ?_
  obtain ⟨q0, q1⟩ := hN
  refine f_iconst (v := 0) dX12_keptJars_0 rfl ?_
  refine f_istore_n (ls' := [_, _, _]) dX12_keptJars_1 rfl (Nat.le_of_ble_eq_true rfl) rfl rfl ?_
  refine f_iconst (v := 0) dX12_keptJars_2 rfl ?_
  refine f_istore_n (ls' := [_, _, _]) dX12_keptJars_3 rfl (Nat.le_of_ble_eq_true rfl) rfl rfl ?_
  exact lp_X12_keptJars hG hd _ dv q0 q1 9 0 _ (by omega) (by omega)

def r_X12_stored (M : fM) : Int32 := (r_X12_keptJars (fst1 M 296 7 (0 : Int32)))
def m_X12_stored (M : fM) : fM := (fst1 M 296 7 (0 : Int32))
def N_X12_stored (M : fM) : Prop := (N_X12_keptJars (fst1 M 296 7 (0 : Int32)))
set_option maxRecDepth 100000 in
set_option maxHeartbeats 4000000 in
theorem c_X12_stored {G : fG} (hG : fOK G) {d : Nat} (hd : 2 ≤ d) (M : fM) (dv : UInt64) (hN : N_X12_stored M) : fCt G z_X12_stored d [.ref 296] (sS M dv) 0 0 (fD (some (.int (r_X12_stored M))) (sS (m_X12_stored M) dv)) := by
  refine fCt_to [some (.ref 296)] k_X12_stored rfl (Nat.le_of_ble_eq_true rfl) rfl ?_
  have q0 : N_X12_keptJars (fst1 M 296 7 (0 : Int32)) := hN
  refine f_aload_n dX12_stored_0 rfl rfl ?_
  refine f_iconst (v := 0) dX12_stored_1 rfl ?_
  refine s_puti hG fl_X12_45 (Or.inl rfl) dX12_stored_2 rfl rfl rfl rfl ?_
  refine f_aload_n dX12_stored_5 rfl rfl ?_
  refine f_cV hG (As := []) dX12_stored_6 rfl k_X12_keptJars rfl rfl ml_X12_151 im_X12_keptJars se_X12_keptJars rfl rfl (c_X12_keptJars hG (d := 1) (Nat.le_refl _) _ _ q0) (by omega) (Nat.le_of_ble_eq_true rfl) (Nat.zero_le _) (Nat.zero_le _) ?_
  refine f_ireturn dX12_stored_9 rfl rfl ?_
  exact ⟨by rw [r_X12_stored], by rw [m_X12_stored]⟩

def r_X12_shipped (M : fM) : Int32 := ((fst1 M 296 7 (0 : Int32)) 297 ((8 : Int32)).toNatClampNeg)
def m_X12_shipped (M : fM) : fM := (fst1 M 296 7 (0 : Int32))
set_option maxRecDepth 100000 in
set_option maxHeartbeats 4000000 in
theorem c_X12_shipped {G : fG} (hG : fOK G) {d : Nat} (hd : 0 ≤ d) (M : fM) (dv : UInt64) : fCt G z_X12_shipped d [.ref 296] (sS M dv) 0 0 (fD (some (.int (r_X12_shipped M))) (sS (m_X12_shipped M) dv)) := by
  refine fCt_to [some (.ref 296)] k_X12_shipped rfl (Nat.le_of_ble_eq_true rfl) rfl ?_
  refine f_aload_n dX12_shipped_0 rfl rfl ?_
  refine f_iconst (v := 0) dX12_shipped_1 rfl ?_
  refine s_puti hG fl_X12_45 (Or.inl rfl) dX12_shipped_2 rfl rfl rfl rfl ?_
  refine f_aload_n dX12_shipped_5 rfl rfl ?_
  refine s_getr hG fl_X12_7 dX12_shipped_6 rfl rfl ?_
  refine f_bipush (v := 8) dX12_shipped_9 (by decide) ?_
  refine s_iaload hG dX12_shipped_11 rfl ((show ¬ ((8 : Int32) < 0 ∨ 127 ≤ (8 : Int32).toNatClampNeg) by decide)) ?_
  refine f_ireturn dX12_shipped_12 rfl rfl ?_
  exact ⟨by rw [r_X12_shipped], by rw [m_X12_shipped]⟩

def r_X12_recalled (M : fM) : Int32 := ((fst1 M 296 7 (0 : Int32)) 297 ((9 : Int32)).toNatClampNeg)
def m_X12_recalled (M : fM) : fM := (fst1 M 296 7 (0 : Int32))
set_option maxRecDepth 100000 in
set_option maxHeartbeats 4000000 in
theorem c_X12_recalled {G : fG} (hG : fOK G) {d : Nat} (hd : 0 ≤ d) (M : fM) (dv : UInt64) : fCt G z_X12_recalled d [.ref 296] (sS M dv) 0 0 (fD (some (.int (r_X12_recalled M))) (sS (m_X12_recalled M) dv)) := by
  refine fCt_to [some (.ref 296)] k_X12_recalled rfl (Nat.le_of_ble_eq_true rfl) rfl ?_
  refine f_aload_n dX12_recalled_0 rfl rfl ?_
  refine f_iconst (v := 0) dX12_recalled_1 rfl ?_
  refine s_puti hG fl_X12_45 (Or.inl rfl) dX12_recalled_2 rfl rfl rfl rfl ?_
  refine f_aload_n dX12_recalled_5 rfl rfl ?_
  refine s_getr hG fl_X12_7 dX12_recalled_6 rfl rfl ?_
  refine f_bipush (v := 9) dX12_recalled_9 (by decide) ?_
  refine s_iaload hG dX12_recalled_11 rfl ((show ¬ ((9 : Int32) < 0 ∨ 127 ≤ (9 : Int32).toNatClampNeg) by decide)) ?_
  refine f_ireturn dX12_recalled_12 rfl rfl ?_
  exact ⟨by rw [r_X12_recalled], by rw [m_X12_recalled]⟩

def r_X12_spoiled (M : fM) : Int32 := ((fst1 M 296 7 (0 : Int32)) 297 ((10 : Int32)).toNatClampNeg)
def m_X12_spoiled (M : fM) : fM := (fst1 M 296 7 (0 : Int32))
set_option maxRecDepth 100000 in
set_option maxHeartbeats 4000000 in
theorem c_X12_spoiled {G : fG} (hG : fOK G) {d : Nat} (hd : 0 ≤ d) (M : fM) (dv : UInt64) : fCt G z_X12_spoiled d [.ref 296] (sS M dv) 0 0 (fD (some (.int (r_X12_spoiled M))) (sS (m_X12_spoiled M) dv)) := by
  refine fCt_to [some (.ref 296)] k_X12_spoiled rfl (Nat.le_of_ble_eq_true rfl) rfl ?_
  refine f_aload_n dX12_spoiled_0 rfl rfl ?_
  refine f_iconst (v := 0) dX12_spoiled_1 rfl ?_
  refine s_puti hG fl_X12_45 (Or.inl rfl) dX12_spoiled_2 rfl rfl rfl rfl ?_
  refine f_aload_n dX12_spoiled_5 rfl rfl ?_
  refine s_getr hG fl_X12_7 dX12_spoiled_6 rfl rfl ?_
  refine f_bipush (v := 10) dX12_spoiled_9 (by decide) ?_
  refine s_iaload hG dX12_spoiled_11 rfl ((show ¬ ((10 : Int32) < 0 ∨ 127 ≤ (10 : Int32).toNatClampNeg) by decide)) ?_
  refine f_ireturn dX12_spoiled_12 rfl rfl ?_
  exact ⟨by rw [r_X12_spoiled], by rw [m_X12_spoiled]⟩

def l_X12_meanPressureL (M : fM) : Nat → Nat → Int32 → Int32
  | 0, _, v1 => v1
  | m + 1, j, v1 => (if (M 297 ((3 : Int32)).toNatClampNeg) ≤ (nI j) then v1 else (l_X12_meanPressureL M m (j + 1) (v1 + (r_X12_by M (nI j) (5 : Int32)))))
set_option maxRecDepth 100000 in
set_option maxHeartbeats 4000000 in
theorem lc_X12_meanPressureL {G : fG} (hG : fOK G) {d : Nat} (hd : 1 ≤ d) (M : fM) (dv : UInt64) (q0 : ∀ (j : Nat) (v1 : Int32), j ≤ 8 → ¬ ((M 297 ((3 : Int32)).toNatClampNeg) ≤ (nI j)) → j < 8) (q1 : ∀ (j : Nat) (v1 : Int32), j ≤ 8 → ¬ ((M 297 ((3 : Int32)).toNatClampNeg) ≤ (nI j)) → N_X12_by M (nI j) (5 : Int32)) {Q : fR → fS → Prop} {kc ks : Nat} : ∀ (m j : Nat) (v1 : Int32), j ≤ 8 → 8 + 1 ≤ j + m → fV G z_X12_meanPressure d Q 52 [some (.ref 296), some (.int (l_X12_meanPressureL M m j v1)), none] [] (sS M dv) kc ks → fV G z_X12_meanPressure d Q 27 [some (.ref 296), some (.int v1), some (.int (nI j))] [] (sS M dv) kc ks := by
  intro m
  induction m with
  | zero => intros; omega
  | succ m ih =>
    intro j v1 hj hm kk
    refine f_iload_n dX12_meanPressure_27 rfl rfl ?_
    refine f_aload_n dX12_meanPressure_28 rfl rfl ?_
    refine s_getr hG fl_X12_7 dX12_meanPressure_29 rfl rfl ?_
    refine f_iconst (v := 3) dX12_meanPressure_32 rfl ?_
    refine s_iaload hG dX12_meanPressure_33 rfl ((show ¬ ((3 : Int32) < 0 ∨ 127 ≤ (3 : Int32).toNatClampNeg) by decide)) ?_
    refine f_icmp_ge (tgt := 52) dX12_meanPressure_34 (by decide) (fun c_34 => ?_) (fun c_34 => ?_)
    · have e9 : l_X12_meanPressureL M (m + 1) j v1 = v1 := by rw [l_X12_meanPressureL, if_pos c_34]
      rw [e9] at kk
      refine f_drop 2 ?_
      exact kk
    · have hlt : j < 8 := (q0 j v1 hj c_34)
      refine f_iload_n dX12_meanPressure_37 rfl rfl ?_
      refine f_aload_n dX12_meanPressure_38 rfl rfl ?_
      refine f_iload_n dX12_meanPressure_39 rfl rfl ?_
      refine f_iconst (v := 5) dX12_meanPressure_40 rfl ?_
      refine f_cV hG (As := [_, _]) dX12_meanPressure_41 rfl k_X12_by rfl rfl ml_X12_107 im_X12_by se_X12_by rfl rfl (c_X12_by hG (d := 0) (Nat.le_refl _) _ _ _ _ (q1 j v1 hj c_34)) (by omega) (Nat.le_of_ble_eq_true rfl) (Nat.zero_le _) (Nat.zero_le _) ?_
      refine f_iadd dX12_meanPressure_44 ?_
      refine f_istore_n (ls' := [_, _, _]) dX12_meanPressure_45 rfl (Nat.le_of_ble_eq_true rfl) rfl rfl ?_
      refine f_iinc (v := nI (j + 1)) (ls' := [_, _, _]) dX12_meanPressure_46 rfl (nI_1 j) (Nat.le_of_ble_eq_true rfl) rfl rfl ?_
      refine f_goto (tgt := 27) dX12_meanPressure_49 (by decide) ?_
      have e9 : l_X12_meanPressureL M (m + 1) j v1 = l_X12_meanPressureL M m (j + 1) (v1 + (r_X12_by M (nI j) (5 : Int32))) := by rw [l_X12_meanPressureL, if_neg c_34]
      exact ih (j + 1) (v1 + (r_X12_by M (nI j) (5 : Int32))) (by omega) (by omega) (by rw [e9] at kk; exact kk)

def r_X12_meanPressure (M : fM) : UInt64 := (if (M 297 ((3 : Int32)).toNatClampNeg) = 0 then FP.dconst0 else FP.ddiv (FP.i2d (l_X12_meanPressureL (fst1 M 296 7 (0 : Int32)) 9 0 (0 : Int32))) (FP.i2d ((fst1 M 296 7 (0 : Int32)) 297 ((3 : Int32)).toNatClampNeg)))
def m_X12_meanPressure (M : fM) : fM := (if (M 297 ((3 : Int32)).toNatClampNeg) = 0 then (fst1 M 296 7 (1 : Int32)) else (fst1 M 296 7 (0 : Int32)))
def N_X12_meanPressure (M : fM) : Prop := (¬ ((M 297 ((3 : Int32)).toNatClampNeg) = 0) → ∀ (j_256 : Nat) (v1_256 : Int32), j_256 ≤ 8 → ¬ (((fst1 M 296 7 (0 : Int32)) 297 ((3 : Int32)).toNatClampNeg) ≤ (nI j_256)) → j_256 < 8) ∧ (¬ ((M 297 ((3 : Int32)).toNatClampNeg) = 0) → ∀ (j_257 : Nat) (v1_257 : Int32), j_257 ≤ 8 → ¬ (((fst1 M 296 7 (0 : Int32)) 297 ((3 : Int32)).toNatClampNeg) ≤ (nI j_257)) → N_X12_by (fst1 M 296 7 (0 : Int32)) (nI j_257) (5 : Int32)) ∧ (¬ ((M 297 ((3 : Int32)).toNatClampNeg) = 0) → vf_n64 (FP.ddiv (FP.i2d (l_X12_meanPressureL (fst1 M 296 7 (0 : Int32)) 9 0 (0 : Int32))) (FP.i2d ((fst1 M 296 7 (0 : Int32)) 297 ((3 : Int32)).toNatClampNeg))))
set_option maxRecDepth 100000 in
set_option maxHeartbeats 4000000 in
theorem c_X12_meanPressure {G : fG} (hG : fOK G) {d : Nat} (hd : 1 ≤ d) (M : fM) (dv : UInt64) (hN : N_X12_meanPressure M) : fCt G z_X12_meanPressure d [.ref 296] (sS M dv) 0 0 (fD (some (.double (r_X12_meanPressure M))) (sS (m_X12_meanPressure M) dv)) := by
  refine fCt_to [some (.ref 296), none, none] k_X12_meanPressure rfl (Nat.le_of_ble_eq_true rfl) rfl ?_
  obtain ⟨q0, q1, q2⟩ := hN
  refine f_aload_n dX12_meanPressure_0 rfl rfl ?_
  refine f_aload_n dX12_meanPressure_1 rfl rfl ?_
  refine s_getr hG fl_X12_7 dX12_meanPressure_2 rfl rfl ?_
  refine f_iconst (v := 3) dX12_meanPressure_5 rfl ?_
  refine s_iaload hG dX12_meanPressure_6 rfl ((show ¬ ((3 : Int32) < 0 ∨ 127 ≤ (3 : Int32).toNatClampNeg) by decide)) ?_
  refine f_if_ne (tgt := 14) dX12_meanPressure_7 (by decide) (fun c_7 => ?_) (fun c_7 => ?_)
  · refine f_iconst (v := 0) dX12_meanPressure_14 rfl ?_
    refine f_cV hG (As := [_]) dX12_meanPressure_15 rfl k_X12_fails rfl rfl ml_X12_63 im_X12_fails se_X12_fails rfl rfl (c_X12_failsF hG (d := 0) (Nat.le_refl _) _ _ _ (by decide)) (by omega) (Nat.le_of_ble_eq_true rfl) (Nat.zero_le _) (Nat.zero_le _) ?_
    refine f_if_eq (tgt := 23) dX12_meanPressure_18 (by decide) (fun c_18 => ?_) (fun c_18 => absurd c_18 (by decide))
    refine f_iconst (v := 0) dX12_meanPressure_23 rfl ?_
    refine f_istore_n (ls' := [_, _, _]) dX12_meanPressure_24 rfl (Nat.le_of_ble_eq_true rfl) rfl rfl ?_
    refine f_iconst (v := 0) dX12_meanPressure_25 rfl ?_
    refine f_istore_n (ls' := [_, _, _]) dX12_meanPressure_26 rfl (Nat.le_of_ble_eq_true rfl) rfl rfl ?_
    refine lc_X12_meanPressureL hG (by omega) _ dv (q0 c_7) (q1 c_7) 9 0 _ (by omega) (by omega) ?_
    refine f_iload_n dX12_meanPressure_52 rfl rfl ?_
    refine f_i2d dX12_meanPressure_53 ?_
    refine f_aload_n dX12_meanPressure_54 rfl rfl ?_
    refine s_getr hG fl_X12_7 dX12_meanPressure_55 rfl rfl ?_
    refine f_iconst (v := 3) dX12_meanPressure_58 rfl ?_
    refine s_iaload hG dX12_meanPressure_59 rfl ((show ¬ ((3 : Int32) < 0 ∨ 127 ≤ (3 : Int32).toNatClampNeg) by decide)) ?_
    refine f_i2d dX12_meanPressure_60 ?_
    refine f_ddiv dX12_meanPressure_61 ((q2 c_7)) ?_
    refine f_dreturn dX12_meanPressure_62 rfl ?_
    exact ⟨by rw [r_X12_meanPressure, if_neg c_7], by rw [m_X12_meanPressure, if_neg c_7]⟩
  · refine f_iconst (v := 1) dX12_meanPressure_10 rfl ?_
    refine f_goto (tgt := 15) dX12_meanPressure_11 (by decide) ?_
    refine f_cV hG (As := [_]) dX12_meanPressure_15 rfl k_X12_fails rfl rfl ml_X12_63 im_X12_fails se_X12_fails rfl rfl (c_X12_failsT hG (d := 0) (Nat.le_refl _) _ _ _ (by decide)) (by omega) (Nat.le_of_ble_eq_true rfl) (Nat.zero_le _) (Nat.zero_le _) ?_
    refine f_if_eq (tgt := 23) dX12_meanPressure_18 (by decide) (fun c_18 => absurd c_18 (by decide)) (fun c_18 => ?_)
    refine f_dconst dX12_meanPressure_21 ?_
    refine f_dreturn dX12_meanPressure_22 rfl ?_
    exact ⟨by rw [r_X12_meanPressure, if_pos c_7], by rw [m_X12_meanPressure, if_pos c_7]⟩

def r_X12_shippedShare (M : fM) : UInt32 := (if (M 297 ((7 : Int32)).toNatClampNeg) = 0 then FP.fconst0 else FP.fdiv (FP.i2f ((fst1 M 296 7 (0 : Int32)) 297 ((8 : Int32)).toNatClampNeg)) (FP.i2f ((fst1 M 296 7 (0 : Int32)) 297 ((7 : Int32)).toNatClampNeg)))
def m_X12_shippedShare (M : fM) : fM := (if (M 297 ((7 : Int32)).toNatClampNeg) = 0 then (fst1 M 296 7 (1 : Int32)) else (fst1 M 296 7 (0 : Int32)))
def N_X12_shippedShare (M : fM) : Prop := (¬ ((M 297 ((7 : Int32)).toNatClampNeg) = 0) → vf_n32 (FP.fdiv (FP.i2f ((fst1 M 296 7 (0 : Int32)) 297 ((8 : Int32)).toNatClampNeg)) (FP.i2f ((fst1 M 296 7 (0 : Int32)) 297 ((7 : Int32)).toNatClampNeg))))
set_option maxRecDepth 100000 in
set_option maxHeartbeats 4000000 in
theorem c_X12_shippedShare {G : fG} (hG : fOK G) {d : Nat} (hd : 1 ≤ d) (M : fM) (dv : UInt64) (hN : N_X12_shippedShare M) : fCt G z_X12_shippedShare d [.ref 296] (sS M dv) 0 0 (fD (some (.float (r_X12_shippedShare M))) (sS (m_X12_shippedShare M) dv)) := by
  refine fCt_to [some (.ref 296)] k_X12_shippedShare rfl (Nat.le_of_ble_eq_true rfl) rfl ?_
  have q0 : ¬ ((M 297 ((7 : Int32)).toNatClampNeg) = 0) → vf_n32 (FP.fdiv (FP.i2f ((fst1 M 296 7 (0 : Int32)) 297 ((8 : Int32)).toNatClampNeg)) (FP.i2f ((fst1 M 296 7 (0 : Int32)) 297 ((7 : Int32)).toNatClampNeg))) := hN
  refine f_aload_n dX12_shippedShare_0 rfl rfl ?_
  refine f_aload_n dX12_shippedShare_1 rfl rfl ?_
  refine s_getr hG fl_X12_7 dX12_shippedShare_2 rfl rfl ?_
  refine f_bipush (v := 7) dX12_shippedShare_5 (by decide) ?_
  refine s_iaload hG dX12_shippedShare_7 rfl ((show ¬ ((7 : Int32) < 0 ∨ 127 ≤ (7 : Int32).toNatClampNeg) by decide)) ?_
  refine f_if_ne (tgt := 15) dX12_shippedShare_8 (by decide) (fun c_8 => ?_) (fun c_8 => ?_)
  · refine f_iconst (v := 0) dX12_shippedShare_15 rfl ?_
    refine f_cV hG (As := [_]) dX12_shippedShare_16 rfl k_X12_fails rfl rfl ml_X12_63 im_X12_fails se_X12_fails rfl rfl (c_X12_failsF hG (d := 0) (Nat.le_refl _) _ _ _ (by decide)) (by omega) (Nat.le_of_ble_eq_true rfl) (Nat.zero_le _) (Nat.zero_le _) ?_
    refine f_if_eq (tgt := 26) dX12_shippedShare_19 (by decide) (fun c_19 => ?_) (fun c_19 => absurd c_19 (by decide))
    refine f_aload_n dX12_shippedShare_26 rfl rfl ?_
    refine s_getr hG fl_X12_7 dX12_shippedShare_27 rfl rfl ?_
    refine f_bipush (v := 8) dX12_shippedShare_30 (by decide) ?_
    refine s_iaload hG dX12_shippedShare_32 rfl ((show ¬ ((8 : Int32) < 0 ∨ 127 ≤ (8 : Int32).toNatClampNeg) by decide)) ?_
    refine f_i2f dX12_shippedShare_33 ?_
    refine f_aload_n dX12_shippedShare_34 rfl rfl ?_
    refine s_getr hG fl_X12_7 dX12_shippedShare_35 rfl rfl ?_
    refine f_bipush (v := 7) dX12_shippedShare_38 (by decide) ?_
    refine s_iaload hG dX12_shippedShare_40 rfl ((show ¬ ((7 : Int32) < 0 ∨ 127 ≤ (7 : Int32).toNatClampNeg) by decide)) ?_
    refine f_i2f dX12_shippedShare_41 ?_
    refine f_fdiv dX12_shippedShare_42 ((q0 c_8)) ?_
    refine f_freturn dX12_shippedShare_43 rfl ?_
    exact ⟨by rw [r_X12_shippedShare, if_neg c_8], by rw [m_X12_shippedShare, if_neg c_8]⟩
  · refine f_iconst (v := 1) dX12_shippedShare_11 rfl ?_
    refine f_goto (tgt := 16) dX12_shippedShare_12 (by decide) ?_
    refine f_cV hG (As := [_]) dX12_shippedShare_16 rfl k_X12_fails rfl rfl ml_X12_63 im_X12_fails se_X12_fails rfl rfl (c_X12_failsT hG (d := 0) (Nat.le_refl _) _ _ _ (by decide)) (by omega) (Nat.le_of_ble_eq_true rfl) (Nat.zero_le _) (Nat.zero_le _) ?_
    refine f_if_eq (tgt := 26) dX12_shippedShare_19 (by decide) (fun c_19 => absurd c_19 (by decide)) (fun c_19 => ?_)
    refine f_fconst dX12_shippedShare_22 ?_
    refine f_goto (tgt := 43) dX12_shippedShare_23 (by decide) ?_
    refine f_freturn dX12_shippedShare_43 rfl ?_
    exact ⟨by rw [r_X12_shippedShare, if_pos c_8], by rw [m_X12_shippedShare, if_pos c_8]⟩
