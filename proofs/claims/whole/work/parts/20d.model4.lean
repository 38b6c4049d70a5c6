def a0_X12_writes (M : fM) (a : Int32) : fM := (fst1 (fst1 M 302 ((M 296 13)).toNatClampNeg (vp_nar .char (((a).toUInt32 % 65536).toInt32))) 296 13 (((fst1 M 302 ((M 296 13)).toNatClampNeg (vp_nar .char (((a).toUInt32 % 65536).toInt32))) 296 13) + (1 : Int32)))
def m_X12_writes (M : fM) (a : Int32) : fM := (a0_X12_writes M a)
def N_X12_writes (M : fM) (a : Int32) : Prop := (vp_in (M 296 13) 60)
set_option maxRecDepth 100000 in
set_option maxHeartbeats 4000000 in
theorem c_X12_writes {G : fG} (hG : fOK G) {d : Nat} (hd : 0 ≤ d) (M : fM) (dv : UInt64) (a : Int32) (hN : N_X12_writes M a) : fCt G z_X12_writes d [.ref 296, .int a] (sS M dv) 0 0 (fD none (sS (m_X12_writes M a) dv)) := by
  refine fCt_to [some (.ref 296), some (.int a)] k_X12_writes rfl (Nat.le_of_ble_eq_true rfl) rfl ?_
  have q0 : vp_in (M 296 13) 60 := hN
  refine f_aload_n dX12_writes_0 rfl rfl ?_
  refine s_getr hG fl_X12_32 dX12_writes_1 rfl rfl ?_
  refine f_aload_n dX12_writes_4 rfl rfl ?_
  refine s_geti hG fl_X12_154 dX12_writes_5 rfl rfl ?_
  refine f_iload_n dX12_writes_8 rfl rfl ?_
  refine f_i2c dX12_writes_9 ?_
  refine s_castore hG dX12_writes_10 rfl (q0) ?_
  refine f_aload_n dX12_writes_11 rfl rfl ?_
  refine f_dup dX12_writes_12 rfl ?_
  refine s_geti hG fl_X12_154 dX12_writes_13 rfl rfl ?_
  refine f_iconst (v := 1) dX12_writes_16 rfl ?_
  refine f_iadd dX12_writes_17 ?_
  refine s_puti hG fl_X12_154 (Or.inl rfl) dX12_writes_18 rfl rfl rfl rfl ?_
  refine f_mem (M := (fst1 (fst1 M 302 ((M 296 13)).toNatClampNeg (vp_nar .char (((a).toUInt32 % 65536).toInt32))) 296 13 (((fst1 M 302 ((M 296 13)).toNatClampNeg (vp_nar .char (((a).toUInt32 % 65536).toInt32))) 296 13) + (1 : Int32)))) (M' := (a0_X12_writes M a)) (by rw [a0_X12_writes]) ?_
  refine f_return dX12_writes_21 rfl ?_
  exact ⟨rfl, by rw [m_X12_writes]⟩

def wn : Nat → fM → Int32 → fM
  | 0, M, _ => M
  | m + 1, M, n => m_X12_writes (if n ≤ (9 : Int32) then M else wn m M (n / (10 : Int32))) ((48 : Int32) + (n - n / (10 : Int32) * (10 : Int32)))
def Wn : Nat → fM → Int32 → Prop
  | 0, _, _ => False
  | m + 1, M, n => (¬ n ≤ (9 : Int32) → Wn m M (n / (10 : Int32))) ∧ N_X12_writes (if n ≤ (9 : Int32) then M else wn m M (n / (10 : Int32))) ((48 : Int32) + (n - n / (10 : Int32) * (10 : Int32)))
set_option maxRecDepth 100000 in
set_option maxHeartbeats 4000000 in
theorem cr_X12_writesNumber {G : fG} (hG : fOK G) (dv : UInt64) : ∀ (m : Nat) {d : Nat} (hd : 1 + m ≤ d) (M : fM) (n : Int32), Wn m M n → fCt G z_X12_writesNumber d [.ref 296, .int n] (sS M dv) 0 0 (fD none (sS (wn m M n) dv)) := by
  intro m
  induction m with
  | zero => intro d hd M n h; exact absurd h (by rw [Wn]; exact id)
  | succ m ih =>
    intro d hd M n h
    rw [Wn] at h
    obtain ⟨hr, hw⟩ := h
    refine fCt_to [some (.ref 296), some (.int n)] k_X12_writesNumber rfl (Nat.le_of_ble_eq_true rfl) rfl ?_
    refine f_iload_n dX12_writesNumber_0 rfl rfl ?_
    refine f_bipush (v := 9) dX12_writesNumber_1 (by decide) ?_
    refine f_icmp_le (tgt := 14) dX12_writesNumber_3 (by decide) (fun c_3 => ?_) (fun c_3 => ?_)
    · rw [if_pos c_3] at hw
      refine f_aload_n dX12_writesNumber_14 rfl rfl ?_
      refine f_bipush (v := 48) dX12_writesNumber_15 (by decide) ?_
      refine f_iload_n dX12_writesNumber_17 rfl rfl ?_
      refine f_bipush (v := 10) dX12_writesNumber_18 (by decide) ?_
      refine f_irem dX12_writesNumber_20 (by decide) ?_
      refine f_iadd dX12_writesNumber_21 ?_
      refine f_cV hG (As := [_]) dX12_writesNumber_22 rfl k_X12_writes rfl rfl ml_X12_161 im_X12_writes se_X12_writes rfl rfl (c_X12_writes hG (d := 0) (Nat.le_refl _) _ _ _ hw) (by omega) (Nat.le_of_ble_eq_true rfl) (Nat.zero_le _) (Nat.zero_le _) ?_
      refine f_return dX12_writesNumber_25 rfl ?_
      exact ⟨rfl, by rw [wn, if_pos c_3]⟩
    · rw [if_neg c_3] at hw
      refine f_aload_n dX12_writesNumber_6 rfl rfl ?_
      refine f_iload_n dX12_writesNumber_7 rfl rfl ?_
      refine f_bipush (v := 10) dX12_writesNumber_8 (by decide) ?_
      refine f_idiv dX12_writesNumber_10 (by decide) ?_
      refine f_cV hG (As := [_]) dX12_writesNumber_11 rfl k_X12_writesNumber rfl rfl ml_X12_157 im_X12_writesNumber se_X12_writesNumber rfl rfl (ih (d := 1 + m) (Nat.le_refl _) _ _ (hr c_3)) (by omega) (Nat.le_of_ble_eq_true rfl) (Nat.zero_le _) (Nat.zero_le _) ?_
      refine f_aload_n dX12_writesNumber_14 rfl rfl ?_
      refine f_bipush (v := 48) dX12_writesNumber_15 (by decide) ?_
      refine f_iload_n dX12_writesNumber_17 rfl rfl ?_
      refine f_bipush (v := 10) dX12_writesNumber_18 (by decide) ?_
      refine f_irem dX12_writesNumber_20 (by decide) ?_
      refine f_iadd dX12_writesNumber_21 ?_
      refine f_cV hG (As := [_]) dX12_writesNumber_22 rfl k_X12_writes rfl rfl ml_X12_161 im_X12_writes se_X12_writes rfl rfl (c_X12_writes hG (d := 0) (Nat.le_refl _) _ _ _ hw) (by omega) (Nat.le_of_ble_eq_true rfl) (Nat.zero_le _) (Nat.zero_le _) ?_
      refine f_return dX12_writesNumber_25 rfl ?_
      exact ⟨rfl, by rw [wn, if_neg c_3]⟩
def m_X12_writesNumber (M : fM) (a : Int32) : fM := wn 10 M a
def N_X12_writesNumber (M : fM) (a : Int32) : Prop := Wn 10 M a
theorem c_X12_writesNumber {G : fG} (hG : fOK G) {d : Nat} (hd : 11 ≤ d) (M : fM) (dv : UInt64) (a : Int32) (hN : N_X12_writesNumber M a) : fCt G z_X12_writesNumber d [.ref 296, .int a] (sS M dv) 0 0 (fD none (sS (m_X12_writesNumber M a) dv)) := cr_X12_writesNumber hG dv 10 hd M a hN

def l_X12_writeLotL (a : Int32) (pv : Int32) (lv : Int32) : fM → Nat → Nat → fM
  | M, 0, _ => M
  | M, m + 1, j => (if (r_X12_sign M lv (0 : Int32)) ≤ (nI j) then M else (l_X12_writeLotL a pv lv (m_X12_writes M (r_X12_sign M lv ((1 : Int32) + (nI j)))) m (j + 1)))
set_option maxRecDepth 100000 in
set_option maxHeartbeats 4000000 in
theorem lc_X12_writeLotL {G : fG} (hG : fOK G) {d : Nat} (hd : 1 ≤ d) (dv : UInt64) (a : Int32) (pv : Int32) (lv : Int32) (Pv : Nat → fM → Prop) (q0 : ∀ (j : Nat) (W_258 : fM), j ≤ 6 → Pv j W_258 → N_X12_sign W_258 lv (0 : Int32)) (q1 : ∀ (j : Nat) (W_258 : fM), j ≤ 6 → Pv j W_258 → ¬ ((r_X12_sign W_258 lv (0 : Int32)) ≤ (nI j)) → j < 6) (q2 : ∀ (j : Nat) (W_258 : fM), j ≤ 6 → Pv j W_258 → ¬ ((r_X12_sign W_258 lv (0 : Int32)) ≤ (nI j)) → N_X12_sign W_258 lv ((1 : Int32) + (nI j))) (q3 : ∀ (j : Nat) (W_258 : fM), j ≤ 6 → Pv j W_258 → ¬ ((r_X12_sign W_258 lv (0 : Int32)) ≤ (nI j)) → N_X12_writes W_258 (r_X12_sign W_258 lv ((1 : Int32) + (nI j)))) (q4 : ∀ (j : Nat) (W_258 : fM), j ≤ 6 → Pv j W_258 → ¬ ((r_X12_sign W_258 lv (0 : Int32)) ≤ (nI j)) → Pv (j + 1) (m_X12_writes W_258 (r_X12_sign W_258 lv ((1 : Int32) + (nI j))))) {Q : fR → fS → Prop} {kc ks : Nat} : ∀ (m j : Nat) (M : fM), j ≤ 6 → 6 + 1 ≤ j + m → Pv j M → fV G z_X12_writeLot d Q 88 [some (.ref 296), some (.int a), some (.int pv), some (.int lv), none] [] (sS (l_X12_writeLotL a pv lv M m j) dv) kc ks → fV G z_X12_writeLot d Q 58 [some (.ref 296), some (.int a), some (.int pv), some (.int lv), some (.int (nI j))] [] (sS M dv) kc ks := by
  intro m
  induction m with
  | zero => intros; omega
  | succ m ih =>
    intro j M hj hm hI kk
    refine f_iload dX12_writeLot_58 rfl ?_
    refine f_aload_n dX12_writeLot_60 rfl rfl ?_
    refine f_iload_n dX12_writeLot_61 rfl rfl ?_
    refine f_iconst (v := 0) dX12_writeLot_62 rfl ?_
    refine f_cV hG (As := [_, _]) dX12_writeLot_63 rfl k_X12_sign rfl rfl ml_X12_84 im_X12_sign se_X12_sign rfl rfl (c_X12_sign hG (d := 0) (Nat.le_refl _) _ _ _ _ (q0 j M hj hI)) (by omega) (Nat.le_of_ble_eq_true rfl) (Nat.zero_le _) (Nat.zero_le _) ?_
    refine f_icmp_ge (tgt := 88) dX12_writeLot_66 (by decide) (fun c_66 => ?_) (fun c_66 => ?_)
    · have e9 : l_X12_writeLotL a pv lv M (m + 1) j = M := by rw [l_X12_writeLotL, if_pos c_66]
      rw [e9] at kk
      refine f_drop 4 ?_
      exact kk
    · have hlt : j < 6 := (q1 j M hj hI c_66)
      refine f_aload_n dX12_writeLot_69 rfl rfl ?_
      refine f_aload_n dX12_writeLot_70 rfl rfl ?_
      refine f_iload_n dX12_writeLot_71 rfl rfl ?_
      refine f_iconst (v := 1) dX12_writeLot_72 rfl ?_
      refine f_iload dX12_writeLot_73 rfl ?_
      refine f_iadd dX12_writeLot_75 ?_
      refine f_cV hG (As := [_, _]) dX12_writeLot_76 rfl k_X12_sign rfl rfl ml_X12_84 im_X12_sign se_X12_sign rfl rfl (c_X12_sign hG (d := 0) (Nat.le_refl _) _ _ _ _ (q2 j M hj hI c_66)) (by omega) (Nat.le_of_ble_eq_true rfl) (Nat.zero_le _) (Nat.zero_le _) ?_
      refine f_cV hG (As := [_]) dX12_writeLot_79 rfl k_X12_writes rfl rfl ml_X12_161 im_X12_writes se_X12_writes rfl rfl (c_X12_writes hG (d := 0) (Nat.le_refl _) _ _ _ (q3 j M hj hI c_66)) (by omega) (Nat.le_of_ble_eq_true rfl) (Nat.zero_le _) (Nat.zero_le _) ?_
      refine f_iinc (v := nI (j + 1)) (ls' := [_, _, _, _, _]) dX12_writeLot_82 rfl (nI_1 j) (Nat.le_of_ble_eq_true rfl) rfl rfl ?_
      refine f_goto (tgt := 58) dX12_writeLot_85 (by decide) ?_
      have e9 : l_X12_writeLotL a pv lv M (m + 1) j = l_X12_writeLotL a pv lv (m_X12_writes M (r_X12_sign M lv ((1 : Int32) + (nI j)))) m (j + 1) := by rw [l_X12_writeLotL, if_neg c_66]
      exact ih (j + 1) (m_X12_writes M (r_X12_sign M lv ((1 : Int32) + (nI j)))) (by omega) (by omega) (q4 j M hj hI c_66) (by rw [e9] at kk; exact kk)

def a0_X12_writeLot (M : fM) (a : Int32) : fM := (m_X12_writesNumber (m_X12_writes (m_X12_writesNumber (fst1 (m_X12_isLost M a) 296 13 (0 : Int32)) a) (58 : Int32)) (r_X12_by (m_X12_writes (m_X12_writesNumber (fst1 (m_X12_isLost M a) 296 13 (0 : Int32)) a) (58 : Int32)) (r_X12_placeOf (m_X12_isLost M a) a) (1 : Int32)))
def a1_X12_writeLot (M : fM) (a : Int32) : fM := (l_X12_writeLotL a (r_X12_placeOf (m_X12_isLost M a) a) (r_X12_by (m_X12_isLost M a) (r_X12_placeOf (m_X12_isLost M a) a) (2 : Int32)) (m_X12_writes (a0_X12_writeLot M a) (120 : Int32)) 7 0)
def a2_X12_writeLot (M : fM) (a : Int32) : fM := (m_X12_writesNumber (m_X12_writes (a1_X12_writeLot M a) (47 : Int32)) (r_X12_by (m_X12_writes (a1_X12_writeLot M a) (47 : Int32)) (r_X12_placeOf (m_X12_isLost M a) a) (5 : Int32)))
def r_X12_writeLot (M : fM) (a : Int32) : Int32 := (if (r_X12_isLost M a) = 0 then ((a2_X12_writeLot M a) 296 13) else (0 : Int32))
def m_X12_writeLot (M : fM) (a : Int32) : fM := (if (r_X12_isLost M a) = 0 then (a2_X12_writeLot M a) else (m_X12_isLost M a))
def N_X12_writeLot (M : fM) (a : Int32) : Prop := (N_X12_isLost M a) ∧ (((r_X12_isLost M a) = 0) → N_X12_placeOf (m_X12_isLost M a) a) ∧ (((r_X12_isLost M a) = 0) → N_X12_by (m_X12_isLost M a) (r_X12_placeOf (m_X12_isLost M a) a) (2 : Int32)) ∧ (((r_X12_isLost M a) = 0) → N_X12_writesNumber (fst1 (m_X12_isLost M a) 296 13 (0 : Int32)) a) ∧ (((r_X12_isLost M a) = 0) → N_X12_writes (m_X12_writesNumber (fst1 (m_X12_isLost M a) 296 13 (0 : Int32)) a) (58 : Int32)) ∧ (((r_X12_isLost M a) = 0) → N_X12_by (m_X12_writes (m_X12_writesNumber (fst1 (m_X12_isLost M a) 296 13 (0 : Int32)) a) (58 : Int32)) (r_X12_placeOf (m_X12_isLost M a) a) (1 : Int32)) ∧ (((r_X12_isLost M a) = 0) → N_X12_writesNumber (m_X12_writes (m_X12_writesNumber (fst1 (m_X12_isLost M a) 296 13 (0 : Int32)) a) (58 : Int32)) (r_X12_by (m_X12_writes (m_X12_writesNumber (fst1 (m_X12_isLost M a) 296 13 (0 : Int32)) a) (58 : Int32)) (r_X12_placeOf (m_X12_isLost M a) a) (1 : Int32))) ∧ (((r_X12_isLost M a) = 0) → N_X12_writes (a0_X12_writeLot M a) (120 : Int32)) ∧ (((r_X12_isLost M a) = 0) → ∃ Pv : Nat → fM → Prop, Pv 0 (m_X12_writes (a0_X12_writeLot M a) (120 : Int32)) ∧ (∀ (j_266 : Nat) (W_258 : fM), j_266 ≤ 6 → Pv j_266 W_258 → N_X12_sign W_258 (r_X12_by (m_X12_isLost M a) (r_X12_placeOf (m_X12_isLost M a) a) (2 : Int32)) (0 : Int32)) ∧ (∀ (j_267 : Nat) (W_258 : fM), j_267 ≤ 6 → Pv j_267 W_258 → ¬ ((r_X12_sign W_258 (r_X12_by (m_X12_isLost M a) (r_X12_placeOf (m_X12_isLost M a) a) (2 : Int32)) (0 : Int32)) ≤ (nI j_267)) → j_267 < 6) ∧ (∀ (j_268 : Nat) (W_258 : fM), j_268 ≤ 6 → Pv j_268 W_258 → ¬ ((r_X12_sign W_258 (r_X12_by (m_X12_isLost M a) (r_X12_placeOf (m_X12_isLost M a) a) (2 : Int32)) (0 : Int32)) ≤ (nI j_268)) → N_X12_sign W_258 (r_X12_by (m_X12_isLost M a) (r_X12_placeOf (m_X12_isLost M a) a) (2 : Int32)) ((1 : Int32) + (nI j_268))) ∧ (∀ (j_269 : Nat) (W_258 : fM), j_269 ≤ 6 → Pv j_269 W_258 → ¬ ((r_X12_sign W_258 (r_X12_by (m_X12_isLost M a) (r_X12_placeOf (m_X12_isLost M a) a) (2 : Int32)) (0 : Int32)) ≤ (nI j_269)) → N_X12_writes W_258 (r_X12_sign W_258 (r_X12_by (m_X12_isLost M a) (r_X12_placeOf (m_X12_isLost M a) a) (2 : Int32)) ((1 : Int32) + (nI j_269)))) ∧ (∀ (j_270 : Nat) (W_258 : fM), j_270 ≤ 6 → Pv j_270 W_258 → ¬ ((r_X12_sign W_258 (r_X12_by (m_X12_isLost M a) (r_X12_placeOf (m_X12_isLost M a) a) (2 : Int32)) (0 : Int32)) ≤ (nI j_270)) → Pv (j_270 + 1) (m_X12_writes W_258 (r_X12_sign W_258 (r_X12_by (m_X12_isLost M a) (r_X12_placeOf (m_X12_isLost M a) a) (2 : Int32)) ((1 : Int32) + (nI j_270)))))) ∧ (((r_X12_isLost M a) = 0) → N_X12_writes (a1_X12_writeLot M a) (47 : Int32)) ∧ (((r_X12_isLost M a) = 0) → N_X12_by (m_X12_writes (a1_X12_writeLot M a) (47 : Int32)) (r_X12_placeOf (m_X12_isLost M a) a) (5 : Int32)) ∧ (((r_X12_isLost M a) = 0) → N_X12_writesNumber (m_X12_writes (a1_X12_writeLot M a) (47 : Int32)) (r_X12_by (m_X12_writes (a1_X12_writeLot M a) (47 : Int32)) (r_X12_placeOf (m_X12_isLost M a) a) (5 : Int32)))
set_option maxRecDepth 100000 in
set_option maxHeartbeats 4000000 in
theorem c_X12_writeLot {G : fG} (hG : fOK G) {d : Nat} (hd : 12 ≤ d) (M : fM) (dv : UInt64) (a : Int32) (hN : N_X12_writeLot M a) : fCt G z_X12_writeLot d [.ref 296, .int a] (sS M dv) 0 0 (fD (some (.int (r_X12_writeLot M a))) (sS (m_X12_writeLot M a) dv)) := by
  refine fCt_to [some (.ref 296), some (.int a), none, none, none] k_X12_writeLot rfl (Nat.le_of_ble_eq_true rfl) rfl ?_
  obtain ⟨q0, q1, q2, q3, q4, q5, q6, q7, q8, q9, q10, q11⟩ := hN
  refine f_aload_n dX12_writeLot_0 rfl rfl ?_
  refine f_iload_n dX12_writeLot_1 rfl rfl ?_
  refine f_cV hG (As := [_]) dX12_writeLot_2 rfl k_X12_isLost rfl rfl ml_X12_129 im_X12_isLost se_X12_isLost rfl rfl (c_X12_isLost hG (d := 2) (Nat.le_refl _) _ _ _ q0) (by omega) (Nat.le_of_ble_eq_true rfl) (Nat.zero_le _) (Nat.zero_le _) ?_
  refine f_if_eq (tgt := 10) dX12_writeLot_5 (by decide) (fun c_5 => ?_) (fun c_5 => ?_)
  · refine f_aload_n dX12_writeLot_10 rfl rfl ?_
    refine f_iload_n dX12_writeLot_11 rfl rfl ?_
    refine f_cV hG (As := [_]) dX12_writeLot_12 rfl k_X12_placeOf rfl rfl ml_X12_113 im_X12_placeOf se_X12_placeOf rfl rfl (c_X12_placeOf hG (d := 1) (Nat.le_refl _) _ _ _ (q1 c_5)) (by omega) (Nat.le_of_ble_eq_true rfl) (Nat.zero_le _) (Nat.zero_le _) ?_
    refine f_istore_n (ls' := [_, _, _, _, _]) dX12_writeLot_15 rfl (Nat.le_of_ble_eq_true rfl) rfl rfl ?_
    refine f_aload_n dX12_writeLot_16 rfl rfl ?_
    refine f_iload_n dX12_writeLot_17 rfl rfl ?_
    refine f_iconst (v := 2) dX12_writeLot_18 rfl ?_
    refine f_cV hG (As := [_, _]) dX12_writeLot_19 rfl k_X12_by rfl rfl ml_X12_107 im_X12_by se_X12_by rfl rfl (c_X12_by hG (d := 0) (Nat.le_refl _) _ _ _ _ (q2 c_5)) (by omega) (Nat.le_of_ble_eq_true rfl) (Nat.zero_le _) (Nat.zero_le _) ?_
    refine f_istore_n (ls' := [_, _, _, _, _]) dX12_writeLot_22 rfl (Nat.le_of_ble_eq_true rfl) rfl rfl ?_
    refine f_aload_n dX12_writeLot_23 rfl rfl ?_
    refine f_iconst (v := 0) dX12_writeLot_24 rfl ?_
    refine s_puti hG fl_X12_154 (Or.inl rfl) dX12_writeLot_25 rfl rfl rfl rfl ?_
    refine f_aload_n dX12_writeLot_28 rfl rfl ?_
    refine f_iload_n dX12_writeLot_29 rfl rfl ?_
    refine f_cV hG (As := [_]) dX12_writeLot_30 rfl k_X12_writesNumber rfl rfl ml_X12_157 im_X12_writesNumber se_X12_writesNumber rfl rfl (c_X12_writesNumber hG (d := 11) (Nat.le_refl _) _ _ _ (q3 c_5)) (by omega) (Nat.le_of_ble_eq_true rfl) (Nat.zero_le _) (Nat.zero_le _) ?_
    refine f_aload_n dX12_writeLot_33 rfl rfl ?_
    refine f_bipush (v := 58) dX12_writeLot_34 (by decide) ?_
    refine f_cV hG (As := [_]) dX12_writeLot_36 rfl k_X12_writes rfl rfl ml_X12_161 im_X12_writes se_X12_writes rfl rfl (c_X12_writes hG (d := 0) (Nat.le_refl _) _ _ _ (q4 c_5)) (by omega) (Nat.le_of_ble_eq_true rfl) (Nat.zero_le _) (Nat.zero_le _) ?_
    refine f_aload_n dX12_writeLot_39 rfl rfl ?_
    refine f_aload_n dX12_writeLot_40 rfl rfl ?_
    refine f_iload_n dX12_writeLot_41 rfl rfl ?_
    refine f_iconst (v := 1) dX12_writeLot_42 rfl ?_
    refine f_cV hG (As := [_, _]) dX12_writeLot_43 rfl k_X12_by rfl rfl ml_X12_107 im_X12_by se_X12_by rfl rfl (c_X12_by hG (d := 0) (Nat.le_refl _) _ _ _ _ (q5 c_5)) (by omega) (Nat.le_of_ble_eq_true rfl) (Nat.zero_le _) (Nat.zero_le _) ?_
    refine f_cV hG (As := [_]) dX12_writeLot_46 rfl k_X12_writesNumber rfl rfl ml_X12_157 im_X12_writesNumber se_X12_writesNumber rfl rfl (c_X12_writesNumber hG (d := 11) (Nat.le_refl _) _ _ _ (q6 c_5)) (by omega) (Nat.le_of_ble_eq_true rfl) (Nat.zero_le _) (Nat.zero_le _) ?_
    refine f_mem (M := (m_X12_writesNumber (m_X12_writes (m_X12_writesNumber (fst1 (m_X12_isLost M a) 296 13 (0 : Int32)) a) (58 : Int32)) (r_X12_by (m_X12_writes (m_X12_writesNumber (fst1 (m_X12_isLost M a) 296 13 (0 : Int32)) a) (58 : Int32)) (r_X12_placeOf (m_X12_isLost M a) a) (1 : Int32)))) (M' := (a0_X12_writeLot M a)) (by rw [a0_X12_writeLot]) ?_
    refine f_aload_n dX12_writeLot_49 rfl rfl ?_
    refine f_bipush (v := 120) dX12_writeLot_50 (by decide) ?_
    refine f_cV hG (As := [_]) dX12_writeLot_52 rfl k_X12_writes rfl rfl ml_X12_161 im_X12_writes se_X12_writes rfl rfl (c_X12_writes hG (d := 0) (Nat.le_refl _) _ _ _ (q7 c_5)) (by omega) (Nat.le_of_ble_eq_true rfl) (Nat.zero_le _) (Nat.zero_le _) ?_
    refine f_iconst (v := 0) dX12_writeLot_55 rfl ?_
    refine f_istore (ls' := [_, _, _, _, _]) dX12_writeLot_56 (Nat.le_of_ble_eq_true rfl) rfl rfl ?_
    obtain ⟨Pv265, hI265, w265_0, w265_1, w265_2, w265_3, w265_4⟩ := (q8 c_5)
    refine lc_X12_writeLotL hG (by omega) dv _ _ _ Pv265 w265_0 w265_1 w265_2 w265_3 w265_4 7 0 _ (by omega) (by omega) hI265 ?_
    refine f_mem (M := (l_X12_writeLotL a (r_X12_placeOf (m_X12_isLost M a) a) (r_X12_by (m_X12_isLost M a) (r_X12_placeOf (m_X12_isLost M a) a) (2 : Int32)) (m_X12_writes (a0_X12_writeLot M a) (120 : Int32)) 7 0)) (M' := (a1_X12_writeLot M a)) (by rw [a1_X12_writeLot]) ?_
    refine f_aload_n dX12_writeLot_88 rfl rfl ?_
    refine f_bipush (v := 47) dX12_writeLot_89 (by decide) ?_
    refine f_cV hG (As := [_]) dX12_writeLot_91 rfl k_X12_writes rfl rfl ml_X12_161 im_X12_writes se_X12_writes rfl rfl (c_X12_writes hG (d := 0) (Nat.le_refl _) _ _ _ (q9 c_5)) (by omega) (Nat.le_of_ble_eq_true rfl) (Nat.zero_le _) (Nat.zero_le _) ?_
    refine f_aload_n dX12_writeLot_94 rfl rfl ?_
    refine f_aload_n dX12_writeLot_95 rfl rfl ?_
    refine f_iload_n dX12_writeLot_96 rfl rfl ?_
    refine f_iconst (v := 5) dX12_writeLot_97 rfl ?_
    refine f_cV hG (As := [_, _]) dX12_writeLot_98 rfl k_X12_by rfl rfl ml_X12_107 im_X12_by se_X12_by rfl rfl (c_X12_by hG (d := 0) (Nat.le_refl _) _ _ _ _ (q10 c_5)) (by omega) (Nat.le_of_ble_eq_true rfl) (Nat.zero_le _) (Nat.zero_le _) ?_
    refine f_cV hG (As := [_]) dX12_writeLot_101 rfl k_X12_writesNumber rfl rfl ml_X12_157 im_X12_writesNumber se_X12_writesNumber rfl rfl (c_X12_writesNumber hG (d := 11) (Nat.le_refl _) _ _ _ (q11 c_5)) (by omega) (Nat.le_of_ble_eq_true rfl) (Nat.zero_le _) (Nat.zero_le _) ?_
    refine f_mem (M := (m_X12_writesNumber (m_X12_writes (a1_X12_writeLot M a) (47 : Int32)) (r_X12_by (m_X12_writes (a1_X12_writeLot M a) (47 : Int32)) (r_X12_placeOf (m_X12_isLost M a) a) (5 : Int32)))) (M' := (a2_X12_writeLot M a)) (by rw [a2_X12_writeLot]) ?_
    refine f_aload_n dX12_writeLot_104 rfl rfl ?_
    refine s_geti hG fl_X12_154 dX12_writeLot_105 rfl rfl ?_
    refine f_ireturn dX12_writeLot_108 rfl rfl ?_
    exact ⟨by rw [r_X12_writeLot, if_pos c_5], by rw [m_X12_writeLot, if_pos c_5]⟩
  · refine f_iconst (v := 0) dX12_writeLot_8 rfl ?_
    refine f_ireturn dX12_writeLot_9 rfl rfl ?_
    exact ⟨by rw [r_X12_writeLot, if_neg c_5], by rw [m_X12_writeLot, if_neg c_5]⟩

def l_X12_writeRawsL (bv : Int32) : fM → Nat → Nat → fM
  | M, 0, _ => M
  | M, m + 1, j => (if (M 297 ((0 : Int32)).toNatClampNeg) ≤ (nI j) then M else (if (((M 297 ((6 : Int32)).toNatClampNeg) >>> ((nI j) &&& 31)) &&& (1 : Int32)) = (1 : Int32) then (l_X12_writeRawsL bv (m_X12_writes M (120 : Int32)) m (j + 1)) else (if ((bv >>> ((nI j) &&& 31)) &&& (1 : Int32)) = (1 : Int32) then (l_X12_writeRawsL bv (m_X12_writes M (42 : Int32)) m (j + 1)) else (l_X12_writeRawsL bv (m_X12_writes M (46 : Int32)) m (j + 1)))))
set_option maxRecDepth 100000 in
set_option maxHeartbeats 4000000 in
theorem lc_X12_writeRawsL {G : fG} (hG : fOK G) {d : Nat} (hd : 1 ≤ d) (dv : UInt64) (bv : Int32) (Pv : Nat → fM → Prop) (q0 : ∀ (j : Nat) (W_271 : fM), j ≤ 6 → Pv j W_271 → ¬ ((W_271 297 ((0 : Int32)).toNatClampNeg) ≤ (nI j)) → j < 6) (q1 : ∀ (j : Nat) (W_271 : fM), j ≤ 6 → Pv j W_271 → ¬ ((W_271 297 ((0 : Int32)).toNatClampNeg) ≤ (nI j)) → ¬ ((((W_271 297 ((6 : Int32)).toNatClampNeg) >>> ((nI j) &&& 31)) &&& (1 : Int32)) = (1 : Int32)) → ¬ (((bv >>> ((nI j) &&& 31)) &&& (1 : Int32)) = (1 : Int32)) → N_X12_writes W_271 (46 : Int32)) (q2 : ∀ (j : Nat) (W_271 : fM), j ≤ 6 → Pv j W_271 → ¬ ((W_271 297 ((0 : Int32)).toNatClampNeg) ≤ (nI j)) → ¬ ((((W_271 297 ((6 : Int32)).toNatClampNeg) >>> ((nI j) &&& 31)) &&& (1 : Int32)) = (1 : Int32)) → ¬ (((bv >>> ((nI j) &&& 31)) &&& (1 : Int32)) = (1 : Int32)) → Pv (j + 1) (m_X12_writes W_271 (46 : Int32))) (q3 : ∀ (j : Nat) (W_271 : fM), j ≤ 6 → Pv j W_271 → ¬ ((W_271 297 ((0 : Int32)).toNatClampNeg) ≤ (nI j)) → ¬ ((((W_271 297 ((6 : Int32)).toNatClampNeg) >>> ((nI j) &&& 31)) &&& (1 : Int32)) = (1 : Int32)) → (((bv >>> ((nI j) &&& 31)) &&& (1 : Int32)) = (1 : Int32)) → N_X12_writes W_271 (42 : Int32)) (q4 : ∀ (j : Nat) (W_271 : fM), j ≤ 6 → Pv j W_271 → ¬ ((W_271 297 ((0 : Int32)).toNatClampNeg) ≤ (nI j)) → ¬ ((((W_271 297 ((6 : Int32)).toNatClampNeg) >>> ((nI j) &&& 31)) &&& (1 : Int32)) = (1 : Int32)) → (((bv >>> ((nI j) &&& 31)) &&& (1 : Int32)) = (1 : Int32)) → Pv (j + 1) (m_X12_writes W_271 (42 : Int32))) (q5 : ∀ (j : Nat) (W_271 : fM), j ≤ 6 → Pv j W_271 → ¬ ((W_271 297 ((0 : Int32)).toNatClampNeg) ≤ (nI j)) → ((((W_271 297 ((6 : Int32)).toNatClampNeg) >>> ((nI j) &&& 31)) &&& (1 : Int32)) = (1 : Int32)) → N_X12_writes W_271 (120 : Int32)) (q6 : ∀ (j : Nat) (W_271 : fM), j ≤ 6 → Pv j W_271 → ¬ ((W_271 297 ((0 : Int32)).toNatClampNeg) ≤ (nI j)) → ((((W_271 297 ((6 : Int32)).toNatClampNeg) >>> ((nI j) &&& 31)) &&& (1 : Int32)) = (1 : Int32)) → Pv (j + 1) (m_X12_writes W_271 (120 : Int32))) {Q : fR → fS → Prop} {kc ks : Nat} : ∀ (m j : Nat) (M : fM), j ≤ 6 → 6 + 1 ≤ j + m → Pv j M → fV G z_X12_writeRaws d Q 73 [some (.ref 296), some (.int bv), none] [] (sS (l_X12_writeRawsL bv M m j) dv) kc ks → fV G z_X12_writeRaws d Q 17 [some (.ref 296), some (.int bv), some (.int (nI j))] [] (sS M dv) kc ks := by
  intro m
  induction m with
  | zero => intros; omega
  | succ m ih =>
    intro j M hj hm hI kk
    refine f_iload_n dX12_writeRaws_17 rfl rfl ?_
    refine f_aload_n dX12_writeRaws_18 rfl rfl ?_
    refine s_getr hG fl_X12_7 dX12_writeRaws_19 rfl rfl ?_
    refine f_iconst (v := 0) dX12_writeRaws_22 rfl ?_
    refine s_iaload hG dX12_writeRaws_23 rfl ((show ¬ ((0 : Int32) < 0 ∨ 127 ≤ (0 : Int32).toNatClampNeg) by decide)) ?_
    refine f_icmp_ge (tgt := 73) dX12_writeRaws_24 (by decide) (fun c_24 => ?_) (fun c_24 => ?_)
    · have e9 : l_X12_writeRawsL bv M (m + 1) j = M := by rw [l_X12_writeRawsL, if_pos c_24]
      rw [e9] at kk
      refine f_drop 2 ?_
      exact kk
    · have hlt : j < 6 := (q0 j M hj hI c_24)
      refine f_aload_n dX12_writeRaws_27 rfl rfl ?_
      refine f_aload_n dX12_writeRaws_28 rfl rfl ?_
      refine s_getr hG fl_X12_7 dX12_writeRaws_29 rfl rfl ?_
      refine f_bipush (v := 6) dX12_writeRaws_32 (by decide) ?_
      refine s_iaload hG dX12_writeRaws_34 rfl ((show ¬ ((6 : Int32) < 0 ∨ 127 ≤ (6 : Int32).toNatClampNeg) by decide)) ?_
      refine f_iload_n dX12_writeRaws_35 rfl rfl ?_
      refine f_ishr dX12_writeRaws_36 ?_
      refine f_iconst (v := 1) dX12_writeRaws_37 rfl ?_
      refine f_iand dX12_writeRaws_38 ?_
      refine f_iconst (v := 1) dX12_writeRaws_39 rfl ?_
      refine f_icmp_ne (tgt := 48) dX12_writeRaws_40 (by decide) (fun c_40 => ?_) (fun c_40 => ?_)
      · refine f_iload_n dX12_writeRaws_48 rfl rfl ?_
        refine f_iload_n dX12_writeRaws_49 rfl rfl ?_
        refine f_ishr dX12_writeRaws_50 ?_
        refine f_iconst (v := 1) dX12_writeRaws_51 rfl ?_
        refine f_iand dX12_writeRaws_52 ?_
        refine f_iconst (v := 1) dX12_writeRaws_53 rfl ?_
        refine f_icmp_ne (tgt := 62) dX12_writeRaws_54 (by decide) (fun c_54 => ?_) (fun c_54 => ?_)
        · refine f_bipush (v := 46) dX12_writeRaws_62 (by decide) ?_
          refine f_cV hG (As := [_]) dX12_writeRaws_64 rfl k_X12_writes rfl rfl ml_X12_161 im_X12_writes se_X12_writes rfl rfl (c_X12_writes hG (d := 0) (Nat.le_refl _) _ _ _ (q1 j M hj hI c_24 c_40 c_54)) (by omega) (Nat.le_of_ble_eq_true rfl) (Nat.zero_le _) (Nat.zero_le _) ?_
          refine f_iinc (v := nI (j + 1)) (ls' := [_, _, _]) dX12_writeRaws_67 rfl (nI_1 j) (Nat.le_of_ble_eq_true rfl) rfl rfl ?_
          refine f_goto (tgt := 17) dX12_writeRaws_70 (by decide) ?_
          have e9 : l_X12_writeRawsL bv M (m + 1) j = l_X12_writeRawsL bv (m_X12_writes M (46 : Int32)) m (j + 1) := by rw [l_X12_writeRawsL, if_neg c_24, if_neg c_40, if_neg c_54]
          exact ih (j + 1) (m_X12_writes M (46 : Int32)) (by omega) (by omega) (q2 j M hj hI c_24 c_40 c_54) (by rw [e9] at kk; exact kk)
        · refine f_bipush (v := 42) dX12_writeRaws_57 (by decide) ?_
          refine f_goto (tgt := 64) dX12_writeRaws_59 (by decide) ?_
          refine f_cV hG (As := [_]) dX12_writeRaws_64 rfl k_X12_writes rfl rfl ml_X12_161 im_X12_writes se_X12_writes rfl rfl (c_X12_writes hG (d := 0) (Nat.le_refl _) _ _ _ (q3 j M hj hI c_24 c_40 c_54)) (by omega) (Nat.le_of_ble_eq_true rfl) (Nat.zero_le _) (Nat.zero_le _) ?_
          refine f_iinc (v := nI (j + 1)) (ls' := [_, _, _]) dX12_writeRaws_67 rfl (nI_1 j) (Nat.le_of_ble_eq_true rfl) rfl rfl ?_
          refine f_goto (tgt := 17) dX12_writeRaws_70 (by decide) ?_
          have e9 : l_X12_writeRawsL bv M (m + 1) j = l_X12_writeRawsL bv (m_X12_writes M (42 : Int32)) m (j + 1) := by rw [l_X12_writeRawsL, if_neg c_24, if_neg c_40, if_pos c_54]
          exact ih (j + 1) (m_X12_writes M (42 : Int32)) (by omega) (by omega) (q4 j M hj hI c_24 c_40 c_54) (by rw [e9] at kk; exact kk)
      · refine f_bipush (v := 120) dX12_writeRaws_43 (by decide) ?_
        refine f_goto (tgt := 64) dX12_writeRaws_45 (by decide) ?_
        refine f_cV hG (As := [_]) dX12_writeRaws_64 rfl k_X12_writes rfl rfl ml_X12_161 im_X12_writes se_X12_writes rfl rfl (c_X12_writes hG (d := 0) (Nat.le_refl _) _ _ _ (q5 j M hj hI c_24 c_40)) (by omega) (Nat.le_of_ble_eq_true rfl) (Nat.zero_le _) (Nat.zero_le _) ?_
        refine f_iinc (v := nI (j + 1)) (ls' := [_, _, _]) dX12_writeRaws_67 rfl (nI_1 j) (Nat.le_of_ble_eq_true rfl) rfl rfl ?_
        refine f_goto (tgt := 17) dX12_writeRaws_70 (by decide) ?_
        have e9 : l_X12_writeRawsL bv M (m + 1) j = l_X12_writeRawsL bv (m_X12_writes M (120 : Int32)) m (j + 1) := by rw [l_X12_writeRawsL, if_neg c_24, if_pos c_40]
        exact ih (j + 1) (m_X12_writes M (120 : Int32)) (by omega) (by omega) (q6 j M hj hI c_24 c_40) (by rw [e9] at kk; exact kk)

def a0_X12_writeRaws (M : fM) : fM := (l_X12_writeRawsL (r_X12_best (fst1 M 296 7 (0 : Int32))) (fst1 (fst1 M 296 7 (0 : Int32)) 296 13 (0 : Int32)) 7 0)
def r_X12_writeRaws (M : fM) : Int32 := ((a0_X12_writeRaws M) 296 13)
def m_X12_writeRaws (M : fM) : fM := (a0_X12_writeRaws M)
def N_X12_writeRaws (M : fM) : Prop := (N_X12_best (fst1 M 296 7 (0 : Int32))) ∧ (∃ Pv : Nat → fM → Prop, Pv 0 (fst1 (fst1 M 296 7 (0 : Int32)) 296 13 (0 : Int32)) ∧ (∀ (j_281 : Nat) (W_271 : fM), j_281 ≤ 6 → Pv j_281 W_271 → ¬ ((W_271 297 ((0 : Int32)).toNatClampNeg) ≤ (nI j_281)) → j_281 < 6) ∧ (∀ (j_282 : Nat) (W_271 : fM), j_282 ≤ 6 → Pv j_282 W_271 → ¬ ((W_271 297 ((0 : Int32)).toNatClampNeg) ≤ (nI j_282)) → ¬ ((((W_271 297 ((6 : Int32)).toNatClampNeg) >>> ((nI j_282) &&& 31)) &&& (1 : Int32)) = (1 : Int32)) → ¬ ((((r_X12_best (fst1 M 296 7 (0 : Int32))) >>> ((nI j_282) &&& 31)) &&& (1 : Int32)) = (1 : Int32)) → N_X12_writes W_271 (46 : Int32)) ∧ (∀ (j_283 : Nat) (W_271 : fM), j_283 ≤ 6 → Pv j_283 W_271 → ¬ ((W_271 297 ((0 : Int32)).toNatClampNeg) ≤ (nI j_283)) → ¬ ((((W_271 297 ((6 : Int32)).toNatClampNeg) >>> ((nI j_283) &&& 31)) &&& (1 : Int32)) = (1 : Int32)) → ¬ ((((r_X12_best (fst1 M 296 7 (0 : Int32))) >>> ((nI j_283) &&& 31)) &&& (1 : Int32)) = (1 : Int32)) → Pv (j_283 + 1) (m_X12_writes W_271 (46 : Int32))) ∧ (∀ (j_284 : Nat) (W_271 : fM), j_284 ≤ 6 → Pv j_284 W_271 → ¬ ((W_271 297 ((0 : Int32)).toNatClampNeg) ≤ (nI j_284)) → ¬ ((((W_271 297 ((6 : Int32)).toNatClampNeg) >>> ((nI j_284) &&& 31)) &&& (1 : Int32)) = (1 : Int32)) → ((((r_X12_best (fst1 M 296 7 (0 : Int32))) >>> ((nI j_284) &&& 31)) &&& (1 : Int32)) = (1 : Int32)) → N_X12_writes W_271 (42 : Int32)) ∧ (∀ (j_285 : Nat) (W_271 : fM), j_285 ≤ 6 → Pv j_285 W_271 → ¬ ((W_271 297 ((0 : Int32)).toNatClampNeg) ≤ (nI j_285)) → ¬ ((((W_271 297 ((6 : Int32)).toNatClampNeg) >>> ((nI j_285) &&& 31)) &&& (1 : Int32)) = (1 : Int32)) → ((((r_X12_best (fst1 M 296 7 (0 : Int32))) >>> ((nI j_285) &&& 31)) &&& (1 : Int32)) = (1 : Int32)) → Pv (j_285 + 1) (m_X12_writes W_271 (42 : Int32))) ∧ (∀ (j_286 : Nat) (W_271 : fM), j_286 ≤ 6 → Pv j_286 W_271 → ¬ ((W_271 297 ((0 : Int32)).toNatClampNeg) ≤ (nI j_286)) → ((((W_271 297 ((6 : Int32)).toNatClampNeg) >>> ((nI j_286) &&& 31)) &&& (1 : Int32)) = (1 : Int32)) → N_X12_writes W_271 (120 : Int32)) ∧ (∀ (j_287 : Nat) (W_271 : fM), j_287 ≤ 6 → Pv j_287 W_271 → ¬ ((W_271 297 ((0 : Int32)).toNatClampNeg) ≤ (nI j_287)) → ((((W_271 297 ((6 : Int32)).toNatClampNeg) >>> ((nI j_287) &&& 31)) &&& (1 : Int32)) = (1 : Int32)) → Pv (j_287 + 1) (m_X12_writes W_271 (120 : Int32))))
set_option maxRecDepth 100000 in
set_option maxHeartbeats 4000000 in
theorem c_X12_writeRaws {G : fG} (hG : fOK G) {d : Nat} (hd : 4 ≤ d) (M : fM) (dv : UInt64) (hN : N_X12_writeRaws M) : fCt G z_X12_writeRaws d [.ref 296] (sS M dv) 0 0 (fD (some (.int (r_X12_writeRaws M))) (sS (m_X12_writeRaws M) dv)) := by
  refine fCt_to [some (.ref 296), none, none] k_X12_writeRaws rfl (Nat.le_of_ble_eq_true rfl) rfl ?_
  obtain ⟨q0, q1⟩ := hN
  refine f_aload_n dX12_writeRaws_0 rfl rfl ?_
  refine f_iconst (v := 0) dX12_writeRaws_1 rfl ?_
  refine s_puti hG fl_X12_45 (Or.inl rfl) dX12_writeRaws_2 rfl rfl rfl rfl ?_
  refine f_aload_n dX12_writeRaws_5 rfl rfl ?_
  refine f_cV hG (As := []) dX12_writeRaws_6 rfl k_X12_best rfl rfl ml_X12_148 im_X12_best se_X12_best rfl rfl (c_X12_best hG (d := 3) (Nat.le_refl _) _ _ q0) (by omega) (Nat.le_of_ble_eq_true rfl) (Nat.zero_le _) (Nat.zero_le _) ?_
  refine f_istore_n (ls' := [_, _, _]) dX12_writeRaws_9 rfl (Nat.le_of_ble_eq_true rfl) rfl rfl ?_
  refine f_aload_n dX12_writeRaws_10 rfl rfl ?_
  refine f_iconst (v := 0) dX12_writeRaws_11 rfl ?_
  refine s_puti hG fl_X12_154 (Or.inl rfl) dX12_writeRaws_12 rfl rfl rfl rfl ?_
  refine f_iconst (v := 0) dX12_writeRaws_15 rfl ?_
  refine f_istore_n (ls' := [_, _, _]) dX12_writeRaws_16 rfl (Nat.le_of_ble_eq_true rfl) rfl rfl ?_
  obtain ⟨Pv280, hI280, w280_0, w280_1, w280_2, w280_3, w280_4, w280_5, w280_6⟩ := q1
  refine lc_X12_writeRawsL hG (by omega) dv _ Pv280 w280_0 w280_1 w280_2 w280_3 w280_4 w280_5 w280_6 7 0 _ (by omega) (by omega) hI280 ?_
  refine f_mem (M := (l_X12_writeRawsL (r_X12_best (fst1 M 296 7 (0 : Int32))) (fst1 (fst1 M 296 7 (0 : Int32)) 296 13 (0 : Int32)) 7 0)) (M' := (a0_X12_writeRaws M)) (by rw [a0_X12_writeRaws]) ?_
  refine f_aload_n dX12_writeRaws_73 rfl rfl ?_
  refine s_geti hG fl_X12_154 dX12_writeRaws_74 rfl rfl ?_
  refine f_ireturn dX12_writeRaws_77 rfl rfl ?_
  exact ⟨by rw [r_X12_writeRaws], by rw [m_X12_writeRaws]⟩

def r_X12_lineAt (M : fM) (a : Int32) : Int32 := (if (r_X12_in M a (0 : Int32) ((M 296 13) - (1 : Int32))) = 0 then (32 : Int32) else ((fst1 M 296 7 (0 : Int32)) 302 (a).toNatClampNeg))
def m_X12_lineAt (M : fM) (a : Int32) : fM := (if (r_X12_in M a (0 : Int32) ((M 296 13) - (1 : Int32))) = 0 then (fst1 M 296 7 (1 : Int32)) else (fst1 M 296 7 (0 : Int32)))
def N_X12_lineAt (M : fM) (a : Int32) : Prop := (¬ ((r_X12_in M a (0 : Int32) ((M 296 13) - (1 : Int32))) = 0) → vp_in a 60) ∧ (¬ ((r_X12_in M a (0 : Int32) ((M 296 13) - (1 : Int32))) = 0) → narrow .char (.int ((fst1 M 296 7 (0 : Int32)) 302 (a).toNatClampNeg)) = .int ((fst1 M 296 7 (0 : Int32)) 302 (a).toNatClampNeg))
set_option maxRecDepth 100000 in
set_option maxHeartbeats 4000000 in
theorem c_X12_lineAt {G : fG} (hG : fOK G) {d : Nat} (hd : 1 ≤ d) (M : fM) (dv : UInt64) (a : Int32) (hN : N_X12_lineAt M a) : fCt G z_X12_lineAt d [.ref 296, .int a] (sS M dv) 0 0 (fD (some (.int (r_X12_lineAt M a))) (sS (m_X12_lineAt M a) dv)) := by
  refine fCt_to [some (.ref 296), some (.int a)] k_X12_lineAt rfl (Nat.le_of_ble_eq_true rfl) rfl ?_
  obtain ⟨q0, q1⟩ := hN
  refine f_aload_n dX12_lineAt_0 rfl rfl ?_
  refine f_iload_n dX12_lineAt_1 rfl rfl ?_
  refine f_iconst (v := 0) dX12_lineAt_2 rfl ?_
  refine f_aload_n dX12_lineAt_3 rfl rfl ?_
  refine s_geti hG fl_X12_154 dX12_lineAt_4 rfl rfl ?_
  refine f_iconst (v := 1) dX12_lineAt_7 rfl ?_
  refine f_isub dX12_lineAt_8 ?_
  refine f_cS hG (As := [_, _, _]) dX12_lineAt_9 rfl k_X12_in rfl rfl ml_X12_59 sm_X12_in (c_X12_in hG (d := 0) (Nat.le_refl _) _ _ _ _ _) (by omega) (Nat.le_of_ble_eq_true rfl) (Nat.zero_le _) (Nat.zero_le _) ?_
  refine f_if_eq (tgt := 19) dX12_lineAt_12 (by decide) (fun c_12 => ?_) (fun c_12 => ?_)
  · refine f_iconst (v := 1) dX12_lineAt_19 rfl ?_
    refine f_cV hG (As := [_]) dX12_lineAt_20 rfl k_X12_fails rfl rfl ml_X12_63 im_X12_fails se_X12_fails rfl rfl (c_X12_failsT hG (d := 0) (Nat.le_refl _) _ _ _ (by decide)) (by omega) (Nat.le_of_ble_eq_true rfl) (Nat.zero_le _) (Nat.zero_le _) ?_
    refine f_if_eq (tgt := 31) dX12_lineAt_23 (by decide) (fun c_23 => absurd c_23 (by decide)) (fun c_23 => ?_)
    refine f_bipush (v := 32) dX12_lineAt_26 (by decide) ?_
    refine f_goto (tgt := 37) dX12_lineAt_28 (by decide) ?_
    refine f_ireturn dX12_lineAt_37 rfl rfl ?_
    exact ⟨by rw [r_X12_lineAt, if_pos c_12], by rw [m_X12_lineAt, if_pos c_12]⟩
  · refine f_iconst (v := 0) dX12_lineAt_15 rfl ?_
    refine f_goto (tgt := 20) dX12_lineAt_16 (by decide) ?_
    refine f_cV hG (As := [_]) dX12_lineAt_20 rfl k_X12_fails rfl rfl ml_X12_63 im_X12_fails se_X12_fails rfl rfl (c_X12_failsF hG (d := 0) (Nat.le_refl _) _ _ _ (by decide)) (by omega) (Nat.le_of_ble_eq_true rfl) (Nat.zero_le _) (Nat.zero_le _) ?_
    refine f_if_eq (tgt := 31) dX12_lineAt_23 (by decide) (fun c_23 => ?_) (fun c_23 => absurd c_23 (by decide))
    refine f_aload_n dX12_lineAt_31 rfl rfl ?_
    refine s_getr hG fl_X12_32 dX12_lineAt_32 rfl rfl ?_
    refine f_iload_n dX12_lineAt_35 rfl rfl ?_
    refine s_caload hG dX12_lineAt_36 rfl ((q0 c_12)) ?_
    refine f_ireturn dX12_lineAt_37 rfl ((q1 c_12)) ?_
    exact ⟨by rw [r_X12_lineAt, if_neg c_12], by rw [m_X12_lineAt, if_neg c_12]⟩

def r_X12_isConsistent (M : fM) : Int32 := (if ((fst1 M 296 7 (0 : Int32)) 297 ((7 : Int32)).toNatClampNeg) = ((((r_X12_keptJars (fst1 M 296 7 (0 : Int32))) + ((fst1 M 296 7 (0 : Int32)) 297 ((8 : Int32)).toNatClampNeg)) + ((fst1 M 296 7 (0 : Int32)) 297 ((9 : Int32)).toNatClampNeg)) + ((fst1 M 296 7 (0 : Int32)) 297 ((10 : Int32)).toNatClampNeg)) then (1 : Int32) else (0 : Int32))
def m_X12_isConsistent (M : fM) : fM := (if ((fst1 M 296 7 (0 : Int32)) 297 ((7 : Int32)).toNatClampNeg) = ((((r_X12_keptJars (fst1 M 296 7 (0 : Int32))) + ((fst1 M 296 7 (0 : Int32)) 297 ((8 : Int32)).toNatClampNeg)) + ((fst1 M 296 7 (0 : Int32)) 297 ((9 : Int32)).toNatClampNeg)) + ((fst1 M 296 7 (0 : Int32)) 297 ((10 : Int32)).toNatClampNeg)) then (fst1 M 296 7 (0 : Int32)) else (fst1 M 296 7 (0 : Int32)))
theorem n_X12_isConsistent (M : fM) : narrow .boolean (.int (r_X12_isConsistent M)) = .int (r_X12_isConsistent M) := by
  unfold r_X12_isConsistent
  repeat' with_reducible apply n_ite
  all_goals first | rfl | exact pk_nc _
def N_X12_isConsistent (M : fM) : Prop := (N_X12_keptJars (fst1 M 296 7 (0 : Int32)))
set_option maxRecDepth 100000 in
set_option maxHeartbeats 4000000 in
theorem c_X12_isConsistent {G : fG} (hG : fOK G) {d : Nat} (hd : 2 ≤ d) (M : fM) (dv : UInt64) (hN : N_X12_isConsistent M) : fCt G z_X12_isConsistent d [.ref 296] (sS M dv) 0 0 (fD (some (.int (r_X12_isConsistent M))) (sS (m_X12_isConsistent M) dv)) := by
  refine fCt_to [some (.ref 296)] k_X12_isConsistent rfl (Nat.le_of_ble_eq_true rfl) rfl ?_
  have q0 : N_X12_keptJars (fst1 M 296 7 (0 : Int32)) := hN
  refine f_aload_n dX12_isConsistent_0 rfl rfl ?_
  refine f_iconst (v := 0) dX12_isConsistent_1 rfl ?_
  refine s_puti hG fl_X12_45 (Or.inl rfl) dX12_isConsistent_2 rfl rfl rfl rfl ?_
  refine f_aload_n dX12_isConsistent_5 rfl rfl ?_
  refine s_getr hG fl_X12_7 dX12_isConsistent_6 rfl rfl ?_
  refine f_bipush (v := 7) dX12_isConsistent_9 (by decide) ?_
  refine s_iaload hG dX12_isConsistent_11 rfl ((show ¬ ((7 : Int32) < 0 ∨ 127 ≤ (7 : Int32).toNatClampNeg) by decide)) ?_
  refine f_aload_n dX12_isConsistent_12 rfl rfl ?_
  refine f_cV hG (As := []) dX12_isConsistent_13 rfl k_X12_keptJars rfl rfl ml_X12_151 im_X12_keptJars se_X12_keptJars rfl rfl (c_X12_keptJars hG (d := 1) (Nat.le_refl _) _ _ q0) (by omega) (Nat.le_of_ble_eq_true rfl) (Nat.zero_le _) (Nat.zero_le _) ?_
  refine f_aload_n dX12_isConsistent_16 rfl rfl ?_
  refine s_getr hG fl_X12_7 dX12_isConsistent_17 rfl rfl ?_
  refine f_bipush (v := 8) dX12_isConsistent_20 (by decide) ?_
  refine s_iaload hG dX12_isConsistent_22 rfl ((show ¬ ((8 : Int32) < 0 ∨ 127 ≤ (8 : Int32).toNatClampNeg) by decide)) ?_
  refine f_iadd dX12_isConsistent_23 ?_
  refine f_aload_n dX12_isConsistent_24 rfl rfl ?_
  refine s_getr hG fl_X12_7 dX12_isConsistent_25 rfl rfl ?_
  refine f_bipush (v := 9) dX12_isConsistent_28 (by decide) ?_
  refine s_iaload hG dX12_isConsistent_30 rfl ((show ¬ ((9 : Int32) < 0 ∨ 127 ≤ (9 : Int32).toNatClampNeg) by decide)) ?_
  refine f_iadd dX12_isConsistent_31 ?_
  refine f_aload_n dX12_isConsistent_32 rfl rfl ?_
  refine s_getr hG fl_X12_7 dX12_isConsistent_33 rfl rfl ?_
  refine f_bipush (v := 10) dX12_isConsistent_36 (by decide) ?_
  refine s_iaload hG dX12_isConsistent_38 rfl ((show ¬ ((10 : Int32) < 0 ∨ 127 ≤ (10 : Int32).toNatClampNeg) by decide)) ?_
  refine f_iadd dX12_isConsistent_39 ?_
  refine f_icmp_ne (tgt := 47) dX12_isConsistent_40 (by decide) (fun c_40 => ?_) (fun c_40 => ?_)
  · refine f_iconst (v := 0) dX12_isConsistent_47 rfl ?_
    refine f_ireturn dX12_isConsistent_48 rfl rfl ?_
    exact ⟨by rw [r_X12_isConsistent, if_neg c_40], by rw [m_X12_isConsistent, if_neg c_40]⟩
  · refine f_iconst (v := 1) dX12_isConsistent_43 rfl ?_
    refine f_goto (tgt := 48) dX12_isConsistent_44 (by decide) ?_
    refine f_ireturn dX12_isConsistent_48 rfl rfl ?_
    exact ⟨by rw [r_X12_isConsistent, if_pos c_40], by rw [m_X12_isConsistent, if_pos c_40]⟩

def a0_X12_type (M : fM) (a : Int32) : fM := (fst1 (fst1 (fst1 M 296 7 (0 : Int32)) 301 (((fst1 M 296 7 (0 : Int32)) 296 9)).toNatClampNeg a) 296 9 (((fst1 (fst1 M 296 7 (0 : Int32)) 301 (((fst1 M 296 7 (0 : Int32)) 296 9)).toNatClampNeg a) 296 9) + (1 : Int32)))
def r_X12_type (M : fM) (a : Int32) : Int32 := (if (r_X12_in M a (32 : Int32) (126 : Int32)) = 0 then (0 : Int32) else (if (M 296 9) = (60 : Int32) then (0 : Int32) else ((a0_X12_type M a) 296 9)))
def m_X12_type (M : fM) (a : Int32) : fM := (if (r_X12_in M a (32 : Int32) (126 : Int32)) = 0 then (fst1 M 296 7 (1 : Int32)) else (if (M 296 9) = (60 : Int32) then (fst1 M 296 7 (2 : Int32)) else (a0_X12_type M a)))
def N_X12_type (M : fM) (a : Int32) : Prop := (¬ ((r_X12_in M a (32 : Int32) (126 : Int32)) = 0) → ¬ ((M 296 9) = (60 : Int32)) → vp_in ((fst1 M 296 7 (0 : Int32)) 296 9) 60)
set_option maxRecDepth 100000 in
set_option maxHeartbeats 4000000 in
theorem c_X12_type {G : fG} (hG : fOK G) {d : Nat} (hd : 1 ≤ d) (M : fM) (dv : UInt64) (a : Int32) (hN : N_X12_type M a) : fCt G z_X12_type d [.ref 296, .int a] (sS M dv) 0 0 (fD (some (.int (r_X12_type M a))) (sS (m_X12_type M a) dv)) := by
  refine fCt_to [some (.ref 296), some (.int a)] k_X12_type rfl (Nat.le_of_ble_eq_true rfl) rfl ?_
  have q0 : ¬ ((r_X12_in M a (32 : Int32) (126 : Int32)) = 0) → ¬ ((M 296 9) = (60 : Int32)) → vp_in ((fst1 M 296 7 (0 : Int32)) 296 9) 60 := hN
  refine f_aload_n dX12_type_0 rfl rfl ?_
  refine f_iload_n dX12_type_1 rfl rfl ?_
  refine f_bipush (v := 32) dX12_type_2 (by decide) ?_
  refine f_bipush (v := 126) dX12_type_4 (by decide) ?_
  refine f_cS hG (As := [_, _, _]) dX12_type_6 rfl k_X12_in rfl rfl ml_X12_59 sm_X12_in (c_X12_in hG (d := 0) (Nat.le_refl _) _ _ _ _ _) (by omega) (Nat.le_of_ble_eq_true rfl) (Nat.zero_le _) (Nat.zero_le _) ?_
  refine f_if_ne (tgt := 16) dX12_type_9 (by decide) (fun c_9 => ?_) (fun c_9 => ?_)
  · refine f_aload_n dX12_type_16 rfl rfl ?_
    refine s_geti hG fl_X12_81 dX12_type_17 rfl rfl ?_
    refine f_bipush (v := 60) dX12_type_20 (by decide) ?_
    refine f_icmp_ne (tgt := 29) dX12_type_22 (by decide) (fun c_22 => ?_) (fun c_22 => ?_)
    · refine f_iconst (v := 0) dX12_type_29 rfl ?_
      refine f_cV hG (As := [_]) dX12_type_30 rfl k_X12_fails rfl rfl ml_X12_63 im_X12_fails se_X12_fails rfl rfl (c_X12_failsF hG (d := 0) (Nat.le_refl _) _ _ _ (by decide)) (by omega) (Nat.le_of_ble_eq_true rfl) (Nat.zero_le _) (Nat.zero_le _) ?_
      refine f_if_eq (tgt := 38) dX12_type_33 (by decide) (fun c_33 => ?_) (fun c_33 => absurd c_33 (by decide))
      refine f_aload_n dX12_type_38 rfl rfl ?_
      refine s_getr hG fl_X12_22 dX12_type_39 rfl rfl ?_
      refine f_aload_n dX12_type_42 rfl rfl ?_
      refine s_geti hG fl_X12_81 dX12_type_43 rfl rfl ?_
      refine f_iload_n dX12_type_46 rfl rfl ?_
      refine s_iastore hG dX12_type_47 rfl ((q0 c_9 c_22)) ?_
      refine f_aload_n dX12_type_48 rfl rfl ?_
      refine f_dup dX12_type_49 rfl ?_
      refine s_geti hG fl_X12_81 dX12_type_50 rfl rfl ?_
      refine f_iconst (v := 1) dX12_type_53 rfl ?_
      refine f_iadd dX12_type_54 ?_
      refine s_puti hG fl_X12_81 (Or.inl rfl) dX12_type_55 rfl rfl rfl rfl ?_
      refine f_mem (M := (fst1 (fst1 (fst1 M 296 7 (0 : Int32)) 301 (((fst1 M 296 7 (0 : Int32)) 296 9)).toNatClampNeg a) 296 9 (((fst1 (fst1 M 296 7 (0 : Int32)) 301 (((fst1 M 296 7 (0 : Int32)) 296 9)).toNatClampNeg a) 296 9) + (1 : Int32)))) (M' := (a0_X12_type M a)) (by rw [a0_X12_type]) ?_
      refine f_aload_n dX12_type_58 rfl rfl ?_
      refine s_geti hG fl_X12_81 dX12_type_59 rfl rfl ?_
      refine f_ireturn dX12_type_62 rfl rfl ?_
      exact ⟨by rw [r_X12_type, if_neg c_9, if_neg c_22], by rw [m_X12_type, if_neg c_9, if_neg c_22]⟩
    · refine f_iconst (v := 2) dX12_type_25 rfl ?_
      refine f_goto (tgt := 30) dX12_type_26 (by decide) ?_
      refine f_cV hG (As := [_]) dX12_type_30 rfl k_X12_fails rfl rfl ml_X12_63 im_X12_fails se_X12_fails rfl rfl (c_X12_failsT hG (d := 0) (Nat.le_refl _) _ _ _ (by decide)) (by omega) (Nat.le_of_ble_eq_true rfl) (Nat.zero_le _) (Nat.zero_le _) ?_
      refine f_if_eq (tgt := 38) dX12_type_33 (by decide) (fun c_33 => absurd c_33 (by decide)) (fun c_33 => ?_)
      refine f_iconst (v := 0) dX12_type_36 rfl ?_
      refine f_ireturn dX12_type_37 rfl rfl ?_
      exact ⟨by rw [r_X12_type, if_neg c_9, if_pos c_22], by rw [m_X12_type, if_neg c_9, if_pos c_22]⟩
  · refine f_iconst (v := 1) dX12_type_12 rfl ?_
    refine f_goto (tgt := 30) dX12_type_13 (by decide) ?_
    refine f_cV hG (As := [_]) dX12_type_30 rfl k_X12_fails rfl rfl ml_X12_63 im_X12_fails se_X12_fails rfl rfl (c_X12_failsT hG (d := 0) (Nat.le_refl _) _ _ _ (by decide)) (by omega) (Nat.le_of_ble_eq_true rfl) (Nat.zero_le _) (Nat.zero_le _) ?_
    refine f_if_eq (tgt := 38) dX12_type_33 (by decide) (fun c_33 => absurd c_33 (by decide)) (fun c_33 => ?_)
    refine f_iconst (v := 0) dX12_type_36 rfl ?_
    refine f_ireturn dX12_type_37 rfl rfl ?_
    exact ⟨by rw [r_X12_type, if_pos c_9], by rw [m_X12_type, if_pos c_9]⟩

def r_X12_clearText (M : fM) : Int32 := ((fst1 M 296 7 (0 : Int32)) 296 9)
def m_X12_clearText (M : fM) : fM := (fst1 (fst1 M 296 7 (0 : Int32)) 296 9 (0 : Int32))
set_option maxRecDepth 100000 in
set_option maxHeartbeats 4000000 in
theorem c_X12_clearText {G : fG} (hG : fOK G) {d : Nat} (hd : 0 ≤ d) (M : fM) (dv : UInt64) : fCt G z_X12_clearText d [.ref 296] (sS M dv) 0 0 (fD (some (.int (r_X12_clearText M))) (sS (m_X12_clearText M) dv)) := by
  refine fCt_to [some (.ref 296), none] k_X12_clearText rfl (Nat.le_of_ble_eq_true rfl) rfl ?_
  refine f_aload_n dX12_clearText_0 rfl rfl ?_
  refine f_iconst (v := 0) dX12_clearText_1 rfl ?_
  refine s_puti hG fl_X12_45 (Or.inl rfl) dX12_clearText_2 rfl rfl rfl rfl ?_
  refine f_aload_n dX12_clearText_5 rfl rfl ?_
  refine s_geti hG fl_X12_81 dX12_clearText_6 rfl rfl ?_
  refine f_istore_n (ls' := [_, _]) dX12_clearText_9 rfl (Nat.le_of_ble_eq_true rfl) rfl rfl ?_
  refine f_aload_n dX12_clearText_10 rfl rfl ?_
  refine f_iconst (v := 0) dX12_clearText_11 rfl ?_
  refine s_puti hG fl_X12_81 (Or.inl rfl) dX12_clearText_12 rfl rfl rfl rfl ?_
  refine f_iload_n dX12_clearText_15 rfl rfl ?_
  refine f_ireturn dX12_clearText_16 rfl rfl ?_
  exact ⟨by rw [r_X12_clearText], by rw [m_X12_clearText]⟩
