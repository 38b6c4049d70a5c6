/-! ===== the rest of State; History ===== -/
theorem n_ite {ty : FieldType} {c : Prop} [Decidable c] {x y : Int32} (h1 : narrow ty (.int x) = .int x) (h2 : narrow ty (.int y) = .int y) : narrow ty (.int (if c then x else y)) = .int (if c then x else y) := by
  by_cases h : c
  · rw [if_pos h]; exact h1
  · rw [if_neg h]; exact h2
theorem rgap_ne {M : fM} {k n g a : Nat} (h : a ≠ k + 1) : rgap M k n g a = M a := by rw [rgap, fsr_ne h]
theorem m_X5_remove_cnt (M : fM) (k g : Nat) : m_X5_remove M k g k 6 = M k 6 - 1 := by
  rw [m_X5_remove, fst1_at]
  simp only [rgap_ne (show k ≠ k + 1 + 1 by omega), rgap_ne (show k ≠ k + 3 + 1 by omega), rgap_ne (show k ≠ k + 5 + 1 by omega), rgap_ne (show k ≠ k + 7 + 1 by omega), rgap_ne (show k ≠ k + 9 + 1 by omega), rgap_ne (show k ≠ k + 11 + 1 by omega)]
theorem cnt_X8_passOneDay (k : Nat) : ∀ (i : Nat) (M : fM) (v1 : Int32) (C : Nat), M (k + 11) 6 = nI C → i ≤ C → C ≤ 8 → ∃ C', C' ≤ 8 ∧ (l_X8_passOneDay k M i v1).2 (k + 11) 6 = nI C' := by
  intro i
  induction i with
  | zero => intro M v1 C h1 h2 h3; exact ⟨C, h3, by rw [l_X8_passOneDay]; exact h1⟩
  | succ i ih =>
    intro M v1 C h1 h2 h3
    have e : rset M (k + 11 + 11) 8 (nI i) ((rget M (k + 11 + 11) 8 (nI i)) + (r_X8_riseAt M k (nI i))) (k + 11) = M (k + 11) := rset_ne (by omega)
    rw [l_X8_passOneDay]
    split
    · exact ih _ _ C (by rw [e]; exact h1) (by omega) h3
    · refine ih _ _ (C - 1) ?_ (by omega) (by omega)
      obtain ⟨C, rfl⟩ : ∃ c, C = c + 1 := ⟨C - 1, by omega⟩
      rw [fst1_ne (by omega), m_X5_remove_cnt, e, h1, nI_pred]; rfl
def cOK (M : fM) (k : Nat) : Prop := M (k + 11) 6 = nI (M (k + 11) 6).toNatClampNeg ∧ (M (k + 11) 6).toNatClampNeg ≤ 8
theorem cOK_of {M : fM} {k C : Nat} (h : M (k + 11) 6 = nI C) (hC : C ≤ 8) : cOK M k := by
  have e : (M (k + 11) 6).toNatClampNeg = C := by rw [h]; exact nI_clamp (by omega)
  exact ⟨by rw [e]; exact h, by rw [e]; exact hC⟩
theorem cOK_day {M : fM} {k : Nat} (h : cOK M k) : cOK (m_X8_passOneDay M k (M (k + 11) 6).toNatClampNeg) k := by
  obtain ⟨C', h1, h2⟩ := cnt_X8_passOneDay k (M (k + 11) 6).toNatClampNeg (fst1 M k 3 ((M k 3) + (1 : Int32))) 0 (M (k + 11) 6).toNatClampNeg (by rw [fst1_ne (by omega)]; exact h.1) (Nat.le_refl _) h.2
  exact cOK_of (C := C') (by rw [m_X8_passOneDay]; exact h2) h1

def r_X8_shipLot (M : fM) (k : Nat) (a : Int32) : Int32 := (r_X5_remove M (k + 11) (r_X5_positionOf M (k + 11) a).toNatClampNeg)
def m_X8_shipLot (M : fM) (k : Nat) (a : Int32) : fM := (fst1 (m_X5_remove M (k + 11) (r_X5_positionOf M (k + 11) a).toNatClampNeg) k 5 (((m_X5_remove M (k + 11) (r_X5_positionOf M (k + 11) a).toNatClampNeg) k 5) + (r_X5_remove M (k + 11) (r_X5_positionOf M (k + 11) a).toNatClampNeg)))
set_option maxRecDepth 100000 in
set_option maxHeartbeats 4000000 in
theorem c_X8_shipLot {G : fG} (hG : fOK G) {d : Nat} (hd : 2 ≤ d) (M : fM) (dv : UInt64) (k : Nat) (a : Int32) (hk : rState k) (N : Nat) (hN : (M (k + 11) 6) = nI N) (hN2 : N < 300) (hp : r_X5_positionOf M (k + 11) a = nI (r_X5_positionOf M (k + 11) a).toNatClampNeg) (hp2 : (r_X5_positionOf M (k + 11) a).toNatClampNeg < 8) : fCt G z_X8_shipLot d [.ref k, .int a] (sS M dv) 0 0 (fD (some (.int (r_X8_shipLot M k a))) (sS (m_X8_shipLot M k a) dv)) := by
  refine fCt_to [some (.ref k), some (.int a), none] k_X8_shipLot rfl (Nat.le_of_ble_eq_true rfl) rfl ?_
  refine f_aload_n dX8_shipLot_0 rfl rfl ?_
  refine s_getr hG fl_X8_28 dX8_shipLot_1 hk.1 rfl ?_
  refine f_aload_n dX8_shipLot_4 rfl rfl ?_
  refine s_getr hG fl_X8_28 dX8_shipLot_5 hk.1 rfl ?_
  refine f_iload_n dX8_shipLot_8 rfl rfl ?_
  refine f_cV hG (As := [_]) dX8_shipLot_9 rfl k_X5_positionOf rfl rfl ml_X8_87 im_X5_positionOf se_X5_positionOf hk.2.2.2.1 rfl (c_X5_positionOf hG (d := 1) (Nat.le_refl _) _ _ _ _ hk.2.2.2 _ (by assumption) (by omega)) (by omega) (Nat.le_of_ble_eq_true rfl) (Nat.zero_le _) (Nat.zero_le _) ?_
  rw [hp]
  refine f_cV hG (As := [_]) dX8_shipLot_12 rfl k_X5_remove rfl rfl ml_X8_91 im_X5_remove se_X5_remove hk.2.2.2.1 rfl (c_X5_remove hG (d := 1) (Nat.le_refl _) _ _ _ _ hk.2.2.2 (by omega)) (by omega) (Nat.le_of_ble_eq_true rfl) (Nat.zero_le _) (Nat.zero_le _) ?_
  refine f_istore_n (ls' := [_, _, _]) dX8_shipLot_15 rfl (Nat.le_of_ble_eq_true rfl) rfl rfl ?_
  refine f_aload_n dX8_shipLot_16 rfl rfl ?_
  refine f_dup dX8_shipLot_17 rfl ?_
  refine s_geti hG fl_X8_39 dX8_shipLot_18 hk.1 rfl ?_
  refine f_iload_n dX8_shipLot_21 rfl rfl ?_
  refine f_iadd dX8_shipLot_22 ?_
  refine s_puti hG fl_X8_39 (Or.inl rfl) dX8_shipLot_23 hk.1 rfl rfl rfl ?_
  refine f_iload_n dX8_shipLot_26 rfl rfl ?_
  refine f_ireturn dX8_shipLot_27 rfl rfl ?_
  exact ⟨by rw [r_X8_shipLot], by rw [m_X8_shipLot]⟩

def l_X8_passDays (k : Nat) (a : Int32) : fM → Nat → Nat → Int32 → Int32 × fM
  | M, 0, _, _ => (0, M)
  | M, m + 1, j, v2 => (if a ≤ (nI j) then (v2, M) else (l_X8_passDays k a (m_X8_passOneDay M k (M (k + 11) 6).toNatClampNeg) m (j + 1) (v2 + (r_X8_passOneDay M k (M (k + 11) 6).toNatClampNeg))))
set_option maxRecDepth 100000 in
set_option maxHeartbeats 4000000 in
theorem lp_X8_passDays {G : fG} (hG : fOK G) {d : Nat} (hd : 4 ≤ d) (dv : UInt64) (k : Nat) (a : Int32) (hk : rState k) (N : Nat) (hN : a = nI N) (hN2 : N < 300) : ∀ (m j : Nat) (M : fM) (v2 : Int32), j ≤ N → N + 1 ≤ j + m → cOK M k → fV G z_X8_passDays d (fD (some (.int (l_X8_passDays k a M m j v2).1)) (sS (l_X8_passDays k a M m j v2).2 dv)) 4 [some (.ref k), some (.int a), some (.int v2), some (.int (nI j))] [] (sS M dv) 0 0 := by
  intro m
  induction m with
  | zero => intros; omega
  | succ m ih =>
    intro j M v2 hj hm hq
    refine f_iload_n dX8_passDays_4 rfl rfl ?_
    refine f_iload_n dX8_passDays_5 rfl rfl ?_
    refine f_icmp_ge (tgt := 22) dX8_passDays_6 (by decide) (fun c_6 => ?_) (fun c_6 => ?_)
    · refine f_iload_n dX8_passDays_22 rfl rfl ?_
      refine f_ireturn dX8_passDays_23 rfl rfl ?_
      exact ⟨by rw [l_X8_passDays, if_pos c_6], by rw [l_X8_passDays, if_pos c_6]⟩
    · have hlt : j < N := nlt hN c_6 hj (by omega)
      refine f_iload_n dX8_passDays_9 rfl rfl ?_
      refine f_aload_n dX8_passDays_10 rfl rfl ?_
      refine f_cV hG (As := []) dX8_passDays_11 rfl k_X8_passOneDay rfl rfl ml_X8_94 im_X8_passOneDay se_X8_passOneDay hk.1 rfl (c_X8_passOneDay hG (d := 3) (Nat.le_refl _) _ _ _ hk _ hq.1 hq.2) (by omega) (Nat.le_of_ble_eq_true rfl) (Nat.zero_le _) (Nat.zero_le _) ?_
      refine f_iadd dX8_passDays_14 ?_
      refine f_istore_n (ls' := [_, _, _, _]) dX8_passDays_15 rfl (Nat.le_of_ble_eq_true rfl) rfl rfl ?_
      refine f_iinc (v := nI (j + 1)) (ls' := [_, _, _, _]) dX8_passDays_16 rfl (nI_1 j) (Nat.le_of_ble_eq_true rfl) rfl rfl ?_
      refine f_goto (tgt := 4) dX8_passDays_19 (by decide) ?_
      have e9 : l_X8_passDays k a M (m + 1) j v2 = l_X8_passDays k a (m_X8_passOneDay M k (M (k + 11) 6).toNatClampNeg) m (j + 1) (v2 + (r_X8_passOneDay M k (M (k + 11) 6).toNatClampNeg)) := by rw [l_X8_passDays, if_neg c_6]
      rw [e9]
      exact ih (j + 1) (m_X8_passOneDay M k (M (k + 11) 6).toNatClampNeg) (v2 + (r_X8_passOneDay M k (M (k + 11) 6).toNatClampNeg)) (by omega) (by omega) (cOK_day hq)
def r_X8_passDays (M : fM) (k : Nat) (a : Int32) : Int32 := (l_X8_passDays k a M 301 0 (0 : Int32)).1
def m_X8_passDays (M : fM) (k : Nat) (a : Int32) : fM := (l_X8_passDays k a M 301 0 (0 : Int32)).2
set_option maxRecDepth 100000 in
set_option maxHeartbeats 4000000 in
theorem c_X8_passDays {G : fG} (hG : fOK G) {d : Nat} (hd : 4 ≤ d) (M : fM) (dv : UInt64) (k : Nat) (a : Int32) (hk : rState k) (N : Nat) (hN : a = nI N) (hN2 : N < 300) (hq : cOK M k) : fCt G z_X8_passDays d [.ref k, .int a] (sS M dv) 0 0 (fD (some (.int (r_X8_passDays M k a))) (sS (m_X8_passDays M k a) dv)) := by
  refine fCt_to [some (.ref k), some (.int a), none, none] k_X8_passDays rfl (Nat.le_of_ble_eq_true rfl) rfl ?_
  refine f_iconst (v := 0) dX8_passDays_0 rfl ?_
  refine f_istore_n (ls' := [_, _, _, _]) dX8_passDays_1 rfl (Nat.le_of_ble_eq_true rfl) rfl rfl ?_
  refine f_iconst (v := 0) dX8_passDays_2 rfl ?_
  refine f_istore_n (ls' := [_, _, _, _]) dX8_passDays_3 rfl (Nat.le_of_ble_eq_true rfl) rfl rfl ?_
  exact lp_X8_passDays hG hd dv k a hk N hN hN2 301 0 _ _ (by omega) (by omega) hq

def ringL : List (Option Nat) := [some 75, some 99, some 123, some 147, some 171, some 195, some 219, some 243]
theorem ring_L : L1[74]? = some (.inr (4, 8, ringL)) := rfl
theorem ring_at {j : Nat} (h : j < 8) : ringL.getD (nI j).toNatClampNeg none = some (75 + 24 * j) := by
  rw [nI_clamp (by omega)]
  have : ∀ j, j < 8 → ringL.getD j none = some (75 + 24 * j) := by decide
  exact this j h
theorem rS_ring {j : Nat} (h : j < 8) : rState (75 + 24 * j) := by
  match j, h with
  | 0, _ => exact rS_75
  | 1, _ => exact rS_99
  | 2, _ => exact rS_123
  | 3, _ => exact rS_147
  | 4, _ => exact rS_171
  | 5, _ => exact rS_195
  | 6, _ => exact rS_219
  | 7, _ => exact rS_243
  | j + 8, h => omega
set_option maxRecDepth 100000 in
set_option maxHeartbeats 4000000 in
theorem c_X4_at {G : fG} (hG : fOK G) {d : Nat} (hd : 0 ≤ d) (M : fM) (dv : UInt64) (j : Nat) (hj : j < 8) : fCt G z_X4_at d [.ref 73, .int (nI j)] (sS M dv) 0 0 (fD (some (.ref (75 + 24 * j))) (sS M dv)) := by
  refine fCt_to [some (.ref 73), some (.int (nI j))] k_X4_at rfl (Nat.le_of_ble_eq_true rfl) rfl ?_
  refine f_iload_n dX4_at_0 rfl rfl ?_
  refine f_if_lt (tgt := 22) dX4_at_1 (by decide) (fun c_1 => (absurd c_1 (nI_pos (by omega)))) (fun c_1 => ?_)
  refine f_iload_n dX4_at_4 rfl rfl ?_
  refine f_aload_n dX4_at_5 rfl rfl ?_
  refine s_getr hG fl_X4_11 dX4_at_6 rfl rfl ?_
  refine s_alen hG dX4_at_9 rfl (by decide) ?_
  refine f_icmp_ge (tgt := 22) dX4_at_10 (by decide) (fun c_10 => (absurd c_10 (nI_ge hj (by decide)))) (fun c_10 => ?_)
  refine f_aload_n dX4_at_13 rfl rfl ?_
  refine s_getr hG fl_X4_11 dX4_at_14 rfl rfl ?_
  refine f_iload_n dX4_at_17 rfl rfl ?_
  refine s_aaload hG dX4_at_18 rfl (vp_in_nI hj (by decide)) (ring_at (by omega)) ?_
  refine f_goto (tgt := 23) dX4_at_19 (by decide) ?_
  refine f_areturn dX4_at_23 rfl (Or.inl ⟨_, rfl⟩) ?_
  exact ⟨rfl, rfl⟩

def m_X4_keep (M : fM) (k : Nat) : fM := (if (8 : Int32) ≤ (((m_X8_copyFrom M (75 + 24 * ((M 73 1).toNatClampNeg)) k) 73 1) + (1 : Int32)) then (fst1 (fst1 (m_X8_copyFrom M (75 + 24 * ((M 73 1).toNatClampNeg)) k) 73 1 (0 : Int32)) 73 2 (if (8 : Int32) < (((fst1 (m_X8_copyFrom M (75 + 24 * ((M 73 1).toNatClampNeg)) k) 73 1 (0 : Int32)) 73 2) + (1 : Int32)) then (8 : Int32) else (((fst1 (m_X8_copyFrom M (75 + 24 * ((M 73 1).toNatClampNeg)) k) 73 1 (0 : Int32)) 73 2) + (1 : Int32)))) else (fst1 (fst1 (m_X8_copyFrom M (75 + 24 * ((M 73 1).toNatClampNeg)) k) 73 1 (((m_X8_copyFrom M (75 + 24 * ((M 73 1).toNatClampNeg)) k) 73 1) + (1 : Int32))) 73 2 (if (8 : Int32) < (((fst1 (m_X8_copyFrom M (75 + 24 * ((M 73 1).toNatClampNeg)) k) 73 1 (((m_X8_copyFrom M (75 + 24 * ((M 73 1).toNatClampNeg)) k) 73 1) + (1 : Int32))) 73 2) + (1 : Int32)) then (8 : Int32) else (((fst1 (m_X8_copyFrom M (75 + 24 * ((M 73 1).toNatClampNeg)) k) 73 1 (((m_X8_copyFrom M (75 + 24 * ((M 73 1).toNatClampNeg)) k) 73 1) + (1 : Int32))) 73 2) + (1 : Int32)))))
set_option maxRecDepth 100000 in
set_option maxHeartbeats 4000000 in
theorem c_X4_keep {G : fG} (hG : fOK G) {d : Nat} (hd : 3 ≤ d) (M : fM) (dv : UInt64) (k : Nat) (hk : rState k) (hj : M 73 1 = nI (M 73 1).toNatClampNeg) (hj8 : (M 73 1).toNatClampNeg < 8) : fCt G z_X4_keep d [.ref 73, .ref k] (sS M dv) 0 0 (fD none (sS (m_X4_keep M k) dv)) := by
  refine fCt_to [some (.ref 73), some (.ref k), none] k_X4_keep rfl (Nat.le_of_ble_eq_true rfl) rfl ?_
  refine f_aload_n dX4_keep_0 rfl rfl ?_
  refine f_aload_n dX4_keep_1 rfl rfl ?_
  refine s_geti hG fl_X4_17 dX4_keep_2 rfl rfl ?_
  rw [hj]
  refine f_cV hG (As := [_]) dX4_keep_5 rfl k_X4_at rfl rfl ml_X4_25 im_X4_at se_X4_at rfl rfl (c_X4_at hG (d := 0) (Nat.le_refl _) _ _ _ (by omega)) (by omega) (Nat.le_of_ble_eq_true rfl) (Nat.zero_le _) (Nat.zero_le _) ?_
  refine f_astore_n (ls' := [_, _, _]) dX4_keep_8 rfl (Nat.le_of_ble_eq_true rfl) rfl rfl ?_
  refine f_aload_n dX4_keep_9 rfl rfl ?_
  refine f_ifnull dX4_keep_10 ?_
  refine f_aload_n dX4_keep_13 rfl rfl ?_
  refine f_aload_n dX4_keep_14 rfl rfl ?_
  refine f_cV hG (As := [_]) dX4_keep_15 rfl k_X8_copyFrom rfl rfl ml_X4_29 im_X8_copyFrom se_X8_copyFrom (rS_ring (by omega)).1 rfl (c_X8_copyFrom hG (d := 2) (Nat.le_refl _) _ _ _ _ (rS_ring (by omega)) hk) (by omega) (Nat.le_of_ble_eq_true rfl) (Nat.zero_le _) (Nat.zero_le _) ?_
  refine f_aload_n dX4_keep_18 rfl rfl ?_
  refine f_aload_n dX4_keep_19 rfl rfl ?_
  refine s_geti hG fl_X4_17 dX4_keep_20 rfl rfl ?_
  refine f_iconst (v := 1) dX4_keep_23 rfl ?_
  refine f_iadd dX4_keep_24 ?_
  refine f_bipush (v := 8) dX4_keep_25 (by decide) ?_
  refine f_icmp_ge (tgt := 39) dX4_keep_27 (by decide) (fun c_27 => ?_) (fun c_27 => ?_)
  · refine f_iconst (v := 0) dX4_keep_39 rfl ?_
    refine s_puti hG fl_X4_17 (Or.inl rfl) dX4_keep_40 rfl rfl rfl rfl ?_
    refine f_aload_n dX4_keep_43 rfl rfl ?_
    refine f_aload_n dX4_keep_44 rfl rfl ?_
    refine s_geti hG fl_X4_21 dX4_keep_45 rfl rfl ?_
    refine f_iconst (v := 1) dX4_keep_48 rfl ?_
    refine f_iadd dX4_keep_49 ?_
    refine f_bipush (v := 8) dX4_keep_50 (by decide) ?_
    refine f_mmin hG dX4_keep_52 mj_X4_33 mj_min (Nat.le_of_ble_eq_true rfl) ?_
    refine s_puti hG fl_X4_21 (Or.inl rfl) dX4_keep_55 rfl rfl rfl rfl ?_
    refine f_return dX4_keep_58 rfl ?_
    exact ⟨rfl, by rw [m_X4_keep, if_pos c_27]⟩
  · refine f_aload_n dX4_keep_30 rfl rfl ?_
    refine s_geti hG fl_X4_17 dX4_keep_31 rfl rfl ?_
    refine f_iconst (v := 1) dX4_keep_34 rfl ?_
    refine f_iadd dX4_keep_35 ?_
    refine f_goto (tgt := 40) dX4_keep_36 (by decide) ?_
    refine s_puti hG fl_X4_17 (Or.inl rfl) dX4_keep_40 rfl rfl rfl rfl ?_
    refine f_aload_n dX4_keep_43 rfl rfl ?_
    refine f_aload_n dX4_keep_44 rfl rfl ?_
    refine s_geti hG fl_X4_21 dX4_keep_45 rfl rfl ?_
    refine f_iconst (v := 1) dX4_keep_48 rfl ?_
    refine f_iadd dX4_keep_49 ?_
    refine f_bipush (v := 8) dX4_keep_50 (by decide) ?_
    refine f_mmin hG dX4_keep_52 mj_X4_33 mj_min (Nat.le_of_ble_eq_true rfl) ?_
    refine s_puti hG fl_X4_21 (Or.inl rfl) dX4_keep_55 rfl rfl rfl rfl ?_
    refine f_return dX4_keep_58 rfl ?_
    exact ⟨rfl, by rw [m_X4_keep, if_neg c_27]⟩

def m_X4_takeBack (M : fM) (k : Nat) : fM := (if (M 73 1) ≤ 0 then (if (M 73 2) ≤ 0 then M else (fst1 (fst1 (m_X8_copyFrom M k (75 + 24 * 7)) 73 1 (nI 7)) 73 2 (((fst1 (m_X8_copyFrom M k (75 + 24 * 7)) 73 1 (nI 7)) 73 2) - (1 : Int32)))) else (if (M 73 2) ≤ 0 then M else (fst1 (fst1 (m_X8_copyFrom M k (75 + 24 * (((M 73 1) - (1 : Int32)).toNatClampNeg))) 73 1 (nI ((M 73 1) - (1 : Int32)).toNatClampNeg)) 73 2 (((fst1 (m_X8_copyFrom M k (75 + 24 * (((M 73 1) - (1 : Int32)).toNatClampNeg))) 73 1 (nI ((M 73 1) - (1 : Int32)).toNatClampNeg)) 73 2) - (1 : Int32)))))
set_option maxRecDepth 100000 in
set_option maxHeartbeats 4000000 in
theorem c_X4_takeBack {G : fG} (hG : fOK G) {d : Nat} (hd : 3 ≤ d) (M : fM) (dv : UInt64) (k : Nat) (hk : rState k) (hj1 : 0 < M 73 1 → M 73 1 - 1 = nI ((M 73 1) - (1 : Int32)).toNatClampNeg ∧ ((M 73 1) - (1 : Int32)).toNatClampNeg < 8) : fCt G z_X4_takeBack d [.ref 73, .ref k] (sS M dv) 0 0 (fD none (sS (m_X4_takeBack M k) dv)) := by
  refine fCt_to [some (.ref 73), some (.ref k), none, none] k_X4_takeBack rfl (Nat.le_of_ble_eq_true rfl) rfl ?_
  refine f_aload_n dX4_takeBack_0 rfl rfl ?_
  refine s_geti hG fl_X4_17 dX4_takeBack_1 rfl rfl ?_
  refine f_if_le (tgt := 16) dX4_takeBack_4 (by decide) (fun c_4 => ?_) (fun c_4 => ?_)
  · refine f_bipush (v := 7) dX4_takeBack_16 (by decide) ?_
    refine f_cg (st' := [.int (nI 7)]) rfl rfl rfl ?_
    refine f_istore_n (ls' := [_, _, _, _]) dX4_takeBack_18 rfl (Nat.le_of_ble_eq_true rfl) rfl rfl ?_
    refine f_aload_n dX4_takeBack_19 rfl rfl ?_
    refine f_iload_n dX4_takeBack_20 rfl rfl ?_
    refine f_cV hG (As := [_]) dX4_takeBack_21 rfl k_X4_at rfl rfl ml_X4_25 im_X4_at se_X4_at rfl rfl (c_X4_at hG (d := 0) (Nat.le_refl _) _ _ _ (by omega)) (by omega) (Nat.le_of_ble_eq_true rfl) (Nat.zero_le _) (Nat.zero_le _) ?_
    refine f_astore_n (ls' := [_, _, _, _]) dX4_takeBack_24 rfl (Nat.le_of_ble_eq_true rfl) rfl rfl ?_
    refine f_aload_n dX4_takeBack_25 rfl rfl ?_
    refine f_ifnull dX4_takeBack_26 ?_
    refine f_aload_n dX4_takeBack_29 rfl rfl ?_
    refine s_geti hG fl_X4_21 dX4_takeBack_30 rfl rfl ?_
    refine f_if_le (tgt := 56) dX4_takeBack_33 (by decide) (fun c_33 => ?_) (fun c_33 => ?_)
    · refine f_return dX4_takeBack_56 rfl ?_
      exact ⟨rfl, by rw [m_X4_takeBack, if_pos c_4, if_pos c_33]⟩
    · refine f_aload_n dX4_takeBack_36 rfl rfl ?_
      refine f_aload_n dX4_takeBack_37 rfl rfl ?_
      refine f_cV hG (As := [_]) dX4_takeBack_38 rfl k_X8_copyFrom rfl rfl ml_X4_29 im_X8_copyFrom se_X8_copyFrom hk.1 rfl (c_X8_copyFrom hG (d := 2) (Nat.le_refl _) _ _ _ _ hk (rS_ring (by omega))) (by omega) (Nat.le_of_ble_eq_true rfl) (Nat.zero_le _) (Nat.zero_le _) ?_
      refine f_aload_n dX4_takeBack_41 rfl rfl ?_
      refine f_iload_n dX4_takeBack_42 rfl rfl ?_
      refine s_puti hG fl_X4_17 (Or.inl rfl) dX4_takeBack_43 rfl rfl rfl rfl ?_
      refine f_aload_n dX4_takeBack_46 rfl rfl ?_
      refine f_dup dX4_takeBack_47 rfl ?_
      refine s_geti hG fl_X4_21 dX4_takeBack_48 rfl rfl ?_
      refine f_iconst (v := 1) dX4_takeBack_51 rfl ?_
      refine f_isub dX4_takeBack_52 ?_
      refine s_puti hG fl_X4_21 (Or.inl rfl) dX4_takeBack_53 rfl rfl rfl rfl ?_
      refine f_return dX4_takeBack_56 rfl ?_
      exact ⟨rfl, by rw [m_X4_takeBack, if_pos c_4, if_neg c_33]⟩
  · refine f_aload_n dX4_takeBack_7 rfl rfl ?_
    refine s_geti hG fl_X4_17 dX4_takeBack_8 rfl rfl ?_
    refine f_iconst (v := 1) dX4_takeBack_11 rfl ?_
    refine f_isub dX4_takeBack_12 ?_
    obtain ⟨hj2, hj3⟩ := hj1 (Int32.not_le.mp (by assumption))
    rw [hj2]
    refine f_goto (tgt := 18) dX4_takeBack_13 (by decide) ?_
    refine f_istore_n (ls' := [_, _, _, _]) dX4_takeBack_18 rfl (Nat.le_of_ble_eq_true rfl) rfl rfl ?_
    refine f_aload_n dX4_takeBack_19 rfl rfl ?_
    refine f_iload_n dX4_takeBack_20 rfl rfl ?_
    refine f_cV hG (As := [_]) dX4_takeBack_21 rfl k_X4_at rfl rfl ml_X4_25 im_X4_at se_X4_at rfl rfl (c_X4_at hG (d := 0) (Nat.le_refl _) _ _ _ (by omega)) (by omega) (Nat.le_of_ble_eq_true rfl) (Nat.zero_le _) (Nat.zero_le _) ?_
    refine f_astore_n (ls' := [_, _, _, _]) dX4_takeBack_24 rfl (Nat.le_of_ble_eq_true rfl) rfl rfl ?_
    refine f_aload_n dX4_takeBack_25 rfl rfl ?_
    refine f_ifnull dX4_takeBack_26 ?_
    refine f_aload_n dX4_takeBack_29 rfl rfl ?_
    refine s_geti hG fl_X4_21 dX4_takeBack_30 rfl rfl ?_
    refine f_if_le (tgt := 56) dX4_takeBack_33 (by decide) (fun c_33 => ?_) (fun c_33 => ?_)
    · refine f_return dX4_takeBack_56 rfl ?_
      exact ⟨rfl, by rw [m_X4_takeBack, if_neg c_4, if_pos c_33]⟩
    · refine f_aload_n dX4_takeBack_36 rfl rfl ?_
      refine f_aload_n dX4_takeBack_37 rfl rfl ?_
      refine f_cV hG (As := [_]) dX4_takeBack_38 rfl k_X8_copyFrom rfl rfl ml_X4_29 im_X8_copyFrom se_X8_copyFrom hk.1 rfl (c_X8_copyFrom hG (d := 2) (Nat.le_refl _) _ _ _ _ hk (rS_ring (by omega))) (by omega) (Nat.le_of_ble_eq_true rfl) (Nat.zero_le _) (Nat.zero_le _) ?_
      refine f_aload_n dX4_takeBack_41 rfl rfl ?_
      refine f_iload_n dX4_takeBack_42 rfl rfl ?_
      refine s_puti hG fl_X4_17 (Or.inl rfl) dX4_takeBack_43 rfl rfl rfl rfl ?_
      refine f_aload_n dX4_takeBack_46 rfl rfl ?_
      refine f_dup dX4_takeBack_47 rfl ?_
      refine s_geti hG fl_X4_21 dX4_takeBack_48 rfl rfl ?_
      refine f_iconst (v := 1) dX4_takeBack_51 rfl ?_
      refine f_isub dX4_takeBack_52 ?_
      refine s_puti hG fl_X4_21 (Or.inl rfl) dX4_takeBack_53 rfl rfl rfl rfl ?_
      refine f_return dX4_takeBack_56 rfl ?_
      exact ⟨rfl, by rw [m_X4_takeBack, if_neg c_4, if_neg c_33]⟩

def m_X4_forget (M : fM) : fM := (fst1 M 73 2 (0 : Int32))
set_option maxRecDepth 100000 in
set_option maxHeartbeats 4000000 in
theorem c_X4_forget {G : fG} (hG : fOK G) {d : Nat} (hd : 0 ≤ d) (M : fM) (dv : UInt64) : fCt G z_X4_forget d [.ref 73] (sS M dv) 0 0 (fD none (sS (m_X4_forget M) dv)) := by
  refine fCt_to [some (.ref 73)] k_X4_forget rfl (Nat.le_of_ble_eq_true rfl) rfl ?_
  refine f_aload_n dX4_forget_0 rfl rfl ?_
  refine f_iconst (v := 0) dX4_forget_1 rfl ?_
  refine s_puti hG fl_X4_21 (Or.inl rfl) dX4_forget_2 rfl rfl rfl rfl ?_
  refine f_return dX4_forget_5 rfl ?_
  exact ⟨rfl, by rw [m_X4_forget]⟩

/-! ===== Text.addNumber ===== -/
def un (j : Nat) : Int32 := match j with | 0 => 1000000000 | 1 => 100000000 | 2 => 10000000 | 3 => 1000000 | 4 => 100000 | 5 => 10000 | 6 => 1000 | 7 => 100 | 8 => 10 | 9 => 1 | _ => 0
theorem un_div {j : Nat} (h : j < 10) : un j / 10 = un (j + 1) := by
  have : ∀ j, j < 10 → un j / 10 = un (j + 1) := by decide
  exact this j h
theorem un_lt {j : Nat} (h : ¬ un j ≤ 0) (hj : j ≤ 10) : j < 10 := by
  rcases Nat.lt_or_ge j 10 with q | q
  · exact q
  · rw [show j = 10 by omega] at h; exact absurd (by decide) h
def l_X10_addNumber (k : Nat) (n : Nat) (a : Int32) : fM → Nat → Nat → Int32 → fM
  | M, 0, _, _ => M
  | M, m + 1, j, v2 => (if (un j) ≤ 0 then M else (if v2 = 0 then (if 0 < ((a / (un j)) - (a / (un j)) / (10 : Int32) * (10 : Int32)) then (l_X10_addNumber k n a (m_X10_add M k n ((((48 : Int32) + ((a / (un j)) - (a / (un j)) / (10 : Int32) * (10 : Int32)))).toUInt32 % 65536).toInt32) m (j + 1) (1 : Int32)) else (if (un j) = (1 : Int32) then (l_X10_addNumber k n a (m_X10_add M k n ((((48 : Int32) + ((a / (un j)) - (a / (un j)) / (10 : Int32) * (10 : Int32)))).toUInt32 % 65536).toInt32) m (j + 1) (1 : Int32)) else (l_X10_addNumber k n a M m (j + 1) (0 : Int32)))) else (l_X10_addNumber k n a (m_X10_add M k n ((((48 : Int32) + ((a / (un j)) - (a / (un j)) / (10 : Int32) * (10 : Int32)))).toUInt32 % 65536).toInt32) m (j + 1) (1 : Int32))))
set_option maxRecDepth 100000 in
set_option maxHeartbeats 4000000 in
theorem lp_X10_addNumber {G : fG} (hG : fOK G) {d : Nat} (hd : 2 ≤ d) (dv : UInt64) (k : Nat) (n : Nat) (a : Int32) (hk : rText k n) (hnk : n < 2147483648) : ∀ (m j : Nat) (M : fM) (v2 : Int32), j ≤ 10 → 10 + 1 ≤ j + m → fV G z_X10_addNumber d (fD none (sS (l_X10_addNumber k n a M m j v2) dv)) 5 [some (.ref k), some (.int a), some (.int v2), some (.int (un j)), none] [] (sS M dv) 0 0 := by
  intro m
  induction m with
  | zero => intros; omega
  | succ m ih =>
    intro j M v2 hj hm
    refine f_iload_n dX10_addNumber_5 rfl rfl ?_
    refine f_if_le (tgt := 59) dX10_addNumber_6 (by decide) (fun c_6 => ?_) (fun c_6 => ?_)
    · refine f_return dX10_addNumber_59 rfl ?_
      exact ⟨rfl, by rw [l_X10_addNumber, if_pos c_6]⟩
    · have hlt : j < 10 := un_lt c_6 hj
      refine f_iload_n dX10_addNumber_9 rfl rfl ?_
      refine f_iload_n dX10_addNumber_10 rfl rfl ?_
      refine f_idiv dX10_addNumber_11 (fun h => c_6 (by rw [h]; exact Int32.le_refl _)) ?_
      refine f_bipush (v := 10) dX10_addNumber_12 (by decide) ?_
      refine f_irem dX10_addNumber_14 (by decide) ?_
      refine f_istore (ls' := [_, _, _, _, _]) dX10_addNumber_15 (Nat.le_of_ble_eq_true rfl) rfl rfl ?_
      refine f_iload_n dX10_addNumber_17 rfl rfl ?_
      refine f_if_ne (tgt := 31) dX10_addNumber_18 (by decide) (fun c_18 => ?_) (fun c_18 => ?_)
      · refine f_iconst (v := 1) dX10_addNumber_31 rfl ?_
        refine f_goto (tgt := 36) dX10_addNumber_32 (by decide) ?_
        refine f_istore_n (ls' := [_, _, _, _, _]) dX10_addNumber_36 rfl (Nat.le_of_ble_eq_true rfl) rfl rfl ?_
        refine f_iload_n dX10_addNumber_37 rfl rfl ?_
        refine f_if_eq (tgt := 51) dX10_addNumber_38 (by decide) (fun c_38 => absurd c_38 (by decide)) (fun c_38 => ?_)
        refine f_aload_n dX10_addNumber_41 rfl rfl ?_
        refine f_bipush (v := 48) dX10_addNumber_42 (by decide) ?_
        refine f_iload dX10_addNumber_44 rfl ?_
        refine f_iadd dX10_addNumber_46 ?_
        refine f_i2c dX10_addNumber_47 ?_
        refine f_cV hG (As := [_]) dX10_addNumber_48 rfl k_X10_add rfl rfl ml_X10_34 im_X10_add se_X10_add hk.1 rfl (c_X10_add hG (d := 1) (Nat.le_refl _) _ _ _ _ _ hk hnk) (by omega) (Nat.le_of_ble_eq_true rfl) (Nat.zero_le _) (Nat.zero_le _) ?_
        refine f_iload_n dX10_addNumber_51 rfl rfl ?_
        refine f_bipush (v := 10) dX10_addNumber_52 (by decide) ?_
        refine f_idiv dX10_addNumber_54 (by decide) ?_
        rw [un_div hlt]
        refine f_istore_n (ls' := [_, _, _, _, _]) dX10_addNumber_55 rfl (Nat.le_of_ble_eq_true rfl) rfl rfl ?_
        refine f_goto (tgt := 5) dX10_addNumber_56 (by decide) ?_
        have e9 : l_X10_addNumber k n a M (m + 1) j v2 = l_X10_addNumber k n a (m_X10_add M k n ((((48 : Int32) + ((a / (un j)) - (a / (un j)) / (10 : Int32) * (10 : Int32)))).toUInt32 % 65536).toInt32) m (j + 1) (1 : Int32) := by rw [l_X10_addNumber, if_neg c_6, if_neg c_18]
        rw [e9]
        refine f_drop 4 ?_
        exact ih (j + 1) (m_X10_add M k n ((((48 : Int32) + ((a / (un j)) - (a / (un j)) / (10 : Int32) * (10 : Int32)))).toUInt32 % 65536).toInt32) (1 : Int32) (by omega) (by omega)
      · refine f_iload dX10_addNumber_21 rfl ?_
        refine f_if_gt (tgt := 31) dX10_addNumber_23 (by decide) (fun c_23 => ?_) (fun c_23 => ?_)
        · refine f_iconst (v := 1) dX10_addNumber_31 rfl ?_
          refine f_goto (tgt := 36) dX10_addNumber_32 (by decide) ?_
          refine f_istore_n (ls' := [_, _, _, _, _]) dX10_addNumber_36 rfl (Nat.le_of_ble_eq_true rfl) rfl rfl ?_
          refine f_iload_n dX10_addNumber_37 rfl rfl ?_
          refine f_if_eq (tgt := 51) dX10_addNumber_38 (by decide) (fun c_38 => absurd c_38 (by decide)) (fun c_38 => ?_)
          refine f_aload_n dX10_addNumber_41 rfl rfl ?_
          refine f_bipush (v := 48) dX10_addNumber_42 (by decide) ?_
          refine f_iload dX10_addNumber_44 rfl ?_
          refine f_iadd dX10_addNumber_46 ?_
          refine f_i2c dX10_addNumber_47 ?_
          refine f_cV hG (As := [_]) dX10_addNumber_48 rfl k_X10_add rfl rfl ml_X10_34 im_X10_add se_X10_add hk.1 rfl (c_X10_add hG (d := 1) (Nat.le_refl _) _ _ _ _ _ hk hnk) (by omega) (Nat.le_of_ble_eq_true rfl) (Nat.zero_le _) (Nat.zero_le _) ?_
          refine f_iload_n dX10_addNumber_51 rfl rfl ?_
          refine f_bipush (v := 10) dX10_addNumber_52 (by decide) ?_
          refine f_idiv dX10_addNumber_54 (by decide) ?_
          rw [un_div hlt]
          refine f_istore_n (ls' := [_, _, _, _, _]) dX10_addNumber_55 rfl (Nat.le_of_ble_eq_true rfl) rfl rfl ?_
          refine f_goto (tgt := 5) dX10_addNumber_56 (by decide) ?_
          have e9 : l_X10_addNumber k n a M (m + 1) j v2 = l_X10_addNumber k n a (m_X10_add M k n ((((48 : Int32) + ((a / (un j)) - (a / (un j)) / (10 : Int32) * (10 : Int32)))).toUInt32 % 65536).toInt32) m (j + 1) (1 : Int32) := by rw [l_X10_addNumber, if_neg c_6, if_pos c_18, if_pos c_23]
          rw [e9]
          refine f_drop 4 ?_
          exact ih (j + 1) (m_X10_add M k n ((((48 : Int32) + ((a / (un j)) - (a / (un j)) / (10 : Int32) * (10 : Int32)))).toUInt32 % 65536).toInt32) (1 : Int32) (by omega) (by omega)
        · refine f_iload_n dX10_addNumber_26 rfl rfl ?_
          refine f_iconst (v := 1) dX10_addNumber_27 rfl ?_
          refine f_icmp_ne (tgt := 35) dX10_addNumber_28 (by decide) (fun c_28 => ?_) (fun c_28 => ?_)
          · refine f_iconst (v := 0) dX10_addNumber_35 rfl ?_
            refine f_istore_n (ls' := [_, _, _, _, _]) dX10_addNumber_36 rfl (Nat.le_of_ble_eq_true rfl) rfl rfl ?_
            refine f_iload_n dX10_addNumber_37 rfl rfl ?_
            refine f_if_eq (tgt := 51) dX10_addNumber_38 (by decide) (fun c_38 => ?_) (fun c_38 => absurd c_38 (by decide))
            refine f_iload_n dX10_addNumber_51 rfl rfl ?_
            refine f_bipush (v := 10) dX10_addNumber_52 (by decide) ?_
            refine f_idiv dX10_addNumber_54 (by decide) ?_
            rw [un_div hlt]
            refine f_istore_n (ls' := [_, _, _, _, _]) dX10_addNumber_55 rfl (Nat.le_of_ble_eq_true rfl) rfl rfl ?_
            refine f_goto (tgt := 5) dX10_addNumber_56 (by decide) ?_
            have e9 : l_X10_addNumber k n a M (m + 1) j v2 = l_X10_addNumber k n a M m (j + 1) (0 : Int32) := by rw [l_X10_addNumber, if_neg c_6, if_pos c_18, if_neg c_23, if_neg c_28]
            rw [e9]
            refine f_drop 4 ?_
            exact ih (j + 1) M (0 : Int32) (by omega) (by omega)
          · refine f_iconst (v := 1) dX10_addNumber_31 rfl ?_
            refine f_goto (tgt := 36) dX10_addNumber_32 (by decide) ?_
            refine f_istore_n (ls' := [_, _, _, _, _]) dX10_addNumber_36 rfl (Nat.le_of_ble_eq_true rfl) rfl rfl ?_
            refine f_iload_n dX10_addNumber_37 rfl rfl ?_
            refine f_if_eq (tgt := 51) dX10_addNumber_38 (by decide) (fun c_38 => absurd c_38 (by decide)) (fun c_38 => ?_)
            refine f_aload_n dX10_addNumber_41 rfl rfl ?_
            refine f_bipush (v := 48) dX10_addNumber_42 (by decide) ?_
            refine f_iload dX10_addNumber_44 rfl ?_
            refine f_iadd dX10_addNumber_46 ?_
            refine f_i2c dX10_addNumber_47 ?_
            refine f_cV hG (As := [_]) dX10_addNumber_48 rfl k_X10_add rfl rfl ml_X10_34 im_X10_add se_X10_add hk.1 rfl (c_X10_add hG (d := 1) (Nat.le_refl _) _ _ _ _ _ hk hnk) (by omega) (Nat.le_of_ble_eq_true rfl) (Nat.zero_le _) (Nat.zero_le _) ?_
            refine f_iload_n dX10_addNumber_51 rfl rfl ?_
            refine f_bipush (v := 10) dX10_addNumber_52 (by decide) ?_
            refine f_idiv dX10_addNumber_54 (by decide) ?_
            rw [un_div hlt]
            refine f_istore_n (ls' := [_, _, _, _, _]) dX10_addNumber_55 rfl (Nat.le_of_ble_eq_true rfl) rfl rfl ?_
            refine f_goto (tgt := 5) dX10_addNumber_56 (by decide) ?_
            have e9 : l_X10_addNumber k n a M (m + 1) j v2 = l_X10_addNumber k n a (m_X10_add M k n ((((48 : Int32) + ((a / (un j)) - (a / (un j)) / (10 : Int32) * (10 : Int32)))).toUInt32 % 65536).toInt32) m (j + 1) (1 : Int32) := by rw [l_X10_addNumber, if_neg c_6, if_pos c_18, if_neg c_23, if_pos c_28]
            rw [e9]
            refine f_drop 4 ?_
            exact ih (j + 1) (m_X10_add M k n ((((48 : Int32) + ((a / (un j)) - (a / (un j)) / (10 : Int32) * (10 : Int32)))).toUInt32 % 65536).toInt32) (1 : Int32) (by omega) (by omega)
def m_X10_addNumber (M : fM) (k : Nat) (n : Nat) (a : Int32) : fM := (l_X10_addNumber k n a M 11 0 (0 : Int32))
set_option maxRecDepth 100000 in
set_option maxHeartbeats 4000000 in
theorem c_X10_addNumber {G : fG} (hG : fOK G) {d : Nat} (hd : 2 ≤ d) (M : fM) (dv : UInt64) (k : Nat) (n : Nat) (a : Int32) (hk : rText k n) (hnk : n < 2147483648) : fCt G z_X10_addNumber d [.ref k, .int a] (sS M dv) 0 0 (fD none (sS (m_X10_addNumber M k n a) dv)) := by
  refine fCt_to [some (.ref k), some (.int a), none, none, none] k_X10_addNumber rfl (Nat.le_of_ble_eq_true rfl) rfl ?_
  refine f_iconst (v := 0) dX10_addNumber_0 rfl ?_
  refine f_istore_n (ls' := [_, _, _, _, _]) dX10_addNumber_1 rfl (Nat.le_of_ble_eq_true rfl) rfl rfl ?_
  refine f_ldc hG cw_X10_33 dX10_addNumber_2 ?_
  refine f_istore_n (ls' := [_, _, _, _, _]) dX10_addNumber_4 rfl (Nat.le_of_ble_eq_true rfl) rfl rfl ?_
  exact lp_X10_addNumber hG hd dv k n a hk hnk 11 0 _ _ (by omega) (by omega)
