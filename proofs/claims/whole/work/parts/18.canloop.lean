/-! ===== JarCannery: what loops ===== -/
def l_X11_recallsAgree (M : fM) : Nat → Nat → Int32
  | 0, _ => 0
  | m + 1, j => (if (M (1 + 1) 2) ≤ (nI j) then (1 : Int32) else (if (r_X8_countThroughBatches M 1 (nI j)) = (r_X8_countFromSets M 1 (nI j)) then (l_X11_recallsAgree M m (j + 1)) else (0 : Int32)))
set_option maxRecDepth 100000 in
set_option maxHeartbeats 4000000 in
theorem lp_X11_recallsAgree {G : fG} (hG : fOK G) {d : Nat} (hd : 3 ≤ d) (M : fM) (dv : UInt64) (q0 : ∀ (j : Nat), j ≤ 300 → ¬ ((M (1 + 1) 2) ≤ (nI j)) → j < 300) (q1 : ∀ (j : Nat), j ≤ 300 → ¬ ((M (1 + 1) 2) ≤ (nI j)) → sm (M (1 + 1) 4) 300) (q2 : ∀ (j : Nat), j ≤ 300 → ¬ ((M (1 + 1) 2) ≤ (nI j)) → sm (M (1 + 11) 6) 300) : ∀ (m j : Nat), j ≤ 300 → 300 + 1 ≤ j + m → fV G z_X11_recallsAgree d (fD (some (.int (l_X11_recallsAgree M m j))) (sS M dv)) 2 [some (.ref 0), some (.int (nI j))] [] (sS M dv) 0 0 := by
  intro m
  induction m with
  | zero => intros; omega
  | succ m ih =>
    intro j hj hm
    refine f_iload_n dX11_recallsAgree_2 rfl rfl ?_
    refine f_aload_n dX11_recallsAgree_3 rfl rfl ?_
    refine s_getr hG fl_X11_10 dX11_recallsAgree_4 rfl rfl ?_
    refine s_getr hG fl_X11_87 dX11_recallsAgree_7 rS_1.1 rfl ?_
    refine s_geti hG fl_X11_103 dX11_recallsAgree_10 rS_1.2.1.1 rfl ?_
    refine f_icmp_ge (tgt := 43) dX11_recallsAgree_13 (by decide) (fun c_13 => ?_) (fun c_13 => ?_)
    · refine f_iconst (v := 1) dX11_recallsAgree_43 rfl ?_
      refine f_ireturn dX11_recallsAgree_44 rfl rfl ?_
      exact ⟨by rw [l_X11_recallsAgree, if_pos c_13], rfl⟩
    · have hlt : j < 300 := (q0 j hj c_13)
      refine f_aload_n dX11_recallsAgree_16 rfl rfl ?_
      refine s_getr hG fl_X11_10 dX11_recallsAgree_17 rfl rfl ?_
      refine f_iload_n dX11_recallsAgree_20 rfl rfl ?_
      refine f_cV hG (As := [_]) dX11_recallsAgree_21 rfl k_X8_countThroughBatches rfl rfl ml_X11_256 im_X8_countThroughBatches se_X8_countThroughBatches rS_1.1 rfl (c_X8_countThroughBatches hG (d := 2) (Nat.le_refl _) _ _ _ _ rS_1 _ (q1 j hj c_13).1 (q1 j hj c_13).2 _ (q2 j hj c_13).1 (q2 j hj c_13).2) (by omega) (Nat.le_of_ble_eq_true rfl) (Nat.zero_le _) (Nat.zero_le _) ?_
      refine f_aload_n dX11_recallsAgree_24 rfl rfl ?_
      refine s_getr hG fl_X11_10 dX11_recallsAgree_25 rfl rfl ?_
      refine f_iload_n dX11_recallsAgree_28 rfl rfl ?_
      refine f_cV hG (As := [_]) dX11_recallsAgree_29 rfl k_X8_countFromSets rfl rfl ml_X11_259 im_X8_countFromSets se_X8_countFromSets rS_1.1 rfl (c_X8_countFromSets hG (d := 2) (Nat.le_refl _) _ _ _ _ rS_1 _ (q2 j hj c_13).1 (q2 j hj c_13).2) (by omega) (Nat.le_of_ble_eq_true rfl) (Nat.zero_le _) (Nat.zero_le _) ?_
      refine f_icmp_eq (tgt := 37) dX11_recallsAgree_32 (by decide) (fun c_32 => ?_) (fun c_32 => ?_)
      · refine f_iinc (v := nI (j + 1)) (ls' := [_, _]) dX11_recallsAgree_37 rfl (nI_1 j) (Nat.le_of_ble_eq_true rfl) rfl rfl ?_
        refine f_goto (tgt := 2) dX11_recallsAgree_40 (by decide) ?_
        have e9 : l_X11_recallsAgree M (m + 1) j = l_X11_recallsAgree M m (j + 1) := by rw [l_X11_recallsAgree, if_neg c_13, if_pos c_32]
        rw [e9]
        exact ih (j + 1) (by omega) (by omega)
      · refine f_iconst (v := 0) dX11_recallsAgree_35 rfl ?_
        refine f_ireturn dX11_recallsAgree_36 rfl rfl ?_
        exact ⟨by rw [l_X11_recallsAgree, if_neg c_13, if_neg c_32], rfl⟩
def r_X11_recallsAgree (M : fM) : Int32 := (l_X11_recallsAgree M 301 0)
theorem n_l_X11_recallsAgree : ∀ (m j : Nat) (M : fM), narrow .boolean (.int (l_X11_recallsAgree M m j)) = .int (l_X11_recallsAgree M m j) := by
  intro m
  induction m with
  | zero => intros; unfold l_X11_recallsAgree; first | rfl | (dsimp only; rfl)
  | succ m ih =>
    intro j M
    unfold l_X11_recallsAgree
    repeat' split
    all_goals (try dsimp only)
    all_goals first | rfl | exact pk_nc _ | exact ih _ _ ..
theorem n_X11_recallsAgree (M : fM) : narrow .boolean (.int (r_X11_recallsAgree M)) = .int (r_X11_recallsAgree M) := n_l_X11_recallsAgree ..
set_option maxRecDepth 100000 in
set_option maxHeartbeats 4000000 in
theorem c_X11_recallsAgree {G : fG} (hG : fOK G) {d : Nat} (hd : 3 ≤ d) (M : fM) (dv : UInt64) (q0 : ∀ (j : Nat), j ≤ 300 → ¬ ((M (1 + 1) 2) ≤ (nI j)) → j < 300) (q1 : ∀ (j : Nat), j ≤ 300 → ¬ ((M (1 + 1) 2) ≤ (nI j)) → sm (M (1 + 1) 4) 300) (q2 : ∀ (j : Nat), j ≤ 300 → ¬ ((M (1 + 1) 2) ≤ (nI j)) → sm (M (1 + 11) 6) 300) : fCt G z_X11_recallsAgree d [.ref 0] (sS M dv) 0 0 (fD (some (.int (r_X11_recallsAgree M))) (sS M dv)) := by
  refine fCt_to [some (.ref 0), none] k_X11_recallsAgree rfl (Nat.le_of_ble_eq_true rfl) rfl ?_
  refine f_iconst (v := 0) dX11_recallsAgree_0 rfl ?_
  refine f_istore_n (ls' := [_, _]) dX11_recallsAgree_1 rfl (Nat.le_of_ble_eq_true rfl) rfl rfl ?_
  exact lp_X11_recallsAgree hG hd _ dv q0 q1 q2 301 0 (by omega) (by omega)

def l_X11_popsAgree (M : fM) : Nat → Nat → Int32
  | 0, _ => 0
  | m + 1, j => (if (M (1 + 11) 6) ≤ (nI j) then (1 : Int32) else (if (r_X8_daysDayByDay M 1 (nI j)) = (r_X8_daysDivided M 1 (nI j)) then (l_X11_popsAgree M m (j + 1)) else (0 : Int32)))
set_option maxRecDepth 100000 in
set_option maxHeartbeats 4000000 in
theorem lp_X11_popsAgree {G : fG} (hG : fOK G) {d : Nat} (hd : 4 ≤ d) (M : fM) (dv : UInt64) (q0 : ∀ (j : Nat), j ≤ 300 → ¬ ((M (1 + 11) 6) ≤ (nI j)) → j < 300) : ∀ (m j : Nat), j ≤ 300 → 300 + 1 ≤ j + m → fV G z_X11_popsAgree d (fD (some (.int (l_X11_popsAgree M m j))) (sS M dv)) 2 [some (.ref 0), some (.int (nI j))] [] (sS M dv) 0 0 := by
  intro m
  induction m with
  | zero => intros; omega
  | succ m ih =>
    intro j hj hm
    refine f_iload_n dX11_popsAgree_2 rfl rfl ?_
    refine f_aload_n dX11_popsAgree_3 rfl rfl ?_
    refine s_getr hG fl_X11_10 dX11_popsAgree_4 rfl rfl ?_
    refine s_getr hG fl_X11_216 dX11_popsAgree_7 rS_1.1 rfl ?_
    refine s_geti hG fl_X11_220 dX11_popsAgree_10 rS_1.2.2.2.1 rfl ?_
    refine f_icmp_ge (tgt := 43) dX11_popsAgree_13 (by decide) (fun c_13 => ?_) (fun c_13 => ?_)
    · refine f_iconst (v := 1) dX11_popsAgree_43 rfl ?_
      refine f_ireturn dX11_popsAgree_44 rfl rfl ?_
      exact ⟨by rw [l_X11_popsAgree, if_pos c_13], rfl⟩
    · have hlt : j < 300 := (q0 j hj c_13)
      refine f_aload_n dX11_popsAgree_16 rfl rfl ?_
      refine s_getr hG fl_X11_10 dX11_popsAgree_17 rfl rfl ?_
      refine f_iload_n dX11_popsAgree_20 rfl rfl ?_
      refine f_cV hG (As := [_]) dX11_popsAgree_21 rfl k_X8_daysDayByDay rfl rfl ml_X11_245 im_X8_daysDayByDay se_X8_daysDayByDay rS_1.1 rfl (c_X8_daysDayByDay hG (d := 3) (Nat.le_refl _) _ _ _ _ rS_1) (by omega) (Nat.le_of_ble_eq_true rfl) (Nat.zero_le _) (Nat.zero_le _) ?_
      refine f_aload_n dX11_popsAgree_24 rfl rfl ?_
      refine s_getr hG fl_X11_10 dX11_popsAgree_25 rfl rfl ?_
      refine f_iload_n dX11_popsAgree_28 rfl rfl ?_
      refine f_cV hG (As := [_]) dX11_popsAgree_29 rfl k_X8_daysDivided rfl rfl ml_X11_248 im_X8_daysDivided se_X8_daysDivided rS_1.1 rfl (c_X8_daysDivided hG (d := 3) (Nat.le_refl _) _ _ _ _ rS_1) (by omega) (Nat.le_of_ble_eq_true rfl) (Nat.zero_le _) (Nat.zero_le _) ?_
      refine f_icmp_eq (tgt := 37) dX11_popsAgree_32 (by decide) (fun c_32 => ?_) (fun c_32 => ?_)
      · refine f_iinc (v := nI (j + 1)) (ls' := [_, _]) dX11_popsAgree_37 rfl (nI_1 j) (Nat.le_of_ble_eq_true rfl) rfl rfl ?_
        refine f_goto (tgt := 2) dX11_popsAgree_40 (by decide) ?_
        have e9 : l_X11_popsAgree M (m + 1) j = l_X11_popsAgree M m (j + 1) := by rw [l_X11_popsAgree, if_neg c_13, if_pos c_32]
        rw [e9]
        exact ih (j + 1) (by omega) (by omega)
      · refine f_iconst (v := 0) dX11_popsAgree_35 rfl ?_
        refine f_ireturn dX11_popsAgree_36 rfl rfl ?_
        exact ⟨by rw [l_X11_popsAgree, if_neg c_13, if_neg c_32], rfl⟩
def r_X11_popsAgree (M : fM) : Int32 := (l_X11_popsAgree M 301 0)
theorem n_l_X11_popsAgree : ∀ (m j : Nat) (M : fM), narrow .boolean (.int (l_X11_popsAgree M m j)) = .int (l_X11_popsAgree M m j) := by
  intro m
  induction m with
  | zero => intros; unfold l_X11_popsAgree; first | rfl | (dsimp only; rfl)
  | succ m ih =>
    intro j M
    unfold l_X11_popsAgree
    repeat' split
    all_goals (try dsimp only)
    all_goals first | rfl | exact pk_nc _ | exact ih _ _ ..
theorem n_X11_popsAgree (M : fM) : narrow .boolean (.int (r_X11_popsAgree M)) = .int (r_X11_popsAgree M) := n_l_X11_popsAgree ..
set_option maxRecDepth 100000 in
set_option maxHeartbeats 4000000 in
theorem c_X11_popsAgree {G : fG} (hG : fOK G) {d : Nat} (hd : 4 ≤ d) (M : fM) (dv : UInt64) (q0 : ∀ (j : Nat), j ≤ 300 → ¬ ((M (1 + 11) 6) ≤ (nI j)) → j < 300) : fCt G z_X11_popsAgree d [.ref 0] (sS M dv) 0 0 (fD (some (.int (r_X11_popsAgree M))) (sS M dv)) := by
  refine fCt_to [some (.ref 0), none] k_X11_popsAgree rfl (Nat.le_of_ble_eq_true rfl) rfl ?_
  refine f_iconst (v := 0) dX11_popsAgree_0 rfl ?_
  refine f_istore_n (ls' := [_, _]) dX11_popsAgree_1 rfl (Nat.le_of_ble_eq_true rfl) rfl rfl ?_
  exact lp_X11_popsAgree hG hd _ dv q0 301 0 (by omega) (by omega)

def r_X11_isConsistent (M : fM) : Int32 := (if (r_X11_recallsAgree M) = 0 then (0 : Int32) else (if (r_X11_popsAgree M) = 0 then (0 : Int32) else (if (r_X11_cratesAgree M (9 : Int32)) = 0 then (0 : Int32) else (if (r_X11_cratesAgree (m_X11_cratesAgree M (9 : Int32)) (20 : Int32)) = 0 then (0 : Int32) else (if (r_J6_bitCount_0f7a4 (m_X11_cratesAgree (m_X11_cratesAgree M (9 : Int32)) (20 : Int32)) (r_X9_best (m_X11_cratesAgree (m_X11_cratesAgree M (9 : Int32)) (20 : Int32)) 1)) = (r_X9_fewestByBranching (m_X11_cratesAgree (m_X11_cratesAgree M (9 : Int32)) (20 : Int32)) 1) then (if (r_X11_accountsAgree (m_X11_cratesAgree (m_X11_cratesAgree M (9 : Int32)) (20 : Int32))) = 0 then (0 : Int32) else (1 : Int32)) else (0 : Int32))))))
def m_X11_isConsistent (M : fM) : fM := (if (r_X11_recallsAgree M) = 0 then M else (if (r_X11_popsAgree M) = 0 then M else (if (r_X11_cratesAgree M (9 : Int32)) = 0 then (m_X11_cratesAgree M (9 : Int32)) else (if (r_X11_cratesAgree (m_X11_cratesAgree M (9 : Int32)) (20 : Int32)) = 0 then (m_X11_cratesAgree (m_X11_cratesAgree M (9 : Int32)) (20 : Int32)) else (if (r_J6_bitCount_0f7a4 (m_X11_cratesAgree (m_X11_cratesAgree M (9 : Int32)) (20 : Int32)) (r_X9_best (m_X11_cratesAgree (m_X11_cratesAgree M (9 : Int32)) (20 : Int32)) 1)) = (r_X9_fewestByBranching (m_X11_cratesAgree (m_X11_cratesAgree M (9 : Int32)) (20 : Int32)) 1) then (if (r_X11_accountsAgree (m_X11_cratesAgree (m_X11_cratesAgree M (9 : Int32)) (20 : Int32))) = 0 then (m_X11_cratesAgree (m_X11_cratesAgree M (9 : Int32)) (20 : Int32)) else (m_X11_cratesAgree (m_X11_cratesAgree M (9 : Int32)) (20 : Int32))) else (m_X11_cratesAgree (m_X11_cratesAgree M (9 : Int32)) (20 : Int32)))))))
theorem n_X11_isConsistent (M : fM) : narrow .boolean (.int (r_X11_isConsistent M)) = .int (r_X11_isConsistent M) := by
  unfold r_X11_isConsistent
  repeat' with_reducible apply n_ite
  all_goals first | rfl | exact pk_nc _
set_option maxRecDepth 100000 in
set_option maxHeartbeats 4000000 in
theorem c_X11_isConsistent {G : fG} (hG : fOK G) {d : Nat} (hd : 13 ≤ d) (M : fM) (dv : UInt64) (q0 : ∀ (j_33 : Nat), j_33 ≤ 300 → ¬ ((M (1 + 1) 2) ≤ (nI j_33)) → j_33 < 300) (q1 : ∀ (j_34 : Nat), j_34 ≤ 300 → ¬ ((M (1 + 1) 2) ≤ (nI j_34)) → sm (M (1 + 1) 4) 300) (q2 : ∀ (j_35 : Nat), j_35 ≤ 300 → ¬ ((M (1 + 1) 2) ≤ (nI j_35)) → sm (M (1 + 11) 6) 300) (q3 : ¬ ((r_X11_recallsAgree M) = 0) → ∀ (j_36 : Nat), j_36 ≤ 300 → ¬ ((M (1 + 11) 6) ≤ (nI j_36)) → j_36 < 300) (q4 : ¬ ((r_X11_recallsAgree M) = 0) → ¬ ((r_X11_popsAgree M) = 0) → sm (M (1 + 11) 6) 300) (q5 : ¬ ((r_X11_recallsAgree M) = 0) → ¬ ((r_X11_popsAgree M) = 0) → sm (((1 : Int32) <<< ((M (1 + 11) 6) &&& 31)) - (1 : Int32)) 300) (q6 : ¬ ((r_X11_recallsAgree M) = 0) → ¬ ((r_X11_popsAgree M) = 0) → ¬ ((r_X11_cratesAgree M (9 : Int32)) = 0) → sm ((m_X11_cratesAgree M (9 : Int32)) (1 + 11) 6) 300) (q7 : ¬ ((r_X11_recallsAgree M) = 0) → ¬ ((r_X11_popsAgree M) = 0) → ¬ ((r_X11_cratesAgree M (9 : Int32)) = 0) → sm (((1 : Int32) <<< (((m_X11_cratesAgree M (9 : Int32)) (1 + 11) 6) &&& 31)) - (1 : Int32)) 300) (q8 : ¬ ((r_X11_recallsAgree M) = 0) → ¬ ((r_X11_popsAgree M) = 0) → ¬ ((r_X11_cratesAgree M (9 : Int32)) = 0) → ¬ ((r_X11_cratesAgree (m_X11_cratesAgree M (9 : Int32)) (20 : Int32)) = 0) → sm ((m_X11_cratesAgree (m_X11_cratesAgree M (9 : Int32)) (20 : Int32)) (1 + 11) 6) 300) (q9 : ¬ ((r_X11_recallsAgree M) = 0) → ¬ ((r_X11_popsAgree M) = 0) → ¬ ((r_X11_cratesAgree M (9 : Int32)) = 0) → ¬ ((r_X11_cratesAgree (m_X11_cratesAgree M (9 : Int32)) (20 : Int32)) = 0) → sm (((1 : Int32) <<< (((m_X11_cratesAgree (m_X11_cratesAgree M (9 : Int32)) (20 : Int32)) (1 + 1) 2) &&& 31)) - (1 : Int32)) 300) (q10 : ¬ ((r_X11_recallsAgree M) = 0) → ¬ ((r_X11_popsAgree M) = 0) → ¬ ((r_X11_cratesAgree M (9 : Int32)) = 0) → ¬ ((r_X11_cratesAgree (m_X11_cratesAgree M (9 : Int32)) (20 : Int32)) = 0) → ((r_J6_bitCount_0f7a4 (m_X11_cratesAgree (m_X11_cratesAgree M (9 : Int32)) (20 : Int32)) (r_X9_best (m_X11_cratesAgree (m_X11_cratesAgree M (9 : Int32)) (20 : Int32)) 1)) = (r_X9_fewestByBranching (m_X11_cratesAgree (m_X11_cratesAgree M (9 : Int32)) (20 : Int32)) 1)) → sm ((m_X11_cratesAgree (m_X11_cratesAgree M (9 : Int32)) (20 : Int32)) (1 + 11) 6) 300) : fCt G z_X11_isConsistent d [.ref 0] (sS M dv) 0 0 (fD (some (.int (r_X11_isConsistent M))) (sS (m_X11_isConsistent M) dv)) := by
  refine fCt_to [some (.ref 0)] k_X11_isConsistent rfl (Nat.le_of_ble_eq_true rfl) rfl ?_
  refine f_aload_n dX11_isConsistent_0 rfl rfl ?_
  refine f_cV hG (As := []) dX11_isConsistent_1 rfl k_X11_recallsAgree rfl rfl ml_X11_335 im_X11_recallsAgree se_X11_recallsAgree rfl rfl (c_X11_recallsAgree hG (d := 3) (Nat.le_refl _) _ _ q0 q1 q2) (by omega) (Nat.le_of_ble_eq_true rfl) (Nat.zero_le _) (Nat.zero_le _) ?_
  refine f_if_eq (tgt := 63) dX11_isConsistent_4 (by decide) (fun c_4 => ?_) (fun c_4 => ?_)
  · refine f_iconst (v := 0) dX11_isConsistent_63 rfl ?_
    refine f_ireturn dX11_isConsistent_64 rfl rfl ?_
    exact ⟨by rw [r_X11_isConsistent, if_pos c_4], by rw [m_X11_isConsistent, if_pos c_4]⟩
  · refine f_aload_n dX11_isConsistent_7 rfl rfl ?_
    refine f_cV hG (As := []) dX11_isConsistent_8 rfl k_X11_popsAgree rfl rfl ml_X11_339 im_X11_popsAgree se_X11_popsAgree rfl rfl (c_X11_popsAgree hG (d := 4) (Nat.le_refl _) _ _ (q3 c_4)) (by omega) (Nat.le_of_ble_eq_true rfl) (Nat.zero_le _) (Nat.zero_le _) ?_
    refine f_if_eq (tgt := 63) dX11_isConsistent_11 (by decide) (fun c_11 => ?_) (fun c_11 => ?_)
    · refine f_iconst (v := 0) dX11_isConsistent_63 rfl ?_
      refine f_ireturn dX11_isConsistent_64 rfl rfl ?_
      exact ⟨by rw [r_X11_isConsistent, if_neg c_4, if_pos c_11], by rw [m_X11_isConsistent, if_neg c_4, if_pos c_11]⟩
    · refine f_aload_n dX11_isConsistent_14 rfl rfl ?_
      refine f_bipush (v := 9) dX11_isConsistent_15 (by decide) ?_
      refine f_cV hG (As := [_]) dX11_isConsistent_17 rfl k_X11_cratesAgree rfl rfl ml_X11_342 im_X11_cratesAgree se_X11_cratesAgree rfl rfl (c_X11_cratesAgree hG (d := 12) (Nat.le_refl _) _ _ _ (q4 c_4 c_11) (q5 c_4 c_11)) (by omega) (Nat.le_of_ble_eq_true rfl) (Nat.zero_le _) (Nat.zero_le _) ?_
      refine f_if_eq (tgt := 63) dX11_isConsistent_20 (by decide) (fun c_20 => ?_) (fun c_20 => ?_)
      · refine f_iconst (v := 0) dX11_isConsistent_63 rfl ?_
        refine f_ireturn dX11_isConsistent_64 rfl rfl ?_
        exact ⟨by rw [r_X11_isConsistent, if_neg c_4, if_neg c_11, if_pos c_20], by rw [m_X11_isConsistent, if_neg c_4, if_neg c_11, if_pos c_20]⟩
      · refine f_aload_n dX11_isConsistent_23 rfl rfl ?_
        refine f_bipush (v := 20) dX11_isConsistent_24 (by decide) ?_
        refine f_cV hG (As := [_]) dX11_isConsistent_26 rfl k_X11_cratesAgree rfl rfl ml_X11_342 im_X11_cratesAgree se_X11_cratesAgree rfl rfl (c_X11_cratesAgree hG (d := 12) (Nat.le_refl _) _ _ _ (q6 c_4 c_11 c_20) (q7 c_4 c_11 c_20)) (by omega) (Nat.le_of_ble_eq_true rfl) (Nat.zero_le _) (Nat.zero_le _) ?_
        refine f_if_eq (tgt := 63) dX11_isConsistent_29 (by decide) (fun c_29 => ?_) (fun c_29 => ?_)
        · refine f_iconst (v := 0) dX11_isConsistent_63 rfl ?_
          refine f_ireturn dX11_isConsistent_64 rfl rfl ?_
          exact ⟨by rw [r_X11_isConsistent, if_neg c_4, if_neg c_11, if_neg c_20, if_pos c_29], by rw [m_X11_isConsistent, if_neg c_4, if_neg c_11, if_neg c_20, if_pos c_29]⟩
        · refine f_aload_n dX11_isConsistent_32 rfl rfl ?_
          refine s_getr hG fl_X11_10 dX11_isConsistent_33 rfl rfl ?_
          refine f_cS hG (As := [_]) dX11_isConsistent_36 rfl k_X9_best rfl rfl ml_X11_272 sm_X9_best (c_X9_best hG (d := 3) (Nat.le_refl _) _ _ _ rS_1 _ (q8 c_4 c_11 c_20 c_29).1 (q8 c_4 c_11 c_20 c_29).2 _ (q9 c_4 c_11 c_20 c_29).1 (q9 c_4 c_11 c_20 c_29).2) (by omega) (Nat.le_of_ble_eq_true rfl) (Nat.zero_le _) (Nat.zero_le _) ?_
          refine f_cS hG (As := [_]) dX11_isConsistent_39 rfl k_J6_bitCount_0f7a4 rfl rfl ml_X11_278 sm_J6_bitCount_0f7a4 (c_J6_bitCount_0f7a4 hG (d := 0) (Nat.le_refl _) _ _ _) (by omega) (Nat.le_of_ble_eq_true rfl) (Nat.zero_le _) (Nat.zero_le _) ?_
          refine f_aload_n dX11_isConsistent_42 rfl rfl ?_
          refine s_getr hG fl_X11_10 dX11_isConsistent_43 rfl rfl ?_
          refine f_cS hG (As := [_]) dX11_isConsistent_46 rfl k_X9_fewestByBranching rfl rfl ml_X11_283 sm_X9_fewestByBranching (c_X9_fewestByBranching hG (d := 11) (Nat.le_refl _) _ _ _ rS_1 _ (q8 c_4 c_11 c_20 c_29).1 (q8 c_4 c_11 c_20 c_29).2) (by omega) (Nat.le_of_ble_eq_true rfl) (Nat.zero_le _) (Nat.zero_le _) ?_
          refine f_icmp_ne (tgt := 63) dX11_isConsistent_49 (by decide) (fun c_49 => ?_) (fun c_49 => ?_)
          · refine f_iconst (v := 0) dX11_isConsistent_63 rfl ?_
            refine f_ireturn dX11_isConsistent_64 rfl rfl ?_
            exact ⟨by rw [r_X11_isConsistent, if_neg c_4, if_neg c_11, if_neg c_20, if_neg c_29, if_neg c_49], by rw [m_X11_isConsistent, if_neg c_4, if_neg c_11, if_neg c_20, if_neg c_29, if_neg c_49]⟩
          · refine f_aload_n dX11_isConsistent_52 rfl rfl ?_
            refine f_cV hG (As := []) dX11_isConsistent_53 rfl k_X11_accountsAgree rfl rfl ml_X11_345 im_X11_accountsAgree se_X11_accountsAgree rfl rfl (c_X11_accountsAgree hG (d := 2) (Nat.le_refl _) _ _ (q10 c_4 c_11 c_20 c_29 c_49)) (by omega) (Nat.le_of_ble_eq_true rfl) (Nat.zero_le _) (Nat.zero_le _) ?_
            refine f_if_eq (tgt := 63) dX11_isConsistent_56 (by decide) (fun c_56 => ?_) (fun c_56 => ?_)
            · refine f_iconst (v := 0) dX11_isConsistent_63 rfl ?_
              refine f_ireturn dX11_isConsistent_64 rfl rfl ?_
              exact ⟨by rw [r_X11_isConsistent, if_neg c_4, if_neg c_11, if_neg c_20, if_neg c_29, if_pos c_49, if_pos c_56], by rw [m_X11_isConsistent, if_neg c_4, if_neg c_11, if_neg c_20, if_neg c_29, if_pos c_49, if_pos c_56]⟩
            · refine f_iconst (v := 1) dX11_isConsistent_59 rfl ?_
              refine f_goto (tgt := 64) dX11_isConsistent_60 (by decide) ?_
              refine f_ireturn dX11_isConsistent_64 rfl rfl ?_
              exact ⟨by rw [r_X11_isConsistent, if_neg c_4, if_neg c_11, if_neg c_20, if_neg c_29, if_pos c_49, if_neg c_56], by rw [m_X11_isConsistent, if_neg c_4, if_neg c_11, if_neg c_20, if_neg c_29, if_pos c_49, if_neg c_56]⟩

def l_X11_scanL : fM → Nat → Nat → Int32 → Int32 → Int32 × Int32 × fM
  | M, 0, _, v1, v2 => (v1, v2, M)
  | M, m + 1, j, v1, v2 => (if (M (1 + 6) 2) ≤ (nI j) then (v1, v2, M) else (if v2 ≤ (r_X11_tableDistance M (nI j)) then (l_X11_scanL (m_X11_tableDistance M (nI j)) m (j + 1) v1 v2) else (l_X11_scanL (m_X11_tableDistance M (nI j)) m (j + 1) (nI j) (r_X11_tableDistance M (nI j)))))
set_option maxRecDepth 100000 in
set_option maxHeartbeats 4000000 in
theorem lc_X11_scanL {G : fG} (hG : fOK G) {d : Nat} (hd : 5 ≤ d) (dv : UInt64) (Pv : Nat → fM → Int32 → Int32 → Prop) (q0 : ∀ (j : Nat) (W_37 : fM) (v1 : Int32) (v2 : Int32), j ≤ 300 → Pv j W_37 v1 v2 → ¬ ((W_37 (1 + 6) 2) ≤ (nI j)) → j < 300) (q1 : ∀ (j : Nat) (W_37 : fM) (v1 : Int32) (v2 : Int32), j ≤ 300 → Pv j W_37 v1 v2 → ¬ ((W_37 (1 + 6) 2) ≤ (nI j)) → sm (rget (m_X10_clear W_37 273 6) ((1 + 6) + 1) 8 (nI j)) 300) (q2 : ∀ (j : Nat) (W_37 : fM) (v1 : Int32) (v2 : Int32), j ≤ 300 → Pv j W_37 v1 v2 → ¬ ((W_37 (1 + 6) 2) ≤ (nI j)) → sm ((m_X11_takeWord W_37 (nI j)) 267 2) 300) (q3 : ∀ (j : Nat) (W_37 : fM) (v1 : Int32) (v2 : Int32), j ≤ 300 → Pv j W_37 v1 v2 → ¬ ((W_37 (1 + 6) 2) ≤ (nI j)) → sm ((m_X11_takeWord W_37 (nI j)) 273 2) 300) (q4 : ∀ (j : Nat) (W_37 : fM) (v1 : Int32) (v2 : Int32), j ≤ 300 → Pv j W_37 v1 v2 → ¬ ((W_37 (1 + 6) 2) ≤ (nI j)) → (v2 ≤ (r_X11_tableDistance W_37 (nI j))) → Pv (j + 1) (m_X11_tableDistance W_37 (nI j)) v1 v2) (q5 : ∀ (j : Nat) (W_37 : fM) (v1 : Int32) (v2 : Int32), j ≤ 300 → Pv j W_37 v1 v2 → ¬ ((W_37 (1 + 6) 2) ≤ (nI j)) → ¬ (v2 ≤ (r_X11_tableDistance W_37 (nI j))) → Pv (j + 1) (m_X11_tableDistance W_37 (nI j)) (nI j) (r_X11_tableDistance W_37 (nI j))) {Q : fR → fS → Prop} {kc ks : Nat} : ∀ (m j : Nat) (M : fM) (v1 : Int32) (v2 : Int32), j ≤ 300 → 300 + 1 ≤ j + m → Pv j M v1 v2 → fV G z_X11_scan d Q 75 [some (.ref 0), some (.int ((l_X11_scanL M m j v1 v2).1)), some (.int ((l_X11_scanL M m j v1 v2).2.1)), none, none] [] (sS ((l_X11_scanL M m j v1 v2).2.2) dv) kc ks → fV G z_X11_scan d Q 37 [some (.ref 0), some (.int v1), some (.int v2), some (.int (nI j)), none] [] (sS M dv) kc ks := by
  intro m
  induction m with
  | zero => intros; omega
  | succ m ih =>
    intro j M v1 v2 hj hm hI kk
    refine f_iload_n dX11_scan_37 rfl rfl ?_
    refine f_aload_n dX11_scan_38 rfl rfl ?_
    refine s_getr hG fl_X11_10 dX11_scan_39 rfl rfl ?_
    refine s_getr hG fl_X11_140 dX11_scan_42 rS_1.1 rfl ?_
    refine s_geti hG fl_X11_153 dX11_scan_45 rS_1.2.2.1.1 rfl ?_
    refine f_icmp_ge (tgt := 75) dX11_scan_48 (by decide) (fun c_48 => ?_) (fun c_48 => ?_)
    · have e9 : l_X11_scanL M (m + 1) j v1 v2 = (v1, v2, M) := by rw [l_X11_scanL, if_pos c_48]
      rw [e9] at kk
      refine f_drop 3 ?_
      refine f_drop 4 ?_
      exact kk
    · have hlt : j < 300 := (q0 j M v1 v2 hj hI c_48)
      refine f_aload_n dX11_scan_51 rfl rfl ?_
      refine f_iload_n dX11_scan_52 rfl rfl ?_
      refine f_cV hG (As := [_]) dX11_scan_53 rfl k_X11_tableDistance rfl rfl ml_X11_181 im_X11_tableDistance se_X11_tableDistance rfl rfl (c_X11_tableDistance hG (d := 4) (Nat.le_refl _) _ _ _ (q1 j M v1 v2 hj hI c_48) (q2 j M v1 v2 hj hI c_48) (q3 j M v1 v2 hj hI c_48)) (by omega) (Nat.le_of_ble_eq_true rfl) (Nat.zero_le _) (Nat.zero_le _) ?_
      refine f_istore (ls' := [_, _, _, _, _]) dX11_scan_56 (Nat.le_of_ble_eq_true rfl) rfl rfl ?_
      refine f_iload dX11_scan_58 rfl ?_
      refine f_iload_n dX11_scan_60 rfl rfl ?_
      refine f_icmp_ge (tgt := 69) dX11_scan_61 (by decide) (fun c_61 => ?_) (fun c_61 => ?_)
      · refine f_iinc (v := nI (j + 1)) (ls' := [_, _, _, _, _]) dX11_scan_69 rfl (nI_1 j) (Nat.le_of_ble_eq_true rfl) rfl rfl ?_
        refine f_goto (tgt := 37) dX11_scan_72 (by decide) ?_
        have e9 : l_X11_scanL M (m + 1) j v1 v2 = l_X11_scanL (m_X11_tableDistance M (nI j)) m (j + 1) v1 v2 := by rw [l_X11_scanL, if_neg c_48, if_pos c_61]
        refine f_drop 4 ?_
        exact ih (j + 1) (m_X11_tableDistance M (nI j)) v1 v2 (by omega) (by omega) (q4 j M v1 v2 hj hI c_48 c_61) (by rw [e9] at kk; exact kk)
      · refine f_iload dX11_scan_64 rfl ?_
        refine f_istore_n (ls' := [_, _, _, _, _]) dX11_scan_66 rfl (Nat.le_of_ble_eq_true rfl) rfl rfl ?_
        refine f_iload_n dX11_scan_67 rfl rfl ?_
        refine f_istore_n (ls' := [_, _, _, _, _]) dX11_scan_68 rfl (Nat.le_of_ble_eq_true rfl) rfl rfl ?_
        refine f_iinc (v := nI (j + 1)) (ls' := [_, _, _, _, _]) dX11_scan_69 rfl (nI_1 j) (Nat.le_of_ble_eq_true rfl) rfl rfl ?_
        refine f_goto (tgt := 37) dX11_scan_72 (by decide) ?_
        have e9 : l_X11_scanL M (m + 1) j v1 v2 = l_X11_scanL (m_X11_tableDistance M (nI j)) m (j + 1) (nI j) (r_X11_tableDistance M (nI j)) := by rw [l_X11_scanL, if_neg c_48, if_neg c_61]
        refine f_drop 4 ?_
        exact ih (j + 1) (m_X11_tableDistance M (nI j)) (nI j) (r_X11_tableDistance M (nI j)) (by omega) (by omega) (q5 j M v1 v2 hj hI c_48 c_61) (by rw [e9] at kk; exact kk)

def o_X11_scan (M : fM) : fR × fM := (if (r_X10_isLetters M 267 60 (12 : Int32)) = 0 then (.inr "java/lang/IllegalArgumentException", M) else (if (M (1 + 6) 2) = 0 then (.inr "java/util/NoSuchElementException", M) else (.inl (some (.int (l_X11_scanL (m_X11_tableDistance M (0 : Int32)) 300 1 (0 : Int32) (r_X11_tableDistance M (0 : Int32))).1)), (l_X11_scanL (m_X11_tableDistance M (0 : Int32)) 300 1 (0 : Int32) (r_X11_tableDistance M (0 : Int32))).2.2)))
set_option maxRecDepth 100000 in
set_option maxHeartbeats 4000000 in
theorem c_X11_scan {G : fG} (hG : fOK G) {d : Nat} (hd : 5 ≤ d) (M : fM) (dv : UInt64) (q0 : sm (M 267 2) 300) (q1 : ¬ ((r_X10_isLetters M 267 60 (12 : Int32)) = 0) → ¬ ((M (1 + 6) 2) = 0) → sm (rget (m_X10_clear M 273 6) ((1 + 6) + 1) 8 (0 : Int32)) 300) (q2 : ¬ ((r_X10_isLetters M 267 60 (12 : Int32)) = 0) → ¬ ((M (1 + 6) 2) = 0) → sm ((m_X11_takeWord M (0 : Int32)) 267 2) 300) (q3 : ¬ ((r_X10_isLetters M 267 60 (12 : Int32)) = 0) → ¬ ((M (1 + 6) 2) = 0) → sm ((m_X11_takeWord M (0 : Int32)) 273 2) 300) (q4 : ¬ ((r_X10_isLetters M 267 60 (12 : Int32)) = 0) → ¬ ((M (1 + 6) 2) = 0) → ∃ Pv : Nat → fM → Int32 → Int32 → Prop, Pv 1 (m_X11_tableDistance M (0 : Int32)) (0 : Int32) (r_X11_tableDistance M (0 : Int32)) ∧ (∀ (j_46 : Nat) (W_37 : fM) (v1_46 : Int32) (v2_46 : Int32), j_46 ≤ 300 → Pv j_46 W_37 v1_46 v2_46 → ¬ ((W_37 (1 + 6) 2) ≤ (nI j_46)) → j_46 < 300) ∧ (∀ (j_47 : Nat) (W_37 : fM) (v1_47 : Int32) (v2_47 : Int32), j_47 ≤ 300 → Pv j_47 W_37 v1_47 v2_47 → ¬ ((W_37 (1 + 6) 2) ≤ (nI j_47)) → sm (rget (m_X10_clear W_37 273 6) ((1 + 6) + 1) 8 (nI j_47)) 300) ∧ (∀ (j_48 : Nat) (W_37 : fM) (v1_48 : Int32) (v2_48 : Int32), j_48 ≤ 300 → Pv j_48 W_37 v1_48 v2_48 → ¬ ((W_37 (1 + 6) 2) ≤ (nI j_48)) → sm ((m_X11_takeWord W_37 (nI j_48)) 267 2) 300) ∧ (∀ (j_49 : Nat) (W_37 : fM) (v1_49 : Int32) (v2_49 : Int32), j_49 ≤ 300 → Pv j_49 W_37 v1_49 v2_49 → ¬ ((W_37 (1 + 6) 2) ≤ (nI j_49)) → sm ((m_X11_takeWord W_37 (nI j_49)) 273 2) 300) ∧ (∀ (j_50 : Nat) (W_37 : fM) (v1_50 : Int32) (v2_50 : Int32), j_50 ≤ 300 → Pv j_50 W_37 v1_50 v2_50 → ¬ ((W_37 (1 + 6) 2) ≤ (nI j_50)) → (v2_50 ≤ (r_X11_tableDistance W_37 (nI j_50))) → Pv (j_50 + 1) (m_X11_tableDistance W_37 (nI j_50)) v1_50 v2_50) ∧ (∀ (j_51 : Nat) (W_37 : fM) (v1_51 : Int32) (v2_51 : Int32), j_51 ≤ 300 → Pv j_51 W_37 v1_51 v2_51 → ¬ ((W_37 (1 + 6) 2) ≤ (nI j_51)) → ¬ (v2_51 ≤ (r_X11_tableDistance W_37 (nI j_51))) → Pv (j_51 + 1) (m_X11_tableDistance W_37 (nI j_51)) (nI j_51) (r_X11_tableDistance W_37 (nI j_51)))) : fCt G z_X11_scan d [.ref 0] (sS M dv) 2 12 (fO dv (o_X11_scan M)) := by
  refine fCt_to [some (.ref 0), none, none, none, none] k_X11_scan rfl (Nat.le_of_ble_eq_true rfl) rfl ?_
  refine f_aload_n dX11_scan_0 rfl rfl ?_
  by_cases c_1_0 : (r_X10_isLetters M 267 60 (12 : Int32)) = 0
  · refine f_tV hG (As := []) dX11_scan_1 rfl k_X11_demandScannedText rfl rfl ml_X11_173 im_X11_demandScannedText se_X11_demandScannedText rfl rfl (E := "java/lang/IllegalArgumentException") (M2 := M) (fO_cg (c_X11_demandScannedText hG (d := 3) (Nat.le_refl _) _ _ q0) (by rw [o_X11_demandScannedText, if_pos c_1_0])) (by omega) (Nat.le_of_ble_eq_true rfl) (by omega) (by omega) (f_out rfl (by decide +kernel) ?_)
    rw [o_X11_scan, if_pos c_1_0]
    first | ((refine ⟨?_, ?_⟩ <;> dsimp only); done) | exact ⟨rfl, rfl⟩
  · refine f_rV hG (As := []) dX11_scan_1 rfl k_X11_demandScannedText rfl rfl ml_X11_173 im_X11_demandScannedText se_X11_demandScannedText rfl rfl (v := none) (M2 := M) (fO_cg (c_X11_demandScannedText hG (d := 3) (Nat.le_refl _) _ _ q0) (by rw [o_X11_demandScannedText, if_neg c_1_0])) (by omega) (Nat.le_of_ble_eq_true rfl) (by omega) (by omega) ?_
    refine f_aload_n dX11_scan_4 rfl rfl ?_
    refine s_getr hG fl_X11_10 dX11_scan_5 rfl rfl ?_
    refine s_getr hG fl_X11_140 dX11_scan_8 rS_1.1 rfl ?_
    refine s_geti hG fl_X11_153 dX11_scan_11 rS_1.2.2.1.1 rfl ?_
    refine f_if_ne (tgt := 27) dX11_scan_14 (by decide) (fun c_14 => ?_) (fun c_14 => ?_)
    · refine f_iconst (v := 0) dX11_scan_27 rfl ?_
      refine f_istore_n (ls' := [_, _, _, _, _]) dX11_scan_28 rfl (Nat.le_of_ble_eq_true rfl) rfl rfl ?_
      refine f_aload_n dX11_scan_29 rfl rfl ?_
      refine f_iconst (v := 0) dX11_scan_30 rfl ?_
      refine f_cV hG (As := [_]) dX11_scan_31 rfl k_X11_tableDistance rfl rfl ml_X11_181 im_X11_tableDistance se_X11_tableDistance rfl rfl (c_X11_tableDistance hG (d := 4) (Nat.le_refl _) _ _ _ (q1 c_1_0 c_14) (q2 c_1_0 c_14) (q3 c_1_0 c_14)) (by omega) (Nat.le_of_ble_eq_true rfl) (Nat.zero_le _) (Nat.zero_le _) ?_
      refine f_istore_n (ls' := [_, _, _, _, _]) dX11_scan_34 rfl (Nat.le_of_ble_eq_true rfl) rfl rfl ?_
      refine f_iconst (v := 1) dX11_scan_35 rfl ?_
      refine f_istore_n (ls' := [_, _, _, _, _]) dX11_scan_36 rfl (Nat.le_of_ble_eq_true rfl) rfl rfl ?_
      obtain ⟨Pv45, hI45, w45_0, w45_1, w45_2, w45_3, w45_4, w45_5⟩ := (q4 c_1_0 c_14)
      refine lc_X11_scanL hG (by omega) dv Pv45 w45_0 w45_1 w45_2 w45_3 w45_4 w45_5 300 1 _ _ _ (by omega) (by omega) hI45 ?_
      refine f_iload_n dX11_scan_75 rfl rfl ?_
      refine f_ireturn dX11_scan_76 rfl rfl ?_
      rw [o_X11_scan, if_neg c_1_0, if_neg c_14]
      first | ((refine ⟨?_, ?_⟩ <;> dsimp only); done) | exact ⟨rfl, rfl⟩
    · refine f_throwN hG th_X11_176_180 (st_X11_178) rfl (by decide +kernel) dX11_scan_17 dX11_scan_20 dX11_scan_21 dX11_scan_23 dX11_scan_26 (by decide) (by decide) ?_
      rw [o_X11_scan, if_neg c_1_0, if_pos c_14]
      first | ((refine ⟨?_, ?_⟩ <;> dsimp only); done) | exact ⟨rfl, rfl⟩

def l_X11_writeRawsL (bv : Int32) : fM → Nat → Nat → fM
  | M, 0, _ => M
  | M, m + 1, j => (if (M (1 + 1) 2) ≤ (nI j) then M else (l_X11_writeRawsL bv (m_X10_add M 270 60 (r_X11_signOfRaw M (nI j) bv)) m (j + 1)))
set_option maxRecDepth 100000 in
set_option maxHeartbeats 4000000 in
theorem lc_X11_writeRawsL {G : fG} (hG : fOK G) {d : Nat} (hd : 3 ≤ d) (dv : UInt64) (bv : Int32) (Pv : Nat → fM → Prop) (q0 : ∀ (j : Nat) (W_52 : fM), j ≤ 300 → Pv j W_52 → ¬ ((W_52 (1 + 1) 2) ≤ (nI j)) → j < 300) (q1 : ∀ (j : Nat) (W_52 : fM), j ≤ 300 → Pv j W_52 → ¬ ((W_52 (1 + 1) 2) ≤ (nI j)) → Pv (j + 1) (m_X10_add W_52 270 60 (r_X11_signOfRaw W_52 (nI j) bv))) {Q : fR → fS → Prop} {kc ks : Nat} : ∀ (m j : Nat) (M : fM), j ≤ 300 → 300 + 1 ≤ j + m → Pv j M → fV G z_X11_writeRaws d Q 50 [some (.ref 0), some (.int bv), none] [] (sS (l_X11_writeRawsL bv M m j) dv) kc ks → fV G z_X11_writeRaws d Q 17 [some (.ref 0), some (.int bv), some (.int (nI j))] [] (sS M dv) kc ks := by
  intro m
  induction m with
  | zero => intros; omega
  | succ m ih =>
    intro j M hj hm hI kk
    refine f_iload_n dX11_writeRaws_17 rfl rfl ?_
    refine f_aload_n dX11_writeRaws_18 rfl rfl ?_
    refine s_getr hG fl_X11_10 dX11_writeRaws_19 rfl rfl ?_
    refine s_getr hG fl_X11_87 dX11_writeRaws_22 rS_1.1 rfl ?_
    refine s_geti hG fl_X11_103 dX11_writeRaws_25 rS_1.2.1.1 rfl ?_
    refine f_icmp_ge (tgt := 50) dX11_writeRaws_28 (by decide) (fun c_28 => ?_) (fun c_28 => ?_)
    · have e9 : l_X11_writeRawsL bv M (m + 1) j = M := by rw [l_X11_writeRawsL, if_pos c_28]
      rw [e9] at kk
      refine f_drop 2 ?_
      exact kk
    · have hlt : j < 300 := (q0 j M hj hI c_28)
      refine f_aload_n dX11_writeRaws_31 rfl rfl ?_
      refine s_getr hG fl_X11_38 dX11_writeRaws_32 rfl rfl ?_
      refine f_aload_n dX11_writeRaws_35 rfl rfl ?_
      refine f_iload_n dX11_writeRaws_36 rfl rfl ?_
      refine f_iload_n dX11_writeRaws_37 rfl rfl ?_
      refine f_cV hG (As := [_, _]) dX11_writeRaws_38 rfl k_X11_signOfRaw rfl rfl ml_X11_326 im_X11_signOfRaw se_X11_signOfRaw rfl rfl (c_X11_signOfRaw hG (d := 2) (Nat.le_refl _) _ _ _ _) (by omega) (Nat.le_of_ble_eq_true rfl) (Nat.zero_le _) (Nat.zero_le _) ?_
      refine f_cV hG (As := [_]) dX11_writeRaws_41 rfl k_X10_add rfl rfl ml_X11_315 im_X10_add se_X10_add rT_270.1 rfl (c_X10_add hG (d := 1) (Nat.le_refl _) _ _ _ _ _ rT_270 (by decide)) (by omega) (Nat.le_of_ble_eq_true rfl) (Nat.zero_le _) (Nat.zero_le _) ?_
      refine f_iinc (v := nI (j + 1)) (ls' := [_, _, _]) dX11_writeRaws_44 rfl (nI_1 j) (Nat.le_of_ble_eq_true rfl) rfl rfl ?_
      refine f_goto (tgt := 17) dX11_writeRaws_47 (by decide) ?_
      have e9 : l_X11_writeRawsL bv M (m + 1) j = l_X11_writeRawsL bv (m_X10_add M 270 60 (r_X11_signOfRaw M (nI j) bv)) m (j + 1) := by rw [l_X11_writeRawsL, if_neg c_28]
      exact ih (j + 1) (m_X10_add M 270 60 (r_X11_signOfRaw M (nI j) bv)) (by omega) (by omega) (q1 j M hj hI c_28) (by rw [e9] at kk; exact kk)

def r_X11_writeRaws (M : fM) : Int32 := ((l_X11_writeRawsL (r_X9_best M 1) (m_X10_clear M 270 60) 301 0) 270 2)
def m_X11_writeRaws (M : fM) : fM := (l_X11_writeRawsL (r_X9_best M 1) (m_X10_clear M 270 60) 301 0)
set_option maxRecDepth 100000 in
set_option maxHeartbeats 4000000 in
theorem c_X11_writeRaws {G : fG} (hG : fOK G) {d : Nat} (hd : 4 ≤ d) (M : fM) (dv : UInt64) (q0 : sm (M (1 + 11) 6) 300) (q1 : sm (((1 : Int32) <<< ((M (1 + 1) 2) &&& 31)) - (1 : Int32)) 300) (q2 : ∃ Pv : Nat → fM → Prop, Pv 0 (m_X10_clear M 270 60) ∧ (∀ (j_57 : Nat) (W_52 : fM), j_57 ≤ 300 → Pv j_57 W_52 → ¬ ((W_52 (1 + 1) 2) ≤ (nI j_57)) → j_57 < 300) ∧ (∀ (j_58 : Nat) (W_52 : fM), j_58 ≤ 300 → Pv j_58 W_52 → ¬ ((W_52 (1 + 1) 2) ≤ (nI j_58)) → Pv (j_58 + 1) (m_X10_add W_52 270 60 (r_X11_signOfRaw W_52 (nI j_58) (r_X9_best M 1))))) : fCt G z_X11_writeRaws d [.ref 0] (sS M dv) 0 0 (fD (some (.int (r_X11_writeRaws M))) (sS (m_X11_writeRaws M) dv)) := by
  refine fCt_to [some (.ref 0), none, none] k_X11_writeRaws rfl (Nat.le_of_ble_eq_true rfl) rfl ?_
  refine f_aload_n dX11_writeRaws_0 rfl rfl ?_
  refine s_getr hG fl_X11_10 dX11_writeRaws_1 rfl rfl ?_
  refine f_cS hG (As := [_]) dX11_writeRaws_4 rfl k_X9_best rfl rfl ml_X11_272 sm_X9_best (c_X9_best hG (d := 3) (Nat.le_refl _) _ _ _ rS_1 _ q0.1 q0.2 _ q1.1 q1.2) (by omega) (Nat.le_of_ble_eq_true rfl) (Nat.zero_le _) (Nat.zero_le _) ?_
  refine f_istore_n (ls' := [_, _, _]) dX11_writeRaws_7 rfl (Nat.le_of_ble_eq_true rfl) rfl rfl ?_
  refine f_aload_n dX11_writeRaws_8 rfl rfl ?_
  refine s_getr hG fl_X11_38 dX11_writeRaws_9 rfl rfl ?_
  refine f_cV hG (As := []) dX11_writeRaws_12 rfl k_X10_clear rfl rfl ml_X11_150 im_X10_clear se_X10_clear rT_270.1 rfl (c_X10_clear hG (d := 0) (Nat.le_refl _) _ _ _ _ rT_270 (by decide)) (by omega) (Nat.le_of_ble_eq_true rfl) (Nat.zero_le _) (Nat.zero_le _) ?_
  refine f_iconst (v := 0) dX11_writeRaws_15 rfl ?_
  refine f_istore_n (ls' := [_, _, _]) dX11_writeRaws_16 rfl (Nat.le_of_ble_eq_true rfl) rfl rfl ?_
  obtain ⟨Pv56, hI56, w56_0, w56_1⟩ := q2
  refine lc_X11_writeRawsL hG (by omega) dv _ Pv56 w56_0 w56_1 301 0 _ (by omega) (by omega) hI56 ?_
  refine f_aload_n dX11_writeRaws_50 rfl rfl ?_
  refine s_getr hG fl_X11_38 dX11_writeRaws_51 rfl rfl ?_
  refine s_geti hG fl_X11_323 dX11_writeRaws_54 rT_270.1 rfl ?_
  refine f_ireturn dX11_writeRaws_57 rfl rfl ?_
  exact ⟨by rw [r_X11_writeRaws], by rw [m_X11_writeRaws]⟩

def l_X11_performAll : fM → Nat → Nat → Int32 × fM
  | M, 0, _ => (0, M)
  | M, m + 1, j => (if (M 276 3) ≤ (nI j) then ((-1 : Int32), (m_X4_keep M 25)) else (if (r_X11_refusalOf M (nI j)) = 0 then (l_X11_performAll (m_X11_perform M (nI j)) m (j + 1)) else ((nI j), (m_X8_copyFrom M 1 25))))
set_option maxRecDepth 100000 in
set_option maxHeartbeats 4000000 in
theorem lp_X11_performAll {G : fG} (hG : fOK G) {d : Nat} (hd : 6 ≤ d) (dv : UInt64) (Pv : Nat → fM → Prop) (q0 : ∀ (j : Nat) (W_59 : fM), j ≤ 300 → Pv j W_59 → ((W_59 276 3) ≤ (nI j)) → sm (W_59 73 1) 8) (q1 : ∀ (j : Nat) (W_59 : fM), j ≤ 300 → Pv j W_59 → ¬ ((W_59 276 3) ≤ (nI j)) → j < 300) (q2 : ∀ (j : Nat) (W_59 : fM), j ≤ 300 → Pv j W_59 → ¬ ((W_59 276 3) ≤ (nI j)) → ¬ ((rget W_59 280 20 (nI j)) = (0 : Int32)) → ¬ ((rget W_59 280 20 (nI j)) = (1 : Int32)) → ¬ ((rget W_59 280 20 (nI j)) = (2 : Int32)) → ((rget W_59 280 20 (nI j)) = (3 : Int32)) → sm (W_59 (1 + 11) 6) 300) (q3 : ∀ (j : Nat) (W_59 : fM), j ≤ 300 → Pv j W_59 → ¬ ((W_59 276 3) ≤ (nI j)) → ((r_X11_refusalOf W_59 (nI j)) = 0) → ¬ ((rget W_59 280 20 (nI j)) = (0 : Int32)) → ¬ ((rget W_59 280 20 (nI j)) = (1 : Int32)) → ¬ ((rget W_59 280 20 (nI j)) = (2 : Int32)) → ((rget W_59 280 20 (nI j)) = (3 : Int32)) → sm (W_59 (1 + 11) 6) 300) (q4 : ∀ (j : Nat) (W_59 : fM), j ≤ 300 → Pv j W_59 → ¬ ((W_59 276 3) ≤ (nI j)) → ((r_X11_refusalOf W_59 (nI j)) = 0) → ¬ ((rget W_59 280 20 (nI j)) = (0 : Int32)) → ¬ ((rget W_59 280 20 (nI j)) = (1 : Int32)) → ¬ ((rget W_59 280 20 (nI j)) = (2 : Int32)) → ((rget W_59 280 20 (nI j)) = (3 : Int32)) → sm (r_X5_positionOf W_59 (1 + 11) (r_X1_argument W_59 (nI j) (0 : Int32))) 8) (q5 : ∀ (j : Nat) (W_59 : fM), j ≤ 300 → Pv j W_59 → ¬ ((W_59 276 3) ≤ (nI j)) → ((r_X11_refusalOf W_59 (nI j)) = 0) → ¬ ((rget W_59 280 20 (nI j)) = (0 : Int32)) → ¬ ((rget W_59 280 20 (nI j)) = (1 : Int32)) → ¬ ((rget W_59 280 20 (nI j)) = (2 : Int32)) → ¬ ((rget W_59 280 20 (nI j)) = (3 : Int32)) → ((rget W_59 280 20 (nI j)) = (4 : Int32)) → sm (r_X1_argument W_59 (nI j) (0 : Int32)) 300) (q6 : ∀ (j : Nat) (W_59 : fM), j ≤ 300 → Pv j W_59 → ¬ ((W_59 276 3) ≤ (nI j)) → ((r_X11_refusalOf W_59 (nI j)) = 0) → ¬ ((rget W_59 280 20 (nI j)) = (0 : Int32)) → ¬ ((rget W_59 280 20 (nI j)) = (1 : Int32)) → ¬ ((rget W_59 280 20 (nI j)) = (2 : Int32)) → ¬ ((rget W_59 280 20 (nI j)) = (3 : Int32)) → ((rget W_59 280 20 (nI j)) = (4 : Int32)) → cOK W_59 1) (q7 : ∀ (j : Nat) (W_59 : fM), j ≤ 300 → Pv j W_59 → ¬ ((W_59 276 3) ≤ (nI j)) → ((r_X11_refusalOf W_59 (nI j)) = 0) → ¬ ((rget W_59 280 20 (nI j)) = (0 : Int32)) → ¬ ((rget W_59 280 20 (nI j)) = (1 : Int32)) → ¬ ((rget W_59 280 20 (nI j)) = (2 : Int32)) → ¬ ((rget W_59 280 20 (nI j)) = (3 : Int32)) → ¬ ((rget W_59 280 20 (nI j)) = (4 : Int32)) → sm (W_59 (1 + 11) 6) 9) (q8 : ∀ (j : Nat) (W_59 : fM), j ≤ 300 → Pv j W_59 → ¬ ((W_59 276 3) ≤ (nI j)) → ((r_X11_refusalOf W_59 (nI j)) = 0) → Pv (j + 1) (m_X11_perform W_59 (nI j))) : ∀ (m j : Nat) (M : fM), j ≤ 300 → 300 + 1 ≤ j + m → Pv j M → fV G z_X11_performAll d (fD (some (.int (l_X11_performAll M m j).1)) (sS (l_X11_performAll M m j).2 dv)) 13 [some (.ref 0), some (.int (nI j))] [] (sS M dv) 0 0 := by
  intro m
  induction m with
  | zero => intros; omega
  | succ m ih =>
    intro j M hj hm hI
    refine f_iload_n dX11_performAll_13 rfl rfl ?_
    refine f_aload_n dX11_performAll_14 rfl rfl ?_
    refine s_getr hG fl_X11_47 dX11_performAll_15 rfl rfl ?_
    refine s_geti hG fl_X11_372 dX11_performAll_18 rfl rfl ?_
    refine f_icmp_ge (tgt := 56) dX11_performAll_21 (by decide) (fun c_21 => ?_) (fun c_21 => ?_)
    · refine f_aload_n dX11_performAll_56 rfl rfl ?_
      refine s_getr hG fl_X11_25 dX11_performAll_57 rfl rfl ?_
      refine f_aload_n dX11_performAll_60 rfl rfl ?_
      refine s_getr hG fl_X11_16 dX11_performAll_61 rfl rfl ?_
      refine f_cV hG (As := [_]) dX11_performAll_64 rfl k_X4_keep rfl rfl ml_X11_83 im_X4_keep se_X4_keep rfl rfl (c_X4_keep hG (d := 3) (Nat.le_refl _) _ _ _ rS_25 (q0 j M hj hI c_21).1 (q0 j M hj hI c_21).2) (by omega) (Nat.le_of_ble_eq_true rfl) (Nat.zero_le _) (Nat.zero_le _) ?_
      refine f_iconst (v := (-1)) dX11_performAll_67 rfl ?_
      refine f_ireturn dX11_performAll_68 rfl rfl ?_
      exact ⟨by rw [l_X11_performAll, if_pos c_21], by rw [l_X11_performAll, if_pos c_21]⟩
    · have hlt : j < 300 := (q1 j M hj hI c_21)
      refine f_aload_n dX11_performAll_24 rfl rfl ?_
      refine f_iload_n dX11_performAll_25 rfl rfl ?_
      refine f_cV hG (As := [_]) dX11_performAll_26 rfl k_X11_refusalOf rfl rfl ml_X11_432 im_X11_refusalOf se_X11_refusalOf rfl rfl (c_X11_refusalOf hG (d := 3) (Nat.le_refl _) _ _ _ (q2 j M hj hI c_21)) (by omega) (Nat.le_of_ble_eq_true rfl) (Nat.zero_le _) (Nat.zero_le _) ?_
      refine f_if_eq (tgt := 45) dX11_performAll_29 (by decide) (fun c_29 => ?_) (fun c_29 => ?_)
      · refine f_aload_n dX11_performAll_45 rfl rfl ?_
        refine f_iload_n dX11_performAll_46 rfl rfl ?_
        refine f_cV hG (As := [_]) dX11_performAll_47 rfl k_X11_perform rfl rfl ml_X11_435 im_X11_perform se_X11_perform rfl rfl (c_X11_perform hG (d := 5) (Nat.le_refl _) _ _ _ (q3 j M hj hI c_21 c_29) (q4 j M hj hI c_21 c_29) (q5 j M hj hI c_21 c_29) (q6 j M hj hI c_21 c_29) (q7 j M hj hI c_21 c_29)) (by omega) (Nat.le_of_ble_eq_true rfl) (Nat.zero_le _) (Nat.zero_le _) ?_
        refine f_iinc (v := nI (j + 1)) (ls' := [_, _]) dX11_performAll_50 rfl (nI_1 j) (Nat.le_of_ble_eq_true rfl) rfl rfl ?_
        refine f_goto (tgt := 13) dX11_performAll_53 (by decide) ?_
        have e9 : l_X11_performAll M (m + 1) j = l_X11_performAll (m_X11_perform M (nI j)) m (j + 1) := by rw [l_X11_performAll, if_neg c_21, if_pos c_29]
        rw [e9]
        exact ih (j + 1) (m_X11_perform M (nI j)) (by omega) (by omega) (q8 j M hj hI c_21 c_29)
      · refine f_aload_n dX11_performAll_32 rfl rfl ?_
        refine s_getr hG fl_X11_10 dX11_performAll_33 rfl rfl ?_
        refine f_aload_n dX11_performAll_36 rfl rfl ?_
        refine s_getr hG fl_X11_16 dX11_performAll_37 rfl rfl ?_
        refine f_cV hG (As := [_]) dX11_performAll_40 rfl k_X8_copyFrom rfl rfl ml_X11_383 im_X8_copyFrom se_X8_copyFrom rS_1.1 rfl (c_X8_copyFrom hG (d := 2) (Nat.le_refl _) _ _ _ _ rS_1 rS_25) (by omega) (Nat.le_of_ble_eq_true rfl) (Nat.zero_le _) (Nat.zero_le _) ?_
        refine f_iload_n dX11_performAll_43 rfl rfl ?_
        refine f_ireturn dX11_performAll_44 rfl rfl ?_
        exact ⟨by rw [l_X11_performAll, if_neg c_21, if_neg c_29], by rw [l_X11_performAll, if_neg c_21, if_neg c_29]⟩
def r_X11_performAll (M : fM) : Int32 := (l_X11_performAll (m_X8_copyFrom M 25 1) 301 0).1
def m_X11_performAll (M : fM) : fM := (l_X11_performAll (m_X8_copyFrom M 25 1) 301 0).2
set_option maxRecDepth 100000 in
set_option maxHeartbeats 4000000 in
theorem c_X11_performAll {G : fG} (hG : fOK G) {d : Nat} (hd : 6 ≤ d) (M : fM) (dv : UInt64) (hinv : ∃ Pv : Nat → fM → Prop, Pv 0 (m_X8_copyFrom M 25 1) ∧ (∀ (j : Nat) (W_59 : fM), j ≤ 300 → Pv j W_59 → ((W_59 276 3) ≤ (nI j)) → sm (W_59 73 1) 8) ∧ (∀ (j : Nat) (W_59 : fM), j ≤ 300 → Pv j W_59 → ¬ ((W_59 276 3) ≤ (nI j)) → j < 300) ∧ (∀ (j : Nat) (W_59 : fM), j ≤ 300 → Pv j W_59 → ¬ ((W_59 276 3) ≤ (nI j)) → ¬ ((rget W_59 280 20 (nI j)) = (0 : Int32)) → ¬ ((rget W_59 280 20 (nI j)) = (1 : Int32)) → ¬ ((rget W_59 280 20 (nI j)) = (2 : Int32)) → ((rget W_59 280 20 (nI j)) = (3 : Int32)) → sm (W_59 (1 + 11) 6) 300) ∧ (∀ (j : Nat) (W_59 : fM), j ≤ 300 → Pv j W_59 → ¬ ((W_59 276 3) ≤ (nI j)) → ((r_X11_refusalOf W_59 (nI j)) = 0) → ¬ ((rget W_59 280 20 (nI j)) = (0 : Int32)) → ¬ ((rget W_59 280 20 (nI j)) = (1 : Int32)) → ¬ ((rget W_59 280 20 (nI j)) = (2 : Int32)) → ((rget W_59 280 20 (nI j)) = (3 : Int32)) → sm (W_59 (1 + 11) 6) 300) ∧ (∀ (j : Nat) (W_59 : fM), j ≤ 300 → Pv j W_59 → ¬ ((W_59 276 3) ≤ (nI j)) → ((r_X11_refusalOf W_59 (nI j)) = 0) → ¬ ((rget W_59 280 20 (nI j)) = (0 : Int32)) → ¬ ((rget W_59 280 20 (nI j)) = (1 : Int32)) → ¬ ((rget W_59 280 20 (nI j)) = (2 : Int32)) → ((rget W_59 280 20 (nI j)) = (3 : Int32)) → sm (r_X5_positionOf W_59 (1 + 11) (r_X1_argument W_59 (nI j) (0 : Int32))) 8) ∧ (∀ (j : Nat) (W_59 : fM), j ≤ 300 → Pv j W_59 → ¬ ((W_59 276 3) ≤ (nI j)) → ((r_X11_refusalOf W_59 (nI j)) = 0) → ¬ ((rget W_59 280 20 (nI j)) = (0 : Int32)) → ¬ ((rget W_59 280 20 (nI j)) = (1 : Int32)) → ¬ ((rget W_59 280 20 (nI j)) = (2 : Int32)) → ¬ ((rget W_59 280 20 (nI j)) = (3 : Int32)) → ((rget W_59 280 20 (nI j)) = (4 : Int32)) → sm (r_X1_argument W_59 (nI j) (0 : Int32)) 300) ∧ (∀ (j : Nat) (W_59 : fM), j ≤ 300 → Pv j W_59 → ¬ ((W_59 276 3) ≤ (nI j)) → ((r_X11_refusalOf W_59 (nI j)) = 0) → ¬ ((rget W_59 280 20 (nI j)) = (0 : Int32)) → ¬ ((rget W_59 280 20 (nI j)) = (1 : Int32)) → ¬ ((rget W_59 280 20 (nI j)) = (2 : Int32)) → ¬ ((rget W_59 280 20 (nI j)) = (3 : Int32)) → ((rget W_59 280 20 (nI j)) = (4 : Int32)) → cOK W_59 1) ∧ (∀ (j : Nat) (W_59 : fM), j ≤ 300 → Pv j W_59 → ¬ ((W_59 276 3) ≤ (nI j)) → ((r_X11_refusalOf W_59 (nI j)) = 0) → ¬ ((rget W_59 280 20 (nI j)) = (0 : Int32)) → ¬ ((rget W_59 280 20 (nI j)) = (1 : Int32)) → ¬ ((rget W_59 280 20 (nI j)) = (2 : Int32)) → ¬ ((rget W_59 280 20 (nI j)) = (3 : Int32)) → ¬ ((rget W_59 280 20 (nI j)) = (4 : Int32)) → sm (W_59 (1 + 11) 6) 9) ∧ (∀ (j : Nat) (W_59 : fM), j ≤ 300 → Pv j W_59 → ¬ ((W_59 276 3) ≤ (nI j)) → ((r_X11_refusalOf W_59 (nI j)) = 0) → Pv (j + 1) (m_X11_perform W_59 (nI j)))) : fCt G z_X11_performAll d [.ref 0] (sS M dv) 0 0 (fD (some (.int (r_X11_performAll M))) (sS (m_X11_performAll M) dv)) := by
  refine fCt_to [some (.ref 0), none] k_X11_performAll rfl (Nat.le_of_ble_eq_true rfl) rfl ?_
  obtain ⟨Pv, hI0, q0, q1, q2, q3, q4, q5, q6, q7, q8⟩ := hinv
  refine f_aload_n dX11_performAll_0 rfl rfl ?_
  refine s_getr hG fl_X11_16 dX11_performAll_1 rfl rfl ?_
  refine f_aload_n dX11_performAll_4 rfl rfl ?_
  refine s_getr hG fl_X11_10 dX11_performAll_5 rfl rfl ?_
  refine f_cV hG (As := [_]) dX11_performAll_8 rfl k_X8_copyFrom rfl rfl ml_X11_383 im_X8_copyFrom se_X8_copyFrom rS_25.1 rfl (c_X8_copyFrom hG (d := 2) (Nat.le_refl _) _ _ _ _ rS_25 rS_1) (by omega) (Nat.le_of_ble_eq_true rfl) (Nat.zero_le _) (Nat.zero_le _) ?_
  refine f_iconst (v := 0) dX11_performAll_11 rfl ?_
  refine f_istore_n (ls' := [_, _]) dX11_performAll_12 rfl (Nat.le_of_ble_eq_true rfl) rfl rfl ?_
  exact lp_X11_performAll hG hd dv Pv q0 q1 q2 q3 q4 q5 q6 q7 q8 301 0 _ (by omega) (by omega) hI0
