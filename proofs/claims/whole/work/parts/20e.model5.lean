def r_X12_here (M : fM) : Int32 := (if (M 296 9) ≤ (M 296 16) then (-1 : Int32) else (M 301 ((M 296 16)).toNatClampNeg))
def N_X12_here (M : fM) : Prop := (¬ ((M 296 9) ≤ (M 296 16)) → vp_in (M 296 16) 60)
set_option maxRecDepth 100000 in
set_option maxHeartbeats 4000000 in
theorem c_X12_here {G : fG} (hG : fOK G) {d : Nat} (hd : 0 ≤ d) (M : fM) (dv : UInt64) (hN : N_X12_here M) : fCt G z_X12_here d [.ref 296] (sS M dv) 0 0 (fD (some (.int (r_X12_here M))) (sS M dv)) := by
  refine fCt_to [some (.ref 296)] k_X12_here rfl (Nat.le_of_ble_eq_true rfl) rfl ?_
  have q0 : ¬ ((M 296 9) ≤ (M 296 16)) → vp_in (M 296 16) 60 := hN
  refine f_aload_n dX12_here_0 rfl rfl ?_
  refine s_geti hG fl_X12_164 dX12_here_1 rfl rfl ?_
  refine f_aload_n dX12_here_4 rfl rfl ?_
  refine s_geti hG fl_X12_81 dX12_here_5 rfl rfl ?_
  refine f_icmp_ge (tgt := 23) dX12_here_8 (by decide) (fun c_8 => ?_) (fun c_8 => ?_)
  · refine f_iconst (v := (-1)) dX12_here_23 rfl ?_
    refine f_ireturn dX12_here_24 rfl rfl ?_
    exact ⟨by rw [r_X12_here, if_pos c_8], rfl⟩
  · refine f_aload_n dX12_here_11 rfl rfl ?_
    refine s_getr hG fl_X12_22 dX12_here_12 rfl rfl ?_
    refine f_aload_n dX12_here_15 rfl rfl ?_
    refine s_geti hG fl_X12_164 dX12_here_16 rfl rfl ?_
    refine s_iaload hG dX12_here_19 rfl ((q0 c_8)) ?_
    refine f_goto (tgt := 24) dX12_here_20 (by decide) ?_
    refine f_ireturn dX12_here_24 rfl rfl ?_
    exact ⟨by rw [r_X12_here, if_neg c_8], rfl⟩

def r_X12_skips (M : fM) (a : Int32) : Int32 := (if (r_X12_here M) = a then (1 : Int32) else (0 : Int32))
def m_X12_skips (M : fM) (a : Int32) : fM := (if (r_X12_here M) = a then (fst1 M 296 16 ((M 296 16) + (1 : Int32))) else M)
theorem n_X12_skips (M : fM) (a : Int32) : narrow .boolean (.int (r_X12_skips M a)) = .int (r_X12_skips M a) := by
  unfold r_X12_skips
  repeat' with_reducible apply n_ite
  all_goals first | rfl | exact pk_nc _
def N_X12_skips (M : fM) (a : Int32) : Prop := (N_X12_here M)
set_option maxRecDepth 100000 in
set_option maxHeartbeats 4000000 in
theorem c_X12_skips {G : fG} (hG : fOK G) {d : Nat} (hd : 1 ≤ d) (M : fM) (dv : UInt64) (a : Int32) (hN : N_X12_skips M a) : fCt G z_X12_skips d [.ref 296, .int a] (sS M dv) 0 0 (fD (some (.int (r_X12_skips M a))) (sS (m_X12_skips M a) dv)) := by
  refine fCt_to [some (.ref 296), some (.int a)] k_X12_skips rfl (Nat.le_of_ble_eq_true rfl) rfl ?_
  have q0 : N_X12_here M := hN
  refine f_aload_n dX12_skips_0 rfl rfl ?_
  refine f_cV hG (As := []) dX12_skips_1 rfl k_X12_here rfl rfl ml_X12_167 im_X12_here se_X12_here rfl rfl (c_X12_here hG (d := 0) (Nat.le_refl _) _ _ q0) (by omega) (Nat.le_of_ble_eq_true rfl) (Nat.zero_le _) (Nat.zero_le _) ?_
  refine f_iload_n dX12_skips_4 rfl rfl ?_
  refine f_icmp_eq (tgt := 10) dX12_skips_5 (by decide) (fun c_5 => ?_) (fun c_5 => ?_)
  · refine f_aload_n dX12_skips_10 rfl rfl ?_
    refine f_dup dX12_skips_11 rfl ?_
    refine s_geti hG fl_X12_164 dX12_skips_12 rfl rfl ?_
    refine f_iconst (v := 1) dX12_skips_15 rfl ?_
    refine f_iadd dX12_skips_16 ?_
    refine s_puti hG fl_X12_164 (Or.inl rfl) dX12_skips_17 rfl rfl rfl rfl ?_
    refine f_iconst (v := 1) dX12_skips_20 rfl ?_
    refine f_ireturn dX12_skips_21 rfl rfl ?_
    exact ⟨by rw [r_X12_skips, if_pos c_5], by rw [m_X12_skips, if_pos c_5]⟩
  · refine f_iconst (v := 0) dX12_skips_8 rfl ?_
    refine f_ireturn dX12_skips_9 rfl rfl ?_
    exact ⟨by rw [r_X12_skips, if_neg c_5], by rw [m_X12_skips, if_neg c_5]⟩

def l_X12_isWord (a : Int32) (s : Nat) : fM → Nat → Nat → Int32 × fM
  | M, 0, _ => (0, M)
  | M, m + 1, j => (if (nI (fsb s).length) ≤ (nI j) then ((1 : Int32), M) else (if (r_X12_skips M ((fsb s).getD (nI j).toNatClampNeg 0)) = 0 then ((0 : Int32), (m_X12_skips M ((fsb s).getD (nI j).toNatClampNeg 0))) else (l_X12_isWord a s (m_X12_skips M ((fsb s).getD (nI j).toNatClampNeg 0)) m (j + 1))))
set_option maxRecDepth 100000 in
set_option maxHeartbeats 4000000 in
theorem lp_X12_isWord {G : fG} (hG : fOK G) {d : Nat} (hd : 4 ≤ d) (dv : UInt64) (a : Int32) (s : Nat) (hs : fStr s) (Pv : Nat → fM → Prop) (q0 : ∀ (j : Nat) (W_288 : fM), Pv j W_288 → ¬ ((nI (fsb s).length) ≤ (nI j)) → N_X12_skips W_288 ((fsb s).getD (nI j).toNatClampNeg 0)) (q1 : ∀ (j : Nat) (W_288 : fM), Pv j W_288 → ¬ ((nI (fsb s).length) ≤ (nI j)) → ¬ ((r_X12_skips W_288 ((fsb s).getD (nI j).toNatClampNeg 0)) = 0) → Pv (j + 1) (m_X12_skips W_288 ((fsb s).getD (nI j).toNatClampNeg 0))) : ∀ (m j : Nat) (M : fM), j ≤ (fsb s).length → (fsb s).length + 1 ≤ j + m → Pv j M → fV G z_X12_isWord d (fD (some (.int (l_X12_isWord a s M m j).1)) (sS (l_X12_isWord a s M m j).2 dv)) 14 [some (.ref 296), some (.int a), some (.ref s), some (.int (nI j))] [] (sS M dv) 0 0 := by
  intro m
  induction m with
  | zero => intros; omega
  | succ m ih =>
    intro j M hj hm hI
    refine f_iload_n dX12_isWord_14 rfl rfl ?_
    refine f_aload_n dX12_isWord_15 rfl rfl ?_
    refine f_cVQ hG (As := []) dX12_isWord_16 rfl k_J0_length_8abf5 rfl rfl ml_X12_173 im_J0_length_8abf5 se_J0_length_8abf5 hs rfl (c_J0_length_8abf5 hG (d := 1) (Nat.le_refl _) _ _ hs) (by omega) (Nat.le_of_ble_eq_true rfl) (Nat.zero_le _) (Nat.zero_le _) ?_
    refine f_icmp_ge (tgt := 42) dX12_isWord_19 (by decide) (fun c_19 => ?_) (fun c_19 => ?_)
    · refine f_iconst (v := 1) dX12_isWord_42 rfl ?_
      refine f_ireturn dX12_isWord_43 rfl rfl ?_
      exact ⟨by rw [l_X12_isWord, if_pos c_19], by rw [l_X12_isWord, if_pos c_19]⟩
    · have hsl := fsb_lt hs
      have hlt : j < (fsb s).length := Nat.lt_of_not_le fun h => c_19 (nI_le h (by omega))
      refine f_aload_n dX12_isWord_22 rfl rfl ?_
      refine f_aload_n dX12_isWord_23 rfl rfl ?_
      refine f_iload_n dX12_isWord_24 rfl rfl ?_
      refine f_cVQ hG (As := [_]) dX12_isWord_25 rfl k_J0_charAt_5068e rfl rfl ml_X12_177 im_J0_charAt_5068e se_J0_charAt_5068e hs rfl (c_J0_charAt_5068e hG (d := 3) (Nat.le_refl _) _ _ _ hs (vp_in_nI (by omega) (by omega))) (by omega) (Nat.le_of_ble_eq_true rfl) (Nat.zero_le _) (Nat.zero_le _) ?_
      refine f_cV hG (As := [_]) dX12_isWord_28 rfl k_X12_skips rfl rfl ml_X12_181 im_X12_skips se_X12_skips rfl rfl (c_X12_skips hG (d := 1) (Nat.le_refl _) _ _ _ (q0 j M hI c_19)) (by omega) (Nat.le_of_ble_eq_true rfl) (Nat.zero_le _) (Nat.zero_le _) ?_
      refine f_if_ne (tgt := 36) dX12_isWord_31 (by decide) (fun c_31 => ?_) (fun c_31 => ?_)
      · refine f_iinc (v := nI (j + 1)) (ls' := [_, _, _, _]) dX12_isWord_36 rfl (nI_1 j) (Nat.le_of_ble_eq_true rfl) rfl rfl ?_
        refine f_goto (tgt := 14) dX12_isWord_39 (by decide) ?_
        have e9 : l_X12_isWord a s M (m + 1) j = l_X12_isWord a s (m_X12_skips M ((fsb s).getD (nI j).toNatClampNeg 0)) m (j + 1) := by rw [l_X12_isWord, if_neg c_19, if_neg c_31]
        rw [e9]
        exact ih (j + 1) (m_X12_skips M ((fsb s).getD (nI j).toNatClampNeg 0)) (by omega) (by omega) (q1 j M hI c_19 c_31)
      · refine f_iconst (v := 0) dX12_isWord_34 rfl ?_
        refine f_ireturn dX12_isWord_35 rfl rfl ?_
        exact ⟨by rw [l_X12_isWord, if_neg c_19, if_pos c_31], by rw [l_X12_isWord, if_neg c_19, if_pos c_31]⟩
def r_X12_isWord (M : fM) (a : Int32) (s : Nat) : Int32 := (l_X12_isWord a s (fst1 M 305 (((5 : Int32) * (M 296 18))).toNatClampNeg a) 8 0).1
def m_X12_isWord (M : fM) (a : Int32) (s : Nat) : fM := (l_X12_isWord a s (fst1 M 305 (((5 : Int32) * (M 296 18))).toNatClampNeg a) 8 0).2
theorem n_l_X12_isWord (a : Int32) (s : Nat) : ∀ (m j : Nat) (M : fM), narrow .boolean (.int (l_X12_isWord a s M m j).1) = .int (l_X12_isWord a s M m j).1 := by
  intro m
  induction m with
  | zero => intros; unfold l_X12_isWord; first | rfl | (dsimp only; rfl)
  | succ m ih =>
    intro j M
    unfold l_X12_isWord
    repeat' split
    all_goals (try dsimp only)
    all_goals first | rfl | exact pk_nc _ | exact ih _ _ ..
theorem n_X12_isWord (M : fM) (a : Int32) (s : Nat) : narrow .boolean (.int (r_X12_isWord M a s)) = .int (r_X12_isWord M a s) := by
  have g : ∀ (p : Int32 × fM), (∀ q, p = q → narrow .boolean (.int q.1) = .int q.1) → ∀ x : Int32, x = p.1 → narrow .boolean (.int x) = .int x := fun p h x hx => hx ▸ h p rfl
  have k : ∀ q : Int32 × fM, l_X12_isWord a s (fst1 M 305 (((5 : Int32) * (M 296 18))).toNatClampNeg a) 8 0 = q → narrow .boolean (.int q.1) = .int q.1 := by
    intro q hq
    have h := n_l_X12_isWord a s 8 0 (fst1 M 305 (((5 : Int32) * (M 296 18))).toNatClampNeg a)
    rw [hq] at h
    exact h
  exact g _ k _ (by rw [r_X12_isWord])
def N_X12_isWord (M : fM) (a : Int32) (s : Nat) : Prop := (∃ Pv : Nat → fM → Prop, Pv 0 (fst1 M 305 (((5 : Int32) * (M 296 18))).toNatClampNeg a) ∧ (∀ (j : Nat) (W_288 : fM), Pv j W_288 → ¬ ((nI (fsb s).length) ≤ (nI j)) → N_X12_skips W_288 ((fsb s).getD (nI j).toNatClampNeg 0)) ∧ (∀ (j : Nat) (W_288 : fM), Pv j W_288 → ¬ ((nI (fsb s).length) ≤ (nI j)) → ¬ ((r_X12_skips W_288 ((fsb s).getD (nI j).toNatClampNeg 0)) = 0) → Pv (j + 1) (m_X12_skips W_288 ((fsb s).getD (nI j).toNatClampNeg 0)))) ∧ (vp_in ((5 : Int32) * (M 296 18)) 155)
set_option maxRecDepth 100000 in
set_option maxHeartbeats 4000000 in
theorem c_X12_isWord {G : fG} (hG : fOK G) {d : Nat} (hd : 4 ≤ d) (M : fM) (dv : UInt64) (a : Int32) (s : Nat) (hs : fStr s) (hN : N_X12_isWord M a s) : fCt G z_X12_isWord d [.ref 296, .int a, .ref s] (sS M dv) 0 0 (fD (some (.int (r_X12_isWord M a s))) (sS (m_X12_isWord M a s) dv)) := by
  refine fCt_to [some (.ref 296), some (.int a), some (.ref s), none] k_X12_isWord rfl (Nat.le_of_ble_eq_true rfl) rfl ?_
  obtain ⟨hinv, p0⟩ := hN
  have hsl := fsb_lt hs
  obtain ⟨Pv, hI0, q0, q1⟩ := hinv
  refine f_aload_n dX12_isWord_0 rfl rfl ?_
  refine s_getr hG fl_X12_42 dX12_isWord_1 rfl rfl ?_
  refine f_iconst (v := 5) dX12_isWord_4 rfl ?_
  refine f_aload_n dX12_isWord_5 rfl rfl ?_
  refine s_geti hG fl_X12_170 dX12_isWord_6 rfl rfl ?_
  refine f_imul dX12_isWord_9 ?_
  refine f_iload_n dX12_isWord_10 rfl rfl ?_
  refine s_iastore hG dX12_isWord_11 rfl (p0) ?_
  refine f_iconst (v := 0) dX12_isWord_12 rfl ?_
  refine f_istore_n (ls' := [_, _, _, _]) dX12_isWord_13 rfl (Nat.le_of_ble_eq_true rfl) rfl rfl ?_
  exact lp_X12_isWord hG hd dv a s hs Pv q0 q1 8 0 _ (by omega) (by omega) hI0

def a0_X12_figures (M : fM) (a : Int32) : fM := (fst1 (fst1 M 305 (a).toNatClampNeg ((((10 : Int32) * (M 305 (a).toNatClampNeg)) + (r_X12_here M)) - (48 : Int32))) 296 16 (((fst1 M 305 (a).toNatClampNeg ((((10 : Int32) * (M 305 (a).toNatClampNeg)) + (r_X12_here M)) - (48 : Int32))) 296 16) + (1 : Int32)))
def l_X12_figuresL (a : Int32) (b : Int32) : fM → Nat → Nat → fM
  | M, 0, _ => M
  | M, m + 1, j => (if b ≤ (nI j) then M else (if (r_X12_in M (r_X12_here M) (48 : Int32) (57 : Int32)) = 0 then M else (l_X12_figuresL a b (a0_X12_figures M a) m (j + 1))))
set_option maxRecDepth 100000 in
set_option maxHeartbeats 4000000 in
theorem lc_X12_figuresL {G : fG} (hG : fOK G) {d : Nat} (hd : 1 ≤ d) (dv : UInt64) (a : Int32) (b : Int32) (Pv : Nat → fM → Prop) (q0 : ∀ (j : Nat) (W_289 : fM), j ≤ 2 → Pv j W_289 → ¬ (b ≤ (nI j)) → N_X12_here W_289) (q1 : ∀ (j : Nat) (W_289 : fM), j ≤ 2 → Pv j W_289 → ¬ (b ≤ (nI j)) → ¬ ((r_X12_in W_289 (r_X12_here W_289) (48 : Int32) (57 : Int32)) = 0) → j < 2) (q2 : ∀ (j : Nat) (W_289 : fM), j ≤ 2 → Pv j W_289 → ¬ (b ≤ (nI j)) → ¬ ((r_X12_in W_289 (r_X12_here W_289) (48 : Int32) (57 : Int32)) = 0) → vp_in a 155) (q3 : ∀ (j : Nat) (W_289 : fM), j ≤ 2 → Pv j W_289 → ¬ (b ≤ (nI j)) → ¬ ((r_X12_in W_289 (r_X12_here W_289) (48 : Int32) (57 : Int32)) = 0) → N_X12_here W_289) (q4 : ∀ (j : Nat) (W_289 : fM), j ≤ 2 → Pv j W_289 → ¬ (b ≤ (nI j)) → ¬ ((r_X12_in W_289 (r_X12_here W_289) (48 : Int32) (57 : Int32)) = 0) → Pv (j + 1) (a0_X12_figures W_289 a)) {Q : fR → fS → Prop} {kc ks : Nat} : ∀ (m j : Nat) (M : fM), j ≤ 2 → 2 + 1 ≤ j + m → Pv j M → fV G z_X12_figures d Q 92 [some (.ref 296), some (.int a), some (.int b), none] [] (sS (l_X12_figuresL a b M m j) dv) kc ks → fV G z_X12_figures d Q 34 [some (.ref 296), some (.int a), some (.int b), some (.int (nI j))] [] (sS M dv) kc ks := by
  intro m
  induction m with
  | zero => intros; omega
  | succ m ih =>
    intro j M hj hm hI kk
    refine f_iload_n dX12_figures_34 rfl rfl ?_
    refine f_iload_n dX12_figures_35 rfl rfl ?_
    refine f_icmp_ge (tgt := 92) dX12_figures_36 (by decide) (fun c_36 => ?_) (fun c_36 => ?_)
    · have e9 : l_X12_figuresL a b M (m + 1) j = M := by rw [l_X12_figuresL, if_pos c_36]
      rw [e9] at kk
      refine f_drop 3 ?_
      exact kk
    · refine f_aload_n dX12_figures_39 rfl rfl ?_
      refine f_cV hG (As := []) dX12_figures_40 rfl k_X12_here rfl rfl ml_X12_167 im_X12_here se_X12_here rfl rfl (c_X12_here hG (d := 0) (Nat.le_refl _) _ _ (q0 j M hj hI c_36)) (by omega) (Nat.le_of_ble_eq_true rfl) (Nat.zero_le _) (Nat.zero_le _) ?_
      refine f_bipush (v := 48) dX12_figures_43 (by decide) ?_
      refine f_bipush (v := 57) dX12_figures_45 (by decide) ?_
      refine f_cS hG (As := [_, _, _]) dX12_figures_47 rfl k_X12_in rfl rfl ml_X12_59 sm_X12_in (c_X12_in hG (d := 0) (Nat.le_refl _) _ _ _ _ _) (by omega) (Nat.le_of_ble_eq_true rfl) (Nat.zero_le _) (Nat.zero_le _) ?_
      refine f_if_eq (tgt := 92) dX12_figures_50 (by decide) (fun c_50 => ?_) (fun c_50 => ?_)
      · have e9 : l_X12_figuresL a b M (m + 1) j = M := by rw [l_X12_figuresL, if_neg c_36, if_pos c_50]
        rw [e9] at kk
        refine f_drop 3 ?_
        exact kk
      · have hlt : j < 2 := (q1 j M hj hI c_36 c_50)
        refine f_aload_n dX12_figures_53 rfl rfl ?_
        refine s_getr hG fl_X12_42 dX12_figures_54 rfl rfl ?_
        refine f_iload_n dX12_figures_57 rfl rfl ?_
        refine f_bipush (v := 10) dX12_figures_58 (by decide) ?_
        refine f_aload_n dX12_figures_60 rfl rfl ?_
        refine s_getr hG fl_X12_42 dX12_figures_61 rfl rfl ?_
        refine f_iload_n dX12_figures_64 rfl rfl ?_
        refine s_iaload hG dX12_figures_65 rfl ((q2 j M hj hI c_36 c_50)) ?_
        refine f_imul dX12_figures_66 ?_
        refine f_aload_n dX12_figures_67 rfl rfl ?_
        refine f_cV hG (As := []) dX12_figures_68 rfl k_X12_here rfl rfl ml_X12_167 im_X12_here se_X12_here rfl rfl (c_X12_here hG (d := 0) (Nat.le_refl _) _ _ (q3 j M hj hI c_36 c_50)) (by omega) (Nat.le_of_ble_eq_true rfl) (Nat.zero_le _) (Nat.zero_le _) ?_
        refine f_iadd dX12_figures_71 ?_
        refine f_bipush (v := 48) dX12_figures_72 (by decide) ?_
        refine f_isub dX12_figures_74 ?_
        refine s_iastore hG dX12_figures_75 rfl ((q2 j M hj hI c_36 c_50)) ?_
        refine f_aload_n dX12_figures_76 rfl rfl ?_
        refine f_dup dX12_figures_77 rfl ?_
        refine s_geti hG fl_X12_164 dX12_figures_78 rfl rfl ?_
        refine f_iconst (v := 1) dX12_figures_81 rfl ?_
        refine f_iadd dX12_figures_82 ?_
        refine s_puti hG fl_X12_164 (Or.inl rfl) dX12_figures_83 rfl rfl rfl rfl ?_
        refine f_mem (M := (fst1 (fst1 M 305 (a).toNatClampNeg ((((10 : Int32) * (M 305 (a).toNatClampNeg)) + (r_X12_here M)) - (48 : Int32))) 296 16 (((fst1 M 305 (a).toNatClampNeg ((((10 : Int32) * (M 305 (a).toNatClampNeg)) + (r_X12_here M)) - (48 : Int32))) 296 16) + (1 : Int32)))) (M' := (a0_X12_figures M a)) (by rw [a0_X12_figures]) ?_
        refine f_iinc (v := nI (j + 1)) (ls' := [_, _, _, _]) dX12_figures_86 rfl (nI_1 j) (Nat.le_of_ble_eq_true rfl) rfl rfl ?_
        refine f_goto (tgt := 34) dX12_figures_89 (by decide) ?_
        have e9 : l_X12_figuresL a b M (m + 1) j = l_X12_figuresL a b (a0_X12_figures M a) m (j + 1) := by rw [l_X12_figuresL, if_neg c_36, if_neg c_50]
        exact ih (j + 1) (a0_X12_figures M a) (by omega) (by omega) (q4 j M hj hI c_36 c_50) (by rw [e9] at kk; exact kk)

def r_X12_figures (M : fM) (a : Int32) (b : Int32) : Int32 := (if (r_X12_skips M (32 : Int32)) = 0 then (0 : Int32) else (if (r_X12_in (m_X12_skips M (32 : Int32)) (r_X12_here (m_X12_skips M (32 : Int32))) (48 : Int32) (57 : Int32)) = 0 then (0 : Int32) else (1 : Int32)))
def m_X12_figures (M : fM) (a : Int32) (b : Int32) : fM := (if (r_X12_skips M (32 : Int32)) = 0 then (m_X12_skips M (32 : Int32)) else (if (r_X12_in (m_X12_skips M (32 : Int32)) (r_X12_here (m_X12_skips M (32 : Int32))) (48 : Int32) (57 : Int32)) = 0 then (m_X12_skips M (32 : Int32)) else (l_X12_figuresL a b (fst1 (m_X12_skips M (32 : Int32)) 305 (a).toNatClampNeg (0 : Int32)) 3 0)))
theorem n_X12_figures (M : fM) (a : Int32) (b : Int32) : narrow .boolean (.int (r_X12_figures M a b)) = .int (r_X12_figures M a b) := by
  unfold r_X12_figures
  repeat' with_reducible apply n_ite
  all_goals first | rfl | exact pk_nc _
def N_X12_figures (M : fM) (a : Int32) (b : Int32) : Prop := (N_X12_skips M (32 : Int32)) ∧ (¬ ((r_X12_skips M (32 : Int32)) = 0) → N_X12_here (m_X12_skips M (32 : Int32))) ∧ (¬ ((r_X12_skips M (32 : Int32)) = 0) → ¬ ((r_X12_in (m_X12_skips M (32 : Int32)) (r_X12_here (m_X12_skips M (32 : Int32))) (48 : Int32) (57 : Int32)) = 0) → vp_in a 155) ∧ (¬ ((r_X12_skips M (32 : Int32)) = 0) → ¬ ((r_X12_in (m_X12_skips M (32 : Int32)) (r_X12_here (m_X12_skips M (32 : Int32))) (48 : Int32) (57 : Int32)) = 0) → ∃ Pv : Nat → fM → Prop, Pv 0 (fst1 (m_X12_skips M (32 : Int32)) 305 (a).toNatClampNeg (0 : Int32)) ∧ (∀ (j_297 : Nat) (W_289 : fM), j_297 ≤ 2 → Pv j_297 W_289 → ¬ (b ≤ (nI j_297)) → N_X12_here W_289) ∧ (∀ (j_298 : Nat) (W_289 : fM), j_298 ≤ 2 → Pv j_298 W_289 → ¬ (b ≤ (nI j_298)) → ¬ ((r_X12_in W_289 (r_X12_here W_289) (48 : Int32) (57 : Int32)) = 0) → j_298 < 2) ∧ (∀ (j_299 : Nat) (W_289 : fM), j_299 ≤ 2 → Pv j_299 W_289 → ¬ (b ≤ (nI j_299)) → ¬ ((r_X12_in W_289 (r_X12_here W_289) (48 : Int32) (57 : Int32)) = 0) → vp_in a 155) ∧ (∀ (j_300 : Nat) (W_289 : fM), j_300 ≤ 2 → Pv j_300 W_289 → ¬ (b ≤ (nI j_300)) → ¬ ((r_X12_in W_289 (r_X12_here W_289) (48 : Int32) (57 : Int32)) = 0) → N_X12_here W_289) ∧ (∀ (j_301 : Nat) (W_289 : fM), j_301 ≤ 2 → Pv j_301 W_289 → ¬ (b ≤ (nI j_301)) → ¬ ((r_X12_in W_289 (r_X12_here W_289) (48 : Int32) (57 : Int32)) = 0) → Pv (j_301 + 1) (a0_X12_figures W_289 a)))
set_option maxRecDepth 100000 in
set_option maxHeartbeats 4000000 in
theorem c_X12_figures {G : fG} (hG : fOK G) {d : Nat} (hd : 2 ≤ d) (M : fM) (dv : UInt64) (a : Int32) (b : Int32) (hN : N_X12_figures M a b) : fCt G z_X12_figures d [.ref 296, .int a, .int b] (sS M dv) 0 0 (fD (some (.int (r_X12_figures M a b))) (sS (m_X12_figures M a b) dv)) := by
  refine fCt_to [some (.ref 296), some (.int a), some (.int b), none] k_X12_figures rfl (Nat.le_of_ble_eq_true rfl) rfl ?_
  obtain ⟨q0, q1, q2, q3⟩ := hN
  refine f_aload_n dX12_figures_0 rfl rfl ?_
  refine f_bipush (v := 32) dX12_figures_1 (by decide) ?_
  refine f_cV hG (As := [_]) dX12_figures_3 rfl k_X12_skips rfl rfl ml_X12_181 im_X12_skips se_X12_skips rfl rfl (c_X12_skips hG (d := 1) (Nat.le_refl _) _ _ _ q0) (by omega) (Nat.le_of_ble_eq_true rfl) (Nat.zero_le _) (Nat.zero_le _) ?_
  refine f_if_eq (tgt := 23) dX12_figures_6 (by decide) (fun c_6 => ?_) (fun c_6 => ?_)
  · refine f_iconst (v := 0) dX12_figures_23 rfl ?_
    refine f_ireturn dX12_figures_24 rfl rfl ?_
    exact ⟨by rw [r_X12_figures, if_pos c_6], by rw [m_X12_figures, if_pos c_6]⟩
  · refine f_aload_n dX12_figures_9 rfl rfl ?_
    refine f_cV hG (As := []) dX12_figures_10 rfl k_X12_here rfl rfl ml_X12_167 im_X12_here se_X12_here rfl rfl (c_X12_here hG (d := 0) (Nat.le_refl _) _ _ (q1 c_6)) (by omega) (Nat.le_of_ble_eq_true rfl) (Nat.zero_le _) (Nat.zero_le _) ?_
    refine f_bipush (v := 48) dX12_figures_13 (by decide) ?_
    refine f_bipush (v := 57) dX12_figures_15 (by decide) ?_
    refine f_cS hG (As := [_, _, _]) dX12_figures_17 rfl k_X12_in rfl rfl ml_X12_59 sm_X12_in (c_X12_in hG (d := 0) (Nat.le_refl _) _ _ _ _ _) (by omega) (Nat.le_of_ble_eq_true rfl) (Nat.zero_le _) (Nat.zero_le _) ?_
    refine f_if_ne (tgt := 25) dX12_figures_20 (by decide) (fun c_20 => ?_) (fun c_20 => ?_)
    · refine f_aload_n dX12_figures_25 rfl rfl ?_
      refine s_getr hG fl_X12_42 dX12_figures_26 rfl rfl ?_
      refine f_iload_n dX12_figures_29 rfl rfl ?_
      refine f_iconst (v := 0) dX12_figures_30 rfl ?_
      refine s_iastore hG dX12_figures_31 rfl ((q2 c_6 c_20)) ?_
      refine f_iconst (v := 0) dX12_figures_32 rfl ?_
      refine f_istore_n (ls' := [_, _, _, _]) dX12_figures_33 rfl (Nat.le_of_ble_eq_true rfl) rfl rfl ?_
      obtain ⟨Pv296, hI296, w296_0, w296_1, w296_2, w296_3, w296_4⟩ := (q3 c_6 c_20)
      refine lc_X12_figuresL hG (by omega) dv _ _ Pv296 w296_0 w296_1 w296_2 w296_3 w296_4 3 0 _ (by omega) (by omega) hI296 ?_
      refine f_iconst (v := 1) dX12_figures_92 rfl ?_
      refine f_ireturn dX12_figures_93 rfl rfl ?_
      exact ⟨by rw [r_X12_figures, if_neg c_6, if_neg c_20], by rw [m_X12_figures, if_neg c_6, if_neg c_20]⟩
    · refine f_iconst (v := 0) dX12_figures_23 rfl ?_
      refine f_ireturn dX12_figures_24 rfl rfl ?_
      exact ⟨by rw [r_X12_figures, if_neg c_6, if_pos c_20], by rw [m_X12_figures, if_neg c_6, if_pos c_20]⟩

def a0_X12_commandHere (M : fM) : fM := (m_X12_skips (m_X12_skips (m_X12_skips (m_X12_skips M (109 : Int32)) (102 : Int32)) (115 : Int32)) (114 : Int32))
def a1_X12_commandHere (M : fM) : fM := (fst1 (m_X12_isWord (m_X12_skips (a0_X12_commandHere M) (100 : Int32)) (4 : Int32) 4107) 305 ((((5 : Int32) * (M 296 18)) + (1 : Int32))).toNatClampNeg (1 : Int32))
def a2_X12_commandHere (M : fM) : fM := (m_X12_figures (m_X12_isWord (m_X12_skips (a0_X12_commandHere M) (97 : Int32)) (5 : Int32) 4106) (((5 : Int32) * (M 296 18)) + (1 : Int32)) (1 : Int32))
def a3_X12_commandHere (M : fM) : fM := (m_X12_isWord (m_X12_skips (m_X12_skips (m_X12_skips M (109 : Int32)) (102 : Int32)) (115 : Int32)) (3 : Int32) 4104)
def a4_X12_commandHere (M : fM) : fM := (m_X12_figures (m_X12_isWord (m_X12_skips (m_X12_skips M (109 : Int32)) (102 : Int32)) (2 : Int32) 4103) (((5 : Int32) * (M 296 18)) + (1 : Int32)) (1 : Int32))
def a5_X12_commandHere (M : fM) : fM := (m_X12_figures (m_X12_figures (a4_X12_commandHere M) ((((5 : Int32) * (M 296 18)) + (1 : Int32)) + (1 : Int32)) (1 : Int32)) ((((5 : Int32) * (M 296 18)) + (1 : Int32)) + (2 : Int32)) (1 : Int32))
def a6_X12_commandHere (M : fM) : fM := (m_X12_figures (m_X12_isWord (m_X12_skips M (109 : Int32)) (1 : Int32) 4102) (((5 : Int32) * (M 296 18)) + (1 : Int32)) (2 : Int32))
def r_X12_commandHere (M : fM) : Int32 := (if (r_X12_skips M (109 : Int32)) = 0 then (if (r_X12_skips (m_X12_skips M (109 : Int32)) (102 : Int32)) = 0 then (if (r_X12_skips (m_X12_skips (m_X12_skips M (109 : Int32)) (102 : Int32)) (115 : Int32)) = 0 then (if (r_X12_skips (m_X12_skips (m_X12_skips (m_X12_skips M (109 : Int32)) (102 : Int32)) (115 : Int32)) (114 : Int32)) = 0 then (if (r_X12_skips (a0_X12_commandHere M) (100 : Int32)) = 0 then (0 : Int32) else (if (r_X12_isWord (m_X12_skips (a0_X12_commandHere M) (100 : Int32)) (4 : Int32) 4107) = 0 then (0 : Int32) else (if (r_X12_here (a1_X12_commandHere M)) = (32 : Int32) then (if (r_X12_figures (a1_X12_commandHere M) (((5 : Int32) * (M 296 18)) + (1 : Int32)) (2 : Int32)) = 0 then (0 : Int32) else (1 : Int32)) else (1 : Int32)))) else (if (r_X12_skips (a0_X12_commandHere M) (97 : Int32)) = 0 then (if (r_X12_isWord (m_X12_skips (a0_X12_commandHere M) (97 : Int32)) (5 : Int32) 4106) = 0 then (0 : Int32) else (if (r_X12_figures (m_X12_isWord (m_X12_skips (a0_X12_commandHere M) (97 : Int32)) (5 : Int32) 4106) (((5 : Int32) * (M 296 18)) + (1 : Int32)) (1 : Int32)) = 0 then (0 : Int32) else (1 : Int32))) else (r_X12_isWord (m_X12_skips (a0_X12_commandHere M) (97 : Int32)) (0 : Int32) 4105))) else (if (r_X12_isWord (m_X12_skips (m_X12_skips (m_X12_skips M (109 : Int32)) (102 : Int32)) (115 : Int32)) (3 : Int32) 4104) = 0 then (0 : Int32) else (if (r_X12_figures (a3_X12_commandHere M) (((5 : Int32) * (M 296 18)) + (1 : Int32)) (2 : Int32)) = 0 then (0 : Int32) else (1 : Int32)))) else (if (r_X12_isWord (m_X12_skips (m_X12_skips M (109 : Int32)) (102 : Int32)) (2 : Int32) 4103) = 0 then (0 : Int32) else (if (r_X12_figures (m_X12_isWord (m_X12_skips (m_X12_skips M (109 : Int32)) (102 : Int32)) (2 : Int32) 4103) (((5 : Int32) * (M 296 18)) + (1 : Int32)) (1 : Int32)) = 0 then (0 : Int32) else (if (r_X12_figures (a4_X12_commandHere M) ((((5 : Int32) * (M 296 18)) + (1 : Int32)) + (1 : Int32)) (1 : Int32)) = 0 then (0 : Int32) else (if (r_X12_figures (m_X12_figures (a4_X12_commandHere M) ((((5 : Int32) * (M 296 18)) + (1 : Int32)) + (1 : Int32)) (1 : Int32)) ((((5 : Int32) * (M 296 18)) + (1 : Int32)) + (2 : Int32)) (1 : Int32)) = 0 then (0 : Int32) else (if (r_X12_figures (a5_X12_commandHere M) ((((5 : Int32) * (M 296 18)) + (1 : Int32)) + (3 : Int32)) (1 : Int32)) = 0 then (0 : Int32) else (1 : Int32))))))) else (if (r_X12_isWord (m_X12_skips M (109 : Int32)) (1 : Int32) 4102) = 0 then (0 : Int32) else (if (r_X12_figures (m_X12_isWord (m_X12_skips M (109 : Int32)) (1 : Int32) 4102) (((5 : Int32) * (M 296 18)) + (1 : Int32)) (2 : Int32)) = 0 then (0 : Int32) else (if (r_X12_figures (a6_X12_commandHere M) ((((5 : Int32) * (M 296 18)) + (1 : Int32)) + (1 : Int32)) (2 : Int32)) = 0 then (0 : Int32) else (1 : Int32)))))
def m_X12_commandHere (M : fM) : fM := (if (r_X12_skips M (109 : Int32)) = 0 then (if (r_X12_skips (m_X12_skips M (109 : Int32)) (102 : Int32)) = 0 then (if (r_X12_skips (m_X12_skips (m_X12_skips M (109 : Int32)) (102 : Int32)) (115 : Int32)) = 0 then (if (r_X12_skips (m_X12_skips (m_X12_skips (m_X12_skips M (109 : Int32)) (102 : Int32)) (115 : Int32)) (114 : Int32)) = 0 then (if (r_X12_skips (a0_X12_commandHere M) (100 : Int32)) = 0 then (m_X12_skips (a0_X12_commandHere M) (100 : Int32)) else (if (r_X12_isWord (m_X12_skips (a0_X12_commandHere M) (100 : Int32)) (4 : Int32) 4107) = 0 then (m_X12_isWord (m_X12_skips (a0_X12_commandHere M) (100 : Int32)) (4 : Int32) 4107) else (if (r_X12_here (a1_X12_commandHere M)) = (32 : Int32) then (if (r_X12_figures (a1_X12_commandHere M) (((5 : Int32) * (M 296 18)) + (1 : Int32)) (2 : Int32)) = 0 then (m_X12_figures (a1_X12_commandHere M) (((5 : Int32) * (M 296 18)) + (1 : Int32)) (2 : Int32)) else (m_X12_figures (a1_X12_commandHere M) (((5 : Int32) * (M 296 18)) + (1 : Int32)) (2 : Int32))) else (a1_X12_commandHere M)))) else (if (r_X12_skips (a0_X12_commandHere M) (97 : Int32)) = 0 then (if (r_X12_isWord (m_X12_skips (a0_X12_commandHere M) (97 : Int32)) (5 : Int32) 4106) = 0 then (m_X12_isWord (m_X12_skips (a0_X12_commandHere M) (97 : Int32)) (5 : Int32) 4106) else (if (r_X12_figures (m_X12_isWord (m_X12_skips (a0_X12_commandHere M) (97 : Int32)) (5 : Int32) 4106) (((5 : Int32) * (M 296 18)) + (1 : Int32)) (1 : Int32)) = 0 then (a2_X12_commandHere M) else (a2_X12_commandHere M))) else (m_X12_isWord (m_X12_skips (a0_X12_commandHere M) (97 : Int32)) (0 : Int32) 4105))) else (if (r_X12_isWord (m_X12_skips (m_X12_skips (m_X12_skips M (109 : Int32)) (102 : Int32)) (115 : Int32)) (3 : Int32) 4104) = 0 then (a3_X12_commandHere M) else (if (r_X12_figures (a3_X12_commandHere M) (((5 : Int32) * (M 296 18)) + (1 : Int32)) (2 : Int32)) = 0 then (m_X12_figures (a3_X12_commandHere M) (((5 : Int32) * (M 296 18)) + (1 : Int32)) (2 : Int32)) else (m_X12_figures (a3_X12_commandHere M) (((5 : Int32) * (M 296 18)) + (1 : Int32)) (2 : Int32))))) else (if (r_X12_isWord (m_X12_skips (m_X12_skips M (109 : Int32)) (102 : Int32)) (2 : Int32) 4103) = 0 then (m_X12_isWord (m_X12_skips (m_X12_skips M (109 : Int32)) (102 : Int32)) (2 : Int32) 4103) else (if (r_X12_figures (m_X12_isWord (m_X12_skips (m_X12_skips M (109 : Int32)) (102 : Int32)) (2 : Int32) 4103) (((5 : Int32) * (M 296 18)) + (1 : Int32)) (1 : Int32)) = 0 then (a4_X12_commandHere M) else (if (r_X12_figures (a4_X12_commandHere M) ((((5 : Int32) * (M 296 18)) + (1 : Int32)) + (1 : Int32)) (1 : Int32)) = 0 then (m_X12_figures (a4_X12_commandHere M) ((((5 : Int32) * (M 296 18)) + (1 : Int32)) + (1 : Int32)) (1 : Int32)) else (if (r_X12_figures (m_X12_figures (a4_X12_commandHere M) ((((5 : Int32) * (M 296 18)) + (1 : Int32)) + (1 : Int32)) (1 : Int32)) ((((5 : Int32) * (M 296 18)) + (1 : Int32)) + (2 : Int32)) (1 : Int32)) = 0 then (a5_X12_commandHere M) else (if (r_X12_figures (a5_X12_commandHere M) ((((5 : Int32) * (M 296 18)) + (1 : Int32)) + (3 : Int32)) (1 : Int32)) = 0 then (m_X12_figures (a5_X12_commandHere M) ((((5 : Int32) * (M 296 18)) + (1 : Int32)) + (3 : Int32)) (1 : Int32)) else (m_X12_figures (a5_X12_commandHere M) ((((5 : Int32) * (M 296 18)) + (1 : Int32)) + (3 : Int32)) (1 : Int32)))))))) else (if (r_X12_isWord (m_X12_skips M (109 : Int32)) (1 : Int32) 4102) = 0 then (m_X12_isWord (m_X12_skips M (109 : Int32)) (1 : Int32) 4102) else (if (r_X12_figures (m_X12_isWord (m_X12_skips M (109 : Int32)) (1 : Int32) 4102) (((5 : Int32) * (M 296 18)) + (1 : Int32)) (2 : Int32)) = 0 then (a6_X12_commandHere M) else (if (r_X12_figures (a6_X12_commandHere M) ((((5 : Int32) * (M 296 18)) + (1 : Int32)) + (1 : Int32)) (2 : Int32)) = 0 then (m_X12_figures (a6_X12_commandHere M) ((((5 : Int32) * (M 296 18)) + (1 : Int32)) + (1 : Int32)) (2 : Int32)) else (m_X12_figures (a6_X12_commandHere M) ((((5 : Int32) * (M 296 18)) + (1 : Int32)) + (1 : Int32)) (2 : Int32))))))
theorem n_X12_commandHere (M : fM) : narrow .boolean (.int (r_X12_commandHere M)) = .int (r_X12_commandHere M) := by
  unfold r_X12_commandHere
  repeat' with_reducible apply n_ite
  all_goals first | with_reducible exact n_X12_isWord .. | rfl | exact pk_nc _
def N_X12_commandHere (M : fM) : Prop := (N_X12_skips M (109 : Int32)) ∧ (((r_X12_skips M (109 : Int32)) = 0) → N_X12_skips (m_X12_skips M (109 : Int32)) (102 : Int32)) ∧ (((r_X12_skips M (109 : Int32)) = 0) → ((r_X12_skips (m_X12_skips M (109 : Int32)) (102 : Int32)) = 0) → N_X12_skips (m_X12_skips (m_X12_skips M (109 : Int32)) (102 : Int32)) (115 : Int32)) ∧ (((r_X12_skips M (109 : Int32)) = 0) → ((r_X12_skips (m_X12_skips M (109 : Int32)) (102 : Int32)) = 0) → ((r_X12_skips (m_X12_skips (m_X12_skips M (109 : Int32)) (102 : Int32)) (115 : Int32)) = 0) → N_X12_skips (m_X12_skips (m_X12_skips (m_X12_skips M (109 : Int32)) (102 : Int32)) (115 : Int32)) (114 : Int32)) ∧ (((r_X12_skips M (109 : Int32)) = 0) → ((r_X12_skips (m_X12_skips M (109 : Int32)) (102 : Int32)) = 0) → ((r_X12_skips (m_X12_skips (m_X12_skips M (109 : Int32)) (102 : Int32)) (115 : Int32)) = 0) → ((r_X12_skips (m_X12_skips (m_X12_skips (m_X12_skips M (109 : Int32)) (102 : Int32)) (115 : Int32)) (114 : Int32)) = 0) → N_X12_skips (a0_X12_commandHere M) (100 : Int32)) ∧ (((r_X12_skips M (109 : Int32)) = 0) → ((r_X12_skips (m_X12_skips M (109 : Int32)) (102 : Int32)) = 0) → ((r_X12_skips (m_X12_skips (m_X12_skips M (109 : Int32)) (102 : Int32)) (115 : Int32)) = 0) → ((r_X12_skips (m_X12_skips (m_X12_skips (m_X12_skips M (109 : Int32)) (102 : Int32)) (115 : Int32)) (114 : Int32)) = 0) → ¬ ((r_X12_skips (a0_X12_commandHere M) (100 : Int32)) = 0) → N_X12_isWord (m_X12_skips (a0_X12_commandHere M) (100 : Int32)) (4 : Int32) 4107) ∧ (((r_X12_skips M (109 : Int32)) = 0) → ((r_X12_skips (m_X12_skips M (109 : Int32)) (102 : Int32)) = 0) → ((r_X12_skips (m_X12_skips (m_X12_skips M (109 : Int32)) (102 : Int32)) (115 : Int32)) = 0) → ((r_X12_skips (m_X12_skips (m_X12_skips (m_X12_skips M (109 : Int32)) (102 : Int32)) (115 : Int32)) (114 : Int32)) = 0) → ¬ ((r_X12_skips (a0_X12_commandHere M) (100 : Int32)) = 0) → ¬ ((r_X12_isWord (m_X12_skips (a0_X12_commandHere M) (100 : Int32)) (4 : Int32) 4107) = 0) → vp_in (((5 : Int32) * (M 296 18)) + (1 : Int32)) 155) ∧ (((r_X12_skips M (109 : Int32)) = 0) → ((r_X12_skips (m_X12_skips M (109 : Int32)) (102 : Int32)) = 0) → ((r_X12_skips (m_X12_skips (m_X12_skips M (109 : Int32)) (102 : Int32)) (115 : Int32)) = 0) → ((r_X12_skips (m_X12_skips (m_X12_skips (m_X12_skips M (109 : Int32)) (102 : Int32)) (115 : Int32)) (114 : Int32)) = 0) → ¬ ((r_X12_skips (a0_X12_commandHere M) (100 : Int32)) = 0) → ¬ ((r_X12_isWord (m_X12_skips (a0_X12_commandHere M) (100 : Int32)) (4 : Int32) 4107) = 0) → N_X12_here (a1_X12_commandHere M)) ∧ (((r_X12_skips M (109 : Int32)) = 0) → ((r_X12_skips (m_X12_skips M (109 : Int32)) (102 : Int32)) = 0) → ((r_X12_skips (m_X12_skips (m_X12_skips M (109 : Int32)) (102 : Int32)) (115 : Int32)) = 0) → ((r_X12_skips (m_X12_skips (m_X12_skips (m_X12_skips M (109 : Int32)) (102 : Int32)) (115 : Int32)) (114 : Int32)) = 0) → ¬ ((r_X12_skips (a0_X12_commandHere M) (100 : Int32)) = 0) → ¬ ((r_X12_isWord (m_X12_skips (a0_X12_commandHere M) (100 : Int32)) (4 : Int32) 4107) = 0) → ((r_X12_here (a1_X12_commandHere M)) = (32 : Int32)) → N_X12_figures (a1_X12_commandHere M) (((5 : Int32) * (M 296 18)) + (1 : Int32)) (2 : Int32)) ∧ (((r_X12_skips M (109 : Int32)) = 0) → ((r_X12_skips (m_X12_skips M (109 : Int32)) (102 : Int32)) = 0) → ((r_X12_skips (m_X12_skips (m_X12_skips M (109 : Int32)) (102 : Int32)) (115 : Int32)) = 0) → ¬ ((r_X12_skips (m_X12_skips (m_X12_skips (m_X12_skips M (109 : Int32)) (102 : Int32)) (115 : Int32)) (114 : Int32)) = 0) → N_X12_skips (a0_X12_commandHere M) (97 : Int32)) ∧ (((r_X12_skips M (109 : Int32)) = 0) → ((r_X12_skips (m_X12_skips M (109 : Int32)) (102 : Int32)) = 0) → ((r_X12_skips (m_X12_skips (m_X12_skips M (109 : Int32)) (102 : Int32)) (115 : Int32)) = 0) → ¬ ((r_X12_skips (m_X12_skips (m_X12_skips (m_X12_skips M (109 : Int32)) (102 : Int32)) (115 : Int32)) (114 : Int32)) = 0) → ((r_X12_skips (a0_X12_commandHere M) (97 : Int32)) = 0) → N_X12_isWord (m_X12_skips (a0_X12_commandHere M) (97 : Int32)) (5 : Int32) 4106) ∧ (((r_X12_skips M (109 : Int32)) = 0) → ((r_X12_skips (m_X12_skips M (109 : Int32)) (102 : Int32)) = 0) → ((r_X12_skips (m_X12_skips (m_X12_skips M (109 : Int32)) (102 : Int32)) (115 : Int32)) = 0) → ¬ ((r_X12_skips (m_X12_skips (m_X12_skips (m_X12_skips M (109 : Int32)) (102 : Int32)) (115 : Int32)) (114 : Int32)) = 0) → ((r_X12_skips (a0_X12_commandHere M) (97 : Int32)) = 0) → ¬ ((r_X12_isWord (m_X12_skips (a0_X12_commandHere M) (97 : Int32)) (5 : Int32) 4106) = 0) → N_X12_figures (m_X12_isWord (m_X12_skips (a0_X12_commandHere M) (97 : Int32)) (5 : Int32) 4106) (((5 : Int32) * (M 296 18)) + (1 : Int32)) (1 : Int32)) ∧ (((r_X12_skips M (109 : Int32)) = 0) → ((r_X12_skips (m_X12_skips M (109 : Int32)) (102 : Int32)) = 0) → ((r_X12_skips (m_X12_skips (m_X12_skips M (109 : Int32)) (102 : Int32)) (115 : Int32)) = 0) → ¬ ((r_X12_skips (m_X12_skips (m_X12_skips (m_X12_skips M (109 : Int32)) (102 : Int32)) (115 : Int32)) (114 : Int32)) = 0) → ¬ ((r_X12_skips (a0_X12_commandHere M) (97 : Int32)) = 0) → N_X12_isWord (m_X12_skips (a0_X12_commandHere M) (97 : Int32)) (0 : Int32) 4105) ∧ (((r_X12_skips M (109 : Int32)) = 0) → ((r_X12_skips (m_X12_skips M (109 : Int32)) (102 : Int32)) = 0) → ¬ ((r_X12_skips (m_X12_skips (m_X12_skips M (109 : Int32)) (102 : Int32)) (115 : Int32)) = 0) → N_X12_isWord (m_X12_skips (m_X12_skips (m_X12_skips M (109 : Int32)) (102 : Int32)) (115 : Int32)) (3 : Int32) 4104) ∧ (((r_X12_skips M (109 : Int32)) = 0) → ((r_X12_skips (m_X12_skips M (109 : Int32)) (102 : Int32)) = 0) → ¬ ((r_X12_skips (m_X12_skips (m_X12_skips M (109 : Int32)) (102 : Int32)) (115 : Int32)) = 0) → ¬ ((r_X12_isWord (m_X12_skips (m_X12_skips (m_X12_skips M (109 : Int32)) (102 : Int32)) (115 : Int32)) (3 : Int32) 4104) = 0) → N_X12_figures (a3_X12_commandHere M) (((5 : Int32) * (M 296 18)) + (1 : Int32)) (2 : Int32)) ∧ (((r_X12_skips M (109 : Int32)) = 0) → ¬ ((r_X12_skips (m_X12_skips M (109 : Int32)) (102 : Int32)) = 0) → N_X12_isWord (m_X12_skips (m_X12_skips M (109 : Int32)) (102 : Int32)) (2 : Int32) 4103) ∧ (((r_X12_skips M (109 : Int32)) = 0) → ¬ ((r_X12_skips (m_X12_skips M (109 : Int32)) (102 : Int32)) = 0) → ¬ ((r_X12_isWord (m_X12_skips (m_X12_skips M (109 : Int32)) (102 : Int32)) (2 : Int32) 4103) = 0) → N_X12_figures (m_X12_isWord (m_X12_skips (m_X12_skips M (109 : Int32)) (102 : Int32)) (2 : Int32) 4103) (((5 : Int32) * (M 296 18)) + (1 : Int32)) (1 : Int32)) ∧ (((r_X12_skips M (109 : Int32)) = 0) → ¬ ((r_X12_skips (m_X12_skips M (109 : Int32)) (102 : Int32)) = 0) → ¬ ((r_X12_isWord (m_X12_skips (m_X12_skips M (109 : Int32)) (102 : Int32)) (2 : Int32) 4103) = 0) → ¬ ((r_X12_figures (m_X12_isWord (m_X12_skips (m_X12_skips M (109 : Int32)) (102 : Int32)) (2 : Int32) 4103) (((5 : Int32) * (M 296 18)) + (1 : Int32)) (1 : Int32)) = 0) → N_X12_figures (a4_X12_commandHere M) ((((5 : Int32) * (M 296 18)) + (1 : Int32)) + (1 : Int32)) (1 : Int32)) ∧ (((r_X12_skips M (109 : Int32)) = 0) → ¬ ((r_X12_skips (m_X12_skips M (109 : Int32)) (102 : Int32)) = 0) → ¬ ((r_X12_isWord (m_X12_skips (m_X12_skips M (109 : Int32)) (102 : Int32)) (2 : Int32) 4103) = 0) → ¬ ((r_X12_figures (m_X12_isWord (m_X12_skips (m_X12_skips M (109 : Int32)) (102 : Int32)) (2 : Int32) 4103) (((5 : Int32) * (M 296 18)) + (1 : Int32)) (1 : Int32)) = 0) → ¬ ((r_X12_figures (a4_X12_commandHere M) ((((5 : Int32) * (M 296 18)) + (1 : Int32)) + (1 : Int32)) (1 : Int32)) = 0) → N_X12_figures (m_X12_figures (a4_X12_commandHere M) ((((5 : Int32) * (M 296 18)) + (1 : Int32)) + (1 : Int32)) (1 : Int32)) ((((5 : Int32) * (M 296 18)) + (1 : Int32)) + (2 : Int32)) (1 : Int32)) ∧ (((r_X12_skips M (109 : Int32)) = 0) → ¬ ((r_X12_skips (m_X12_skips M (109 : Int32)) (102 : Int32)) = 0) → ¬ ((r_X12_isWord (m_X12_skips (m_X12_skips M (109 : Int32)) (102 : Int32)) (2 : Int32) 4103) = 0) → ¬ ((r_X12_figures (m_X12_isWord (m_X12_skips (m_X12_skips M (109 : Int32)) (102 : Int32)) (2 : Int32) 4103) (((5 : Int32) * (M 296 18)) + (1 : Int32)) (1 : Int32)) = 0) → ¬ ((r_X12_figures (a4_X12_commandHere M) ((((5 : Int32) * (M 296 18)) + (1 : Int32)) + (1 : Int32)) (1 : Int32)) = 0) → ¬ ((r_X12_figures (m_X12_figures (a4_X12_commandHere M) ((((5 : Int32) * (M 296 18)) + (1 : Int32)) + (1 : Int32)) (1 : Int32)) ((((5 : Int32) * (M 296 18)) + (1 : Int32)) + (2 : Int32)) (1 : Int32)) = 0) → N_X12_figures (a5_X12_commandHere M) ((((5 : Int32) * (M 296 18)) + (1 : Int32)) + (3 : Int32)) (1 : Int32)) ∧ (¬ ((r_X12_skips M (109 : Int32)) = 0) → N_X12_isWord (m_X12_skips M (109 : Int32)) (1 : Int32) 4102) ∧ (¬ ((r_X12_skips M (109 : Int32)) = 0) → ¬ ((r_X12_isWord (m_X12_skips M (109 : Int32)) (1 : Int32) 4102) = 0) → N_X12_figures (m_X12_isWord (m_X12_skips M (109 : Int32)) (1 : Int32) 4102) (((5 : Int32) * (M 296 18)) + (1 : Int32)) (2 : Int32)) ∧ (¬ ((r_X12_skips M (109 : Int32)) = 0) → ¬ ((r_X12_isWord (m_X12_skips M (109 : Int32)) (1 : Int32) 4102) = 0) → ¬ ((r_X12_figures (m_X12_isWord (m_X12_skips M (109 : Int32)) (1 : Int32) 4102) (((5 : Int32) * (M 296 18)) + (1 : Int32)) (2 : Int32)) = 0) → N_X12_figures (a6_X12_commandHere M) ((((5 : Int32) * (M 296 18)) + (1 : Int32)) + (1 : Int32)) (2 : Int32))
set_option maxRecDepth 100000 in
set_option maxHeartbeats 4000000 in
theorem c_X12_commandHere {G : fG} (hG : fOK G) {d : Nat} (hd : 5 ≤ d) (M : fM) (dv : UInt64) (hN : N_X12_commandHere M) : fCt G z_X12_commandHere d [.ref 296] (sS M dv) 0 0 (fD (some (.int (r_X12_commandHere M))) (sS (m_X12_commandHere M) dv)) := by
  refine fCt_to [some (.ref 296), none] k_X12_commandHere rfl (Nat.le_of_ble_eq_true rfl) rfl ?_
  obtain ⟨q0, q1, q2, q3, q4, q5, q6, q7, q8, q9, q10, q11, q12, q13, q14, q15, q16, q17, q18, q19, q20, q21, q22⟩ := hN
  refine f_iconst (v := 5) dX12_commandHere_0 rfl ?_
  refine f_aload_n dX12_commandHere_1 rfl rfl ?_
  refine s_geti hG fl_X12_170 dX12_commandHere_2 rfl rfl ?_
  refine f_imul dX12_commandHere_5 ?_
  refine f_iconst (v := 1) dX12_commandHere_6 rfl ?_
  refine f_iadd dX12_commandHere_7 ?_
  refine f_istore_n (ls' := [_, _]) dX12_commandHere_8 rfl (Nat.le_of_ble_eq_true rfl) rfl rfl ?_
  refine f_aload_n dX12_commandHere_9 rfl rfl ?_
  refine f_bipush (v := 109) dX12_commandHere_10 (by decide) ?_
  refine f_cV hG (As := [_]) dX12_commandHere_12 rfl k_X12_skips rfl rfl ml_X12_181 im_X12_skips se_X12_skips rfl rfl (c_X12_skips hG (d := 1) (Nat.le_refl _) _ _ _ q0) (by omega) (Nat.le_of_ble_eq_true rfl) (Nat.zero_le _) (Nat.zero_le _) ?_
  refine f_if_eq (tgt := 54) dX12_commandHere_15 (by decide) (fun c_15 => ?_) (fun c_15 => ?_)
  · refine f_aload_n dX12_commandHere_54 rfl rfl ?_
    refine f_bipush (v := 102) dX12_commandHere_55 (by decide) ?_
    refine f_cV hG (As := [_]) dX12_commandHere_57 rfl k_X12_skips rfl rfl ml_X12_181 im_X12_skips se_X12_skips rfl rfl (c_X12_skips hG (d := 1) (Nat.le_refl _) _ _ _ (q1 c_15)) (by omega) (Nat.le_of_ble_eq_true rfl) (Nat.zero_le _) (Nat.zero_le _) ?_
    refine f_if_eq (tgt := 121) dX12_commandHere_60 (by decide) (fun c_60 => ?_) (fun c_60 => ?_)
    · refine f_aload_n dX12_commandHere_121 rfl rfl ?_
      refine f_bipush (v := 115) dX12_commandHere_122 (by decide) ?_
      refine f_cV hG (As := [_]) dX12_commandHere_124 rfl k_X12_skips rfl rfl ml_X12_181 im_X12_skips se_X12_skips rfl rfl (c_X12_skips hG (d := 1) (Nat.le_refl _) _ _ _ (q2 c_15 c_60)) (by omega) (Nat.le_of_ble_eq_true rfl) (Nat.zero_le _) (Nat.zero_le _) ?_
      refine f_if_eq (tgt := 155) dX12_commandHere_127 (by decide) (fun c_127 => ?_) (fun c_127 => ?_)
      · refine f_aload_n dX12_commandHere_155 rfl rfl ?_
        refine f_bipush (v := 114) dX12_commandHere_156 (by decide) ?_
        refine f_cV hG (As := [_]) dX12_commandHere_158 rfl k_X12_skips rfl rfl ml_X12_181 im_X12_skips se_X12_skips rfl rfl (c_X12_skips hG (d := 1) (Nat.le_refl _) _ _ _ (q3 c_15 c_60 c_127)) (by omega) (Nat.le_of_ble_eq_true rfl) (Nat.zero_le _) (Nat.zero_le _) ?_
        refine f_mem (M := (m_X12_skips (m_X12_skips (m_X12_skips (m_X12_skips M (109 : Int32)) (102 : Int32)) (115 : Int32)) (114 : Int32))) (M' := (a0_X12_commandHere M)) (by rw [a0_X12_commandHere]) ?_
        refine f_if_eq (tgt := 208) dX12_commandHere_161 (by decide) (fun c_161 => ?_) (fun c_161 => ?_)
        · refine f_aload_n dX12_commandHere_208 rfl rfl ?_
          refine f_bipush (v := 100) dX12_commandHere_209 (by decide) ?_
          refine f_cV hG (As := [_]) dX12_commandHere_211 rfl k_X12_skips rfl rfl ml_X12_181 im_X12_skips se_X12_skips rfl rfl (c_X12_skips hG (d := 1) (Nat.le_refl _) _ _ _ (q4 c_15 c_60 c_127 c_161)) (by omega) (Nat.le_of_ble_eq_true rfl) (Nat.zero_le _) (Nat.zero_le _) ?_
          refine f_if_eq (tgt := 227) dX12_commandHere_214 (by decide) (fun c_214 => ?_) (fun c_214 => ?_)
          · refine f_iconst (v := 0) dX12_commandHere_227 rfl ?_
            refine f_ireturn dX12_commandHere_228 rfl rfl ?_
            exact ⟨by rw [r_X12_commandHere, if_pos c_15, if_pos c_60, if_pos c_127, if_pos c_161, if_pos c_214], by rw [m_X12_commandHere, if_pos c_15, if_pos c_60, if_pos c_127, if_pos c_161, if_pos c_214]⟩
          · refine f_aload_n dX12_commandHere_217 rfl rfl ?_
            refine f_iconst (v := 4) dX12_commandHere_218 rfl ?_
            refine f_ldcS hG (e := 4107) ⟨_, sv_X12_202⟩ (by decide) dX12_commandHere_219 ?_
            refine f_cV hG (As := [_, _]) dX12_commandHere_221 rfl k_X12_isWord rfl rfl ml_X12_186 im_X12_isWord se_X12_isWord rfl rfl (c_X12_isWord hG (d := 4) (Nat.le_refl _) _ _ _ _ (show fStr _ from ⟨by decide, by decide⟩) (q5 c_15 c_60 c_127 c_161 c_214)) (by omega) (Nat.le_of_ble_eq_true rfl) (Nat.zero_le _) (Nat.zero_le _) ?_
            refine f_if_ne (tgt := 229) dX12_commandHere_224 (by decide) (fun c_224 => ?_) (fun c_224 => ?_)
            · refine f_aload_n dX12_commandHere_229 rfl rfl ?_
              refine s_getr hG fl_X12_42 dX12_commandHere_230 rfl rfl ?_
              refine f_iload_n dX12_commandHere_233 rfl rfl ?_
              refine f_iconst (v := 1) dX12_commandHere_234 rfl ?_
              refine s_iastore hG dX12_commandHere_235 rfl ((q6 c_15 c_60 c_127 c_161 c_214 c_224)) ?_
              refine f_mem (M := (fst1 (m_X12_isWord (m_X12_skips (a0_X12_commandHere M) (100 : Int32)) (4 : Int32) 4107) 305 ((((5 : Int32) * (M 296 18)) + (1 : Int32))).toNatClampNeg (1 : Int32))) (M' := (a1_X12_commandHere M)) (by rw [a1_X12_commandHere]) ?_
              refine f_aload_n dX12_commandHere_236 rfl rfl ?_
              refine f_cV hG (As := []) dX12_commandHere_237 rfl k_X12_here rfl rfl ml_X12_167 im_X12_here se_X12_here rfl rfl (c_X12_here hG (d := 0) (Nat.le_refl _) _ _ (q7 c_15 c_60 c_127 c_161 c_214 c_224)) (by omega) (Nat.le_of_ble_eq_true rfl) (Nat.zero_le _) (Nat.zero_le _) ?_
              refine f_bipush (v := 32) dX12_commandHere_240 (by decide) ?_
              refine f_icmp_ne (tgt := 254) dX12_commandHere_242 (by decide) (fun c_242 => ?_) (fun c_242 => ?_)
              · refine f_iconst (v := 1) dX12_commandHere_254 rfl ?_
                refine f_goto (tgt := 259) dX12_commandHere_255 (by decide) ?_
                refine f_ireturn dX12_commandHere_259 rfl rfl ?_
                exact ⟨by rw [r_X12_commandHere, if_pos c_15, if_pos c_60, if_pos c_127, if_pos c_161, if_neg c_214, if_neg c_224, if_neg c_242], by rw [m_X12_commandHere, if_pos c_15, if_pos c_60, if_pos c_127, if_pos c_161, if_neg c_214, if_neg c_224, if_neg c_242]⟩
              · refine f_aload_n dX12_commandHere_245 rfl rfl ?_
                refine f_iload_n dX12_commandHere_246 rfl rfl ?_
                refine f_iconst (v := 2) dX12_commandHere_247 rfl ?_
                refine f_cV hG (As := [_, _]) dX12_commandHere_248 rfl k_X12_figures rfl rfl ml_X12_190 im_X12_figures se_X12_figures rfl rfl (c_X12_figures hG (d := 2) (Nat.le_refl _) _ _ _ _ (q8 c_15 c_60 c_127 c_161 c_214 c_224 c_242)) (by omega) (Nat.le_of_ble_eq_true rfl) (Nat.zero_le _) (Nat.zero_le _) ?_
                refine f_if_eq (tgt := 258) dX12_commandHere_251 (by decide) (fun c_251 => ?_) (fun c_251 => ?_)
                · refine f_iconst (v := 0) dX12_commandHere_258 rfl ?_
                  refine f_ireturn dX12_commandHere_259 rfl rfl ?_
                  exact ⟨by rw [r_X12_commandHere, if_pos c_15, if_pos c_60, if_pos c_127, if_pos c_161, if_neg c_214, if_neg c_224, if_pos c_242, if_pos c_251], by rw [m_X12_commandHere, if_pos c_15, if_pos c_60, if_pos c_127, if_pos c_161, if_neg c_214, if_neg c_224, if_pos c_242, if_pos c_251]⟩
                · refine f_iconst (v := 1) dX12_commandHere_254 rfl ?_
                  refine f_goto (tgt := 259) dX12_commandHere_255 (by decide) ?_
                  refine f_ireturn dX12_commandHere_259 rfl rfl ?_
                  exact ⟨by rw [r_X12_commandHere, if_pos c_15, if_pos c_60, if_pos c_127, if_pos c_161, if_neg c_214, if_neg c_224, if_pos c_242, if_neg c_251], by rw [m_X12_commandHere, if_pos c_15, if_pos c_60, if_pos c_127, if_pos c_161, if_neg c_214, if_neg c_224, if_pos c_242, if_neg c_251]⟩
            · refine f_iconst (v := 0) dX12_commandHere_227 rfl ?_
              refine f_ireturn dX12_commandHere_228 rfl rfl ?_
              exact ⟨by rw [r_X12_commandHere, if_pos c_15, if_pos c_60, if_pos c_127, if_pos c_161, if_neg c_214, if_pos c_224], by rw [m_X12_commandHere, if_pos c_15, if_pos c_60, if_pos c_127, if_pos c_161, if_neg c_214, if_pos c_224]⟩
        · refine f_aload_n dX12_commandHere_164 rfl rfl ?_
          refine f_bipush (v := 97) dX12_commandHere_165 (by decide) ?_
          refine f_cV hG (As := [_]) dX12_commandHere_167 rfl k_X12_skips rfl rfl ml_X12_181 im_X12_skips se_X12_skips rfl rfl (c_X12_skips hG (d := 1) (Nat.le_refl _) _ _ _ (q9 c_15 c_60 c_127 c_161)) (by omega) (Nat.le_of_ble_eq_true rfl) (Nat.zero_le _) (Nat.zero_le _) ?_
          refine f_if_eq (tgt := 183) dX12_commandHere_170 (by decide) (fun c_170 => ?_) (fun c_170 => ?_)
          · refine f_aload_n dX12_commandHere_183 rfl rfl ?_
            refine f_iconst (v := 5) dX12_commandHere_184 rfl ?_
            refine f_ldcS hG (e := 4106) ⟨_, sv_X12_200⟩ (by decide) dX12_commandHere_185 ?_
            refine f_cV hG (As := [_, _]) dX12_commandHere_187 rfl k_X12_isWord rfl rfl ml_X12_186 im_X12_isWord se_X12_isWord rfl rfl (c_X12_isWord hG (d := 4) (Nat.le_refl _) _ _ _ _ (show fStr _ from ⟨by decide, by decide⟩) (q10 c_15 c_60 c_127 c_161 c_170)) (by omega) (Nat.le_of_ble_eq_true rfl) (Nat.zero_le _) (Nat.zero_le _) ?_
            refine f_if_eq (tgt := 206) dX12_commandHere_190 (by decide) (fun c_190 => ?_) (fun c_190 => ?_)
            · refine f_iconst (v := 0) dX12_commandHere_206 rfl ?_
              refine f_ireturn dX12_commandHere_207 rfl rfl ?_
              exact ⟨by rw [r_X12_commandHere, if_pos c_15, if_pos c_60, if_pos c_127, if_neg c_161, if_pos c_170, if_pos c_190], by rw [m_X12_commandHere, if_pos c_15, if_pos c_60, if_pos c_127, if_neg c_161, if_pos c_170, if_pos c_190]⟩
            · refine f_aload_n dX12_commandHere_193 rfl rfl ?_
              refine f_iload_n dX12_commandHere_194 rfl rfl ?_
              refine f_iconst (v := 1) dX12_commandHere_195 rfl ?_
              refine f_cV hG (As := [_, _]) dX12_commandHere_196 rfl k_X12_figures rfl rfl ml_X12_190 im_X12_figures se_X12_figures rfl rfl (c_X12_figures hG (d := 2) (Nat.le_refl _) _ _ _ _ (q11 c_15 c_60 c_127 c_161 c_170 c_190)) (by omega) (Nat.le_of_ble_eq_true rfl) (Nat.zero_le _) (Nat.zero_le _) ?_
              refine f_mem (M := (m_X12_figures (m_X12_isWord (m_X12_skips (a0_X12_commandHere M) (97 : Int32)) (5 : Int32) 4106) (((5 : Int32) * (M 296 18)) + (1 : Int32)) (1 : Int32))) (M' := (a2_X12_commandHere M)) (by rw [a2_X12_commandHere]) ?_
              refine f_if_eq (tgt := 206) dX12_commandHere_199 (by decide) (fun c_199 => ?_) (fun c_199 => ?_)
              · refine f_iconst (v := 0) dX12_commandHere_206 rfl ?_
                refine f_ireturn dX12_commandHere_207 rfl rfl ?_
                exact ⟨by rw [r_X12_commandHere, if_pos c_15, if_pos c_60, if_pos c_127, if_neg c_161, if_pos c_170, if_neg c_190, if_pos c_199], by rw [m_X12_commandHere, if_pos c_15, if_pos c_60, if_pos c_127, if_neg c_161, if_pos c_170, if_neg c_190, if_pos c_199]⟩
              · refine f_iconst (v := 1) dX12_commandHere_202 rfl ?_
                refine f_goto (tgt := 207) dX12_commandHere_203 (by decide) ?_
                refine f_ireturn dX12_commandHere_207 rfl rfl ?_
                exact ⟨by rw [r_X12_commandHere, if_pos c_15, if_pos c_60, if_pos c_127, if_neg c_161, if_pos c_170, if_neg c_190, if_neg c_199], by rw [m_X12_commandHere, if_pos c_15, if_pos c_60, if_pos c_127, if_neg c_161, if_pos c_170, if_neg c_190, if_neg c_199]⟩
          · refine f_aload_n dX12_commandHere_173 rfl rfl ?_
            refine f_iconst (v := 0) dX12_commandHere_174 rfl ?_
            refine f_ldcS hG (e := 4105) ⟨_, sv_X12_198⟩ (by decide) dX12_commandHere_175 ?_
            refine f_cV hG (As := [_, _]) dX12_commandHere_177 rfl k_X12_isWord rfl rfl ml_X12_186 im_X12_isWord se_X12_isWord rfl rfl (c_X12_isWord hG (d := 4) (Nat.le_refl _) _ _ _ _ (show fStr _ from ⟨by decide, by decide⟩) (q12 c_15 c_60 c_127 c_161 c_170)) (by omega) (Nat.le_of_ble_eq_true rfl) (Nat.zero_le _) (Nat.zero_le _) ?_
            refine f_goto (tgt := 207) dX12_commandHere_180 (by decide) ?_
            refine f_ireturn dX12_commandHere_207 rfl (n_X12_isWord ..) ?_
            exact ⟨by rw [r_X12_commandHere, if_pos c_15, if_pos c_60, if_pos c_127, if_neg c_161, if_neg c_170], by rw [m_X12_commandHere, if_pos c_15, if_pos c_60, if_pos c_127, if_neg c_161, if_neg c_170]⟩
      · refine f_aload_n dX12_commandHere_130 rfl rfl ?_
        refine f_iconst (v := 3) dX12_commandHere_131 rfl ?_
        refine f_ldcS hG (e := 4104) ⟨_, sv_X12_196⟩ (by decide) dX12_commandHere_132 ?_
        refine f_cV hG (As := [_, _]) dX12_commandHere_134 rfl k_X12_isWord rfl rfl ml_X12_186 im_X12_isWord se_X12_isWord rfl rfl (c_X12_isWord hG (d := 4) (Nat.le_refl _) _ _ _ _ (show fStr _ from ⟨by decide, by decide⟩) (q13 c_15 c_60 c_127)) (by omega) (Nat.le_of_ble_eq_true rfl) (Nat.zero_le _) (Nat.zero_le _) ?_
        refine f_mem (M := (m_X12_isWord (m_X12_skips (m_X12_skips (m_X12_skips M (109 : Int32)) (102 : Int32)) (115 : Int32)) (3 : Int32) 4104)) (M' := (a3_X12_commandHere M)) (by rw [a3_X12_commandHere]) ?_
        refine f_if_eq (tgt := 153) dX12_commandHere_137 (by decide) (fun c_137 => ?_) (fun c_137 => ?_)
        · refine f_iconst (v := 0) dX12_commandHere_153 rfl ?_
          refine f_ireturn dX12_commandHere_154 rfl rfl ?_
          exact ⟨by rw [r_X12_commandHere, if_pos c_15, if_pos c_60, if_neg c_127, if_pos c_137], by rw [m_X12_commandHere, if_pos c_15, if_pos c_60, if_neg c_127, if_pos c_137]⟩
        · refine f_aload_n dX12_commandHere_140 rfl rfl ?_
          refine f_iload_n dX12_commandHere_141 rfl rfl ?_
          refine f_iconst (v := 2) dX12_commandHere_142 rfl ?_
          refine f_cV hG (As := [_, _]) dX12_commandHere_143 rfl k_X12_figures rfl rfl ml_X12_190 im_X12_figures se_X12_figures rfl rfl (c_X12_figures hG (d := 2) (Nat.le_refl _) _ _ _ _ (q14 c_15 c_60 c_127 c_137)) (by omega) (Nat.le_of_ble_eq_true rfl) (Nat.zero_le _) (Nat.zero_le _) ?_
          refine f_if_eq (tgt := 153) dX12_commandHere_146 (by decide) (fun c_146 => ?_) (fun c_146 => ?_)
          · refine f_iconst (v := 0) dX12_commandHere_153 rfl ?_
            refine f_ireturn dX12_commandHere_154 rfl rfl ?_
            exact ⟨by rw [r_X12_commandHere, if_pos c_15, if_pos c_60, if_neg c_127, if_neg c_137, if_pos c_146], by rw [m_X12_commandHere, if_pos c_15, if_pos c_60, if_neg c_127, if_neg c_137, if_pos c_146]⟩
          · refine f_iconst (v := 1) dX12_commandHere_149 rfl ?_
            refine f_goto (tgt := 154) dX12_commandHere_150 (by decide) ?_
            refine f_ireturn dX12_commandHere_154 rfl rfl ?_
            exact ⟨by rw [r_X12_commandHere, if_pos c_15, if_pos c_60, if_neg c_127, if_neg c_137, if_neg c_146], by rw [m_X12_commandHere, if_pos c_15, if_pos c_60, if_neg c_127, if_neg c_137, if_neg c_146]⟩
    · refine f_aload_n dX12_commandHere_63 rfl rfl ?_
      refine f_iconst (v := 2) dX12_commandHere_64 rfl ?_
      refine f_ldcS hG (e := 4103) ⟨_, sv_X12_194⟩ (by decide) dX12_commandHere_65 ?_
      refine f_cV hG (As := [_, _]) dX12_commandHere_67 rfl k_X12_isWord rfl rfl ml_X12_186 im_X12_isWord se_X12_isWord rfl rfl (c_X12_isWord hG (d := 4) (Nat.le_refl _) _ _ _ _ (show fStr _ from ⟨by decide, by decide⟩) (q15 c_15 c_60)) (by omega) (Nat.le_of_ble_eq_true rfl) (Nat.zero_le _) (Nat.zero_le _) ?_
      refine f_if_eq (tgt := 119) dX12_commandHere_70 (by decide) (fun c_70 => ?_) (fun c_70 => ?_)
      · refine f_iconst (v := 0) dX12_commandHere_119 rfl ?_
        refine f_ireturn dX12_commandHere_120 rfl rfl ?_
        exact ⟨by rw [r_X12_commandHere, if_pos c_15, if_neg c_60, if_pos c_70], by rw [m_X12_commandHere, if_pos c_15, if_neg c_60, if_pos c_70]⟩
      · refine f_aload_n dX12_commandHere_73 rfl rfl ?_
        refine f_iload_n dX12_commandHere_74 rfl rfl ?_
        refine f_iconst (v := 1) dX12_commandHere_75 rfl ?_
        refine f_cV hG (As := [_, _]) dX12_commandHere_76 rfl k_X12_figures rfl rfl ml_X12_190 im_X12_figures se_X12_figures rfl rfl (c_X12_figures hG (d := 2) (Nat.le_refl _) _ _ _ _ (q16 c_15 c_60 c_70)) (by omega) (Nat.le_of_ble_eq_true rfl) (Nat.zero_le _) (Nat.zero_le _) ?_
        refine f_mem (M := (m_X12_figures (m_X12_isWord (m_X12_skips (m_X12_skips M (109 : Int32)) (102 : Int32)) (2 : Int32) 4103) (((5 : Int32) * (M 296 18)) + (1 : Int32)) (1 : Int32))) (M' := (a4_X12_commandHere M)) (by rw [a4_X12_commandHere]) ?_
        refine f_if_eq (tgt := 119) dX12_commandHere_79 (by decide) (fun c_79 => ?_) (fun c_79 => ?_)
        · refine f_iconst (v := 0) dX12_commandHere_119 rfl ?_
          refine f_ireturn dX12_commandHere_120 rfl rfl ?_
          exact ⟨by rw [r_X12_commandHere, if_pos c_15, if_neg c_60, if_neg c_70, if_pos c_79], by rw [m_X12_commandHere, if_pos c_15, if_neg c_60, if_neg c_70, if_pos c_79]⟩
        · refine f_aload_n dX12_commandHere_82 rfl rfl ?_
          refine f_iload_n dX12_commandHere_83 rfl rfl ?_
          refine f_iconst (v := 1) dX12_commandHere_84 rfl ?_
          refine f_iadd dX12_commandHere_85 ?_
          refine f_iconst (v := 1) dX12_commandHere_86 rfl ?_
          refine f_cV hG (As := [_, _]) dX12_commandHere_87 rfl k_X12_figures rfl rfl ml_X12_190 im_X12_figures se_X12_figures rfl rfl (c_X12_figures hG (d := 2) (Nat.le_refl _) _ _ _ _ (q17 c_15 c_60 c_70 c_79)) (by omega) (Nat.le_of_ble_eq_true rfl) (Nat.zero_le _) (Nat.zero_le _) ?_
          refine f_if_eq (tgt := 119) dX12_commandHere_90 (by decide) (fun c_90 => ?_) (fun c_90 => ?_)
          · refine f_iconst (v := 0) dX12_commandHere_119 rfl ?_
            refine f_ireturn dX12_commandHere_120 rfl rfl ?_
            exact ⟨by rw [r_X12_commandHere, if_pos c_15, if_neg c_60, if_neg c_70, if_neg c_79, if_pos c_90], by rw [m_X12_commandHere, if_pos c_15, if_neg c_60, if_neg c_70, if_neg c_79, if_pos c_90]⟩
          · refine f_aload_n dX12_commandHere_93 rfl rfl ?_
            refine f_iload_n dX12_commandHere_94 rfl rfl ?_
            refine f_iconst (v := 2) dX12_commandHere_95 rfl ?_
            refine f_iadd dX12_commandHere_96 ?_
            refine f_iconst (v := 1) dX12_commandHere_97 rfl ?_
            refine f_cV hG (As := [_, _]) dX12_commandHere_98 rfl k_X12_figures rfl rfl ml_X12_190 im_X12_figures se_X12_figures rfl rfl (c_X12_figures hG (d := 2) (Nat.le_refl _) _ _ _ _ (q18 c_15 c_60 c_70 c_79 c_90)) (by omega) (Nat.le_of_ble_eq_true rfl) (Nat.zero_le _) (Nat.zero_le _) ?_
            refine f_mem (M := (m_X12_figures (m_X12_figures (a4_X12_commandHere M) ((((5 : Int32) * (M 296 18)) + (1 : Int32)) + (1 : Int32)) (1 : Int32)) ((((5 : Int32) * (M 296 18)) + (1 : Int32)) + (2 : Int32)) (1 : Int32))) (M' := (a5_X12_commandHere M)) (by rw [a5_X12_commandHere]) ?_
            refine f_if_eq (tgt := 119) dX12_commandHere_101 (by decide) (fun c_101 => ?_) (fun c_101 => ?_)
            · refine f_iconst (v := 0) dX12_commandHere_119 rfl ?_
              refine f_ireturn dX12_commandHere_120 rfl rfl ?_
              exact ⟨by rw [r_X12_commandHere, if_pos c_15, if_neg c_60, if_neg c_70, if_neg c_79, if_neg c_90, if_pos c_101], by rw [m_X12_commandHere, if_pos c_15, if_neg c_60, if_neg c_70, if_neg c_79, if_neg c_90, if_pos c_101]⟩
            · refine f_aload_n dX12_commandHere_104 rfl rfl ?_
              refine f_iload_n dX12_commandHere_105 rfl rfl ?_
              refine f_iconst (v := 3) dX12_commandHere_106 rfl ?_
              refine f_iadd dX12_commandHere_107 ?_
              refine f_iconst (v := 1) dX12_commandHere_108 rfl ?_
              refine f_cV hG (As := [_, _]) dX12_commandHere_109 rfl k_X12_figures rfl rfl ml_X12_190 im_X12_figures se_X12_figures rfl rfl (c_X12_figures hG (d := 2) (Nat.le_refl _) _ _ _ _ (q19 c_15 c_60 c_70 c_79 c_90 c_101)) (by omega) (Nat.le_of_ble_eq_true rfl) (Nat.zero_le _) (Nat.zero_le _) ?_
              refine f_if_eq (tgt := 119) dX12_commandHere_112 (by decide) (fun c_112 => ?_) (fun c_112 => ?_)
              · refine f_iconst (v := 0) dX12_commandHere_119 rfl ?_
                refine f_ireturn dX12_commandHere_120 rfl rfl ?_
                exact ⟨by rw [r_X12_commandHere, if_pos c_15, if_neg c_60, if_neg c_70, if_neg c_79, if_neg c_90, if_neg c_101, if_pos c_112], by rw [m_X12_commandHere, if_pos c_15, if_neg c_60, if_neg c_70, if_neg c_79, if_neg c_90, if_neg c_101, if_pos c_112]⟩
              · refine f_iconst (v := 1) dX12_commandHere_115 rfl ?_
                refine f_goto (tgt := 120) dX12_commandHere_116 (by decide) ?_
                refine f_ireturn dX12_commandHere_120 rfl rfl ?_
                exact ⟨by rw [r_X12_commandHere, if_pos c_15, if_neg c_60, if_neg c_70, if_neg c_79, if_neg c_90, if_neg c_101, if_neg c_112], by rw [m_X12_commandHere, if_pos c_15, if_neg c_60, if_neg c_70, if_neg c_79, if_neg c_90, if_neg c_101, if_neg c_112]⟩
  · refine f_aload_n dX12_commandHere_18 rfl rfl ?_
    refine f_iconst (v := 1) dX12_commandHere_19 rfl ?_
    refine f_ldcS hG (e := 4102) ⟨_, sv_X12_184⟩ (by decide) dX12_commandHere_20 ?_
    refine f_cV hG (As := [_, _]) dX12_commandHere_22 rfl k_X12_isWord rfl rfl ml_X12_186 im_X12_isWord se_X12_isWord rfl rfl (c_X12_isWord hG (d := 4) (Nat.le_refl _) _ _ _ _ (show fStr _ from ⟨by decide, by decide⟩) (q20 c_15)) (by omega) (Nat.le_of_ble_eq_true rfl) (Nat.zero_le _) (Nat.zero_le _) ?_
    refine f_if_eq (tgt := 52) dX12_commandHere_25 (by decide) (fun c_25 => ?_) (fun c_25 => ?_)
    · refine f_iconst (v := 0) dX12_commandHere_52 rfl ?_
      refine f_ireturn dX12_commandHere_53 rfl rfl ?_
      exact ⟨by rw [r_X12_commandHere, if_neg c_15, if_pos c_25], by rw [m_X12_commandHere, if_neg c_15, if_pos c_25]⟩
    · refine f_aload_n dX12_commandHere_28 rfl rfl ?_
      refine f_iload_n dX12_commandHere_29 rfl rfl ?_
      refine f_iconst (v := 2) dX12_commandHere_30 rfl ?_
      refine f_cV hG (As := [_, _]) dX12_commandHere_31 rfl k_X12_figures rfl rfl ml_X12_190 im_X12_figures se_X12_figures rfl rfl (c_X12_figures hG (d := 2) (Nat.le_refl _) _ _ _ _ (q21 c_15 c_25)) (by omega) (Nat.le_of_ble_eq_true rfl) (Nat.zero_le _) (Nat.zero_le _) ?_
      refine f_mem (M := (m_X12_figures (m_X12_isWord (m_X12_skips M (109 : Int32)) (1 : Int32) 4102) (((5 : Int32) * (M 296 18)) + (1 : Int32)) (2 : Int32))) (M' := (a6_X12_commandHere M)) (by rw [a6_X12_commandHere]) ?_
      refine f_if_eq (tgt := 52) dX12_commandHere_34 (by decide) (fun c_34 => ?_) (fun c_34 => ?_)
      · refine f_iconst (v := 0) dX12_commandHere_52 rfl ?_
        refine f_ireturn dX12_commandHere_53 rfl rfl ?_
        exact ⟨by rw [r_X12_commandHere, if_neg c_15, if_neg c_25, if_pos c_34], by rw [m_X12_commandHere, if_neg c_15, if_neg c_25, if_pos c_34]⟩
      · refine f_aload_n dX12_commandHere_37 rfl rfl ?_
        refine f_iload_n dX12_commandHere_38 rfl rfl ?_
        refine f_iconst (v := 1) dX12_commandHere_39 rfl ?_
        refine f_iadd dX12_commandHere_40 ?_
        refine f_iconst (v := 2) dX12_commandHere_41 rfl ?_
        refine f_cV hG (As := [_, _]) dX12_commandHere_42 rfl k_X12_figures rfl rfl ml_X12_190 im_X12_figures se_X12_figures rfl rfl (c_X12_figures hG (d := 2) (Nat.le_refl _) _ _ _ _ (q22 c_15 c_25 c_34)) (by omega) (Nat.le_of_ble_eq_true rfl) (Nat.zero_le _) (Nat.zero_le _) ?_
        refine f_if_eq (tgt := 52) dX12_commandHere_45 (by decide) (fun c_45 => ?_) (fun c_45 => ?_)
        · refine f_iconst (v := 0) dX12_commandHere_52 rfl ?_
          refine f_ireturn dX12_commandHere_53 rfl rfl ?_
          exact ⟨by rw [r_X12_commandHere, if_neg c_15, if_neg c_25, if_neg c_34, if_pos c_45], by rw [m_X12_commandHere, if_neg c_15, if_neg c_25, if_neg c_34, if_pos c_45]⟩
        · refine f_iconst (v := 1) dX12_commandHere_48 rfl ?_
          refine f_goto (tgt := 53) dX12_commandHere_49 (by decide) ?_
          refine f_ireturn dX12_commandHere_53 rfl rfl ?_
          exact ⟨by rw [r_X12_commandHere, if_neg c_15, if_neg c_25, if_neg c_34, if_neg c_45], by rw [m_X12_commandHere, if_neg c_15, if_neg c_25, if_neg c_34, if_neg c_45]⟩

def l_X12_isText : fM → Nat → Nat → Int32 × fM
  | M, 0, _ => (0, M)
  | M, m + 1, j => (if (r_X12_commandHere M) = 0 then ((0 : Int32), (m_X12_commandHere M)) else (if (r_X12_skips (fst1 (m_X12_commandHere M) 296 18 (((m_X12_commandHere M) 296 18) + (1 : Int32))) (59 : Int32)) = 0 then (if ((m_X12_skips (fst1 (m_X12_commandHere M) 296 18 (((m_X12_commandHere M) 296 18) + (1 : Int32))) (59 : Int32)) 296 16) = ((m_X12_skips (fst1 (m_X12_commandHere M) 296 18 (((m_X12_commandHere M) 296 18) + (1 : Int32))) (59 : Int32)) 296 9) then ((1 : Int32), (m_X12_skips (fst1 (m_X12_commandHere M) 296 18 (((m_X12_commandHere M) 296 18) + (1 : Int32))) (59 : Int32))) else ((0 : Int32), (m_X12_skips (fst1 (m_X12_commandHere M) 296 18 (((m_X12_commandHere M) 296 18) + (1 : Int32))) (59 : Int32)))) else (l_X12_isText (m_X12_skips (fst1 (m_X12_commandHere M) 296 18 (((m_X12_commandHere M) 296 18) + (1 : Int32))) (59 : Int32)) m (j + 1))))
set_option maxRecDepth 100000 in
set_option maxHeartbeats 4000000 in
theorem lp_X12_isText {G : fG} (hG : fOK G) {d : Nat} (hd : 6 ≤ d) (dv : UInt64) (Pv : Nat → fM → Prop) (q0 : ∀ (j : Nat) (W_302 : fM), j ≤ 31 → Pv j W_302 → j < 31) (q1 : ∀ (j : Nat) (W_302 : fM), j ≤ 31 → Pv j W_302 → N_X12_commandHere W_302) (q2 : ∀ (j : Nat) (W_302 : fM), j ≤ 31 → Pv j W_302 → ¬ ((r_X12_commandHere W_302) = 0) → N_X12_skips (fst1 (m_X12_commandHere W_302) 296 18 (((m_X12_commandHere W_302) 296 18) + (1 : Int32))) (59 : Int32)) (q3 : ∀ (j : Nat) (W_302 : fM), j ≤ 31 → Pv j W_302 → ¬ ((r_X12_commandHere W_302) = 0) → ¬ ((r_X12_skips (fst1 (m_X12_commandHere W_302) 296 18 (((m_X12_commandHere W_302) 296 18) + (1 : Int32))) (59 : Int32)) = 0) → Pv (j + 1) (m_X12_skips (fst1 (m_X12_commandHere W_302) 296 18 (((m_X12_commandHere W_302) 296 18) + (1 : Int32))) (59 : Int32))) : ∀ (m j : Nat) (M : fM), j ≤ 31 → 31 + 1 ≤ j + m → Pv j M → fV G z_X12_isText d (fD (some (.int (l_X12_isText M m j).1)) (sS (l_X12_isText M m j).2 dv)) 10 [some (.ref 296)] [] (sS M dv) 0 0 := by
  intro m
  induction m with
  | zero => intros; omega
  | succ m ih =>
    intro j M hj hm hI
    have hlt : j < 31 := (q0 j M hj hI)
    refine f_aload_n dX12_isText_10 rfl rfl ?_
    refine f_cV hG (As := []) dX12_isText_11 rfl k_X12_commandHere rfl rfl ml_X12_204 im_X12_commandHere se_X12_commandHere rfl rfl (c_X12_commandHere hG (d := 5) (Nat.le_refl _) _ _ (q1 j M hj hI)) (by omega) (Nat.le_of_ble_eq_true rfl) (Nat.zero_le _) (Nat.zero_le _) ?_
    refine f_if_ne (tgt := 19) dX12_isText_14 (by decide) (fun c_14 => ?_) (fun c_14 => ?_)
    · refine f_aload_n dX12_isText_19 rfl rfl ?_
      refine f_dup dX12_isText_20 rfl ?_
      refine s_geti hG fl_X12_170 dX12_isText_21 rfl rfl ?_
      refine f_iconst (v := 1) dX12_isText_24 rfl ?_
      refine f_iadd dX12_isText_25 ?_
      refine s_puti hG fl_X12_170 (Or.inl rfl) dX12_isText_26 rfl rfl rfl rfl ?_
      refine f_aload_n dX12_isText_29 rfl rfl ?_
      refine f_bipush (v := 59) dX12_isText_30 (by decide) ?_
      refine f_cV hG (As := [_]) dX12_isText_32 rfl k_X12_skips rfl rfl ml_X12_181 im_X12_skips se_X12_skips rfl rfl (c_X12_skips hG (d := 1) (Nat.le_refl _) _ _ _ (q2 j M hj hI c_14)) (by omega) (Nat.le_of_ble_eq_true rfl) (Nat.zero_le _) (Nat.zero_le _) ?_
      refine f_if_ne (tgt := 10) dX12_isText_35 (by decide) (fun c_35 => ?_) (fun c_35 => ?_)
      · have e9 : l_X12_isText M (m + 1) j = l_X12_isText (m_X12_skips (fst1 (m_X12_commandHere M) 296 18 (((m_X12_commandHere M) 296 18) + (1 : Int32))) (59 : Int32)) m (j + 1) := by rw [l_X12_isText, if_neg c_14, if_neg c_35]
        rw [e9]
        exact ih (j + 1) (m_X12_skips (fst1 (m_X12_commandHere M) 296 18 (((m_X12_commandHere M) 296 18) + (1 : Int32))) (59 : Int32)) (by omega) (by omega) (q3 j M hj hI c_14 c_35)
      · refine f_aload_n dX12_isText_38 rfl rfl ?_
        refine s_geti hG fl_X12_164 dX12_isText_39 rfl rfl ?_
        refine f_aload_n dX12_isText_42 rfl rfl ?_
        refine s_geti hG fl_X12_81 dX12_isText_43 rfl rfl ?_
        refine f_icmp_ne (tgt := 53) dX12_isText_46 (by decide) (fun c_46 => ?_) (fun c_46 => ?_)
        · refine f_iconst (v := 0) dX12_isText_53 rfl ?_
          refine f_ireturn dX12_isText_54 rfl rfl ?_
          exact ⟨by rw [l_X12_isText, if_neg c_14, if_pos c_35, if_neg c_46], by rw [l_X12_isText, if_neg c_14, if_pos c_35, if_neg c_46]⟩
        · refine f_iconst (v := 1) dX12_isText_49 rfl ?_
          refine f_goto (tgt := 54) dX12_isText_50 (by decide) ?_
          refine f_ireturn dX12_isText_54 rfl rfl ?_
          exact ⟨by rw [l_X12_isText, if_neg c_14, if_pos c_35, if_pos c_46], by rw [l_X12_isText, if_neg c_14, if_pos c_35, if_pos c_46]⟩
    · refine f_iconst (v := 0) dX12_isText_17 rfl ?_
      refine f_ireturn dX12_isText_18 rfl rfl ?_
      exact ⟨by rw [l_X12_isText, if_pos c_14], by rw [l_X12_isText, if_pos c_14]⟩
def r_X12_isText (M : fM) : Int32 := (l_X12_isText (fst1 (fst1 M 296 16 (0 : Int32)) 296 18 (0 : Int32)) 32 0).1
def m_X12_isText (M : fM) : fM := (l_X12_isText (fst1 (fst1 M 296 16 (0 : Int32)) 296 18 (0 : Int32)) 32 0).2
theorem n_l_X12_isText : ∀ (m j : Nat) (M : fM), narrow .boolean (.int (l_X12_isText M m j).1) = .int (l_X12_isText M m j).1 := by
  intro m
  induction m with
  | zero => intros; unfold l_X12_isText; first | rfl | (dsimp only; rfl)
  | succ m ih =>
    intro j M
    unfold l_X12_isText
    repeat' split
    all_goals (try dsimp only)
    all_goals first | rfl | exact pk_nc _ | exact ih _ _ ..
theorem n_X12_isText (M : fM) : narrow .boolean (.int (r_X12_isText M)) = .int (r_X12_isText M) := by
  unfold r_X12_isText
  exact n_l_X12_isText ..
def N_X12_isText (M : fM) : Prop := (∃ Pv : Nat → fM → Prop, Pv 0 (fst1 (fst1 M 296 16 (0 : Int32)) 296 18 (0 : Int32)) ∧ (∀ (j : Nat) (W_302 : fM), j ≤ 31 → Pv j W_302 → j < 31) ∧ (∀ (j : Nat) (W_302 : fM), j ≤ 31 → Pv j W_302 → N_X12_commandHere W_302) ∧ (∀ (j : Nat) (W_302 : fM), j ≤ 31 → Pv j W_302 → ¬ ((r_X12_commandHere W_302) = 0) → N_X12_skips (fst1 (m_X12_commandHere W_302) 296 18 (((m_X12_commandHere W_302) 296 18) + (1 : Int32))) (59 : Int32)) ∧ (∀ (j : Nat) (W_302 : fM), j ≤ 31 → Pv j W_302 → ¬ ((r_X12_commandHere W_302) = 0) → ¬ ((r_X12_skips (fst1 (m_X12_commandHere W_302) 296 18 (((m_X12_commandHere W_302) 296 18) + (1 : Int32))) (59 : Int32)) = 0) → Pv (j + 1) (m_X12_skips (fst1 (m_X12_commandHere W_302) 296 18 (((m_X12_commandHere W_302) 296 18) + (1 : Int32))) (59 : Int32))))
set_option maxRecDepth 100000 in
set_option maxHeartbeats 4000000 in
theorem c_X12_isText {G : fG} (hG : fOK G) {d : Nat} (hd : 6 ≤ d) (M : fM) (dv : UInt64) (hN : N_X12_isText M) : fCt G z_X12_isText d [.ref 296] (sS M dv) 0 0 (fD (some (.int (r_X12_isText M))) (sS (m_X12_isText M) dv)) := by
  refine fCt_to [some (.ref 296)] k_X12_isText rfl (Nat.le_of_ble_eq_true rfl) rfl ?_
  have hinv : ∃ Pv : Nat → fM → Prop, Pv 0 (fst1 (fst1 M 296 16 (0 : Int32)) 296 18 (0 : Int32)) ∧ (∀ (j : Nat) (W_302 : fM), j ≤ 31 → Pv j W_302 → j < 31) ∧ (∀ (j : Nat) (W_302 : fM), j ≤ 31 → Pv j W_302 → N_X12_commandHere W_302) ∧ (∀ (j : Nat) (W_302 : fM), j ≤ 31 → Pv j W_302 → ¬ ((r_X12_commandHere W_302) = 0) → N_X12_skips (fst1 (m_X12_commandHere W_302) 296 18 (((m_X12_commandHere W_302) 296 18) + (1 : Int32))) (59 : Int32)) ∧ (∀ (j : Nat) (W_302 : fM), j ≤ 31 → Pv j W_302 → ¬ ((r_X12_commandHere W_302) = 0) → ¬ ((r_X12_skips (fst1 (m_X12_commandHere W_302) 296 18 (((m_X12_commandHere W_302) 296 18) + (1 : Int32))) (59 : Int32)) = 0) → Pv (j + 1) (m_X12_skips (fst1 (m_X12_commandHere W_302) 296 18 (((m_X12_commandHere W_302) 296 18) + (1 : Int32))) (59 : Int32))) := hN
  obtain ⟨Pv, hI0, q0, q1, q2, q3⟩ := hinv
  refine f_aload_n dX12_isText_0 rfl rfl ?_
  refine f_iconst (v := 0) dX12_isText_1 rfl ?_
  refine s_puti hG fl_X12_164 (Or.inl rfl) dX12_isText_2 rfl rfl rfl rfl ?_
  refine f_aload_n dX12_isText_5 rfl rfl ?_
  refine f_iconst (v := 0) dX12_isText_6 rfl ?_
  refine s_puti hG fl_X12_170 (Or.inl rfl) dX12_isText_7 rfl rfl rfl rfl ?_
  exact lp_X12_isText hG hd dv Pv q0 q1 q2 q3 32 0 _ (by omega) (by omega) hI0
