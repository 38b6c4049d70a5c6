/-! ===== JarCanneryModel ===== -/
abbrev rArr (k n : Nat) : Prop := L1[k]? = some (.inr (0, n, []))
theorem f_dconst {G : fG} {z : fMi} {d pc : Nat} {Q : fR → fS → Prop} {ls : List (Option Value)} {st : List Value} {S : fS} {kc ks : Nat} (hd : decode z.2.1 pc = .ok (.dconst 0, 1)) (kk : fV G z d Q (pc + 1) ls (.double FP.dconst0 :: st) S kc ks) : fV G z d Q pc ls st S kc ks := by
  intro p e s m args below meth c R Z H locs cells slots lsr hC hE h1 h2 h3 h4 hW hS hl
  exact lv_dconst0 hC.1 hC.2.1 hd (kk p e s m args below meth c R Z H locs cells slots lsr hC hE h1 h2 h3 h4 hW hS hl)
theorem f_fconst {G : fG} {z : fMi} {d pc : Nat} {Q : fR → fS → Prop} {ls : List (Option Value)} {st : List Value} {S : fS} {kc ks : Nat} (hd : decode z.2.1 pc = .ok (.fconst 0, 1)) (kk : fV G z d Q (pc + 1) ls (.float FP.fconst0 :: st) S kc ks) : fV G z d Q pc ls st S kc ks := by
  intro p e s m args below meth c R Z H locs cells slots lsr hC hE h1 h2 h3 h4 hW hS hl
  exact lv_fconst0 hC.1 hC.2.1 hd (kk p e s m args below meth c R Z H locs cells slots lsr hC hE h1 h2 h3 h4 hW hS hl)
theorem f_mem {G : fG} {z : fMi} {d pc : Nat} {Q : fR → fS → Prop} {ls : List (Option Value)} {st : List Value} {M M' : fM} {dv : UInt64} {kc ks : Nat} (h : M = M') (kk : fV G z d Q pc ls st (sS M' dv) kc ks) : fV G z d Q pc ls st (sS M dv) kc ks := by
  subst h; exact kk
def r_X12_thrown (M : fM) : Int32 := (M 296 7)
set_option maxRecDepth 100000 in
set_option maxHeartbeats 4000000 in
theorem c_X12_thrown {G : fG} (hG : fOK G) {d : Nat} (hd : 0 ≤ d) (M : fM) (dv : UInt64) : fCt G z_X12_thrown d [.ref 296] (sS M dv) 0 0 (fD (some (.int (r_X12_thrown M))) (sS M dv)) := by
  refine fCt_to [some (.ref 296)] k_X12_thrown rfl (Nat.le_of_ble_eq_true rfl) rfl ?_
  refine f_aload_n dX12_thrown_0 rfl rfl ?_
  refine s_geti hG fl_X12_45 dX12_thrown_1 rfl rfl ?_
  refine f_ireturn dX12_thrown_4 rfl rfl ?_
  exact ⟨by rw [r_X12_thrown], rfl⟩

def r_X12_fails (M : fM) (a : Int32) : Int32 := (if a ≤ 0 then (0 : Int32) else (1 : Int32))
abbrev m_X12_fails (M : fM) (a : Int32) : fM := fst1 M 296 7 a
theorem n_X12_fails (M : fM) (a : Int32) : narrow .boolean (.int (r_X12_fails M a)) = .int (r_X12_fails M a) := by
  unfold r_X12_fails
  refine n_ite ?_ ?_
  all_goals rfl
set_option maxRecDepth 100000 in
set_option maxHeartbeats 4000000 in
theorem c_X12_fails {G : fG} (hG : fOK G) {d : Nat} (hd : 0 ≤ d) (M : fM) (dv : UInt64) (a : Int32) : fCt G z_X12_fails d [.ref 296, .int a] (sS M dv) 0 0 (fD (some (.int (r_X12_fails M a))) (sS (m_X12_fails M a) dv)) := by
  refine fCt_to [some (.ref 296), some (.int a)] k_X12_fails rfl (Nat.le_of_ble_eq_true rfl) rfl ?_
  refine f_aload_n dX12_fails_0 rfl rfl ?_
  refine f_iload_n dX12_fails_1 rfl rfl ?_
  refine s_puti hG fl_X12_45 (Or.inl rfl) dX12_fails_2 rfl rfl rfl rfl ?_
  refine f_iload_n dX12_fails_5 rfl rfl ?_
  refine f_if_le (tgt := 13) dX12_fails_6 (by decide) (fun c_6 => ?_) (fun c_6 => ?_)
  · refine f_iconst (v := 0) dX12_fails_13 rfl ?_
    refine f_ireturn dX12_fails_14 rfl rfl ?_
    exact ⟨by rw [r_X12_fails, if_pos c_6], rfl⟩
  · refine f_iconst (v := 1) dX12_fails_9 rfl ?_
    refine f_goto (tgt := 14) dX12_fails_10 (by decide) ?_
    refine f_ireturn dX12_fails_14 rfl rfl ?_
    exact ⟨by rw [r_X12_fails, if_neg c_6], rfl⟩
theorem c_X12_failsT {G : fG} (hG : fOK G) {d : Nat} (hd : 0 ≤ d) (M : fM) (dv : UInt64) (a : Int32) (h : ¬ a ≤ 0) : fCt G z_X12_fails d [.ref 296, .int a] (sS M dv) 0 0 (fD (some (.int 1)) (sS (m_X12_fails M a) dv)) := by
  have e := c_X12_fails hG hd M dv a
  rw [r_X12_fails, if_neg h] at e
  exact e
theorem c_X12_failsF {G : fG} (hG : fOK G) {d : Nat} (hd : 0 ≤ d) (M : fM) (dv : UInt64) (a : Int32) (h : a ≤ 0) : fCt G z_X12_fails d [.ref 296, .int a] (sS M dv) 0 0 (fD (some (.int 0)) (sS (m_X12_fails M a) dv)) := by
  have e := c_X12_fails hG hd M dv a
  rw [r_X12_fails, if_pos h] at e
  exact e

def r_X12_in (M : fM) (a : Int32) (b : Int32) (c : Int32) : Int32 := (if a < b then (0 : Int32) else (if c < a then (0 : Int32) else (1 : Int32)))
theorem n_X12_in (M : fM) (a : Int32) (b : Int32) (c : Int32) : narrow .boolean (.int (r_X12_in M a b c)) = .int (r_X12_in M a b c) := by
  unfold r_X12_in
  repeat' with_reducible apply n_ite
  all_goals first | rfl | exact pk_nc _
set_option maxRecDepth 100000 in
set_option maxHeartbeats 4000000 in
theorem c_X12_in {G : fG} (hG : fOK G) {d : Nat} (hd : 0 ≤ d) (M : fM) (dv : UInt64) (a : Int32) (b : Int32) (c : Int32) : fCt G z_X12_in d [.int a, .int b, .int c] (sS M dv) 0 0 (fD (some (.int (r_X12_in M a b c))) (sS M dv)) := by
  refine fCt_to [some (.int a), some (.int b), some (.int c)] k_X12_in rfl (Nat.le_of_ble_eq_true rfl) rfl ?_
  refine f_iload_n dX12_in_0 rfl rfl ?_
  refine f_iload_n dX12_in_1 rfl rfl ?_
  refine f_icmp_lt (tgt := 14) dX12_in_2 (by decide) (fun c_2 => ?_) (fun c_2 => ?_)
  · refine f_iconst (v := 0) dX12_in_14 rfl ?_
    refine f_ireturn dX12_in_15 rfl rfl ?_
    exact ⟨by rw [r_X12_in, if_pos c_2], rfl⟩
  · refine f_iload_n dX12_in_5 rfl rfl ?_
    refine f_iload_n dX12_in_6 rfl rfl ?_
    refine f_icmp_gt (tgt := 14) dX12_in_7 (by decide) (fun c_7 => ?_) (fun c_7 => ?_)
    · refine f_iconst (v := 0) dX12_in_14 rfl ?_
      refine f_ireturn dX12_in_15 rfl rfl ?_
      exact ⟨by rw [r_X12_in, if_neg c_2, if_pos c_7], rfl⟩
    · refine f_iconst (v := 1) dX12_in_10 rfl ?_
      refine f_goto (tgt := 15) dX12_in_11 (by decide) ?_
      refine f_ireturn dX12_in_15 rfl rfl ?_
      exact ⟨by rw [r_X12_in, if_neg c_2, if_neg c_7], rfl⟩

def r_X12_least (M : fM) (a : Int32) (b : Int32) : Int32 := (if b ≤ a then b else a)
set_option maxRecDepth 100000 in
set_option maxHeartbeats 4000000 in
theorem c_X12_least {G : fG} (hG : fOK G) {d : Nat} (hd : 0 ≤ d) (M : fM) (dv : UInt64) (a : Int32) (b : Int32) : fCt G z_X12_least d [.int a, .int b] (sS M dv) 0 0 (fD (some (.int (r_X12_least M a b))) (sS M dv)) := by
  refine fCt_to [some (.int a), some (.int b)] k_X12_least rfl (Nat.le_of_ble_eq_true rfl) rfl ?_
  refine f_iload_n dX12_least_0 rfl rfl ?_
  refine f_iload_n dX12_least_1 rfl rfl ?_
  refine f_icmp_ge (tgt := 9) dX12_least_2 (by decide) (fun c_2 => ?_) (fun c_2 => ?_)
  · refine f_iload_n dX12_least_9 rfl rfl ?_
    refine f_ireturn dX12_least_10 rfl rfl ?_
    exact ⟨by rw [r_X12_least, if_pos c_2], rfl⟩
  · refine f_iload_n dX12_least_5 rfl rfl ?_
    refine f_goto (tgt := 10) dX12_least_6 (by decide) ?_
    refine f_ireturn dX12_least_10 rfl rfl ?_
    exact ⟨by rw [r_X12_least, if_neg c_2], rfl⟩

def l_X12_copies (p : Nat) (n : Nat) (a : Int32) (q : Nat) (z : Nat) (b : Int32) : fM → Nat → Nat → fM
  | M, 0, _ => M
  | M, m + 1, j => (if (127 : Int32) ≤ (nI j) then M else (l_X12_copies p n a q z b (fst1 M q ((b + (nI j))).toNatClampNeg (M p ((a + (nI j))).toNatClampNeg)) m (j + 1)))
set_option maxRecDepth 100000 in
set_option maxHeartbeats 4000000 in
theorem lp_X12_copies {G : fG} (hG : fOK G) {d : Nat} (hd : 0 ≤ d) (dv : UInt64) (p : Nat) (n : Nat) (a : Int32) (q : Nat) (z : Nat) (b : Int32) (hp : rArr p n) (hnp : n < 2147483648) (hq : rArr q z) (hnq : z < 2147483648) (q0 : ∀ (j : Nat), j ≤ 127 → ¬ ((127 : Int32) ≤ (nI j)) → vp_in (a + (nI j)) n) (q1 : ∀ (j : Nat), j ≤ 127 → ¬ ((127 : Int32) ≤ (nI j)) → vp_in (b + (nI j)) z) : ∀ (m j : Nat) (M : fM), j ≤ 127 → 127 + 1 ≤ j + m → fV G z_X12_copies d (fD none (sS (l_X12_copies p n a q z b M m j) dv)) 3 [some (.ref p), some (.int a), some (.ref q), some (.int b), some (.int (nI j))] [] (sS M dv) 0 0 := by
  intro m
  induction m with
  | zero => intros; omega
  | succ m ih =>
    intro j M hj hm
    refine f_iload dX12_copies_3 rfl ?_
    refine f_bipush (v := 127) dX12_copies_5 (by decide) ?_
    refine f_icmp_ge (tgt := 28) dX12_copies_7 (by decide) (fun c_7 => ?_) (fun c_7 => ?_)
    · refine f_return dX12_copies_28 rfl ?_
      exact ⟨rfl, by rw [l_X12_copies, if_pos c_7]⟩
    · have hlt : j < 127 := (nlt (N := 127) rfl c_7 (by omega) (by omega))
      refine f_aload_n dX12_copies_10 rfl rfl ?_
      refine f_iload_n dX12_copies_11 rfl rfl ?_
      refine f_iload dX12_copies_12 rfl ?_
      refine f_iadd dX12_copies_14 ?_
      refine f_aload_n dX12_copies_15 rfl rfl ?_
      refine f_iload_n dX12_copies_16 rfl rfl ?_
      refine f_iload dX12_copies_17 rfl ?_
      refine f_iadd dX12_copies_19 ?_
      refine s_iaload hG dX12_copies_20 hp ((q0 j hj c_7)) ?_
      refine s_iastore hG dX12_copies_21 hq ((q1 j hj c_7)) ?_
      refine f_iinc (v := nI (j + 1)) (ls' := [_, _, _, _, _]) dX12_copies_22 rfl (nI_1 j) (Nat.le_of_ble_eq_true rfl) rfl rfl ?_
      refine f_goto (tgt := 3) dX12_copies_25 (by decide) ?_
      have e9 : l_X12_copies p n a q z b M (m + 1) j = l_X12_copies p n a q z b (fst1 M q ((b + (nI j))).toNatClampNeg (M p ((a + (nI j))).toNatClampNeg)) m (j + 1) := by rw [l_X12_copies, if_neg c_7]
      rw [e9]
      exact ih (j + 1) (fst1 M q ((b + (nI j))).toNatClampNeg (M p ((a + (nI j))).toNatClampNeg)) (by omega) (by omega)
def m_X12_copies (M : fM) (p : Nat) (n : Nat) (a : Int32) (q : Nat) (z : Nat) (b : Int32) : fM := (l_X12_copies p n a q z b M 128 0)
def N_X12_copies (M : fM) (p : Nat) (n : Nat) (a : Int32) (q : Nat) (z : Nat) (b : Int32) : Prop := (∀ (j : Nat), j ≤ 127 → ¬ ((127 : Int32) ≤ (nI j)) → vp_in (a + (nI j)) n) ∧ (∀ (j : Nat), j ≤ 127 → ¬ ((127 : Int32) ≤ (nI j)) → vp_in (b + (nI j)) z)
set_option maxRecDepth 100000 in
set_option maxHeartbeats 4000000 in
theorem c_X12_copies {G : fG} (hG : fOK G) {d : Nat} (hd : 0 ≤ d) (M : fM) (dv : UInt64) (p : Nat) (n : Nat) (a : Int32) (q : Nat) (z : Nat) (b : Int32) (hp : rArr p n) (hnp : n < 2147483648) (hq : rArr q z) (hnq : z < 2147483648) (hN : N_X12_copies M p n a q z b) : fCt G z_X12_copies d [.ref p, .int a, .ref q, .int b] (sS M dv) 0 0 (fD none (sS (m_X12_copies M p n a q z b) dv)) := by
  refine fCt_to [some (.ref p), some (.int a), some (.ref q), some (.int b), none] k_X12_copies rfl (Nat.le_of_ble_eq_true rfl) rfl ?_
  obtain ⟨q0, q1⟩ := hN
  refine f_iconst (v := 0) dX12_copies_0 rfl ?_
  refine f_istore (ls' := [_, _, _, _, _]) dX12_copies_1 (Nat.le_of_ble_eq_true rfl) rfl rfl ?_
  exact lp_X12_copies hG hd dv p n a q z b hp hnp hq hnq q0 q1 128 0 _ (by omega) (by omega)

def l_X12_keepsL (p : Nat) (n : Nat) : fM → Nat → Nat → fM
  | M, 0, _ => M
  | M, m + 1, j => (if (889 : Int32) ≤ (nI j) then M else (l_X12_keepsL p n (fst1 M 298 ((nI j)).toNatClampNeg (M 298 (((nI j) + (127 : Int32))).toNatClampNeg)) m (j + 1)))
set_option maxRecDepth 100000 in
set_option maxHeartbeats 4000000 in
theorem lc_X12_keepsL {G : fG} (hG : fOK G) {d : Nat} (hd : 0 ≤ d) (dv : UInt64) (p : Nat) (n : Nat) (hp : rArr p n) (hnp : n < 2147483648) (q0 : ∀ (j : Nat), j ≤ 889 → ¬ ((889 : Int32) ≤ (nI j)) → vp_in ((nI j) + (127 : Int32)) 1016) {Q : fR → fS → Prop} {kc ks : Nat} : ∀ (m j : Nat) (M : fM), j ≤ 889 → 889 + 1 ≤ j + m → fV G z_X12_keeps d Q 52 [some (.ref 296), some (.ref p), none] [] (sS (l_X12_keepsL p n M m j) dv) kc ks → fV G z_X12_keeps d Q 24 [some (.ref 296), some (.ref p), some (.int (nI j))] [] (sS M dv) kc ks := by
  intro m
  induction m with
  | zero => intros; omega
  | succ m ih =>
    intro j M hj hm kk
    refine f_iload_n dX12_keeps_24 rfl rfl ?_
    refine f_sipush (v := 889) dX12_keeps_25 (by decide) ?_
    refine f_icmp_ge (tgt := 52) dX12_keeps_28 (by decide) (fun c_28 => ?_) (fun c_28 => ?_)
    · have e9 : l_X12_keepsL p n M (m + 1) j = M := by rw [l_X12_keepsL, if_pos c_28]
      rw [e9] at kk
      refine f_drop 2 ?_
      exact kk
    · have hlt : j < 889 := (nlt (N := 889) rfl c_28 (by omega) (by omega))
      refine f_aload_n dX12_keeps_31 rfl rfl ?_
      refine s_getr hG fl_X12_13 dX12_keeps_32 rfl rfl ?_
      refine f_iload_n dX12_keeps_35 rfl rfl ?_
      refine f_aload_n dX12_keeps_36 rfl rfl ?_
      refine s_getr hG fl_X12_13 dX12_keeps_37 rfl rfl ?_
      refine f_iload_n dX12_keeps_40 rfl rfl ?_
      refine f_bipush (v := 127) dX12_keeps_41 (by decide) ?_
      refine f_iadd dX12_keeps_43 ?_
      refine s_iaload hG dX12_keeps_44 rfl ((q0 j hj c_28)) ?_
      refine s_iastore hG dX12_keeps_45 rfl ((vp_in_nI (by omega) (by decide))) ?_
      refine f_iinc (v := nI (j + 1)) (ls' := [_, _, _]) dX12_keeps_46 rfl (nI_1 j) (Nat.le_of_ble_eq_true rfl) rfl rfl ?_
      refine f_goto (tgt := 24) dX12_keeps_49 (by decide) ?_
      have e9 : l_X12_keepsL p n M (m + 1) j = l_X12_keepsL p n (fst1 M 298 ((nI j)).toNatClampNeg (M 298 (((nI j) + (127 : Int32))).toNatClampNeg)) m (j + 1) := by rw [l_X12_keepsL, if_neg c_28]
      exact ih (j + 1) (fst1 M 298 ((nI j)).toNatClampNeg (M 298 (((nI j) + (127 : Int32))).toNatClampNeg)) (by omega) (by omega) (by rw [e9] at kk; exact kk)

def a0_X12_keeps (M : fM) (p : Nat) (n : Nat) : fM := (m_X12_copies (fst1 M 296 7 (0 : Int32)) p n (0 : Int32) 298 1016 ((127 : Int32) * ((fst1 M 296 7 (0 : Int32)) 296 5)))
def a1_X12_keeps (M : fM) (p : Nat) (n : Nat) : fM := (fst1 (l_X12_keepsL p n (fst1 M 296 7 (0 : Int32)) 890 0) 296 5 (((l_X12_keepsL p n (fst1 M 296 7 (0 : Int32)) 890 0) 296 5) - (1 : Int32)))
def a2_X12_keeps (M : fM) (p : Nat) (n : Nat) : fM := (fst1 (m_X12_copies (a1_X12_keeps M p n) p n (0 : Int32) 298 1016 ((127 : Int32) * ((a1_X12_keeps M p n) 296 5))) 296 5 (((m_X12_copies (a1_X12_keeps M p n) p n (0 : Int32) 298 1016 ((127 : Int32) * ((a1_X12_keeps M p n) 296 5))) 296 5) + (1 : Int32)))
def m_X12_keeps (M : fM) (p : Nat) (n : Nat) : fM := (if ((fst1 M 296 7 (0 : Int32)) 296 6) = 0 then (if ((fst1 M 296 7 (0 : Int32)) 296 5) = (8 : Int32) then (a2_X12_keeps M p n) else (fst1 (a0_X12_keeps M p n) 296 5 (((a0_X12_keeps M p n) 296 5) + (1 : Int32)))) else (fst1 M 296 7 (0 : Int32)))
def N_X12_keeps (M : fM) (p : Nat) (n : Nat) : Prop := ((((fst1 M 296 7 (0 : Int32)) 296 6) = 0) → ¬ (((fst1 M 296 7 (0 : Int32)) 296 5) = (8 : Int32)) → N_X12_copies (fst1 M 296 7 (0 : Int32)) p n (0 : Int32) 298 1016 ((127 : Int32) * ((fst1 M 296 7 (0 : Int32)) 296 5))) ∧ ((((fst1 M 296 7 (0 : Int32)) 296 6) = 0) → (((fst1 M 296 7 (0 : Int32)) 296 5) = (8 : Int32)) → ∀ (j_65 : Nat), j_65 ≤ 889 → ¬ ((889 : Int32) ≤ (nI j_65)) → vp_in ((nI j_65) + (127 : Int32)) 1016) ∧ ((((fst1 M 296 7 (0 : Int32)) 296 6) = 0) → (((fst1 M 296 7 (0 : Int32)) 296 5) = (8 : Int32)) → N_X12_copies (a1_X12_keeps M p n) p n (0 : Int32) 298 1016 ((127 : Int32) * ((a1_X12_keeps M p n) 296 5)))
set_option maxRecDepth 100000 in
set_option maxHeartbeats 4000000 in
theorem c_X12_keeps {G : fG} (hG : fOK G) {d : Nat} (hd : 1 ≤ d) (M : fM) (dv : UInt64) (p : Nat) (n : Nat) (hp : rArr p n) (hnp : n < 2147483648) (hN : N_X12_keeps M p n) : fCt G z_X12_keeps d [.ref 296, .ref p] (sS M dv) 0 0 (fD none (sS (m_X12_keeps M p n) dv)) := by
  refine fCt_to [some (.ref 296), some (.ref p), none] k_X12_keeps rfl (Nat.le_of_ble_eq_true rfl) rfl ?_
  obtain ⟨q0, q1, q2⟩ := hN
  refine f_aload_n dX12_keeps_0 rfl rfl ?_
  refine f_iconst (v := 0) dX12_keeps_1 rfl ?_
  refine s_puti hG fl_X12_45 (Or.inl rfl) dX12_keeps_2 rfl rfl rfl rfl ?_
  refine f_aload_n dX12_keeps_5 rfl rfl ?_
  refine s_geti hG fl_X12_48 dX12_keeps_6 rfl rfl ?_
  refine f_if_eq (tgt := 13) dX12_keeps_9 (by decide) (fun c_9 => ?_) (fun c_9 => ?_)
  · refine f_aload_n dX12_keeps_13 rfl rfl ?_
    refine s_geti hG fl_X12_52 dX12_keeps_14 rfl rfl ?_
    refine f_bipush (v := 8) dX12_keeps_17 (by decide) ?_
    refine f_icmp_ne (tgt := 62) dX12_keeps_19 (by decide) (fun c_19 => ?_) (fun c_19 => ?_)
    · refine f_aload_n dX12_keeps_62 rfl rfl ?_
      refine f_iconst (v := 0) dX12_keeps_63 rfl ?_
      refine f_aload_n dX12_keeps_64 rfl rfl ?_
      refine s_getr hG fl_X12_13 dX12_keeps_65 rfl rfl ?_
      refine f_bipush (v := 127) dX12_keeps_68 (by decide) ?_
      refine f_aload_n dX12_keeps_70 rfl rfl ?_
      refine s_geti hG fl_X12_52 dX12_keeps_71 rfl rfl ?_
      refine f_imul dX12_keeps_74 ?_
      refine f_cS hG (As := [_, _, _, _]) dX12_keeps_75 rfl k_X12_copies rfl rfl ml_X12_55 sm_X12_copies (c_X12_copies hG (d := 0) (Nat.le_refl _) _ _ _ _ _ _ _ _ hp hnp rfl (by decide) (q0 c_9 c_19)) (by omega) (Nat.le_of_ble_eq_true rfl) (Nat.zero_le _) (Nat.zero_le _) ?_
      refine f_mem (M := (m_X12_copies (fst1 M 296 7 (0 : Int32)) p n (0 : Int32) 298 1016 ((127 : Int32) * ((fst1 M 296 7 (0 : Int32)) 296 5)))) (M' := (a0_X12_keeps M p n)) (by rw [a0_X12_keeps]) ?_
      refine f_aload_n dX12_keeps_78 rfl rfl ?_
      refine f_dup dX12_keeps_79 rfl ?_
      refine s_geti hG fl_X12_52 dX12_keeps_80 rfl rfl ?_
      refine f_iconst (v := 1) dX12_keeps_83 rfl ?_
      refine f_iadd dX12_keeps_84 ?_
      refine s_puti hG fl_X12_52 (Or.inl rfl) dX12_keeps_85 rfl rfl rfl rfl ?_
      refine f_return dX12_keeps_88 rfl ?_
      exact ⟨rfl, by rw [m_X12_keeps, if_pos c_9, if_neg c_19]⟩
    · refine f_iconst (v := 0) dX12_keeps_22 rfl ?_
      refine f_istore_n (ls' := [_, _, _]) dX12_keeps_23 rfl (Nat.le_of_ble_eq_true rfl) rfl rfl ?_
      refine lc_X12_keepsL hG (by omega) dv _ _ hp hnp (q1 c_9 c_19) 890 0 _ (by omega) (by omega) ?_
      refine f_aload_n dX12_keeps_52 rfl rfl ?_
      refine f_dup dX12_keeps_53 rfl ?_
      refine s_geti hG fl_X12_52 dX12_keeps_54 rfl rfl ?_
      refine f_iconst (v := 1) dX12_keeps_57 rfl ?_
      refine f_isub dX12_keeps_58 ?_
      refine s_puti hG fl_X12_52 (Or.inl rfl) dX12_keeps_59 rfl rfl rfl rfl ?_
      refine f_mem (M := (fst1 (l_X12_keepsL p n (fst1 M 296 7 (0 : Int32)) 890 0) 296 5 (((l_X12_keepsL p n (fst1 M 296 7 (0 : Int32)) 890 0) 296 5) - (1 : Int32)))) (M' := (a1_X12_keeps M p n)) (by rw [a1_X12_keeps]) ?_
      refine f_aload_n dX12_keeps_62 rfl rfl ?_
      refine f_iconst (v := 0) dX12_keeps_63 rfl ?_
      refine f_aload_n dX12_keeps_64 rfl rfl ?_
      refine s_getr hG fl_X12_13 dX12_keeps_65 rfl rfl ?_
      refine f_bipush (v := 127) dX12_keeps_68 (by decide) ?_
      refine f_aload_n dX12_keeps_70 rfl rfl ?_
      refine s_geti hG fl_X12_52 dX12_keeps_71 rfl rfl ?_
      refine f_imul dX12_keeps_74 ?_
      refine f_cS hG (As := [_, _, _, _]) dX12_keeps_75 rfl k_X12_copies rfl rfl ml_X12_55 sm_X12_copies (c_X12_copies hG (d := 0) (Nat.le_refl _) _ _ _ _ _ _ _ _ hp hnp rfl (by decide) (q2 c_9 c_19)) (by omega) (Nat.le_of_ble_eq_true rfl) (Nat.zero_le _) (Nat.zero_le _) ?_
      refine f_aload_n dX12_keeps_78 rfl rfl ?_
      refine f_dup dX12_keeps_79 rfl ?_
      refine s_geti hG fl_X12_52 dX12_keeps_80 rfl rfl ?_
      refine f_iconst (v := 1) dX12_keeps_83 rfl ?_
      refine f_iadd dX12_keeps_84 ?_
      refine s_puti hG fl_X12_52 (Or.inl rfl) dX12_keeps_85 rfl rfl rfl rfl ?_
      refine f_mem (M := (fst1 (m_X12_copies (a1_X12_keeps M p n) p n (0 : Int32) 298 1016 ((127 : Int32) * ((a1_X12_keeps M p n) 296 5))) 296 5 (((m_X12_copies (a1_X12_keeps M p n) p n (0 : Int32) 298 1016 ((127 : Int32) * ((a1_X12_keeps M p n) 296 5))) 296 5) + (1 : Int32)))) (M' := (a2_X12_keeps M p n)) (by rw [a2_X12_keeps]) ?_
      refine f_return dX12_keeps_88 rfl ?_
      exact ⟨rfl, by rw [m_X12_keeps, if_pos c_9, if_pos c_19]⟩
  · refine f_return dX12_keeps_12 rfl ?_
    exact ⟨rfl, by rw [m_X12_keeps, if_neg c_9]⟩

def l_X12_bits (a : Int32) (M : fM) : Nat → Nat → Int32 → Int32
  | 0, _, _ => 0
  | m + 1, j, v1 => (if (8 : Int32) ≤ (nI j) then v1 else (l_X12_bits a M m (j + 1) (v1 + ((a >>> ((nI j) &&& 31)) &&& (1 : Int32)))))
set_option maxRecDepth 100000 in
set_option maxHeartbeats 4000000 in
theorem lp_X12_bits {G : fG} (hG : fOK G) {d : Nat} (hd : 0 ≤ d) (M : fM) (dv : UInt64) (a : Int32) : ∀ (m j : Nat) (v1 : Int32), j ≤ 8 → 8 + 1 ≤ j + m → fV G z_X12_bits d (fD (some (.int (l_X12_bits a M m j v1))) (sS M dv)) 4 [some (.int a), some (.int v1), some (.int (nI j))] [] (sS M dv) 0 0 := by
  intro m
  induction m with
  | zero => intros; omega
  | succ m ih =>
    intro j v1 hj hm
    refine f_iload_n dX12_bits_4 rfl rfl ?_
    refine f_bipush (v := 8) dX12_bits_5 (by decide) ?_
    refine f_icmp_ge (tgt := 24) dX12_bits_7 (by decide) (fun c_7 => ?_) (fun c_7 => ?_)
    · refine f_iload_n dX12_bits_24 rfl rfl ?_
      refine f_ireturn dX12_bits_25 rfl rfl ?_
      exact ⟨by rw [l_X12_bits, if_pos c_7], rfl⟩
    · have hlt : j < 8 := (nlt (N := 8) rfl c_7 (by omega) (by omega))
      refine f_iload_n dX12_bits_10 rfl rfl ?_
      refine f_iload_n dX12_bits_11 rfl rfl ?_
      refine f_iload_n dX12_bits_12 rfl rfl ?_
      refine f_ishr dX12_bits_13 ?_
      refine f_iconst (v := 1) dX12_bits_14 rfl ?_
      refine f_iand dX12_bits_15 ?_
      refine f_iadd dX12_bits_16 ?_
      refine f_istore_n (ls' := [_, _, _]) dX12_bits_17 rfl (Nat.le_of_ble_eq_true rfl) rfl rfl ?_
      refine f_iinc (v := nI (j + 1)) (ls' := [_, _, _]) dX12_bits_18 rfl (nI_1 j) (Nat.le_of_ble_eq_true rfl) rfl rfl ?_
      refine f_goto (tgt := 4) dX12_bits_21 (by decide) ?_
      have e9 : l_X12_bits a M (m + 1) j v1 = l_X12_bits a M m (j + 1) (v1 + ((a >>> ((nI j) &&& 31)) &&& (1 : Int32))) := by rw [l_X12_bits, if_neg c_7]
      rw [e9]
      exact ih (j + 1) (v1 + ((a >>> ((nI j) &&& 31)) &&& (1 : Int32))) (by omega) (by omega)
def r_X12_bits (M : fM) (a : Int32) : Int32 := (l_X12_bits a M 9 0 (0 : Int32))
set_option maxRecDepth 100000 in
set_option maxHeartbeats 4000000 in
theorem c_X12_bits {G : fG} (hG : fOK G) {d : Nat} (hd : 0 ≤ d) (M : fM) (dv : UInt64) (a : Int32) : fCt G z_X12_bits d [.int a] (sS M dv) 0 0 (fD (some (.int (r_X12_bits M a))) (sS M dv)) := by
  refine fCt_to [some (.int a), none, none] k_X12_bits rfl (Nat.le_of_ble_eq_true rfl) rfl ?_
  refine f_iconst (v := 0) dX12_bits_0 rfl ?_
  refine f_istore_n (ls' := [_, _, _]) dX12_bits_1 rfl (Nat.le_of_ble_eq_true rfl) rfl rfl ?_
  refine f_iconst (v := 0) dX12_bits_2 rfl ?_
  refine f_istore_n (ls' := [_, _, _]) dX12_bits_3 rfl (Nat.le_of_ble_eq_true rfl) rfl rfl ?_
  exact lp_X12_bits hG hd _ dv a 9 0 _ (by omega) (by omega)

def r_X12_isRaw (M : fM) (a : Int32) : Int32 := (r_X12_in M a (0 : Int32) ((M 297 ((0 : Int32)).toNatClampNeg) - (1 : Int32)))
theorem n_X12_isRaw (M : fM) (a : Int32) : narrow .boolean (.int (r_X12_isRaw M a)) = .int (r_X12_isRaw M a) := by
  unfold r_X12_isRaw
  repeat' with_reducible apply n_ite
  all_goals first | with_reducible exact n_X12_in .. | rfl | exact pk_nc _
set_option maxRecDepth 100000 in
set_option maxHeartbeats 4000000 in
theorem c_X12_isRaw {G : fG} (hG : fOK G) {d : Nat} (hd : 1 ≤ d) (M : fM) (dv : UInt64) (a : Int32) : fCt G z_X12_isRaw d [.ref 296, .int a] (sS M dv) 0 0 (fD (some (.int (r_X12_isRaw M a))) (sS M dv)) := by
  refine fCt_to [some (.ref 296), some (.int a)] k_X12_isRaw rfl (Nat.le_of_ble_eq_true rfl) rfl ?_
  refine f_iload_n dX12_isRaw_0 rfl rfl ?_
  refine f_iconst (v := 0) dX12_isRaw_1 rfl ?_
  refine f_aload_n dX12_isRaw_2 rfl rfl ?_
  refine s_getr hG fl_X12_7 dX12_isRaw_3 rfl rfl ?_
  refine f_iconst (v := 0) dX12_isRaw_6 rfl ?_
  refine s_iaload hG dX12_isRaw_7 rfl ((show ¬ ((0 : Int32) < 0 ∨ 127 ≤ (0 : Int32).toNatClampNeg) by decide)) ?_
  refine f_iconst (v := 1) dX12_isRaw_8 rfl ?_
  refine f_isub dX12_isRaw_9 ?_
  refine f_cS hG (As := [_, _, _]) dX12_isRaw_10 rfl k_X12_in rfl rfl ml_X12_59 sm_X12_in (c_X12_in hG (d := 0) (Nat.le_refl _) _ _ _ _ _) (by omega) (Nat.le_of_ble_eq_true rfl) (Nat.zero_le _) (Nat.zero_le _) ?_
  refine f_ireturn dX12_isRaw_13 rfl (n_X12_in ..) ?_
  exact ⟨by rw [r_X12_isRaw], rfl⟩

def r_X12_isBatch (M : fM) (a : Int32) : Int32 := (r_X12_in M a (0 : Int32) ((M 297 ((1 : Int32)).toNatClampNeg) - (1 : Int32)))
theorem n_X12_isBatch (M : fM) (a : Int32) : narrow .boolean (.int (r_X12_isBatch M a)) = .int (r_X12_isBatch M a) := by
  unfold r_X12_isBatch
  repeat' with_reducible apply n_ite
  all_goals first | with_reducible exact n_X12_in .. | rfl | exact pk_nc _
set_option maxRecDepth 100000 in
set_option maxHeartbeats 4000000 in
theorem c_X12_isBatch {G : fG} (hG : fOK G) {d : Nat} (hd : 1 ≤ d) (M : fM) (dv : UInt64) (a : Int32) : fCt G z_X12_isBatch d [.ref 296, .int a] (sS M dv) 0 0 (fD (some (.int (r_X12_isBatch M a))) (sS M dv)) := by
  refine fCt_to [some (.ref 296), some (.int a)] k_X12_isBatch rfl (Nat.le_of_ble_eq_true rfl) rfl ?_
  refine f_iload_n dX12_isBatch_0 rfl rfl ?_
  refine f_iconst (v := 0) dX12_isBatch_1 rfl ?_
  refine f_aload_n dX12_isBatch_2 rfl rfl ?_
  refine s_getr hG fl_X12_7 dX12_isBatch_3 rfl rfl ?_
  refine f_iconst (v := 1) dX12_isBatch_6 rfl ?_
  refine s_iaload hG dX12_isBatch_7 rfl ((show ¬ ((1 : Int32) < 0 ∨ 127 ≤ (1 : Int32).toNatClampNeg) by decide)) ?_
  refine f_iconst (v := 1) dX12_isBatch_8 rfl ?_
  refine f_isub dX12_isBatch_9 ?_
  refine f_cS hG (As := [_, _, _]) dX12_isBatch_10 rfl k_X12_in rfl rfl ml_X12_59 sm_X12_in (c_X12_in hG (d := 0) (Nat.le_refl _) _ _ _ _ _) (by omega) (Nat.le_of_ble_eq_true rfl) (Nat.zero_le _) (Nat.zero_le _) ?_
  refine f_ireturn dX12_isBatch_13 rfl (n_X12_in ..) ?_
  exact ⟨by rw [r_X12_isBatch], rfl⟩

def r_X12_of (M : fM) (a : Int32) (b : Int32) : Int32 := (M 297 ((((11 : Int32) + ((2 : Int32) * a)) + b)).toNatClampNeg)
def N_X12_of (M : fM) (a : Int32) (b : Int32) : Prop := (vp_in (((11 : Int32) + ((2 : Int32) * a)) + b) 127)
set_option maxRecDepth 100000 in
set_option maxHeartbeats 4000000 in
theorem c_X12_of {G : fG} (hG : fOK G) {d : Nat} (hd : 0 ≤ d) (M : fM) (dv : UInt64) (a : Int32) (b : Int32) (hN : N_X12_of M a b) : fCt G z_X12_of d [.ref 296, .int a, .int b] (sS M dv) 0 0 (fD (some (.int (r_X12_of M a b))) (sS M dv)) := by
  refine fCt_to [some (.ref 296), some (.int a), some (.int b)] k_X12_of rfl (Nat.le_of_ble_eq_true rfl) rfl ?_
  have q0 : vp_in (((11 : Int32) + ((2 : Int32) * a)) + b) 127 := hN
  refine f_aload_n dX12_of_0 rfl rfl ?_
  refine s_getr hG fl_X12_7 dX12_of_1 rfl rfl ?_
  refine f_bipush (v := 11) dX12_of_4 (by decide) ?_
  refine f_iconst (v := 2) dX12_of_6 rfl ?_
  refine f_iload_n dX12_of_7 rfl rfl ?_
  refine f_imul dX12_of_8 ?_
  refine f_iadd dX12_of_9 ?_
  refine f_iload_n dX12_of_10 rfl rfl ?_
  refine f_iadd dX12_of_11 ?_
  refine s_iaload hG dX12_of_12 rfl (q0) ?_
  refine f_ireturn dX12_of_13 rfl rfl ?_
  exact ⟨by rw [r_X12_of], rfl⟩

def a0_X12_addRaw (M : fM) : fM := (fst1 (m_X12_keeps (fst1 M 296 7 (0 : Int32)) 297 127) 297 ((0 : Int32)).toNatClampNeg (((m_X12_keeps (fst1 M 296 7 (0 : Int32)) 297 127) 297 ((0 : Int32)).toNatClampNeg) + (1 : Int32)))
def r_X12_addRaw (M : fM) : Int32 := (if (M 297 ((0 : Int32)).toNatClampNeg) = (6 : Int32) then (0 : Int32) else (((a0_X12_addRaw M) 297 ((0 : Int32)).toNatClampNeg) - (1 : Int32)))
def m_X12_addRaw (M : fM) : fM := (if (M 297 ((0 : Int32)).toNatClampNeg) = (6 : Int32) then (fst1 M 296 7 (1 : Int32)) else (a0_X12_addRaw M))
def N_X12_addRaw (M : fM) : Prop := (¬ ((M 297 ((0 : Int32)).toNatClampNeg) = (6 : Int32)) → N_X12_keeps (fst1 M 296 7 (0 : Int32)) 297 127)
set_option maxRecDepth 100000 in
set_option maxHeartbeats 4000000 in
theorem c_X12_addRaw {G : fG} (hG : fOK G) {d : Nat} (hd : 2 ≤ d) (M : fM) (dv : UInt64) (hN : N_X12_addRaw M) : fCt G z_X12_addRaw d [.ref 296] (sS M dv) 0 0 (fD (some (.int (r_X12_addRaw M))) (sS (m_X12_addRaw M) dv)) := by
  refine fCt_to [some (.ref 296)] k_X12_addRaw rfl (Nat.le_of_ble_eq_true rfl) rfl ?_
  have q0 : ¬ ((M 297 ((0 : Int32)).toNatClampNeg) = (6 : Int32)) → N_X12_keeps (fst1 M 296 7 (0 : Int32)) 297 127 := hN
  refine f_aload_n dX12_addRaw_0 rfl rfl ?_
  refine f_aload_n dX12_addRaw_1 rfl rfl ?_
  refine s_getr hG fl_X12_7 dX12_addRaw_2 rfl rfl ?_
  refine f_iconst (v := 0) dX12_addRaw_5 rfl ?_
  refine s_iaload hG dX12_addRaw_6 rfl ((show ¬ ((0 : Int32) < 0 ∨ 127 ≤ (0 : Int32).toNatClampNeg) by decide)) ?_
  refine f_bipush (v := 6) dX12_addRaw_7 (by decide) ?_
  refine f_icmp_ne (tgt := 16) dX12_addRaw_9 (by decide) (fun c_9 => ?_) (fun c_9 => ?_)
  · refine f_iconst (v := 0) dX12_addRaw_16 rfl ?_
    refine f_cV hG (As := [_]) dX12_addRaw_17 rfl k_X12_fails rfl rfl ml_X12_63 im_X12_fails se_X12_fails rfl rfl (c_X12_failsF hG (d := 0) (Nat.le_refl _) _ _ _ (by decide)) (by omega) (Nat.le_of_ble_eq_true rfl) (Nat.zero_le _) (Nat.zero_le _) ?_
    refine f_if_eq (tgt := 25) dX12_addRaw_20 (by decide) (fun c_20 => ?_) (fun c_20 => absurd c_20 (by decide))
    refine f_aload_n dX12_addRaw_25 rfl rfl ?_
    refine f_aload_n dX12_addRaw_26 rfl rfl ?_
    refine s_getr hG fl_X12_7 dX12_addRaw_27 rfl rfl ?_
    refine f_cV hG (As := [_]) dX12_addRaw_30 rfl k_X12_keeps rfl rfl ml_X12_67 im_X12_keeps se_X12_keeps rfl rfl (c_X12_keeps hG (d := 1) (Nat.le_refl _) _ _ _ _ rfl (by decide) (q0 c_9)) (by omega) (Nat.le_of_ble_eq_true rfl) (Nat.zero_le _) (Nat.zero_le _) ?_
    refine f_aload_n dX12_addRaw_33 rfl rfl ?_
    refine s_getr hG fl_X12_7 dX12_addRaw_34 rfl rfl ?_
    refine f_iconst (v := 0) dX12_addRaw_37 rfl ?_
    refine f_dup2 dX12_addRaw_38 rfl rfl ?_
    refine s_iaload hG dX12_addRaw_39 rfl ((show ¬ ((0 : Int32) < 0 ∨ 127 ≤ (0 : Int32).toNatClampNeg) by decide)) ?_
    refine f_iconst (v := 1) dX12_addRaw_40 rfl ?_
    refine f_iadd dX12_addRaw_41 ?_
    refine s_iastore hG dX12_addRaw_42 rfl ((show ¬ ((0 : Int32) < 0 ∨ 127 ≤ (0 : Int32).toNatClampNeg) by decide)) ?_
    refine f_mem (M := (fst1 (m_X12_keeps (fst1 M 296 7 (0 : Int32)) 297 127) 297 ((0 : Int32)).toNatClampNeg (((m_X12_keeps (fst1 M 296 7 (0 : Int32)) 297 127) 297 ((0 : Int32)).toNatClampNeg) + (1 : Int32)))) (M' := (a0_X12_addRaw M)) (by rw [a0_X12_addRaw]) ?_
    refine f_aload_n dX12_addRaw_43 rfl rfl ?_
    refine s_getr hG fl_X12_7 dX12_addRaw_44 rfl rfl ?_
    refine f_iconst (v := 0) dX12_addRaw_47 rfl ?_
    refine s_iaload hG dX12_addRaw_48 rfl ((show ¬ ((0 : Int32) < 0 ∨ 127 ≤ (0 : Int32).toNatClampNeg) by decide)) ?_
    refine f_iconst (v := 1) dX12_addRaw_49 rfl ?_
    refine f_isub dX12_addRaw_50 ?_
    refine f_ireturn dX12_addRaw_51 rfl rfl ?_
    exact ⟨by rw [r_X12_addRaw, if_neg c_9], by rw [m_X12_addRaw, if_neg c_9]⟩
  · refine f_iconst (v := 1) dX12_addRaw_12 rfl ?_
    refine f_goto (tgt := 17) dX12_addRaw_13 (by decide) ?_
    refine f_cV hG (As := [_]) dX12_addRaw_17 rfl k_X12_fails rfl rfl ml_X12_63 im_X12_fails se_X12_fails rfl rfl (c_X12_failsT hG (d := 0) (Nat.le_refl _) _ _ _ (by decide)) (by omega) (Nat.le_of_ble_eq_true rfl) (Nat.zero_le _) (Nat.zero_le _) ?_
    refine f_if_eq (tgt := 25) dX12_addRaw_20 (by decide) (fun c_20 => absurd c_20 (by decide)) (fun c_20 => ?_)
    refine f_iconst (v := 0) dX12_addRaw_23 rfl ?_
    refine f_ireturn dX12_addRaw_24 rfl rfl ?_
    exact ⟨by rw [r_X12_addRaw, if_pos c_9], by rw [m_X12_addRaw, if_pos c_9]⟩

def a0_X12_mix (M : fM) (b : Int32) : fM := (fst1 (m_X12_keeps (fst1 M 296 7 (0 : Int32)) 297 127) 297 ((((11 : Int32) + ((2 : Int32) * ((m_X12_keeps (fst1 M 296 7 (0 : Int32)) 297 127) 297 ((1 : Int32)).toNatClampNeg))) + (0 : Int32))).toNatClampNeg b)
def a1_X12_mix (M : fM) (b : Int32) (a : Int32) : fM := (fst1 (a0_X12_mix M b) 297 ((((11 : Int32) + ((2 : Int32) * ((a0_X12_mix M b) 297 ((1 : Int32)).toNatClampNeg))) + (1 : Int32))).toNatClampNeg a)
def a2_X12_mix (M : fM) (b : Int32) (a : Int32) : fM := (fst1 (a1_X12_mix M b a) 297 ((1 : Int32)).toNatClampNeg (((a1_X12_mix M b a) 297 ((1 : Int32)).toNatClampNeg) + (1 : Int32)))
def r_X12_mix (M : fM) (a : Int32) (b : Int32) : Int32 := (if (r_X12_in M a (1 : Int32) (((1 : Int32) <<< ((M 297 ((0 : Int32)).toNatClampNeg) &&& 31)) - (1 : Int32))) = 0 then (0 : Int32) else (if (r_X12_in M b (1 : Int32) (20 : Int32)) = 0 then (0 : Int32) else (if (M 297 ((1 : Int32)).toNatClampNeg) = (6 : Int32) then (0 : Int32) else (if (a &&& (M 297 ((6 : Int32)).toNatClampNeg)) = 0 then (((a2_X12_mix M b a) 297 ((1 : Int32)).toNatClampNeg) - (1 : Int32)) else (0 : Int32)))))
def m_X12_mix (M : fM) (a : Int32) (b : Int32) : fM := (if (r_X12_in M a (1 : Int32) (((1 : Int32) <<< ((M 297 ((0 : Int32)).toNatClampNeg) &&& 31)) - (1 : Int32))) = 0 then (fst1 M 296 7 (1 : Int32)) else (if (r_X12_in M b (1 : Int32) (20 : Int32)) = 0 then (fst1 M 296 7 (1 : Int32)) else (if (M 297 ((1 : Int32)).toNatClampNeg) = (6 : Int32) then (fst1 M 296 7 (2 : Int32)) else (if (a &&& (M 297 ((6 : Int32)).toNatClampNeg)) = 0 then (a2_X12_mix M b a) else (fst1 M 296 7 (3 : Int32))))))
def N_X12_mix (M : fM) (a : Int32) (b : Int32) : Prop := (¬ ((r_X12_in M a (1 : Int32) (((1 : Int32) <<< ((M 297 ((0 : Int32)).toNatClampNeg) &&& 31)) - (1 : Int32))) = 0) → ¬ ((r_X12_in M b (1 : Int32) (20 : Int32)) = 0) → ¬ ((M 297 ((1 : Int32)).toNatClampNeg) = (6 : Int32)) → ((a &&& (M 297 ((6 : Int32)).toNatClampNeg)) = 0) → N_X12_keeps (fst1 M 296 7 (0 : Int32)) 297 127) ∧ (¬ ((r_X12_in M a (1 : Int32) (((1 : Int32) <<< ((M 297 ((0 : Int32)).toNatClampNeg) &&& 31)) - (1 : Int32))) = 0) → ¬ ((r_X12_in M b (1 : Int32) (20 : Int32)) = 0) → ¬ ((M 297 ((1 : Int32)).toNatClampNeg) = (6 : Int32)) → ((a &&& (M 297 ((6 : Int32)).toNatClampNeg)) = 0) → vp_in (((11 : Int32) + ((2 : Int32) * ((m_X12_keeps (fst1 M 296 7 (0 : Int32)) 297 127) 297 ((1 : Int32)).toNatClampNeg))) + (0 : Int32)) 127) ∧ (¬ ((r_X12_in M a (1 : Int32) (((1 : Int32) <<< ((M 297 ((0 : Int32)).toNatClampNeg) &&& 31)) - (1 : Int32))) = 0) → ¬ ((r_X12_in M b (1 : Int32) (20 : Int32)) = 0) → ¬ ((M 297 ((1 : Int32)).toNatClampNeg) = (6 : Int32)) → ((a &&& (M 297 ((6 : Int32)).toNatClampNeg)) = 0) → vp_in (((11 : Int32) + ((2 : Int32) * ((a0_X12_mix M b) 297 ((1 : Int32)).toNatClampNeg))) + (1 : Int32)) 127)
set_option maxRecDepth 100000 in
set_option maxHeartbeats 4000000 in
theorem c_X12_mix {G : fG} (hG : fOK G) {d : Nat} (hd : 2 ≤ d) (M : fM) (dv : UInt64) (a : Int32) (b : Int32) (hN : N_X12_mix M a b) : fCt G z_X12_mix d [.ref 296, .int a, .int b] (sS M dv) 0 0 (fD (some (.int (r_X12_mix M a b))) (sS (m_X12_mix M a b) dv)) := by
  refine fCt_to [some (.ref 296), some (.int a), some (.int b)] k_X12_mix rfl (Nat.le_of_ble_eq_true rfl) rfl ?_
  obtain ⟨q0, q1, q2⟩ := hN
  refine f_aload_n dX12_mix_0 rfl rfl ?_
  refine f_iload_n dX12_mix_1 rfl rfl ?_
  refine f_iconst (v := 1) dX12_mix_2 rfl ?_
  refine f_iconst (v := 1) dX12_mix_3 rfl ?_
  refine f_aload_n dX12_mix_4 rfl rfl ?_
  refine s_getr hG fl_X12_7 dX12_mix_5 rfl rfl ?_
  refine f_iconst (v := 0) dX12_mix_8 rfl ?_
  refine s_iaload hG dX12_mix_9 rfl ((show ¬ ((0 : Int32) < 0 ∨ 127 ≤ (0 : Int32).toNatClampNeg) by decide)) ?_
  refine f_ishl dX12_mix_10 ?_
  refine f_iconst (v := 1) dX12_mix_11 rfl ?_
  refine f_isub dX12_mix_12 ?_
  refine f_cS hG (As := [_, _, _]) dX12_mix_13 rfl k_X12_in rfl rfl ml_X12_59 sm_X12_in (c_X12_in hG (d := 0) (Nat.le_refl _) _ _ _ _ _) (by omega) (Nat.le_of_ble_eq_true rfl) (Nat.zero_le _) (Nat.zero_le _) ?_
  refine f_if_eq (tgt := 29) dX12_mix_16 (by decide) (fun c_16 => ?_) (fun c_16 => ?_)
  · refine f_iconst (v := 1) dX12_mix_29 rfl ?_
    refine f_goto (tgt := 65) dX12_mix_30 (by decide) ?_
    refine f_cV hG (As := [_]) dX12_mix_65 rfl k_X12_fails rfl rfl ml_X12_63 im_X12_fails se_X12_fails rfl rfl (c_X12_failsT hG (d := 0) (Nat.le_refl _) _ _ _ (by decide)) (by omega) (Nat.le_of_ble_eq_true rfl) (Nat.zero_le _) (Nat.zero_le _) ?_
    refine f_if_eq (tgt := 73) dX12_mix_68 (by decide) (fun c_68 => absurd c_68 (by decide)) (fun c_68 => ?_)
    refine f_iconst (v := 0) dX12_mix_71 rfl ?_
    refine f_ireturn dX12_mix_72 rfl rfl ?_
    exact ⟨by rw [r_X12_mix, if_pos c_16], by rw [m_X12_mix, if_pos c_16]⟩
  · refine f_iload_n dX12_mix_19 rfl rfl ?_
    refine f_iconst (v := 1) dX12_mix_20 rfl ?_
    refine f_bipush (v := 20) dX12_mix_21 (by decide) ?_
    refine f_cS hG (As := [_, _, _]) dX12_mix_23 rfl k_X12_in rfl rfl ml_X12_59 sm_X12_in (c_X12_in hG (d := 0) (Nat.le_refl _) _ _ _ _ _) (by omega) (Nat.le_of_ble_eq_true rfl) (Nat.zero_le _) (Nat.zero_le _) ?_
    refine f_if_ne (tgt := 33) dX12_mix_26 (by decide) (fun c_26 => ?_) (fun c_26 => ?_)
    · refine f_aload_n dX12_mix_33 rfl rfl ?_
      refine s_getr hG fl_X12_7 dX12_mix_34 rfl rfl ?_
      refine f_iconst (v := 1) dX12_mix_37 rfl ?_
      refine s_iaload hG dX12_mix_38 rfl ((show ¬ ((1 : Int32) < 0 ∨ 127 ≤ (1 : Int32).toNatClampNeg) by decide)) ?_
      refine f_bipush (v := 6) dX12_mix_39 (by decide) ?_
      refine f_icmp_ne (tgt := 48) dX12_mix_41 (by decide) (fun c_41 => ?_) (fun c_41 => ?_)
      · refine f_iload_n dX12_mix_48 rfl rfl ?_
        refine f_aload_n dX12_mix_49 rfl rfl ?_
        refine s_getr hG fl_X12_7 dX12_mix_50 rfl rfl ?_
        refine f_bipush (v := 6) dX12_mix_53 (by decide) ?_
        refine s_iaload hG dX12_mix_55 rfl ((show ¬ ((6 : Int32) < 0 ∨ 127 ≤ (6 : Int32).toNatClampNeg) by decide)) ?_
        refine f_iand dX12_mix_56 ?_
        refine f_if_eq (tgt := 64) dX12_mix_57 (by decide) (fun c_57 => ?_) (fun c_57 => ?_)
        · refine f_iconst (v := 0) dX12_mix_64 rfl ?_
          refine f_cV hG (As := [_]) dX12_mix_65 rfl k_X12_fails rfl rfl ml_X12_63 im_X12_fails se_X12_fails rfl rfl (c_X12_failsF hG (d := 0) (Nat.le_refl _) _ _ _ (by decide)) (by omega) (Nat.le_of_ble_eq_true rfl) (Nat.zero_le _) (Nat.zero_le _) ?_
          refine f_if_eq (tgt := 73) dX12_mix_68 (by decide) (fun c_68 => ?_) (fun c_68 => absurd c_68 (by decide))
          refine f_aload_n dX12_mix_73 rfl rfl ?_
          refine f_aload_n dX12_mix_74 rfl rfl ?_
          refine s_getr hG fl_X12_7 dX12_mix_75 rfl rfl ?_
          refine f_cV hG (As := [_]) dX12_mix_78 rfl k_X12_keeps rfl rfl ml_X12_67 im_X12_keeps se_X12_keeps rfl rfl (c_X12_keeps hG (d := 1) (Nat.le_refl _) _ _ _ _ rfl (by decide) (q0 c_16 c_26 c_41 c_57)) (by omega) (Nat.le_of_ble_eq_true rfl) (Nat.zero_le _) (Nat.zero_le _) ?_
          refine f_aload_n dX12_mix_81 rfl rfl ?_
          refine s_getr hG fl_X12_7 dX12_mix_82 rfl rfl ?_
          refine f_bipush (v := 11) dX12_mix_85 (by decide) ?_
          refine f_iconst (v := 2) dX12_mix_87 rfl ?_
          refine f_aload_n dX12_mix_88 rfl rfl ?_
          refine s_getr hG fl_X12_7 dX12_mix_89 rfl rfl ?_
          refine f_iconst (v := 1) dX12_mix_92 rfl ?_
          refine s_iaload hG dX12_mix_93 rfl ((show ¬ ((1 : Int32) < 0 ∨ 127 ≤ (1 : Int32).toNatClampNeg) by decide)) ?_
          refine f_imul dX12_mix_94 ?_
          refine f_iadd dX12_mix_95 ?_
          refine f_iconst (v := 0) dX12_mix_96 rfl ?_
          refine f_iadd dX12_mix_97 ?_
          refine f_iload_n dX12_mix_98 rfl rfl ?_
          refine s_iastore hG dX12_mix_99 rfl ((q1 c_16 c_26 c_41 c_57)) ?_
          refine f_mem (M := (fst1 (m_X12_keeps (fst1 M 296 7 (0 : Int32)) 297 127) 297 ((((11 : Int32) + ((2 : Int32) * ((m_X12_keeps (fst1 M 296 7 (0 : Int32)) 297 127) 297 ((1 : Int32)).toNatClampNeg))) + (0 : Int32))).toNatClampNeg b)) (M' := (a0_X12_mix M b)) (by rw [a0_X12_mix]) ?_
          refine f_aload_n dX12_mix_100 rfl rfl ?_
          refine s_getr hG fl_X12_7 dX12_mix_101 rfl rfl ?_
          refine f_bipush (v := 11) dX12_mix_104 (by decide) ?_
          refine f_iconst (v := 2) dX12_mix_106 rfl ?_
          refine f_aload_n dX12_mix_107 rfl rfl ?_
          refine s_getr hG fl_X12_7 dX12_mix_108 rfl rfl ?_
          refine f_iconst (v := 1) dX12_mix_111 rfl ?_
          refine s_iaload hG dX12_mix_112 rfl ((show ¬ ((1 : Int32) < 0 ∨ 127 ≤ (1 : Int32).toNatClampNeg) by decide)) ?_
          refine f_imul dX12_mix_113 ?_
          refine f_iadd dX12_mix_114 ?_
          refine f_iconst (v := 1) dX12_mix_115 rfl ?_
          refine f_iadd dX12_mix_116 ?_
          refine f_iload_n dX12_mix_117 rfl rfl ?_
          refine s_iastore hG dX12_mix_118 rfl ((q2 c_16 c_26 c_41 c_57)) ?_
          refine f_mem (M := (fst1 (a0_X12_mix M b) 297 ((((11 : Int32) + ((2 : Int32) * ((a0_X12_mix M b) 297 ((1 : Int32)).toNatClampNeg))) + (1 : Int32))).toNatClampNeg a)) (M' := (a1_X12_mix M b a)) (by rw [a1_X12_mix]) ?_
          refine f_aload_n dX12_mix_119 rfl rfl ?_
          refine s_getr hG fl_X12_7 dX12_mix_120 rfl rfl ?_
          refine f_iconst (v := 1) dX12_mix_123 rfl ?_
          refine f_dup2 dX12_mix_124 rfl rfl ?_
          refine s_iaload hG dX12_mix_125 rfl ((show ¬ ((1 : Int32) < 0 ∨ 127 ≤ (1 : Int32).toNatClampNeg) by decide)) ?_
          refine f_iconst (v := 1) dX12_mix_126 rfl ?_
          refine f_iadd dX12_mix_127 ?_
          refine s_iastore hG dX12_mix_128 rfl ((show ¬ ((1 : Int32) < 0 ∨ 127 ≤ (1 : Int32).toNatClampNeg) by decide)) ?_
          refine f_mem (M := (fst1 (a1_X12_mix M b a) 297 ((1 : Int32)).toNatClampNeg (((a1_X12_mix M b a) 297 ((1 : Int32)).toNatClampNeg) + (1 : Int32)))) (M' := (a2_X12_mix M b a)) (by rw [a2_X12_mix]) ?_
          refine f_aload_n dX12_mix_129 rfl rfl ?_
          refine s_getr hG fl_X12_7 dX12_mix_130 rfl rfl ?_
          refine f_iconst (v := 1) dX12_mix_133 rfl ?_
          refine s_iaload hG dX12_mix_134 rfl ((show ¬ ((1 : Int32) < 0 ∨ 127 ≤ (1 : Int32).toNatClampNeg) by decide)) ?_
          refine f_iconst (v := 1) dX12_mix_135 rfl ?_
          refine f_isub dX12_mix_136 ?_
          refine f_ireturn dX12_mix_137 rfl rfl ?_
          exact ⟨by rw [r_X12_mix, if_neg c_16, if_neg c_26, if_neg c_41, if_pos c_57], by rw [m_X12_mix, if_neg c_16, if_neg c_26, if_neg c_41, if_pos c_57]⟩
        · refine f_iconst (v := 3) dX12_mix_60 rfl ?_
          refine f_goto (tgt := 65) dX12_mix_61 (by decide) ?_
          refine f_cV hG (As := [_]) dX12_mix_65 rfl k_X12_fails rfl rfl ml_X12_63 im_X12_fails se_X12_fails rfl rfl (c_X12_failsT hG (d := 0) (Nat.le_refl _) _ _ _ (by decide)) (by omega) (Nat.le_of_ble_eq_true rfl) (Nat.zero_le _) (Nat.zero_le _) ?_
          refine f_if_eq (tgt := 73) dX12_mix_68 (by decide) (fun c_68 => absurd c_68 (by decide)) (fun c_68 => ?_)
          refine f_iconst (v := 0) dX12_mix_71 rfl ?_
          refine f_ireturn dX12_mix_72 rfl rfl ?_
          exact ⟨by rw [r_X12_mix, if_neg c_16, if_neg c_26, if_neg c_41, if_neg c_57], by rw [m_X12_mix, if_neg c_16, if_neg c_26, if_neg c_41, if_neg c_57]⟩
      · refine f_iconst (v := 2) dX12_mix_44 rfl ?_
        refine f_goto (tgt := 65) dX12_mix_45 (by decide) ?_
        refine f_cV hG (As := [_]) dX12_mix_65 rfl k_X12_fails rfl rfl ml_X12_63 im_X12_fails se_X12_fails rfl rfl (c_X12_failsT hG (d := 0) (Nat.le_refl _) _ _ _ (by decide)) (by omega) (Nat.le_of_ble_eq_true rfl) (Nat.zero_le _) (Nat.zero_le _) ?_
        refine f_if_eq (tgt := 73) dX12_mix_68 (by decide) (fun c_68 => absurd c_68 (by decide)) (fun c_68 => ?_)
        refine f_iconst (v := 0) dX12_mix_71 rfl ?_
        refine f_ireturn dX12_mix_72 rfl rfl ?_
        exact ⟨by rw [r_X12_mix, if_neg c_16, if_neg c_26, if_pos c_41], by rw [m_X12_mix, if_neg c_16, if_neg c_26, if_pos c_41]⟩
    · refine f_iconst (v := 1) dX12_mix_29 rfl ?_
      refine f_goto (tgt := 65) dX12_mix_30 (by decide) ?_
      refine f_cV hG (As := [_]) dX12_mix_65 rfl k_X12_fails rfl rfl ml_X12_63 im_X12_fails se_X12_fails rfl rfl (c_X12_failsT hG (d := 0) (Nat.le_refl _) _ _ _ (by decide)) (by omega) (Nat.le_of_ble_eq_true rfl) (Nat.zero_le _) (Nat.zero_le _) ?_
      refine f_if_eq (tgt := 73) dX12_mix_68 (by decide) (fun c_68 => absurd c_68 (by decide)) (fun c_68 => ?_)
      refine f_iconst (v := 0) dX12_mix_71 rfl ?_
      refine f_ireturn dX12_mix_72 rfl rfl ?_
      exact ⟨by rw [r_X12_mix, if_neg c_16, if_pos c_26], by rw [m_X12_mix, if_neg c_16, if_pos c_26]⟩

def r_X12_rawCount (M : fM) : Int32 := ((fst1 M 296 7 (0 : Int32)) 297 ((0 : Int32)).toNatClampNeg)
def m_X12_rawCount (M : fM) : fM := (fst1 M 296 7 (0 : Int32))
set_option maxRecDepth 100000 in
set_option maxHeartbeats 4000000 in
theorem c_X12_rawCount {G : fG} (hG : fOK G) {d : Nat} (hd : 0 ≤ d) (M : fM) (dv : UInt64) : fCt G z_X12_rawCount d [.ref 296] (sS M dv) 0 0 (fD (some (.int (r_X12_rawCount M))) (sS (m_X12_rawCount M) dv)) := by
  refine fCt_to [some (.ref 296)] k_X12_rawCount rfl (Nat.le_of_ble_eq_true rfl) rfl ?_
  refine f_aload_n dX12_rawCount_0 rfl rfl ?_
  refine f_iconst (v := 0) dX12_rawCount_1 rfl ?_
  refine s_puti hG fl_X12_45 (Or.inl rfl) dX12_rawCount_2 rfl rfl rfl rfl ?_
  refine f_aload_n dX12_rawCount_5 rfl rfl ?_
  refine s_getr hG fl_X12_7 dX12_rawCount_6 rfl rfl ?_
  refine f_iconst (v := 0) dX12_rawCount_9 rfl ?_
  refine s_iaload hG dX12_rawCount_10 rfl ((show ¬ ((0 : Int32) < 0 ∨ 127 ≤ (0 : Int32).toNatClampNeg) by decide)) ?_
  refine f_ireturn dX12_rawCount_11 rfl rfl ?_
  exact ⟨by rw [r_X12_rawCount], by rw [m_X12_rawCount]⟩

def r_X12_batchCount (M : fM) : Int32 := ((fst1 M 296 7 (0 : Int32)) 297 ((1 : Int32)).toNatClampNeg)
def m_X12_batchCount (M : fM) : fM := (fst1 M 296 7 (0 : Int32))
set_option maxRecDepth 100000 in
set_option maxHeartbeats 4000000 in
theorem c_X12_batchCount {G : fG} (hG : fOK G) {d : Nat} (hd : 0 ≤ d) (M : fM) (dv : UInt64) : fCt G z_X12_batchCount d [.ref 296] (sS M dv) 0 0 (fD (some (.int (r_X12_batchCount M))) (sS (m_X12_batchCount M) dv)) := by
  refine fCt_to [some (.ref 296)] k_X12_batchCount rfl (Nat.le_of_ble_eq_true rfl) rfl ?_
  refine f_aload_n dX12_batchCount_0 rfl rfl ?_
  refine f_iconst (v := 0) dX12_batchCount_1 rfl ?_
  refine s_puti hG fl_X12_45 (Or.inl rfl) dX12_batchCount_2 rfl rfl rfl rfl ?_
  refine f_aload_n dX12_batchCount_5 rfl rfl ?_
  refine s_getr hG fl_X12_7 dX12_batchCount_6 rfl rfl ?_
  refine f_iconst (v := 1) dX12_batchCount_9 rfl ?_
  refine s_iaload hG dX12_batchCount_10 rfl ((show ¬ ((1 : Int32) < 0 ∨ 127 ≤ (1 : Int32).toNatClampNeg) by decide)) ?_
  refine f_ireturn dX12_batchCount_11 rfl rfl ?_
  exact ⟨by rw [r_X12_batchCount], by rw [m_X12_batchCount]⟩

def r_X12_isFaulty (M : fM) (a : Int32) : Int32 := (if (r_X12_isRaw M a) = 0 then (0 : Int32) else (if ((((fst1 M 296 7 (0 : Int32)) 297 ((6 : Int32)).toNatClampNeg) >>> (a &&& 31)) &&& (1 : Int32)) = (1 : Int32) then (1 : Int32) else (0 : Int32)))
def m_X12_isFaulty (M : fM) (a : Int32) : fM := (if (r_X12_isRaw M a) = 0 then (fst1 M 296 7 (1 : Int32)) else (if ((((fst1 M 296 7 (0 : Int32)) 297 ((6 : Int32)).toNatClampNeg) >>> (a &&& 31)) &&& (1 : Int32)) = (1 : Int32) then (fst1 M 296 7 (0 : Int32)) else (fst1 M 296 7 (0 : Int32))))
theorem n_X12_isFaulty (M : fM) (a : Int32) : narrow .boolean (.int (r_X12_isFaulty M a)) = .int (r_X12_isFaulty M a) := by
  unfold r_X12_isFaulty
  repeat' with_reducible apply n_ite
  all_goals first | rfl | exact pk_nc _
set_option maxRecDepth 100000 in
set_option maxHeartbeats 4000000 in
theorem c_X12_isFaulty {G : fG} (hG : fOK G) {d : Nat} (hd : 2 ≤ d) (M : fM) (dv : UInt64) (a : Int32) : fCt G z_X12_isFaulty d [.ref 296, .int a] (sS M dv) 0 0 (fD (some (.int (r_X12_isFaulty M a))) (sS (m_X12_isFaulty M a) dv)) := by
  refine fCt_to [some (.ref 296), some (.int a)] k_X12_isFaulty rfl (Nat.le_of_ble_eq_true rfl) rfl ?_
  refine f_aload_n dX12_isFaulty_0 rfl rfl ?_
  refine f_aload_n dX12_isFaulty_1 rfl rfl ?_
  refine f_iload_n dX12_isFaulty_2 rfl rfl ?_
  refine f_cV hG (As := [_]) dX12_isFaulty_3 rfl k_X12_isRaw rfl rfl ml_X12_71 im_X12_isRaw se_X12_isRaw rfl rfl (c_X12_isRaw hG (d := 1) (Nat.le_refl _) _ _ _) (by omega) (Nat.le_of_ble_eq_true rfl) (Nat.zero_le _) (Nat.zero_le _) ?_
  refine f_if_eq (tgt := 13) dX12_isFaulty_6 (by decide) (fun c_6 => ?_) (fun c_6 => ?_)
  · refine f_iconst (v := 1) dX12_isFaulty_13 rfl ?_
    refine f_cV hG (As := [_]) dX12_isFaulty_14 rfl k_X12_fails rfl rfl ml_X12_63 im_X12_fails se_X12_fails rfl rfl (c_X12_failsT hG (d := 0) (Nat.le_refl _) _ _ _ (by decide)) (by omega) (Nat.le_of_ble_eq_true rfl) (Nat.zero_le _) (Nat.zero_le _) ?_
    refine f_if_ne (tgt := 39) dX12_isFaulty_17 (by decide) (fun c_17 => ?_) (fun c_17 => absurd c_17 (by decide))
    refine f_iconst (v := 0) dX12_isFaulty_39 rfl ?_
    refine f_ireturn dX12_isFaulty_40 rfl rfl ?_
    exact ⟨by rw [r_X12_isFaulty, if_pos c_6], by rw [m_X12_isFaulty, if_pos c_6]⟩
  · refine f_iconst (v := 0) dX12_isFaulty_9 rfl ?_
    refine f_goto (tgt := 14) dX12_isFaulty_10 (by decide) ?_
    refine f_cV hG (As := [_]) dX12_isFaulty_14 rfl k_X12_fails rfl rfl ml_X12_63 im_X12_fails se_X12_fails rfl rfl (c_X12_failsF hG (d := 0) (Nat.le_refl _) _ _ _ (by decide)) (by omega) (Nat.le_of_ble_eq_true rfl) (Nat.zero_le _) (Nat.zero_le _) ?_
    refine f_if_ne (tgt := 39) dX12_isFaulty_17 (by decide) (fun c_17 => absurd c_17 (by decide)) (fun c_17 => ?_)
    refine f_aload_n dX12_isFaulty_20 rfl rfl ?_
    refine s_getr hG fl_X12_7 dX12_isFaulty_21 rfl rfl ?_
    refine f_bipush (v := 6) dX12_isFaulty_24 (by decide) ?_
    refine s_iaload hG dX12_isFaulty_26 rfl ((show ¬ ((6 : Int32) < 0 ∨ 127 ≤ (6 : Int32).toNatClampNeg) by decide)) ?_
    refine f_iload_n dX12_isFaulty_27 rfl rfl ?_
    refine f_ishr dX12_isFaulty_28 ?_
    refine f_iconst (v := 1) dX12_isFaulty_29 rfl ?_
    refine f_iand dX12_isFaulty_30 ?_
    refine f_iconst (v := 1) dX12_isFaulty_31 rfl ?_
    refine f_icmp_ne (tgt := 39) dX12_isFaulty_32 (by decide) (fun c_32 => ?_) (fun c_32 => ?_)
    · refine f_iconst (v := 0) dX12_isFaulty_39 rfl ?_
      refine f_ireturn dX12_isFaulty_40 rfl rfl ?_
      exact ⟨by rw [r_X12_isFaulty, if_neg c_6, if_neg c_32], by rw [m_X12_isFaulty, if_neg c_6, if_neg c_32]⟩
    · refine f_iconst (v := 1) dX12_isFaulty_35 rfl ?_
      refine f_goto (tgt := 40) dX12_isFaulty_36 (by decide) ?_
      refine f_ireturn dX12_isFaulty_40 rfl rfl ?_
      exact ⟨by rw [r_X12_isFaulty, if_neg c_6, if_pos c_32], by rw [m_X12_isFaulty, if_neg c_6, if_pos c_32]⟩

def r_X12_strengthOf (M : fM) (a : Int32) : Int32 := (if (r_X12_isBatch M a) = 0 then (0 : Int32) else (r_X12_of (fst1 M 296 7 (0 : Int32)) a (0 : Int32)))
def m_X12_strengthOf (M : fM) (a : Int32) : fM := (if (r_X12_isBatch M a) = 0 then (fst1 M 296 7 (1 : Int32)) else (fst1 M 296 7 (0 : Int32)))
def N_X12_strengthOf (M : fM) (a : Int32) : Prop := (¬ ((r_X12_isBatch M a) = 0) → N_X12_of (fst1 M 296 7 (0 : Int32)) a (0 : Int32))
set_option maxRecDepth 100000 in
set_option maxHeartbeats 4000000 in
theorem c_X12_strengthOf {G : fG} (hG : fOK G) {d : Nat} (hd : 2 ≤ d) (M : fM) (dv : UInt64) (a : Int32) (hN : N_X12_strengthOf M a) : fCt G z_X12_strengthOf d [.ref 296, .int a] (sS M dv) 0 0 (fD (some (.int (r_X12_strengthOf M a))) (sS (m_X12_strengthOf M a) dv)) := by
  refine fCt_to [some (.ref 296), some (.int a)] k_X12_strengthOf rfl (Nat.le_of_ble_eq_true rfl) rfl ?_
  have q0 : ¬ ((r_X12_isBatch M a) = 0) → N_X12_of (fst1 M 296 7 (0 : Int32)) a (0 : Int32) := hN
  refine f_aload_n dX12_strengthOf_0 rfl rfl ?_
  refine f_aload_n dX12_strengthOf_1 rfl rfl ?_
  refine f_iload_n dX12_strengthOf_2 rfl rfl ?_
  refine f_cV hG (As := [_]) dX12_strengthOf_3 rfl k_X12_isBatch rfl rfl ml_X12_74 im_X12_isBatch se_X12_isBatch rfl rfl (c_X12_isBatch hG (d := 1) (Nat.le_refl _) _ _ _) (by omega) (Nat.le_of_ble_eq_true rfl) (Nat.zero_le _) (Nat.zero_le _) ?_
  refine f_if_eq (tgt := 13) dX12_strengthOf_6 (by decide) (fun c_6 => ?_) (fun c_6 => ?_)
  · refine f_iconst (v := 1) dX12_strengthOf_13 rfl ?_
    refine f_cV hG (As := [_]) dX12_strengthOf_14 rfl k_X12_fails rfl rfl ml_X12_63 im_X12_fails se_X12_fails rfl rfl (c_X12_failsT hG (d := 0) (Nat.le_refl _) _ _ _ (by decide)) (by omega) (Nat.le_of_ble_eq_true rfl) (Nat.zero_le _) (Nat.zero_le _) ?_
    refine f_if_eq (tgt := 24) dX12_strengthOf_17 (by decide) (fun c_17 => absurd c_17 (by decide)) (fun c_17 => ?_)
    refine f_iconst (v := 0) dX12_strengthOf_20 rfl ?_
    refine f_goto (tgt := 30) dX12_strengthOf_21 (by decide) ?_
    refine f_ireturn dX12_strengthOf_30 rfl rfl ?_
    exact ⟨by rw [r_X12_strengthOf, if_pos c_6], by rw [m_X12_strengthOf, if_pos c_6]⟩
  · refine f_iconst (v := 0) dX12_strengthOf_9 rfl ?_
    refine f_goto (tgt := 14) dX12_strengthOf_10 (by decide) ?_
    refine f_cV hG (As := [_]) dX12_strengthOf_14 rfl k_X12_fails rfl rfl ml_X12_63 im_X12_fails se_X12_fails rfl rfl (c_X12_failsF hG (d := 0) (Nat.le_refl _) _ _ _ (by decide)) (by omega) (Nat.le_of_ble_eq_true rfl) (Nat.zero_le _) (Nat.zero_le _) ?_
    refine f_if_eq (tgt := 24) dX12_strengthOf_17 (by decide) (fun c_17 => ?_) (fun c_17 => absurd c_17 (by decide))
    refine f_aload_n dX12_strengthOf_24 rfl rfl ?_
    refine f_iload_n dX12_strengthOf_25 rfl rfl ?_
    refine f_iconst (v := 0) dX12_strengthOf_26 rfl ?_
    refine f_cV hG (As := [_, _]) dX12_strengthOf_27 rfl k_X12_of rfl rfl ml_X12_77 im_X12_of se_X12_of rfl rfl (c_X12_of hG (d := 0) (Nat.le_refl _) _ _ _ _ (q0 c_6)) (by omega) (Nat.le_of_ble_eq_true rfl) (Nat.zero_le _) (Nat.zero_le _) ?_
    refine f_ireturn dX12_strengthOf_30 rfl rfl ?_
    exact ⟨by rw [r_X12_strengthOf, if_neg c_6], by rw [m_X12_strengthOf, if_neg c_6]⟩

def r_X12_batchContains (M : fM) (a : Int32) (b : Int32) : Int32 := (if (r_X12_isBatch M a) = 0 then (0 : Int32) else (if (r_X12_isRaw M b) = 0 then (0 : Int32) else (if (((r_X12_of (fst1 M 296 7 (0 : Int32)) a (1 : Int32)) >>> (b &&& 31)) &&& (1 : Int32)) = (1 : Int32) then (1 : Int32) else (0 : Int32))))
def m_X12_batchContains (M : fM) (a : Int32) (b : Int32) : fM := (if (r_X12_isBatch M a) = 0 then (fst1 M 296 7 (1 : Int32)) else (if (r_X12_isRaw M b) = 0 then (fst1 M 296 7 (1 : Int32)) else (if (((r_X12_of (fst1 M 296 7 (0 : Int32)) a (1 : Int32)) >>> (b &&& 31)) &&& (1 : Int32)) = (1 : Int32) then (fst1 M 296 7 (0 : Int32)) else (fst1 M 296 7 (0 : Int32)))))
theorem n_X12_batchContains (M : fM) (a : Int32) (b : Int32) : narrow .boolean (.int (r_X12_batchContains M a b)) = .int (r_X12_batchContains M a b) := by
  unfold r_X12_batchContains
  repeat' with_reducible apply n_ite
  all_goals first | rfl | exact pk_nc _
def N_X12_batchContains (M : fM) (a : Int32) (b : Int32) : Prop := (¬ ((r_X12_isBatch M a) = 0) → ¬ ((r_X12_isRaw M b) = 0) → N_X12_of (fst1 M 296 7 (0 : Int32)) a (1 : Int32))
set_option maxRecDepth 100000 in
set_option maxHeartbeats 4000000 in
theorem c_X12_batchContains {G : fG} (hG : fOK G) {d : Nat} (hd : 2 ≤ d) (M : fM) (dv : UInt64) (a : Int32) (b : Int32) (hN : N_X12_batchContains M a b) : fCt G z_X12_batchContains d [.ref 296, .int a, .int b] (sS M dv) 0 0 (fD (some (.int (r_X12_batchContains M a b))) (sS (m_X12_batchContains M a b) dv)) := by
  refine fCt_to [some (.ref 296), some (.int a), some (.int b)] k_X12_batchContains rfl (Nat.le_of_ble_eq_true rfl) rfl ?_
  have q0 : ¬ ((r_X12_isBatch M a) = 0) → ¬ ((r_X12_isRaw M b) = 0) → N_X12_of (fst1 M 296 7 (0 : Int32)) a (1 : Int32) := hN
  refine f_aload_n dX12_batchContains_0 rfl rfl ?_
  refine f_aload_n dX12_batchContains_1 rfl rfl ?_
  refine f_iload_n dX12_batchContains_2 rfl rfl ?_
  refine f_cV hG (As := [_]) dX12_batchContains_3 rfl k_X12_isBatch rfl rfl ml_X12_74 im_X12_isBatch se_X12_isBatch rfl rfl (c_X12_isBatch hG (d := 1) (Nat.le_refl _) _ _ _) (by omega) (Nat.le_of_ble_eq_true rfl) (Nat.zero_le _) (Nat.zero_le _) ?_
  refine f_if_eq (tgt := 21) dX12_batchContains_6 (by decide) (fun c_6 => ?_) (fun c_6 => ?_)
  · refine f_iconst (v := 1) dX12_batchContains_21 rfl ?_
    refine f_cV hG (As := [_]) dX12_batchContains_22 rfl k_X12_fails rfl rfl ml_X12_63 im_X12_fails se_X12_fails rfl rfl (c_X12_failsT hG (d := 0) (Nat.le_refl _) _ _ _ (by decide)) (by omega) (Nat.le_of_ble_eq_true rfl) (Nat.zero_le _) (Nat.zero_le _) ?_
    refine f_if_ne (tgt := 46) dX12_batchContains_25 (by decide) (fun c_25 => ?_) (fun c_25 => absurd c_25 (by decide))
    refine f_iconst (v := 0) dX12_batchContains_46 rfl ?_
    refine f_ireturn dX12_batchContains_47 rfl rfl ?_
    exact ⟨by rw [r_X12_batchContains, if_pos c_6], by rw [m_X12_batchContains, if_pos c_6]⟩
  · refine f_aload_n dX12_batchContains_9 rfl rfl ?_
    refine f_iload_n dX12_batchContains_10 rfl rfl ?_
    refine f_cV hG (As := [_]) dX12_batchContains_11 rfl k_X12_isRaw rfl rfl ml_X12_71 im_X12_isRaw se_X12_isRaw rfl rfl (c_X12_isRaw hG (d := 1) (Nat.le_refl _) _ _ _) (by omega) (Nat.le_of_ble_eq_true rfl) (Nat.zero_le _) (Nat.zero_le _) ?_
    refine f_if_eq (tgt := 21) dX12_batchContains_14 (by decide) (fun c_14 => ?_) (fun c_14 => ?_)
    · refine f_iconst (v := 1) dX12_batchContains_21 rfl ?_
      refine f_cV hG (As := [_]) dX12_batchContains_22 rfl k_X12_fails rfl rfl ml_X12_63 im_X12_fails se_X12_fails rfl rfl (c_X12_failsT hG (d := 0) (Nat.le_refl _) _ _ _ (by decide)) (by omega) (Nat.le_of_ble_eq_true rfl) (Nat.zero_le _) (Nat.zero_le _) ?_
      refine f_if_ne (tgt := 46) dX12_batchContains_25 (by decide) (fun c_25 => ?_) (fun c_25 => absurd c_25 (by decide))
      refine f_iconst (v := 0) dX12_batchContains_46 rfl ?_
      refine f_ireturn dX12_batchContains_47 rfl rfl ?_
      exact ⟨by rw [r_X12_batchContains, if_neg c_6, if_pos c_14], by rw [m_X12_batchContains, if_neg c_6, if_pos c_14]⟩
    · refine f_iconst (v := 0) dX12_batchContains_17 rfl ?_
      refine f_goto (tgt := 22) dX12_batchContains_18 (by decide) ?_
      refine f_cV hG (As := [_]) dX12_batchContains_22 rfl k_X12_fails rfl rfl ml_X12_63 im_X12_fails se_X12_fails rfl rfl (c_X12_failsF hG (d := 0) (Nat.le_refl _) _ _ _ (by decide)) (by omega) (Nat.le_of_ble_eq_true rfl) (Nat.zero_le _) (Nat.zero_le _) ?_
      refine f_if_ne (tgt := 46) dX12_batchContains_25 (by decide) (fun c_25 => absurd c_25 (by decide)) (fun c_25 => ?_)
      refine f_aload_n dX12_batchContains_28 rfl rfl ?_
      refine f_iload_n dX12_batchContains_29 rfl rfl ?_
      refine f_iconst (v := 1) dX12_batchContains_30 rfl ?_
      refine f_cV hG (As := [_, _]) dX12_batchContains_31 rfl k_X12_of rfl rfl ml_X12_77 im_X12_of se_X12_of rfl rfl (c_X12_of hG (d := 0) (Nat.le_refl _) _ _ _ _ (q0 c_6 c_14)) (by omega) (Nat.le_of_ble_eq_true rfl) (Nat.zero_le _) (Nat.zero_le _) ?_
      refine f_iload_n dX12_batchContains_34 rfl rfl ?_
      refine f_ishr dX12_batchContains_35 ?_
      refine f_iconst (v := 1) dX12_batchContains_36 rfl ?_
      refine f_iand dX12_batchContains_37 ?_
      refine f_iconst (v := 1) dX12_batchContains_38 rfl ?_
      refine f_icmp_ne (tgt := 46) dX12_batchContains_39 (by decide) (fun c_39 => ?_) (fun c_39 => ?_)
      · refine f_iconst (v := 0) dX12_batchContains_46 rfl ?_
        refine f_ireturn dX12_batchContains_47 rfl rfl ?_
        exact ⟨by rw [r_X12_batchContains, if_neg c_6, if_neg c_14, if_neg c_39], by rw [m_X12_batchContains, if_neg c_6, if_neg c_14, if_neg c_39]⟩
      · refine f_iconst (v := 1) dX12_batchContains_42 rfl ?_
        refine f_goto (tgt := 47) dX12_batchContains_43 (by decide) ?_
        refine f_ireturn dX12_batchContains_47 rfl rfl ?_
        exact ⟨by rw [r_X12_batchContains, if_neg c_6, if_neg c_14, if_pos c_39], by rw [m_X12_batchContains, if_neg c_6, if_neg c_14, if_pos c_39]⟩

def r_X12_isLabel (M : fM) (a : Int32) : Int32 := (r_X12_in M a (0 : Int32) ((M 297 ((2 : Int32)).toNatClampNeg) - (1 : Int32)))
theorem n_X12_isLabel (M : fM) (a : Int32) : narrow .boolean (.int (r_X12_isLabel M a)) = .int (r_X12_isLabel M a) := by
  unfold r_X12_isLabel
  repeat' with_reducible apply n_ite
  all_goals first | with_reducible exact n_X12_in .. | rfl | exact pk_nc _
set_option maxRecDepth 100000 in
set_option maxHeartbeats 4000000 in
theorem c_X12_isLabel {G : fG} (hG : fOK G) {d : Nat} (hd : 1 ≤ d) (M : fM) (dv : UInt64) (a : Int32) : fCt G z_X12_isLabel d [.ref 296, .int a] (sS M dv) 0 0 (fD (some (.int (r_X12_isLabel M a))) (sS M dv)) := by
  refine fCt_to [some (.ref 296), some (.int a)] k_X12_isLabel rfl (Nat.le_of_ble_eq_true rfl) rfl ?_
  refine f_iload_n dX12_isLabel_0 rfl rfl ?_
  refine f_iconst (v := 0) dX12_isLabel_1 rfl ?_
  refine f_aload_n dX12_isLabel_2 rfl rfl ?_
  refine s_getr hG fl_X12_7 dX12_isLabel_3 rfl rfl ?_
  refine f_iconst (v := 2) dX12_isLabel_6 rfl ?_
  refine s_iaload hG dX12_isLabel_7 rfl ((show ¬ ((2 : Int32) < 0 ∨ 127 ≤ (2 : Int32).toNatClampNeg) by decide)) ?_
  refine f_iconst (v := 1) dX12_isLabel_8 rfl ?_
  refine f_isub dX12_isLabel_9 ?_
  refine f_cS hG (As := [_, _, _]) dX12_isLabel_10 rfl k_X12_in rfl rfl ml_X12_59 sm_X12_in (c_X12_in hG (d := 0) (Nat.le_refl _) _ _ _ _ _) (by omega) (Nat.le_of_ble_eq_true rfl) (Nat.zero_le _) (Nat.zero_le _) ?_
  refine f_ireturn dX12_isLabel_13 rfl (n_X12_in ..) ?_
  exact ⟨by rw [r_X12_isLabel], rfl⟩

def r_X12_sign (M : fM) (a : Int32) (b : Int32) : Int32 := (M 297 ((((23 : Int32) + ((7 : Int32) * a)) + b)).toNatClampNeg)
def N_X12_sign (M : fM) (a : Int32) (b : Int32) : Prop := (vp_in (((23 : Int32) + ((7 : Int32) * a)) + b) 127)
set_option maxRecDepth 100000 in
set_option maxHeartbeats 4000000 in
theorem c_X12_sign {G : fG} (hG : fOK G) {d : Nat} (hd : 0 ≤ d) (M : fM) (dv : UInt64) (a : Int32) (b : Int32) (hN : N_X12_sign M a b) : fCt G z_X12_sign d [.ref 296, .int a, .int b] (sS M dv) 0 0 (fD (some (.int (r_X12_sign M a b))) (sS M dv)) := by
  refine fCt_to [some (.ref 296), some (.int a), some (.int b)] k_X12_sign rfl (Nat.le_of_ble_eq_true rfl) rfl ?_
  have q0 : vp_in (((23 : Int32) + ((7 : Int32) * a)) + b) 127 := hN
  refine f_aload_n dX12_sign_0 rfl rfl ?_
  refine s_getr hG fl_X12_7 dX12_sign_1 rfl rfl ?_
  refine f_bipush (v := 23) dX12_sign_4 (by decide) ?_
  refine f_bipush (v := 7) dX12_sign_6 (by decide) ?_
  refine f_iload_n dX12_sign_8 rfl rfl ?_
  refine f_imul dX12_sign_9 ?_
  refine f_iadd dX12_sign_10 ?_
  refine f_iload_n dX12_sign_11 rfl rfl ?_
  refine f_iadd dX12_sign_12 ?_
  refine s_iaload hG dX12_sign_13 rfl (q0) ?_
  refine f_ireturn dX12_sign_14 rfl rfl ?_
  exact ⟨by rw [r_X12_sign], rfl⟩

def l_X12_isWritten (a : Int32) (M : fM) : Nat → Nat → Int32
  | 0, _ => 0
  | m + 1, j => (if (M 296 9) ≤ (nI j) then (r_X12_in M (M 296 9) (1 : Int32) a) else (if (r_X12_in M (M 301 ((nI j)).toNatClampNeg) (97 : Int32) (104 : Int32)) = 0 then (0 : Int32) else (l_X12_isWritten a M m (j + 1))))
set_option maxRecDepth 100000 in
set_option maxHeartbeats 4000000 in
theorem lp_X12_isWritten {G : fG} (hG : fOK G) {d : Nat} (hd : 1 ≤ d) (M : fM) (dv : UInt64) (a : Int32) (q0 : ∀ (j : Nat), j ≤ 60 → ¬ ((M 296 9) ≤ (nI j)) → j < 60) : ∀ (m j : Nat), j ≤ 60 → 60 + 1 ≤ j + m → fV G z_X12_isWritten d (fD (some (.int (l_X12_isWritten a M m j))) (sS M dv)) 2 [some (.ref 296), some (.int a), some (.int (nI j))] [] (sS M dv) 0 0 := by
  intro m
  induction m with
  | zero => intros; omega
  | succ m ih =>
    intro j hj hm
    refine f_iload_n dX12_isWritten_2 rfl rfl ?_
    refine f_aload_n dX12_isWritten_3 rfl rfl ?_
    refine s_geti hG fl_X12_81 dX12_isWritten_4 rfl rfl ?_
    refine f_icmp_ge (tgt := 34) dX12_isWritten_7 (by decide) (fun c_7 => ?_) (fun c_7 => ?_)
    · refine f_aload_n dX12_isWritten_34 rfl rfl ?_
      refine s_geti hG fl_X12_81 dX12_isWritten_35 rfl rfl ?_
      refine f_iconst (v := 1) dX12_isWritten_38 rfl ?_
      refine f_iload_n dX12_isWritten_39 rfl rfl ?_
      refine f_cS hG (As := [_, _, _]) dX12_isWritten_40 rfl k_X12_in rfl rfl ml_X12_59 sm_X12_in (c_X12_in hG (d := 0) (Nat.le_refl _) _ _ _ _ _) (by omega) (Nat.le_of_ble_eq_true rfl) (Nat.zero_le _) (Nat.zero_le _) ?_
      refine f_ireturn dX12_isWritten_43 rfl (n_X12_in ..) ?_
      exact ⟨by rw [l_X12_isWritten, if_pos c_7], rfl⟩
    · have hlt : j < 60 := (q0 j hj c_7)
      refine f_aload_n dX12_isWritten_10 rfl rfl ?_
      refine s_getr hG fl_X12_22 dX12_isWritten_11 rfl rfl ?_
      refine f_iload_n dX12_isWritten_14 rfl rfl ?_
      refine s_iaload hG dX12_isWritten_15 rfl ((vp_in_nI (by omega) (by decide))) ?_
      refine f_bipush (v := 97) dX12_isWritten_16 (by decide) ?_
      refine f_bipush (v := 104) dX12_isWritten_18 (by decide) ?_
      refine f_cS hG (As := [_, _, _]) dX12_isWritten_20 rfl k_X12_in rfl rfl ml_X12_59 sm_X12_in (c_X12_in hG (d := 0) (Nat.le_refl _) _ _ _ _ _) (by omega) (Nat.le_of_ble_eq_true rfl) (Nat.zero_le _) (Nat.zero_le _) ?_
      refine f_if_ne (tgt := 28) dX12_isWritten_23 (by decide) (fun c_23 => ?_) (fun c_23 => ?_)
      · refine f_iinc (v := nI (j + 1)) (ls' := [_, _, _]) dX12_isWritten_28 rfl (nI_1 j) (Nat.le_of_ble_eq_true rfl) rfl rfl ?_
        refine f_goto (tgt := 2) dX12_isWritten_31 (by decide) ?_
        have e9 : l_X12_isWritten a M (m + 1) j = l_X12_isWritten a M m (j + 1) := by rw [l_X12_isWritten, if_neg c_7, if_neg c_23]
        rw [e9]
        exact ih (j + 1) (by omega) (by omega)
      · refine f_iconst (v := 0) dX12_isWritten_26 rfl ?_
        refine f_ireturn dX12_isWritten_27 rfl rfl ?_
        exact ⟨by rw [l_X12_isWritten, if_neg c_7, if_pos c_23], rfl⟩
def r_X12_isWritten (M : fM) (a : Int32) : Int32 := (l_X12_isWritten a M 61 0)
theorem n_l_X12_isWritten (a : Int32) : ∀ (m j : Nat) (M : fM), narrow .boolean (.int (l_X12_isWritten a M m j)) = .int (l_X12_isWritten a M m j) := by
  intro m
  induction m with
  | zero => intros; unfold l_X12_isWritten; first | rfl | (dsimp only; rfl)
  | succ m ih =>
    intro j M
    unfold l_X12_isWritten
    repeat' split
    all_goals (try dsimp only)
    all_goals first | rfl | exact pk_nc _ | exact ih _ _ .. | exact n_X12_in ..
theorem n_X12_isWritten (M : fM) (a : Int32) : narrow .boolean (.int (r_X12_isWritten M a)) = .int (r_X12_isWritten M a) := by
  unfold r_X12_isWritten
  exact n_l_X12_isWritten ..
def N_X12_isWritten (M : fM) (a : Int32) : Prop := (∀ (j : Nat), j ≤ 60 → ¬ ((M 296 9) ≤ (nI j)) → j < 60)
set_option maxRecDepth 100000 in
set_option maxHeartbeats 4000000 in
theorem c_X12_isWritten {G : fG} (hG : fOK G) {d : Nat} (hd : 1 ≤ d) (M : fM) (dv : UInt64) (a : Int32) (hN : N_X12_isWritten M a) : fCt G z_X12_isWritten d [.ref 296, .int a] (sS M dv) 0 0 (fD (some (.int (r_X12_isWritten M a))) (sS M dv)) := by
  refine fCt_to [some (.ref 296), some (.int a), none] k_X12_isWritten rfl (Nat.le_of_ble_eq_true rfl) rfl ?_
  have q0 : ∀ (j : Nat), j ≤ 60 → ¬ ((M 296 9) ≤ (nI j)) → j < 60 := hN
  refine f_iconst (v := 0) dX12_isWritten_0 rfl ?_
  refine f_istore_n (ls' := [_, _, _]) dX12_isWritten_1 rfl (Nat.le_of_ble_eq_true rfl) rfl rfl ?_
  exact lp_X12_isWritten hG hd _ dv a q0 61 0 (by omega) (by omega)

def l_X12_isThereI (lv : Int32) (M : fM) : Nat → Nat → Int32 → Int32
  | 0, _, v2 => v2
  | m + 1, j, v2 => (if (M 296 9) ≤ (nI j) then v2 else (if v2 = 0 then v2 else (if (r_X12_sign M lv ((1 : Int32) + (nI j))) = (M 301 ((nI j)).toNatClampNeg) then (l_X12_isThereI lv M m (j + 1) (1 : Int32)) else (l_X12_isThereI lv M m (j + 1) (0 : Int32)))))
set_option maxRecDepth 100000 in
set_option maxHeartbeats 4000000 in
theorem lc_X12_isThereI {G : fG} (hG : fOK G) {d : Nat} (hd : 1 ≤ d) (M : fM) (dv : UInt64) (lv : Int32) (q0 : ∀ (j : Nat) (v2 : Int32), j ≤ 60 → ¬ ((M 296 9) ≤ (nI j)) → ¬ (v2 = 0) → j < 60) (q1 : ∀ (j : Nat) (v2 : Int32), j ≤ 60 → ¬ ((M 296 9) ≤ (nI j)) → ¬ (v2 = 0) → N_X12_sign M lv ((1 : Int32) + (nI j))) {Q : fR → fS → Prop} {kc ks : Nat} : ∀ (m j : Nat) (v2 : Int32), j ≤ 60 → 60 + 1 ≤ j + m → fV G z_X12_isThere d Q 74 [some (.ref 296), some (.int lv), some (.int (l_X12_isThereI lv M m j v2)), none] [] (sS M dv) kc ks → fV G z_X12_isThere d Q 33 [some (.ref 296), some (.int lv), some (.int v2), some (.int (nI j))] [] (sS M dv) kc ks := by
  intro m
  induction m with
  | zero => intros; omega
  | succ m ih =>
    intro j v2 hj hm kk
    refine f_iload_n dX12_isThere_33 rfl rfl ?_
    refine f_aload_n dX12_isThere_34 rfl rfl ?_
    refine s_geti hG fl_X12_81 dX12_isThere_35 rfl rfl ?_
    refine f_icmp_ge (tgt := 74) dX12_isThere_38 (by decide) (fun c_38 => ?_) (fun c_38 => ?_)
    · have e9 : l_X12_isThereI lv M (m + 1) j v2 = v2 := by rw [l_X12_isThereI, if_pos c_38]
      rw [e9] at kk
      refine f_drop 3 ?_
      exact kk
    · refine f_iload_n dX12_isThere_41 rfl rfl ?_
      refine f_if_eq (tgt := 74) dX12_isThere_42 (by decide) (fun c_42 => ?_) (fun c_42 => ?_)
      · have e9 : l_X12_isThereI lv M (m + 1) j v2 = v2 := by rw [l_X12_isThereI, if_neg c_38, if_pos c_42]
        rw [e9] at kk
        refine f_drop 3 ?_
        exact kk
      · have hlt : j < 60 := (q0 j v2 hj c_38 c_42)
        refine f_aload_n dX12_isThere_45 rfl rfl ?_
        refine f_iload_n dX12_isThere_46 rfl rfl ?_
        refine f_iconst (v := 1) dX12_isThere_47 rfl ?_
        refine f_iload_n dX12_isThere_48 rfl rfl ?_
        refine f_iadd dX12_isThere_49 ?_
        refine f_cV hG (As := [_, _]) dX12_isThere_50 rfl k_X12_sign rfl rfl ml_X12_84 im_X12_sign se_X12_sign rfl rfl (c_X12_sign hG (d := 0) (Nat.le_refl _) _ _ _ _ (q1 j v2 hj c_38 c_42)) (by omega) (Nat.le_of_ble_eq_true rfl) (Nat.zero_le _) (Nat.zero_le _) ?_
        refine f_aload_n dX12_isThere_53 rfl rfl ?_
        refine s_getr hG fl_X12_22 dX12_isThere_54 rfl rfl ?_
        refine f_iload_n dX12_isThere_57 rfl rfl ?_
        refine s_iaload hG dX12_isThere_58 rfl ((vp_in_nI (by omega) (by decide))) ?_
        refine f_icmp_ne (tgt := 66) dX12_isThere_59 (by decide) (fun c_59 => ?_) (fun c_59 => ?_)
        · refine f_iconst (v := 0) dX12_isThere_66 rfl ?_
          refine f_istore_n (ls' := [_, _, _, _]) dX12_isThere_67 rfl (Nat.le_of_ble_eq_true rfl) rfl rfl ?_
          refine f_iinc (v := nI (j + 1)) (ls' := [_, _, _, _]) dX12_isThere_68 rfl (nI_1 j) (Nat.le_of_ble_eq_true rfl) rfl rfl ?_
          refine f_goto (tgt := 33) dX12_isThere_71 (by decide) ?_
          have e9 : l_X12_isThereI lv M (m + 1) j v2 = l_X12_isThereI lv M m (j + 1) (0 : Int32) := by rw [l_X12_isThereI, if_neg c_38, if_neg c_42, if_neg c_59]
          exact ih (j + 1) (0 : Int32) (by omega) (by omega) (by rw [e9] at kk; exact kk)
        · refine f_iconst (v := 1) dX12_isThere_62 rfl ?_
          refine f_goto (tgt := 67) dX12_isThere_63 (by decide) ?_
          refine f_istore_n (ls' := [_, _, _, _]) dX12_isThere_67 rfl (Nat.le_of_ble_eq_true rfl) rfl rfl ?_
          refine f_iinc (v := nI (j + 1)) (ls' := [_, _, _, _]) dX12_isThere_68 rfl (nI_1 j) (Nat.le_of_ble_eq_true rfl) rfl rfl ?_
          refine f_goto (tgt := 33) dX12_isThere_71 (by decide) ?_
          have e9 : l_X12_isThereI lv M (m + 1) j v2 = l_X12_isThereI lv M m (j + 1) (1 : Int32) := by rw [l_X12_isThereI, if_neg c_38, if_neg c_42, if_pos c_59]
          exact ih (j + 1) (1 : Int32) (by omega) (by omega) (by rw [e9] at kk; exact kk)

def l_X12_isThere (M : fM) : Nat → Nat → Int32
  | 0, _ => 0
  | m + 1, j => (if (M 297 ((2 : Int32)).toNatClampNeg) ≤ (nI j) then (0 : Int32) else (if (r_X12_sign M (nI j) (0 : Int32)) = (M 296 9) then (if (l_X12_isThereI (nI j) M 61 0 (1 : Int32)) = 0 then (l_X12_isThere M m (j + 1)) else (1 : Int32)) else (if (l_X12_isThereI (nI j) M 61 0 (0 : Int32)) = 0 then (l_X12_isThere M m (j + 1)) else (1 : Int32))))
set_option maxRecDepth 100000 in
set_option maxHeartbeats 4000000 in
theorem lp_X12_isThere {G : fG} (hG : fOK G) {d : Nat} (hd : 1 ≤ d) (M : fM) (dv : UInt64) (q0 : ∀ (j : Nat), j ≤ 8 → ¬ ((M 297 ((2 : Int32)).toNatClampNeg) ≤ (nI j)) → j < 8) (q1 : ∀ (j : Nat), j ≤ 8 → ¬ ((M 297 ((2 : Int32)).toNatClampNeg) ≤ (nI j)) → N_X12_sign M (nI j) (0 : Int32)) (q2 : ∀ (j : Nat), j ≤ 8 → ¬ ((M 297 ((2 : Int32)).toNatClampNeg) ≤ (nI j)) → ¬ ((r_X12_sign M (nI j) (0 : Int32)) = (M 296 9)) → ∀ (j_73 : Nat) (v2_73 : Int32), j_73 ≤ 60 → ¬ ((M 296 9) ≤ (nI j_73)) → ¬ (v2_73 = 0) → j_73 < 60) (q3 : ∀ (j : Nat), j ≤ 8 → ¬ ((M 297 ((2 : Int32)).toNatClampNeg) ≤ (nI j)) → ¬ ((r_X12_sign M (nI j) (0 : Int32)) = (M 296 9)) → ∀ (j_74 : Nat) (v2_74 : Int32), j_74 ≤ 60 → ¬ ((M 296 9) ≤ (nI j_74)) → ¬ (v2_74 = 0) → N_X12_sign M (nI j) ((1 : Int32) + (nI j_74))) (q4 : ∀ (j : Nat), j ≤ 8 → ¬ ((M 297 ((2 : Int32)).toNatClampNeg) ≤ (nI j)) → ((r_X12_sign M (nI j) (0 : Int32)) = (M 296 9)) → ∀ (j_75 : Nat) (v2_75 : Int32), j_75 ≤ 60 → ¬ ((M 296 9) ≤ (nI j_75)) → ¬ (v2_75 = 0) → j_75 < 60) (q5 : ∀ (j : Nat), j ≤ 8 → ¬ ((M 297 ((2 : Int32)).toNatClampNeg) ≤ (nI j)) → ((r_X12_sign M (nI j) (0 : Int32)) = (M 296 9)) → ∀ (j_76 : Nat) (v2_76 : Int32), j_76 ≤ 60 → ¬ ((M 296 9) ≤ (nI j_76)) → ¬ (v2_76 = 0) → N_X12_sign M (nI j) ((1 : Int32) + (nI j_76))) : ∀ (m j : Nat), j ≤ 8 → 8 + 1 ≤ j + m → fV G z_X12_isThere d (fD (some (.int (l_X12_isThere M m j))) (sS M dv)) 2 [some (.ref 296), some (.int (nI j)), none, none] [] (sS M dv) 0 0 := by
  intro m
  induction m with
  | zero => intros; omega
  | succ m ih =>
    intro j hj hm
    refine f_iload_n dX12_isThere_2 rfl rfl ?_
    refine f_aload_n dX12_isThere_3 rfl rfl ?_
    refine s_getr hG fl_X12_7 dX12_isThere_4 rfl rfl ?_
    refine f_iconst (v := 2) dX12_isThere_7 rfl ?_
    refine s_iaload hG dX12_isThere_8 rfl ((show ¬ ((2 : Int32) < 0 ∨ 127 ≤ (2 : Int32).toNatClampNeg) by decide)) ?_
    refine f_icmp_ge (tgt := 86) dX12_isThere_9 (by decide) (fun c_9 => ?_) (fun c_9 => ?_)
    · refine f_iconst (v := 0) dX12_isThere_86 rfl ?_
      refine f_ireturn dX12_isThere_87 rfl rfl ?_
      exact ⟨by rw [l_X12_isThere, if_pos c_9], rfl⟩
    · have hlt : j < 8 := (q0 j hj c_9)
      refine f_aload_n dX12_isThere_12 rfl rfl ?_
      refine f_iload_n dX12_isThere_13 rfl rfl ?_
      refine f_iconst (v := 0) dX12_isThere_14 rfl ?_
      refine f_cV hG (As := [_, _]) dX12_isThere_15 rfl k_X12_sign rfl rfl ml_X12_84 im_X12_sign se_X12_sign rfl rfl (c_X12_sign hG (d := 0) (Nat.le_refl _) _ _ _ _ (q1 j hj c_9)) (by omega) (Nat.le_of_ble_eq_true rfl) (Nat.zero_le _) (Nat.zero_le _) ?_
      refine f_aload_n dX12_isThere_18 rfl rfl ?_
      refine s_geti hG fl_X12_81 dX12_isThere_19 rfl rfl ?_
      refine f_icmp_ne (tgt := 29) dX12_isThere_22 (by decide) (fun c_22 => ?_) (fun c_22 => ?_)
      · refine f_iconst (v := 0) dX12_isThere_29 rfl ?_
        refine f_istore_n (ls' := [_, _, _, _]) dX12_isThere_30 rfl (Nat.le_of_ble_eq_true rfl) rfl rfl ?_
        refine f_iconst (v := 0) dX12_isThere_31 rfl ?_
        refine f_istore_n (ls' := [_, _, _, _]) dX12_isThere_32 rfl (Nat.le_of_ble_eq_true rfl) rfl rfl ?_
        refine lc_X12_isThereI hG (by omega) _ dv _ (q2 j hj c_9 c_22) (q3 j hj c_9 c_22) 61 0 _ (by omega) (by omega) ?_
        refine f_iload_n dX12_isThere_74 rfl rfl ?_
        refine f_if_eq (tgt := 80) dX12_isThere_75 (by decide) (fun c_75 => ?_) (fun c_75 => ?_)
        · refine f_iinc (v := nI (j + 1)) (ls' := [_, _, _, _]) dX12_isThere_80 rfl (nI_1 j) (Nat.le_of_ble_eq_true rfl) rfl rfl ?_
          refine f_goto (tgt := 2) dX12_isThere_83 (by decide) ?_
          have e9 : l_X12_isThere M (m + 1) j = l_X12_isThere M m (j + 1) := by rw [l_X12_isThere, if_neg c_9, if_neg c_22, if_pos c_75]
          rw [e9]
          refine f_drop 2 ?_
          refine f_drop 3 ?_
          exact ih (j + 1) (by omega) (by omega)
        · refine f_iconst (v := 1) dX12_isThere_78 rfl ?_
          refine f_ireturn dX12_isThere_79 rfl rfl ?_
          exact ⟨by rw [l_X12_isThere, if_neg c_9, if_neg c_22, if_neg c_75], rfl⟩
      · refine f_iconst (v := 1) dX12_isThere_25 rfl ?_
        refine f_goto (tgt := 30) dX12_isThere_26 (by decide) ?_
        refine f_istore_n (ls' := [_, _, _, _]) dX12_isThere_30 rfl (Nat.le_of_ble_eq_true rfl) rfl rfl ?_
        refine f_iconst (v := 0) dX12_isThere_31 rfl ?_
        refine f_istore_n (ls' := [_, _, _, _]) dX12_isThere_32 rfl (Nat.le_of_ble_eq_true rfl) rfl rfl ?_
        refine lc_X12_isThereI hG (by omega) _ dv _ (q4 j hj c_9 c_22) (q5 j hj c_9 c_22) 61 0 _ (by omega) (by omega) ?_
        refine f_iload_n dX12_isThere_74 rfl rfl ?_
        refine f_if_eq (tgt := 80) dX12_isThere_75 (by decide) (fun c_75 => ?_) (fun c_75 => ?_)
        · refine f_iinc (v := nI (j + 1)) (ls' := [_, _, _, _]) dX12_isThere_80 rfl (nI_1 j) (Nat.le_of_ble_eq_true rfl) rfl rfl ?_
          refine f_goto (tgt := 2) dX12_isThere_83 (by decide) ?_
          have e9 : l_X12_isThere M (m + 1) j = l_X12_isThere M m (j + 1) := by rw [l_X12_isThere, if_neg c_9, if_pos c_22, if_pos c_75]
          rw [e9]
          refine f_drop 2 ?_
          refine f_drop 3 ?_
          exact ih (j + 1) (by omega) (by omega)
        · refine f_iconst (v := 1) dX12_isThere_78 rfl ?_
          refine f_ireturn dX12_isThere_79 rfl rfl ?_
          exact ⟨by rw [l_X12_isThere, if_neg c_9, if_pos c_22, if_neg c_75], rfl⟩
def r_X12_isThere (M : fM) : Int32 := (l_X12_isThere M 9 0)
theorem n_l_X12_isThere : ∀ (m j : Nat) (M : fM), narrow .boolean (.int (l_X12_isThere M m j)) = .int (l_X12_isThere M m j) := by
  intro m
  induction m with
  | zero => intros; unfold l_X12_isThere; first | rfl | (dsimp only; rfl)
  | succ m ih =>
    intro j M
    unfold l_X12_isThere
    repeat' split
    all_goals (try dsimp only)
    all_goals first | rfl | exact pk_nc _ | exact ih _ _ ..
theorem n_X12_isThere (M : fM) : narrow .boolean (.int (r_X12_isThere M)) = .int (r_X12_isThere M) := by
  unfold r_X12_isThere
  exact n_l_X12_isThere ..
def N_X12_isThere (M : fM) : Prop := (∀ (j : Nat), j ≤ 8 → ¬ ((M 297 ((2 : Int32)).toNatClampNeg) ≤ (nI j)) → j < 8) ∧ (∀ (j : Nat), j ≤ 8 → ¬ ((M 297 ((2 : Int32)).toNatClampNeg) ≤ (nI j)) → N_X12_sign M (nI j) (0 : Int32)) ∧ (∀ (j : Nat), j ≤ 8 → ¬ ((M 297 ((2 : Int32)).toNatClampNeg) ≤ (nI j)) → ¬ ((r_X12_sign M (nI j) (0 : Int32)) = (M 296 9)) → ∀ (j_73 : Nat) (v2_73 : Int32), j_73 ≤ 60 → ¬ ((M 296 9) ≤ (nI j_73)) → ¬ (v2_73 = 0) → j_73 < 60) ∧ (∀ (j : Nat), j ≤ 8 → ¬ ((M 297 ((2 : Int32)).toNatClampNeg) ≤ (nI j)) → ¬ ((r_X12_sign M (nI j) (0 : Int32)) = (M 296 9)) → ∀ (j_74 : Nat) (v2_74 : Int32), j_74 ≤ 60 → ¬ ((M 296 9) ≤ (nI j_74)) → ¬ (v2_74 = 0) → N_X12_sign M (nI j) ((1 : Int32) + (nI j_74))) ∧ (∀ (j : Nat), j ≤ 8 → ¬ ((M 297 ((2 : Int32)).toNatClampNeg) ≤ (nI j)) → ((r_X12_sign M (nI j) (0 : Int32)) = (M 296 9)) → ∀ (j_75 : Nat) (v2_75 : Int32), j_75 ≤ 60 → ¬ ((M 296 9) ≤ (nI j_75)) → ¬ (v2_75 = 0) → j_75 < 60) ∧ (∀ (j : Nat), j ≤ 8 → ¬ ((M 297 ((2 : Int32)).toNatClampNeg) ≤ (nI j)) → ((r_X12_sign M (nI j) (0 : Int32)) = (M 296 9)) → ∀ (j_76 : Nat) (v2_76 : Int32), j_76 ≤ 60 → ¬ ((M 296 9) ≤ (nI j_76)) → ¬ (v2_76 = 0) → N_X12_sign M (nI j) ((1 : Int32) + (nI j_76)))
set_option maxRecDepth 100000 in
set_option maxHeartbeats 4000000 in
theorem c_X12_isThere {G : fG} (hG : fOK G) {d : Nat} (hd : 1 ≤ d) (M : fM) (dv : UInt64) (hN : N_X12_isThere M) : fCt G z_X12_isThere d [.ref 296] (sS M dv) 0 0 (fD (some (.int (r_X12_isThere M))) (sS M dv)) := by
  refine fCt_to [some (.ref 296), none, none, none] k_X12_isThere rfl (Nat.le_of_ble_eq_true rfl) rfl ?_
  obtain ⟨q0, q1, q2, q3, q4, q5⟩ := hN
  refine f_iconst (v := 0) dX12_isThere_0 rfl ?_
  refine f_istore_n (ls' := [_, _, _, _]) dX12_isThere_1 rfl (Nat.le_of_ble_eq_true rfl) rfl rfl ?_
  exact lp_X12_isThere hG hd _ dv q0 q1 q2 q3 q4 q5 9 0 (by omega) (by omega)

def l_X12_addLabelA (mn : Int32) (av : Int32) : fM → Nat → Nat → fM
  | M, 0, _ => M
  | M, m + 1, j => (if (7 : Int32) ≤ (nI j) then M else (l_X12_addLabelA mn av (fst1 M 297 ((av + (nI j))).toNatClampNeg (0 : Int32)) m (j + 1)))
set_option maxRecDepth 100000 in
set_option maxHeartbeats 4000000 in
theorem lc_X12_addLabelA {G : fG} (hG : fOK G) {d : Nat} (hd : 0 ≤ d) (dv : UInt64) (mn : Int32) (av : Int32) (q0 : ∀ (j : Nat), j ≤ 7 → ¬ ((7 : Int32) ≤ (nI j)) → vp_in (av + (nI j)) 127) {Q : fR → fS → Prop} {kc ks : Nat} : ∀ (m j : Nat) (M : fM), j ≤ 7 → 7 + 1 ≤ j + m → fV G z_X12_addLabel d Q 112 [some (.ref 296), none, some (.int mn), some (.int av), none] [] (sS (l_X12_addLabelA mn av M m j) dv) kc ks → fV G z_X12_addLabel d Q 89 [some (.ref 296), none, some (.int mn), some (.int av), some (.int (nI j))] [] (sS M dv) kc ks := by
  intro m
  induction m with
  | zero => intros; omega
  | succ m ih =>
    intro j M hj hm kk
    refine f_iload dX12_addLabel_89 rfl ?_
    refine f_bipush (v := 7) dX12_addLabel_91 (by decide) ?_
    refine f_icmp_ge (tgt := 112) dX12_addLabel_93 (by decide) (fun c_93 => ?_) (fun c_93 => ?_)
    · have e9 : l_X12_addLabelA mn av M (m + 1) j = M := by rw [l_X12_addLabelA, if_pos c_93]
      rw [e9] at kk
      refine f_drop 4 ?_
      exact kk
    · have hlt : j < 7 := (nlt (N := 7) rfl c_93 (by omega) (by omega))
      refine f_aload_n dX12_addLabel_96 rfl rfl ?_
      refine s_getr hG fl_X12_7 dX12_addLabel_97 rfl rfl ?_
      refine f_iload_n dX12_addLabel_100 rfl rfl ?_
      refine f_iload dX12_addLabel_101 rfl ?_
      refine f_iadd dX12_addLabel_103 ?_
      refine f_iconst (v := 0) dX12_addLabel_104 rfl ?_
      refine s_iastore hG dX12_addLabel_105 rfl ((q0 j hj c_93)) ?_
      refine f_iinc (v := nI (j + 1)) (ls' := [_, _, _, _, _]) dX12_addLabel_106 rfl (nI_1 j) (Nat.le_of_ble_eq_true rfl) rfl rfl ?_
      refine f_goto (tgt := 89) dX12_addLabel_109 (by decide) ?_
      have e9 : l_X12_addLabelA mn av M (m + 1) j = l_X12_addLabelA mn av (fst1 M 297 ((av + (nI j))).toNatClampNeg (0 : Int32)) m (j + 1) := by rw [l_X12_addLabelA, if_neg c_93]
      exact ih (j + 1) (fst1 M 297 ((av + (nI j))).toNatClampNeg (0 : Int32)) (by omega) (by omega) (by rw [e9] at kk; exact kk)

def l_X12_addLabelB (mn : Int32) (av : Int32) : fM → Nat → Nat → fM
  | M, 0, _ => M
  | M, m + 1, j => (if mn ≤ (nI j) then M else (l_X12_addLabelB mn av (fst1 M 297 (((av + (1 : Int32)) + (nI j))).toNatClampNeg (M 301 ((nI j)).toNatClampNeg)) m (j + 1)))
set_option maxRecDepth 100000 in
set_option maxHeartbeats 4000000 in
theorem lc_X12_addLabelB {G : fG} (hG : fOK G) {d : Nat} (hd : 0 ≤ d) (dv : UInt64) (mn : Int32) (av : Int32) (q0 : ∀ (j : Nat), j ≤ 60 → ¬ (mn ≤ (nI j)) → j < 60) (q1 : ∀ (j : Nat), j ≤ 60 → ¬ (mn ≤ (nI j)) → vp_in ((av + (1 : Int32)) + (nI j)) 127) {Q : fR → fS → Prop} {kc ks : Nat} : ∀ (m j : Nat) (M : fM), j ≤ 60 → 60 + 1 ≤ j + m → fV G z_X12_addLabel d Q 154 [some (.ref 296), none, some (.int mn), some (.int av), none] [] (sS (l_X12_addLabelB mn av M m j) dv) kc ks → fV G z_X12_addLabel d Q 124 [some (.ref 296), none, some (.int mn), some (.int av), some (.int (nI j))] [] (sS M dv) kc ks := by
  intro m
  induction m with
  | zero => intros; omega
  | succ m ih =>
    intro j M hj hm kk
    refine f_iload dX12_addLabel_124 rfl ?_
    refine f_iload_n dX12_addLabel_126 rfl rfl ?_
    refine f_icmp_ge (tgt := 154) dX12_addLabel_127 (by decide) (fun c_127 => ?_) (fun c_127 => ?_)
    · have e9 : l_X12_addLabelB mn av M (m + 1) j = M := by rw [l_X12_addLabelB, if_pos c_127]
      rw [e9] at kk
      refine f_drop 4 ?_
      exact kk
    · have hlt : j < 60 := (q0 j hj c_127)
      refine f_aload_n dX12_addLabel_130 rfl rfl ?_
      refine s_getr hG fl_X12_7 dX12_addLabel_131 rfl rfl ?_
      refine f_iload_n dX12_addLabel_134 rfl rfl ?_
      refine f_iconst (v := 1) dX12_addLabel_135 rfl ?_
      refine f_iadd dX12_addLabel_136 ?_
      refine f_iload dX12_addLabel_137 rfl ?_
      refine f_iadd dX12_addLabel_139 ?_
      refine f_aload_n dX12_addLabel_140 rfl rfl ?_
      refine s_getr hG fl_X12_22 dX12_addLabel_141 rfl rfl ?_
      refine f_iload dX12_addLabel_144 rfl ?_
      refine s_iaload hG dX12_addLabel_146 rfl ((vp_in_nI (by omega) (by decide))) ?_
      refine s_iastore hG dX12_addLabel_147 rfl ((q1 j hj c_127)) ?_
      refine f_iinc (v := nI (j + 1)) (ls' := [_, _, _, _, _]) dX12_addLabel_148 rfl (nI_1 j) (Nat.le_of_ble_eq_true rfl) rfl rfl ?_
      refine f_goto (tgt := 124) dX12_addLabel_151 (by decide) ?_
      have e9 : l_X12_addLabelB mn av M (m + 1) j = l_X12_addLabelB mn av (fst1 M 297 (((av + (1 : Int32)) + (nI j))).toNatClampNeg (M 301 ((nI j)).toNatClampNeg)) m (j + 1) := by rw [l_X12_addLabelB, if_neg c_127]
      exact ih (j + 1) (fst1 M 297 (((av + (1 : Int32)) + (nI j))).toNatClampNeg (M 301 ((nI j)).toNatClampNeg)) (by omega) (by omega) (by rw [e9] at kk; exact kk)

def a0_X12_addLabel (M : fM) : fM := (l_X12_addLabelA ((fst1 M 296 7 (0 : Int32)) 296 9) ((23 : Int32) + ((7 : Int32) * ((m_X12_keeps (fst1 (fst1 M 296 7 (0 : Int32)) 296 9 (0 : Int32)) 297 127) 297 ((2 : Int32)).toNatClampNeg))) (m_X12_keeps (fst1 (fst1 M 296 7 (0 : Int32)) 296 9 (0 : Int32)) 297 127) 8 0)
def a1_X12_addLabel (M : fM) : fM := (fst1 (a0_X12_addLabel M) 297 ((((23 : Int32) + ((7 : Int32) * ((m_X12_keeps (fst1 (fst1 M 296 7 (0 : Int32)) 296 9 (0 : Int32)) 297 127) 297 ((2 : Int32)).toNatClampNeg))) + (0 : Int32))).toNatClampNeg ((fst1 M 296 7 (0 : Int32)) 296 9))
def a2_X12_addLabel (M : fM) : fM := (l_X12_addLabelB ((fst1 M 296 7 (0 : Int32)) 296 9) ((23 : Int32) + ((7 : Int32) * ((m_X12_keeps (fst1 (fst1 M 296 7 (0 : Int32)) 296 9 (0 : Int32)) 297 127) 297 ((2 : Int32)).toNatClampNeg))) (a1_X12_addLabel M) 61 0)
def a3_X12_addLabel (M : fM) : fM := (fst1 (a2_X12_addLabel M) 297 ((2 : Int32)).toNatClampNeg (((a2_X12_addLabel M) 297 ((2 : Int32)).toNatClampNeg) + (1 : Int32)))
def r_X12_addLabel (M : fM) : Int32 := (if (r_X12_isWritten M (6 : Int32)) = 0 then (0 : Int32) else (if (M 297 ((2 : Int32)).toNatClampNeg) = (8 : Int32) then (0 : Int32) else (if (r_X12_isThere M) = 0 then (((a3_X12_addLabel M) 297 ((2 : Int32)).toNatClampNeg) - (1 : Int32)) else (0 : Int32))))
def m_X12_addLabel (M : fM) : fM := (if (r_X12_isWritten M (6 : Int32)) = 0 then (fst1 (fst1 M 296 7 (1 : Int32)) 296 9 (0 : Int32)) else (if (M 297 ((2 : Int32)).toNatClampNeg) = (8 : Int32) then (fst1 (fst1 M 296 7 (2 : Int32)) 296 9 (0 : Int32)) else (if (r_X12_isThere M) = 0 then (a3_X12_addLabel M) else (fst1 (fst1 M 296 7 (2 : Int32)) 296 9 (0 : Int32)))))
def N_X12_addLabel (M : fM) : Prop := (N_X12_isWritten M (6 : Int32)) ∧ (¬ ((r_X12_isWritten M (6 : Int32)) = 0) → ¬ ((M 297 ((2 : Int32)).toNatClampNeg) = (8 : Int32)) → N_X12_isThere M) ∧ (¬ ((r_X12_isWritten M (6 : Int32)) = 0) → ¬ ((M 297 ((2 : Int32)).toNatClampNeg) = (8 : Int32)) → ((r_X12_isThere M) = 0) → N_X12_keeps (fst1 (fst1 M 296 7 (0 : Int32)) 296 9 (0 : Int32)) 297 127) ∧ (¬ ((r_X12_isWritten M (6 : Int32)) = 0) → ¬ ((M 297 ((2 : Int32)).toNatClampNeg) = (8 : Int32)) → ((r_X12_isThere M) = 0) → ∀ (j_83 : Nat), j_83 ≤ 7 → ¬ ((7 : Int32) ≤ (nI j_83)) → vp_in (((23 : Int32) + ((7 : Int32) * ((m_X12_keeps (fst1 (fst1 M 296 7 (0 : Int32)) 296 9 (0 : Int32)) 297 127) 297 ((2 : Int32)).toNatClampNeg))) + (nI j_83)) 127) ∧ (¬ ((r_X12_isWritten M (6 : Int32)) = 0) → ¬ ((M 297 ((2 : Int32)).toNatClampNeg) = (8 : Int32)) → ((r_X12_isThere M) = 0) → vp_in (((23 : Int32) + ((7 : Int32) * ((m_X12_keeps (fst1 (fst1 M 296 7 (0 : Int32)) 296 9 (0 : Int32)) 297 127) 297 ((2 : Int32)).toNatClampNeg))) + (0 : Int32)) 127) ∧ (¬ ((r_X12_isWritten M (6 : Int32)) = 0) → ¬ ((M 297 ((2 : Int32)).toNatClampNeg) = (8 : Int32)) → ((r_X12_isThere M) = 0) → ∀ (j_84 : Nat), j_84 ≤ 60 → ¬ (((fst1 M 296 7 (0 : Int32)) 296 9) ≤ (nI j_84)) → j_84 < 60) ∧ (¬ ((r_X12_isWritten M (6 : Int32)) = 0) → ¬ ((M 297 ((2 : Int32)).toNatClampNeg) = (8 : Int32)) → ((r_X12_isThere M) = 0) → ∀ (j_85 : Nat), j_85 ≤ 60 → ¬ (((fst1 M 296 7 (0 : Int32)) 296 9) ≤ (nI j_85)) → vp_in ((((23 : Int32) + ((7 : Int32) * ((m_X12_keeps (fst1 (fst1 M 296 7 (0 : Int32)) 296 9 (0 : Int32)) 297 127) 297 ((2 : Int32)).toNatClampNeg))) + (1 : Int32)) + (nI j_85)) 127)
set_option maxRecDepth 100000 in
set_option maxHeartbeats 4000000 in
theorem c_X12_addLabel {G : fG} (hG : fOK G) {d : Nat} (hd : 2 ≤ d) (M : fM) (dv : UInt64) (hN : N_X12_addLabel M) : fCt G z_X12_addLabel d [.ref 296] (sS M dv) 0 0 (fD (some (.int (r_X12_addLabel M))) (sS (m_X12_addLabel M) dv)) := by
  refine fCt_to [some (.ref 296), none, none, none, none] k_X12_addLabel rfl (Nat.le_of_ble_eq_true rfl) rfl ?_
  obtain ⟨q0, q1, q2, q3, q4, q5, q6⟩ := hN
  refine f_aload_n dX12_addLabel_0 rfl rfl ?_
  refine f_aload_n dX12_addLabel_1 rfl rfl ?_
  refine f_bipush (v := 6) dX12_addLabel_2 (by decide) ?_
  refine f_cV hG (As := [_]) dX12_addLabel_4 rfl k_X12_isWritten rfl rfl ml_X12_87 im_X12_isWritten se_X12_isWritten rfl rfl (c_X12_isWritten hG (d := 1) (Nat.le_refl _) _ _ _ q0) (by omega) (Nat.le_of_ble_eq_true rfl) (Nat.zero_le _) (Nat.zero_le _) ?_
  refine f_if_ne (tgt := 14) dX12_addLabel_7 (by decide) (fun c_7 => ?_) (fun c_7 => ?_)
  · refine f_aload_n dX12_addLabel_14 rfl rfl ?_
    refine s_getr hG fl_X12_7 dX12_addLabel_15 rfl rfl ?_
    refine f_iconst (v := 2) dX12_addLabel_18 rfl ?_
    refine s_iaload hG dX12_addLabel_19 rfl ((show ¬ ((2 : Int32) < 0 ∨ 127 ≤ (2 : Int32).toNatClampNeg) by decide)) ?_
    refine f_bipush (v := 8) dX12_addLabel_20 (by decide) ?_
    refine f_icmp_eq (tgt := 32) dX12_addLabel_22 (by decide) (fun c_22 => ?_) (fun c_22 => ?_)
    · refine f_iconst (v := 2) dX12_addLabel_32 rfl ?_
      refine f_goto (tgt := 37) dX12_addLabel_33 (by decide) ?_
      refine f_cV hG (As := [_]) dX12_addLabel_37 rfl k_X12_fails rfl rfl ml_X12_63 im_X12_fails se_X12_fails rfl rfl (c_X12_failsT hG (d := 0) (Nat.le_refl _) _ _ _ (by decide)) (by omega) (Nat.le_of_ble_eq_true rfl) (Nat.zero_le _) (Nat.zero_le _) ?_
      refine f_if_ne (tgt := 47) dX12_addLabel_40 (by decide) (fun c_40 => ?_) (fun c_40 => absurd c_40 (by decide))
      refine f_iconst (v := 0) dX12_addLabel_47 rfl ?_
      refine f_istore_n (ls' := [_, _, _, _, _]) dX12_addLabel_48 rfl (Nat.le_of_ble_eq_true rfl) rfl rfl ?_
      refine f_aload_n dX12_addLabel_49 rfl rfl ?_
      refine s_geti hG fl_X12_81 dX12_addLabel_50 rfl rfl ?_
      refine f_istore_n (ls' := [_, _, _, _, _]) dX12_addLabel_53 rfl (Nat.le_of_ble_eq_true rfl) rfl rfl ?_
      refine f_aload_n dX12_addLabel_54 rfl rfl ?_
      refine f_iconst (v := 0) dX12_addLabel_55 rfl ?_
      refine s_puti hG fl_X12_81 (Or.inl rfl) dX12_addLabel_56 rfl rfl rfl rfl ?_
      refine f_iload_n dX12_addLabel_59 rfl rfl ?_
      refine f_if_ne (tgt := 65) dX12_addLabel_60 (by decide) (fun c_60 => absurd c_60 (by decide)) (fun c_60 => ?_)
      refine f_iconst (v := 0) dX12_addLabel_63 rfl ?_
      refine f_ireturn dX12_addLabel_64 rfl rfl ?_
      exact ⟨by rw [r_X12_addLabel, if_neg c_7, if_pos c_22], by rw [m_X12_addLabel, if_neg c_7, if_pos c_22]⟩
    · refine f_aload_n dX12_addLabel_25 rfl rfl ?_
      refine f_cV hG (As := []) dX12_addLabel_26 rfl k_X12_isThere rfl rfl ml_X12_90 im_X12_isThere se_X12_isThere rfl rfl (c_X12_isThere hG (d := 1) (Nat.le_refl _) _ _ (q1 c_7 c_22)) (by omega) (Nat.le_of_ble_eq_true rfl) (Nat.zero_le _) (Nat.zero_le _) ?_
      refine f_if_eq (tgt := 36) dX12_addLabel_29 (by decide) (fun c_29 => ?_) (fun c_29 => ?_)
      · refine f_iconst (v := 0) dX12_addLabel_36 rfl ?_
        refine f_cV hG (As := [_]) dX12_addLabel_37 rfl k_X12_fails rfl rfl ml_X12_63 im_X12_fails se_X12_fails rfl rfl (c_X12_failsF hG (d := 0) (Nat.le_refl _) _ _ _ (by decide)) (by omega) (Nat.le_of_ble_eq_true rfl) (Nat.zero_le _) (Nat.zero_le _) ?_
        refine f_if_ne (tgt := 47) dX12_addLabel_40 (by decide) (fun c_40 => absurd c_40 (by decide)) (fun c_40 => ?_)
        refine f_iconst (v := 1) dX12_addLabel_43 rfl ?_
        refine f_goto (tgt := 48) dX12_addLabel_44 (by decide) ?_
        refine f_istore_n (ls' := [_, _, _, _, _]) dX12_addLabel_48 rfl (Nat.le_of_ble_eq_true rfl) rfl rfl ?_
        refine f_aload_n dX12_addLabel_49 rfl rfl ?_
        refine s_geti hG fl_X12_81 dX12_addLabel_50 rfl rfl ?_
        refine f_istore_n (ls' := [_, _, _, _, _]) dX12_addLabel_53 rfl (Nat.le_of_ble_eq_true rfl) rfl rfl ?_
        refine f_aload_n dX12_addLabel_54 rfl rfl ?_
        refine f_iconst (v := 0) dX12_addLabel_55 rfl ?_
        refine s_puti hG fl_X12_81 (Or.inl rfl) dX12_addLabel_56 rfl rfl rfl rfl ?_
        refine f_iload_n dX12_addLabel_59 rfl rfl ?_
        refine f_if_ne (tgt := 65) dX12_addLabel_60 (by decide) (fun c_60 => ?_) (fun c_60 => absurd c_60 (by decide))
        refine f_aload_n dX12_addLabel_65 rfl rfl ?_
        refine f_aload_n dX12_addLabel_66 rfl rfl ?_
        refine s_getr hG fl_X12_7 dX12_addLabel_67 rfl rfl ?_
        refine f_cV hG (As := [_]) dX12_addLabel_70 rfl k_X12_keeps rfl rfl ml_X12_67 im_X12_keeps se_X12_keeps rfl rfl (c_X12_keeps hG (d := 1) (Nat.le_refl _) _ _ _ _ rfl (by decide) (q2 c_7 c_22 c_29)) (by omega) (Nat.le_of_ble_eq_true rfl) (Nat.zero_le _) (Nat.zero_le _) ?_
        refine f_bipush (v := 23) dX12_addLabel_73 (by decide) ?_
        refine f_bipush (v := 7) dX12_addLabel_75 (by decide) ?_
        refine f_aload_n dX12_addLabel_77 rfl rfl ?_
        refine s_getr hG fl_X12_7 dX12_addLabel_78 rfl rfl ?_
        refine f_iconst (v := 2) dX12_addLabel_81 rfl ?_
        refine s_iaload hG dX12_addLabel_82 rfl ((show ¬ ((2 : Int32) < 0 ∨ 127 ≤ (2 : Int32).toNatClampNeg) by decide)) ?_
        refine f_imul dX12_addLabel_83 ?_
        refine f_iadd dX12_addLabel_84 ?_
        refine f_istore_n (ls' := [_, _, _, _, _]) dX12_addLabel_85 rfl (Nat.le_of_ble_eq_true rfl) rfl rfl ?_
        refine f_iconst (v := 0) dX12_addLabel_86 rfl ?_
        refine f_istore (ls' := [_, _, _, _, _]) dX12_addLabel_87 (Nat.le_of_ble_eq_true rfl) rfl rfl ?_
        refine f_drop 1 ?_
        refine lc_X12_addLabelA hG (by omega) dv _ _ (q3 c_7 c_22 c_29) 8 0 _ (by omega) (by omega) ?_
        refine f_mem (M := (l_X12_addLabelA ((fst1 M 296 7 (0 : Int32)) 296 9) ((23 : Int32) + ((7 : Int32) * ((m_X12_keeps (fst1 (fst1 M 296 7 (0 : Int32)) 296 9 (0 : Int32)) 297 127) 297 ((2 : Int32)).toNatClampNeg))) (m_X12_keeps (fst1 (fst1 M 296 7 (0 : Int32)) 296 9 (0 : Int32)) 297 127) 8 0)) (M' := (a0_X12_addLabel M)) (by rw [a0_X12_addLabel]) ?_
        refine f_aload_n dX12_addLabel_112 rfl rfl ?_
        refine s_getr hG fl_X12_7 dX12_addLabel_113 rfl rfl ?_
        refine f_iload_n dX12_addLabel_116 rfl rfl ?_
        refine f_iconst (v := 0) dX12_addLabel_117 rfl ?_
        refine f_iadd dX12_addLabel_118 ?_
        refine f_iload_n dX12_addLabel_119 rfl rfl ?_
        refine s_iastore hG dX12_addLabel_120 rfl ((q4 c_7 c_22 c_29)) ?_
        refine f_mem (M := (fst1 (a0_X12_addLabel M) 297 ((((23 : Int32) + ((7 : Int32) * ((m_X12_keeps (fst1 (fst1 M 296 7 (0 : Int32)) 296 9 (0 : Int32)) 297 127) 297 ((2 : Int32)).toNatClampNeg))) + (0 : Int32))).toNatClampNeg ((fst1 M 296 7 (0 : Int32)) 296 9))) (M' := (a1_X12_addLabel M)) (by rw [a1_X12_addLabel]) ?_
        refine f_iconst (v := 0) dX12_addLabel_121 rfl ?_
        refine f_istore (ls' := [_, _, _, _, _]) dX12_addLabel_122 (Nat.le_of_ble_eq_true rfl) rfl rfl ?_
        refine lc_X12_addLabelB hG (by omega) dv _ _ (q5 c_7 c_22 c_29) (q6 c_7 c_22 c_29) 61 0 _ (by omega) (by omega) ?_
        refine f_mem (M := (l_X12_addLabelB ((fst1 M 296 7 (0 : Int32)) 296 9) ((23 : Int32) + ((7 : Int32) * ((m_X12_keeps (fst1 (fst1 M 296 7 (0 : Int32)) 296 9 (0 : Int32)) 297 127) 297 ((2 : Int32)).toNatClampNeg))) (a1_X12_addLabel M) 61 0)) (M' := (a2_X12_addLabel M)) (by rw [a2_X12_addLabel]) ?_
        refine f_aload_n dX12_addLabel_154 rfl rfl ?_
        refine s_getr hG fl_X12_7 dX12_addLabel_155 rfl rfl ?_
        refine f_iconst (v := 2) dX12_addLabel_158 rfl ?_
        refine f_dup2 dX12_addLabel_159 rfl rfl ?_
        refine s_iaload hG dX12_addLabel_160 rfl ((show ¬ ((2 : Int32) < 0 ∨ 127 ≤ (2 : Int32).toNatClampNeg) by decide)) ?_
        refine f_iconst (v := 1) dX12_addLabel_161 rfl ?_
        refine f_iadd dX12_addLabel_162 ?_
        refine s_iastore hG dX12_addLabel_163 rfl ((show ¬ ((2 : Int32) < 0 ∨ 127 ≤ (2 : Int32).toNatClampNeg) by decide)) ?_
        refine f_mem (M := (fst1 (a2_X12_addLabel M) 297 ((2 : Int32)).toNatClampNeg (((a2_X12_addLabel M) 297 ((2 : Int32)).toNatClampNeg) + (1 : Int32)))) (M' := (a3_X12_addLabel M)) (by rw [a3_X12_addLabel]) ?_
        refine f_aload_n dX12_addLabel_164 rfl rfl ?_
        refine s_getr hG fl_X12_7 dX12_addLabel_165 rfl rfl ?_
        refine f_iconst (v := 2) dX12_addLabel_168 rfl ?_
        refine s_iaload hG dX12_addLabel_169 rfl ((show ¬ ((2 : Int32) < 0 ∨ 127 ≤ (2 : Int32).toNatClampNeg) by decide)) ?_
        refine f_iconst (v := 1) dX12_addLabel_170 rfl ?_
        refine f_isub dX12_addLabel_171 ?_
        refine f_ireturn dX12_addLabel_172 rfl rfl ?_
        exact ⟨by rw [r_X12_addLabel, if_neg c_7, if_neg c_22, if_pos c_29], by rw [m_X12_addLabel, if_neg c_7, if_neg c_22, if_pos c_29]⟩
      · refine f_iconst (v := 2) dX12_addLabel_32 rfl ?_
        refine f_goto (tgt := 37) dX12_addLabel_33 (by decide) ?_
        refine f_cV hG (As := [_]) dX12_addLabel_37 rfl k_X12_fails rfl rfl ml_X12_63 im_X12_fails se_X12_fails rfl rfl (c_X12_failsT hG (d := 0) (Nat.le_refl _) _ _ _ (by decide)) (by omega) (Nat.le_of_ble_eq_true rfl) (Nat.zero_le _) (Nat.zero_le _) ?_
        refine f_if_ne (tgt := 47) dX12_addLabel_40 (by decide) (fun c_40 => ?_) (fun c_40 => absurd c_40 (by decide))
        refine f_iconst (v := 0) dX12_addLabel_47 rfl ?_
        refine f_istore_n (ls' := [_, _, _, _, _]) dX12_addLabel_48 rfl (Nat.le_of_ble_eq_true rfl) rfl rfl ?_
        refine f_aload_n dX12_addLabel_49 rfl rfl ?_
        refine s_geti hG fl_X12_81 dX12_addLabel_50 rfl rfl ?_
        refine f_istore_n (ls' := [_, _, _, _, _]) dX12_addLabel_53 rfl (Nat.le_of_ble_eq_true rfl) rfl rfl ?_
        refine f_aload_n dX12_addLabel_54 rfl rfl ?_
        refine f_iconst (v := 0) dX12_addLabel_55 rfl ?_
        refine s_puti hG fl_X12_81 (Or.inl rfl) dX12_addLabel_56 rfl rfl rfl rfl ?_
        refine f_iload_n dX12_addLabel_59 rfl rfl ?_
        refine f_if_ne (tgt := 65) dX12_addLabel_60 (by decide) (fun c_60 => absurd c_60 (by decide)) (fun c_60 => ?_)
        refine f_iconst (v := 0) dX12_addLabel_63 rfl ?_
        refine f_ireturn dX12_addLabel_64 rfl rfl ?_
        exact ⟨by rw [r_X12_addLabel, if_neg c_7, if_neg c_22, if_neg c_29], by rw [m_X12_addLabel, if_neg c_7, if_neg c_22, if_neg c_29]⟩
  · refine f_iconst (v := 1) dX12_addLabel_10 rfl ?_
    refine f_goto (tgt := 37) dX12_addLabel_11 (by decide) ?_
    refine f_cV hG (As := [_]) dX12_addLabel_37 rfl k_X12_fails rfl rfl ml_X12_63 im_X12_fails se_X12_fails rfl rfl (c_X12_failsT hG (d := 0) (Nat.le_refl _) _ _ _ (by decide)) (by omega) (Nat.le_of_ble_eq_true rfl) (Nat.zero_le _) (Nat.zero_le _) ?_
    refine f_if_ne (tgt := 47) dX12_addLabel_40 (by decide) (fun c_40 => ?_) (fun c_40 => absurd c_40 (by decide))
    refine f_iconst (v := 0) dX12_addLabel_47 rfl ?_
    refine f_istore_n (ls' := [_, _, _, _, _]) dX12_addLabel_48 rfl (Nat.le_of_ble_eq_true rfl) rfl rfl ?_
    refine f_aload_n dX12_addLabel_49 rfl rfl ?_
    refine s_geti hG fl_X12_81 dX12_addLabel_50 rfl rfl ?_
    refine f_istore_n (ls' := [_, _, _, _, _]) dX12_addLabel_53 rfl (Nat.le_of_ble_eq_true rfl) rfl rfl ?_
    refine f_aload_n dX12_addLabel_54 rfl rfl ?_
    refine f_iconst (v := 0) dX12_addLabel_55 rfl ?_
    refine s_puti hG fl_X12_81 (Or.inl rfl) dX12_addLabel_56 rfl rfl rfl rfl ?_
    refine f_iload_n dX12_addLabel_59 rfl rfl ?_
    refine f_if_ne (tgt := 65) dX12_addLabel_60 (by decide) (fun c_60 => absurd c_60 (by decide)) (fun c_60 => ?_)
    refine f_iconst (v := 0) dX12_addLabel_63 rfl ?_
    refine f_ireturn dX12_addLabel_64 rfl rfl ?_
    exact ⟨by rw [r_X12_addLabel, if_pos c_7], by rw [m_X12_addLabel, if_pos c_7]⟩

def r_X12_labelCount (M : fM) : Int32 := ((fst1 M 296 7 (0 : Int32)) 297 ((2 : Int32)).toNatClampNeg)
def m_X12_labelCount (M : fM) : fM := (fst1 M 296 7 (0 : Int32))
set_option maxRecDepth 100000 in
set_option maxHeartbeats 4000000 in
theorem c_X12_labelCount {G : fG} (hG : fOK G) {d : Nat} (hd : 0 ≤ d) (M : fM) (dv : UInt64) : fCt G z_X12_labelCount d [.ref 296] (sS M dv) 0 0 (fD (some (.int (r_X12_labelCount M))) (sS (m_X12_labelCount M) dv)) := by
  refine fCt_to [some (.ref 296)] k_X12_labelCount rfl (Nat.le_of_ble_eq_true rfl) rfl ?_
  refine f_aload_n dX12_labelCount_0 rfl rfl ?_
  refine f_iconst (v := 0) dX12_labelCount_1 rfl ?_
  refine s_puti hG fl_X12_45 (Or.inl rfl) dX12_labelCount_2 rfl rfl rfl rfl ?_
  refine f_aload_n dX12_labelCount_5 rfl rfl ?_
  refine s_getr hG fl_X12_7 dX12_labelCount_6 rfl rfl ?_
  refine f_iconst (v := 2) dX12_labelCount_9 rfl ?_
  refine s_iaload hG dX12_labelCount_10 rfl ((show ¬ ((2 : Int32) < 0 ∨ 127 ≤ (2 : Int32).toNatClampNeg) by decide)) ?_
  refine f_ireturn dX12_labelCount_11 rfl rfl ?_
  exact ⟨by rw [r_X12_labelCount], by rw [m_X12_labelCount]⟩

def r_X12_labelLength (M : fM) (a : Int32) : Int32 := (if (r_X12_isLabel M a) = 0 then (0 : Int32) else (r_X12_sign (fst1 M 296 7 (0 : Int32)) a (0 : Int32)))
def m_X12_labelLength (M : fM) (a : Int32) : fM := (if (r_X12_isLabel M a) = 0 then (fst1 M 296 7 (1 : Int32)) else (fst1 M 296 7 (0 : Int32)))
def N_X12_labelLength (M : fM) (a : Int32) : Prop := (¬ ((r_X12_isLabel M a) = 0) → N_X12_sign (fst1 M 296 7 (0 : Int32)) a (0 : Int32))
set_option maxRecDepth 100000 in
set_option maxHeartbeats 4000000 in
theorem c_X12_labelLength {G : fG} (hG : fOK G) {d : Nat} (hd : 2 ≤ d) (M : fM) (dv : UInt64) (a : Int32) (hN : N_X12_labelLength M a) : fCt G z_X12_labelLength d [.ref 296, .int a] (sS M dv) 0 0 (fD (some (.int (r_X12_labelLength M a))) (sS (m_X12_labelLength M a) dv)) := by
  refine fCt_to [some (.ref 296), some (.int a)] k_X12_labelLength rfl (Nat.le_of_ble_eq_true rfl) rfl ?_
  have q0 : ¬ ((r_X12_isLabel M a) = 0) → N_X12_sign (fst1 M 296 7 (0 : Int32)) a (0 : Int32) := hN
  refine f_aload_n dX12_labelLength_0 rfl rfl ?_
  refine f_aload_n dX12_labelLength_1 rfl rfl ?_
  refine f_iload_n dX12_labelLength_2 rfl rfl ?_
  refine f_cV hG (As := [_]) dX12_labelLength_3 rfl k_X12_isLabel rfl rfl ml_X12_94 im_X12_isLabel se_X12_isLabel rfl rfl (c_X12_isLabel hG (d := 1) (Nat.le_refl _) _ _ _) (by omega) (Nat.le_of_ble_eq_true rfl) (Nat.zero_le _) (Nat.zero_le _) ?_
  refine f_if_eq (tgt := 13) dX12_labelLength_6 (by decide) (fun c_6 => ?_) (fun c_6 => ?_)
  · refine f_iconst (v := 1) dX12_labelLength_13 rfl ?_
    refine f_cV hG (As := [_]) dX12_labelLength_14 rfl k_X12_fails rfl rfl ml_X12_63 im_X12_fails se_X12_fails rfl rfl (c_X12_failsT hG (d := 0) (Nat.le_refl _) _ _ _ (by decide)) (by omega) (Nat.le_of_ble_eq_true rfl) (Nat.zero_le _) (Nat.zero_le _) ?_
    refine f_if_eq (tgt := 24) dX12_labelLength_17 (by decide) (fun c_17 => absurd c_17 (by decide)) (fun c_17 => ?_)
    refine f_iconst (v := 0) dX12_labelLength_20 rfl ?_
    refine f_goto (tgt := 30) dX12_labelLength_21 (by decide) ?_
    refine f_ireturn dX12_labelLength_30 rfl rfl ?_
    exact ⟨by rw [r_X12_labelLength, if_pos c_6], by rw [m_X12_labelLength, if_pos c_6]⟩
  · refine f_iconst (v := 0) dX12_labelLength_9 rfl ?_
    refine f_goto (tgt := 14) dX12_labelLength_10 (by decide) ?_
    refine f_cV hG (As := [_]) dX12_labelLength_14 rfl k_X12_fails rfl rfl ml_X12_63 im_X12_fails se_X12_fails rfl rfl (c_X12_failsF hG (d := 0) (Nat.le_refl _) _ _ _ (by decide)) (by omega) (Nat.le_of_ble_eq_true rfl) (Nat.zero_le _) (Nat.zero_le _) ?_
    refine f_if_eq (tgt := 24) dX12_labelLength_17 (by decide) (fun c_17 => ?_) (fun c_17 => absurd c_17 (by decide))
    refine f_aload_n dX12_labelLength_24 rfl rfl ?_
    refine f_iload_n dX12_labelLength_25 rfl rfl ?_
    refine f_iconst (v := 0) dX12_labelLength_26 rfl ?_
    refine f_cV hG (As := [_, _]) dX12_labelLength_27 rfl k_X12_sign rfl rfl ml_X12_84 im_X12_sign se_X12_sign rfl rfl (c_X12_sign hG (d := 0) (Nat.le_refl _) _ _ _ _ (q0 c_6)) (by omega) (Nat.le_of_ble_eq_true rfl) (Nat.zero_le _) (Nat.zero_le _) ?_
    refine f_ireturn dX12_labelLength_30 rfl rfl ?_
    exact ⟨by rw [r_X12_labelLength, if_neg c_6], by rw [m_X12_labelLength, if_neg c_6]⟩

def r_X12_labelLetter (M : fM) (a : Int32) (b : Int32) : Int32 := (if (r_X12_isLabel M a) = 0 then (32 : Int32) else (if (r_X12_in M b (0 : Int32) ((r_X12_sign M a (0 : Int32)) - (1 : Int32))) = 0 then (32 : Int32) else (((r_X12_sign (fst1 M 296 7 (0 : Int32)) a ((1 : Int32) + b))).toUInt32 % 65536).toInt32))
def m_X12_labelLetter (M : fM) (a : Int32) (b : Int32) : fM := (if (r_X12_isLabel M a) = 0 then (fst1 M 296 7 (1 : Int32)) else (if (r_X12_in M b (0 : Int32) ((r_X12_sign M a (0 : Int32)) - (1 : Int32))) = 0 then (fst1 M 296 7 (1 : Int32)) else (fst1 M 296 7 (0 : Int32))))
theorem n_X12_labelLetter (M : fM) (a : Int32) (b : Int32) : narrow .char (.int (r_X12_labelLetter M a b)) = .int (r_X12_labelLetter M a b) := by
  unfold r_X12_labelLetter
  repeat' with_reducible apply n_ite
  all_goals first | rfl | exact pk_nc _
def N_X12_labelLetter (M : fM) (a : Int32) (b : Int32) : Prop := (¬ ((r_X12_isLabel M a) = 0) → N_X12_sign M a (0 : Int32)) ∧ (¬ ((r_X12_isLabel M a) = 0) → ¬ ((r_X12_in M b (0 : Int32) ((r_X12_sign M a (0 : Int32)) - (1 : Int32))) = 0) → N_X12_sign (fst1 M 296 7 (0 : Int32)) a ((1 : Int32) + b))
set_option maxRecDepth 100000 in
set_option maxHeartbeats 4000000 in
theorem c_X12_labelLetter {G : fG} (hG : fOK G) {d : Nat} (hd : 2 ≤ d) (M : fM) (dv : UInt64) (a : Int32) (b : Int32) (hN : N_X12_labelLetter M a b) : fCt G z_X12_labelLetter d [.ref 296, .int a, .int b] (sS M dv) 0 0 (fD (some (.int (r_X12_labelLetter M a b))) (sS (m_X12_labelLetter M a b) dv)) := by
  refine fCt_to [some (.ref 296), some (.int a), some (.int b)] k_X12_labelLetter rfl (Nat.le_of_ble_eq_true rfl) rfl ?_
  obtain ⟨q0, q1⟩ := hN
  refine f_aload_n dX12_labelLetter_0 rfl rfl ?_
  refine f_aload_n dX12_labelLetter_1 rfl rfl ?_
  refine f_iload_n dX12_labelLetter_2 rfl rfl ?_
  refine f_cV hG (As := [_]) dX12_labelLetter_3 rfl k_X12_isLabel rfl rfl ml_X12_94 im_X12_isLabel se_X12_isLabel rfl rfl (c_X12_isLabel hG (d := 1) (Nat.le_refl _) _ _ _) (by omega) (Nat.le_of_ble_eq_true rfl) (Nat.zero_le _) (Nat.zero_le _) ?_
  refine f_if_eq (tgt := 29) dX12_labelLetter_6 (by decide) (fun c_6 => ?_) (fun c_6 => ?_)
  · refine f_iconst (v := 1) dX12_labelLetter_29 rfl ?_
    refine f_cV hG (As := [_]) dX12_labelLetter_30 rfl k_X12_fails rfl rfl ml_X12_63 im_X12_fails se_X12_fails rfl rfl (c_X12_failsT hG (d := 0) (Nat.le_refl _) _ _ _ (by decide)) (by omega) (Nat.le_of_ble_eq_true rfl) (Nat.zero_le _) (Nat.zero_le _) ?_
    refine f_if_eq (tgt := 41) dX12_labelLetter_33 (by decide) (fun c_33 => absurd c_33 (by decide)) (fun c_33 => ?_)
    refine f_bipush (v := 32) dX12_labelLetter_36 (by decide) ?_
    refine f_goto (tgt := 50) dX12_labelLetter_38 (by decide) ?_
    refine f_ireturn dX12_labelLetter_50 rfl rfl ?_
    exact ⟨by rw [r_X12_labelLetter, if_pos c_6], by rw [m_X12_labelLetter, if_pos c_6]⟩
  · refine f_iload_n dX12_labelLetter_9 rfl rfl ?_
    refine f_iconst (v := 0) dX12_labelLetter_10 rfl ?_
    refine f_aload_n dX12_labelLetter_11 rfl rfl ?_
    refine f_iload_n dX12_labelLetter_12 rfl rfl ?_
    refine f_iconst (v := 0) dX12_labelLetter_13 rfl ?_
    refine f_cV hG (As := [_, _]) dX12_labelLetter_14 rfl k_X12_sign rfl rfl ml_X12_84 im_X12_sign se_X12_sign rfl rfl (c_X12_sign hG (d := 0) (Nat.le_refl _) _ _ _ _ (q0 c_6)) (by omega) (Nat.le_of_ble_eq_true rfl) (Nat.zero_le _) (Nat.zero_le _) ?_
    refine f_iconst (v := 1) dX12_labelLetter_17 rfl ?_
    refine f_isub dX12_labelLetter_18 ?_
    refine f_cS hG (As := [_, _, _]) dX12_labelLetter_19 rfl k_X12_in rfl rfl ml_X12_59 sm_X12_in (c_X12_in hG (d := 0) (Nat.le_refl _) _ _ _ _ _) (by omega) (Nat.le_of_ble_eq_true rfl) (Nat.zero_le _) (Nat.zero_le _) ?_
    refine f_if_eq (tgt := 29) dX12_labelLetter_22 (by decide) (fun c_22 => ?_) (fun c_22 => ?_)
    · refine f_iconst (v := 1) dX12_labelLetter_29 rfl ?_
      refine f_cV hG (As := [_]) dX12_labelLetter_30 rfl k_X12_fails rfl rfl ml_X12_63 im_X12_fails se_X12_fails rfl rfl (c_X12_failsT hG (d := 0) (Nat.le_refl _) _ _ _ (by decide)) (by omega) (Nat.le_of_ble_eq_true rfl) (Nat.zero_le _) (Nat.zero_le _) ?_
      refine f_if_eq (tgt := 41) dX12_labelLetter_33 (by decide) (fun c_33 => absurd c_33 (by decide)) (fun c_33 => ?_)
      refine f_bipush (v := 32) dX12_labelLetter_36 (by decide) ?_
      refine f_goto (tgt := 50) dX12_labelLetter_38 (by decide) ?_
      refine f_ireturn dX12_labelLetter_50 rfl rfl ?_
      exact ⟨by rw [r_X12_labelLetter, if_neg c_6, if_pos c_22], by rw [m_X12_labelLetter, if_neg c_6, if_pos c_22]⟩
    · refine f_iconst (v := 0) dX12_labelLetter_25 rfl ?_
      refine f_goto (tgt := 30) dX12_labelLetter_26 (by decide) ?_
      refine f_cV hG (As := [_]) dX12_labelLetter_30 rfl k_X12_fails rfl rfl ml_X12_63 im_X12_fails se_X12_fails rfl rfl (c_X12_failsF hG (d := 0) (Nat.le_refl _) _ _ _ (by decide)) (by omega) (Nat.le_of_ble_eq_true rfl) (Nat.zero_le _) (Nat.zero_le _) ?_
      refine f_if_eq (tgt := 41) dX12_labelLetter_33 (by decide) (fun c_33 => ?_) (fun c_33 => absurd c_33 (by decide))
      refine f_aload_n dX12_labelLetter_41 rfl rfl ?_
      refine f_iload_n dX12_labelLetter_42 rfl rfl ?_
      refine f_iconst (v := 1) dX12_labelLetter_43 rfl ?_
      refine f_iload_n dX12_labelLetter_44 rfl rfl ?_
      refine f_iadd dX12_labelLetter_45 ?_
      refine f_cV hG (As := [_, _]) dX12_labelLetter_46 rfl k_X12_sign rfl rfl ml_X12_84 im_X12_sign se_X12_sign rfl rfl (c_X12_sign hG (d := 0) (Nat.le_refl _) _ _ _ _ (q1 c_6 c_22)) (by omega) (Nat.le_of_ble_eq_true rfl) (Nat.zero_le _) (Nat.zero_le _) ?_
      refine f_i2c dX12_labelLetter_49 ?_
      refine f_ireturn dX12_labelLetter_50 rfl (pk_nc _) ?_
      exact ⟨by rw [r_X12_labelLetter, if_neg c_6, if_neg c_22], by rw [m_X12_labelLetter, if_neg c_6, if_neg c_22]⟩
