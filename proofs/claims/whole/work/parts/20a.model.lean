/-! ===== JarCanneryModel ===== -/
abbrev rArr (k n : Nat) : Prop := L1[k]? = some (.inr (0, n, []))
theorem f_dconst {G : fG} {z : fMi} {d pc : Nat} {Q : fR → fS → Prop} {ls : List (Option Value)} {st : List Value} {S : fS} {kc ks : Nat} (hd : decode z.2.1 pc = .ok (.dconst 0, 1)) (kk : fV G z d Q (pc + 1) ls (.double FP.dconst0 :: st) S kc ks) : fV G z d Q pc ls st S kc ks := by
  intro p e s m args below meth c R Z H locs cells slots lsr hC hE h1 h2 h3 h4 hW hS hl
  exact lv_dconst0 hC.1 hC.2.1 hd (kk p e s m args below meth c R Z H locs cells slots lsr hC hE h1 h2 h3 h4 hW hS hl)
theorem f_fconst {G : fG} {z : fMi} {d pc : Nat} {Q : fR → fS → Prop} {ls : List (Option Value)} {st : List Value} {S : fS} {kc ks : Nat} (hd : decode z.2.1 pc = .ok (.fconst 0, 1)) (kk : fV G z d Q (pc + 1) ls (.float FP.fconst0 :: st) S kc ks) : fV G z d Q pc ls st S kc ks := by
  intro p e s m args below meth c R Z H locs cells slots lsr hC hE h1 h2 h3 h4 hW hS hl
  exact lv_fconst0 hC.1 hC.2.1 hd (kk p e s m args below meth c R Z H locs cells slots lsr hC hE h1 h2 h3 h4 hW hS hl)
def r_X12_thrown (M : fM) : Int32 := (M 296 7)
set_option maxRecDepth 100000 in
set_option maxHeartbeats 4000000 in
theorem c_X12_thrown {G : fG} (hG : fOK G) {d : Nat} (hd : 0 ≤ d) (M : fM) (dv : UInt64) : fCt G z_X12_thrown d [.ref 296] (sS M dv) 0 0 (fD (some (.int (r_X12_thrown M))) (sS M dv)) := by
  refine fCt_to [some (.ref 296)] k_X12_thrown rfl (Nat.le_of_ble_eq_true rfl) rfl ?_
  refine f_aload_n dX12_thrown_0 rfl rfl ?_
  refine s_geti hG fl_X12_45 dX12_thrown_1 rfl rfl ?_
  refine f_ireturn dX12_thrown_4 rfl rfl ?_
  exact ⟨by rw [r_X12_thrown], rfl⟩

def r_X12_fails (M : fM) (a : Int32) : Int32 := (if a ≤ 0 then (0 : Int32) else (1 : Int32))
def m_X12_fails (M : fM) (a : Int32) : fM := (if a ≤ 0 then (fst1 M 296 7 a) else (fst1 M 296 7 a))
theorem n_X12_fails (M : fM) (a : Int32) : narrow .boolean (.int (r_X12_fails M a)) = .int (r_X12_fails M a) := by
  unfold r_X12_fails
  repeat' with_reducible apply n_ite
  all_goals first | rfl | exact pk_nc _
set_option maxRecDepth 100000 in
set_option maxHeartbeats 4000000 in
theorem c_X12_fails {G : fG} (hG : fOK G) {d : Nat} (hd : 0 ≤ d) (M : fM) (dv : UInt64) (a : Int32) : fCt G z_X12_fails d [.ref 296, .int a] (sS M dv) 0 0 (fD (some (.int (r_X12_fails M a))) (sS (m_X12_fails M a) dv)) := by
  refine fCt_to [some (.ref 296), some (.int a)] k_X12_fails rfl (Nat.le_of_ble_eq_true rfl) rfl ?_
  refine f_aload_n dX12_fails_0 rfl rfl ?_
  refine f_iload_n dX12_fails_1 rfl rfl ?_
  refine s_puti hG fl_X12_45 (Or.inl rfl) dX12_fails_2 rfl rfl rfl rfl ?_
  refine f_iload_n dX12_fails_5 rfl rfl ?_
  refine f_if_le (tgt := 13) dX12_fails_6 (by decide) (fun c_6 => ?_) (fun c_6 => ?_)
  · refine f_iconst (v := 0) dX12_fails_13 rfl ?_
    refine f_ireturn dX12_fails_14 rfl rfl ?_
    exact ⟨by rw [r_X12_fails, if_pos c_6], by rw [m_X12_fails, if_pos c_6]⟩
  · refine f_iconst (v := 1) dX12_fails_9 rfl ?_
    refine f_goto (tgt := 14) dX12_fails_10 (by decide) ?_
    refine f_ireturn dX12_fails_14 rfl rfl ?_
    exact ⟨by rw [r_X12_fails, if_neg c_6], by rw [m_X12_fails, if_neg c_6]⟩

def r_X12_in (M : fM) (a : Int32) (b : Int32) (c : Int32) : Int32 := (if a < b then (0 : Int32) else (if c < a then (0 : Int32) else (1 : Int32)))
theorem n_X12_in (M : fM) (a : Int32) (b : Int32) (c : Int32) : narrow .boolean (.int (r_X12_in M a b c)) = .int (r_X12_in M a b c) := by
  unfold r_X12_in
  repeat' with_reducible apply n_ite
  all_goals first | rfl | exact pk_nc _
set_option maxRecDepth 100000 in
set_option maxHeartbeats 4000000 in
theorem c_X12_in {G : fG} (hG : fOK G) {d : Nat} (hd : 0 ≤ d) (M : fM) (dv : UInt64) (a : Int32) (b : Int32) (c : Int32) : fCt G z_X12_in d [.int a, .int b, .int c] (sS M dv) 0 0 (fD (some (.int (r_X12_in M a b c))) (sS M dv)) := by
  refine fCt_to [some (.int a), some (.int b), some (.int c)] k_X12_in rfl (Nat.le_of_ble_eq_true rfl) rfl ?_
  refine f_iload_n dX12_in_0 rfl rfl ?_
  refine f_iload_n dX12_in_1 rfl rfl ?_
  refine f_icmp_lt (tgt := 14) dX12_in_2 (by decide) (fun c_2 => ?_) (fun c_2 => ?_)
  · refine f_iconst (v := 0) dX12_in_14 rfl ?_
    refine f_ireturn dX12_in_15 rfl rfl ?_
    exact ⟨by rw [r_X12_in, if_pos c_2], rfl⟩
  · refine f_iload_n dX12_in_5 rfl rfl ?_
    refine f_iload_n dX12_in_6 rfl rfl ?_
    refine f_icmp_gt (tgt := 14) dX12_in_7 (by decide) (fun c_7 => ?_) (fun c_7 => ?_)
    · refine f_iconst (v := 0) dX12_in_14 rfl ?_
      refine f_ireturn dX12_in_15 rfl rfl ?_
      exact ⟨by rw [r_X12_in, if_neg c_2, if_pos c_7], rfl⟩
    · refine f_iconst (v := 1) dX12_in_10 rfl ?_
      refine f_goto (tgt := 15) dX12_in_11 (by decide) ?_
      refine f_ireturn dX12_in_15 rfl rfl ?_
      exact ⟨by rw [r_X12_in, if_neg c_2, if_neg c_7], rfl⟩

def r_X12_least (M : fM) (a : Int32) (b : Int32) : Int32 := (if b ≤ a then b else a)
set_option maxRecDepth 100000 in
set_option maxHeartbeats 4000000 in
theorem c_X12_least {G : fG} (hG : fOK G) {d : Nat} (hd : 0 ≤ d) (M : fM) (dv : UInt64) (a : Int32) (b : Int32) : fCt G z_X12_least d [.int a, .int b] (sS M dv) 0 0 (fD (some (.int (r_X12_least M a b))) (sS M dv)) := by
  refine fCt_to [some (.int a), some (.int b)] k_X12_least rfl (Nat.le_of_ble_eq_true rfl) rfl ?_
  refine f_iload_n dX12_least_0 rfl rfl ?_
  refine f_iload_n dX12_least_1 rfl rfl ?_
  refine f_icmp_ge (tgt := 9) dX12_least_2 (by decide) (fun c_2 => ?_) (fun c_2 => ?_)
  · refine f_iload_n dX12_least_9 rfl rfl ?_
    refine f_ireturn dX12_least_10 rfl rfl ?_
    exact ⟨by rw [r_X12_least, if_pos c_2], rfl⟩
  · refine f_iload_n dX12_least_5 rfl rfl ?_
    refine f_goto (tgt := 10) dX12_least_6 (by decide) ?_
    refine f_ireturn dX12_least_10 rfl rfl ?_
    exact ⟨by rw [r_X12_least, if_neg c_2], rfl⟩

def l_X12_copies (p : Nat) (n : Nat) (a : Int32) (q : Nat) (z : Nat) (b : Int32) : fM → Nat → Nat → fM
  | M, 0, _ => M
  | M, m + 1, j => (if (127 : Int32) ≤ (nI j) then M else (l_X12_copies p n a q z b (fst1 M q ((b + (nI j))).toNatClampNeg (M p ((a + (nI j))).toNatClampNeg)) m (j + 1)))
set_option maxRecDepth 100000 in
set_option maxHeartbeats 4000000 in
theorem lp_X12_copies {G : fG} (hG : fOK G) {d : Nat} (hd : 0 ≤ d) (dv : UInt64) (p : Nat) (n : Nat) (a : Int32) (q : Nat) (z : Nat) (b : Int32) (hp : rArr p n) (hnp : n < 2147483648) (hq : rArr q z) (hnq : z < 2147483648) (q0 : ∀ (j : Nat), j ≤ 127 → ¬ ((127 : Int32) ≤ (nI j)) → j < 127) (q1 : ∀ (j : Nat), j ≤ 127 → ¬ ((127 : Int32) ≤ (nI j)) → vp_in (a + (nI j)) n) (q2 : ∀ (j : Nat), j ≤ 127 → ¬ ((127 : Int32) ≤ (nI j)) → vp_in (b + (nI j)) z) : ∀ (m j : Nat) (M : fM), j ≤ 127 → 127 + 1 ≤ j + m → fV G z_X12_copies d (fD none (sS (l_X12_copies p n a q z b M m j) dv)) 3 [some (.ref p), some (.int a), some (.ref q), some (.int b), some (.int (nI j))] [] (sS M dv) 0 0 := by
  intro m
  induction m with
  | zero => intros; omega
  | succ m ih =>
    intro j M hj hm
    refine f_iload dX12_copies_3 rfl ?_
    refine f_bipush (v := 127) dX12_copies_5 (by decide) ?_
    refine f_icmp_ge (tgt := 28) dX12_copies_7 (by decide) (fun c_7 => ?_) (fun c_7 => ?_)
    · refine f_return dX12_copies_28 rfl ?_
      exact ⟨rfl, by rw [l_X12_copies, if_pos c_7]⟩
    · have hlt : j < 127 := (q0 j hj c_7)
      refine f_aload_n dX12_copies_10 rfl rfl ?_
      refine f_iload_n dX12_copies_11 rfl rfl ?_
      refine f_iload dX12_copies_12 rfl ?_
      refine f_iadd dX12_copies_14 ?_
      refine f_aload_n dX12_copies_15 rfl rfl ?_
      refine f_iload_n dX12_copies_16 rfl rfl ?_
      refine f_iload dX12_copies_17 rfl ?_
      refine f_iadd dX12_copies_19 ?_
      refine s_iaload hG dX12_copies_20 hp ((q1 j hj c_7)) ?_
      refine s_iastore hG dX12_copies_21 hq ((q2 j hj c_7)) ?_
      refine f_iinc (v := nI (j + 1)) (ls' := [_, _, _, _, _]) dX12_copies_22 rfl (nI_1 j) (Nat.le_of_ble_eq_true rfl) rfl rfl ?_
      refine f_goto (tgt := 3) dX12_copies_25 (by decide) ?_
      have e9 : l_X12_copies p n a q z b M (m + 1) j = l_X12_copies p n a q z b (fst1 M q ((b + (nI j))).toNatClampNeg (M p ((a + (nI j))).toNatClampNeg)) m (j + 1) := by rw [l_X12_copies, if_neg c_7]
      rw [e9]
      exact ih (j + 1) (fst1 M q ((b + (nI j))).toNatClampNeg (M p ((a + (nI j))).toNatClampNeg)) (by omega) (by omega)
def m_X12_copies (M : fM) (p : Nat) (n : Nat) (a : Int32) (q : Nat) (z : Nat) (b : Int32) : fM := (l_X12_copies p n a q z b M 128 0)
set_option maxRecDepth 100000 in
set_option maxHeartbeats 4000000 in
theorem c_X12_copies {G : fG} (hG : fOK G) {d : Nat} (hd : 0 ≤ d) (M : fM) (dv : UInt64) (p : Nat) (n : Nat) (a : Int32) (q : Nat) (z : Nat) (b : Int32) (hp : rArr p n) (hnp : n < 2147483648) (hq : rArr q z) (hnq : z < 2147483648) (q0 : ∀ (j : Nat), j ≤ 127 → ¬ ((127 : Int32) ≤ (nI j)) → j < 127) (q1 : ∀ (j : Nat), j ≤ 127 → ¬ ((127 : Int32) ≤ (nI j)) → vp_in (a + (nI j)) n) (q2 : ∀ (j : Nat), j ≤ 127 → ¬ ((127 : Int32) ≤ (nI j)) → vp_in (b + (nI j)) z) : fCt G z_X12_copies d [.ref p, .int a, .ref q, .int b] (sS M dv) 0 0 (fD none (sS (m_X12_copies M p n a q z b) dv)) := by
  refine fCt_to [some (.ref p), some (.int a), some (.ref q), some (.int b), none] k_X12_copies rfl (Nat.le_of_ble_eq_true rfl) rfl ?_
  refine f_iconst (v := 0) dX12_copies_0 rfl ?_
  refine f_istore (ls' := [_, _, _, _, _]) dX12_copies_1 (Nat.le_of_ble_eq_true rfl) rfl rfl ?_
  exact lp_X12_copies hG hd dv p n a q z b hp hnp hq hnq q0 q1 q2 128 0 _ (by omega) (by omega)

def l_X12_keepsL (p : Nat) (n : Nat) : fM → Nat → Nat → fM
  | M, 0, _ => M
  | M, m + 1, j => (if (889 : Int32) ≤ (nI j) then M else (l_X12_keepsL p n (fst1 M 298 ((nI j)).toNatClampNeg (M 298 (((nI j) + (127 : Int32))).toNatClampNeg)) m (j + 1)))
set_option maxRecDepth 100000 in
set_option maxHeartbeats 4000000 in
theorem lc_X12_keepsL {G : fG} (hG : fOK G) {d : Nat} (hd : 0 ≤ d) (dv : UInt64) (p : Nat) (n : Nat) (hp : rArr p n) (hnp : n < 2147483648) (q0 : ∀ (j : Nat), j ≤ 889 → ¬ ((889 : Int32) ≤ (nI j)) → j < 889) (q1 : ∀ (j : Nat), j ≤ 889 → ¬ ((889 : Int32) ≤ (nI j)) → vp_in ((nI j) + (127 : Int32)) 1016) (q2 : ∀ (j : Nat), j ≤ 889 → ¬ ((889 : Int32) ≤ (nI j)) → vp_in (nI j) 1016) {Q : fR → fS → Prop} {kc ks : Nat} : ∀ (m j : Nat) (M : fM), j ≤ 889 → 889 + 1 ≤ j + m → fV G z_X12_keeps d Q 52 [some (.ref 296), some (.ref p), none] [] (sS (l_X12_keepsL p n M m j) dv) kc ks → fV G z_X12_keeps d Q 24 [some (.ref 296), some (.ref p), some (.int (nI j))] [] (sS M dv) kc ks := by
  intro m
  induction m with
  | zero => intros; omega
  | succ m ih =>
    intro j M hj hm kk
    refine f_iload_n dX12_keeps_24 rfl rfl ?_
    refine f_sipush (v := 889) dX12_keeps_25 (by decide) ?_
    refine f_icmp_ge (tgt := 52) dX12_keeps_28 (by decide) (fun c_28 => ?_) (fun c_28 => ?_)
    · have e9 : l_X12_keepsL p n M (m + 1) j = M := by rw [l_X12_keepsL, if_pos c_28]
      rw [e9] at kk
      refine f_drop 2 ?_
      exact kk
    · have hlt : j < 889 := (q0 j hj c_28)
      refine f_aload_n dX12_keeps_31 rfl rfl ?_
      refine s_getr hG fl_X12_13 dX12_keeps_32 rfl rfl ?_
      refine f_iload_n dX12_keeps_35 rfl rfl ?_
      refine f_aload_n dX12_keeps_36 rfl rfl ?_
      refine s_getr hG fl_X12_13 dX12_keeps_37 rfl rfl ?_
      refine f_iload_n dX12_keeps_40 rfl rfl ?_
      refine f_bipush (v := 127) dX12_keeps_41 (by decide) ?_
      refine f_iadd dX12_keeps_43 ?_
      refine s_iaload hG dX12_keeps_44 rfl ((q1 j hj c_28)) ?_
      refine s_iastore hG dX12_keeps_45 rfl ((q2 j hj c_28)) ?_
      refine f_iinc (v := nI (j + 1)) (ls' := [_, _, _]) dX12_keeps_46 rfl (nI_1 j) (Nat.le_of_ble_eq_true rfl) rfl rfl ?_
      refine f_goto (tgt := 24) dX12_keeps_49 (by decide) ?_
      have e9 : l_X12_keepsL p n M (m + 1) j = l_X12_keepsL p n (fst1 M 298 ((nI j)).toNatClampNeg (M 298 (((nI j) + (127 : Int32))).toNatClampNeg)) m (j + 1) := by rw [l_X12_keepsL, if_neg c_28]
      exact ih (j + 1) (fst1 M 298 ((nI j)).toNatClampNeg (M 298 (((nI j) + (127 : Int32))).toNatClampNeg)) (by omega) (by omega) (by rw [e9] at kk; exact kk)

def m_X12_keeps (M : fM) (p : Nat) (n : Nat) : fM := (if ((fst1 M 296 7 (0 : Int32)) 296 6) = 0 then (if ((fst1 M 296 7 (0 : Int32)) 296 5) = (8 : Int32) then (fst1 (m_X12_copies (fst1 (l_X12_keepsL p n (fst1 M 296 7 (0 : Int32)) 890 0) 296 5 (((l_X12_keepsL p n (fst1 M 296 7 (0 : Int32)) 890 0) 296 5) - (1 : Int32))) p n (0 : Int32) 298 1016 ((127 : Int32) * ((fst1 (l_X12_keepsL p n (fst1 M 296 7 (0 : Int32)) 890 0) 296 5 (((l_X12_keepsL p n (fst1 M 296 7 (0 : Int32)) 890 0) 296 5) - (1 : Int32))) 296 5))) 296 5 (((m_X12_copies (fst1 (l_X12_keepsL p n (fst1 M 296 7 (0 : Int32)) 890 0) 296 5 (((l_X12_keepsL p n (fst1 M 296 7 (0 : Int32)) 890 0) 296 5) - (1 : Int32))) p n (0 : Int32) 298 1016 ((127 : Int32) * ((fst1 (l_X12_keepsL p n (fst1 M 296 7 (0 : Int32)) 890 0) 296 5 (((l_X12_keepsL p n (fst1 M 296 7 (0 : Int32)) 890 0) 296 5) - (1 : Int32))) 296 5))) 296 5) + (1 : Int32))) else (fst1 (m_X12_copies (fst1 M 296 7 (0 : Int32)) p n (0 : Int32) 298 1016 ((127 : Int32) * ((fst1 M 296 7 (0 : Int32)) 296 5))) 296 5 (((m_X12_copies (fst1 M 296 7 (0 : Int32)) p n (0 : Int32) 298 1016 ((127 : Int32) * ((fst1 M 296 7 (0 : Int32)) 296 5))) 296 5) + (1 : Int32)))) else (fst1 M 296 7 (0 : Int32)))
set_option maxRecDepth 100000 in
set_option maxHeartbeats 4000000 in
theorem c_X12_keeps {G : fG} (hG : fOK G) {d : Nat} (hd : 1 ≤ d) (M : fM) (dv : UInt64) (p : Nat) (n : Nat) (hp : rArr p n) (hnp : n < 2147483648) (q0 : (((fst1 M 296 7 (0 : Int32)) 296 6) = 0) → ¬ (((fst1 M 296 7 (0 : Int32)) 296 5) = (8 : Int32)) → ∀ (j_73 : Nat), j_73 ≤ 127 → ¬ ((127 : Int32) ≤ (nI j_73)) → j_73 < 127) (q1 : (((fst1 M 296 7 (0 : Int32)) 296 6) = 0) → ¬ (((fst1 M 296 7 (0 : Int32)) 296 5) = (8 : Int32)) → ∀ (j_74 : Nat), j_74 ≤ 127 → ¬ ((127 : Int32) ≤ (nI j_74)) → vp_in ((0 : Int32) + (nI j_74)) n) (q2 : (((fst1 M 296 7 (0 : Int32)) 296 6) = 0) → ¬ (((fst1 M 296 7 (0 : Int32)) 296 5) = (8 : Int32)) → ∀ (j_75 : Nat), j_75 ≤ 127 → ¬ ((127 : Int32) ≤ (nI j_75)) → vp_in (((127 : Int32) * ((fst1 M 296 7 (0 : Int32)) 296 5)) + (nI j_75)) 1016) (q3 : (((fst1 M 296 7 (0 : Int32)) 296 6) = 0) → (((fst1 M 296 7 (0 : Int32)) 296 5) = (8 : Int32)) → ∀ (j_76 : Nat), j_76 ≤ 889 → ¬ ((889 : Int32) ≤ (nI j_76)) → j_76 < 889) (q4 : (((fst1 M 296 7 (0 : Int32)) 296 6) = 0) → (((fst1 M 296 7 (0 : Int32)) 296 5) = (8 : Int32)) → ∀ (j_77 : Nat), j_77 ≤ 889 → ¬ ((889 : Int32) ≤ (nI j_77)) → vp_in ((nI j_77) + (127 : Int32)) 1016) (q5 : (((fst1 M 296 7 (0 : Int32)) 296 6) = 0) → (((fst1 M 296 7 (0 : Int32)) 296 5) = (8 : Int32)) → ∀ (j_78 : Nat), j_78 ≤ 889 → ¬ ((889 : Int32) ≤ (nI j_78)) → vp_in (nI j_78) 1016) (q6 : (((fst1 M 296 7 (0 : Int32)) 296 6) = 0) → (((fst1 M 296 7 (0 : Int32)) 296 5) = (8 : Int32)) → ∀ (j_79 : Nat), j_79 ≤ 127 → ¬ ((127 : Int32) ≤ (nI j_79)) → j_79 < 127) (q7 : (((fst1 M 296 7 (0 : Int32)) 296 6) = 0) → (((fst1 M 296 7 (0 : Int32)) 296 5) = (8 : Int32)) → ∀ (j_80 : Nat), j_80 ≤ 127 → ¬ ((127 : Int32) ≤ (nI j_80)) → vp_in ((0 : Int32) + (nI j_80)) n) (q8 : (((fst1 M 296 7 (0 : Int32)) 296 6) = 0) → (((fst1 M 296 7 (0 : Int32)) 296 5) = (8 : Int32)) → ∀ (j_81 : Nat), j_81 ≤ 127 → ¬ ((127 : Int32) ≤ (nI j_81)) → vp_in (((127 : Int32) * ((fst1 (l_X12_keepsL p n (fst1 M 296 7 (0 : Int32)) 890 0) 296 5 (((l_X12_keepsL p n (fst1 M 296 7 (0 : Int32)) 890 0) 296 5) - (1 : Int32))) 296 5)) + (nI j_81)) 1016) : fCt G z_X12_keeps d [.ref 296, .ref p] (sS M dv) 0 0 (fD none (sS (m_X12_keeps M p n) dv)) := by
  refine fCt_to [some (.ref 296), some (.ref p), none] k_X12_keeps rfl (Nat.le_of_ble_eq_true rfl) rfl ?_
  refine f_aload_n dX12_keeps_0 rfl rfl ?_
  refine f_iconst (v := 0) dX12_keeps_1 rfl ?_
  refine s_puti hG fl_X12_45 (Or.inl rfl) dX12_keeps_2 rfl rfl rfl rfl ?_
  refine f_aload_n dX12_keeps_5 rfl rfl ?_
  refine s_geti hG fl_X12_48 dX12_keeps_6 rfl rfl ?_
  refine f_if_eq (tgt := 13) dX12_keeps_9 (by decide) (fun c_9 => ?_) (fun c_9 => ?_)
  · refine f_aload_n dX12_keeps_13 rfl rfl ?_
    refine s_geti hG fl_X12_52 dX12_keeps_14 rfl rfl ?_
    refine f_bipush (v := 8) dX12_keeps_17 (by decide) ?_
    refine f_icmp_ne (tgt := 62) dX12_keeps_19 (by decide) (fun c_19 => ?_) (fun c_19 => ?_)
    · refine f_aload_n dX12_keeps_62 rfl rfl ?_
      refine f_iconst (v := 0) dX12_keeps_63 rfl ?_
      refine f_aload_n dX12_keeps_64 rfl rfl ?_
      refine s_getr hG fl_X12_13 dX12_keeps_65 rfl rfl ?_
      refine f_bipush (v := 127) dX12_keeps_68 (by decide) ?_
      refine f_aload_n dX12_keeps_70 rfl rfl ?_
      refine s_geti hG fl_X12_52 dX12_keeps_71 rfl rfl ?_
      refine f_imul dX12_keeps_74 ?_
      refine f_cS hG (As := [_, _, _, _]) dX12_keeps_75 rfl k_X12_copies rfl rfl ml_X12_55 sm_X12_copies (c_X12_copies hG (d := 0) (Nat.le_refl _) _ _ _ _ _ _ _ _ hp hnp rfl (by decide) (q0 c_9 c_19) (q1 c_9 c_19) (q2 c_9 c_19)) (by omega) (Nat.le_of_ble_eq_true rfl) (Nat.zero_le _) (Nat.zero_le _) ?_
      refine f_aload_n dX12_keeps_78 rfl rfl ?_
      refine f_dup dX12_keeps_79 rfl ?_
      refine s_geti hG fl_X12_52 dX12_keeps_80 rfl rfl ?_
      refine f_iconst (v := 1) dX12_keeps_83 rfl ?_
      refine f_iadd dX12_keeps_84 ?_
      refine s_puti hG fl_X12_52 (Or.inl rfl) dX12_keeps_85 rfl rfl rfl rfl ?_
      refine f_return dX12_keeps_88 rfl ?_
      exact ⟨rfl, by rw [m_X12_keeps, if_pos c_9, if_neg c_19]⟩
    · refine f_iconst (v := 0) dX12_keeps_22 rfl ?_
      refine f_istore_n (ls' := [_, _, _]) dX12_keeps_23 rfl (Nat.le_of_ble_eq_true rfl) rfl rfl ?_
      refine lc_X12_keepsL hG (by omega) dv _ _ hp hnp (q3 c_9 c_19) (q4 c_9 c_19) (q5 c_9 c_19) 890 0 _ (by omega) (by omega) ?_
      refine f_aload_n dX12_keeps_52 rfl rfl ?_
      refine f_dup dX12_keeps_53 rfl ?_
      refine s_geti hG fl_X12_52 dX12_keeps_54 rfl rfl ?_
      refine f_iconst (v := 1) dX12_keeps_57 rfl ?_
      refine f_isub dX12_keeps_58 ?_
      refine s_puti hG fl_X12_52 (Or.inl rfl) dX12_keeps_59 rfl rfl rfl rfl ?_
      refine f_aload_n dX12_keeps_62 rfl rfl ?_
      refine f_iconst (v := 0) dX12_keeps_63 rfl ?_
      refine f_aload_n dX12_keeps_64 rfl rfl ?_
      refine s_getr hG fl_X12_13 dX12_keeps_65 rfl rfl ?_
      refine f_bipush (v := 127) dX12_keeps_68 (by decide) ?_
      refine f_aload_n dX12_keeps_70 rfl rfl ?_
      refine s_geti hG fl_X12_52 dX12_keeps_71 rfl rfl ?_
      refine f_imul dX12_keeps_74 ?_
      refine f_cS hG (As := [_, _, _, _]) dX12_keeps_75 rfl k_X12_copies rfl rfl ml_X12_55 sm_X12_copies (c_X12_copies hG (d := 0) (Nat.le_refl _) _ _ _ _ _ _ _ _ hp hnp rfl (by decide) (q6 c_9 c_19) (q7 c_9 c_19) (q8 c_9 c_19)) (by omega) (Nat.le_of_ble_eq_true rfl) (Nat.zero_le _) (Nat.zero_le _) ?_
      refine f_aload_n dX12_keeps_78 rfl rfl ?_
      refine f_dup dX12_keeps_79 rfl ?_
      refine s_geti hG fl_X12_52 dX12_keeps_80 rfl rfl ?_
      refine f_iconst (v := 1) dX12_keeps_83 rfl ?_
      refine f_iadd dX12_keeps_84 ?_
      refine s_puti hG fl_X12_52 (Or.inl rfl) dX12_keeps_85 rfl rfl rfl rfl ?_
      refine f_return dX12_keeps_88 rfl ?_
      exact ⟨rfl, by rw [m_X12_keeps, if_pos c_9, if_pos c_19]⟩
  · refine f_return dX12_keeps_12 rfl ?_
    exact ⟨rfl, by rw [m_X12_keeps, if_neg c_9]⟩

def l_X12_bits (a : Int32) (M : fM) : Nat → Nat → Int32 → Int32
  | 0, _, _ => 0
  | m + 1, j, v1 => (if (8 : Int32) ≤ (nI j) then v1 else (l_X12_bits a M m (j + 1) (v1 + ((a >>> ((nI j) &&& 31)) &&& (1 : Int32)))))
set_option maxRecDepth 100000 in
set_option maxHeartbeats 4000000 in
theorem lp_X12_bits {G : fG} (hG : fOK G) {d : Nat} (hd : 0 ≤ d) (M : fM) (dv : UInt64) (a : Int32) (q0 : ∀ (j : Nat) (v1 : Int32), j ≤ 8 → ¬ ((8 : Int32) ≤ (nI j)) → j < 8) : ∀ (m j : Nat) (v1 : Int32), j ≤ 8 → 8 + 1 ≤ j + m → fV G z_X12_bits d (fD (some (.int (l_X12_bits a M m j v1))) (sS M dv)) 4 [some (.int a), some (.int v1), some (.int (nI j))] [] (sS M dv) 0 0 := by
  intro m
  induction m with
  | zero => intros; omega
  | succ m ih =>
    intro j v1 hj hm
    refine f_iload_n dX12_bits_4 rfl rfl ?_
    refine f_bipush (v := 8) dX12_bits_5 (by decide) ?_
    refine f_icmp_ge (tgt := 24) dX12_bits_7 (by decide) (fun c_7 => ?_) (fun c_7 => ?_)
    · refine f_iload_n dX12_bits_24 rfl rfl ?_
      refine f_ireturn dX12_bits_25 rfl rfl ?_
      exact ⟨by rw [l_X12_bits, if_pos c_7], rfl⟩
    · have hlt : j < 8 := (q0 j v1 hj c_7)
      refine f_iload_n dX12_bits_10 rfl rfl ?_
      refine f_iload_n dX12_bits_11 rfl rfl ?_
      refine f_iload_n dX12_bits_12 rfl rfl ?_
      refine f_ishr dX12_bits_13 ?_
      refine f_iconst (v := 1) dX12_bits_14 rfl ?_
      refine f_iand dX12_bits_15 ?_
      refine f_iadd dX12_bits_16 ?_
      refine f_istore_n (ls' := [_, _, _]) dX12_bits_17 rfl (Nat.le_of_ble_eq_true rfl) rfl rfl ?_
      refine f_iinc (v := nI (j + 1)) (ls' := [_, _, _]) dX12_bits_18 rfl (nI_1 j) (Nat.le_of_ble_eq_true rfl) rfl rfl ?_
      refine f_goto (tgt := 4) dX12_bits_21 (by decide) ?_
      have e9 : l_X12_bits a M (m + 1) j v1 = l_X12_bits a M m (j + 1) (v1 + ((a >>> ((nI j) &&& 31)) &&& (1 : Int32))) := by rw [l_X12_bits, if_neg c_7]
      rw [e9]
      exact ih (j + 1) (v1 + ((a >>> ((nI j) &&& 31)) &&& (1 : Int32))) (by omega) (by omega)
def r_X12_bits (M : fM) (a : Int32) : Int32 := (l_X12_bits a M 9 0 (0 : Int32))
set_option maxRecDepth 100000 in
set_option maxHeartbeats 4000000 in
theorem c_X12_bits {G : fG} (hG : fOK G) {d : Nat} (hd : 0 ≤ d) (M : fM) (dv : UInt64) (a : Int32) (q0 : ∀ (j : Nat) (v1 : Int32), j ≤ 8 → ¬ ((8 : Int32) ≤ (nI j)) → j < 8) : fCt G z_X12_bits d [.int a] (sS M dv) 0 0 (fD (some (.int (r_X12_bits M a))) (sS M dv)) := by
  refine fCt_to [some (.int a), none, none] k_X12_bits rfl (Nat.le_of_ble_eq_true rfl) rfl ?_
  refine f_iconst (v := 0) dX12_bits_0 rfl ?_
  refine f_istore_n (ls' := [_, _, _]) dX12_bits_1 rfl (Nat.le_of_ble_eq_true rfl) rfl rfl ?_
  refine f_iconst (v := 0) dX12_bits_2 rfl ?_
  refine f_istore_n (ls' := [_, _, _]) dX12_bits_3 rfl (Nat.le_of_ble_eq_true rfl) rfl rfl ?_
  exact lp_X12_bits hG hd _ dv a q0 9 0 _ (by omega) (by omega)

def r_X12_isRaw (M : fM) (a : Int32) : Int32 := (r_X12_in M a (0 : Int32) ((M 297 ((0 : Int32)).toNatClampNeg) - (1 : Int32)))
theorem n_X12_isRaw (M : fM) (a : Int32) : narrow .boolean (.int (r_X12_isRaw M a)) = .int (r_X12_isRaw M a) := by
  unfold r_X12_isRaw
  repeat' with_reducible apply n_ite
  all_goals first | with_reducible exact n_X12_in .. | rfl | exact pk_nc _
set_option maxRecDepth 100000 in
set_option maxHeartbeats 4000000 in
theorem c_X12_isRaw {G : fG} (hG : fOK G) {d : Nat} (hd : 1 ≤ d) (M : fM) (dv : UInt64) (a : Int32) (q0 : vp_in (0 : Int32) 127) : fCt G z_X12_isRaw d [.ref 296, .int a] (sS M dv) 0 0 (fD (some (.int (r_X12_isRaw M a))) (sS M dv)) := by
  refine fCt_to [some (.ref 296), some (.int a)] k_X12_isRaw rfl (Nat.le_of_ble_eq_true rfl) rfl ?_
  refine f_iload_n dX12_isRaw_0 rfl rfl ?_
  refine f_iconst (v := 0) dX12_isRaw_1 rfl ?_
  refine f_aload_n dX12_isRaw_2 rfl rfl ?_
  refine s_getr hG fl_X12_7 dX12_isRaw_3 rfl rfl ?_
  refine f_iconst (v := 0) dX12_isRaw_6 rfl ?_
  refine s_iaload hG dX12_isRaw_7 rfl (q0) ?_
  refine f_iconst (v := 1) dX12_isRaw_8 rfl ?_
  refine f_isub dX12_isRaw_9 ?_
  refine f_cS hG (As := [_, _, _]) dX12_isRaw_10 rfl k_X12_in rfl rfl ml_X12_59 sm_X12_in (c_X12_in hG (d := 0) (Nat.le_refl _) _ _ _ _ _) (by omega) (Nat.le_of_ble_eq_true rfl) (Nat.zero_le _) (Nat.zero_le _) ?_
  refine f_ireturn dX12_isRaw_13 rfl (n_X12_in ..) ?_
  exact ⟨by rw [r_X12_isRaw], rfl⟩

def r_X12_isBatch (M : fM) (a : Int32) : Int32 := (r_X12_in M a (0 : Int32) ((M 297 ((1 : Int32)).toNatClampNeg) - (1 : Int32)))
theorem n_X12_isBatch (M : fM) (a : Int32) : narrow .boolean (.int (r_X12_isBatch M a)) = .int (r_X12_isBatch M a) := by
  unfold r_X12_isBatch
  repeat' with_reducible apply n_ite
  all_goals first | with_reducible exact n_X12_in .. | rfl | exact pk_nc _
set_option maxRecDepth 100000 in
set_option maxHeartbeats 4000000 in
theorem c_X12_isBatch {G : fG} (hG : fOK G) {d : Nat} (hd : 1 ≤ d) (M : fM) (dv : UInt64) (a : Int32) (q0 : vp_in (1 : Int32) 127) : fCt G z_X12_isBatch d [.ref 296, .int a] (sS M dv) 0 0 (fD (some (.int (r_X12_isBatch M a))) (sS M dv)) := by
  refine fCt_to [some (.ref 296), some (.int a)] k_X12_isBatch rfl (Nat.le_of_ble_eq_true rfl) rfl ?_
  refine f_iload_n dX12_isBatch_0 rfl rfl ?_
  refine f_iconst (v := 0) dX12_isBatch_1 rfl ?_
  refine f_aload_n dX12_isBatch_2 rfl rfl ?_
  refine s_getr hG fl_X12_7 dX12_isBatch_3 rfl rfl ?_
  refine f_iconst (v := 1) dX12_isBatch_6 rfl ?_
  refine s_iaload hG dX12_isBatch_7 rfl (q0) ?_
  refine f_iconst (v := 1) dX12_isBatch_8 rfl ?_
  refine f_isub dX12_isBatch_9 ?_
  refine f_cS hG (As := [_, _, _]) dX12_isBatch_10 rfl k_X12_in rfl rfl ml_X12_59 sm_X12_in (c_X12_in hG (d := 0) (Nat.le_refl _) _ _ _ _ _) (by omega) (Nat.le_of_ble_eq_true rfl) (Nat.zero_le _) (Nat.zero_le _) ?_
  refine f_ireturn dX12_isBatch_13 rfl (n_X12_in ..) ?_
  exact ⟨by rw [r_X12_isBatch], rfl⟩

def r_X12_of (M : fM) (a : Int32) (b : Int32) : Int32 := (M 297 ((((11 : Int32) + ((2 : Int32) * a)) + b)).toNatClampNeg)
set_option maxRecDepth 100000 in
set_option maxHeartbeats 4000000 in
theorem c_X12_of {G : fG} (hG : fOK G) {d : Nat} (hd : 0 ≤ d) (M : fM) (dv : UInt64) (a : Int32) (b : Int32) (q0 : vp_in (((11 : Int32) + ((2 : Int32) * a)) + b) 127) : fCt G z_X12_of d [.ref 296, .int a, .int b] (sS M dv) 0 0 (fD (some (.int (r_X12_of M a b))) (sS M dv)) := by
  refine fCt_to [some (.ref 296), some (.int a), some (.int b)] k_X12_of rfl (Nat.le_of_ble_eq_true rfl) rfl ?_
  refine f_aload_n dX12_of_0 rfl rfl ?_
  refine s_getr hG fl_X12_7 dX12_of_1 rfl rfl ?_
  refine f_bipush (v := 11) dX12_of_4 (by decide) ?_
  refine f_iconst (v := 2) dX12_of_6 rfl ?_
  refine f_iload_n dX12_of_7 rfl rfl ?_
  refine f_imul dX12_of_8 ?_
  refine f_iadd dX12_of_9 ?_
  refine f_iload_n dX12_of_10 rfl rfl ?_
  refine f_iadd dX12_of_11 ?_
  refine s_iaload hG dX12_of_12 rfl (q0) ?_
  refine f_ireturn dX12_of_13 rfl rfl ?_
  exact ⟨by rw [r_X12_of], rfl⟩

def r_X12_addRaw (M : fM) : Int32 := (if (M 297 ((0 : Int32)).toNatClampNeg) = (6 : Int32) then (if (r_X12_fails M (1 : Int32)) = 0 then (((fst1 (m_X12_keeps (m_X12_fails M (1 : Int32)) 297 127) 297 ((0 : Int32)).toNatClampNeg (((m_X12_keeps (m_X12_fails M (1 : Int32)) 297 127) 297 ((0 : Int32)).toNatClampNeg) + (1 : Int32))) 297 ((0 : Int32)).toNatClampNeg) - (1 : Int32)) else (0 : Int32)) else (if (r_X12_fails M (0 : Int32)) = 0 then (((fst1 (m_X12_keeps (m_X12_fails M (0 : Int32)) 297 127) 297 ((0 : Int32)).toNatClampNeg (((m_X12_keeps (m_X12_fails M (0 : Int32)) 297 127) 297 ((0 : Int32)).toNatClampNeg) + (1 : Int32))) 297 ((0 : Int32)).toNatClampNeg) - (1 : Int32)) else (0 : Int32)))
def m_X12_addRaw (M : fM) : fM := (if (M 297 ((0 : Int32)).toNatClampNeg) = (6 : Int32) then (if (r_X12_fails M (1 : Int32)) = 0 then (fst1 (m_X12_keeps (m_X12_fails M (1 : Int32)) 297 127) 297 ((0 : Int32)).toNatClampNeg (((m_X12_keeps (m_X12_fails M (1 : Int32)) 297 127) 297 ((0 : Int32)).toNatClampNeg) + (1 : Int32))) else (m_X12_fails M (1 : Int32))) else (if (r_X12_fails M (0 : Int32)) = 0 then (fst1 (m_X12_keeps (m_X12_fails M (0 : Int32)) 297 127) 297 ((0 : Int32)).toNatClampNeg (((m_X12_keeps (m_X12_fails M (0 : Int32)) 297 127) 297 ((0 : Int32)).toNatClampNeg) + (1 : Int32))) else (m_X12_fails M (0 : Int32))))
set_option maxRecDepth 100000 in
set_option maxHeartbeats 4000000 in
theorem c_X12_addRaw {G : fG} (hG : fOK G) {d : Nat} (hd : 2 ≤ d) (M : fM) (dv : UInt64) (q0 : vp_in (0 : Int32) 127) (q1 : ¬ ((M 297 ((0 : Int32)).toNatClampNeg) = (6 : Int32)) → ((r_X12_fails M (0 : Int32)) = 0) → (((fst1 (m_X12_fails M (0 : Int32)) 296 7 (0 : Int32)) 296 6) = 0) → ¬ (((fst1 (m_X12_fails M (0 : Int32)) 296 7 (0 : Int32)) 296 5) = (8 : Int32)) → ∀ (j_101 : Nat), j_101 ≤ 127 → ¬ ((127 : Int32) ≤ (nI j_101)) → j_101 < 127) (q2 : ¬ ((M 297 ((0 : Int32)).toNatClampNeg) = (6 : Int32)) → ((r_X12_fails M (0 : Int32)) = 0) → (((fst1 (m_X12_fails M (0 : Int32)) 296 7 (0 : Int32)) 296 6) = 0) → ¬ (((fst1 (m_X12_fails M (0 : Int32)) 296 7 (0 : Int32)) 296 5) = (8 : Int32)) → ∀ (j_102 : Nat), j_102 ≤ 127 → ¬ ((127 : Int32) ≤ (nI j_102)) → vp_in ((0 : Int32) + (nI j_102)) 127) (q3 : ¬ ((M 297 ((0 : Int32)).toNatClampNeg) = (6 : Int32)) → ((r_X12_fails M (0 : Int32)) = 0) → (((fst1 (m_X12_fails M (0 : Int32)) 296 7 (0 : Int32)) 296 6) = 0) → ¬ (((fst1 (m_X12_fails M (0 : Int32)) 296 7 (0 : Int32)) 296 5) = (8 : Int32)) → ∀ (j_103 : Nat), j_103 ≤ 127 → ¬ ((127 : Int32) ≤ (nI j_103)) → vp_in (((127 : Int32) * ((fst1 (m_X12_fails M (0 : Int32)) 296 7 (0 : Int32)) 296 5)) + (nI j_103)) 1016) (q4 : ¬ ((M 297 ((0 : Int32)).toNatClampNeg) = (6 : Int32)) → ((r_X12_fails M (0 : Int32)) = 0) → (((fst1 (m_X12_fails M (0 : Int32)) 296 7 (0 : Int32)) 296 6) = 0) → (((fst1 (m_X12_fails M (0 : Int32)) 296 7 (0 : Int32)) 296 5) = (8 : Int32)) → ∀ (j_104 : Nat), j_104 ≤ 889 → ¬ ((889 : Int32) ≤ (nI j_104)) → j_104 < 889) (q5 : ¬ ((M 297 ((0 : Int32)).toNatClampNeg) = (6 : Int32)) → ((r_X12_fails M (0 : Int32)) = 0) → (((fst1 (m_X12_fails M (0 : Int32)) 296 7 (0 : Int32)) 296 6) = 0) → (((fst1 (m_X12_fails M (0 : Int32)) 296 7 (0 : Int32)) 296 5) = (8 : Int32)) → ∀ (j_105 : Nat), j_105 ≤ 889 → ¬ ((889 : Int32) ≤ (nI j_105)) → vp_in ((nI j_105) + (127 : Int32)) 1016) (q6 : ¬ ((M 297 ((0 : Int32)).toNatClampNeg) = (6 : Int32)) → ((r_X12_fails M (0 : Int32)) = 0) → (((fst1 (m_X12_fails M (0 : Int32)) 296 7 (0 : Int32)) 296 6) = 0) → (((fst1 (m_X12_fails M (0 : Int32)) 296 7 (0 : Int32)) 296 5) = (8 : Int32)) → ∀ (j_106 : Nat), j_106 ≤ 889 → ¬ ((889 : Int32) ≤ (nI j_106)) → vp_in (nI j_106) 1016) (q7 : ¬ ((M 297 ((0 : Int32)).toNatClampNeg) = (6 : Int32)) → ((r_X12_fails M (0 : Int32)) = 0) → (((fst1 (m_X12_fails M (0 : Int32)) 296 7 (0 : Int32)) 296 6) = 0) → (((fst1 (m_X12_fails M (0 : Int32)) 296 7 (0 : Int32)) 296 5) = (8 : Int32)) → ∀ (j_107 : Nat), j_107 ≤ 127 → ¬ ((127 : Int32) ≤ (nI j_107)) → j_107 < 127) (q8 : ¬ ((M 297 ((0 : Int32)).toNatClampNeg) = (6 : Int32)) → ((r_X12_fails M (0 : Int32)) = 0) → (((fst1 (m_X12_fails M (0 : Int32)) 296 7 (0 : Int32)) 296 6) = 0) → (((fst1 (m_X12_fails M (0 : Int32)) 296 7 (0 : Int32)) 296 5) = (8 : Int32)) → ∀ (j_108 : Nat), j_108 ≤ 127 → ¬ ((127 : Int32) ≤ (nI j_108)) → vp_in ((0 : Int32) + (nI j_108)) 127) (q9 : ¬ ((M 297 ((0 : Int32)).toNatClampNeg) = (6 : Int32)) → ((r_X12_fails M (0 : Int32)) = 0) → (((fst1 (m_X12_fails M (0 : Int32)) 296 7 (0 : Int32)) 296 6) = 0) → (((fst1 (m_X12_fails M (0 : Int32)) 296 7 (0 : Int32)) 296 5) = (8 : Int32)) → ∀ (j_109 : Nat), j_109 ≤ 127 → ¬ ((127 : Int32) ≤ (nI j_109)) → vp_in (((127 : Int32) * ((fst1 (l_X12_keepsL 297 127 (fst1 (m_X12_fails M (0 : Int32)) 296 7 (0 : Int32)) 890 0) 296 5 (((l_X12_keepsL 297 127 (fst1 (m_X12_fails M (0 : Int32)) 296 7 (0 : Int32)) 890 0) 296 5) - (1 : Int32))) 296 5)) + (nI j_109)) 1016) (q10 : ¬ ((M 297 ((0 : Int32)).toNatClampNeg) = (6 : Int32)) → ((r_X12_fails M (0 : Int32)) = 0) → vp_in (0 : Int32) 127) (q11 : ((M 297 ((0 : Int32)).toNatClampNeg) = (6 : Int32)) → ((r_X12_fails M (1 : Int32)) = 0) → (((fst1 (m_X12_fails M (1 : Int32)) 296 7 (0 : Int32)) 296 6) = 0) → ¬ (((fst1 (m_X12_fails M (1 : Int32)) 296 7 (0 : Int32)) 296 5) = (8 : Int32)) → ∀ (j_110 : Nat), j_110 ≤ 127 → ¬ ((127 : Int32) ≤ (nI j_110)) → j_110 < 127) (q12 : ((M 297 ((0 : Int32)).toNatClampNeg) = (6 : Int32)) → ((r_X12_fails M (1 : Int32)) = 0) → (((fst1 (m_X12_fails M (1 : Int32)) 296 7 (0 : Int32)) 296 6) = 0) → ¬ (((fst1 (m_X12_fails M (1 : Int32)) 296 7 (0 : Int32)) 296 5) = (8 : Int32)) → ∀ (j_111 : Nat), j_111 ≤ 127 → ¬ ((127 : Int32) ≤ (nI j_111)) → vp_in ((0 : Int32) + (nI j_111)) 127) (q13 : ((M 297 ((0 : Int32)).toNatClampNeg) = (6 : Int32)) → ((r_X12_fails M (1 : Int32)) = 0) → (((fst1 (m_X12_fails M (1 : Int32)) 296 7 (0 : Int32)) 296 6) = 0) → ¬ (((fst1 (m_X12_fails M (1 : Int32)) 296 7 (0 : Int32)) 296 5) = (8 : Int32)) → ∀ (j_112 : Nat), j_112 ≤ 127 → ¬ ((127 : Int32) ≤ (nI j_112)) → vp_in (((127 : Int32) * ((fst1 (m_X12_fails M (1 : Int32)) 296 7 (0 : Int32)) 296 5)) + (nI j_112)) 1016) (q14 : ((M 297 ((0 : Int32)).toNatClampNeg) = (6 : Int32)) → ((r_X12_fails M (1 : Int32)) = 0) → (((fst1 (m_X12_fails M (1 : Int32)) 296 7 (0 : Int32)) 296 6) = 0) → (((fst1 (m_X12_fails M (1 : Int32)) 296 7 (0 : Int32)) 296 5) = (8 : Int32)) → ∀ (j_113 : Nat), j_113 ≤ 889 → ¬ ((889 : Int32) ≤ (nI j_113)) → j_113 < 889) (q15 : ((M 297 ((0 : Int32)).toNatClampNeg) = (6 : Int32)) → ((r_X12_fails M (1 : Int32)) = 0) → (((fst1 (m_X12_fails M (1 : Int32)) 296 7 (0 : Int32)) 296 6) = 0) → (((fst1 (m_X12_fails M (1 : Int32)) 296 7 (0 : Int32)) 296 5) = (8 : Int32)) → ∀ (j_114 : Nat), j_114 ≤ 889 → ¬ ((889 : Int32) ≤ (nI j_114)) → vp_in ((nI j_114) + (127 : Int32)) 1016) (q16 : ((M 297 ((0 : Int32)).toNatClampNeg) = (6 : Int32)) → ((r_X12_fails M (1 : Int32)) = 0) → (((fst1 (m_X12_fails M (1 : Int32)) 296 7 (0 : Int32)) 296 6) = 0) → (((fst1 (m_X12_fails M (1 : Int32)) 296 7 (0 : Int32)) 296 5) = (8 : Int32)) → ∀ (j_115 : Nat), j_115 ≤ 889 → ¬ ((889 : Int32) ≤ (nI j_115)) → vp_in (nI j_115) 1016) (q17 : ((M 297 ((0 : Int32)).toNatClampNeg) = (6 : Int32)) → ((r_X12_fails M (1 : Int32)) = 0) → (((fst1 (m_X12_fails M (1 : Int32)) 296 7 (0 : Int32)) 296 6) = 0) → (((fst1 (m_X12_fails M (1 : Int32)) 296 7 (0 : Int32)) 296 5) = (8 : Int32)) → ∀ (j_116 : Nat), j_116 ≤ 127 → ¬ ((127 : Int32) ≤ (nI j_116)) → j_116 < 127) (q18 : ((M 297 ((0 : Int32)).toNatClampNeg) = (6 : Int32)) → ((r_X12_fails M (1 : Int32)) = 0) → (((fst1 (m_X12_fails M (1 : Int32)) 296 7 (0 : Int32)) 296 6) = 0) → (((fst1 (m_X12_fails M (1 : Int32)) 296 7 (0 : Int32)) 296 5) = (8 : Int32)) → ∀ (j_117 : Nat), j_117 ≤ 127 → ¬ ((127 : Int32) ≤ (nI j_117)) → vp_in ((0 : Int32) + (nI j_117)) 127) (q19 : ((M 297 ((0 : Int32)).toNatClampNeg) = (6 : Int32)) → ((r_X12_fails M (1 : Int32)) = 0) → (((fst1 (m_X12_fails M (1 : Int32)) 296 7 (0 : Int32)) 296 6) = 0) → (((fst1 (m_X12_fails M (1 : Int32)) 296 7 (0 : Int32)) 296 5) = (8 : Int32)) → ∀ (j_118 : Nat), j_118 ≤ 127 → ¬ ((127 : Int32) ≤ (nI j_118)) → vp_in (((127 : Int32) * ((fst1 (l_X12_keepsL 297 127 (fst1 (m_X12_fails M (1 : Int32)) 296 7 (0 : Int32)) 890 0) 296 5 (((l_X12_keepsL 297 127 (fst1 (m_X12_fails M (1 : Int32)) 296 7 (0 : Int32)) 890 0) 296 5) - (1 : Int32))) 296 5)) + (nI j_118)) 1016) (q20 : ((M 297 ((0 : Int32)).toNatClampNeg) = (6 : Int32)) → ((r_X12_fails M (1 : Int32)) = 0) → vp_in (0 : Int32) 127) : fCt G z_X12_addRaw d [.ref 296] (sS M dv) 0 0 (fD (some (.int (r_X12_addRaw M))) (sS (m_X12_addRaw M) dv)) := by
  refine fCt_to [some (.ref 296)] k_X12_addRaw rfl (Nat.le_of_ble_eq_true rfl) rfl ?_
  refine f_aload_n dX12_addRaw_0 rfl rfl ?_
  refine f_aload_n dX12_addRaw_1 rfl rfl ?_
  refine s_getr hG fl_X12_7 dX12_addRaw_2 rfl rfl ?_
  refine f_iconst (v := 0) dX12_addRaw_5 rfl ?_
  refine s_iaload hG dX12_addRaw_6 rfl (q0) ?_
  refine f_bipush (v := 6) dX12_addRaw_7 (by decide) ?_
  refine f_icmp_ne (tgt := 16) dX12_addRaw_9 (by decide) (fun c_9 => ?_) (fun c_9 => ?_)
  · refine f_iconst (v := 0) dX12_addRaw_16 rfl ?_
    refine f_cV hG (As := [_]) dX12_addRaw_17 rfl k_X12_fails rfl rfl ml_X12_63 im_X12_fails se_X12_fails rfl rfl (c_X12_fails hG (d := 0) (Nat.le_refl _) _ _ _) (by omega) (Nat.le_of_ble_eq_true rfl) (Nat.zero_le _) (Nat.zero_le _) ?_
    refine f_if_eq (tgt := 25) dX12_addRaw_20 (by decide) (fun c_20 => ?_) (fun c_20 => ?_)
    · refine f_aload_n dX12_addRaw_25 rfl rfl ?_
      refine f_aload_n dX12_addRaw_26 rfl rfl ?_
      refine s_getr hG fl_X12_7 dX12_addRaw_27 rfl rfl ?_
      refine f_cV hG (As := [_]) dX12_addRaw_30 rfl k_X12_keeps rfl rfl ml_X12_67 im_X12_keeps se_X12_keeps rfl rfl (c_X12_keeps hG (d := 1) (Nat.le_refl _) _ _ _ _ rfl (by decide) (q1 c_9 c_20) (q2 c_9 c_20) (q3 c_9 c_20) (q4 c_9 c_20) (q5 c_9 c_20) (q6 c_9 c_20) (q7 c_9 c_20) (q8 c_9 c_20) (q9 c_9 c_20)) (by omega) (Nat.le_of_ble_eq_true rfl) (Nat.zero_le _) (Nat.zero_le _) ?_
      refine f_aload_n dX12_addRaw_33 rfl rfl ?_
      refine s_getr hG fl_X12_7 dX12_addRaw_34 rfl rfl ?_
      refine f_iconst (v := 0) dX12_addRaw_37 rfl ?_
      refine f_dup2 dX12_addRaw_38 rfl rfl ?_
      refine s_iaload hG dX12_addRaw_39 rfl ((q10 c_9 c_20)) ?_
      refine f_iconst (v := 1) dX12_addRaw_40 rfl ?_
      refine f_iadd dX12_addRaw_41 ?_
      refine s_iastore hG dX12_addRaw_42 rfl ((q10 c_9 c_20)) ?_
      refine f_aload_n dX12_addRaw_43 rfl rfl ?_
      refine s_getr hG fl_X12_7 dX12_addRaw_44 rfl rfl ?_
      refine f_iconst (v := 0) dX12_addRaw_47 rfl ?_
      refine s_iaload hG dX12_addRaw_48 rfl ((q10 c_9 c_20)) ?_
      refine f_iconst (v := 1) dX12_addRaw_49 rfl ?_
      refine f_isub dX12_addRaw_50 ?_
      refine f_ireturn dX12_addRaw_51 rfl rfl ?_
      exact ⟨by rw [r_X12_addRaw, if_neg c_9, if_pos c_20], by rw [m_X12_addRaw, if_neg c_9, if_pos c_20]⟩
    · refine f_iconst (v := 0) dX12_addRaw_23 rfl ?_
      refine f_ireturn dX12_addRaw_24 rfl rfl ?_
      exact ⟨by rw [r_X12_addRaw, if_neg c_9, if_neg c_20], by rw [m_X12_addRaw, if_neg c_9, if_neg c_20]⟩
  · refine f_iconst (v := 1) dX12_addRaw_12 rfl ?_
    refine f_goto (tgt := 17) dX12_addRaw_13 (by decide) ?_
    refine f_cV hG (As := [_]) dX12_addRaw_17 rfl k_X12_fails rfl rfl ml_X12_63 im_X12_fails se_X12_fails rfl rfl (c_X12_fails hG (d := 0) (Nat.le_refl _) _ _ _) (by omega) (Nat.le_of_ble_eq_true rfl) (Nat.zero_le _) (Nat.zero_le _) ?_
    refine f_if_eq (tgt := 25) dX12_addRaw_20 (by decide) (fun c_20 => ?_) (fun c_20 => ?_)
    · refine f_aload_n dX12_addRaw_25 rfl rfl ?_
      refine f_aload_n dX12_addRaw_26 rfl rfl ?_
      refine s_getr hG fl_X12_7 dX12_addRaw_27 rfl rfl ?_
      refine f_cV hG (As := [_]) dX12_addRaw_30 rfl k_X12_keeps rfl rfl ml_X12_67 im_X12_keeps se_X12_keeps rfl rfl (c_X12_keeps hG (d := 1) (Nat.le_refl _) _ _ _ _ rfl (by decide) (q11 c_9 c_20) (q12 c_9 c_20) (q13 c_9 c_20) (q14 c_9 c_20) (q15 c_9 c_20) (q16 c_9 c_20) (q17 c_9 c_20) (q18 c_9 c_20) (q19 c_9 c_20)) (by omega) (Nat.le_of_ble_eq_true rfl) (Nat.zero_le _) (Nat.zero_le _) ?_
      refine f_aload_n dX12_addRaw_33 rfl rfl ?_
      refine s_getr hG fl_X12_7 dX12_addRaw_34 rfl rfl ?_
      refine f_iconst (v := 0) dX12_addRaw_37 rfl ?_
      refine f_dup2 dX12_addRaw_38 rfl rfl ?_
      refine s_iaload hG dX12_addRaw_39 rfl ((q20 c_9 c_20)) ?_
      refine f_iconst (v := 1) dX12_addRaw_40 rfl ?_
      refine f_iadd dX12_addRaw_41 ?_
      refine s_iastore hG dX12_addRaw_42 rfl ((q20 c_9 c_20)) ?_
      refine f_aload_n dX12_addRaw_43 rfl rfl ?_
      refine s_getr hG fl_X12_7 dX12_addRaw_44 rfl rfl ?_
      refine f_iconst (v := 0) dX12_addRaw_47 rfl ?_
      refine s_iaload hG dX12_addRaw_48 rfl ((q20 c_9 c_20)) ?_
      refine f_iconst (v := 1) dX12_addRaw_49 rfl ?_
      refine f_isub dX12_addRaw_50 ?_
      refine f_ireturn dX12_addRaw_51 rfl rfl ?_
      exact ⟨by rw [r_X12_addRaw, if_pos c_9, if_pos c_20], by rw [m_X12_addRaw, if_pos c_9, if_pos c_20]⟩
    · refine f_iconst (v := 0) dX12_addRaw_23 rfl ?_
      refine f_ireturn dX12_addRaw_24 rfl rfl ?_
      exact ⟨by rw [r_X12_addRaw, if_pos c_9, if_neg c_20], by rw [m_X12_addRaw, if_pos c_9, if_neg c_20]⟩

def r_X12_mix (M : fM) (a : Int32) (b : Int32) : Int32 := (if (r_X12_in M a (1 : Int32) (((1 : Int32) <<< ((M 297 ((0 : Int32)).toNatClampNeg) &&& 31)) - (1 : Int32))) = 0 then (if (r_X12_fails M (1 : Int32)) = 0 then (((fst1 (fst1 (fst1 (m_X12_keeps (m_X12_fails M (1 : Int32)) 297 127) 297 ((((11 : Int32) + ((2 : Int32) * ((m_X12_keeps (m_X12_fails M (1 : Int32)) 297 127) 297 ((1 : Int32)).toNatClampNeg))) + (0 : Int32))).toNatClampNeg b) 297 ((((11 : Int32) + ((2 : Int32) * ((fst1 (m_X12_keeps (m_X12_fails M (1 : Int32)) 297 127) 297 ((((11 : Int32) + ((2 : Int32) * ((m_X12_keeps (m_X12_fails M (1 : Int32)) 297 127) 297 ((1 : Int32)).toNatClampNeg))) + (0 : Int32))).toNatClampNeg b) 297 ((1 : Int32)).toNatClampNeg))) + (1 : Int32))).toNatClampNeg a) 297 ((1 : Int32)).toNatClampNeg (((fst1 (fst1 (m_X12_keeps (m_X12_fails M (1 : Int32)) 297 127) 297 ((((11 : Int32) + ((2 : Int32) * ((m_X12_keeps (m_X12_fails M (1 : Int32)) 297 127) 297 ((1 : Int32)).toNatClampNeg))) + (0 : Int32))).toNatClampNeg b) 297 ((((11 : Int32) + ((2 : Int32) * ((fst1 (m_X12_keeps (m_X12_fails M (1 : Int32)) 297 127) 297 ((((11 : Int32) + ((2 : Int32) * ((m_X12_keeps (m_X12_fails M (1 : Int32)) 297 127) 297 ((1 : Int32)).toNatClampNeg))) + (0 : Int32))).toNatClampNeg b) 297 ((1 : Int32)).toNatClampNeg))) + (1 : Int32))).toNatClampNeg a) 297 ((1 : Int32)).toNatClampNeg) + (1 : Int32))) 297 ((1 : Int32)).toNatClampNeg) - (1 : Int32)) else (0 : Int32)) else (if (r_X12_in M b (1 : Int32) (20 : Int32)) = 0 then (if (r_X12_fails M (1 : Int32)) = 0 then (((fst1 (fst1 (fst1 (m_X12_keeps (m_X12_fails M (1 : Int32)) 297 127) 297 ((((11 : Int32) + ((2 : Int32) * ((m_X12_keeps (m_X12_fails M (1 : Int32)) 297 127) 297 ((1 : Int32)).toNatClampNeg))) + (0 : Int32))).toNatClampNeg b) 297 ((((11 : Int32) + ((2 : Int32) * ((fst1 (m_X12_keeps (m_X12_fails M (1 : Int32)) 297 127) 297 ((((11 : Int32) + ((2 : Int32) * ((m_X12_keeps (m_X12_fails M (1 : Int32)) 297 127) 297 ((1 : Int32)).toNatClampNeg))) + (0 : Int32))).toNatClampNeg b) 297 ((1 : Int32)).toNatClampNeg))) + (1 : Int32))).toNatClampNeg a) 297 ((1 : Int32)).toNatClampNeg (((fst1 (fst1 (m_X12_keeps (m_X12_fails M (1 : Int32)) 297 127) 297 ((((11 : Int32) + ((2 : Int32) * ((m_X12_keeps (m_X12_fails M (1 : Int32)) 297 127) 297 ((1 : Int32)).toNatClampNeg))) + (0 : Int32))).toNatClampNeg b) 297 ((((11 : Int32) + ((2 : Int32) * ((fst1 (m_X12_keeps (m_X12_fails M (1 : Int32)) 297 127) 297 ((((11 : Int32) + ((2 : Int32) * ((m_X12_keeps (m_X12_fails M (1 : Int32)) 297 127) 297 ((1 : Int32)).toNatClampNeg))) + (0 : Int32))).toNatClampNeg b) 297 ((1 : Int32)).toNatClampNeg))) + (1 : Int32))).toNatClampNeg a) 297 ((1 : Int32)).toNatClampNeg) + (1 : Int32))) 297 ((1 : Int32)).toNatClampNeg) - (1 : Int32)) else (0 : Int32)) else (if (M 297 ((1 : Int32)).toNatClampNeg) = (6 : Int32) then (if (r_X12_fails M (2 : Int32)) = 0 then (((fst1 (fst1 (fst1 (m_X12_keeps (m_X12_fails M (2 : Int32)) 297 127) 297 ((((11 : Int32) + ((2 : Int32) * ((m_X12_keeps (m_X12_fails M (2 : Int32)) 297 127) 297 ((1 : Int32)).toNatClampNeg))) + (0 : Int32))).toNatClampNeg b) 297 ((((11 : Int32) + ((2 : Int32) * ((fst1 (m_X12_keeps (m_X12_fails M (2 : Int32)) 297 127) 297 ((((11 : Int32) + ((2 : Int32) * ((m_X12_keeps (m_X12_fails M (2 : Int32)) 297 127) 297 ((1 : Int32)).toNatClampNeg))) + (0 : Int32))).toNatClampNeg b) 297 ((1 : Int32)).toNatClampNeg))) + (1 : Int32))).toNatClampNeg a) 297 ((1 : Int32)).toNatClampNeg (((fst1 (fst1 (m_X12_keeps (m_X12_fails M (2 : Int32)) 297 127) 297 ((((11 : Int32) + ((2 : Int32) * ((m_X12_keeps (m_X12_fails M (2 : Int32)) 297 127) 297 ((1 : Int32)).toNatClampNeg))) + (0 : Int32))).toNatClampNeg b) 297 ((((11 : Int32) + ((2 : Int32) * ((fst1 (m_X12_keeps (m_X12_fails M (2 : Int32)) 297 127) 297 ((((11 : Int32) + ((2 : Int32) * ((m_X12_keeps (m_X12_fails M (2 : Int32)) 297 127) 297 ((1 : Int32)).toNatClampNeg))) + (0 : Int32))).toNatClampNeg b) 297 ((1 : Int32)).toNatClampNeg))) + (1 : Int32))).toNatClampNeg a) 297 ((1 : Int32)).toNatClampNeg) + (1 : Int32))) 297 ((1 : Int32)).toNatClampNeg) - (1 : Int32)) else (0 : Int32)) else (if (a &&& (M 297 ((6 : Int32)).toNatClampNeg)) = 0 then (if (r_X12_fails M (0 : Int32)) = 0 then (((fst1 (fst1 (fst1 (m_X12_keeps (m_X12_fails M (0 : Int32)) 297 127) 297 ((((11 : Int32) + ((2 : Int32) * ((m_X12_keeps (m_X12_fails M (0 : Int32)) 297 127) 297 ((1 : Int32)).toNatClampNeg))) + (0 : Int32))).toNatClampNeg b) 297 ((((11 : Int32) + ((2 : Int32) * ((fst1 (m_X12_keeps (m_X12_fails M (0 : Int32)) 297 127) 297 ((((11 : Int32) + ((2 : Int32) * ((m_X12_keeps (m_X12_fails M (0 : Int32)) 297 127) 297 ((1 : Int32)).toNatClampNeg))) + (0 : Int32))).toNatClampNeg b) 297 ((1 : Int32)).toNatClampNeg))) + (1 : Int32))).toNatClampNeg a) 297 ((1 : Int32)).toNatClampNeg (((fst1 (fst1 (m_X12_keeps (m_X12_fails M (0 : Int32)) 297 127) 297 ((((11 : Int32) + ((2 : Int32) * ((m_X12_keeps (m_X12_fails M (0 : Int32)) 297 127) 297 ((1 : Int32)).toNatClampNeg))) + (0 : Int32))).toNatClampNeg b) 297 ((((11 : Int32) + ((2 : Int32) * ((fst1 (m_X12_keeps (m_X12_fails M (0 : Int32)) 297 127) 297 ((((11 : Int32) + ((2 : Int32) * ((m_X12_keeps (m_X12_fails M (0 : Int32)) 297 127) 297 ((1 : Int32)).toNatClampNeg))) + (0 : Int32))).toNatClampNeg b) 297 ((1 : Int32)).toNatClampNeg))) + (1 : Int32))).toNatClampNeg a) 297 ((1 : Int32)).toNatClampNeg) + (1 : Int32))) 297 ((1 : Int32)).toNatClampNeg) - (1 : Int32)) else (0 : Int32)) else (if (r_X12_fails M (3 : Int32)) = 0 then (((fst1 (fst1 (fst1 (m_X12_keeps (m_X12_fails M (3 : Int32)) 297 127) 297 ((((11 : Int32) + ((2 : Int32) * ((m_X12_keeps (m_X12_fails M (3 : Int32)) 297 127) 297 ((1 : Int32)).toNatClampNeg))) + (0 : Int32))).toNatClampNeg b) 297 ((((11 : Int32) + ((2 : Int32) * ((fst1 (m_X12_keeps (m_X12_fails M (3 : Int32)) 297 127) 297 ((((11 : Int32) + ((2 : Int32) * ((m_X12_keeps (m_X12_fails M (3 : Int32)) 297 127) 297 ((1 : Int32)).toNatClampNeg))) + (0 : Int32))).toNatClampNeg b) 297 ((1 : Int32)).toNatClampNeg))) + (1 : Int32))).toNatClampNeg a) 297 ((1 : Int32)).toNatClampNeg (((fst1 (fst1 (m_X12_keeps (m_X12_fails M (3 : Int32)) 297 127) 297 ((((11 : Int32) + ((2 : Int32) * ((m_X12_keeps (m_X12_fails M (3 : Int32)) 297 127) 297 ((1 : Int32)).toNatClampNeg))) + (0 : Int32))).toNatClampNeg b) 297 ((((11 : Int32) + ((2 : Int32) * ((fst1 (m_X12_keeps (m_X12_fails M (3 : Int32)) 297 127) 297 ((((11 : Int32) + ((2 : Int32) * ((m_X12_keeps (m_X12_fails M (3 : Int32)) 297 127) 297 ((1 : Int32)).toNatClampNeg))) + (0 : Int32))).toNatClampNeg b) 297 ((1 : Int32)).toNatClampNeg))) + (1 : Int32))).toNatClampNeg a) 297 ((1 : Int32)).toNatClampNeg) + (1 : Int32))) 297 ((1 : Int32)).toNatClampNeg) - (1 : Int32)) else (0 : Int32))))))
def m_X12_mix (M : fM) (a : Int32) (b : Int32) : fM := (if (r_X12_in M a (1 : Int32) (((1 : Int32) <<< ((M 297 ((0 : Int32)).toNatClampNeg) &&& 31)) - (1 : Int32))) = 0 then (if (r_X12_fails M (1 : Int32)) = 0 then (fst1 (fst1 (fst1 (m_X12_keeps (m_X12_fails M (1 : Int32)) 297 127) 297 ((((11 : Int32) + ((2 : Int32) * ((m_X12_keeps (m_X12_fails M (1 : Int32)) 297 127) 297 ((1 : Int32)).toNatClampNeg))) + (0 : Int32))).toNatClampNeg b) 297 ((((11 : Int32) + ((2 : Int32) * ((fst1 (m_X12_keeps (m_X12_fails M (1 : Int32)) 297 127) 297 ((((11 : Int32) + ((2 : Int32) * ((m_X12_keeps (m_X12_fails M (1 : Int32)) 297 127) 297 ((1 : Int32)).toNatClampNeg))) + (0 : Int32))).toNatClampNeg b) 297 ((1 : Int32)).toNatClampNeg))) + (1 : Int32))).toNatClampNeg a) 297 ((1 : Int32)).toNatClampNeg (((fst1 (fst1 (m_X12_keeps (m_X12_fails M (1 : Int32)) 297 127) 297 ((((11 : Int32) + ((2 : Int32) * ((m_X12_keeps (m_X12_fails M (1 : Int32)) 297 127) 297 ((1 : Int32)).toNatClampNeg))) + (0 : Int32))).toNatClampNeg b) 297 ((((11 : Int32) + ((2 : Int32) * ((fst1 (m_X12_keeps (m_X12_fails M (1 : Int32)) 297 127) 297 ((((11 : Int32) + ((2 : Int32) * ((m_X12_keeps (m_X12_fails M (1 : Int32)) 297 127) 297 ((1 : Int32)).toNatClampNeg))) + (0 : Int32))).toNatClampNeg b) 297 ((1 : Int32)).toNatClampNeg))) + (1 : Int32))).toNatClampNeg a) 297 ((1 : Int32)).toNatClampNeg) + (1 : Int32))) else (m_X12_fails M (1 : Int32))) else (if (r_X12_in M b (1 : Int32) (20 : Int32)) = 0 then (if (r_X12_fails M (1 : Int32)) = 0 then (fst1 (fst1 (fst1 (m_X12_keeps (m_X12_fails M (1 : Int32)) 297 127) 297 ((((11 : Int32) + ((2 : Int32) * ((m_X12_keeps (m_X12_fails M (1 : Int32)) 297 127) 297 ((1 : Int32)).toNatClampNeg))) + (0 : Int32))).toNatClampNeg b) 297 ((((11 : Int32) + ((2 : Int32) * ((fst1 (m_X12_keeps (m_X12_fails M (1 : Int32)) 297 127) 297 ((((11 : Int32) + ((2 : Int32) * ((m_X12_keeps (m_X12_fails M (1 : Int32)) 297 127) 297 ((1 : Int32)).toNatClampNeg))) + (0 : Int32))).toNatClampNeg b) 297 ((1 : Int32)).toNatClampNeg))) + (1 : Int32))).toNatClampNeg a) 297 ((1 : Int32)).toNatClampNeg (((fst1 (fst1 (m_X12_keeps (m_X12_fails M (1 : Int32)) 297 127) 297 ((((11 : Int32) + ((2 : Int32) * ((m_X12_keeps (m_X12_fails M (1 : Int32)) 297 127) 297 ((1 : Int32)).toNatClampNeg))) + (0 : Int32))).toNatClampNeg b) 297 ((((11 : Int32) + ((2 : Int32) * ((fst1 (m_X12_keeps (m_X12_fails M (1 : Int32)) 297 127) 297 ((((11 : Int32) + ((2 : Int32) * ((m_X12_keeps (m_X12_fails M (1 : Int32)) 297 127) 297 ((1 : Int32)).toNatClampNeg))) + (0 : Int32))).toNatClampNeg b) 297 ((1 : Int32)).toNatClampNeg))) + (1 : Int32))).toNatClampNeg a) 297 ((1 : Int32)).toNatClampNeg) + (1 : Int32))) else (m_X12_fails M (1 : Int32))) else (if (M 297 ((1 : Int32)).toNatClampNeg) = (6 : Int32) then (if (r_X12_fails M (2 : Int32)) = 0 then (fst1 (fst1 (fst1 (m_X12_keeps (m_X12_fails M (2 : Int32)) 297 127) 297 ((((11 : Int32) + ((2 : Int32) * ((m_X12_keeps (m_X12_fails M (2 : Int32)) 297 127) 297 ((1 : Int32)).toNatClampNeg))) + (0 : Int32))).toNatClampNeg b) 297 ((((11 : Int32) + ((2 : Int32) * ((fst1 (m_X12_keeps (m_X12_fails M (2 : Int32)) 297 127) 297 ((((11 : Int32) + ((2 : Int32) * ((m_X12_keeps (m_X12_fails M (2 : Int32)) 297 127) 297 ((1 : Int32)).toNatClampNeg))) + (0 : Int32))).toNatClampNeg b) 297 ((1 : Int32)).toNatClampNeg))) + (1 : Int32))).toNatClampNeg a) 297 ((1 : Int32)).toNatClampNeg (((fst1 (fst1 (m_X12_keeps (m_X12_fails M (2 : Int32)) 297 127) 297 ((((11 : Int32) + ((2 : Int32) * ((m_X12_keeps (m_X12_fails M (2 : Int32)) 297 127) 297 ((1 : Int32)).toNatClampNeg))) + (0 : Int32))).toNatClampNeg b) 297 ((((11 : Int32) + ((2 : Int32) * ((fst1 (m_X12_keeps (m_X12_fails M (2 : Int32)) 297 127) 297 ((((11 : Int32) + ((2 : Int32) * ((m_X12_keeps (m_X12_fails M (2 : Int32)) 297 127) 297 ((1 : Int32)).toNatClampNeg))) + (0 : Int32))).toNatClampNeg b) 297 ((1 : Int32)).toNatClampNeg))) + (1 : Int32))).toNatClampNeg a) 297 ((1 : Int32)).toNatClampNeg) + (1 : Int32))) else (m_X12_fails M (2 : Int32))) else (if (a &&& (M 297 ((6 : Int32)).toNatClampNeg)) = 0 then (if (r_X12_fails M (0 : Int32)) = 0 then (fst1 (fst1 (fst1 (m_X12_keeps (m_X12_fails M (0 : Int32)) 297 127) 297 ((((11 : Int32) + ((2 : Int32) * ((m_X12_keeps (m_X12_fails M (0 : Int32)) 297 127) 297 ((1 : Int32)).toNatClampNeg))) + (0 : Int32))).toNatClampNeg b) 297 ((((11 : Int32) + ((2 : Int32) * ((fst1 (m_X12_keeps (m_X12_fails M (0 : Int32)) 297 127) 297 ((((11 : Int32) + ((2 : Int32) * ((m_X12_keeps (m_X12_fails M (0 : Int32)) 297 127) 297 ((1 : Int32)).toNatClampNeg))) + (0 : Int32))).toNatClampNeg b) 297 ((1 : Int32)).toNatClampNeg))) + (1 : Int32))).toNatClampNeg a) 297 ((1 : Int32)).toNatClampNeg (((fst1 (fst1 (m_X12_keeps (m_X12_fails M (0 : Int32)) 297 127) 297 ((((11 : Int32) + ((2 : Int32) * ((m_X12_keeps (m_X12_fails M (0 : Int32)) 297 127) 297 ((1 : Int32)).toNatClampNeg))) + (0 : Int32))).toNatClampNeg b) 297 ((((11 : Int32) + ((2 : Int32) * ((fst1 (m_X12_keeps (m_X12_fails M (0 : Int32)) 297 127) 297 ((((11 : Int32) + ((2 : Int32) * ((m_X12_keeps (m_X12_fails M (0 : Int32)) 297 127) 297 ((1 : Int32)).toNatClampNeg))) + (0 : Int32))).toNatClampNeg b) 297 ((1 : Int32)).toNatClampNeg))) + (1 : Int32))).toNatClampNeg a) 297 ((1 : Int32)).toNatClampNeg) + (1 : Int32))) else (m_X12_fails M (0 : Int32))) else (if (r_X12_fails M (3 : Int32)) = 0 then (fst1 (fst1 (fst1 (m_X12_keeps (m_X12_fails M (3 : Int32)) 297 127) 297 ((((11 : Int32) + ((2 : Int32) * ((m_X12_keeps (m_X12_fails M (3 : Int32)) 297 127) 297 ((1 : Int32)).toNatClampNeg))) + (0 : Int32))).toNatClampNeg b) 297 ((((11 : Int32) + ((2 : Int32) * ((fst1 (m_X12_keeps (m_X12_fails M (3 : Int32)) 297 127) 297 ((((11 : Int32) + ((2 : Int32) * ((m_X12_keeps (m_X12_fails M (3 : Int32)) 297 127) 297 ((1 : Int32)).toNatClampNeg))) + (0 : Int32))).toNatClampNeg b) 297 ((1 : Int32)).toNatClampNeg))) + (1 : Int32))).toNatClampNeg a) 297 ((1 : Int32)).toNatClampNeg (((fst1 (fst1 (m_X12_keeps (m_X12_fails M (3 : Int32)) 297 127) 297 ((((11 : Int32) + ((2 : Int32) * ((m_X12_keeps (m_X12_fails M (3 : Int32)) 297 127) 297 ((1 : Int32)).toNatClampNeg))) + (0 : Int32))).toNatClampNeg b) 297 ((((11 : Int32) + ((2 : Int32) * ((fst1 (m_X12_keeps (m_X12_fails M (3 : Int32)) 297 127) 297 ((((11 : Int32) + ((2 : Int32) * ((m_X12_keeps (m_X12_fails M (3 : Int32)) 297 127) 297 ((1 : Int32)).toNatClampNeg))) + (0 : Int32))).toNatClampNeg b) 297 ((1 : Int32)).toNatClampNeg))) + (1 : Int32))).toNatClampNeg a) 297 ((1 : Int32)).toNatClampNeg) + (1 : Int32))) else (m_X12_fails M (3 : Int32)))))))
set_option maxRecDepth 100000 in
set_option maxHeartbeats 4000000 in
theorem c_X12_mix {G : fG} (hG : fOK G) {d : Nat} (hd : 2 ≤ d) (M : fM) (dv : UInt64) (a : Int32) (b : Int32) (q0 : vp_in (0 : Int32) 127) (q1 : ((r_X12_in M a (1 : Int32) (((1 : Int32) <<< ((M 297 ((0 : Int32)).toNatClampNeg) &&& 31)) - (1 : Int32))) = 0) → ((r_X12_fails M (1 : Int32)) = 0) → (((fst1 (m_X12_fails M (1 : Int32)) 296 7 (0 : Int32)) 296 6) = 0) → ¬ (((fst1 (m_X12_fails M (1 : Int32)) 296 7 (0 : Int32)) 296 5) = (8 : Int32)) → ∀ (j_164 : Nat), j_164 ≤ 127 → ¬ ((127 : Int32) ≤ (nI j_164)) → j_164 < 127) (q2 : ((r_X12_in M a (1 : Int32) (((1 : Int32) <<< ((M 297 ((0 : Int32)).toNatClampNeg) &&& 31)) - (1 : Int32))) = 0) → ((r_X12_fails M (1 : Int32)) = 0) → (((fst1 (m_X12_fails M (1 : Int32)) 296 7 (0 : Int32)) 296 6) = 0) → ¬ (((fst1 (m_X12_fails M (1 : Int32)) 296 7 (0 : Int32)) 296 5) = (8 : Int32)) → ∀ (j_165 : Nat), j_165 ≤ 127 → ¬ ((127 : Int32) ≤ (nI j_165)) → vp_in ((0 : Int32) + (nI j_165)) 127) (q3 : ((r_X12_in M a (1 : Int32) (((1 : Int32) <<< ((M 297 ((0 : Int32)).toNatClampNeg) &&& 31)) - (1 : Int32))) = 0) → ((r_X12_fails M (1 : Int32)) = 0) → (((fst1 (m_X12_fails M (1 : Int32)) 296 7 (0 : Int32)) 296 6) = 0) → ¬ (((fst1 (m_X12_fails M (1 : Int32)) 296 7 (0 : Int32)) 296 5) = (8 : Int32)) → ∀ (j_166 : Nat), j_166 ≤ 127 → ¬ ((127 : Int32) ≤ (nI j_166)) → vp_in (((127 : Int32) * ((fst1 (m_X12_fails M (1 : Int32)) 296 7 (0 : Int32)) 296 5)) + (nI j_166)) 1016) (q4 : ((r_X12_in M a (1 : Int32) (((1 : Int32) <<< ((M 297 ((0 : Int32)).toNatClampNeg) &&& 31)) - (1 : Int32))) = 0) → ((r_X12_fails M (1 : Int32)) = 0) → (((fst1 (m_X12_fails M (1 : Int32)) 296 7 (0 : Int32)) 296 6) = 0) → (((fst1 (m_X12_fails M (1 : Int32)) 296 7 (0 : Int32)) 296 5) = (8 : Int32)) → ∀ (j_167 : Nat), j_167 ≤ 889 → ¬ ((889 : Int32) ≤ (nI j_167)) → j_167 < 889) (q5 : ((r_X12_in M a (1 : Int32) (((1 : Int32) <<< ((M 297 ((0 : Int32)).toNatClampNeg) &&& 31)) - (1 : Int32))) = 0) → ((r_X12_fails M (1 : Int32)) = 0) → (((fst1 (m_X12_fails M (1 : Int32)) 296 7 (0 : Int32)) 296 6) = 0) → (((fst1 (m_X12_fails M (1 : Int32)) 296 7 (0 : Int32)) 296 5) = (8 : Int32)) → ∀ (j_168 : Nat), j_168 ≤ 889 → ¬ ((889 : Int32) ≤ (nI j_168)) → vp_in ((nI j_168) + (127 : Int32)) 1016) (q6 : ((r_X12_in M a (1 : Int32) (((1 : Int32) <<< ((M 297 ((0 : Int32)).toNatClampNeg) &&& 31)) - (1 : Int32))) = 0) → ((r_X12_fails M (1 : Int32)) = 0) → (((fst1 (m_X12_fails M (1 : Int32)) 296 7 (0 : Int32)) 296 6) = 0) → (((fst1 (m_X12_fails M (1 : Int32)) 296 7 (0 : Int32)) 296 5) = (8 : Int32)) → ∀ (j_169 : Nat), j_169 ≤ 889 → ¬ ((889 : Int32) ≤ (nI j_169)) → vp_in (nI j_169) 1016) (q7 : ((r_X12_in M a (1 : Int32) (((1 : Int32) <<< ((M 297 ((0 : Int32)).toNatClampNeg) &&& 31)) - (1 : Int32))) = 0) → ((r_X12_fails M (1 : Int32)) = 0) → (((fst1 (m_X12_fails M (1 : Int32)) 296 7 (0 : Int32)) 296 6) = 0) → (((fst1 (m_X12_fails M (1 : Int32)) 296 7 (0 : Int32)) 296 5) = (8 : Int32)) → ∀ (j_170 : Nat), j_170 ≤ 127 → ¬ ((127 : Int32) ≤ (nI j_170)) → j_170 < 127) (q8 : ((r_X12_in M a (1 : Int32) (((1 : Int32) <<< ((M 297 ((0 : Int32)).toNatClampNeg) &&& 31)) - (1 : Int32))) = 0) → ((r_X12_fails M (1 : Int32)) = 0) → (((fst1 (m_X12_fails M (1 : Int32)) 296 7 (0 : Int32)) 296 6) = 0) → (((fst1 (m_X12_fails M (1 : Int32)) 296 7 (0 : Int32)) 296 5) = (8 : Int32)) → ∀ (j_171 : Nat), j_171 ≤ 127 → ¬ ((127 : Int32) ≤ (nI j_171)) → vp_in ((0 : Int32) + (nI j_171)) 127) (q9 : ((r_X12_in M a (1 : Int32) (((1 : Int32) <<< ((M 297 ((0 : Int32)).toNatClampNeg) &&& 31)) - (1 : Int32))) = 0) → ((r_X12_fails M (1 : Int32)) = 0) → (((fst1 (m_X12_fails M (1 : Int32)) 296 7 (0 : Int32)) 296 6) = 0) → (((fst1 (m_X12_fails M (1 : Int32)) 296 7 (0 : Int32)) 296 5) = (8 : Int32)) → ∀ (j_172 : Nat), j_172 ≤ 127 → ¬ ((127 : Int32) ≤ (nI j_172)) → vp_in (((127 : Int32) * ((fst1 (l_X12_keepsL 297 127 (fst1 (m_X12_fails M (1 : Int32)) 296 7 (0 : Int32)) 890 0) 296 5 (((l_X12_keepsL 297 127 (fst1 (m_X12_fails M (1 : Int32)) 296 7 (0 : Int32)) 890 0) 296 5) - (1 : Int32))) 296 5)) + (nI j_172)) 1016) (q10 : ((r_X12_in M a (1 : Int32) (((1 : Int32) <<< ((M 297 ((0 : Int32)).toNatClampNeg) &&& 31)) - (1 : Int32))) = 0) → ((r_X12_fails M (1 : Int32)) = 0) → vp_in (1 : Int32) 127) (q11 : ((r_X12_in M a (1 : Int32) (((1 : Int32) <<< ((M 297 ((0 : Int32)).toNatClampNeg) &&& 31)) - (1 : Int32))) = 0) → ((r_X12_fails M (1 : Int32)) = 0) → vp_in (((11 : Int32) + ((2 : Int32) * ((m_X12_keeps (m_X12_fails M (1 : Int32)) 297 127) 297 ((1 : Int32)).toNatClampNeg))) + (0 : Int32)) 127) (q12 : ((r_X12_in M a (1 : Int32) (((1 : Int32) <<< ((M 297 ((0 : Int32)).toNatClampNeg) &&& 31)) - (1 : Int32))) = 0) → ((r_X12_fails M (1 : Int32)) = 0) → vp_in (((11 : Int32) + ((2 : Int32) * ((fst1 (m_X12_keeps (m_X12_fails M (1 : Int32)) 297 127) 297 ((((11 : Int32) + ((2 : Int32) * ((m_X12_keeps (m_X12_fails M (1 : Int32)) 297 127) 297 ((1 : Int32)).toNatClampNeg))) + (0 : Int32))).toNatClampNeg b) 297 ((1 : Int32)).toNatClampNeg))) + (1 : Int32)) 127) (q13 : ¬ ((r_X12_in M a (1 : Int32) (((1 : Int32) <<< ((M 297 ((0 : Int32)).toNatClampNeg) &&& 31)) - (1 : Int32))) = 0) → ¬ ((r_X12_in M b (1 : Int32) (20 : Int32)) = 0) → vp_in (1 : Int32) 127) (q14 : ¬ ((r_X12_in M a (1 : Int32) (((1 : Int32) <<< ((M 297 ((0 : Int32)).toNatClampNeg) &&& 31)) - (1 : Int32))) = 0) → ¬ ((r_X12_in M b (1 : Int32) (20 : Int32)) = 0) → ¬ ((M 297 ((1 : Int32)).toNatClampNeg) = (6 : Int32)) → vp_in (6 : Int32) 127) (q15 : ¬ ((r_X12_in M a (1 : Int32) (((1 : Int32) <<< ((M 297 ((0 : Int32)).toNatClampNeg) &&& 31)) - (1 : Int32))) = 0) → ¬ ((r_X12_in M b (1 : Int32) (20 : Int32)) = 0) → ¬ ((M 297 ((1 : Int32)).toNatClampNeg) = (6 : Int32)) → ((a &&& (M 297 ((6 : Int32)).toNatClampNeg)) = 0) → ((r_X12_fails M (0 : Int32)) = 0) → (((fst1 (m_X12_fails M (0 : Int32)) 296 7 (0 : Int32)) 296 6) = 0) → ¬ (((fst1 (m_X12_fails M (0 : Int32)) 296 7 (0 : Int32)) 296 5) = (8 : Int32)) → ∀ (j_173 : Nat), j_173 ≤ 127 → ¬ ((127 : Int32) ≤ (nI j_173)) → j_173 < 127) (q16 : ¬ ((r_X12_in M a (1 : Int32) (((1 : Int32) <<< ((M 297 ((0 : Int32)).toNatClampNeg) &&& 31)) - (1 : Int32))) = 0) → ¬ ((r_X12_in M b (1 : Int32) (20 : Int32)) = 0) → ¬ ((M 297 ((1 : Int32)).toNatClampNeg) = (6 : Int32)) → ((a &&& (M 297 ((6 : Int32)).toNatClampNeg)) = 0) → ((r_X12_fails M (0 : Int32)) = 0) → (((fst1 (m_X12_fails M (0 : Int32)) 296 7 (0 : Int32)) 296 6) = 0) → ¬ (((fst1 (m_X12_fails M (0 : Int32)) 296 7 (0 : Int32)) 296 5) = (8 : Int32)) → ∀ (j_174 : Nat), j_174 ≤ 127 → ¬ ((127 : Int32) ≤ (nI j_174)) → vp_in ((0 : Int32) + (nI j_174)) 127) (q17 : ¬ ((r_X12_in M a (1 : Int32) (((1 : Int32) <<< ((M 297 ((0 : Int32)).toNatClampNeg) &&& 31)) - (1 : Int32))) = 0) → ¬ ((r_X12_in M b (1 : Int32) (20 : Int32)) = 0) → ¬ ((M 297 ((1 : Int32)).toNatClampNeg) = (6 : Int32)) → ((a &&& (M 297 ((6 : Int32)).toNatClampNeg)) = 0) → ((r_X12_fails M (0 : Int32)) = 0) → (((fst1 (m_X12_fails M (0 : Int32)) 296 7 (0 : Int32)) 296 6) = 0) → ¬ (((fst1 (m_X12_fails M (0 : Int32)) 296 7 (0 : Int32)) 296 5) = (8 : Int32)) → ∀ (j_175 : Nat), j_175 ≤ 127 → ¬ ((127 : Int32) ≤ (nI j_175)) → vp_in (((127 : Int32) * ((fst1 (m_X12_fails M (0 : Int32)) 296 7 (0 : Int32)) 296 5)) + (nI j_175)) 1016) (q18 : ¬ ((r_X12_in M a (1 : Int32) (((1 : Int32) <<< ((M 297 ((0 : Int32)).toNatClampNeg) &&& 31)) - (1 : Int32))) = 0) → ¬ ((r_X12_in M b (1 : Int32) (20 : Int32)) = 0) → ¬ ((M 297 ((1 : Int32)).toNatClampNeg) = (6 : Int32)) → ((a &&& (M 297 ((6 : Int32)).toNatClampNeg)) = 0) → ((r_X12_fails M (0 : Int32)) = 0) → (((fst1 (m_X12_fails M (0 : Int32)) 296 7 (0 : Int32)) 296 6) = 0) → (((fst1 (m_X12_fails M (0 : Int32)) 296 7 (0 : Int32)) 296 5) = (8 : Int32)) → ∀ (j_176 : Nat), j_176 ≤ 889 → ¬ ((889 : Int32) ≤ (nI j_176)) → j_176 < 889) (q19 : ¬ ((r_X12_in M a (1 : Int32) (((1 : Int32) <<< ((M 297 ((0 : Int32)).toNatClampNeg) &&& 31)) - (1 : Int32))) = 0) → ¬ ((r_X12_in M b (1 : Int32) (20 : Int32)) = 0) → ¬ ((M 297 ((1 : Int32)).toNatClampNeg) = (6 : Int32)) → ((a &&& (M 297 ((6 : Int32)).toNatClampNeg)) = 0) → ((r_X12_fails M (0 : Int32)) = 0) → (((fst1 (m_X12_fails M (0 : Int32)) 296 7 (0 : Int32)) 296 6) = 0) → (((fst1 (m_X12_fails M (0 : Int32)) 296 7 (0 : Int32)) 296 5) = (8 : Int32)) → ∀ (j_177 : Nat), j_177 ≤ 889 → ¬ ((889 : Int32) ≤ (nI j_177)) → vp_in ((nI j_177) + (127 : Int32)) 1016) (q20 : ¬ ((r_X12_in M a (1 : Int32) (((1 : Int32) <<< ((M 297 ((0 : Int32)).toNatClampNeg) &&& 31)) - (1 : Int32))) = 0) → ¬ ((r_X12_in M b (1 : Int32) (20 : Int32)) = 0) → ¬ ((M 297 ((1 : Int32)).toNatClampNeg) = (6 : Int32)) → ((a &&& (M 297 ((6 : Int32)).toNatClampNeg)) = 0) → ((r_X12_fails M (0 : Int32)) = 0) → (((fst1 (m_X12_fails M (0 : Int32)) 296 7 (0 : Int32)) 296 6) = 0) → (((fst1 (m_X12_fails M (0 : Int32)) 296 7 (0 : Int32)) 296 5) = (8 : Int32)) → ∀ (j_178 : Nat), j_178 ≤ 889 → ¬ ((889 : Int32) ≤ (nI j_178)) → vp_in (nI j_178) 1016) (q21 : ¬ ((r_X12_in M a (1 : Int32) (((1 : Int32) <<< ((M 297 ((0 : Int32)).toNatClampNeg) &&& 31)) - (1 : Int32))) = 0) → ¬ ((r_X12_in M b (1 : Int32) (20 : Int32)) = 0) → ¬ ((M 297 ((1 : Int32)).toNatClampNeg) = (6 : Int32)) → ((a &&& (M 297 ((6 : Int32)).toNatClampNeg)) = 0) → ((r_X12_fails M (0 : Int32)) = 0) → (((fst1 (m_X12_fails M (0 : Int32)) 296 7 (0 : Int32)) 296 6) = 0) → (((fst1 (m_X12_fails M (0 : Int32)) 296 7 (0 : Int32)) 296 5) = (8 : Int32)) → ∀ (j_179 : Nat), j_179 ≤ 127 → ¬ ((127 : Int32) ≤ (nI j_179)) → j_179 < 127) (q22 : ¬ ((r_X12_in M a (1 : Int32) (((1 : Int32) <<< ((M 297 ((0 : Int32)).toNatClampNeg) &&& 31)) - (1 : Int32))) = 0) → ¬ ((r_X12_in M b (1 : Int32) (20 : Int32)) = 0) → ¬ ((M 297 ((1 : Int32)).toNatClampNeg) = (6 : Int32)) → ((a &&& (M 297 ((6 : Int32)).toNatClampNeg)) = 0) → ((r_X12_fails M (0 : Int32)) = 0) → (((fst1 (m_X12_fails M (0 : Int32)) 296 7 (0 : Int32)) 296 6) = 0) → (((fst1 (m_X12_fails M (0 : Int32)) 296 7 (0 : Int32)) 296 5) = (8 : Int32)) → ∀ (j_180 : Nat), j_180 ≤ 127 → ¬ ((127 : Int32) ≤ (nI j_180)) → vp_in ((0 : Int32) + (nI j_180)) 127) (q23 : ¬ ((r_X12_in M a (1 : Int32) (((1 : Int32) <<< ((M 297 ((0 : Int32)).toNatClampNeg) &&& 31)) - (1 : Int32))) = 0) → ¬ ((r_X12_in M b (1 : Int32) (20 : Int32)) = 0) → ¬ ((M 297 ((1 : Int32)).toNatClampNeg) = (6 : Int32)) → ((a &&& (M 297 ((6 : Int32)).toNatClampNeg)) = 0) → ((r_X12_fails M (0 : Int32)) = 0) → (((fst1 (m_X12_fails M (0 : Int32)) 296 7 (0 : Int32)) 296 6) = 0) → (((fst1 (m_X12_fails M (0 : Int32)) 296 7 (0 : Int32)) 296 5) = (8 : Int32)) → ∀ (j_181 : Nat), j_181 ≤ 127 → ¬ ((127 : Int32) ≤ (nI j_181)) → vp_in (((127 : Int32) * ((fst1 (l_X12_keepsL 297 127 (fst1 (m_X12_fails M (0 : Int32)) 296 7 (0 : Int32)) 890 0) 296 5 (((l_X12_keepsL 297 127 (fst1 (m_X12_fails M (0 : Int32)) 296 7 (0 : Int32)) 890 0) 296 5) - (1 : Int32))) 296 5)) + (nI j_181)) 1016) (q24 : ¬ ((r_X12_in M a (1 : Int32) (((1 : Int32) <<< ((M 297 ((0 : Int32)).toNatClampNeg) &&& 31)) - (1 : Int32))) = 0) → ¬ ((r_X12_in M b (1 : Int32) (20 : Int32)) = 0) → ¬ ((M 297 ((1 : Int32)).toNatClampNeg) = (6 : Int32)) → ((a &&& (M 297 ((6 : Int32)).toNatClampNeg)) = 0) → ((r_X12_fails M (0 : Int32)) = 0) → vp_in (1 : Int32) 127) (q25 : ¬ ((r_X12_in M a (1 : Int32) (((1 : Int32) <<< ((M 297 ((0 : Int32)).toNatClampNeg) &&& 31)) - (1 : Int32))) = 0) → ¬ ((r_X12_in M b (1 : Int32) (20 : Int32)) = 0) → ¬ ((M 297 ((1 : Int32)).toNatClampNeg) = (6 : Int32)) → ((a &&& (M 297 ((6 : Int32)).toNatClampNeg)) = 0) → ((r_X12_fails M (0 : Int32)) = 0) → vp_in (((11 : Int32) + ((2 : Int32) * ((m_X12_keeps (m_X12_fails M (0 : Int32)) 297 127) 297 ((1 : Int32)).toNatClampNeg))) + (0 : Int32)) 127) (q26 : ¬ ((r_X12_in M a (1 : Int32) (((1 : Int32) <<< ((M 297 ((0 : Int32)).toNatClampNeg) &&& 31)) - (1 : Int32))) = 0) → ¬ ((r_X12_in M b (1 : Int32) (20 : Int32)) = 0) → ¬ ((M 297 ((1 : Int32)).toNatClampNeg) = (6 : Int32)) → ((a &&& (M 297 ((6 : Int32)).toNatClampNeg)) = 0) → ((r_X12_fails M (0 : Int32)) = 0) → vp_in (((11 : Int32) + ((2 : Int32) * ((fst1 (m_X12_keeps (m_X12_fails M (0 : Int32)) 297 127) 297 ((((11 : Int32) + ((2 : Int32) * ((m_X12_keeps (m_X12_fails M (0 : Int32)) 297 127) 297 ((1 : Int32)).toNatClampNeg))) + (0 : Int32))).toNatClampNeg b) 297 ((1 : Int32)).toNatClampNeg))) + (1 : Int32)) 127) (q27 : ¬ ((r_X12_in M a (1 : Int32) (((1 : Int32) <<< ((M 297 ((0 : Int32)).toNatClampNeg) &&& 31)) - (1 : Int32))) = 0) → ¬ ((r_X12_in M b (1 : Int32) (20 : Int32)) = 0) → ¬ ((M 297 ((1 : Int32)).toNatClampNeg) = (6 : Int32)) → ¬ ((a &&& (M 297 ((6 : Int32)).toNatClampNeg)) = 0) → ((r_X12_fails M (3 : Int32)) = 0) → (((fst1 (m_X12_fails M (3 : Int32)) 296 7 (0 : Int32)) 296 6) = 0) → ¬ (((fst1 (m_X12_fails M (3 : Int32)) 296 7 (0 : Int32)) 296 5) = (8 : Int32)) → ∀ (j_182 : Nat), j_182 ≤ 127 → ¬ ((127 : Int32) ≤ (nI j_182)) → j_182 < 127) (q28 : ¬ ((r_X12_in M a (1 : Int32) (((1 : Int32) <<< ((M 297 ((0 : Int32)).toNatClampNeg) &&& 31)) - (1 : Int32))) = 0) → ¬ ((r_X12_in M b (1 : Int32) (20 : Int32)) = 0) → ¬ ((M 297 ((1 : Int32)).toNatClampNeg) = (6 : Int32)) → ¬ ((a &&& (M 297 ((6 : Int32)).toNatClampNeg)) = 0) → ((r_X12_fails M (3 : Int32)) = 0) → (((fst1 (m_X12_fails M (3 : Int32)) 296 7 (0 : Int32)) 296 6) = 0) → ¬ (((fst1 (m_X12_fails M (3 : Int32)) 296 7 (0 : Int32)) 296 5) = (8 : Int32)) → ∀ (j_183 : Nat), j_183 ≤ 127 → ¬ ((127 : Int32) ≤ (nI j_183)) → vp_in ((0 : Int32) + (nI j_183)) 127) (q29 : ¬ ((r_X12_in M a (1 : Int32) (((1 : Int32) <<< ((M 297 ((0 : Int32)).toNatClampNeg) &&& 31)) - (1 : Int32))) = 0) → ¬ ((r_X12_in M b (1 : Int32) (20 : Int32)) = 0) → ¬ ((M 297 ((1 : Int32)).toNatClampNeg) = (6 : Int32)) → ¬ ((a &&& (M 297 ((6 : Int32)).toNatClampNeg)) = 0) → ((r_X12_fails M (3 : Int32)) = 0) → (((fst1 (m_X12_fails M (3 : Int32)) 296 7 (0 : Int32)) 296 6) = 0) → ¬ (((fst1 (m_X12_fails M (3 : Int32)) 296 7 (0 : Int32)) 296 5) = (8 : Int32)) → ∀ (j_184 : Nat), j_184 ≤ 127 → ¬ ((127 : Int32) ≤ (nI j_184)) → vp_in (((127 : Int32) * ((fst1 (m_X12_fails M (3 : Int32)) 296 7 (0 : Int32)) 296 5)) + (nI j_184)) 1016) (q30 : ¬ ((r_X12_in M a (1 : Int32) (((1 : Int32) <<< ((M 297 ((0 : Int32)).toNatClampNeg) &&& 31)) - (1 : Int32))) = 0) → ¬ ((r_X12_in M b (1 : Int32) (20 : Int32)) = 0) → ¬ ((M 297 ((1 : Int32)).toNatClampNeg) = (6 : Int32)) → ¬ ((a &&& (M 297 ((6 : Int32)).toNatClampNeg)) = 0) → ((r_X12_fails M (3 : Int32)) = 0) → (((fst1 (m_X12_fails M (3 : Int32)) 296 7 (0 : Int32)) 296 6) = 0) → (((fst1 (m_X12_fails M (3 : Int32)) 296 7 (0 : Int32)) 296 5) = (8 : Int32)) → ∀ (j_185 : Nat), j_185 ≤ 889 → ¬ ((889 : Int32) ≤ (nI j_185)) → j_185 < 889) (q31 : ¬ ((r_X12_in M a (1 : Int32) (((1 : Int32) <<< ((M 297 ((0 : Int32)).toNatClampNeg) &&& 31)) - (1 : Int32))) = 0) → ¬ ((r_X12_in M b (1 : Int32) (20 : Int32)) = 0) → ¬ ((M 297 ((1 : Int32)).toNatClampNeg) = (6 : Int32)) → ¬ ((a &&& (M 297 ((6 : Int32)).toNatClampNeg)) = 0) → ((r_X12_fails M (3 : Int32)) = 0) → (((fst1 (m_X12_fails M (3 : Int32)) 296 7 (0 : Int32)) 296 6) = 0) → (((fst1 (m_X12_fails M (3 : Int32)) 296 7 (0 : Int32)) 296 5) = (8 : Int32)) → ∀ (j_186 : Nat), j_186 ≤ 889 → ¬ ((889 : Int32) ≤ (nI j_186)) → vp_in ((nI j_186) + (127 : Int32)) 1016) (q32 : ¬ ((r_X12_in M a (1 : Int32) (((1 : Int32) <<< ((M 297 ((0 : Int32)).toNatClampNeg) &&& 31)) - (1 : Int32))) = 0) → ¬ ((r_X12_in M b (1 : Int32) (20 : Int32)) = 0) → ¬ ((M 297 ((1 : Int32)).toNatClampNeg) = (6 : Int32)) → ¬ ((a &&& (M 297 ((6 : Int32)).toNatClampNeg)) = 0) → ((r_X12_fails M (3 : Int32)) = 0) → (((fst1 (m_X12_fails M (3 : Int32)) 296 7 (0 : Int32)) 296 6) = 0) → (((fst1 (m_X12_fails M (3 : Int32)) 296 7 (0 : Int32)) 296 5) = (8 : Int32)) → ∀ (j_187 : Nat), j_187 ≤ 889 → ¬ ((889 : Int32) ≤ (nI j_187)) → vp_in (nI j_187) 1016) (q33 : ¬ ((r_X12_in M a (1 : Int32) (((1 : Int32) <<< ((M 297 ((0 : Int32)).toNatClampNeg) &&& 31)) - (1 : Int32))) = 0) → ¬ ((r_X12_in M b (1 : Int32) (20 : Int32)) = 0) → ¬ ((M 297 ((1 : Int32)).toNatClampNeg) = (6 : Int32)) → ¬ ((a &&& (M 297 ((6 : Int32)).toNatClampNeg)) = 0) → ((r_X12_fails M (3 : Int32)) = 0) → (((fst1 (m_X12_fails M (3 : Int32)) 296 7 (0 : Int32)) 296 6) = 0) → (((fst1 (m_X12_fails M (3 : Int32)) 296 7 (0 : Int32)) 296 5) = (8 : Int32)) → ∀ (j_188 : Nat), j_188 ≤ 127 → ¬ ((127 : Int32) ≤ (nI j_188)) → j_188 < 127) (q34 : ¬ ((r_X12_in M a (1 : Int32) (((1 : Int32) <<< ((M 297 ((0 : Int32)).toNatClampNeg) &&& 31)) - (1 : Int32))) = 0) → ¬ ((r_X12_in M b (1 : Int32) (20 : Int32)) = 0) → ¬ ((M 297 ((1 : Int32)).toNatClampNeg) = (6 : Int32)) → ¬ ((a &&& (M 297 ((6 : Int32)).toNatClampNeg)) = 0) → ((r_X12_fails M (3 : Int32)) = 0) → (((fst1 (m_X12_fails M (3 : Int32)) 296 7 (0 : Int32)) 296 6) = 0) → (((fst1 (m_X12_fails M (3 : Int32)) 296 7 (0 : Int32)) 296 5) = (8 : Int32)) → ∀ (j_189 : Nat), j_189 ≤ 127 → ¬ ((127 : Int32) ≤ (nI j_189)) → vp_in ((0 : Int32) + (nI j_189)) 127) (q35 : ¬ ((r_X12_in M a (1 : Int32) (((1 : Int32) <<< ((M 297 ((0 : Int32)).toNatClampNeg) &&& 31)) - (1 : Int32))) = 0) → ¬ ((r_X12_in M b (1 : Int32) (20 : Int32)) = 0) → ¬ ((M 297 ((1 : Int32)).toNatClampNeg) = (6 : Int32)) → ¬ ((a &&& (M 297 ((6 : Int32)).toNatClampNeg)) = 0) → ((r_X12_fails M (3 : Int32)) = 0) → (((fst1 (m_X12_fails M (3 : Int32)) 296 7 (0 : Int32)) 296 6) = 0) → (((fst1 (m_X12_fails M (3 : Int32)) 296 7 (0 : Int32)) 296 5) = (8 : Int32)) → ∀ (j_190 : Nat), j_190 ≤ 127 → ¬ ((127 : Int32) ≤ (nI j_190)) → vp_in (((127 : Int32) * ((fst1 (l_X12_keepsL 297 127 (fst1 (m_X12_fails M (3 : Int32)) 296 7 (0 : Int32)) 890 0) 296 5 (((l_X12_keepsL 297 127 (fst1 (m_X12_fails M (3 : Int32)) 296 7 (0 : Int32)) 890 0) 296 5) - (1 : Int32))) 296 5)) + (nI j_190)) 1016) (q36 : ¬ ((r_X12_in M a (1 : Int32) (((1 : Int32) <<< ((M 297 ((0 : Int32)).toNatClampNeg) &&& 31)) - (1 : Int32))) = 0) → ¬ ((r_X12_in M b (1 : Int32) (20 : Int32)) = 0) → ¬ ((M 297 ((1 : Int32)).toNatClampNeg) = (6 : Int32)) → ¬ ((a &&& (M 297 ((6 : Int32)).toNatClampNeg)) = 0) → ((r_X12_fails M (3 : Int32)) = 0) → vp_in (1 : Int32) 127) (q37 : ¬ ((r_X12_in M a (1 : Int32) (((1 : Int32) <<< ((M 297 ((0 : Int32)).toNatClampNeg) &&& 31)) - (1 : Int32))) = 0) → ¬ ((r_X12_in M b (1 : Int32) (20 : Int32)) = 0) → ¬ ((M 297 ((1 : Int32)).toNatClampNeg) = (6 : Int32)) → ¬ ((a &&& (M 297 ((6 : Int32)).toNatClampNeg)) = 0) → ((r_X12_fails M (3 : Int32)) = 0) → vp_in (((11 : Int32) + ((2 : Int32) * ((m_X12_keeps (m_X12_fails M (3 : Int32)) 297 127) 297 ((1 : Int32)).toNatClampNeg))) + (0 : Int32)) 127) (q38 : ¬ ((r_X12_in M a (1 : Int32) (((1 : Int32) <<< ((M 297 ((0 : Int32)).toNatClampNeg) &&& 31)) - (1 : Int32))) = 0) → ¬ ((r_X12_in M b (1 : Int32) (20 : Int32)) = 0) → ¬ ((M 297 ((1 : Int32)).toNatClampNeg) = (6 : Int32)) → ¬ ((a &&& (M 297 ((6 : Int32)).toNatClampNeg)) = 0) → ((r_X12_fails M (3 : Int32)) = 0) → vp_in (((11 : Int32) + ((2 : Int32) * ((fst1 (m_X12_keeps (m_X12_fails M (3 : Int32)) 297 127) 297 ((((11 : Int32) + ((2 : Int32) * ((m_X12_keeps (m_X12_fails M (3 : Int32)) 297 127) 297 ((1 : Int32)).toNatClampNeg))) + (0 : Int32))).toNatClampNeg b) 297 ((1 : Int32)).toNatClampNeg))) + (1 : Int32)) 127) (q39 : ¬ ((r_X12_in M a (1 : Int32) (((1 : Int32) <<< ((M 297 ((0 : Int32)).toNatClampNeg) &&& 31)) - (1 : Int32))) = 0) → ¬ ((r_X12_in M b (1 : Int32) (20 : Int32)) = 0) → ((M 297 ((1 : Int32)).toNatClampNeg) = (6 : Int32)) → ((r_X12_fails M (2 : Int32)) = 0) → (((fst1 (m_X12_fails M (2 : Int32)) 296 7 (0 : Int32)) 296 6) = 0) → ¬ (((fst1 (m_X12_fails M (2 : Int32)) 296 7 (0 : Int32)) 296 5) = (8 : Int32)) → ∀ (j_191 : Nat), j_191 ≤ 127 → ¬ ((127 : Int32) ≤ (nI j_191)) → j_191 < 127) (q40 : ¬ ((r_X12_in M a (1 : Int32) (((1 : Int32) <<< ((M 297 ((0 : Int32)).toNatClampNeg) &&& 31)) - (1 : Int32))) = 0) → ¬ ((r_X12_in M b (1 : Int32) (20 : Int32)) = 0) → ((M 297 ((1 : Int32)).toNatClampNeg) = (6 : Int32)) → ((r_X12_fails M (2 : Int32)) = 0) → (((fst1 (m_X12_fails M (2 : Int32)) 296 7 (0 : Int32)) 296 6) = 0) → ¬ (((fst1 (m_X12_fails M (2 : Int32)) 296 7 (0 : Int32)) 296 5) = (8 : Int32)) → ∀ (j_192 : Nat), j_192 ≤ 127 → ¬ ((127 : Int32) ≤ (nI j_192)) → vp_in ((0 : Int32) + (nI j_192)) 127) (q41 : ¬ ((r_X12_in M a (1 : Int32) (((1 : Int32) <<< ((M 297 ((0 : Int32)).toNatClampNeg) &&& 31)) - (1 : Int32))) = 0) → ¬ ((r_X12_in M b (1 : Int32) (20 : Int32)) = 0) → ((M 297 ((1 : Int32)).toNatClampNeg) = (6 : Int32)) → ((r_X12_fails M (2 : Int32)) = 0) → (((fst1 (m_X12_fails M (2 : Int32)) 296 7 (0 : Int32)) 296 6) = 0) → ¬ (((fst1 (m_X12_fails M (2 : Int32)) 296 7 (0 : Int32)) 296 5) = (8 : Int32)) → ∀ (j_193 : Nat), j_193 ≤ 127 → ¬ ((127 : Int32) ≤ (nI j_193)) → vp_in (((127 : Int32) * ((fst1 (m_X12_fails M (2 : Int32)) 296 7 (0 : Int32)) 296 5)) + (nI j_193)) 1016) (q42 : ¬ ((r_X12_in M a (1 : Int32) (((1 : Int32) <<< ((M 297 ((0 : Int32)).toNatClampNeg) &&& 31)) - (1 : Int32))) = 0) → ¬ ((r_X12_in M b (1 : Int32) (20 : Int32)) = 0) → ((M 297 ((1 : Int32)).toNatClampNeg) = (6 : Int32)) → ((r_X12_fails M (2 : Int32)) = 0) → (((fst1 (m_X12_fails M (2 : Int32)) 296 7 (0 : Int32)) 296 6) = 0) → (((fst1 (m_X12_fails M (2 : Int32)) 296 7 (0 : Int32)) 296 5) = (8 : Int32)) → ∀ (j_194 : Nat), j_194 ≤ 889 → ¬ ((889 : Int32) ≤ (nI j_194)) → j_194 < 889) (q43 : ¬ ((r_X12_in M a (1 : Int32) (((1 : Int32) <<< ((M 297 ((0 : Int32)).toNatClampNeg) &&& 31)) - (1 : Int32))) = 0) → ¬ ((r_X12_in M b (1 : Int32) (20 : Int32)) = 0) → ((M 297 ((1 : Int32)).toNatClampNeg) = (6 : Int32)) → ((r_X12_fails M (2 : Int32)) = 0) → (((fst1 (m_X12_fails M (2 : Int32)) 296 7 (0 : Int32)) 296 6) = 0) → (((fst1 (m_X12_fails M (2 : Int32)) 296 7 (0 : Int32)) 296 5) = (8 : Int32)) → ∀ (j_195 : Nat), j_195 ≤ 889 → ¬ ((889 : Int32) ≤ (nI j_195)) → vp_in ((nI j_195) + (127 : Int32)) 1016) (q44 : ¬ ((r_X12_in M a (1 : Int32) (((1 : Int32) <<< ((M 297 ((0 : Int32)).toNatClampNeg) &&& 31)) - (1 : Int32))) = 0) → ¬ ((r_X12_in M b (1 : Int32) (20 : Int32)) = 0) → ((M 297 ((1 : Int32)).toNatClampNeg) = (6 : Int32)) → ((r_X12_fails M (2 : Int32)) = 0) → (((fst1 (m_X12_fails M (2 : Int32)) 296 7 (0 : Int32)) 296 6) = 0) → (((fst1 (m_X12_fails M (2 : Int32)) 296 7 (0 : Int32)) 296 5) = (8 : Int32)) → ∀ (j_196 : Nat), j_196 ≤ 889 → ¬ ((889 : Int32) ≤ (nI j_196)) → vp_in (nI j_196) 1016) (q45 : ¬ ((r_X12_in M a (1 : Int32) (((1 : Int32) <<< ((M 297 ((0 : Int32)).toNatClampNeg) &&& 31)) - (1 : Int32))) = 0) → ¬ ((r_X12_in M b (1 : Int32) (20 : Int32)) = 0) → ((M 297 ((1 : Int32)).toNatClampNeg) = (6 : Int32)) → ((r_X12_fails M (2 : Int32)) = 0) → (((fst1 (m_X12_fails M (2 : Int32)) 296 7 (0 : Int32)) 296 6) = 0) → (((fst1 (m_X12_fails M (2 : Int32)) 296 7 (0 : Int32)) 296 5) = (8 : Int32)) → ∀ (j_197 : Nat), j_197 ≤ 127 → ¬ ((127 : Int32) ≤ (nI j_197)) → j_197 < 127) (q46 : ¬ ((r_X12_in M a (1 : Int32) (((1 : Int32) <<< ((M 297 ((0 : Int32)).toNatClampNeg) &&& 31)) - (1 : Int32))) = 0) → ¬ ((r_X12_in M b (1 : Int32) (20 : Int32)) = 0) → ((M 297 ((1 : Int32)).toNatClampNeg) = (6 : Int32)) → ((r_X12_fails M (2 : Int32)) = 0) → (((fst1 (m_X12_fails M (2 : Int32)) 296 7 (0 : Int32)) 296 6) = 0) → (((fst1 (m_X12_fails M (2 : Int32)) 296 7 (0 : Int32)) 296 5) = (8 : Int32)) → ∀ (j_198 : Nat), j_198 ≤ 127 → ¬ ((127 : Int32) ≤ (nI j_198)) → vp_in ((0 : Int32) + (nI j_198)) 127) (q47 : ¬ ((r_X12_in M a (1 : Int32) (((1 : Int32) <<< ((M 297 ((0 : Int32)).toNatClampNeg) &&& 31)) - (1 : Int32))) = 0) → ¬ ((r_X12_in M b (1 : Int32) (20 : Int32)) = 0) → ((M 297 ((1 : Int32)).toNatClampNeg) = (6 : Int32)) → ((r_X12_fails M (2 : Int32)) = 0) → (((fst1 (m_X12_fails M (2 : Int32)) 296 7 (0 : Int32)) 296 6) = 0) → (((fst1 (m_X12_fails M (2 : Int32)) 296 7 (0 : Int32)) 296 5) = (8 : Int32)) → ∀ (j_199 : Nat), j_199 ≤ 127 → ¬ ((127 : Int32) ≤ (nI j_199)) → vp_in (((127 : Int32) * ((fst1 (l_X12_keepsL 297 127 (fst1 (m_X12_fails M (2 : Int32)) 296 7 (0 : Int32)) 890 0) 296 5 (((l_X12_keepsL 297 127 (fst1 (m_X12_fails M (2 : Int32)) 296 7 (0 : Int32)) 890 0) 296 5) - (1 : Int32))) 296 5)) + (nI j_199)) 1016) (q48 : ¬ ((r_X12_in M a (1 : Int32) (((1 : Int32) <<< ((M 297 ((0 : Int32)).toNatClampNeg) &&& 31)) - (1 : Int32))) = 0) → ¬ ((r_X12_in M b (1 : Int32) (20 : Int32)) = 0) → ((M 297 ((1 : Int32)).toNatClampNeg) = (6 : Int32)) → ((r_X12_fails M (2 : Int32)) = 0) → vp_in (1 : Int32) 127) (q49 : ¬ ((r_X12_in M a (1 : Int32) (((1 : Int32) <<< ((M 297 ((0 : Int32)).toNatClampNeg) &&& 31)) - (1 : Int32))) = 0) → ¬ ((r_X12_in M b (1 : Int32) (20 : Int32)) = 0) → ((M 297 ((1 : Int32)).toNatClampNeg) = (6 : Int32)) → ((r_X12_fails M (2 : Int32)) = 0) → vp_in (((11 : Int32) + ((2 : Int32) * ((m_X12_keeps (m_X12_fails M (2 : Int32)) 297 127) 297 ((1 : Int32)).toNatClampNeg))) + (0 : Int32)) 127) (q50 : ¬ ((r_X12_in M a (1 : Int32) (((1 : Int32) <<< ((M 297 ((0 : Int32)).toNatClampNeg) &&& 31)) - (1 : Int32))) = 0) → ¬ ((r_X12_in M b (1 : Int32) (20 : Int32)) = 0) → ((M 297 ((1 : Int32)).toNatClampNeg) = (6 : Int32)) → ((r_X12_fails M (2 : Int32)) = 0) → vp_in (((11 : Int32) + ((2 : Int32) * ((fst1 (m_X12_keeps (m_X12_fails M (2 : Int32)) 297 127) 297 ((((11 : Int32) + ((2 : Int32) * ((m_X12_keeps (m_X12_fails M (2 : Int32)) 297 127) 297 ((1 : Int32)).toNatClampNeg))) + (0 : Int32))).toNatClampNeg b) 297 ((1 : Int32)).toNatClampNeg))) + (1 : Int32)) 127) (q51 : ¬ ((r_X12_in M a (1 : Int32) (((1 : Int32) <<< ((M 297 ((0 : Int32)).toNatClampNeg) &&& 31)) - (1 : Int32))) = 0) → ((r_X12_in M b (1 : Int32) (20 : Int32)) = 0) → ((r_X12_fails M (1 : Int32)) = 0) → (((fst1 (m_X12_fails M (1 : Int32)) 296 7 (0 : Int32)) 296 6) = 0) → ¬ (((fst1 (m_X12_fails M (1 : Int32)) 296 7 (0 : Int32)) 296 5) = (8 : Int32)) → ∀ (j_200 : Nat), j_200 ≤ 127 → ¬ ((127 : Int32) ≤ (nI j_200)) → j_200 < 127) (q52 : ¬ ((r_X12_in M a (1 : Int32) (((1 : Int32) <<< ((M 297 ((0 : Int32)).toNatClampNeg) &&& 31)) - (1 : Int32))) = 0) → ((r_X12_in M b (1 : Int32) (20 : Int32)) = 0) → ((r_X12_fails M (1 : Int32)) = 0) → (((fst1 (m_X12_fails M (1 : Int32)) 296 7 (0 : Int32)) 296 6) = 0) → ¬ (((fst1 (m_X12_fails M (1 : Int32)) 296 7 (0 : Int32)) 296 5) = (8 : Int32)) → ∀ (j_201 : Nat), j_201 ≤ 127 → ¬ ((127 : Int32) ≤ (nI j_201)) → vp_in ((0 : Int32) + (nI j_201)) 127) (q53 : ¬ ((r_X12_in M a (1 : Int32) (((1 : Int32) <<< ((M 297 ((0 : Int32)).toNatClampNeg) &&& 31)) - (1 : Int32))) = 0) → ((r_X12_in M b (1 : Int32) (20 : Int32)) = 0) → ((r_X12_fails M (1 : Int32)) = 0) → (((fst1 (m_X12_fails M (1 : Int32)) 296 7 (0 : Int32)) 296 6) = 0) → ¬ (((fst1 (m_X12_fails M (1 : Int32)) 296 7 (0 : Int32)) 296 5) = (8 : Int32)) → ∀ (j_202 : Nat), j_202 ≤ 127 → ¬ ((127 : Int32) ≤ (nI j_202)) → vp_in (((127 : Int32) * ((fst1 (m_X12_fails M (1 : Int32)) 296 7 (0 : Int32)) 296 5)) + (nI j_202)) 1016) (q54 : ¬ ((r_X12_in M a (1 : Int32) (((1 : Int32) <<< ((M 297 ((0 : Int32)).toNatClampNeg) &&& 31)) - (1 : Int32))) = 0) → ((r_X12_in M b (1 : Int32) (20 : Int32)) = 0) → ((r_X12_fails M (1 : Int32)) = 0) → (((fst1 (m_X12_fails M (1 : Int32)) 296 7 (0 : Int32)) 296 6) = 0) → (((fst1 (m_X12_fails M (1 : Int32)) 296 7 (0 : Int32)) 296 5) = (8 : Int32)) → ∀ (j_203 : Nat), j_203 ≤ 889 → ¬ ((889 : Int32) ≤ (nI j_203)) → j_203 < 889) (q55 : ¬ ((r_X12_in M a (1 : Int32) (((1 : Int32) <<< ((M 297 ((0 : Int32)).toNatClampNeg) &&& 31)) - (1 : Int32))) = 0) → ((r_X12_in M b (1 : Int32) (20 : Int32)) = 0) → ((r_X12_fails M (1 : Int32)) = 0) → (((fst1 (m_X12_fails M (1 : Int32)) 296 7 (0 : Int32)) 296 6) = 0) → (((fst1 (m_X12_fails M (1 : Int32)) 296 7 (0 : Int32)) 296 5) = (8 : Int32)) → ∀ (j_204 : Nat), j_204 ≤ 889 → ¬ ((889 : Int32) ≤ (nI j_204)) → vp_in ((nI j_204) + (127 : Int32)) 1016) (q56 : ¬ ((r_X12_in M a (1 : Int32) (((1 : Int32) <<< ((M 297 ((0 : Int32)).toNatClampNeg) &&& 31)) - (1 : Int32))) = 0) → ((r_X12_in M b (1 : Int32) (20 : Int32)) = 0) → ((r_X12_fails M (1 : Int32)) = 0) → (((fst1 (m_X12_fails M (1 : Int32)) 296 7 (0 : Int32)) 296 6) = 0) → (((fst1 (m_X12_fails M (1 : Int32)) 296 7 (0 : Int32)) 296 5) = (8 : Int32)) → ∀ (j_205 : Nat), j_205 ≤ 889 → ¬ ((889 : Int32) ≤ (nI j_205)) → vp_in (nI j_205) 1016) (q57 : ¬ ((r_X12_in M a (1 : Int32) (((1 : Int32) <<< ((M 297 ((0 : Int32)).toNatClampNeg) &&& 31)) - (1 : Int32))) = 0) → ((r_X12_in M b (1 : Int32) (20 : Int32)) = 0) → ((r_X12_fails M (1 : Int32)) = 0) → (((fst1 (m_X12_fails M (1 : Int32)) 296 7 (0 : Int32)) 296 6) = 0) → (((fst1 (m_X12_fails M (1 : Int32)) 296 7 (0 : Int32)) 296 5) = (8 : Int32)) → ∀ (j_206 : Nat), j_206 ≤ 127 → ¬ ((127 : Int32) ≤ (nI j_206)) → j_206 < 127) (q58 : ¬ ((r_X12_in M a (1 : Int32) (((1 : Int32) <<< ((M 297 ((0 : Int32)).toNatClampNeg) &&& 31)) - (1 : Int32))) = 0) → ((r_X12_in M b (1 : Int32) (20 : Int32)) = 0) → ((r_X12_fails M (1 : Int32)) = 0) → (((fst1 (m_X12_fails M (1 : Int32)) 296 7 (0 : Int32)) 296 6) = 0) → (((fst1 (m_X12_fails M (1 : Int32)) 296 7 (0 : Int32)) 296 5) = (8 : Int32)) → ∀ (j_207 : Nat), j_207 ≤ 127 → ¬ ((127 : Int32) ≤ (nI j_207)) → vp_in ((0 : Int32) + (nI j_207)) 127) (q59 : ¬ ((r_X12_in M a (1 : Int32) (((1 : Int32) <<< ((M 297 ((0 : Int32)).toNatClampNeg) &&& 31)) - (1 : Int32))) = 0) → ((r_X12_in M b (1 : Int32) (20 : Int32)) = 0) → ((r_X12_fails M (1 : Int32)) = 0) → (((fst1 (m_X12_fails M (1 : Int32)) 296 7 (0 : Int32)) 296 6) = 0) → (((fst1 (m_X12_fails M (1 : Int32)) 296 7 (0 : Int32)) 296 5) = (8 : Int32)) → ∀ (j_208 : Nat), j_208 ≤ 127 → ¬ ((127 : Int32) ≤ (nI j_208)) → vp_in (((127 : Int32) * ((fst1 (l_X12_keepsL 297 127 (fst1 (m_X12_fails M (1 : Int32)) 296 7 (0 : Int32)) 890 0) 296 5 (((l_X12_keepsL 297 127 (fst1 (m_X12_fails M (1 : Int32)) 296 7 (0 : Int32)) 890 0) 296 5) - (1 : Int32))) 296 5)) + (nI j_208)) 1016) (q60 : ¬ ((r_X12_in M a (1 : Int32) (((1 : Int32) <<< ((M 297 ((0 : Int32)).toNatClampNeg) &&& 31)) - (1 : Int32))) = 0) → ((r_X12_in M b (1 : Int32) (20 : Int32)) = 0) → ((r_X12_fails M (1 : Int32)) = 0) → vp_in (1 : Int32) 127) (q61 : ¬ ((r_X12_in M a (1 : Int32) (((1 : Int32) <<< ((M 297 ((0 : Int32)).toNatClampNeg) &&& 31)) - (1 : Int32))) = 0) → ((r_X12_in M b (1 : Int32) (20 : Int32)) = 0) → ((r_X12_fails M (1 : Int32)) = 0) → vp_in (((11 : Int32) + ((2 : Int32) * ((m_X12_keeps (m_X12_fails M (1 : Int32)) 297 127) 297 ((1 : Int32)).toNatClampNeg))) + (0 : Int32)) 127) (q62 : ¬ ((r_X12_in M a (1 : Int32) (((1 : Int32) <<< ((M 297 ((0 : Int32)).toNatClampNeg) &&& 31)) - (1 : Int32))) = 0) → ((r_X12_in M b (1 : Int32) (20 : Int32)) = 0) → ((r_X12_fails M (1 : Int32)) = 0) → vp_in (((11 : Int32) + ((2 : Int32) * ((fst1 (m_X12_keeps (m_X12_fails M (1 : Int32)) 297 127) 297 ((((11 : Int32) + ((2 : Int32) * ((m_X12_keeps (m_X12_fails M (1 : Int32)) 297 127) 297 ((1 : Int32)).toNatClampNeg))) + (0 : Int32))).toNatClampNeg b) 297 ((1 : Int32)).toNatClampNeg))) + (1 : Int32)) 127) : fCt G z_X12_mix d [.ref 296, .int a, .int b] (sS M dv) 0 0 (fD (some (.int (r_X12_mix M a b))) (sS (m_X12_mix M a b) dv)) := by
  refine fCt_to [some (.ref 296), some (.int a), some (.int b)] k_X12_mix rfl (Nat.le_of_ble_eq_true rfl) rfl ?_
  refine f_aload_n dX12_mix_0 rfl rfl ?_
  refine f_iload_n dX12_mix_1 rfl rfl ?_
  refine f_iconst (v := 1) dX12_mix_2 rfl ?_
  refine f_iconst (v := 1) dX12_mix_3 rfl ?_
  refine f_aload_n dX12_mix_4 rfl rfl ?_
  refine s_getr hG fl_X12_7 dX12_mix_5 rfl rfl ?_
  refine f_iconst (v := 0) dX12_mix_8 rfl ?_
  refine s_iaload hG dX12_mix_9 rfl (q0) ?_
  refine f_ishl dX12_mix_10 ?_
  refine f_iconst (v := 1) dX12_mix_11 rfl ?_
  refine f_isub dX12_mix_12 ?_
  refine f_cS hG (As := [_, _, _]) dX12_mix_13 rfl k_X12_in rfl rfl ml_X12_59 sm_X12_in (c_X12_in hG (d := 0) (Nat.le_refl _) _ _ _ _ _) (by omega) (Nat.le_of_ble_eq_true rfl) (Nat.zero_le _) (Nat.zero_le _) ?_
  refine f_if_eq (tgt := 29) dX12_mix_16 (by decide) (fun c_16 => ?_) (fun c_16 => ?_)
  · refine f_iconst (v := 1) dX12_mix_29 rfl ?_
    refine f_goto (tgt := 65) dX12_mix_30 (by decide) ?_
    refine f_cV hG (As := [_]) dX12_mix_65 rfl k_X12_fails rfl rfl ml_X12_63 im_X12_fails se_X12_fails rfl rfl (c_X12_fails hG (d := 0) (Nat.le_refl _) _ _ _) (by omega) (Nat.le_of_ble_eq_true rfl) (Nat.zero_le _) (Nat.zero_le _) ?_
    refine f_if_eq (tgt := 73) dX12_mix_68 (by decide) (fun c_68 => ?_) (fun c_68 => ?_)
    · refine f_aload_n dX12_mix_73 rfl rfl ?_
      refine f_aload_n dX12_mix_74 rfl rfl ?_
      refine s_getr hG fl_X12_7 dX12_mix_75 rfl rfl ?_
      refine f_cV hG (As := [_]) dX12_mix_78 rfl k_X12_keeps rfl rfl ml_X12_67 im_X12_keeps se_X12_keeps rfl rfl (c_X12_keeps hG (d := 1) (Nat.le_refl _) _ _ _ _ rfl (by decide) (q1 c_16 c_68) (q2 c_16 c_68) (q3 c_16 c_68) (q4 c_16 c_68) (q5 c_16 c_68) (q6 c_16 c_68) (q7 c_16 c_68) (q8 c_16 c_68) (q9 c_16 c_68)) (by omega) (Nat.le_of_ble_eq_true rfl) (Nat.zero_le _) (Nat.zero_le _) ?_
      refine f_aload_n dX12_mix_81 rfl rfl ?_
      refine s_getr hG fl_X12_7 dX12_mix_82 rfl rfl ?_
      refine f_bipush (v := 11) dX12_mix_85 (by decide) ?_
      refine f_iconst (v := 2) dX12_mix_87 rfl ?_
      refine f_aload_n dX12_mix_88 rfl rfl ?_
      refine s_getr hG fl_X12_7 dX12_mix_89 rfl rfl ?_
      refine f_iconst (v := 1) dX12_mix_92 rfl ?_
      refine s_iaload hG dX12_mix_93 rfl ((q10 c_16 c_68)) ?_
      refine f_imul dX12_mix_94 ?_
      refine f_iadd dX12_mix_95 ?_
      refine f_iconst (v := 0) dX12_mix_96 rfl ?_
      refine f_iadd dX12_mix_97 ?_
      refine f_iload_n dX12_mix_98 rfl rfl ?_
      refine s_iastore hG dX12_mix_99 rfl ((q11 c_16 c_68)) ?_
      refine f_aload_n dX12_mix_100 rfl rfl ?_
      refine s_getr hG fl_X12_7 dX12_mix_101 rfl rfl ?_
      refine f_bipush (v := 11) dX12_mix_104 (by decide) ?_
      refine f_iconst (v := 2) dX12_mix_106 rfl ?_
      refine f_aload_n dX12_mix_107 rfl rfl ?_
      refine s_getr hG fl_X12_7 dX12_mix_108 rfl rfl ?_
      refine f_iconst (v := 1) dX12_mix_111 rfl ?_
      refine s_iaload hG dX12_mix_112 rfl ((q10 c_16 c_68)) ?_
      refine f_imul dX12_mix_113 ?_
      refine f_iadd dX12_mix_114 ?_
      refine f_iconst (v := 1) dX12_mix_115 rfl ?_
      refine f_iadd dX12_mix_116 ?_
      refine f_iload_n dX12_mix_117 rfl rfl ?_
      refine s_iastore hG dX12_mix_118 rfl ((q12 c_16 c_68)) ?_
      refine f_aload_n dX12_mix_119 rfl rfl ?_
      refine s_getr hG fl_X12_7 dX12_mix_120 rfl rfl ?_
      refine f_iconst (v := 1) dX12_mix_123 rfl ?_
      refine f_dup2 dX12_mix_124 rfl rfl ?_
      refine s_iaload hG dX12_mix_125 rfl ((q10 c_16 c_68)) ?_
      refine f_iconst (v := 1) dX12_mix_126 rfl ?_
      refine f_iadd dX12_mix_127 ?_
      refine s_iastore hG dX12_mix_128 rfl ((q10 c_16 c_68)) ?_
      refine f_aload_n dX12_mix_129 rfl rfl ?_
      refine s_getr hG fl_X12_7 dX12_mix_130 rfl rfl ?_
      refine f_iconst (v := 1) dX12_mix_133 rfl ?_
      refine s_iaload hG dX12_mix_134 rfl ((q10 c_16 c_68)) ?_
      refine f_iconst (v := 1) dX12_mix_135 rfl ?_
      refine f_isub dX12_mix_136 ?_
      refine f_ireturn dX12_mix_137 rfl rfl ?_
      exact ⟨by rw [r_X12_mix, if_pos c_16, if_pos c_68], by rw [m_X12_mix, if_pos c_16, if_pos c_68]⟩
    · refine f_iconst (v := 0) dX12_mix_71 rfl ?_
      refine f_ireturn dX12_mix_72 rfl rfl ?_
      exact ⟨by rw [r_X12_mix, if_pos c_16, if_neg c_68], by rw [m_X12_mix, if_pos c_16, if_neg c_68]⟩
  · refine f_iload_n dX12_mix_19 rfl rfl ?_
    refine f_iconst (v := 1) dX12_mix_20 rfl ?_
    refine f_bipush (v := 20) dX12_mix_21 (by decide) ?_
    refine f_cS hG (As := [_, _, _]) dX12_mix_23 rfl k_X12_in rfl rfl ml_X12_59 sm_X12_in (c_X12_in hG (d := 0) (Nat.le_refl _) _ _ _ _ _) (by omega) (Nat.le_of_ble_eq_true rfl) (Nat.zero_le _) (Nat.zero_le _) ?_
    refine f_if_ne (tgt := 33) dX12_mix_26 (by decide) (fun c_26 => ?_) (fun c_26 => ?_)
    · refine f_aload_n dX12_mix_33 rfl rfl ?_
      refine s_getr hG fl_X12_7 dX12_mix_34 rfl rfl ?_
      refine f_iconst (v := 1) dX12_mix_37 rfl ?_
      refine s_iaload hG dX12_mix_38 rfl ((q13 c_16 c_26)) ?_
      refine f_bipush (v := 6) dX12_mix_39 (by decide) ?_
      refine f_icmp_ne (tgt := 48) dX12_mix_41 (by decide) (fun c_41 => ?_) (fun c_41 => ?_)
      · refine f_iload_n dX12_mix_48 rfl rfl ?_
        refine f_aload_n dX12_mix_49 rfl rfl ?_
        refine s_getr hG fl_X12_7 dX12_mix_50 rfl rfl ?_
        refine f_bipush (v := 6) dX12_mix_53 (by decide) ?_
        refine s_iaload hG dX12_mix_55 rfl ((q14 c_16 c_26 c_41)) ?_
        refine f_iand dX12_mix_56 ?_
        refine f_if_eq (tgt := 64) dX12_mix_57 (by decide) (fun c_57 => ?_) (fun c_57 => ?_)
        · refine f_iconst (v := 0) dX12_mix_64 rfl ?_
          refine f_cV hG (As := [_]) dX12_mix_65 rfl k_X12_fails rfl rfl ml_X12_63 im_X12_fails se_X12_fails rfl rfl (c_X12_fails hG (d := 0) (Nat.le_refl _) _ _ _) (by omega) (Nat.le_of_ble_eq_true rfl) (Nat.zero_le _) (Nat.zero_le _) ?_
          refine f_if_eq (tgt := 73) dX12_mix_68 (by decide) (fun c_68 => ?_) (fun c_68 => ?_)
          · refine f_aload_n dX12_mix_73 rfl rfl ?_
            refine f_aload_n dX12_mix_74 rfl rfl ?_
            refine s_getr hG fl_X12_7 dX12_mix_75 rfl rfl ?_
            refine f_cV hG (As := [_]) dX12_mix_78 rfl k_X12_keeps rfl rfl ml_X12_67 im_X12_keeps se_X12_keeps rfl rfl (c_X12_keeps hG (d := 1) (Nat.le_refl _) _ _ _ _ rfl (by decide) (q15 c_16 c_26 c_41 c_57 c_68) (q16 c_16 c_26 c_41 c_57 c_68) (q17 c_16 c_26 c_41 c_57 c_68) (q18 c_16 c_26 c_41 c_57 c_68) (q19 c_16 c_26 c_41 c_57 c_68) (q20 c_16 c_26 c_41 c_57 c_68) (q21 c_16 c_26 c_41 c_57 c_68) (q22 c_16 c_26 c_41 c_57 c_68) (q23 c_16 c_26 c_41 c_57 c_68)) (by omega) (Nat.le_of_ble_eq_true rfl) (Nat.zero_le _) (Nat.zero_le _) ?_
            refine f_aload_n dX12_mix_81 rfl rfl ?_
            refine s_getr hG fl_X12_7 dX12_mix_82 rfl rfl ?_
            refine f_bipush (v := 11) dX12_mix_85 (by decide) ?_
            refine f_iconst (v := 2) dX12_mix_87 rfl ?_
            refine f_aload_n dX12_mix_88 rfl rfl ?_
            refine s_getr hG fl_X12_7 dX12_mix_89 rfl rfl ?_
            refine f_iconst (v := 1) dX12_mix_92 rfl ?_
            refine s_iaload hG dX12_mix_93 rfl ((q24 c_16 c_26 c_41 c_57 c_68)) ?_
            refine f_imul dX12_mix_94 ?_
            refine f_iadd dX12_mix_95 ?_
            refine f_iconst (v := 0) dX12_mix_96 rfl ?_
            refine f_iadd dX12_mix_97 ?_
            refine f_iload_n dX12_mix_98 rfl rfl ?_
            refine s_iastore hG dX12_mix_99 rfl ((q25 c_16 c_26 c_41 c_57 c_68)) ?_
            refine f_aload_n dX12_mix_100 rfl rfl ?_
            refine s_getr hG fl_X12_7 dX12_mix_101 rfl rfl ?_
            refine f_bipush (v := 11) dX12_mix_104 (by decide) ?_
            refine f_iconst (v := 2) dX12_mix_106 rfl ?_
            refine f_aload_n dX12_mix_107 rfl rfl ?_
            refine s_getr hG fl_X12_7 dX12_mix_108 rfl rfl ?_
            refine f_iconst (v := 1) dX12_mix_111 rfl ?_
            refine s_iaload hG dX12_mix_112 rfl ((q24 c_16 c_26 c_41 c_57 c_68)) ?_
            refine f_imul dX12_mix_113 ?_
            refine f_iadd dX12_mix_114 ?_
            refine f_iconst (v := 1) dX12_mix_115 rfl ?_
            refine f_iadd dX12_mix_116 ?_
            refine f_iload_n dX12_mix_117 rfl rfl ?_
            refine s_iastore hG dX12_mix_118 rfl ((q26 c_16 c_26 c_41 c_57 c_68)) ?_
            refine f_aload_n dX12_mix_119 rfl rfl ?_
            refine s_getr hG fl_X12_7 dX12_mix_120 rfl rfl ?_
            refine f_iconst (v := 1) dX12_mix_123 rfl ?_
            refine f_dup2 dX12_mix_124 rfl rfl ?_
            refine s_iaload hG dX12_mix_125 rfl ((q24 c_16 c_26 c_41 c_57 c_68)) ?_
            refine f_iconst (v := 1) dX12_mix_126 rfl ?_
            refine f_iadd dX12_mix_127 ?_
            refine s_iastore hG dX12_mix_128 rfl ((q24 c_16 c_26 c_41 c_57 c_68)) ?_
            refine f_aload_n dX12_mix_129 rfl rfl ?_
            refine s_getr hG fl_X12_7 dX12_mix_130 rfl rfl ?_
            refine f_iconst (v := 1) dX12_mix_133 rfl ?_
            refine s_iaload hG dX12_mix_134 rfl ((q24 c_16 c_26 c_41 c_57 c_68)) ?_
            refine f_iconst (v := 1) dX12_mix_135 rfl ?_
            refine f_isub dX12_mix_136 ?_
            refine f_ireturn dX12_mix_137 rfl rfl ?_
            exact ⟨by rw [r_X12_mix, if_neg c_16, if_neg c_26, if_neg c_41, if_pos c_57, if_pos c_68], by rw [m_X12_mix, if_neg c_16, if_neg c_26, if_neg c_41, if_pos c_57, if_pos c_68]⟩
          · refine f_iconst (v := 0) dX12_mix_71 rfl ?_
            refine f_ireturn dX12_mix_72 rfl rfl ?_
            exact ⟨by rw [r_X12_mix, if_neg c_16, if_neg c_26, if_neg c_41, if_pos c_57, if_neg c_68], by rw [m_X12_mix, if_neg c_16, if_neg c_26, if_neg c_41, if_pos c_57, if_neg c_68]⟩
        · refine f_iconst (v := 3) dX12_mix_60 rfl ?_
          refine f_goto (tgt := 65) dX12_mix_61 (by decide) ?_
          refine f_cV hG (As := [_]) dX12_mix_65 rfl k_X12_fails rfl rfl ml_X12_63 im_X12_fails se_X12_fails rfl rfl (c_X12_fails hG (d := 0) (Nat.le_refl _) _ _ _) (by omega) (Nat.le_of_ble_eq_true rfl) (Nat.zero_le _) (Nat.zero_le _) ?_
          refine f_if_eq (tgt := 73) dX12_mix_68 (by decide) (fun c_68 => ?_) (fun c_68 => ?_)
          · refine f_aload_n dX12_mix_73 rfl rfl ?_
            refine f_aload_n dX12_mix_74 rfl rfl ?_
            refine s_getr hG fl_X12_7 dX12_mix_75 rfl rfl ?_
            refine f_cV hG (As := [_]) dX12_mix_78 rfl k_X12_keeps rfl rfl ml_X12_67 im_X12_keeps se_X12_keeps rfl rfl (c_X12_keeps hG (d := 1) (Nat.le_refl _) _ _ _ _ rfl (by decide) (q27 c_16 c_26 c_41 c_57 c_68) (q28 c_16 c_26 c_41 c_57 c_68) (q29 c_16 c_26 c_41 c_57 c_68) (q30 c_16 c_26 c_41 c_57 c_68) (q31 c_16 c_26 c_41 c_57 c_68) (q32 c_16 c_26 c_41 c_57 c_68) (q33 c_16 c_26 c_41 c_57 c_68) (q34 c_16 c_26 c_41 c_57 c_68) (q35 c_16 c_26 c_41 c_57 c_68)) (by omega) (Nat.le_of_ble_eq_true rfl) (Nat.zero_le _) (Nat.zero_le _) ?_
            refine f_aload_n dX12_mix_81 rfl rfl ?_
            refine s_getr hG fl_X12_7 dX12_mix_82 rfl rfl ?_
            refine f_bipush (v := 11) dX12_mix_85 (by decide) ?_
            refine f_iconst (v := 2) dX12_mix_87 rfl ?_
            refine f_aload_n dX12_mix_88 rfl rfl ?_
            refine s_getr hG fl_X12_7 dX12_mix_89 rfl rfl ?_
            refine f_iconst (v := 1) dX12_mix_92 rfl ?_
            refine s_iaload hG dX12_mix_93 rfl ((q36 c_16 c_26 c_41 c_57 c_68)) ?_
            refine f_imul dX12_mix_94 ?_
            refine f_iadd dX12_mix_95 ?_
            refine f_iconst (v := 0) dX12_mix_96 rfl ?_
            refine f_iadd dX12_mix_97 ?_
            refine f_iload_n dX12_mix_98 rfl rfl ?_
            refine s_iastore hG dX12_mix_99 rfl ((q37 c_16 c_26 c_41 c_57 c_68)) ?_
            refine f_aload_n dX12_mix_100 rfl rfl ?_
            refine s_getr hG fl_X12_7 dX12_mix_101 rfl rfl ?_
            refine f_bipush (v := 11) dX12_mix_104 (by decide) ?_
            refine f_iconst (v := 2) dX12_mix_106 rfl ?_
            refine f_aload_n dX12_mix_107 rfl rfl ?_
            refine s_getr hG fl_X12_7 dX12_mix_108 rfl rfl ?_
            refine f_iconst (v := 1) dX12_mix_111 rfl ?_
            refine s_iaload hG dX12_mix_112 rfl ((q36 c_16 c_26 c_41 c_57 c_68)) ?_
            refine f_imul dX12_mix_113 ?_
            refine f_iadd dX12_mix_114 ?_
            refine f_iconst (v := 1) dX12_mix_115 rfl ?_
            refine f_iadd dX12_mix_116 ?_
            refine f_iload_n dX12_mix_117 rfl rfl ?_
            refine s_iastore hG dX12_mix_118 rfl ((q38 c_16 c_26 c_41 c_57 c_68)) ?_
            refine f_aload_n dX12_mix_119 rfl rfl ?_
            refine s_getr hG fl_X12_7 dX12_mix_120 rfl rfl ?_
            refine f_iconst (v := 1) dX12_mix_123 rfl ?_
            refine f_dup2 dX12_mix_124 rfl rfl ?_
            refine s_iaload hG dX12_mix_125 rfl ((q36 c_16 c_26 c_41 c_57 c_68)) ?_
            refine f_iconst (v := 1) dX12_mix_126 rfl ?_
            refine f_iadd dX12_mix_127 ?_
            refine s_iastore hG dX12_mix_128 rfl ((q36 c_16 c_26 c_41 c_57 c_68)) ?_
            refine f_aload_n dX12_mix_129 rfl rfl ?_
            refine s_getr hG fl_X12_7 dX12_mix_130 rfl rfl ?_
            refine f_iconst (v := 1) dX12_mix_133 rfl ?_
            refine s_iaload hG dX12_mix_134 rfl ((q36 c_16 c_26 c_41 c_57 c_68)) ?_
            refine f_iconst (v := 1) dX12_mix_135 rfl ?_
            refine f_isub dX12_mix_136 ?_
            refine f_ireturn dX12_mix_137 rfl rfl ?_
            exact ⟨by rw [r_X12_mix, if_neg c_16, if_neg c_26, if_neg c_41, if_neg c_57, if_pos c_68], by rw [m_X12_mix, if_neg c_16, if_neg c_26, if_neg c_41, if_neg c_57, if_pos c_68]⟩
          · refine f_iconst (v := 0) dX12_mix_71 rfl ?_
            refine f_ireturn dX12_mix_72 rfl rfl ?_
            exact ⟨by rw [r_X12_mix, if_neg c_16, if_neg c_26, if_neg c_41, if_neg c_57, if_neg c_68], by rw [m_X12_mix, if_neg c_16, if_neg c_26, if_neg c_41, if_neg c_57, if_neg c_68]⟩
      · refine f_iconst (v := 2) dX12_mix_44 rfl ?_
        refine f_goto (tgt := 65) dX12_mix_45 (by decide) ?_
        refine f_cV hG (As := [_]) dX12_mix_65 rfl k_X12_fails rfl rfl ml_X12_63 im_X12_fails se_X12_fails rfl rfl (c_X12_fails hG (d := 0) (Nat.le_refl _) _ _ _) (by omega) (Nat.le_of_ble_eq_true rfl) (Nat.zero_le _) (Nat.zero_le _) ?_
        refine f_if_eq (tgt := 73) dX12_mix_68 (by decide) (fun c_68 => ?_) (fun c_68 => ?_)
        · refine f_aload_n dX12_mix_73 rfl rfl ?_
          refine f_aload_n dX12_mix_74 rfl rfl ?_
          refine s_getr hG fl_X12_7 dX12_mix_75 rfl rfl ?_
          refine f_cV hG (As := [_]) dX12_mix_78 rfl k_X12_keeps rfl rfl ml_X12_67 im_X12_keeps se_X12_keeps rfl rfl (c_X12_keeps hG (d := 1) (Nat.le_refl _) _ _ _ _ rfl (by decide) (q39 c_16 c_26 c_41 c_68) (q40 c_16 c_26 c_41 c_68) (q41 c_16 c_26 c_41 c_68) (q42 c_16 c_26 c_41 c_68) (q43 c_16 c_26 c_41 c_68) (q44 c_16 c_26 c_41 c_68) (q45 c_16 c_26 c_41 c_68) (q46 c_16 c_26 c_41 c_68) (q47 c_16 c_26 c_41 c_68)) (by omega) (Nat.le_of_ble_eq_true rfl) (Nat.zero_le _) (Nat.zero_le _) ?_
          refine f_aload_n dX12_mix_81 rfl rfl ?_
          refine s_getr hG fl_X12_7 dX12_mix_82 rfl rfl ?_
          refine f_bipush (v := 11) dX12_mix_85 (by decide) ?_
          refine f_iconst (v := 2) dX12_mix_87 rfl ?_
          refine f_aload_n dX12_mix_88 rfl rfl ?_
          refine s_getr hG fl_X12_7 dX12_mix_89 rfl rfl ?_
          refine f_iconst (v := 1) dX12_mix_92 rfl ?_
          refine s_iaload hG dX12_mix_93 rfl ((q48 c_16 c_26 c_41 c_68)) ?_
          refine f_imul dX12_mix_94 ?_
          refine f_iadd dX12_mix_95 ?_
          refine f_iconst (v := 0) dX12_mix_96 rfl ?_
          refine f_iadd dX12_mix_97 ?_
          refine f_iload_n dX12_mix_98 rfl rfl ?_
          refine s_iastore hG dX12_mix_99 rfl ((q49 c_16 c_26 c_41 c_68)) ?_
          refine f_aload_n dX12_mix_100 rfl rfl ?_
          refine s_getr hG fl_X12_7 dX12_mix_101 rfl rfl ?_
          refine f_bipush (v := 11) dX12_mix_104 (by decide) ?_
          refine f_iconst (v := 2) dX12_mix_106 rfl ?_
          refine f_aload_n dX12_mix_107 rfl rfl ?_
          refine s_getr hG fl_X12_7 dX12_mix_108 rfl rfl ?_
          refine f_iconst (v := 1) dX12_mix_111 rfl ?_
          refine s_iaload hG dX12_mix_112 rfl ((q48 c_16 c_26 c_41 c_68)) ?_
          refine f_imul dX12_mix_113 ?_
          refine f_iadd dX12_mix_114 ?_
          refine f_iconst (v := 1) dX12_mix_115 rfl ?_
          refine f_iadd dX12_mix_116 ?_
          refine f_iload_n dX12_mix_117 rfl rfl ?_
          refine s_iastore hG dX12_mix_118 rfl ((q50 c_16 c_26 c_41 c_68)) ?_
          refine f_aload_n dX12_mix_119 rfl rfl ?_
          refine s_getr hG fl_X12_7 dX12_mix_120 rfl rfl ?_
          refine f_iconst (v := 1) dX12_mix_123 rfl ?_
          refine f_dup2 dX12_mix_124 rfl rfl ?_
          refine s_iaload hG dX12_mix_125 rfl ((q48 c_16 c_26 c_41 c_68)) ?_
          refine f_iconst (v := 1) dX12_mix_126 rfl ?_
          refine f_iadd dX12_mix_127 ?_
          refine s_iastore hG dX12_mix_128 rfl ((q48 c_16 c_26 c_41 c_68)) ?_
          refine f_aload_n dX12_mix_129 rfl rfl ?_
          refine s_getr hG fl_X12_7 dX12_mix_130 rfl rfl ?_
          refine f_iconst (v := 1) dX12_mix_133 rfl ?_
          refine s_iaload hG dX12_mix_134 rfl ((q48 c_16 c_26 c_41 c_68)) ?_
          refine f_iconst (v := 1) dX12_mix_135 rfl ?_
          refine f_isub dX12_mix_136 ?_
          refine f_ireturn dX12_mix_137 rfl rfl ?_
          exact ⟨by rw [r_X12_mix, if_neg c_16, if_neg c_26, if_pos c_41, if_pos c_68], by rw [m_X12_mix, if_neg c_16, if_neg c_26, if_pos c_41, if_pos c_68]⟩
        · refine f_iconst (v := 0) dX12_mix_71 rfl ?_
          refine f_ireturn dX12_mix_72 rfl rfl ?_
          exact ⟨by rw [r_X12_mix, if_neg c_16, if_neg c_26, if_pos c_41, if_neg c_68], by rw [m_X12_mix, if_neg c_16, if_neg c_26, if_pos c_41, if_neg c_68]⟩
    · refine f_iconst (v := 1) dX12_mix_29 rfl ?_
      refine f_goto (tgt := 65) dX12_mix_30 (by decide) ?_
      refine f_cV hG (As := [_]) dX12_mix_65 rfl k_X12_fails rfl rfl ml_X12_63 im_X12_fails se_X12_fails rfl rfl (c_X12_fails hG (d := 0) (Nat.le_refl _) _ _ _) (by omega) (Nat.le_of_ble_eq_true rfl) (Nat.zero_le _) (Nat.zero_le _) ?_
      refine f_if_eq (tgt := 73) dX12_mix_68 (by decide) (fun c_68 => ?_) (fun c_68 => ?_)
      · refine f_aload_n dX12_mix_73 rfl rfl ?_
        refine f_aload_n dX12_mix_74 rfl rfl ?_
        refine s_getr hG fl_X12_7 dX12_mix_75 rfl rfl ?_
        refine f_cV hG (As := [_]) dX12_mix_78 rfl k_X12_keeps rfl rfl ml_X12_67 im_X12_keeps se_X12_keeps rfl rfl (c_X12_keeps hG (d := 1) (Nat.le_refl _) _ _ _ _ rfl (by decide) (q51 c_16 c_26 c_68) (q52 c_16 c_26 c_68) (q53 c_16 c_26 c_68) (q54 c_16 c_26 c_68) (q55 c_16 c_26 c_68) (q56 c_16 c_26 c_68) (q57 c_16 c_26 c_68) (q58 c_16 c_26 c_68) (q59 c_16 c_26 c_68)) (by omega) (Nat.le_of_ble_eq_true rfl) (Nat.zero_le _) (Nat.zero_le _) ?_
        refine f_aload_n dX12_mix_81 rfl rfl ?_
        refine s_getr hG fl_X12_7 dX12_mix_82 rfl rfl ?_
        refine f_bipush (v := 11) dX12_mix_85 (by decide) ?_
        refine f_iconst (v := 2) dX12_mix_87 rfl ?_
        refine f_aload_n dX12_mix_88 rfl rfl ?_
        refine s_getr hG fl_X12_7 dX12_mix_89 rfl rfl ?_
        refine f_iconst (v := 1) dX12_mix_92 rfl ?_
        refine s_iaload hG dX12_mix_93 rfl ((q60 c_16 c_26 c_68)) ?_
        refine f_imul dX12_mix_94 ?_
        refine f_iadd dX12_mix_95 ?_
        refine f_iconst (v := 0) dX12_mix_96 rfl ?_
        refine f_iadd dX12_mix_97 ?_
        refine f_iload_n dX12_mix_98 rfl rfl ?_
        refine s_iastore hG dX12_mix_99 rfl ((q61 c_16 c_26 c_68)) ?_
        refine f_aload_n dX12_mix_100 rfl rfl ?_
        refine s_getr hG fl_X12_7 dX12_mix_101 rfl rfl ?_
        refine f_bipush (v := 11) dX12_mix_104 (by decide) ?_
        refine f_iconst (v := 2) dX12_mix_106 rfl ?_
        refine f_aload_n dX12_mix_107 rfl rfl ?_
        refine s_getr hG fl_X12_7 dX12_mix_108 rfl rfl ?_
        refine f_iconst (v := 1) dX12_mix_111 rfl ?_
        refine s_iaload hG dX12_mix_112 rfl ((q60 c_16 c_26 c_68)) ?_
        refine f_imul dX12_mix_113 ?_
        refine f_iadd dX12_mix_114 ?_
        refine f_iconst (v := 1) dX12_mix_115 rfl ?_
        refine f_iadd dX12_mix_116 ?_
        refine f_iload_n dX12_mix_117 rfl rfl ?_
        refine s_iastore hG dX12_mix_118 rfl ((q62 c_16 c_26 c_68)) ?_
        refine f_aload_n dX12_mix_119 rfl rfl ?_
        refine s_getr hG fl_X12_7 dX12_mix_120 rfl rfl ?_
        refine f_iconst (v := 1) dX12_mix_123 rfl ?_
        refine f_dup2 dX12_mix_124 rfl rfl ?_
        refine s_iaload hG dX12_mix_125 rfl ((q60 c_16 c_26 c_68)) ?_
        refine f_iconst (v := 1) dX12_mix_126 rfl ?_
        refine f_iadd dX12_mix_127 ?_
        refine s_iastore hG dX12_mix_128 rfl ((q60 c_16 c_26 c_68)) ?_
        refine f_aload_n dX12_mix_129 rfl rfl ?_
        refine s_getr hG fl_X12_7 dX12_mix_130 rfl rfl ?_
        refine f_iconst (v := 1) dX12_mix_133 rfl ?_
        refine s_iaload hG dX12_mix_134 rfl ((q60 c_16 c_26 c_68)) ?_
        refine f_iconst (v := 1) dX12_mix_135 rfl ?_
        refine f_isub dX12_mix_136 ?_
        refine f_ireturn dX12_mix_137 rfl rfl ?_
        exact ⟨by rw [r_X12_mix, if_neg c_16, if_pos c_26, if_pos c_68], by rw [m_X12_mix, if_neg c_16, if_pos c_26, if_pos c_68]⟩
      · refine f_iconst (v := 0) dX12_mix_71 rfl ?_
        refine f_ireturn dX12_mix_72 rfl rfl ?_
        exact ⟨by rw [r_X12_mix, if_neg c_16, if_pos c_26, if_neg c_68], by rw [m_X12_mix, if_neg c_16, if_pos c_26, if_neg c_68]⟩

def r_X12_rawCount (M : fM) : Int32 := ((fst1 M 296 7 (0 : Int32)) 297 ((0 : Int32)).toNatClampNeg)
def m_X12_rawCount (M : fM) : fM := (fst1 M 296 7 (0 : Int32))
set_option maxRecDepth 100000 in
set_option maxHeartbeats 4000000 in
theorem c_X12_rawCount {G : fG} (hG : fOK G) {d : Nat} (hd : 0 ≤ d) (M : fM) (dv : UInt64) (q0 : vp_in (0 : Int32) 127) : fCt G z_X12_rawCount d [.ref 296] (sS M dv) 0 0 (fD (some (.int (r_X12_rawCount M))) (sS (m_X12_rawCount M) dv)) := by
  refine fCt_to [some (.ref 296)] k_X12_rawCount rfl (Nat.le_of_ble_eq_true rfl) rfl ?_
  refine f_aload_n dX12_rawCount_0 rfl rfl ?_
  refine f_iconst (v := 0) dX12_rawCount_1 rfl ?_
  refine s_puti hG fl_X12_45 (Or.inl rfl) dX12_rawCount_2 rfl rfl rfl rfl ?_
  refine f_aload_n dX12_rawCount_5 rfl rfl ?_
  refine s_getr hG fl_X12_7 dX12_rawCount_6 rfl rfl ?_
  refine f_iconst (v := 0) dX12_rawCount_9 rfl ?_
  refine s_iaload hG dX12_rawCount_10 rfl (q0) ?_
  refine f_ireturn dX12_rawCount_11 rfl rfl ?_
  exact ⟨by rw [r_X12_rawCount], by rw [m_X12_rawCount]⟩

def r_X12_batchCount (M : fM) : Int32 := ((fst1 M 296 7 (0 : Int32)) 297 ((1 : Int32)).toNatClampNeg)
def m_X12_batchCount (M : fM) : fM := (fst1 M 296 7 (0 : Int32))
set_option maxRecDepth 100000 in
set_option maxHeartbeats 4000000 in
theorem c_X12_batchCount {G : fG} (hG : fOK G) {d : Nat} (hd : 0 ≤ d) (M : fM) (dv : UInt64) (q0 : vp_in (1 : Int32) 127) : fCt G z_X12_batchCount d [.ref 296] (sS M dv) 0 0 (fD (some (.int (r_X12_batchCount M))) (sS (m_X12_batchCount M) dv)) := by
  refine fCt_to [some (.ref 296)] k_X12_batchCount rfl (Nat.le_of_ble_eq_true rfl) rfl ?_
  refine f_aload_n dX12_batchCount_0 rfl rfl ?_
  refine f_iconst (v := 0) dX12_batchCount_1 rfl ?_
  refine s_puti hG fl_X12_45 (Or.inl rfl) dX12_batchCount_2 rfl rfl rfl rfl ?_
  refine f_aload_n dX12_batchCount_5 rfl rfl ?_
  refine s_getr hG fl_X12_7 dX12_batchCount_6 rfl rfl ?_
  refine f_iconst (v := 1) dX12_batchCount_9 rfl ?_
  refine s_iaload hG dX12_batchCount_10 rfl (q0) ?_
  refine f_ireturn dX12_batchCount_11 rfl rfl ?_
  exact ⟨by rw [r_X12_batchCount], by rw [m_X12_batchCount]⟩

def r_X12_isFaulty (M : fM) (a : Int32) : Int32 := (if (r_X12_isRaw M a) = 0 then (if (r_X12_fails M (1 : Int32)) = 0 then (if ((((m_X12_fails M (1 : Int32)) 297 ((6 : Int32)).toNatClampNeg) >>> (a &&& 31)) &&& (1 : Int32)) = (1 : Int32) then (1 : Int32) else (0 : Int32)) else (0 : Int32)) else (if (r_X12_fails M (0 : Int32)) = 0 then (if ((((m_X12_fails M (0 : Int32)) 297 ((6 : Int32)).toNatClampNeg) >>> (a &&& 31)) &&& (1 : Int32)) = (1 : Int32) then (1 : Int32) else (0 : Int32)) else (0 : Int32)))
def m_X12_isFaulty (M : fM) (a : Int32) : fM := (if (r_X12_isRaw M a) = 0 then (if (r_X12_fails M (1 : Int32)) = 0 then (if ((((m_X12_fails M (1 : Int32)) 297 ((6 : Int32)).toNatClampNeg) >>> (a &&& 31)) &&& (1 : Int32)) = (1 : Int32) then (m_X12_fails M (1 : Int32)) else (m_X12_fails M (1 : Int32))) else (m_X12_fails M (1 : Int32))) else (if (r_X12_fails M (0 : Int32)) = 0 then (if ((((m_X12_fails M (0 : Int32)) 297 ((6 : Int32)).toNatClampNeg) >>> (a &&& 31)) &&& (1 : Int32)) = (1 : Int32) then (m_X12_fails M (0 : Int32)) else (m_X12_fails M (0 : Int32))) else (m_X12_fails M (0 : Int32))))
theorem n_X12_isFaulty (M : fM) (a : Int32) : narrow .boolean (.int (r_X12_isFaulty M a)) = .int (r_X12_isFaulty M a) := by
  unfold r_X12_isFaulty
  repeat' with_reducible apply n_ite
  all_goals first | rfl | exact pk_nc _
set_option maxRecDepth 100000 in
set_option maxHeartbeats 4000000 in
theorem c_X12_isFaulty {G : fG} (hG : fOK G) {d : Nat} (hd : 2 ≤ d) (M : fM) (dv : UInt64) (a : Int32) (q0 : vp_in (0 : Int32) 127) (q1 : ((r_X12_isRaw M a) = 0) → ((r_X12_fails M (1 : Int32)) = 0) → vp_in (6 : Int32) 127) (q2 : ¬ ((r_X12_isRaw M a) = 0) → ((r_X12_fails M (0 : Int32)) = 0) → vp_in (6 : Int32) 127) : fCt G z_X12_isFaulty d [.ref 296, .int a] (sS M dv) 0 0 (fD (some (.int (r_X12_isFaulty M a))) (sS (m_X12_isFaulty M a) dv)) := by
  refine fCt_to [some (.ref 296), some (.int a)] k_X12_isFaulty rfl (Nat.le_of_ble_eq_true rfl) rfl ?_
  refine f_aload_n dX12_isFaulty_0 rfl rfl ?_
  refine f_aload_n dX12_isFaulty_1 rfl rfl ?_
  refine f_iload_n dX12_isFaulty_2 rfl rfl ?_
  refine f_cV hG (As := [_]) dX12_isFaulty_3 rfl k_X12_isRaw rfl rfl ml_X12_71 im_X12_isRaw se_X12_isRaw rfl rfl (c_X12_isRaw hG (d := 1) (Nat.le_refl _) _ _ _ q0) (by omega) (Nat.le_of_ble_eq_true rfl) (Nat.zero_le _) (Nat.zero_le _) ?_
  refine f_if_eq (tgt := 13) dX12_isFaulty_6 (by decide) (fun c_6 => ?_) (fun c_6 => ?_)
  · refine f_iconst (v := 1) dX12_isFaulty_13 rfl ?_
    refine f_cV hG (As := [_]) dX12_isFaulty_14 rfl k_X12_fails rfl rfl ml_X12_63 im_X12_fails se_X12_fails rfl rfl (c_X12_fails hG (d := 0) (Nat.le_refl _) _ _ _) (by omega) (Nat.le_of_ble_eq_true rfl) (Nat.zero_le _) (Nat.zero_le _) ?_
    refine f_if_ne (tgt := 39) dX12_isFaulty_17 (by decide) (fun c_17 => ?_) (fun c_17 => ?_)
    · refine f_iconst (v := 0) dX12_isFaulty_39 rfl ?_
      refine f_ireturn dX12_isFaulty_40 rfl rfl ?_
      exact ⟨by rw [r_X12_isFaulty, if_pos c_6, if_neg c_17], by rw [m_X12_isFaulty, if_pos c_6, if_neg c_17]⟩
    · refine f_aload_n dX12_isFaulty_20 rfl rfl ?_
      refine s_getr hG fl_X12_7 dX12_isFaulty_21 rfl rfl ?_
      refine f_bipush (v := 6) dX12_isFaulty_24 (by decide) ?_
      refine s_iaload hG dX12_isFaulty_26 rfl ((q1 c_6 c_17)) ?_
      refine f_iload_n dX12_isFaulty_27 rfl rfl ?_
      refine f_ishr dX12_isFaulty_28 ?_
      refine f_iconst (v := 1) dX12_isFaulty_29 rfl ?_
      refine f_iand dX12_isFaulty_30 ?_
      refine f_iconst (v := 1) dX12_isFaulty_31 rfl ?_
      refine f_icmp_ne (tgt := 39) dX12_isFaulty_32 (by decide) (fun c_32 => ?_) (fun c_32 => ?_)
      · refine f_iconst (v := 0) dX12_isFaulty_39 rfl ?_
        refine f_ireturn dX12_isFaulty_40 rfl rfl ?_
        exact ⟨by rw [r_X12_isFaulty, if_pos c_6, if_pos c_17, if_neg c_32], by rw [m_X12_isFaulty, if_pos c_6, if_pos c_17, if_neg c_32]⟩
      · refine f_iconst (v := 1) dX12_isFaulty_35 rfl ?_
        refine f_goto (tgt := 40) dX12_isFaulty_36 (by decide) ?_
        refine f_ireturn dX12_isFaulty_40 rfl rfl ?_
        exact ⟨by rw [r_X12_isFaulty, if_pos c_6, if_pos c_17, if_pos c_32], by rw [m_X12_isFaulty, if_pos c_6, if_pos c_17, if_pos c_32]⟩
  · refine f_iconst (v := 0) dX12_isFaulty_9 rfl ?_
    refine f_goto (tgt := 14) dX12_isFaulty_10 (by decide) ?_
    refine f_cV hG (As := [_]) dX12_isFaulty_14 rfl k_X12_fails rfl rfl ml_X12_63 im_X12_fails se_X12_fails rfl rfl (c_X12_fails hG (d := 0) (Nat.le_refl _) _ _ _) (by omega) (Nat.le_of_ble_eq_true rfl) (Nat.zero_le _) (Nat.zero_le _) ?_
    refine f_if_ne (tgt := 39) dX12_isFaulty_17 (by decide) (fun c_17 => ?_) (fun c_17 => ?_)
    · refine f_iconst (v := 0) dX12_isFaulty_39 rfl ?_
      refine f_ireturn dX12_isFaulty_40 rfl rfl ?_
      exact ⟨by rw [r_X12_isFaulty, if_neg c_6, if_neg c_17], by rw [m_X12_isFaulty, if_neg c_6, if_neg c_17]⟩
    · refine f_aload_n dX12_isFaulty_20 rfl rfl ?_
      refine s_getr hG fl_X12_7 dX12_isFaulty_21 rfl rfl ?_
      refine f_bipush (v := 6) dX12_isFaulty_24 (by decide) ?_
      refine s_iaload hG dX12_isFaulty_26 rfl ((q2 c_6 c_17)) ?_
      refine f_iload_n dX12_isFaulty_27 rfl rfl ?_
      refine f_ishr dX12_isFaulty_28 ?_
      refine f_iconst (v := 1) dX12_isFaulty_29 rfl ?_
      refine f_iand dX12_isFaulty_30 ?_
      refine f_iconst (v := 1) dX12_isFaulty_31 rfl ?_
      refine f_icmp_ne (tgt := 39) dX12_isFaulty_32 (by decide) (fun c_32 => ?_) (fun c_32 => ?_)
      · refine f_iconst (v := 0) dX12_isFaulty_39 rfl ?_
        refine f_ireturn dX12_isFaulty_40 rfl rfl ?_
        exact ⟨by rw [r_X12_isFaulty, if_neg c_6, if_pos c_17, if_neg c_32], by rw [m_X12_isFaulty, if_neg c_6, if_pos c_17, if_neg c_32]⟩
      · refine f_iconst (v := 1) dX12_isFaulty_35 rfl ?_
        refine f_goto (tgt := 40) dX12_isFaulty_36 (by decide) ?_
        refine f_ireturn dX12_isFaulty_40 rfl rfl ?_
        exact ⟨by rw [r_X12_isFaulty, if_neg c_6, if_pos c_17, if_pos c_32], by rw [m_X12_isFaulty, if_neg c_6, if_pos c_17, if_pos c_32]⟩

def r_X12_strengthOf (M : fM) (a : Int32) : Int32 := (if (r_X12_isBatch M a) = 0 then (if (r_X12_fails M (1 : Int32)) = 0 then (r_X12_of (m_X12_fails M (1 : Int32)) a (0 : Int32)) else (0 : Int32)) else (if (r_X12_fails M (0 : Int32)) = 0 then (r_X12_of (m_X12_fails M (0 : Int32)) a (0 : Int32)) else (0 : Int32)))
def m_X12_strengthOf (M : fM) (a : Int32) : fM := (if (r_X12_isBatch M a) = 0 then (if (r_X12_fails M (1 : Int32)) = 0 then (m_X12_fails M (1 : Int32)) else (m_X12_fails M (1 : Int32))) else (if (r_X12_fails M (0 : Int32)) = 0 then (m_X12_fails M (0 : Int32)) else (m_X12_fails M (0 : Int32))))
set_option maxRecDepth 100000 in
set_option maxHeartbeats 4000000 in
theorem c_X12_strengthOf {G : fG} (hG : fOK G) {d : Nat} (hd : 2 ≤ d) (M : fM) (dv : UInt64) (a : Int32) (q0 : vp_in (1 : Int32) 127) (q1 : ((r_X12_isBatch M a) = 0) → ((r_X12_fails M (1 : Int32)) = 0) → vp_in (((11 : Int32) + ((2 : Int32) * a)) + (0 : Int32)) 127) (q2 : ¬ ((r_X12_isBatch M a) = 0) → ((r_X12_fails M (0 : Int32)) = 0) → vp_in (((11 : Int32) + ((2 : Int32) * a)) + (0 : Int32)) 127) : fCt G z_X12_strengthOf d [.ref 296, .int a] (sS M dv) 0 0 (fD (some (.int (r_X12_strengthOf M a))) (sS (m_X12_strengthOf M a) dv)) := by
  refine fCt_to [some (.ref 296), some (.int a)] k_X12_strengthOf rfl (Nat.le_of_ble_eq_true rfl) rfl ?_
  refine f_aload_n dX12_strengthOf_0 rfl rfl ?_
  refine f_aload_n dX12_strengthOf_1 rfl rfl ?_
  refine f_iload_n dX12_strengthOf_2 rfl rfl ?_
  refine f_cV hG (As := [_]) dX12_strengthOf_3 rfl k_X12_isBatch rfl rfl ml_X12_74 im_X12_isBatch se_X12_isBatch rfl rfl (c_X12_isBatch hG (d := 1) (Nat.le_refl _) _ _ _ q0) (by omega) (Nat.le_of_ble_eq_true rfl) (Nat.zero_le _) (Nat.zero_le _) ?_
  refine f_if_eq (tgt := 13) dX12_strengthOf_6 (by decide) (fun c_6 => ?_) (fun c_6 => ?_)
  · refine f_iconst (v := 1) dX12_strengthOf_13 rfl ?_
    refine f_cV hG (As := [_]) dX12_strengthOf_14 rfl k_X12_fails rfl rfl ml_X12_63 im_X12_fails se_X12_fails rfl rfl (c_X12_fails hG (d := 0) (Nat.le_refl _) _ _ _) (by omega) (Nat.le_of_ble_eq_true rfl) (Nat.zero_le _) (Nat.zero_le _) ?_
    refine f_if_eq (tgt := 24) dX12_strengthOf_17 (by decide) (fun c_17 => ?_) (fun c_17 => ?_)
    · refine f_aload_n dX12_strengthOf_24 rfl rfl ?_
      refine f_iload_n dX12_strengthOf_25 rfl rfl ?_
      refine f_iconst (v := 0) dX12_strengthOf_26 rfl ?_
      refine f_cV hG (As := [_, _]) dX12_strengthOf_27 rfl k_X12_of rfl rfl ml_X12_77 im_X12_of se_X12_of rfl rfl (c_X12_of hG (d := 0) (Nat.le_refl _) _ _ _ _ (q1 c_6 c_17)) (by omega) (Nat.le_of_ble_eq_true rfl) (Nat.zero_le _) (Nat.zero_le _) ?_
      refine f_ireturn dX12_strengthOf_30 rfl rfl ?_
      exact ⟨by rw [r_X12_strengthOf, if_pos c_6, if_pos c_17], by rw [m_X12_strengthOf, if_pos c_6, if_pos c_17]⟩
    · refine f_iconst (v := 0) dX12_strengthOf_20 rfl ?_
      refine f_goto (tgt := 30) dX12_strengthOf_21 (by decide) ?_
      refine f_ireturn dX12_strengthOf_30 rfl rfl ?_
      exact ⟨by rw [r_X12_strengthOf, if_pos c_6, if_neg c_17], by rw [m_X12_strengthOf, if_pos c_6, if_neg c_17]⟩
  · refine f_iconst (v := 0) dX12_strengthOf_9 rfl ?_
    refine f_goto (tgt := 14) dX12_strengthOf_10 (by decide) ?_
    refine f_cV hG (As := [_]) dX12_strengthOf_14 rfl k_X12_fails rfl rfl ml_X12_63 im_X12_fails se_X12_fails rfl rfl (c_X12_fails hG (d := 0) (Nat.le_refl _) _ _ _) (by omega) (Nat.le_of_ble_eq_true rfl) (Nat.zero_le _) (Nat.zero_le _) ?_
    refine f_if_eq (tgt := 24) dX12_strengthOf_17 (by decide) (fun c_17 => ?_) (fun c_17 => ?_)
    · refine f_aload_n dX12_strengthOf_24 rfl rfl ?_
      refine f_iload_n dX12_strengthOf_25 rfl rfl ?_
      refine f_iconst (v := 0) dX12_strengthOf_26 rfl ?_
      refine f_cV hG (As := [_, _]) dX12_strengthOf_27 rfl k_X12_of rfl rfl ml_X12_77 im_X12_of se_X12_of rfl rfl (c_X12_of hG (d := 0) (Nat.le_refl _) _ _ _ _ (q2 c_6 c_17)) (by omega) (Nat.le_of_ble_eq_true rfl) (Nat.zero_le _) (Nat.zero_le _) ?_
      refine f_ireturn dX12_strengthOf_30 rfl rfl ?_
      exact ⟨by rw [r_X12_strengthOf, if_neg c_6, if_pos c_17], by rw [m_X12_strengthOf, if_neg c_6, if_pos c_17]⟩
    · refine f_iconst (v := 0) dX12_strengthOf_20 rfl ?_
      refine f_goto (tgt := 30) dX12_strengthOf_21 (by decide) ?_
      refine f_ireturn dX12_strengthOf_30 rfl rfl ?_
      exact ⟨by rw [r_X12_strengthOf, if_neg c_6, if_neg c_17], by rw [m_X12_strengthOf, if_neg c_6, if_neg c_17]⟩

def r_X12_batchContains (M : fM) (a : Int32) (b : Int32) : Int32 := (if (r_X12_isBatch M a) = 0 then (if (r_X12_fails M (1 : Int32)) = 0 then (if (((r_X12_of (m_X12_fails M (1 : Int32)) a (1 : Int32)) >>> (b &&& 31)) &&& (1 : Int32)) = (1 : Int32) then (1 : Int32) else (0 : Int32)) else (0 : Int32)) else (if (r_X12_isRaw M b) = 0 then (if (r_X12_fails M (1 : Int32)) = 0 then (if (((r_X12_of (m_X12_fails M (1 : Int32)) a (1 : Int32)) >>> (b &&& 31)) &&& (1 : Int32)) = (1 : Int32) then (1 : Int32) else (0 : Int32)) else (0 : Int32)) else (if (r_X12_fails M (0 : Int32)) = 0 then (if (((r_X12_of (m_X12_fails M (0 : Int32)) a (1 : Int32)) >>> (b &&& 31)) &&& (1 : Int32)) = (1 : Int32) then (1 : Int32) else (0 : Int32)) else (0 : Int32))))
def m_X12_batchContains (M : fM) (a : Int32) (b : Int32) : fM := (if (r_X12_isBatch M a) = 0 then (if (r_X12_fails M (1 : Int32)) = 0 then (if (((r_X12_of (m_X12_fails M (1 : Int32)) a (1 : Int32)) >>> (b &&& 31)) &&& (1 : Int32)) = (1 : Int32) then (m_X12_fails M (1 : Int32)) else (m_X12_fails M (1 : Int32))) else (m_X12_fails M (1 : Int32))) else (if (r_X12_isRaw M b) = 0 then (if (r_X12_fails M (1 : Int32)) = 0 then (if (((r_X12_of (m_X12_fails M (1 : Int32)) a (1 : Int32)) >>> (b &&& 31)) &&& (1 : Int32)) = (1 : Int32) then (m_X12_fails M (1 : Int32)) else (m_X12_fails M (1 : Int32))) else (m_X12_fails M (1 : Int32))) else (if (r_X12_fails M (0 : Int32)) = 0 then (if (((r_X12_of (m_X12_fails M (0 : Int32)) a (1 : Int32)) >>> (b &&& 31)) &&& (1 : Int32)) = (1 : Int32) then (m_X12_fails M (0 : Int32)) else (m_X12_fails M (0 : Int32))) else (m_X12_fails M (0 : Int32)))))
theorem n_X12_batchContains (M : fM) (a : Int32) (b : Int32) : narrow .boolean (.int (r_X12_batchContains M a b)) = .int (r_X12_batchContains M a b) := by
  unfold r_X12_batchContains
  repeat' with_reducible apply n_ite
  all_goals first | rfl | exact pk_nc _
set_option maxRecDepth 100000 in
set_option maxHeartbeats 4000000 in
theorem c_X12_batchContains {G : fG} (hG : fOK G) {d : Nat} (hd : 2 ≤ d) (M : fM) (dv : UInt64) (a : Int32) (b : Int32) (q0 : vp_in (1 : Int32) 127) (q1 : ((r_X12_isBatch M a) = 0) → ((r_X12_fails M (1 : Int32)) = 0) → vp_in (((11 : Int32) + ((2 : Int32) * a)) + (1 : Int32)) 127) (q2 : ¬ ((r_X12_isBatch M a) = 0) → vp_in (0 : Int32) 127) (q3 : ¬ ((r_X12_isBatch M a) = 0) → ((r_X12_isRaw M b) = 0) → ((r_X12_fails M (1 : Int32)) = 0) → vp_in (((11 : Int32) + ((2 : Int32) * a)) + (1 : Int32)) 127) (q4 : ¬ ((r_X12_isBatch M a) = 0) → ¬ ((r_X12_isRaw M b) = 0) → ((r_X12_fails M (0 : Int32)) = 0) → vp_in (((11 : Int32) + ((2 : Int32) * a)) + (1 : Int32)) 127) : fCt G z_X12_batchContains d [.ref 296, .int a, .int b] (sS M dv) 0 0 (fD (some (.int (r_X12_batchContains M a b))) (sS (m_X12_batchContains M a b) dv)) := by
  refine fCt_to [some (.ref 296), some (.int a), some (.int b)] k_X12_batchContains rfl (Nat.le_of_ble_eq_true rfl) rfl ?_
  refine f_aload_n dX12_batchContains_0 rfl rfl ?_
  refine f_aload_n dX12_batchContains_1 rfl rfl ?_
  refine f_iload_n dX12_batchContains_2 rfl rfl ?_
  refine f_cV hG (As := [_]) dX12_batchContains_3 rfl k_X12_isBatch rfl rfl ml_X12_74 im_X12_isBatch se_X12_isBatch rfl rfl (c_X12_isBatch hG (d := 1) (Nat.le_refl _) _ _ _ q0) (by omega) (Nat.le_of_ble_eq_true rfl) (Nat.zero_le _) (Nat.zero_le _) ?_
  refine f_if_eq (tgt := 21) dX12_batchContains_6 (by decide) (fun c_6 => ?_) (fun c_6 => ?_)
  · refine f_iconst (v := 1) dX12_batchContains_21 rfl ?_
    refine f_cV hG (As := [_]) dX12_batchContains_22 rfl k_X12_fails rfl rfl ml_X12_63 im_X12_fails se_X12_fails rfl rfl (c_X12_fails hG (d := 0) (Nat.le_refl _) _ _ _) (by omega) (Nat.le_of_ble_eq_true rfl) (Nat.zero_le _) (Nat.zero_le _) ?_
    refine f_if_ne (tgt := 46) dX12_batchContains_25 (by decide) (fun c_25 => ?_) (fun c_25 => ?_)
    · refine f_iconst (v := 0) dX12_batchContains_46 rfl ?_
      refine f_ireturn dX12_batchContains_47 rfl rfl ?_
      exact ⟨by rw [r_X12_batchContains, if_pos c_6, if_neg c_25], by rw [m_X12_batchContains, if_pos c_6, if_neg c_25]⟩
    · refine f_aload_n dX12_batchContains_28 rfl rfl ?_
      refine f_iload_n dX12_batchContains_29 rfl rfl ?_
      refine f_iconst (v := 1) dX12_batchContains_30 rfl ?_
      refine f_cV hG (As := [_, _]) dX12_batchContains_31 rfl k_X12_of rfl rfl ml_X12_77 im_X12_of se_X12_of rfl rfl (c_X12_of hG (d := 0) (Nat.le_refl _) _ _ _ _ (q1 c_6 c_25)) (by omega) (Nat.le_of_ble_eq_true rfl) (Nat.zero_le _) (Nat.zero_le _) ?_
      refine f_iload_n dX12_batchContains_34 rfl rfl ?_
      refine f_ishr dX12_batchContains_35 ?_
      refine f_iconst (v := 1) dX12_batchContains_36 rfl ?_
      refine f_iand dX12_batchContains_37 ?_
      refine f_iconst (v := 1) dX12_batchContains_38 rfl ?_
      refine f_icmp_ne (tgt := 46) dX12_batchContains_39 (by decide) (fun c_39 => ?_) (fun c_39 => ?_)
      · refine f_iconst (v := 0) dX12_batchContains_46 rfl ?_
        refine f_ireturn dX12_batchContains_47 rfl rfl ?_
        exact ⟨by rw [r_X12_batchContains, if_pos c_6, if_pos c_25, if_neg c_39], by rw [m_X12_batchContains, if_pos c_6, if_pos c_25, if_neg c_39]⟩
      · refine f_iconst (v := 1) dX12_batchContains_42 rfl ?_
        refine f_goto (tgt := 47) dX12_batchContains_43 (by decide) ?_
        refine f_ireturn dX12_batchContains_47 rfl rfl ?_
        exact ⟨by rw [r_X12_batchContains, if_pos c_6, if_pos c_25, if_pos c_39], by rw [m_X12_batchContains, if_pos c_6, if_pos c_25, if_pos c_39]⟩
  · refine f_aload_n dX12_batchContains_9 rfl rfl ?_
    refine f_iload_n dX12_batchContains_10 rfl rfl ?_
    refine f_cV hG (As := [_]) dX12_batchContains_11 rfl k_X12_isRaw rfl rfl ml_X12_71 im_X12_isRaw se_X12_isRaw rfl rfl (c_X12_isRaw hG (d := 1) (Nat.le_refl _) _ _ _ (q2 c_6)) (by omega) (Nat.le_of_ble_eq_true rfl) (Nat.zero_le _) (Nat.zero_le _) ?_
    refine f_if_eq (tgt := 21) dX12_batchContains_14 (by decide) (fun c_14 => ?_) (fun c_14 => ?_)
    · refine f_iconst (v := 1) dX12_batchContains_21 rfl ?_
      refine f_cV hG (As := [_]) dX12_batchContains_22 rfl k_X12_fails rfl rfl ml_X12_63 im_X12_fails se_X12_fails rfl rfl (c_X12_fails hG (d := 0) (Nat.le_refl _) _ _ _) (by omega) (Nat.le_of_ble_eq_true rfl) (Nat.zero_le _) (Nat.zero_le _) ?_
      refine f_if_ne (tgt := 46) dX12_batchContains_25 (by decide) (fun c_25 => ?_) (fun c_25 => ?_)
      · refine f_iconst (v := 0) dX12_batchContains_46 rfl ?_
        refine f_ireturn dX12_batchContains_47 rfl rfl ?_
        exact ⟨by rw [r_X12_batchContains, if_neg c_6, if_pos c_14, if_neg c_25], by rw [m_X12_batchContains, if_neg c_6, if_pos c_14, if_neg c_25]⟩
      · refine f_aload_n dX12_batchContains_28 rfl rfl ?_
        refine f_iload_n dX12_batchContains_29 rfl rfl ?_
        refine f_iconst (v := 1) dX12_batchContains_30 rfl ?_
        refine f_cV hG (As := [_, _]) dX12_batchContains_31 rfl k_X12_of rfl rfl ml_X12_77 im_X12_of se_X12_of rfl rfl (c_X12_of hG (d := 0) (Nat.le_refl _) _ _ _ _ (q3 c_6 c_14 c_25)) (by omega) (Nat.le_of_ble_eq_true rfl) (Nat.zero_le _) (Nat.zero_le _) ?_
        refine f_iload_n dX12_batchContains_34 rfl rfl ?_
        refine f_ishr dX12_batchContains_35 ?_
        refine f_iconst (v := 1) dX12_batchContains_36 rfl ?_
        refine f_iand dX12_batchContains_37 ?_
        refine f_iconst (v := 1) dX12_batchContains_38 rfl ?_
        refine f_icmp_ne (tgt := 46) dX12_batchContains_39 (by decide) (fun c_39 => ?_) (fun c_39 => ?_)
        · refine f_iconst (v := 0) dX12_batchContains_46 rfl ?_
          refine f_ireturn dX12_batchContains_47 rfl rfl ?_
          exact ⟨by rw [r_X12_batchContains, if_neg c_6, if_pos c_14, if_pos c_25, if_neg c_39], by rw [m_X12_batchContains, if_neg c_6, if_pos c_14, if_pos c_25, if_neg c_39]⟩
        · refine f_iconst (v := 1) dX12_batchContains_42 rfl ?_
          refine f_goto (tgt := 47) dX12_batchContains_43 (by decide) ?_
          refine f_ireturn dX12_batchContains_47 rfl rfl ?_
          exact ⟨by rw [r_X12_batchContains, if_neg c_6, if_pos c_14, if_pos c_25, if_pos c_39], by rw [m_X12_batchContains, if_neg c_6, if_pos c_14, if_pos c_25, if_pos c_39]⟩
    · refine f_iconst (v := 0) dX12_batchContains_17 rfl ?_
      refine f_goto (tgt := 22) dX12_batchContains_18 (by decide) ?_
      refine f_cV hG (As := [_]) dX12_batchContains_22 rfl k_X12_fails rfl rfl ml_X12_63 im_X12_fails se_X12_fails rfl rfl (c_X12_fails hG (d := 0) (Nat.le_refl _) _ _ _) (by omega) (Nat.le_of_ble_eq_true rfl) (Nat.zero_le _) (Nat.zero_le _) ?_
      refine f_if_ne (tgt := 46) dX12_batchContains_25 (by decide) (fun c_25 => ?_) (fun c_25 => ?_)
      · refine f_iconst (v := 0) dX12_batchContains_46 rfl ?_
        refine f_ireturn dX12_batchContains_47 rfl rfl ?_
        exact ⟨by rw [r_X12_batchContains, if_neg c_6, if_neg c_14, if_neg c_25], by rw [m_X12_batchContains, if_neg c_6, if_neg c_14, if_neg c_25]⟩
      · refine f_aload_n dX12_batchContains_28 rfl rfl ?_
        refine f_iload_n dX12_batchContains_29 rfl rfl ?_
        refine f_iconst (v := 1) dX12_batchContains_30 rfl ?_
        refine f_cV hG (As := [_, _]) dX12_batchContains_31 rfl k_X12_of rfl rfl ml_X12_77 im_X12_of se_X12_of rfl rfl (c_X12_of hG (d := 0) (Nat.le_refl _) _ _ _ _ (q4 c_6 c_14 c_25)) (by omega) (Nat.le_of_ble_eq_true rfl) (Nat.zero_le _) (Nat.zero_le _) ?_
        refine f_iload_n dX12_batchContains_34 rfl rfl ?_
        refine f_ishr dX12_batchContains_35 ?_
        refine f_iconst (v := 1) dX12_batchContains_36 rfl ?_
        refine f_iand dX12_batchContains_37 ?_
        refine f_iconst (v := 1) dX12_batchContains_38 rfl ?_
        refine f_icmp_ne (tgt := 46) dX12_batchContains_39 (by decide) (fun c_39 => ?_) (fun c_39 => ?_)
        · refine f_iconst (v := 0) dX12_batchContains_46 rfl ?_
          refine f_ireturn dX12_batchContains_47 rfl rfl ?_
          exact ⟨by rw [r_X12_batchContains, if_neg c_6, if_neg c_14, if_pos c_25, if_neg c_39], by rw [m_X12_batchContains, if_neg c_6, if_neg c_14, if_pos c_25, if_neg c_39]⟩
        · refine f_iconst (v := 1) dX12_batchContains_42 rfl ?_
          refine f_goto (tgt := 47) dX12_batchContains_43 (by decide) ?_
          refine f_ireturn dX12_batchContains_47 rfl rfl ?_
          exact ⟨by rw [r_X12_batchContains, if_neg c_6, if_neg c_14, if_pos c_25, if_pos c_39], by rw [m_X12_batchContains, if_neg c_6, if_neg c_14, if_pos c_25, if_pos c_39]⟩

def r_X12_isLabel (M : fM) (a : Int32) : Int32 := (r_X12_in M a (0 : Int32) ((M 297 ((2 : Int32)).toNatClampNeg) - (1 : Int32)))
theorem n_X12_isLabel (M : fM) (a : Int32) : narrow .boolean (.int (r_X12_isLabel M a)) = .int (r_X12_isLabel M a) := by
  unfold r_X12_isLabel
  repeat' with_reducible apply n_ite
  all_goals first | with_reducible exact n_X12_in .. | rfl | exact pk_nc _
set_option maxRecDepth 100000 in
set_option maxHeartbeats 4000000 in
theorem c_X12_isLabel {G : fG} (hG : fOK G) {d : Nat} (hd : 1 ≤ d) (M : fM) (dv : UInt64) (a : Int32) (q0 : vp_in (2 : Int32) 127) : fCt G z_X12_isLabel d [.ref 296, .int a] (sS M dv) 0 0 (fD (some (.int (r_X12_isLabel M a))) (sS M dv)) := by
  refine fCt_to [some (.ref 296), some (.int a)] k_X12_isLabel rfl (Nat.le_of_ble_eq_true rfl) rfl ?_
  refine f_iload_n dX12_isLabel_0 rfl rfl ?_
  refine f_iconst (v := 0) dX12_isLabel_1 rfl ?_
  refine f_aload_n dX12_isLabel_2 rfl rfl ?_
  refine s_getr hG fl_X12_7 dX12_isLabel_3 rfl rfl ?_
  refine f_iconst (v := 2) dX12_isLabel_6 rfl ?_
  refine s_iaload hG dX12_isLabel_7 rfl (q0) ?_
  refine f_iconst (v := 1) dX12_isLabel_8 rfl ?_
  refine f_isub dX12_isLabel_9 ?_
  refine f_cS hG (As := [_, _, _]) dX12_isLabel_10 rfl k_X12_in rfl rfl ml_X12_59 sm_X12_in (c_X12_in hG (d := 0) (Nat.le_refl _) _ _ _ _ _) (by omega) (Nat.le_of_ble_eq_true rfl) (Nat.zero_le _) (Nat.zero_le _) ?_
  refine f_ireturn dX12_isLabel_13 rfl (n_X12_in ..) ?_
  exact ⟨by rw [r_X12_isLabel], rfl⟩

def r_X12_sign (M : fM) (a : Int32) (b : Int32) : Int32 := (M 297 ((((23 : Int32) + ((7 : Int32) * a)) + b)).toNatClampNeg)
set_option maxRecDepth 100000 in
set_option maxHeartbeats 4000000 in
theorem c_X12_sign {G : fG} (hG : fOK G) {d : Nat} (hd : 0 ≤ d) (M : fM) (dv : UInt64) (a : Int32) (b : Int32) (q0 : vp_in (((23 : Int32) + ((7 : Int32) * a)) + b) 127) : fCt G z_X12_sign d [.ref 296, .int a, .int b] (sS M dv) 0 0 (fD (some (.int (r_X12_sign M a b))) (sS M dv)) := by
  refine fCt_to [some (.ref 296), some (.int a), some (.int b)] k_X12_sign rfl (Nat.le_of_ble_eq_true rfl) rfl ?_
  refine f_aload_n dX12_sign_0 rfl rfl ?_
  refine s_getr hG fl_X12_7 dX12_sign_1 rfl rfl ?_
  refine f_bipush (v := 23) dX12_sign_4 (by decide) ?_
  refine f_bipush (v := 7) dX12_sign_6 (by decide) ?_
  refine f_iload_n dX12_sign_8 rfl rfl ?_
  refine f_imul dX12_sign_9 ?_
  refine f_iadd dX12_sign_10 ?_
  refine f_iload_n dX12_sign_11 rfl rfl ?_
  refine f_iadd dX12_sign_12 ?_
  refine s_iaload hG dX12_sign_13 rfl (q0) ?_
  refine f_ireturn dX12_sign_14 rfl rfl ?_
  exact ⟨by rw [r_X12_sign], rfl⟩

def l_X12_isWritten (a : Int32) (M : fM) : Nat → Nat → Int32
  | 0, _ => 0
  | m + 1, j => (if (M 296 9) ≤ (nI j) then (r_X12_in M (M 296 9) (1 : Int32) a) else (if (r_X12_in M (M 301 ((nI j)).toNatClampNeg) (97 : Int32) (104 : Int32)) = 0 then (0 : Int32) else (l_X12_isWritten a M m (j + 1))))
set_option maxRecDepth 100000 in
set_option maxHeartbeats 4000000 in
theorem lp_X12_isWritten {G : fG} (hG : fOK G) {d : Nat} (hd : 1 ≤ d) (M : fM) (dv : UInt64) (a : Int32) (q0 : ∀ (j : Nat), j ≤ 300 → ¬ ((M 296 9) ≤ (nI j)) → j < 300) (q1 : ∀ (j : Nat), j ≤ 300 → ¬ ((M 296 9) ≤ (nI j)) → vp_in (nI j) 60) : ∀ (m j : Nat), j ≤ 300 → 300 + 1 ≤ j + m → fV G z_X12_isWritten d (fD (some (.int (l_X12_isWritten a M m j))) (sS M dv)) 2 [some (.ref 296), some (.int a), some (.int (nI j))] [] (sS M dv) 0 0 := by
  intro m
  induction m with
  | zero => intros; omega
  | succ m ih =>
    intro j hj hm
    refine f_iload_n dX12_isWritten_2 rfl rfl ?_
    refine f_aload_n dX12_isWritten_3 rfl rfl ?_
    refine s_geti hG fl_X12_81 dX12_isWritten_4 rfl rfl ?_
    refine f_icmp_ge (tgt := 34) dX12_isWritten_7 (by decide) (fun c_7 => ?_) (fun c_7 => ?_)
    · refine f_aload_n dX12_isWritten_34 rfl rfl ?_
      refine s_geti hG fl_X12_81 dX12_isWritten_35 rfl rfl ?_
      refine f_iconst (v := 1) dX12_isWritten_38 rfl ?_
      refine f_iload_n dX12_isWritten_39 rfl rfl ?_
      refine f_cS hG (As := [_, _, _]) dX12_isWritten_40 rfl k_X12_in rfl rfl ml_X12_59 sm_X12_in (c_X12_in hG (d := 0) (Nat.le_refl _) _ _ _ _ _) (by omega) (Nat.le_of_ble_eq_true rfl) (Nat.zero_le _) (Nat.zero_le _) ?_
      refine f_ireturn dX12_isWritten_43 rfl (n_X12_in ..) ?_
      exact ⟨by rw [l_X12_isWritten, if_pos c_7], rfl⟩
    · have hlt : j < 300 := (q0 j hj c_7)
      refine f_aload_n dX12_isWritten_10 rfl rfl ?_
      refine s_getr hG fl_X12_22 dX12_isWritten_11 rfl rfl ?_
      refine f_iload_n dX12_isWritten_14 rfl rfl ?_
      refine s_iaload hG dX12_isWritten_15 rfl ((q1 j hj c_7)) ?_
      refine f_bipush (v := 97) dX12_isWritten_16 (by decide) ?_
      refine f_bipush (v := 104) dX12_isWritten_18 (by decide) ?_
      refine f_cS hG (As := [_, _, _]) dX12_isWritten_20 rfl k_X12_in rfl rfl ml_X12_59 sm_X12_in (c_X12_in hG (d := 0) (Nat.le_refl _) _ _ _ _ _) (by omega) (Nat.le_of_ble_eq_true rfl) (Nat.zero_le _) (Nat.zero_le _) ?_
      refine f_if_ne (tgt := 28) dX12_isWritten_23 (by decide) (fun c_23 => ?_) (fun c_23 => ?_)
      · refine f_iinc (v := nI (j + 1)) (ls' := [_, _, _]) dX12_isWritten_28 rfl (nI_1 j) (Nat.le_of_ble_eq_true rfl) rfl rfl ?_
        refine f_goto (tgt := 2) dX12_isWritten_31 (by decide) ?_
        have e9 : l_X12_isWritten a M (m + 1) j = l_X12_isWritten a M m (j + 1) := by rw [l_X12_isWritten, if_neg c_7, if_neg c_23]
        rw [e9]
        exact ih (j + 1) (by omega) (by omega)
      · refine f_iconst (v := 0) dX12_isWritten_26 rfl ?_
        refine f_ireturn dX12_isWritten_27 rfl rfl ?_
        exact ⟨by rw [l_X12_isWritten, if_neg c_7, if_pos c_23], rfl⟩
def r_X12_isWritten (M : fM) (a : Int32) : Int32 := (l_X12_isWritten a M 301 0)
theorem n_l_X12_isWritten (a : Int32) : ∀ (m j : Nat) (M : fM), narrow .boolean (.int (l_X12_isWritten a M m j)) = .int (l_X12_isWritten a M m j) := by
  intro m
  induction m with
  | zero => intros; unfold l_X12_isWritten; first | rfl | (dsimp only; rfl)
  | succ m ih =>
    intro j M
    unfold l_X12_isWritten
    repeat' split
    all_goals (try dsimp only)
    all_goals first | rfl | exact pk_nc _ | exact ih _ _ .. | exact n_X12_in ..
theorem n_X12_isWritten (M : fM) (a : Int32) : narrow .boolean (.int (r_X12_isWritten M a)) = .int (r_X12_isWritten M a) := n_l_X12_isWritten ..
set_option maxRecDepth 100000 in
set_option maxHeartbeats 4000000 in
theorem c_X12_isWritten {G : fG} (hG : fOK G) {d : Nat} (hd : 1 ≤ d) (M : fM) (dv : UInt64) (a : Int32) (q0 : ∀ (j : Nat), j ≤ 300 → ¬ ((M 296 9) ≤ (nI j)) → j < 300) (q1 : ∀ (j : Nat), j ≤ 300 → ¬ ((M 296 9) ≤ (nI j)) → vp_in (nI j) 60) : fCt G z_X12_isWritten d [.ref 296, .int a] (sS M dv) 0 0 (fD (some (.int (r_X12_isWritten M a))) (sS M dv)) := by
  refine fCt_to [some (.ref 296), some (.int a), none] k_X12_isWritten rfl (Nat.le_of_ble_eq_true rfl) rfl ?_
  refine f_iconst (v := 0) dX12_isWritten_0 rfl ?_
  refine f_istore_n (ls' := [_, _, _]) dX12_isWritten_1 rfl (Nat.le_of_ble_eq_true rfl) rfl rfl ?_
  exact lp_X12_isWritten hG hd _ dv a q0 q1 301 0 (by omega) (by omega)
