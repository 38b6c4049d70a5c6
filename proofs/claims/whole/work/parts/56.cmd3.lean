/-! ===== the other commands ===== -/
def fc (k : Nat) : Int32 := match k with | 0 => 114 | 1 => 109 | 2 => 102 | 3 => 115 | 4 => 100 | _ => 114
section CMD3
variable {T i j : Nat} {s : Nat → Int32} {M W : fM}
theorem P_no {k : Nat} (hk : k < 6) (h : ¬ (i < T ∧ s i = fc k)) : pfx T s (fsb (4096 + k)) i = 0 := by
  obtain ⟨g0, g1, g2, g3, g4, g5⟩ := fsb_c
  have : k = 0 ∨ k = 1 ∨ k = 2 ∨ k = 3 ∨ k = 4 ∨ k = 5 := by omega
  rcases this with rfl | rfl | rfl | rfl | rfl | rfl
  · rw [g0, pfx]; exact if_neg h
  · rw [g1, pfx]; exact if_neg h
  · rw [g2, pfx]; exact if_neg h
  · rw [g3, pfx]; exact if_neg h
  · rw [g4, pfx]; exact if_neg h
  · rw [g5, pfx]; exact if_neg h
theorem fc_ne0 : ∀ k, k < 6 → ∀ k', k' < 6 → (k = k' ∨ fc k ≠ fc k' ∨ (k = 0 ∧ k' = 5) ∨ (k = 5 ∧ k' = 0)) := by decide +kernel
theorem fc_ne (k : Nat) (hk : k < 6) (k' : Nat) (hk' : k' < 6) (h : k ≠ k') (he : fc k = fc k') : (k = 0 ∧ k' = 5) ∨ (k = 5 ∧ k' = 0) := by
  rcases fc_ne0 k hk k' hk' with q | q | q
  · exact absurd q h
  · exact absurd he q
  · exact q
/-- one first letter of one command only -/
theorem kone1 (h : RD T s M i j) (ht : okT T s) {k0 : Nat} (hk : k0 < 6) (hk0 : k0 ≠ 0) (hk5 : k0 ≠ 5) (hc : i < T ∧ s i = fc k0) : (pfx T s (fsb (4096 + k0)) i = (fsb (4096 + k0)).length ∧ r_X1_readKind M = nI k0 ∧ m_X1_readKind M = fst1 M 276 5 (nI (i + (fsb (4096 + k0)).length))) ∨ (pfx T s (fsb (4096 + k0)) i ≠ (fsb (4096 + k0)).length ∧ r_X1_readKind M = -1 ∧ m_X1_readKind M = fst1 M 276 5 (nI (i + pfx T s (fsb (4096 + k0)) i))) := by
  refine kone h ht hk fun k h1 h2 => ?_
  have h3 := fsb_l0 k h1
  rw [P_no h1 (fun q => by
    have := fc_ne k h1 k0 hk h2 (q.2.symm.trans hc.2)
    omega)]
  exact ⟨by omega, Nat.zero_le _⟩
/-- the word is broken off -/
theorem CR_cut (h : RD T s M i j) (hj : j < 20) {p : Nat} (hp : p ≤ T) (hr : r_X1_readKind M = -1) (hm : m_X1_readKind M = fst1 M 276 5 (nI p)) {V : fM} {i' b : Nat} {v : Int32} (hV : RM T s V i' j) (hF : FM W V) {rW : Int32} {mW : fM} (hrW : rW = 0) (hmW : mW = fst1 (fst1 V 305 b v) 296 16 (nI p)) : CR T s M W i j (r_X1_readCommand M) (m_X1_readCommand M) rW mW := by
  subst hmW
  exact CR_bad h hj _ rfl hp hr hm (hV.wr.mv hp) ((hF.tr FM.wr).tr FM.mv) hrW
theorem CR_s (h : RD T s M i j) (hW : RM T s W i j) (ht : okT T s) (hj : j < 20) (hc : i < T ∧ s i = 115) : CR T s M W i j (r_X1_readCommand M) (m_X1_readCommand M) (r_X12_commandHere W) (m_X12_commandHere W) := by
  obtain ⟨g0, g1, g2, g3, g4, g5⟩ := fsb_c
  obtain ⟨⟨l6, l7, l8⟩, l9, l10, l11⟩ := fsb_l
  have P1 : pfx T s (fsb (4096 + 3)) i = pfx T s (fsb (4096 + 8)) (i + 1) + 1 := by rw [g3, pfx, if_pos hc]
  have kk := kone1 h ht (k0 := 3) (by decide) (by decide) (by decide) hc
  have hx : ∀ x : Int32, x ≠ 115 → ¬ (i < T ∧ s i = x) := fun x hx q => hx (q.2.symm.trans hc.2)
  obtain ⟨t1, t2⟩ := sk_no hW ht (c := 109) (by decide) (hx _ (by decide))
  obtain ⟨t3, t4⟩ := sk_no hW ht (c := 102) (by decide) (hx _ (by decide))
  obtain ⟨s1, s2⟩ := sk_yes hW ht (c := 115) (by decide) hc
  have hS1 := hW.mv (p := i + 1) hc.1
  obtain ⟨w1, w2⟩ := hS1.word ht 3 (k := 8) (by decide) (by omega)
  rw [show 4096 + 8 = 4104 from rfl] at w1 w2 l8 P1
  have hpT := pfx_T (T := T) (s := s) (fsb 4104) (i + 1) hc.1
  have l1 : (fsb (4096 + 3)).length = 4 := by rw [g3]; show (fsb (4096 + 8)).length + 1 = 4; rw [show 4096 + 8 = 4104 from rfl, l8]
  rw [l1, P1] at kk
  rw [l8] at w1
  rcases kk with ⟨k1, k2, k3⟩ | ⟨k1, k2, k3⟩
  · have e2 : pfx T s (fsb 4104) (i + 1) = 3 := by omega
    rw [e2] at w1 w2 hpT
    rw [if_pos rfl] at w1
    have hK := KS_mk (K := 3) (p := i + 4) h hpT (by omega) hS1 FM.mv FMv
    have hZ := c_KS h hj hpT k2 k3
    have w2 : m_X12_isWord (fst1 W 296 16 (nI (i + 1))) 3 4104 = fst1 (fst1 (fst1 W 296 16 (nI (i + 1))) 305 (5 * j) (nI 3)) 296 16 (nI (i + 4)) := by
      rw [w2, show i + 1 + 3 = i + 4 by omega]; rfl
    have eC : r_X1_readCommand M = r_X1_readNumber (fst1 (fst1 M 276 5 (nI (i + 4))) 281 j (nI 3)) (nI 0) ∧ m_X1_readCommand M = m_X1_readNumber (fst1 (fst1 M 276 5 (nI (i + 4))) 281 j (nI 3)) (nI 0) := by
      rw [r_X1_readCommand, m_X1_readCommand, hZ, k2]
      rw [if_neg (by decide), if_neg (by decide), if_neg (by decide), if_pos (show nI 3 = (3 : Int32) from rfl), if_neg (by decide), if_neg (by decide), if_neg (by decide), if_pos (show nI 3 = (3 : Int32) from rfl)]
      exact ⟨rfl, rfl⟩
    have eW : (r_X12_commandHere W = if r_X12_figures (fst1 (fst1 (fst1 W 296 16 (nI (i + 1))) 305 (5 * j) (nI 3)) 296 16 (nI (i + 4))) (nI (5 * j + 1)) (nI 2) = 0 then 0 else 1) ∧ m_X12_commandHere W = m_X12_figures (fst1 (fst1 (fst1 W 296 16 (nI (i + 1))) 305 (5 * j) (nI 3)) 296 16 (nI (i + 4))) (nI (5 * j + 1)) (nI 2) := by
      rw [r_X12_commandHere, m_X12_commandHere, a3_X12_commandHere, t1, t2, t3, t4, s1, s2, w1, w2, PLe hW]
      rw [if_pos rfl, if_pos rfl, if_neg z_n1, if_neg z_n1, if_pos rfl, if_pos rfl, if_neg z_n1, if_neg z_n1, ite_self]
      exact ⟨rfl, rfl⟩
    rw [eC.1, eC.2, eW.1, eW.2]
    have f := both2 (a := 0) (pl := 5 * j + 1) hK.1.1 hK.1.2.1 ht hj (by decide) (by omega)
    refine CR_1 (K := 3) (by decide) rfl hK FM.rf (fun _ _ => rfl) ?_
    obtain ⟨p, f1, f2, f3, f4, f5⟩ := f
    refine ⟨p, f1, f2, f3, f4, ?_⟩
    rcases f5 with ⟨e1, e2⟩ | ⟨e1, e2, e3⟩
    · exact Or.inl ⟨e1, by rw [e2, if_pos rfl]⟩
    · exact Or.inr ⟨e1, by rw [e2, if_neg z_n1], e3⟩
  · have hne : ¬ pfx T s (fsb 4104) (i + 1) = 3 := by omega
    rw [if_neg hne] at w1
    refine CR_cut h hj (p := i + 1 + pfx T s (fsb 4104) (i + 1)) hpT k2 (by rw [k3, show i + (pfx T s (fsb 4104) (i + 1) + 1) = i + 1 + pfx T s (fsb 4104) (i + 1) by omega]) hS1 FM.mv ?_ (mW := m_X12_commandHere W) (b := 5 * j) (v := 3) ?_
    · rw [r_X12_commandHere, t1, t2, t3, t4, s1, s2, if_pos rfl, if_pos rfl, if_neg z_n1, w1, if_pos rfl]
    · rw [m_X12_commandHere, a3_X12_commandHere, t1, t2, t3, t4, s1, s2, if_pos rfl, if_pos rfl, if_neg z_n1, w1, if_pos rfl, w2]
theorem CR_d (h : RD T s M i j) (hW : RM T s W i j) (ht : okT T s) (hj : j < 20) (hc : i < T ∧ s i = 100) : CR T s M W i j (r_X1_readCommand M) (m_X1_readCommand M) (r_X12_commandHere W) (m_X12_commandHere W) := by
  obtain ⟨g0, g1, g2, g3, g4, g5⟩ := fsb_c
  obtain ⟨⟨l6, l7, l8⟩, l9, l10, l11⟩ := fsb_l
  have P1 : pfx T s (fsb (4096 + 4)) i = pfx T s (fsb (4096 + 11)) (i + 1) + 1 := by rw [g4, pfx, if_pos hc]
  have kk := kone1 h ht (k0 := 4) (by decide) (by decide) (by decide) hc
  have hx : ∀ x : Int32, x ≠ 100 → ¬ (i < T ∧ s i = x) := fun x hx q => hx (q.2.symm.trans hc.2)
  obtain ⟨t1, t2⟩ := sk_no hW ht (c := 109) (by decide) (hx _ (by decide))
  obtain ⟨t3, t4⟩ := sk_no hW ht (c := 102) (by decide) (hx _ (by decide))
  obtain ⟨t5, t6⟩ := sk_no hW ht (c := 115) (by decide) (hx _ (by decide))
  obtain ⟨t7, t8⟩ := sk_no hW ht (c := 114) (by decide) (hx _ (by decide))
  obtain ⟨s1, s2⟩ := sk_yes hW ht (c := 100) (by decide) hc
  have e0 : a0_X12_commandHere W = W := by rw [a0_X12_commandHere, t2, t4, t6, t8]
  have hS1 := hW.mv (p := i + 1) hc.1
  obtain ⟨w1, w2⟩ := hS1.word ht 4 (k := 11) (by decide) (by omega)
  rw [show 4096 + 11 = 4107 from rfl] at w1 w2 l11 P1
  have hpT := pfx_T (T := T) (s := s) (fsb 4107) (i + 1) hc.1
  have l1 : (fsb (4096 + 4)).length = 3 := by rw [g4]; show (fsb (4096 + 11)).length + 1 = 3; rw [show 4096 + 11 = 4107 from rfl, l11]
  rw [l1, P1] at kk
  rw [l11] at w1
  rcases kk with ⟨k1, k2, k3⟩ | ⟨k1, k2, k3⟩
  · have e2 : pfx T s (fsb 4107) (i + 1) = 2 := by omega
    rw [e2] at w1 w2 hpT
    rw [if_pos rfl] at w1
    have hK := KS_mk (K := 4) (p := i + 3) h hpT (by omega) hS1 FM.mv FMv
    have hZ := c_KS h hj hpT k2 k3
    have w2 : m_X12_isWord (fst1 W 296 16 (nI (i + 1))) 4 4107 = fst1 (fst1 (fst1 W 296 16 (nI (i + 1))) 305 (5 * j) (nI 4)) 296 16 (nI (i + 3)) := by
      rw [w2, show i + 1 + 2 = i + 3 by omega]; rfl
    have eC : r_X1_readCommand M = r_X1_readDays (fst1 (fst1 M 276 5 (nI (i + 3))) 281 j (nI 4)) ∧ m_X1_readCommand M = m_X1_readDays (fst1 (fst1 M 276 5 (nI (i + 3))) 281 j (nI 4)) := by
      rw [r_X1_readCommand, m_X1_readCommand, hZ, k2]
      rw [if_neg (by decide), if_neg (by decide), if_neg (by decide), if_neg (by decide), if_pos (show nI 4 = (4 : Int32) from rfl), if_neg (by decide), if_neg (by decide), if_neg (by decide), if_neg (by decide), if_pos (show nI 4 = (4 : Int32) from rfl)]
      exact ⟨rfl, rfl⟩
    have ea1 : a1_X12_commandHere W = fst1 (fst1 (fst1 (fst1 W 296 16 (nI (i + 1))) 305 (5 * j) (nI 4)) 296 16 (nI (i + 3))) 305 (5 * j + 1) 1 := by
      rw [a1_X12_commandHere, e0, s2, w2, PLe hW, nI_clamp (by omega)]
    have eW : (r_X12_commandHere W = if r_X12_here (a1_X12_commandHere W) = 32 then (if r_X12_figures (a1_X12_commandHere W) (nI (5 * j + 1)) (nI 2) = 0 then 0 else 1) else 1) ∧ m_X12_commandHere W = if r_X12_here (a1_X12_commandHere W) = 32 then m_X12_figures (a1_X12_commandHere W) (nI (5 * j + 1)) (nI 2) else a1_X12_commandHere W := by
      rw [r_X12_commandHere, m_X12_commandHere, t1, t2, t3, t4, t5, t6, t7, e0, s1, s2, w1, PLe hW]
      rw [if_pos rfl, if_pos rfl, if_pos rfl, if_pos rfl, if_neg z_n1, if_neg z_n1, if_pos rfl, if_pos rfl, if_pos rfl, if_pos rfl, if_neg z_n1, if_neg z_n1, ite_self]
      exact ⟨rfl, rfl⟩
    rw [eC.1, eC.2, eW.1, eW.2, ea1, r_X1_readDays, m_X1_readDays]
    generalize hZZ : fst1 (fst1 M 276 5 (nI (i + 3))) 281 j (nI 4) = Z at hK
    generalize fst1 (fst1 (fst1 W 296 16 (nI (i + 1))) 305 (5 * j) (nI 4)) 296 16 (nI (i + 3)) = Y at hK
    have hZr := hK.1.1
    have hYr := hK.1.2.1
    have hY1 : RM T s (fst1 Y 305 (5 * j + 1) 1) (i + 3) j := hYr.wr
    have hT := ht.1
    rw [hZr.1.1]
    by_cases h32 : i + 3 < T ∧ s (i + 3) = 32
    · rw [if_pos ((hZr.has ht (by omega) (by decide)).mpr h32), if_pos ((hZr.has ht (by omega) (by decide)).mpr h32), if_pos ((hY1.has ht (by decide)).mpr h32), if_pos ((hY1.has ht (by decide)).mpr h32)]
      have f := both2 (a := 0) (pl := 5 * j + 1) hZr hY1 ht hj (by decide) (by omega)
      refine CR_1 (K := 4) (by decide) rfl hK (FM.wr (b := 5 * j + 1) (x := 1)) (fun b hb => by rw [row_up, up_ne hb]) ?_
      obtain ⟨p, f1, f2, f3, f4, f5⟩ := f
      refine ⟨p, f1, f2, f3, f4, ?_⟩
      rcases f5 with ⟨e1, e2⟩ | ⟨e1, e2, e3⟩
      · exact Or.inl ⟨e1, by rw [e2, if_pos rfl]⟩
      · exact Or.inr ⟨e1, by rw [e2, if_neg z_n1], e3⟩
    · rw [if_neg (fun q => h32 ((hZr.has ht (by omega) (by decide)).mp q)), if_neg (fun q => h32 ((hZr.has ht (by omega) (by decide)).mp q)), if_neg (fun q => h32 ((hY1.has ht (by decide)).mp q)), if_neg (fun q => h32 ((hY1.has ht (by decide)).mp q))]
      have ek : m_X1_keepArgument Z 0 1 = fst1 Z 283 (4 * j + 0) 1 := by
        rw [m_X1_keepArgument, hZr.2.1, show nI j * (4 : Int32) + 0 = nI (j * 4 + 0) by rw [show (4 : Int32) = nI 4 from rfl, pk_mul, show (0 : Int32) = nI 0 from rfl, nI_add], show j * 4 + 0 = 4 * j + 0 by omega, rset_in (by omega) (by decide)]
      rw [ek]
      obtain ⟨⟨q1, q2, q3⟩, q4, q5, q6, q7, q8⟩ := hK
      refine ⟨i + 3, hZr.wr 283 (Or.inr rfl), hY1, q4.tr FC.wr, q5.tr FM.wr, Or.inr ⟨rfl, rfl, q3, 4, by decide, ?_, ?_, fun t htt => ?_, fun b hb => ?_, fun b hb => ?_, fun b hb => ?_⟩⟩
      · rw [fst1_ne (by decide), q6, up_at rfl]
      · rw [row_up, up_ne (by omega), q8, up_at rfl]
      · have htt : t < 1 := htt
        have h0 : t = 0 := by omega
        subst h0
        rw [row_up, row_up, up_at rfl, up_at rfl]
        exact ⟨sm_nI (n := 1) (by decide) (by decide), rfl⟩
      · rw [fst1_ne (by decide), q6, up_ne hb]
      · rw [row_up, up_ne (by omega), q7]
      · rw [row_up, up_ne (by omega), q8, up_ne (by omega)]
  · have hne : ¬ pfx T s (fsb 4107) (i + 1) = 2 := by omega
    rw [if_neg hne] at w1
    refine CR_cut h hj (p := i + 1 + pfx T s (fsb 4107) (i + 1)) hpT k2 (by rw [k3, show i + (pfx T s (fsb 4107) (i + 1) + 1) = i + 1 + pfx T s (fsb 4107) (i + 1) by omega]) hS1 FM.mv ?_ (mW := m_X12_commandHere W) (b := 5 * j) (v := 4) ?_
    · rw [r_X12_commandHere, t1, t2, t3, t4, t5, t6, t7, e0, s1, s2, if_pos rfl, if_pos rfl, if_pos rfl, if_pos rfl, if_neg z_n1, w1, if_pos rfl]
    · rw [m_X12_commandHere, t1, t2, t3, t4, t5, t6, t7, e0, s1, s2, if_pos rfl, if_pos rfl, if_pos rfl, if_pos rfl, if_neg z_n1, w1, if_pos rfl, w2]
theorem CR_no (h : RD T s M i j) (hW : RM T s W i j) (ht : okT T s) (hj : j < 20) (hc : ∀ k, k < 6 → ¬ (i < T ∧ s i = fc k)) : CR T s M W i j (r_X1_readCommand M) (m_X1_readCommand M) (r_X12_commandHere W) (m_X12_commandHere W) := by
  have kk := kone h ht (k0 := 0) (by decide) (fun k h1 h2 => by
    have h3 := fsb_l0 k h1
    rw [P_no h1 (hc k h1)]
    exact ⟨by omega, Nat.zero_le _⟩)
  rw [P_no (k := 0) (by decide) (hc 0 (by decide))] at kk
  obtain ⟨t1, t2⟩ := sk_no hW ht (c := 109) (by decide) (hc 1 (by decide))
  obtain ⟨t3, t4⟩ := sk_no hW ht (c := 102) (by decide) (hc 2 (by decide))
  obtain ⟨t5, t6⟩ := sk_no hW ht (c := 115) (by decide) (hc 3 (by decide))
  obtain ⟨t7, t8⟩ := sk_no hW ht (c := 114) (by decide) (hc 0 (by decide))
  obtain ⟨s1, s2⟩ := sk_no hW ht (c := 100) (by decide) (hc 4 (by decide))
  have e0 : a0_X12_commandHere W = W := by rw [a0_X12_commandHere, t2, t4, t6, t8]
  rcases kk with ⟨k1, -, -⟩ | ⟨k1, k2, k3⟩
  · have := fsb_l0 0 (by decide); omega
  · refine CR_bad h hj _ rfl (p := i) h.1.2 k2 k3 (mW := m_X12_commandHere W) ?_ ?_ ?_
    · rw [m_X12_commandHere, t1, t2, t3, t4, t5, t6, t7, e0, s1, s2, if_pos rfl, if_pos rfl, if_pos rfl, if_pos rfl, if_pos rfl]; exact hW
    · rw [m_X12_commandHere, t1, t2, t3, t4, t5, t6, t7, e0, s1, s2, if_pos rfl, if_pos rfl, if_pos rfl, if_pos rfl, if_pos rfl]; exact FM.rf
    · rw [r_X12_commandHere, t1, t2, t3, t4, t5, t6, t7, e0, s1, if_pos rfl, if_pos rfl, if_pos rfl, if_pos rfl, if_pos rfl]
end CMD3
