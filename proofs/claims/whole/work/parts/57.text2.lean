/-! ===== raw, recall, fill; a whole text ===== -/
section CMD4
variable {T i j : Nat} {s : Nat → Int32} {M W : fM}
theorem CR_ra (h : RD T s M i j) (hW : RM T s W i j) (ht : okT T s) (hj : j < 20) (hc : i < T ∧ s i = 114) (ha : i + 1 < T ∧ s (i + 1) = 97) : CR T s M W i j (r_X1_readCommand M) (m_X1_readCommand M) (r_X12_commandHere W) (m_X12_commandHere W) := by
  obtain ⟨g0, g1, g2, g3, g4, g5⟩ := fsb_c
  obtain ⟨L, gL⟩ := fsb_e
  obtain ⟨⟨l6, l7, l8⟩, l9, l10, l11⟩ := fsb_l
  have P0 : pfx T s (fsb (4096 + 0)) i = pfx T s (fsb (4096 + 9)) (i + 2) + 2 := by rw [g0, pfx, if_pos hc, pfx, if_pos ha]
  have P5 : pfx T s (fsb (4096 + 5)) i = 1 := by
    rw [g5, pfx, if_pos hc, gL, pfx, if_neg (fun q => absurd (q.2.symm.trans ha.2) (by decide))]
  have hx : ∀ x : Int32, x ≠ 114 → ¬ (i < T ∧ s i = x) := fun x hx q => hx (q.2.symm.trans hc.2)
  have l1 : (fsb (4096 + 0)).length = 3 := by rw [g0]; show (fsb (4096 + 9)).length + 1 + 1 = 3; rw [l9]
  have kk := kone h ht (k0 := 0) (by decide) (fun k h1 h2 => by
    have h3 := fsb_l0 k h1
    by_cases e : k = 5
    · subst e
      rw [P5, P0]
      exact ⟨by omega, by omega⟩
    · rw [P_no h1 (fun q => by
        have := fc_ne k h1 0 (by decide) h2 (q.2.symm.trans hc.2)
        omega)]
      exact ⟨by omega, Nat.zero_le _⟩)
  obtain ⟨t1, t2⟩ := sk_no hW ht (c := 109) (by decide) (hx _ (by decide))
  obtain ⟨t3, t4⟩ := sk_no hW ht (c := 102) (by decide) (hx _ (by decide))
  obtain ⟨t5, t6⟩ := sk_no hW ht (c := 115) (by decide) (hx _ (by decide))
  obtain ⟨s1, s2⟩ := sk_yes hW ht (c := 114) (by decide) hc
  have hS0 := hW.mv (p := i + 1) hc.1
  obtain ⟨s3, s4⟩ := sk_yes hS0 ht (c := 97) (by decide) ha
  have e0 : a0_X12_commandHere W = fst1 W 296 16 (nI (i + 1)) := by rw [a0_X12_commandHere, t2, t4, t6, s2]
  have hS1 : RM T s (fst1 (fst1 W 296 16 (nI (i + 1))) 296 16 (nI (i + 1 + 1))) (i + 2) j := hS0.mv (p := i + 2) ha.1
  obtain ⟨w1, w2⟩ := hS1.word ht 0 (k := 9) (by decide) (by omega)
  rw [show 4096 + 9 = 4105 from rfl] at w1 w2 l9 P0
  have hpT := pfx_T (T := T) (s := s) (fsb 4105) (i + 2) ha.1
  rw [l1, P0] at kk
  rw [l9] at w1
  have eW : r_X12_commandHere W = r_X12_isWord (fst1 (fst1 W 296 16 (nI (i + 1))) 296 16 (nI (i + 1 + 1))) 0 4105 ∧ m_X12_commandHere W = m_X12_isWord (fst1 (fst1 W 296 16 (nI (i + 1))) 296 16 (nI (i + 1 + 1))) 0 4105 := by
    rw [r_X12_commandHere, m_X12_commandHere, t1, t2, t3, t4, t5, t6, s1, e0, s3, s4, if_pos rfl, if_pos rfl, if_pos rfl, if_neg z_n1, if_neg z_n1, if_pos rfl, if_pos rfl, if_pos rfl, if_neg z_n1, if_neg z_n1]
    exact ⟨rfl, rfl⟩
  rcases kk with ⟨k1, k2, k3⟩ | ⟨k1, k2, k3⟩
  · have e2 : pfx T s (fsb 4105) (i + 2) = 1 := by omega
    rw [e2] at w1 w2 hpT
    rw [if_pos rfl] at w1
    have hK := KS_mk (K := 0) (p := i + 3) h hpT (by omega) hS1 (FM.mv.tr FM.mv) (by rw [FMv, FMv])
    have hZ := c_KS h hj hpT k2 k3
    have w2 : m_X12_isWord (fst1 (fst1 W 296 16 (nI (i + 1))) 296 16 (nI (i + 1 + 1))) 0 4105 = fst1 (fst1 (fst1 (fst1 W 296 16 (nI (i + 1))) 296 16 (nI (i + 1 + 1))) 305 (5 * j) (nI 0)) 296 16 (nI (i + 3)) := by
      rw [w2, show i + 2 + 1 = i + 3 by omega]; rfl
    have eC : r_X1_readCommand M = 1 ∧ m_X1_readCommand M = fst1 (fst1 M 276 5 (nI (i + 3))) 281 j (nI 0) := by
      rw [r_X1_readCommand, m_X1_readCommand, hZ, k2, if_pos (show nI 0 = (0 : Int32) from rfl), if_pos (show nI 0 = (0 : Int32) from rfl)]
      exact ⟨rfl, rfl⟩
    rw [eC.1, eC.2, eW.1, eW.2, w1, w2]
    obtain ⟨⟨q1, q2, q3⟩, q4, q5, q6, q7, q8⟩ := hK
    refine ⟨i + 3, q1, q2, q4, q5, Or.inr ⟨rfl, rfl, q3, 0, by decide, ?_, ?_, fun t htt => absurd htt (Nat.not_lt_zero t), fun b hb => ?_, fun b hb => ?_, fun b hb => ?_⟩⟩
    · rw [q6, up_at rfl]
    · rw [q8, up_at rfl]
    · rw [q6, up_ne hb]
    · rw [q7]
    · rw [q8, up_ne (by omega)]
  · have hne : ¬ pfx T s (fsb 4105) (i + 2) = 1 := by omega
    rw [if_neg hne] at w1
    exact CR_cut h hj (p := i + 2 + pfx T s (fsb 4105) (i + 2)) hpT k2 (by rw [k3, show i + (pfx T s (fsb 4105) (i + 2) + 2) = i + 2 + pfx T s (fsb 4105) (i + 2) by omega]) hS1 (FM.mv.tr FM.mv) (eW.1.trans w1) (mW := m_X12_commandHere W) (b := 5 * j) (v := 0) (eW.2.trans w2)
theorem CR_re (h : RD T s M i j) (hW : RM T s W i j) (ht : okT T s) (hj : j < 20) (hc : i < T ∧ s i = 114) (ha : ¬ (i + 1 < T ∧ s (i + 1) = 97)) : CR T s M W i j (r_X1_readCommand M) (m_X1_readCommand M) (r_X12_commandHere W) (m_X12_commandHere W) := by
  obtain ⟨g0, g1, g2, g3, g4, g5⟩ := fsb_c
  obtain ⟨⟨l6, l7, l8⟩, l9, l10, l11⟩ := fsb_l
  have P0 : pfx T s (fsb (4096 + 0)) i = 1 := by rw [g0, pfx, if_pos hc, pfx, if_neg ha]
  have P5 : pfx T s (fsb (4096 + 5)) i = pfx T s (fsb (4096 + 10)) (i + 1) + 1 := by rw [g5, pfx, if_pos hc]
  have hx : ∀ x : Int32, x ≠ 114 → ¬ (i < T ∧ s i = x) := fun x hx q => hx (q.2.symm.trans hc.2)
  have l1 : (fsb (4096 + 5)).length = 6 := by rw [g5]; show (fsb (4096 + 10)).length + 1 = 6; rw [l10]
  have kk := kone h ht (k0 := 5) (by decide) (fun k h1 h2 => by
    have h3 := fsb_l0 k h1
    by_cases e : k = 0
    · subst e
      rw [P5, P0]
      exact ⟨by omega, by omega⟩
    · rw [P_no h1 (fun q => by
        have := fc_ne k h1 5 (by decide) h2 (q.2.symm.trans hc.2)
        omega)]
      exact ⟨by omega, Nat.zero_le _⟩)
  obtain ⟨t1, t2⟩ := sk_no hW ht (c := 109) (by decide) (hx _ (by decide))
  obtain ⟨t3, t4⟩ := sk_no hW ht (c := 102) (by decide) (hx _ (by decide))
  obtain ⟨t5, t6⟩ := sk_no hW ht (c := 115) (by decide) (hx _ (by decide))
  obtain ⟨s1, s2⟩ := sk_yes hW ht (c := 114) (by decide) hc
  have hS1 := hW.mv (p := i + 1) hc.1
  obtain ⟨s3, s4⟩ := sk_no hS1 ht (c := 97) (by decide) ha
  have e0 : a0_X12_commandHere W = fst1 W 296 16 (nI (i + 1)) := by rw [a0_X12_commandHere, t2, t4, t6, s2]
  obtain ⟨w1, w2⟩ := hS1.word ht 5 (k := 10) (by decide) (by omega)
  rw [show 4096 + 10 = 4106 from rfl] at w1 w2 l10 P5
  have hpT := pfx_T (T := T) (s := s) (fsb 4106) (i + 1) hc.1
  rw [l1, P5] at kk
  rw [l10] at w1
  rcases kk with ⟨k1, k2, k3⟩ | ⟨k1, k2, k3⟩
  · have e2 : pfx T s (fsb 4106) (i + 1) = 5 := by omega
    rw [e2] at w1 w2 hpT
    rw [if_pos rfl] at w1
    have hK := KS_mk (K := 5) (p := i + 6) h hpT (by omega) hS1 FM.mv FMv
    have hZ := c_KS h hj hpT k2 k3
    have w2 : m_X12_isWord (fst1 W 296 16 (nI (i + 1))) 5 4106 = fst1 (fst1 (fst1 W 296 16 (nI (i + 1))) 305 (5 * j) (nI 5)) 296 16 (nI (i + 6)) := by
      rw [w2, show i + 1 + 5 = i + 6 by omega]; rfl
    have eC : r_X1_readCommand M = r_X1_readDigit (fst1 (fst1 M 276 5 (nI (i + 6))) 281 j (nI 5)) (nI 0) ∧ m_X1_readCommand M = m_X1_readDigit (fst1 (fst1 M 276 5 (nI (i + 6))) 281 j (nI 5)) (nI 0) := by
      rw [r_X1_readCommand, m_X1_readCommand, hZ, k2]
      rw [if_neg (by decide), if_neg (by decide), if_neg (by decide), if_neg (by decide), if_neg (by decide), if_pos (show nI 5 = (5 : Int32) from rfl), if_neg (by decide), if_neg (by decide), if_neg (by decide), if_neg (by decide), if_neg (by decide), if_pos (show nI 5 = (5 : Int32) from rfl)]
      exact ⟨rfl, rfl⟩
    have eW : (r_X12_commandHere W = if r_X12_figures (fst1 (fst1 (fst1 W 296 16 (nI (i + 1))) 305 (5 * j) (nI 5)) 296 16 (nI (i + 6))) (nI (5 * j + 1)) (nI 1) = 0 then 0 else 1) ∧ m_X12_commandHere W = m_X12_figures (fst1 (fst1 (fst1 W 296 16 (nI (i + 1))) 305 (5 * j) (nI 5)) 296 16 (nI (i + 6))) (nI (5 * j + 1)) (nI 1) := by
      rw [r_X12_commandHere, m_X12_commandHere, a2_X12_commandHere, t1, t2, t3, t4, t5, t6, s1, e0, s3, s4, w1, w2, PLe hW]
      rw [if_pos rfl, if_pos rfl, if_pos rfl, if_neg z_n1, if_pos rfl, if_neg z_n1, if_pos rfl, if_pos rfl, if_pos rfl, if_neg z_n1, if_pos rfl, if_neg z_n1, ite_self]
      exact ⟨rfl, rfl⟩
    rw [eC.1, eC.2, eW.1, eW.2]
    have f := both1 (a := 0) (pl := 5 * j + 1) hK.1.1 hK.1.2.1 ht hj (by decide) (by omega)
    refine CR_1 (K := 5) (by decide) rfl hK FM.rf (fun _ _ => rfl) ?_
    obtain ⟨p, f1, f2, f3, f4, f5⟩ := f
    refine ⟨p, f1, f2, f3, f4, ?_⟩
    rcases f5 with ⟨e1, e2⟩ | ⟨e1, e2, e3⟩
    · exact Or.inl ⟨e1, by rw [e2, if_pos rfl]⟩
    · exact Or.inr ⟨e1, by rw [e2, if_neg z_n1], e3⟩
  · have hne : ¬ pfx T s (fsb 4106) (i + 1) = 5 := by omega
    rw [if_neg hne] at w1
    refine CR_cut h hj (p := i + 1 + pfx T s (fsb 4106) (i + 1)) hpT k2 (by rw [k3, show i + (pfx T s (fsb 4106) (i + 1) + 1) = i + 1 + pfx T s (fsb 4106) (i + 1) by omega]) hS1 FM.mv ?_ (mW := m_X12_commandHere W) (b := 5 * j) (v := 5) ?_
    · rw [r_X12_commandHere, t1, t2, t3, t4, t5, t6, s1, e0, s3, s4, if_pos rfl, if_pos rfl, if_pos rfl, if_neg z_n1, if_pos rfl, w1, if_pos rfl]
    · rw [m_X12_commandHere, t1, t2, t3, t4, t5, t6, s1, e0, s3, s4, if_pos rfl, if_pos rfl, if_pos rfl, if_neg z_n1, if_pos rfl, w1, if_pos rfl, w2]
theorem CR_f (h : RD T s M i j) (hW : RM T s W i j) (ht : okT T s) (hj : j < 20) (hc : i < T ∧ s i = 102) : CR T s M W i j (r_X1_readCommand M) (m_X1_readCommand M) (r_X12_commandHere W) (m_X12_commandHere W) := by
  obtain ⟨g0, g1, g2, g3, g4, g5⟩ := fsb_c
  obtain ⟨⟨l6, l7, l8⟩, l9, l10, l11⟩ := fsb_l
  have P1 : pfx T s (fsb (4096 + 2)) i = pfx T s (fsb (4096 + 7)) (i + 1) + 1 := by rw [g2, pfx, if_pos hc]
  have kk := kone1 h ht (k0 := 2) (by decide) (by decide) (by decide) hc
  have hx : ∀ x : Int32, x ≠ 102 → ¬ (i < T ∧ s i = x) := fun x hx q => hx (q.2.symm.trans hc.2)
  obtain ⟨t1, t2⟩ := sk_no hW ht (c := 109) (by decide) (hx _ (by decide))
  obtain ⟨s1, s2⟩ := sk_yes hW ht (c := 102) (by decide) hc
  have hS1 := hW.mv (p := i + 1) hc.1
  obtain ⟨w1, w2⟩ := hS1.word ht 2 (k := 7) (by decide) (by omega)
  rw [show 4096 + 7 = 4103 from rfl] at w1 w2 l7 P1
  have hpT := pfx_T (T := T) (s := s) (fsb 4103) (i + 1) hc.1
  have l1 : (fsb (4096 + 2)).length = 4 := by rw [g2]; show (fsb (4096 + 7)).length + 1 = 4; rw [show 4096 + 7 = 4103 from rfl, l7]
  rw [l1, P1] at kk
  rw [l7] at w1
  rcases kk with ⟨k1, k2, k3⟩ | ⟨k1, k2, k3⟩
  · have e2 : pfx T s (fsb 4103) (i + 1) = 3 := by omega
    rw [e2] at w1 w2 hpT
    rw [if_pos rfl] at w1
    have hK := KS_mk (K := 2) (p := i + 4) h hpT (by omega) hS1 FM.mv FMv
    have hZ := c_KS h hj hpT k2 k3
    have w2 : m_X12_isWord (fst1 W 296 16 (nI (i + 1))) 2 4103 = fst1 (fst1 (fst1 W 296 16 (nI (i + 1))) 305 (5 * j) (nI 2)) 296 16 (nI (i + 4)) := by
      rw [w2, show i + 1 + 3 = i + 4 by omega]; rfl
    have hZ : rset (m_X1_readKind M) 280 20 (m_X1_readKind M 276 4) (r_X1_readKind M) = fst1 (fst1 M 276 5 (nI (i + 4))) 281 j (nI 2) := hZ
    have x1 : nI (5 * j + 1) + 1 = nI (5 * j + 2) := nI_add _ 1
    have x2 : nI (5 * j + 1) + 2 = nI (5 * j + 3) := nI_add _ 2
    have x3 : nI (5 * j + 1) + 3 = nI (5 * j + 4) := nI_add _ 3
    rw [r_X1_readCommand, m_X1_readCommand, r_X12_commandHere, m_X12_commandHere, a5_X12_commandHere, a4_X12_commandHere, hZ, k2, t1, t2, s1, s2, w1, w2, PLe hW, x1, x2, x3]
    rw [if_neg (show ¬ nI 2 = (0 : Int32) by decide), if_neg (show ¬ nI 2 = (1 : Int32) by decide), if_pos (show nI 2 = (2 : Int32) from rfl), if_neg (show ¬ nI 2 = (0 : Int32) by decide), if_neg (show ¬ nI 2 = (1 : Int32) by decide), if_pos (show nI 2 = (2 : Int32) from rfl), if_pos rfl, if_neg z_n1, if_neg z_n1, if_pos rfl, if_neg z_n1, if_neg z_n1]
    generalize fst1 (fst1 M 276 5 (nI (i + 4))) 281 j (nI 2) = Z at hK
    generalize fst1 (fst1 (fst1 W 296 16 (nI (i + 1))) 305 (5 * j) (nI 2)) 296 16 (nI (i + 4)) = Y at hK
    obtain ⟨⟨q1, q2, q3⟩, q4, q5, q6, q7, q8⟩ := hK
    obtain ⟨p1, f1, f2, f3, f4, f5⟩ : FR T s Z Y (i + 4) j j 0 (5 * j + 1) (r_X1_readDigit Z 0) (m_X1_readDigit Z 0) (r_X12_figures Y (nI (5 * j + 1)) 1) (m_X12_figures Y (nI (5 * j + 1)) 1) := both1 q1 q2 ht hj (by decide) (by omega)
    generalize m_X1_readDigit Z 0 = Z1 at f1 f3 f5 ⊢
    generalize m_X12_figures Y (nI (5 * j + 1)) 1 = Y1 at f2 f4 f5 ⊢
    rcases f5 with ⟨e1, e2⟩ | ⟨e1, e2, e3, v, v1, v2, v3⟩
    · rw [e1, e2, if_pos rfl, if_pos rfl, if_pos rfl, if_pos rfl]
      exact ⟨p1, f1, f2, q4.tr f3, q5.tr f4, Or.inl ⟨rfl, rfl⟩⟩
    rw [e1, e2, if_neg z_n1, if_neg z_n1, if_neg z_n1, if_neg z_n1]
    obtain ⟨p2, m1, m2, m3, m4, m5⟩ : FR T s Z1 Y1 p1 j j 1 (5 * j + 2) (r_X1_readDigit Z1 1) (m_X1_readDigit Z1 1) (r_X12_figures Y1 (nI (5 * j + 2)) 1) (m_X12_figures Y1 (nI (5 * j + 2)) 1) := both1 f1 f2 ht hj (by decide) (by omega)
    generalize m_X1_readDigit Z1 1 = Z2 at m1 m3 m5 ⊢
    generalize m_X12_figures Y1 (nI (5 * j + 2)) 1 = Y2 at m2 m4 m5 ⊢
    rcases m5 with ⟨b1, b2⟩ | ⟨b1, b2, b3, u, u1, u2, u3⟩
    · rw [b1, b2, if_pos rfl, if_pos rfl, if_pos rfl, if_pos rfl]
      exact ⟨p2, m1, m2, (q4.tr f3).tr m3, (q5.tr f4).tr m4, Or.inl ⟨rfl, rfl⟩⟩
    rw [b1, b2, if_neg z_n1, if_neg z_n1, if_neg z_n1, if_neg z_n1]
    obtain ⟨p3, n1, n2, n3, n4, n5⟩ : FR T s Z2 Y2 p2 j j 2 (5 * j + 3) (r_X1_readDigit Z2 2) (m_X1_readDigit Z2 2) (r_X12_figures Y2 (nI (5 * j + 3)) 1) (m_X12_figures Y2 (nI (5 * j + 3)) 1) := both1 m1 m2 ht hj (by decide) (by omega)
    generalize m_X1_readDigit Z2 2 = Z3 at n1 n3 n5 ⊢
    generalize m_X12_figures Y2 (nI (5 * j + 3)) 1 = Y3 at n2 n4 n5 ⊢
    rcases n5 with ⟨c1, c2⟩ | ⟨c1, c2, c3, x, x1, x2, x3⟩
    · rw [c1, c2, if_pos rfl, if_pos rfl, if_pos rfl, if_pos rfl]
      exact ⟨p3, n1, n2, ((q4.tr f3).tr m3).tr n3, ((q5.tr f4).tr m4).tr n4, Or.inl ⟨rfl, rfl⟩⟩
    rw [c1, c2, if_neg z_n1, if_neg z_n1, if_neg z_n1, if_neg z_n1, ite_self, ite_self]
    obtain ⟨p4, o1, o2, o3, o4, o5⟩ : FR T s Z3 Y3 p3 j j 3 (5 * j + 4) (r_X1_readDigit Z3 3) (m_X1_readDigit Z3 3) (r_X12_figures Y3 (nI (5 * j + 4)) 1) (m_X12_figures Y3 (nI (5 * j + 4)) 1) := both1 n1 n2 ht hj (by decide) (by omega)
    generalize m_X1_readDigit Z3 3 = Z4 at o1 o3 o5 ⊢
    generalize m_X12_figures Y3 (nI (5 * j + 4)) 1 = Y4 at o2 o4 o5 ⊢
    rcases o5 with ⟨d1, d2⟩ | ⟨d1, d2, d3, y, y1, y2, y3⟩
    · rw [d1, d2, if_pos rfl]
      exact ⟨p4, o1, o2, (((q4.tr f3).tr m3).tr n3).tr o3, (((q5.tr f4).tr m4).tr n4).tr o4, Or.inl ⟨rfl, rfl⟩⟩
    rw [d1, d2, if_neg z_n1]
    have c81 : Z4 281 = Z 281 := (((o3.1 281 (by decide) (by decide)).trans (n3.1 281 (by decide) (by decide))).trans (m3.1 281 (by decide) (by decide))).trans (f3.1 281 (by decide) (by decide))
    refine ⟨p4, o1, o2, (((q4.tr f3).tr m3).tr n3).tr o3, (((q5.tr f4).tr m4).tr n4).tr o4, Or.inr ⟨rfl, rfl, by omega, 2, by decide, ?_, ?_, fun t htt => ?_, fun b hb => ?_, fun b hb => ?_, fun b hb => ?_⟩⟩
    · rw [c81, q6, up_at rfl]
    · rw [y3, up_ne (by omega), x3, up_ne (by omega), u3, up_ne (by omega), v3, up_ne (by omega), q8, up_at rfl]
    · have htt : t < 4 := htt
      have : t = 0 ∨ t = 1 ∨ t = 2 ∨ t = 3 := by omega
      rcases this with rfl | rfl | rfl | rfl
      · rw [y2, x2, u2, v2, y3, x3, u3, v3]
        simp (disch := omega) only [up_ne, up_at]
        exact ⟨v1, trivial⟩
      · rw [y2, x2, u2, y3, x3, u3]
        simp (disch := omega) only [up_ne, up_at]
        exact ⟨u1, trivial⟩
      · rw [y2, x2, y3, x3]
        simp (disch := omega) only [up_ne, up_at]
        exact ⟨x1, trivial⟩
      · rw [y2, y3]
        simp (disch := omega) only [up_ne, up_at]
        exact ⟨y1, trivial⟩
    · rw [c81, q6, up_ne hb]
    · rw [y2, up_ne (by omega), x2, up_ne (by omega), u2, up_ne (by omega), v2, up_ne (by omega), q7]
    · rw [y3, up_ne (by omega), x3, up_ne (by omega), u3, up_ne (by omega), v3, up_ne (by omega), q8, up_ne (by omega)]
  · have hne : ¬ pfx T s (fsb 4103) (i + 1) = 3 := by omega
    rw [if_neg hne] at w1
    refine CR_cut h hj (p := i + 1 + pfx T s (fsb 4103) (i + 1)) hpT k2 (by rw [k3, show i + (pfx T s (fsb 4103) (i + 1) + 1) = i + 1 + pfx T s (fsb 4103) (i + 1) by omega]) hS1 FM.mv ?_ (mW := m_X12_commandHere W) (b := 5 * j) (v := 2) ?_
    · rw [r_X12_commandHere, t1, t2, s1, s2, if_pos rfl, if_neg z_n1, w1, if_pos rfl]
    · rw [m_X12_commandHere, t1, t2, s1, s2, if_pos rfl, if_neg z_n1, w1, if_pos rfl, w2]
theorem both_cmd (h : RD T s M i j) (hW : RM T s W i j) (ht : okT T s) (hj : j < 20) : CR T s M W i j (r_X1_readCommand M) (m_X1_readCommand M) (r_X12_commandHere W) (m_X12_commandHere W) := by
  by_cases c1 : i < T ∧ s i = 109
  · exact CR_m h hW ht hj c1
  by_cases c2 : i < T ∧ s i = 102
  · exact CR_f h hW ht hj c2
  by_cases c3 : i < T ∧ s i = 115
  · exact CR_s h hW ht hj c3
  by_cases c4 : i < T ∧ s i = 114
  · by_cases c5 : i + 1 < T ∧ s (i + 1) = 97
    · exact CR_ra h hW ht hj c4 c5
    · exact CR_re h hW ht hj c4 c5
  by_cases c5 : i < T ∧ s i = 100
  · exact CR_d h hW ht hj c5
  refine CR_no h hW ht hj fun k hk => ?_
  have : k = 0 ∨ k = 1 ∨ k = 2 ∨ k = 3 ∨ k = 4 ∨ k = 5 := by omega
  rcases this with rfl | rfl | rfl | rfl | rfl | rfl
  · exact c4
  · exact c1
  · exact c2
  · exact c3
  · exact c5
  · exact c4
end CMD4
