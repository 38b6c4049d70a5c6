/-! ===== more calls that look ===== -/
theorem q300b {N : Nat} {M : fM} {f : Nat → Int32} (h : SW N M 1 f) : sm (M (1 + 1) 4) 300 := by
  rw [show M (1 + 1) 4 = f 1 from h.1.1.2.2]
  exact ⟨h.2.bats.1, by have := h.2.bats.2; omega⟩
theorem q300a {N : Nat} {M : fM} {f : Nat → Int32} (h : SW N M 1 f) : sm (((1 : Int32) <<< ((M (1 + 1) 2) &&& 31)) - (1 : Int32)) 300 := by
  rw [show M (1 + 1) 2 = f 0 from h.1.1.1, allI h.2]
  have := pw_le6 _ h.2.raws.2
  exact sm_nI (by omega) (by omega)
section LOOK2
variable {G : fG} {c : Nat} {M : fM} {dv : UInt64} {a b e f : Int32}
theorem op_25 (hG : fOK G) (h : It c M) : Op_25 G It c M dv a b e f := by
  have hS := h.1
  have hc := c_X11_daysUntilPop hG (d := 40) (by decide) M dv a (q300 hS)
  rw [o_X11_daysUntilPop] at hc
  rw [c_ps hS a] at hc
  have hb := hS.2.lots.2
  rcases ps_cases (M 297) a with hp | ⟨i, hi, -, hp⟩
  · rw [hp] at hc
    rw [if_pos rfl] at hc
    have em : m_X12_daysUntilPop M a = fst1 M 296 7 1 := by rw [m_X12_daysUntilPop, m_X12_toPop, r_lost_n w0 hS.2 hp, if_neg z_n1, m_lost_n w0 hS.2 hp]
    have kc2 := c_X12_daysUntilPopP hG (d := 60) (by decide) M dv a (P_day w0 hS.2 a)
    rw [em] at kc2
    exact opi_mk h 1 _ _ _ Sm.code (fst1_at _ _ _ _) (c_L_daysUntilPop hG (by decide) (by decide) (by decide) M dv a hc 1 _ (Or.inr ⟨_, rfl, rfl, rfl⟩)) kc2 (fun h => absurd h (by decide))
  · rw [hp] at hc
    rw [if_neg (n1_nI (by omega)), c_dayC hS hi] at hc
    have er : r_X12_daysUntilPop (fst1 M 306 0 (dyD (21 - str (M 297) i) (M 297 (79 + 6 * i + 5)))) a = dyD (21 - str (M 297) i) (M 297 (79 + 6 * i + 5)) := by rw [r_X12_daysUntilPop, r_X12_toPop, r_lost_y w6 hS.2 hi hp, if_pos rfl, m_lost_y w6 hS.2 hi hp, m_ps w76 hS.2, hp, m_by w76 (w := 5) (by omega) (by omega) 5 rfl, m_day w76 hS.2 hi]
    have em : m_X12_daysUntilPop (fst1 M 306 0 (dyD (21 - str (M 297) i) (M 297 (79 + 6 * i + 5)))) a = fst1 (fst1 M 306 0 (dyD (21 - str (M 297) i) (M 297 (79 + 6 * i + 5)))) 296 7 0 := by rw [m_X12_daysUntilPop, m_X12_toPop, r_lost_y w6 hS.2 hi hp, if_pos rfl, m_lost_y w6 hS.2 hi hp]
    have kc2 := c_X12_daysUntilPopP hG (d := 60) (by decide) (fst1 M 306 0 (dyD (21 - str (M 297) i) (M 297 (79 + 6 * i + 5)))) dv a (P_day w6 hS.2 a)
    rw [er, em] at kc2
    exact opi_mk h 0 _ _ _ (Sm.out306.tr Sm.code) (fst1_at _ _ _ _) (c_L_daysUntilPop hG (by decide) (by decide) (by decide) M dv a hc 0 _ (Or.inl ⟨_, _, rfl, rfl, rfl⟩)) kc2 (fun _ => by rw [fst1_ne (by decide), fst1_at])
theorem op_26 (hG : fOK G) (h : It c M) : Op_26 G It c M dv a b e f := by
  have hS := h.1
  have hc := c_X11_daysByDivision hG (d := 40) (by decide) M dv a (q300 hS)
  rw [o_X11_daysByDivision] at hc
  rw [c_ps hS a] at hc
  have hb := hS.2.lots.2
  rcases ps_cases (M 297) a with hp | ⟨i, hi, -, hp⟩
  · rw [hp] at hc
    rw [if_pos rfl] at hc
    have em : m_X12_daysByDivision M a = fst1 M 296 7 1 := by rw [m_X12_daysByDivision, m_X12_toPop, r_lost_n w0 hS.2 hp, if_neg z_n1, m_lost_n w0 hS.2 hp]
    have kc2 := c_X12_daysByDivisionP hG (d := 60) (by decide) M dv a (P_day w0 hS.2 a)
    rw [em] at kc2
    exact opi_mk h 1 _ _ _ Sm.code (fst1_at _ _ _ _) (c_L_daysByDivision hG (by decide) (by decide) (by decide) M dv a hc 1 _ (Or.inr ⟨_, rfl, rfl, rfl⟩)) kc2 (fun h => absurd h (by decide))
  · rw [hp] at hc
    rw [if_neg (n1_nI (by omega)), c_dayD hS hi] at hc
    have er : r_X12_daysByDivision (fst1 M 306 0 (dyD (21 - str (M 297) i) (M 297 (79 + 6 * i + 5)))) a = dyD (21 - str (M 297) i) (M 297 (79 + 6 * i + 5)) := by rw [r_X12_daysByDivision, r_X12_toPop, r_lost_y w6 hS.2 hi hp, if_pos rfl, m_lost_y w6 hS.2 hi hp, m_ps w76 hS.2, hp, m_by w76 (w := 5) (by omega) (by omega) 5 rfl, m_day w76 hS.2 hi]
    have em : m_X12_daysByDivision (fst1 M 306 0 (dyD (21 - str (M 297) i) (M 297 (79 + 6 * i + 5)))) a = fst1 (fst1 M 306 0 (dyD (21 - str (M 297) i) (M 297 (79 + 6 * i + 5)))) 296 7 0 := by rw [m_X12_daysByDivision, m_X12_toPop, r_lost_y w6 hS.2 hi hp, if_pos rfl, m_lost_y w6 hS.2 hi hp]
    have kc2 := c_X12_daysByDivisionP hG (d := 60) (by decide) (fst1 M 306 0 (dyD (21 - str (M 297) i) (M 297 (79 + 6 * i + 5)))) dv a (P_day w6 hS.2 a)
    rw [er, em] at kc2
    exact opi_mk h 0 _ _ _ (Sm.out306.tr Sm.code) (fst1_at _ _ _ _) (c_L_daysByDivision hG (by decide) (by decide) (by decide) M dv a hc 0 _ (Or.inl ⟨_, _, rfl, rfl, rfl⟩)) kc2 (fun _ => by rw [fst1_ne (by decide), fst1_at])
theorem op_27 (hG : fOK G) (h : It c M) : Op_27 G It c M dv a b e f := by
  have hS := h.1
  have hc := c_X11_lotByPressure hG (d := 40) (by decide) M dv a (q300 hS)
  rw [o_X11_lotByPressure] at hc
  rw [c_rkp hS a] at hc
  have hb := hS.2.lots.2
  rcases m_rkp (W := M) rfl hS.2 a with ⟨hp, -, em⟩ | ⟨i, hi, hp, -, -⟩
  · rw [hp, if_pos rfl] at hc
    have kc2 := c_X12_lotByPressure hG (d := 60) (by decide) M dv a (N_rkp w0 hS.2 a)
    rw [em] at kc2
    exact opi_mk h 1 _ _ _ Sm.code (fst1_at _ _ _ _) (c_L_lotByPressure hG (by decide) (by decide) (by decide) M dv a hc 1 _ (Or.inr ⟨_, rfl, rfl, rfl⟩)) kc2 (fun h => absurd h (by decide))
  · rw [hp, if_neg (n1_nI (by omega)), c_nums hS hi] at hc
    rcases m_rkp (W := fst1 M 306 0 (M 297 (79 + 6 * i))) w6 hS.2 a with ⟨hp2, -, -⟩ | ⟨i2, hi2, hp2, er, em⟩
    · rw [hp] at hp2
      exact absurd hp2 (n1_nI (by omega))
    · have e2 : i = i2 := (nI_eq (by omega) (by omega)).mp (hp.symm.trans hp2)
      subst e2
      have kc2 := c_X12_lotByPressure hG (d := 60) (by decide) (fst1 M 306 0 (M 297 (79 + 6 * i))) dv a (N_rkp w6 hS.2 a)
      rw [er, em] at kc2
      exact opi_mk h 0 _ _ _ (Sm.out306.tr Sm.code) (fst1_at _ _ _ _) (c_L_lotByPressure hG (by decide) (by decide) (by decide) M dv a hc 0 _ (Or.inl ⟨_, _, rfl, rfl, rfl⟩)) kc2 (fun _ => by rw [fst1_ne (by decide), fst1_at])
theorem op_28 (hG : fOK G) (h : It c M) : Op_28 G It c M dv a b e f := by
  have hS := h.1
  have hc := c_X11_affectedLots hG (d := 40) (by decide) M dv a (fun _ => q300b hS) (fun _ => q300 hS)
  rw [o_X11_affectedLots] at hc
  have kc := c_raw hS a
  have N1 : ∀ W : fM, W 297 = M 297 → N_X12_affected W a := by
    intro W hW
    have hW2 : (fst1 W 296 7 (0 : Int32)) 297 = M 297 := w7.trans hW
    refine ⟨fun _ j _ h1 h2 => ?_, fun _ j _ h1 h2 => ?_⟩
    · rw [cl_3, hW2] at h2
      have := lt3 hS.2 (by omega) h2
      have := hS.2.lots.2
      omega
    · rw [cl_3, hW2] at h2
      exact N_ins hW2 hS.2 (lt3 hS.2 (by omega) h2)
  by_cases hx : ∃ i, a = nI i ∧ i < (M 297 0).toNatClampNeg
  · rw [exd_pos hx] at kc
    obtain ⟨i, rfl, hi⟩ := hx
    rw [kc, if_neg z_n1, c_thr hS hi] at hc
    have er : r_X12_affectedLots (fst1 M 306 0 (affI (M 297) (nI i))) (nI i) = affI (M 297) (nI i) := by rw [r_X12_affectedLots, r_X12_affected, m_raw (x := nI i) w6 hS.2, exd_pos ⟨_, rfl, hi⟩, if_neg z_n1, m_aff w76 hS.2]
    have em : m_X12_affectedLots (fst1 M 306 0 (affI (M 297) (nI i))) (nI i) = fst1 (fst1 M 306 0 (affI (M 297) (nI i))) 296 7 0 := by rw [m_X12_affectedLots, m_X12_affected, m_raw (x := nI i) w6 hS.2, exd_pos ⟨_, rfl, hi⟩, if_neg z_n1]
    have kc2 := c_X12_affectedLots hG (d := 60) (by decide) (fst1 M 306 0 (affI (M 297) (nI i))) dv (nI i) (N1 _ w6)
    rw [er, em] at kc2
    exact opi_mk h 0 _ _ _ (Sm.out306.tr Sm.code) (fst1_at _ _ _ _) (c_L_affectedLots hG (by decide) (by decide) (by decide) M dv (nI i) hc 0 _ (Or.inl ⟨_, _, rfl, rfl, rfl⟩)) kc2 (fun _ => by rw [fst1_ne (by decide), fst1_at])
  · rw [exd_neg hx] at kc
    rw [kc, if_pos rfl] at hc
    have em : m_X12_affectedLots M a = fst1 M 296 7 1 := by rw [m_X12_affectedLots, m_X12_affected, m_raw (x := a) w0 hS.2, exd_neg hx, if_pos rfl]
    have kc2 := c_X12_affectedLots hG (d := 60) (by decide) M dv a (N1 _ w0)
    rw [em] at kc2
    exact opi_mk h 1 _ _ _ Sm.code (fst1_at _ _ _ _) (c_L_affectedLots hG (by decide) (by decide) (by decide) M dv a hc 1 _ (Or.inr ⟨_, rfl, rfl, rfl⟩)) kc2 (fun h => absurd h (by decide))
theorem op_29 (hG : fOK G) (h : It c M) : Op_29 G It c M dv a b e f := by
  have hS := h.1
  have hc := c_X11_affectedBySets hG (d := 40) (by decide) M dv a (fun _ => q300 hS)
  rw [o_X11_affectedBySets] at hc
  have kc := c_raw hS a
  have N1 : ∀ W : fM, W 297 = M 297 → N_X12_affected W a := by
    intro W hW
    have hW2 : (fst1 W 296 7 (0 : Int32)) 297 = M 297 := w7.trans hW
    refine ⟨fun _ j _ h1 h2 => ?_, fun _ j _ h1 h2 => ?_⟩
    · rw [cl_3, hW2] at h2
      have := lt3 hS.2 (by omega) h2
      have := hS.2.lots.2
      omega
    · rw [cl_3, hW2] at h2
      exact N_ins hW2 hS.2 (lt3 hS.2 (by omega) h2)
  by_cases hx : ∃ i, a = nI i ∧ i < (M 297 0).toNatClampNeg
  · rw [exd_pos hx] at kc
    obtain ⟨i, rfl, hi⟩ := hx
    rw [kc, if_neg z_n1, c_sets hS (nI i)] at hc
    have er : r_X12_affectedBySets (fst1 M 306 0 (affI (M 297) (nI i))) (nI i) = affI (M 297) (nI i) := by rw [r_X12_affectedBySets, r_X12_affected, m_raw (x := nI i) w6 hS.2, exd_pos ⟨_, rfl, hi⟩, if_neg z_n1, m_aff w76 hS.2]
    have em : m_X12_affectedBySets (fst1 M 306 0 (affI (M 297) (nI i))) (nI i) = fst1 (fst1 M 306 0 (affI (M 297) (nI i))) 296 7 0 := by rw [m_X12_affectedBySets, m_X12_affected, m_raw (x := nI i) w6 hS.2, exd_pos ⟨_, rfl, hi⟩, if_neg z_n1]
    have kc2 := c_X12_affectedBySets hG (d := 60) (by decide) (fst1 M 306 0 (affI (M 297) (nI i))) dv (nI i) (N1 _ w6)
    rw [er, em] at kc2
    exact opi_mk h 0 _ _ _ (Sm.out306.tr Sm.code) (fst1_at _ _ _ _) (c_L_affectedBySets hG (by decide) (by decide) (by decide) M dv (nI i) hc 0 _ (Or.inl ⟨_, _, rfl, rfl, rfl⟩)) kc2 (fun _ => by rw [fst1_ne (by decide), fst1_at])
  · rw [exd_neg hx] at kc
    rw [kc, if_pos rfl] at hc
    have em : m_X12_affectedBySets M a = fst1 M 296 7 1 := by rw [m_X12_affectedBySets, m_X12_affected, m_raw (x := a) w0 hS.2, exd_neg hx, if_pos rfl]
    have kc2 := c_X12_affectedBySets hG (d := 60) (by decide) M dv a (N1 _ w0)
    rw [em] at kc2
    exact opi_mk h 1 _ _ _ Sm.code (fst1_at _ _ _ _) (c_L_affectedBySets hG (by decide) (by decide) (by decide) M dv a hc 1 _ (Or.inr ⟨_, rfl, rfl, rfl⟩)) kc2 (fun h => absurd h (by decide))
theorem op_34 (hG : fOK G) (h : It c M) : Op_34 G It c M dv a b e f := by
  have hS := h.1
  have hc := c_X11_isTested hG (d := 40) (by decide) M dv a (fun _ => q300 hS) (fun _ => q300a hS)
  rw [o_X11_isTested] at hc
  have kc := c_raw hS a
  by_cases hx : ∃ i, a = nI i ∧ i < (M 297 0).toNatClampNeg
  · rw [exd_pos hx] at kc
    obtain ⟨i, rfl, hi⟩ := hx
    obtain ⟨r, r1, -, r3, r4⟩ := best_same hS w0
    have r2 : r_X12_best (fst1 (fst1 M 306 0 (oL ((nI r >>> (nI i &&& 31)) &&& (1 : Int32)))) 296 7 0) = nI r := by
      obtain ⟨r', q1, q2, -, -⟩ := best_same (W := fst1 (fst1 M 306 0 (oL ((nI r >>> (nI i &&& 31)) &&& (1 : Int32)))) 296 7 0) hS w76
      rw [q2, ← q1, r1]
    rw [kc, if_neg z_n1, r1, z_has] at hc
    have er : r_X12_isTested (fst1 M 306 0 (oL ((nI r >>> (nI i &&& 31)) &&& (1 : Int32)))) (nI i) = (nI r >>> (nI i &&& 31)) &&& (1 : Int32) := by rw [r_X12_isTested, m_raw (x := nI i) w6 hS.2, exd_pos ⟨_, rfl, hi⟩, if_neg z_n1, r2, z_if]
    have em : m_X12_isTested (fst1 M 306 0 (oL ((nI r >>> (nI i &&& 31)) &&& (1 : Int32)))) (nI i) = fst1 (fst1 M 306 0 (oL ((nI r >>> (nI i &&& 31)) &&& (1 : Int32)))) 296 7 0 := by rw [m_X12_isTested, m_raw (x := nI i) w6 hS.2, exd_pos ⟨_, rfl, hi⟩, if_neg z_n1, ite_self]
    have kc2 := c_X12_isTested hG (d := 60) (by decide) (fst1 M 306 0 (oL ((nI r >>> (nI i &&& 31)) &&& (1 : Int32)))) dv (nI i) (fun _ => N_best w76 hS.2)
    rw [er, em] at kc2
    exact opb_mk h 0 _ _ _ (Sm.out306.tr Sm.code) (fst1_at _ _ _ _) (c_L_isTested hG (by decide) (by decide) (by decide) M dv (nI i) hc 0 _ (Or.inl ⟨_, _, rfl, rfl, rfl⟩)) kc2 (fun _ => by rw [fst1_ne (by decide), fst1_at])
  · rw [exd_neg hx] at kc
    rw [kc, if_pos rfl] at hc
    have em : m_X12_isTested M a = fst1 M 296 7 1 := by rw [m_X12_isTested, m_raw (x := a) w0 hS.2, exd_neg hx, if_pos rfl]
    have kc2 := c_X12_isTested hG (d := 60) (by decide) M dv a (fun _ => N_best w7 hS.2)
    rw [em] at kc2
    exact opb_mk h 1 _ _ _ Sm.code (fst1_at _ _ _ _) (c_L_isTested hG (by decide) (by decide) (by decide) M dv a hc 1 _ (Or.inr ⟨_, rfl, rfl, rfl⟩)) kc2 (fun h => absurd h (by decide))
theorem op_45 (hG : fOK G) (h : It c M) : Op_45 G It c M dv a b e f := by
  have hS := h.1
  have hc := c_X11_lineAt hG (d := 40) (by decide) M dv a
  rw [o_X11_lineAt] at hc
  obtain ⟨-, e2, e3, e4⟩ := h.2.2.2.2.1
  have l2 := e3.2
  rw [e2] at hc
  by_cases hy : ∃ j, a = nI j ∧ j < (M 296 13).toNatClampNeg
  · obtain ⟨j, rfl, hj⟩ := hy
    obtain ⟨g1, g2⟩ := e4 j hj
    have e5 : r_X10_at M 270 60 (nI j) = M 302 j := by
      rw [r_X10_at, e2, if_neg (nI_pos (by omega)), if_neg (by rw [e3.1]; exact nI_ge hj (by omega)), rget_in (by omega) (by decide), show 270 + 1 + 1 = 272 from rfl, g1, ch_id g2 (by decide)]
    have N1 : N_X12_lineAt (fst1 M 306 0 (M 302 j)) (nI j) := ⟨fun _ => vp_in_nI (by omega) (by decide), fun _ => by
      rw [fst1_ne (show 302 ≠ 296 by decide), fst1_ne (show 302 ≠ 306 by decide), nI_clamp (by omega), g2.1]
      exact (pk_charN (by have := g2.2; omega)).1⟩
    rw [if_neg (nI_pos (by omega)), if_pos (by rw [e3.1]; exact nI_lt hj (by omega)), e5] at hc
    have er : r_X12_lineAt (fst1 M 306 0 (M 302 j)) (nI j) = M 302 j := by rw [r_X12_lineAt, fst1_ne (show 296 ≠ 306 by decide), e3.1, in_below (by omega), exd_pos ⟨j, rfl, hj⟩, if_neg z_n1, fst1_ne (show 302 ≠ 296 by decide), fst1_ne (show 302 ≠ 306 by decide), nI_clamp (by omega)]
    have em : m_X12_lineAt (fst1 M 306 0 (M 302 j)) (nI j) = fst1 (fst1 M 306 0 (M 302 j)) 296 7 0 := by rw [m_X12_lineAt, fst1_ne (show 296 ≠ 306 by decide), e3.1, in_below (by omega), exd_pos ⟨j, rfl, hj⟩, if_neg z_n1]
    have kc2 := c_X12_lineAt hG (d := 60) (by decide) (fst1 M 306 0 (M 302 j)) dv (nI j) N1
    rw [er, em] at kc2
    exact opi_mk h 0 _ _ _ (Sm.out306.tr Sm.code) (fst1_at _ _ _ _) (c_L_lineAt hG (by decide) (by decide) (by decide) M dv (nI j) hc 0 _ (Or.inl ⟨_, _, rfl, rfl, rfl⟩)) kc2 (fun _ => by rw [fst1_ne (by decide), fst1_at])
  · have hc' : fCt G z_X11_lineAt 40 [.ref 0, .int a] (sS M dv) 1 6 (fO dv (.inr "java/lang/IndexOutOfBoundsException", M)) := by
      by_cases h0 : a < 0
      · rw [if_pos h0] at hc; exact hc
      · rw [if_neg h0, if_neg (by rw [e3.1]; exact lt_no (by omega) hy h0)] at hc; exact hc
    clear hc
    have hc := hc'
    have hz : r_X12_in M a 0 (M 296 13 - 1) = 0 := by rw [e3.1, in_below (by omega), exd_neg hy]
    have em : m_X12_lineAt M a = fst1 M 296 7 1 := by rw [m_X12_lineAt, hz, if_pos rfl]
    have kc2 := c_X12_lineAt hG (d := 60) (by decide) M dv a ⟨fun hn => absurd hz hn, fun hn => absurd hz hn⟩
    rw [em] at kc2
    exact opi_mk h 1 _ _ _ Sm.code (fst1_at _ _ _ _) (c_L_lineAt hG (by decide) (by decide) (by decide) M dv a hc 1 _ (Or.inr ⟨_, rfl, rfl, rfl⟩)) kc2 (fun h => absurd h (by decide))
theorem op_37 (hG : fOK G) (h : It c M) : Op_37 G It c M dv a b e f := by
  have hS := h.1
  have e1 : r_X11_stored M = sJ (M 297) := by rw [r_X11_stored, c_sJ hS]
  have e2 : r_X12_stored M = sJ (M 297) := by rw [r_X12_stored, m_sJ w7 hS.2]
  have k1 := c_X11_stored hG (d := 60) (by decide) M dv (q300 hS)
  have k2 := c_X12_stored hG (d := 60) (by decide) M dv (N_sJ w7 hS.2)
  rw [e1] at k1
  rw [e2] at k2
  exact ⟨_, _, _, k1, k2, h.up.sm Sm.code⟩
theorem op_32 (hG : fOK G) (h : It c M) : Op_32 G It c M dv a b e f := by
  have hS := h.1
  obtain ⟨r, r1, r2, r3, r4⟩ := best_same (W := fst1 M 296 7 0) hS w7
  have e1 : r_X11_fewestTests M = nI (pc r) := by rw [r_X11_fewestTests, r1, pc_J M (by omega)]
  have e2 : r_X12_fewestTests M = nI (pc r) := by rw [r_X12_fewestTests, r2, pc_B _ r4]
  have k1 := c_X11_fewestTests hG (d := 60) (by decide) M dv (q300 hS) (q300a hS)
  have k2 := c_X12_fewestTests hG (d := 60) (by decide) M dv (N_best w7 hS.2)
  rw [e1] at k1
  rw [e2] at k2
  exact ⟨_, _, _, k1, k2, h.up.sm Sm.code⟩
theorem op_33 (hG : fOK G) (h : It c M) : Op_33 G It c M dv a b e f := by
  have hS := h.1
  obtain ⟨r, r1, r2, r3, r4⟩ := best_same (W := fst1 M 296 7 0) hS w7
  have e1 : r_X11_fewestTestsByBranching M = nI (pc r) := by rw [r_X11_fewestTestsByBranching, br_same hS r3]
  have e2 : r_X12_fewestTestsByBranching M = nI (pc r) := by rw [r_X12_fewestTestsByBranching, r2, pc_B _ r4]
  have k1 := c_X11_fewestTestsByBranching hG (d := 60) (by decide) M dv (q300 hS)
  have k2 := c_X12_fewestTestsByBranching hG (d := 60) (by decide) M dv (N_best w7 hS.2)
  rw [e1] at k1
  rw [e2] at k2
  exact ⟨_, _, _, k1, k2, h.up.sm Sm.code⟩
theorem op_2 (hG : fOK G) (h : It c M) : Op_2 G It c M dv a b e f := by
  have e1 : r_X11_rawCount M = r_X12_rawCount M := by
    rw [r_X12_rawCount, fst1_ne (by decide)]
    exact h.1.1.1.1
  have k1 := c_X11_rawCount hG (d := 60) (by decide) M dv
  rw [e1] at k1
  exact ⟨r_X12_rawCount M, M, m_X12_rawCount M, k1, c_X12_rawCount hG (d := 60) (by decide) M dv, h.up.sm Sm.code⟩
theorem op_3 (hG : fOK G) (h : It c M) : Op_3 G It c M dv a b e f := by
  have e1 : r_X11_batchCount M = r_X12_batchCount M := by
    rw [r_X12_batchCount, fst1_ne (by decide)]
    exact h.1.1.1.2.2
  have k1 := c_X11_batchCount hG (d := 60) (by decide) M dv
  rw [e1] at k1
  exact ⟨r_X12_batchCount M, M, m_X12_batchCount M, k1, c_X12_batchCount hG (d := 60) (by decide) M dv, h.up.sm Sm.code⟩
theorem op_8 (hG : fOK G) (h : It c M) : Op_8 G It c M dv a b e f := by
  have e1 : r_X11_labelCount M = r_X12_labelCount M := by
    rw [r_X12_labelCount, fst1_ne (by decide)]
    exact h.1.1.2.2.1.1
  have k1 := c_X11_labelCount hG (d := 60) (by decide) M dv
  rw [e1] at k1
  exact ⟨r_X12_labelCount M, M, m_X12_labelCount M, k1, c_X12_labelCount hG (d := 60) (by decide) M dv, h.up.sm Sm.code⟩
theorem op_18 (hG : fOK G) (h : It c M) : Op_18 G It c M dv a b e f := by
  have e1 : r_X11_lotCount M = r_X12_lotCount M := by
    rw [r_X12_lotCount, fst1_ne (by decide)]
    exact h.1.1.2.2.2.1.1
  have k1 := c_X11_lotCount hG (d := 60) (by decide) M dv
  rw [e1] at k1
  exact ⟨r_X12_lotCount M, M, m_X12_lotCount M, k1, c_X12_lotCount hG (d := 60) (by decide) M dv, h.up.sm Sm.code⟩
theorem op_35 (hG : fOK G) (h : It c M) : Op_35 G It c M dv a b e f := by
  have e1 : r_X11_dayCount M = r_X12_dayCount M := by
    rw [r_X12_dayCount, fst1_ne (by decide)]
    exact h.1.1.2.2.2.2.2.1
  have k1 := c_X11_dayCount hG (d := 60) (by decide) M dv
  rw [e1] at k1
  exact ⟨r_X12_dayCount M, M, m_X12_dayCount M, k1, c_X12_dayCount hG (d := 60) (by decide) M dv, h.up.sm Sm.code⟩
theorem op_36 (hG : fOK G) (h : It c M) : Op_36 G It c M dv a b e f := by
  have e1 : r_X11_filled M = r_X12_filled M := by
    rw [r_X12_filled, fst1_ne (by decide)]
    exact h.1.1.2.2.2.2.2.2.1
  have k1 := c_X11_filled hG (d := 60) (by decide) M dv
  rw [e1] at k1
  exact ⟨r_X12_filled M, M, m_X12_filled M, k1, c_X12_filled hG (d := 60) (by decide) M dv, h.up.sm Sm.code⟩
theorem op_38 (hG : fOK G) (h : It c M) : Op_38 G It c M dv a b e f := by
  have e1 : r_X11_shipped M = r_X12_shipped M := by
    rw [r_X12_shipped, fst1_ne (by decide)]
    exact h.1.1.2.2.2.2.2.2.2.1
  have k1 := c_X11_shipped hG (d := 60) (by decide) M dv
  rw [e1] at k1
  exact ⟨r_X12_shipped M, M, m_X12_shipped M, k1, c_X12_shipped hG (d := 60) (by decide) M dv, h.up.sm Sm.code⟩
theorem op_39 (hG : fOK G) (h : It c M) : Op_39 G It c M dv a b e f := by
  have e1 : r_X11_recalled M = r_X12_recalled M := by
    rw [r_X12_recalled, fst1_ne (by decide)]
    exact h.1.1.2.2.2.2.2.2.2.2.1
  have k1 := c_X11_recalled hG (d := 60) (by decide) M dv
  rw [e1] at k1
  exact ⟨r_X12_recalled M, M, m_X12_recalled M, k1, c_X12_recalled hG (d := 60) (by decide) M dv, h.up.sm Sm.code⟩
theorem op_40 (hG : fOK G) (h : It c M) : Op_40 G It c M dv a b e f := by
  have e1 : r_X11_spoiled M = r_X12_spoiled M := by
    rw [r_X12_spoiled, fst1_ne (by decide)]
    exact h.1.1.2.2.2.2.2.2.2.2.2
  have k1 := c_X11_spoiled hG (d := 60) (by decide) M dv
  rw [e1] at k1
  exact ⟨r_X12_spoiled M, M, m_X12_spoiled M, k1, c_X12_spoiled hG (d := 60) (by decide) M dv, h.up.sm Sm.code⟩
end LOOK2
