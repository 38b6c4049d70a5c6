/-! ===== the line of a lot ===== -/
theorem m_lotL {N : Nat} {W0 : fM} {f : Nat → Int32} {a pv : Int32} {l : Nat} (h : WF N f) (h0 : W0 297 = f) (hl : l < (f 2).toNatClampNeg) : ∀ (m m' j : Nat) (W : fM) (L : List Int32), MT W0 W L → j + m = wn' f l → m < m' → L.length + m ≤ 60 → MT W0 (l_X12_writeLotL a pv (nI l) W m' j) (L ++ ltF (wl f l) m j) := by
  obtain ⟨e1, e2, e3, e4⟩ := h.lab hl
  have hlb := h.labs.2
  intro m
  induction m with
  | zero =>
    intro m' j W L hC h1 h2 h3
    obtain ⟨m', rfl⟩ : ∃ q, m' = q + 1 := ⟨m' - 1, by omega⟩
    have e7 : W 297 = f := (hC.2.1 297 (by decide) (by decide)).trans h0
    rw [l_X12_writeLotL, m_sign e7 (w := 0) (by omega) (by omega) 0 rfl, show f (23 + 7 * l + 0) = nI (wn' f l) from e1, if_pos (nI_le (by omega) (by omega)), ltF, List.append_nil]
    exact hC
  | succ m ih =>
    intro m' j W L hC h1 h2 h3
    obtain ⟨m', rfl⟩ : ∃ q, m' = q + 1 := ⟨m' - 1, by omega⟩
    have e7 : W 297 = f := (hC.2.1 297 (by decide) (by decide)).trans h0
    obtain ⟨x, x1, x2, x3⟩ := e4 j (by omega)
    have hx : sm (wl f l j) 128 := by rw [x1]; exact sm_nI (by omega) (by decide)
    rw [l_X12_writeLotL, m_sign e7 (w := 0) (by omega) (by omega) 0 rfl, show f (23 + 7 * l + 0) = nI (wn' f l) from e1, if_neg (nI_ge (by omega) (by omega)), show (1 : Int32) + nI j = nI (1 + j) from nI_add 1 j, m_sign e7 (w := 1 + j) (by omega) (by omega) _ rfl, ltF, show f (23 + 7 * l + (1 + j)) = wl f l j from rfl]
    have k := ih m' (j + 1) _ (L ++ [wl f l j]) (hC.wr (by omega) hx).1 (by omega) (by omega) (by rw [len_app]; omega)
    rw [List.append_assoc] at k
    exact k
section OPS11
variable {G : fG} {c : Nat} {M : fM} {dv : UInt64} {a b e f : Int32}
theorem op_43 (hG : fOK G) (hc512 : c < 512) (h : It c M) : Op_43 G It c M dv a b e f := by
  have hS := h.1
  have hf := hS.2
  have hn := hf.lots.2
  rcases ps_cases (M 297) a with hp | ⟨p, hp, ha, hpp⟩
  · have ec : r_X5_positionOf M (1 + 11) a = -1 := (c_ps hS a).trans hp
    have hc := c_X11_writeLot hG (d := 40) (by decide) M dv a (q300 hS) (fun q => absurd ec q)
    rw [o_X11_writeLot, if_pos ec] at hc
    have er := r_lost_n (x := a) w0 hf hp
    have er' : ¬ r_X12_isLost M a = 0 := by rw [er]; exact z_n1
    have k2 := c_X12_writeLot hG (d := 60) (by decide) M dv a ⟨N_ps w0 hf a, fun q => absurd q er', fun q => absurd q er', fun q => absurd q er', fun q => absurd q er', fun q => absurd q er', fun q => absurd q er', fun q => absurd q er', fun q => absurd q er', fun q => absurd q er', fun q => absurd q er', fun q => absurd q er'⟩
    have em : m_X12_writeLot M a = fst1 M 296 7 1 := by rw [m_X12_writeLot, if_neg er', m_lost_n w0 hf hp]
    rw [em] at k2
    exact opi_mk h 1 _ _ _ Sm.code (fst1_at _ _ _ _) (c_L_writeLot hG (by decide) (by decide) (by decide) M dv a hc 1 _ (Or.inr ⟨_, rfl, rfl, rfl⟩)) k2 (fun q => absurd q (by decide))
  · have ec : r_X5_positionOf M (1 + 11) a = nI p := (c_ps hS a).trans hpp
    obtain ⟨t0, ⟨t1, -⟩, t2, -, -, t5⟩ := hf.2.2.2 p hp
    obtain ⟨x, hx, lx⟩ := t0.ex
    obtain ⟨J, hJ, lJ⟩ := t1.ex
    obtain ⟨l, hl, ll⟩ := t2.ex
    obtain ⟨R, hR, lR⟩ := t5.ex
    rw [ha] at hx
    obtain ⟨b1, b2, b3, b4⟩ := hf.lab ll
    have h0 := CT_0 h.2.2.2.2.1
    -- the class
    have A1 := h0.num (n := x) (by show 0 + 10 ≤ 60; decide) (by omega)
    rw [← hx, List.nil_append] at A1
    have d1 := dgs_len 10 x
    have A2 := A1.add (x := 58) (by omega)
    have ecN : ¬ r_X5_positionOf M (1 + 11) a = -1 := by rw [ec]; exact n1_nI (by omega)
    have sA2 : SW (32 * c + 1) (m_X10_add (m_X10_addNumber (m_X10_clear M 270 60) 270 60 a) 270 60 (58 : Int32)) 1 (M 297) := hS.ext fun q q1 q2 => A2.2 q (by omega) (by omega)
    have j2 := c_jars sA2 hp
    have A3 := A2.num (n := J) (by rw [len_app]; omega) (by omega)
    rw [← hJ] at A3
    have d3 := dgs_len 10 J
    have A4 := A3.add (x := 120) (by rw [List.length_append, len_app]; omega)
    have hc := c_X11_writeLot hG (d := 40) (by decide) M dv a (q300 hS) (fun _ => by
      rw [ec, show rget (m_X10_add (m_X10_addNumber (m_X10_clear M 270 60) 270 60 a) 270 60 (58 : Int32)) (1 + 11 + 9) 8 (nI p) = M 297 (79 + 6 * p + 1) from j2]
      have sA4 : SW (32 * c + 1) (m_X10_add (m_X10_addNumber (m_X10_add (m_X10_addNumber (m_X10_clear M 270 60) 270 60 a) 270 60 (58 : Int32)) 270 60 (M 297 (79 + 6 * p + 1))) 270 60 (120 : Int32)) 1 (M 297) := hS.ext fun q q1 q2 => A4.2 q (by omega) (by omega)
      rw [show rget (m_X10_add (m_X10_addNumber (m_X10_add (m_X10_addNumber (m_X10_clear M 270 60) 270 60 a) 270 60 (58 : Int32)) 270 60 (M 297 (79 + 6 * p + 1))) 270 60 (120 : Int32)) (1 + 11 + 7) 8 (nI p) = M 297 (79 + 6 * p + 2) from c_mrks sA4 hp, hl, show rget (m_X10_add (m_X10_addNumber (m_X10_add (m_X10_addNumber (m_X10_clear M 270 60) 270 60 a) 270 60 (58 : Int32)) 270 60 (M 297 (79 + 6 * p + 1))) 270 60 (120 : Int32)) (1 + 6 + 1) 8 (nI l) = M 297 (23 + 7 * l) from c_lens sA4 ll, b1]
      exact sm_nI (by omega) (by decide))
    rw [o_X11_writeLot, if_neg ecN, ec, show rget (m_X10_add (m_X10_addNumber (m_X10_clear M 270 60) 270 60 a) 270 60 (58 : Int32)) (1 + 11 + 9) 8 (nI p) = M 297 (79 + 6 * p + 1) from j2] at hc
    have sA4 : SW (32 * c + 1) (m_X10_add (m_X10_addNumber (m_X10_add (m_X10_addNumber (m_X10_clear M 270 60) 270 60 a) 270 60 (58 : Int32)) 270 60 (M 297 (79 + 6 * p + 1))) 270 60 (120 : Int32)) 1 (M 297) := hS.ext fun q q1 q2 => A4.2 q (by omega) (by omega)
    have m4 := c_mrks sA4 hp
    rw [hl] at m4
    have dl : (((dgs 10 x ++ [(58 : Int32)]) ++ dgs 10 J) ++ [(120 : Int32)]).length ≤ 22 := by
      rw [len_app, List.length_append, len_app]; omega
    generalize hA4 : m_X10_add (m_X10_addNumber (m_X10_add (m_X10_addNumber (m_X10_clear M 270 60) 270 60 a) 270 60 (58 : Int32)) 270 60 (M 297 (79 + 6 * p + 1))) 270 60 (120 : Int32) = V4 at hc A4 sA4 m4
    generalize hL4 : ((dgs 10 x ++ [(58 : Int32)]) ++ dgs 10 J) ++ [(120 : Int32)] = L4 at A4 dl
    rw [show rget V4 (1 + 11 + 7) 8 (nI p) = nI l from m4] at hc
    have A5 : CT M (m_X6_appendTo V4 (1 + 6) (nI l) 270 60) (L4 ++ ltF (wl (M 297) l) (wn' (M 297) l) 0) := by
      obtain ⟨q1, q2, q3⟩ := appL (t := 270) (n := 60) (C := 60) ll (by decide) (Nat.le_refl _) (by decide) (wn' (M 297) l) 301 0 V4 L4 sA4 A4.1.2 A4.1.1 (by omega) (by omega) (by omega)
      exact ⟨⟨q1, q2⟩, fun q r1 r2 => (q3 q r1 r2).trans (A4.2 q r1 r2)⟩
    generalize m_X6_appendTo V4 (1 + 6) (nI l) 270 60 = V5 at hc A5
    have d5 : (L4 ++ ltF (wl (M 297) l) (wn' (M 297) l) 0).length ≤ 28 := by rw [List.length_append, ltF_len]; omega
    generalize hL5 : L4 ++ ltF (wl (M 297) l) (wn' (M 297) l) 0 = L5 at A5 d5
    have A6 := A5.add (x := 47) (by omega)
    have sA6 : SW (32 * c + 1) (m_X10_add V5 270 60 (47 : Int32)) 1 (M 297) := hS.ext fun q q1 q2 => A6.2 q (by omega) (by omega)
    rw [show rget (m_X10_add V5 270 60 (47 : Int32)) (1 + 11 + 11) 8 (nI p) = nI R from (c_pres sA6 hp).trans hR] at hc
    have A7 := A6.num (n := R) (by rw [len_app]; omega) (by omega)
    generalize m_X10_addNumber (m_X10_add V5 270 60 (47 : Int32)) 270 60 (nI R) = V7 at hc A7
    rw [A7.1.1.1] at hc
    have d7 := dgs_len 10 R
    have dl7 : ((L5 ++ [(47 : Int32)]) ++ dgs 10 R).length ≤ 60 := by rw [List.length_append, len_app]; omega
    generalize hlen : ((L5 ++ [(47 : Int32)]) ++ dgs 10 R).length = len at hc dl7
    -- the model
    generalize hU : fst1 V7 306 0 (nI len) = U
    have uM : ∀ q, q ≠ 270 → q ≠ 272 → q ≠ 306 → U q = M q := fun q q1 q2 q3 => by rw [← hU, fst1_ne q3]; exact A7.2 q q1 q2
    have u97 : U 297 = M 297 := uM 297 (by decide) (by decide) (by decide)
    have er := r_lost_y (x := a) u97 hf hp hpp
    have el := m_lost_y (x := a) u97 hf hp hpp
    have w97 : (fst1 U 296 7 (0 : Int32)) 297 = M 297 := by rw [fst1_ne (by decide), u97]
    have ep : r_X12_placeOf (fst1 U 296 7 0) a = nI p := (m_ps w97 hf a).trans hpp
    have B0 := MT_0 (W := fst1 U 296 7 0)
    obtain ⟨B1, n1⟩ := B0.num10 (n := x) (by show 0 + 10 ≤ 60; decide) (by omega)
    rw [← hx, List.nil_append] at B1
    rw [← hx] at n1
    have x58 : sm (58 : Int32) 128 := sm_nI (n := 58) (by decide) (by decide)
    have x47 : sm (47 : Int32) 128 := sm_nI (n := 47) (by decide) (by decide)
    have x20 : sm (120 : Int32) 128 := sm_nI (n := 120) (by decide) (by decide)
    obtain ⟨B2, n2⟩ := B1.wr (x := 58) (by omega) x58
    have hby : ∀ (W : fM) (L : List Int32), MT (fst1 U 296 7 0) W L → W 297 = M 297 := fun W L hW => (hW.2.1 297 (by decide) (by decide)).trans w97
    have j3 := m_by (hby _ _ B2) (p := p) (w := 1) (by omega) (by omega) 1 rfl
    rw [hJ] at j3
    obtain ⟨B3, n3⟩ := B2.num10 (n := J) (by rw [len_app]; omega) (by omega)
    have e3 : a0_X12_writeLot U a = m_X12_writesNumber (m_X12_writes (m_X12_writesNumber (fst1 (fst1 U 296 7 0) 296 13 0) a) 58) (nI J) := by
      rw [a0_X12_writeLot, el, ep, j3]
    obtain ⟨B4, n4⟩ := B3.wr (x := 120) (by rw [List.length_append, len_app]; omega) x20
    rw [← e3] at B4 n4
    have j4 := m_by w97 (p := p) (w := 2) (by omega) (by omega) 2 rfl
    rw [hl] at j4
    rw [hL4] at B4
    have B5 := m_lotL (a := a) (pv := nI p) hf w97 ll (wn' (M 297) l) 7 0 _ _ B4 (by omega) (by omega) (by omega)
    rw [hL5] at B5
    have e5 : a1_X12_writeLot U a = l_X12_writeLotL a (nI p) (nI l) (m_X12_writes (a0_X12_writeLot U a) 120) 7 0 := by
      rw [a1_X12_writeLot, el, ep, j4]
    rw [← e5] at B5
    obtain ⟨B6, n6⟩ := B5.wr (x := 47) (by omega) x47
    have j6 := m_by (hby _ _ B6) (p := p) (w := 5) (by omega) (by omega) 5 rfl
    rw [hR] at j6
    obtain ⟨B7, n7⟩ := B6.num10 (n := R) (by rw [len_app]; omega) (by omega)
    have e7 : a2_X12_writeLot U a = m_X12_writesNumber (m_X12_writes (a1_X12_writeLot U a) 47) (nI R) := by
      rw [a2_X12_writeLot, el, ep, j6]
    rw [← e7] at B7
    have hlp : l < 8 := by have := hf.labs.2; omega
    have hpv : ∀ (j : Nat) (W : fM), (∃ L, MT (fst1 U 296 7 0) W L ∧ L.length = L4.length + j) → r_X12_sign W (nI l) 0 = nI (wn' (M 297) l) := fun j W ⟨L, l1, l2⟩ => by
      rw [m_sign (hby _ _ l1) (w := 0) (by omega) (by omega) 0 rfl]; exact b1
    have hjl : ∀ (j : Nat) (W : fM), (∃ L, MT (fst1 U 296 7 0) W L ∧ L.length = L4.length + j) → ¬ r_X12_sign W (nI l) 0 ≤ nI j → j ≤ 6 → j < wn' (M 297) l := fun j W h1 h2 h3 => by
      rw [hpv j W h1] at h2
      exact Nat.lt_of_not_le fun q => h2 (nI_le q (by omega))
    have hsg : ∀ (j : Nat) (W : fM), (∃ L, MT (fst1 U 296 7 0) W L ∧ L.length = L4.length + j) → j < wn' (M 297) l → sm (r_X12_sign W (nI l) ((1 : Int32) + nI j)) 128 := fun j W ⟨L, l1, l2⟩ h2 => by
      obtain ⟨y, y1, y2, y3⟩ := b4 j h2
      rw [show (1 : Int32) + nI j = nI (1 + j) from nI_add 1 j, m_sign (hby _ _ l1) (w := 1 + j) (by omega) (by omega) _ rfl, show M 297 (23 + 7 * l + (1 + j)) = wl (M 297) l j from rfl, y1]
      exact sm_nI (by omega) (by decide)
    have hN : N_X12_writeLot U a := by
      refine ⟨N_ps u97 hf a, fun _ => ?_, fun _ => ?_, fun _ => ?_, fun _ => ?_, fun _ => ?_, fun _ => ?_, fun _ => n4, fun _ => ⟨fun j W => ∃ L, MT (fst1 U 296 7 0) W L ∧ L.length = L4.length + j, ⟨L4, B4, rfl⟩, ?_, ?_, ?_, ?_, ?_⟩, fun _ => n6, fun _ => ?_, fun _ => ?_⟩
      · rw [el]; exact N_ps w97 hf a
      · rw [el, ep]; exact Nby_nI (w := 2) (by omega) 2 rfl
      · rw [el]; exact n1
      · rw [el]; exact n2
      · rw [el, ep]; exact Nby_nI (w := 1) (by omega) 1 rfl
      · rw [el, ep, j3]; exact n3
      · intro j W h1 h2
        rw [el, ep, j4]
        exact Nsign_nI (w := 0) (by omega) 0 rfl
      · intro j W h1 h2 h3
        rw [el, ep, j4] at h3
        have := hjl j W h2 h3 h1; omega
      · intro j W h1 h2 h3
        rw [el, ep, j4] at h3 ⊢
        have := hjl j W h2 h3 h1
        rw [show (1 : Int32) + nI j = nI (1 + j) from nI_add 1 j]
        exact Nsign_nI (w := 1 + j) (by omega) _ rfl
      · intro j W h1 h2 h3
        rw [el, ep, j4] at h3 ⊢
        have h4 := hjl j W h2 h3 h1
        have h5 := hsg j W h2 h4
        obtain ⟨L, l1, l2⟩ := h2
        exact (l1.wr (by omega) h5).2
      · intro j W h1 h2 h3
        rw [el, ep, j4] at h3 ⊢
        have h4 := hjl j W h2 h3 h1
        have h5 := hsg j W h2 h4
        obtain ⟨L, l1, l2⟩ := h2
        exact ⟨_, (l1.wr (by omega) h5).1, by rw [len_app, l2]; rfl⟩
      · rw [el, ep]; exact Nby_nI (w := 5) (by omega) 5 rfl
      · rw [el, ep, j6]; exact n7
    have k2 := c_X12_writeLot hG (d := 60) (by decide) U dv a hN
    have em : m_X12_writeLot U a = a2_X12_writeLot U a := by rw [m_X12_writeLot, if_pos er]
    have er2 : r_X12_writeLot U a = nI len := by rw [r_X12_writeLot, if_pos er, B7.1.1, hlen]
    rw [em, er2] at k2
    have uj : ∀ j, U 296 j = V7 296 j := fun j => by rw [← hU, fst1_ne (by decide)]
    refine ⟨0, _, _, _, c_L_writeLot hG (by decide) (by decide) (by decide) M dv a hc 0 U (Or.inl ⟨_, _, rfl, rfl, hU.symm⟩), k2, ?_, fun _ => ?_, It_line2 h.up A7 (fun q q1 q2 => ?_) (fun j j1 j2 => ?_) B7 (by rw [hlen]; exact dl7)⟩
    · rw [B7.2.2 7 (by decide), fst1_at]
    · rw [B7.2.1 306 (by decide) (by decide), fst1_ne (by decide), ← hU, fst1_at]
    · rw [fst1_ne q2, ← hU, fst1_ne q1]
    · rw [fst1_nj j1, uj j]
end OPS11
