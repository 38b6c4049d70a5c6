/-! ===== mixing; undo, save, restore ===== -/
def fMix (f : Nat → Int32) (a b : Int32) : Nat → Int32 := up (up (up f (11 + 2 * (f 1).toNatClampNeg) b) (11 + 2 * (f 1).toNatClampNeg + 1) a) 1 (f 1 + 1)
/-- what mix asks of its arguments -/
def okM (f : Nat → Int32) (a b : Int32) : Prop := (∃ x, a = nI x ∧ 1 ≤ x ∧ x < 2 ^ (f 0).toNatClampNeg) ∧ ∃ y, b = nI y ∧ 1 ≤ y ∧ y ≤ 20
theorem pw64 {n : Nat} (h : n ≤ 6) : 2 ^ n ≤ 64 := Nat.pow_le_pow_right (by decide) h
theorem c_set {N : Nat} {M : fM} {f : Nat → Int32} (hS : SW N M 1 f) (a : Int32) : r_X0_hasSet M (1 + 1) a = exd (∃ x, a = nI x ∧ 1 ≤ x ∧ x < 2 ^ (f 0).toNatClampNeg) := by
  obtain ⟨e0, h0⟩ := hS.2.raws
  have hp := pw64 h0
  have hp0 : 0 < 2 ^ (f 0).toNatClampNeg := Nat.two_pow_pos _
  rw [r_X0_hasSet, hS.1.1.1]
  by_cases h1 : a ≤ 0
  · rw [if_pos h1, exd_neg]
    rintro ⟨x, rfl, h2, h3⟩
    exact nI_nle h2 (by omega) h1
  · rw [if_neg h1]
    obtain ⟨x, hx, rfl⟩ := nI_of (fun q => h1 (Int32.le_of_lt q))
    have hx1 : 1 ≤ x := Nat.pos_of_ne_zero fun q => h1 (by subst q; decide)
    have e3 : nI x >>> (f 0 &&& 31) = nI (x / 2 ^ (f 0).toNatClampNeg) := by
      have := z_shr (x := x) (k := (f 0).toNatClampNeg) hx (by omega)
      rw [← e0] at this
      exact this
    rw [e3]
    have hq : x / 2 ^ (f 0).toNatClampNeg ≤ x := Nat.div_le_self _ _
    by_cases h4 : x < 2 ^ (f 0).toNatClampNeg
    · rw [if_pos (by rw [Nat.div_eq_of_lt h4]; rfl), exd_pos ⟨x, rfl, hx1, h4⟩]
    · rw [if_neg (nI_ne0 (Nat.div_pos (Nat.le_of_not_lt h4) hp0) (by omega)), exd_neg]
      rintro ⟨y, h5, h6, h7⟩
      exact h4 (by rw [(nI_eq hx (by omega)).mp h5]; exact h7)
theorem m_set {N : Nat} {W : fM} {f : Nat → Int32} (hf : WF N f) (hW : W 297 = f) (a : Int32) : r_X12_in W a (1 : Int32) (((1 : Int32) <<< ((W 297 0) &&& 31)) - (1 : Int32)) = exd (∃ x, a = nI x ∧ 1 ≤ x ∧ x < 2 ^ (f 0).toNatClampNeg) := by
  obtain ⟨e0, h0⟩ := hf.raws
  have hp := pw64 h0
  have hp0 : 0 < 2 ^ (f 0).toNatClampNeg := Nat.two_pow_pos _
  have e3 : (1 : Int32) <<< (f 0 &&& 31) = nI (2 ^ (f 0).toNatClampNeg) := by
    have := z_one (k := (f 0).toNatClampNeg) (by omega)
    rw [← e0] at this
    exact this
  rw [hW, e3, show (1 : Int32) = nI 1 from rfl, pk_sub hp0, in_nI (lo := 1) (n := 2 ^ (f 0).toNatClampNeg - 1) _ rfl _ rfl (by omega) (by omega)]
  by_cases h : ∃ x, a = nI x ∧ 1 ≤ x ∧ x < 2 ^ (f 0).toNatClampNeg
  · rw [exd_pos h]
    obtain ⟨x, x1, x2, x3⟩ := h
    exact exd_pos ⟨x, x1, x2, by omega⟩
  · rw [exd_neg h, exd_neg]
    rintro ⟨x, x1, x2, x3⟩
    exact h ⟨x, x1, x2, by omega⟩
theorem sw_mix {N : Nat} {M : fM} {f : Nat → Int32} {a b : Int32} (hS : SW N M 1 f) (ho : okM f a b) (h6 : ¬ f 1 = 6) : SW N (m_X0_addBatch M (1 + 1) a b) 1 (fMix f a b) ∧ r_X0_addBatch M (1 + 1) a b = f 1 ∧ ∀ q, q < 1 ∨ 24 < q → m_X0_addBatch M (1 + 1) a b q = M q := by
  obtain ⟨⟨x, hx, x1, x2⟩, y, hy, y1, y2⟩ := ho
  obtain ⟨e1, h1⟩ := hS.2.bats
  obtain ⟨e0, h0⟩ := hS.2.raws
  have hp := pw64 h0
  have e6 : (f 1).toNatClampNeg ≠ 6 := fun q => h6 (by rw [e1, q]; rfl)
  generalize hn : (f 1).toNatClampNeg = n at *
  have em : m_X0_addBatch M (1 + 1) a b = fst1 (fst1 (fst1 M 4 n a) 6 n b) 2 4 (nI (n + 1)) := by
    rw [m_X0_addBatch, show M (1 + 1) 4 = nI n from hS.1.1.2.2.trans e1, rset_in (by omega) (by decide), fst1_ne (show 1 + 1 ≠ 1 + 1 + 1 + 1 by decide), show M (1 + 1) 4 = nI n from hS.1.1.2.2.trans e1, rset_in (by omega) (by decide), fst1_ne (show 1 + 1 ≠ 1 + 1 + 3 + 1 by decide), fst1_ne (show 1 + 1 ≠ 1 + 1 + 1 + 1 by decide), show M (1 + 1) 4 = nI n from hS.1.1.2.2.trans e1, nI_1]
  have u : ∀ q, q ≠ 1 → q ≠ 11 + 2 * n → q ≠ 11 + 2 * n + 1 → fMix f a b q = f q := fun q q1 q2 q3 => by
    rw [fMix, hn, up_ne q1, up_ne q3, up_ne q2]
  have u1 : fMix f a b 1 = nI (n + 1) := by rw [fMix, up_at rfl, e1, nI_1]
  have ua : fMix f a b (11 + 2 * n + 1) = a := by rw [fMix, hn, up_ne (by omega), up_at rfl]
  have ub : fMix f a b (11 + 2 * n) = b := by rw [fMix, hn, up_ne (by omega), up_ne (by omega), up_at rfl]
  refine ⟨⟨?_, ?_⟩, ?_, fun q hq => ?_⟩
  · obtain ⟨⟨a1, a2, a3⟩, bb, ⟨d0, d⟩, ⟨p1, p2⟩, e, g1, g2, g3, g4, g5⟩ := hS.1
    rw [em]
    refine ⟨⟨?_, ?_, ?_⟩, ?_, ⟨?_, ?_⟩, ⟨?_, ?_⟩, ?_, ?_, ?_, ?_, ?_, ?_⟩
    · rw [u 0 (by omega) (by omega) (by omega), fst1_nj (by decide), fst1_ne (by decide), fst1_ne (by decide)]; exact a1
    · rw [u 6 (by omega) (by omega) (by omega), fst1_nj (by decide), fst1_ne (by decide), fst1_ne (by decide)]; exact a2
    · rw [u1, fst1_at]
    · intro q hq
      rw [u1, nI_clamp (by omega)] at hq
      by_cases h2 : q = n
      · subst h2
        rw [ua, ub, fst1_ne (by decide), fst1_ne (by decide), fst1_at, fst1_ne (by decide), fst1_at]
        exact ⟨rfl, rfl⟩
      · rw [u (11 + 2 * q) (by omega) (by omega) (by omega), u (11 + 2 * q + 1) (by omega) (by omega) (by omega), fst1_ne (by decide), fst1_ne (by decide), fst1_nj h2, fst1_ne (by decide), fst1_nj h2, fst1_ne (by decide)]
        exact bb q (by omega)
    · rw [u 2 (by omega) (by omega) (by omega), fst1_ne (by decide), fst1_ne (by decide), fst1_ne (by decide)]; exact d0
    · intro q hq
      rw [u 2 (by omega) (by omega) (by omega)] at hq
      rw [u (23 + 7 * q) (by omega) (by omega) (by omega), fst1_ne (by decide), fst1_ne (by decide), fst1_ne (by decide), fst1_ne (by decide), fst1_ne (by decide), fst1_ne (by decide)]
      refine ⟨(d q hq).1, fun i hi => ?_⟩
      rw [u _ (by omega) (by omega) (by omega)]
      exact (d q hq).2 i hi
    · rw [u 3 (by omega) (by omega) (by omega), fst1_ne (by decide), fst1_ne (by decide), fst1_ne (by decide)]; exact p1
    · rw [u 4 (by omega) (by omega) (by omega), fst1_ne (by decide), fst1_ne (by decide), fst1_ne (by decide)]; exact p2
    · intro q hq
      rw [u 3 (by omega) (by omega) (by omega)] at hq
      rw [u (79 + 6 * q) (by omega) (by omega) (by omega), u (79 + 6 * q + 1) (by omega) (by omega) (by omega), u (79 + 6 * q + 2) (by omega) (by omega) (by omega), u (79 + 6 * q + 3) (by omega) (by omega) (by omega), u (79 + 6 * q + 4) (by omega) (by omega) (by omega), u (79 + 6 * q + 5) (by omega) (by omega) (by omega)]
      simp (disch := omega) only [fst1_ne]
      exact e q hq
    · rw [u 5 (by omega) (by omega) (by omega), fst1_ne (by decide), fst1_ne (by decide), fst1_ne (by decide)]; exact g1
    · rw [u 7 (by omega) (by omega) (by omega), fst1_ne (by decide), fst1_ne (by decide), fst1_ne (by decide)]; exact g2
    · rw [u 8 (by omega) (by omega) (by omega), fst1_ne (by decide), fst1_ne (by decide), fst1_ne (by decide)]; exact g3
    · rw [u 9 (by omega) (by omega) (by omega), fst1_ne (by decide), fst1_ne (by decide), fst1_ne (by decide)]; exact g4
    · rw [u 10 (by omega) (by omega) (by omega), fst1_ne (by decide), fst1_ne (by decide), fst1_ne (by decide)]; exact g5
  · obtain ⟨⟨a1, a2, a3, a4, a5⟩, bb, d, e⟩ := hS.2
    refine ⟨⟨?_, ?_, ?_, ?_, ?_⟩, ?_, ?_, ?_⟩
    · rw [u 0 (by omega) (by omega) (by omega)]; exact a1
    · rw [u1]; exact sm_nI (by omega) (by decide)
    · rw [u 2 (by omega) (by omega) (by omega)]; exact a3
    · rw [u 3 (by omega) (by omega) (by omega)]; exact a4
    · rw [u 4 (by omega) (by omega) (by omega)]; exact a5
    · intro q hq
      rw [u1, nI_clamp (by omega)] at hq
      rw [u 0 (by omega) (by omega) (by omega)]
      by_cases h2 : q = n
      · subst h2
        rw [ua, ub, hx, hy, nI_clamp (by omega), nI_clamp (by omega)]
        exact ⟨⟨sm_nI (by omega) (by decide), y1⟩, sm_nI x2 (by omega), x1⟩
      · rw [u (11 + 2 * q) (by omega) (by omega) (by omega), u (11 + 2 * q + 1) (by omega) (by omega) (by omega)]
        exact bb q (by omega)
    · intro q hq
      rw [u 2 (by omega) (by omega) (by omega)] at hq
      rw [u (23 + 7 * q) (by omega) (by omega) (by omega)]
      refine ⟨(d q hq).1, fun i hi => ?_⟩
      rw [u _ (by omega) (by omega) (by omega)]
      exact (d q hq).2 i hi
    · intro q hq
      rw [u 3 (by omega) (by omega) (by omega)] at hq
      rw [u1, nI_clamp (by omega), u 2 (by omega) (by omega) (by omega), u (79 + 6 * q) (by omega) (by omega) (by omega), u (79 + 6 * q + 1) (by omega) (by omega) (by omega), u (79 + 6 * q + 2) (by omega) (by omega) (by omega), u (79 + 6 * q + 3) (by omega) (by omega) (by omega), u (79 + 6 * q + 4) (by omega) (by omega) (by omega), u (79 + 6 * q + 5) (by omega) (by omega) (by omega)]
      obtain ⟨t1, t2, t3, t4, t5, t6⟩ := e q hq
      rw [hn] at t4 t5
      exact ⟨t1, t2, t3, t4.mono (by omega), t5.mono (by omega), t6⟩
  · rw [show r_X0_addBatch M (1 + 1) a b = m_X0_addBatch M (1 + 1) a b (1 + 1) 4 - 1 from rfl, em, fst1_at, nI_pred, ← e1]
  · rw [em, fst1_ne (by omega), fst1_ne (by omega), fst1_ne (by omega)]
theorem g_mix {N : Nat} {f : Nat → Int32} {a b : Int32} (hf : WF N f) (ho : okM f a b) (h6 : ¬ f 1 = 6) (hq : a &&& f 6 = 0) : cgood (fun M => m_X0_addBatch M (1 + 1) a b) (fun M => r_X0_addBatch M (1 + 1) a b) N f N (fMix f a b) (f 1) ∧ good (fun W => m_X12_mix W a b) (fun W => r_X12_mix W a b) (fun W => N_X12_mix W a b) f (fMix f a b) (f 1) := by
  refine ⟨fun M hS => sw_mix hS ho h6, fun W hW hk => ?_⟩
  obtain ⟨e1, h1⟩ := hf.bats
  have e7 : m_X12_keeps (fst1 W 296 7 0) 297 127 297 = f := by rw [kp_ne hk.code (by decide) (by decide), fst1_ne (by decide), hW]
  have i1 := m_set hf hW a
  rw [exd_pos ho.1] at i1
  have i2 : r_X12_in W b (1 : Int32) (20 : Int32) = 1 := by rw [in_nI (lo := 1) (n := 20) 1 rfl 20 rfl (by decide) (by decide), exd_pos ho.2]
  have w6 : ¬ W 297 1 = 6 := by rw [hW]; exact h6
  have wq : a &&& W 297 6 = 0 := by rw [hW]; exact hq
  have x1 : ((11 : Int32) + ((2 : Int32) * f 1)) + 0 = nI (11 + 2 * (f 1).toNatClampNeg) := by
    have := nI_ix2 (b := (f 1).toNatClampNeg) (w := 0) 0 rfl
    rw [← e1] at this
    exact this
  have x2 : ((11 : Int32) + ((2 : Int32) * f 1)) + 1 = nI (11 + 2 * (f 1).toNatClampNeg + 1) := by
    have := nI_ix2 (b := (f 1).toNatClampNeg) (w := 1) 1 rfl
    rw [← e1] at this
    exact this
  have e6 : (f 1).toNatClampNeg ≠ 6 := fun q => h6 (by rw [e1, q]; rfl)
  generalize hn : (f 1).toNatClampNeg = n at *
  have a0 : a0_X12_mix W b = fsr (m_X12_keeps (fst1 W 296 7 0) 297 127) 297 (up f (11 + 2 * n) b) := by
    rw [a0_X12_mix, cl_1, e7, x1, nI_clamp (by omega), up1 e7]
  have a1 : a1_X12_mix W b a = fsr (m_X12_keeps (fst1 W 296 7 0) 297 127) 297 (up (up f (11 + 2 * n) b) (11 + 2 * n + 1) a) := by
    rw [a1_X12_mix, a0, fsr_at, cl_1, up_ne (by omega), x2, nI_clamp (by omega), up2]
  have a2 : a2_X12_mix W b a = fsr (m_X12_keeps (fst1 W 296 7 0) 297 127) 297 (fMix f a b) := by
    rw [a2_X12_mix, a1, fsr_at, cl_1, up_ne (by omega), up_ne (by omega), up2, fMix, hn]
  refine ⟨⟨fun _ _ _ _ => N_kp hk.code, fun _ _ _ _ => ?_, fun _ _ _ _ => ?_⟩, ?_, ?_⟩
  · rw [cl_1, e7, x1]; exact vp_in_nI (by omega) (by decide)
  · rw [a0, fsr_at, cl_1, up_ne (by omega), x2]; exact vp_in_nI (by omega) (by decide)
  · show m_X12_mix W a b = _
    rw [m_X12_mix, cl_0, cl_1, cl_6, i1, i2, if_neg (by decide), if_neg (by decide), if_neg w6, if_pos wq, a2]
  · show r_X12_mix W a b = _
    rw [r_X12_mix, cl_0, cl_1, cl_6, i1, i2, if_neg (by decide), if_neg (by decide), if_neg w6, if_pos wq, a2, fsr_at, fMix, up_at rfl, e1, nI_1, nI_pred]
theorem b_mix {N : Nat} {f : Nat → Int32} {a b : Int32} (hf : WF N f) (ho : ¬ okM f a b) : bad (fun W => m_X12_mix W a b) (fun W => r_X12_mix W a b) (fun W => N_X12_mix W a b) f 1 := by
  intro W hW hk
  have i1 := m_set hf hW a
  by_cases h1 : ∃ x, a = nI x ∧ 1 ≤ x ∧ x < 2 ^ (f 0).toNatClampNeg
  · rw [exd_pos h1] at i1
    have i2 : r_X12_in W b (1 : Int32) (20 : Int32) = 0 := by rw [in_nI (lo := 1) (n := 20) 1 rfl 20 rfl (by decide) (by decide), exd_neg (fun q => ho ⟨h1, q⟩)]
    refine ⟨⟨fun _ q => absurd i2 q, fun _ q => absurd i2 q, fun _ q => absurd i2 q⟩, ?_, ?_⟩
    · show m_X12_mix W a b = _
      rw [m_X12_mix, cl_0, i1, i2, if_neg (by decide), if_pos rfl]
    · show r_X12_mix W a b = _
      rw [r_X12_mix, cl_0, i1, i2, if_neg (by decide), if_pos rfl]
  · rw [exd_neg h1] at i1
    refine ⟨⟨fun q => absurd i1 q, fun q => absurd i1 q, fun q => absurd i1 q⟩, ?_, ?_⟩
    · show m_X12_mix W a b = _
      rw [m_X12_mix, cl_0, i1, if_pos rfl]
    · show r_X12_mix W a b = _
      rw [r_X12_mix, cl_0, i1, if_pos rfl]
theorem b_mix2 {N : Nat} {f : Nat → Int32} {a b : Int32} (hf : WF N f) (ho : okM f a b) (h6 : f 1 = 6 ∨ ¬ a &&& f 6 = 0) : bad (fun W => m_X12_mix W a b) (fun W => r_X12_mix W a b) (fun W => N_X12_mix W a b) f (if f 1 = 6 then 2 else 3) := by
  intro W hW hk
  have i1 := m_set hf hW a
  rw [exd_pos ho.1] at i1
  have i2 : r_X12_in W b (1 : Int32) (20 : Int32) = 1 := by rw [in_nI (lo := 1) (n := 20) 1 rfl 20 rfl (by decide) (by decide), exd_pos ho.2]
  have hx : ¬ W 297 1 = 6 → a &&& W 297 6 = 0 → False := fun q1 q2 => by
    rw [hW] at q1 q2
    exact h6.elim q1 (fun q => q q2)
  refine ⟨⟨fun _ _ q1 q2 => (hx q1 q2).elim, fun _ _ q1 q2 => (hx q1 q2).elim, fun _ _ q1 q2 => (hx q1 q2).elim⟩, ?_, ?_⟩
  · show m_X12_mix W a b = _
    rw [m_X12_mix, cl_0, cl_1, cl_6, i1, i2, if_neg (by decide), if_neg (by decide), hW]
    by_cases h : f 1 = 6
    · rw [if_pos h, if_pos h]
    · rw [if_neg h, if_neg h, if_neg (fun q => h6.elim h (fun r => r q))]
  · show r_X12_mix W a b = _
    rw [r_X12_mix, cl_0, cl_1, cl_6, i1, i2, if_neg (by decide), if_neg (by decide), hW]
    by_cases h : f 1 = 6
    · rw [if_pos h]
    · rw [if_neg h, if_neg (fun q => h6.elim h (fun r => r q))]
theorem k_mix {N : Nat} {M : fM} {f : Nat → Int32} (hS : SW N M 1 f) (a b : Int32) : (¬ okM f a b ∧ r_X8_mixRefusal M 1 a b = 2) ∨ (okM f a b ∧ f 1 = 6 ∧ r_X8_mixRefusal M 1 a b = 3) ∨ (okM f a b ∧ ¬ f 1 = 6 ∧ ¬ a &&& f 6 = 0 ∧ r_X8_mixRefusal M 1 a b = 4) ∨ (okM f a b ∧ ¬ f 1 = 6 ∧ a &&& f 6 = 0 ∧ r_X8_mixRefusal M 1 a b = 0) := by
  obtain ⟨e1, h1⟩ := hS.2.bats
  have c1 := c_set hS a
  rw [r_X8_mixRefusal, c1, show M (1 + 1) 4 = f 1 from hS.1.1.2.2, show M (1 + 1) 3 = f 6 from hS.1.1.2.1]
  by_cases ha : ∃ x, a = nI x ∧ 1 ≤ x ∧ x < 2 ^ (f 0).toNatClampNeg
  · rw [exd_pos ha, if_neg (by decide)]
    by_cases hb : ∃ y, b = nI y ∧ 1 ≤ y ∧ y ≤ 20
    · obtain ⟨y, rfl, y1, y2⟩ := id hb
      rw [if_neg (show ¬ nI y < (1 : Int32) from nI_nlt (b := 1) y1 (by omega)), if_pos (show nI y ≤ (20 : Int32) from nI_le (b := 20) y2 (by omega))]
      by_cases h6 : f 1 = 6
      · rw [if_neg ((lt6 e1 h1).mpr h6)]
        exact Or.inr (Or.inl ⟨⟨ha, hb⟩, h6, rfl⟩)
      · rw [if_pos (Classical.not_not.mp fun q => h6 ((lt6 e1 h1).mp q))]
        by_cases hq : a &&& f 6 = 0
        · rw [if_pos hq]; exact Or.inr (Or.inr (Or.inr ⟨⟨ha, hb⟩, h6, hq, rfl⟩))
        · rw [if_neg hq]; exact Or.inr (Or.inr (Or.inl ⟨⟨ha, hb⟩, h6, hq, rfl⟩))
    · refine Or.inl ⟨fun q => hb q.2, ?_⟩
      by_cases b1 : b < 1
      · rw [if_pos b1]
      · rw [if_neg b1, if_neg]
        intro b2
        obtain ⟨y, hy, rfl⟩ := nI_of (fun q => b1 (Int32.lt_trans q (by decide)))
        exact hb ⟨y, rfl, Nat.le_of_not_lt fun q => b1 (nI_lt (b := 1) q (by omega)), (nI_leI (b := 20) hy (by omega)).mp b2⟩
  · rw [exd_neg ha, if_pos rfl]
    exact Or.inl ⟨fun q => ha q.1, rfl⟩
section OPS6
variable {G : fG} {c : Nat} {M : fM} {dv : UInt64} {a b e f : Int32}
theorem op_1 (hG : fOK G) (h : It c M) : Op_1 G It c M dv a b e f := by
  have hS := h.1
  have hc := c_X11_mix hG (d := 40) (by decide) M dv a b (fun _ _ _ _ _ => It_73 h)
  rw [o_X11_mix] at hc
  rcases k_mix hS a b with ⟨k1, k2⟩ | ⟨k1, k3, k2⟩ | ⟨k1, k3, k4, k2⟩ | ⟨k1, k3, k4, k2⟩
  · rw [k2, if_neg (by decide), if_pos rfl] at hc
    exact op_bad h (by decide) (b_mix hS.2 k1) (c_L_mix hG (by decide) (by decide) (by decide) M dv a b hc 1 _ (Or.inr (Or.inl ⟨_, rfl, rfl, rfl⟩))) (fun W hW => c_X12_mix hG (by decide) W dv a b hW)
  · rw [k2, if_neg (by decide), if_neg (by decide), if_pos rfl] at hc
    have hb := b_mix2 hS.2 k1 (Or.inl k3)
    rw [if_pos k3] at hb
    exact op_bad h (by decide) hb (c_L_mix hG (by decide) (by decide) (by decide) M dv a b hc 2 _ (Or.inr (Or.inr (Or.inl ⟨_, rfl, rfl, rfl⟩)))) (fun W hW => c_X12_mix hG (by decide) W dv a b hW)
  · rw [k2, if_neg (by decide), if_neg (by decide), if_neg (by decide), if_pos rfl] at hc
    have hb := b_mix2 hS.2 k1 (Or.inr k4)
    rw [if_neg k3] at hb
    exact op_bad h (by decide) hb (c_L_mix hG (by decide) (by decide) (by decide) M dv a b hc 3 _ (Or.inr (Or.inr (Or.inr ⟨_, rfl, rfl, rfl⟩)))) (fun W hW => c_X12_mix hG (by decide) W dv a b hW)
  · rw [k2, if_neg (by decide), if_neg (by decide), if_neg (by decide), if_neg (by decide), if_neg (by decide)] at hc
    obtain ⟨g1, g2⟩ := g_mix hS.2 k1 k3 k4
    exact op_good h (Nat.le_refl _) (by omega) g1 g2 (c_L_mix hG (by decide) (by decide) (by decide) M dv a b hc 0 _ (Or.inl ⟨_, _, rfl, rfl, rfl⟩)) (fun W hW => c_X12_mix hG (by decide) W dv a b hW)
theorem op_53 (hG : fOK G) (h : It c M) : Op_53 G It c M dv a b e f := by
  have hS := h.1
  have k1 := c_X11_save hG (d := 60) (by decide) M dv
  obtain ⟨q1, -, -⟩ := cp8 (M := M) (k := 49) (k2 := 1) (by omega)
  have q2 := SR_cp (k := 49) (k2 := 1) (by omega) hS
  rw [r_X11_save, m_X11_save] at k1
  generalize m_X8_copyFrom M 49 1 = V at q1 q2 k1
  have k2 := c_X12_save hG (d := 60) (by decide) (fst1 V 0 10 1) dv (N_mcp (a := 0) (b := 0) (by omega) (by omega) (by omega) (by omega) 0 0 rfl rfl)
  have em : m_X12_save (fst1 V 0 10 1) = fsr (fst1 (fst1 (fst1 V 0 10 1) 296 7 0) 296 4 1) 299 (fun x => if 0 ≤ x ∧ x < 0 + 127 then M 297 (0 + (x - 0)) else M 299 x) := by
    rw [m_X12_save, mcp (a := 0) (b := 0) (by decide) (by omega) (by omega) 127 127 _ 0 0 rfl rfl, fst1_ne (show 297 ≠ 296 by decide), fst1_ne (show 297 ≠ 296 by decide), fst1_ne (show 297 ≠ 0 by decide), q1 297 (by omega), fst1_ne (show 299 ≠ 296 by decide), fst1_ne (show 299 ≠ 296 by decide), fst1_ne (show 299 ≠ 0 by decide), q1 299 (by omega)]
  have er : r_X12_save (fst1 V 0 10 1) = fst1 V 0 10 1 (1 + 11) 6 := by
    rw [show r_X12_save (fst1 V 0 10 1) = m_X12_save (fst1 V 0 10 1) 297 3 from rfl, em, fsr_ne (by decide), fst1_ne (show 297 ≠ 296 by decide), fst1_ne (show 297 ≠ 296 by decide), fst1_ne (show 297 ≠ 0 by decide), q1 297 (by omega), fst1_ne (show 1 + 11 ≠ 0 by decide), q1 (1 + 11) (by omega)]
    exact hS.1.2.2.2.1.1.symm
  rw [er, em] at k2
  refine ⟨_, _, _, k1, k2, ?_⟩
  have hM : ∀ q, q ≠ 0 → q < 49 ∨ 73 ≤ q → q ≠ 296 → q ≠ 299 → (fsr (fst1 (fst1 (fst1 V 0 10 1) 296 7 0) 296 4 1) 299 (fun x => if 0 ≤ x ∧ x < 0 + 127 then M 297 (0 + (x - 0)) else M 299 x)) q = M q := fun q q0 h1 h2 h3 => by
    rw [fsr_ne h3, fst1_ne h2, fst1_ne h2, fst1_ne q0, q1 q (by omega)]
  have hJ : ∀ j, j ≠ 4 → j ≠ 7 → (fsr (fst1 (fst1 (fst1 V 0 10 1) 296 7 0) 296 4 1) 299 (fun x => if 0 ≤ x ∧ x < 0 + 127 then M 297 (0 + (x - 0)) else M 299 x)) 296 j = M 296 j := fun j j1 j2 => by
    rw [fsr_ne (by decide), fst1_nj j1, fst1_nj j2, fst1_ne (by decide), q1 296 (by omega)]
  have h0 : ∀ j, j ≠ 10 → (fsr (fst1 (fst1 (fst1 V 0 10 1) 296 7 0) 296 4 1) 299 (fun x => if 0 ≤ x ∧ x < 0 + 127 then M 297 (0 + (x - 0)) else M 299 x)) 0 j = M 0 j := fun j j1 => by
    rw [fsr_ne (by decide), fst1_ne (by decide), fst1_ne (by decide), fst1_nj j1, q1 0 (by omega)]
  refine It.up (c := c) ⟨?_, h.2.1.ext (fun q a1 a2 => hM q (by omega) (by omega) (by omega) (by omega)) (hM 298 (by omega) (by omega) (by omega) (by omega)) (hJ 5 (by decide) (by decide)), Or.inr ⟨?_, ?_, ?_⟩, h.2.2.2.1.ext (hM 267 (by omega) (by omega) (by omega) (by omega)) (hM 269 (by omega) (by omega) (by omega) (by omega)) (hM 301 (by omega) (by omega) (by omega) (by omega)) (hJ 9 (by decide) (by decide)), h.2.2.2.2.1.ext (hM 270 (by omega) (by omega) (by omega) (by omega)) (hM 272 (by omega) (by omega) (by omega) (by omega)) (hM 302 (by omega) (by omega) (by omega) (by omega)) (hJ 13 (by decide) (by decide)), h.2.2.2.2.2.1.ext (h0 11 (by decide)) (h0 12 (by decide)) (hJ 10 (by decide) (by decide)) (hJ 11 (by decide) (by decide)), h.2.2.2.2.2.2.ext (hJ 6 (by decide) (by decide)) (congrFun (hM 273 (by omega) (by omega) (by omega) (by omega)) 0) (congrFun (hM 277 (by omega) (by omega) (by omega) (by omega)) 0)⟩
  · rw [hM 297 (by omega) (by omega) (by omega) (by omega)]
    exact hS.ext fun q a1 a2 => hM q (by omega) (by omega) (by omega) (by omega)
  · rw [fsr_ne (by decide), fst1_ne (by decide), fst1_ne (by decide), fst1_at]
  · rw [fsr_ne (by decide), fst1_at]
  · rw [fsr_at]
    refine (q2.ext fun q a1 a2 => ?_).cg fun q hq => ?_
    · rw [fsr_ne (by omega), fst1_ne (by omega), fst1_ne (by omega), fst1_ne (by omega)]
    · show (if 0 ≤ q ∧ q < 0 + 127 then M 297 (0 + (q - 0)) else M 299 q) = M 297 q
      rw [if_pos (by omega), Nat.sub_zero, Nat.zero_add]
theorem op_54 (hG : fOK G) (h : It c M) : Op_54 G It c M dv a b e f := by
  have hS := h.1
  have hc := c_X11_restore hG (d := 40) (by decide) M dv
  rw [o_X11_restore] at hc
  rcases h.2.2.1 with ⟨s1, s2⟩ | ⟨s1, s2, s3⟩
  · rw [s1, if_pos rfl] at hc
    have k2 := c_X12_restore hG (d := 60) (by decide) M dv (fun q => absurd s2 q)
    have em : m_X12_restore M = fst1 M 296 7 1 := by rw [m_X12_restore, s2, if_pos rfl]
    rw [em] at k2
    exact opi_mk h 1 _ _ _ Sm.code (fst1_at _ _ _ _) (c_L_restore hG (by decide) (by decide) (by decide) M dv hc 1 _ (Or.inr ⟨_, rfl, rfl, rfl⟩)) k2 (fun q => absurd q (by decide))
  · rw [s1, if_neg z_n1, m_X4_forget] at hc
    obtain ⟨q1, -, -⟩ := cp8 (M := M) (k := 1) (k2 := 49) (by omega)
    have q2 := SR_cp (k := 1) (k2 := 49) (by omega) s3
    have e6 : fst1 (m_X8_copyFrom M 1 49) 73 2 0 (1 + 11) 6 = M 299 3 := by rw [fst1_ne (by decide)]; exact q2.1.2.2.2.1.1
    rw [e6] at hc
    generalize m_X8_copyFrom M 1 49 = V at q1 q2 hc
    generalize hU : fst1 (fst1 V 73 2 0) 306 0 (M 299 3) = U
    have u1 : ∀ q, q < 1 ∨ 25 ≤ q → q ≠ 73 → q ≠ 306 → U q = M q := fun q h1 h2 h3 => by rw [← hU, fst1_ne h3, fst1_ne h2, q1 q (by omega)]
    have k2 := c_X12_restore hG (d := 60) (by decide) U dv (fun _ => N_mcp (a := 0) (b := 0) (by omega) (by omega) (by omega) (by omega) 0 0 rfl rfl)
    have u4 : ¬ U 296 4 = 0 := by rw [u1 296 (by omega) (by omega) (by omega), s2]; decide
    have em : m_X12_restore U = fst1 (fsr (fst1 U 296 7 0) 297 (fun x => if 0 ≤ x ∧ x < 0 + 127 then M 299 (0 + (x - 0)) else M 297 x)) 296 5 0 := by
      rw [m_X12_restore, if_neg u4, mcp (a := 0) (b := 0) (by decide) (by omega) (by omega) 127 127 _ 0 0 rfl rfl, fst1_ne (show 299 ≠ 296 by decide), fst1_ne (show 297 ≠ 296 by decide), u1 299 (by omega) (by omega) (by omega), u1 297 (by omega) (by omega) (by omega)]
    have er : r_X12_restore U = M 299 3 := by
      have e1 : r_X12_restore U = m_X12_restore U 297 3 := by rw [r_X12_restore, if_neg u4, m_X12_restore, if_neg u4]; rfl
      rw [e1, em, fst1_ne (by decide), fsr_at]
      show (if 0 ≤ 3 ∧ 3 < 0 + 127 then M 299 (0 + (3 - 0)) else M 297 3) = _
      rw [if_pos (by decide)]
    rw [er, em] at k2
    have hM : ∀ q, q < 1 ∨ 25 ≤ q → q ≠ 73 → q ≠ 306 → q ≠ 296 → q ≠ 297 → (fst1 (fsr (fst1 U 296 7 0) 297 (fun x => if 0 ≤ x ∧ x < 0 + 127 then M 299 (0 + (x - 0)) else M 297 x)) 296 5 0) q = M q := fun q h1 h2 h3 h4 h5 => by
      rw [fst1_ne h4, fsr_ne h5, fst1_ne h4, u1 q h1 h2 h3]
    have hJ : ∀ j, j ≠ 5 → j ≠ 7 → (fst1 (fsr (fst1 U 296 7 0) 297 (fun x => if 0 ≤ x ∧ x < 0 + 127 then M 299 (0 + (x - 0)) else M 297 x)) 296 5 0) 296 j = M 296 j := fun j j1 j2 => by
      rw [fst1_nj j1, fsr_ne (by decide), fst1_nj j2, u1 296 (by omega) (by omega) (by omega)]
    obtain ⟨C, n, a1, a2, a3, a4, a5, a6⟩ := h.2.1
    refine ⟨0, _, _, _, c_L_restore hG (by decide) (by decide) (by decide) M dv hc 0 U (Or.inl ⟨_, _, rfl, rfl, hU.symm⟩), k2, ?_, fun _ => ?_, It.up (c := c) ⟨?_, ⟨0, n, by omega, a2, ?_, ?_, ?_, fun i hi => absurd hi (by omega)⟩, Or.inr ⟨?_, ?_, ?_⟩, h.2.2.2.1.ext (hM 267 (by omega) (by omega) (by omega) (by omega) (by omega)) (hM 269 (by omega) (by omega) (by omega) (by omega) (by omega)) (hM 301 (by omega) (by omega) (by omega) (by omega) (by omega)) (hJ 9 (by decide) (by decide)), h.2.2.2.2.1.ext (hM 270 (by omega) (by omega) (by omega) (by omega) (by omega)) (hM 272 (by omega) (by omega) (by omega) (by omega) (by omega)) (hM 302 (by omega) (by omega) (by omega) (by omega) (by omega)) (hJ 13 (by decide) (by decide)), h.2.2.2.2.2.1.ext (congrFun (hM 0 (by omega) (by omega) (by omega) (by omega) (by omega)) 11) (congrFun (hM 0 (by omega) (by omega) (by omega) (by omega) (by omega)) 12) (hJ 10 (by decide) (by decide)) (hJ 11 (by decide) (by decide)), h.2.2.2.2.2.2.ext (hJ 6 (by decide) (by decide)) (congrFun (hM 273 (by omega) (by omega) (by omega) (by omega) (by omega)) 0) (congrFun (hM 277 (by omega) (by omega) (by omega) (by omega) (by omega)) 0)⟩⟩
    · rw [fst1_nj (by decide), fsr_ne (by decide), fst1_at]
    · rw [fst1_ne (by decide), fsr_ne (by decide), fst1_ne (by decide), ← hU, fst1_at]
    · rw [fst1_ne (by decide), fsr_at]
      refine (q2.ext fun q h1 h2 => ?_).cg fun q hq => ?_
      · rw [fst1_ne (by omega), fsr_ne (by omega), fst1_ne (by omega), ← hU, fst1_ne (by omega), fst1_ne (by omega)]
      · show (if 0 ≤ q ∧ q < 0 + 127 then M 299 (0 + (q - 0)) else M 297 q) = M 299 q
        rw [if_pos (by omega), Nat.sub_zero, Nat.zero_add]
    · rw [fst1_at]; rfl
    · rw [fst1_ne (by decide), fsr_ne (by decide), fst1_ne (by decide), ← hU, fst1_ne (by decide), fst1_at]; rfl
    · rw [fst1_ne (by decide), fsr_ne (by decide), fst1_ne (by decide), ← hU, fst1_ne (by decide), fst1_nj (by decide), q1 73 (by omega)]; exact a5
    · rw [congrFun (hM 0 (by omega) (by omega) (by omega) (by omega) (by omega)) 10]; exact s1
    · rw [hJ 4 (by decide) (by decide)]; exact s2
    · rw [hM 299 (by omega) (by omega) (by omega) (by omega) (by omega)]
      exact s3.ext fun q h1 h2 => hM q (by omega) (by omega) (by omega) (by omega) (by omega)
theorem op_52 (hG : fOK G) (h : It c M) : Op_52 G It c M dv a b e f := by
  have hS := h.1
  obtain ⟨C, n, a1, a2, a3, a4, a5, a6⟩ := h.2.1
  have hc := c_X11_undo hG (d := 40) (by decide) M dv (fun _ q => by
    rw [a5] at q ⊢
    have : 0 < n := Nat.pos_of_ne_zero fun r => by subst r; exact absurd q (by decide)
    rw [show n = n - 1 + 1 by omega, nI_pred]
    exact sm_nI (by omega) (by decide))
  rw [o_X11_undo] at hc
  by_cases hC : C = 0
  · subst hC
    have a4 : M 73 2 = 0 := a4
    have a3 : M 296 5 = 0 := a3
    rw [if_pos a4] at hc
    have k2 := c_X12_undo hG (d := 60) (by decide) M dv (fun q => absurd a3 q)
    have em : m_X12_undo M = fst1 M 296 7 1 := by rw [m_X12_undo, if_pos a3]
    rw [em] at k2
    exact opi_mk h 1 _ _ _ Sm.code (fst1_at _ _ _ _) (c_L_undo hG (by decide) (by decide) (by decide) M dv hc 1 _ (Or.inr ⟨_, rfl, rfl, rfl⟩)) k2 (fun q => absurd q (by decide))
  · have hC0 : 0 < C := Nat.pos_of_ne_zero hC
    have er0 : rg n C (C - 1) < 8 := Nat.mod_lt _ (by decide)
    have h6 := a6 (C - 1) (by omega)
    have hT : m_X4_takeBack M 1 = fst1 (fst1 (m_X8_copyFrom M 1 (75 + 24 * rg n C (C - 1))) 73 1 (nI (rg n C (C - 1)))) 73 2 (nI (C - 1)) := by
      obtain ⟨q1, -, -⟩ := cp8 (M := M) (k := 1) (k2 := 75 + 24 * rg n C (C - 1)) (by omega)
      have e9 : (fst1 (m_X8_copyFrom M 1 (75 + 24 * rg n C (C - 1))) 73 1 (nI (rg n C (C - 1)))) 73 2 - 1 = nI (C - 1) := by
        rw [fst1_nj (by decide), q1 73 (by omega), a4, show C = C - 1 + 1 by omega, nI_pred, Nat.add_sub_cancel]
      have n2 : ¬ M 73 2 ≤ 0 := by rw [a4]; exact nI_nle hC0 (by omega)
      rw [m_X4_takeBack]
      by_cases hn : n = 0
      · have e7 : rg n C (C - 1) = 7 := by unfold rg; omega
        rw [e7] at e9 ⊢
        rw [if_pos (by rw [a5, hn]; decide), if_neg n2, e9]
      · have e7 : rg n C (C - 1) = n - 1 := by unfold rg; omega
        have e8 : M 73 1 - 1 = nI (n - 1) := by rw [a5, show n = n - 1 + 1 by omega, nI_pred, Nat.add_sub_cancel]
        rw [e7] at e9 ⊢
        rw [if_neg (by rw [a5]; exact nI_nle (Nat.pos_of_ne_zero hn) (by omega)), if_neg n2, e8, nI_clamp (by omega), e9]
    obtain ⟨q1, -, -⟩ := cp8 (M := M) (k := 1) (k2 := 75 + 24 * rg n C (C - 1)) (by omega)
    have q2 := SR_cp (k := 1) (k2 := 75 + 24 * rg n C (C - 1)) (by omega) h6
    rw [if_neg (by rw [a4]; exact nI_ne0 hC0 (by omega)), hT, fst1_at] at hc
    generalize m_X8_copyFrom M 1 (75 + 24 * rg n C (C - 1)) = V at q1 q2 hc
    generalize hU : fst1 (fst1 (fst1 V 73 1 (nI (rg n C (C - 1)))) 73 2 (nI (C - 1))) 306 0 (nI (C - 1)) = U
    have u1 : ∀ q, q < 1 ∨ 25 ≤ q → q ≠ 73 → q ≠ 306 → U q = M q := fun q h1 h2 h3 => by rw [← hU, fst1_ne h3, fst1_ne h2, fst1_ne h2, q1 q (by omega)]
    have v5 : (fst1 U 296 7 (0 : Int32)) 296 5 - 1 = nI (C - 1) := by rw [fst1_nj (by decide), u1 296 (by omega) (by omega) (by omega), a3, show C = C - 1 + 1 by omega, nI_pred, Nat.add_sub_cancel]
    have k2 := c_X12_undo hG (d := 60) (by decide) U dv (fun _ => by
      rw [v5, fst1_at]
      exact N_mcp (a := 127 * (C - 1)) (b := 0) (by omega) (by omega) (by omega) (by omega) _ 0 (pk_mul 127 _) rfl)
    have u4 : ¬ U 296 5 = 0 := by rw [u1 296 (by omega) (by omega) (by omega), a3]; exact nI_ne0 hC0 (by omega)
    have em0 : a0_X12_undo U = fsr (fst1 (fst1 U 296 7 0) 296 5 (nI (C - 1))) 297 (fun x => if 0 ≤ x ∧ x < 0 + 127 then M 298 (127 * (C - 1) + (x - 0)) else M 297 x) := by
      rw [a0_X12_undo, v5, fst1_at, mcp (p := 298) (q := 297) (a := 127 * (C - 1)) (b := 0) (by decide) (by omega) (by omega) 1016 127 _ (127 * nI (C - 1)) 0 (pk_mul 127 _) rfl, fst1_ne (show 298 ≠ 296 by decide), fst1_ne (show 298 ≠ 296 by decide), fst1_ne (show 297 ≠ 296 by decide), fst1_ne (show 297 ≠ 296 by decide), u1 298 (by omega) (by omega) (by omega), u1 297 (by omega) (by omega) (by omega)]
    have em : m_X12_undo U = fsr (fst1 (fst1 U 296 7 0) 296 5 (nI (C - 1))) 297 (fun x => if 0 ≤ x ∧ x < 0 + 127 then M 298 (127 * (C - 1) + (x - 0)) else M 297 x) := by
      rw [m_X12_undo, if_neg u4, em0]
    have er : r_X12_undo U = nI (C - 1) := by
      rw [r_X12_undo, if_neg u4, em0, fsr_ne (by decide), fst1_at]
    rw [er, em] at k2
    have hM : ∀ q, q < 1 ∨ 25 ≤ q → q ≠ 73 → q ≠ 306 → q ≠ 296 → q ≠ 297 → (fsr (fst1 (fst1 U 296 7 0) 296 5 (nI (C - 1))) 297 (fun x => if 0 ≤ x ∧ x < 0 + 127 then M 298 (127 * (C - 1) + (x - 0)) else M 297 x)) q = M q := fun q h1 h2 h3 h4 h5 => by
      rw [fsr_ne h5, fst1_ne h4, fst1_ne h4, u1 q h1 h2 h3]
    have hJ : ∀ j, j ≠ 5 → j ≠ 7 → (fsr (fst1 (fst1 U 296 7 0) 296 5 (nI (C - 1))) 297 (fun x => if 0 ≤ x ∧ x < 0 + 127 then M 298 (127 * (C - 1) + (x - 0)) else M 297 x)) 296 j = M 296 j := fun j j1 j2 => by
      rw [fsr_ne (by decide), fst1_nj j1, fst1_nj j2, u1 296 (by omega) (by omega) (by omega)]
    refine ⟨0, _, _, _, c_L_undo hG (by decide) (by decide) (by decide) M dv hc 0 U (Or.inl ⟨_, _, rfl, rfl, hU.symm⟩), k2, ?_, fun _ => ?_, It.up (c := c) ⟨?_, ⟨C - 1, rg n C (C - 1), by omega, er0, ?_, ?_, ?_, fun i hi => ?_⟩, ?_, h.2.2.2.1.ext (hM 267 (by omega) (by omega) (by omega) (by omega) (by omega)) (hM 269 (by omega) (by omega) (by omega) (by omega) (by omega)) (hM 301 (by omega) (by omega) (by omega) (by omega) (by omega)) (hJ 9 (by decide) (by decide)), h.2.2.2.2.1.ext (hM 270 (by omega) (by omega) (by omega) (by omega) (by omega)) (hM 272 (by omega) (by omega) (by omega) (by omega) (by omega)) (hM 302 (by omega) (by omega) (by omega) (by omega) (by omega)) (hJ 13 (by decide) (by decide)), h.2.2.2.2.2.1.ext (congrFun (hM 0 (by omega) (by omega) (by omega) (by omega) (by omega)) 11) (congrFun (hM 0 (by omega) (by omega) (by omega) (by omega) (by omega)) 12) (hJ 10 (by decide) (by decide)) (hJ 11 (by decide) (by decide)), h.2.2.2.2.2.2.ext (hJ 6 (by decide) (by decide)) (congrFun (hM 273 (by omega) (by omega) (by omega) (by omega) (by omega)) 0) (congrFun (hM 277 (by omega) (by omega) (by omega) (by omega) (by omega)) 0)⟩⟩
    · rw [fsr_ne (by decide), fst1_nj (by decide), fst1_at]
    · rw [fsr_ne (by decide), fst1_ne (by decide), fst1_ne (by decide), ← hU, fst1_at]
    · rw [fsr_at]
      refine (q2.ext fun q h1 h2 => ?_).cg fun q hq => ?_
      · rw [fsr_ne (by omega), fst1_ne (by omega), fst1_ne (by omega), ← hU, fst1_ne (by omega), fst1_ne (by omega), fst1_ne (by omega)]
      · show (if 0 ≤ q ∧ q < 0 + 127 then M 298 (127 * (C - 1) + (q - 0)) else M 297 q) = M 298 (127 * (C - 1) + q)
        rw [if_pos (by omega), Nat.sub_zero]
    · rw [fsr_ne (by decide), fst1_at]
    · rw [fsr_ne (by decide), fst1_ne (by decide), fst1_ne (by decide), ← hU, fst1_ne (by decide), fst1_at]
    · rw [fsr_ne (by decide), fst1_ne (by decide), fst1_ne (by decide), ← hU, fst1_ne (by decide), fst1_nj (by decide), fst1_at]
    · have er : rg (rg n C (C - 1)) (C - 1) i = rg n C i := by unfold rg; omega
      have er3 : rg n C i < 8 := Nat.mod_lt _ (by decide)
      rw [er, hM 298 (by omega) (by omega) (by omega) (by omega) (by omega)]
      exact (a6 i (by omega)).ext fun q h1 h2 => hM q (by omega) (by omega) (by omega) (by omega) (by omega)
    · exact h.2.2.1.ext (fun q h1 h2 => hM q (by omega) (by omega) (by omega) (by omega) (by omega)) (hM 299 (by omega) (by omega) (by omega) (by omega) (by omega)) (congrFun (hM 0 (by omega) (by omega) (by omega) (by omega) (by omega)) 10) (hJ 4 (by decide) (by decide))
end OPS6
