/-! ===== shipping, days, recalls ===== -/
/-- the first 127 of a row, but for its sums -/
theorem WF.cg2 {N : Nat} {f f' : Nat → Int32} (h : WF N f) (he : ∀ a, a < 127 → a < 5 ∨ 11 ≤ a → f' a = f a) : WF N f' := by
  have hb := h.bats.2
  have hl := h.labs.2
  have ho := h.lots.2
  obtain ⟨⟨a1, a2, a3, a4, a5⟩, b, d, e⟩ := h
  refine ⟨?_, ?_, ?_, ?_⟩
  · rw [he 0 (by omega) (by omega), he 1 (by omega) (by omega), he 2 (by omega) (by omega), he 3 (by omega) (by omega), he 4 (by omega) (by omega)]
    exact ⟨a1, a2, a3, a4, a5⟩
  · intro q hq
    rw [he 1 (by omega) (by omega)] at hq
    rw [he 0 (by omega) (by omega), he (11 + 2 * q) (by omega) (by omega), he (11 + 2 * q + 1) (by omega) (by omega)]
    exact b q hq
  · intro q hq
    rw [he 2 (by omega) (by omega)] at hq
    have h2 := d q hq
    have h3 := h2.1.1.2
    rw [he (23 + 7 * q) (by omega) (by omega)]
    refine ⟨h2.1, fun i hi => ?_⟩
    rw [he (23 + 7 * q + (1 + i)) (by omega) (by omega)]
    exact h2.2 i hi
  · intro q hq
    rw [he 3 (by omega) (by omega)] at hq
    rw [he 1 (by omega) (by omega), he 2 (by omega) (by omega), he (79 + 6 * q) (by omega) (by omega), he (79 + 6 * q + 1) (by omega) (by omega), he (79 + 6 * q + 2) (by omega) (by omega), he (79 + 6 * q + 3) (by omega) (by omega), he (79 + 6 * q + 4) (by omega) (by omega), he (79 + 6 * q + 5) (by omega) (by omega)]
    exact e q hq
theorem SR_sum {M : fM} {f : Nat → Int32} {x : Int32} {j i : Nat} (h : SR M 1 f) (hj : (j = 3 ∧ i = 5) ∨ (j = 4 ∧ i = 7) ∨ (j = 5 ∧ i = 8) ∨ (j = 6 ∧ i = 9) ∨ (j = 7 ∧ i = 10)) : SR (fst1 M 1 j x) 1 (up f i x) := by
  obtain ⟨⟨a1, a2, a3⟩, bb, ⟨d0, d⟩, ⟨p1, p2⟩, e, g1, g2, g3, g4, g5⟩ := h
  have u : ∀ b, b < 5 ∨ b = 6 ∨ 11 ≤ b → up f i x b = f b := fun b hb => up_ne (by omega)
  have v : ∀ a, a ≠ 1 → fst1 M 1 j x a = M a := fun a ha => fst1_ne ha
  refine ⟨⟨?_, ?_, ?_⟩, ?_, ⟨?_, ?_⟩, ⟨?_, ?_⟩, ?_, ?_⟩
  · rw [v _ (by omega), u _ (by omega)]; exact a1
  · rw [v _ (by omega), u _ (by omega)]; exact a2
  · rw [v _ (by omega), u _ (by omega)]; exact a3
  · intro q hq
    rw [u _ (by omega)] at hq
    rw [v (1 + 3) (by omega), v (1 + 5) (by omega), u (11 + 2 * q) (by omega), u (11 + 2 * q + 1) (by omega)]
    exact bb q hq
  · rw [v _ (by omega), u _ (by omega)]; exact d0
  · intro q hq
    rw [u _ (by omega)] at hq
    rw [v (1 + 8) (by omega), v (1 + 10) (by omega), u (23 + 7 * q) (by omega)]
    refine ⟨(d q hq).1, fun i hi => ?_⟩
    rw [u (23 + 7 * q + (1 + i)) (by omega)]
    exact (d q hq).2 i hi
  · rw [v _ (by omega), u _ (by omega)]; exact p1
  · rw [v _ (by omega), u _ (by omega)]; exact p2
  · intro q hq
    rw [u _ (by omega)] at hq
    rw [v (1 + 13) (by omega), v (1 + 15) (by omega), v (1 + 17) (by omega), v (1 + 19) (by omega), v (1 + 21) (by omega), v (1 + 23) (by omega), u (79 + 6 * q) (by omega), u (79 + 6 * q + 1) (by omega), u (79 + 6 * q + 2) (by omega), u (79 + 6 * q + 3) (by omega), u (79 + 6 * q + 4) (by omega), u (79 + 6 * q + 5) (by omega)]
    exact e q hq
  · rcases hj with ⟨rfl, rfl⟩ | ⟨rfl, rfl⟩ | ⟨rfl, rfl⟩ | ⟨rfl, rfl⟩ | ⟨rfl, rfl⟩
    all_goals
      simp (disch := omega) only [fs_at, fs_nj, up_at, up_ne]
      simp only [g1, g2, g3, g4, g5, and_self]
theorem SR_flt {M : fM} {f : Nat → Int32} {x : Int32} (h : SR M 1 f) : SR (fst1 M 2 3 x) 1 (up f 6 x) := by
  obtain ⟨⟨a1, a2, a3⟩, bb, ⟨d0, d⟩, ⟨p1, p2⟩, e, g1, g2, g3, g4, g5⟩ := h
  have u : ∀ b, b ≠ 6 → up f 6 x b = f b := fun b hb => up_ne hb
  have v : ∀ a, a ≠ 2 → fst1 M 2 3 x a = M a := fun a ha => fst1_ne ha
  refine ⟨⟨?_, ?_, ?_⟩, ?_, ⟨?_, ?_⟩, ⟨?_, ?_⟩, ?_, ?_, ?_, ?_, ?_, ?_⟩
  · rw [u _ (by omega)]
    show fst1 M 2 3 x 2 2 = _
    rw [fst1_nj (by decide)]; exact a1
  · rw [up_at rfl]
    exact fst1_at _ _ _ _
  · rw [u _ (by omega)]
    show fst1 M 2 3 x 2 4 = _
    rw [fst1_nj (by decide)]; exact a3
  · intro q hq
    rw [u _ (by omega)] at hq
    rw [v (1 + 3) (by omega), v (1 + 5) (by omega), u (11 + 2 * q) (by omega), u (11 + 2 * q + 1) (by omega)]
    exact bb q hq
  · rw [v _ (by omega), u _ (by omega)]; exact d0
  · intro q hq
    rw [u _ (by omega)] at hq
    rw [v (1 + 8) (by omega), v (1 + 10) (by omega), u (23 + 7 * q) (by omega)]
    refine ⟨(d q hq).1, fun i hi => ?_⟩
    rw [u (23 + 7 * q + (1 + i)) (by omega)]
    exact (d q hq).2 i hi
  · rw [v _ (by omega), u _ (by omega)]; exact p1
  · rw [v _ (by omega), u _ (by omega)]; exact p2
  · intro q hq
    rw [u _ (by omega)] at hq
    rw [v (1 + 13) (by omega), v (1 + 15) (by omega), v (1 + 17) (by omega), v (1 + 19) (by omega), v (1 + 21) (by omega), v (1 + 23) (by omega), u (79 + 6 * q) (by omega), u (79 + 6 * q + 1) (by omega), u (79 + 6 * q + 2) (by omega), u (79 + 6 * q + 3) (by omega), u (79 + 6 * q + 4) (by omega), u (79 + 6 * q + 5) (by omega)]
    exact e q hq
  · rw [v _ (by omega), u _ (by omega)]; exact g1
  · rw [v _ (by omega), u _ (by omega)]; exact g2
  · rw [v _ (by omega), u _ (by omega)]; exact g3
  · rw [v _ (by omega), u _ (by omega)]; exact g4
  · rw [v _ (by omega), u _ (by omega)]; exact g5
/-- how far the counts go -/
def Bd (f : Nat → Int32) : Prop := (f 1).toNatClampNeg < 7 ∧ (f 2).toNatClampNeg < 9 ∧ ∀ l, l < (f 2).toNatClampNeg → (f (23 + 7 * l)).toNatClampNeg < 7
theorem WF.bd {N : Nat} {f : Nat → Int32} (h : WF N f) : Bd f := ⟨h.1.2.1.2, h.1.2.2.1.2, fun l hl => (h.2.2.1 l hl).1.1.2⟩
theorem SR_pre {M : fM} {f : Nat → Int32} {x : Int32} {p : Nat} (h : SR M 1 f) (hb : Bd f) : SR (fst1 M 24 p x) 1 (up f (79 + 6 * p + 5) x) := by
  obtain ⟨⟨a1, a2, a3⟩, bb, ⟨d0, d⟩, ⟨p1, p2⟩, e, g1, g2, g3, g4, g5⟩ := h
  obtain ⟨b1, b2, b3⟩ := hb
  have u : ∀ b, b < 79 ∨ b ≠ 79 + 6 * p + 5 → up f (79 + 6 * p + 5) x b = f b := fun b hb => up_ne (by omega)
  have v : ∀ a, a ≠ 24 → fst1 M 24 p x a = M a := fun a ha => fst1_ne ha
  refine ⟨⟨?_, ?_, ?_⟩, ?_, ⟨?_, ?_⟩, ⟨?_, ?_⟩, ?_, ?_, ?_, ?_, ?_, ?_⟩
  · rw [v _ (by omega), u _ (by omega)]; exact a1
  · rw [v _ (by omega), u _ (by omega)]; exact a2
  · rw [v _ (by omega), u _ (by omega)]; exact a3
  · intro q hq
    rw [u _ (by omega)] at hq
    rw [v (1 + 3) (by omega), v (1 + 5) (by omega), u (11 + 2 * q) (by omega), u (11 + 2 * q + 1) (by omega)]
    exact bb q hq
  · rw [v _ (by omega), u _ (by omega)]; exact d0
  · intro q hq
    rw [u _ (by omega)] at hq
    have := b3 q hq
    rw [v (1 + 8) (by omega), v (1 + 10) (by omega), u (23 + 7 * q) (by omega)]
    refine ⟨(d q hq).1, fun i hi => ?_⟩
    rw [u (23 + 7 * q + (1 + i)) (by omega)]
    exact (d q hq).2 i hi
  · rw [v _ (by omega), u _ (by omega)]; exact p1
  · rw [v _ (by omega), u _ (by omega)]; exact p2
  · intro q hq
    rw [u _ (by omega)] at hq
    rw [v (1 + 13) (by omega), v (1 + 15) (by omega), v (1 + 17) (by omega), v (1 + 19) (by omega), v (1 + 21) (by omega), u (79 + 6 * q) (by omega), u (79 + 6 * q + 1) (by omega), u (79 + 6 * q + 2) (by omega), u (79 + 6 * q + 3) (by omega), u (79 + 6 * q + 4) (by omega)]
    obtain ⟨t1, t2, t3, t4, t5, t6⟩ := e q hq
    refine ⟨t1, t2, t3, t4, t5, ?_⟩
    by_cases hq : q = p
    · subst hq
      rw [up_at rfl]
      exact fst1_at _ _ _ _
    · rw [u _ (by omega)]
      show fst1 M 24 p x 24 q = _
      rw [fst1_nj hq]
      exact t6
  · rw [v _ (by omega), u _ (by omega)]; exact g1
  · rw [v _ (by omega), u _ (by omega)]; exact g2
  · rw [v _ (by omega), u _ (by omega)]; exact g3
  · rw [v _ (by omega), u _ (by omega)]; exact g4
  · rw [v _ (by omega), u _ (by omega)]; exact g5
theorem WF_pre {N : Nat} {f : Nat → Int32} {x : Int32} {p : Nat} (h : WF N f) (hx : sm x 60) : WF N (up f (79 + 6 * p + 5) x) := by
  obtain ⟨b1, b2, b3⟩ := h.bd
  have u : ∀ b, b < 79 ∨ b ≠ 79 + 6 * p + 5 → up f (79 + 6 * p + 5) x b = f b := fun b hb => up_ne (by omega)
  obtain ⟨⟨a1, a2, a3, a4, a5⟩, bb, d, e⟩ := h
  refine ⟨⟨?_, ?_, ?_, ?_, ?_⟩, fun q hq => ?_, fun q hq => ?_, fun q hq => ?_⟩
  · rw [u _ (by omega)]; exact a1
  · rw [u _ (by omega)]; exact a2
  · rw [u _ (by omega)]; exact a3
  · rw [u _ (by omega)]; exact a4
  · rw [u _ (by omega)]; exact a5
  · rw [u _ (by omega)] at hq
    rw [u 0 (by omega), u (11 + 2 * q) (by omega), u (11 + 2 * q + 1) (by omega)]
    exact bb q hq
  · rw [u _ (by omega)] at hq
    have := b3 q hq
    rw [u (23 + 7 * q) (by omega)]
    refine ⟨(d q hq).1, fun i hi => ?_⟩
    rw [u (23 + 7 * q + (1 + i)) (by omega)]
    exact (d q hq).2 i hi
  · rw [u _ (by omega)] at hq
    rw [u 1 (by omega), u 2 (by omega), u (79 + 6 * q) (by omega), u (79 + 6 * q + 1) (by omega), u (79 + 6 * q + 2) (by omega), u (79 + 6 * q + 3) (by omega), u (79 + 6 * q + 4) (by omega)]
    obtain ⟨t1, t2, t3, t4, t5, t6⟩ := e q hq
    refine ⟨t1, t2, t3, t4, t5, ?_⟩
    by_cases hq : q = p
    · subst hq
      rw [up_at rfl]
      exact hx
    · rw [u _ (by omega)]
      exact t6
/-! shipping -/
def fShip (f : Nat → Int32) (p : Nat) : Nat → Int32 := up (goF f p) 8 (f 8 + f (79 + 6 * p + 1))
theorem k_ship {N : Nat} {M : fM} {f : Nat → Int32} (hS : SW N M 1 f) (a : Int32) : (ps f a = -1 ∧ r_X8_shipRefusal M 1 a = 5) ∨ ∃ p, p < (f 3).toNatClampNeg ∧ ps f a = nI p ∧ r_X8_shipRefusal M 1 a = 0 := by
  have hn := hS.2.lots.2
  rw [r_X8_shipRefusal, c_ps hS]
  rcases ps_cases f a with h | ⟨i, h1, h2, h3⟩
  · exact Or.inl ⟨h, by rw [h, if_pos rfl]⟩
  · exact Or.inr ⟨i, h1, h3, by rw [h3, if_neg (n1_nI (by omega))]⟩
theorem b_ship {N : Nat} {f : Nat → Int32} {a : Int32} (hf : WF N f) (hp : ps f a = -1) : bad (fun W => m_X12_ship W a) (fun W => r_X12_ship W a) (fun W => N_X12_ship W a) f 1 := by
  intro W hW hk
  have e := m_ps hW hf a
  rw [hp] at e
  refine ⟨⟨N_ps hW hf a, fun q => absurd q (by rw [e]; decide), fun q => absurd q (by rw [e]; decide)⟩, ?_, ?_⟩
  · show m_X12_ship W a = _
    rw [m_X12_ship, e, if_neg (by decide)]
  · show r_X12_ship W a = _
    rw [r_X12_ship, e, if_neg (by decide)]
theorem g_ship {N : Nat} {f : Nat → Int32} {a : Int32} {p : Nat} (hf : WF N f) (hp : p < (f 3).toNatClampNeg) (ha : ps f a = nI p) : cgood (fun M => m_X8_shipLot M 1 a) (fun M => r_X8_shipLot M 1 a) N f N (fShip f p) (f (79 + 6 * p + 1)) ∧ good (fun W => m_X12_ship W a) (fun W => r_X12_ship W a) (fun W => N_X12_ship W a) f (fShip f p) (f (79 + 6 * p + 1)) := by
  have hn := hf.lots.2
  obtain ⟨b1, b2, b3⟩ := hf.bd
  refine ⟨fun M hS => ?_, fun W hW hk => ?_⟩
  · obtain ⟨s1, s2, s3⟩ := SR_go hS.1 hf.lots.1 hn b1 b2 b3 hp
    have ep : (r_X5_positionOf M (1 + 11) a).toNatClampNeg = p := by rw [c_ps hS, ha, nI_clamp (by omega)]
    have em : m_X8_shipLot M 1 a = fst1 (m_X5_remove M 12 p) 1 5 (f 8 + f (79 + 6 * p + 1)) := by
      rw [m_X8_shipLot, ep]
      show fst1 (m_X5_remove M 12 p) 1 5 (m_X5_remove M 12 p 1 5 + r_X5_remove M 12 p) = _
      rw [s2 1 (by omega), s3, show M 1 5 = f 8 from hS.1.2.2.2.2.2.2.2.1]
    show SW N (m_X8_shipLot M 1 a) 1 (fShip f p) ∧ r_X8_shipLot M 1 a = _ ∧ ∀ q, q < 1 ∨ 24 < q → m_X8_shipLot M 1 a q = M q
    rw [em]
    refine ⟨⟨SR_sum s1 (by omega), (WF_go hf hp).cg2 fun q _ hq => up_ne (by omega)⟩, ?_, fun q hq => ?_⟩
    · rw [r_X8_shipLot, ep]; exact s3
    · rw [fst1_ne (by omega), s2 q (by omega)]
  · have hk1 := hk.code (x := 0)
    have e7 : m_X12_keeps (fst1 W 296 7 0) 297 127 297 = f := by rw [kp_ne hk1 (by decide) (by decide), fst1_ne (by decide), hW]
    obtain ⟨g1, g2, g3⟩ := m_go e7 hf.lots.1 hn hp
    have e := m_ps hW hf a
    rw [ha] at e
    have h0 : 0 ≤ nI p := nI_pos' (by omega)
    refine ⟨⟨N_ps hW hf a, fun _ => N_kp hk1, fun _ => by rw [e]; exact g3⟩, ?_, ?_⟩
    · show m_X12_ship W a = _
      rw [m_X12_ship, e, if_pos h0, a0_X12_ship, e, g1, g2, cl_8, fsr_at, up2, go_lo (by omega) (by omega) hp, fShip]
    · show r_X12_ship W a = _
      rw [r_X12_ship, e, if_pos h0, g2]
/-! recalls -/
abbrev bitP (a x : Int32) : Prop := (x >>> (a &&& 31)) &&& (1 : Int32) = 0
def rcF (a : Int32) : Nat → (Nat → Int32) → Int32 → Int32 × (Nat → Int32)
  | 0, f, v => (v, f)
  | i + 1, f, v => if bitP a (ins f i) then rcF a i f v else rcF a i (up (goF f i) 9 (f 9 + f (79 + 6 * i + 1))) (v + 1)
theorem go_n {f : Nat → Int32} {i j : Nat} {x : Int32} (hn : (f 3).toNatClampNeg ≤ 8) (hj : j ≠ 3) : (up (goF f i) j x 3).toNatClampNeg = (f 3).toNatClampNeg - 1 := by
  rw [up_ne (Ne.symm hj), go_3, nI_clamp (by omega)]
theorem c_rc {N : Nat} (a : Int32) : ∀ (i : Nat) (f : Nat → Int32) (M : fM) (v : Int32), SW N M 1 f → i ≤ (f 3).toNatClampNeg → (l_X8_recallRaw 1 a M i v).1 = (rcF a i f v).1 ∧ SW N (l_X8_recallRaw 1 a M i v).2 1 (rcF a i f v).2 ∧ ∀ q, q < 1 ∨ 24 < q → (l_X8_recallRaw 1 a M i v).2 q = M q := by
  intro i
  induction i with
  | zero => intro f M v hS _; exact ⟨rfl, hS, fun _ _ => rfl⟩
  | succ i ih =>
    intro f M v hS hi
    have hn := hS.2.lots.2
    obtain ⟨b1, b2, b3⟩ := hS.2.bd
    rw [l_X8_recallRaw, rcF, c_raws hS (by omega), z_has]
    by_cases hb : bitP a (ins f i)
    · rw [if_pos hb, if_pos (show (ins f i >>> (a &&& 31)) &&& (1 : Int32) = 0 from hb)]
      exact ih f M v hS (by omega)
    · rw [if_neg hb, if_neg (show ¬ (ins f i >>> (a &&& 31)) &&& (1 : Int32) = 0 from hb)]
      obtain ⟨s1, s2, s3⟩ := SR_go (p := i) hS.1 hS.2.lots.1 hn b1 b2 b3 (by omega)
      show (l_X8_recallRaw 1 a (fst1 (m_X5_remove M 12 i) 1 6 (M 1 6 + r_X5_remove M 12 i)) i (v + 1)).1 = _ ∧ SW N (l_X8_recallRaw 1 a (fst1 (m_X5_remove M 12 i) 1 6 (M 1 6 + r_X5_remove M 12 i)) i (v + 1)).2 1 _ ∧ ∀ q, q < 1 ∨ 24 < q → (l_X8_recallRaw 1 a (fst1 (m_X5_remove M 12 i) 1 6 (M 1 6 + r_X5_remove M 12 i)) i (v + 1)).2 q = M q
      rw [s3, show M 1 6 = f 9 from hS.1.2.2.2.2.2.2.2.2.1]
      obtain ⟨t1, t2, t3⟩ := ih (up (goF f i) 9 (f 9 + f (79 + 6 * i + 1))) (fst1 (m_X5_remove M 12 i) 1 6 (f 9 + f (79 + 6 * i + 1))) (v + 1) ⟨SR_sum s1 (by omega), (WF_go hS.2 (by omega)).cg2 fun q _ hq => up_ne (by omega)⟩ (by rw [go_n hn (by decide)]; omega)
      exact ⟨t1, t2, fun q hq => by rw [t3 q hq, fst1_ne (by omega), s2 q (by omega)]⟩
theorem m_rcS {N : Nat} {W : fM} {f : Nat → Int32} {i : Nat} (hf : WF N f) (hi : i < (f 3).toNatClampNeg) (hW : W 297 = f) : a0_X12_recall W i = fsr W 297 (up (goF f i) 9 (f 9 + f (79 + 6 * i + 1))) := by
  obtain ⟨g1, g2, g3⟩ := m_go hW hf.lots.1 hf.lots.2 hi
  rw [a0_X12_recall, g1, g2, cl_9, hW, up2]
theorem WF_rcS {N : Nat} {f : Nat → Int32} {i j : Nat} {x : Int32} (hf : WF N f) (hi : i < (f 3).toNatClampNeg) (hj : 5 ≤ j ∧ j < 11) : WF N (up (goF f i) j x) := (WF_go hf hi).cg2 fun q _ hq => up_ne (by omega)
theorem m_rc {N : Nat} (a : Int32) : ∀ (i : Nat) (f : Nat → Int32) (K : fM) (v : Int32), WF N f → i ≤ (f 3).toNatClampNeg → l_X12_recallL a (fsr K 297 f) i v = ((rcF a i f v).1, fsr K 297 (rcF a i f v).2) := by
  intro i
  induction i with
  | zero => intro f K v hf _; rfl
  | succ i ih =>
    intro f K v hf hi
    have hn := hf.lots.2
    rw [l_X12_recallL, rcF, m_ins (fsr_at _ _ _) hf (by omega)]
    by_cases hb : bitP a (ins f i)
    · rw [if_pos hb, if_pos (show (ins f i >>> (a &&& 31)) &&& (1 : Int32) = 0 from hb)]
      exact ih f K v hf (by omega)
    · rw [if_neg hb, if_neg (show ¬ (ins f i >>> (a &&& 31)) &&& (1 : Int32) = 0 from hb), m_rcS hf (by omega) (fsr_at _ _ _), fsr_fsr]
      exact ih _ K (v + 1) (WF_rcS hf (by omega) (by omega)) (by rw [go_n hn (by decide)]; omega)
def rcInv (N : Nat) (i : Nat) (W : fM) : Prop := ∃ f, WF N f ∧ W 297 = f ∧ i ≤ (f 3).toNatClampNeg
def fRec (f : Nat → Int32) (a : Int32) : Int32 × (Nat → Int32) := rcF a ((f 3).toNatClampNeg) (up f 6 (f 6 ||| ((1 : Int32) <<< (a &&& 31)))) 0
theorem k_rec {N : Nat} {M : fM} {f : Nat → Int32} (hS : SW N M 1 f) (a : Int32) : (¬ (∃ i, a = nI i ∧ i < (f 0).toNatClampNeg) ∧ r_X8_recallRefusal M 1 a = 1) ∨ ((∃ i, a = nI i ∧ i < (f 0).toNatClampNeg) ∧ ¬ bitP a (f 6) ∧ r_X8_recallRefusal M 1 a = 3) ∨ ((∃ i, a = nI i ∧ i < (f 0).toNatClampNeg) ∧ bitP a (f 6) ∧ r_X8_recallRefusal M 1 a = 0) := by
  rw [r_X8_recallRefusal, c_raw hS, r_X0_isRawFaulty, z_has, show M (1 + 1) 3 = f 6 from hS.1.1.2.1]
  by_cases h : ∃ i, a = nI i ∧ i < (f 0).toNatClampNeg
  · rw [exd_pos h, if_neg (by decide)]
    by_cases hb : bitP a (f 6)
    · rw [if_pos (show (f 6 >>> (a &&& 31)) &&& (1 : Int32) = 0 from hb)]
      exact Or.inr (Or.inr ⟨h, hb, rfl⟩)
    · rw [if_neg (show ¬ (f 6 >>> (a &&& 31)) &&& (1 : Int32) = 0 from hb)]
      exact Or.inr (Or.inl ⟨h, hb, rfl⟩)
  · rw [exd_neg h, if_pos rfl]
    exact Or.inl ⟨h, rfl⟩
theorem b_rec {N : Nat} {f : Nat → Int32} {a : Int32} (hf : WF N f) (h : ¬ ∃ i, a = nI i ∧ i < (f 0).toNatClampNeg) : bad (fun W => m_X12_recall W a) (fun W => r_X12_recall W a) (fun W => N_X12_recall W a) f 1 := by
  intro W hW hk
  have e := m_raw hW hf a
  rw [exd_neg h] at e
  refine ⟨⟨fun q => absurd e q, fun q => absurd e q, fun q => absurd e q⟩, ?_, ?_⟩
  · show m_X12_recall W a = _
    rw [m_X12_recall, e, if_pos rfl]
  · show r_X12_recall W a = _
    rw [r_X12_recall, e, if_pos rfl]
theorem b_rec2 {N : Nat} {f : Nat → Int32} {a : Int32} (hf : WF N f) (h : ∃ i, a = nI i ∧ i < (f 0).toNatClampNeg) (hb : ¬ bitP a (f 6)) : bad (fun W => m_X12_recall W a) (fun W => r_X12_recall W a) (fun W => N_X12_recall W a) f 2 := by
  intro W hW hk
  have e := m_raw hW hf a
  rw [exd_pos h] at e
  have e1 : ((W 297 6 >>> (a &&& 31)) &&& (1 : Int32)) = 1 := by
    rw [hW]
    exact (z_01 _).resolve_left hb
  refine ⟨⟨fun _ q => absurd (by rw [cl_6]; exact e1) q, fun _ q => absurd (by rw [cl_6]; exact e1) q, fun _ q => absurd (by rw [cl_6]; exact e1) q⟩, ?_, ?_⟩
  · show m_X12_recall W a = _
    rw [m_X12_recall, e, cl_6, if_neg (by decide), if_pos e1]
  · show r_X12_recall W a = _
    rw [r_X12_recall, e, cl_6, if_neg (by decide), if_pos e1]
theorem g_rec {N : Nat} {f : Nat → Int32} {a : Int32} (hf : WF N f) (h : ∃ i, a = nI i ∧ i < (f 0).toNatClampNeg) (hb : bitP a (f 6)) : cgood (fun M => m_X8_recallRaw M 1 a (M (1 + 11) 6).toNatClampNeg) (fun M => r_X8_recallRaw M 1 a (M (1 + 11) 6).toNatClampNeg) N f N (fRec f a).2 (fRec f a).1 ∧ good (fun W => m_X12_recall W a) (fun W => r_X12_recall W a) (fun W => N_X12_recall W a) f (fRec f a).2 (fRec f a).1 := by
  have hn := hf.lots.2
  have hg : WF N (up f 6 (f 6 ||| ((1 : Int32) <<< (a &&& 31)))) := hf.cg2 fun q _ hq => up_ne (by omega)
  have g3 : up f 6 (f 6 ||| ((1 : Int32) <<< (a &&& 31))) 3 = f 3 := up_ne (by decide)
  refine ⟨fun M hS => ?_, fun W hW hk => ?_⟩
  · have e3 : (M (1 + 11) 6).toNatClampNeg = (f 3).toNatClampNeg := by rw [show M (1 + 11) 6 = f 3 from hS.1.2.2.2.1.1]
    have em : m_X0_markFaulty M (1 + 1) a = fst1 M 2 3 (f 6 ||| ((1 : Int32) <<< (a &&& 31))) := by
      rw [m_X0_markFaulty, show M (1 + 1) 3 = f 6 from hS.1.1.2.1]
    obtain ⟨t1, t2, t3⟩ := c_rc a ((f 3).toNatClampNeg) _ (fst1 M 2 3 (f 6 ||| ((1 : Int32) <<< (a &&& 31)))) 0 ⟨SR_flt hS.1, hg⟩ (by rw [g3]; exact Nat.le_refl _)
    show SW N (m_X8_recallRaw M 1 a (M (1 + 11) 6).toNatClampNeg) 1 _ ∧ r_X8_recallRaw M 1 a (M (1 + 11) 6).toNatClampNeg = _ ∧ ∀ q, q < 1 ∨ 24 < q → m_X8_recallRaw M 1 a (M (1 + 11) 6).toNatClampNeg q = M q
    rw [e3, m_X8_recallRaw, r_X8_recallRaw, em]
    exact ⟨t2, t1, fun q hq => by rw [t3 q hq, fst1_ne (by omega)]⟩
  · have hk1 := hk.code (x := 0)
    have e7 : m_X12_keeps (fst1 W 296 7 0) 297 127 297 = f := by rw [kp_ne hk1 (by decide) (by decide), fst1_ne (by decide), hW]
    have e := m_raw hW hf a
    rw [exd_pos h] at e
    have e1 : ¬ ((W 297 6 >>> (a &&& 31)) &&& (1 : Int32)) = 1 := by
      rw [hW, show (f 6 >>> (a &&& 31)) &&& (1 : Int32) = 0 from hb]; decide
    have ea : a1_X12_recall W a = fsr (m_X12_keeps (fst1 W 296 7 0) 297 127) 297 (up f 6 (f 6 ||| ((1 : Int32) <<< (a &&& 31)))) := by
      rw [a1_X12_recall, cl_6, e7, up1 e7]
    have e3 : (a1_X12_recall W a) 297 3 = f 3 := by rw [ea, fsr_at, g3]
    have el := m_rc a ((f 3).toNatClampNeg) _ (m_X12_keeps (fst1 W 296 7 0) 297 127) 0 hg (by rw [g3]; exact Nat.le_refl _)
    refine ⟨⟨fun _ _ => N_kp hk1, fun _ _ => ?_, fun _ _ => ⟨fun i V _ => rcInv N i V, ?_, ?_, ?_, ?_, ?_⟩⟩, ?_, ?_⟩
    · rw [cl_3, e3]; exact hf.1.2.2.2.1
    · rw [cl_3, e3]
      exact ⟨_, hg, by rw [ea, fsr_at], by rw [g3]; exact Nat.le_refl _⟩
    · rintro i V v h1 ⟨g, q1, q2, q3⟩
      exact N_ins q2 q1 (by omega)
    · rintro i V v h1 ⟨g, q1, q2, q3⟩ _
      exact (m_go q2 q1.lots.1 q1.lots.2 (by omega)).2.2
    · rintro i V v h1 ⟨g, q1, q2, q3⟩ _
      exact ⟨up (goF g i) 9 (g 9 + g (79 + 6 * i + 1)), WF_rcS q1 (by omega) (by omega), by rw [m_rcS q1 (by omega) q2, fsr_at], by rw [go_n q1.lots.2 (by decide)]; omega⟩
    · rintro i V v h1 ⟨g, q1, q2, q3⟩ _
      exact ⟨g, q1, q2, by omega⟩
    · show m_X12_recall W a = _
      rw [m_X12_recall, e, cl_6, if_neg (by decide), if_neg e1, a2_X12_recall, cl_3, e3, ea, el]
      rfl
    · show r_X12_recall W a = _
      rw [r_X12_recall, e, cl_6, if_neg (by decide), if_neg e1, cl_3, e3, ea, el]
      rfl
