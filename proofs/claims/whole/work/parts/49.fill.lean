/-! ===== filling ===== -/
theorem z_dis (x y z : Int32) : (x ||| y) &&& z = (x &&& z) ||| (y &&& z) := by
  apply Int32.toBitVec_inj.mp
  simp only [Int32.toBitVec_and, Int32.toBitVec_or]
  ext i
  simp [Bool.and_or_distrib_right]
theorem fst1_2 {M : fM} {k j : Nat} {x y : Int32} : fst1 (fst1 M k j x) k j y = fst1 M k j y := by
  funext a
  by_cases h : a = k
  · subst h
    funext b
    by_cases hb : b = j
    · subst hb; rw [fst1_at, fst1_at]
    · rw [fst1_nj hb, fst1_nj hb, fst1_nj hb]
  · rw [fst1_ne h, fst1_ne h, fst1_ne h]
def lotI (f : Nat → Int32) : Nat := 79 + 6 * (f 3).toNatClampNeg
def fFill (f : Nat → Int32) (a b c e : Int32) : Nat → Int32 := up (up (up (up (up (up (up (up (up f (lotI f) (f 4)) (lotI f + 1) e) (lotI f + 2) c) (lotI f + 3) a) (lotI f + 4) b) (lotI f + 5) 0) 3 (f 3 + 1)) 4 (f 4 + 1)) 7 (f 7 + e)
def okF1 (f : Nat → Int32) (a b c : Int32) : Prop := (∃ i, a = nI i ∧ i < (f 1).toNatClampNeg) ∧ (∃ i, b = nI i ∧ i < (f 1).toNatClampNeg) ∧ ∃ i, c = nI i ∧ i < (f 2).toNatClampNeg
def okF2 (e : Int32) : Prop := ∃ y, e = nI y ∧ 1 ≤ y ∧ y ≤ 9
def okF4 (f : Nat → Int32) (a b : Int32) : Prop := (f (11 + 2 * a.toNatClampNeg + 1) ||| f (11 + 2 * b.toNatClampNeg + 1)) &&& f 6 = 0
theorem em_add {M : fM} {n : Nat} (hn : n < 8) (h6 : M 12 6 = nI n) (a b c e : Int32) : m_X5_add M 12 a b c e = fst1 (fst1 (fst1 (fst1 (fst1 (fst1 (fst1 (fst1 M 14 n (M 12 7)) 16 n a) 18 n b) 20 n c) 22 n e) 24 n 0) 12 6 (nI (n + 1))) 12 7 (M 12 7 + 1) := by
  have h8 : (8 : Nat) < 2 ^ 31 := by decide
  simp (disch := first | exact h8 | omega) only [m_X5_add, h6, rset_in, fst1_ne, fs_at, fs_nj, nI_1]
theorem sw_fill {N : Nat} {M : fM} {f : Nat → Int32} {a b c e : Int32} (hS : SW N M 1 f) (o1 : okF1 f a b c) (o2 : okF2 e) (h8 : ¬ f 3 = 8) (hN : N < 2 ^ 20) : SW (N + 1) (m_X8_fillLot M 1 a b c e) 1 (fFill f a b c e) ∧ r_X8_fillLot M 1 a b c e = f 4 ∧ ∀ q, q < 1 ∨ 24 < q → m_X8_fillLot M 1 a b c e q = M q := by
  obtain ⟨⟨ia, hia, la⟩, ⟨ib, hib, lb⟩, ic, hic, lc⟩ := o1
  obtain ⟨y, hy, y1, y2⟩ := o2
  obtain ⟨e3, h3⟩ := hS.2.lots
  obtain ⟨e4, h4⟩ := hS.2.nxt
  obtain ⟨b1, b2, b3⟩ := hS.2.bd
  have e8 : (f 3).toNatClampNeg ≠ 8 := fun q => h8 (by rw [e3, q]; rfl)
  generalize hn : (f 3).toNatClampNeg = n at *
  have hl : lotI f = 79 + 6 * n := by rw [lotI, hn]
  have em : m_X8_fillLot M 1 a b c e = fst1 (fst1 (fst1 (fst1 (fst1 (fst1 (fst1 (fst1 (fst1 M 1 4 (f 7 + e)) 14 n (f 4)) 16 n a) 18 n b) 20 n c) 22 n e) 24 n 0) 12 6 (nI (n + 1))) 12 7 (f 4 + 1) := by
    rw [m_X8_fillLot, show M 1 4 = f 7 from hS.1.2.2.2.2.2.2.1]
    have h6 : (fst1 M 1 4 (f 7 + e)) 12 6 = nI n := by rw [fst1_ne (by decide)]; exact hS.1.2.2.2.1.1.trans e3
    have h7 : (fst1 M 1 4 (f 7 + e)) 12 7 = f 4 := by rw [fst1_ne (by decide)]; exact hS.1.2.2.2.1.2
    have := em_add (by omega) h6 a b c e
    rw [h7] at this
    exact this
  have u : ∀ q, q ≠ 3 → q ≠ 4 → q ≠ 7 → q < 79 + 6 * n ∨ 79 + 6 * n + 6 ≤ q → fFill f a b c e q = f q := fun q q1 q2 q3 q4 => by
    rw [fFill, hl, up_ne q3, up_ne q2, up_ne q1, up_ne (by omega), up_ne (by omega), up_ne (by omega), up_ne (by omega), up_ne (by omega), up_ne (by omega)]
  have u3 : fFill f a b c e 3 = nI (n + 1) := by rw [fFill, hl, up_ne (by omega), up_ne (by omega), up_at rfl, e3, nI_1]
  have u4 : fFill f a b c e 4 = nI ((f 4).toNatClampNeg + 1) := by rw [fFill, hl, up_ne (by omega), up_at rfl, ← nI_1, ← e4]
  have u7 : fFill f a b c e 7 = f 7 + e := by rw [fFill, hl, up_at rfl]
  have uw : fFill f a b c e (79 + 6 * n) = f 4 ∧ fFill f a b c e (79 + 6 * n + 1) = e ∧ fFill f a b c e (79 + 6 * n + 2) = c ∧ fFill f a b c e (79 + 6 * n + 3) = a ∧ fFill f a b c e (79 + 6 * n + 4) = b ∧ fFill f a b c e (79 + 6 * n + 5) = 0 := by
    refine ⟨?_, ?_, ?_, ?_, ?_, ?_⟩
    all_goals
      rw [fFill, hl]
      simp (disch := omega) only [up_ne, up_at]
  obtain ⟨w0, w1, w2, w3, w4, w5⟩ := uw
  refine ⟨⟨?_, ?_⟩, ?_, fun q hq => ?_⟩
  · obtain ⟨⟨a1, a2, a3⟩, bb, ⟨d0, d⟩, ⟨p1, p2⟩, ee, g1, g2, g3, g4, g5⟩ := hS.1
    rw [em]
    have v : ∀ q, q ≠ 1 → q ≠ 14 → q ≠ 16 → q ≠ 18 → q ≠ 20 → q ≠ 22 → q ≠ 24 → q ≠ 12 → (fst1 (fst1 (fst1 (fst1 (fst1 (fst1 (fst1 (fst1 (fst1 M 1 4 (f 7 + e)) 14 n (f 4)) 16 n a) 18 n b) 20 n c) 22 n e) 24 n 0) 12 6 (nI (n + 1))) 12 7 (f 4 + 1)) q = M q := fun q q1 q2 q3 q4 q5 q6 q7 q8 => by
      simp (disch := omega) only [fst1_ne]
    refine ⟨⟨?_, ?_, ?_⟩, ?_, ⟨?_, ?_⟩, ⟨?_, ?_⟩, ?_, ?_, ?_, ?_, ?_, ?_⟩
    · rw [v _ (by omega) (by omega) (by omega) (by omega) (by omega) (by omega) (by omega) (by omega), u _ (by omega) (by omega) (by omega) (by omega)]; exact a1
    · rw [v _ (by omega) (by omega) (by omega) (by omega) (by omega) (by omega) (by omega) (by omega), u _ (by omega) (by omega) (by omega) (by omega)]; exact a2
    · rw [v _ (by omega) (by omega) (by omega) (by omega) (by omega) (by omega) (by omega) (by omega), u _ (by omega) (by omega) (by omega) (by omega)]; exact a3
    · intro q hq
      rw [u 1 (by omega) (by omega) (by omega) (by omega)] at hq
      rw [v (1 + 3) (by omega) (by omega) (by omega) (by omega) (by omega) (by omega) (by omega) (by omega), v (1 + 5) (by omega) (by omega) (by omega) (by omega) (by omega) (by omega) (by omega) (by omega), u (11 + 2 * q) (by omega) (by omega) (by omega) (by omega), u (11 + 2 * q + 1) (by omega) (by omega) (by omega) (by omega)]
      exact bb q hq
    · rw [v _ (by omega) (by omega) (by omega) (by omega) (by omega) (by omega) (by omega) (by omega), u _ (by omega) (by omega) (by omega) (by omega)]; exact d0
    · intro q hq
      rw [u 2 (by omega) (by omega) (by omega) (by omega)] at hq
      have := b3 q hq
      rw [v (1 + 8) (by omega) (by omega) (by omega) (by omega) (by omega) (by omega) (by omega) (by omega), v (1 + 10) (by omega) (by omega) (by omega) (by omega) (by omega) (by omega) (by omega) (by omega), u (23 + 7 * q) (by omega) (by omega) (by omega) (by omega)]
      refine ⟨(d q hq).1, fun i hi => ?_⟩
      rw [u (23 + 7 * q + (1 + i)) (by omega) (by omega) (by omega) (by omega)]
      exact (d q hq).2 i hi
    · rw [u3]
      show fst1 _ 12 7 _ 12 6 = _
      rw [fst1_nj (by decide), fst1_at]
    · show fst1 _ 12 7 _ 12 7 = _
      rw [u4, fst1_at]
      have e5 : f 4 + 1 = nI ((f 4).toNatClampNeg + 1) := by rw [← nI_1, ← e4]
      exact e5
    · intro q hq
      rw [u3, nI_clamp (by omega)] at hq
      by_cases h2 : q = n
      · subst h2
        rw [w0, w1, w2, w3, w4, w5]
        refine ⟨?_, ?_, ?_, ?_, ?_, ?_⟩
        all_goals simp (disch := omega) only [fst1_ne, fs_at]
      · obtain ⟨t1, t2, t3, t4, t5, t6⟩ := ee q (by omega)
        rw [u (79 + 6 * q) (by omega) (by omega) (by omega) (by omega), u (79 + 6 * q + 1) (by omega) (by omega) (by omega) (by omega), u (79 + 6 * q + 2) (by omega) (by omega) (by omega) (by omega), u (79 + 6 * q + 3) (by omega) (by omega) (by omega) (by omega), u (79 + 6 * q + 4) (by omega) (by omega) (by omega) (by omega), u (79 + 6 * q + 5) (by omega) (by omega) (by omega) (by omega), ← t1, ← t2, ← t3, ← t4, ← t5, ← t6]
        refine ⟨?_, ?_, ?_, ?_, ?_, ?_⟩
        all_goals simp (disch := omega) only [fst1_ne, fs_nj]
    · rw [u _ (by omega) (by omega) (by omega) (by omega)]
      simp (disch := omega) only [fst1_ne, fs_nj]
      exact g1
    · rw [u7]
      simp (disch := omega) only [fst1_ne, fs_at]
    · rw [u _ (by omega) (by omega) (by omega) (by omega)]
      simp (disch := omega) only [fst1_ne, fs_nj]
      exact g3
    · rw [u _ (by omega) (by omega) (by omega) (by omega)]
      simp (disch := omega) only [fst1_ne, fs_nj]
      exact g4
    · rw [u _ (by omega) (by omega) (by omega) (by omega)]
      simp (disch := omega) only [fst1_ne, fs_nj]
      exact g5
  · obtain ⟨⟨a1, a2, a3, a4, a5⟩, bb, d, ee⟩ := hS.2
    refine ⟨⟨?_, ?_, ?_, ?_, ?_⟩, fun q hq => ?_, fun q hq => ?_, fun q hq => ?_⟩
    · rw [u _ (by omega) (by omega) (by omega) (by omega)]; exact a1
    · rw [u _ (by omega) (by omega) (by omega) (by omega)]; exact a2
    · rw [u _ (by omega) (by omega) (by omega) (by omega)]; exact a3
    · rw [u3]; exact sm_nI (by omega) (by decide)
    · rw [u4]; exact sm_nI (by omega) (by omega)
    · rw [u 1 (by omega) (by omega) (by omega) (by omega)] at hq
      rw [u 0 (by omega) (by omega) (by omega) (by omega), u (11 + 2 * q) (by omega) (by omega) (by omega) (by omega), u (11 + 2 * q + 1) (by omega) (by omega) (by omega) (by omega)]
      exact bb q hq
    · rw [u 2 (by omega) (by omega) (by omega) (by omega)] at hq
      have := b3 q hq
      rw [u (23 + 7 * q) (by omega) (by omega) (by omega) (by omega)]
      refine ⟨(d q hq).1, fun i hi => ?_⟩
      rw [u (23 + 7 * q + (1 + i)) (by omega) (by omega) (by omega) (by omega)]
      exact (d q hq).2 i hi
    · rw [u3, nI_clamp (by omega)] at hq
      rw [u 1 (by omega) (by omega) (by omega) (by omega), u 2 (by omega) (by omega) (by omega) (by omega)]
      by_cases h2 : q = n
      · subst h2
        rw [w0, w1, w2, w3, w4, w5, hia, hib, hic, hy, nI_clamp (by omega)]
        exact ⟨a5.mono (by omega), ⟨sm_nI (by omega) (by decide), y1⟩, sm_nI lc (by omega), sm_nI la (by omega), sm_nI lb (by omega), sm_nI (n := 0) (by decide) (by decide)⟩
      · obtain ⟨t1, t2⟩ := ee q (by omega)
        rw [u (79 + 6 * q) (by omega) (by omega) (by omega) (by omega), u (79 + 6 * q + 1) (by omega) (by omega) (by omega) (by omega), u (79 + 6 * q + 2) (by omega) (by omega) (by omega) (by omega), u (79 + 6 * q + 3) (by omega) (by omega) (by omega) (by omega), u (79 + 6 * q + 4) (by omega) (by omega) (by omega) (by omega), u (79 + 6 * q + 5) (by omega) (by omega) (by omega) (by omega)]
        exact ⟨t1.mono (by omega), t2⟩
  · rw [show r_X8_fillLot M 1 a b c e = m_X8_fillLot M 1 a b c e 12 7 - 1 from rfl, em, fst1_at, e4, nI_1, nI_pred]
  · rw [em]
    simp (disch := omega) only [fst1_ne]
theorem k_fill {N : Nat} {M : fM} {f : Nat → Int32} (hS : SW N M 1 f) (a b c e : Int32) : (¬ okF1 f a b c ∧ r_X8_fillRefusal M 1 a b c e = 1) ∨ (okF1 f a b c ∧ ¬ okF2 e ∧ r_X8_fillRefusal M 1 a b c e = 2) ∨ (okF1 f a b c ∧ okF2 e ∧ f 3 = 8 ∧ r_X8_fillRefusal M 1 a b c e = 3) ∨ (okF1 f a b c ∧ okF2 e ∧ ¬ f 3 = 8 ∧ ¬ okF4 f a b ∧ r_X8_fillRefusal M 1 a b c e = 4) ∨ (okF1 f a b c ∧ okF2 e ∧ ¬ f 3 = 8 ∧ okF4 f a b ∧ r_X8_fillRefusal M 1 a b c e = 0) := by
  obtain ⟨e3, h3⟩ := hS.2.lots
  rw [r_X8_fillRefusal, c_bat hS, c_bat hS, c_lab hS, show M (1 + 11) 6 = f 3 from hS.1.2.2.2.1.1]
  by_cases ha : ∃ i, a = nI i ∧ i < (f 1).toNatClampNeg
  · rw [exd_pos ha, if_neg (by decide)]
    by_cases hb : ∃ i, b = nI i ∧ i < (f 1).toNatClampNeg
    · rw [exd_pos hb, if_neg (by decide)]
      by_cases hc : ∃ i, c = nI i ∧ i < (f 2).toNatClampNeg
      · rw [exd_pos hc, if_neg (by decide)]
        by_cases he : okF2 e
        · obtain ⟨y, rfl, y1, y2⟩ := id he
          rw [if_neg (show ¬ nI y < (1 : Int32) from nI_nlt (b := 1) y1 (by omega)), if_pos (show nI y ≤ (9 : Int32) from nI_le (b := 9) y2 (by omega))]
          by_cases h8 : f 3 = 8
          · rw [if_neg (by rw [h8]; decide)]
            exact Or.inr (Or.inr (Or.inl ⟨⟨ha, hb, hc⟩, he, h8, rfl⟩))
          · have hl : f 3 < (8 : Int32) := by
              rw [e3]
              refine nI_lt (b := 8) (Nat.lt_of_le_of_ne h3 fun q => h8 (by rw [e3, q]; rfl)) (by omega)
            rw [if_pos hl]
            obtain ⟨ia, rfl, la⟩ := id ha
            obtain ⟨ib, rfl, lb⟩ := id hb
            have hbt := hS.2.bats.2
            have sa : ∀ i, i < (f 1).toNatClampNeg → r_X0_isSpoilt M (1 + 1) (nI i) = if f (11 + 2 * i + 1) &&& f 6 = 0 then 0 else 1 := fun i hi => by
              rw [r_X0_isSpoilt, c_srcs hS hi, show M (1 + 1) 3 = f 6 from hS.1.1.2.1]
            have ho : okF4 f (nI ia) (nI ib) ↔ f (11 + 2 * ia + 1) &&& f 6 = 0 ∧ f (11 + 2 * ib + 1) &&& f 6 = 0 := by
              rw [okF4, nI_clamp (by omega), nI_clamp (by omega), z_dis, Int32.or_eq_zero_iff]
            rw [sa ia la, sa ib lb]
            by_cases p1 : f (11 + 2 * ia + 1) &&& f 6 = 0
            · rw [if_pos p1, if_pos rfl]
              by_cases p2 : f (11 + 2 * ib + 1) &&& f 6 = 0
              · rw [if_pos p2, if_pos rfl]
                exact Or.inr (Or.inr (Or.inr (Or.inr ⟨⟨ha, hb, hc⟩, he, h8, ho.mpr ⟨p1, p2⟩, rfl⟩)))
              · rw [if_neg p2, if_neg (by decide)]
                exact Or.inr (Or.inr (Or.inr (Or.inl ⟨⟨ha, hb, hc⟩, he, h8, fun q => p2 (ho.mp q).2, rfl⟩)))
            · rw [if_neg p1, if_neg (by decide)]
              exact Or.inr (Or.inr (Or.inr (Or.inl ⟨⟨ha, hb, hc⟩, he, h8, fun q => p1 (ho.mp q).1, rfl⟩)))
        · refine Or.inr (Or.inl ⟨⟨ha, hb, hc⟩, he, ?_⟩)
          by_cases b1 : e < 1
          · rw [if_pos b1]
          · rw [if_neg b1, if_neg]
            intro b2
            obtain ⟨y, hy, rfl⟩ := nI_of (fun q => b1 (Int32.lt_trans q (by decide)))
            exact he ⟨y, rfl, Nat.le_of_not_lt fun q => b1 (nI_lt (b := 1) q (by omega)), (nI_leI (b := 9) hy (by omega)).mp b2⟩
      · rw [exd_neg hc, if_pos rfl]
        exact Or.inl ⟨fun q => hc q.2.2, rfl⟩
    · rw [exd_neg hb, if_pos rfl]
      exact Or.inl ⟨fun q => hb q.2.1, rfl⟩
  · rw [exd_neg ha, if_pos rfl]
    exact Or.inl ⟨fun q => ha q.1, rfl⟩
section FILLM
variable {N : Nat} {f : Nat → Int32} {a b c e : Int32}
theorem in_F2 (W : fM) (e : Int32) : r_X12_in W e (1 : Int32) (9 : Int32) = exd (okF2 e) := in_nI (lo := 1) (n := 9) 1 rfl 9 rfl (by decide) (by decide)
/-- the first question, the model's way -/
theorem m_F1 {W : fM} (hf : WF N f) (hW : W 297 = f) (h : ¬ okF1 f a b c) : r_X12_isBatch W a = 0 ∨ r_X12_isBatch W b = 0 ∨ r_X12_isLabel W c = 0 := by
  rw [m_bat hW hf, m_bat hW hf, m_lab hW hf]
  by_cases ha : ∃ i, a = nI i ∧ i < (f 1).toNatClampNeg
  · by_cases hb : ∃ i, b = nI i ∧ i < (f 1).toNatClampNeg
    · by_cases hc : ∃ i, c = nI i ∧ i < (f 2).toNatClampNeg
      · exact absurd ⟨ha, hb, hc⟩ h
      · exact Or.inr (Or.inr (exd_neg hc))
    · exact Or.inr (Or.inl (exd_neg hb))
  · exact Or.inl (exd_neg ha)
theorem b_fill1 (hf : WF N f) (h : ¬ okF1 f a b c) : bad (fun W => m_X12_fill W a b c e) (fun W => r_X12_fill W a b c e) (fun W => N_X12_fill W a b c e) f 1 := by
  intro W hW hk
  have h3 := m_F1 hf hW h
  have hx : ¬ r_X12_isBatch W a = 0 → ¬ r_X12_isBatch W b = 0 → ¬ r_X12_isLabel W c = 0 → False := fun q1 q2 q3 => h3.elim q1 (fun r => r.elim q2 q3)
  refine ⟨⟨fun q1 q2 q3 => (hx q1 q2 q3).elim, fun q1 q2 q3 => (hx q1 q2 q3).elim, fun q1 q2 q3 => (hx q1 q2 q3).elim, fun q1 q2 q3 => (hx q1 q2 q3).elim, fun q1 q2 q3 => (hx q1 q2 q3).elim, fun q1 q2 q3 => (hx q1 q2 q3).elim, fun q1 q2 q3 => (hx q1 q2 q3).elim, fun q1 q2 q3 => (hx q1 q2 q3).elim, fun q1 q2 q3 => (hx q1 q2 q3).elim⟩, ?_, ?_⟩
  · show m_X12_fill W a b c e = _
    rw [m_X12_fill]
    by_cases q1 : r_X12_isBatch W a = 0
    · rw [if_pos q1]
    · by_cases q2 : r_X12_isBatch W b = 0
      · rw [if_neg q1, if_pos q2]
      · by_cases q3 : r_X12_isLabel W c = 0
        · rw [if_neg q1, if_neg q2, if_pos q3]
        · exact (hx q1 q2 q3).elim
  · show r_X12_fill W a b c e = _
    rw [r_X12_fill]
    by_cases q1 : r_X12_isBatch W a = 0
    · rw [if_pos q1]
    · by_cases q2 : r_X12_isBatch W b = 0
      · rw [if_neg q1, if_pos q2]
      · by_cases q3 : r_X12_isLabel W c = 0
        · rw [if_neg q1, if_neg q2, if_pos q3]
        · exact (hx q1 q2 q3).elim
theorem m_F3 {W : fM} (hf : WF N f) (hW : W 297 = f) (h : okF1 f a b c) : ¬ r_X12_isBatch W a = 0 ∧ ¬ r_X12_isBatch W b = 0 ∧ ¬ r_X12_isLabel W c = 0 := by
  rw [m_bat hW hf, m_bat hW hf, m_lab hW hf, exd_pos h.1, exd_pos h.2.1, exd_pos h.2.2]
  exact ⟨z_n1, z_n1, z_n1⟩
theorem b_fill2 (hf : WF N f) (h : okF1 f a b c) (h2 : ¬ okF2 e) : bad (fun W => m_X12_fill W a b c e) (fun W => r_X12_fill W a b c e) (fun W => N_X12_fill W a b c e) f 2 := by
  intro W hW hk
  obtain ⟨q1, q2, q3⟩ := m_F3 hf hW h
  have q4 := in_F2 W e
  rw [exd_neg h2] at q4
  refine ⟨⟨fun _ _ _ q => absurd q4 q, fun _ _ _ q => absurd q4 q, fun _ _ _ q => absurd q4 q, fun _ _ _ q => absurd q4 q, fun _ _ _ q => absurd q4 q, fun _ _ _ q => absurd q4 q, fun _ _ _ q => absurd q4 q, fun _ _ _ q => absurd q4 q, fun _ _ _ q => absurd q4 q⟩, ?_, ?_⟩
  · show m_X12_fill W a b c e = _
    rw [m_X12_fill, if_neg q1, if_neg q2, if_neg q3, if_pos q4]
  · show r_X12_fill W a b c e = _
    rw [r_X12_fill, if_neg q1, if_neg q2, if_neg q3, if_pos q4]
theorem b_fill3 (hf : WF N f) (h : okF1 f a b c) (h2 : okF2 e) (h8 : f 3 = 8) : bad (fun W => m_X12_fill W a b c e) (fun W => r_X12_fill W a b c e) (fun W => N_X12_fill W a b c e) f 3 := by
  intro W hW hk
  obtain ⟨q1, q2, q3⟩ := m_F3 hf hW h
  have q4 := in_F2 W e
  rw [exd_pos h2] at q4
  have q4' : ¬ r_X12_in W e 1 9 = 0 := by rw [q4]; exact z_n1
  have q5 : W 297 (3 : Int32).toNatClampNeg = 8 := by rw [cl_3, hW]; exact h8
  refine ⟨⟨fun _ _ _ _ q => absurd q5 q, fun _ _ _ _ q => absurd q5 q, fun _ _ _ _ q => absurd q5 q, fun _ _ _ _ q => absurd q5 q, fun _ _ _ _ q => absurd q5 q, fun _ _ _ _ q => absurd q5 q, fun _ _ _ _ q => absurd q5 q, fun _ _ _ _ q => absurd q5 q, fun _ _ _ _ q => absurd q5 q⟩, ?_, ?_⟩
  · show m_X12_fill W a b c e = _
    rw [m_X12_fill, if_neg q1, if_neg q2, if_neg q3, if_neg q4', if_pos q5]
  · show r_X12_fill W a b c e = _
    rw [r_X12_fill, if_neg q1, if_neg q2, if_neg q3, if_neg q4', if_pos q5]
/-- what the model looks at before it fills -/
theorem m_F6 {W : fM} (hf : WF N f) (hW : W 297 = f) (h : okF1 f a b c) : (r_X12_of (fst1 W 296 7 0) a 1 ||| r_X12_of (fst1 W 296 7 0) b 1) &&& (fst1 W 296 7 0) 297 (6 : Int32).toNatClampNeg = (f (11 + 2 * a.toNatClampNeg + 1) ||| f (11 + 2 * b.toNatClampNeg + 1)) &&& f 6 := by
  obtain ⟨⟨ia, rfl, la⟩, ⟨ib, rfl, lb⟩, -⟩ := h
  have hb := hf.bats.2
  have w : (fst1 W 296 7 (0 : Int32)) 297 = f := by rw [fst1_ne (by decide), hW]
  rw [m_of w (w := 1) (by omega) (by omega) 1 rfl, m_of w (w := 1) (by omega) (by omega) 1 rfl, w, cl_6, nI_clamp (by omega), nI_clamp (by omega)]
theorem N_F6 {W : fM} (hf : WF N f) (h : okF1 f a b c) : N_X12_of W a 1 ∧ N_X12_of W b 1 := by
  obtain ⟨⟨ia, rfl, la⟩, ⟨ib, rfl, lb⟩, -⟩ := h
  have hb := hf.bats.2
  exact ⟨Nof_nI (w := 1) (by omega) 1 rfl, Nof_nI (w := 1) (by omega) 1 rfl⟩
theorem b_fill4 (hf : WF N f) (h : okF1 f a b c) (h2 : okF2 e) (h8 : ¬ f 3 = 8) (h4 : ¬ okF4 f a b) : bad (fun W => m_X12_fill W a b c e) (fun W => r_X12_fill W a b c e) (fun W => N_X12_fill W a b c e) f 4 := by
  intro W hW hk
  obtain ⟨q1, q2, q3⟩ := m_F3 hf hW h
  have q4 := in_F2 W e
  rw [exd_pos h2] at q4
  have q4' : ¬ r_X12_in W e 1 9 = 0 := by rw [q4]; exact z_n1
  have q5 : ¬ W 297 (3 : Int32).toNatClampNeg = 8 := by rw [cl_3, hW]; exact h8
  have q6 := m_F6 hf hW h
  have q6' : ¬ (r_X12_of (fst1 W 296 7 0) a 1 ||| r_X12_of (fst1 W 296 7 0) b 1) &&& (fst1 W 296 7 0) 297 (6 : Int32).toNatClampNeg = 0 := by rw [q6]; exact h4
  refine ⟨⟨fun _ _ _ _ _ => (N_F6 hf h).1, fun _ _ _ _ _ => (N_F6 hf h).2, fun _ _ _ _ _ q => absurd q q6', fun _ _ _ _ _ q => absurd q q6', fun _ _ _ _ _ q => absurd q q6', fun _ _ _ _ _ q => absurd q q6', fun _ _ _ _ _ q => absurd q q6', fun _ _ _ _ _ q => absurd q q6', fun _ _ _ _ _ q => absurd q q6'⟩, ?_, ?_⟩
  · show m_X12_fill W a b c e = _
    rw [m_X12_fill, if_neg q1, if_neg q2, if_neg q3, if_neg q4', if_neg q5, if_neg q6', fst1_2]
  · show r_X12_fill W a b c e = _
    rw [r_X12_fill, if_neg q1, if_neg q2, if_neg q3, if_neg q4', if_neg q5, if_neg q6']
theorem g_fill (hf : WF N f) (h : okF1 f a b c) (h2 : okF2 e) (h8 : ¬ f 3 = 8) (h4 : okF4 f a b) (hN : N < 2 ^ 20) : cgood (fun M => m_X8_fillLot M 1 a b c e) (fun M => r_X8_fillLot M 1 a b c e) N f (N + 1) (fFill f a b c e) (f 4) ∧ good (fun W => m_X12_fill W a b c e) (fun W => r_X12_fill W a b c e) (fun W => N_X12_fill W a b c e) f (fFill f a b c e) (f 4) := by
  refine ⟨fun M hS => sw_fill hS h h2 h8 hN, fun W hW hk => ?_⟩
  obtain ⟨q1, q2, q3⟩ := m_F3 hf hW h
  have q4 := in_F2 W e
  rw [exd_pos h2] at q4
  have q4' : ¬ r_X12_in W e 1 9 = 0 := by rw [q4]; exact z_n1
  have q5 : ¬ W 297 (3 : Int32).toNatClampNeg = 8 := by rw [cl_3, hW]; exact h8
  have q6 := m_F6 hf hW h
  have q6' : (r_X12_of (fst1 W 296 7 0) a 1 ||| r_X12_of (fst1 W 296 7 0) b 1) &&& (fst1 W 296 7 0) 297 (6 : Int32).toNatClampNeg = 0 := by rw [q6]; exact h4
  obtain ⟨e3, h3⟩ := hf.lots
  have e8 : (f 3).toNatClampNeg ≠ 8 := fun q => h8 (by rw [e3, q]; rfl)
  have hk1 := hk.code (x := 0)
  have eI : fst1 (fst1 W 296 7 (0 : Int32)) 296 7 0 = fst1 W 296 7 0 := fst1_2
  have e7 : m_X12_keeps (fst1 W 296 7 0) 297 127 297 = f := by rw [kp_ne hk1 (by decide) (by decide), fst1_ne (by decide), hW]
  have hI : ∀ (X : Int32) (w : Nat), X = nI w → w < 6 → (79 : Int32) + (6 : Int32) * f 3 + X = nI (lotI f + w) := fun X w hX hw => by
    have := nI_ix6 (p := (f 3).toNatClampNeg) X hX
    rw [← e3] at this
    exact this
  have hl : lotI f + 5 < 127 := by rw [lotI]; omega
  have hl0 : 79 ≤ lotI f := by rw [lotI]; omega
  have hc : ∀ w, w < 6 → (nI (lotI f + w)).toNatClampNeg = lotI f + w := fun w hw => nI_clamp (by omega)
  have z0 : a0_X12_fill W = fsr (m_X12_keeps (fst1 W 296 7 0) 297 127) 297 (up f (lotI f) (f 4)) := by
    rw [a0_X12_fill, eI, e7, cl_3, show (4 : Int32).toNatClampNeg = 4 from rfl, hI 0 0 rfl (by omega), hc 0 (by omega), up1 e7, Nat.add_zero]
  have z1 : a1_X12_fill W e = fsr (m_X12_keeps (fst1 W 296 7 0) 297 127) 297 (up (up f (lotI f) (f 4)) (lotI f + 1) e) := by
    rw [a1_X12_fill, eI, e7, cl_3, hI 1 1 rfl (by omega), hc 1 (by omega), z0, up2]
  have z2 : a2_X12_fill W e c = fsr (m_X12_keeps (fst1 W 296 7 0) 297 127) 297 (up (up (up f (lotI f) (f 4)) (lotI f + 1) e) (lotI f + 2) c) := by
    rw [a2_X12_fill, eI, e7, cl_3, hI 2 2 rfl (by omega), hc 2 (by omega), z1, up2]
  have z3 : a3_X12_fill W e c a = fsr (m_X12_keeps (fst1 W 296 7 0) 297 127) 297 (up (up (up (up f (lotI f) (f 4)) (lotI f + 1) e) (lotI f + 2) c) (lotI f + 3) a) := by
    rw [a3_X12_fill, eI, e7, cl_3, hI 3 3 rfl (by omega), hc 3 (by omega), z2, up2]
  have z4 : a4_X12_fill W e c a b = fsr (m_X12_keeps (fst1 W 296 7 0) 297 127) 297 (up (up (up (up (up f (lotI f) (f 4)) (lotI f + 1) e) (lotI f + 2) c) (lotI f + 3) a) (lotI f + 4) b) := by
    rw [a4_X12_fill, eI, e7, cl_3, hI 4 4 rfl (by omega), hc 4 (by omega), z3, up2]
  have z5 : a5_X12_fill W e c a b = fsr (m_X12_keeps (fst1 W 296 7 0) 297 127) 297 (up (up (up (up (up (up f (lotI f) (f 4)) (lotI f + 1) e) (lotI f + 2) c) (lotI f + 3) a) (lotI f + 4) b) (lotI f + 5) 0) := by
    rw [a5_X12_fill, eI, e7, cl_3, hI 5 5 rfl (by omega), hc 5 (by omega), z4, up2]
  have z6 : a6_X12_fill W e c a b = fsr (m_X12_keeps (fst1 W 296 7 0) 297 127) 297 (up (up (up (up (up (up (up f (lotI f) (f 4)) (lotI f + 1) e) (lotI f + 2) c) (lotI f + 3) a) (lotI f + 4) b) (lotI f + 5) 0) 3 (f 3 + 1)) := by
    rw [a6_X12_fill, z5, cl_3, fsr_at, up2]
    simp (disch := omega) only [up_ne]
  have z7 : a7_X12_fill W e c a b = fsr (m_X12_keeps (fst1 W 296 7 0) 297 127) 297 (up (up (up (up (up (up (up (up f (lotI f) (f 4)) (lotI f + 1) e) (lotI f + 2) c) (lotI f + 3) a) (lotI f + 4) b) (lotI f + 5) 0) 3 (f 3 + 1)) 4 (f 4 + 1)) := by
    rw [a7_X12_fill, z6, show (4 : Int32).toNatClampNeg = 4 from rfl, fsr_at, up2]
    simp (disch := omega) only [up_ne]
  have z8 : a8_X12_fill W e c a b = fsr (m_X12_keeps (fst1 W 296 7 0) 297 127) 297 (fFill f a b c e) := by
    rw [a8_X12_fill, z7, cl_7, fsr_at, up2, fFill]
    simp (disch := omega) only [up_ne]
  have hv : ∀ (X : Int32) (w : Nat), X = nI w → w < 6 → vp_in ((79 : Int32) + (6 : Int32) * (m_X12_keeps (fst1 (fst1 W 296 7 0) 296 7 0) 297 127) 297 (3 : Int32).toNatClampNeg + X) 127 := fun X w hX hw => by
    rw [eI, e7, cl_3, hI X w hX hw]
    exact vp_in_nI (by omega) (by decide)
  refine ⟨⟨fun _ _ _ _ _ => (N_F6 hf h).1, fun _ _ _ _ _ => (N_F6 hf h).2, fun _ _ _ _ _ _ => by rw [eI]; exact N_kp hk1, fun _ _ _ _ _ _ => hv 0 0 rfl (by omega), fun _ _ _ _ _ _ => hv 1 1 rfl (by omega), fun _ _ _ _ _ _ => hv 2 2 rfl (by omega), fun _ _ _ _ _ _ => hv 3 3 rfl (by omega), fun _ _ _ _ _ _ => hv 4 4 rfl (by omega), fun _ _ _ _ _ _ => hv 5 5 rfl (by omega)⟩, ?_, ?_⟩
  · show m_X12_fill W a b c e = _
    rw [m_X12_fill, if_neg q1, if_neg q2, if_neg q3, if_neg q4', if_neg q5, if_pos q6', z8]
  · show r_X12_fill W a b c e = _
    obtain ⟨e4, h4'⟩ := hf.nxt
    rw [r_X12_fill, if_neg q1, if_neg q2, if_neg q3, if_neg q4', if_neg q5, if_pos q6', z8, fsr_at, show (4 : Int32).toNatClampNeg = 4 from rfl, fFill, up_ne (by decide), up_at rfl, e4, nI_1, nI_pred]
end FILLM
section OPS8
variable {G : fG} {c : Nat} {M : fM} {dv : UInt64} {a b e f : Int32}
theorem op_14 (hG : fOK G) (hc512 : c < 512) (h : It c M) : Op_14 G It c M dv a b e f := by
  have hS := h.1
  have hc := c_X11_fill hG (d := 40) (by decide) M dv a b e f (fun _ _ _ _ _ => It_73 h)
  rw [o_X11_fill] at hc
  rcases k_fill hS a b e f with ⟨k1, k2⟩ | ⟨k1, k3, k2⟩ | ⟨k1, k3, k4, k2⟩ | ⟨k1, k3, k4, k5, k2⟩ | ⟨k1, k3, k4, k5, k2⟩
  · rw [k2, if_pos rfl] at hc
    exact op_bad h (by decide) (b_fill1 hS.2 k1) (c_L_fill hG (by decide) (by decide) (by decide) M dv a b e f hc 1 _ (Or.inr (Or.inl ⟨_, rfl, rfl, rfl⟩))) (fun W hW => c_X12_fill hG (by decide) W dv a b e f hW)
  · rw [k2, if_neg (by decide), if_pos rfl] at hc
    exact op_bad h (by decide) (b_fill2 hS.2 k1 k3) (c_L_fill hG (by decide) (by decide) (by decide) M dv a b e f hc 2 _ (Or.inr (Or.inr (Or.inl ⟨_, rfl, rfl, rfl⟩)))) (fun W hW => c_X12_fill hG (by decide) W dv a b e f hW)
  · rw [k2, if_neg (by decide), if_neg (by decide), if_pos rfl] at hc
    exact op_bad h (by decide) (b_fill3 hS.2 k1 k3 k4) (c_L_fill hG (by decide) (by decide) (by decide) M dv a b e f hc 3 _ (Or.inr (Or.inr (Or.inr (Or.inl ⟨_, rfl, rfl, rfl⟩))))) (fun W hW => c_X12_fill hG (by decide) W dv a b e f hW)
  · rw [k2, if_neg (by decide), if_neg (by decide), if_neg (by decide), if_pos rfl] at hc
    exact op_bad h (by decide) (b_fill4 hS.2 k1 k3 k4 k5) (c_L_fill hG (by decide) (by decide) (by decide) M dv a b e f hc 4 _ (Or.inr (Or.inr (Or.inr (Or.inr ⟨_, rfl, rfl, rfl⟩))))) (fun W hW => c_X12_fill hG (by decide) W dv a b e f hW)
  · rw [k2, if_neg (by decide), if_neg (by decide), if_neg (by decide), if_neg (by decide), if_neg (by decide)] at hc
    obtain ⟨g1, g2⟩ := g_fill hS.2 k1 k3 k4 k5 (by omega)
    exact op_good h (by omega) (by omega) g1 g2 (c_L_fill hG (by decide) (by decide) (by decide) M dv a b e f hc 0 _ (Or.inl ⟨_, _, rfl, rfl, rfl⟩)) (fun W hW => c_X12_fill hG (by decide) W dv a b e f hW)
end OPS8
