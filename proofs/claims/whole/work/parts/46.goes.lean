/-! ===== a lot goes ===== -/
def goF (f : Nat → Int32) (p : Nat) : Nat → Int32 := fun b => if b = 3 then nI ((f 3).toNatClampNeg - 1) else if 79 + 6 * p ≤ b ∧ b < 79 + 6 * ((f 3).toNatClampNeg - 1) then f (b + 6) else if 79 + 6 * ((f 3).toNatClampNeg - 1) ≤ b ∧ b < 79 + 6 * ((f 3).toNatClampNeg - 1) + 6 then 0 else f b
theorem go_3 {f : Nat → Int32} {p : Nat} : goF f p 3 = nI ((f 3).toNatClampNeg - 1) := if_pos rfl
theorem go_lo {f : Nat → Int32} {p b : Nat} (h : b < 79) (h3 : b ≠ 3) (hp : p < (f 3).toNatClampNeg) : goF f p b = f b := by
  rw [goF, if_neg h3, if_neg (by omega), if_neg (by omega)]
theorem go_in {f : Nat → Int32} {p q w : Nat} (hq : q < (f 3).toNatClampNeg - 1) (hw : w < 6) : goF f p (79 + 6 * q + w) = if p ≤ q then f (79 + 6 * (q + 1) + w) else f (79 + 6 * q + w) := by
  rw [goF, if_neg (by omega)]
  by_cases h : p ≤ q
  · rw [if_pos h, if_pos (by omega), show 79 + 6 * q + w + 6 = 79 + 6 * (q + 1) + w by omega]
  · rw [if_neg h, if_neg (by omega), if_neg (by omega)]
/-- a lot's own cells count not -/
theorem go_up {f : Nat → Int32} {p w : Nat} {x : Int32} (hp : p < (f 3).toNatClampNeg) (hw : w < 6) : goF (up f (79 + 6 * p + w) x) p = goF f p := by
  have e3 : up f (79 + 6 * p + w) x 3 = f 3 := up_ne (by omega)
  funext b
  rw [goF, goF, e3]
  by_cases h3 : b = 3
  · rw [if_pos h3, if_pos h3]
  · rw [if_neg h3, if_neg h3]
    by_cases h4 : 79 + 6 * p ≤ b ∧ b < 79 + 6 * ((f 3).toNatClampNeg - 1)
    · rw [if_pos h4, if_pos h4, up_ne (by omega)]
    · rw [if_neg h4, if_neg h4]
      by_cases h5 : 79 + 6 * ((f 3).toNatClampNeg - 1) ≤ b ∧ b < 79 + 6 * ((f 3).toNatClampNeg - 1) + 6
      · rw [if_pos h5, if_pos h5]
      · rw [if_neg h5, if_neg h5, up_ne (by omega)]
theorem WF_go {N : Nat} {f : Nat → Int32} {p : Nat} (hf : WF N f) (hp : p < (f 3).toNatClampNeg) : WF N (goF f p) := by
  have hn := hf.lots.2
  obtain ⟨⟨a1, a2, a3, a4, a5⟩, bb, d, e⟩ := hf
  refine ⟨⟨?_, ?_, ?_, ?_, ?_⟩, ?_, ?_, ?_⟩
  · rw [go_lo (by omega) (by omega) hp]; exact a1
  · rw [go_lo (by omega) (by omega) hp]; exact a2
  · rw [go_lo (by omega) (by omega) hp]; exact a3
  · rw [go_3]; exact sm_nI (by omega) (by decide)
  · rw [go_lo (by omega) (by omega) hp]; exact a5
  · intro q hq
    have h6 : (f 1).toNatClampNeg < 7 := a2.2
    rw [go_lo (by omega) (by omega) hp] at hq
    rw [go_lo (by omega) (by omega) hp, go_lo (by omega) (by omega) hp, go_lo (by omega) (by omega) hp]
    exact bb q hq
  · intro q hq
    have h6 : (f 2).toNatClampNeg < 9 := a3.2
    rw [go_lo (by omega) (by omega) hp] at hq
    have h7 := (d q hq).1.1.2
    rw [go_lo (by omega) (by omega) hp]
    refine ⟨(d q hq).1, fun i hi => ?_⟩
    rw [go_lo (by omega) (by omega) hp]
    exact (d q hq).2 i hi
  · intro q hq
    rw [go_3, nI_clamp (by omega)] at hq
    rw [go_lo (b := 1) (by omega) (by omega) hp, go_lo (b := 2) (by omega) (by omega) hp, go_in (w := 1) hq (by omega), go_in (w := 2) hq (by omega), go_in (w := 3) hq (by omega), go_in (w := 4) hq (by omega), go_in (w := 5) hq (by omega), show goF f p (79 + 6 * q) = _ from go_in (w := 0) hq (by omega)]
    by_cases h : p ≤ q
    · rw [if_pos h, if_pos h, if_pos h, if_pos h, if_pos h, if_pos h]
      exact e (q + 1) (by omega)
    · rw [if_neg h, if_neg h, if_neg h, if_neg h, if_neg h, if_neg h]
      exact e q (by omega)
theorem rgap_at {M : fM} {k n g a b : Nat} (h : a = k + 1) : rgap M k n g a b = if g ≤ b ∧ b < n - 1 then M (k + 1) (b + 1) else M (k + 1) b := by
  subst h
  rw [rgap, fsr_at]
/-- the class takes a lot out -/
theorem SR_go {M : fM} {f : Nat → Int32} {p n : Nat} (hS : SR M 1 f) (h3 : f 3 = nI n) (hn : n ≤ 8) (h1 : (f 1).toNatClampNeg < 7) (h2 : (f 2).toNatClampNeg < 9) (h6 : ∀ l, l < (f 2).toNatClampNeg → (f (23 + 7 * l)).toNatClampNeg < 7) (hp : p < n) : SR (m_X5_remove M 12 p) 1 (goF f p) ∧ (∀ a, a < 12 ∨ 24 < a → m_X5_remove M 12 p a = M a) ∧ r_X5_remove M 12 p = f (79 + 6 * p + 1) := by
  have hc : (f 3).toNatClampNeg = n := by rw [h3, nI_clamp (by omega)]
  have hp' : p < (f 3).toNatClampNeg := by omega
  obtain ⟨⟨a1, a2, a3⟩, bb, ⟨d0, d⟩, ⟨p1, p2⟩, e, g1, g2, g3, g4, g5⟩ := hS
  have ef : ∀ a, a < 12 ∨ 24 < a → m_X5_remove M 12 p a = M a := fun a ha => by
    rw [m_X5_remove]
    simp (disch := omega) only [fst1_ne, rgap_ne]
  have er : ∀ w b, (w = 1 ∨ w = 3 ∨ w = 5 ∨ w = 7 ∨ w = 9 ∨ w = 11) → m_X5_remove M 12 p (12 + w + 1) b = if p ≤ b ∧ b < 8 - 1 then M (12 + w + 1) (b + 1) else M (12 + w + 1) b := fun w b hw => by
    rw [m_X5_remove]
    rcases hw with rfl | rfl | rfl | rfl | rfl | rfl
    all_goals simp (disch := omega) only [fst1_ne, rgap_ne, rgap_at]
  have ec : m_X5_remove M 12 p 12 6 = M 12 6 - 1 ∧ m_X5_remove M 12 p 12 7 = M 12 7 := by
    rw [m_X5_remove]
    constructor
    all_goals simp (disch := omega) only [fst1_ne, rgap_ne, fs_at, fs_nj]
  refine ⟨⟨⟨?_, ?_, ?_⟩, ?_, ⟨?_, ?_⟩, ⟨?_, ?_⟩, ?_, ?_, ?_, ?_, ?_, ?_⟩, ef, ?_⟩
  · rw [ef _ (by omega), go_lo (by omega) (by omega) hp']; exact a1
  · rw [ef _ (by omega), go_lo (by omega) (by omega) hp']; exact a2
  · rw [ef _ (by omega), go_lo (by omega) (by omega) hp']; exact a3
  · intro q hq
    rw [go_lo (by omega) (by omega) hp'] at hq
    rw [ef _ (by omega), ef _ (by omega), go_lo (by omega) (by omega) hp', go_lo (by omega) (by omega) hp']
    exact bb q hq
  · rw [ef _ (by omega), go_lo (by omega) (by omega) hp']; exact d0
  · intro q hq
    rw [go_lo (by omega) (by omega) hp'] at hq
    have h7 := h6 q hq
    rw [ef _ (by omega), ef _ (by omega), go_lo (by omega) (by omega) hp']
    refine ⟨(d q hq).1, fun i hi => ?_⟩
    rw [go_lo (by omega) (by omega) hp']
    exact (d q hq).2 i hi
  · show m_X5_remove M 12 p 12 6 = _
    rw [ec.1, go_3, hc, show M 12 6 = f 3 from p1, h3, show n = n - 1 + 1 by omega, nI_pred, Nat.add_sub_cancel]
  · show m_X5_remove M 12 p 12 7 = _
    rw [ec.2, go_lo (by omega) (by omega) hp']; exact p2
  · intro q hq
    rw [go_3, nI_clamp (by omega)] at hq
    rw [go_in (w := 1) hq (by omega), go_in (w := 2) hq (by omega), go_in (w := 3) hq (by omega), go_in (w := 4) hq (by omega), go_in (w := 5) hq (by omega), show goF f p (79 + 6 * q) = _ from go_in (w := 0) hq (by omega)]
    show m_X5_remove M 12 p (12 + 1 + 1) q = _ ∧ m_X5_remove M 12 p (12 + 3 + 1) q = _ ∧ m_X5_remove M 12 p (12 + 5 + 1) q = _ ∧ m_X5_remove M 12 p (12 + 7 + 1) q = _ ∧ m_X5_remove M 12 p (12 + 9 + 1) q = _ ∧ m_X5_remove M 12 p (12 + 11 + 1) q = _
    rw [er 1 q (by omega), er 3 q (by omega), er 5 q (by omega), er 7 q (by omega), er 9 q (by omega), er 11 q (by omega)]
    by_cases h : p ≤ q
    · have h' : p ≤ q ∧ q < 8 - 1 := by omega
      rw [if_pos h, if_pos h, if_pos h, if_pos h, if_pos h, if_pos h, if_pos h', if_pos h', if_pos h', if_pos h', if_pos h', if_pos h']
      exact e (q + 1) (by omega)
    · have h' : ¬ (p ≤ q ∧ q < 8 - 1) := by omega
      rw [if_neg h, if_neg h, if_neg h, if_neg h, if_neg h, if_neg h, if_neg h', if_neg h', if_neg h', if_neg h', if_neg h', if_neg h']
      exact e q (by omega)
  · rw [ef _ (by omega), go_lo (by omega) (by omega) hp']; exact g1
  · rw [ef _ (by omega), go_lo (by omega) (by omega) hp']; exact g2
  · rw [ef _ (by omega), go_lo (by omega) (by omega) hp']; exact g3
  · rw [ef _ (by omega), go_lo (by omega) (by omega) hp']; exact g4
  · rw [ef _ (by omega), go_lo (by omega) (by omega) hp']; exact g5
  · rw [r_X5_remove, rget_in (by omega) (by decide)]
    exact (e p (by omega)).2.2.2.2.1
/-- the model takes a lot out -/
theorem goA {K : fM} {f : Nat → Int32} {a jv : Int32} {p n : Nat} (hn : n ≤ 8) (hp : p < n) : ∀ (m j : Nat), p + 1 + j / 6 ≤ n → j ≤ 6 * (n - 1 - p) → 6 * (n - 1 - p) < j + m → (l_X12_goesA a jv (fsr K 297 (fun b => if b = 3 then nI (n - 1) else if 79 + 6 * p ≤ b ∧ b < 79 + 6 * p + j then f (b + 6) else f b)) m j (nI (79 + 6 * p + j))).2 = fsr K 297 (fun b => if b = 3 then nI (n - 1) else if 79 + 6 * p ≤ b ∧ b < 79 + 6 * (n - 1) then f (b + 6) else f b) := by
  intro m
  induction m with
  | zero => intro j h0 h1 h2; omega
  | succ m ih =>
    intro j h0 h1 h2
    rw [l_X12_goesA, cl_3, fsr_at, if_pos rfl, show (79 : Int32) + (6 : Int32) * nI (n - 1) = nI (79 + 6 * (n - 1)) by rw [show (6 : Int32) = nI 6 from rfl, pk_mul, show (79 : Int32) = nI 79 from rfl, nI_add]]
    by_cases hj : j = 6 * (n - 1 - p)
    · rw [if_pos (nI_le (by omega) (by omega))]
      refine fsr_congr fun b => ?_
      rw [show 79 + 6 * p + j = 79 + 6 * (n - 1) by omega]
    · rw [if_neg (nI_ge (by omega) (by omega)), show nI (79 + 6 * p + j) + (6 : Int32) = nI (79 + 6 * p + j + 6) from nI_add _ 6, nI_1, nI_clamp (by omega), nI_clamp (by omega), if_neg (show ¬ 79 + 6 * p + j + 6 = 3 by omega), if_neg (show ¬ (79 + 6 * p ≤ 79 + 6 * p + j + 6 ∧ 79 + 6 * p + j + 6 < 79 + 6 * p + j) by omega), fst1_fsr]
      rw [show 79 + 6 * p + j + 1 = 79 + 6 * p + (j + 1) by omega, ← ih (j + 1) (by omega) (by omega) (by omega)]
      congr 3
      funext b
      by_cases h3 : b = 79 + 6 * p + j
      · subst h3
        rw [if_pos rfl, if_neg (by omega), if_pos (by omega)]
      · rw [if_neg h3]
        by_cases h4 : b = 3
        · rw [if_pos h4, if_pos h4]
        · rw [if_neg h4, if_neg h4]
          by_cases h5 : 79 + 6 * p ≤ b ∧ b < 79 + 6 * p + j
          · rw [if_pos h5, if_pos (by omega)]
          · rw [if_neg h5, if_neg (by omega)]
theorem goB {K : fM} {g : Nat → Int32} {a jv : Int32} {n : Nat} (hn : n ≤ 8) (h0 : 0 < n) (h3 : g 3 = nI (n - 1)) : ∀ (m j : Nat), j ≤ 6 → 6 < j + m → l_X12_goesB a jv (fsr K 297 (fun b => if 79 + 6 * (n - 1) ≤ b ∧ b < 79 + 6 * (n - 1) + j then 0 else g b)) m j = fsr K 297 (fun b => if 79 + 6 * (n - 1) ≤ b ∧ b < 79 + 6 * (n - 1) + 6 then 0 else g b) := by
  intro m
  induction m with
  | zero => intro j h1 h2; omega
  | succ m ih =>
    intro j h1 h2
    rw [l_X12_goesB]
    by_cases hj : j = 6
    · subst hj
      rw [if_pos (show (6 : Int32) ≤ nI 6 by decide)]
    · rw [if_neg (show ¬ (6 : Int32) ≤ nI j from nI_ge (b := 6) (by omega) (by omega)), a0_X12_goes, cl_3, fsr_at, if_neg (show ¬ (79 + 6 * (n - 1) ≤ 3 ∧ 3 < 79 + 6 * (n - 1) + j) by omega), h3, show (79 : Int32) + (6 : Int32) * nI (n - 1) + nI j = nI (79 + 6 * (n - 1) + j) by rw [show (6 : Int32) = nI 6 from rfl, pk_mul, show (79 : Int32) = nI 79 from rfl, nI_add, nI_add], nI_clamp (by omega), fst1_fsr, ← ih (j + 1) (by omega) (by omega)]
      congr 1
      refine fsr_congr fun b => ?_
      by_cases h4 : b = 79 + 6 * (n - 1) + j
      · subst h4
        rw [if_pos rfl, if_pos (by omega)]
      · rw [if_neg h4]
        by_cases h5 : 79 + 6 * (n - 1) ≤ b ∧ b < 79 + 6 * (n - 1) + j
        · rw [if_pos h5, if_pos (by omega)]
        · rw [if_neg h5, if_neg (by omega)]
theorem m_go {W : fM} {f : Nat → Int32} {p n : Nat} (hW : W 297 = f) (h3 : f 3 = nI n) (hn : n ≤ 8) (hp : p < n) : m_X12_goes W (nI p) = fsr W 297 (goF f p) ∧ r_X12_goes W (nI p) = f (79 + 6 * p + 1) ∧ N_X12_goes W (nI p) := by
  have hc : (f 3).toNatClampNeg = n := by rw [h3, nI_clamp (by omega)]
  have e0 : fst1 W 297 3 (W 297 3 - 1) = fsr W 297 (fun b => if b = 3 then nI (n - 1) else if 79 + 6 * p ≤ b ∧ b < 79 + 6 * p + 0 then f (b + 6) else f b) := by
    rw [fst1_row, hW, h3, show nI n - 1 = nI (n - 1) by rw [show n = n - 1 + 1 by omega, nI_pred, Nat.add_sub_cancel]]
    refine fsr_congr fun b => ?_
    by_cases h : b = 3
    · rw [if_pos h, if_pos h]
    · rw [if_neg h, if_neg h, if_neg (by omega)]
  have e1 : a1_X12_goes W (nI p) = fsr W 297 (fun b => if b = 3 then nI (n - 1) else if 79 + 6 * p ≤ b ∧ b < 79 + 6 * (n - 1) then f (b + 6) else f b) := by
    rw [a1_X12_goes, cl_3, e0, show (79 : Int32) + (6 : Int32) * nI p = nI (79 + 6 * p + 0) by rw [show (6 : Int32) = nI 6 from rfl, pk_mul, show (79 : Int32) = nI 79 from rfl, nI_add]; rfl]
    exact goA hn hp 49 0 (by omega) (by omega) (by omega)
  refine ⟨?_, m_by hW (by omega) (by omega) 1 rfl, Nby_nI (w := 1) (by omega) 1 rfl, ?_, ?_⟩
  · rw [m_X12_goes, e1]
    have h := goB (K := W) (g := fun b => if b = 3 then nI (n - 1) else if 79 + 6 * p ≤ b ∧ b < 79 + 6 * (n - 1) then f (b + 6) else f b) (a := nI p) (jv := r_X12_by W (nI p) 1) hn (by omega) (if_pos rfl) 7 0 (by omega) (by omega)
    have e2 : fsr W 297 (fun b => if 79 + 6 * (n - 1) ≤ b ∧ b < 79 + 6 * (n - 1) + 0 then 0 else if b = 3 then nI (n - 1) else if 79 + 6 * p ≤ b ∧ b < 79 + 6 * (n - 1) then f (b + 6) else f b) = fsr W 297 (fun b => if b = 3 then nI (n - 1) else if 79 + 6 * p ≤ b ∧ b < 79 + 6 * (n - 1) then f (b + 6) else f b) := fsr_congr fun b => if_neg (by omega)
    rw [e2] at h
    rw [h]
    refine fsr_congr fun b => ?_
    rw [goF, hc]
    by_cases h3' : b = 3
    · rw [if_neg (by omega), if_pos h3', if_pos h3']
    · rw [if_neg h3', if_neg h3']
      by_cases h5 : 79 + 6 * (n - 1) ≤ b ∧ b < 79 + 6 * (n - 1) + 6
      · rw [if_pos h5, if_neg (by omega), if_pos h5]
      · rw [if_neg h5, if_neg h5]
  · have hL : (79 : Int32) + (6 : Int32) * nI (n - 1) = nI (79 + 6 * (n - 1)) := by rw [show (6 : Int32) = nI 6 from rfl, pk_mul, show (79 : Int32) = nI 79 from rfl, nI_add]
    have hj : ∀ (j : Nat) (V : fM) (v : Int32), (j ≤ 6 * (n - 1 - p) ∧ v = nI (79 + 6 * p + j) ∧ V 297 3 = nI (n - 1)) → ¬ ((79 : Int32) + (6 : Int32) * V 297 ((3 : Int32)).toNatClampNeg ≤ v) → j < 6 * (n - 1 - p) := fun j V v h1 h2 => by
      rw [cl_3, h1.2.2, hL, h1.2.1] at h2
      exact Nat.lt_of_le_of_ne h1.1 fun q => h2 (nI_le (by omega) (by omega))
    refine ⟨fun j V v => j ≤ 6 * (n - 1 - p) ∧ v = nI (79 + 6 * p + j) ∧ V 297 3 = nI (n - 1), ⟨by omega, ?_, ?_⟩, fun j V v _ h1 h2 => ?_, fun j V v _ h1 h2 => ?_, fun j V v _ h1 h2 => ?_, fun j V v _ h1 h2 => ?_⟩
    · rw [show (6 : Int32) = nI 6 from rfl, pk_mul, show (79 : Int32) = nI 79 from rfl, nI_add]; rfl
    · rw [cl_3, fst1_at, hW, h3, show n = n - 1 + 1 by omega, nI_pred, Nat.add_sub_cancel]
    · have := hj j V v h1 h2; omega
    · have := hj j V v h1 h2
      rw [h1.2.1, show nI (79 + 6 * p + j) + (6 : Int32) = nI (79 + 6 * p + j + 6) from nI_add _ 6]
      exact vp_in_nI (by omega) (by decide)
    · have := hj j V v h1 h2
      rw [h1.2.1]
      exact vp_in_nI (by omega) (by decide)
    · have := hj j V v h1 h2
      refine ⟨by omega, by rw [h1.2.1, nI_1]; rfl, ?_⟩
      rw [h1.2.1, nI_clamp (by omega), fst1_nj (by omega)]
      exact h1.2.2
  · have hL : ∀ j, (79 : Int32) + (6 : Int32) * nI (n - 1) + nI j = nI (79 + 6 * (n - 1) + j) := fun j => by rw [show (6 : Int32) = nI 6 from rfl, pk_mul, show (79 : Int32) = nI 79 from rfl, nI_add, nI_add]
    have h6 : ∀ j : Nat, j ≤ 6 → ¬ (6 : Int32) ≤ nI j → j < 6 := fun j h1 h2 => Nat.lt_of_not_le fun q => h2 (nI_le (a := 6) q (by omega))
    refine ⟨fun _ V => V 297 3 = nI (n - 1), ?_, fun j V h0 h1 h2 => ?_, fun j V h0 h1 h2 => ?_⟩
    · show a1_X12_goes W (nI p) 297 3 = nI (n - 1)
      rw [e1, fsr_at]
      exact if_pos rfl
    · have := h6 j h0 h2
      have h1 : V 297 3 = nI (n - 1) := h1
      rw [cl_3, h1, hL]
      exact vp_in_nI (by omega) (by decide)
    · have := h6 j h0 h2
      have h1 : V 297 3 = nI (n - 1) := h1
      show a0_X12_goes V j 297 3 = nI (n - 1)
      rw [a0_X12_goes, cl_3, h1, hL, nI_clamp (by omega), fst1_nj (by omega)]
      exact h1
