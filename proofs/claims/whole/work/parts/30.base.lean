/-! ===== numbers ===== -/
theorem cl_0 : (0 : Int32).toNatClampNeg = 0 := rfl
theorem cl_1 : (1 : Int32).toNatClampNeg = 1 := rfl
theorem cl_2 : (2 : Int32).toNatClampNeg = 2 := rfl
theorem cl_3 : (3 : Int32).toNatClampNeg = 3 := rfl
theorem cl_4 : (4 : Int32).toNatClampNeg = 4 := rfl
theorem cl_5 : (5 : Int32).toNatClampNeg = 5 := rfl
theorem cl_6 : (6 : Int32).toNatClampNeg = 6 := rfl
theorem cl_7 : (7 : Int32).toNatClampNeg = 7 := rfl
theorem cl_8 : (8 : Int32).toNatClampNeg = 8 := rfl
theorem cl_9 : (9 : Int32).toNatClampNeg = 9 := rfl
theorem cl_10 : (10 : Int32).toNatClampNeg = 10 := rfl
theorem sm.ex {x : Int32} {b : Nat} (h : sm x b) : ∃ n, x = nI n ∧ n < b := ⟨_, h.1, h.2⟩
theorem sm_nI {n b : Nat} (h : n < b) (hb : b < 2 ^ 31) : sm (nI n) b := sm_of rfl h hb
theorem sm.mono {x : Int32} {b b' : Nat} (h : sm x b) (hb : b ≤ b') : sm x b' := ⟨h.1, Nat.lt_of_lt_of_le h.2 hb⟩
theorem nI_ix2 {b w : Nat} (W : Int32) (hW : W = nI w) : (((11 : Int32) + ((2 : Int32) * nI b)) + W) = nI (11 + 2 * b + w) := by
  subst hW
  rw [show (11 : Int32) = nI 11 from rfl, show (2 : Int32) = nI 2 from rfl, pk_mul, nI_add, nI_add]
theorem nI_ix6 {p w : Nat} (W : Int32) (hW : W = nI w) : (((79 : Int32) + ((6 : Int32) * nI p)) + W) = nI (79 + 6 * p + w) := by
  subst hW
  rw [show (79 : Int32) = nI 79 from rfl, show (6 : Int32) = nI 6 from rfl, pk_mul, nI_add, nI_add]
theorem nI_ix7 {l w : Nat} (W : Int32) (hW : W = nI w) : (((23 : Int32) + ((7 : Int32) * nI l)) + W) = nI (23 + 7 * l + w) := by
  subst hW
  rw [show (23 : Int32) = nI 23 from rfl, show (7 : Int32) = nI 7 from rfl, pk_mul, nI_add, nI_add]
/-- 1 if it holds, else 0 -/
noncomputable def exd (P : Prop) : Int32 := @ite Int32 P (Classical.propDecidable P) 1 0
theorem exd_pos {P : Prop} (h : P) : exd P = 1 := by unfold exd; exact if_pos h
theorem exd_neg {P : Prop} (h : ¬ P) : exd P = 0 := by unfold exd; exact if_neg h
/-! ===== the model's readers ===== -/
theorem of_nI {M : fM} {b w : Nat} (hb : b < 1000) (hw : w < 1000) (W : Int32) (hW : W = nI w) : r_X12_of M (nI b) W = M 297 (11 + 2 * b + w) := by
  rw [r_X12_of, nI_ix2 W hW, nI_clamp (by omega)]
theorem by_nI {M : fM} {p w : Nat} (hp : p < 1000) (hw : w < 1000) (W : Int32) (hW : W = nI w) : r_X12_by M (nI p) W = M 297 (79 + 6 * p + w) := by
  rw [r_X12_by, nI_ix6 W hW, nI_clamp (by omega)]
theorem sign_nI {M : fM} {l w : Nat} (hl : l < 1000) (hw : w < 1000) (W : Int32) (hW : W = nI w) : r_X12_sign M (nI l) W = M 297 (23 + 7 * l + w) := by
  rw [r_X12_sign, nI_ix7 W hW, nI_clamp (by omega)]
theorem Nof_nI {M : fM} {b w : Nat} (hb : 11 + 2 * b + w < 127) (W : Int32) (hW : W = nI w) : N_X12_of M (nI b) W := by
  rw [N_X12_of, nI_ix2 W hW]; exact vp_in_nI (by omega) (by decide)
theorem Nby_nI {M : fM} {p w : Nat} (hp : 79 + 6 * p + w < 127) (W : Int32) (hW : W = nI w) : N_X12_by M (nI p) W := by
  rw [N_X12_by, nI_ix6 W hW]; exact vp_in_nI (by omega) (by decide)
theorem Nsign_nI {M : fM} {l w : Nat} (hl : 23 + 7 * l + w < 127) (W : Int32) (hW : W = nI w) : N_X12_sign M (nI l) W := by
  rw [N_X12_sign, nI_ix7 W hW]; exact vp_in_nI (by omega) (by decide)
theorem in_nI {M : fM} {x : Int32} {lo n : Nat} (L : Int32) (hL : L = nI lo) (H : Int32) (hH : H = nI n) (hlo : lo < 2 ^ 30) (hn : n < 2 ^ 30) : r_X12_in M x L H = exd (∃ k, x = nI k ∧ lo ≤ k ∧ k ≤ n) := by
  subst hL; subst hH
  rw [r_X12_in]
  by_cases h1 : x < nI lo
  · rw [if_pos h1, exd_neg]
    rintro ⟨k, rfl, h2, h3⟩
    exact nI_nlt h2 (by omega) h1
  · rw [if_neg h1]
    by_cases h2 : nI n < x
    · rw [if_pos h2, exd_neg]
      rintro ⟨k, rfl, h3, h4⟩
      exact nI_nlt h4 (by omega) h2
    · rw [if_neg h2, exd_pos]
      have h0 : ¬ x < 0 := fun h => h1 (Int32.lt_of_lt_of_le h (nI_pos' (by omega)))
      obtain ⟨k, hk, rfl⟩ := nI_of h0
      exact ⟨k, rfl, Nat.le_of_not_lt fun h => h1 (nI_lt h (by omega)), Nat.le_of_not_lt fun h => h2 (nI_lt h hk)⟩
/-- 0 ≤ x < n, the model's way -/
theorem in_below {M : fM} {x : Int32} {n : Nat} (hn : n < 2 ^ 30) : r_X12_in M x 0 (nI n - 1) = exd (∃ k, x = nI k ∧ k < n) := by
  cases n with
  | zero =>
    rw [exd_neg (by rintro ⟨k, _, h⟩; omega), r_X12_in]
    by_cases h1 : x < 0
    · rw [if_pos h1]
    · rw [if_neg h1, if_pos]
      exact Int32.lt_of_lt_of_le (show nI 0 - 1 < 0 by decide) (Int32.not_lt.mp h1)
  | succ n =>
    rw [nI_pred, in_nI 0 rfl _ rfl (by decide) (by omega)]
    have e : (∃ k, x = nI k ∧ 0 ≤ k ∧ k ≤ n) ↔ ∃ k, x = nI k ∧ k < n + 1 := by
      constructor
      · rintro ⟨k, h1, h2, h3⟩; exact ⟨k, h1, by omega⟩
      · rintro ⟨k, h1, h2⟩; exact ⟨k, h1, by omega, by omega⟩
    by_cases h : ∃ k, x = nI k ∧ k < n + 1
    · rw [exd_pos h, exd_pos (e.mpr h)]
    · rw [exd_neg h, exd_neg (fun q => h (e.mp q))]
/-- 0 ≤ x < n, the class's way -/
theorem below_if {x : Int32} {n : Nat} (hn : n < 2 ^ 30) : (if x < 0 then (0 : Int32) else if nI n ≤ x then 0 else 1) = exd (∃ k, x = nI k ∧ k < n) := by
  by_cases h1 : x < 0
  · rw [if_pos h1, exd_neg]
    rintro ⟨k, rfl, h2⟩
    exact nI_pos (by omega) h1
  · rw [if_neg h1]
    obtain ⟨k, hk, rfl⟩ := nI_of h1
    by_cases h2 : nI n ≤ nI k
    · rw [if_pos h2, exd_neg]
      rintro ⟨j, h3, h4⟩
      have := (nI_eq hk (by omega)).mp h3
      subst this
      exact nI_ge h4 (by omega) h2
    · rw [if_neg h2, exd_pos]
      exact ⟨k, rfl, Nat.lt_of_not_le fun h => h2 (nI_le h hk)⟩
theorem rget_in {M : fM} {k n i : Nat} (h : i < n) (hn : n < 2 ^ 31) : rget M k n (nI i) = M (k + 1) i := by
  rw [rget, if_neg (nI_pos (by omega)), if_neg (nI_ge h hn), nI_clamp (by omega)]
theorem rset_in {M : fM} {k n i : Nat} {x : Int32} (h : i < n) (hn : n < 2 ^ 31) : rset M k n (nI i) x = fst1 M (k + 1) i x := by
  rw [rset, if_neg (nI_pos (by omega)), if_neg (nI_ge h hn), nI_clamp (by omega)]
/-! ===== a state of the class (24 cells from k on) and a row of the model ===== -/
theorem cn_nI {n : Nat} (h : n < 2 ^ 31) : (nI n).toNatClampNeg = n := nI_clamp h
def SR (M : fM) (k : Nat) (f : Nat → Int32) : Prop :=
  (M (k + 1) 2 = f 0 ∧ M (k + 1) 3 = f 6 ∧ M (k + 1) 4 = f 1) ∧
  (∀ b, b < (f 1).toNatClampNeg → M (k + 3) b = f (11 + 2 * b + 1) ∧ M (k + 5) b = f (11 + 2 * b)) ∧
  (M (k + 6) 2 = f 2 ∧ ∀ l, l < (f 2).toNatClampNeg → M (k + 8) l = f (23 + 7 * l) ∧ ∀ i, i < (f (23 + 7 * l)).toNatClampNeg → M (k + 10) (6 * l + i) = f (23 + 7 * l + (1 + i))) ∧
  (M (k + 11) 6 = f 3 ∧ M (k + 11) 7 = f 4) ∧
  (∀ p, p < (f 3).toNatClampNeg → M (k + 13) p = f (79 + 6 * p) ∧ M (k + 15) p = f (79 + 6 * p + 3) ∧ M (k + 17) p = f (79 + 6 * p + 4) ∧ M (k + 19) p = f (79 + 6 * p + 2) ∧ M (k + 21) p = f (79 + 6 * p + 1) ∧ M (k + 23) p = f (79 + 6 * p + 5)) ∧
  (M k 3 = f 5 ∧ M k 4 = f 7 ∧ M k 5 = f 8 ∧ M k 6 = f 9 ∧ M k 7 = f 10)
/-- what holds of a row whose lots' numbers are below N -/
def WF (N : Nat) (f : Nat → Int32) : Prop :=
  (sm (f 0) 7 ∧ sm (f 1) 7 ∧ sm (f 2) 9 ∧ sm (f 3) 9 ∧ sm (f 4) N) ∧
  (∀ b, b < (f 1).toNatClampNeg → (sm (f (11 + 2 * b)) 21 ∧ 0 < (f (11 + 2 * b)).toNatClampNeg) ∧ sm (f (11 + 2 * b + 1)) (2 ^ (f 0).toNatClampNeg) ∧ 0 < (f (11 + 2 * b + 1)).toNatClampNeg) ∧
  (∀ l, l < (f 2).toNatClampNeg → (sm (f (23 + 7 * l)) 7 ∧ 0 < (f (23 + 7 * l)).toNatClampNeg) ∧ ∀ i, i < (f (23 + 7 * l)).toNatClampNeg → sm (f (23 + 7 * l + (1 + i))) 105 ∧ 97 ≤ (f (23 + 7 * l + (1 + i))).toNatClampNeg) ∧
  (∀ p, p < (f 3).toNatClampNeg → sm (f (79 + 6 * p)) N ∧ (sm (f (79 + 6 * p + 1)) 10 ∧ 0 < (f (79 + 6 * p + 1)).toNatClampNeg) ∧ sm (f (79 + 6 * p + 2)) ((f 2).toNatClampNeg) ∧ sm (f (79 + 6 * p + 3)) ((f 1).toNatClampNeg) ∧ sm (f (79 + 6 * p + 4)) ((f 1).toNatClampNeg) ∧ sm (f (79 + 6 * p + 5)) 60)
theorem SR.ext {M M' : fM} {k : Nat} {f : Nat → Int32} (h : SR M k f) (he : ∀ a, k ≤ a → a < k + 24 → M' a = M a) : SR M' k f := by
  unfold SR at h ⊢
  rw [he k (by omega) (by omega), he (k + 1) (by omega) (by omega), he (k + 3) (by omega) (by omega), he (k + 5) (by omega) (by omega), he (k + 6) (by omega) (by omega), he (k + 8) (by omega) (by omega), he (k + 10) (by omega) (by omega), he (k + 11) (by omega) (by omega), he (k + 13) (by omega) (by omega), he (k + 15) (by omega) (by omega), he (k + 17) (by omega) (by omega), he (k + 19) (by omega) (by omega), he (k + 21) (by omega) (by omega), he (k + 23) (by omega) (by omega)]
  exact h
/-- a state and its row -/
def SW (c : Nat) (M : fM) (k : Nat) (f : Nat → Int32) : Prop := SR M k f ∧ WF c f
theorem WF.mono {c c' : Nat} {f : Nat → Int32} (h : WF c f) (hc : c ≤ c') : WF c' f := by
  obtain ⟨⟨a1, a2, a3, a4, a5⟩, b, d, e⟩ := h
  refine ⟨⟨a1, a2, a3, a4, a5.mono hc⟩, b, d, fun p hp => ?_⟩
  obtain ⟨e1, e2⟩ := e p hp
  exact ⟨e1.mono hc, e2⟩
theorem SW.mono {c c' : Nat} {M : fM} {k : Nat} {f : Nat → Int32} (h : SW c M k f) (hc : c ≤ c') : SW c' M k f := ⟨h.1, h.2.mono hc⟩
theorem SW.ext {c : Nat} {M M' : fM} {k : Nat} {f : Nat → Int32} (h : SW c M k f) (he : ∀ a, k ≤ a → a < k + 24 → M' a = M a) : SW c M' k f := ⟨h.1.ext he, h.2⟩
section WFL
variable {N : Nat} {f : Nat → Int32}
theorem WF.raws (h : WF N f) : f 0 = nI ((f 0).toNatClampNeg) ∧ (f 0).toNatClampNeg ≤ 6 := ⟨h.1.1.1, Nat.le_of_lt_succ h.1.1.2⟩
theorem WF.bats (h : WF N f) : f 1 = nI ((f 1).toNatClampNeg) ∧ (f 1).toNatClampNeg ≤ 6 := ⟨h.1.2.1.1, Nat.le_of_lt_succ h.1.2.1.2⟩
theorem WF.labs (h : WF N f) : f 2 = nI ((f 2).toNatClampNeg) ∧ (f 2).toNatClampNeg ≤ 8 := ⟨h.1.2.2.1.1, Nat.le_of_lt_succ h.1.2.2.1.2⟩
theorem WF.lots (h : WF N f) : f 3 = nI ((f 3).toNatClampNeg) ∧ (f 3).toNatClampNeg ≤ 8 := ⟨h.1.2.2.2.1.1, Nat.le_of_lt_succ h.1.2.2.2.1.2⟩
theorem le3 (h : WF N f) {j : Nat} (hj : j = (f 3).toNatClampNeg) : f 3 ≤ nI j := by
  subst hj
  rw [← h.lots.1]
  exact Int32.le_refl _
theorem nle3 (h : WF N f) {j : Nat} (hj : j < (f 3).toNatClampNeg) : ¬ f 3 ≤ nI j := fun q => by
  have hn := h.lots.2
  rw [h.lots.1] at q
  exact nI_ge hj (by omega) q
theorem lt3 (h : WF N f) {j : Nat} (hb : j < 1000) (hj : ¬ f 3 ≤ nI j) : j < (f 3).toNatClampNeg := Nat.lt_of_not_le fun q => hj (by rw [h.lots.1]; exact nI_le q (by omega))
theorem WF.nxt (h : WF N f) : f 4 = nI ((f 4).toNatClampNeg) ∧ (f 4).toNatClampNeg < N := ⟨h.1.2.2.2.2.1, h.1.2.2.2.2.2⟩
end WFL
/-- only the first 127 of a row count -/
theorem WF.cg {N : Nat} {f f' : Nat → Int32} (h : WF N f) (he : ∀ a, a < 127 → f' a = f a) : WF N f' := by
  have hb := h.bats.2
  have hl := h.labs.2
  have ho := h.lots.2
  obtain ⟨⟨a1, a2, a3, a4, a5⟩, b, d, e⟩ := h
  refine ⟨?_, ?_, ?_, ?_⟩
  · rw [he 0 (by omega), he 1 (by omega), he 2 (by omega), he 3 (by omega), he 4 (by omega)]
    exact ⟨a1, a2, a3, a4, a5⟩
  · intro q hq
    rw [he 1 (by omega)] at hq
    rw [he 0 (by omega), he (11 + 2 * q) (by omega), he (11 + 2 * q + 1) (by omega)]
    exact b q hq
  · intro q hq
    rw [he 2 (by omega)] at hq
    have h2 := d q hq
    have h3 := h2.1.1.2
    rw [he (23 + 7 * q) (by omega)]
    refine ⟨h2.1, fun i hi => ?_⟩
    rw [he (23 + 7 * q + (1 + i)) (by omega)]
    exact h2.2 i hi
  · intro q hq
    rw [he 3 (by omega)] at hq
    rw [he 1 (by omega), he 2 (by omega), he (79 + 6 * q) (by omega), he (79 + 6 * q + 1) (by omega), he (79 + 6 * q + 2) (by omega), he (79 + 6 * q + 3) (by omega), he (79 + 6 * q + 4) (by omega), he (79 + 6 * q + 5) (by omega)]
    exact e q hq
theorem SW.cg {N : Nat} {M : fM} {k : Nat} {f f' : Nat → Int32} (h : SW N M k f) (he : ∀ a, a < 127 → f' a = f a) : SW N M k f' := by
  refine ⟨?_, h.2.cg he⟩
  have hb := h.2.bats.2
  have hl := h.2.labs.2
  have ho := h.2.lots.2
  have hd := h.2.2.2.1
  obtain ⟨⟨a1, a2, a3⟩, b, ⟨d0, d⟩, ⟨e1, e2⟩, e, g1, g2, g3, g4, g5⟩ := h.1
  refine ⟨?_, ?_, ⟨?_, ?_⟩, ?_, ?_, ?_⟩
  · rw [he 0 (by omega), he 1 (by omega), he 6 (by omega)]
    exact ⟨a1, a2, a3⟩
  · intro q hq
    rw [he 1 (by omega)] at hq
    rw [he (11 + 2 * q) (by omega), he (11 + 2 * q + 1) (by omega)]
    exact b q hq
  · rw [he 2 (by omega)]; exact d0
  · intro q hq
    rw [he 2 (by omega)] at hq
    have h3 := (hd q hq).1.1.2
    rw [he (23 + 7 * q) (by omega)]
    refine ⟨(d q hq).1, fun i hi => ?_⟩
    rw [he (23 + 7 * q + (1 + i)) (by omega)]
    exact (d q hq).2 i hi
  · rw [he 3 (by omega), he 4 (by omega)]; exact ⟨e1, e2⟩
  · intro q hq
    rw [he 3 (by omega)] at hq
    rw [he (79 + 6 * q) (by omega), he (79 + 6 * q + 1) (by omega), he (79 + 6 * q + 2) (by omega), he (79 + 6 * q + 3) (by omega), he (79 + 6 * q + 4) (by omega), he (79 + 6 * q + 5) (by omega)]
    exact e q hq
  · rw [he 5 (by omega), he 7 (by omega), he 8 (by omega), he 9 (by omega), he 10 (by omega)]
    exact ⟨g1, g2, g3, g4, g5⟩
/-! ===== rows below their counts ===== -/
def ins (f : Nat → Int32) (p : Nat) : Int32 := f (11 + 2 * (f (79 + 6 * p + 3)).toNatClampNeg + 1) ||| f (11 + 2 * (f (79 + 6 * p + 4)).toNatClampNeg + 1)
def str (f : Nat → Int32) (p : Nat) : Int32 := (f (11 + 2 * (f (79 + 6 * p + 3)).toNatClampNeg) + f (11 + 2 * (f (79 + 6 * p + 4)).toNatClampNeg)) / 2
/-! ===== the invariant ===== -/
/-- where the i-th of C kept states lies, the next one going to n -/
def rg (n C i : Nat) : Nat := (n + 8 - C + i) % 8
def ItH (N : Nat) (M : fM) : Prop := ∃ C n : Nat, C ≤ 8 ∧ n < 8 ∧ M 296 5 = nI C ∧ M 73 2 = nI C ∧ M 73 1 = nI n ∧ ∀ i, i < C → SW N M (75 + 24 * rg n C i) (fun a => M 298 (127 * i + a))
def ItS (N : Nat) (M : fM) : Prop := (M 0 10 = 0 ∧ M 296 4 = 0) ∨ (M 0 10 = 1 ∧ M 296 4 = 1 ∧ SW N M 49 (M 299))
def ItT (M : fM) : Prop := M 267 0 = nI 60 ∧ M 267 2 = M 296 9 ∧ sm (M 296 9) 61 ∧ ∀ i, i < (M 296 9).toNatClampNeg → M 269 i = M 301 i ∧ sm (M 301 i) 127 ∧ 32 ≤ (M 301 i).toNatClampNeg
def ItL (M : fM) : Prop := M 270 0 = nI 60 ∧ M 270 2 = M 296 13 ∧ sm (M 296 13) 61 ∧ ∀ i, i < (M 296 13).toNatClampNeg → M 272 i = M 302 i ∧ sm (M 302 i) 128
def ItE (M : fM) : Prop := (M 0 11 = M 296 10 ∧ (M 296 10 = -1 ∨ sm (M 296 10) 100)) ∧ (M 0 12 = M 296 11 ∧ (M 296 11 = -1 ∨ sm (M 296 11) 100))
def ItZ (M : fM) : Prop := M 296 6 = 0 ∧ M 273 0 = nI 6 ∧ M 277 0 = nI 60
def It0 (N : Nat) (M : fM) : Prop := SW N M 1 (M 297) ∧ ItH N M ∧ ItS N M ∧ ItT M ∧ ItL M ∧ ItE M ∧ ItZ M
/-- c calls after the start: a call makes at most 32 lots -/
def It (c : Nat) (M : fM) : Prop := It0 (32 * c + 1) M
theorem ItH.mono {N N' : Nat} {M : fM} (h : ItH N M) (hN : N ≤ N') : ItH N' M := by
  obtain ⟨C, n, a1, a2, a3, a4, a5, a6⟩ := h
  exact ⟨C, n, a1, a2, a3, a4, a5, fun i hi => (a6 i hi).mono hN⟩
theorem ItS.mono {N N' : Nat} {M : fM} (h : ItS N M) (hN : N ≤ N') : ItS N' M := by
  rcases h with h | ⟨b1, b2, b3⟩
  · exact Or.inl h
  · exact Or.inr ⟨b1, b2, b3.mono hN⟩
theorem It0.mono {N N' : Nat} {M : fM} (h : It0 N M) (hN : N ≤ N') : It0 N' M := ⟨h.1.mono hN, h.2.1.mono hN, h.2.2.1.mono hN, h.2.2.2⟩
theorem It.up {c : Nat} {M : fM} (h : It c M) : It (c + 1) M := It0.mono h (by omega)
/-- how each part is kept -/
theorem ItH.ext {N : Nat} {M M' : fM} (h : ItH N M) (h1 : ∀ a, 73 ≤ a → a < 267 → M' a = M a) (h2 : M' 298 = M 298) (h3 : M' 296 5 = M 296 5) : ItH N M' := by
  obtain ⟨C, n, a1, a2, a3, a4, a5, a6⟩ := h
  refine ⟨C, n, a1, a2, by rw [h3]; exact a3, by rw [h1 73 (by omega) (by omega)]; exact a4, by rw [h1 73 (by omega) (by omega)]; exact a5, fun i hi => ?_⟩
  rw [h2]
  have hr : rg n C i < 8 := Nat.mod_lt _ (by decide)
  exact (a6 i hi).ext fun q q1 q2 => h1 q (by omega) (by omega)
theorem ItS.ext {N : Nat} {M M' : fM} (h : ItS N M) (h1 : ∀ a, 49 ≤ a → a < 73 → M' a = M a) (h2 : M' 299 = M 299) (h3 : M' 0 10 = M 0 10) (h4 : M' 296 4 = M 296 4) : ItS N M' := by
  rcases h with ⟨f1, f2⟩ | ⟨f1, f2, f3⟩
  · exact Or.inl ⟨by rw [h3]; exact f1, by rw [h4]; exact f2⟩
  · refine Or.inr ⟨by rw [h3]; exact f1, by rw [h4]; exact f2, ?_⟩
    rw [h2]; exact f3.ext fun q q1 q2 => h1 q (by omega) (by omega)
theorem ItT.ext {M M' : fM} (h : ItT M) (h1 : M' 267 = M 267) (h2 : M' 269 = M 269) (h3 : M' 301 = M 301) (h4 : M' 296 9 = M 296 9) : ItT M' := by
  unfold ItT; rw [h1, h2, h3, h4]; exact h
theorem ItL.ext {M M' : fM} (h : ItL M) (h1 : M' 270 = M 270) (h2 : M' 272 = M 272) (h3 : M' 302 = M 302) (h4 : M' 296 13 = M 296 13) : ItL M' := by
  unfold ItL; rw [h1, h2, h3, h4]; exact h
theorem ItE.ext {M M' : fM} (h : ItE M) (h1 : M' 0 11 = M 0 11) (h2 : M' 0 12 = M 0 12) (h3 : M' 296 10 = M 296 10) (h4 : M' 296 11 = M 296 11) : ItE M' := by
  unfold ItE; rw [h1, h2, h3, h4]; exact h
theorem ItZ.ext {M M' : fM} (h : ItZ M) (h1 : M' 296 6 = M 296 6) (h2 : M' 273 0 = M 273 0) (h3 : M' 277 0 = M 277 0) : ItZ M' := by
  unfold ItZ; rw [h1, h2, h3]; exact h
/-- the cells of which the invariant speaks wholly -/
def mcell (a : Nat) : Prop := (1 ≤ a ∧ a ≤ 24) ∨ (49 ≤ a ∧ a ≤ 272) ∨ a = 297 ∨ a = 298 ∨ a = 299 ∨ a = 301 ∨ a = 302
/-- the same but for what lies outside the invariant's cells -/
def Sm (M M' : fM) : Prop := (∀ a, mcell a → M' a = M a) ∧ (M' 0 10 = M 0 10 ∧ M' 0 11 = M 0 11 ∧ M' 0 12 = M 0 12) ∧ (M' 273 0 = M 273 0 ∧ M' 277 0 = M 277 0) ∧ M' 296 4 = M 296 4 ∧ M' 296 5 = M 296 5 ∧ M' 296 6 = M 296 6 ∧ M' 296 9 = M 296 9 ∧ M' 296 10 = M 296 10 ∧ M' 296 11 = M 296 11 ∧ M' 296 13 = M 296 13
theorem Sm.rf {M : fM} : Sm M M := ⟨fun _ _ => rfl, ⟨rfl, rfl, rfl⟩, ⟨rfl, rfl⟩, rfl, rfl, rfl, rfl, rfl, rfl, rfl⟩
theorem Sm.tr {M M' M2 : fM} (h : Sm M M') (k : Sm M' M2) : Sm M M2 := by
  obtain ⟨a, ⟨b1, b2, b3⟩, ⟨c1, c2⟩, d1, d2, d3, d4, d5, d6, d7⟩ := h
  obtain ⟨a', ⟨b1', b2', b3'⟩, ⟨c1', c2'⟩, d1', d2', d3', d4', d5', d6', d7'⟩ := k
  exact ⟨fun x hx => (a' x hx).trans (a x hx), ⟨b1'.trans b1, b2'.trans b2, b3'.trans b3⟩, ⟨c1'.trans c1, c2'.trans c2⟩, d1'.trans d1, d2'.trans d2, d3'.trans d3, d4'.trans d4, d5'.trans d5, d6'.trans d6, d7'.trans d7⟩
theorem It.sm {c : Nat} {M M' : fM} (h : It c M) (k : Sm M M') : It c M' := by
  obtain ⟨h1, h2, h3, h4, h5, h6, h7⟩ := h
  obtain ⟨a, ⟨b1, b2, b3⟩, ⟨c1, c2⟩, d1, d2, d3, d4, d5, d6, d7⟩ := k
  refine ⟨?_, h2.ext (fun q q1 q2 => a q (by unfold mcell; omega)) (a 298 (by unfold mcell; omega)) d2, h3.ext (fun q q1 q2 => a q (by unfold mcell; omega)) (a 299 (by unfold mcell; omega)) b1 d1, h4.ext (a 267 (by unfold mcell; omega)) (a 269 (by unfold mcell; omega)) (a 301 (by unfold mcell; omega)) d4, h5.ext (a 270 (by unfold mcell; omega)) (a 272 (by unfold mcell; omega)) (a 302 (by unfold mcell; omega)) d7, h6.ext b2 b3 d5 d6, h7.ext d3 c1 c2⟩
  rw [a 297 (by unfold mcell; omega)]
  exact h1.ext fun q q1 q2 => a q (by unfold mcell; omega)
/-- a cell outside, or an int of the model's that counts not -/
theorem Sm.out {M : fM} {k j : Nat} {x : Int32} (hk : ¬ mcell k) (h0 : k ≠ 0) (h1 : k = 273 → j ≠ 0) (h2 : k = 277 → j ≠ 0) (h3 : k = 296 → j = 7 ∨ 14 ≤ j) : Sm M (fst1 M k j x) := by
  refine ⟨fun a ha => fst1_ne fun e => hk (e ▸ ha), ⟨by rw [fst1_ne (Ne.symm h0)], by rw [fst1_ne (Ne.symm h0)], by rw [fst1_ne (Ne.symm h0)]⟩, ⟨?_, ?_⟩, ?_, ?_, ?_, ?_, ?_, ?_, ?_⟩
  · by_cases e : k = 273
    · subst e; rw [fst1_nj (Ne.symm (h1 rfl))]
    · rw [fst1_ne (Ne.symm e)]
  · by_cases e : k = 277
    · subst e; rw [fst1_nj (Ne.symm (h2 rfl))]
    · rw [fst1_ne (Ne.symm e)]
  all_goals
    by_cases e : k = 296
    · subst e
      have := h3 rfl
      rw [fst1_nj (by omega)]
    · rw [fst1_ne (Ne.symm e)]
theorem Sm.code {M : fM} {x : Int32} : Sm M (fst1 M 296 7 x) := Sm.out (by unfold mcell; omega) (by decide) (by decide) (by decide) (fun _ => Or.inl rfl)
theorem Sm.out306 {M : fM} {x : Int32} : Sm M (fst1 M 306 0 x) := Sm.out (by unfold mcell; omega) (by decide) (by decide) (by decide) (by decide)
/-! ===== a call that looks, with a helper ===== -/
theorem opi_mk {G : fG} {zh zm : fMi} {as : List Value} {c : Nat} {M : fM} {dv : UInt64} (hI : It c M) (k b : Int32) (M1 M2 : fM) (hM2 : Sm M M2) (h7 : M2 296 7 = k) (hh : fCt G zh 60 (.ref 0 :: (as ++ [.ref 306])) (sS M dv) 16 96 (fD (some (.int k)) (sS M1 dv))) (hm : fCt G zm 60 (.ref 296 :: as) (sS M1 dv) 0 0 (fD (some (.int b)) (sS M2 dv))) (hb : k = 0 → M2 306 0 = b) : OPi G (It (c + 1)) zh zm M dv as :=
  ⟨k, b, M1, M2, hh, hm, h7, hb, hI.up.sm hM2⟩
theorem opb_mk {G : fG} {zh zm : fMi} {as : List Value} {c : Nat} {M : fM} {dv : UInt64} (hI : It c M) (k b : Int32) (M1 M2 : fM) (hM2 : Sm M M2) (h7 : M2 296 7 = k) (hh : fCt G zh 60 (.ref 0 :: (as ++ [.ref 306])) (sS M dv) 16 96 (fD (some (.int k)) (sS M1 dv))) (hm : fCt G zm 60 (.ref 296 :: as) (sS M1 dv) 0 0 (fD (some (.int b)) (sS M2 dv))) (hb : k = 0 → M2 306 0 = oL b) : OPb G (It (c + 1)) zh zm M dv as :=
  ⟨k, b, M1, M2, hh, hm, h7, hb, hI.up.sm hM2⟩
/-! ===== the checks of both sides ===== -/
section CHK
variable {N : Nat} {M W : fM} {k : Nat} {f : Nat → Int32}
theorem c_raw (h : SW N M k f) (x : Int32) : r_X0_hasRaw M (k + 1) x = exd (∃ i, x = nI i ∧ i < (f 0).toNatClampNeg) := by
  obtain ⟨e, hn⟩ := h.2.raws
  have h3 := below_if (x := x) (n := (f 0).toNatClampNeg) (by omega)
  rw [r_X0_hasRaw, h.1.1.1]
  rw [← e] at h3
  exact h3
theorem c_bat (h : SW N M k f) (x : Int32) : r_X0_hasBatch M (k + 1) x = exd (∃ i, x = nI i ∧ i < (f 1).toNatClampNeg) := by
  obtain ⟨e, hn⟩ := h.2.bats
  have h3 := below_if (x := x) (n := (f 1).toNatClampNeg) (by omega)
  rw [r_X0_hasBatch, h.1.1.2.2]
  rw [← e] at h3
  exact h3
theorem c_lab (h : SW N M k f) (x : Int32) : r_X6_has M (k + 6) x = exd (∃ i, x = nI i ∧ i < (f 2).toNatClampNeg) := by
  obtain ⟨e, hn⟩ := h.2.labs
  have h3 := below_if (x := x) (n := (f 2).toNatClampNeg) (by omega)
  rw [r_X6_has, h.1.2.2.1.1]
  rw [← e] at h3
  exact h3
theorem m_raw (hW : W 297 = f) (h : WF N f) (x : Int32) : r_X12_isRaw W x = exd (∃ i, x = nI i ∧ i < (f 0).toNatClampNeg) := by
  obtain ⟨e, hn⟩ := h.raws
  have h3 := in_below (M := W) (x := x) (n := (f 0).toNatClampNeg) (by omega)
  rw [r_X12_isRaw, cl_0, hW]
  rw [← e] at h3
  exact h3
theorem m_bat (hW : W 297 = f) (h : WF N f) (x : Int32) : r_X12_isBatch W x = exd (∃ i, x = nI i ∧ i < (f 1).toNatClampNeg) := by
  obtain ⟨e, hn⟩ := h.bats
  have h3 := in_below (M := W) (x := x) (n := (f 1).toNatClampNeg) (by omega)
  rw [r_X12_isBatch, cl_1, hW]
  rw [← e] at h3
  exact h3
theorem m_lab (hW : W 297 = f) (h : WF N f) (x : Int32) : r_X12_isLabel W x = exd (∃ i, x = nI i ∧ i < (f 2).toNatClampNeg) := by
  obtain ⟨e, hn⟩ := h.labs
  have h3 := in_below (M := W) (x := x) (n := (f 2).toNatClampNeg) (by omega)
  rw [r_X12_isLabel, cl_2, hW]
  rw [← e] at h3
  exact h3
/-- a state's rows, below their counts -/
theorem c_srcs (h : SW N M k f) {b : Nat} (hb : b < (f 1).toNatClampNeg) : rget M (k + 1 + 1) 6 (nI b) = f (11 + 2 * b + 1) := by
  rw [rget_in (by have := h.2.bats.2; omega) (by decide)]
  exact (h.1.2.1 b hb).1
theorem c_strs (h : SW N M k f) {b : Nat} (hb : b < (f 1).toNatClampNeg) : rget M (k + 1 + 3) 6 (nI b) = f (11 + 2 * b) := by
  rw [rget_in (by have := h.2.bats.2; omega) (by decide)]
  exact (h.1.2.1 b hb).2
theorem c_lens (h : SW N M k f) {l : Nat} (hl : l < (f 2).toNatClampNeg) : rget M (k + 6 + 1) 8 (nI l) = f (23 + 7 * l) := by
  rw [rget_in (by have := h.2.labs.2; omega) (by decide)]
  exact (h.1.2.2.1.2 l hl).1
theorem c_nums (h : SW N M k f) {p : Nat} (hp : p < (f 3).toNatClampNeg) : rget M (k + 11 + 1) 8 (nI p) = f (79 + 6 * p) := by
  rw [rget_in (by have := h.2.lots.2; omega) (by decide)]
  exact (h.1.2.2.2.2.1 p hp).1
theorem c_fsts (h : SW N M k f) {p : Nat} (hp : p < (f 3).toNatClampNeg) : rget M (k + 11 + 3) 8 (nI p) = f (79 + 6 * p + 3) := by
  rw [rget_in (by have := h.2.lots.2; omega) (by decide)]
  exact (h.1.2.2.2.2.1 p hp).2.1
theorem c_snds (h : SW N M k f) {p : Nat} (hp : p < (f 3).toNatClampNeg) : rget M (k + 11 + 5) 8 (nI p) = f (79 + 6 * p + 4) := by
  rw [rget_in (by have := h.2.lots.2; omega) (by decide)]
  exact (h.1.2.2.2.2.1 p hp).2.2.1
theorem c_mrks (h : SW N M k f) {p : Nat} (hp : p < (f 3).toNatClampNeg) : rget M (k + 11 + 7) 8 (nI p) = f (79 + 6 * p + 2) := by
  rw [rget_in (by have := h.2.lots.2; omega) (by decide)]
  exact (h.1.2.2.2.2.1 p hp).2.2.2.1
theorem c_jars (h : SW N M k f) {p : Nat} (hp : p < (f 3).toNatClampNeg) : rget M (k + 11 + 9) 8 (nI p) = f (79 + 6 * p + 1) := by
  rw [rget_in (by have := h.2.lots.2; omega) (by decide)]
  exact (h.1.2.2.2.2.1 p hp).2.2.2.2.1
theorem c_pres (h : SW N M k f) {p : Nat} (hp : p < (f 3).toNatClampNeg) : rget M (k + 11 + 11) 8 (nI p) = f (79 + 6 * p + 5) := by
  rw [rget_in (by have := h.2.lots.2; omega) (by decide)]
  exact (h.1.2.2.2.2.1 p hp).2.2.2.2.2
theorem c_letr (h : SW N M k f) {l i : Nat} (hl : l < (f 2).toNatClampNeg) (hi : i < (f (23 + 7 * l)).toNatClampNeg) : r_X6_letter M (k + 6) (nI l) (nI i) = f (23 + 7 * l + (1 + i)) := by
  have hL := h.2.labs.2
  have h1 := h.2.2.2.1 l hl
  have h2 := h1.1.1.2
  have h3 := (h1.2 i hi).1
  rw [r_X6_letter, show (6 : Int32) = nI 6 from rfl, pk_mul, nI_add, rget_in (by omega) (by decide), show l * 6 + i = 6 * l + i by omega]
  rw [show k + 6 + 3 + 1 = k + 10 by omega, (h.1.2.2.1.2 l hl).2 i hi, pk_char]
  have h4 : (f (23 + 7 * l + (1 + i))).toBitVec.toNat = (f (23 + 7 * l + (1 + i))).toNatClampNeg := by
    exact (congrArg (fun x : Int32 => x.toBitVec.toNat) h3.1).trans (pk_tn (by have := h3.2; omega))
  rw [h4, Nat.mod_eq_of_lt (by have := h3.2; omega)]
  exact h3.1.symm
theorem c_raws (h : SW N M k f) {p : Nat} (hp : p < (f 3).toNatClampNeg) : r_X8_rawsAt M k (nI p) = ins f p := by
  obtain ⟨-, -, -, h1, h2, -⟩ := h.2.2.2.2 p hp
  rw [r_X8_rawsAt, c_fsts h hp, c_snds h hp, h1.1, h2.1, c_srcs h h1.2, c_srcs h h2.2]
  rfl
theorem c_strg (h : SW N M k f) {p : Nat} (hp : p < (f 3).toNatClampNeg) : r_X8_strengthAt M k (nI p) = str f p := by
  obtain ⟨-, -, -, h1, h2, -⟩ := h.2.2.2.2 p hp
  rw [r_X8_strengthAt, c_fsts h hp, c_snds h hp, h1.1, h2.1, c_strs h h1.2, c_strs h h2.2]
  rfl
theorem m_of (hW : W 297 = f) {b w : Nat} (hb : b < 1000) (hw : w < 1000) (X : Int32) (hX : X = nI w) : r_X12_of W (nI b) X = f (11 + 2 * b + w) := by rw [of_nI hb hw X hX, hW]
theorem m_by (hW : W 297 = f) {p w : Nat} (hp : p < 1000) (hw : w < 1000) (X : Int32) (hX : X = nI w) : r_X12_by W (nI p) X = f (79 + 6 * p + w) := by rw [by_nI hp hw X hX, hW]
theorem m_sign (hW : W 297 = f) {l w : Nat} (hl : l < 1000) (hw : w < 1000) (X : Int32) (hX : X = nI w) : r_X12_sign W (nI l) X = f (23 + 7 * l + w) := by rw [sign_nI hl hw X hX, hW]
theorem m_ins (hW : W 297 = f) (h : WF N f) {p : Nat} (hp : p < (f 3).toNatClampNeg) : r_X12_inside W (nI p) = ins f p := by
  obtain ⟨-, -, -, h1, h2, -⟩ := h.2.2.2 p hp
  have hn := h.lots.2
  have hb := h.bats.2
  have l1 := h1.2
  have l2 := h2.2
  rw [r_X12_inside, m_by hW (w := 3) (by omega) (by omega) 3 rfl, m_by hW (w := 4) (by omega) (by omega) 4 rfl]
  have e1 := m_of hW (b := (f (79 + 6 * p + 3)).toNatClampNeg) (w := 1) (by omega) (by omega) 1 rfl
  have e2 := m_of hW (b := (f (79 + 6 * p + 4)).toNatClampNeg) (w := 1) (by omega) (by omega) 1 rfl
  rw [← h1.1] at e1
  rw [← h2.1] at e2
  rw [e1, e2]
  rfl
theorem m_strong (hW : W 297 = f) (h : WF N f) {p : Nat} (hp : p < (f 3).toNatClampNeg) : r_X12_strong W (nI p) = str f p := by
  obtain ⟨-, -, -, h1, h2, -⟩ := h.2.2.2 p hp
  have hn := h.lots.2
  have hb := h.bats.2
  have l1 := h1.2
  have l2 := h2.2
  rw [r_X12_strong, m_by hW (w := 3) (by omega) (by omega) 3 rfl, m_by hW (w := 4) (by omega) (by omega) 4 rfl]
  have e1 := m_of hW (b := (f (79 + 6 * p + 3)).toNatClampNeg) (w := 0) (by omega) (by omega) 0 rfl
  have e2 := m_of hW (b := (f (79 + 6 * p + 4)).toNatClampNeg) (w := 0) (by omega) (by omega) 0 rfl
  rw [← h1.1] at e1
  rw [← h2.1] at e2
  rw [e1, e2]
  rfl
theorem N_ins (hW : W 297 = f) (h : WF N f) {p : Nat} (hp : p < (f 3).toNatClampNeg) : N_X12_inside W (nI p) := by
  obtain ⟨-, -, -, h1, h2, -⟩ := h.2.2.2 p hp
  have hn := h.lots.2
  have hb := h.bats.2
  have l1 := h1.2
  have l2 := h2.2
  refine ⟨Nby_nI (w := 3) (by omega) 3 rfl, ?_, Nby_nI (w := 4) (by omega) 4 rfl, ?_⟩
  · rw [m_by hW (w := 3) (by omega) (by omega) 3 rfl, h1.1]; exact Nof_nI (w := 1) (by omega) 1 rfl
  · rw [m_by hW (w := 4) (by omega) (by omega) 4 rfl, h2.1]; exact Nof_nI (w := 1) (by omega) 1 rfl
theorem N_strong (hW : W 297 = f) (h : WF N f) {p : Nat} (hp : p < (f 3).toNatClampNeg) : N_X12_strong W (nI p) := by
  obtain ⟨-, -, -, h1, h2, -⟩ := h.2.2.2 p hp
  have hn := h.lots.2
  have hb := h.bats.2
  have l1 := h1.2
  have l2 := h2.2
  refine ⟨Nby_nI (w := 3) (by omega) 3 rfl, ?_, Nby_nI (w := 4) (by omega) 4 rfl, ?_⟩
  · rw [m_by hW (w := 3) (by omega) (by omega) 3 rfl, h1.1]; exact Nof_nI (w := 0) (by omega) 0 rfl
  · rw [m_by hW (w := 4) (by omega) (by omega) 4 rfl, h2.1]; exact Nof_nI (w := 0) (by omega) 0 rfl
end CHK
