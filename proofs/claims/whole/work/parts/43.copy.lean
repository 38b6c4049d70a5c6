/-! ===== copies of states ===== -/
theorem rcpy_ne {M : fM} {k k2 n a : Nat} (h : a ≠ k + 1) : rcpy M k k2 n a = M a := by rw [rcpy, fsr_ne h]
theorem rcpy_at {M : fM} {k k2 n a b : Nat} (h : a = k + 1) (hb : b < n) : rcpy M k k2 n a b = M (k2 + 1) b := by
  subst h
  rw [rcpy, fsr_at]
  exact if_pos hb
theorem fs_at {M : fM} {k j a b : Nat} {x : Int32} (ha : a = k) (hb : b = j) : fst1 M k j x a b = x := by subst ha; subst hb; exact fst1_at _ _ _ _
theorem fs_nj {M : fM} {k j a b : Nat} {x : Int32} (ha : a = k) (hb : b ≠ j) : fst1 M k j x a b = M a b := by subst ha; exact fst1_nj hb
theorem cp0 {M : fM} {k k2 : Nat} (h : k2 + 5 ≤ k ∨ k + 5 ≤ k2) : (∀ a, a < k ∨ k + 5 ≤ a → m_X0_copyFrom M k k2 a = M a) ∧ (m_X0_copyFrom M k k2 k 2 = M k2 2 ∧ m_X0_copyFrom M k k2 k 3 = M k2 3 ∧ m_X0_copyFrom M k k2 k 4 = M k2 4) ∧ ∀ b, b < 6 → m_X0_copyFrom M k k2 (k + 2) b = M (k2 + 2) b ∧ m_X0_copyFrom M k k2 (k + 4) b = M (k2 + 4) b := by
  refine ⟨fun a ha => ?_, ⟨?_, ?_, ?_⟩, fun b hb => ⟨?_, ?_⟩⟩
  all_goals simp (disch := omega) only [m_X0_copyFrom, rcpy_ne, rcpy_at, fst1_ne, fs_at, fs_nj]
theorem cp6 {M : fM} {k k2 : Nat} (h : k2 + 5 ≤ k ∨ k + 5 ≤ k2) : (∀ a, a < k ∨ k + 5 ≤ a → m_X6_copyFrom M k k2 a = M a) ∧ m_X6_copyFrom M k k2 k 2 = M k2 2 ∧ (∀ b, b < 8 → m_X6_copyFrom M k k2 (k + 2) b = M (k2 + 2) b) ∧ ∀ b, b < 48 → m_X6_copyFrom M k k2 (k + 4) b = M (k2 + 4) b := by
  refine ⟨fun a ha => ?_, ?_, fun b hb => ?_, fun b hb => ?_⟩
  all_goals simp (disch := omega) only [m_X6_copyFrom, rcpy_ne, rcpy_at, fst1_ne, fs_at, fs_nj]
theorem cp5 {M : fM} {k k2 : Nat} (h : k2 + 13 ≤ k ∨ k + 13 ≤ k2) : (∀ a, a < k ∨ k + 13 ≤ a → m_X5_copyFrom M k k2 a = M a) ∧ (m_X5_copyFrom M k k2 k 6 = M k2 6 ∧ m_X5_copyFrom M k k2 k 7 = M k2 7) ∧ ∀ b, b < 8 → m_X5_copyFrom M k k2 (k + 2) b = M (k2 + 2) b ∧ m_X5_copyFrom M k k2 (k + 4) b = M (k2 + 4) b ∧ m_X5_copyFrom M k k2 (k + 6) b = M (k2 + 6) b ∧ m_X5_copyFrom M k k2 (k + 8) b = M (k2 + 8) b ∧ m_X5_copyFrom M k k2 (k + 10) b = M (k2 + 10) b ∧ m_X5_copyFrom M k k2 (k + 12) b = M (k2 + 12) b := by
  refine ⟨fun a ha => ?_, ⟨?_, ?_⟩, fun b hb => ⟨?_, ?_, ?_, ?_, ?_, ?_⟩⟩
  all_goals simp (disch := omega) only [m_X5_copyFrom, rcpy_ne, rcpy_at, fst1_ne, fs_at, fs_nj]
theorem cp8 {M : fM} {k k2 : Nat} (h : k2 + 24 ≤ k ∨ k + 24 ≤ k2) : (∀ a, a < k ∨ k + 24 ≤ a → m_X8_copyFrom M k k2 a = M a) ∧ (m_X8_copyFrom M k k2 k 3 = M k2 3 ∧ m_X8_copyFrom M k k2 k 4 = M k2 4 ∧ m_X8_copyFrom M k k2 k 5 = M k2 5 ∧ m_X8_copyFrom M k k2 k 6 = M k2 6 ∧ m_X8_copyFrom M k k2 k 7 = M k2 7) ∧ ∀ a, k < a → a < k + 24 → m_X8_copyFrom M k k2 a = m_X5_copyFrom (m_X6_copyFrom (m_X0_copyFrom M (k + 1) (k2 + 1)) (k + 6) (k2 + 6)) (k + 11) (k2 + 11) a := by
  have h0 : ∀ a, a < k + 1 ∨ k + 24 ≤ a → m_X5_copyFrom (m_X6_copyFrom (m_X0_copyFrom M (k + 1) (k2 + 1)) (k + 6) (k2 + 6)) (k + 11) (k2 + 11) a = M a := fun a ha => by
    rw [(cp5 (by omega)).1 a (by omega), (cp6 (by omega)).1 a (by omega), (cp0 (by omega)).1 a (by omega)]
  unfold m_X8_copyFrom
  generalize m_X5_copyFrom (m_X6_copyFrom (m_X0_copyFrom M (k + 1) (k2 + 1)) (k + 6) (k2 + 6)) (k + 11) (k2 + 11) = V at h0 ⊢
  refine ⟨fun a ha => ?_, ⟨?_, ?_, ?_, ?_, ?_⟩, fun a ha ha2 => ?_⟩
  · simp (disch := omega) only [fst1_ne]; exact h0 a (by omega)
  all_goals simp (disch := omega) only [fst1_ne, fs_at, fs_nj]
  all_goals rw [h0 k2 (by omega)]
/-- a copy of a state is one of its row -/
theorem SR_cp {N : Nat} {M : fM} {k k2 : Nat} {f : Nat → Int32} (h : k2 + 24 ≤ k ∨ k + 24 ≤ k2) (hS : SW N M k2 f) : SW N (m_X8_copyFrom M k k2) k f := by
  refine ⟨?_, hS.2⟩
  have hb := hS.2.bats.2
  have hl := hS.2.labs.2
  have ho := hS.2.lots.2
  have hd := hS.2.2.2.1
  obtain ⟨⟨a1, a2, a3⟩, b, ⟨d0, d⟩, ⟨e1, e2⟩, e, g1, g2, g3, g4, g5⟩ := hS.1
  obtain ⟨-, ⟨p1, p2, p3, p4, p5⟩, hin⟩ := cp8 (M := M) h
  obtain ⟨x5, ⟨x6, x7⟩, x8⟩ := cp5 (M := m_X6_copyFrom (m_X0_copyFrom M (k + 1) (k2 + 1)) (k + 6) (k2 + 6)) (k := k + 11) (k2 := k2 + 11) (by omega)
  obtain ⟨y5, y2, y3, y4⟩ := cp6 (M := m_X0_copyFrom M (k + 1) (k2 + 1)) (k := k + 6) (k2 := k2 + 6) (by omega)
  obtain ⟨z5, ⟨z2, z3, z4⟩, z6⟩ := cp0 (M := M) (k := k + 1) (k2 := k2 + 1) (by omega)
  have hz : ∀ a, (k2 ≤ a ∧ a < k2 + 24) → m_X6_copyFrom (m_X0_copyFrom M (k + 1) (k2 + 1)) (k + 6) (k2 + 6) a = M a := fun a ha => by rw [y5 a (by omega), z5 a (by omega)]
  have hy : ∀ a, (k2 ≤ a ∧ a < k2 + 24) → m_X0_copyFrom M (k + 1) (k2 + 1) a = M a := fun a ha => by rw [z5 a (by omega)]
  refine ⟨?_, ?_, ⟨?_, ?_⟩, ?_, ?_, ?_⟩
  · rw [hin (k + 1) (by omega) (by omega), x5 (k + 1) (by omega), y5 (k + 1) (by omega)]
    exact ⟨z2.trans a1, z3.trans a2, z4.trans a3⟩
  · intro q hq
    rw [hin (k + 3) (by omega) (by omega), hin (k + 5) (by omega) (by omega), x5 (k + 3) (by omega), x5 (k + 5) (by omega), y5 (k + 3) (by omega), y5 (k + 5) (by omega)]
    exact ⟨(z6 q (by omega)).1.trans (b q hq).1, (z6 q (by omega)).2.trans (b q hq).2⟩
  · rw [hin (k + 6) (by omega) (by omega), x5 (k + 6) (by omega), y2, hy (k2 + 6) (by omega)]; exact d0
  · intro q hq
    have h3 := (hd q hq).1.1.2
    rw [hin (k + 8) (by omega) (by omega), x5 (k + 8) (by omega), y3 q (by omega), hy (k2 + 6 + 2) (by omega)]
    refine ⟨(d q hq).1, fun i hi => ?_⟩
    rw [hin (k + 10) (by omega) (by omega), x5 (k + 10) (by omega), y4 (6 * q + i) (by omega), hy (k2 + 6 + 4) (by omega)]
    exact (d q hq).2 i hi
  · rw [hin (k + 11) (by omega) (by omega), x6, x7, hz (k2 + 11) (by omega)]; exact ⟨e1, e2⟩
  · intro q hq
    obtain ⟨w1, w2, w3, w4, w5, w6⟩ := x8 q (by omega)
    obtain ⟨v1, v2, v3, v4, v5, v6⟩ := e q hq
    rw [hz (k2 + 11 + 2) (by omega)] at w1
    rw [hz (k2 + 11 + 4) (by omega)] at w2
    rw [hz (k2 + 11 + 6) (by omega)] at w3
    rw [hz (k2 + 11 + 8) (by omega)] at w4
    rw [hz (k2 + 11 + 10) (by omega)] at w5
    rw [hz (k2 + 11 + 12) (by omega)] at w6
    rw [hin (k + 13) (by omega) (by omega), hin (k + 15) (by omega) (by omega), hin (k + 17) (by omega) (by omega), hin (k + 19) (by omega) (by omega), hin (k + 21) (by omega) (by omega), hin (k + 23) (by omega) (by omega)]
    exact ⟨w1.trans v1, w2.trans v2, w3.trans v3, w4.trans v4, w5.trans v5, w6.trans v6⟩
  · exact ⟨p1.trans g1, p2.trans g2, p3.trans g3, p4.trans g4, p5.trans g5⟩
/-! ===== the model's copies ===== -/
theorem mcp_loop {p q a b : Nat} (hpq : p ≠ q) (hb : b < 2000) (ha : a < 2000) (n z : Nat) (M0 : fM) : ∀ (m j : Nat), j ≤ 127 → 128 ≤ j + m → l_X12_copies p n (nI a) q z (nI b) (fsr M0 q (fun x => if b ≤ x ∧ x < b + j then M0 p (a + (x - b)) else M0 q x)) m j = fsr M0 q (fun x => if b ≤ x ∧ x < b + 127 then M0 p (a + (x - b)) else M0 q x) := by
  intro m
  induction m with
  | zero => intro j h1 h2; omega
  | succ m ih =>
    intro j h1 h2
    rw [l_X12_copies]
    by_cases hj : j = 127
    · subst hj
      rw [if_pos (show (127 : Int32) ≤ nI 127 by decide)]
    · rw [if_neg (show ¬ (127 : Int32) ≤ nI j from nI_ge (b := 127) (by omega) (by omega)), nI_add, nI_add, nI_clamp (by omega), nI_clamp (by omega), fsr_ne hpq, fst1_fsr]
      rw [← ih (j + 1) (by omega) (by omega)]
      congr 1
      refine fsr_congr fun x => ?_
      by_cases h3 : x = b + j
      · subst h3
        rw [if_pos rfl, if_pos (by omega)]
        rw [show a + (b + j - b) = a + j by omega]
      · rw [if_neg h3]
        by_cases h4 : b ≤ x ∧ x < b + j
        · rw [if_pos h4, if_pos (by omega)]
        · rw [if_neg h4, if_neg (by omega)]
theorem mcp {p q a b : Nat} (hpq : p ≠ q) (ha : a < 2000) (hb : b < 2000) (n z : Nat) (W : fM) (A B : Int32) (hA : A = nI a) (hB : B = nI b) : m_X12_copies W p n A q z B = fsr W q (fun x => if b ≤ x ∧ x < b + 127 then W p (a + (x - b)) else W q x) := by
  subst hA; subst hB
  rw [m_X12_copies]
  have h := mcp_loop hpq hb ha n z W 128 0 (by omega) (by omega)
  have e : fsr W q (fun x => if b ≤ x ∧ x < b + 0 then W p (a + (x - b)) else W q x) = W := by
    rw [show (fun x => if b ≤ x ∧ x < b + 0 then W p (a + (x - b)) else W q x) = W q from funext fun x => if_neg (by omega), fsr_self]
  rw [e] at h
  exact h
theorem N_mcp {W : fM} {p q a b n z : Nat} (ha : a + 127 ≤ n) (hb : b + 127 ≤ z) (hn : n < 2000) (hz : z < 2000) (A B : Int32) (hA : A = nI a) (hB : B = nI b) : N_X12_copies W p n A q z B := by
  subst hA; subst hB
  have h127 : ∀ j : Nat, j ≤ 127 → ¬ (127 : Int32) ≤ nI j → j < 127 := fun j h1 h2 => Nat.lt_of_not_le fun q => h2 (nI_le (a := 127) q (by omega))
  exact ⟨fun j h1 h2 => by have := h127 j h1 h2; rw [nI_add]; exact vp_in_nI (by omega) (by omega), fun j h1 h2 => by have := h127 j h1 h2; rw [nI_add]; exact vp_in_nI (by omega) (by omega)⟩
/-- the kept rows after one more -/
def kpF (h : Nat → Int32) (C : Nat) (g : Nat → Int32) : Nat → Int32 := fun b => if C = 8 then (if b < 889 then h (b + 127) else if b < 1016 then g (b - 889) else h b) else if 127 * C ≤ b ∧ b < 127 * C + 127 then g (b - 127 * C) else h b
def kpC (C : Nat) : Nat := if C = 8 then 8 else C + 1
theorem kp_shift (p n : Nat) (M0 : fM) : ∀ (m j : Nat), j ≤ 889 → 890 ≤ j + m → l_X12_keepsL p n (fsr M0 298 (fun x => if x < j then M0 298 (x + 127) else M0 298 x)) m j = fsr M0 298 (fun x => if x < 889 then M0 298 (x + 127) else M0 298 x) := by
  intro m
  induction m with
  | zero => intro j h1 h2; omega
  | succ m ih =>
    intro j h1 h2
    rw [l_X12_keepsL]
    by_cases hj : j = 889
    · subst hj
      rw [if_pos (show (889 : Int32) ≤ nI 889 by decide)]
    · rw [if_neg (show ¬ (889 : Int32) ≤ nI j from nI_ge (b := 889) (by omega) (by omega)), show nI j + (127 : Int32) = nI (j + 127) from nI_add j 127, nI_clamp (by omega), nI_clamp (by omega), fst1_fsr, fsr_at]
      rw [← ih (j + 1) (by omega) (by omega)]
      congr 1
      refine fsr_congr fun x => ?_
      rw [if_neg (show ¬ j + 127 < j by omega)]
      by_cases h3 : x = j
      · subst h3
        rw [if_pos rfl, if_pos (by omega)]
      · rw [if_neg h3]
        by_cases h4 : x < j
        · rw [if_pos h4, if_pos (by omega)]
        · rw [if_neg h4, if_neg (by omega)]
theorem kp_in {W : fM} {p n : Nat} (h : ¬ W 296 6 = 0) : m_X12_keeps W p n = fst1 W 296 7 0 := by
  rw [m_X12_keeps, fst1_nj (show 6 ≠ 7 by decide), if_neg h]
theorem kp_out {W : fM} {p C : Nat} (hp : p ≠ 296) (hp2 : p ≠ 298) (hC : C ≤ 8) (h6 : W 296 6 = 0) (h5 : W 296 5 = nI C) : m_X12_keeps W p 127 = fsr (fst1 (fst1 W 296 7 0) 296 5 (nI (kpC C))) 298 (kpF (W 298) C (W p)) := by
  rw [m_X12_keeps, fst1_nj (show 6 ≠ 7 by decide), if_pos h6, fst1_nj (show 5 ≠ 7 by decide), h5]
  by_cases h8 : C = 8
  · subst h8
    rw [if_pos (show nI 8 = (8 : Int32) from rfl)]
    have es : l_X12_keepsL p 127 (fst1 W 296 7 0) 890 0 = fsr (fst1 W 296 7 0) 298 (fun x => if x < 889 then W 298 (x + 127) else W 298 x) := by
      have h := kp_shift p 127 (fst1 W 296 7 0) 890 0 (by omega) (by omega)
      have e : fsr (fst1 W 296 7 0) 298 (fun x => if x < 0 then (fst1 W 296 7 0) 298 (x + 127) else (fst1 W 296 7 0) 298 x) = fst1 W 296 7 0 := by
        rw [show (fun x => if x < 0 then (fst1 W 296 7 0) 298 (x + 127) else (fst1 W 296 7 0) 298 x) = (fst1 W 296 7 0) 298 from funext fun x => if_neg (by omega), fsr_self]
      rw [e, fst1_ne (show 298 ≠ 296 by decide)] at h
      exact h
    have e1 : a1_X12_keeps W p 127 = fst1 (fsr (fst1 W 296 7 0) 298 (fun x => if x < 889 then W 298 (x + 127) else W 298 x)) 296 5 (nI 7) := by
      rw [a1_X12_keeps, es, fsr_ne (show 296 ≠ 298 by decide), fst1_nj (show 5 ≠ 7 by decide), h5, show nI 8 - 1 = nI 7 from rfl]
    rw [a2_X12_keeps, e1, fst1_at, mcp (a := 0) (b := 889) hp2 (by omega) (by omega) 127 1016 _ 0 (127 * nI 7) rfl (by decide)]
    funext a
    by_cases a8 : a = 298
    · subst a8
      rw [fst1_ne (by decide), fsr_at, fsr_at]
      funext x
      rw [kpF, if_pos rfl, fst1_ne hp, fsr_ne hp2, fst1_ne hp, fst1_ne (by decide), fsr_at]
      by_cases h1 : x < 889
      · rw [if_neg (by omega), if_pos h1, if_pos h1]
      · rw [if_neg h1, if_neg h1]
        by_cases h2 : x < 1016
        · rw [if_pos (by omega), if_pos h2, Nat.zero_add]
        · rw [if_neg (by omega), if_neg h2]
    · rw [fsr_ne a8, fsr_ne (show 296 ≠ 298 by decide), fst1_at, show nI 7 + 1 = nI (kpC 8) from rfl]
      by_cases a6 : a = 296
      · subst a6
        funext x
        by_cases x5 : x = 5
        · subst x5; rw [fst1_at, fst1_at]
        · rw [fst1_nj x5, fsr_ne (by decide), fst1_nj x5, fsr_ne (by decide), fst1_nj x5]
      · rw [fst1_ne a6, fsr_ne a8, fst1_ne a6, fsr_ne a8, fst1_ne a6, fst1_ne a6, fst1_ne a6]
  · rw [if_neg (show ¬ nI C = (8 : Int32) from fun q => h8 ((nI_eq (b := 8) (by omega) (by omega)).mp q))]
    have e0 : a0_X12_keeps W p 127 = fsr (fst1 W 296 7 0) 298 (kpF (W 298) C (W p)) := by
      rw [a0_X12_keeps, fst1_nj (show 5 ≠ 7 by decide), h5, mcp (a := 0) (b := 127 * C) hp2 (by omega) (by omega) 127 1016 _ 0 (127 * nI C) rfl (pk_mul 127 C)]
      refine fsr_congr fun x => ?_
      rw [kpF, if_neg h8, fst1_ne hp, fst1_ne (show 298 ≠ 296 by decide), Nat.zero_add]
    rw [e0, fsr_ne (show 296 ≠ 298 by decide), fst1_nj (show 5 ≠ 7 by decide), h5, nI_1, show C + 1 = kpC C from (if_neg h8).symm]
    funext a
    by_cases a8 : a = 298
    · subst a8
      rw [fst1_ne (by decide), fsr_at, fsr_at]
    · rw [fsr_ne a8]
      by_cases a6 : a = 296
      · subst a6
        funext x
        by_cases x5 : x = 5
        · subst x5; rw [fst1_at, fst1_at]
        · rw [fst1_nj x5, fsr_ne (by decide), fst1_nj x5]
      · rw [fst1_ne a6, fsr_ne a8, fst1_ne a6, fst1_ne a6, fst1_ne a6]
theorem N_kp_in {W : fM} {p n : Nat} (h : ¬ W 296 6 = 0) : N_X12_keeps W p n := by
  have h6 : ¬ (fst1 W 296 7 (0 : Int32)) 296 6 = 0 := by rw [fst1_nj (by decide)]; exact h
  exact ⟨fun q => absurd q h6, fun q => absurd q h6, fun q => absurd q h6⟩
theorem N_kp_out {W : fM} {p C : Nat} (hC : C ≤ 8) (h5 : W 296 5 = nI C) : N_X12_keeps W p 127 := by
  have e5 : (fst1 W 296 7 (0 : Int32)) 296 5 = nI C := by rw [fst1_nj (by decide)]; exact h5
  refine ⟨fun _ q => ?_, fun _ _ j h1 h2 => ?_, fun _ q => ?_⟩
  · rw [e5] at q ⊢
    have : C ≠ 8 := fun r => q (by subst r; rfl)
    exact N_mcp (a := 0) (b := 127 * C) (by omega) (by omega) (by omega) (by omega) 0 _ rfl (pk_mul 127 C)
  · have : j < 889 := Nat.lt_of_not_le fun q => h2 (nI_le (a := 889) q (by omega))
    rw [show nI j + (127 : Int32) = nI (j + 127) from nI_add j 127]
    exact vp_in_nI (by omega) (by omega)
  · rw [e5] at q
    have h8 : C = 8 := (nI_eq (b := 8) (by omega) (by omega)).mp q
    have e1 : (a1_X12_keeps W p 127) 296 5 = nI 7 := by
      have h := kp_shift p 127 (fst1 W 296 7 0) 890 0 (by omega) (by omega)
      have e : fsr (fst1 W 296 7 0) 298 (fun x => if x < 0 then (fst1 W 296 7 0) 298 (x + 127) else (fst1 W 296 7 0) 298 x) = fst1 W 296 7 0 := by
        rw [show (fun x => if x < 0 then (fst1 W 296 7 0) 298 (x + 127) else (fst1 W 296 7 0) 298 x) = (fst1 W 296 7 0) 298 from funext fun x => if_neg (by omega), fsr_self]
      rw [e] at h
      rw [a1_X12_keeps, fst1_at, h, fsr_ne (show 296 ≠ 298 by decide), e5, h8]
      rfl
    rw [e1]
    exact N_mcp (a := 0) (b := 889) (by omega) (by omega) (by omega) (by omega) 0 _ rfl (by decide)
/-! ===== keeping, on both sides ===== -/
theorem kc_keep {N : Nat} {M : fM} {k : Nat} {g : Nat → Int32} {C n : Nat} (hk : k + 24 ≤ 73) (hn : n < 8) (hC : C ≤ 8) (h1 : M 73 1 = nI n) (h2 : M 73 2 = nI C) (hS : SW N M k g) : (∀ a, a ≠ 73 → a < 75 + 24 * n ∨ 75 + 24 * n + 24 ≤ a → m_X4_keep M k a = M a) ∧ m_X4_keep M k 73 1 = nI ((n + 1) % 8) ∧ m_X4_keep M k 73 2 = nI (kpC C) ∧ SW N (m_X4_keep M k) (75 + 24 * n) g := by
  obtain ⟨q1, -, -⟩ := cp8 (M := M) (k := 75 + 24 * n) (k2 := k) (by omega)
  have q2 := SR_cp (k := 75 + 24 * n) (k2 := k) (by omega) hS
  rw [m_X4_keep, h1, nI_clamp (by omega)]
  generalize m_X8_copyFrom M (75 + 24 * n) k = V at q1 q2 ⊢
  have v1 : V 73 1 = nI n := by rw [q1 73 (by omega)]; exact h1
  have v2 : V 73 2 = nI C := by rw [q1 73 (by omega)]; exact h2
  have ec : (if (8 : Int32) < nI C + 1 then (8 : Int32) else nI C + 1) = nI (kpC C) := by
    rw [nI_1]
    by_cases h8 : C = 8
    · subst h8; decide
    · rw [if_neg (show ¬ (8 : Int32) < nI (C + 1) from nI_nlt (b := C + 1) (a := 8) (by omega) (by omega)), kpC, if_neg h8]
  rw [v1, nI_1]
  by_cases h7 : n = 7
  · subst h7
    rw [if_pos (show (8 : Int32) ≤ nI (7 + 1) by decide), fst1_nj (show 2 ≠ 1 by decide), v2, ec]
    refine ⟨fun a a1 a2 => ?_, ?_, fst1_at _ _ _ _, q2.ext fun a a1 a2 => ?_⟩
    · rw [fst1_ne a1, fst1_ne a1, q1 a a2]
    · rw [fst1_nj (by decide), fst1_at]; rfl
    · rw [fst1_ne (by omega), fst1_ne (by omega)]
  · rw [if_neg (show ¬ (8 : Int32) ≤ nI (n + 1) from nI_ge (b := 8) (by omega) (by omega)), fst1_nj (show 2 ≠ 1 by decide), v2, ec]
    refine ⟨fun a a1 a2 => ?_, ?_, fst1_at _ _ _ _, q2.ext fun a a1 a2 => ?_⟩
    · rw [fst1_ne a1, fst1_ne a1, q1 a a2]
    · rw [fst1_nj (by decide), fst1_at, Nat.mod_eq_of_lt (by omega)]
    · rw [fst1_ne (by omega), fst1_ne (by omega)]
/-- the history after both keep -/
theorem ItH_keep {N : Nat} {M W : fM} {k : Nat} {g : Nat → Int32} {C n : Nat} (hk : k + 24 ≤ 73) (hn : n < 8) (hC : C ≤ 8) (h1 : M 73 1 = nI n) (h2 : M 73 2 = nI C) (hS : SW N M k g) (hR : ∀ i, i < C → SW N M (75 + 24 * rg n C i) (fun a => M 298 (127 * i + a))) (w1 : ∀ a, 73 ≤ a → a < 267 → W a = m_X4_keep M k a) (w2 : W 298 = kpF (M 298) C g) (w3 : W 296 5 = nI (kpC C)) : ItH N W := by
  obtain ⟨f1, f2, f3, f4⟩ := kc_keep hk hn hC h1 h2 hS
  have hC' : kpC C ≤ 8 := by unfold kpC; split <;> omega
  refine ⟨kpC C, (n + 1) % 8, hC', Nat.mod_lt _ (by decide), w3, by rw [w1 73 (by omega) (by omega)]; exact f3, by rw [w1 73 (by omega) (by omega)]; exact f2, fun i hi => ?_⟩
  have hr : rg ((n + 1) % 8) (kpC C) i < 8 := Nat.mod_lt _ (by decide)
  have hW : ∀ r f, r < 8 → SW N (m_X4_keep M k) (75 + 24 * r) f → SW N W (75 + 24 * r) f := fun r f hr h => h.ext fun a a1 a2 => w1 a (by omega) (by omega)
  refine hW _ _ hr ?_
  rw [w2]
  by_cases h8 : C = 8
  · subst h8
    have e8 : kpC 8 = 8 := rfl
    rw [e8] at hi ⊢
    by_cases h7 : i = 7
    · subst h7
      have er : rg ((n + 1) % 8) 8 7 = n := by unfold rg; omega
      rw [er]
      refine f4.cg fun a ha => ?_
      rw [kpF, if_pos rfl, if_neg (by omega), if_pos (by omega), show 127 * 7 + a - 889 = a by omega]
    · have er : rg ((n + 1) % 8) 8 i = rg n 8 (i + 1) := by unfold rg; omega
      have er2 : rg n 8 (i + 1) ≠ n := by unfold rg; omega
      have er3 : rg n 8 (i + 1) < 8 := Nat.mod_lt _ (by decide)
      rw [er]
      have h9 := hR (i + 1) (by omega)
      refine (h9.ext fun a a1 a2 => f1 a (by omega) (by omega)).cg fun a ha => ?_
      rw [kpF, if_pos rfl, if_pos (by omega)]
      congr 1; omega
  · have e8 : kpC C = C + 1 := if_neg h8
    rw [e8] at hi ⊢
    by_cases h7 : i = C
    · subst h7
      have er : rg ((n + 1) % 8) (i + 1) i = n := by unfold rg; omega
      rw [er]
      refine f4.cg fun a ha => ?_
      rw [kpF, if_neg h8, if_pos (by omega)]
      congr 1; omega
    · have er : rg ((n + 1) % 8) (C + 1) i = rg n C i := by unfold rg; omega
      have er2 : rg n C i ≠ n := by unfold rg; omega
      have er3 : rg n C i < 8 := Nat.mod_lt _ (by decide)
      rw [er]
      refine ((hR i (by omega)).ext fun a a1 a2 => f1 a (by omega) (by omega)).cg fun a ha => ?_
      rw [kpF, if_neg h8, if_neg (by omega)]
