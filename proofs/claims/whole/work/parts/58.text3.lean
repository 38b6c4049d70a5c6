/-! ===== a whole text on both sides ===== -/
def CC (M W : fM) (c : Nat) : Prop := ∃ K, K < 6 ∧ M 281 c = nI K ∧ W 305 (5 * c) = nI K ∧ ∀ t, t < ar K → sm (M 283 (4 * c + t)) 100 ∧ W 305 (5 * c + 1 + t) = M 283 (4 * c + t)
def RD0 (T : Nat) (s : Nat → Int32) (M : fM) (i : Nat) : Prop := (M 276 5 = nI i ∧ i ≤ T) ∧ M 277 2 = nI T ∧ ∀ q, q < T → M 279 q = s q
def FC3 (M m : fM) : Prop := ∀ q, q ≠ 276 → q ≠ 281 → q ≠ 283 → m q = M q
def FM3 (W m : fM) : Prop := (∀ q, q ≠ 296 → q ≠ 305 → m q = W q) ∧ ∀ b, b ≠ 16 → b ≠ 18 → m 296 b = W 296 b
def TR (T : Nat) (M W : fM) (rC : Int32) (mC : fM) (rW : Int32) (mW : fM) : Prop := ∃ p, p ≤ T ∧ mC 276 5 = nI p ∧ mW 296 16 = nI p ∧ FC3 M mC ∧ FM3 W mW ∧ ((rC = 0 ∧ rW = 0) ∨ (rC = 1 ∧ rW = 1 ∧ ∃ n, n ≤ 16 ∧ mC 276 3 = nI n ∧ mW 296 18 = nI n ∧ ∀ c, c < n → CC mC mW c))
theorem ar4 (K : Nat) : ar K ≤ 4 := by
  unfold ar
  split <;> omega
section TXT3
variable {T : Nat} {s : Nat → Int32}
theorem both_text (ht : okT T s) (t : Nat) : ∀ (m m' j : Nat) (M W : fM) (i : Nat), RD0 T s M i → RM T s W i j → 4 * j ≤ i → (∀ c, c < j → CC M W c) → 17 ≤ j + m → 17 ≤ j + m' → TR T M W (l_X1_read t M m j).1 (l_X1_read t M m j).2 (l_X12_isText W m' j).1 (l_X12_isText W m' j).2 := by
  have hT := ht.1
  intro m
  induction m with
  | zero => intro m' j M W i h1 h2 h3 h4 h5 h6; have := h1.1.2; omega
  | succ m ih =>
    intro m' j M W i h1 h2 h3 h4 h5 h6
    have hi := h1.1.2
    obtain ⟨m', rfl⟩ : ∃ q, m' = q + 1 := ⟨m' - 1, by omega⟩
    have hU : RD T s (fst1 (fst1 M 276 4 (nI j)) 276 3 (nI j + 1)) i j := ⟨⟨by rw [fst1_nj (by decide), fst1_nj (by decide)]; exact h1.1.1, hi⟩, by rw [fst1_nj (by decide), fst1_at], by rw [fst1_ne (by decide), fst1_ne (by decide)]; exact h1.2.1, fun q hq => by rw [fst1_ne (by decide), fst1_ne (by decide)]; exact h1.2.2 q hq⟩
    have hUr : ∀ q, q ≠ 276 → (fst1 (fst1 M 276 4 (nI j)) 276 3 (nI j + 1)) q = M q := fun q hq => by rw [fst1_ne hq, fst1_ne hq]
    have hU3 : (fst1 (fst1 M 276 4 (nI j)) 276 3 (nI j + 1)) 276 3 = nI (j + 1) := by rw [fst1_at, nI_1]
    have hcr := both_cmd hU h2 ht (by omega)
    rw [l_X1_read, l_X12_isText, if_neg (show ¬ (20 : Int32) ≤ nI j from nI_ge (b := 20) (by omega) (by omega))]
    generalize fst1 (fst1 M 276 4 (nI j)) 276 3 (nI j + 1) = U at hU hUr hU3 hcr
    generalize m_X1_readCommand U = mC at hcr
    generalize r_X1_readCommand U = rC at hcr
    generalize m_X12_commandHere W = mW at hcr
    generalize r_X12_commandHere W = rW at hcr
    obtain ⟨p, c1, c2, c3, c4, c5⟩ := hcr
    have fC : FC3 M mC := fun q q1 q2 q3 => (c3.1 q q1 q2 q3).trans (hUr q q1)
    rcases c5 with ⟨e1, e2⟩ | ⟨e1, e2, e3, K, k1, k2, k3, k4, k5, k6, k7⟩
    · rw [e1, e2, if_pos rfl, if_pos rfl]
      exact ⟨p, c1.1.2, c1.1.1, c2.1.1, fC, ⟨c4.1, fun b b1 _ => c4.2 b b1⟩, Or.inl ⟨rfl, rfl⟩⟩
    · rw [e1, e2, if_neg z_n1, if_neg z_n1, c1.1.1, c2.2.1, nI_1 p, nI_1 j]
      have hp := c1.1.2
      have c23 : mC 276 3 = nI (j + 1) := (c3.2 3 (by decide)).trans hU3
      have hV : RM T s (fst1 mW 296 18 (nI (j + 1))) p (j + 1) := ⟨⟨by rw [fst1_nj (by decide)]; exact c2.1.1, hp⟩, fst1_at _ _ _ _, by rw [fst1_nj (by decide)]; exact c2.2.2.1, fun q hq => by rw [fst1_ne (by decide)]; exact c2.2.2.2 q hq⟩
      have fW : FM3 W (fst1 mW 296 18 (nI (j + 1))) := ⟨fun q q1 q2 => by rw [fst1_ne q1, c4.1 q q1 q2], fun b b1 b2 => by rw [fst1_nj b2, c4.2 b b1]⟩
      have hcc : ∀ c, c < j + 1 → CC mC (fst1 mW 296 18 (nI (j + 1))) c := fun c hc => by
        by_cases e : c = j
        · subst e
          refine ⟨K, k1, k2, by rw [fst1_ne (by decide)]; exact k3, fun t htt => ⟨(k4 t htt).1, by rw [fst1_ne (by decide)]; exact (k4 t htt).2⟩⟩
        · obtain ⟨K', a1, a2, a3, a4⟩ := h4 c (by omega)
          have h4K := ar4 K'
          have r81 : mC 281 c = M 281 c := by rw [k5 c e, hUr 281 (by decide)]
          have r83 : ∀ b, b < 4 * j → mC 283 b = M 283 b := fun b hb => by rw [k6 b hb, hUr 283 (by decide)]
          refine ⟨K', a1, r81.trans a2, by rw [fst1_ne (by decide), k7 _ (by omega)]; exact a3, fun t htt => ?_⟩
          rw [r83 _ (by omega), fst1_ne (by decide), k7 _ (by omega)]
          exact a4 t htt
      obtain ⟨s1, s2⟩ := hV.sk ht (c := 59) (by decide)
      rw [s1, s2]
      by_cases h59 : p < T ∧ s p = 59
      · rw [if_pos ((c1.has ht (by omega) (by decide)).mpr h59), if_pos h59, if_pos h59, if_neg z_n1]
        have k := ih m' (j + 1) (fst1 mC 276 5 (nI (p + 1))) (fst1 (fst1 mW 296 18 (nI (j + 1))) 296 16 (nI (p + 1))) (p + 1) ⟨⟨fst1_at _ _ _ _, h59.1⟩, by rw [fst1_ne (by decide)]; exact c1.2.2.1, fun q hq => by rw [fst1_ne (by decide)]; exact c1.2.2.2 q hq⟩ (hV.mv h59.1) (by omega) (fun c hc => by
          obtain ⟨K', a1, a2, a3, a4⟩ := hcc c hc
          exact ⟨K', a1, by rw [fst1_ne (by decide)]; exact a2, by rw [fst1_ne (show 305 ≠ 296 by decide)]; exact a3, fun t htt => by rw [fst1_ne (show 283 ≠ 276 by decide), fst1_ne (show 305 ≠ 296 by decide)]; exact a4 t htt⟩) (by omega) (by omega)
        obtain ⟨p2, x1, x2, x3, x4, x5, x6⟩ := k
        refine ⟨p2, x1, x2, x3, fun q q1 q2 q3 => by rw [x4 q q1 q2 q3, fst1_ne q1, fC q q1 q2 q3], ⟨fun q q1 q2 => by rw [x5.1 q q1 q2, fst1_ne q1, fW.1 q q1 q2], fun b b1 b2 => by rw [x5.2 b b1 b2, fst1_nj b1, fW.2 b b1 b2]⟩, x6⟩
      · rw [if_neg (fun q => h59 ((c1.has ht (by omega) (by decide)).mp q)), if_neg h59, if_neg h59, if_pos rfl, c1.2.2.1, hV.1.1, hV.2.2.1]
        by_cases he : nI p = nI T
        · rw [if_pos he, if_pos he]
          exact ⟨p, hp, c1.1.1, hV.1.1, fC, fW, Or.inr ⟨rfl, rfl, j + 1, by omega, c23, hV.2.1, hcc⟩⟩
        · rw [if_neg he, if_neg he]
          exact ⟨p, hp, c1.1.1, hV.1.1, fC, fW, Or.inl ⟨rfl, rfl⟩⟩
/-- a class that reads what the model reads -/
theorem ex_RD (T : Nat) (s : Nat → Int32) {i : Nat} (hi : i ≤ T) (j : Nat) : ∃ M : fM, RD T s M i j :=
  ⟨fsr (fst1 (fst1 (fst1 (fun _ _ => 0) 276 5 (nI i)) 276 4 (nI j)) 277 2 (nI T)) 279 s, ⟨⟨by rw [fsr_ne (by decide), fst1_ne (by decide), fst1_nj (by decide), fst1_at], hi⟩, by rw [fsr_ne (by decide), fst1_ne (by decide), fst1_at], by rw [fsr_ne (by decide), fst1_at], fun q hq => by rw [fsr_at]⟩⟩
theorem m_cmd_ex {W : fM} {i j : Nat} (hW : RM T s W i j) (ht : okT T s) (hj : j < 20) : ∃ p, RM T s (m_X12_commandHere W) p j ∧ (r_X12_commandHere W = 0 ∨ i + 3 ≤ p) := by
  obtain ⟨M, hM⟩ := ex_RD T s hW.1.2 j
  obtain ⟨p, c1, c2, c3, c4, c5⟩ := both_cmd hM hW ht hj
  rcases c5 with ⟨e1, e2⟩ | ⟨e1, e2, e3, -⟩
  · exact ⟨p, c2, Or.inl e2⟩
  · exact ⟨p, c2, Or.inr e3⟩
theorem RMw.wr {n b : Nat} {v : Int32} {W : fM} (h : RMw T s n W) : RMw T s n (fst1 W 305 b v) := by
  obtain ⟨i, h⟩ := h
  exact ⟨i, h.wr⟩
theorem N_cmd {W : fM} {i j : Nat} (hW : RM T s W i j) (ht : okT T s) (hj : j < 30) : N_X12_commandHere W := by
  have h0 : RMw T s j W := ⟨i, hW⟩
  have h1 := h0.sk (c := 109) ht (by decide)
  have h2 := h1.sk (c := 102) ht (by decide)
  have h3 := h2.sk (c := 115) ht (by decide)
  have h4 : RMw T s j (a0_X12_commandHere W) := h3.sk (c := 114) ht (by decide)
  have hP := PLe hW
  have p1 : nI (5 * j + 1) + 1 = nI (5 * j + 2) := nI_add _ 1
  have p2 : nI (5 * j + 1) + 2 = nI (5 * j + 3) := nI_add _ 2
  have p3 : nI (5 * j + 1) + 3 = nI (5 * j + 4) := nI_add _ 3
  have hd := h4.sk (c := 100) ht (by decide)
  have ha := h4.sk (c := 97) ht (by decide)
  have hd1 : RMw T s j (m_X12_isWord (m_X12_skips (a0_X12_commandHere W) 100) 4 4107) := hd.word ht 4 (k := 11) (by decide) (by omega)
  have hA1 : RMw T s j (a1_X12_commandHere W) := by rw [a1_X12_commandHere]; exact hd1.wr
  have ha1 : RMw T s j (m_X12_isWord (m_X12_skips (a0_X12_commandHere W) 97) 5 4106) := ha.word ht 5 (k := 10) (by decide) (by omega)
  have h31 : RMw T s j (a3_X12_commandHere W) := h3.word ht 3 (k := 8) (by decide) (by omega)
  have h21 : RMw T s j (m_X12_isWord (m_X12_skips (m_X12_skips W 109) 102) 2 4103) := h2.word ht 2 (k := 7) (by decide) (by omega)
  have hA4 : RMw T s j (a4_X12_commandHere W) := by rw [a4_X12_commandHere, hP]; exact h21.fig ht (pl := 5 * j + 1) (d := 1) (by omega) (by omega)
  have hA4b : RMw T s j (m_X12_figures (a4_X12_commandHere W) (nI (5 * j + 2)) 1) := hA4.fig ht (pl := 5 * j + 2) (d := 1) (by omega) (by omega)
  have hA5 : RMw T s j (a5_X12_commandHere W) := by rw [a5_X12_commandHere, hP, p1, p2]; exact hA4b.fig ht (pl := 5 * j + 3) (d := 1) (by omega) (by omega)
  have h11 : RMw T s j (m_X12_isWord (m_X12_skips W 109) 1 4102) := h1.word ht 1 (k := 6) (by decide) (by omega)
  have hA6 : RMw T s j (a6_X12_commandHere W) := by rw [a6_X12_commandHere, hP]; exact h11.fig ht (pl := 5 * j + 1) (d := 2) (by omega) (by omega)
  rw [N_X12_commandHere, hP, p1, p2, p3]
  refine ⟨h0.Nh ht, fun _ => h1.Nh ht, fun _ _ => h2.Nh ht, fun _ _ _ => h3.Nh ht, fun _ _ _ _ => h4.Nh ht, fun _ _ _ _ _ => hd.Nword ht 4 (k := 11) (by decide) (by omega), fun _ _ _ _ _ _ => vp_in_nI (by omega) (by decide), fun _ _ _ _ _ _ => hA1.Nh ht, fun _ _ _ _ _ _ _ => hA1.Nfig ht (pl := 5 * j + 1) (d := 2) (by omega) (by omega), fun _ _ _ _ => h4.Nh ht, fun _ _ _ _ _ => ha.Nword ht 5 (k := 10) (by decide) (by omega), fun _ _ _ _ _ _ => ha1.Nfig ht (pl := 5 * j + 1) (d := 1) (by omega) (by omega), fun _ _ _ _ _ => ha.Nword ht 0 (k := 9) (by decide) (by omega), fun _ _ _ => h3.Nword ht 3 (k := 8) (by decide) (by omega), fun _ _ _ _ => h31.Nfig ht (pl := 5 * j + 1) (d := 2) (by omega) (by omega), fun _ _ => h2.Nword ht 2 (k := 7) (by decide) (by omega), fun _ _ _ => h21.Nfig ht (pl := 5 * j + 1) (d := 1) (by omega) (by omega), fun _ _ _ _ => hA4.Nfig ht (pl := 5 * j + 2) (d := 1) (by omega) (by omega), fun _ _ _ _ _ => hA4b.Nfig ht (pl := 5 * j + 3) (d := 1) (by omega) (by omega), fun _ _ _ _ _ _ => hA5.Nfig ht (pl := 5 * j + 4) (d := 1) (by omega) (by omega), fun _ => h1.Nword ht 1 (k := 6) (by decide) (by omega), fun _ _ => h11.Nfig ht (pl := 5 * j + 1) (d := 2) (by omega) (by omega), fun _ _ _ => hA6.Nfig ht (pl := 5 * j + 2) (d := 2) (by omega) (by omega)⟩
theorem N_text {W : fM} (ht : okT T s) (h9 : W 296 9 = nI T) (h1 : ∀ q, q < T → W 301 q = s q) : N_X12_isText W := by
  have hT := ht.1
  have hV : ∀ (j : Nat) (V : fM), (∃ i, RM T s V i j ∧ 4 * j ≤ i) → j < 16 := fun j V ⟨i, a, b⟩ => by
    have := a.1.2; omega
  have hS : ∀ (j : Nat) (V : fM), (∃ i, RM T s V i j ∧ 4 * j ≤ i) → ¬ r_X12_commandHere V = 0 → ∃ p, RM T s (fst1 (m_X12_commandHere V) 296 18 (m_X12_commandHere V 296 18 + 1)) p (j + 1) ∧ 4 * j + 3 ≤ p := fun j V h2 h3 => by
    have hj := hV j V h2
    obtain ⟨i, a, b⟩ := h2
    obtain ⟨p, c1, c2⟩ := m_cmd_ex a ht (by omega)
    rcases c2 with e | e
    · exact absurd e h3
    · refine ⟨p, ⟨⟨by rw [fst1_nj (by decide)]; exact c1.1.1, c1.1.2⟩, by rw [fst1_at, c1.2.1, nI_1], by rw [fst1_nj (by decide)]; exact c1.2.2.1, fun q hq => by rw [fst1_ne (by decide)]; exact c1.2.2.2 q hq⟩, by omega⟩
  refine ⟨fun j V => ∃ i, RM T s V i j ∧ 4 * j ≤ i, ⟨0, ⟨⟨by rw [fst1_nj (by decide), fst1_at]; rfl, by omega⟩, by rw [fst1_at]; rfl, by rw [fst1_nj (by decide), fst1_nj (by decide)]; exact h9, fun q hq => by rw [fst1_ne (by decide), fst1_ne (by decide)]; exact h1 q hq⟩, by omega⟩, fun j V _ h2 => by have := hV j V h2; omega, fun j V _ h2 => ?_, fun j V _ h2 h3 => ?_, fun j V _ h2 h3 h4 => ?_⟩
  · have := hV j V h2
    obtain ⟨i, a, b⟩ := h2
    exact N_cmd a ht (by omega)
  · obtain ⟨p, a, b⟩ := hS j V h2 h3
    exact a.Nh ht
  · obtain ⟨p, a, b⟩ := hS j V h2 h3
    obtain ⟨s1, s2⟩ := a.sk ht (c := 59) (by decide)
    rw [s1] at h4
    by_cases hh : p < T ∧ s p = 59
    · rw [s2, if_pos hh]
      exact ⟨p + 1, a.mv hh.1, by omega⟩
    · rw [if_neg hh] at h4
      exact absurd rfl h4
/-- reading the text buffer -/
theorem both_read {M W : fM} (ht : okT T s) (h0 : M 277 0 = nI 60) (h2 : M 267 2 = nI T) (h69 : ∀ q, q < T → M 269 q = s q) (h9 : W 296 9 = nI T) (h1 : ∀ q, q < T → W 301 q = s q) : ∃ p, p ≤ T ∧ m_X1_read M 267 276 5 = nI p ∧ m_X12_isText W 296 16 = nI p ∧ (∀ q, q ≠ 276 → q ≠ 277 → q ≠ 279 → q ≠ 281 → q ≠ 283 → m_X1_read M 267 q = M q) ∧ m_X1_read M 267 277 0 = nI 60 ∧ FM3 W (m_X12_isText W) ∧ ((r_X1_read M 267 = 0 ∧ r_X12_isText W = 0) ∨ (r_X1_read M 267 = 1 ∧ r_X12_isText W = 1 ∧ ∃ n, n ≤ 16 ∧ m_X1_read M 267 276 3 = nI n ∧ m_X12_isText W 296 18 = nI n ∧ ∀ c, c < n → CC (m_X1_read M 267) (m_X12_isText W) c)) := by
  have hT := ht.1
  have ec : m_X10_copyFrom M 277 60 267 60 = fst1 (rcpy M 278 268 60) 277 2 (nI T) := by
    rw [m_X10_copyFrom, show 277 + 1 = 278 from rfl, show 267 + 1 = 268 from rfl, rcpy_ne (show 277 ≠ 278 + 1 by decide), rcpy_ne (show 267 ≠ 278 + 1 by decide), h0, h2, if_neg (nI_nlt hT (by omega))]
  have k := both_text ht 267 21 32 0 (fst1 (fst1 (rcpy M 278 268 60) 277 2 (nI T)) 276 5 0) (fst1 (fst1 W 296 16 0) 296 18 0) 0 ⟨⟨by rw [fst1_at]; rfl, by omega⟩, by rw [fst1_ne (by decide), fst1_at], fun q hq => by rw [fst1_ne (by decide), fst1_ne (by decide), rcpy_at rfl (by omega)]; exact h69 q hq⟩ ⟨⟨by rw [fst1_nj (by decide), fst1_at]; rfl, by omega⟩, by rw [fst1_at]; rfl, by rw [fst1_nj (by decide), fst1_nj (by decide)]; exact h9, fun q hq => by rw [fst1_ne (by decide), fst1_ne (by decide)]; exact h1 q hq⟩ (by omega) (fun c hc => by omega) (by omega) (by omega)
  rw [r_X1_read, m_X1_read, ec, r_X12_isText, m_X12_isText]
  obtain ⟨p, x1, x2, x3, x4, x5, x6⟩ := k
  refine ⟨p, x1, x2, x3, fun q q1 q2 q3 q4 q5 => by rw [x4 q q1 q4 q5, fst1_ne q1, fst1_ne q2, rcpy_ne q3], by rw [x4 277 (by decide) (by decide) (by decide), fst1_ne (by decide), fst1_nj (by decide), rcpy_ne (by decide)]; exact h0, ⟨fun q q1 q2 => by rw [x5.1 q q1 q2, fst1_ne q1, fst1_ne q1], fun b b1 b2 => by rw [x5.2 b b1 b2, fst1_nj b2, fst1_nj b1]⟩, x6⟩
end TXT3
