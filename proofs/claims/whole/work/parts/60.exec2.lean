/-! ===== execute ===== -/
def mkV (f r1 r2 : Nat → Int32) : fM := fun a b => if a = 1 then (if b = 3 then f 5 else if b = 4 then f 7 else if b = 5 then f 8 else if b = 6 then f 9 else f 10) else if a = 2 then (if b = 2 then f 0 else if b = 3 then f 6 else f 1) else if a = 4 then f (11 + 2 * b + 1) else if a = 6 then f (11 + 2 * b) else if a = 7 then f 2 else if a = 9 then f (23 + 7 * b) else if a = 11 then f (23 + 7 * (b / 6) + (1 + b % 6)) else if a = 12 then (if b = 6 then f 3 else f 4) else if a = 14 then f (79 + 6 * b) else if a = 16 then f (79 + 6 * b + 3) else if a = 18 then f (79 + 6 * b + 4) else if a = 20 then f (79 + 6 * b + 2) else if a = 22 then f (79 + 6 * b + 1) else if a = 24 then f (79 + 6 * b + 5) else if a = 281 then r1 b else r2 b
theorem ex_SR {N : Nat} {f : Nat → Int32} (hf : WF N f) (r1 r2 : Nat → Int32) : ∃ V : fM, SW N V 1 f ∧ V 281 = r1 ∧ V 283 = r2 := by
  obtain ⟨b1, b2, b3⟩ := hf.bd
  refine ⟨mkV f r1 r2, ⟨⟨⟨rfl, rfl, rfl⟩, fun b _ => ⟨rfl, rfl⟩, ⟨rfl, fun l hl => ⟨rfl, fun i hi => ?_⟩⟩, ⟨rfl, rfl⟩, fun p _ => ⟨rfl, rfl, rfl, rfl, rfl, rfl⟩, rfl, rfl, rfl, rfl, rfl⟩, hf⟩, rfl, rfl⟩
  have := b3 l hl
  show f (23 + 7 * ((6 * l + i) / 6) + (1 + (6 * l + i) % 6)) = _
  rw [show (6 * l + i) / 6 = l by omega, show (6 * l + i) % 6 = i by omega]
theorem okT_of {M : fM} (h : ItT M) : okT (M 296 9).toNatClampNeg (M 301) := by
  obtain ⟨t1, t2, t3, t4⟩ := h
  refine ⟨Nat.le_of_lt_succ t3.2, fun q hq => ?_⟩
  obtain ⟨-, g2, g3⟩ := t4 q hq
  exact ⟨_, g2.1, g3, g2.2⟩
/-- what the model needs while it carries them out -/
theorem N_exec {n N0 : Nat} {V0 B0 : fM} {f0 : Nat → Int32} (hn : n ≤ 16) (hN0 : N0 + 16 < 2 ^ 20) (hf0 : WF N0 f0) (hW : Wk n V0 B0 f0) : ∃ Pv : Nat → fM → Int32 → Int32 → Prop, Pv 0 B0 (0 : Int32) (0 : Int32) ∧ (∀ (j : Nat) (W : fM) (v2 v3 : Int32), j ≤ 40 → Pv j W v2 v3 → ¬ (W 296 18 ≤ v2) → W 296 7 = 0 → j < 40) ∧ (∀ (j : Nat) (W : fM) (v2 v3 : Int32), j ≤ 40 → Pv j W v2 v3 → ¬ (W 296 18 ≤ v2) → W 296 7 = 0 → N_X12_carries W ((5 : Int32) * v2)) ∧ (∀ (j : Nat) (W : fM) (v2 v3 : Int32), j ≤ 40 → Pv j W v2 v3 → ¬ (W 296 18 ≤ v2) → W 296 7 = 0 → ¬ ((m_X12_carries W ((5 : Int32) * v2)) 296 7 = 0) → Pv (j + 1) (m_X12_carries W ((5 : Int32) * v2)) v2 (r_X12_carries W ((5 : Int32) * v2))) ∧ (∀ (j : Nat) (W : fM) (v2 v3 : Int32), j ≤ 40 → Pv j W v2 v3 → ¬ (W 296 18 ≤ v2) → W 296 7 = 0 → (m_X12_carries W ((5 : Int32) * v2)) 296 7 = 0 → Pv (j + 1) (m_X12_carries W ((5 : Int32) * v2)) (v2 + 1) (r_X12_carries W ((5 : Int32) * v2))) := by
  let P : Nat → fM → Int32 → Int32 → Prop := fun j W v2 _ => (¬ W 296 6 = 0 ∧ W 296 18 = nI n ∧ ∀ x, x < n → CC V0 W x) ∧ ∃ (d : Nat) (f : Nat → Int32) (N : Nat), v2 = nI d ∧ d ≤ n ∧ N ≤ N0 + d ∧ WF N f ∧ W 297 = f ∧ j ≤ d + 1 ∧ (W 296 7 = 0 → j = d)
  have hd : ∀ (j : Nat) (W : fM) (v2 v3 : Int32), P j W v2 v3 → ¬ (W 296 18 ≤ v2) → W 296 7 = 0 → ∃ (f : Nat → Int32) (N : Nat) (V : fM), v2 = nI j ∧ j < n ∧ N ≤ N0 + j ∧ SW N V 1 f ∧ W 297 = f ∧ CC V W j := fun j W v2 v3 h1 h2 h3 => by
    obtain ⟨⟨a1, a2, a3⟩, d, f, N, b1, b2, b3, b4, b5, b6, b7⟩ := h1
    have hj := b7 h3
    subst hj
    rw [a2, b1] at h2
    have hl : j < n := Nat.lt_of_not_le fun q => h2 (nI_le q (by omega))
    obtain ⟨V, c1, c2, c3⟩ := ex_SR b4 (V0 281) (V0 283)
    exact ⟨f, N, V, b1, hl, b3, c1, b5, (a3 j hl).ext c2 c3 rfl⟩
  refine ⟨P, ⟨⟨hW.2.1, hW.2.2.2.1, hW.2.2.2.2⟩, 0, f0, N0, rfl, Nat.zero_le _, by omega, hf0, hW.1, by omega, fun _ => rfl⟩, fun j W v2 v3 _ h1 h2 h3 => ?_, fun j W v2 v3 _ h1 h2 h3 => ?_, fun j W v2 v3 _ h1 h2 h3 h4 => ?_, fun j W v2 v3 _ h1 h2 h3 h4 => ?_⟩
  · obtain ⟨f, N, V, b1, b2, -⟩ := hd j W v2 v3 h1 h2 h3
    omega
  · obtain ⟨f, N, V, b1, b2, b3, b4, b5, b6⟩ := hd j W v2 v3 h1 h2 h3
    rw [b1, show (5 : Int32) * nI j = nI (5 * j) from pk_mul 5 j]
    exact (m_one b4 (by omega) b2 hn b5 h1.1.1 b6).1
  · obtain ⟨f, N, V, b1, b2, b3, b4, b5, b6⟩ := hd j W v2 v3 h1 h2 h3
    have e5 : (5 : Int32) * v2 = nI (5 * j) := by rw [b1]; exact pk_mul 5 j
    rw [e5] at h4 ⊢
    rcases (m_one b4 (by omega) b2 hn b5 h1.1.1 b6).2 with ⟨-, N', f', -, -, -, -, c5⟩ | ⟨-, k, c1, c2, -⟩
    · exact absurd (by rw [c5, fsr_ne (by decide), fst1_at]) h4
    · rw [c2]
      refine ⟨⟨by rw [fst1_nj (by decide)]; exact h1.1.1, by rw [fst1_nj (by decide)]; exact h1.1.2.1, fun x hx => (h1.1.2.2 x hx).ext rfl rfl (fst1_ne (by decide))⟩, j, f, N, b1, by omega, b3, b4.2, by rw [fst1_ne (by decide)]; exact b5, by omega, fun q => ?_⟩
      rw [fst1_at] at q
      exact absurd (by rw [q]; decide) c1
  · obtain ⟨f, N, V, b1, b2, b3, b4, b5, b6⟩ := hd j W v2 v3 h1 h2 h3
    have e5 : (5 : Int32) * v2 = nI (5 * j) := by rw [b1]; exact pk_mul 5 j
    rw [e5] at h4 ⊢
    rcases (m_one b4 (by omega) b2 hn b5 h1.1.1 b6).2 with ⟨-, N', f', c1, c2, c3, c4, c5⟩ | ⟨-, k, c1, c2, -⟩
    · rw [c5]
      exact ⟨⟨by rw [fsr_ne (by decide), fst1_nj (by decide)]; exact h1.1.1, by rw [fsr_ne (by decide), fst1_nj (by decide)]; exact h1.1.2.1, fun x hx => (h1.1.2.2 x hx).ext rfl rfl (by rw [fsr_ne (by decide), fst1_ne (by decide)])⟩, j + 1, f', N', by rw [b1, nI_1], by omega, by omega, c3.2, fsr_at _ _ _, by omega, fun _ => rfl⟩
    · rw [c2, fst1_at] at h4
      exact absurd (by rw [h4]; decide) c1
/-- what the class needs while it carries them out -/
theorem q_exec {n N0 : Nat} {V0 : fM} {f0 : Nat → Int32} (hn : n ≤ 16) (hN0 : N0 + 300 < 2 ^ 20) (hS : SW N0 V0 1 f0) (hk : CK n V0) (h73 : sm (V0 73 1) 8) : ∃ Pv : Nat → fM → Prop, Pv 0 V0 ∧ (∀ (j : Nat) (W : fM), j ≤ 300 → Pv j W → (W 276 3 ≤ nI j) → sm (W 73 1) 8) ∧ (∀ (j : Nat) (W : fM), j ≤ 300 → Pv j W → ¬ (W 276 3 ≤ nI j) → j < 300) ∧ (∀ (j : Nat) (W : fM), j ≤ 300 → Pv j W → ¬ (W 276 3 ≤ nI j) → ¬ (rget W 280 20 (nI j) = (0 : Int32)) → ¬ (rget W 280 20 (nI j) = (1 : Int32)) → ¬ (rget W 280 20 (nI j) = (2 : Int32)) → (rget W 280 20 (nI j) = (3 : Int32)) → sm (W (1 + 11) 6) 300) ∧ (∀ (j : Nat) (W : fM), j ≤ 300 → Pv j W → ¬ (W 276 3 ≤ nI j) → (r_X11_refusalOf W (nI j) = 0) → ¬ (rget W 280 20 (nI j) = (0 : Int32)) → ¬ (rget W 280 20 (nI j) = (1 : Int32)) → ¬ (rget W 280 20 (nI j) = (2 : Int32)) → (rget W 280 20 (nI j) = (3 : Int32)) → sm (W (1 + 11) 6) 300) ∧ (∀ (j : Nat) (W : fM), j ≤ 300 → Pv j W → ¬ (W 276 3 ≤ nI j) → (r_X11_refusalOf W (nI j) = 0) → ¬ (rget W 280 20 (nI j) = (0 : Int32)) → ¬ (rget W 280 20 (nI j) = (1 : Int32)) → ¬ (rget W 280 20 (nI j) = (2 : Int32)) → (rget W 280 20 (nI j) = (3 : Int32)) → sm (r_X5_positionOf W (1 + 11) (r_X1_argument W (nI j) (0 : Int32))) 8) ∧ (∀ (j : Nat) (W : fM), j ≤ 300 → Pv j W → ¬ (W 276 3 ≤ nI j) → (r_X11_refusalOf W (nI j) = 0) → ¬ (rget W 280 20 (nI j) = (0 : Int32)) → ¬ (rget W 280 20 (nI j) = (1 : Int32)) → ¬ (rget W 280 20 (nI j) = (2 : Int32)) → ¬ (rget W 280 20 (nI j) = (3 : Int32)) → (rget W 280 20 (nI j) = (4 : Int32)) → sm (r_X1_argument W (nI j) (0 : Int32)) 300) ∧ (∀ (j : Nat) (W : fM), j ≤ 300 → Pv j W → ¬ (W 276 3 ≤ nI j) → (r_X11_refusalOf W (nI j) = 0) → ¬ (rget W 280 20 (nI j) = (0 : Int32)) → ¬ (rget W 280 20 (nI j) = (1 : Int32)) → ¬ (rget W 280 20 (nI j) = (2 : Int32)) → ¬ (rget W 280 20 (nI j) = (3 : Int32)) → (rget W 280 20 (nI j) = (4 : Int32)) → cOK W 1) ∧ (∀ (j : Nat) (W : fM), j ≤ 300 → Pv j W → ¬ (W 276 3 ≤ nI j) → (r_X11_refusalOf W (nI j) = 0) → ¬ (rget W 280 20 (nI j) = (0 : Int32)) → ¬ (rget W 280 20 (nI j) = (1 : Int32)) → ¬ (rget W 280 20 (nI j) = (2 : Int32)) → ¬ (rget W 280 20 (nI j) = (3 : Int32)) → ¬ (rget W 280 20 (nI j) = (4 : Int32)) → sm (W (1 + 11) 6) 9) ∧ (∀ (j : Nat) (W : fM), j ≤ 300 → Pv j W → ¬ (W 276 3 ≤ nI j) → (r_X11_refusalOf W (nI j) = 0) → Pv (j + 1) (m_X11_perform W (nI j))) := by
  let P : Nat → fM → Prop := fun j W => CK n W ∧ sm (W 73 1) 8 ∧ ∃ (f : Nat → Int32) (N : Nat), N ≤ N0 + j ∧ SW N W 1 f
  have hj : ∀ (j : Nat) (W : fM), j ≤ 300 → P j W → ¬ (W 276 3 ≤ nI j) → j < n := fun j W h0 h1 h2 => by
    rw [h1.1.1] at h2
    exact Nat.lt_of_not_le fun q => h2 (nI_le q (by omega))
  have hq : ∀ (j : Nat) (W : fM), P j W → sm (W (1 + 11) 6) 300 := fun j W h1 => by
    obtain ⟨-, -, f, N, -, h2⟩ := h1
    exact q300 h2
  refine ⟨P, ⟨hk, h73, f0, N0, by omega, hS⟩, fun j W _ h1 _ => h1.2.1, fun j W h0 h1 h2 => by have := hj j W h0 h1 h2; omega, fun j W _ h1 _ _ _ _ _ => hq j W h1, fun j W _ h1 _ _ _ _ _ _ => hq j W h1, fun j W h0 h1 h2 h3 n0 n1 n2 h4 => ?_, fun j W h0 h1 h2 h3 n0 n1 n2 n3 h4 => ?_, fun j W h0 h1 h2 h3 n0 n1 n2 n3 h4 => ?_, fun j W h0 h1 h2 h3 n0 n1 n2 n3 n4 => ?_, fun j W h0 h1 h2 h3 => ?_⟩
  · obtain ⟨-, -, f, N, -, hw⟩ := h1
    rw [r_X11_refusalOf, if_neg n0, if_neg n1, if_neg n2, if_pos h4] at h3
    rcases k_ship hw (r_X1_argument W (nI j) (0 : Int32)) with ⟨-, k2⟩ | ⟨p, k1, k3, k2⟩
    · rw [k2] at h3; exact absurd h3 (by decide)
    · rw [c_ps hw, k3]
      exact sm_nI (by have := hw.2.lots.2; omega) (by decide)
  · have hl := hj j W h0 h1 h2
    obtain ⟨K, k1, k2, k3⟩ := h1.1.2 j hl
    rw [rget_in (by omega) (by decide), show 280 + 1 = 281 from rfl, k2] at h4
    have hK : K = 4 := (nI_eq (b := 4) (by omega) (by omega)).mp h4
    subst hK
    rw [arg_eq (by omega) (t := 0) (by omega) 0 rfl]
    exact (k3 0 (by decide)).mono (by decide)
  · obtain ⟨-, -, f, N, -, hw⟩ := h1
    have e := hw.1.2.2.2.1.1
    have hl := hw.2.lots
    exact cOK_of (e.trans hl.1) hl.2
  · obtain ⟨-, -, f, N, -, hw⟩ := h1
    rw [show W (1 + 11) 6 = f 3 from hw.1.2.2.2.1.1]
    exact hw.2.1.2.2.2.1
  · have hl := hj j W h0 h1 h2
    obtain ⟨K, k1, k2, k3⟩ := h1.1.2 j hl
    obtain ⟨hck, h73, f, N, hN, hw⟩ := h1
    obtain ⟨N', f', a2, a3, a4, a5, a6⟩ := one_ok hw (by omega) hl hn k1 k2 h3
    refine ⟨?_, by rw [a5 73 (by omega)]; exact h73, f', N', by omega, a4⟩
    unfold CK
    rw [a5 276 (by omega), a5 281 (by omega), a5 283 (by omega)]
    exact hck
