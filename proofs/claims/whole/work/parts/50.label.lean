/-! ===== a label more ===== -/
/-- the text is the label -/
def same (f s : Nat → Int32) (T l : Nat) : Prop := wn' f l = T ∧ ∀ i, i < T → wl f l i = s i
theorem ItT.no {M : fM} (h : ItT M) {i : Nat} (hi : (M 296 9).toNatClampNeg ≤ i) (hb : i < 1000) : r_X10_at M 267 60 (nI i) = 0 := by
  obtain ⟨-, e2, e3, -⟩ := h
  rw [r_X10_at, if_neg (nI_pos (by omega)), e2, if_pos (by rw [e3.1]; exact nI_le hi (by omega))]
section LAB
variable {N : Nat} {M W : fM} {f : Nat → Int32}
theorem c_sameL (h : SW N M 1 f) (hT : ItT M) {l : Nat} (hl : l < (f 2).toNatClampNeg) : ∀ (m m' j : Nat), j + m = wn' f l → m < m' → (∀ i, i < j → i < (M 296 9).toNatClampNeg ∧ wl f l i = M 301 i) → l_X6_isSame 7 (nI l) 267 60 M m' j = exd (same f (M 301) (M 296 9).toNatClampNeg l) := by
  obtain ⟨e1, e2, e3, e4⟩ := h.2.lab hl
  have hr : rget M (7 + 1) 8 (nI l) = nI (wn' f l) := (c_lens h hl).trans e1
  have t2 := hT.2.1
  have t3 := hT.2.2.1
  have l3 := t3.2
  intro m
  induction m with
  | zero =>
    intro m' j h1 h2 h3
    obtain ⟨m', rfl⟩ : ∃ q, m' = q + 1 := ⟨m' - 1, by omega⟩
    rw [l_X6_isSame, hr, if_pos (nI_le (by omega) (by omega)), t2, t3.1]
    by_cases hq : wn' f l = (M 296 9).toNatClampNeg
    · rw [if_pos (by rw [hq]), nI_clamp (by omega), exd_pos]
      exact ⟨hq, fun i hi => (h3 i (by omega)).2⟩
    · rw [if_neg (fun q => hq ((nI_eq (by omega) (by omega)).mp q)), nI_clamp (by omega), exd_neg (fun q => hq q.1)]
  | succ m ih =>
    intro m' j h1 h2 h3
    obtain ⟨m', rfl⟩ : ∃ q, m' = q + 1 := ⟨m' - 1, by omega⟩
    rw [l_X6_isSame, hr, if_neg (nI_ge (by omega) (by omega)), show r_X6_letter M 7 (nI l) (nI j) = wl f l j from c_letr h hl (by rw [show (f (23 + 7 * l)).toNatClampNeg = wn' f l from rfl]; omega)]
    obtain ⟨x, x1, x2, x3⟩ := e4 j (by omega)
    by_cases hj : j < (M 296 9).toNatClampNeg
    · rw [hT.at hj]
      by_cases hq : wl f l j = M 301 j
      · rw [if_pos hq]
        refine ih m' (j + 1) (by omega) (by omega) fun i hi => ?_
        by_cases e : i = j
        · subst e; exact ⟨hj, hq⟩
        · exact h3 i (by omega)
      · rw [if_neg hq, exd_neg (fun q => hq (q.2 j hj))]
    · rw [hT.no (Nat.le_of_not_lt hj) (by omega), if_neg (by rw [x1]; exact nI_ne0 (by omega) (by omega)), exd_neg (fun q => hj (by rw [← q.1]; omega))]
theorem c_same (h : SW N M 1 f) (hT : ItT M) {l : Nat} (hl : l < (f 2).toNatClampNeg) : r_X6_isSame M 7 (nI l) 267 60 = exd (same f (M 301) (M 296 9).toNatClampNeg l) := by
  obtain ⟨e1, e2, e3, e4⟩ := h.2.lab hl
  exact c_sameL h hT hl (wn' f l) 301 0 (by omega) (by omega) (fun i hi => by omega)
theorem m_sameI (hW : W 297 = f) {s : Nat → Int32} {T l : Nat} (hs : W 301 = s) (hl : l < 8) (h9 : W 296 9 = nI T) (hT : T ≤ 60) : ∀ (m m' j : Nat), j + m = T → m < m' → (∀ i, i < j → wl f l i = s i) → l_X12_isThereI (nI l) W m' j 1 = exd (∀ i, i < T → wl f l i = s i) := by
  intro m
  induction m with
  | zero =>
    intro m' j h1 h2 h3
    obtain ⟨m', rfl⟩ : ∃ q, m' = q + 1 := ⟨m' - 1, by omega⟩
    rw [l_X12_isThereI, h9, if_pos (nI_le (by omega) (by omega)), exd_pos]
    exact fun i hi => h3 i (by omega)
  | succ m ih =>
    intro m' j h1 h2 h3
    obtain ⟨m', rfl⟩ : ∃ q, m' = q + 1 := ⟨m' - 1, by omega⟩
    rw [l_X12_isThereI, h9, if_neg (nI_ge (by omega) (by omega)), if_neg z_n1, nI_clamp (by omega), hs, show (1 : Int32) + nI j = nI (1 + j) from nI_add 1 j, m_sign hW (w := 1 + j) (by omega) (by omega) _ rfl]
    by_cases hq : f (23 + 7 * l + (1 + j)) = s j
    · rw [if_pos hq]
      refine ih m' (j + 1) (by omega) (by omega) fun i hi => ?_
      by_cases e : i = j
      · subst e; exact hq
      · exact h3 i (by omega)
    · rw [if_neg hq, exd_neg (fun q => hq (q j (by omega)))]
      cases m' with
      | zero => rfl
      | succ m' =>
        rw [l_X12_isThereI]
        by_cases h5 : W 296 9 ≤ nI (j + 1)
        · rw [if_pos h5]
        · rw [if_neg h5, if_pos rfl]
theorem m_same0 {a : Int32} : ∀ (m' j : Nat), l_X12_isThereI a W m' j 0 = 0
  | 0, _ => rfl
  | m' + 1, j => by
    rw [l_X12_isThereI]
    by_cases h5 : W 296 9 ≤ nI j
    · rw [if_pos h5]
    · rw [if_neg h5, if_pos rfl]
/-- some label of the first ones is the text -/
theorem both_there (h : SW N M 1 f) (hT : ItT M) (hW : W 297 = f) (h9 : W 296 9 = M 296 9) (h1 : W 301 = M 301) : ∀ (m m' m2 j : Nat), j + m = (f 2).toNatClampNeg → m < m' → m < m2 → l_X6_holds 7 267 60 M m' j = l_X12_isThere W m2 j := by
  have hn := h.2.labs
  have t3 := hT.2.2.1
  have l3 := t3.2
  have h9' : W 296 9 = nI (M 296 9).toNatClampNeg := h9.trans t3.1
  have hc2 : ∀ j, j < (f 2).toNatClampNeg → ¬ f 2 ≤ nI j := fun j hj => by
    have : ¬ nI (f 2).toNatClampNeg ≤ nI j := nI_ge hj (by omega)
    rw [← hn.1] at this
    exact this
  intro m
  induction m with
  | zero =>
    intro m' m2 j h2 h3 h4
    obtain ⟨m', rfl⟩ : ∃ q, m' = q + 1 := ⟨m' - 1, by omega⟩
    obtain ⟨m2, rfl⟩ : ∃ q, m2 = q + 1 := ⟨m2 - 1, by omega⟩
    have : f 2 ≤ nI j := by rw [hn.1]; exact nI_le (by omega) (by omega)
    rw [l_X6_holds, l_X12_isThere, show M 7 2 = f 2 from h.1.2.2.1.1, cl_2, hW, if_pos this, if_pos this]
  | succ m ih =>
    intro m' m2 j h2 h3 h4
    obtain ⟨m', rfl⟩ : ∃ q, m' = q + 1 := ⟨m' - 1, by omega⟩
    obtain ⟨m2, rfl⟩ : ∃ q, m2 = q + 1 := ⟨m2 - 1, by omega⟩
    have hj : j < (f 2).toNatClampNeg := by omega
    obtain ⟨e1, e2, e3, e4⟩ := h.2.lab hj
    rw [l_X6_holds, l_X12_isThere, show M 7 2 = f 2 from h.1.2.2.1.1, cl_2, hW, if_neg (hc2 j hj), if_neg (hc2 j hj), c_same h hT hj, m_sign hW (w := 0) (by omega) (by omega) 0 rfl, h9', show f (23 + 7 * j + 0) = nI (wn' f j) from e1, ih m' m2 (j + 1) (by omega) (by omega) (by omega)]
    by_cases hq : wn' f j = (M 296 9).toNatClampNeg
    · rw [if_pos (show nI (wn' f j) = nI (M 296 9).toNatClampNeg by rw [hq]), m_sameI hW h1 (by omega) h9' (by omega) (M 296 9).toNatClampNeg 61 0 (by omega) (by omega) (fun i hi => by omega)]
      by_cases hz : ∀ i, i < (M 296 9).toNatClampNeg → wl f j i = M 301 i
      · rw [exd_pos hz, exd_pos ⟨hq, hz⟩]
      · rw [exd_neg hz, exd_neg (fun q => hz q.2)]
    · rw [if_neg (show ¬ nI (wn' f j) = nI (M 296 9).toNatClampNeg from fun q => hq ((nI_eq (by omega) (by omega)).mp q)), m_same0, exd_neg (show ¬ same f (M 301) (M 296 9).toNatClampNeg j from fun q => hq q.1)]
theorem N_there (hf : WF N f) (hW : W 297 = f) {T : Nat} (h9 : W 296 9 = nI T) (hT : T ≤ 6) : N_X12_isThere W := by
  have hn := hf.labs
  have hj : ∀ j : Nat, j ≤ 8 → ¬ W 297 (2 : Int32).toNatClampNeg ≤ nI j → j < (f 2).toNatClampNeg := fun j h1 h2 => by
    rw [cl_2, hW, hn.1] at h2
    exact Nat.lt_of_not_le fun q => h2 (nI_le q (by omega))
  have hi : ∀ j : Nat, j ≤ 60 → ¬ W 296 9 ≤ nI j → j < T := fun j h1 h2 => by
    rw [h9] at h2
    exact Nat.lt_of_not_le fun q => h2 (nI_le q (by omega))
  refine ⟨fun j h1 h2 => ?_, fun j h1 h2 => ?_, fun j h1 h2 _ i v h3 h4 _ => ?_, fun j h1 h2 _ i v h3 h4 _ => ?_, fun j h1 h2 _ i v h3 h4 _ => ?_, fun j h1 h2 _ i v h3 h4 _ => ?_⟩
  · have := hj j h1 h2; omega
  · have := hj j h1 h2
    exact Nsign_nI (w := 0) (by omega) 0 rfl
  · have := hi i h3 h4; omega
  · have := hj j h1 h2
    have := hi i h3 h4
    rw [show (1 : Int32) + nI i = nI (1 + i) from nI_add 1 i]
    exact Nsign_nI (w := 1 + i) (by omega) _ rfl
  · have := hi i h3 h4; omega
  · have := hj j h1 h2
    have := hi i h3 h4
    rw [show (1 : Int32) + nI i = nI (1 + i) from nI_add 1 i]
    exact Nsign_nI (w := 1 + i) (by omega) _ rfl
/-- the row with the label -/
def fLab (f s : Nat → Int32) (T : Nat) : Nat → Int32 := fun b => if b = 2 then f 2 + 1 else if 23 + 7 * (f 2).toNatClampNeg + 1 ≤ b ∧ b < 23 + 7 * (f 2).toNatClampNeg + 1 + T then s (b - (23 + 7 * (f 2).toNatClampNeg + 1)) else if b = 23 + 7 * (f 2).toNatClampNeg then nI T else if 23 + 7 * (f 2).toNatClampNeg ≤ b ∧ b < 23 + 7 * (f 2).toNatClampNeg + 7 then 0 else f b
theorem addFromL {V : fM} {n : Nat} (hn : n < 8) (hc : V 7 2 = nI n) : ∀ (m j : Nat), j ≤ 6 → 6 < j + m → l_X6_addFrom 7 267 60 (fsr V 11 (fun b => if 6 * n ≤ b ∧ b < 6 * n + j then r_X10_at V 267 60 (nI (b - 6 * n)) else V 11 b)) m j = fst1 (fsr V 11 (fun b => if 6 * n ≤ b ∧ b < 6 * n + 6 then r_X10_at V 267 60 (nI (b - 6 * n)) else V 11 b)) 7 2 (nI (n + 1)) := by
  intro m
  induction m with
  | zero => intro j h1 h2; omega
  | succ m ih =>
    intro j h1 h2
    rw [l_X6_addFrom]
    by_cases hj : j = 6
    · subst hj
      rw [if_pos (show (6 : Int32) ≤ nI 6 by decide), fsr_ne (by decide), hc, nI_1]
    · rw [if_neg (show ¬ (6 : Int32) ≤ nI j from nI_ge (b := 6) (by omega) (by omega)), fsr_ne (show 7 ≠ 11 by decide), hc, show nI n * (6 : Int32) + nI j = nI (n * 6 + j) by rw [show (6 : Int32) = nI 6 from rfl, pk_mul, nI_add], rset_in (by omega) (by decide), show 7 + 3 + 1 = 11 from rfl, fst1_fsr]
      have er : r_X10_at (fsr V 11 (fun b => if 6 * n ≤ b ∧ b < 6 * n + j then r_X10_at V 267 60 (nI (b - 6 * n)) else V 11 b)) 267 60 (nI j) = r_X10_at V 267 60 (nI j) := by
        rw [r_X10_at, r_X10_at, fsr_ne (by decide), rget, rget, fsr_ne (by decide)]
      rw [er, ← ih (j + 1) (by omega) (by omega)]
      congr 1
      refine fsr_congr fun b => ?_
      by_cases h3 : b = n * 6 + j
      · subst h3
        rw [if_pos rfl, if_pos (by omega), show n * 6 + j - 6 * n = j by omega]
      · rw [if_neg h3]
        by_cases h4 : 6 * n ≤ b ∧ b < 6 * n + j
        · rw [if_pos h4, if_pos (by omega)]
        · rw [if_neg h4, if_neg (by omega)]
theorem sw_lab (h : SW N M 1 f) {s : Nat → Int32} {T : Nat} (ht2 : M 267 2 = nI T) (hT1 : 1 ≤ T) (hT6 : T ≤ 6) (hs : ∀ i, i < T → r_X10_at M 267 60 (nI i) = s i) (hx : ∀ i, i < T → ∃ x, s i = nI x ∧ 97 ≤ x ∧ x < 105) (h8 : (f 2).toNatClampNeg < 8) : SW N (m_X6_addFrom M 7 267 60) 1 (fLab f s T) ∧ m_X6_addFrom M 7 267 60 7 2 = f 2 + 1 ∧ ∀ a, a < 1 ∨ 24 < a → m_X6_addFrom M 7 267 60 a = M a := by
  obtain ⟨e2, -⟩ := h.2.labs
  obtain ⟨b1, b2, b3⟩ := h.2.bd
  have e2' : f 2 + 1 = nI ((f 2).toNatClampNeg + 1) := by rw [← nI_1, ← e2]
  generalize hn : (f 2).toNatClampNeg = n at *
  have hc : M 7 2 = nI n := (show M 7 2 = f 2 from h.1.2.2.1.1).trans e2
  have em : m_X6_addFrom M 7 267 60 = fst1 (fsr (fst1 M 9 n (nI T)) 11 (fun b => if 6 * n ≤ b ∧ b < 6 * n + 6 then r_X10_at M 267 60 (nI (b - 6 * n)) else M 11 b)) 7 2 (nI (n + 1)) := by
    rw [m_X6_addFrom, hc, ht2, rset_in h8 (by decide), show 7 + 1 + 1 = 9 from rfl]
    have h1 := addFromL (V := fst1 M 9 n (nI T)) h8 (by rw [fst1_ne (by decide)]; exact hc) 7 0 (by omega) (by omega)
    have er : ∀ i, r_X10_at (fst1 M 9 n (nI T)) 267 60 (nI i) = r_X10_at M 267 60 (nI i) := fun i => by
      rw [r_X10_at, r_X10_at, fst1_ne (by decide), rget, rget, fst1_ne (by decide)]
    have e0 : fsr (fst1 M 9 n (nI T)) 11 (fun b => if 6 * n ≤ b ∧ b < 6 * n + 0 then r_X10_at (fst1 M 9 n (nI T)) 267 60 (nI (b - 6 * n)) else (fst1 M 9 n (nI T)) 11 b) = fst1 M 9 n (nI T) := by
      rw [show (fun b => if 6 * n ≤ b ∧ b < 6 * n + 0 then r_X10_at (fst1 M 9 n (nI T)) 267 60 (nI (b - 6 * n)) else (fst1 M 9 n (nI T)) 11 b) = (fst1 M 9 n (nI T)) 11 from funext fun b => if_neg (by omega), fsr_self]
    rw [e0] at h1
    rw [h1]
    congr 1
  have ef : ∀ a, a ≠ 7 → a ≠ 9 → a ≠ 11 → m_X6_addFrom M 7 267 60 a = M a := fun a a1 a2 a3 => by rw [em, fst1_ne a1, fsr_ne a3, fst1_ne a2]
  have u : ∀ b, b ≠ 2 → b < 23 + 7 * n ∨ 23 + 7 * n + 7 ≤ b → fLab f s T b = f b := fun b h1 h2 => by
    rw [fLab, hn, if_neg h1, if_neg (by omega), if_neg (by omega), if_neg (by omega)]
  have u2 : fLab f s T 2 = nI (n + 1) := by rw [fLab, if_pos rfl, e2']
  have ut : fLab f s T (23 + 7 * n) = nI T := by rw [fLab, hn, if_neg (by omega), if_neg (by omega), if_pos rfl]
  have us : ∀ i, i < T → fLab f s T (23 + 7 * n + (1 + i)) = s i := fun i hi => by
    rw [fLab, hn, if_neg (by omega), if_pos (by omega), show 23 + 7 * n + (1 + i) - (23 + 7 * n + 1) = i by omega]
  refine ⟨⟨?_, ?_⟩, ?_, fun a ha => ef a (by omega) (by omega) (by omega)⟩
  · obtain ⟨⟨a1, a2, a3⟩, bb, ⟨d0, d⟩, ⟨p1, p2⟩, e, g1, g2, g3, g4, g5⟩ := h.1
    refine ⟨⟨?_, ?_, ?_⟩, ?_, ⟨?_, ?_⟩, ⟨?_, ?_⟩, ?_, ?_, ?_, ?_, ?_, ?_⟩
    · rw [ef _ (by omega) (by omega) (by omega), u _ (by omega) (by omega)]; exact a1
    · rw [ef _ (by omega) (by omega) (by omega), u _ (by omega) (by omega)]; exact a2
    · rw [ef _ (by omega) (by omega) (by omega), u _ (by omega) (by omega)]; exact a3
    · intro q hq
      rw [u 1 (by omega) (by omega)] at hq
      rw [ef (1 + 3) (by omega) (by omega) (by omega), ef (1 + 5) (by omega) (by omega) (by omega), u (11 + 2 * q) (by omega) (by omega), u (11 + 2 * q + 1) (by omega) (by omega)]
      exact bb q hq
    · rw [u2]
      show m_X6_addFrom M 7 267 60 7 2 = _
      rw [em, fst1_at]
    · intro q hq
      rw [u2, nI_clamp (by omega)] at hq
      have e9 : m_X6_addFrom M 7 267 60 (1 + 8) = fst1 M 9 n (nI T) 9 := by rw [em, fst1_ne (by decide), fsr_ne (by decide)]
      have e11 : ∀ b, m_X6_addFrom M 7 267 60 (1 + 10) b = if 6 * n ≤ b ∧ b < 6 * n + 6 then r_X10_at M 267 60 (nI (b - 6 * n)) else M 11 b := fun b => by rw [em, fst1_ne (by decide), fsr_at]
      rw [e9]
      by_cases h2 : q = n
      · subst h2
        rw [ut, fst1_at, nI_clamp (by omega)]
        refine ⟨rfl, fun i hi => ?_⟩
        rw [e11, if_pos (by omega), us i hi, show 6 * q + i - 6 * q = i by omega]
        exact hs i hi
      · have h7 := b3 q (by omega)
        rw [u (23 + 7 * q) (by omega) (by omega), fst1_nj h2]
        refine ⟨(d q (by omega)).1, fun i hi => ?_⟩
        rw [e11, if_neg (by omega), u (23 + 7 * q + (1 + i)) (by omega) (by omega)]
        exact (d q (by omega)).2 i hi
    · rw [ef _ (by omega) (by omega) (by omega), u _ (by omega) (by omega)]; exact p1
    · rw [ef _ (by omega) (by omega) (by omega), u _ (by omega) (by omega)]; exact p2
    · intro q hq
      rw [u 3 (by omega) (by omega)] at hq
      rw [ef (1 + 13) (by omega) (by omega) (by omega), ef (1 + 15) (by omega) (by omega) (by omega), ef (1 + 17) (by omega) (by omega) (by omega), ef (1 + 19) (by omega) (by omega) (by omega), ef (1 + 21) (by omega) (by omega) (by omega), ef (1 + 23) (by omega) (by omega) (by omega), u (79 + 6 * q) (by omega) (by omega), u (79 + 6 * q + 1) (by omega) (by omega), u (79 + 6 * q + 2) (by omega) (by omega), u (79 + 6 * q + 3) (by omega) (by omega), u (79 + 6 * q + 4) (by omega) (by omega), u (79 + 6 * q + 5) (by omega) (by omega)]
      exact e q hq
    · rw [ef _ (by omega) (by omega) (by omega), u _ (by omega) (by omega)]; exact g1
    · rw [ef _ (by omega) (by omega) (by omega), u _ (by omega) (by omega)]; exact g2
    · rw [ef _ (by omega) (by omega) (by omega), u _ (by omega) (by omega)]; exact g3
    · rw [ef _ (by omega) (by omega) (by omega), u _ (by omega) (by omega)]; exact g4
    · rw [ef _ (by omega) (by omega) (by omega), u _ (by omega) (by omega)]; exact g5
  · obtain ⟨⟨a1, a2, a3, a4, a5⟩, bb, d, e⟩ := h.2
    refine ⟨⟨?_, ?_, ?_, ?_, ?_⟩, fun q hq => ?_, fun q hq => ?_, fun q hq => ?_⟩
    · rw [u _ (by omega) (by omega)]; exact a1
    · rw [u _ (by omega) (by omega)]; exact a2
    · rw [u2]; exact sm_nI (by omega) (by decide)
    · rw [u _ (by omega) (by omega)]; exact a4
    · rw [u _ (by omega) (by omega)]; exact a5
    · rw [u 1 (by omega) (by omega)] at hq
      rw [u 0 (by omega) (by omega), u (11 + 2 * q) (by omega) (by omega), u (11 + 2 * q + 1) (by omega) (by omega)]
      exact bb q hq
    · rw [u2, nI_clamp (by omega)] at hq
      by_cases h2 : q = n
      · subst h2
        rw [ut, nI_clamp (by omega)]
        refine ⟨⟨sm_nI (by omega) (by decide), hT1⟩, fun i hi => ?_⟩
        obtain ⟨x, x1, x2, x3⟩ := hx i hi
        rw [us i hi, x1, nI_clamp (by omega)]
        exact ⟨sm_nI x3 (by decide), x2⟩
      · have h7 := b3 q (by omega)
        rw [u (23 + 7 * q) (by omega) (by omega)]
        refine ⟨(d q (by omega)).1, fun i hi => ?_⟩
        rw [u (23 + 7 * q + (1 + i)) (by omega) (by omega)]
        exact (d q (by omega)).2 i hi
    · rw [u 3 (by omega) (by omega)] at hq
      obtain ⟨t1, t2, t3, t4⟩ := e q hq
      rw [u2, nI_clamp (by omega), u 1 (by omega) (by omega), u (79 + 6 * q) (by omega) (by omega), u (79 + 6 * q + 1) (by omega) (by omega), u (79 + 6 * q + 2) (by omega) (by omega), u (79 + 6 * q + 3) (by omega) (by omega), u (79 + 6 * q + 4) (by omega) (by omega), u (79 + 6 * q + 5) (by omega) (by omega)]
      rw [hn] at t3
      exact ⟨t1, t2, t3.mono (by omega), t4⟩
  · rw [em, fst1_at, e2']
theorem labA {K : fM} {mn av : Int32} {g : Nat → Int32} {A : Nat} (hA : A < 1000) (hav : av = nI A) : ∀ (m j : Nat), j ≤ 7 → 7 < j + m → l_X12_addLabelA mn av (fsr K 297 (fun b => if A ≤ b ∧ b < A + j then 0 else g b)) m j = fsr K 297 (fun b => if A ≤ b ∧ b < A + 7 then 0 else g b) := by
  subst hav
  intro m
  induction m with
  | zero => intro j h1 h2; omega
  | succ m ih =>
    intro j h1 h2
    rw [l_X12_addLabelA]
    by_cases hj : j = 7
    · subst hj
      rw [if_pos (show (7 : Int32) ≤ nI 7 by decide)]
    · rw [if_neg (show ¬ (7 : Int32) ≤ nI j from nI_ge (b := 7) (by omega) (by omega)), nI_add, nI_clamp (by omega), fst1_fsr, ← ih (j + 1) (by omega) (by omega)]
      congr 1
      refine fsr_congr fun b => ?_
      by_cases h4 : b = A + j
      · subst h4
        rw [if_pos rfl, if_pos (by omega)]
      · rw [if_neg h4]
        by_cases h5 : A ≤ b ∧ b < A + j
        · rw [if_pos h5, if_pos (by omega)]
        · rw [if_neg h5, if_neg (by omega)]
theorem labB {K : fM} {mn av : Int32} {g s : Nat → Int32} {A T : Nat} (hA : A < 1000) (hav : av = nI A) (hmn : mn = nI T) (hT : T ≤ 60) (hs : K 301 = s) : ∀ (m j : Nat), j ≤ T → T < j + m → l_X12_addLabelB mn av (fsr K 297 (fun b => if A + 1 ≤ b ∧ b < A + 1 + j then s (b - (A + 1)) else g b)) m j = fsr K 297 (fun b => if A + 1 ≤ b ∧ b < A + 1 + T then s (b - (A + 1)) else g b) := by
  subst hav; subst hmn
  intro m
  induction m with
  | zero => intro j h1 h2; omega
  | succ m ih =>
    intro j h1 h2
    rw [l_X12_addLabelB]
    by_cases hj : j = T
    · subst hj
      rw [if_pos (nI_le (by omega) (by omega))]
    · rw [if_neg (nI_ge (by omega) (by omega)), nI_1, nI_add, nI_clamp (by omega), nI_clamp (by omega), fsr_ne (show 301 ≠ 297 by decide), hs, fst1_fsr, ← ih (j + 1) (by omega) (by omega)]
      congr 1
      refine fsr_congr fun b => ?_
      by_cases h4 : b = A + 1 + j
      · subst h4
        rw [if_pos rfl, if_pos (by omega), show A + 1 + j - (A + 1) = j by omega]
      · rw [if_neg h4]
        by_cases h5 : A + 1 ≤ b ∧ b < A + 1 + j
        · rw [if_pos h5, if_pos (by omega)]
        · rw [if_neg h5, if_neg (by omega)]
/-- the model adds it -/
theorem m_lab3 (hf : WF N f) (hW : W 297 = f) (hk : kq W) {s : Nat → Int32} {T : Nat} (h9 : W 296 9 = nI T) (hs : W 301 = s) (hT : T ≤ 6) (h8 : (f 2).toNatClampNeg < 8) : kq (fst1 (fst1 W 296 7 0) 296 9 0) ∧ a3_X12_addLabel W = fsr (m_X12_keeps (fst1 (fst1 W 296 7 0) 296 9 0) 297 127) 297 (fLab f s T) ∧ (m_X12_keeps (fst1 (fst1 W 296 7 0) 296 9 0) 297 127) 297 = f := by
  obtain ⟨e2, -⟩ := hf.labs
  have hk1 : kq (fst1 (fst1 W 296 7 0) 296 9 0) := fun q => by
    rw [fst1_nj (by decide), fst1_nj (by decide)] at q
    obtain ⟨C, c1, c2⟩ := hk q
    exact ⟨C, c1, by rw [fst1_nj (by decide), fst1_nj (by decide)]; exact c2⟩
  have e7 : m_X12_keeps (fst1 (fst1 W 296 7 0) 296 9 0) 297 127 297 = f := by rw [kp_ne hk1 (by decide) (by decide), fst1_ne (by decide), fst1_ne (by decide), hW]
  have es : m_X12_keeps (fst1 (fst1 W 296 7 0) 296 9 0) 297 127 301 = s := by rw [kp_ne hk1 (by decide) (by decide), fst1_ne (by decide), fst1_ne (by decide), hs]
  have emn : (fst1 W 296 7 (0 : Int32)) 296 9 = nI T := by rw [fst1_nj (by decide)]; exact h9
  refine ⟨hk1, ?_, e7⟩
  have hav : (23 : Int32) + (7 : Int32) * f 2 = nI (23 + 7 * (f 2).toNatClampNeg) := by
    have := nI_ix7 (l := (f 2).toNatClampNeg) (w := 0) 0 rfl
    rw [← e2, Int32.add_zero] at this
    exact this
  rw [a3_X12_addLabel, a2_X12_addLabel, a1_X12_addLabel, a0_X12_addLabel, cl_2, e7, emn, Int32.add_zero, hav, nI_clamp (by omega)]
  generalize m_X12_keeps (fst1 (fst1 W 296 7 0) 296 9 0) 297 127 = K at e7 es
  have hA := labA (K := K) (mn := nI T) (g := f) (A := 23 + 7 * (f 2).toNatClampNeg) (by omega) rfl 8 0 (by omega) (by omega)
  have e0 : fsr K 297 (fun b => if 23 + 7 * (f 2).toNatClampNeg ≤ b ∧ b < 23 + 7 * (f 2).toNatClampNeg + 0 then 0 else f b) = K := by
    rw [show (fun b => if 23 + 7 * (f 2).toNatClampNeg ≤ b ∧ b < 23 + 7 * (f 2).toNatClampNeg + 0 then 0 else f b) = f from funext fun b => if_neg (by omega), ← e7, fsr_self]
  rw [e0] at hA
  rw [hA, up2]
  have hB := labB (K := K) (mn := nI T) (g := up (fun b => if 23 + 7 * (f 2).toNatClampNeg ≤ b ∧ b < 23 + 7 * (f 2).toNatClampNeg + 7 then 0 else f b) (23 + 7 * (f 2).toNatClampNeg) (nI T)) (A := 23 + 7 * (f 2).toNatClampNeg) (T := T) (s := s) (by omega) rfl rfl (by omega) es 61 0 (by omega) (by omega)
  have e1 : fsr K 297 (fun b => if 23 + 7 * (f 2).toNatClampNeg + 1 ≤ b ∧ b < 23 + 7 * (f 2).toNatClampNeg + 1 + 0 then s (b - (23 + 7 * (f 2).toNatClampNeg + 1)) else up (fun b => if 23 + 7 * (f 2).toNatClampNeg ≤ b ∧ b < 23 + 7 * (f 2).toNatClampNeg + 7 then 0 else f b) (23 + 7 * (f 2).toNatClampNeg) (nI T) b) = fsr K 297 (up (fun b => if 23 + 7 * (f 2).toNatClampNeg ≤ b ∧ b < 23 + 7 * (f 2).toNatClampNeg + 7 then 0 else f b) (23 + 7 * (f 2).toNatClampNeg) (nI T)) := fsr_congr fun b => if_neg (by omega)
  rw [e1] at hB
  rw [hB, fsr_at, up2]
  refine fsr_congr fun b => ?_
  rw [fLab]
  by_cases h2 : b = 2
  · subst h2
    rw [up_at rfl, if_pos rfl, if_neg (by omega), up_ne (by omega), if_neg (by omega)]
  · rw [up_ne h2, if_neg h2]
    by_cases h3 : 23 + 7 * (f 2).toNatClampNeg + 1 ≤ b ∧ b < 23 + 7 * (f 2).toNatClampNeg + 1 + T
    · rw [if_pos h3, if_pos h3]
    · rw [if_neg h3, if_neg h3]
      by_cases h4 : b = 23 + 7 * (f 2).toNatClampNeg
      · rw [up_at h4, if_pos h4]
      · rw [up_ne h4, if_neg h4]
end LAB
section OPS9
variable {G : fG} {c : Nat} {M : fM} {dv : UInt64} {a b e f : Int32}
theorem k_lab {N : Nat} {M : fM} {f : Nat → Int32} (h : SW N M 1 f) (hT : ItT M) : r_X8_labelRefusal M 1 267 60 = (if exd (ltP (M 301) (M 296 9).toNatClampNeg 6) = 0 then (2 : Int32) else if (8 : Int32) ≤ f 2 then 3 else if r_X6_holds M 7 267 60 = 0 then 0 else 3) := by
  rw [r_X8_labelRefusal, show (6 : Int32) = nI 6 from rfl, c_wr hT (by decide), show M (1 + 6) 2 = f 2 from h.1.2.2.1.1]
theorem op_7b {k r : Int32} (hG : fOK G) (h : It c M) (hr : r ≠ 0) (hk : k = r) (hN : N_X12_addLabel (fst1 M 267 2 0)) (hm : m_X12_addLabel (fst1 M 267 2 0) = fst1 (fst1 (fst1 M 267 2 0) 296 7 r) 296 9 0) (hh : fCt G z_L_addLabel 60 [.ref 0, .ref 306] (sS M dv) 16 96 (fD (some (.int r)) (sS (fst1 M 267 2 0) dv))) : Op_7 G It c M dv a b e f := by
  have k2 := c_X12_addLabel hG (d := 60) (by decide) (fst1 M 267 2 0) dv hN
  rw [hm] at k2
  obtain ⟨t1, t2, t3, t4⟩ := h.2.2.2.1
  refine ⟨r, _, _, _, hh, k2, by rw [fst1_nj (by decide), fst1_at], fun q => absurd q hr, It_text h.up (fun q q1 q2 q3 q4 q5 => by rw [fst1_ne q4, fst1_ne q4, fst1_ne q1]) (fun j j1 j2 => by rw [fst1_nj j2, fst1_nj j1, fst1_ne (by decide)]) ⟨?_, ?_, ?_, fun i hi => ?_⟩⟩
  · rw [fst1_ne (by decide), fst1_ne (by decide), fst1_nj (by decide)]; exact t1
  · rw [fst1_at, fst1_ne (by decide), fst1_ne (by decide), fst1_at]
  · rw [fst1_at]; exact sm_nI (n := 0) (by decide) (by decide)
  · rw [fst1_at, cl_0] at hi; omega
theorem op_7 (hG : fOK G) (h : It c M) : Op_7 G It c M dv a b e f := by
  have hS := h.1
  have hT := h.2.2.2.1
  obtain ⟨t1, t2, t3, t4⟩ := id hT
  have l3 := t3.2
  obtain ⟨e2, h2⟩ := hS.2.labs
  have hln : ∀ i, i < (M (1 + 6) 2).toNatClampNeg → sm (rget M (1 + 6 + 1) 8 (nI i)) 300 := fun i hi => by
    rw [show M (1 + 6) 2 = M 297 2 from hS.1.2.2.1.1] at hi
    obtain ⟨w1, w2, w3, -⟩ := hS.2.lab hi
    rw [c_lens hS hi, w1]
    exact sm_nI (by omega) (by decide)
  have hc := c_X11_addLabel hG (d := 40) (by decide) M dv (t300 hT) (by rw [show M (1 + 6) 2 = M 297 2 from hS.1.2.2.1.1]; exact hS.2.1.2.2.1.mono (by decide)) hln (fun _ => It_73 h)
  rw [o_X11_addLabel, k_lab hS hT, show m_X10_clear M 267 60 = fst1 M 267 2 0 from rfl] at hc
  have w97 : (fst1 M 267 2 (0 : Int32)) 297 = M 297 := fst1_ne (by decide)
  have w96 : (fst1 M 267 2 (0 : Int32)) 296 = M 296 := fst1_ne (by decide)
  have w01 : (fst1 M 267 2 (0 : Int32)) 301 = M 301 := fst1_ne (by decide)
  have hwr : r_X12_isWritten (fst1 M 267 2 0) (6 : Int32) = exd (ltP (M 301) (M 296 9).toNatClampNeg 6) := by
    rw [show (6 : Int32) = nI 6 from rfl, m_wr (T := (M 296 9).toNatClampNeg) (by rw [w96]; exact t3.1) (by omega) (by decide), w01]
  have hNw : N_X12_isWritten (fst1 M 267 2 0) (6 : Int32) := N_wr (T := (M 296 9).toNatClampNeg) (by rw [w96]; exact t3.1) (by omega) _
  by_cases hp : ltP (M 301) (M 296 9).toNatClampNeg 6
  · rw [exd_pos hp, if_neg z_n1] at hc
    rw [exd_pos hp] at hwr
    have hwr' : ¬ r_X12_isWritten (fst1 M 267 2 0) (6 : Int32) = 0 := by rw [hwr]; exact z_n1
    obtain ⟨p1, p2, p3⟩ := hp
    by_cases h8 : M 297 2 = 8
    · rw [if_pos (show (8 : Int32) ≤ M 297 2 by rw [h8]; decide), if_neg (by decide), if_neg (by decide), if_neg (by decide), if_pos rfl] at hc
      have m8 : (fst1 M 267 2 (0 : Int32)) 297 ((2 : Int32)).toNatClampNeg = 8 := by rw [cl_2, w97]; exact h8
      exact op_7b (k := 2) (r := 2) hG h (by decide) rfl ⟨hNw, fun _ q => absurd m8 q, fun _ q => absurd m8 q, fun _ q => absurd m8 q, fun _ q => absurd m8 q, fun _ q => absurd m8 q, fun _ q => absurd m8 q⟩ (by rw [m_X12_addLabel, if_neg hwr', if_pos m8]) (c_L_addLabel hG (by decide) (by decide) (by decide) M dv hc 2 _ (Or.inr (Or.inr ⟨_, rfl, rfl, rfl⟩)))
    · have n8 : (M 297 2).toNatClampNeg < 8 := Nat.lt_of_le_of_ne h2 fun q => h8 (by rw [e2, q]; rfl)
      have c8 : ¬ (8 : Int32) ≤ M 297 2 := by rw [e2]; exact nI_ge (b := 8) n8 (by omega)
      rw [if_neg c8] at hc
      have th := both_there hS hT (W := fst1 M 267 2 0) w97 (by rw [w96]) w01 (M 297 2).toNatClampNeg 301 9 0 (by omega) (by omega) (by omega)
      by_cases ht : r_X6_holds M 7 267 60 = 0
      · have e20 : r_X8_labelRefusal M 1 267 60 = 0 := by
          rw [k_lab hS hT, exd_pos ⟨p1, p2, p3⟩, if_neg z_n1, if_neg c8, if_pos ht]
        rw [if_pos ht, if_pos rfl, if_neg (by decide), if_neg (by decide), if_neg (by decide), if_neg (by decide), if_neg (by decide)] at hc
        obtain ⟨k1, k2, k3⟩ := It_mut h (Nat.le_refl _)
        have hat : ∀ i, i < (M 296 9).toNatClampNeg → r_X10_at (m_X4_keep M 1) 267 60 (nI i) = M 301 i := fun i hi => by
          rw [← hT.at hi, r_X10_at, r_X10_at, k2 267 (by omega), rget, rget, k2 (267 + 1 + 1) (by omega)]
        obtain ⟨s1, s2, s3⟩ := sw_lab k1 (s := M 301) (T := (M 296 9).toNatClampNeg) (by rw [k2 267 (by omega), t2]; exact t3.1) p1 p2 hat p3 n8
        have hc : fCt G z_X11_addLabel 40 [.ref 0] (sS M dv) 1 6 (fO dv (.inl (some (.int (fst1 (m_X6_addFrom (m_X4_keep M 1) 7 267 60) 267 2 0 7 2 - 1))), fst1 (m_X6_addFrom (m_X4_keep M 1) 7 267 60) 267 2 0)) := hc
        rw [fst1_ne (by decide), s2, show M 297 2 + 1 - 1 = M 297 2 by rw [e2, nI_1, nI_pred]] at hc
        generalize hV : fst1 (fst1 (m_X6_addFrom (m_X4_keep M 1) 7 267 60) 267 2 0) 306 0 (M 297 2) = V
        have hVa : ∀ q, q < 1 ∨ 24 < q → q ≠ 267 → q ≠ 306 → V q = m_X4_keep M 1 q := fun q q1 q2 q3 => by rw [← hV, fst1_ne q3, fst1_ne q2, s3 q q1]
        have hVM : ∀ q, (24 < q ∧ q < 73) ∨ 268 ≤ q → q ≠ 306 → V q = M q := fun q q1 q2 => by rw [hVa q (by omega) (by omega) q2, k2 q (by omega)]
        have v96 : V 296 = M 296 := hVM 296 (by omega) (by omega)
        have v97 : V 297 = M 297 := hVM 297 (by omega) (by omega)
        have v01 : V 301 = M 301 := hVM 301 (by omega) (by omega)
        have hkq : kq V := fun q => by
          rw [v96] at q ⊢
          exact It_kq h q
        obtain ⟨m1, m2, m3⟩ := m_lab3 hS.2 v97 hkq (s := M 301) (T := (M 296 9).toNatClampNeg) (by rw [v96]; exact t3.1) v01 p2 n8
        have hwV : r_X12_isWritten V (6 : Int32) = 1 := by
          rw [show (6 : Int32) = nI 6 from rfl, m_wr (T := (M 296 9).toNatClampNeg) (by rw [v96]; exact t3.1) (by omega) (by decide), v01, exd_pos ⟨p1, p2, p3⟩]
        have thV := both_there hS hT (W := V) v97 (by rw [v96]) v01 (M 297 2).toNatClampNeg 301 9 0 (by omega) (by omega) (by omega)
        have thV : r_X12_isThere V = 0 := thV.symm.trans ht
        have m8 : ¬ V 297 ((2 : Int32)).toNatClampNeg = 8 := by rw [cl_2, v97]; exact h8
        have hav : (23 : Int32) + (7 : Int32) * M 297 2 = nI (23 + 7 * (M 297 2).toNatClampNeg) := by
          have := nI_ix7 (l := (M 297 2).toNatClampNeg) (w := 0) 0 rfl
          rw [← e2, Int32.add_zero] at this
          exact this
        have v9 : (fst1 V 296 7 (0 : Int32)) 296 9 = nI (M 296 9).toNatClampNeg := by rw [fst1_nj (by decide), v96]; exact t3.1
        have hlt : ∀ j : Nat, ¬ (fst1 V 296 7 (0 : Int32)) 296 9 ≤ nI j → j < (M 296 9).toNatClampNeg ∨ 2 ^ 31 ≤ j := fun j q => by
          rw [v9] at q
          by_cases hj : j < 2 ^ 31
          · exact Or.inl (Nat.lt_of_not_le fun r => q (nI_le r hj))
          · exact Or.inr (Nat.le_of_not_lt hj)
        have hN : N_X12_addLabel V := by
          refine ⟨N_wr (T := (M 296 9).toNatClampNeg) (by rw [v96]; exact t3.1) (by omega) _, fun _ _ => N_there hS.2 v97 (T := (M 296 9).toNatClampNeg) (by rw [v96]; exact t3.1) p2, fun _ _ _ => N_kp m1, fun _ _ _ j h1 h2 => ?_, fun _ _ _ => ?_, fun _ _ _ j h1 h2 => ?_, fun _ _ _ j h1 h2 => ?_⟩
          · have : j < 7 := Nat.lt_of_not_le fun q => h2 (nI_le (a := 7) q (by omega))
            rw [m3, cl_2, hav, nI_add]
            exact vp_in_nI (by omega) (by decide)
          · rw [m3, cl_2, hav, Int32.add_zero]
            exact vp_in_nI (by omega) (by decide)
          · have := hlt j h2; omega
          · have := hlt j h2
            rw [m3, cl_2, hav, nI_1, nI_add]
            exact vp_in_nI (by omega) (by decide)
        have kc := c_X12_addLabel hG (d := 60) (by decide) V dv hN
        have em : m_X12_addLabel V = fsr (m_X12_keeps (fst1 (fst1 V 296 7 0) 296 9 0) 297 127) 297 (fLab (M 297) (M 301) (M 296 9).toNatClampNeg) := by
          rw [m_X12_addLabel, hwV, if_neg z_n1, if_neg m8, if_pos thV, m2]
        have er : r_X12_addLabel V = M 297 2 := by
          rw [r_X12_addLabel, hwV, if_neg z_n1, if_neg m8, if_pos thV, m2, fsr_at, cl_2, fLab, if_pos rfl, e2, nI_1, nI_pred]
        rw [em, er] at kc
        have e8 : m_X12_keeps (fst1 (fst1 V 296 7 0) 296 9 0) 297 127 298 = m_X12_keeps M 297 127 298 ∧ m_X12_keeps (fst1 (fst1 V 296 7 0) 296 9 0) 297 127 296 5 = m_X12_keeps M 297 127 296 5 := by
          have h6 := h.2.2.2.2.2.2.1
          obtain ⟨C, hC, h5⟩ := It_kq h h6
          have x5 : (fst1 (fst1 V 296 7 (0 : Int32)) 296 9 0) 296 5 = nI C := by rw [fst1_nj (by decide), fst1_nj (by decide), v96]; exact h5
          have x6 : (fst1 (fst1 V 296 7 (0 : Int32)) 296 9 0) 296 6 = 0 := by rw [fst1_nj (by decide), fst1_nj (by decide), v96]; exact h6
          rw [kp_out (by decide) (by decide) hC h6 h5, kp_out (by decide) (by decide) hC x6 x5, fsr_at, fsr_at, fsr_ne (by decide), fsr_ne (by decide), fst1_at, fst1_at, fst1_ne (by decide), fst1_ne (by decide), fst1_ne (by decide), fst1_ne (by decide), v97, hVM 298 (by omega) (by omega)]
          exact ⟨rfl, rfl⟩
        have w1 : ∀ q, q ≠ 296 → q ≠ 297 → q ≠ 298 → (fsr (m_X12_keeps (fst1 (fst1 V 296 7 0) 296 9 0) 297 127) 297 (fLab (M 297) (M 301) (M 296 9).toNatClampNeg)) q = V q := fun q q1 q2 q3 => by rw [fsr_ne q2, kp_ne m1 q1 q3, fst1_ne q1, fst1_ne q1]
        have w2 : ∀ j, j ≠ 5 → j ≠ 7 → (fsr (m_X12_keeps (fst1 (fst1 V 296 7 0) 296 9 0) 297 127) 297 (fLab (M 297) (M 301) (M 296 9).toNatClampNeg)) 296 j = fst1 (fst1 V 296 7 0) 296 9 0 296 j := fun j j1 j2 => by rw [fsr_ne (by decide), kp_j m1 j1 j2]
        refine ⟨0, _, _, _, c_L_addLabel hG (by decide) (by decide) (by decide) M dv hc 0 V (Or.inl ⟨_, _, rfl, rfl, hV.symm⟩), kc, ?_, fun _ => ?_, It.up (c := c) (k3 V _ _ hVa ?_ (s1.ext fun q a1 a2 => by rw [← hV, fst1_ne (by omega), fst1_ne (by omega)]) ⟨?_, ?_, ?_, fun i hi => ?_⟩ w1 (fun j j1 j2 j3 => ?_) ?_ ?_ (fsr_at _ _ _))⟩
        · rw [fsr_ne (by decide), kp_code m1]
        · rw [w1 306 (by decide) (by decide) (by decide), ← hV, fst1_at]
        · rw [← hV, fst1_ne (by decide), fst1_nj (by decide), s3 267 (by omega), k2 267 (by omega)]
        · rw [w1 267 (by decide) (by decide) (by decide), ← hV, fst1_ne (by decide), fst1_nj (by decide), s3 267 (by omega), k2 267 (by omega)]; exact t1
        · rw [w1 267 (by decide) (by decide) (by decide), w2 9 (by decide) (by decide), fst1_at, ← hV, fst1_ne (by decide), fst1_at]
        · rw [w2 9 (by decide) (by decide), fst1_at]; exact sm_nI (n := 0) (by decide) (by decide)
        · rw [w2 9 (by decide) (by decide), fst1_at, cl_0] at hi; omega
        · rw [w2 j j1 j2, fst1_nj j3, fst1_nj j2]
        · rw [fsr_ne (by decide)]; exact e8.1
        · rw [fsr_ne (by decide)]; exact e8.2
      · rw [if_neg ht, if_neg (by decide), if_neg (by decide), if_neg (by decide), if_pos rfl] at hc
        have m8 : ¬ (fst1 M 267 2 (0 : Int32)) 297 ((2 : Int32)).toNatClampNeg = 8 := by rw [cl_2, w97]; exact h8
        have th' : ¬ r_X12_isThere (fst1 M 267 2 0) = 0 := fun q => ht (th.trans q)
        exact op_7b (k := 2) (r := 2) hG h (by decide) rfl ⟨hNw, fun _ _ => N_there hS.2 w97 (T := (M 296 9).toNatClampNeg) (by rw [w96]; exact t3.1) p2, fun _ _ q => absurd q th', fun _ _ q => absurd q th', fun _ _ q => absurd q th', fun _ _ q => absurd q th', fun _ _ q => absurd q th'⟩ (by rw [m_X12_addLabel, if_neg hwr', if_neg m8, if_neg th']) (c_L_addLabel hG (by decide) (by decide) (by decide) M dv hc 2 _ (Or.inr (Or.inr ⟨_, rfl, rfl, rfl⟩)))
  · rw [exd_neg hp, if_pos rfl, if_neg (by decide), if_neg (by decide), if_pos rfl] at hc
    rw [exd_neg hp] at hwr
    exact op_7b (k := 1) (r := 1) hG h (by decide) rfl ⟨hNw, fun q => absurd hwr q, fun q => absurd hwr q, fun q => absurd hwr q, fun q => absurd hwr q, fun q => absurd hwr q, fun q => absurd hwr q⟩ (by rw [m_X12_addLabel, hwr, if_pos rfl]) (c_L_addLabel hG (by decide) (by decide) (by decide) M dv hc 1 _ (Or.inr (Or.inl ⟨_, rfl, rfl, rfl⟩)))
end OPS9
