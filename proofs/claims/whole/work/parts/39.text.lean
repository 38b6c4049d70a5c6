/-! ===== texts ===== -/
/-- the text at k holds the list L -/
def TX (M : fM) (k : Nat) (L : List Int32) : Prop := M k 2 = nI L.length ∧ ∀ i, i < L.length → M (k + 2) i = L.getD i 0
theorem getD_app : ∀ (L : List Int32) (x : Int32) (i : Nat), (L ++ [x]).getD i 0 = if i < L.length then L.getD i 0 else if i = L.length then x else 0
  | [], x, 0 => rfl
  | [], x, i + 1 => by
    show (0 : Int32) = if i + 1 < 0 then 0 else if i + 1 = 0 then x else 0
    rw [if_neg (by omega), if_neg (by omega)]
  | y :: L, x, 0 => by
    show y = if 0 < L.length + 1 then y else if 0 = L.length + 1 then x else 0
    rw [if_pos (by omega)]
  | y :: L, x, i + 1 => by
    have e := getD_app L x i
    show (L ++ [x]).getD i 0 = _
    rw [e]
    show _ = if i + 1 < L.length + 1 then L.getD i 0 else if i + 1 = L.length + 1 then x else 0
    by_cases h : i < L.length
    · rw [if_pos h, if_pos (by omega)]
    · rw [if_neg h, if_neg (show ¬ i + 1 < L.length + 1 by omega)]
      by_cases h2 : i = L.length
      · rw [if_pos h2, if_pos (by omega)]
      · rw [if_neg h2, if_neg (show ¬ i + 1 = L.length + 1 by omega)]
section TXT
variable {N : Nat} {M W : fM} {f : Nat → Int32}
theorem add_eq {k n C len : Nat} {x : Int32} (h0 : M k 0 = nI C) (h2 : M k 2 = nI len) (hl : len < C) (hC : C ≤ n) (hn : n < 1000) : m_X10_add M k n x = fst1 (fst1 M (k + 2) len x) k 2 (nI (len + 1)) := by
  rw [m_X10_add, h0, h2, if_neg (nI_ge hl (by omega)), rset_in (M := M) (by omega) (by omega), show k + 1 + 1 = k + 2 by omega, fst1_ne (show k ≠ k + 2 by omega), h2, nI_1]
theorem add_TX {k n C : Nat} {L : List Int32} {x : Int32} (h0 : M k 0 = nI C) (h : TX M k L) (hl : L.length < C) (hC : C ≤ n) (hn : n < 1000) : TX (m_X10_add M k n x) k (L ++ [x]) ∧ m_X10_add M k n x k 0 = nI C ∧ ∀ a, a ≠ k → a ≠ k + 2 → m_X10_add M k n x a = M a := by
  rw [add_eq h0 h.1 hl hC hn]
  refine ⟨⟨by rw [fst1_at, List.length_append]; rfl, fun i hi => ?_⟩, by rw [fst1_nj (by decide), fst1_ne (by omega)]; exact h0, fun a a1 a2 => by rw [fst1_ne a1, fst1_ne a2]⟩
  rw [List.length_append] at hi
  have hi : i < L.length + 1 := hi
  rw [fst1_ne (show k + 2 ≠ k by omega), getD_app]
  by_cases e : i = L.length
  · rw [e, fst1_at, if_neg (by omega), if_pos rfl]
  · rw [fst1_nj e, if_pos (by omega)]
    exact h.2 i (by omega)
def ltF (g : Nat → Int32) : Nat → Nat → List Int32
  | 0, _ => []
  | m + 1, j => g j :: ltF g m (j + 1)
theorem ltF_len (g : Nat → Int32) : ∀ m j, (ltF g m j).length = m
  | 0, _ => rfl
  | m + 1, j => by rw [ltF, List.length_cons, ltF_len g m (j + 1)]
theorem ltF_get (g : Nat → Int32) : ∀ m j i, i < m → (ltF g m j).getD i 0 = g (j + i)
  | 0, _, _, h => by omega
  | m + 1, j, 0, _ => rfl
  | m + 1, j, i + 1, h => by
    have e := ltF_get g m (j + 1) i (by omega)
    rw [show j + 1 + i = j + (i + 1) by omega] at e
    exact e
/-- the letters of a label -/
def wl (f : Nat → Int32) (l j : Nat) : Int32 := f (23 + 7 * l + (1 + j))
def wn' (f : Nat → Int32) (l : Nat) : Nat := (f (23 + 7 * l)).toNatClampNeg
theorem WF.lab (h : WF N f) {l : Nat} (hl : l < (f 2).toNatClampNeg) : f (23 + 7 * l) = nI (wn' f l) ∧ 0 < wn' f l ∧ wn' f l ≤ 6 ∧ ∀ i, i < wn' f l → ∃ x, wl f l i = nI x ∧ 97 ≤ x ∧ x < 105 := by
  obtain ⟨⟨h1, h2⟩, h3⟩ := h.2.2.1 l hl
  refine ⟨h1.1, h2, Nat.le_of_lt_succ h1.2, fun i hi => ?_⟩
  obtain ⟨h4, h5⟩ := h3 i hi
  exact ⟨_, h4.1, h5, h4.2⟩
theorem appL {t n C l : Nat} (hl : l < (f 2).toNatClampNeg) (ht : 24 < t) (hC : C ≤ n) (hn : n < 1000) : ∀ (m m' j : Nat) (M : fM) (L : List Int32), SW N M 1 f → M t 0 = nI C → TX M t L → L.length + m ≤ C → j + m = wn' f l → m < m' →
    TX (l_X6_appendTo 7 (nI l) t n M m' j) t (L ++ ltF (wl f l) m j) ∧ (l_X6_appendTo 7 (nI l) t n M m' j) t 0 = nI C ∧ ∀ a, a ≠ t → a ≠ t + 2 → (l_X6_appendTo 7 (nI l) t n M m' j) a = M a
  | 0, m' + 1, j, M, L, h, h0, hT, h1, h2, h3 => by
    obtain ⟨e1, e2, e3, e4⟩ := h.2.lab hl
    rw [l_X6_appendTo, show rget M (7 + 1) 8 (nI l) = f (23 + 7 * l) from c_lens h hl, if_pos (by rw [e1]; exact nI_le (by omega) (by omega)), ltF, List.append_nil]
    exact ⟨hT, h0, fun _ _ _ => rfl⟩
  | m + 1, m' + 1, j, M, L, h, h0, hT, h1, h2, h3 => by
    obtain ⟨e1, e2, e3, e4⟩ := h.2.lab hl
    rw [l_X6_appendTo, show rget M (7 + 1) 8 (nI l) = f (23 + 7 * l) from c_lens h hl, if_neg (by rw [e1]; exact nI_ge (by omega) (by omega)), show r_X6_letter M 7 (nI l) (nI j) = wl f l j from c_letr h hl (by rw [show (f (23 + 7 * l)).toNatClampNeg = wn' f l from rfl]; omega)]
    obtain ⟨q1, q2, q3⟩ := add_TX (x := wl f l j) (n := n) h0 hT (by omega) hC hn
    obtain ⟨r1, r2, r3⟩ := appL hl ht hC hn m m' (j + 1) (m_X10_add M t n (wl f l j)) (L ++ [wl f l j]) (h.ext fun a a1 a2 => q3 a (by omega) (by omega)) q2 q1 (by rw [List.length_append]; show L.length + 1 + m ≤ C; omega) (by omega) (by omega)
    rw [ltF]
    rw [List.append_assoc] at r1
    exact ⟨r1, r2, fun a a1 a2 => (r3 a a1 a2).trans (q3 a a1 a2)⟩
  | 0, 0, _, _, _, _, _, _, _, _, h3 => by omega
  | m + 1, 0, _, _, _, _, _, _, _, _, h3 => by omega
/-- a word taken -/
theorem tkw (h : SW N M 1 f) (h0 : M 273 0 = nI 6) {l : Nat} (hl : l < (f 2).toNatClampNeg) : TX (m_X11_takeWord M (nI l)) 273 (ltF (wl f l) (wn' f l) 0) ∧ m_X11_takeWord M (nI l) 273 0 = nI 6 ∧ ∀ a, a ≠ 273 → a ≠ 275 → m_X11_takeWord M (nI l) a = M a := by
  obtain ⟨e1, e2, e3, e4⟩ := h.2.lab hl
  have hc : ∀ a, a ≠ 273 → m_X10_clear M 273 6 a = M a := fun a ha => fst1_ne ha
  obtain ⟨q1, q2, q3⟩ := appL (t := 273) (n := 6) (C := 6) hl (by decide) (Nat.le_refl _) (by decide) (wn' f l) 301 0 (m_X10_clear M 273 6) [] (h.ext fun a a1 a2 => hc a (by omega)) (by rw [m_X10_clear, fst1_nj (by decide)]; exact h0) ⟨by rw [m_X10_clear, fst1_at]; rfl, fun i hi => by cases hi⟩ (by show 0 + wn' f l ≤ 6; omega) (by omega) (by omega)
  exact ⟨q1, q2, fun a a1 a2 => (q3 a a1 a2).trans (hc a a1)⟩
/-! the text in the buffer -/
theorem ItT.at (h : ItT M) {i : Nat} (hi : i < (M 296 9).toNatClampNeg) : r_X10_at M 267 60 (nI i) = M 301 i := by
  obtain ⟨-, e2, e3, e4⟩ := h
  have l2 := e3.2
  obtain ⟨g1, g2, -⟩ := e4 i hi
  rw [r_X10_at, e2, if_neg (nI_pos (by omega)), if_neg (by rw [e3.1]; exact nI_ge hi (by omega)), rget_in (by omega) (by decide), show 267 + 1 + 1 = 269 from rfl, g1, ch_id g2 (by decide)]
theorem in_flip (W : fM) (x A : Int32) : (if x < (97 : Int32) then (0 : Int32) else if x ≤ (104 : Int32) then A else 0) = (if r_X12_in W x 97 104 = 0 then 0 else A) := by
  rw [r_X12_in]
  by_cases h1 : x < 97
  · rw [if_pos h1, if_pos h1, if_pos rfl]
  · rw [if_neg h1, if_neg h1]
    by_cases h2 : x ≤ 104
    · rw [if_pos h2, if_neg (Int32.not_lt.mpr h2), if_neg z_n1]
    · rw [if_neg h2, if_pos (Int32.not_le.mp h2), if_pos rfl]
/-- a text of letters, at most q of them -/
def ltP (s : Nat → Int32) (T q : Nat) : Prop := 1 ≤ T ∧ T ≤ q ∧ ∀ i, i < T → ∃ x, s i = nI x ∧ 97 ≤ x ∧ x < 105
theorem m_wrL {T : Nat} (hW9 : W 296 9 = nI T) (hT : T ≤ 60) {q : Nat} (hq : q < 100) : ∀ (m m' j : Nat), j + m = T → m < m' → (∀ i, i < j → ∃ x, W 301 i = nI x ∧ 97 ≤ x ∧ x < 105) → l_X12_isWritten (nI q) W m' j = exd (ltP (W 301) T q)
  | 0, m' + 1, j, h1, h2, h3 => by
    rw [l_X12_isWritten, hW9, if_pos (nI_le (by omega) (by omega)), in_nI (lo := 1) (n := q) 1 rfl _ rfl (by decide) (by omega)]
    by_cases h : 1 ≤ T ∧ T ≤ q
    · rw [exd_pos ⟨T, rfl, h.1, h.2⟩, exd_pos ⟨h.1, h.2, fun i hi => h3 i (by omega)⟩]
    · rw [exd_neg (by rintro ⟨k, e, k1, k2⟩; exact h (by rw [(nI_eq (by omega) (by omega)).mp e]; exact ⟨k1, k2⟩)), exd_neg (fun k => h ⟨k.1, k.2.1⟩)]
  | m + 1, m' + 1, j, h1, h2, h3 => by
    rw [l_X12_isWritten, hW9, if_neg (nI_ge (by omega) (by omega)), nI_clamp (by omega), in_nI (lo := 97) (n := 104) 97 rfl 104 rfl (by decide) (by decide)]
    by_cases h : ∃ k, W 301 j = nI k ∧ 97 ≤ k ∧ k ≤ 104
    · rw [exd_pos h, if_neg z_n1]
      refine m_wrL hW9 hT hq m m' (j + 1) (by omega) (by omega) fun i hi => ?_
      by_cases e : i = j
      · obtain ⟨k, k1, k2, k3⟩ := h
        exact ⟨k, by rw [e]; exact k1, k2, by omega⟩
      · exact h3 i (by omega)
    · rw [exd_neg h, if_pos rfl, exd_neg]
      intro k
      obtain ⟨x, x1, x2, x3⟩ := k.2.2 j (by omega)
      exact h ⟨x, x1, x2, by omega⟩
  | 0, 0, _, _, h2, _ => by omega
  | m + 1, 0, _, _, h2, _ => by omega
theorem m_wr {T : Nat} (hW9 : W 296 9 = nI T) (hT : T ≤ 60) {q : Nat} (hq : q < 100) : r_X12_isWritten W (nI q) = exd (ltP (W 301) T q) := m_wrL hW9 hT hq T 61 0 (by omega) (by omega) (fun i hi => by omega)
theorem c_wrL (h : ItT M) {q : Nat} : ∀ (m m' j m2 : Nat), j + m = (M 296 9).toNatClampNeg → m < m' → m < m2 → l_X10_isLetters 267 60 (nI q) M m' j = l_X12_isWritten (nI q) M m2 j
  | 0, m' + 1, j, m2 + 1, h1, h2, h3 => by
    have e3 := h.2.2.1
    have l2 := e3.2
    have hle : M 296 9 ≤ nI j := by
      have e : nI (M 296 9).toNatClampNeg ≤ nI j := nI_le (by omega) (by omega)
      rw [← e3.1] at e
      exact e
    rw [l_X10_isLetters, l_X12_isWritten, h.2.1, if_pos hle, if_pos hle, r_X12_in]
  | m + 1, m' + 1, j, m2 + 1, h1, h2, h3 => by
    have e3 := h.2.2.1
    have l2 := e3.2
    have hle : ¬ M 296 9 ≤ nI j := by
      have e : ¬ nI (M 296 9).toNatClampNeg ≤ nI j := nI_ge (by omega) (by omega)
      rw [← e3.1] at e
      exact e
    rw [l_X10_isLetters, l_X12_isWritten, h.2.1, if_neg hle, if_neg hle, h.at (by omega), nI_clamp (by omega), in_flip M, c_wrL h m m' (j + 1) m2 (by omega) (by omega) (by omega)]
  | 0, 0, _, _, _, h2, _ => by omega
  | m + 1, 0, _, _, _, h2, _ => by omega
  | 0, m' + 1, _, 0, _, _, h3 => by omega
  | m + 1, m' + 1, _, 0, _, _, h3 => by omega
theorem c_wr (h : ItT M) {q : Nat} (hq : q < 100) : r_X10_isLetters M 267 60 (nI q) = exd (ltP (M 301) (M 296 9).toNatClampNeg q) := by
  have e3 := h.2.2.1
  have l2 := e3.2
  rw [← m_wr (W := M) e3.1 (by omega) hq]
  exact c_wrL h (M 296 9).toNatClampNeg 301 0 61 (by omega) (by omega) (by omega)
theorem N_wr {T : Nat} (hW9 : W 296 9 = nI T) (hT : T ≤ 60) (x : Int32) : N_X12_isWritten W x := fun j h1 h2 => by
  rw [hW9] at h2
  have : j < T := Nat.lt_of_not_le fun q => h2 (nI_le q (by omega))
  omega
end TXT
