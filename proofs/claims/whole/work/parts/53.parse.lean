/-! ===== reading commands ===== -/
/-- how many signs of L stand in the text from i on -/
def pfx (T : Nat) (s : Nat → Int32) : List Int32 → Nat → Nat
  | [], _ => 0
  | x :: L, i => if i < T ∧ s i = x then pfx T s L (i + 1) + 1 else 0
theorem pfx_le {T : Nat} {s : Nat → Int32} : ∀ (L : List Int32) (i : Nat), pfx T s L i ≤ L.length
  | [], _ => Nat.le_refl _
  | x :: L, i => by
    rw [pfx]
    by_cases h : i < T ∧ s i = x
    · rw [if_pos h]; have := pfx_le (T := T) (s := s) L (i + 1); show _ ≤ L.length + 1; omega
    · rw [if_neg h]; exact Nat.zero_le _
theorem pfx_T {T : Nat} {s : Nat → Int32} : ∀ (L : List Int32) (i : Nat), i ≤ T → i + pfx T s L i ≤ T
  | [], _, h => h
  | x :: L, i, h => by
    rw [pfx]
    by_cases h1 : i < T ∧ s i = x
    · rw [if_pos h1]; have := pfx_T (T := T) (s := s) L (i + 1) h1.1; omega
    · rw [if_neg h1]; exact h
theorem drop_c : ∀ (L : List Int32) (j : Nat), j < L.length → L.drop j = L.getD j 0 :: L.drop (j + 1)
  | [], _, h => by cases h
  | x :: L, 0, _ => rfl
  | x :: L, j + 1, h => drop_c L j (Nat.lt_of_succ_lt_succ h)
theorem drop_e : ∀ (L : List Int32) (j : Nat), L.length ≤ j → L.drop j = []
  | [], 0, _ => rfl
  | [], _ + 1, _ => rfl
  | x :: L, 0, h => by cases h
  | x :: L, j + 1, h => drop_e L j (Nat.le_of_succ_le_succ h)
theorem fst1_self {M : fM} {k j : Nat} {x : Int32} (h : M k j = x) : fst1 M k j x = M := by
  funext a
  by_cases ha : a = k
  · subst ha
    funext b
    by_cases hb : b = j
    · subst hb; rw [fst1_at, h]
    · rw [fst1_nj hb]
  · rw [fst1_ne ha]
/-- the class reads at i, the j-th command -/
def RD (T : Nat) (s : Nat → Int32) (M : fM) (i j : Nat) : Prop := (M 276 5 = nI i ∧ i ≤ T) ∧ M 276 4 = nI j ∧ M 277 2 = nI T ∧ ∀ q, q < T → M 279 q = s q
/-- the model reads at i, n commands before -/
def RM (T : Nat) (s : Nat → Int32) (W : fM) (i n : Nat) : Prop := (W 296 16 = nI i ∧ i ≤ T) ∧ W 296 18 = nI n ∧ W 296 9 = nI T ∧ ∀ q, q < T → W 301 q = s q
/-- a text as typed -/
def okT (T : Nat) (s : Nat → Int32) : Prop := T ≤ 60 ∧ ∀ q, q < T → ∃ x, s q = nI x ∧ 32 ≤ x ∧ x < 127
def digT (T : Nat) (s : Nat → Int32) (i : Nat) : Prop := i < T ∧ ∃ x, s i = nI x ∧ 48 ≤ x ∧ x ≤ 57
section RDL
variable {T i j n : Nat} {s : Nat → Int32} {M W : fM} {c : Int32}
theorem RD.at (h : RD T s M i j) (ht : okT T s) {q : Nat} (hq : q < 1000) : r_X10_at M 277 60 (nI q) = if q < T then s q else 0 := by
  rw [r_X10_at, if_neg (nI_pos (by omega)), h.2.2.1]
  have hT := ht.1
  by_cases hl : q < T
  · rw [if_neg (nI_ge hl (by omega)), if_pos hl, rget_in (by omega) (by decide), show 277 + 1 + 1 = 279 from rfl, h.2.2.2 q hl]
    obtain ⟨x, x1, x2, x3⟩ := ht.2 q hl
    rw [x1]
    exact ch_id (sm_nI (n := x) (b := 128) (by omega) (by decide)) (by decide)
  · rw [if_pos (nI_le (by omega) (by omega)), if_neg hl]
theorem RD.has (h : RD T s M i j) (ht : okT T s) {q : Nat} (hq : q < 1000) (hc : c ≠ 0) : (r_X10_at M 277 60 (nI q) = c) ↔ (q < T ∧ s q = c) := by
  rw [h.at ht hq]
  by_cases hl : q < T
  · rw [if_pos hl]; exact ⟨fun k => ⟨hl, k⟩, fun k => k.2⟩
  · rw [if_neg hl]; exact ⟨fun k => absurd k.symm hc, fun k => absurd k.1 hl⟩
theorem RM.here (h : RM T s W i n) (ht : okT T s) : r_X12_here W = if i < T then s i else -1 := by
  have hT := ht.1
  obtain ⟨⟨h1, h1'⟩, h2, h3, h4⟩ := h
  rw [r_X12_here, h1, h3]
  by_cases hl : i < T
  · rw [if_neg (nI_ge hl (by omega)), if_pos hl, nI_clamp (by omega), h4 i hl]
  · rw [if_pos (nI_le (by omega) (by omega)), if_neg hl]
theorem RM.has (h : RM T s W i n) (ht : okT T s) (hc : c ≠ -1) : (r_X12_here W = c) ↔ (i < T ∧ s i = c) := by
  rw [h.here ht]
  by_cases hl : i < T
  · rw [if_pos hl]; exact ⟨fun k => ⟨hl, k⟩, fun k => k.2⟩
  · rw [if_neg hl]; exact ⟨fun k => absurd k.symm hc, fun k => absurd k.1 hl⟩
theorem RM.Nh (h : RM T s W i n) (ht : okT T s) : N_X12_here W := fun q => by
  have hT := ht.1
  obtain ⟨⟨h1, h1'⟩, h2, h3, h4⟩ := h
  rw [h1, h3] at q
  rw [h1]
  exact vp_in_nI (by have : i < T := Nat.lt_of_not_le fun r => q (nI_le r (by omega)); omega) (by decide)
theorem RD.dig (h : RD T s M i j) (ht : okT T s) (V : fM) {q : Nat} (hq : q < 1000) : r_X1_isDigit V (r_X10_at M 277 60 (nI q)) = exd (digT T s q) := by
  rw [h.at ht hq, r_X1_isDigit]
  by_cases hl : q < T
  · rw [if_pos hl]
    obtain ⟨x, x1, x2, x3⟩ := ht.2 q hl
    rw [x1]
    by_cases h1 : x < 48
    · rw [if_pos (show nI x < (48 : Int32) from nI_lt (b := 48) h1 (by omega)), exd_neg]
      rintro ⟨-, y, y1, y2, y3⟩
      rw [x1] at y1
      have := (nI_eq (by omega) (by omega)).mp y1
      omega
    · rw [if_neg (show ¬ nI x < (48 : Int32) from nI_nlt (b := 48) (by omega) (by omega))]
      by_cases h2 : 57 < x
      · rw [if_pos (show (57 : Int32) < nI x from nI_lt (a := 57) h2 (by omega)), exd_neg]
        rintro ⟨-, y, y1, y2, y3⟩
        rw [x1] at y1
        have := (nI_eq (by omega) (by omega)).mp y1
        omega
      · rw [if_neg (show ¬ (57 : Int32) < nI x from nI_nlt (a := 57) (by omega) (by omega)), exd_pos ⟨hl, x, x1, by omega, by omega⟩]
  · rw [if_neg hl, if_pos (by decide), exd_neg (fun k => hl k.1)]
theorem RM.dig (h : RM T s W i n) (ht : okT T s) (V : fM) : r_X12_in V (r_X12_here W) (48 : Int32) (57 : Int32) = exd (digT T s i) := by
  rw [h.here ht]
  by_cases hl : i < T
  · rw [if_pos hl, in_nI (lo := 48) (n := 57) 48 rfl 57 rfl (by decide) (by decide)]
    by_cases hd : digT T s i
    · rw [exd_pos hd, exd_pos hd.2]
    · rw [exd_neg hd, exd_neg (fun k => hd ⟨hl, k⟩)]
  · rw [if_neg hl, exd_neg (fun k => hl k.1), r_X12_in, if_pos (by decide)]
/-! moves -/
theorem RD.mv (h : RD T s M i j) {p : Nat} (hp : p ≤ T) : RD T s (fst1 M 276 5 (nI p)) p j := ⟨⟨fst1_at _ _ _ _, hp⟩, by rw [fst1_nj (by decide)]; exact h.2.1, by rw [fst1_ne (by decide)]; exact h.2.2.1, fun q hq => by rw [fst1_ne (by decide)]; exact h.2.2.2 q hq⟩
theorem RD.wr (h : RD T s M i j) {b : Nat} {v : Int32} (k : Nat) (hk : k = 281 ∨ k = 283) : RD T s (fst1 M k b v) i j := ⟨⟨by rw [fst1_ne (by omega)]; exact h.1.1, h.1.2⟩, by rw [fst1_ne (by omega)]; exact h.2.1, by rw [fst1_ne (by omega)]; exact h.2.2.1, fun q hq => by rw [fst1_ne (by omega)]; exact h.2.2.2 q hq⟩
theorem RM.mv (h : RM T s W i n) {p : Nat} (hp : p ≤ T) : RM T s (fst1 W 296 16 (nI p)) p n := ⟨⟨fst1_at _ _ _ _, hp⟩, by rw [fst1_nj (by decide)]; exact h.2.1, by rw [fst1_nj (by decide)]; exact h.2.2.1, fun q hq => by rw [fst1_ne (by decide)]; exact h.2.2.2 q hq⟩
theorem RM.wr (h : RM T s W i n) {b : Nat} {v : Int32} : RM T s (fst1 W 305 b v) i n := ⟨⟨by rw [fst1_ne (by decide)]; exact h.1.1, h.1.2⟩, by rw [fst1_ne (by decide)]; exact h.2.1, by rw [fst1_ne (by decide)]; exact h.2.2.1, fun q hq => by rw [fst1_ne (by decide)]; exact h.2.2.2 q hq⟩
theorem RM.sk (h : RM T s W i n) (ht : okT T s) (hc : c ≠ -1) : (r_X12_skips W c = if i < T ∧ s i = c then 1 else 0) ∧ m_X12_skips W c = if i < T ∧ s i = c then fst1 W 296 16 (nI (i + 1)) else W := by
  rw [r_X12_skips, m_X12_skips]
  by_cases hl : i < T ∧ s i = c
  · have := (h.has ht hc).mpr hl
    rw [if_pos this, if_pos this, if_pos hl, if_pos hl, h.1.1, nI_1]
    exact ⟨rfl, rfl⟩
  · have : ¬ r_X12_here W = c := fun q => hl ((h.has ht hc).mp q)
    rw [if_neg this, if_neg this, if_neg hl, if_neg hl]
    exact ⟨rfl, rfl⟩
theorem wordL (ht : okT T s) {a : Int32} {st : Nat} (hL : (fsb st).length ≤ 7) (hz : ∀ q, q < (fsb st).length → (fsb st).getD q 0 ≠ 0 ∧ (fsb st).getD q 0 ≠ -1) : ∀ (m m' q : Nat) (W : fM), q + m = (fsb st).length → m < m' → RM T s W (i + q) n → l_X12_isWord a st W m' q = ((if pfx T s ((fsb st).drop q) (i + q) = m then 1 else 0), fst1 W 296 16 (nI (i + q + pfx T s ((fsb st).drop q) (i + q)))) := by
  intro m
  induction m with
  | zero =>
    intro m' q W h1 h2 h
    obtain ⟨m', rfl⟩ : ∃ q, m' = q + 1 := ⟨m' - 1, by omega⟩
    rw [l_X12_isWord, if_pos (nI_le (by omega) (by omega)), drop_e _ q (by omega), pfx, if_pos rfl, Nat.add_zero, fst1_self h.1.1]
  | succ m ih =>
    intro m' q W h1 h2 h
    obtain ⟨m', rfl⟩ : ∃ q, m' = q + 1 := ⟨m' - 1, by omega⟩
    obtain ⟨z1, z2⟩ := hz q (by omega)
    obtain ⟨k1, k2⟩ := h.sk ht z2
    rw [l_X12_isWord, if_neg (nI_ge (by omega) (by omega)), nI_clamp (by omega), k1, k2, drop_c _ q (by omega), pfx]
    by_cases hh : i + q < T ∧ s (i + q) = (fsb st).getD q 0
    · rw [if_pos hh, if_pos hh, if_pos hh, if_neg z_n1]
      have k := ih m' (q + 1) (fst1 W 296 16 (nI (i + q + 1))) (by omega) (by omega) (h.mv hh.1)
      rw [show i + (q + 1) = i + q + 1 by omega] at k
      rw [k, fst1_2, show i + q + 1 + pfx T s ((fsb st).drop (q + 1)) (i + q + 1) = i + q + (pfx T s ((fsb st).drop (q + 1)) (i + q + 1) + 1) by omega]
      by_cases hm : pfx T s ((fsb st).drop (q + 1)) (i + q + 1) = m
      · rw [if_pos hm, if_pos (by omega)]
      · rw [if_neg hm, if_neg (by omega)]
    · rw [if_neg hh, if_neg hh, if_neg hh, if_pos rfl, if_neg (by omega), Nat.add_zero, fst1_self h.1.1]
theorem sameL (h : RD T s M i j) (ht : okT T s) {st : Nat} (hL : (fsb st).length ≤ 7) (hz : ∀ q, q < (fsb st).length → (fsb st).getD q 0 ≠ 0 ∧ (fsb st).getD q 0 ≠ -1) : ∀ (m m' q : Nat), q + m = (fsb st).length → m < m' → l_X1_sameLetters st M m' q = nI (q + pfx T s ((fsb st).drop q) (i + q)) := by
  have hT := ht.1
  have hi := h.1.2
  intro m
  induction m with
  | zero =>
    intro m' q h1 h2
    obtain ⟨m', rfl⟩ : ∃ q, m' = q + 1 := ⟨m' - 1, by omega⟩
    rw [l_X1_sameLetters, if_pos (nI_le (by omega) (by omega)), drop_e _ q (by omega), pfx, Nat.add_zero, show q = (fsb st).length by omega]
  | succ m ih =>
    intro m' q h1 h2
    obtain ⟨m', rfl⟩ : ∃ q, m' = q + 1 := ⟨m' - 1, by omega⟩
    obtain ⟨z1, z2⟩ := hz q (by omega)
    rw [l_X1_sameLetters, if_neg (nI_ge (by omega) (by omega)), nI_clamp (by omega), h.1.1, nI_add, drop_c _ q (by omega), pfx]
    by_cases hh : i + q < T ∧ s (i + q) = (fsb st).getD q 0
    · rw [if_pos ((h.has ht (by omega) z1).mpr hh), if_pos hh, ih m' (q + 1) (by omega) (by omega), show i + (q + 1) = i + q + 1 by omega, show q + 1 + pfx T s ((fsb st).drop (q + 1)) (i + q + 1) = q + (pfx T s ((fsb st).drop (q + 1)) (i + q + 1) + 1) by omega]
    · rw [if_neg (fun k => hh ((h.has ht (by omega) z1).mp k)), if_neg hh, Nat.add_zero]
theorem fsb_ok : ∀ k, k < 12 → (fsb (4096 + k)).length ≤ 7 ∧ ∀ q, q < (fsb (4096 + k)).length → (fsb (4096 + k)).getD q 0 ≠ 0 ∧ (fsb (4096 + k)).getD q 0 ≠ -1 := by decide +kernel
theorem RM.word (h : RM T s W i n) (ht : okT T s) (a : Int32) {k : Nat} (hk : k < 12) (hn : n < 100) : (r_X12_isWord W a (4096 + k) = if pfx T s (fsb (4096 + k)) i = (fsb (4096 + k)).length then 1 else 0) ∧ m_X12_isWord W a (4096 + k) = fst1 (fst1 W 305 (5 * n) a) 296 16 (nI (i + pfx T s (fsb (4096 + k)) i)) := by
  obtain ⟨l1, l2⟩ := fsb_ok k hk
  have e5 : ((5 : Int32) * W 296 18).toNatClampNeg = 5 * n := by rw [h.2.1, show (5 : Int32) = nI 5 from rfl, pk_mul, nI_clamp (by omega)]
  have k := wordL (i := i) (n := n) ht (a := a) l1 l2 (fsb (4096 + k)).length 8 0 (fst1 W 305 (5 * n) a) (by omega) (by omega) h.wr
  simp only [Nat.add_zero, List.drop_zero] at k
  rw [r_X12_isWord, m_X12_isWord, e5, k]
  simp only [and_self]
theorem RD.same (h : RD T s M i j) (ht : okT T s) {k : Nat} (hk : k < 12) : r_X1_sameLetters M (4096 + k) = nI (pfx T s (fsb (4096 + k)) i) := by
  obtain ⟨l1, l2⟩ := fsb_ok k hk
  have k := sameL h ht l1 l2 (fsb (4096 + k)).length 8 0 (by omega) (by omega)
  rw [Nat.zero_add] at k
  exact k
theorem kindL (h : RD T s M i j) (ht : okT T s) : ∀ (m q v : Nat), q + m = 7 → q ≤ 6 → v ≤ 7 → (∃ k, q ≤ k ∧ k < 6 ∧ pfx T s (fsb (4096 + k)) i = (fsb (4096 + k)).length ∧ (∀ k', q ≤ k' → k' < k → pfx T s (fsb (4096 + k')) i ≠ (fsb (4096 + k')).length) ∧ l_X1_readKind M m q (nI v) = (nI k, fst1 M 276 5 (nI (i + (fsb (4096 + k)).length)))) ∨ ((∀ k, q ≤ k → k < 6 → pfx T s (fsb (4096 + k)) i ≠ (fsb (4096 + k)).length) ∧ ∃ w, v ≤ w ∧ (∀ k, q ≤ k → k < 6 → pfx T s (fsb (4096 + k)) i ≤ w) ∧ (w = v ∨ ∃ k, q ≤ k ∧ k < 6 ∧ w = pfx T s (fsb (4096 + k)) i) ∧ l_X1_readKind M m q (nI v) = (-1, fst1 M 276 5 (nI (i + w)))) := by
  have hT := ht.1
  have hi := h.1.2
  intro m
  induction m with
  | zero => intro q v h1 h2; omega
  | succ m ih =>
    intro q v h1 h2 h3
    by_cases hq : q = 6
    · subst hq
      refine Or.inr ⟨fun k k1 k2 => by omega, v, Nat.le_refl _, fun k k1 k2 => by omega, Or.inl rfl, ?_⟩
      rw [l_X1_readKind, if_pos (show (6 : Int32) ≤ nI 6 by decide), h.1.1, nI_add]
    · obtain ⟨l1, l2⟩ := fsb_ok q (by omega)
      have hp := pfx_le (T := T) (s := s) (fsb (4096 + q)) i
      rw [l_X1_readKind, if_neg (show ¬ (6 : Int32) ≤ nI q from nI_ge (b := 6) (by omega) (by omega)), h.same ht (by omega)]
      by_cases he : pfx T s (fsb (4096 + q)) i = (fsb (4096 + q)).length
      · rw [if_pos (by rw [he])]
        refine Or.inl ⟨q, Nat.le_refl _, by omega, he, fun k' k1 k2 => by omega, ?_⟩
        rw [h.1.1, nI_add, he]
      · rw [if_neg (fun k => he ((nI_eq (by omega) (by omega)).mp k))]
        have em : (if nI v < nI (pfx T s (fsb (4096 + q)) i) then nI (pfx T s (fsb (4096 + q)) i) else nI v) = nI (max v (pfx T s (fsb (4096 + q)) i)) := by
          by_cases hv : v < pfx T s (fsb (4096 + q)) i
          · rw [if_pos (nI_lt hv (by omega)), Nat.max_eq_right (by omega)]
          · rw [if_neg (nI_nlt (by omega) (by omega)), Nat.max_eq_left (by omega)]
        rw [em]
        rcases ih (q + 1) (max v (pfx T s (fsb (4096 + q)) i)) (by omega) (by omega) (by omega) with ⟨k, k1, k2, k3, k4, k5⟩ | ⟨k1, w, k2, k3, k4, k5⟩
        · refine Or.inl ⟨k, by omega, k2, k3, fun k' a1 a2 => ?_, k5⟩
          by_cases e : k' = q
          · subst e; exact he
          · exact k4 k' (by omega) a2
        · refine Or.inr ⟨fun k a1 a2 => ?_, w, by omega, fun k a1 a2 => ?_, ?_, k5⟩
          · by_cases e : k = q
            · subst e; exact he
            · exact k1 k (by omega) a2
          · by_cases e : k = q
            · subst e; omega
            · exact k3 k (by omega) a2
          · rcases k4 with e | ⟨k, a1, a2, a3⟩
            · by_cases hv : v < pfx T s (fsb (4096 + q)) i
              · exact Or.inr ⟨q, by omega, by omega, by omega⟩
              · exact Or.inl (by omega)
            · exact Or.inr ⟨k, by omega, a2, a3⟩
end RDL
