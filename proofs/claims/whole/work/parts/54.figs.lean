/-! ===== figures ===== -/
def FC (M m : fM) : Prop := (∀ q, q ≠ 276 → q ≠ 283 → m q = M q) ∧ ∀ b, b ≠ 5 → m 276 b = M 276 b
def FM (W m : fM) : Prop := (∀ q, q ≠ 296 → q ≠ 305 → m q = W q) ∧ ∀ b, b ≠ 16 → m 296 b = W 296 b
theorem FC.rf {M : fM} : FC M M := ⟨fun _ _ _ => rfl, fun _ _ => rfl⟩
theorem FM.rf {M : fM} : FM M M := ⟨fun _ _ _ => rfl, fun _ _ => rfl⟩
theorem FC.tr {M m k : fM} (h : FC M m) (h2 : FC m k) : FC M k := ⟨fun q a b => (h2.1 q a b).trans (h.1 q a b), fun b hb => (h2.2 b hb).trans (h.2 b hb)⟩
theorem FM.tr {M m k : fM} (h : FM M m) (h2 : FM m k) : FM M k := ⟨fun q a b => (h2.1 q a b).trans (h.1 q a b), fun b hb => (h2.2 b hb).trans (h.2 b hb)⟩
theorem FC.mv {M : fM} {x : Int32} : FC M (fst1 M 276 5 x) := ⟨fun q a b => fst1_ne a, fun b hb => fst1_nj hb⟩
theorem FC.wr {M : fM} {b : Nat} {x : Int32} : FC M (fst1 M 283 b x) := ⟨fun q _ b => fst1_ne b, fun b _ => by rw [fst1_ne (by decide)]⟩
theorem FM.mv {M : fM} {x : Int32} : FM M (fst1 M 296 16 x) := ⟨fun q a b => fst1_ne a, fun b hb => fst1_nj hb⟩
theorem FM.wr {M : fM} {b : Nat} {x : Int32} : FM M (fst1 M 305 b x) := ⟨fun q _ b => fst1_ne b, fun b _ => by rw [fst1_ne (by decide)]⟩
section FIGS
variable {T i j n : Nat} {s : Nat → Int32} {M W : fM} {c : Int32}
theorem c_dig (h : RD T s M i j) (ht : okT T s) (hj : j < 20) {a : Nat} (ha : a < 4) : (¬ (i < T ∧ s i = 32) ∧ r_X1_readDigit M (nI a) = 0 ∧ m_X1_readDigit M (nI a) = M) ∨ ((i < T ∧ s i = 32) ∧ ¬ digT T s (i + 1) ∧ r_X1_readDigit M (nI a) = 0 ∧ m_X1_readDigit M (nI a) = fst1 M 276 5 (nI (i + 1))) ∨ ((i < T ∧ s i = 32) ∧ digT T s (i + 1) ∧ r_X1_readDigit M (nI a) = 1 ∧ m_X1_readDigit M (nI a) = fst1 (fst1 (fst1 M 276 5 (nI (i + 1))) 283 (4 * j + a) (s (i + 1) - 48)) 276 5 (nI (i + 2))) := by
  have hT := ht.1
  have hi := h.1.2
  rw [r_X1_readDigit, m_X1_readDigit, h.1.1]
  by_cases h1 : i < T ∧ s i = 32
  · have e1 : r_X10_at M 277 60 (nI i) = 32 := (h.has ht (by omega) (by decide)).mpr h1
    have hU := h.mv (p := i + 1) h1.1
    rw [if_pos e1, if_pos e1, nI_1, fst1_at, hU.dig ht _ (by omega)]
    by_cases h2 : digT T s (i + 1)
    · have e2 : r_X10_at (fst1 M 276 5 (nI (i + 1))) 277 60 (nI (i + 1)) = s (i + 1) := by rw [hU.at ht (by omega), if_pos h2.1]
      rw [exd_pos h2, if_neg z_n1, if_neg z_n1, e2, m_X1_keepArgument, hU.2.1, show (4 : Int32) = nI 4 from rfl, pk_mul, nI_add, show j * 4 + a = 4 * j + a by omega, rset_in (by omega) (by decide), show 282 + 1 = 283 from rfl, fst1_ne (show 276 ≠ 283 by decide), fst1_at, nI_1]
      exact Or.inr (Or.inr ⟨h1, h2, rfl, rfl⟩)
    · rw [exd_neg h2, if_pos rfl, if_pos rfl]
      exact Or.inr (Or.inl ⟨h1, h2, rfl, rfl⟩)
  · have e1 : ¬ r_X10_at M 277 60 (nI i) = 32 := fun q => h1 ((h.has ht (by omega) (by decide)).mp q)
    rw [if_neg e1, if_neg e1]
    exact Or.inl ⟨h1, rfl, rfl⟩
/-- the model's places -/
theorem m_figS (h : RM T s W i n) (ht : okT T s) {pl : Nat} (hp : pl < 155) (hd : digT T s i) {v : Int32} (hv : W 305 pl = v) : a0_X12_figures W (nI pl) = fst1 (fst1 W 305 pl (((10 : Int32) * v + s i) - 48)) 296 16 (nI (i + 1)) := by
  rw [a0_X12_figures, nI_clamp (by omega), hv, h.here ht, if_pos hd.1, fst1_ne (show 296 ≠ 305 by decide), h.1.1, nI_1]
theorem m_fig (h : RM T s W i n) (ht : okT T s) {pl d : Nat} (hp : pl < 155) (hd : d = 1 ∨ d = 2) : (¬ (i < T ∧ s i = 32) ∧ r_X12_figures W (nI pl) (nI d) = 0 ∧ m_X12_figures W (nI pl) (nI d) = W) ∨ ((i < T ∧ s i = 32) ∧ ¬ digT T s (i + 1) ∧ r_X12_figures W (nI pl) (nI d) = 0 ∧ m_X12_figures W (nI pl) (nI d) = fst1 W 296 16 (nI (i + 1))) ∨ ((i < T ∧ s i = 32) ∧ digT T s (i + 1) ∧ r_X12_figures W (nI pl) (nI d) = 1 ∧ m_X12_figures W (nI pl) (nI d) = (if d = 2 ∧ exd (digT T s (i + 2)) = 1 then fst1 (fst1 (fst1 (fst1 (fst1 (fst1 W 296 16 (nI (i + 1))) 305 pl 0) 305 pl (((10 : Int32) * 0 + s (i + 1)) - 48)) 296 16 (nI (i + 2))) 305 pl (((10 : Int32) * (((10 : Int32) * 0 + s (i + 1)) - 48) + s (i + 2)) - 48)) 296 16 (nI (i + 3)) else fst1 (fst1 (fst1 (fst1 W 296 16 (nI (i + 1))) 305 pl 0) 305 pl (((10 : Int32) * 0 + s (i + 1)) - 48)) 296 16 (nI (i + 2)))) := by
  obtain ⟨k1, k2⟩ := h.sk ht (c := 32) (by decide)
  rw [r_X12_figures, m_X12_figures, k1, k2, nI_clamp (by omega)]
  by_cases h1 : i < T ∧ s i = 32
  · have hU := h.mv (p := i + 1) h1.1
    rw [if_pos h1, if_pos h1, if_neg z_n1, if_neg z_n1, hU.dig ht]
    by_cases h2 : digT T s (i + 1)
    · rw [exd_pos h2, if_neg z_n1, if_neg z_n1]
      refine Or.inr (Or.inr ⟨h1, h2, rfl, ?_⟩)
      have hV : RM T s (fst1 (fst1 W 296 16 (nI (i + 1))) 305 pl 0) (i + 1) n := hU.wr
      have hd0 : ¬ nI d ≤ nI 0 := nI_ge (by omega) (by omega)
      have x1 := m_figS hV ht hp h2 (fst1_at _ _ _ _)
      have hX : RM T s (fst1 (fst1 (fst1 (fst1 W 296 16 (nI (i + 1))) 305 pl 0) 305 pl (((10 : Int32) * 0 + s (i + 1)) - 48)) 296 16 (nI (i + 2))) (i + 2) n := hV.wr.mv h2.1
      rw [l_X12_figuresL, if_neg hd0, hV.dig ht, exd_pos h2, if_neg z_n1, x1, l_X12_figuresL]
      rcases hd with rfl | rfl
      · rw [if_pos (show nI 1 ≤ nI (0 + 1) by decide), if_neg (fun q => absurd q.1 (by decide))]
      · rw [if_neg (show ¬ nI 2 ≤ nI (0 + 1) by decide), hX.dig ht]
        by_cases h3 : digT T s (i + 2)
        · have x2 := m_figS hX ht hp h3 (v := ((10 : Int32) * 0 + s (i + 1)) - 48) (by rw [fst1_ne (by decide), fst1_at])
          rw [exd_pos h3, if_neg z_n1, if_pos ⟨rfl, rfl⟩, x2, l_X12_figuresL, if_pos (show nI 2 ≤ nI (0 + 1 + 1) by decide)]
        · rw [exd_neg h3, if_pos rfl, if_neg (fun q => absurd q.2 (by decide))]
    · rw [exd_neg h2, if_pos rfl, if_pos rfl]
      exact Or.inr (Or.inl ⟨h1, h2, rfl, rfl⟩)
  · rw [if_neg h1, if_neg h1, if_pos rfl, if_pos rfl]
    exact Or.inl ⟨h1, rfl, rfl⟩
/-! the model's checks, whatever the text -/
def RMw (T : Nat) (s : Nat → Int32) (n : Nat) (W : fM) : Prop := ∃ i, RM T s W i n
theorem RMw.sk (h : RMw T s n W) (ht : okT T s) (hc : c ≠ -1) : RMw T s n (m_X12_skips W c) := by
  obtain ⟨i, h⟩ := h
  rw [(h.sk ht hc).2]
  by_cases h1 : i < T ∧ s i = c
  · rw [if_pos h1]; exact ⟨_, h.mv h1.1⟩
  · rw [if_neg h1]; exact ⟨_, h⟩
theorem RMw.word (h : RMw T s n W) (ht : okT T s) (a : Int32) {k : Nat} (hk : k < 12) (hn : n < 100) : RMw T s n (m_X12_isWord W a (4096 + k)) := by
  obtain ⟨i, h⟩ := h
  rw [(h.word ht a hk hn).2]
  exact ⟨_, h.wr.mv (pfx_T _ _ h.1.2)⟩
theorem RMw.fig (h : RMw T s n W) (ht : okT T s) {pl d : Nat} (hp : pl < 155) (hd : d = 1 ∨ d = 2) : RMw T s n (m_X12_figures W (nI pl) (nI d)) := by
  obtain ⟨i, h⟩ := h
  rcases m_fig h ht hp hd with ⟨-, -, e⟩ | ⟨h1, -, -, e⟩ | ⟨h1, h2, -, e⟩
  · rw [e]; exact ⟨_, h⟩
  · rw [e]; exact ⟨_, h.mv h1.1⟩
  · rw [e]
    by_cases h3 : d = 2 ∧ exd (digT T s (i + 2)) = 1
    · rw [if_pos h3]
      have h4 : digT T s (i + 2) := by
        by_cases q : digT T s (i + 2)
        · exact q
        · rw [exd_neg q] at h3; exact absurd h3.2 (by decide)
      exact ⟨_, ((((h.mv h1.1).wr).wr.mv h2.1).wr).mv h4.1⟩
    · rw [if_neg h3]; exact ⟨_, ((h.mv h1.1).wr).wr.mv h2.1⟩
theorem RMw.Nh (h : RMw T s n W) (ht : okT T s) : N_X12_here W := by
  obtain ⟨i, h⟩ := h
  exact h.Nh ht
theorem getD_hi : ∀ (L : List Int32) (q : Nat), L.length ≤ q → L.getD q 0 = 0
  | [], _, _ => rfl
  | x :: L, 0, h => by cases h
  | x :: L, q + 1, h => getD_hi L q (Nat.le_of_succ_le_succ h)
theorem fsb_n1 {k : Nat} (hk : k < 12) (q : Nat) : (fsb (4096 + k)).getD q 0 ≠ -1 := by
  by_cases h : q < (fsb (4096 + k)).length
  · exact ((fsb_ok k hk).2 q h).2
  · rw [getD_hi _ _ (Nat.le_of_not_lt h)]; decide
theorem RMw.Nword (h : RMw T s n W) (ht : okT T s) (a : Int32) {k : Nat} (hk : k < 12) (hn : n < 31) : N_X12_isWord W a (4096 + k) := by
  have h0 := h
  obtain ⟨i, h⟩ := h
  refine ⟨⟨fun _ V => RMw T s n V, ⟨i, h.wr⟩, fun q V h1 _ => h1.Nh ht, fun q V h1 _ _ => h1.sk ht (fsb_n1 hk _)⟩, ?_⟩
  rw [h.2.1, show (5 : Int32) = nI 5 from rfl, pk_mul]
  exact vp_in_nI (by omega) (by decide)
theorem RMw.Nfig (h : RMw T s n W) (ht : okT T s) {pl d : Nat} (hp : pl < 155) (hd : d = 1 ∨ d = 2) : N_X12_figures W (nI pl) (nI d) := by
  have hs := h.sk (c := 32) ht (by decide)
  have hv : vp_in (nI pl) 155 := vp_in_nI hp (by decide)
  refine ⟨h.Nh ht, fun _ => hs.Nh ht, fun _ _ => hv, fun _ _ => ⟨fun _ V => RMw T s n V, ?_, fun q V _ h1 _ => h1.Nh ht, fun q V h0 _ h1 _ => ?_, fun q V _ _ _ _ => hv, fun q V _ h1 _ _ => h1.Nh ht, fun q V _ h1 _ h2 => ?_⟩⟩
  · obtain ⟨i, hs⟩ := hs
    exact ⟨i, hs.wr⟩
  · have : q < d := Nat.lt_of_not_le fun k => h1 (nI_le k (by omega))
    omega
  · obtain ⟨p, h1⟩ := h1
    rw [h1.dig ht] at h2
    by_cases hg : digT T s p
    · rw [m_figS h1 ht hp hg rfl]
      exact ⟨_, h1.wr.mv hg.1⟩
    · exact absurd (exd_neg hg) h2
/-! both sides -/
/-- what reading a number does on both sides -/
def FR (T : Nat) (s : Nat → Int32) (M W : fM) (i j n a pl : Nat) (rC : Int32) (mC : fM) (rW : Int32) (mW : fM) : Prop := ∃ p, RD T s mC p j ∧ RM T s mW p n ∧ FC M mC ∧ FM W mW ∧ ((rC = 0 ∧ rW = 0) ∨ (rC = 1 ∧ rW = 1 ∧ i + 2 ≤ p ∧ ∃ v, sm v 100 ∧ mC 283 = up (M 283) (4 * j + a) v ∧ mW 305 = up (W 305) pl v))
theorem row_up {M : fM} {k b : Nat} {x : Int32} : fst1 M k b x k = up (M k) b x := by
  rw [up1 rfl, fsr_at]
theorem up_up {f : Nat → Int32} {b : Nat} {x y : Int32} : up (up f b x) b y = up f b y := by
  funext q
  by_cases h : q = b
  · rw [up_at h, up_at h]
  · rw [up_ne h, up_ne h, up_ne h]
theorem dig_v (h : digT T s i) : ∃ x, s i = nI (x + 48) ∧ x ≤ 9 := by
  obtain ⟨-, x, x1, x2, x3⟩ := h
  exact ⟨x - 48, by rw [x1, show x - 48 + 48 = x by omega], by omega⟩
theorem both1 (h : RD T s M i j) (hW : RM T s W i n) (ht : okT T s) (hj : j < 20) {a pl : Nat} (ha : a < 4) (hp : pl < 155) : FR T s M W i j n a pl (r_X1_readDigit M (nI a)) (m_X1_readDigit M (nI a)) (r_X12_figures W (nI pl) (nI 1)) (m_X12_figures W (nI pl) (nI 1)) := by
  rcases c_dig h ht hj ha with ⟨a1, a2, a3⟩ | ⟨a1, a2, a3, a4⟩ | ⟨a1, a2, a3, a4⟩ <;> rcases m_fig hW ht hp (Or.inl rfl) with ⟨b1, b2, b3⟩ | ⟨b1, b2, b3, b4⟩ | ⟨b1, b2, b3, b4⟩
  · exact ⟨i, by rw [a3]; exact h, by rw [b3]; exact hW, by rw [a3]; exact FC.rf, by rw [b3]; exact FM.rf, Or.inl ⟨a2, b2⟩⟩
  · exact absurd b1 a1
  · exact absurd b1 a1
  · exact absurd a1 b1
  · exact ⟨i + 1, by rw [a4]; exact h.mv a1.1, by rw [b4]; exact hW.mv a1.1, by rw [a4]; exact FC.mv, by rw [b4]; exact FM.mv, Or.inl ⟨a3, b3⟩⟩
  · exact absurd b2 a2
  · exact absurd a1 b1
  · exact absurd a2 b2
  · rw [if_neg (fun q => absurd q.1 (by decide))] at b4
    obtain ⟨x, x1, x2⟩ := dig_v a2
    have ev : (10 : Int32) * 0 + s (i + 1) - 48 = s (i + 1) - 48 := by rw [show (10 : Int32) * 0 = 0 from rfl, Int32.zero_add]
    refine ⟨i + 2, by rw [a4]; exact ((h.mv a1.1).wr 283 (Or.inr rfl)).mv a2.1, by rw [b4]; exact ((hW.mv a1.1).wr).wr.mv a2.1, by rw [a4]; exact (FC.mv.tr FC.wr).tr FC.mv, by rw [b4]; exact ((FM.mv.tr FM.wr).tr FM.wr).tr FM.mv, Or.inr ⟨a3, b3, Nat.le_refl _, s (i + 1) - 48, ?_, ?_, ?_⟩⟩
    · rw [x1, show (48 : Int32) = nI 48 from rfl, pk_sub (by omega), show x + 48 - 48 = x by omega]
      exact sm_nI (by omega) (by decide)
    · rw [a4, fst1_ne (by decide), row_up, fst1_ne (by decide)]
    · rw [b4, fst1_ne (by decide), row_up, row_up, fst1_ne (by decide), up_up, ev]
theorem c_num (h : RD T s M i j) (ht : okT T s) (hj : j < 20) {a : Nat} (ha : a < 4) : (r_X1_readDigit M (nI a) = 0 → r_X1_readNumber M (nI a) = 0 ∧ m_X1_readNumber M (nI a) = m_X1_readDigit M (nI a)) ∧ ((i < T ∧ s i = 32) → digT T s (i + 1) → r_X1_readDigit M (nI a) = 1 → m_X1_readDigit M (nI a) = fst1 (fst1 (fst1 M 276 5 (nI (i + 1))) 283 (4 * j + a) (s (i + 1) - 48)) 276 5 (nI (i + 2)) → r_X1_readNumber M (nI a) = 1 ∧ m_X1_readNumber M (nI a) = if exd (digT T s (i + 2)) = 1 then fst1 (fst1 (m_X1_readDigit M (nI a)) 283 (4 * j + a) ((s (i + 1) - 48) * 10 + s (i + 2) - 48)) 276 5 (nI (i + 3)) else m_X1_readDigit M (nI a)) := by
  have hT := ht.1
  refine ⟨fun q => by rw [r_X1_readNumber, m_X1_readNumber, if_pos q, if_pos q]; exact ⟨rfl, rfl⟩, fun h1 h2 q e => ?_⟩
  have hU : RD T s (m_X1_readDigit M (nI a)) (i + 2) j := by rw [e]; exact ((h.mv h1.1).wr 283 (Or.inr rfl)).mv h2.1
  have ea : m_X1_readDigit M (nI a) 283 (4 * j + a) = s (i + 1) - 48 := by rw [e, fst1_ne (by decide), fst1_at]
  have q0 : ¬ r_X1_readDigit M (nI a) = 0 := by rw [q]; exact z_n1
  have hl : i + 1 < T := h2.1
  rw [r_X1_readNumber, m_X1_readNumber, if_neg q0, if_neg q0]
  generalize m_X1_readDigit M (nI a) = U at hU ea ⊢
  rw [hU.1.1, hU.dig ht U (by omega)]
  by_cases h3 : digT T s (i + 2)
  · have e2 : r_X10_at U 277 60 (nI (i + 2)) = s (i + 2) := by rw [hU.at ht (by omega), if_pos h3.1]
    have e3 : r_X1_argument U (U 276 4) (nI a) = s (i + 1) - 48 := by
      rw [r_X1_argument, hU.2.1, show (4 : Int32) = nI 4 from rfl, pk_mul, nI_add, show j * 4 + a = 4 * j + a by omega, rget_in (by omega) (by decide)]
      exact ea
    rw [exd_pos h3, if_neg z_n1, if_neg z_n1, if_pos rfl, e2, e3, m_X1_keepArgument, hU.2.1, show (4 : Int32) = nI 4 from rfl, pk_mul, nI_add, show j * 4 + a = 4 * j + a by omega, rset_in (by omega) (by decide), show 282 + 1 = 283 from rfl, fst1_ne (show 276 ≠ 283 by decide), hU.1.1, nI_1]
    exact ⟨rfl, rfl⟩
  · rw [exd_neg h3, if_pos rfl, if_pos rfl, if_neg (by decide)]
    exact ⟨rfl, rfl⟩
theorem both2 (h : RD T s M i j) (hW : RM T s W i n) (ht : okT T s) (hj : j < 20) {a pl : Nat} (ha : a < 4) (hp : pl < 155) : FR T s M W i j n a pl (r_X1_readNumber M (nI a)) (m_X1_readNumber M (nI a)) (r_X12_figures W (nI pl) (nI 2)) (m_X12_figures W (nI pl) (nI 2)) := by
  obtain ⟨n0, n1⟩ := c_num h ht hj ha
  rcases c_dig h ht hj ha with ⟨a1, a2, a3⟩ | ⟨a1, a2, a3, a4⟩ | ⟨a1, a2, a3, a4⟩ <;> rcases m_fig hW ht hp (Or.inr rfl) with ⟨b1, b2, b3⟩ | ⟨b1, b2, b3, b4⟩ | ⟨b1, b2, b3, b4⟩
  · obtain ⟨c1, c2⟩ := n0 a2
    rw [a3] at c2
    exact ⟨i, by rw [c2]; exact h, by rw [b3]; exact hW, by rw [c2]; exact FC.rf, by rw [b3]; exact FM.rf, Or.inl ⟨c1, b2⟩⟩
  · exact absurd b1 a1
  · exact absurd b1 a1
  · exact absurd a1 b1
  · obtain ⟨c1, c2⟩ := n0 a3
    rw [a4] at c2
    exact ⟨i + 1, by rw [c2]; exact h.mv a1.1, by rw [b4]; exact hW.mv a1.1, by rw [c2]; exact FC.mv, by rw [b4]; exact FM.mv, Or.inl ⟨c1, b3⟩⟩
  · exact absurd b2 a2
  · exact absurd a1 b1
  · exact absurd a2 b2
  · obtain ⟨c1, c2⟩ := n1 a1 a2 a3 a4
    rw [a4] at c2
    obtain ⟨x, x1, x2⟩ := dig_v a2
    have e1 : s (i + 1) - 48 = nI x := by rw [x1, show (48 : Int32) = nI 48 from rfl, pk_sub (by omega), show x + 48 - 48 = x by omega]
    have ev : (10 : Int32) * 0 + s (i + 1) - 48 = s (i + 1) - 48 := by rw [show (10 : Int32) * 0 = 0 from rfl, Int32.zero_add]
    by_cases h3 : digT T s (i + 2)
    · obtain ⟨y, y1, y2⟩ := dig_v h3
      rw [exd_pos h3, if_pos rfl] at c2
      rw [exd_pos h3, if_pos ⟨rfl, rfl⟩] at b4
      have ec : (s (i + 1) - 48) * 10 + s (i + 2) - 48 = nI (x * 10 + y) := by
        rw [e1, y1, show (10 : Int32) = nI 10 from rfl, pk_mul, nI_add, show (48 : Int32) = nI 48 from rfl, pk_sub (by omega), show x * 10 + (y + 48) - 48 = x * 10 + y by omega]
      have ew : (10 : Int32) * ((10 : Int32) * 0 + s (i + 1) - 48) + s (i + 2) - 48 = nI (x * 10 + y) := by
        rw [ev, e1, y1, show (10 : Int32) = nI 10 from rfl, pk_mul, nI_add, show (48 : Int32) = nI 48 from rfl, pk_sub (by omega), show 10 * x + (y + 48) - 48 = x * 10 + y by omega]
      refine ⟨i + 3, by rw [c2]; exact ((((h.mv a1.1).wr 283 (Or.inr rfl)).mv a2.1).wr 283 (Or.inr rfl)).mv h3.1, by rw [b4]; exact ((((hW.mv a1.1).wr).wr.mv a2.1).wr).mv h3.1, by rw [c2]; exact (((FC.mv.tr FC.wr).tr FC.mv).tr FC.wr).tr FC.mv, by rw [b4]; exact ((((FM.mv.tr FM.wr).tr FM.wr).tr FM.mv).tr FM.wr).tr FM.mv, Or.inr ⟨c1, b3, by omega, nI (x * 10 + y), sm_nI (by omega) (by decide), ?_, ?_⟩⟩
      · rw [c2, fst1_ne (by decide), row_up, fst1_ne (by decide), row_up, fst1_ne (by decide), up_up, ec]
      · rw [b4, fst1_ne (by decide), row_up, fst1_ne (by decide), row_up, row_up, fst1_ne (by decide), up_up, up_up, ew]
    · rw [exd_neg h3, if_neg (by decide)] at c2
      rw [exd_neg h3, if_neg (fun q => absurd q.2 (by decide))] at b4
      refine ⟨i + 2, by rw [c2]; exact ((h.mv a1.1).wr 283 (Or.inr rfl)).mv a2.1, by rw [b4]; exact ((hW.mv a1.1).wr).wr.mv a2.1, by rw [c2]; exact (FC.mv.tr FC.wr).tr FC.mv, by rw [b4]; exact ((FM.mv.tr FM.wr).tr FM.wr).tr FM.mv, Or.inr ⟨c1, b3, Nat.le_refl _, s (i + 1) - 48, by rw [e1]; exact sm_nI (by omega) (by decide), ?_, ?_⟩⟩
      · rw [c2, fst1_ne (by decide), row_up, fst1_ne (by decide)]
      · rw [b4, fst1_ne (by decide), row_up, row_up, fst1_ne (by decide), up_up, ev]
end FIGS
