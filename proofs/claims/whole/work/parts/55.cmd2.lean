/-! ===== a command on both sides ===== -/
def ar (K : Nat) : Nat := match K with | 0 => 0 | 1 => 2 | 2 => 4 | _ => 1
theorem fsb_c : fsb (4096 + 0) = 114 :: 97 :: fsb (4096 + 9) ∧ fsb (4096 + 1) = 109 :: fsb (4096 + 6) ∧ fsb (4096 + 2) = 102 :: fsb (4096 + 7) ∧ fsb (4096 + 3) = 115 :: fsb (4096 + 8) ∧ fsb (4096 + 4) = 100 :: fsb (4096 + 11) ∧ fsb (4096 + 5) = 114 :: fsb (4096 + 10) := by decide +kernel
theorem fsb_e : ∃ L, fsb (4096 + 10) = 101 :: L := ⟨[99, 97, 108, 108], by decide +kernel⟩
theorem fsb_l : ((fsb (4096 + 6)).length = 2 ∧ (fsb (4096 + 7)).length = 3 ∧ (fsb (4096 + 8)).length = 3) ∧ (fsb (4096 + 9)).length = 1 ∧ (fsb (4096 + 10)).length = 5 ∧ (fsb (4096 + 11)).length = 2 := by decide +kernel
theorem fsb_l0 : ∀ k, k < 6 → 3 ≤ (fsb (4096 + k)).length := by decide +kernel
def FC2 (M m : fM) : Prop := (∀ q, q ≠ 276 → q ≠ 281 → q ≠ 283 → m q = M q) ∧ ∀ b, b ≠ 5 → m 276 b = M 276 b
theorem FC2.tr {M m k : fM} (h : FC2 M m) (h2 : FC m k) : FC2 M k := ⟨fun q a b c => (h2.1 q a c).trans (h.1 q a b c), fun b hb => (h2.2 b hb).trans (h.2 b hb)⟩
def CR (T : Nat) (s : Nat → Int32) (M W : fM) (i j : Nat) (rC : Int32) (mC : fM) (rW : Int32) (mW : fM) : Prop := ∃ p, RD T s mC p j ∧ RM T s mW p j ∧ FC2 M mC ∧ FM W mW ∧ ((rC = 0 ∧ rW = 0) ∨ (rC = 1 ∧ rW = 1 ∧ i + 3 ≤ p ∧ ∃ K, K < 6 ∧ mC 281 j = nI K ∧ mW 305 (5 * j) = nI K ∧ (∀ t, t < ar K → sm (mC 283 (4 * j + t)) 100 ∧ mW 305 (5 * j + 1 + t) = mC 283 (4 * j + t)) ∧ (∀ b, b ≠ j → mC 281 b = M 281 b) ∧ (∀ b, b < 4 * j → mC 283 b = M 283 b) ∧ ∀ b, b < 5 * j → mW 305 b = W 305 b))
/-- the kind is read -/
def KS (T : Nat) (s : Nat → Int32) (M W Z Y : fM) (i j p K : Nat) : Prop := (RD T s Z p j ∧ RM T s Y p j ∧ i + 3 ≤ p) ∧ FC2 M Z ∧ FM W Y ∧ Z 281 = up (M 281) j (nI K) ∧ Z 283 = M 283 ∧ Y 305 = up (W 305) (5 * j) (nI K)
section CMD
variable {T i j : Nat} {s : Nat → Int32} {M W : fM}
theorem kone (h : RD T s M i j) (ht : okT T s) {k0 : Nat} (hk : k0 < 6) (h0 : ∀ k, k < 6 → k ≠ k0 → pfx T s (fsb (4096 + k)) i ≠ (fsb (4096 + k)).length ∧ pfx T s (fsb (4096 + k)) i ≤ pfx T s (fsb (4096 + k0)) i) : (pfx T s (fsb (4096 + k0)) i = (fsb (4096 + k0)).length ∧ r_X1_readKind M = nI k0 ∧ m_X1_readKind M = fst1 M 276 5 (nI (i + (fsb (4096 + k0)).length))) ∨ (pfx T s (fsb (4096 + k0)) i ≠ (fsb (4096 + k0)).length ∧ r_X1_readKind M = -1 ∧ m_X1_readKind M = fst1 M 276 5 (nI (i + pfx T s (fsb (4096 + k0)) i))) := by
  have k := kindL h ht 7 0 0 (by omega) (by omega) (by omega)
  rw [r_X1_readKind, m_X1_readKind]
  rcases k with ⟨k, k1, k2, k3, k4, k5⟩ | ⟨k1, w, k2, k3, k4, k5⟩
  · have : k = k0 := Classical.byContradiction fun q => (h0 k k2 q).1 k3
    subst this
    have k5 : l_X1_readKind M 7 0 0 = _ := k5
    rw [k5]
    exact Or.inl ⟨k3, rfl, rfl⟩
  · have k5 : l_X1_readKind M 7 0 0 = _ := k5
    rw [k5]
    have hw : w = pfx T s (fsb (4096 + k0)) i := by
      have h1 := k3 k0 (Nat.zero_le _) hk
      rcases k4 with e | ⟨k, a1, a2, a3⟩
      · omega
      · by_cases q : k = k0
        · rw [← q]; exact a3
        · have := (h0 k a2 q).2; omega
    rw [hw]
    exact Or.inr ⟨k1 k0 (Nat.zero_le _) hk, rfl, rfl⟩
/-- no command there -/
theorem CR_bad (h : RD T s M i j) (hj : j < 20) (k : Int32) (hk0 : k = -1) {p : Nat} (hp : p ≤ T) (hr : r_X1_readKind M = k) (hm : m_X1_readKind M = fst1 M 276 5 (nI p)) {mW : fM} {rW : Int32} (hW : RM T s mW p j) (hF : FM W mW) (hrW : rW = 0) : CR T s M W i j (r_X1_readCommand M) (m_X1_readCommand M) rW mW := by
  subst hk0
  have hZ : rset (m_X1_readKind M) 280 20 ((m_X1_readKind M) 276 4) (r_X1_readKind M) = fst1 (fst1 M 276 5 (nI p)) 281 j (-1) := by
    rw [hr, hm, (h.mv hp).2.1, rset_in (by omega) (by decide)]
  rw [r_X1_readCommand, m_X1_readCommand, hZ, hr]
  rw [if_neg (by decide), if_neg (by decide), if_neg (by decide), if_neg (by decide), if_neg (by decide), if_neg (by decide), if_neg (by decide), if_neg (by decide), if_neg (by decide), if_neg (by decide), if_neg (by decide), if_neg (by decide)]
  refine ⟨p, (h.mv hp).wr 281 (Or.inl rfl), hW, ⟨fun q a b c => by rw [fst1_ne b, fst1_ne a], fun b hb => by rw [fst1_ne (by decide), fst1_nj hb]⟩, hF, Or.inl ⟨rfl, hrW⟩⟩
/-- the class, the kind read -/
theorem c_KS (h : RD T s M i j) (hj : j < 20) {K p : Nat} (hp : p ≤ T) (hr : r_X1_readKind M = nI K) (hm : m_X1_readKind M = fst1 M 276 5 (nI p)) : rset (m_X1_readKind M) 280 20 ((m_X1_readKind M) 276 4) (r_X1_readKind M) = fst1 (fst1 M 276 5 (nI p)) 281 j (nI K) := by
  rw [hr, hm, (h.mv hp).2.1, rset_in (by omega) (by decide)]
theorem KS_mk {i' : Nat} (h : RD T s M i j) {K p : Nat} (hp : p ≤ T) (h3 : i + 3 ≤ p) {V : fM} (hW : RM T s V i' j) (hV : FM W V) (hV5 : V 305 = W 305) : KS T s M W (fst1 (fst1 M 276 5 (nI p)) 281 j (nI K)) (fst1 (fst1 V 305 (5 * j) (nI K)) 296 16 (nI p)) i j p K := by
  refine ⟨⟨(h.mv hp).wr 281 (Or.inl rfl), hW.wr.mv hp, h3⟩, ⟨fun q a b c => by rw [fst1_ne b, fst1_ne a], fun b hb => by rw [fst1_ne (by decide), fst1_nj hb]⟩, (hV.tr FM.wr).tr FM.mv, ?_, ?_, ?_⟩
  · rw [row_up, fst1_ne (by decide)]
  · rw [fst1_ne (by decide), fst1_ne (by decide)]
  · rw [fst1_ne (by decide), row_up, hV5]
/-- one number or one figure, and the command is read -/
theorem CR_1 {Z Y : fM} {p K : Nat} (hK : K < 6) (hK1 : ar K = 1) (k : KS T s M W Z Y i j p K) {rC rW : Int32} {mC mW Y' : fM} (hY : FM Y Y') (hY5 : ∀ b, b ≠ 5 * j + 1 → Y' 305 b = Y 305 b) (hF : FR T s Z Y' p j j 0 (5 * j + 1) rC mC rW mW) : CR T s M W i j rC mC rW mW := by
  obtain ⟨⟨k1, k2, k3⟩, k4, k5, k6, k7, k8⟩ := k
  obtain ⟨p1, f1, f2, f3, f4, f5⟩ := hF
  refine ⟨p1, f1, f2, k4.tr f3, (k5.tr hY).tr f4, ?_⟩
  rcases f5 with e | ⟨e1, e2, e3, v, v1, v2, v3⟩
  · exact Or.inl e
  · have c81 : mC 281 = Z 281 := f3.1 281 (by decide) (by decide)
    refine Or.inr ⟨e1, e2, by omega, K, hK, ?_, ?_, fun t htt => ?_, fun b hb => ?_, fun b hb => ?_, fun b hb => ?_⟩
    · rw [c81, k6, up_at rfl]
    · rw [v3, up_ne (by omega), hY5 _ (by omega), k8, up_at rfl]
    · rw [hK1] at htt
      have h0 : t = 0 := by omega
      subst h0
      rw [v2, v3, up_at rfl, up_at rfl]
      exact ⟨v1, rfl⟩
    · rw [c81, k6, up_ne hb]
    · rw [v2, up_ne (by omega), k7]
    · rw [v3, up_ne (by omega), hY5 _ (by omega), k8, up_ne (by omega)]
theorem PLe (hW : RM T s W i j) : ((5 : Int32) * W 296 18) + 1 = nI (5 * j + 1) := by
  rw [hW.2.1, show (5 : Int32) = nI 5 from rfl, pk_mul, nI_1]
theorem sk_no (hW : RM T s W i j) (ht : okT T s) {c : Int32} (hc : c ≠ -1) (h : ¬ (i < T ∧ s i = c)) : r_X12_skips W c = 0 ∧ m_X12_skips W c = W := by
  obtain ⟨k1, k2⟩ := hW.sk ht hc
  rw [if_neg h] at k1 k2
  exact ⟨k1, k2⟩
theorem sk_yes (hW : RM T s W i j) (ht : okT T s) {c : Int32} (hc : c ≠ -1) (h : i < T ∧ s i = c) : r_X12_skips W c = 1 ∧ m_X12_skips W c = fst1 W 296 16 (nI (i + 1)) := by
  obtain ⟨k1, k2⟩ := hW.sk ht hc
  rw [if_pos h] at k1 k2
  exact ⟨k1, k2⟩
theorem FMv {V : fM} {x : Int32} : (fst1 V 296 16 x) 305 = V 305 := fst1_ne (by decide)
theorem CR_m (h : RD T s M i j) (hW : RM T s W i j) (ht : okT T s) (hj : j < 20) (hc : i < T ∧ s i = 109) : CR T s M W i j (r_X1_readCommand M) (m_X1_readCommand M) (r_X12_commandHere W) (m_X12_commandHere W) := by
  obtain ⟨g0, g1, g2, g3, g4, g5⟩ := fsb_c
  obtain ⟨⟨l6, l7, l8⟩, l9, l10, l11⟩ := fsb_l
  have P1 : pfx T s (fsb (4096 + 1)) i = pfx T s (fsb (4096 + 6)) (i + 1) + 1 := by rw [g1, pfx, if_pos hc]
  have hx : ∀ x : Int32, x ≠ 109 → ¬ (i < T ∧ s i = x) := fun x hx q => hx (q.2.symm.trans hc.2)
  have hP : ∀ k, k < 6 → k ≠ 1 → pfx T s (fsb (4096 + k)) i = 0 := fun k hk hk1 => by
    have : k = 0 ∨ k = 2 ∨ k = 3 ∨ k = 4 ∨ k = 5 := by omega
    rcases this with rfl | rfl | rfl | rfl | rfl
    · rw [g0, pfx, if_neg (hx 114 (by decide))]
    · rw [g2, pfx, if_neg (hx 102 (by decide))]
    · rw [g3, pfx, if_neg (hx 115 (by decide))]
    · rw [g4, pfx, if_neg (hx 100 (by decide))]
    · rw [g5, pfx, if_neg (hx 114 (by decide))]
  have kk := kone h ht (k0 := 1) (by decide) (fun k hk hk1 => by
    have := fsb_l0 k hk
    rw [hP k hk hk1]
    exact ⟨by omega, Nat.zero_le _⟩)
  obtain ⟨s1, s2⟩ := sk_yes hW ht (c := 109) (by decide) hc
  have hS1 := hW.mv (p := i + 1) hc.1
  obtain ⟨w1, w2⟩ := hS1.word ht 1 (k := 6) (by decide) (by omega)
  rw [show 4096 + 6 = 4102 from rfl] at w1 w2 l6 P1
  have hpT := pfx_T (T := T) (s := s) (fsb 4102) (i + 1) hc.1
  have l1 : (fsb (4096 + 1)).length = 3 := by rw [g1]; show (fsb (4096 + 6)).length + 1 = 3; rw [show 4096 + 6 = 4102 from rfl, l6]
  rw [l1, P1] at kk
  rw [l6] at w1
  rcases kk with ⟨k1, k2, k3⟩ | ⟨k1, k2, k3⟩
  · have e2 : pfx T s (fsb 4102) (i + 1) = 2 := by omega
    rw [e2] at w1 w2 hpT
    rw [if_pos rfl] at w1
    have hK := KS_mk (K := 1) (p := i + 3) h hpT (by omega) hS1 FM.mv FMv
    have hZ := c_KS h hj hpT k2 k3
    have w2 : m_X12_isWord (fst1 W 296 16 (nI (i + 1))) 1 4102 = fst1 (fst1 (fst1 W 296 16 (nI (i + 1))) 305 (5 * j) (nI 1)) 296 16 (nI (i + 3)) := by
      rw [w2, show i + 1 + 2 = i + 3 by omega]; rfl
    rw [r_X1_readCommand, m_X1_readCommand, r_X12_commandHere, m_X12_commandHere, s1, a6_X12_commandHere, s2, w1, w2, hZ, k2, PLe hW]
    rw [if_neg (show ¬ nI 1 = (0 : Int32) by decide), if_neg (show ¬ nI 1 = (0 : Int32) by decide), if_pos (show nI 1 = (1 : Int32) from rfl), if_pos (show nI 1 = (1 : Int32) from rfl), if_neg z_n1, if_neg z_n1, if_neg z_n1, if_neg z_n1]
    generalize fst1 (fst1 M 276 5 (nI (i + 3))) 281 j (nI 1) = Z at hK
    generalize fst1 (fst1 (fst1 W 296 16 (nI (i + 1))) 305 (5 * j) (nI 1)) 296 16 (nI (i + 3)) = Y at hK
    obtain ⟨⟨q1, q2, q3⟩, q4, q5, q6, q7, q8⟩ := hK
    obtain ⟨p1, f1, f2, f3, f4, f5⟩ : FR T s Z Y (i + 3) j j 0 (5 * j + 1) (r_X1_readNumber Z 0) (m_X1_readNumber Z 0) (r_X12_figures Y (nI (5 * j + 1)) 2) (m_X12_figures Y (nI (5 * j + 1)) 2) := both2 q1 q2 ht hj (by decide) (by omega)
    rcases f5 with ⟨e1, e2⟩ | ⟨e1, e2, e3, v, v1, v2, v3⟩
    · rw [e1, e2, if_pos rfl, if_pos rfl, if_pos rfl, if_pos rfl]
      exact ⟨p1, f1, f2, q4.tr f3, q5.tr f4, Or.inl ⟨rfl, rfl⟩⟩
    · rw [e1, e2, if_neg z_n1, if_neg z_n1, if_neg z_n1, if_neg z_n1, nI_1]
      generalize m_X1_readNumber Z 0 = Z1 at f1 f3 v2
      generalize m_X12_figures Y (nI (5 * j + 1)) 2 = Y1 at f2 f4 v3
      obtain ⟨p2, m1, m2, m3, m4, m5⟩ : FR T s Z1 Y1 p1 j j 1 (5 * j + 1 + 1) (r_X1_readNumber Z1 1) (m_X1_readNumber Z1 1) (r_X12_figures Y1 (nI (5 * j + 1 + 1)) 2) (m_X12_figures Y1 (nI (5 * j + 1 + 1)) 2) := both2 f1 f2 ht hj (by decide) (by omega)
      refine ⟨p2, ?_⟩
      rcases m5 with ⟨b1, b2⟩ | ⟨b1, b2, b3, u, u1, u2, u3⟩
      · rw [b1, b2, if_pos rfl, if_pos rfl, if_pos rfl]
        exact ⟨m1, m2, (q4.tr f3).tr m3, (q5.tr f4).tr m4, Or.inl ⟨rfl, rfl⟩⟩
      · rw [b1, b2, if_neg z_n1, if_neg z_n1, if_neg z_n1]
        have c81 : m_X1_readNumber Z1 1 281 = Z 281 := (m3.1 281 (by decide) (by decide)).trans (f3.1 281 (by decide) (by decide))
        refine ⟨m1, m2, (q4.tr f3).tr m3, (q5.tr f4).tr m4, Or.inr ⟨rfl, rfl, by omega, 1, by decide, ?_, ?_, fun t htt => ?_, fun b hb => ?_, fun b hb => ?_, fun b hb => ?_⟩⟩
        · rw [c81, q6, up_at rfl]
        · rw [u3, up_ne (by omega), v3, up_ne (by omega), q8, up_at rfl]
        · have htt : t < 2 := htt
          have : t = 0 ∨ t = 1 := by omega
          rcases this with rfl | rfl
          · rw [u2, u3, up_ne (by omega), up_ne (by omega), v2, v3, up_at rfl, up_at rfl]; exact ⟨v1, rfl⟩
          · rw [u2, u3, up_at rfl, up_at rfl]; exact ⟨u1, rfl⟩
        · rw [c81, q6, up_ne hb]
        · rw [u2, up_ne (by omega), v2, up_ne (by omega), q7]
        · rw [u3, up_ne (by omega), v3, up_ne (by omega), q8, up_ne (by omega)]
  · have hne : ¬ pfx T s (fsb 4102) (i + 1) = 2 := by omega
    rw [if_neg hne] at w1
    refine CR_bad h hj _ rfl (p := i + 1 + pfx T s (fsb 4102) (i + 1)) hpT k2 (by rw [k3, show i + (pfx T s (fsb 4102) (i + 1) + 1) = i + 1 + pfx T s (fsb 4102) (i + 1) by omega]) ?_ ?_ ?_
    · rw [m_X12_commandHere, s1, s2, if_neg z_n1, w1, if_pos rfl, w2]; exact hS1.wr.mv hpT
    · rw [m_X12_commandHere, s1, s2, if_neg z_n1, w1, if_pos rfl, w2]; exact (FM.mv.tr FM.wr).tr FM.mv
    · rw [r_X12_commandHere, s1, s2, if_neg z_n1, w1, if_pos rfl]
end CMD
