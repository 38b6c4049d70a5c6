/-! ===== the best test set, in both ways ===== -/
section TST
variable {N : Nat} {M W : fM} {k : Nat} {f : Nat → Int32}
theorem allN {n : Nat} (h : n ≤ 6) : ((1 : Int32) <<< (nI n &&& 31)) - (1 : Int32) = nI (2 ^ n - 1) := by
  have := (pw_le6 n h).2
  rw [z_one (by omega), show (1 : Int32) = nI 1 from rfl, pk_sub (by omega)]
theorem allI (h : WF N f) : ((1 : Int32) <<< (f 0 &&& 31)) - (1 : Int32) = nI (2 ^ (f 0).toNatClampNeg - 1) := by
  have e := allN h.raws.2
  rw [← h.raws.1] at e
  exact e
theorem isT_all (h : WF N f) : isT (insN f) ((f 3).toNatClampNeg) (2 ^ (f 0).toNatClampNeg - 1) := fun p hp => by
  obtain ⟨-, l1, l2, -⟩ := ins_N h hp
  rw [pc_in _ h.raws.2 _ l1]
  omega
/-- the first lot without a number of the set -/
theorem c_untL (h : SW N M k f) {s : Nat} : ∀ (m m' j : Nat), j + m = (f 3).toNatClampNeg → m < m' →
    (l_X9_firstUntested k (nI s) M m' j = -1 ∧ ∀ p, j ≤ p → p < (f 3).toNatClampNeg → insN f p &&& s ≠ 0) ∨ (∃ p, j ≤ p ∧ p < (f 3).toNatClampNeg ∧ l_X9_firstUntested k (nI s) M m' j = nI p ∧ insN f p &&& s = 0)
  | 0, m' + 1, j, h1, h2 => by
    rw [l_X9_firstUntested, h.1.2.2.2.1.1, if_pos (le3 h.2 (by omega))]
    exact Or.inl ⟨rfl, fun p q1 q2 => by omega⟩
  | m + 1, m' + 1, j, h1, h2 => by
    have hj : j < (f 3).toNatClampNeg := by omega
    obtain ⟨e1, -, -, l1⟩ := ins_N h.2 hj
    have hlt : insN f j &&& s < 64 := Nat.lt_of_le_of_lt Nat.and_le_left l1
    rw [l_X9_firstUntested, h.1.2.2.2.1.1, if_neg (nle3 h.2 hj), c_raws h hj, e1, z_and]
    by_cases hz : insN f j &&& s = 0
    · rw [hz, if_pos nI_0]
      exact Or.inr ⟨j, by omega, hj, rfl, hz⟩
    · rw [if_neg (nI_ne0 (by omega) (by omega))]
      rcases c_untL h (s := s) m m' (j + 1) (by omega) (by omega) with ⟨q1, q2⟩ | ⟨p, q1, q2, q3, q4⟩
      · refine Or.inl ⟨q1, fun p r1 r2 => ?_⟩
        by_cases e : p = j
        · subst e; exact hz
        · exact q2 p (by omega) r2
      · exact Or.inr ⟨p, by omega, q2, q3, q4⟩
  | 0, 0, _, _, h2 => by omega
  | m + 1, 0, _, _, h2 => by omega
theorem c_unt (h : SW N M k f) (s : Nat) : (r_X9_firstUntested M k (nI s) = -1 ∧ isT (insN f) ((f 3).toNatClampNeg) s) ∨ (∃ p, p < (f 3).toNatClampNeg ∧ r_X9_firstUntested M k (nI s) = nI p ∧ insN f p &&& s = 0) := by
  have := h.2.lots.2
  rw [r_X9_firstUntested]
  rcases c_untL h (s := s) ((f 3).toNatClampNeg) 301 0 (by omega) (by omega) with ⟨q1, q2⟩ | ⟨p, q1, q2, q3, q4⟩
  · exact Or.inl ⟨q1, fun p hp => q2 p (by omega) hp⟩
  · exact Or.inr ⟨p, q2, q3, q4⟩
theorem c_bestL (h : SW N M k f) : ∀ (m m' j b : Nat), j + m = 2 ^ (f 0).toNatClampNeg - 1 → m < m' → b ≤ 2 ^ (f 0).toNatClampNeg - 1 → isT (insN f) ((f 3).toNatClampNeg) b → (b < j ∨ b = 2 ^ (f 0).toNatClampNeg - 1) → (∀ s, s < j → isT (insN f) ((f 3).toNatClampNeg) s → pc b < pc s ∨ (pc b = pc s ∧ b ≤ s)) →
    ∃ r, l_X9_best k M m' j (nI b) = nI r ∧ bst (insN f) ((f 3).toNatClampNeg) (2 ^ (f 0).toNatClampNeg - 1) r
  | 0, m' + 1, j, b, h1, h2, h3, h4, h5, h6 => by
    have hr := h.2.raws.2
    have h64 := pw_le6 _ hr
    rw [l_X9_best, h.1.1.1, allI h.2, if_pos (nI_le (by omega) (by omega))]
    refine ⟨b, rfl, h3, h4, fun s hs ht => ?_⟩
    by_cases e : s < j
    · exact h6 s e ht
    · have e2 : s = 2 ^ (f 0).toNatClampNeg - 1 := by omega
      subst e2
      by_cases e3 : b = 2 ^ (f 0).toNatClampNeg - 1
      · exact Or.inr ⟨by rw [← e3], by omega⟩
      · exact Or.inl (pc_top _ hr b (by omega))
  | m + 1, m' + 1, j, b, h1, h2, h3, h4, h5, h6 => by
    have hr := h.2.raws.2
    have h64 := pw_le6 _ hr
    have p1 := pc_le8 b
    have p2 := pc_le8 j
    rw [l_X9_best, h.1.1.1, allI h.2, if_neg (nI_ge (by omega) (by omega)), pc_J M (by omega), pc_J M (by omega)]
    by_cases hp : pc b ≤ pc j
    · rw [if_pos (nI_le hp (by omega))]
      refine c_bestL h m m' (j + 1) b (by omega) (by omega) h3 h4 (by omega) fun s hs ht => ?_
      by_cases e : s = j
      · subst e
        rcases h5 with h5 | h5
        · omega
        · have := pc_top _ hr s (by omega)
          rw [← h5] at this
          omega
      · exact h6 s (by omega) ht
    · rw [if_neg (nI_ge (by omega) (by omega))]
      rcases c_unt h j with ⟨q1, q2⟩ | ⟨p, q1, q2, q3⟩
      · rw [if_pos q1]
        refine c_bestL h m m' (j + 1) j (by omega) (by omega) (by omega) q2 (by omega) fun s hs ht => ?_
        by_cases e : s = j
        · subst e; exact Or.inr ⟨rfl, by omega⟩
        · have := h6 s (by omega) ht
          omega
      · have hn := h.2.lots.2
        rw [if_neg (by rw [q2]; exact n1_nI (by omega))]
        refine c_bestL h m m' (j + 1) b (by omega) (by omega) h3 h4 (by omega) fun s hs ht => ?_
        by_cases e : s = j
        · subst e; exact absurd q3 (ht p q1)
        · exact h6 s (by omega) ht
  | 0, 0, _, _, _, h2, _, _, _, _ => by omega
  | m + 1, 0, _, _, _, h2, _, _, _, _ => by omega
theorem c_best (h : SW N M k f) : ∃ r, r_X9_best M k = nI r ∧ bst (insN f) ((f 3).toNatClampNeg) (2 ^ (f 0).toNatClampNeg - 1) r := by
  have h64 := pw_le6 _ h.2.raws.2
  rw [r_X9_best, h.1.1.1, allI h.2]
  exact c_bestL h (2 ^ (f 0).toNatClampNeg - 1) 301 0 _ (by omega) (by omega) (by omega) (isT_all h.2) (Or.inr rfl) (fun s hs => by omega)
theorem m_isTL (hW : W 297 = f) (h : WF N f) {s : Nat} : ∀ (m m' j : Nat), j + m = (f 3).toNatClampNeg → m < m' →
    (l_X12_isTest (nI s) W m' j = 1 ∧ ∀ p, j ≤ p → p < (f 3).toNatClampNeg → insN f p &&& s ≠ 0) ∨ (l_X12_isTest (nI s) W m' j = 0 ∧ ∃ p, p < (f 3).toNatClampNeg ∧ insN f p &&& s = 0)
  | 0, m' + 1, j, h1, h2 => by
    rw [l_X12_isTest, cl_3, hW, if_pos (le3 h (by omega))]
    exact Or.inl ⟨rfl, fun p q1 q2 => by omega⟩
  | m + 1, m' + 1, j, h1, h2 => by
    have hj : j < (f 3).toNatClampNeg := by omega
    obtain ⟨e1, -, -, l1⟩ := ins_N h hj
    have hlt : insN f j &&& s < 64 := Nat.lt_of_le_of_lt Nat.and_le_left l1
    rw [l_X12_isTest, m_ins hW h hj, cl_3, hW, if_neg (nle3 h hj), e1, z_and]
    by_cases hz : insN f j &&& s = 0
    · rw [hz, if_pos nI_0]
      exact Or.inr ⟨rfl, j, hj, hz⟩
    · rw [if_neg (nI_ne0 (by omega) (by omega))]
      rcases m_isTL hW h (s := s) m m' (j + 1) (by omega) (by omega) with ⟨q1, q2⟩ | q
      · refine Or.inl ⟨q1, fun p r1 r2 => ?_⟩
        by_cases e : p = j
        · subst e; exact hz
        · exact q2 p (by omega) r2
      · exact Or.inr q
  | 0, 0, _, _, h2 => by omega
  | m + 1, 0, _, _, h2 => by omega
theorem m_isT (hW : W 297 = f) (h : WF N f) (s : Nat) : (r_X12_isTest W (nI s) = 1 ∧ isT (insN f) ((f 3).toNatClampNeg) s) ∨ (r_X12_isTest W (nI s) = 0 ∧ ¬ isT (insN f) ((f 3).toNatClampNeg) s) := by
  have := h.lots.2
  rw [r_X12_isTest]
  rcases m_isTL hW h (s := s) ((f 3).toNatClampNeg) 9 0 (by omega) (by omega) with ⟨q1, q2⟩ | ⟨q1, p, q2, q3⟩
  · exact Or.inl ⟨q1, fun p hp => q2 p (by omega) hp⟩
  · exact Or.inr ⟨q1, fun q => q p q2 q3⟩
theorem m_bestL (hW : W 297 = f) (h : WF N f) : ∀ (i b : Nat), i ≤ 2 ^ (f 0).toNatClampNeg → b ≤ 2 ^ (f 0).toNatClampNeg - 1 → isT (insN f) ((f 3).toNatClampNeg) b → (∀ s, i ≤ s → s ≤ 2 ^ (f 0).toNatClampNeg - 1 → isT (insN f) ((f 3).toNatClampNeg) s → pc b < pc s ∨ (pc b = pc s ∧ b ≤ s)) →
    ∃ r, l_X12_bestL W i (nI b) = nI r ∧ bst (insN f) ((f 3).toNatClampNeg) (2 ^ (f 0).toNatClampNeg - 1) r
  | 0, b, h1, h3, h4, h6 => by
    rw [l_X12_bestL]
    exact ⟨b, rfl, h3, h4, fun s hs ht => h6 s (by omega) hs ht⟩
  | i + 1, b, h1, h3, h4, h6 => by
    have h64 := pw_le6 _ h.raws.2
    have p1 := pc_le8 b
    have p2 := pc_le8 i
    rw [l_X12_bestL, pc_B W (by omega), pc_B W (by omega)]
    rcases m_isT hW h i with ⟨q1, q2⟩ | ⟨q1, q2⟩
    · rw [if_neg (by rw [q1]; exact z_n1)]
      by_cases hp : pc b < pc i
      · rw [if_pos (nI_lt hp (by omega))]
        refine m_bestL hW h i b (by omega) h3 h4 fun s hs hs2 ht => ?_
        by_cases e : s = i
        · subst e; exact Or.inl hp
        · exact h6 s (by omega) hs2 ht
      · rw [if_neg (nI_nlt (by omega) (by omega))]
        refine m_bestL hW h i i (by omega) (by omega) q2 fun s hs hs2 ht => ?_
        by_cases e : s = i
        · subst e; exact Or.inr ⟨rfl, Nat.le_refl _⟩
        · have := h6 s (by omega) hs2 ht
          omega
    · rw [if_pos q1]
      refine m_bestL hW h i b (by omega) h3 h4 fun s hs hs2 ht => ?_
      by_cases e : s = i
      · subst e; exact absurd ht q2
      · exact h6 s (by omega) hs2 ht
theorem m_best (hW : W 297 = f) (h : WF N f) : ∃ r, r_X12_best W = nI r ∧ bst (insN f) ((f 3).toNatClampNeg) (2 ^ (f 0).toNatClampNeg - 1) r := by
  have h64 := pw_le6 _ h.raws.2
  have e : ((1 : Int32) <<< (W 297 ((0 : Int32)).toNatClampNeg &&& 31)) = nI (2 ^ (f 0).toNatClampNeg) := by
    have e2 := z_one (k := (f 0).toNatClampNeg) (by have := h.raws.2; omega)
    rw [← h.raws.1] at e2
    rw [cl_0, hW]
    exact e2
  rw [r_X12_best, e, nI_clamp (by omega), show nI (2 ^ (f 0).toNatClampNeg) - 1 = nI (2 ^ (f 0).toNatClampNeg - 1) by rw [show (1 : Int32) = nI 1 from rfl, pk_sub (by omega)]]
  exact m_bestL hW h (2 ^ (f 0).toNatClampNeg) _ (by omega) (by omega) (isT_all h) (fun s h1 h2 => by omega)
theorem N_best (hW : W 297 = f) (h : WF N f) : N_X12_best W := by
  have h64 := pw_le6 _ h.raws.2
  refine ⟨?_, fun i v hi => ⟨fun j h1 h2 => ?_, fun j h1 h2 => ?_⟩⟩
  · have e2 := z_one (k := (f 0).toNatClampNeg) (by have := h.raws.2; omega)
    rw [← h.raws.1] at e2
    rw [cl_0, hW, e2]
    exact sm_nI (by omega) (by omega)
  · rw [cl_3, hW] at h2
    have := lt3 h (by omega) h2
    have := h.lots.2
    omega
  · rw [cl_3, hW] at h2
    exact N_ins hW h (lt3 h (by omega) h2)
/-- the best test set -/
theorem best_same (h : SW N M k f) (hW : W 297 = f) : ∃ r, r_X9_best M k = nI r ∧ r_X12_best W = nI r ∧ bst (insN f) ((f 3).toNatClampNeg) (2 ^ (f 0).toNatClampNeg - 1) r ∧ r < 64 := by
  have h64 := pw_le6 _ h.2.raws.2
  obtain ⟨r, e1, b1⟩ := c_best h
  obtain ⟨r', e2, b2⟩ := m_best hW h.2
  have e := bst_one b1 b2
  subst e
  exact ⟨r, e1, e2, b1, by have := b1.1; omega⟩
/-- by branching -/
theorem c_brI (x p : Nat) (A : Nat) (hA : A < 64) (F : Int32 → Nat → Int32) (Fv : Nat → Nat) (M : fM) (k : Nat) (hF : ∀ i, i < 6 → A.testBit i = true → F (nI x ||| ((1 : Int32) <<< (nI i &&& 31))) (p + 1) = nI (Fv i) ∧ Fv i ≤ 6) : ∀ (m m' j u : Nat), j + m = 6 → m < m' → u ≤ 6 →
    ∃ v, l_X9_branchI k (nI x) p (nI A) F M m' j (nI u) = nI v ∧ v ≤ u ∧ (∀ i, j ≤ i → i < 6 → A.testBit i = true → v ≤ Fv i) ∧ (∀ L, L ≤ u → (∀ i, i < 6 → A.testBit i = true → L ≤ Fv i) → L ≤ v)
  | 0, m' + 1, j, u, h1, h2, h3 => by
    rw [l_X9_branchI, if_pos (show (6 : Int32) ≤ nI j from nI_le (a := 6) (by omega) (by omega))]
    exact ⟨u, rfl, Nat.le_refl _, fun i q1 q2 => by omega, fun L q _ => q⟩
  | m + 1, m' + 1, j, u, h1, h2, h3 => by
    have hg : ¬ (6 : Int32) ≤ nI j := nI_ge (b := 6) (by omega) (by omega)
    rw [l_X9_branchI, if_neg hg]
    by_cases hb : A.testBit j = true
    · obtain ⟨f1, f2⟩ := hF j (by omega) hb
      rw [if_neg (fun q => by rw [z_hasI M (by omega) (by omega)] at q; rw [q] at hb; cases hb), f1]
      by_cases hl : Fv j < u
      · rw [if_pos (nI_lt hl (by omega))]
        obtain ⟨v, e1, e2, e3, e4⟩ := c_brI x p A hA F Fv M k hF m m' (j + 1) (Fv j) (by omega) (by omega) f2
        refine ⟨v, e1, by omega, fun i q1 q2 q3 => ?_, fun L q1 q2 => e4 L (q2 j (by omega) hb) q2⟩
        by_cases e : i = j
        · subst e; exact e2
        · exact e3 i (by omega) q2 q3
      · rw [if_neg (nI_nlt (by omega) (by omega))]
        obtain ⟨v, e1, e2, e3, e4⟩ := c_brI x p A hA F Fv M k hF m m' (j + 1) u (by omega) (by omega) h3
        refine ⟨v, e1, by omega, fun i q1 q2 q3 => ?_, fun L q1 q2 => e4 L q1 q2⟩
        by_cases e : i = j
        · subst e; omega
        · exact e3 i (by omega) q2 q3
    · have hb' : A.testBit j = false := by cases hc : A.testBit j with | true => exact absurd hc hb | false => rfl
      rw [if_pos ((z_hasI M (by omega) (by omega)).mpr hb')]
      obtain ⟨v, e1, e2, e3, e4⟩ := c_brI x p A hA F Fv M k hF m m' (j + 1) u (by omega) (by omega) h3
      refine ⟨v, e1, e2, fun i q1 q2 q3 => ?_, fun L q1 q2 => e4 L q1 q2⟩
      by_cases e : i = j
      · subst e; exact absurd q3 hb
      · exact e3 i (by omega) q2 q3
  | 0, 0, _, _, _, h2, _ => by omega
  | m + 1, 0, _, _, _, h2, _ => by omega
theorem c_br (h : SW N M k f) : ∀ (m x p : Nat), p + m = 7 → p ≤ 6 → x < 2 ^ (f 0).toNatClampNeg → pc x = p →
    ∃ v, sp_X9_branch k m M (nI x) p = nI v ∧ v ≤ 6 ∧ (∀ T, T < 64 → isT (insN f) ((f 3).toNatClampNeg) T → x &&& T = x → v ≤ pc T) ∧ (∀ L, L ≤ 6 → (∀ T, T < 2 ^ (f 0).toNatClampNeg → isT (insN f) ((f 3).toNatClampNeg) T → L ≤ pc T) → L ≤ v)
  | 0, x, p, h1, h2, h3, h4 => by omega
  | m + 1, x, p, h1, h2, h3, h4 => by
    have hr := h.2.raws.2
    have hn := h.2.lots.2
    have h64 := pw_le6 _ hr
    have hx : x < 64 := by omega
    rw [sp_X9_branch]
    rcases c_unt h x with ⟨q1, q2⟩ | ⟨o, q1, q2, q3⟩
    · rw [if_pos q1, pc_J M (by omega)]
      exact ⟨pc x, rfl, pc_le6 x hx, fun T t1 t2 t3 => pc_sub x hx T t1 t3, fun L l1 l2 => l2 x h3 q2⟩
    · rw [if_neg (by rw [q2]; exact n1_nI (by omega))]
      by_cases hp : p < 6
      · rw [if_pos (show nI p < (6 : Int32) from nI_lt (b := 6) hp (by omega)), q2, c_raws h q1]
        obtain ⟨e1, a1, a2, a3⟩ := ins_N h.2 q1
        rw [e1]
        have hbits : ∀ i, i < 6 → (insN f o).testBit i = true → x.testBit i = false := fun i hi hb => and_none _ a3 _ hx q3 i hi hb
        have hex : ∀ i, ∃ v, i < 6 → (insN f o).testBit i = true → (sp_X9_branch k m M (nI (x ||| 2 ^ i)) (p + 1) = nI v ∧ v ≤ 6 ∧ (∀ T, T < 64 → isT (insN f) ((f 3).toNatClampNeg) T → (x ||| 2 ^ i) &&& T = x ||| 2 ^ i → v ≤ pc T) ∧ (∀ L, L ≤ 6 → (∀ T, T < 2 ^ (f 0).toNatClampNeg → isT (insN f) ((f 3).toNatClampNeg) T → L ≤ pc T) → L ≤ v)) := fun i => by
          by_cases hi : i < 6 ∧ (insN f o).testBit i = true
          · obtain ⟨c1, c2⟩ := pc_put x hx i hi.1 (hbits i hi.1 hi.2)
            have c3 : x ||| 2 ^ i < 2 ^ (f 0).toNatClampNeg := or_in _ hr _ h3 _ (pw_in _ hr _ a1 i hi.1 hi.2)
            obtain ⟨v, w⟩ := c_br h m (x ||| 2 ^ i) (p + 1) (by omega) (by omega) c3 (by omega)
            exact ⟨v, fun _ _ => w⟩
          · exact ⟨0, fun q1 q2 => absurd ⟨q1, q2⟩ hi⟩
        obtain ⟨Fv, hFv⟩ := Classical.axiomOfChoice hex
        obtain ⟨v, v1, v2, v3, v4⟩ := c_brI x p (insN f o) a3 (sp_X9_branch k m M) Fv M k (fun i hi hb => by
          rw [z_one (by omega), z_or]
          exact ⟨(hFv i hi hb).1, (hFv i hi hb).2.1⟩) 6 7 0 6 (by omega) (by omega) (by omega)
        refine ⟨v, v1, v2, fun T t1 t2 t3 => ?_, fun L l1 l2 => v4 L l1 fun i hi hb => (hFv i hi hb).2.2.2 L l1 l2⟩
        obtain ⟨i, i1, i2, i3⟩ := and_some _ a3 T t1 (t2 o q1)
        exact Nat.le_trans (v3 i (by omega) i1 i2) ((hFv i i1 i2).2.2.1 T t1 t2 (and_more x hx T t1 t3 i i1 i3))
      · rw [if_neg (show ¬ nI p < (6 : Int32) from nI_nlt (b := 6) (by omega) (by omega)), pc_J M (by omega)]
        exact ⟨pc x, rfl, pc_le6 x hx, fun T t1 t2 t3 => pc_sub x hx T t1 t3, fun L l1 l2 => by omega⟩
theorem br_same (h : SW N M k f) {r : Nat} (hb : bst (insN f) ((f 3).toNatClampNeg) (2 ^ (f 0).toNatClampNeg - 1) r) : r_X9_fewestByBranching M k = nI (pc r) := by
  have hr := h.2.raws.2
  have h64 := pw_le6 _ hr
  have hr64 : r < 64 := by have := hb.1; omega
  obtain ⟨v, e1, e2, e3, e4⟩ := c_br h 7 0 0 (by omega) (by omega) h64.2 (by decide)
  have l1 := e3 r hr64 hb.2.1 (Nat.zero_and r)
  have l2 := e4 (pc r) (pc_le6 r hr64) fun T t1 t2 => by
    have := hb.2.2 T (by omega) t2
    omega
  rw [nI_0] at e1
  rw [r_X9_fewestByBranching, e1]
  congr 1
  omega
end TST
