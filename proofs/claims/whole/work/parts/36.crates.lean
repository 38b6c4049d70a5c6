/-! ===== crates: the class's table and the model's ===== -/
theorem bt_pc : ∀ S, S < 256 → ∀ k, k < 8 → S.testBit k = true → pc (S - 2 ^ k) + 1 = pc S := by decide +kernel
theorem bt_xor : ∀ S, S < 256 → ∀ k, k < 8 → S.testBit k = true → S ^^^ 2 ^ k = S - 2 ^ k := by decide +kernel
theorem bt_xlt : ∀ S, S < 256 → ∀ k, k < 8 → S ^^^ 2 ^ k < 256 := by decide +kernel
theorem bt_sub : ∀ S, S < 256 → ∀ k, k < 8 → S.testBit k = true → 2 ^ k ≤ S := by decide +kernel
theorem z_bitI {x k : Nat} (hx : x < 2 ^ 31) (hk : k < 32) : (nI x >>> (nI k &&& 31)) &&& (1 : Int32) = 0 ↔ x.testBit k = false := by
  rw [z_bit hx hk, z_tbf, ← nI_0, nI_eq (by omega) (by decide)]
/-- the better one -/
def plt (a b : Nat × Nat) : Prop := a.1 < b.1 ∨ (a.1 = b.1 ∧ a.2 < b.2)
def pbt (c x : Nat × Nat) : Nat × Nat := if c.1 < x.1 then c else if c.1 = x.1 then (if x.2 ≤ c.2 then x else c) else x
def ffD (J : Nat → Nat) (D : Nat → Nat × Nat) (cap S : Nat) : Nat → Nat → Nat × Nat → Nat × Nat
  | 0, _, x => x
  | m + 1, j, x => ffD J D cap S m (j + 1) (if S.testBit j = true then pbt (pst cap (J j) (D (S - 2 ^ j))) x else x)
def dpT (J : Nat → Nat) (n cap : Nat) : Nat → Nat → Nat × Nat
  | 0 => fun _ => (0, cap)
  | S + 1 => fun T => if T = S + 1 then ffD J (dpT J n cap S) cap (S + 1) n 0 (9, 0) else dpT J n cap S T
theorem dpT_S (J : Nat → Nat) (n cap S T : Nat) : dpT J n cap (S + 1) T = if T = S + 1 then ffD J (dpT J n cap S) cap (S + 1) n 0 (9, 0) else dpT J n cap S T := rfl
section DPT
variable {J : Nat → Nat} {n cap : Nat}
theorem pbt_le (c x : Nat × Nat) : plx (pbt c x) c ∧ plx (pbt c x) x ∧ (pbt c x = c ∨ pbt c x = x) := by
  unfold pbt plx
  by_cases h1 : c.1 < x.1
  · rw [if_pos h1]; exact ⟨Or.inr ⟨rfl, Nat.le_refl _⟩, Or.inl h1, Or.inl rfl⟩
  · rw [if_neg h1]
    by_cases h2 : c.1 = x.1
    · rw [if_pos h2]
      by_cases h3 : x.2 ≤ c.2
      · rw [if_pos h3]; exact ⟨Or.inr ⟨h2.symm, h3⟩, Or.inr ⟨rfl, Nat.le_refl _⟩, Or.inr rfl⟩
      · rw [if_neg h3]; exact ⟨Or.inr ⟨rfl, Nat.le_refl _⟩, Or.inr ⟨h2, by omega⟩, Or.inl rfl⟩
    · rw [if_neg h2]; exact ⟨Or.inl (by omega), Or.inr ⟨rfl, Nat.le_refl _⟩, Or.inr rfl⟩
theorem ffD_sp (D : Nat → Nat × Nat) (S : Nat) : ∀ (m j : Nat) (x : Nat × Nat), plx (ffD J D cap S m j x) x ∧ (∀ k, j ≤ k → k < j + m → S.testBit k = true → plx (ffD J D cap S m j x) (pst cap (J k) (D (S - 2 ^ k)))) ∧ (ffD J D cap S m j x = x ∨ ∃ k, j ≤ k ∧ k < j + m ∧ S.testBit k = true ∧ ffD J D cap S m j x = pst cap (J k) (D (S - 2 ^ k)))
  | 0, j, x => ⟨Or.inr ⟨rfl, Nat.le_refl _⟩, fun k h1 h2 => by omega, Or.inl rfl⟩
  | m + 1, j, x => by
    rw [ffD]
    by_cases hb : S.testBit j = true
    · rw [if_pos hb]
      obtain ⟨a1, a2, a3⟩ := ffD_sp D S m (j + 1) (pbt (pst cap (J j) (D (S - 2 ^ j))) x)
      obtain ⟨b1, b2, b3⟩ := pbt_le (pst cap (J j) (D (S - 2 ^ j))) x
      refine ⟨plx_tr a1 b2, fun k h1 h2 h3 => ?_, ?_⟩
      · by_cases e : k = j
        · subst e; exact plx_tr a1 b1
        · exact a2 k (by omega) (by omega) h3
      · rcases a3 with a3 | ⟨k, h1, h2, h3, h4⟩
        · rcases b3 with b3 | b3
          · exact Or.inr ⟨j, by omega, by omega, hb, a3.trans b3⟩
          · exact Or.inl (a3.trans b3)
        · exact Or.inr ⟨k, by omega, by omega, h3, h4⟩
    · rw [if_neg hb]
      obtain ⟨a1, a2, a3⟩ := ffD_sp D S m (j + 1) x
      refine ⟨a1, fun k h1 h2 h3 => ?_, ?_⟩
      · by_cases e : k = j
        · subst e; exact absurd h3 hb
        · exact a2 k (by omega) (by omega) h3
      · rcases a3 with a3 | ⟨k, h1, h2, h3, h4⟩
        · exact Or.inl a3
        · exact Or.inr ⟨k, by omega, by omega, h3, h4⟩
theorem dpT_st : ∀ (S T : Nat), T ≤ S → dpT J n cap S T = dpT J n cap T T
  | 0, T, h => by
    have : T = 0 := by omega
    subst this; rfl
  | S + 1, T, h => by
    by_cases e : T = S + 1
    · rw [e]
    · rw [dpT_S, if_neg e, dpT_st S T (by omega)]
/-- what the table's values are bounded by -/
theorem dpT_bd (hn : n ≤ 8) (hJ : ∀ p, p < n → 0 < J p ∧ J p ≤ cap) : ∀ (N S : Nat), S ≤ N → S < 2 ^ n → (dpT J n cap S S).1 ≤ pc S ∧ (dpT J n cap S S).2 ≤ cap ∧ (0 < S → (∀ k, k < n → S.testBit k = true → plx (dpT J n cap S S) (pst cap (J k) (dpT J n cap (S - 2 ^ k) (S - 2 ^ k)))) ∧ ∃ k, k < n ∧ S.testBit k = true ∧ dpT J n cap S S = pst cap (J k) (dpT J n cap (S - 2 ^ k) (S - 2 ^ k))) := by
  intro N
  induction N with
  | zero =>
    intro S h1 h2
    have : S = 0 := by omega
    subst this
    exact ⟨Nat.zero_le _, Nat.le_refl _, fun h => by omega⟩
  | succ N ih =>
    intro S h1 h2
    by_cases h0 : S = 0
    · subst h0; exact ih 0 (by omega) h2
    · have hS : S < 256 := Nat.lt_of_lt_of_le h2 (pow_le8 hn)
      obtain ⟨S', rfl⟩ : ∃ S', S = S' + 1 := ⟨S - 1, by omega⟩
      have hE : dpT J n cap (S' + 1) (S' + 1) = ffD J (dpT J n cap S') cap (S' + 1) n 0 (9, 0) := by rw [dpT_S, if_pos rfl]
      obtain ⟨a1, a2, a3⟩ := ffD_sp (J := J) (cap := cap) (dpT J n cap S') (S' + 1) n 0 (9, 0)
      rw [← hE] at a1 a2 a3
      have hst : ∀ k, k < n → (S' + 1).testBit k = true → dpT J n cap S' (S' + 1 - 2 ^ k) = dpT J n cap (S' + 1 - 2 ^ k) (S' + 1 - 2 ^ k) := fun k hk hb => dpT_st S' _ (by
        have := (bt_take (S' + 1) hS k (by omega) hb).1
        omega)
      obtain ⟨k, hk, hb⟩ := bt_some n hn (S' + 1) h2 (by omega)
      have cand : ∀ k, k < n → (S' + 1).testBit k = true → (pst cap (J k) (dpT J n cap (S' + 1 - 2 ^ k) (S' + 1 - 2 ^ k))).1 ≤ pc (S' + 1) ∧ (pst cap (J k) (dpT J n cap (S' + 1 - 2 ^ k) (S' + 1 - 2 ^ k))).2 ≤ cap := fun k hk hb => by
        have hp := bt_pc (S' + 1) hS k (by omega) hb
        have ht := (bt_take (S' + 1) hS k (by omega) hb).1
        obtain ⟨i1, i2, -⟩ := ih (S' + 1 - 2 ^ k) (by omega) (by omega)
        have hj := (hJ k hk).2
        unfold pst
        by_cases hc : (dpT J n cap (S' + 1 - 2 ^ k) (S' + 1 - 2 ^ k)).2 + J k ≤ cap
        · rw [if_pos hc]; exact ⟨by show (dpT J n cap (S' + 1 - 2 ^ k) (S' + 1 - 2 ^ k)).1 ≤ _; omega, hc⟩
        · rw [if_neg hc]; exact ⟨by show (dpT J n cap (S' + 1 - 2 ^ k) (S' + 1 - 2 ^ k)).1 + 1 ≤ _; omega, hj⟩
      have a3' : ∃ k, k < n ∧ (S' + 1).testBit k = true ∧ dpT J n cap (S' + 1) (S' + 1) = pst cap (J k) (dpT J n cap (S' + 1 - 2 ^ k) (S' + 1 - 2 ^ k)) := by
        rcases a3 with a3 | ⟨k, q1, q2, q3, q4⟩
        · have h5 := a2 k (by omega) (by omega) hb
          rw [hst k hk hb, a3] at h5
          have h6 := (cand k hk hb).1
          have h7 := pc_le8 (S' + 1)
          have h8 : (9 : Nat) ≤ (pst cap (J k) (dpT J n cap (S' + 1 - 2 ^ k) (S' + 1 - 2 ^ k))).1 := by
            rcases h5 with h5 | ⟨h5, -⟩
            · exact Nat.le_of_lt h5
            · exact Nat.le_of_eq h5
          omega
        · exact ⟨k, by omega, q3, by rw [← hst k (by omega) q3]; exact q4⟩
      obtain ⟨k', k1, k2, k3⟩ := a3'
      refine ⟨by rw [k3]; exact (cand k' k1 k2).1, by rw [k3]; exact (cand k' k1 k2).2, fun _ => ⟨fun k hk hb => ?_, k', k1, k2, k3⟩⟩
      rw [← hst k hk hb]
      exact a2 k (by omega) (by omega) hb
def dpF (J : Nat → Nat) (n cap S : Nat) : Nat × Nat := dpT J n cap S S
theorem dpF_ok (hn : n ≤ 8) (hJ : ∀ p, p < n → 0 < J p ∧ J p ≤ cap) : pDP J n cap (dpF J n cap) :=
  ⟨rfl, fun S h1 h2 => (dpT_bd hn hJ S S (Nat.le_refl _) h2).2.2 h1⟩
theorem dpF_bd (hn : n ≤ 8) (hJ : ∀ p, p < n → 0 < J p ∧ J p ≤ cap) {S : Nat} (h : S < 2 ^ n) : (dpF J n cap S).1 ≤ 8 ∧ (dpF J n cap S).2 ≤ cap := by
  obtain ⟨h1, h2, -⟩ := dpT_bd hn hJ S S (Nat.le_refl _) h
  have := pc_le8 S
  exact ⟨by show (dpT J n cap S S).1 ≤ 8; omega, h2⟩
theorem dpF_ff (hn : n ≤ 8) {S : Nat} (h0 : 0 < S) (h : S < 2 ^ n) : dpF J n cap S = ffD J (dpF J n cap) cap S n 0 (9, 0) := by
  have hS : S < 256 := Nat.lt_of_lt_of_le h (pow_le8 hn)
  obtain ⟨S', rfl⟩ : ∃ S', S = S' + 1 := ⟨S - 1, by omega⟩
  have key : ∀ (m j : Nat) (x : Nat × Nat), j + m ≤ 8 → ffD J (dpT J n cap S') cap (S' + 1) m j x = ffD J (dpF J n cap) cap (S' + 1) m j x := by
    intro m
    induction m with
    | zero => intro j x _; rfl
    | succ m ih =>
      intro j x hj
      rw [ffD, ffD]
      by_cases hb : (S' + 1).testBit j = true
      · have ht := (bt_take (S' + 1) hS j (by omega) hb).1
        rw [if_pos hb, if_pos hb, ih (j + 1) _ (by omega), show dpT J n cap S' (S' + 1 - 2 ^ j) = dpF J n cap (S' + 1 - 2 ^ j) from dpT_st S' _ (by omega)]
      · rw [if_neg hb, if_neg hb, ih (j + 1) _ (by omega)]
  rw [← key n 0 _ (by omega), dpF, dpT_S, if_pos rfl]
end DPT
/-! ===== the class's table ===== -/
def Jn (f : Nat → Int32) (p : Nat) : Nat := (f (79 + 6 * p + 1)).toNatClampNeg
section CRT
variable {N : Nat} {M W : fM} {k : Nat} {f : Nat → Int32} {cap : Nat}
theorem WF.jar (h : WF N f) {p : Nat} (hp : p < (f 3).toNatClampNeg) : f (79 + 6 * p + 1) = nI (Jn f p) ∧ 0 < Jn f p ∧ Jn f p ≤ 9 := by
  obtain ⟨-, ⟨h1, h2⟩, -⟩ := h.2.2.2 p hp
  have := h1.2
  exact ⟨h1.1, h2, by unfold Jn; omega⟩
theorem WF.jarc (h : WF N f) (hc : 9 ≤ cap) : ∀ p, p < (f 3).toNatClampNeg → 0 < Jn f p ∧ Jn f p ≤ cap := fun p hp => by
  obtain ⟨-, h1, h2⟩ := h.jar hp
  exact ⟨h1, by omega⟩
theorem c_ffL (h : SW N M 1 f) (hc : 9 ≤ cap) (hc2 : cap ≤ 40) {S : Nat} (hS0 : 0 < S) (hS : S < 2 ^ (f 3).toNatClampNeg) (hT : ∀ T, T < S → M 291 T = nI (dpF (Jn f) (f 3).toNatClampNeg cap T).1 ∧ M 293 T = nI (dpF (Jn f) (f 3).toNatClampNeg cap T).2) : ∀ (m m' j : Nat) (x : Nat × Nat), j + m = (f 3).toNatClampNeg → m < m' → x.1 ≤ 9 → x.2 ≤ 40 →
    l_X2_findFor (nI S) 12 (nI cap) M m' j (nI x.1) (nI x.2) = rset (rset M 290 256 (nI S) (nI (ffD (Jn f) (dpF (Jn f) (f 3).toNatClampNeg cap) cap S m j x).1)) 292 256 (nI S) (nI (ffD (Jn f) (dpF (Jn f) (f 3).toNatClampNeg cap) cap S m j x).2)
  | 0, m' + 1, j, x, h1, h2, h3, h4 => by
    have e := h.1.2.2.2.1.1
    rw [l_X2_findFor, show M 12 6 = f 3 from e, if_pos (le3 h.2 (by omega)), ffD]
  | m + 1, m' + 1, j, x, h1, h2, h3, h4 => by
    have hn := h.2.lots.2
    have e := h.1.2.2.2.1.1
    have hS8 : S < 256 := Nat.lt_of_lt_of_le hS (pow_le8 hn)
    have hj : j < (f 3).toNatClampNeg := by omega
    rw [l_X2_findFor, show M 12 6 = f 3 from e, if_neg (nle3 h.2 hj), ffD]
    by_cases hb : S.testBit j = true
    · have ht := (bt_take S hS8 j (by omega) hb).1
      have hsb := bt_sub S hS8 j (by omega) hb
      obtain ⟨d1, d2⟩ := dpF_bd (J := Jn f) (cap := cap) hn (h.2.jarc hc) (S := S - 2 ^ j) (by omega)
      obtain ⟨t1, t2⟩ := hT (S - 2 ^ j) (by omega)
      obtain ⟨j1, j2, j3⟩ := h.2.jar hj
      have eo : nI S - ((1 : Int32) <<< (nI j &&& 31)) = nI (S - 2 ^ j) := by rw [z_one (by omega), pk_sub hsb]
      have g1 : rget M 290 256 (nI S - ((1 : Int32) <<< (nI j &&& 31))) = nI (dpF (Jn f) (f 3).toNatClampNeg cap (S - 2 ^ j)).1 := by rw [eo, rget_in (by omega) (by decide)]; exact t1
      have g2 : rget M 292 256 (nI S - ((1 : Int32) <<< (nI j &&& 31))) = nI (dpF (Jn f) (f 3).toNatClampNeg cap (S - 2 ^ j)).2 := by rw [eo, rget_in (by omega) (by decide)]; exact t2
      have g3 : rget M (12 + 9) 8 (nI j) = nI (Jn f j) := (c_jars h hj).trans j1
      rw [if_neg (fun q => by rw [z_hasI M (by omega) (by omega)] at q; rw [q] at hb; cases hb), if_pos hb, g1, g2, g3]
      have IH := fun y hy1 hy2 => c_ffL h hc hc2 hS0 hS hT m m' (j + 1) y (by omega) (by omega) hy1 hy2
      generalize dpF (Jn f) (f 3).toNatClampNeg cap (S - 2 ^ j) = d at *
      by_cases hr : d.2 + Jn f j ≤ cap
      · have hp : pst cap (Jn f j) d = (d.1, d.2 + Jn f j) := by rw [pst, if_pos hr]
        rw [hp, nI_add, if_neg (nI_nlt (a := cap) hr (by omega)), pbt]
        by_cases b1 : d.1 < x.1
        · rw [if_pos (nI_lt b1 (by omega)), if_pos b1]
          exact IH (d.1, d.2 + Jn f j) (by show d.1 ≤ 9; omega) (by show d.2 + Jn f j ≤ 40; omega)
        · rw [if_neg (nI_nlt (by omega) (by omega)), if_neg b1]
          by_cases b2 : d.1 = x.1
          · rw [if_pos (by rw [b2]), if_pos b2]
            by_cases b3 : x.2 ≤ d.2 + Jn f j
            · rw [if_pos (nI_le b3 (by omega)), if_pos b3]
              exact IH x h3 h4
            · rw [if_neg (nI_ge (by omega) (by omega)), if_neg b3]
              exact IH (d.1, d.2 + Jn f j) (by show d.1 ≤ 9; omega) (by show d.2 + Jn f j ≤ 40; omega)
          · rw [if_neg (fun q => b2 ((nI_eq (by omega) (by omega)).mp q)), if_neg b2]
            exact IH x h3 h4
      · have hp : pst cap (Jn f j) d = (d.1 + 1, Jn f j) := by rw [pst, if_neg hr]
        rw [hp, nI_add, if_pos (nI_lt (a := cap) (by omega) (by omega)), nI_1, pbt]
        by_cases b1 : d.1 + 1 < x.1
        · rw [if_pos (nI_lt b1 (by omega)), if_pos b1]
          exact IH (d.1 + 1, Jn f j) (by show d.1 + 1 ≤ 9; omega) (by show Jn f j ≤ 40; omega)
        · rw [if_neg (nI_nlt (by omega) (by omega)), if_neg b1]
          by_cases b2 : d.1 + 1 = x.1
          · rw [if_pos (by rw [b2]), if_pos b2]
            by_cases b3 : x.2 ≤ Jn f j
            · rw [if_pos (nI_le b3 (by omega)), if_pos b3]
              exact IH x h3 h4
            · rw [if_neg (nI_ge (by omega) (by omega)), if_neg b3]
              exact IH (d.1 + 1, Jn f j) (by show d.1 + 1 ≤ 9; omega) (by show Jn f j ≤ 40; omega)
          · rw [if_neg (fun q => b2 ((nI_eq (by omega) (by omega)).mp q)), if_neg b2]
            exact IH x h3 h4
    · have hb' : S.testBit j = false := by cases hc : S.testBit j with | true => exact absurd hc hb | false => rfl
      rw [if_pos ((z_hasI M (by omega) (by omega)).mpr hb'), if_neg hb]
      exact c_ffL h hc hc2 hS0 hS hT m m' (j + 1) x (by omega) (by omega) h3 h4
  | 0, 0, _, _, _, h2, _, _ => by omega
  | m + 1, 0, _, _, _, h2, _, _ => by omega
theorem c_dpL (hc : 9 ≤ cap) (hc2 : cap ≤ 40) (hw : WF N f) : ∀ (m m' S : Nat) (M : fM), SW N M 1 f → 1 ≤ S → S + m = 2 ^ (f 3).toNatClampNeg → m < m' → (∀ T, T < S → M 291 T = nI (dpF (Jn f) (f 3).toNatClampNeg cap T).1 ∧ M 293 T = nI (dpF (Jn f) (f 3).toNatClampNeg cap T).2) →
    ∃ M', l_X2_leastBySets 12 (nI cap) M m' S (nI (2 ^ (f 3).toNatClampNeg - 1)) = (nI (dpF (Jn f) (f 3).toNatClampNeg cap (2 ^ (f 3).toNatClampNeg - 1)).1, M') ∧ ∀ a, a ≠ 291 → a ≠ 293 → M' a = M a
  | 0, m' + 1, S, M, h, h0, h1, h2, hT => by
    have hn := hw.lots.2
    have h8 := pow_le8 hn
    have t := (hT (2 ^ (f 3).toNatClampNeg - 1) (by omega)).1
    rw [l_X2_leastBySets, if_pos (nI_lt (by omega) (by omega)), rget_in (by omega) (by decide)]
    exact ⟨M, by rw [show (290 : Nat) + 1 = 291 from rfl, t], fun _ _ _ => rfl⟩
  | m + 1, m' + 1, S, M, h, h0, h1, h2, hT => by
    have hn := hw.lots.2
    have h8 := pow_le8 hn
    obtain ⟨d1, d2⟩ := dpF_bd (J := Jn f) (cap := cap) hn (hw.jarc hc) (S := S) (by omega)
    have hff := dpF_ff (J := Jn f) (n := (f 3).toNatClampNeg) (cap := cap) hn (S := S) (by omega) (by omega)
    have e : m_X2_findFor M (nI S) 12 (nI cap) = fst1 (fst1 M 291 S (nI (dpF (Jn f) (f 3).toNatClampNeg cap S).1)) 293 S (nI (dpF (Jn f) (f 3).toNatClampNeg cap S).2) := by
      have e2 := c_ffL h hc hc2 (S := S) (by omega) (by omega) hT (f 3).toNatClampNeg 301 0 (9, 0) (by omega) (by omega) (by decide) (by decide)
      rw [m_X2_findFor]
      rw [← hff] at e2
      rw [rset_in (M := M) (by omega) (by decide), rset_in (by omega) (by decide)] at e2
      exact e2
    rw [l_X2_leastBySets, if_neg (nI_nlt (by omega) (by omega)), e]
    obtain ⟨M', q1, q2⟩ := c_dpL hc hc2 hw m m' (S + 1) (fst1 (fst1 M 291 S (nI (dpF (Jn f) (f 3).toNatClampNeg cap S).1)) 293 S (nI (dpF (Jn f) (f 3).toNatClampNeg cap S).2)) (h.ext fun a a1 a2 => by rw [fst1_ne (by omega), fst1_ne (by omega)]) (by omega) (by omega) (by omega) (fun T hT2 => by
      by_cases eT : T = S
      · subst eT
        rw [fst1_ne (show 291 ≠ 293 by decide), fst1_at, fst1_at]
        exact ⟨rfl, rfl⟩
      · rw [fst1_ne (show 291 ≠ 293 by decide), fst1_nj eT, fst1_nj eT, fst1_ne (show 293 ≠ 291 by decide)]
        exact hT T (by omega))
    exact ⟨M', q1, fun a a1 a2 => by rw [q2 a a1 a2, fst1_ne a2, fst1_ne a1]⟩
  | 0, 0, _, _, _, _, _, h2, _ => by omega
  | m + 1, 0, _, _, _, _, _, h2, _ => by omega
theorem allL (h : WF N f) : ((1 : Int32) <<< (f 3 &&& 31)) - (1 : Int32) = nI (2 ^ (f 3).toNatClampNeg - 1) := by
  have hn := h.lots.2
  have e2 := z_one (k := (f 3).toNatClampNeg) (by omega)
  rw [← h.lots.1] at e2
  have := Nat.two_pow_pos (f 3).toNatClampNeg
  rw [e2, show (1 : Int32) = nI 1 from rfl, pk_sub (by omega)]
theorem c_dp (h : SW N M 1 f) (hc : 9 ≤ cap) (hc2 : cap ≤ 40) : r_X2_leastBySets M 12 (nI cap) = nI (dpF (Jn f) (f 3).toNatClampNeg cap (2 ^ (f 3).toNatClampNeg - 1)).1 ∧ ∀ a, a ≠ 291 → a ≠ 293 → m_X2_leastBySets M 12 (nI cap) a = M a := by
  have hn := h.2.lots.2
  have h8 := pow_le8 hn
  have hp := Nat.two_pow_pos (f 3).toNatClampNeg
  have e0 : rset (rset M 290 256 (0 : Int32) (0 : Int32)) 292 256 (0 : Int32) (nI cap) = fst1 (fst1 M 291 0 0) 293 0 (nI cap) := by
    rw [← nI_0, rset_in (M := M) (by omega) (by decide), rset_in (by omega) (by decide)]
  obtain ⟨M', q1, q2⟩ := c_dpL hc hc2 h.2 (2 ^ (f 3).toNatClampNeg - 1) 301 1 (fst1 (fst1 M 291 0 0) 293 0 (nI cap)) (h.ext fun a a1 a2 => by rw [fst1_ne (by omega), fst1_ne (by omega)]) (by omega) (by omega) (by omega) (fun T hT => by
    have : T = 0 := by omega
    subst this
    rw [fst1_ne (show 291 ≠ 293 by decide), fst1_at, fst1_at]
    exact ⟨rfl, rfl⟩)
  have e3 : M 12 6 = f 3 := h.1.2.2.2.1.1
  rw [r_X2_leastBySets, m_X2_leastBySets, e0, e3, allL h.2, q1]
  exact ⟨rfl, fun a a1 a2 => by show M' a = M a; rw [q2 a a1 a2, fst1_ne a2, fst1_ne a1]⟩
/-! ===== the model's table ===== -/
def ms (x : Nat × Nat) : Nat := 100 * x.1 + x.2
def msR (x : Nat × Nat) (v : Nat) : Prop := (v = ms x ∧ x.1 ≤ 8 ∧ x.2 ≤ 40) ∨ (x = (9, 0) ∧ v = 100000)
theorem msR_step {c x : Nat × Nat} {v : Nat} (h1 : c.1 ≤ 8) (h2 : c.2 ≤ 40) (h : msR x v) : msR (pbt c x) (if ms c ≤ v then ms c else v) := by
  unfold pbt
  rcases h with ⟨e1, e2, e3⟩ | ⟨e1, e2⟩
  · subst e1
    unfold ms
    by_cases b1 : c.1 < x.1
    · rw [if_pos b1, if_pos (by omega)]; exact Or.inl ⟨rfl, h1, h2⟩
    · rw [if_neg b1]
      by_cases b2 : c.1 = x.1
      · rw [if_pos b2]
        by_cases b3 : x.2 ≤ c.2
        · rw [if_pos b3]
          by_cases b4 : x.2 = c.2
          · rw [if_pos (by omega)]; exact Or.inl ⟨by unfold ms; omega, e2, e3⟩
          · rw [if_neg (by omega)]; exact Or.inl ⟨rfl, e2, e3⟩
        · rw [if_neg b3, if_pos (by omega)]; exact Or.inl ⟨rfl, h1, h2⟩
      · rw [if_neg b2, if_neg (by omega)]; exact Or.inl ⟨rfl, e2, e3⟩
  · subst e1; subst e2
    rw [if_pos (show c.1 < (9, 0).1 by show c.1 < 9; omega), if_pos (by unfold ms; omega)]
    exact Or.inl ⟨rfl, h1, h2⟩
/-- what stands in the model's table for a set -/
def msT (f : Nat → Int32) (cap T : Nat) : Nat := if T = 0 then 0 else ms (dpF (Jn f) (f 3).toNatClampNeg cap T)
theorem m_ffL (hw : WF N f) (av : Int32) (hc : 9 ≤ cap) (hc2 : cap ≤ 40) {S : Nat} (hS0 : 0 < S) (hS : S < 2 ^ (f 3).toNatClampNeg) : ∀ (m m' j v : Nat) (x : Nat × Nat) (W : fM), W 297 = f → (∀ T, T < S → W 304 T = nI (msT f cap T)) → W 304 S = nI v → msR x v → j + m = (f 3).toNatClampNeg → m < m' →
    ∃ v', msR (ffD (Jn f) (dpF (Jn f) (f 3).toNatClampNeg cap) cap S m j x) v' ∧ (l_X12_cratesI (nI cap) av (nI S) W m' j) 304 S = nI v' ∧ (∀ T, T ≠ S → (l_X12_cratesI (nI cap) av (nI S) W m' j) 304 T = W 304 T) ∧ ∀ a, a ≠ 304 → (l_X12_cratesI (nI cap) av (nI S) W m' j) a = W a
  | 0, m' + 1, j, v, x, W, hW, hT, hv, hx, h1, h2 => by
    rw [l_X12_cratesI, cl_3, hW, if_pos (le3 hw (by omega)), ffD]
    exact ⟨v, hx, hv, fun _ _ => rfl, fun _ _ => rfl⟩
  | m + 1, m' + 1, j, v, x, W, hW, hT, hv, hx, h1, h2 => by
    have hn := hw.lots.2
    have hS8 : S < 256 := Nat.lt_of_lt_of_le hS (pow_le8 hn)
    have hj : j < (f 3).toNatClampNeg := by omega
    have hv2 : v ≤ 100000 := by
      rcases hx with ⟨e1, e2, e3⟩ | ⟨-, e2⟩
      · unfold ms at e1; omega
      · omega
    rw [l_X12_cratesI, cl_3, if_neg (show ¬ W 297 3 ≤ nI j by rw [hW]; exact nle3 hw hj), ffD]
    by_cases hb : S.testBit j = true
    · have ht := (bt_take S hS8 j (by omega) hb).1
      have hsb := bt_sub S hS8 j (by omega) hb
      have h2j := Nat.two_pow_pos j
      obtain ⟨d1, d2⟩ := dpF_bd (J := Jn f) (cap := cap) hn (hw.jarc hc) (S := S - 2 ^ j) (by omega)
      obtain ⟨j1, j2, j3⟩ := hw.jar hj
      have eo : ((nI S ^^^ ((1 : Int32) <<< (nI j &&& 31)))).toNatClampNeg = S - 2 ^ j := by rw [z_one (by omega), z_xor, bt_xor S hS8 j (by omega) hb, nI_clamp (by omega)]
      have hh : W 304 (S - 2 ^ j) = nI (msT f cap (S - 2 ^ j)) := hT _ (by omega)
      have hy : r_X12_by W (nI j) 1 = nI (Jn f j) := by rw [m_by hW (w := 1) (by omega) (by omega) 1 rfl, j1]
      have step : ∀ c : Nat × Nat, c.1 ≤ 8 → c.2 ≤ 40 → ∃ v', msR (ffD (Jn f) (dpF (Jn f) (f 3).toNatClampNeg cap) cap S m (j + 1) (pbt c x)) v' ∧ (l_X12_cratesI (nI cap) av (nI S) (fst1 W 304 S (nI (if ms c ≤ v then ms c else v))) m' (j + 1)) 304 S = nI v' ∧ (∀ T, T ≠ S → (l_X12_cratesI (nI cap) av (nI S) (fst1 W 304 S (nI (if ms c ≤ v then ms c else v))) m' (j + 1)) 304 T = W 304 T) ∧ ∀ a, a ≠ 304 → (l_X12_cratesI (nI cap) av (nI S) (fst1 W 304 S (nI (if ms c ≤ v then ms c else v))) m' (j + 1)) a = W a := fun c c1 c2 => by
        obtain ⟨v', q1, q2, q3, q4⟩ := m_ffL hw av hc hc2 hS0 hS m m' (j + 1) (if ms c ≤ v then ms c else v) (pbt c x) (fst1 W 304 S (nI (if ms c ≤ v then ms c else v))) ((fst1_ne (by decide)).trans hW) (fun T hT2 => by rw [fst1_nj (by omega)]; exact hT T hT2) (fst1_at _ _ _ _) (msR_step c1 c2 hx) (by omega) (by omega)
        exact ⟨v', q1, q2, fun T hT2 => by rw [q3 T hT2, fst1_nj hT2], fun a ha => by rw [q4 a ha, fst1_ne ha]⟩
      have lst : ∀ y, y ≤ 1000 → r_X12_least W (nI v) (nI y) = nI (if y ≤ v then y else v) := fun y hy => by
        rw [r_X12_least]
        by_cases q : y ≤ v
        · rw [if_pos (nI_le q (by omega)), if_pos q]
        · rw [if_neg (nI_ge (by omega) (by omega)), if_neg q]
      rw [if_pos hb, if_neg (fun q => by rw [z_bitI (by omega) (by omega)] at q; rw [q] at hb; cases hb), eo, hh]
      have st0 := step
      rw [msT]
      by_cases hz : S - 2 ^ j = 0
      · rw [hz] at d1 d2 ⊢
        have hD : dpF (Jn f) (f 3).toNatClampNeg cap 0 = (0, cap) := rfl
        rw [if_pos rfl, if_pos nI_0, hD, pst, if_neg (show ¬ ((0, cap) : Nat × Nat).2 + Jn f j ≤ cap by show ¬ cap + Jn f j ≤ cap; omega)]
        have ha : a0_X12_crates W (nI S) j = fst1 W 304 S (nI (if ms (0 + 1, Jn f j) ≤ v then ms (0 + 1, Jn f j) else v)) := by
          rw [a0_X12_crates, eo, hz, hT 0 hS0, msT, if_pos rfl, hy, nI_clamp (by omega), hv, show (100 : Int32) = nI 100 from rfl, pk_div (by omega) (by omega) (by omega), nI_1, pk_mul, nI_add, lst _ (by omega)]
          rfl
        rw [ha]
        exact step (0 + 1, Jn f j) (by show 0 + 1 ≤ 8; omega) (by show Jn f j ≤ 40; omega)
      · have hpos : 0 < ms (dpF (Jn f) (f 3).toNatClampNeg cap (S - 2 ^ j)) := by
          obtain ⟨g1, g2, -⟩ := pDP_has (dpF_ok (cap := cap) hn (hw.jarc hc)) hn (hw.jarc hc) _ _ (Nat.le_refl _) (show 0 < S - 2 ^ j by omega) (by omega)
          unfold ms; omega
        have hmT : msT f cap (S - 2 ^ j) = ms (dpF (Jn f) (f 3).toNatClampNeg cap (S - 2 ^ j)) := by rw [msT, if_neg hz]
        rw [hmT] at hh
        have hms : ms (dpF (Jn f) (f 3).toNatClampNeg cap (S - 2 ^ j)) = 100 * (dpF (Jn f) (f 3).toNatClampNeg cap (S - 2 ^ j)).1 + (dpF (Jn f) (f 3).toNatClampNeg cap (S - 2 ^ j)).2 := rfl
        rw [if_neg hz, if_neg (nI_ne0 hpos (by omega)), hy, show (100 : Int32) = nI 100 from rfl, pk_rem (by omega) (by omega) (by omega), nI_add, show ms (dpF (Jn f) (f 3).toNatClampNeg cap (S - 2 ^ j)) % 100 = (dpF (Jn f) (f 3).toNatClampNeg cap (S - 2 ^ j)).2 by omega]
        have ha0 : a0_X12_crates W (nI S) j = fst1 W 304 S (nI (if ms ((dpF (Jn f) (f 3).toNatClampNeg cap (S - 2 ^ j)).1 + 1, Jn f j) ≤ v then ms ((dpF (Jn f) (f 3).toNatClampNeg cap (S - 2 ^ j)).1 + 1, Jn f j) else v)) := by
          rw [a0_X12_crates, eo, hh, hy, nI_clamp (by omega), hv, show (100 : Int32) = nI 100 from rfl, pk_div (by omega) (by omega) (by omega), nI_1, pk_mul, nI_add, lst _ (by omega), show ms (dpF (Jn f) (f 3).toNatClampNeg cap (S - 2 ^ j)) / 100 = (dpF (Jn f) (f 3).toNatClampNeg cap (S - 2 ^ j)).1 by omega]
          rfl
        have ha1 : a1_X12_crates W (nI S) j = fst1 W 304 S (nI (if ms ((dpF (Jn f) (f 3).toNatClampNeg cap (S - 2 ^ j)).1, (dpF (Jn f) (f 3).toNatClampNeg cap (S - 2 ^ j)).2 + Jn f j) ≤ v then ms ((dpF (Jn f) (f 3).toNatClampNeg cap (S - 2 ^ j)).1, (dpF (Jn f) (f 3).toNatClampNeg cap (S - 2 ^ j)).2 + Jn f j) else v)) := by
          have e5 : ms (dpF (Jn f) (f 3).toNatClampNeg cap (S - 2 ^ j)) + Jn f j = ms ((dpF (Jn f) (f 3).toNatClampNeg cap (S - 2 ^ j)).1, (dpF (Jn f) (f 3).toNatClampNeg cap (S - 2 ^ j)).2 + Jn f j) := by
            show ms _ + Jn f j = 100 * (dpF (Jn f) (f 3).toNatClampNeg cap (S - 2 ^ j)).1 + ((dpF (Jn f) (f 3).toNatClampNeg cap (S - 2 ^ j)).2 + Jn f j)
            omega
          rw [a1_X12_crates, eo, hh, hy, nI_clamp (by omega), hv, nI_add, lst _ (by omega), e5]
        rw [pst]
        by_cases hr : (dpF (Jn f) (f 3).toNatClampNeg cap (S - 2 ^ j)).2 + Jn f j ≤ cap
        · rw [if_pos (nI_le hr (by omega)), if_pos hr, ha1]
          exact step _ d1 (by show (dpF (Jn f) (f 3).toNatClampNeg cap (S - 2 ^ j)).2 + Jn f j ≤ 40; omega)
        · rw [if_neg (nI_ge (by omega) (by omega)), if_neg hr, ha0]
          have hb8 : (dpF (Jn f) (f 3).toNatClampNeg cap (S - 2 ^ j)).1 + 1 ≤ 8 := by
            have hp := bt_pc S hS8 j (by omega) hb
            have hq := (dpT_bd (J := Jn f) (cap := cap) hn (hw.jarc hc) (S - 2 ^ j) (S - 2 ^ j) (Nat.le_refl _) (by omega)).1
            have hq : (dpF (Jn f) (f 3).toNatClampNeg cap (S - 2 ^ j)).1 ≤ pc (S - 2 ^ j) := hq
            have := pc_le8 S
            omega
          exact step _ hb8 (by show Jn f j ≤ 40; omega)
    · have hb' : S.testBit j = false := by cases hc : S.testBit j with | true => exact absurd hc hb | false => rfl
      rw [if_neg hb, if_pos ((z_bitI (by omega) (by omega)).mpr hb')]
      exact m_ffL hw av hc hc2 hS0 hS m m' (j + 1) v x W hW hT hv hx (by omega) (by omega)
  | 0, 0, _, _, _, _, _, _, _, _, _, h2 => by omega
  | m + 1, 0, _, _, _, _, _, _, _, _, _, h2 => by omega
theorem m_dpL (hw : WF N f) (hc : 9 ≤ cap) (hc2 : cap ≤ 40) : ∀ (m m' S : Nat) (W : fM), W 297 = f → 1 ≤ S → S + m = 2 ^ (f 3).toNatClampNeg → m < m' → (∀ T, T < S → W 304 T = nI (msT f cap T)) →
    (l_X12_cratesO (nI cap) (nI (2 ^ (f 3).toNatClampNeg - 1)) W m' S) 304 (2 ^ (f 3).toNatClampNeg - 1) = nI (msT f cap (2 ^ (f 3).toNatClampNeg - 1)) ∧ ∀ a, a ≠ 304 → (l_X12_cratesO (nI cap) (nI (2 ^ (f 3).toNatClampNeg - 1)) W m' S) a = W a
  | 0, m' + 1, S, W, hW, h0, h1, h2, hT => by
    have hn := hw.lots.2
    have h8 := pow_le8 hn
    rw [l_X12_cratesO, if_pos (nI_lt (by omega) (by omega))]
    exact ⟨hT _ (by omega), fun _ _ => rfl⟩
  | m + 1, m' + 1, S, W, hW, h0, h1, h2, hT => by
    have hn := hw.lots.2
    have h8 := pow_le8 hn
    have hff := dpF_ff (J := Jn f) (n := (f 3).toNatClampNeg) (cap := cap) hn (S := S) (by omega) (by omega)
    obtain ⟨d1, d2⟩ := dpF_bd (J := Jn f) (cap := cap) hn (hw.jarc hc) (S := S) (by omega)
    obtain ⟨v', q1, q2, q3, q4⟩ := m_ffL hw (nI (2 ^ (f 3).toNatClampNeg - 1)) hc hc2 (S := S) (by omega) (by omega) (f 3).toNatClampNeg 9 0 100000 (9, 0) (fst1 W 304 S (100000 : Int32)) ((fst1_ne (by decide)).trans hW) (fun T hT2 => by rw [fst1_nj (by omega)]; exact hT T hT2) (fst1_at _ _ _ _) (Or.inr ⟨rfl, rfl⟩) (by omega) (by omega)
    rw [← hff] at q1
    have hv : v' = msT f cap S := by
      rw [msT, if_neg (by omega)]
      rcases q1 with ⟨e1, -, -⟩ | ⟨e1, -⟩
      · exact e1
      · rw [e1] at d1; exact absurd d1 (by decide)
    rw [l_X12_cratesO, if_neg (nI_nlt (by omega) (by omega)), nI_clamp (by omega)]
    obtain ⟨r1, r2⟩ := m_dpL hw hc hc2 m m' (S + 1) (l_X12_cratesI (nI cap) (nI (2 ^ (f 3).toNatClampNeg - 1)) (nI S) (fst1 W 304 S (100000 : Int32)) 9 0) ((q4 297 (by decide)).trans ((fst1_ne (by decide)).trans hW)) (by omega) (by omega) (by omega) (fun T hT2 => by
      by_cases e : T = S
      · rw [e, q2, hv]
      · rw [q3 T e, fst1_nj e]; exact hT T (by omega))
    exact ⟨r1, fun a ha => by rw [r2 a ha, q4 a ha, fst1_ne ha]⟩
  | 0, 0, _, _, _, _, _, h2, _ => by omega
  | m + 1, 0, _, _, _, _, _, h2, _ => by omega
theorem m_dp (hW : W 297 = f) (hw : WF N f) (hc : 9 ≤ cap) (hc2 : cap ≤ 40) : r_X12_crates W (nI cap) = nI (dpF (Jn f) (f 3).toNatClampNeg cap (2 ^ (f 3).toNatClampNeg - 1)).1 ∧ Sm W (m_X12_crates W (nI cap)) ∧ m_X12_crates W (nI cap) 296 7 = 0 ∧ m_X12_crates W (nI cap) 306 = W 306 := by
  have hn := hw.lots.2
  have h8 := pow_le8 hn
  have hp := Nat.two_pow_pos (f 3).toNatClampNeg
  have hin : r_X12_in W (nI cap) 9 40 = 1 := by
    rw [in_nI (lo := 9) (n := 40) 9 rfl 40 rfl (by decide) (by decide)]
    exact exd_pos ⟨cap, rfl, hc, hc2⟩
  have eW : (fst1 (fst1 W 296 7 (0 : Int32)) 304 ((0 : Int32)).toNatClampNeg (0 : Int32)) 297 = f := (fst1_ne (by decide)).trans (w7.trans hW)
  obtain ⟨r1, r2⟩ := m_dpL hw hc hc2 (2 ^ (f 3).toNatClampNeg - 1) 257 1 (fst1 (fst1 W 296 7 (0 : Int32)) 304 ((0 : Int32)).toNatClampNeg (0 : Int32)) eW (by omega) (by omega) (by omega) (fun T hT => by
    have : T = 0 := by omega
    subst this
    rw [cl_0, fst1_at]
    rfl)
  have ea : a2_X12_crates W (nI cap) = l_X12_cratesO (nI cap) (nI (2 ^ (f 3).toNatClampNeg - 1)) (fst1 (fst1 W 296 7 (0 : Int32)) 304 ((0 : Int32)).toNatClampNeg (0 : Int32)) 257 1 := by
    rw [a2_X12_crates, cl_3, eW, allL hw]
  rw [r_X12_crates, m_X12_crates, hin, if_neg z_n1, if_neg z_n1, ea, cl_3, eW, allL hw, nI_clamp (by omega), r1]
  refine ⟨?_, ?_, ?_, ?_⟩
  · obtain ⟨d1, d2⟩ := dpF_bd (J := Jn f) (cap := cap) hn (hw.jarc hc) (S := 2 ^ (f 3).toNatClampNeg - 1) (by omega)
    rw [msT]
    by_cases e : 2 ^ (f 3).toNatClampNeg - 1 = 0
    · rw [if_pos e, e]
      rfl
    · have hm : ms (dpF (Jn f) (f 3).toNatClampNeg cap (2 ^ (f 3).toNatClampNeg - 1)) = 100 * (dpF (Jn f) (f 3).toNatClampNeg cap (2 ^ (f 3).toNatClampNeg - 1)).1 + (dpF (Jn f) (f 3).toNatClampNeg cap (2 ^ (f 3).toNatClampNeg - 1)).2 := rfl
      rw [if_neg e, show (100 : Int32) = nI 100 from rfl, pk_div (by omega) (by omega) (by omega)]
      congr 1
      omega
  · refine Sm.tr (Sm.tr (Sm.code (x := 0)) (Sm.out (k := 304) (j := ((0 : Int32)).toNatClampNeg) (x := 0) (by unfold mcell; omega) (by decide) (by decide) (by decide) (by decide))) ?_
    exact ⟨fun a ha => r2 a (by unfold mcell at ha; omega), ⟨by rw [r2 0 (by decide)], by rw [r2 0 (by decide)], by rw [r2 0 (by decide)]⟩, ⟨by rw [r2 273 (by decide)], by rw [r2 277 (by decide)]⟩, by rw [r2 296 (by decide)], by rw [r2 296 (by decide)], by rw [r2 296 (by decide)], by rw [r2 296 (by decide)], by rw [r2 296 (by decide)], by rw [r2 296 (by decide)], by rw [r2 296 (by decide)]⟩
  · rw [r2 296 (by decide), fst1_ne (by decide), fst1_at]
  · rw [r2 306 (by decide), fst1_ne (by decide), fst1_ne (by decide)]
theorem N_dp (hW : W 297 = f) (hw : WF N f) (x : Int32) : N_X12_crates W x := by
  have hn := hw.lots.2
  have h8 := pow_le8 hn
  have hp := Nat.two_pow_pos (f 3).toNatClampNeg
  have eW : (fst1 (fst1 W 296 7 (0 : Int32)) 304 ((0 : Int32)).toNatClampNeg (0 : Int32)) 297 = f := (fst1_ne (by decide)).trans (w7.trans hW)
  have key : ∀ (V : fM) (j : Nat), V 297 = f → j ≤ 8 → ¬ (V 297 ((3 : Int32)).toNatClampNeg ≤ nI j) → j < 8 := fun V j hV h1 h2 => by
    rw [cl_3, hV] at h2
    have := lt3 hw (by omega) h2
    omega
  unfold N_X12_crates
  rw [cl_3, eW, allL hw]
  refine ⟨fun _ => ⟨fun _ V => V 297 = f, eW, fun j V h1 hV h2 => ?_, fun j V h1 hV h2 => ?_, fun j V h1 hV h2 => ?_⟩, fun _ => vp_in_nI (by omega) (by decide)⟩
  · have : j ≤ 2 ^ (f 3).toNatClampNeg - 1 := Nat.le_of_not_lt fun q => h2 (nI_lt q (by omega))
    omega
  · have hj : j ≤ 2 ^ (f 3).toNatClampNeg - 1 := Nat.le_of_not_lt fun q => h2 (nI_lt q (by omega))
    have xin : ∀ i, i < 8 → vp_in (nI j ^^^ ((1 : Int32) <<< (nI i &&& 31))) 256 := fun i hi => by
      rw [z_one (by omega), z_xor]
      exact vp_in_nI (bt_xlt j (by omega) i hi) (by decide)
    have jin : vp_in (nI j) 256 := vp_in_nI (by omega) (by decide)
    refine ⟨fun _ V => V 297 = f, (fst1_ne (by decide)).trans hV, fun i V i1 hV i2 => key V i hV i1 i2, fun i V i1 hV i2 _ => xin i (key V i hV i1 i2), fun i V i1 hV i2 _ _ => jin, fun i V i1 hV i2 _ _ => Nby_nI (w := 1) (by have := key V i hV i1 i2; omega) 1 rfl, fun i V i1 hV i2 _ _ => (fst1_ne (by decide)).trans hV, fun i V i1 hV i2 _ _ => Nby_nI (w := 1) (by have := key V i hV i1 i2; omega) 1 rfl, fun i V i1 hV i2 _ _ _ => jin, fun i V i1 hV i2 _ _ _ => Nby_nI (w := 1) (by have := key V i hV i1 i2; omega) 1 rfl, fun i V i1 hV i2 _ _ _ => (fst1_ne (by decide)).trans hV, fun i V i1 hV i2 _ _ _ => jin, fun i V i1 hV i2 _ _ _ => Nby_nI (w := 1) (by have := key V i hV i1 i2; omega) 1 rfl, fun i V i1 hV i2 _ _ _ => (fst1_ne (by decide)).trans hV, fun i V i1 hV i2 _ => hV⟩
  · have keep : ∀ (m i : Nat) (V : fM), (l_X12_cratesI x (nI (2 ^ (f 3).toNatClampNeg - 1)) (nI j) V m i) 297 = V 297 := by
      intro m
      induction m with
      | zero => intro i V; rfl
      | succ m ih =>
        intro i V
        rw [l_X12_cratesI]
        split
        · rfl
        · split
          · exact ih _ _
          · split
            · exact (ih _ _).trans (fst1_ne (by decide))
            · split
              · exact (ih _ _).trans (fst1_ne (by decide))
              · exact (ih _ _).trans (fst1_ne (by decide))
    exact (keep _ _ _).trans ((fst1_ne (by decide)).trans hV)
end CRT
