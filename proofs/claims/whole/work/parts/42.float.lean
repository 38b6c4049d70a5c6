/-! ===== floats: never a NaN here ===== -/
section FLT
theorem fl32_c : FP.Core.b32.tails = 8388608 ∧ FP.Core.b32.exps = 256 ∧ FP.Core.b32.qmin = -149 ∧ FP.Core.b32.qmax = 104 ∧ (FP.Core.b32.p : Int) = 24 ∧ 2 ^ FP.Core.b32.p = 16777216 := by decide
theorem fl32_asm {s : Bool} {e t : Nat} (he : e ≤ 255) (ht : t < 8388608) (h : e = 255 → t = 0) : FP.Core.assemble FP.Core.b32 s e t < 4294967296 ∧ FP.Core.assemble FP.Core.b32 s e t % 2147483648 ≤ 2139095040 ∧ FP.Core.fieldE FP.Core.b32 (FP.Core.assemble FP.Core.b32 s e t) = e ∧ FP.Core.fieldT FP.Core.b32 (FP.Core.assemble FP.Core.b32 s e t) = t := by
  unfold FP.Core.assemble FP.Core.fieldE FP.Core.fieldT
  rw [fl32_c.1, fl32_c.2.1]
  cases s with
  | false =>
    show (0 * 256 + e) * 8388608 + t < 4294967296 ∧ ((0 * 256 + e) * 8388608 + t) % 2147483648 ≤ 2139095040 ∧ ((0 * 256 + e) * 8388608 + t) / 8388608 % 256 = e ∧ ((0 * 256 + e) * 8388608 + t) % 8388608 = t
    omega
  | true =>
    show (1 * 256 + e) * 8388608 + t < 4294967296 ∧ ((1 * 256 + e) * 8388608 + t) % 2147483648 ≤ 2139095040 ∧ ((1 * 256 + e) * 8388608 + t) / 8388608 % 256 = e ∧ ((1 * 256 + e) * 8388608 + t) % 8388608 = t
    omega
def flO32 (d : FP.Core.Datum) : Prop := (∃ s, d = .inf s) ∨ ∃ s c q, d = .fin s c q ∧ c < 16777216 ∧ q ≤ 104
theorem fl32_enc {d : FP.Core.Datum} (h : flO32 d) : ∃ s e t, FP.Core.encode FP.Core.b32 d = FP.Core.assemble FP.Core.b32 s e t ∧ e ≤ 255 ∧ t < 8388608 ∧ (e = 255 → t = 0) ∧ (∀ s c q, d = .fin s c q → e < 255 ∧ (c ≠ 0 → e ≠ 0 ∨ t ≠ 0)) := by
  rcases h with ⟨s, rfl⟩ | ⟨s, c, q, rfl, h1, h2⟩
  · refine ⟨s, 255, 0, ?_, by omega, by omega, fun _ => rfl, fun s c q h => by cases h⟩
    show FP.Core.assemble FP.Core.b32 s (FP.Core.b32.exps - 1) 0 = _
    rw [fl32_c.2.1]
  · by_cases hc : c < 8388608
    · refine ⟨s, 0, c, ?_, by omega, hc, fun h => by omega, fun s' c' q' h => ?_⟩
      · show (if c < FP.Core.b32.tails then FP.Core.assemble FP.Core.b32 s 0 c else _) = _
        rw [fl32_c.1, if_pos hc]
      · cases h
        exact ⟨by omega, fun h => Or.inr h⟩
    · refine ⟨s, (q - FP.Core.b32.qmin).toNat + 1, c - 8388608, ?_, ?_, by omega, fun h => ?_, fun s' c' q' h => ?_⟩
      · show (if c < FP.Core.b32.tails then _ else FP.Core.assemble FP.Core.b32 s ((q - FP.Core.b32.qmin).toNat + 1) (c - FP.Core.b32.tails)) = _
        rw [fl32_c.1, if_neg hc]
      · rw [fl32_c.2.2.1]; omega
      · rw [fl32_c.2.2.1] at h; omega
      · rw [fl32_c.2.2.1]; exact ⟨by omega, fun _ => Or.inl (by omega)⟩
theorem fl32_rr (s : Bool) (a b : Nat) (e : Int) : flO32 (FP.Core.roundRatio FP.Core.b32 s a b e) := by
  have hb : ∀ (s : Bool) (c : Nat) (q : Int), c < 16777216 → flO32 (FP.Core.bound FP.Core.b32 s c q) := fun s c q hc => by
    unfold FP.Core.bound
    rw [fl32_c.2.2.2.1]
    by_cases h : q ≤ 104
    · rw [if_pos h]; exact Or.inr ⟨_, _, _, rfl, hc, h⟩
    · rw [if_neg h]; exact Or.inl ⟨_, rfl⟩
  unfold FP.Core.roundRatio FP.Core.roundAt FP.Core.settle
  rw [fl32_c.2.2.1, fl32_c.2.2.2.2.2, fl32_c.1]
  by_cases h0 : a = 0
  · rw [if_pos h0]; exact Or.inr ⟨_, _, _, rfl, by omega, by omega⟩
  · rw [if_neg h0]
    by_cases h1 : FP.Core.nearest (FP.Core.unitsNum a e (FP.Core.quantum FP.Core.b32 a b e)) (FP.Core.unitsDen b e (FP.Core.quantum FP.Core.b32 a b e)) < 16777216
    · rw [if_pos h1]; exact hb _ _ _ h1
    · rw [if_neg h1]; exact hb _ _ _ (by omega)
theorem fl32_int (i : Int) (hi : i.natAbs ≤ 4294967295) : ∃ s c q, FP.Core.round FP.Core.b32 (FP.Core.ofInt i) = .fin s c q ∧ c < 16777216 ∧ q ≤ 104 ∧ (i ≠ 0 → c ≠ 0) := by
  have e1 : FP.Core.round FP.Core.b32 (FP.Core.ofInt i) = FP.Core.roundRatio FP.Core.b32 (decide (i < 0)) i.natAbs 1 0 := rfl
  rw [e1]
  unfold FP.Core.roundRatio FP.Core.roundAt
  by_cases h0 : i.natAbs = 0
  · rw [if_pos h0, fl32_c.2.2.1]
    exact ⟨_, _, _, rfl, by omega, by omega, fun q => absurd (Int.natAbs_eq_zero.mp h0) q⟩
  · rw [if_neg h0]
    have hlog : i.natAbs.log2 < 32 := (Nat.log2_lt h0).mpr (by omega)
    have hle : 2 ^ i.natAbs.log2 ≤ i.natAbs := Nat.log2_self_le h0
    have hl1 : FP.Core.leading i.natAbs 1 ≤ (i.natAbs.log2 : Int) := by
      have e0 : (i.natAbs.log2 : Int) - ((1 : Nat).log2 : Int) = (i.natAbs.log2 : Int) := by
        rw [show (1 : Nat).log2 = 0 by decide]
        exact Int.sub_zero _
      simp only [FP.Core.leading, e0]
      split
      · exact Int.le_refl _
      · omega
    have hqd : FP.Core.quantum FP.Core.b32 i.natAbs 1 0 = max (-149) (FP.Core.leading i.natAbs 1 + 0 - (24 - 1)) := by
      unfold FP.Core.quantum
      rw [fl32_c.2.2.1, fl32_c.2.2.2.2.1]
    have hq : FP.Core.quantum FP.Core.b32 i.natAbs 1 0 ≤ 40 ∧ (0 < FP.Core.quantum FP.Core.b32 i.natAbs 1 0 → FP.Core.quantum FP.Core.b32 i.natAbs 1 0 ≤ (i.natAbs.log2 : Int)) := by
      rw [hqd]; omega
    generalize FP.Core.quantum FP.Core.b32 i.natAbs 1 0 = Q at *
    have hC : FP.Core.nearest (FP.Core.unitsNum i.natAbs 0 Q) (FP.Core.unitsDen 1 0 Q) ≠ 0 := by
      have hge : ∀ A B : Nat, A / B ≤ FP.Core.nearest A B := fun A B => by
        unfold FP.Core.nearest
        split
        · exact Nat.le_refl _
        · split <;> omega
      have h1 := hge (FP.Core.unitsNum i.natAbs 0 Q) (FP.Core.unitsDen 1 0 Q)
      have h2 : 0 < FP.Core.unitsNum i.natAbs 0 Q / FP.Core.unitsDen 1 0 Q := by
        unfold FP.Core.unitsNum FP.Core.unitsDen
        rw [Nat.one_mul]
        refine Nat.div_pos ?_ (Nat.two_pow_pos _)
        by_cases hQ : 0 < Q
        · have h3 : (Q - 0).toNat ≤ i.natAbs.log2 := by have := hq.2 hQ; omega
          have h4 : 2 ^ (Q - 0).toNat ≤ 2 ^ i.natAbs.log2 := Nat.pow_le_pow_right (by decide) h3
          have h5 : (0 - Q).toNat = 0 := by omega
          rw [h5, Nat.pow_zero, Nat.mul_one]
          omega
        · have h5 : (Q - 0).toNat = 0 := by omega
          rw [h5, Nat.pow_zero]
          exact Nat.mul_pos (by omega) (Nat.two_pow_pos _)
      omega
    generalize FP.Core.nearest (FP.Core.unitsNum i.natAbs 0 Q) (FP.Core.unitsDen 1 0 Q) = C at *
    unfold FP.Core.settle FP.Core.bound
    rw [fl32_c.2.2.2.2.2, fl32_c.2.2.2.1, fl32_c.1]
    by_cases hc : C < 16777216
    · rw [if_pos hc, if_pos (by omega)]
      exact ⟨_, _, _, rfl, hc, by omega, fun _ => hC⟩
    · rw [if_neg hc, if_pos (by omega)]
      exact ⟨_, _, _, rfl, by omega, by omega, fun _ h => by omega⟩
theorem fl32_nat {n : Nat} (h : n < 4294967296) : (UInt32.ofNat n).toNat = n := UInt32.toNat_ofNat_of_lt' h
theorem fl32_ok {d : FP.Core.Datum} (h : flO32 d) : vf_n32 (UInt32.ofNat (FP.Core.encode FP.Core.b32 d)) ∧ FP.Core.decode FP.Core.b32 (UInt32.ofNat (FP.Core.encode FP.Core.b32 d)).toNat ≠ .nan := by
  obtain ⟨s, e, t, h1, h2, h3, h4, -⟩ := fl32_enc h
  obtain ⟨a1, a2, a3, a4⟩ := fl32_asm (s := s) h2 h3 h4
  rw [h1]
  have hn := fl32_nat a1
  refine ⟨?_, ?_⟩
  · unfold vf_n32
    rw [UInt32.le_iff_toNat_le, UInt32.toNat_and, hn]
    show FP.Core.assemble FP.Core.b32 s e t &&& (2 ^ 31 - 1) ≤ 2139095040
    rw [Nat.and_two_pow_sub_one_eq_mod]
    exact a2
  · rw [hn]
    unfold FP.Core.decode
    rw [a3, a4, fl32_c.2.1]
    by_cases he : e = 255
    · rw [if_pos he, if_pos (h4 he)]; exact fun h => by cases h
    · rw [if_neg he]
      by_cases h0 : e = 0
      · rw [if_pos h0]; exact fun h => by cases h
      · rw [if_neg h0]; exact fun h => by cases h
theorem fl32_dec {s : Bool} {c : Nat} {q : Int} (h1 : c < 16777216) (h2 : q ≤ 104) : ∃ s' c' q', FP.Core.decode FP.Core.b32 (UInt32.ofNat (FP.Core.encode FP.Core.b32 (.fin s c q))).toNat = .fin s' c' q' ∧ (c ≠ 0 → c' ≠ 0) := by
  obtain ⟨s0, e, t, g1, g2, g3, g4, g5⟩ := fl32_enc (d := .fin s c q) (Or.inr ⟨_, _, _, rfl, h1, h2⟩)
  obtain ⟨k1, k2⟩ := g5 _ _ _ rfl
  obtain ⟨a1, a2, a3, a4⟩ := fl32_asm (s := s0) g2 g3 g4
  rw [g1, fl32_nat a1]
  unfold FP.Core.decode
  rw [a3, a4, fl32_c.2.1, fl32_c.1, if_neg (by omega)]
  by_cases h0 : e = 0
  · rw [if_pos h0]; exact ⟨_, _, _, rfl, fun h => (k2 h).resolve_left (fun q => q h0)⟩
  · rw [if_neg h0]; exact ⟨_, _, _, rfl, fun _ h => by omega⟩
theorem fl32_abs (x : Int32) : x.toInt.natAbs ≤ 4294967295 := by
  have h1 := Int32.le_toInt x
  have h2 := Int32.toInt_lt x
  omega
theorem fl32_div {a b : Int32} (hb : b ≠ 0) : vf_n32 (FP.fdiv (FP.i2f a) (FP.i2f b)) ∧ FP.Core.decode FP.Core.b32 (FP.fdiv (FP.i2f a) (FP.i2f b)).toNat ≠ .nan := by
  have hb' : b.toInt ≠ 0 := fun h => hb (Int32.toInt_inj.mp (h.trans Int32.toInt_zero.symm))
  obtain ⟨s1, c1, q1, r1, r2, r3, -⟩ := fl32_int a.toInt (fl32_abs a)
  obtain ⟨s2, c2, q2, t1, t2, t3, t4⟩ := fl32_int b.toInt (fl32_abs b)
  obtain ⟨s3, c3, q3, u1, -⟩ := fl32_dec (s := s1) r2 r3
  obtain ⟨s4, c4, q4, v1, v2⟩ := fl32_dec (s := s2) t2 t3
  have e1 : FP.Core.decode FP.Core.b32 (FP.Core.i2f a).toNat = .fin s3 c3 q3 := by
    rw [← u1, ← r1]; rfl
  have e2 : FP.Core.decode FP.Core.b32 (FP.Core.i2f b).toNat = .fin s4 c4 q4 := by
    rw [← v1, ← t1]; rfl
  have e3 : FP.fdiv (FP.i2f a) (FP.i2f b) = UInt32.ofNat (FP.Core.encode FP.Core.b32 (FP.Core.quotient FP.Core.b32 (.fin s3 c3 q3) (.fin s4 c4 q4))) := by
    rw [← e1, ← e2]; rfl
  have e4 : FP.Core.quotient FP.Core.b32 (.fin s3 c3 q3) (.fin s4 c4 q4) = FP.Core.roundRatio FP.Core.b32 (s3 != s4) c3 c4 (q3 - q4) := if_neg (v2 (t4 hb'))
  rw [e3, e4]
  exact fl32_ok (fl32_rr _ _ _ _)

theorem fl64_c : FP.Core.b64.tails = 4503599627370496 ∧ FP.Core.b64.exps = 2048 ∧ FP.Core.b64.qmin = -1074 ∧ FP.Core.b64.qmax = 971 ∧ (FP.Core.b64.p : Int) = 53 ∧ 2 ^ FP.Core.b64.p = 9007199254740992 := by decide
theorem fl64_asm {s : Bool} {e t : Nat} (he : e ≤ 2047) (ht : t < 4503599627370496) (h : e = 2047 → t = 0) : FP.Core.assemble FP.Core.b64 s e t < 18446744073709551616 ∧ FP.Core.assemble FP.Core.b64 s e t % 9223372036854775808 ≤ 9218868437227405312 ∧ FP.Core.fieldE FP.Core.b64 (FP.Core.assemble FP.Core.b64 s e t) = e ∧ FP.Core.fieldT FP.Core.b64 (FP.Core.assemble FP.Core.b64 s e t) = t := by
  unfold FP.Core.assemble FP.Core.fieldE FP.Core.fieldT
  rw [fl64_c.1, fl64_c.2.1]
  cases s with
  | false =>
    show (0 * 2048 + e) * 4503599627370496 + t < 18446744073709551616 ∧ ((0 * 2048 + e) * 4503599627370496 + t) % 9223372036854775808 ≤ 9218868437227405312 ∧ ((0 * 2048 + e) * 4503599627370496 + t) / 4503599627370496 % 2048 = e ∧ ((0 * 2048 + e) * 4503599627370496 + t) % 4503599627370496 = t
    omega
  | true =>
    show (1 * 2048 + e) * 4503599627370496 + t < 18446744073709551616 ∧ ((1 * 2048 + e) * 4503599627370496 + t) % 9223372036854775808 ≤ 9218868437227405312 ∧ ((1 * 2048 + e) * 4503599627370496 + t) / 4503599627370496 % 2048 = e ∧ ((1 * 2048 + e) * 4503599627370496 + t) % 4503599627370496 = t
    omega
def flO64 (d : FP.Core.Datum) : Prop := (∃ s, d = .inf s) ∨ ∃ s c q, d = .fin s c q ∧ c < 9007199254740992 ∧ q ≤ 971
theorem fl64_enc {d : FP.Core.Datum} (h : flO64 d) : ∃ s e t, FP.Core.encode FP.Core.b64 d = FP.Core.assemble FP.Core.b64 s e t ∧ e ≤ 2047 ∧ t < 4503599627370496 ∧ (e = 2047 → t = 0) ∧ (∀ s c q, d = .fin s c q → e < 2047 ∧ (c ≠ 0 → e ≠ 0 ∨ t ≠ 0)) := by
  rcases h with ⟨s, rfl⟩ | ⟨s, c, q, rfl, h1, h2⟩
  · refine ⟨s, 2047, 0, ?_, by omega, by omega, fun _ => rfl, fun s c q h => by cases h⟩
    show FP.Core.assemble FP.Core.b64 s (FP.Core.b64.exps - 1) 0 = _
    rw [fl64_c.2.1]
  · by_cases hc : c < 4503599627370496
    · refine ⟨s, 0, c, ?_, by omega, hc, fun h => by omega, fun s' c' q' h => ?_⟩
      · show (if c < FP.Core.b64.tails then FP.Core.assemble FP.Core.b64 s 0 c else _) = _
        rw [fl64_c.1, if_pos hc]
      · cases h
        exact ⟨by omega, fun h => Or.inr h⟩
    · refine ⟨s, (q - FP.Core.b64.qmin).toNat + 1, c - 4503599627370496, ?_, ?_, by omega, fun h => ?_, fun s' c' q' h => ?_⟩
      · show (if c < FP.Core.b64.tails then _ else FP.Core.assemble FP.Core.b64 s ((q - FP.Core.b64.qmin).toNat + 1) (c - FP.Core.b64.tails)) = _
        rw [fl64_c.1, if_neg hc]
      · rw [fl64_c.2.2.1]; omega
      · rw [fl64_c.2.2.1] at h; omega
      · rw [fl64_c.2.2.1]; exact ⟨by omega, fun _ => Or.inl (by omega)⟩
theorem fl64_rr (s : Bool) (a b : Nat) (e : Int) : flO64 (FP.Core.roundRatio FP.Core.b64 s a b e) := by
  have hb : ∀ (s : Bool) (c : Nat) (q : Int), c < 9007199254740992 → flO64 (FP.Core.bound FP.Core.b64 s c q) := fun s c q hc => by
    unfold FP.Core.bound
    rw [fl64_c.2.2.2.1]
    by_cases h : q ≤ 971
    · rw [if_pos h]; exact Or.inr ⟨_, _, _, rfl, hc, h⟩
    · rw [if_neg h]; exact Or.inl ⟨_, rfl⟩
  unfold FP.Core.roundRatio FP.Core.roundAt FP.Core.settle
  rw [fl64_c.2.2.1, fl64_c.2.2.2.2.2, fl64_c.1]
  by_cases h0 : a = 0
  · rw [if_pos h0]; exact Or.inr ⟨_, _, _, rfl, by omega, by omega⟩
  · rw [if_neg h0]
    by_cases h1 : FP.Core.nearest (FP.Core.unitsNum a e (FP.Core.quantum FP.Core.b64 a b e)) (FP.Core.unitsDen b e (FP.Core.quantum FP.Core.b64 a b e)) < 9007199254740992
    · rw [if_pos h1]; exact hb _ _ _ h1
    · rw [if_neg h1]; exact hb _ _ _ (by omega)
theorem fl64_int (i : Int) (hi : i.natAbs ≤ 4294967295) : ∃ s c q, FP.Core.round FP.Core.b64 (FP.Core.ofInt i) = .fin s c q ∧ c < 9007199254740992 ∧ q ≤ 971 ∧ (i ≠ 0 → c ≠ 0) := by
  have e1 : FP.Core.round FP.Core.b64 (FP.Core.ofInt i) = FP.Core.roundRatio FP.Core.b64 (decide (i < 0)) i.natAbs 1 0 := rfl
  rw [e1]
  unfold FP.Core.roundRatio FP.Core.roundAt
  by_cases h0 : i.natAbs = 0
  · rw [if_pos h0, fl64_c.2.2.1]
    exact ⟨_, _, _, rfl, by omega, by omega, fun q => absurd (Int.natAbs_eq_zero.mp h0) q⟩
  · rw [if_neg h0]
    have hlog : i.natAbs.log2 < 32 := (Nat.log2_lt h0).mpr (by omega)
    have hle : 2 ^ i.natAbs.log2 ≤ i.natAbs := Nat.log2_self_le h0
    have hl1 : FP.Core.leading i.natAbs 1 ≤ (i.natAbs.log2 : Int) := by
      have e0 : (i.natAbs.log2 : Int) - ((1 : Nat).log2 : Int) = (i.natAbs.log2 : Int) := by
        rw [show (1 : Nat).log2 = 0 by decide]
        exact Int.sub_zero _
      simp only [FP.Core.leading, e0]
      split
      · exact Int.le_refl _
      · omega
    have hqd : FP.Core.quantum FP.Core.b64 i.natAbs 1 0 = max (-1074) (FP.Core.leading i.natAbs 1 + 0 - (53 - 1)) := by
      unfold FP.Core.quantum
      rw [fl64_c.2.2.1, fl64_c.2.2.2.2.1]
    have hq : FP.Core.quantum FP.Core.b64 i.natAbs 1 0 ≤ 40 ∧ (0 < FP.Core.quantum FP.Core.b64 i.natAbs 1 0 → FP.Core.quantum FP.Core.b64 i.natAbs 1 0 ≤ (i.natAbs.log2 : Int)) := by
      rw [hqd]; omega
    generalize FP.Core.quantum FP.Core.b64 i.natAbs 1 0 = Q at *
    have hC : FP.Core.nearest (FP.Core.unitsNum i.natAbs 0 Q) (FP.Core.unitsDen 1 0 Q) ≠ 0 := by
      have hge : ∀ A B : Nat, A / B ≤ FP.Core.nearest A B := fun A B => by
        unfold FP.Core.nearest
        split
        · exact Nat.le_refl _
        · split <;> omega
      have h1 := hge (FP.Core.unitsNum i.natAbs 0 Q) (FP.Core.unitsDen 1 0 Q)
      have h2 : 0 < FP.Core.unitsNum i.natAbs 0 Q / FP.Core.unitsDen 1 0 Q := by
        unfold FP.Core.unitsNum FP.Core.unitsDen
        rw [Nat.one_mul]
        refine Nat.div_pos ?_ (Nat.two_pow_pos _)
        by_cases hQ : 0 < Q
        · have h3 : (Q - 0).toNat ≤ i.natAbs.log2 := by have := hq.2 hQ; omega
          have h4 : 2 ^ (Q - 0).toNat ≤ 2 ^ i.natAbs.log2 := Nat.pow_le_pow_right (by decide) h3
          have h5 : (0 - Q).toNat = 0 := by omega
          rw [h5, Nat.pow_zero, Nat.mul_one]
          omega
        · have h5 : (Q - 0).toNat = 0 := by omega
          rw [h5, Nat.pow_zero]
          exact Nat.mul_pos (by omega) (Nat.two_pow_pos _)
      omega
    generalize FP.Core.nearest (FP.Core.unitsNum i.natAbs 0 Q) (FP.Core.unitsDen 1 0 Q) = C at *
    unfold FP.Core.settle FP.Core.bound
    rw [fl64_c.2.2.2.2.2, fl64_c.2.2.2.1, fl64_c.1]
    by_cases hc : C < 9007199254740992
    · rw [if_pos hc, if_pos (by omega)]
      exact ⟨_, _, _, rfl, hc, by omega, fun _ => hC⟩
    · rw [if_neg hc, if_pos (by omega)]
      exact ⟨_, _, _, rfl, by omega, by omega, fun _ h => by omega⟩
theorem fl64_nat {n : Nat} (h : n < 18446744073709551616) : (UInt64.ofNat n).toNat = n := UInt64.toNat_ofNat_of_lt' h
theorem fl64_ok {d : FP.Core.Datum} (h : flO64 d) : vf_n64 (UInt64.ofNat (FP.Core.encode FP.Core.b64 d)) ∧ FP.Core.decode FP.Core.b64 (UInt64.ofNat (FP.Core.encode FP.Core.b64 d)).toNat ≠ .nan := by
  obtain ⟨s, e, t, h1, h2, h3, h4, -⟩ := fl64_enc h
  obtain ⟨a1, a2, a3, a4⟩ := fl64_asm (s := s) h2 h3 h4
  rw [h1]
  have hn := fl64_nat a1
  refine ⟨?_, ?_⟩
  · unfold vf_n64
    rw [UInt64.le_iff_toNat_le, UInt64.toNat_and, hn]
    show FP.Core.assemble FP.Core.b64 s e t &&& (2 ^ 63 - 1) ≤ 9218868437227405312
    rw [Nat.and_two_pow_sub_one_eq_mod]
    exact a2
  · rw [hn]
    unfold FP.Core.decode
    rw [a3, a4, fl64_c.2.1]
    by_cases he : e = 2047
    · rw [if_pos he, if_pos (h4 he)]; exact fun h => by cases h
    · rw [if_neg he]
      by_cases h0 : e = 0
      · rw [if_pos h0]; exact fun h => by cases h
      · rw [if_neg h0]; exact fun h => by cases h
theorem fl64_dec {s : Bool} {c : Nat} {q : Int} (h1 : c < 9007199254740992) (h2 : q ≤ 971) : ∃ s' c' q', FP.Core.decode FP.Core.b64 (UInt64.ofNat (FP.Core.encode FP.Core.b64 (.fin s c q))).toNat = .fin s' c' q' ∧ (c ≠ 0 → c' ≠ 0) := by
  obtain ⟨s0, e, t, g1, g2, g3, g4, g5⟩ := fl64_enc (d := .fin s c q) (Or.inr ⟨_, _, _, rfl, h1, h2⟩)
  obtain ⟨k1, k2⟩ := g5 _ _ _ rfl
  obtain ⟨a1, a2, a3, a4⟩ := fl64_asm (s := s0) g2 g3 g4
  rw [g1, fl64_nat a1]
  unfold FP.Core.decode
  rw [a3, a4, fl64_c.2.1, fl64_c.1, if_neg (by omega)]
  by_cases h0 : e = 0
  · rw [if_pos h0]; exact ⟨_, _, _, rfl, fun h => (k2 h).resolve_left (fun q => q h0)⟩
  · rw [if_neg h0]; exact ⟨_, _, _, rfl, fun _ h => by omega⟩
theorem fl64_abs (x : Int32) : x.toInt.natAbs ≤ 4294967295 := by
  have h1 := Int32.le_toInt x
  have h2 := Int32.toInt_lt x
  omega
theorem fl64_div {a b : Int32} (hb : b ≠ 0) : vf_n64 (FP.ddiv (FP.i2d a) (FP.i2d b)) ∧ FP.Core.decode FP.Core.b64 (FP.ddiv (FP.i2d a) (FP.i2d b)).toNat ≠ .nan := by
  have hb' : b.toInt ≠ 0 := fun h => hb (Int32.toInt_inj.mp (h.trans Int32.toInt_zero.symm))
  obtain ⟨s1, c1, q1, r1, r2, r3, -⟩ := fl64_int a.toInt (fl64_abs a)
  obtain ⟨s2, c2, q2, t1, t2, t3, t4⟩ := fl64_int b.toInt (fl64_abs b)
  obtain ⟨s3, c3, q3, u1, -⟩ := fl64_dec (s := s1) r2 r3
  obtain ⟨s4, c4, q4, v1, v2⟩ := fl64_dec (s := s2) t2 t3
  have e1 : FP.Core.decode FP.Core.b64 (FP.Core.i2d a).toNat = .fin s3 c3 q3 := by
    rw [← u1, ← r1]; rfl
  have e2 : FP.Core.decode FP.Core.b64 (FP.Core.i2d b).toNat = .fin s4 c4 q4 := by
    rw [← v1, ← t1]; rfl
  have e3 : FP.ddiv (FP.i2d a) (FP.i2d b) = UInt64.ofNat (FP.Core.encode FP.Core.b64 (FP.Core.quotient FP.Core.b64 (.fin s3 c3 q3) (.fin s4 c4 q4))) := by
    rw [← e1, ← e2]; rfl
  have e4 : FP.Core.quotient FP.Core.b64 (.fin s3 c3 q3) (.fin s4 c4 q4) = FP.Core.roundRatio FP.Core.b64 (s3 != s4) c3 c4 (q3 - q4) := if_neg (v2 (t4 hb'))
  rw [e3, e4]
  exact fl64_ok (fl64_rr _ _ _ _)
theorem fl_ord {d : FP.Core.Datum} (h : d ≠ .nan) : FP.Core.order d d = some .eq := by
  have hc : ∀ a : Int, compare a a = Ordering.eq := fun a => by
    show compareOfLessAndEq a a = Ordering.eq
    unfold compareOfLessAndEq
    rw [if_neg (Int.lt_irrefl _), if_pos rfl]
  cases d with
  | nan => exact absurd rfl h
  | inf s => show some (compare (FP.Core.signed s 1) (FP.Core.signed s 1)) = _; rw [hc]
  | fin s c q => show some (compare (FP.Core.signed s (FP.Core.inUnits c q (min q q))) (FP.Core.signed s (FP.Core.inUnits c q (min q q)))) = _; rw [hc]
theorem fl_cmp {v : UInt64} (h : FP.Core.decode FP.Core.b64 v.toNat ≠ .nan) : Op.cmpValue (FP.dcmp v v) CmpOp.l = 0 := by
  have e : FP.dcmp v v = some .eq := fl_ord h
  rw [e]
  rfl
theorem fl_f2d {v : UInt32} (h : FP.Core.decode FP.Core.b32 v.toNat ≠ .nan) : vf_n64 (FP.f2d v) ∧ FP.Core.decode FP.Core.b64 (FP.f2d v).toNat ≠ .nan := by
  have hn : FP.Core.fIsNaN v = false := decide_eq_false h
  have e : FP.f2d v = UInt64.ofNat (FP.Core.encode FP.Core.b64 (FP.Core.round FP.Core.b64 (FP.Core.decode FP.Core.b32 v.toNat))) := by
    unfold FP.f2d
    rw [hn]
    rfl
  rw [e]
  refine fl64_ok ?_
  cases hd : FP.Core.decode FP.Core.b32 v.toNat with
  | nan => exact absurd hd h
  | inf s => exact Or.inl ⟨_, rfl⟩
  | fin s c q => exact fl64_rr _ _ _ _
end FLT
section OPS4
variable {G : fG} {c : Nat} {M : fM} {dv : UInt64} {a b e f : Int32}
theorem op_41 (hG : fOK G) (h : It c M) : Op_41 G It c M dv a b e f := by
  have hS := h.1
  have e6 : M (1 + 11) 6 = M 297 3 := hS.1.2.2.2.1.1
  have s1 : r_X5_sumOf M (1 + 11) (1 + 11 + 11) = sP (M 297) := c_sP hS
  have hc := c_X11_meanPressure hG (d := 40) (by decide) M dv (fun _ => q300 hS) (fun q => by rw [s1, e6]; exact (fl64_div (by rw [← e6]; exact q)).1)
  rw [o_X11_meanPressure, s1, e6] at hc
  have hn : ∀ j : Nat, j ≤ 8 → ¬ ((fst1 M 296 7 (0 : Int32)) 297 ((3 : Int32)).toNatClampNeg ≤ nI j) → j < 8 := fun j h1 h2 => by
    rw [cl_3, w7] at h2
    have := lt3 hS.2 (by omega) h2
    have := hS.2.lots.2
    omega
  have k2 := c_X12_meanPressure hG (d := 60) (by decide) M
  by_cases h0 : M 297 3 = 0
  · rw [if_pos h0] at hc
    have kc2 := k2 dv ⟨fun q => absurd h0 q, fun q => absurd h0 q, fun q => absurd h0 q⟩
    have em : m_X12_meanPressure M = fst1 M 296 7 1 := by rw [m_X12_meanPressure, cl_3, if_pos h0]
    rw [em] at kc2
    exact ⟨1, _, dv, M, _, c_L_meanPressure hG (by decide) (by decide) (by decide) M dv hc 1 M dv (Or.inr ⟨_, rfl, rfl, rfl, rfl⟩), kc2, fst1_at _ _ _ _, fun q => absurd q z_n1, h.up.sm Sm.code⟩
  · rw [if_neg h0] at hc
    have e7 : l_X12_meanPressureL (fst1 M 296 7 (0 : Int32)) 9 0 (0 : Int32) = sP (M 297) := m_sP w7 hS.2
    have kc2 := k2 (FP.ddiv (FP.i2d (sP (M 297))) (FP.i2d (M 297 3))) ⟨fun _ j _ h1 h2 => hn j h1 h2, fun _ j _ h1 h2 => Nby_nI (w := 5) (by have := hn j h1 h2; omega) 5 rfl, fun _ => by rw [e7, cl_3, w7]; exact (fl64_div h0).1⟩
    have em : m_X12_meanPressure M = fst1 M 296 7 0 := by rw [m_X12_meanPressure, cl_3, if_neg h0]
    have er : r_X12_meanPressure M = FP.ddiv (FP.i2d (sP (M 297))) (FP.i2d (M 297 3)) := by rw [r_X12_meanPressure, e7, cl_3, if_neg h0, w7]
    rw [em, er] at kc2
    exact ⟨0, _, _, M, _, c_L_meanPressure hG (by decide) (by decide) (by decide) M dv hc 0 M _ (Or.inl ⟨_, _, rfl, rfl, rfl, rfl⟩), kc2, fst1_at _ _ _ _, fun _ => fl_cmp (fl64_div h0).2, h.up.sm Sm.code⟩
theorem op_42 (hG : fOK G) (h : It c M) : Op_42 G It c M dv a b e f := by
  have hS := h.1
  have e4 : M 1 4 = M 297 7 := hS.1.2.2.2.2.2.2.1
  have e5 : M 1 5 = M 297 8 := hS.1.2.2.2.2.2.2.2.1
  have hc := c_X11_shippedShare hG (d := 40) (by decide) M dv (fun q => (fl32_div q).1)
  rw [o_X11_shippedShare, e4, e5] at hc
  have k2 := c_X12_shippedShare hG (d := 60) (by decide) M
  by_cases h0 : M 297 7 = 0
  · rw [if_pos h0] at hc
    have kc2 := k2 dv (fun q => absurd h0 q)
    have em : m_X12_shippedShare M = fst1 M 296 7 1 := by rw [m_X12_shippedShare, cl_7, if_pos h0]
    rw [em] at kc2
    exact ⟨1, _, dv, M, _, c_L_shippedShare hG (by decide) (by decide) (by decide) M dv hc 1 M dv (Or.inr ⟨_, rfl, rfl, rfl, rfl⟩), kc2, fst1_at _ _ _ _, fun q => absurd q z_n1, h.up.sm Sm.code⟩
  · rw [if_neg h0] at hc
    have kc2 := k2 (FP.f2d (FP.fdiv (FP.i2f (M 297 8)) (FP.i2f (M 297 7)))) (fun _ => by rw [cl_7, cl_8, w7]; exact (fl32_div h0).1)
    have em : m_X12_shippedShare M = fst1 M 296 7 0 := by rw [m_X12_shippedShare, cl_7, if_neg h0]
    have er : r_X12_shippedShare M = FP.fdiv (FP.i2f (M 297 8)) (FP.i2f (M 297 7)) := by rw [r_X12_shippedShare, cl_7, cl_8, if_neg h0, w7]
    rw [em, er] at kc2
    have hv := fl_f2d (fl32_div (a := M 297 8) h0).2
    exact ⟨0, _, _, M, _, c_L_shippedShare hG (by decide) (by decide) (by decide) M dv hc 0 M _ (Or.inl ⟨_, _, rfl, rfl, rfl, rfl, hv.1⟩), kc2, fst1_at _ _ _ _, fun _ => ⟨hv.1, fl_cmp hv.2⟩, h.up.sm Sm.code⟩
/-! the nearest label -/
def scF (D : Nat → Nat) : Nat → Nat → Nat → Nat
  | 0, _, b => b
  | m + 1, j, b => scF D m (j + 1) (if D j < D b then j else b)
end OPS4
section SCAN
variable {N T : Nat} {M W : fM} {f s : Nat → Int32}
def cInv (M V : fM) : Prop := V 273 0 = nI 6 ∧ ∀ a, a ≠ 273 → a ≠ 275 → a ≠ 286 → V a = M a
theorem cInv.tx {V : fM} (h : cInv M V) (hT : ItT M) : ItT V := hT.ext (h.2 267 (by decide) (by decide) (by decide)) (h.2 269 (by decide) (by decide) (by decide)) (h.2 301 (by decide) (by decide) (by decide)) (by rw [h.2 296 (by decide) (by decide) (by decide)])
theorem cInv.sw {V : fM} (h : cInv M V) (hS : SW N M 1 f) : SW N V 1 f := hS.ext fun a a1 a2 => h.2 a (by omega) (by omega) (by omega)
theorem cInv.step {V : fM} (h : cInv M V) (hT : ItT M) (hS : SW N M 1 f) (h12 : (M 296 9).toNatClampNeg ≤ 12) {l : Nat} (hl : l < (f 2).toNatClampNeg) : r_X11_tableDistance V (nI l) = nI (dst f (M 301) (M 296 9).toNatClampNeg l) ∧ cInv M (m_X11_tableDistance V (nI l)) := by
  have e9 : V 296 = M 296 := h.2 296 (by decide) (by decide) (by decide)
  have e1 : V 301 = M 301 := h.2 301 (by decide) (by decide) (by decide)
  obtain ⟨d1, d2, d3⟩ := c_tab (h.tx hT) (h.sw hS) h.1 (by rw [e9]; exact h12) hl
  rw [e9, e1] at d1
  exact ⟨d1, d2, fun a a1 a2 a3 => (d3 a a1 a2 a3).trans (h.2 a a1 a2 a3)⟩
theorem dst_lt (hw : WF N f) (hT : T ≤ 12) {l : Nat} (hl : l < (f 2).toNatClampNeg) : dst f s T l < 100 := by
  obtain ⟨e1, e2, e3, e4⟩ := hw.lab hl
  have := lv_le s (wl f l) T (wn' f l)
  unfold dst
  omega
theorem c_scL (hT : ItT M) (hS : SW N M 1 f) (h12 : (M 296 9).toNatClampNeg ≤ 12) : ∀ (m m' j b : Nat) (V : fM), cInv M V → j + m = (f 2).toNatClampNeg → m < m' → b < (f 2).toNatClampNeg →
    (l_X11_scanL V m' j (nI b) (nI (dst f (M 301) (M 296 9).toNatClampNeg b))).1 = nI (scF (dst f (M 301) (M 296 9).toNatClampNeg) m j b) ∧ cInv M (l_X11_scanL V m' j (nI b) (nI (dst f (M 301) (M 296 9).toNatClampNeg b))).2.2
  | 0, m' + 1, j, b, V, hV, h1, h2, h3 => by
    have hl := hS.2.labs
    rw [l_X11_scanL, show V (1 + 6) 2 = f 2 from (hV.sw hS).1.2.2.1.1, if_pos (by rw [hl.1]; exact nI_le (by omega) (by omega)), scF]
    exact ⟨rfl, hV⟩
  | m + 1, m' + 1, j, b, V, hV, h1, h2, h3 => by
    have hl := hS.2.labs
    obtain ⟨s1, s2⟩ := hV.step hT hS h12 (l := j) (by omega)
    have b1 := dst_lt (s := M 301) hS.2 h12 (l := j) (by omega)
    have b2 := dst_lt (s := M 301) hS.2 h12 h3
    rw [l_X11_scanL, show V (1 + 6) 2 = f 2 from (hV.sw hS).1.2.2.1.1, if_neg (by rw [hl.1]; exact nI_ge (by omega) (by omega)), s1, scF]
    by_cases q : dst f (M 301) (M 296 9).toNatClampNeg j < dst f (M 301) (M 296 9).toNatClampNeg b
    · rw [if_neg (nI_ge q (by omega)), if_pos q]
      exact c_scL hT hS h12 m m' (j + 1) j _ s2 (by omega) (by omega) (by omega)
    · rw [if_pos (nI_le (by omega) (by omega)), if_neg q]
      exact c_scL hT hS h12 m m' (j + 1) b _ s2 (by omega) (by omega) h3
  | 0, 0, _, _, _, _, _, h2, _ => by omega
  | m + 1, 0, _, _, _, _, _, h2, _ => by omega
theorem scF_lt (D : Nat → Nat) {n : Nat} : ∀ (m j b : Nat), j + m ≤ n → b < n → scF D m j b < n
  | 0, _, _, _, h => h
  | m + 1, j, b, h1, h2 => by
    rw [scF]
    refine scF_lt D m (j + 1) _ (by omega) ?_
    split <;> omega
theorem m_scL (hw : WF N f) (hT : T ≤ 12) (W : fM) (h9 : W 296 9 = nI T) (hW : W 297 = f) (hs : W 301 = s) : ∀ (m m' j b : Nat) (V : fM), (∀ a, a ≠ 303 → V a = W a) → j + m = (f 2).toNatClampNeg → m < m' → b < (f 2).toNatClampNeg →
    (l_X12_scanL V m' j (nI b)).1 = nI (scF (dst f s T) m j b) ∧ ∀ a, a ≠ 303 → (l_X12_scanL V m' j (nI b)).2 a = W a
  | 0, m' + 1, j, b, V, hV, h1, h2, h3 => by
    have hl := hw.labs
    have e2 : V 297 2 = f 2 := by rw [hV 297 (by decide), hW]
    rw [l_X12_scanL, cl_2, e2, if_pos (by rw [hl.1]; exact nI_le (by omega) (by omega)), scF]
    exact ⟨rfl, hV⟩
  | m + 1, m' + 1, j, b, V, hV, h1, h2, h3 => by
    have hl := hw.labs
    have e2 : V 297 2 = f 2 := by rw [hV 297 (by decide), hW]
    obtain ⟨a1, a2⟩ := m_ap (W := V) (s := s) (by rw [hV 296 (by decide)]; exact h9) hT ((hV 297 (by decide)).trans hW) ((hV 301 (by decide)).trans hs) hw (l := j) (by omega)
    have hV2 : ∀ a, a ≠ 303 → m_X12_apart V (nI j) a = W a := fun a ha => (a2 a ha).trans (hV a ha)
    obtain ⟨a3, a4⟩ := m_ap (W := m_X12_apart V (nI j)) (s := s) (by rw [hV2 296 (by decide)]; exact h9) hT ((hV2 297 (by decide)).trans hW) ((hV2 301 (by decide)).trans hs) hw h3
    have hV3 : ∀ a, a ≠ 303 → m_X12_apart (m_X12_apart V (nI j)) (nI b) a = W a := fun a ha => (a4 a ha).trans (hV2 a ha)
    have b1 := dst_lt (s := s) hw hT (l := j) (by omega)
    have b2 := dst_lt (s := s) hw hT h3
    rw [l_X12_scanL, cl_2, e2, if_neg (by rw [hl.1]; exact nI_ge (by omega) (by omega)), a1, a3, scF]
    by_cases q : dst f s T j < dst f s T b
    · rw [if_neg (nI_ge q (by omega)), if_pos q]
      exact m_scL hw hT W h9 hW hs m m' (j + 1) j _ hV3 (by omega) (by omega) (by omega)
    · rw [if_pos (nI_le (by omega) (by omega)), if_neg q]
      exact m_scL hw hT W h9 hW hs m m' (j + 1) b _ hV3 (by omega) (by omega) h3
  | 0, 0, _, _, _, _, _, h2, _ => by omega
  | m + 1, 0, _, _, _, _, _, h2, _ => by omega
theorem N_sc (hw : WF N f) (h9 : W 296 9 = nI T) (hT60 : T ≤ 60) (hW : W 297 = f) : N_X12_scan W := by
  refine ⟨N_wr h9 hT60 _, fun hwr h0 => ?_⟩
  have h12 : T ≤ 12 := by
    by_cases q : ltP (W 301) T 12
    · exact q.2.1
    · exact absurd (by rw [show (12 : Int32) = nI 12 from rfl, m_wr h9 hT60 (by decide), exd_neg q]) hwr
  have hl := hw.labs
  have hpos : 0 < (f 2).toNatClampNeg := by
    refine Nat.pos_of_ne_zero fun q => h0 ?_
    rw [cl_2, hW, hl.1, q]; rfl
  have key : ∀ (V : fM) (j : Nat), V 297 = f → j ≤ 8 → ¬ (V 297 ((2 : Int32)).toNatClampNeg ≤ nI j) → j < (f 2).toNatClampNeg := fun V j hV h1 h2 => by
    rw [cl_2, hV] at h2
    exact Nat.lt_of_not_le fun q => h2 (by rw [hl.1]; exact nI_le q (by omega))
  have fa : ∀ (V : fM) (l : Nat), V 296 9 = nI T → V 297 = f → l < (f 2).toNatClampNeg → m_X12_apart V (nI l) 296 9 = nI T ∧ m_X12_apart V (nI l) 297 = f := fun V l v9 v7 hl2 => by
    obtain ⟨-, a2⟩ := m_ap (W := V) (s := V 301) v9 h12 v7 rfl hw hl2
    exact ⟨by rw [a2 296 (by decide)]; exact v9, (a2 297 (by decide)).trans v7⟩
  refine ⟨fun _ V v => V 296 9 = nI T ∧ V 297 = f ∧ ∃ b, v = nI b ∧ b < (f 2).toNatClampNeg, ⟨(fst1_nj (by decide)).trans h9, w7.trans hW, 0, rfl, hpos⟩, fun j V v h1 hP h2 => ?_, fun j V v h1 hP h2 => N_ap hP.1 h12 hP.2.1 hw (key V j hP.2.1 h1 h2), fun j V v h1 hP h2 => ?_, fun j V v h1 hP h2 _ => ?_, fun j V v h1 hP h2 _ => ?_⟩
  · have := key V j hP.2.1 h1 h2; omega
  · obtain ⟨p1, p2, b, rfl, p3⟩ := hP
    obtain ⟨f1, f2⟩ := fa V j p1 p2 (key V j p2 h1 h2)
    exact N_ap f1 h12 f2 hw p3
  · obtain ⟨p1, p2, b, rfl, p3⟩ := hP
    obtain ⟨f1, f2⟩ := fa V j p1 p2 (key V j p2 h1 h2)
    obtain ⟨g1, g2⟩ := fa _ b f1 f2 p3
    exact ⟨g1, g2, b, rfl, p3⟩
  · obtain ⟨p1, p2, b, rfl, p3⟩ := hP
    obtain ⟨f1, f2⟩ := fa V j p1 p2 (key V j p2 h1 h2)
    obtain ⟨g1, g2⟩ := fa _ b f1 f2 p3
    exact ⟨g1, g2, j, rfl, key V j p2 h1 h2⟩
theorem op_11 {G : fG} {c : Nat} {dv : UInt64} {a b e f : Int32} (hG : fOK G) (h : It c M) : Op_11 G It c M dv a b e f := by
  have hS := h.1
  have hT := h.2.2.2.1
  have h0 := h.2.2.2.2.2.2.2.1
  have t3 := hT.2.2.1
  have l3 := t3.2
  have hl := hS.2.labs
  have kw := c_wr hT (q := 12) (by decide)
  have e7 : M (1 + 6) 2 = M 297 2 := hS.1.2.2.1.1
  have ci : cInv M M := ⟨h0, fun _ _ _ _ => rfl⟩
  have hpos : ¬ M (1 + 6) 2 = 0 → 0 < (M 297 2).toNatClampNeg := fun q => Nat.pos_of_ne_zero fun r => q (by rw [e7, hl.1, r]; rfl)
  have hp12 : ¬ r_X10_isLetters M 267 60 (12 : Int32) = 0 → ltP (M 301) (M 296 9).toNatClampNeg 12 := fun q => by
    by_cases r : ltP (M 301) (M 296 9).toNatClampNeg 12
    · exact r
    · exact absurd (by rw [show (12 : Int32) = nI 12 from rfl, kw, exd_neg r]) q
  have key : ∀ (V : fM) (j : Nat), cInv M V → j ≤ 300 → ¬ (V (1 + 6) 2 ≤ nI j) → j < (M 297 2).toNatClampNeg := fun V j hV h1 h2 => by
    rw [show V (1 + 6) 2 = M 297 2 from (hV.sw hS).1.2.2.1.1, hl.1] at h2
    exact Nat.lt_of_not_le fun q => h2 (nI_le q (by omega))
  have hc := c_X11_scan hG (d := 40) (by decide) M dv (t300 hT) (fun _ q => tk300 hS (l := 0) (hpos q)) (fun _ q => (tk300b hT hS h0 (l := 0) (hpos q)).1) (fun _ q => (tk300b hT hS h0 (l := 0) (hpos q)).2)
    (fun q1 q2 => ⟨fun _ V _ _ => cInv M V, (ci.step hT hS (hp12 q1).2.1 (l := 0) (hpos q2)).2,
      fun j V v1 v2 h1 hV h2 => by have := key V j hV h1 h2; omega,
      fun j V v1 v2 h1 hV h2 => tk300 (hV.sw hS) (key V j hV h1 h2),
      fun j V v1 v2 h1 hV h2 => (tk300b (hV.tx hT) (hV.sw hS) hV.1 (key V j hV h1 h2)).1,
      fun j V v1 v2 h1 hV h2 => (tk300b (hV.tx hT) (hV.sw hS) hV.1 (key V j hV h1 h2)).2,
      fun j V v1 v2 h1 hV h2 _ => (hV.step hT hS (hp12 q1).2.1 (key V j hV h1 h2)).2,
      fun j V v1 v2 h1 hV h2 _ => (hV.step hT hS (hp12 q1).2.1 (key V j hV h1 h2)).2⟩)
  rw [o_X11_scan, show (12 : Int32) = nI 12 from rfl, kw] at hc
  by_cases hp : ltP (M 301) (M 296 9).toNatClampNeg 12
  · rw [exd_pos hp, if_neg z_n1, e7] at hc
    have hwr : ∀ W : fM, W 296 9 = M 296 9 → W 301 = M 301 → r_X12_isWritten W (12 : Int32) = 1 := fun W w9 w1 => by
      rw [show (12 : Int32) = nI 12 from rfl, m_wr (w9.trans t3.1) (by omega) (by decide), w1, exd_pos hp]
    by_cases hz : M 297 2 = 0
    · rw [if_pos hz] at hc
      have kc2 := c_X12_scan hG (d := 60) (by decide) M dv (N_sc hS.2 t3.1 (by omega) rfl)
      have em : m_X12_scan M = fst1 M 296 7 2 := by rw [m_X12_scan, hwr M rfl rfl, if_neg z_n1, cl_2, if_pos hz]
      rw [em] at kc2
      exact opi_mk h 2 _ _ _ Sm.code (fst1_at _ _ _ _) (c_L_scan hG (by decide) (by decide) (by decide) M dv hc 2 _ (Or.inr (Or.inr ⟨_, rfl, rfl, rfl⟩))) kc2 (fun h => absurd h (by decide))
    · have hp0 := hpos (by rw [e7]; exact hz)
      obtain ⟨s1, s2⟩ := ci.step hT hS hp.2.1 (l := 0) hp0
      obtain ⟨c1, c2⟩ := c_scL hT hS hp.2.1 ((M 297 2).toNatClampNeg - 1) 300 1 0 (m_X11_tableDistance M (nI 0)) s2 (by omega) (by omega) hp0
      rw [← s1, nI_0] at c1 c2
      rw [if_neg hz, c1] at hc
      have hr := scF_lt (dst (M 297) (M 301) (M 296 9).toNatClampNeg) (n := (M 297 2).toNatClampNeg) ((M 297 2).toNatClampNeg - 1) 1 0 (by omega) hp0
      generalize hU : (l_X11_scanL (m_X11_tableDistance M (0 : Int32)) 300 1 (0 : Int32) (r_X11_tableDistance M (0 : Int32))).2.2 = U at *
      generalize hV : fst1 U 306 0 (nI (scF (dst (M 297) (M 301) (M 296 9).toNatClampNeg) ((M 297 2).toNatClampNeg - 1) 1 0)) = V
      have vf : ∀ a, a ≠ 273 → a ≠ 275 → a ≠ 286 → a ≠ 306 → V a = M a := fun a a1 a2 a3 a4 => by rw [← hV, fst1_ne a4, c2.2 a a1 a2 a3]
      have v9 : V 296 = M 296 := vf 296 (by decide) (by decide) (by decide) (by decide)
      have v7 : V 297 = M 297 := vf 297 (by decide) (by decide) (by decide) (by decide)
      have v1 : V 301 = M 301 := vf 301 (by decide) (by decide) (by decide) (by decide)
      have kc2 := c_X12_scan hG (d := 60) (by decide) V dv (N_sc hS.2 (by rw [v9]; exact t3.1) (by omega) v7)
      obtain ⟨m1, m2⟩ := m_scL hS.2 hp.2.1 (s := M 301) (fst1 V 296 7 0) ((fst1_nj (by decide)).trans (by rw [v9]; exact t3.1)) (w7.trans v7) ((fst1_ne (by decide)).trans v1) ((M 297 2).toNatClampNeg - 1) 9 1 0 (fst1 V 296 7 0) (fun _ _ => rfl) (by omega) (by omega) hp0
      rw [nI_0] at m1 m2
      have er : r_X12_scan V = nI (scF (dst (M 297) (M 301) (M 296 9).toNatClampNeg) ((M 297 2).toNatClampNeg - 1) 1 0) := by
        rw [r_X12_scan, hwr V (by rw [v9]) v1, if_neg z_n1, cl_2, v7, if_neg hz, m1]
      have em : m_X12_scan V = (l_X12_scanL (fst1 V 296 7 0) 9 1 0).2 := by
        rw [m_X12_scan, hwr V (by rw [v9]) v1, if_neg z_n1, cl_2, v7, if_neg hz]
      rw [er, em] at kc2
      have s1' : Sm M U := ⟨fun a ha => c2.2 a (by unfold mcell at ha; omega) (by unfold mcell at ha; omega) (by unfold mcell at ha; omega), by rw [c2.2 0 (by decide) (by decide) (by decide)]; exact ⟨rfl, rfl, rfl⟩, ⟨c2.1.trans h0.symm, by rw [c2.2 277 (by decide) (by decide) (by decide)]⟩, by rw [c2.2 296 (by decide) (by decide) (by decide)]; exact ⟨rfl, rfl, rfl, rfl, rfl, rfl, rfl⟩⟩
      have s2' : Sm M V := by rw [← hV]; exact s1'.tr Sm.out306
      exact opi_mk h 0 _ V _ (s2'.tr (Sm.code.tr (Sm.fr fun a ha => m2 a (by unfold mcell at ha; omega)))) (by rw [m2 296 (by decide), fst1_at]) (by rw [← hV]; exact c_L_scan hG (by decide) (by decide) (by decide) M dv hc 0 _ (Or.inl ⟨_, _, rfl, rfl, rfl⟩)) kc2 (fun _ => by rw [m2 306 (by decide), fst1_ne (by decide), ← hV, fst1_at])
  · rw [exd_neg hp, if_pos rfl] at hc
    have hwr : r_X12_isWritten M (12 : Int32) = 0 := by rw [show (12 : Int32) = nI 12 from rfl, m_wr t3.1 (by omega) (by decide), exd_neg hp]
    have kc2 := c_X12_scan hG (d := 60) (by decide) M dv (N_sc hS.2 t3.1 (by omega) rfl)
    have em : m_X12_scan M = fst1 M 296 7 1 := by rw [m_X12_scan, hwr, if_pos rfl]
    rw [em] at kc2
    exact opi_mk h 1 _ _ _ Sm.code (fst1_at _ _ _ _) (c_L_scan hG (by decide) (by decide) (by decide) M dv hc 1 _ (Or.inr (Or.inl ⟨_, rfl, rfl, rfl⟩))) kc2 (fun h => absurd h (by decide))
end SCAN
