/-! ===== affected lots, in both ways ===== -/
section AFF
variable {N : Nat} {M W : fM} {k : Nat} {f : Nat → Int32}
/-- the sets of a batch and of a lot as numbers -/
def srcN (f : Nat → Int32) (b : Nat) : Nat := (f (11 + 2 * b + 1)).toNatClampNeg
def fsN (f : Nat → Int32) (p : Nat) : Nat := (f (79 + 6 * p + 3)).toNatClampNeg
def scN (f : Nat → Int32) (p : Nat) : Nat := (f (79 + 6 * p + 4)).toNatClampNeg
def insN (f : Nat → Int32) (p : Nat) : Nat := srcN f (fsN f p) ||| srcN f (scN f p)
theorem WF.src (h : WF N f) {b : Nat} (hb : b < (f 1).toNatClampNeg) : f (11 + 2 * b + 1) = nI (srcN f b) ∧ srcN f b < 2 ^ (f 0).toNatClampNeg ∧ 0 < srcN f b ∧ srcN f b < 64 := by
  obtain ⟨-, ⟨h1, h2⟩, h3⟩ := h.2.1 b hb
  have := (pw_le6 ((f 0).toNatClampNeg) h.raws.2).1
  exact ⟨h1, h2, h3, Nat.lt_of_lt_of_le h2 this⟩
theorem WF.fsc (h : WF N f) {p : Nat} (hp : p < (f 3).toNatClampNeg) : f (79 + 6 * p + 3) = nI (fsN f p) ∧ fsN f p < (f 1).toNatClampNeg ∧ f (79 + 6 * p + 4) = nI (scN f p) ∧ scN f p < (f 1).toNatClampNeg := by
  obtain ⟨-, -, -, h1, h2, -⟩ := h.2.2.2 p hp
  exact ⟨h1.1, h1.2, h2.1, h2.2⟩
theorem ins_N (h : WF N f) {p : Nat} (hp : p < (f 3).toNatClampNeg) : ins f p = nI (insN f p) ∧ insN f p < 2 ^ (f 0).toNatClampNeg ∧ 0 < insN f p ∧ insN f p < 64 := by
  obtain ⟨-, h1, -, h2⟩ := h.fsc hp
  obtain ⟨e1, a1, a2, -⟩ := h.src h1
  obtain ⟨e2, b1, b2, -⟩ := h.src h2
  have h6 := h.raws.2
  have h7 := (pw_le6 ((f 0).toNatClampNeg) h6).1
  have h8 := or_in _ h6 _ a1 _ b1
  refine ⟨?_, h8, ?_, Nat.lt_of_lt_of_le h8 h7⟩
  · show f (11 + 2 * fsN f p + 1) ||| f (11 + 2 * scN f p + 1) = _
    rw [e1, e2, z_or]
    rfl
  · exact Nat.lt_of_lt_of_le a2 Nat.left_le_or
/-- how many of the lots hold the number j -/
def bitI (f : Nat → Int32) (x : Int32) (p : Nat) : Int32 := (ins f p >>> (x &&& 31)) &&& (1 : Int32)
def affI (f : Nat → Int32) (x : Int32) : Int32 := acc (bitI f x) ((f 3).toNatClampNeg) 0 0
theorem c_setsL (h : SW N M k f) (x : Int32) : ∀ (m m' j : Nat) (v : Int32), j + m = (f 3).toNatClampNeg → m < m' → l_X8_countFromSets k x M m' j v = acc (bitI f x) m j v
  | 0, m' + 1, j, v, h1, h2 => by
    rw [l_X8_countFromSets, h.1.2.2.2.1.1, if_pos (le3 h.2 (by omega)), acc]
  | m + 1, m' + 1, j, v, h1, h2 => by
    rw [l_X8_countFromSets, h.1.2.2.2.1.1, if_neg (nle3 h.2 (by omega)), c_raws h (by omega), z_has, acc, bitI]
    rcases z_01 (ins f j >>> (x &&& 31)) with e | e
    · rw [e, if_pos rfl, c_setsL h x m m' (j + 1) _ (by omega) (by omega), Int32.add_zero]
    · rw [e, if_neg z_n1, c_setsL h x m m' (j + 1) _ (by omega) (by omega)]
  | 0, 0, _, _, _, h2 => by omega
  | m + 1, 0, _, _, _, h2 => by omega
theorem c_sets (h : SW N M k f) (x : Int32) : r_X8_countFromSets M k x = affI f x := by
  have := h.2.lots.2
  rw [r_X8_countFromSets, affI, c_setsL h x ((f 3).toNatClampNeg) 301 0 0 (by omega) (by omega)]
theorem m_affL (hW : W 297 = f) (h : WF N f) (x : Int32) : ∀ (m m' j : Nat) (v : Int32), j + m = (f 3).toNatClampNeg → m < m' → l_X12_affectedL x W m' j v = acc (bitI f x) m j v
  | 0, m' + 1, j, v, h1, h2 => by
    rw [l_X12_affectedL, cl_3, hW, if_pos (le3 h (by omega)), acc]
  | m + 1, m' + 1, j, v, h1, h2 => by
    rw [l_X12_affectedL, m_ins hW h (by omega), cl_3, hW, if_neg (nle3 h (by omega)), acc, m_affL hW h x m m' (j + 1) _ (by omega) (by omega)]
    rfl
  | 0, 0, _, _, _, h2 => by omega
  | m + 1, 0, _, _, _, h2 => by omega
theorem m_aff (hW : W 297 = f) (h : WF N f) (x : Int32) : l_X12_affectedL x W 9 0 0 = affI f x := by
  have := h.lots.2
  rw [affI, m_affL hW h x ((f 3).toNatClampNeg) 9 0 0 (by omega) (by omega)]
/-! the way through the batches -/
def lob (f : Nat → Int32) (b : Nat) : Nat → Nat → Nat → Nat
  | 0, _, s => s
  | m + 1, j, s => lob f b m (j + 1) (if fsN f j = b ∨ scN f j = b then s ||| 2 ^ j else s)
theorem pw8 : ∀ j, j < 8 → ∀ s, s < 256 → s ||| 2 ^ j < 256 := by decide +kernel
theorem c_lobL (h : SW N M k f) {b : Nat} (hb : b < (f 1).toNatClampNeg) : ∀ (m m' j s : Nat), j + m = (f 3).toNatClampNeg → m < m' → s < 256 → l_X8_lotsOfBatch k (nI b) M m' j (nI s) = nI (lob f b m j s) ∧ lob f b m j s < 256
  | 0, m' + 1, j, s, h1, h2, h3 => by
    rw [l_X8_lotsOfBatch, h.1.2.2.2.1.1, if_pos (le3 h.2 (by omega)), lob]
    exact ⟨rfl, h3⟩
  | m + 1, m' + 1, j, s, h1, h2, h3 => by
    have hn := h.2.lots.2
    have hbn := h.2.bats.2
    have hj : j < (f 3).toNatClampNeg := by omega
    obtain ⟨e1, l1, e2, l2⟩ := h.2.fsc hj
    have k1 : (f (79 + 6 * j + 3) = nI b) ↔ fsN f j = b := by rw [e1]; exact nI_eq (by omega) (by omega)
    have k2 : (f (79 + 6 * j + 4) = nI b) ↔ scN f j = b := by rw [e2]; exact nI_eq (by omega) (by omega)
    have i1 := c_lobL h hb m m' (j + 1) (s ||| 2 ^ j) (by omega) (by omega) (pw8 j (by omega) s h3)
    have i2 := c_lobL h hb m m' (j + 1) s (by omega) (by omega) h3
    rw [l_X8_lotsOfBatch, h.1.2.2.2.1.1, if_neg (nle3 h.2 hj), c_fsts h hj, c_snds h hj, lob, z_one (by omega), z_or]
    by_cases b1 : fsN f j = b
    · rw [if_pos (k1.mpr b1), if_pos (Or.inl b1)]; exact i1
    · rw [if_neg (fun q => b1 (k1.mp q))]
      by_cases b2 : scN f j = b
      · rw [if_pos (k2.mpr b2), if_pos (Or.inr b2)]; exact i1
      · rw [if_neg (fun q => b2 (k2.mp q)), if_neg (fun q => q.elim b1 b2)]; exact i2
  | 0, 0, _, _, _, h2, _ => by omega
  | m + 1, 0, _, _, _, h2, _ => by omega
theorem tb_put (s j i : Nat) : (s ||| 2 ^ j).testBit i = (s.testBit i || decide (j = i)) := by
  rw [Nat.testBit_or, Nat.testBit_two_pow]
theorem lob_bit (f : Nat → Int32) (b : Nat) : ∀ (m j s i : Nat), (lob f b m j s).testBit i = (s.testBit i || (decide (j ≤ i) && decide (i < j + m) && decide (fsN f i = b ∨ scN f i = b)))
  | 0, j, s, i => by
    rw [lob, show (decide (j ≤ i) && decide (i < j + 0) && decide (fsN f i = b ∨ scN f i = b)) = false by
      by_cases h : j ≤ i
      · rw [decide_eq_false (show ¬ i < j + 0 by omega)]; simp
      · rw [decide_eq_false h]; simp]
    simp
  | m + 1, j, s, i => by
    rw [lob, lob_bit f b m (j + 1)]
    by_cases hc : fsN f j = b ∨ scN f j = b
    · rw [if_pos hc, tb_put]
      by_cases e : j = i
      · subst e
        simp [hc]
      · have e2 : decide (j + 1 ≤ i) = decide (j ≤ i) := by
          by_cases h : j ≤ i
          · rw [decide_eq_true h, decide_eq_true (by omega)]
          · rw [decide_eq_false h, decide_eq_false (by omega)]
        have e3 : decide (i < j + 1 + m) = decide (i < j + (m + 1)) := by rw [show j + 1 + m = j + (m + 1) by omega]
        rw [decide_eq_false e, e2, e3]
        simp
    · rw [if_neg hc]
      by_cases e : j = i
      · subst e
        simp [hc]
      · have e2 : decide (j + 1 ≤ i) = decide (j ≤ i) := by
          by_cases h : j ≤ i
          · rw [decide_eq_true h, decide_eq_true (by omega)]
          · rw [decide_eq_false h, decide_eq_false (by omega)]
        have e3 : decide (i < j + 1 + m) = decide (i < j + (m + 1)) := by rw [show j + 1 + m = j + (m + 1) by omega]
        rw [e2, e3]
/-- bits counted one by one -/
def bN (x i : Nat) : Nat := if x.testBit i = true then 1 else 0
theorem bN_eq (x i : Nat) : x / 2 ^ i % 2 = bN x i := by
  rw [bN]
  by_cases h : x.testBit i = true
  · rw [if_pos h]; exact (z_tb x i).mp h
  · rw [if_neg h]
    have : x.testBit i = false := by cases hb : x.testBit i with | true => exact absurd hb h | false => rfl
    exact (z_tbf x i).mp this
theorem pc_bN (x : Nat) : pc x = bN x 0 + bN x 1 + bN x 2 + bN x 3 + bN x 4 + bN x 5 + bN x 6 + bN x 7 := by
  rw [← bN_eq, ← bN_eq, ← bN_eq, ← bN_eq, ← bN_eq, ← bN_eq, ← bN_eq, ← bN_eq]
  have h0 : x / 2 ^ 0 = x := by rw [Nat.pow_zero, Nat.div_one]
  rw [h0]
  rfl
theorem m1_nI : (-1 : Int32) = nI 4294967295 := by decide
theorem m1_bit : ∀ i, i < 8 → (4294967295 : Nat).testBit i = true := by decide +kernel
theorem pc_more {s S : Nat} (hS : S < 256) (M : fM) : r_J6_bitCount_0f7a4 M (nI S &&& (nI s ^^^ (-1 : Int32))) = nI (pc (S &&& (s ^^^ 4294967295))) ∧ pc (S &&& (s ^^^ 4294967295)) + pc s = pc (s ||| S) := by
  refine ⟨?_, ?_⟩
  · rw [m1_nI, z_xor, z_and, pc_J M (Nat.lt_of_le_of_lt Nat.and_le_left hS)]
  · have key : ∀ i, i < 8 → bN (S &&& (s ^^^ 4294967295)) i + bN s i = bN (s ||| S) i := fun i hi => by
      unfold bN
      rw [Nat.testBit_and, Nat.testBit_xor, Nat.testBit_or, m1_bit i hi]
      cases s.testBit i <;> cases S.testBit i <;> rfl
    have k0 := key 0 (by omega)
    have k1 := key 1 (by omega)
    have k2 := key 2 (by omega)
    have k3 := key 3 (by omega)
    have k4 := key 4 (by omega)
    have k5 := key 5 (by omega)
    have k6 := key 6 (by omega)
    have k7 := key 7 (by omega)
    rw [pc_bN, pc_bN, pc_bN]
    omega
/-- the lots that have been found, over the batches below j -/
def fou (f : Nat → Int32) (x : Nat) : Nat → Nat → Nat → Nat
  | 0, _, s => s
  | m + 1, j, s => fou f x m (j + 1) (if (srcN f j).testBit x = true then s ||| lob f j ((f 3).toNatClampNeg) 0 0 else s)
theorem or256 {s S : Nat} (h1 : s < 256) (h2 : S < 256) : s ||| S < 256 := Nat.or_lt_two_pow (n := 8) h1 h2
theorem c_thrL (h : SW N M k f) {x : Nat} (hx : x < 31) : ∀ (m m' j c s : Nat), j + m = (f 1).toNatClampNeg → m < m' → s < 256 → c = pc s → l_X8_countThroughBatches k (nI x) M m' j (nI c) (nI s) = nI (pc (fou f x m j s)) ∧ fou f x m j s < 256
  | 0, m' + 1, j, c, s, h1, h2, h3, h4 => by
    have hb := h.2.bats
    rw [l_X8_countThroughBatches, h.1.1.2.2, if_pos (by rw [hb.1]; exact nI_le (by omega) (by omega)), fou, h4]
    exact ⟨rfl, h3⟩
  | m + 1, m' + 1, j, c, s, h1, h2, h3, h4 => by
    have hb := h.2.bats
    have hn := h.2.lots.2
    have hj : j < (f 1).toNatClampNeg := by omega
    obtain ⟨e1, -, -, l1⟩ := h.2.src hj
    have hl := c_lobL h hj ((f 3).toNatClampNeg) 301 0 0 (by omega) (by omega) (by omega)
    rw [l_X8_countThroughBatches, h.1.1.2.2, if_neg (by rw [hb.1]; exact nI_ge (by omega) (by omega)), c_srcs h hj, e1, fou]
    by_cases hc : (srcN f j).testBit x = true
    · rw [if_neg (fun q => by rw [z_hasI M (by omega) (by omega)] at q; rw [q] at hc; cases hc), if_pos hc]
      have hr : r_X8_lotsOfBatch M k (nI j) = nI (lob f j ((f 3).toNatClampNeg) 0 0) := hl.1
      obtain ⟨p1, p2⟩ := pc_more (s := s) hl.2 M
      rw [hr, p1, nI_add, z_or]
      exact c_thrL h hx m m' (j + 1) _ _ (by omega) (by omega) (or256 h3 hl.2) (by omega)
    · have hc' : (srcN f j).testBit x = false := by cases hb : (srcN f j).testBit x with | true => exact absurd hb hc | false => rfl
      rw [if_pos ((z_hasI M (by omega) (by omega)).mpr hc'), if_neg hc]
      exact c_thrL h hx m m' (j + 1) _ _ (by omega) (by omega) h3 h4
  | 0, 0, _, _, _, _, h2, _, _ => by omega
  | m + 1, 0, _, _, _, _, h2, _, _ => by omega
theorem fou_bit (f : Nat → Int32) (x : Nat) {i : Nat} : ∀ (m j s : Nat), (fou f x m j s).testBit i = true ↔ (s.testBit i = true ∨ ∃ b, j ≤ b ∧ b < j + m ∧ (srcN f b).testBit x = true ∧ i < (f 3).toNatClampNeg ∧ (fsN f i = b ∨ scN f i = b))
  | 0, j, s => by
    rw [fou]
    exact ⟨Or.inl, fun q => q.elim id fun ⟨b, h1, h2, _⟩ => by omega⟩
  | m + 1, j, s => by
    rw [fou, fou_bit f x m (j + 1)]
    by_cases hc : (srcN f j).testBit x = true
    · rw [if_pos hc, Nat.testBit_or, lob_bit, Nat.zero_testBit]
      simp only [Bool.or_eq_true, Bool.and_eq_true, decide_eq_true_eq, Bool.false_eq_true, false_or, Nat.zero_le, true_and, Nat.zero_add]
      constructor
      · rintro ((h1 | ⟨h1, h2⟩) | ⟨b, h1, h2, h3⟩)
        · exact Or.inl h1
        · exact Or.inr ⟨j, by omega, by omega, hc, h1, h2⟩
        · exact Or.inr ⟨b, by omega, by omega, h3⟩
      · rintro (h1 | ⟨b, h1, h2, h3, h4, h5⟩)
        · exact Or.inl (Or.inl h1)
        · by_cases e : b = j
          · subst e; exact Or.inl (Or.inr ⟨h4, h5⟩)
          · exact Or.inr ⟨b, by omega, by omega, h3, h4, h5⟩
    · rw [if_neg hc]
      constructor
      · rintro (h1 | ⟨b, h1, h2, h3⟩)
        · exact Or.inl h1
        · exact Or.inr ⟨b, by omega, by omega, h3⟩
      · rintro (h1 | ⟨b, h1, h2, h3, h4⟩)
        · exact Or.inl h1
        · by_cases e : b = j
          · subst e; exact absurd h3 hc
          · exact Or.inr ⟨b, by omega, by omega, h3, h4⟩
/-- sums of small numbers -/
theorem acc_bit (B : Nat → Bool) (g : Nat → Int32) : ∀ (m j c : Nat), (∀ i, j ≤ i → i < j + m → g i = if B i = true then 1 else 0) → acc g m j (nI c) = nI (c + cnt B m j)
  | 0, j, c, _ => by rw [acc, cnt, Nat.add_zero]
  | m + 1, j, c, h => by
    rw [acc, cnt, h j (by omega) (by omega)]
    by_cases hb : B j = true
    · rw [if_pos hb, if_pos hb, nI_1, acc_bit B g m (j + 1) (c + 1) (fun i h1 h2 => h i (by omega) (by omega)), Nat.add_assoc]
    · rw [if_neg hb, if_neg hb, Int32.add_zero, acc_bit B g m (j + 1) c (fun i h1 h2 => h i (by omega) (by omega)), Nat.zero_add]
theorem cnt_out (B : Nat → Bool) : ∀ (m j : Nat), (∀ i, j ≤ i → i < j + m → B i = false) → cnt B m j = 0
  | 0, _, _ => rfl
  | m + 1, j, h => by
    rw [cnt, h j (by omega) (by omega), cnt_out B m (j + 1) (fun i h1 h2 => h i (by omega) (by omega))]
    rfl
theorem cnt_split (B : Nat → Bool) : ∀ (m n j : Nat), cnt B (m + n) j = cnt B m j + cnt B n (j + m)
  | 0, n, j => by rw [cnt, Nat.zero_add, Nat.zero_add, Nat.add_zero]
  | m + 1, n, j => by
    rw [show m + 1 + n = (m + n) + 1 by omega, cnt, cnt, cnt_split B m n (j + 1), show j + (m + 1) = j + 1 + m by omega]
    omega
theorem cnt_cg {B B' : Nat → Bool} : ∀ (m j : Nat), (∀ i, j ≤ i → i < j + m → B i = B' i) → cnt B m j = cnt B' m j
  | 0, _, _ => rfl
  | m + 1, j, h => by
    rw [cnt, cnt, h j (by omega) (by omega), cnt_cg m (j + 1) (fun i h1 h2 => h i (by omega) (by omega))]
theorem pc_cnt (x : Nat) : pc x = cnt (fun i => x.testBit i) 8 0 := by
  rw [pc_bN]
  show _ = bN x 0 + (bN x 1 + (bN x 2 + (bN x 3 + (bN x 4 + (bN x 5 + (bN x 6 + (bN x 7 + 0)))))))
  omega
theorem aff_same (h : WF N f) {x : Nat} (hx : x < (f 0).toNatClampNeg) : nI (pc (fou f x ((f 1).toNatClampNeg) 0 0)) = affI f (nI x) := by
  have hr := h.raws.2
  have hn := h.lots.2
  have hbit : ∀ i, i < (f 3).toNatClampNeg → bitI f (nI x) i = if (fun i => (insN f i).testBit x) i = true then 1 else 0 := fun i hi => by
    obtain ⟨e1, -, -, l1⟩ := ins_N h hi
    rw [bitI, e1, z_bit (by omega) (by omega), bN_eq, bN]
    by_cases hb : (insN f i).testBit x = true
    · rw [if_pos hb, if_pos hb]; rfl
    · rw [if_neg hb, if_neg hb]; rfl
  have e := acc_bit (fun i => (insN f i).testBit x) (bitI f (nI x)) ((f 3).toNatClampNeg) 0 0 (fun i _ hi => hbit i (by omega))
  rw [nI_0, Nat.zero_add] at e
  rw [affI, e, pc_cnt]
  congr 1
  have e8 : 8 = (f 3).toNatClampNeg + (8 - (f 3).toNatClampNeg) := by omega
  rw [e8, cnt_split]
  have hfb : ∀ i, (fou f x ((f 1).toNatClampNeg) 0 0).testBit i = true ↔ (i < (f 3).toNatClampNeg ∧ (insN f i).testBit x = true) := fun i => by
    rw [fou_bit, Nat.zero_testBit]
    constructor
    · rintro (h1 | ⟨b, -, h2, h3, h4, h5⟩)
      · cases h1
      · refine ⟨h4, ?_⟩
        rw [insN, Nat.testBit_or]
        rcases h5 with h5 | h5
        · rw [h5, h3]; rfl
        · rw [h5, h3]; simp
    · rintro ⟨h1, h2⟩
      rw [insN, Nat.testBit_or, Bool.or_eq_true] at h2
      obtain ⟨-, l1, -, l2⟩ := h.fsc h1
      rcases h2 with h2 | h2
      · exact Or.inr ⟨_, by omega, by omega, h2, h1, Or.inl rfl⟩
      · exact Or.inr ⟨_, by omega, by omega, h2, h1, Or.inr rfl⟩
  have z1 : cnt (fun i => (fou f x ((f 1).toNatClampNeg) 0 0).testBit i) (8 - (f 3).toNatClampNeg) (0 + (f 3).toNatClampNeg) = 0 := cnt_out _ _ _ fun i h1 h2 => by
    cases hb : (fou f x ((f 1).toNatClampNeg) 0 0).testBit i with
    | true => have := ((hfb i).mp hb).1; omega
    | false => rfl
  rw [z1, Nat.add_zero]
  refine cnt_cg _ _ fun i _ hi => ?_
  have hi : i < (f 3).toNatClampNeg := by omega
  cases hb : (insN f i).testBit x with
  | true => exact (hfb i).mpr ⟨hi, hb⟩
  | false =>
    cases hb2 : (fou f x ((f 1).toNatClampNeg) 0 0).testBit i with
    | true => rw [((hfb i).mp hb2).2] at hb; cases hb
    | false => rfl
theorem c_thr (h : SW N M k f) {x : Nat} (hx : x < (f 0).toNatClampNeg) : r_X8_countThroughBatches M k (nI x) = affI f (nI x) := by
  have hb := h.2.bats.2
  have hr := h.2.raws.2
  have e := (c_thrL h (x := x) (by omega) ((f 1).toNatClampNeg) 301 0 0 0 (by omega) (by omega) (by omega) (by decide)).1
  rw [nI_0] at e
  rw [r_X8_countThroughBatches, e, aff_same h.2 hx]
end AFF
