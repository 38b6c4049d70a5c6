/-! ===== days until a lid pops ===== -/
def dyC (ρ : Int32) : Nat → Nat → Int32 → Int32
  | 0, _, _ => 0
  | m + 1, j, v => if (60 : Int32) ≤ v then nI j else if (60 : Int32) ≤ nI j then nI j else dyC ρ m (j + 1) (v + ρ)
def dyM (ρ : Int32) : Nat → Int32 → Int32 → Int32
  | 0, w, _ => w
  | m + 1, w, v => if (60 : Int32) ≤ v then w else dyM ρ m (w + 1) (v + ρ)
def dyD (ρ v : Int32) : Int32 := if ρ ≤ 0 then 0 else ((((60 : Int32) - v) + ρ) - 1) / ρ
theorem dy_C (k : Nat) (i : Int32) (M : fM) : ∀ (m j : Nat) (v : Int32), l_X8_daysDayByDay k i M m j v = dyC (r_X8_riseAt M k i) m j v
  | 0, _, _ => rfl
  | m + 1, j, v => by rw [l_X8_daysDayByDay, dyC, dy_C k i M m (j + 1)]
theorem dy_M (a pv : Int32) (M : fM) : ∀ (m j : Nat) (w v : Int32), (l_X12_toPopL a pv M m j w v).1 = dyM (r_X12_grows M pv) m w v
  | 0, _, _, _ => rfl
  | m + 1, j, w, v => by
    rw [l_X12_toPopL, dyM]
    by_cases h : (60 : Int32) ≤ v
    · rw [if_pos h, if_pos h]
    · rw [if_neg h, if_neg h, dy_M a pv M m (j + 1)]
theorem dy_all : ∀ r, r < 21 → 0 < r → ∀ p, p < 60 → dyC (nI r) 61 0 (nI p) = dyD (nI r) (nI p) ∧ dyM (nI r) 61 0 (nI p) = dyD (nI r) (nI p) := by decide +kernel
theorem rise_ok {N : Nat} {f : Nat → Int32} (h : WF N f) {p : Nat} (hp : p < (f 3).toNatClampNeg) : ∃ r, (21 : Int32) - str f p = nI r ∧ 0 < r ∧ r < 21 := by
  obtain ⟨-, -, -, h1, h2, -⟩ := h.2.2.2 p hp
  obtain ⟨⟨s1, s0⟩, -⟩ := h.2.1 _ h1.2
  obtain ⟨⟨t1, t0⟩, -⟩ := h.2.1 _ h2.2
  obtain ⟨a, ea, la⟩ := s1.ex
  obtain ⟨b, eb, lb⟩ := t1.ex
  rw [ea, cn_nI (by omega)] at s0
  rw [eb, cn_nI (by omega)] at t0
  rw [str, ea, eb, nI_add, show (2 : Int32) = nI 2 from rfl, pk_div (by omega) (by omega) (by omega), show (21 : Int32) = nI 21 from rfl, pk_sub (by omega)]
  exact ⟨_, rfl, by omega, by omega⟩
section SUMS
variable {N : Nat} {M W : fM} {k : Nat} {f : Nat → Int32}
theorem c_dayC (h : SW N M k f) {p : Nat} (hp : p < (f 3).toNatClampNeg) : r_X8_daysDayByDay M k (nI p) = dyD (21 - str f p) (f (79 + 6 * p + 5)) := by
  obtain ⟨r, e1, e2, e3⟩ := rise_ok h.2 hp
  obtain ⟨q, e4, e5⟩ := (h.2.2.2.2 p hp).2.2.2.2.2.ex
  rw [r_X8_daysDayByDay, dy_C, r_X8_riseAt, c_strg h hp, c_pres h hp, e1, e4]
  exact (dy_all r e3 e2 q e5).1
theorem c_dayD (h : SW N M k f) {p : Nat} (hp : p < (f 3).toNatClampNeg) : r_X8_daysDivided M k (nI p) = dyD (21 - str f p) (f (79 + 6 * p + 5)) := by
  rw [r_X8_daysDivided, r_X8_riseAt, c_strg h hp, c_pres h hp, dyD]
theorem m_day (hW : W 297 = f) (h : WF N f) {p : Nat} (hp : p < (f 3).toNatClampNeg) (a : Int32) (j : Nat) : (l_X12_toPopL a (nI p) W 61 j 0 (f (79 + 6 * p + 5))).1 = dyD (21 - str f p) (f (79 + 6 * p + 5)) := by
  obtain ⟨r, e1, e2, e3⟩ := rise_ok h hp
  obtain ⟨q, e4, e5⟩ := (h.2.2.2 p hp).2.2.2.2.2.ex
  rw [dy_M, r_X12_grows, m_strong hW h hp, e1, e4]
  exact (dy_all r e3 e2 q e5).2
theorem P_day (hW : W 297 = f) (h : WF N f) (a : Int32) : P_X12_toPop W a := by
  have hW2 : m_X12_isLost W a 297 = f := (m_lost W a).trans hW
  have hn := h.lots.2
  refine ⟨N_ps hW h a, fun _ => N_ps hW2 h a, fun hl => ?_, fun hl => ?_⟩
  · rw [m_ps hW2 h]
    rcases ps_cases f a with hp | ⟨i, hi, -, hp⟩
    · rw [r_lost_n hW h hp] at hl
      exact absurd hl z_n1
    · rw [hp]
      exact Nby_nI (w := 5) (by omega) 5 rfl
  · rw [m_ps hW2 h]
    rcases ps_cases f a with hp | ⟨i, hi, -, hp⟩
    · rw [r_lost_n hW h hp] at hl
      exact absurd hl z_n1
    · rw [hp, m_by hW2 (w := 5) (by omega) (by omega) 5 rfl]
      obtain ⟨r, e1, e2, e3⟩ := rise_ok h hi
      obtain ⟨q, e4, e5⟩ := (h.2.2.2 i hi).2.2.2.2.2.ex
      refine ⟨fun j v => ∃ q, v = nI q ∧ j ≤ q ∧ q < 100, ⟨q, e4, by omega, by omega⟩, fun j v _ hP hv => ?_, N_strong hW2 h hi, fun j v _ hP hv => ?_⟩
      · obtain ⟨q, rfl, h1, h2⟩ := hP
        have : q < 60 := Nat.lt_of_not_le fun h3 => hv (nI_le (a := 60) h3 (by omega))
        omega
      · obtain ⟨q, rfl, h1, h2⟩ := hP
        have : q < 60 := Nat.lt_of_not_le fun h3 => hv (nI_le (a := 60) h3 (by omega))
        rw [r_X12_grows, m_strong hW2 h hi, e1, nI_add]
        exact ⟨q + r, rfl, by omega, by omega⟩
/-! ===== adding up over the lots ===== -/
def acc (g : Nat → Int32) : Nat → Nat → Int32 → Int32
  | 0, _, v => v
  | m + 1, j, v => acc g m (j + 1) (v + g j)
theorem acc_cg {g g' : Nat → Int32} : ∀ (m j : Nat) (v : Int32), (∀ i, j ≤ i → i < j + m → g i = g' i) → acc g m j v = acc g' m j v
  | 0, _, _, _ => rfl
  | m + 1, j, v, h => by rw [acc, acc, h j (by omega) (by omega), acc_cg m (j + 1) _ (fun i h1 h2 => h i (by omega) (by omega))]
theorem c_sumL (h : SW N M k f) {r : Nat} {g : Nat → Int32} (hg : ∀ p, p < (f 3).toNatClampNeg → rget M r 8 (nI p) = g p) : ∀ (m m' j : Nat) (v : Int32), j + m = (f 3).toNatClampNeg → m < m' → l_X5_sumOf (k + 11) r M m' j v = acc g m j v
  | 0, m' + 1, j, v, h1, h2 => by
    rw [l_X5_sumOf, h.1.2.2.2.1.1, if_pos (le3 h.2 (by omega)), acc]
  | m + 1, m' + 1, j, v, h1, h2 => by
    have hn := h.2.lots.2
    rw [l_X5_sumOf, h.1.2.2.2.1.1, if_neg (nle3 h.2 (by omega)), hg j (by omega), acc, c_sumL h hg m m' (j + 1) _ (by omega) (by omega)]
  | 0, 0, _, _, _, h2 => by omega
  | m + 1, 0, _, _, _, h2 => by omega
def sJ (f : Nat → Int32) : Int32 := acc (fun p => f (79 + 6 * p + 1)) ((f 3).toNatClampNeg) 0 0
def sP (f : Nat → Int32) : Int32 := acc (fun p => f (79 + 6 * p + 5)) ((f 3).toNatClampNeg) 0 0
theorem c_sJ (h : SW N M k f) : r_X5_sumOf M (k + 11) (k + 11 + 9) = sJ f := by
  have := h.2.lots.2
  rw [r_X5_sumOf, sJ, c_sumL h (fun p hp => c_jars h hp) ((f 3).toNatClampNeg) 301 0 0 (by omega) (by omega)]
theorem c_sP (h : SW N M k f) : r_X5_sumOf M (k + 11) (k + 11 + 11) = sP f := by
  have := h.2.lots.2
  rw [r_X5_sumOf, sP, c_sumL h (fun p hp => c_pres h hp) ((f 3).toNatClampNeg) 301 0 0 (by omega) (by omega)]
theorem m_sJL (hW : W 297 = f) (h : WF N f) : ∀ (m m' j : Nat) (v : Int32), j + m = (f 3).toNatClampNeg → m < m' → l_X12_keptJars W m' j v = acc (fun p => f (79 + 6 * p + 1)) m j v
  | 0, m' + 1, j, v, h1, h2 => by
    rw [l_X12_keptJars, cl_3, hW, if_pos (le3 h (by omega)), acc]
  | m + 1, m' + 1, j, v, h1, h2 => by
    have hn := h.lots.2
    rw [l_X12_keptJars, cl_3, m_by hW (w := 1) (by omega) (by omega) 1 rfl, hW, if_neg (nle3 h (by omega)), acc, m_sJL hW h m m' (j + 1) _ (by omega) (by omega)]
  | 0, 0, _, _, _, h2 => by omega
  | m + 1, 0, _, _, _, h2 => by omega
theorem m_sJ (hW : W 297 = f) (h : WF N f) : r_X12_keptJars W = sJ f := by
  have := h.lots.2
  rw [r_X12_keptJars, sJ, m_sJL hW h ((f 3).toNatClampNeg) 9 0 0 (by omega) (by omega)]
theorem N_sJ (hW : W 297 = f) (h : WF N f) : N_X12_keptJars W := by
  have hn := h.lots.2
  have key : ∀ j : Nat, j ≤ 8 → ¬ (W 297 ((3 : Int32)).toNatClampNeg ≤ nI j) → j < 8 := fun j h1 h2 => by
    rw [cl_3, hW] at h2
    have := lt3 h (by omega) h2
    omega
  exact ⟨fun j v h1 h2 => key j h1 h2, fun j v h1 h2 => Nby_nI (w := 1) (by have := key j h1 h2; omega) 1 rfl⟩
theorem m_sPL (hW : W 297 = f) (h : WF N f) : ∀ (m m' j : Nat) (v : Int32), j + m = (f 3).toNatClampNeg → m < m' → l_X12_meanPressureL W m' j v = acc (fun p => f (79 + 6 * p + 5)) m j v
  | 0, m' + 1, j, v, h1, h2 => by
    rw [l_X12_meanPressureL, cl_3, hW, if_pos (le3 h (by omega)), acc]
  | m + 1, m' + 1, j, v, h1, h2 => by
    have hn := h.lots.2
    rw [l_X12_meanPressureL, cl_3, m_by hW (w := 5) (by omega) (by omega) 5 rfl, hW, if_neg (nle3 h (by omega)), acc, m_sPL hW h m m' (j + 1) _ (by omega) (by omega)]
  | 0, 0, _, _, _, h2 => by omega
  | m + 1, 0, _, _, _, h2 => by omega
theorem m_sP (hW : W 297 = f) (h : WF N f) : l_X12_meanPressureL W 9 0 0 = sP f := by
  have := h.lots.2
  rw [sP, m_sPL hW h ((f 3).toNatClampNeg) 9 0 0 (by omega) (by omega)]
/-! ===== ranks by pressure ===== -/
def cnt (B : Nat → Bool) : Nat → Nat → Nat
  | 0, _ => 0
  | m + 1, j => (if B j = true then 1 else 0) + cnt B m (j + 1)
def rkB (f : Nat → Int32) (p o : Nat) : Bool := decide ((f (79 + 6 * p + 5)).toNatClampNeg < (f (79 + 6 * o + 5)).toNatClampNeg ∨ ((f (79 + 6 * o + 5)).toNatClampNeg = (f (79 + 6 * p + 5)).toNatClampNeg ∧ o < p))
def rkp (f : Nat → Int32) (x : Int32) : Int32 := fnd (fun p => decide (nI (cnt (rkB f p) ((f 3).toNatClampNeg) 0) = x)) ((f 3).toNatClampNeg) 0
theorem WF.pr (h : WF N f) {p : Nat} (hp : p < (f 3).toNatClampNeg) : f (79 + 6 * p + 5) = nI ((f (79 + 6 * p + 5)).toNatClampNeg) ∧ (f (79 + 6 * p + 5)).toNatClampNeg < 60 := (h.2.2.2 p hp).2.2.2.2.2
theorem c_rankL (h : SW N M k f) {p : Nat} (hp : p < (f 3).toNatClampNeg) : ∀ (m m' j c : Nat), j + m = (f 3).toNatClampNeg → m < m' → l_X5_rankOf (k + 11) (nI p) M m' j (nI c) = nI (c + cnt (rkB f p) m j)
  | 0, m' + 1, j, c, h1, h2 => by
    rw [l_X5_rankOf, h.1.2.2.2.1.1, if_pos (le3 h.2 (by omega)), cnt, Nat.add_zero]
  | m + 1, m' + 1, j, c, h1, h2 => by
    have hn := h.2.lots.2
    have hj : j < (f 3).toNatClampNeg := by omega
    obtain ⟨e1, l1⟩ := h.2.pr hp
    obtain ⟨e2, l2⟩ := h.2.pr hj
    have hd := pk_sub_toInt (a := (f (79 + 6 * j + 5)).toNatClampNeg) (b := (f (79 + 6 * p + 5)).toNatClampNeg) (by omega) (by omega)
    rw [← e1, ← e2] at hd
    have hp0 : (0 < f (79 + 6 * j + 5) - f (79 + 6 * p + 5)) ↔ (f (79 + 6 * p + 5)).toNatClampNeg < (f (79 + 6 * j + 5)).toNatClampNeg := by
      rw [Int32.lt_iff_toInt_lt, hd, Int32.toInt_zero]
      omega
    have hp1 : (f (79 + 6 * j + 5) - f (79 + 6 * p + 5) = 0) ↔ (f (79 + 6 * j + 5)).toNatClampNeg = (f (79 + 6 * p + 5)).toNatClampNeg := by
      rw [← Int32.toInt_inj, hd, Int32.toInt_zero]
      omega
    have hp2 : (nI p ≤ nI j) ↔ p ≤ j := nI_leI (by omega) (by omega)
    have i0 := c_rankL h hp m m' (j + 1) c (by omega) (by omega)
    have i1 := c_rankL h hp m m' (j + 1) (c + 1) (by omega) (by omega)
    rw [← nI_1] at i1
    rw [l_X5_rankOf, h.1.2.2.2.1.1, if_neg (nle3 h.2 (by omega)), c_pres h hp, c_pres h hj, cnt, rkB]
    by_cases b1 : (f (79 + 6 * p + 5)).toNatClampNeg < (f (79 + 6 * j + 5)).toNatClampNeg
    · rw [if_pos (hp0.mpr b1), i1, if_pos (decide_eq_true (Or.inl b1)), Nat.add_assoc]
    · rw [if_neg (fun q => b1 (hp0.mp q))]
      by_cases b2 : (f (79 + 6 * j + 5)).toNatClampNeg = (f (79 + 6 * p + 5)).toNatClampNeg
      · rw [if_pos (hp1.mpr b2)]
        by_cases b3 : p ≤ j
        · rw [if_pos (hp2.mpr b3), i0, if_neg (by rw [decide_eq_true_iff]; omega), Nat.zero_add]
        · rw [if_neg (fun q => b3 (hp2.mp q)), i1, if_pos (decide_eq_true (Or.inr ⟨b2, by omega⟩)), Nat.add_assoc]
      · rw [if_neg (fun q => b2 (hp1.mp q)), i0, if_neg (by rw [decide_eq_true_iff]; omega), Nat.zero_add]
  | 0, 0, _, _, _, h2 => by omega
  | m + 1, 0, _, _, _, h2 => by omega
theorem m_rankL (hW : W 297 = f) (h : WF N f) (a : Int32) {p : Nat} (hp : p < (f 3).toNatClampNeg) : ∀ (m m' j c : Nat), j + m = (f 3).toNatClampNeg → m < m' → l_X12_lotByPressureI a (nI p) W m' j (nI c) = nI (c + cnt (rkB f p) m j)
  | 0, m' + 1, j, c, h1, h2 => by
    rw [l_X12_lotByPressureI, cl_3, hW, if_pos (le3 h (by omega)), cnt, Nat.add_zero]
  | m + 1, m' + 1, j, c, h1, h2 => by
    have hn := h.lots.2
    have hj : j < (f 3).toNatClampNeg := by omega
    obtain ⟨e1, l1⟩ := h.pr hp
    obtain ⟨e2, l2⟩ := h.pr hj
    have hp0 : (f (79 + 6 * p + 5) < f (79 + 6 * j + 5)) ↔ (f (79 + 6 * p + 5)).toNatClampNeg < (f (79 + 6 * j + 5)).toNatClampNeg := by
      rw [e1, e2, cn_nI (by omega), cn_nI (by omega)]
      exact nI_ltI (by omega) (by omega)
    have hp1 : (f (79 + 6 * j + 5) = f (79 + 6 * p + 5)) ↔ (f (79 + 6 * j + 5)).toNatClampNeg = (f (79 + 6 * p + 5)).toNatClampNeg := by
      rw [e1, e2, cn_nI (by omega), cn_nI (by omega)]
      exact nI_eq (by omega) (by omega)
    have hp2 : (nI p ≤ nI j) ↔ p ≤ j := nI_leI (by omega) (by omega)
    have i0 := m_rankL hW h a hp m m' (j + 1) c (by omega) (by omega)
    have i1 := m_rankL hW h a hp m m' (j + 1) (c + 1) (by omega) (by omega)
    rw [← nI_1] at i1
    rw [l_X12_lotByPressureI, cl_3, m_by hW (w := 5) (by omega) (by omega) 5 rfl, m_by hW (w := 5) (by omega) (by omega) 5 rfl, hW, if_neg (nle3 h (by omega)), cnt, rkB, show nI c + (0 : Int32) = nI c from Int32.add_zero _]
    by_cases b1 : (f (79 + 6 * p + 5)).toNatClampNeg < (f (79 + 6 * j + 5)).toNatClampNeg
    · rw [if_pos (hp0.mpr b1), i1, if_pos (decide_eq_true (Or.inl b1)), Nat.add_assoc]
    · rw [if_neg (fun q => b1 (hp0.mp q))]
      by_cases b2 : (f (79 + 6 * j + 5)).toNatClampNeg = (f (79 + 6 * p + 5)).toNatClampNeg
      · rw [if_pos (hp1.mpr b2)]
        by_cases b3 : p ≤ j
        · rw [if_pos (hp2.mpr b3), i0, if_neg (by rw [decide_eq_true_iff]; omega), Nat.zero_add]
        · rw [if_neg (fun q => b3 (hp2.mp q)), i1, if_pos (decide_eq_true (Or.inr ⟨b2, by omega⟩)), Nat.add_assoc]
      · rw [if_neg (fun q => b2 (hp1.mp q)), i0, if_neg (by rw [decide_eq_true_iff]; omega), Nat.zero_add]
  | 0, 0, _, _, _, h2 => by omega
  | m + 1, 0, _, _, _, h2 => by omega
theorem c_rkpL (h : SW N M k f) (x : Int32) : ∀ (m m' j : Nat), j + m = (f 3).toNatClampNeg → m < m' → l_X5_positionOfRank (k + 11) x M m' j = fnd (fun p => decide (nI (cnt (rkB f p) ((f 3).toNatClampNeg) 0) = x)) m j
  | 0, m' + 1, j, h1, h2 => by
    rw [l_X5_positionOfRank, h.1.2.2.2.1.1, if_pos (le3 h.2 (by omega)), fnd]
  | m + 1, m' + 1, j, h1, h2 => by
    have hn := h.2.lots.2
    have e := c_rankL h (p := j) (by omega) ((f 3).toNatClampNeg) 301 0 0 (by omega) (by omega)
    rw [nI_0, Nat.zero_add] at e
    rw [l_X5_positionOfRank, r_X5_rankOf, e, h.1.2.2.2.1.1, if_neg (nle3 h.2 (by omega)), fnd, c_rkpL h x m m' (j + 1) (by omega) (by omega)]
    by_cases hb : nI (cnt (rkB f j) ((f 3).toNatClampNeg) 0) = x
    · rw [if_pos hb, if_pos (decide_eq_true hb)]
    · rw [if_neg hb, if_neg (fun q => hb (of_decide_eq_true q))]
  | 0, 0, _, _, h2 => by omega
  | m + 1, 0, _, _, h2 => by omega
theorem c_rkp (h : SW N M k f) (x : Int32) : r_X5_positionOfRank M (k + 11) x = rkp f x := by
  have := h.2.lots.2
  rw [r_X5_positionOfRank, rkp, c_rkpL h x ((f 3).toNatClampNeg) 301 0 (by omega) (by omega)]
theorem m_rkpL (hW : W 297 = f) (h : WF N f) (x : Int32) : ∀ (m m' j : Nat), j + m = (f 3).toNatClampNeg → m < m' →
    (fnd (fun p => decide (nI (cnt (rkB f p) ((f 3).toNatClampNeg) 0) = x)) m j = -1 ∧ l_X12_lotByPressure x W m' j = (0, fst1 W 296 7 1)) ∨ (∃ i, i < (f 3).toNatClampNeg ∧ fnd (fun p => decide (nI (cnt (rkB f p) ((f 3).toNatClampNeg) 0) = x)) m j = nI i ∧ l_X12_lotByPressure x W m' j = (f (79 + 6 * i), fst1 W 296 7 0))
  | 0, m' + 1, j, h1, h2 => by
    rw [l_X12_lotByPressure, cl_3, hW, if_pos (le3 h (by omega)), fnd]
    exact Or.inl ⟨rfl, rfl⟩
  | m + 1, m' + 1, j, h1, h2 => by
    have hn := h.lots.2
    have e := m_rankL hW h x (p := j) (by omega) ((f 3).toNatClampNeg) 9 0 0 (by omega) (by omega)
    rw [nI_0, Nat.zero_add] at e
    rw [l_X12_lotByPressure, e, cl_3, hW, if_neg (nle3 h (by omega)), fnd]
    by_cases hb : nI (cnt (rkB f j) ((f 3).toNatClampNeg) 0) = x
    · rw [if_pos hb, if_pos (decide_eq_true hb), m_by (f := f) (w7.trans hW) (w := 0) (by omega) (by omega) 0 rfl, Nat.add_zero]
      exact Or.inr ⟨j, by omega, rfl, rfl⟩
    · rw [if_neg hb, if_neg (fun q => hb (of_decide_eq_true q))]
      exact m_rkpL hW h x m m' (j + 1) (by omega) (by omega)
  | 0, 0, _, _, h2 => by omega
  | m + 1, 0, _, _, h2 => by omega
theorem m_rkp (hW : W 297 = f) (h : WF N f) (x : Int32) : (rkp f x = -1 ∧ r_X12_lotByPressure W x = 0 ∧ m_X12_lotByPressure W x = fst1 W 296 7 1) ∨ (∃ i, i < (f 3).toNatClampNeg ∧ rkp f x = nI i ∧ r_X12_lotByPressure W x = f (79 + 6 * i) ∧ m_X12_lotByPressure W x = fst1 W 296 7 0) := by
  have := h.lots.2
  rw [r_X12_lotByPressure, m_X12_lotByPressure, rkp]
  rcases m_rkpL hW h x ((f 3).toNatClampNeg) 9 0 (by omega) (by omega) with ⟨h1, h2⟩ | ⟨i, h1, h2, h3⟩
  · rw [h2]; exact Or.inl ⟨h1, rfl, rfl⟩
  · rw [h3]; exact Or.inr ⟨i, h1, h2, rfl, rfl⟩
theorem N_rkp (hW : W 297 = f) (h : WF N f) (x : Int32) : N_X12_lotByPressure W x := by
  have hn := h.lots.2
  have key : ∀ j : Nat, j ≤ 8 → ¬ (W 297 ((3 : Int32)).toNatClampNeg ≤ nI j) → j < 8 := fun j h1 h2 => by
    rw [cl_3, hW] at h2
    have := lt3 h (by omega) h2
    omega
  refine ⟨fun j h1 h2 => key j h1 h2, fun j _ _ i _ h1 h2 => key i h1 h2, fun j _ _ i _ h1 h2 => ?_, fun j h1 h2 i _ _ _ => ?_, fun j _ _ i _ h1 h2 _ => ?_, fun j h1 h2 i _ _ _ _ => ?_, fun j h1 h2 _ => ?_⟩
  · have := key i h1 h2; exact Nby_nI (w := 5) (by omega) 5 rfl
  · have := key j h1 h2; exact Nby_nI (w := 5) (by omega) 5 rfl
  · have := key i h1 h2; exact Nby_nI (w := 5) (by omega) 5 rfl
  · have := key j h1 h2; exact Nby_nI (w := 5) (by omega) 5 rfl
  · have := key j h1 h2; exact Nby_nI (w := 0) (by omega) 0 rfl
end SUMS
