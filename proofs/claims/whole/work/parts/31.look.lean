/-! ===== searching and adding up ===== -/
/-- the first of j, j+1 .. (m of them) with P, or -1 -/
def fnd (P : Nat → Bool) : Nat → Nat → Int32
  | 0, _ => -1
  | m + 1, j => if P j = true then nI j else fnd P m (j + 1)
theorem fnd_cases (P : Nat → Bool) : ∀ (m j : Nat), (fnd P m j = -1 ∧ ∀ i, j ≤ i → i < j + m → P i = false) ∨ (∃ i, j ≤ i ∧ i < j + m ∧ P i = true ∧ fnd P m j = nI i ∧ ∀ q, j ≤ q → q < i → P q = false)
  | 0, j => Or.inl ⟨rfl, fun i h1 h2 => by omega⟩
  | m + 1, j => by
    rw [fnd]
    by_cases h : P j = true
    · rw [if_pos h]
      exact Or.inr ⟨j, by omega, by omega, h, rfl, fun q h1 h2 => by omega⟩
    · rw [if_neg h]
      have hf : P j = false := by cases hb : P j with | true => exact absurd hb h | false => rfl
      rcases fnd_cases P m (j + 1) with ⟨h1, h2⟩ | ⟨i, h1, h2, h3, h4, h5⟩
      · refine Or.inl ⟨h1, fun i k1 k2 => ?_⟩
        by_cases e : i = j
        · rw [e]; exact hf
        · exact h2 i (by omega) (by omega)
      · refine Or.inr ⟨i, by omega, by omega, h3, h4, fun q k1 k2 => ?_⟩
        by_cases e : q = j
        · rw [e]; exact hf
        · exact h5 q (by omega) k2
theorem fnd_cg {P Q : Nat → Bool} : ∀ (m j : Nat), (∀ i, j ≤ i → i < j + m → P i = Q i) → fnd P m j = fnd Q m j
  | 0, _, _ => rfl
  | m + 1, j, h => by
    rw [fnd, fnd, h j (by omega) (by omega), fnd_cg m (j + 1) (fun i h1 h2 => h i (by omega) (by omega))]
theorem n1_nI {i : Nat} (h : i < 2 ^ 31) : ¬ nI i = -1 := fun e => by
  have := nI_pos h
  rw [e] at this
  exact this (by decide)
def sumI (g : Nat → Int32) : Nat → Int32
  | 0 => 0
  | n + 1 => sumI g n + g n
theorem sumI_cg {g g' : Nat → Int32} : ∀ (n : Nat), (∀ i, i < n → g i = g' i) → sumI g n = sumI g' n
  | 0, _ => rfl
  | n + 1, h => by rw [sumI, sumI, sumI_cg n (fun i hi => h i (by omega)), h n (by omega)]
/-! ===== where a lot stands ===== -/
def psB (f : Nat → Int32) (x : Int32) (p : Nat) : Bool := decide (f (79 + 6 * p) = x)
def ps (f : Nat → Int32) (x : Int32) : Int32 := fnd (psB f x) ((f 3).toNatClampNeg) 0
theorem ps_cases (f : Nat → Int32) (x : Int32) : (ps f x = -1) ∨ (∃ i, i < (f 3).toNatClampNeg ∧ f (79 + 6 * i) = x ∧ ps f x = nI i) := by
  rcases fnd_cases (psB f x) ((f 3).toNatClampNeg) 0 with ⟨h1, -⟩ | ⟨i, h1, h2, h3, h4, -⟩
  · exact Or.inl h1
  · exact Or.inr ⟨i, by omega, of_decide_eq_true h3, h4⟩
section PS
variable {N : Nat} {M W : fM} {k : Nat} {f : Nat → Int32}
theorem c_psL (h : SW N M k f) (x : Int32) : ∀ (m m' j : Nat), j + m = (f 3).toNatClampNeg → m < m' → l_X5_positionOf (k + 11) x M m' j = fnd (psB f x) m j
  | 0, m' + 1, j, h1, h2 => by
    rw [l_X5_positionOf, h.1.2.2.2.1.1, if_pos (le3 h.2 (by omega)), fnd]
  | m + 1, m' + 1, j, h1, h2 => by
    have hn := h.2.lots.2
    rw [l_X5_positionOf, h.1.2.2.2.1.1, if_neg (nle3 h.2 (by omega)), c_nums h (by omega), fnd, c_psL h x m m' (j + 1) (by omega) (by omega)]
    by_cases hb : f (79 + 6 * j) = x
    · rw [if_pos hb, if_pos (show psB f x j = true from decide_eq_true hb)]
    · rw [if_neg hb, if_neg (show ¬ psB f x j = true from fun q => hb (of_decide_eq_true q))]
  | 0, 0, _, _, h2 => by omega
  | m + 1, 0, _, _, h2 => by omega
theorem c_ps (h : SW N M k f) (x : Int32) : r_X5_positionOf M (k + 11) x = ps f x := by
  have := h.2.lots.2
  rw [r_X5_positionOf, ps, c_psL h x ((f 3).toNatClampNeg) 301 0 (by omega) (by omega)]
theorem m_psL (hW : W 297 = f) (h : WF N f) (x : Int32) : ∀ (m m' j : Nat), j + m = (f 3).toNatClampNeg → m < m' → l_X12_placeOf x W m' j = fnd (psB f x) m j
  | 0, m' + 1, j, h1, h2 => by
    rw [l_X12_placeOf, cl_3, hW, if_pos (le3 h (by omega)), fnd]
  | m + 1, m' + 1, j, h1, h2 => by
    have hn := h.lots.2
    rw [l_X12_placeOf, cl_3, m_by hW (w := 0) (by omega) (by omega) 0 rfl, hW, if_neg (nle3 h (by omega)), fnd, Nat.add_zero, m_psL hW h x m m' (j + 1) (by omega) (by omega)]
    by_cases hb : f (79 + 6 * j) = x
    · rw [if_pos hb, if_pos (show psB f x j = true from decide_eq_true hb)]
    · rw [if_neg hb, if_neg (show ¬ psB f x j = true from fun q => hb (of_decide_eq_true q))]
  | 0, 0, _, _, h2 => by omega
  | m + 1, 0, _, _, h2 => by omega
theorem m_ps (hW : W 297 = f) (h : WF N f) (x : Int32) : r_X12_placeOf W x = ps f x := by
  have := h.lots.2
  rw [r_X12_placeOf, ps, m_psL hW h x ((f 3).toNatClampNeg) 9 0 (by omega) (by omega)]
theorem N_ps (hW : W 297 = f) (h : WF N f) (x : Int32) : N_X12_placeOf W x := by
  have hn := h.lots.2
  refine ⟨fun j h1 h2 => ?_, fun j h1 h2 => ?_⟩
  · rw [cl_3, hW] at h2
    have := lt3 h (by omega) h2
    omega
  · rw [cl_3, hW] at h2
    have := lt3 h (by omega) h2
    exact Nby_nI (w := 0) (by omega) 0 rfl
end PS
/-! ===== calls that look at a raw lot, a batch, a label, a jar lot ===== -/
theorem w0 {M : fM} : M 297 = M 297 := rfl
theorem w6 {M : fM} {x : Int32} : fst1 M 306 0 x 297 = M 297 := fst1_ne (by decide)
theorem w7 {M : fM} {x : Int32} : fst1 M 296 7 x 297 = M 297 := fst1_ne (by decide)
theorem w76 {M : fM} {x y : Int32} : fst1 (fst1 M 306 0 x) 296 7 y 297 = M 297 := w7.trans w6
theorem z_if (y : Int32) : (if y &&& (1 : Int32) = 1 then (1 : Int32) else 0) = y &&& 1 := by
  rcases z_01 y with h | h
  · rw [h, if_neg z_n0]
  · rw [h, if_pos rfl]
theorem lt_no {x : Int32} {n : Nat} (hn : n < 2 ^ 30) (h : ¬ ∃ j, x = nI j ∧ j < n) (h0 : ¬ x < 0) : ¬ x < nI n := by
  obtain ⟨k, hk, rfl⟩ := nI_of h0
  exact fun hl => h ⟨k, rfl, (nI_ltI hk (by omega)).mp hl⟩
theorem ch_id {x : Int32} {n : Nat} (h : sm x n) (hn : n ≤ 65536) : (x.toUInt32 % 65536).toInt32 = x := by
  rw [pk_char]
  have h4 : x.toBitVec.toNat = x.toNatClampNeg := (congrArg (fun x : Int32 => x.toBitVec.toNat) h.1).trans (pk_tn (by have := h.2; omega))
  rw [h4, Nat.mod_eq_of_lt (by have := h.2; omega)]
  exact h.1.symm
section LOST
variable {N : Nat} {W : fM} {f : Nat → Int32} {x : Int32}
theorem m_lost (W : fM) (x : Int32) : m_X12_isLost W x 297 = W 297 := by
  rw [m_X12_isLost]
  split <;> exact fst1_ne (by decide)
theorem r_lost_n (hW : W 297 = f) (h : WF N f) (hp : ps f x = -1) : r_X12_isLost W x = 1 := by
  rw [r_X12_isLost, m_ps hW h, hp, if_neg (by decide)]
theorem m_lost_n (hW : W 297 = f) (h : WF N f) (hp : ps f x = -1) : m_X12_isLost W x = fst1 W 296 7 1 := by
  rw [m_X12_isLost, m_ps hW h, hp, if_neg (by decide)]
theorem r_lost_y (hW : W 297 = f) (h : WF N f) {i : Nat} (hi : i < (f 3).toNatClampNeg) (hp : ps f x = nI i) : r_X12_isLost W x = 0 := by
  rw [r_X12_isLost, m_ps hW h, hp, if_pos (nI_pos' (by have := h.lots.2; omega))]
theorem m_lost_y (hW : W 297 = f) (h : WF N f) {i : Nat} (hi : i < (f 3).toNatClampNeg) (hp : ps f x = nI i) : m_X12_isLost W x = fst1 W 296 7 0 := by
  rw [m_X12_isLost, m_ps hW h, hp, if_pos (nI_pos' (by have := h.lots.2; omega))]
theorem q300 {M : fM} (h : SW N M 1 f) : sm (M (1 + 11) 6) 300 := by
  rw [show M (1 + 11) 6 = f 3 from h.1.2.2.2.1.1]
  exact ⟨h.2.lots.1, by have := h.2.lots.2; omega⟩
end LOST
section LOOK
variable {G : fG} {c : Nat} {M : fM} {dv : UInt64} {a b e f : Int32}
theorem op_4 (hG : fOK G) (h : It c M) : Op_4 G It c M dv a b e f := by
  have hS := h.1
  have hc := c_X11_isFaulty hG (d := 40) (by decide) M dv a
  rw [o_X11_isFaulty] at hc
  have kc := c_raw hS a
  by_cases hx : ∃ i, a = nI i ∧ i < (M 297 0).toNatClampNeg
  · rw [exd_pos hx] at kc
    obtain ⟨i, rfl, hi⟩ := hx
    rw [kc, if_neg z_n1, r_X0_isRawFaulty, z_has, hS.1.1.2.1] at hc
    have er : r_X12_isFaulty (fst1 M 306 0 (oL ((M 297 6 >>> (nI i &&& 31)) &&& (1 : Int32)))) (nI i) = (M 297 6 >>> (nI i &&& 31)) &&& (1 : Int32) := by rw [r_X12_isFaulty, m_raw (x := nI i) w6 hS.2, exd_pos ⟨_, rfl, hi⟩, if_neg z_n1, cl_6, w76, z_if]
    have em : m_X12_isFaulty (fst1 M 306 0 (oL ((M 297 6 >>> (nI i &&& 31)) &&& (1 : Int32)))) (nI i) = fst1 (fst1 M 306 0 (oL ((M 297 6 >>> (nI i &&& 31)) &&& (1 : Int32)))) 296 7 0 := by rw [m_X12_isFaulty, m_raw (x := nI i) w6 hS.2, exd_pos ⟨_, rfl, hi⟩, if_neg z_n1, ite_self]
    have kc2 := c_X12_isFaulty hG (d := 60) (by decide) (fst1 M 306 0 (oL ((M 297 6 >>> (nI i &&& 31)) &&& (1 : Int32)))) dv (nI i) 
    rw [er, em] at kc2
    exact opb_mk h 0 _ _ _ (Sm.out306.tr Sm.code) (fst1_at _ _ _ _) (c_L_isFaulty hG (by decide) (by decide) (by decide) M dv (nI i) hc 0 _ (Or.inl ⟨_, _, rfl, rfl, rfl⟩)) kc2 (fun _ => by rw [fst1_ne (by decide), fst1_at])
  · rw [exd_neg hx] at kc
    rw [kc, if_pos rfl] at hc
    have em : m_X12_isFaulty M a = fst1 M 296 7 1 := by rw [m_X12_isFaulty, m_raw (x := a) w0 hS.2, exd_neg hx, if_pos rfl]
    have kc2 := c_X12_isFaulty hG (d := 60) (by decide) M dv a 
    rw [em] at kc2
    exact opb_mk h 1 _ _ _ Sm.code (fst1_at _ _ _ _) (c_L_isFaulty hG (by decide) (by decide) (by decide) M dv a hc 1 _ (Or.inr ⟨_, rfl, rfl, rfl⟩)) kc2 (fun h => absurd h (by decide))
theorem op_5 (hG : fOK G) (h : It c M) : Op_5 G It c M dv a b e f := by
  have hS := h.1
  have hc := c_X11_strengthOf hG (d := 40) (by decide) M dv a
  rw [o_X11_strengthOf] at hc
  have kc := c_bat hS a
  by_cases hx : ∃ i, a = nI i ∧ i < (M 297 1).toNatClampNeg
  · rw [exd_pos hx] at kc
    obtain ⟨i, rfl, hi⟩ := hx
    have hb := hS.2.bats.2
    rw [kc, if_neg z_n1, c_strs hS hi] at hc
    have er : r_X12_strengthOf (fst1 M 306 0 (M 297 (11 + 2 * i))) (nI i) = M 297 (11 + 2 * i) := by rw [r_X12_strengthOf, m_bat (x := nI i) w6 hS.2, exd_pos ⟨_, rfl, hi⟩, if_neg z_n1, m_of w76 (w := 0) (by omega) (by omega) 0 rfl, Nat.add_zero]
    have em : m_X12_strengthOf (fst1 M 306 0 (M 297 (11 + 2 * i))) (nI i) = fst1 (fst1 M 306 0 (M 297 (11 + 2 * i))) 296 7 0 := by rw [m_X12_strengthOf, m_bat (x := nI i) w6 hS.2, exd_pos ⟨_, rfl, hi⟩, if_neg z_n1]
    have kc2 := c_X12_strengthOf hG (d := 60) (by decide) (fst1 M 306 0 (M 297 (11 + 2 * i))) dv (nI i) (fun _ => Nof_nI (w := 0) (by omega) 0 rfl)
    rw [er, em] at kc2
    exact opi_mk h 0 _ _ _ (Sm.out306.tr Sm.code) (fst1_at _ _ _ _) (c_L_strengthOf hG (by decide) (by decide) (by decide) M dv (nI i) hc 0 _ (Or.inl ⟨_, _, rfl, rfl, rfl⟩)) kc2 (fun _ => by rw [fst1_ne (by decide), fst1_at])
  · rw [exd_neg hx] at kc
    rw [kc, if_pos rfl] at hc
    have em : m_X12_strengthOf M a = fst1 M 296 7 1 := by rw [m_X12_strengthOf, m_bat (x := a) w0 hS.2, exd_neg hx, if_pos rfl]
    have kc2 := c_X12_strengthOf hG (d := 60) (by decide) M dv a (fun hn => absurd (by rw [m_bat w0 hS.2, exd_neg hx]) hn)
    rw [em] at kc2
    exact opi_mk h 1 _ _ _ Sm.code (fst1_at _ _ _ _) (c_L_strengthOf hG (by decide) (by decide) (by decide) M dv a hc 1 _ (Or.inr ⟨_, rfl, rfl, rfl⟩)) kc2 (fun h => absurd h (by decide))
theorem op_6 (hG : fOK G) (h : It c M) : Op_6 G It c M dv a b e f := by
  have hS := h.1
  have hc := c_X11_batchContains hG (d := 40) (by decide) M dv a b
  rw [o_X11_batchContains] at hc
  have kc := c_bat hS a
  have kr := c_raw hS b
  by_cases hx : ∃ i, a = nI i ∧ i < (M 297 1).toNatClampNeg
  · rw [exd_pos hx] at kc
    by_cases hy : ∃ i, b = nI i ∧ i < (M 297 0).toNatClampNeg
    · rw [exd_pos hy] at kr
      obtain ⟨i, rfl, hi⟩ := hx
      obtain ⟨j, rfl, hj⟩ := hy
      have hb := hS.2.bats.2
      rw [kc, if_neg z_n1, kr, if_neg z_n1, c_srcs hS hi, z_has] at hc
      have er : r_X12_batchContains (fst1 M 306 0 (oL ((M 297 (11 + 2 * i + 1) >>> (nI j &&& 31)) &&& (1 : Int32)))) (nI i) (nI j) = (M 297 (11 + 2 * i + 1) >>> (nI j &&& 31)) &&& (1 : Int32) := by rw [r_X12_batchContains, m_bat (x := nI i) w6 hS.2, exd_pos ⟨_, rfl, hi⟩, if_neg z_n1, m_raw (x := nI j) w6 hS.2, exd_pos ⟨_, rfl, hj⟩, if_neg z_n1, m_of w76 (w := 1) (by omega) (by omega) 1 rfl, z_if]
      have em : m_X12_batchContains (fst1 M 306 0 (oL ((M 297 (11 + 2 * i + 1) >>> (nI j &&& 31)) &&& (1 : Int32)))) (nI i) (nI j) = fst1 (fst1 M 306 0 (oL ((M 297 (11 + 2 * i + 1) >>> (nI j &&& 31)) &&& (1 : Int32)))) 296 7 0 := by rw [m_X12_batchContains, m_bat (x := nI i) w6 hS.2, exd_pos ⟨_, rfl, hi⟩, if_neg z_n1, m_raw (x := nI j) w6 hS.2, exd_pos ⟨_, rfl, hj⟩, if_neg z_n1, ite_self]
      have kc2 := c_X12_batchContains hG (d := 60) (by decide) (fst1 M 306 0 (oL ((M 297 (11 + 2 * i + 1) >>> (nI j &&& 31)) &&& (1 : Int32)))) dv (nI i) (nI j) (fun _ _ => Nof_nI (w := 1) (by omega) 1 rfl)
      rw [er, em] at kc2
      exact opb_mk h 0 _ _ _ (Sm.out306.tr Sm.code) (fst1_at _ _ _ _) (c_L_batchContains hG (by decide) (by decide) (by decide) M dv (nI i) (nI j) hc 0 _ (Or.inl ⟨_, _, rfl, rfl, rfl⟩)) kc2 (fun _ => by rw [fst1_ne (by decide), fst1_at])
    · rw [exd_neg hy] at kr
      rw [kc, if_neg z_n1, kr, if_pos rfl] at hc
      have em : m_X12_batchContains M a b = fst1 M 296 7 1 := by rw [m_X12_batchContains, m_bat (x := a) w0 hS.2, exd_pos hx, if_neg z_n1, m_raw (x := b) w0 hS.2, exd_neg hy, if_pos rfl]
      have kc2 := c_X12_batchContains hG (d := 60) (by decide) M dv a b (fun _ hn => absurd (by rw [m_raw w0 hS.2, exd_neg hy]) hn)
      rw [em] at kc2
      exact opb_mk h 1 _ _ _ Sm.code (fst1_at _ _ _ _) (c_L_batchContains hG (by decide) (by decide) (by decide) M dv a b hc 1 _ (Or.inr ⟨_, rfl, rfl, rfl⟩)) kc2 (fun h => absurd h (by decide))
  · rw [exd_neg hx] at kc
    rw [kc, if_pos rfl] at hc
    have em : m_X12_batchContains M a b = fst1 M 296 7 1 := by rw [m_X12_batchContains, m_bat (x := a) w0 hS.2, exd_neg hx, if_pos rfl]
    have kc2 := c_X12_batchContains hG (d := 60) (by decide) M dv a b (fun hn => absurd (by rw [m_bat w0 hS.2, exd_neg hx]) hn)
    rw [em] at kc2
    exact opb_mk h 1 _ _ _ Sm.code (fst1_at _ _ _ _) (c_L_batchContains hG (by decide) (by decide) (by decide) M dv a b hc 1 _ (Or.inr ⟨_, rfl, rfl, rfl⟩)) kc2 (fun h => absurd h (by decide))
theorem op_9 (hG : fOK G) (h : It c M) : Op_9 G It c M dv a b e f := by
  have hS := h.1
  have hc := c_X11_labelLength hG (d := 40) (by decide) M dv a
  rw [o_X11_labelLength] at hc
  have kc := c_lab hS a
  by_cases hx : ∃ i, a = nI i ∧ i < (M 297 2).toNatClampNeg
  · rw [exd_pos hx] at kc
    obtain ⟨i, rfl, hi⟩ := hx
    have hb := hS.2.labs.2
    rw [kc, if_neg z_n1, c_lens hS hi] at hc
    have er : r_X12_labelLength (fst1 M 306 0 (M 297 (23 + 7 * i))) (nI i) = M 297 (23 + 7 * i) := by rw [r_X12_labelLength, m_lab (x := nI i) w6 hS.2, exd_pos ⟨_, rfl, hi⟩, if_neg z_n1, m_sign w76 (w := 0) (by omega) (by omega) 0 rfl, Nat.add_zero]
    have em : m_X12_labelLength (fst1 M 306 0 (M 297 (23 + 7 * i))) (nI i) = fst1 (fst1 M 306 0 (M 297 (23 + 7 * i))) 296 7 0 := by rw [m_X12_labelLength, m_lab (x := nI i) w6 hS.2, exd_pos ⟨_, rfl, hi⟩, if_neg z_n1]
    have kc2 := c_X12_labelLength hG (d := 60) (by decide) (fst1 M 306 0 (M 297 (23 + 7 * i))) dv (nI i) (fun _ => Nsign_nI (w := 0) (by omega) 0 rfl)
    rw [er, em] at kc2
    exact opi_mk h 0 _ _ _ (Sm.out306.tr Sm.code) (fst1_at _ _ _ _) (c_L_labelLength hG (by decide) (by decide) (by decide) M dv (nI i) hc 0 _ (Or.inl ⟨_, _, rfl, rfl, rfl⟩)) kc2 (fun _ => by rw [fst1_ne (by decide), fst1_at])
  · rw [exd_neg hx] at kc
    rw [kc, if_pos rfl] at hc
    have em : m_X12_labelLength M a = fst1 M 296 7 1 := by rw [m_X12_labelLength, m_lab (x := a) w0 hS.2, exd_neg hx, if_pos rfl]
    have kc2 := c_X12_labelLength hG (d := 60) (by decide) M dv a (fun hn => absurd (by rw [m_lab w0 hS.2, exd_neg hx]) hn)
    rw [em] at kc2
    exact opi_mk h 1 _ _ _ Sm.code (fst1_at _ _ _ _) (c_L_labelLength hG (by decide) (by decide) (by decide) M dv a hc 1 _ (Or.inr ⟨_, rfl, rfl, rfl⟩)) kc2 (fun h => absurd h (by decide))
theorem op_10 (hG : fOK G) (h : It c M) : Op_10 G It c M dv a b e f := by
  have hS := h.1
  have hc := c_X11_labelLetter hG (d := 40) (by decide) M dv a b
  rw [o_X11_labelLetter] at hc
  have kc := c_lab hS a
  by_cases hx : ∃ i, a = nI i ∧ i < (M 297 2).toNatClampNeg
  · rw [exd_pos hx] at kc
    obtain ⟨i, rfl, hi⟩ := hx
    have hb := hS.2.labs.2
    obtain ⟨⟨⟨l1, l2⟩, l3⟩, l4⟩ := hS.2.2.2.1 i hi
    have N1 : ∀ W : fM, W 297 = M 297 → N_X12_labelLetter W (nI i) b := by
      intro W hW
      refine ⟨fun _ => Nsign_nI (w := 0) (by omega) 0 rfl, fun _ hn => ?_⟩
      rw [m_sign hW (w := 0) (by omega) (by omega) 0 rfl, Nat.add_zero, l1, in_below (by omega)] at hn
      by_cases hy : ∃ j, b = nI j ∧ j < (M 297 (23 + 7 * i)).toNatClampNeg
      · obtain ⟨j, rfl, hj⟩ := hy
        exact Nsign_nI (w := 1 + j) (by omega) _ (by rw [show (1 : Int32) = nI 1 from rfl, nI_add])
      · rw [exd_neg hy] at hn
        exact absurd rfl hn
    rw [kc, if_neg z_n1, c_lens hS hi] at hc
    by_cases hy : ∃ j, b = nI j ∧ j < (M 297 (23 + 7 * i)).toNatClampNeg
    · obtain ⟨j, rfl, hj⟩ := hy
      have hl := l4 j hj
      rw [if_neg (nI_pos (by omega)), if_pos (by rw [l1]; exact nI_lt hj (by omega)), c_letr hS hi hj] at hc
      have er : r_X12_labelLetter (fst1 M 306 0 (M 297 (23 + 7 * i + (1 + j)))) (nI i) (nI j) = M 297 (23 + 7 * i + (1 + j)) := by rw [r_X12_labelLetter, m_lab (x := nI i) w6 hS.2, exd_pos ⟨_, rfl, hi⟩, if_neg z_n1, m_sign w6 (w := 0) (by omega) (by omega) 0 rfl, Nat.add_zero, l1, in_below (by omega), exd_pos ⟨j, rfl, hj⟩, if_neg z_n1, m_sign (w := 1 + j) w76 (by omega) (by omega) _ (by rw [show (1 : Int32) = nI 1 from rfl, nI_add]), ch_id hl.1 (by decide)]
      have em : m_X12_labelLetter (fst1 M 306 0 (M 297 (23 + 7 * i + (1 + j)))) (nI i) (nI j) = fst1 (fst1 M 306 0 (M 297 (23 + 7 * i + (1 + j)))) 296 7 0 := by rw [m_X12_labelLetter, m_lab (x := nI i) w6 hS.2, exd_pos ⟨_, rfl, hi⟩, if_neg z_n1, m_sign w6 (w := 0) (by omega) (by omega) 0 rfl, Nat.add_zero, l1, in_below (by omega), exd_pos ⟨j, rfl, hj⟩, if_neg z_n1]
      have kc2 := c_X12_labelLetter hG (d := 60) (by decide) (fst1 M 306 0 (M 297 (23 + 7 * i + (1 + j)))) dv (nI i) (nI j) (N1 _ w6)
      rw [er, em] at kc2
      exact opi_mk h 0 _ _ _ (Sm.out306.tr Sm.code) (fst1_at _ _ _ _) (c_L_labelLetter hG (by decide) (by decide) (by decide) M dv (nI i) (nI j) hc 0 _ (Or.inl ⟨_, _, rfl, rfl, rfl⟩)) kc2 (fun _ => by rw [fst1_ne (by decide), fst1_at])
    · have hc' : fCt G z_X11_labelLetter 40 [.ref 0, .int (nI i), .int b] (sS M dv) 2 12 (fO dv (.inr "java/lang/IndexOutOfBoundsException", M)) := by
        by_cases h0 : b < 0
        · rw [if_pos h0] at hc; exact hc
        · rw [if_neg h0, if_neg (by rw [l1]; exact lt_no (by omega) hy h0)] at hc; exact hc
      clear hc
      have hc := hc'
      have em : m_X12_labelLetter M (nI i) b = fst1 M 296 7 1 := by rw [m_X12_labelLetter, m_lab (x := nI i) w0 hS.2, exd_pos ⟨_, rfl, hi⟩, if_neg z_n1, m_sign w0 (w := 0) (by omega) (by omega) 0 rfl, Nat.add_zero, l1, in_below (by omega), exd_neg hy, if_pos rfl]
      have kc2 := c_X12_labelLetter hG (d := 60) (by decide) M dv (nI i) b (N1 _ w0)
      rw [em] at kc2
      exact opi_mk h 1 _ _ _ Sm.code (fst1_at _ _ _ _) (c_L_labelLetter hG (by decide) (by decide) (by decide) M dv (nI i) b hc 1 _ (Or.inr ⟨_, rfl, rfl, rfl⟩)) kc2 (fun h => absurd h (by decide))
  · rw [exd_neg hx] at kc
    rw [kc, if_pos rfl] at hc
    have em : m_X12_labelLetter M a b = fst1 M 296 7 1 := by rw [m_X12_labelLetter, m_lab (x := a) w0 hS.2, exd_neg hx, if_pos rfl]
    have kc2 := c_X12_labelLetter hG (d := 60) (by decide) M dv a b ⟨fun hn => absurd (by rw [m_lab w0 hS.2, exd_neg hx]) hn, fun hn => absurd (by rw [m_lab w0 hS.2, exd_neg hx]) hn⟩
    rw [em] at kc2
    exact opi_mk h 1 _ _ _ Sm.code (fst1_at _ _ _ _) (c_L_labelLetter hG (by decide) (by decide) (by decide) M dv a b hc 1 _ (Or.inr ⟨_, rfl, rfl, rfl⟩)) kc2 (fun h => absurd h (by decide))
theorem op_19 (hG : fOK G) (h : It c M) : Op_19 G It c M dv a b e f := by
  have hS := h.1
  have hc := c_X11_lotAt hG (d := 40) (by decide) M dv a
  rw [o_X11_lotAt] at hc
  have hb := hS.2.lots.2
  have l1 := hS.2.lots.1
  have e6 : M (1 + 11) 6 = M 297 3 := hS.1.2.2.2.1.1
  rw [e6] at hc
  have N1 : ∀ W : fM, W 297 = M 297 → N_X12_lotAt W a := by
    intro W hW hn
    rw [cl_3, hW, l1, in_below (by omega)] at hn
    by_cases hy : ∃ j, a = nI j ∧ j < (M 297 3).toNatClampNeg
    · obtain ⟨j, rfl, hj⟩ := hy
      exact Nby_nI (w := 0) (by omega) 0 rfl
    · rw [exd_neg hy] at hn
      exact absurd rfl hn
  by_cases hy : ∃ j, a = nI j ∧ j < (M 297 3).toNatClampNeg
  · obtain ⟨j, rfl, hj⟩ := hy
    rw [if_neg (nI_pos (by omega)), if_pos (by rw [l1]; exact nI_lt hj (by omega)), c_nums hS hj] at hc
    have er : r_X12_lotAt (fst1 M 306 0 (M 297 (79 + 6 * j))) (nI j) = M 297 (79 + 6 * j) := by rw [r_X12_lotAt, cl_3, w6, l1, in_below (by omega), exd_pos ⟨j, rfl, hj⟩, if_neg z_n1, m_by w76 (w := 0) (by omega) (by omega) 0 rfl, Nat.add_zero]
    have em : m_X12_lotAt (fst1 M 306 0 (M 297 (79 + 6 * j))) (nI j) = fst1 (fst1 M 306 0 (M 297 (79 + 6 * j))) 296 7 0 := by rw [m_X12_lotAt, cl_3, w6, l1, in_below (by omega), exd_pos ⟨j, rfl, hj⟩, if_neg z_n1]
    have kc2 := c_X12_lotAt hG (d := 60) (by decide) (fst1 M 306 0 (M 297 (79 + 6 * j))) dv (nI j) (N1 _ w6)
    rw [er, em] at kc2
    exact opi_mk h 0 _ _ _ (Sm.out306.tr Sm.code) (fst1_at _ _ _ _) (c_L_lotAt hG (by decide) (by decide) (by decide) M dv (nI j) hc 0 _ (Or.inl ⟨_, _, rfl, rfl, rfl⟩)) kc2 (fun _ => by rw [fst1_ne (by decide), fst1_at])
  · have hc' : fCt G z_X11_lotAt 40 [.ref 0, .int a] (sS M dv) 1 6 (fO dv (.inr "java/lang/IndexOutOfBoundsException", M)) := by
      by_cases h0 : a < 0
      · rw [if_pos h0] at hc; exact hc
      · rw [if_neg h0, if_neg (by rw [l1]; exact lt_no (by omega) hy h0)] at hc; exact hc
    clear hc
    have hc := hc'
    have em : m_X12_lotAt M a = fst1 M 296 7 1 := by rw [m_X12_lotAt, cl_3, l1, in_below (by omega), exd_neg hy, if_pos rfl]
    have kc2 := c_X12_lotAt hG (d := 60) (by decide) M dv a (N1 _ w0)
    rw [em] at kc2
    exact opi_mk h 1 _ _ _ Sm.code (fst1_at _ _ _ _) (c_L_lotAt hG (by decide) (by decide) (by decide) M dv a hc 1 _ (Or.inr ⟨_, rfl, rfl, rfl⟩)) kc2 (fun h => absurd h (by decide))
theorem op_20 (hG : fOK G) (h : It c M) : Op_20 G It c M dv a b e f := by
  have hS := h.1
  have hc := c_X11_jarsOf hG (d := 40) (by decide) M dv a (q300 hS)
  rw [o_X11_jarsOf] at hc
  rw [c_ps hS a] at hc
  have hb := hS.2.lots.2
  have N1 : ∀ W : fM, W 297 = M 297 → N_X12_jarsOf W a := by
    intro W hW
    have hW2 : m_X12_isLost W a 297 = M 297 := (m_lost W a).trans hW
    refine ⟨N_ps hW hS.2 a, fun _ => N_ps hW2 hS.2 a, fun hn => ?_⟩
    rw [m_ps hW2 hS.2]
    rcases ps_cases (M 297) a with hp | ⟨i, hi, -, hp⟩
    · rw [r_lost_n hW hS.2 hp] at hn
      exact absurd hn z_n1
    · rw [hp]
      exact Nby_nI (w := 1) (by omega) 1 rfl
  rcases ps_cases (M 297) a with hp | ⟨i, hi, -, hp⟩
  · rw [hp] at hc
    rw [if_pos rfl] at hc
    have em : m_X12_jarsOf M a = fst1 M 296 7 1 := by rw [m_X12_jarsOf, r_lost_n w0 hS.2 hp, if_neg z_n1, m_lost_n w0 hS.2 hp]
    have kc2 := c_X12_jarsOf hG (d := 60) (by decide) M dv a (N1 _ w0)
    rw [em] at kc2
    exact opi_mk h 1 _ _ _ Sm.code (fst1_at _ _ _ _) (c_L_jarsOf hG (by decide) (by decide) (by decide) M dv a hc 1 _ (Or.inr ⟨_, rfl, rfl, rfl⟩)) kc2 (fun h => absurd h (by decide))
  · rw [hp] at hc
    rw [if_neg (n1_nI (by omega)), c_jars hS hi] at hc
    have er : r_X12_jarsOf (fst1 M 306 0 (M 297 (79 + 6 * i + 1))) a = M 297 (79 + 6 * i + 1) := by rw [r_X12_jarsOf, r_lost_y w6 hS.2 hi hp, if_pos rfl, m_lost_y w6 hS.2 hi hp, m_ps w76 hS.2, hp, m_by w76 (w := 1) (by omega) (by omega) 1 rfl]
    have em : m_X12_jarsOf (fst1 M 306 0 (M 297 (79 + 6 * i + 1))) a = fst1 (fst1 M 306 0 (M 297 (79 + 6 * i + 1))) 296 7 0 := by rw [m_X12_jarsOf, r_lost_y w6 hS.2 hi hp, if_pos rfl, m_lost_y w6 hS.2 hi hp]
    have kc2 := c_X12_jarsOf hG (d := 60) (by decide) (fst1 M 306 0 (M 297 (79 + 6 * i + 1))) dv a (N1 _ w6)
    rw [er, em] at kc2
    exact opi_mk h 0 _ _ _ (Sm.out306.tr Sm.code) (fst1_at _ _ _ _) (c_L_jarsOf hG (by decide) (by decide) (by decide) M dv a hc 0 _ (Or.inl ⟨_, _, rfl, rfl, rfl⟩)) kc2 (fun _ => by rw [fst1_ne (by decide), fst1_at])
theorem op_21 (hG : fOK G) (h : It c M) : Op_21 G It c M dv a b e f := by
  have hS := h.1
  have hc := c_X11_labelOf hG (d := 40) (by decide) M dv a (q300 hS)
  rw [o_X11_labelOf] at hc
  rw [c_ps hS a] at hc
  have hb := hS.2.lots.2
  have N1 : ∀ W : fM, W 297 = M 297 → N_X12_labelOf W a := by
    intro W hW
    have hW2 : m_X12_isLost W a 297 = M 297 := (m_lost W a).trans hW
    refine ⟨N_ps hW hS.2 a, fun _ => N_ps hW2 hS.2 a, fun hn => ?_⟩
    rw [m_ps hW2 hS.2]
    rcases ps_cases (M 297) a with hp | ⟨i, hi, -, hp⟩
    · rw [r_lost_n hW hS.2 hp] at hn
      exact absurd hn z_n1
    · rw [hp]
      exact Nby_nI (w := 2) (by omega) 2 rfl
  rcases ps_cases (M 297) a with hp | ⟨i, hi, -, hp⟩
  · rw [hp] at hc
    rw [if_pos rfl] at hc
    have em : m_X12_labelOf M a = fst1 M 296 7 1 := by rw [m_X12_labelOf, r_lost_n w0 hS.2 hp, if_neg z_n1, m_lost_n w0 hS.2 hp]
    have kc2 := c_X12_labelOf hG (d := 60) (by decide) M dv a (N1 _ w0)
    rw [em] at kc2
    exact opi_mk h 1 _ _ _ Sm.code (fst1_at _ _ _ _) (c_L_labelOf hG (by decide) (by decide) (by decide) M dv a hc 1 _ (Or.inr ⟨_, rfl, rfl, rfl⟩)) kc2 (fun h => absurd h (by decide))
  · rw [hp] at hc
    rw [if_neg (n1_nI (by omega)), c_mrks hS hi] at hc
    have er : r_X12_labelOf (fst1 M 306 0 (M 297 (79 + 6 * i + 2))) a = M 297 (79 + 6 * i + 2) := by rw [r_X12_labelOf, r_lost_y w6 hS.2 hi hp, if_pos rfl, m_lost_y w6 hS.2 hi hp, m_ps w76 hS.2, hp, m_by w76 (w := 2) (by omega) (by omega) 2 rfl]
    have em : m_X12_labelOf (fst1 M 306 0 (M 297 (79 + 6 * i + 2))) a = fst1 (fst1 M 306 0 (M 297 (79 + 6 * i + 2))) 296 7 0 := by rw [m_X12_labelOf, r_lost_y w6 hS.2 hi hp, if_pos rfl, m_lost_y w6 hS.2 hi hp]
    have kc2 := c_X12_labelOf hG (d := 60) (by decide) (fst1 M 306 0 (M 297 (79 + 6 * i + 2))) dv a (N1 _ w6)
    rw [er, em] at kc2
    exact opi_mk h 0 _ _ _ (Sm.out306.tr Sm.code) (fst1_at _ _ _ _) (c_L_labelOf hG (by decide) (by decide) (by decide) M dv a hc 0 _ (Or.inl ⟨_, _, rfl, rfl, rfl⟩)) kc2 (fun _ => by rw [fst1_ne (by decide), fst1_at])
theorem op_22 (hG : fOK G) (h : It c M) : Op_22 G It c M dv a b e f := by
  have hS := h.1
  have hc := c_X11_strengthOfLot hG (d := 40) (by decide) M dv a (q300 hS)
  rw [o_X11_strengthOfLot] at hc
  rw [c_ps hS a] at hc
  have hb := hS.2.lots.2
  have N1 : ∀ W : fM, W 297 = M 297 → N_X12_strengthOfLot W a := by
    intro W hW
    have hW2 : m_X12_isLost W a 297 = M 297 := (m_lost W a).trans hW
    refine ⟨N_ps hW hS.2 a, fun _ => N_ps hW2 hS.2 a, fun hn => ?_⟩
    rw [m_ps hW2 hS.2]
    rcases ps_cases (M 297) a with hp | ⟨i, hi, -, hp⟩
    · rw [r_lost_n hW hS.2 hp] at hn
      exact absurd hn z_n1
    · rw [hp]
      exact N_strong hW2 hS.2 hi
  rcases ps_cases (M 297) a with hp | ⟨i, hi, -, hp⟩
  · rw [hp] at hc
    rw [if_pos rfl] at hc
    have em : m_X12_strengthOfLot M a = fst1 M 296 7 1 := by rw [m_X12_strengthOfLot, r_lost_n w0 hS.2 hp, if_neg z_n1, m_lost_n w0 hS.2 hp]
    have kc2 := c_X12_strengthOfLot hG (d := 60) (by decide) M dv a (N1 _ w0)
    rw [em] at kc2
    exact opi_mk h 1 _ _ _ Sm.code (fst1_at _ _ _ _) (c_L_strengthOfLot hG (by decide) (by decide) (by decide) M dv a hc 1 _ (Or.inr ⟨_, rfl, rfl, rfl⟩)) kc2 (fun h => absurd h (by decide))
  · rw [hp] at hc
    rw [if_neg (n1_nI (by omega)), c_strg hS hi] at hc
    have er : r_X12_strengthOfLot (fst1 M 306 0 (str (M 297) i)) a = str (M 297) i := by rw [r_X12_strengthOfLot, r_lost_y w6 hS.2 hi hp, if_pos rfl, m_lost_y w6 hS.2 hi hp, m_ps w76 hS.2, hp, m_strong w76 hS.2 hi]
    have em : m_X12_strengthOfLot (fst1 M 306 0 (str (M 297) i)) a = fst1 (fst1 M 306 0 (str (M 297) i)) 296 7 0 := by rw [m_X12_strengthOfLot, r_lost_y w6 hS.2 hi hp, if_pos rfl, m_lost_y w6 hS.2 hi hp]
    have kc2 := c_X12_strengthOfLot hG (d := 60) (by decide) (fst1 M 306 0 (str (M 297) i)) dv a (N1 _ w6)
    rw [er, em] at kc2
    exact opi_mk h 0 _ _ _ (Sm.out306.tr Sm.code) (fst1_at _ _ _ _) (c_L_strengthOfLot hG (by decide) (by decide) (by decide) M dv a hc 0 _ (Or.inl ⟨_, _, rfl, rfl, rfl⟩)) kc2 (fun _ => by rw [fst1_ne (by decide), fst1_at])
theorem op_23 (hG : fOK G) (h : It c M) : Op_23 G It c M dv a b e f := by
  have hS := h.1
  have hc := c_X11_pressureOf hG (d := 40) (by decide) M dv a (q300 hS)
  rw [o_X11_pressureOf] at hc
  rw [c_ps hS a] at hc
  have hb := hS.2.lots.2
  have N1 : ∀ W : fM, W 297 = M 297 → N_X12_pressureOf W a := by
    intro W hW
    have hW2 : m_X12_isLost W a 297 = M 297 := (m_lost W a).trans hW
    refine ⟨N_ps hW hS.2 a, fun _ => N_ps hW2 hS.2 a, fun hn => ?_⟩
    rw [m_ps hW2 hS.2]
    rcases ps_cases (M 297) a with hp | ⟨i, hi, -, hp⟩
    · rw [r_lost_n hW hS.2 hp] at hn
      exact absurd hn z_n1
    · rw [hp]
      exact Nby_nI (w := 5) (by omega) 5 rfl
  rcases ps_cases (M 297) a with hp | ⟨i, hi, -, hp⟩
  · rw [hp] at hc
    rw [if_pos rfl] at hc
    have em : m_X12_pressureOf M a = fst1 M 296 7 1 := by rw [m_X12_pressureOf, r_lost_n w0 hS.2 hp, if_neg z_n1, m_lost_n w0 hS.2 hp]
    have kc2 := c_X12_pressureOf hG (d := 60) (by decide) M dv a (N1 _ w0)
    rw [em] at kc2
    exact opi_mk h 1 _ _ _ Sm.code (fst1_at _ _ _ _) (c_L_pressureOf hG (by decide) (by decide) (by decide) M dv a hc 1 _ (Or.inr ⟨_, rfl, rfl, rfl⟩)) kc2 (fun h => absurd h (by decide))
  · rw [hp] at hc
    rw [if_neg (n1_nI (by omega)), c_pres hS hi] at hc
    have er : r_X12_pressureOf (fst1 M 306 0 (M 297 (79 + 6 * i + 5))) a = M 297 (79 + 6 * i + 5) := by rw [r_X12_pressureOf, r_lost_y w6 hS.2 hi hp, if_pos rfl, m_lost_y w6 hS.2 hi hp, m_ps w76 hS.2, hp, m_by w76 (w := 5) (by omega) (by omega) 5 rfl]
    have em : m_X12_pressureOf (fst1 M 306 0 (M 297 (79 + 6 * i + 5))) a = fst1 (fst1 M 306 0 (M 297 (79 + 6 * i + 5))) 296 7 0 := by rw [m_X12_pressureOf, r_lost_y w6 hS.2 hi hp, if_pos rfl, m_lost_y w6 hS.2 hi hp]
    have kc2 := c_X12_pressureOf hG (d := 60) (by decide) (fst1 M 306 0 (M 297 (79 + 6 * i + 5))) dv a (N1 _ w6)
    rw [er, em] at kc2
    exact opi_mk h 0 _ _ _ (Sm.out306.tr Sm.code) (fst1_at _ _ _ _) (c_L_pressureOf hG (by decide) (by decide) (by decide) M dv a hc 0 _ (Or.inl ⟨_, _, rfl, rfl, rfl⟩)) kc2 (fun _ => by rw [fst1_ne (by decide), fst1_at])
theorem op_24 (hG : fOK G) (h : It c M) : Op_24 G It c M dv a b e f := by
  have hS := h.1
  have hc := c_X11_lotContains hG (d := 40) (by decide) M dv a b (q300 hS)
  rw [o_X11_lotContains] at hc
  rw [c_ps hS a] at hc
  have hb := hS.2.lots.2
  have kr := c_raw hS b
  have N1 : ∀ W : fM, W 297 = M 297 → N_X12_lotContains W a b := by
    intro W hW
    have hW2 : (fst1 W 296 7 (0 : Int32)) 297 = M 297 := (fst1_ne (by decide)).trans hW
    refine ⟨N_ps hW hS.2 a, fun _ _ => N_ps hW2 hS.2 a, fun hn _ => ?_⟩
    rw [m_ps hW hS.2] at hn
    rw [m_ps hW2 hS.2]
    rcases ps_cases (M 297) a with hp | ⟨i, hi, -, hp⟩
    · rw [hp] at hn
      exact absurd hn (by decide)
    · rw [hp]
      exact N_ins hW2 hS.2 hi
  rcases ps_cases (M 297) a with hp | ⟨i, hi, -, hp⟩
  · rw [hp] at hc
    rw [if_pos rfl] at hc
    have em : m_X12_lotContains M a b = fst1 M 296 7 1 := by rw [m_X12_lotContains, m_ps w0 hS.2, hp, if_neg (by decide)]
    have kc2 := c_X12_lotContains hG (d := 60) (by decide) M dv a b (N1 _ w0)
    rw [em] at kc2
    exact opb_mk h 1 _ _ _ Sm.code (fst1_at _ _ _ _) (c_L_lotContains hG (by decide) (by decide) (by decide) M dv a b hc 1 _ (Or.inr (Or.inl ⟨_, rfl, rfl, rfl⟩))) kc2 (fun h => absurd h (by decide))
  · rw [hp] at hc
    by_cases hy : ∃ j, b = nI j ∧ j < (M 297 0).toNatClampNeg
    · rw [exd_pos hy] at kr
      obtain ⟨j, rfl, hj⟩ := hy
      rw [if_neg (n1_nI (by omega)), kr, if_neg z_n1, c_raws hS hi, z_has] at hc
      have er : r_X12_lotContains (fst1 M 306 0 (oL ((ins (M 297) i >>> (nI j &&& 31)) &&& (1 : Int32)))) a (nI j) = (ins (M 297) i >>> (nI j &&& 31)) &&& (1 : Int32) := by rw [r_X12_lotContains, m_ps w6 hS.2, hp, if_pos (nI_pos' (by omega)), m_raw (x := nI j) w6 hS.2, exd_pos ⟨_, rfl, hj⟩, if_neg z_n1, m_ps w76 hS.2, hp, m_ins w76 hS.2 hi, z_if]
      have em : m_X12_lotContains (fst1 M 306 0 (oL ((ins (M 297) i >>> (nI j &&& 31)) &&& (1 : Int32)))) a (nI j) = fst1 (fst1 M 306 0 (oL ((ins (M 297) i >>> (nI j &&& 31)) &&& (1 : Int32)))) 296 7 0 := by rw [m_X12_lotContains, m_ps w6 hS.2, hp, if_pos (nI_pos' (by omega)), m_raw (x := nI j) w6 hS.2, exd_pos ⟨_, rfl, hj⟩, if_neg z_n1, ite_self]
      have kc2 := c_X12_lotContains hG (d := 60) (by decide) (fst1 M 306 0 (oL ((ins (M 297) i >>> (nI j &&& 31)) &&& (1 : Int32)))) dv a (nI j) (N1 _ w6)
      rw [er, em] at kc2
      exact opb_mk h 0 _ _ _ (Sm.out306.tr Sm.code) (fst1_at _ _ _ _) (c_L_lotContains hG (by decide) (by decide) (by decide) M dv a (nI j) hc 0 _ (Or.inl ⟨_, _, rfl, rfl, rfl⟩)) kc2 (fun _ => by rw [fst1_ne (by decide), fst1_at])
    · rw [exd_neg hy] at kr
      rw [if_neg (n1_nI (by omega)), kr, if_pos rfl] at hc
      have em : m_X12_lotContains M a b = fst1 M 296 7 2 := by rw [m_X12_lotContains, m_ps w0 hS.2, hp, if_pos (nI_pos' (by omega)), m_raw (x := b) w0 hS.2, exd_neg hy, if_pos rfl]
      have kc2 := c_X12_lotContains hG (d := 60) (by decide) M dv a b (N1 _ w0)
      rw [em] at kc2
      exact opb_mk h 2 _ _ _ Sm.code (fst1_at _ _ _ _) (c_L_lotContains hG (by decide) (by decide) (by decide) M dv a b hc 2 _ (Or.inr (Or.inr ⟨_, rfl, rfl, rfl⟩))) kc2 (fun h => absurd h (by decide))
theorem op_50 (hG : fOK G) (h : It c M) : Op_50 G It c M dv a b e f := by
  have hS := h.1
  have hc := c_X11_errorPosition hG (d := 40) (by decide) M dv 
  rw [o_X11_errorPosition] at hc
  obtain ⟨e1, e2⟩ := h.2.2.2.2.2.1.1
  rw [e1] at hc
  rcases e2 with e2 | ⟨e2, e3⟩
  · rw [e2] at hc
    rw [if_pos rfl] at hc
    have em : m_X12_errorPosition M  = fst1 M 296 7 1 := by rw [m_X12_errorPosition, e2, if_neg (by decide)]
    have kc2 := c_X12_errorPosition hG (d := 60) (by decide) M dv  
    rw [em] at kc2
    exact opi_mk h 1 _ _ _ Sm.code (fst1_at _ _ _ _) (c_L_errorPosition hG (by decide) (by decide) (by decide) M dv  hc 1 _ (Or.inr ⟨_, rfl, rfl, rfl⟩)) kc2 (fun h => absurd h (by decide))
  · have e4 : ¬ M 296 10 = -1 := by rw [e2]; exact n1_nI (by omega)
    have e5 : 0 ≤ M 296 10 := by rw [e2]; exact nI_pos' (by omega)
    rw [if_neg e4] at hc
    have er : r_X12_errorPosition (fst1 M 306 0 (M 296 10))  = M 296 10 := by rw [r_X12_errorPosition, fst1_ne (show 296 ≠ 306 by decide), if_pos e5, fst1_nj (show 10 ≠ 7 by decide), fst1_ne (show 296 ≠ 306 by decide)]
    have em : m_X12_errorPosition (fst1 M 306 0 (M 296 10))  = fst1 (fst1 M 306 0 (M 296 10)) 296 7 0 := by rw [m_X12_errorPosition, fst1_ne (show 296 ≠ 306 by decide), if_pos e5]
    have kc2 := c_X12_errorPosition hG (d := 60) (by decide) (fst1 M 306 0 (M 296 10)) dv  
    rw [er, em] at kc2
    exact opi_mk h 0 _ _ _ (Sm.out306.tr Sm.code) (fst1_at _ _ _ _) (c_L_errorPosition hG (by decide) (by decide) (by decide) M dv  hc 0 _ (Or.inl ⟨_, _, rfl, rfl, rfl⟩)) kc2 (fun _ => by rw [fst1_ne (by decide), fst1_at])
theorem op_51 (hG : fOK G) (h : It c M) : Op_51 G It c M dv a b e f := by
  have hS := h.1
  have hc := c_X11_failedCommand hG (d := 40) (by decide) M dv 
  rw [o_X11_failedCommand] at hc
  obtain ⟨e1, e2⟩ := h.2.2.2.2.2.1.2
  rw [e1] at hc
  rcases e2 with e2 | ⟨e2, e3⟩
  · rw [e2] at hc
    rw [if_pos rfl] at hc
    have em : m_X12_failedCommand M  = fst1 M 296 7 1 := by rw [m_X12_failedCommand, e2, if_neg (by decide)]
    have kc2 := c_X12_failedCommand hG (d := 60) (by decide) M dv  
    rw [em] at kc2
    exact opi_mk h 1 _ _ _ Sm.code (fst1_at _ _ _ _) (c_L_failedCommand hG (by decide) (by decide) (by decide) M dv  hc 1 _ (Or.inr ⟨_, rfl, rfl, rfl⟩)) kc2 (fun h => absurd h (by decide))
  · have e4 : ¬ M 296 11 = -1 := by rw [e2]; exact n1_nI (by omega)
    have e5 : 0 ≤ M 296 11 := by rw [e2]; exact nI_pos' (by omega)
    rw [if_neg e4] at hc
    have er : r_X12_failedCommand (fst1 M 306 0 (M 296 11))  = M 296 11 := by rw [r_X12_failedCommand, fst1_ne (show 296 ≠ 306 by decide), if_pos e5, fst1_nj (show 11 ≠ 7 by decide), fst1_ne (show 296 ≠ 306 by decide)]
    have em : m_X12_failedCommand (fst1 M 306 0 (M 296 11))  = fst1 (fst1 M 306 0 (M 296 11)) 296 7 0 := by rw [m_X12_failedCommand, fst1_ne (show 296 ≠ 306 by decide), if_pos e5]
    have kc2 := c_X12_failedCommand hG (d := 60) (by decide) (fst1 M 306 0 (M 296 11)) dv  
    rw [er, em] at kc2
    exact opi_mk h 0 _ _ _ (Sm.out306.tr Sm.code) (fst1_at _ _ _ _) (c_L_failedCommand hG (by decide) (by decide) (by decide) M dv  hc 0 _ (Or.inl ⟨_, _, rfl, rfl, rfl⟩)) kc2 (fun _ => by rw [fst1_ne (by decide), fst1_at])
end LOOK
