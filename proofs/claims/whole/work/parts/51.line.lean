/-! ===== lines ===== -/
def CT (M0 M : fM) (L : List Int32) : Prop := (TX M 270 L ∧ M 270 0 = nI 60) ∧ ∀ a, a ≠ 270 → a ≠ 272 → M a = M0 a
def MT (W0 W : fM) (L : List Int32) : Prop := (W 296 13 = nI L.length ∧ ∀ i, i < L.length → W 302 i = L.getD i 0 ∧ sm (L.getD i 0) 128) ∧ (∀ a, a ≠ 296 → a ≠ 302 → W a = W0 a) ∧ ∀ j, j ≠ 13 → W 296 j = W0 296 j
theorem len_app {L : List Int32} {x : Int32} : (L ++ [x]).length = L.length + 1 := by rw [List.length_append]; rfl
theorem CT.add {M0 M : fM} {L : List Int32} {x : Int32} (h : CT M0 M L) (hl : L.length < 60) : CT M0 (m_X10_add M 270 60 x) (L ++ [x]) := by
  obtain ⟨⟨h1, h2⟩, h3⟩ := h
  obtain ⟨q1, q2, q3⟩ := add_TX (n := 60) (x := x) h2 h1 hl (Nat.le_refl _) (by decide)
  exact ⟨⟨q1, q2⟩, fun a a1 a2 => (q3 a a1 a2).trans (h3 a a1 a2)⟩
theorem MT.wr {W0 W : fM} {L : List Int32} {x : Int32} (h : MT W0 W L) (hl : L.length < 60) (hx : sm x 128) : MT W0 (m_X12_writes W x) (L ++ [x]) ∧ N_X12_writes W x := by
  obtain ⟨⟨h1, h2⟩, h3, h4⟩ := h
  have ec : vp_nar .char ((x.toUInt32 % 65536).toInt32) = x := by rw [pk_vc, ch_id hx (by decide)]
  have em : m_X12_writes W x = fst1 (fst1 W 302 L.length x) 296 13 (nI (L.length + 1)) := by
    rw [m_X12_writes, a0_X12_writes, ec, h1, nI_clamp (by omega), fst1_ne (show 296 ≠ 302 by decide), h1, nI_1]
  rw [em]
  refine ⟨⟨⟨by rw [fst1_at, len_app], fun i hi => ?_⟩, fun a a1 a2 => by rw [fst1_ne a1, fst1_ne a2, h3 a a1 a2], fun j j1 => by rw [fst1_nj j1, fst1_ne (by decide), h4 j j1]⟩, by rw [N_X12_writes, h1]; exact vp_in_nI hl (by decide)⟩
  rw [len_app] at hi
  rw [fst1_ne (by decide), getD_app]
  by_cases e : i = L.length
  · subst e
    rw [fst1_at, if_neg (by omega), if_pos rfl]
    exact ⟨rfl, hx⟩
  · rw [fst1_nj e, if_pos (by omega)]
    exact h2 i (by omega)
/-- the figures of a number -/
def dgs : Nat → Nat → List Int32
  | 0, _ => []
  | m + 1, n => (if n ≤ 9 then [] else dgs m (n / 10)) ++ [nI (48 + n % 10)]
theorem dgs_len : ∀ m n, (dgs m n).length ≤ m
  | 0, _ => Nat.le_refl _
  | m + 1, n => by
    rw [dgs, len_app]
    by_cases h : n ≤ 9
    · rw [if_pos h]; show 0 + 1 ≤ m + 1; omega
    · rw [if_neg h]; have := dgs_len m (n / 10); omega
theorem dgs_eq : ∀ m m' n, n < 10 ^ m → n < 10 ^ m' → 1 ≤ m → 1 ≤ m' → dgs m n = dgs m' n
  | 0, _, _, _, _, h, _ => by omega
  | _ + 1, 0, _, _, _, _, h => by omega
  | m + 1, m' + 1, n, h1, h2, _, _ => by
    rw [dgs, dgs]
    by_cases h : n ≤ 9
    · rw [if_pos h, if_pos h]
    · rw [if_neg h, if_neg h]
      rw [Nat.pow_succ] at h1 h2
      have hm : 1 ≤ m := Nat.pos_of_ne_zero fun q => by subst q; omega
      have hm' : 1 ≤ m' := Nat.pos_of_ne_zero fun q => by subst q; omega
      rw [dgs_eq m m' (n / 10) (by omega) (by omega) hm hm']
theorem MT.num {W0 : fM} : ∀ (m : Nat) {W : fM} {L : List Int32} (n : Nat), MT W0 W L → L.length + m ≤ 60 → n < 10 ^ m → n < 2 ^ 30 → 1 ≤ m → MT W0 (wn m W (nI n)) (L ++ dgs m n) ∧ Wn m W (nI n)
  | 0, _, _, _, _, _, _, _, h => by omega
  | m + 1, W, L, n, h, hl, hn, hb, _ => by
    have ed : nI n / (10 : Int32) = nI (n / 10) := pk_div (d := 10) (by omega) (by decide) (by decide)
    have er : nI n - nI n / (10 : Int32) * (10 : Int32) = nI (n % 10) := pk_rem (d := 10) (by omega) (by decide) (by decide)
    have ex : (48 : Int32) + nI (n % 10) = nI (48 + n % 10) := nI_add 48 _
    have hx : sm (nI (48 + n % 10)) 128 := sm_nI (by omega) (by decide)
    rw [wn, Wn, dgs, er, ex, ed]
    by_cases h9 : n ≤ 9
    · have c9 : nI n ≤ (9 : Int32) := nI_le (b := 9) h9 (by omega)
      rw [if_pos c9, if_pos h9]
      obtain ⟨k1, k2⟩ := h.wr (x := nI (48 + n % 10)) (by omega) hx
      exact ⟨k1, fun q => absurd c9 q, k2⟩
    · have c9 : ¬ nI n ≤ (9 : Int32) := nI_ge (a := 9) (by omega) (by omega)
      rw [if_neg c9, if_neg h9]
      rw [Nat.pow_succ] at hn
      have hm : 1 ≤ m := Nat.pos_of_ne_zero fun q => by subst q; omega
      obtain ⟨k1, k2⟩ := MT.num m (n / 10) h (by omega) (by omega) (by omega) hm
      have hd := dgs_len m (n / 10)
      obtain ⟨k3, k4⟩ := k1.wr (x := nI (48 + n % 10)) (by rw [List.length_append]; omega) hx
      rw [List.append_assoc] at k3
      exact ⟨k3, fun _ => k2, k4⟩
theorem MT.num10 {W0 W : fM} {L : List Int32} {n : Nat} (h : MT W0 W L) (hl : L.length + 10 ≤ 60) (hn : n < 2 ^ 30) : MT W0 (m_X12_writesNumber W (nI n)) (L ++ dgs 10 n) ∧ N_X12_writesNumber W (nI n) := MT.num 10 n h hl (by omega) hn (by omega)
theorem un_nI : ∀ j, j ≤ 9 → un j = nI (10 ^ (9 - j)) := by decide +kernel
theorem dgs_step {P d : Nat} (hP : 0 < P) (hd : d < 10) (hb : 10 * P + d < 2 ^ 30) : dgs 10 (10 * P + d) = dgs 10 P ++ [nI (48 + d)] := by
  rw [dgs, if_neg (by omega), show (10 * P + d) / 10 = P by omega, show (10 * P + d) % 10 = d by omega, dgs_eq 9 10 P (by omega) (by omega) (by omega) (by omega)]
theorem dgs_one {d : Nat} (hd : d < 10) : dgs 10 d = [nI (48 + d)] := by
  rw [dgs, if_pos (by omega), Nat.mod_eq_of_lt hd]; rfl
theorem pw_step : ∀ j, j < 10 → 10 ^ (10 - j) = 10 * 10 ^ (9 - j) := by decide +kernel
theorem CT.numL {M0 : fM} {n : Nat} (hn : n < 2 ^ 30) : ∀ (m j : Nat) (M : fM) (L : List Int32), j + m = 11 → j ≤ 10 → CT M0 M (L ++ (if n / 10 ^ (10 - j) = 0 ∧ j < 10 then [] else dgs 10 (n / 10 ^ (10 - j)))) → L.length + 10 ≤ 60 → (if n / 10 ^ (10 - j) = 0 ∧ j < 10 then (0 : Nat) else (dgs 10 (n / 10 ^ (10 - j))).length) ≤ j → CT M0 (l_X10_addNumber 270 60 (nI n) M m j (if n / 10 ^ (10 - j) = 0 ∧ j < 10 then 0 else 1)) (L ++ dgs 10 n) := by
  intro m
  induction m with
  | zero => intro j M L h1 h2; omega
  | succ m ih =>
    intro j M L h1 h2 hC hl hd
    rw [l_X10_addNumber]
    by_cases hj : j = 10
    · subst hj
      rw [if_pos (show un 10 ≤ 0 by decide)]
      rw [if_neg (by omega), show n / 10 ^ (10 - 10) = n from Nat.div_one n] at hC
      exact hC
    · have hj9 : j ≤ 9 := by omega
      have hu := un_nI j hj9
      have hp0 : 0 < 10 ^ (9 - j) := Nat.lt_of_lt_of_le (show 0 < 10 ^ 0 by decide) (Nat.pow_le_pow_right (by decide) (Nat.zero_le _))
      have hpb : 10 ^ (9 - j) ≤ 10 ^ 9 := Nat.pow_le_pow_right (by decide) (by omega)
      have hps := pw_step j (by omega)
      have hu0 : ¬ un j ≤ 0 := by rw [hu]; exact nI_nle hp0 (by omega)
      have e1 : nI n / un j = nI (n / 10 ^ (9 - j)) := by rw [hu]; exact pk_div (by omega) hp0 (by omega)
      have hq1 : n / 10 ^ (9 - j) ≤ n := Nat.div_le_self _ _
      have e2 : nI (n / 10 ^ (9 - j)) - nI (n / 10 ^ (9 - j)) / (10 : Int32) * (10 : Int32) = nI (n / 10 ^ (9 - j) % 10) := pk_rem (d := 10) (by omega) (by decide) (by decide)
      have eP : n / 10 ^ (10 - j) = n / 10 ^ (9 - j) / 10 := by rw [hps, Nat.div_div_eq_div_mul, Nat.mul_comm]
      have ex : (((48 : Int32) + nI (n / 10 ^ (9 - j) % 10)).toUInt32 % 65536).toInt32 = nI (48 + n / 10 ^ (9 - j) % 10) := by
        rw [show (48 : Int32) + nI (n / 10 ^ (9 - j) % 10) = nI (48 + n / 10 ^ (9 - j) % 10) from nI_add 48 _]
        exact ch_id (sm_nI (n := 48 + n / 10 ^ (9 - j) % 10) (b := 128) (by omega) (by decide)) (by decide)
      have hsub : 10 - (j + 1) = 9 - j := by omega
      have hih := fun (M' : fM) => ih (j + 1) M' L (by omega) (by omega)
      rw [hsub] at hih
      rw [if_neg hu0, e1, e2, ex]
      generalize hQ : n / 10 ^ (9 - j) = Q at *
      rw [eP] at hC hd ⊢
      have hQ10 : Q = 10 * (Q / 10) + Q % 10 := by omega
      by_cases hP : Q / 10 = 0
      · have hcond : Q / 10 = 0 ∧ j < 10 := ⟨hP, by omega⟩
        rw [if_pos hcond] at hC hd ⊢
        rw [if_pos rfl]
        rw [List.append_nil] at hC
        have hQ9 : Q < 10 := by omega
        have hm9 : Q % 10 = Q := Nat.mod_eq_of_lt hQ9
        rw [hm9]
        by_cases hz : Q = 0
        · subst hz
          rw [if_neg (show ¬ (0 : Int32) < nI 0 by decide)]
          by_cases hj1 : j = 9
          · subst hj1
            rw [if_pos (show un 9 = (1 : Int32) by decide)]
            have k := hih (m_X10_add M 270 60 (nI (48 + 0)))
            rw [if_neg (by omega), if_neg (by omega), if_neg (by omega), dgs_one (by omega)] at k
            exact k (hC.add (by omega)) hl (by show 1 ≤ 10; omega)
          · have hne : ¬ un j = (1 : Int32) := by
              rw [hu]
              intro q
              have := (nI_eq (b := 1) (by omega) (by omega)).mp q
              have h10 : 10 ^ 1 ≤ 10 ^ (9 - j) := Nat.pow_le_pow_right (by decide) (by omega)
              omega
            rw [if_neg hne]
            have k := hih M
            rw [if_pos ⟨rfl, by omega⟩, if_pos ⟨rfl, by omega⟩, if_pos ⟨rfl, by omega⟩, List.append_nil] at k
            exact k hC hl (by omega)
        · rw [if_pos (show (0 : Int32) < nI Q from nI_lt (a := 0) (by omega) (by omega))]
          have k := hih (m_X10_add M 270 60 (nI (48 + Q)))
          rw [if_neg (fun q => hz q.1), if_neg (fun q => hz q.1), if_neg (fun q => hz q.1), dgs_one hQ9] at k
          exact k (hC.add (by omega)) hl (by show 1 ≤ j + 1; omega)
      · have hcond : ¬ (Q / 10 = 0 ∧ j < 10) := fun q => hP q.1
        rw [if_neg hcond] at hC hd ⊢
        rw [if_neg z_n1]
        have k := hih (m_X10_add M 270 60 (nI (48 + Q % 10)))
        have ed : dgs 10 Q = dgs 10 (Q / 10) ++ [nI (48 + Q % 10)] := by
          have := dgs_step (P := Q / 10) (d := Q % 10) (by omega) (by omega) (by omega)
          rw [← hQ10] at this
          exact this
        have hQ0 : Q ≠ 0 := by omega
        rw [if_neg (fun q => hQ0 q.1), if_neg (fun q => hQ0 q.1), if_neg (fun q => hQ0 q.1), ed, len_app, ← List.append_assoc] at k
        exact k (hC.add (by rw [List.length_append]; omega)) hl (by omega)
theorem CT.num {M0 M : fM} {L : List Int32} {n : Nat} (h : CT M0 M L) (hl : L.length + 10 ≤ 60) (hn : n < 2 ^ 30) : CT M0 (m_X10_addNumber M 270 60 (nI n)) (L ++ dgs 10 n) := by
  have h0 : n / 10 ^ (10 - 0) = 0 := Nat.div_eq_of_lt (by omega)
  have k := CT.numL (M0 := M0) hn 11 0 M L (by omega) (by omega)
  rw [if_pos ⟨h0, by omega⟩, if_pos ⟨h0, by omega⟩, if_pos ⟨h0, by omega⟩, List.append_nil] at k
  exact k h hl (Nat.le_refl _)
theorem It_line {c : Nat} {M M' : fM} (h : It c M) (hf : ∀ a, a ≠ 270 → a ≠ 272 → a ≠ 302 → a ≠ 296 → a ≠ 306 → M' a = M a) (h6 : ∀ j, j ≠ 7 → j ≠ 13 → M' 296 j = M 296 j) (hL : ItL M') : It c M' := by
  obtain ⟨h1, h2, h3, h4, h5, h7, h8⟩ := h
  refine ⟨?_, h2.ext (fun q q1 q2 => hf q (by omega) (by omega) (by omega) (by omega) (by omega)) (hf 298 (by decide) (by decide) (by decide) (by decide) (by decide)) (h6 5 (by decide) (by decide)), h3.ext (fun q q1 q2 => hf q (by omega) (by omega) (by omega) (by omega) (by omega)) (hf 299 (by decide) (by decide) (by decide) (by decide) (by decide)) (congrFun (hf 0 (by decide) (by decide) (by decide) (by decide) (by decide)) 10) (h6 4 (by decide) (by decide)), h4.ext (hf 267 (by decide) (by decide) (by decide) (by decide) (by decide)) (hf 269 (by decide) (by decide) (by decide) (by decide) (by decide)) (hf 301 (by decide) (by decide) (by decide) (by decide) (by decide)) (h6 9 (by decide) (by decide)), hL, h7.ext (congrFun (hf 0 (by decide) (by decide) (by decide) (by decide) (by decide)) 11) (congrFun (hf 0 (by decide) (by decide) (by decide) (by decide) (by decide)) 12) (h6 10 (by decide) (by decide)) (h6 11 (by decide) (by decide)), h8.ext (h6 6 (by decide) (by decide)) (congrFun (hf 273 (by decide) (by decide) (by decide) (by decide) (by decide)) 0) (congrFun (hf 277 (by decide) (by decide) (by decide) (by decide) (by decide)) 0)⟩
  rw [hf 297 (by decide) (by decide) (by decide) (by decide) (by decide)]
  exact h1.ext fun q q1 q2 => hf q (by omega) (by omega) (by omega) (by omega) (by omega)
/-- the same line on both sides -/
theorem It_line2 {c : Nat} {M V V0 W : fM} {L : List Int32} (h : It c M) (hC : CT M V L) (hV : ∀ a, a ≠ 306 → a ≠ 296 → V0 a = V a) (hV6 : ∀ j, j ≠ 7 → j ≠ 13 → V0 296 j = V 296 j) (hW : MT V0 W L) (hl : L.length ≤ 60) : It c W := by
  obtain ⟨⟨⟨c1, c2⟩, c3⟩, c4⟩ := hC
  obtain ⟨⟨m1, m2⟩, m3, m4⟩ := hW
  have e70 : W 270 = V 270 := by rw [m3 270 (by decide) (by decide), hV 270 (by decide) (by decide)]
  have e72 : W 272 = V 272 := by rw [m3 272 (by decide) (by decide), hV 272 (by decide) (by decide)]
  refine It_line h (fun a a1 a2 a3 a4 a5 => by rw [m3 a a4 a3, hV a a5 a4, c4 a a1 a2]) (fun j j1 j2 => by rw [m4 j j2, hV6 j j1 j2, c4 296 (by decide) (by decide)]) ⟨?_, ?_, ?_, fun i hi => ?_⟩
  · rw [e70]; exact c3
  · rw [e70, m1]; exact c1
  · rw [m1]; exact sm_nI (by omega) (by decide)
  · rw [m1, nI_clamp (by omega)] at hi
    obtain ⟨g1, g2⟩ := m2 i hi
    rw [e72, g1]
    exact ⟨c2 i hi, g2⟩
/-! the signs of the raw lots -/
def sgR (f : Nat → Int32) (b : Int32) (j : Nat) : Int32 := if bitP (nI j) (f 6) then (if bitP (nI j) b then 46 else 42) else 120
theorem sgn_sm {f : Nat → Int32} {b : Int32} {j : Nat} : sm (sgR f b j) 128 := by
  rw [sgR]
  by_cases h : bitP (nI j) (f 6)
  · rw [if_pos h]
    by_cases h2 : bitP (nI j) b
    · rw [if_pos h2]; exact sm_nI (n := 46) (by decide) (by decide)
    · rw [if_neg h2]; exact sm_nI (n := 42) (by decide) (by decide)
  · rw [if_neg h]; exact sm_nI (n := 120) (by decide) (by decide)
theorem c_sgn {N : Nat} {M : fM} {f : Nat → Int32} (h : SW N M 1 f) (b : Int32) (j : Nat) : r_X11_signOfRaw M (nI j) b = sgR f b j := by
  rw [r_X11_signOfRaw, r_X0_isRawFaulty, z_has, z_has, show M (1 + 1) 3 = f 6 from h.1.1.2.1]
  rfl
theorem flip01 {y A B : Int32} : (if y &&& (1 : Int32) = 1 then A else B) = (if y &&& (1 : Int32) = 0 then B else A) := by
  rcases z_01 y with h | h
  · rw [h, if_neg z_n0, if_pos rfl]
  · rw [h, if_pos rfl, if_neg z_n1]
section RAWL
variable {N : Nat} {M0 W0 : fM} {f : Nat → Int32} {b : Int32}
theorem c_rawL (h : SW N M0 1 f) : ∀ (m m' j : Nat) (M : fM) (L : List Int32), CT M0 M L → j + m = (f 0).toNatClampNeg → m < m' → L.length + m ≤ 60 → CT M0 (l_X11_writeRawsL b M m' j) (L ++ ltF (sgR f b) m j) := by
  have hn := h.2.raws
  intro m
  induction m with
  | zero =>
    intro m' j M L hC h1 h2 h3
    obtain ⟨m', rfl⟩ : ∃ q, m' = q + 1 := ⟨m' - 1, by omega⟩
    have e2 : M (1 + 1) 2 = f 0 := by rw [hC.2 (1 + 1) (by decide) (by decide)]; exact h.1.1.1
    rw [l_X11_writeRawsL, e2, if_pos (by rw [hn.1]; exact nI_le (by omega) (by omega)), ltF, List.append_nil]
    exact hC
  | succ m ih =>
    intro m' j M L hC h1 h2 h3
    obtain ⟨m', rfl⟩ : ∃ q, m' = q + 1 := ⟨m' - 1, by omega⟩
    have e2 : M (1 + 1) 2 = f 0 := by rw [hC.2 (1 + 1) (by decide) (by decide)]; exact h.1.1.1
    have hS : SW N M 1 f := h.ext fun a a1 a2 => hC.2 a (by omega) (by omega)
    rw [l_X11_writeRawsL, e2, if_neg (by rw [hn.1]; exact nI_ge (by omega) (by omega)), c_sgn hS, ltF]
    have k := ih m' (j + 1) _ (L ++ [sgR f b j]) (hC.add (by omega)) (by omega) (by omega) (by rw [len_app]; omega)
    rw [List.append_assoc] at k
    exact k
theorem m_rawS {W : fM} (j m : Nat) (hW : W 297 6 = f 6) (h : ¬ W 297 0 ≤ nI j) : l_X12_writeRawsL b W (m + 1) j = l_X12_writeRawsL b (m_X12_writes W (sgR f b j)) m (j + 1) := by
  rw [l_X12_writeRawsL, cl_0, cl_6, hW, if_neg h, sgR]
  by_cases h1 : bitP (nI j) (f 6)
  · rw [if_neg (show ¬ (f 6 >>> (nI j &&& 31)) &&& (1 : Int32) = 1 by rw [show (f 6 >>> (nI j &&& 31)) &&& (1 : Int32) = 0 from h1]; decide), if_pos h1]
    by_cases h2 : bitP (nI j) b
    · rw [if_neg (show ¬ (b >>> (nI j &&& 31)) &&& (1 : Int32) = 1 by rw [show (b >>> (nI j &&& 31)) &&& (1 : Int32) = 0 from h2]; decide), if_pos h2]
    · rw [if_pos ((z_01 _).resolve_left h2), if_neg h2]
  · rw [if_pos ((z_01 _).resolve_left h1), if_neg h1]
theorem m_rawL (h : WF N f) (h0 : W0 297 = f) : ∀ (m m' j : Nat) (W : fM) (L : List Int32), MT W0 W L → j + m = (f 0).toNatClampNeg → m < m' → L.length + m ≤ 60 → MT W0 (l_X12_writeRawsL b W m' j) (L ++ ltF (sgR f b) m j) := by
  have hn := h.raws
  intro m
  induction m with
  | zero =>
    intro m' j W L hC h1 h2 h3
    obtain ⟨m', rfl⟩ : ∃ q, m' = q + 1 := ⟨m' - 1, by omega⟩
    have e7 : W 297 = f := (hC.2.1 297 (by decide) (by decide)).trans h0
    rw [l_X12_writeRawsL, cl_0, e7, if_pos (by rw [hn.1]; exact nI_le (by omega) (by omega)), ltF, List.append_nil]
    exact hC
  | succ m ih =>
    intro m' j W L hC h1 h2 h3
    obtain ⟨m', rfl⟩ : ∃ q, m' = q + 1 := ⟨m' - 1, by omega⟩
    have e7 : W 297 = f := (hC.2.1 297 (by decide) (by decide)).trans h0
    rw [m_rawS (f := f) j m' (by rw [e7]) (by rw [e7, hn.1]; exact nI_ge (by omega) (by omega)), ltF]
    have k := ih m' (j + 1) _ (L ++ [sgR f b j]) (hC.wr (by omega) sgn_sm).1 (by omega) (by omega) (by rw [len_app]; omega)
    rw [List.append_assoc] at k
    exact k
end RAWL
section OPS10
variable {G : fG} {c : Nat} {M : fM} {dv : UInt64} {a b e f : Int32}
theorem CT_0 (hL : ItL M) : CT M (m_X10_clear M 270 60) [] := by
  refine ⟨⟨⟨by rw [m_X10_clear, fst1_at]; rfl, fun i hi => by cases hi⟩, by rw [m_X10_clear, fst1_nj (by decide)]; exact hL.1⟩, fun q q1 q2 => by rw [m_X10_clear, fst1_ne q1]⟩
theorem MT_0 {W : fM} : MT W (fst1 W 296 13 0) [] := by
  refine ⟨⟨by rw [fst1_at]; rfl, fun i hi => by cases hi⟩, fun q q1 q2 => by rw [fst1_ne q1], fun j j1 => by rw [fst1_nj j1]⟩
theorem op_44 (hG : fOK G) (h : It c M) : Op_44 G It c M dv a b e f := by
  have hS := h.1
  have hn := hS.2.raws
  have h0 := CT_0 h.2.2.2.2.1
  have hcj : ∀ (j : Nat) (V : fM) (L : List Int32), CT M V L → ¬ V (1 + 1) 2 ≤ nI j → j < (M 297 0).toNatClampNeg ∨ 2 ^ 31 ≤ j := fun j V L hC hq => by
    rw [hC.2 (1 + 1) (by decide) (by decide), show M (1 + 1) 2 = M 297 0 from hS.1.1.1, hn.1] at hq
    by_cases hj : j < 2 ^ 31
    · exact Or.inl (Nat.lt_of_not_le fun r => hq (nI_le r hj))
    · exact Or.inr (Nat.le_of_not_lt hj)
  have k1 := c_X11_writeRaws hG (d := 60) (by decide) M dv (q300 hS) (q300a hS) ⟨fun j V => ∃ L, CT M V L ∧ L.length = j, ⟨[], h0, rfl⟩, fun j V h1 ⟨L, l1, l2⟩ h3 => by have := hcj j V L l1 h3; omega, fun j V h1 ⟨L, l1, l2⟩ h3 => ⟨_, l1.add (x := r_X11_signOfRaw V (nI j) (r_X9_best M 1)) (by have := hcj j V L l1 h3; omega), by rw [len_app, l2]⟩⟩
  rw [r_X11_writeRaws, m_X11_writeRaws] at k1
  have kC := c_rawL (b := r_X9_best M 1) hS (M 297 0).toNatClampNeg 301 0 _ [] h0 (by omega) (by omega) (by show 0 + _ ≤ 60; omega)
  generalize l_X11_writeRawsL (r_X9_best M 1) (m_X10_clear M 270 60) 301 0 = V at k1 kC
  have v97 : V 297 = M 297 := kC.2 297 (by decide) (by decide)
  have w97 : (fst1 V 296 7 (0 : Int32)) 297 = M 297 := by rw [fst1_ne (by decide), v97]
  obtain ⟨r, b1, b2, -, -⟩ := best_same hS w97
  have hmj : ∀ (j : Nat) (W : fM) (L : List Int32), MT (fst1 V 296 7 0) W L → ¬ W 297 (0 : Int32).toNatClampNeg ≤ nI j → j < (M 297 0).toNatClampNeg ∨ 2 ^ 31 ≤ j := fun j W L hC hq => by
    rw [cl_0, hC.2.1 297 (by decide) (by decide), w97, hn.1] at hq
    by_cases hj : j < 2 ^ 31
    · exact Or.inl (Nat.lt_of_not_le fun r => hq (nI_le r hj))
    · exact Or.inr (Nat.le_of_not_lt hj)
  have x46 : sm (46 : Int32) 128 := sm_nI (n := 46) (by decide) (by decide)
  have x42 : sm (42 : Int32) 128 := sm_nI (n := 42) (by decide) (by decide)
  have x20 : sm (120 : Int32) 128 := sm_nI (n := 120) (by decide) (by decide)
  have hw : ∀ (x : Int32), sm x 128 → ∀ (j : Nat) (W : fM), j ≤ 6 → (∃ L, MT (fst1 V 296 7 0) W L ∧ L.length = j) → N_X12_writes W x ∧ ∃ L, MT (fst1 V 296 7 0) (m_X12_writes W x) L ∧ L.length = j + 1 := fun x hx j W h1 ⟨L, l1, l2⟩ => by
    obtain ⟨q1, q2⟩ := l1.wr (x := x) (by omega) hx
    exact ⟨q2, _, q1, by rw [len_app, l2]⟩
  have k2 := c_X12_writeRaws hG (d := 60) (by decide) V dv ⟨N_best w97 hS.2, fun j W => ∃ L, MT (fst1 V 296 7 0) W L ∧ L.length = j, ⟨[], MT_0, rfl⟩, fun j W h1 ⟨L, l1, l2⟩ h3 => by have := hmj j W L l1 h3; omega, fun j W h1 h2 _ _ _ => (hw 46 x46 j W h1 h2).1, fun j W h1 h2 _ _ _ => (hw 46 x46 j W h1 h2).2, fun j W h1 h2 _ _ _ => (hw 42 x42 j W h1 h2).1, fun j W h1 h2 _ _ _ => (hw 42 x42 j W h1 h2).2, fun j W h1 h2 _ _ => (hw 120 x20 j W h1 h2).1, fun j W h1 h2 _ _ => (hw 120 x20 j W h1 h2).2⟩
  have kM := m_rawL (W0 := fst1 V 296 7 0) (b := r_X12_best (fst1 V 296 7 0)) hS.2 w97 (M 297 0).toNatClampNeg 7 0 _ [] MT_0 (by omega) (by omega) (by show 0 + _ ≤ 60; omega)
  rw [r_X12_writeRaws, m_X12_writeRaws, a0_X12_writeRaws] at k2
  generalize l_X12_writeRawsL (r_X12_best (fst1 V 296 7 0)) (fst1 (fst1 V 296 7 0) 296 13 0) 7 0 = W at k2 kM
  rw [b1] at kC
  rw [b2] at kM
  rw [kM.1.1, ← kC.1.1.1] at k2
  exact ⟨_, _, _, k1, k2, It_line2 h.up kC (fun q q1 q2 => fst1_ne q2) (fun j j1 j2 => fst1_nj j1) kM (by rw [List.nil_append, ltF_len]; omega)⟩
end OPS10
