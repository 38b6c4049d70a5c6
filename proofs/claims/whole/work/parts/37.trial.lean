/-! ===== crates by trial ===== -/
theorem tb255 : ∀ i, i < 8 → (255 : Nat).testBit i = true := by decide +kernel
section TRI
variable {J : Nat → Nat} {n cap : Nat}
theorem pld_255 {g : Nat → Nat} {q : Nat} {p : Nat} (hp : p < 8) : pld J 255 g q (p + 1) = pld J 255 g q p + (if g p = q then J p else 0) := by
  rw [pld]
  by_cases h : g p = q
  · rw [if_pos ⟨tb255 p hp, h⟩, if_pos h]
  · rw [if_neg (fun k => h k.2), if_neg h]
theorem pld_mono {g : Nat → Nat} {q S : Nat} : ∀ (m p : Nat), pld J S g q p ≤ pld J S g q (p + m)
  | 0, p => Nat.le_refl _
  | m + 1, p => by
    have := pld_mono (g := g) (q := q) (S := S) m p
    rw [← Nat.add_assoc, pld]
    omega
theorem pld_ag {g g' : Nat → Nat} {q S p : Nat} (h : ∀ i, i < p → g' i = g i) : pld J S g' q p = pld J S g q p := pld_cg p fun i hi => ⟨rfl, fun _ => ⟨by rw [h i hi], rfl⟩⟩
def pPre (J : Nat → Nat) (n cap : Nat) (M : fM) (g : Nat → Nat) (p u : Nat) : Prop := M 12 6 = nI n ∧ (∀ i, i < n → M 22 i = nI (J i)) ∧ (∀ i, i < p → g i < u) ∧ ∀ q, q < u → M 295 q = nI (pld J 255 g q p) ∧ pld J 255 g q p ≤ cap
def pPost (J : Nat → Nat) (n cap : Nat) (M : fM) (u B r : Nat) (M' : fM) : Prop := r ≤ B ∧ (∀ a, a ≠ 295 → M' a = M a) ∧ (∀ q, q < u → M' 295 q = M 295 q) ∧ (r = B ∨ ∃ g' : Nat → Nat, (∀ i, i < n → g' i < r) ∧ ∀ q, pld J 255 g' q n ≤ cap)
def pCmp (J : Nat → Nat) (n cap : Nat) (g : Nat → Nat) (p u r : Nat) : Prop := ∀ (mm : Nat) (g' : Nat → Nat), (∀ i, i < p → g' i = g i) → (∀ i, i < n → g' i < mm) → u ≤ mm → (∀ q, q < mm → pld J 255 g' q n ≤ cap) → r ≤ mm
def pF (J : Nat → Nat) (n cap p : Nat) (F : fM → Nat → Nat → Int32 → Int32 × fM) : Prop := ∀ (M : fM) (g : Nat → Nat) (u B : Nat), B ≤ 9 → u ≤ p → pPre J n cap M g p u → ∃ (r : Nat) (M' : fM), F M p u (nI B) = (nI r, M') ∧ pPost J n cap M u B r M' ∧ pCmp J n cap g p u r
theorem put_I (hn : n ≤ 8) (hJ : ∀ i, i < n → 0 < J i ∧ J i ≤ 9) (hc : 9 ≤ cap) (hc2 : cap ≤ 40) {p : Nat} (hp : p < n) {F : fM → Nat → Nat → Int32 → Int32 × fM} (hF : pF J n cap (p + 1) F) (b : Int32) {g : Nat → Nat} {u : Nat} (hu : u ≤ p) :
    ∀ (m m' j B : Nat) (M : fM), j + m = u + 1 → m < m' → B ≤ 9 → pPre J n cap M g p u →
    ∃ (r : Nat) (M' : fM), l_X2_putI 294 8 12 (nI cap) p u b (nI (J p)) F M m' j (nI B) = (nI r, M') ∧ pPost J n cap M u B r M' ∧ ∀ (mm : Nat) (g' : Nat → Nat), (∀ i, i < p → g' i = g i) → (∀ i, i < n → g' i < mm) → j ≤ g' p → g' p ≤ u → (g' p = u → u + 1 ≤ mm) → u ≤ mm → (∀ q, q < mm → pld J 255 g' q n ≤ cap) → r ≤ mm
  | 0, m' + 1, j, B, M, h1, h2, h3, hP => by
    rw [l_X2_putI, if_pos (nI_lt (by omega) (by omega))]
    exact ⟨B, M, rfl, ⟨Nat.le_refl _, fun _ _ => rfl, fun _ _ => rfl, Or.inl rfl⟩, fun mm g' _ _ q1 q2 => by omega⟩
  | m + 1, m' + 1, j, B, M, h1, h2, h3, hP => by
    obtain ⟨P1, P2, P3, P4⟩ := hP
    obtain ⟨j1, j2⟩ := hJ p hp
    -- one crate tried: the load there is ld
    have go : ∀ (ld : Nat) (X : Int32), X = nI ld → ld + J p ≤ cap → (j < u → M 295 j = nI ld ∧ ld = pld J 255 g j p) → (j = u → ld = 0) →
        ∃ (r : Nat) (M' : fM), l_X2_putI 294 8 12 (nI cap) p u b (nI (J p)) F (rset (F (rset M 294 8 (nI j) (X + nI (J p))) (p + 1) (max u (j + 1)) (nI B)).2 294 8 (nI j) X) m' (j + 1) ((F (rset M 294 8 (nI j) (X + nI (J p))) (p + 1) (max u (j + 1)) (nI B)).1) = (nI r, M') ∧ pPost J n cap M u B r M' ∧ ∀ (mm : Nat) (g' : Nat → Nat), (∀ i, i < p → g' i = g i) → (∀ i, i < n → g' i < mm) → j ≤ g' p → g' p ≤ u → (g' p = u → u + 1 ≤ mm) → u ≤ mm → (∀ q, q < mm → pld J 255 g' q n ≤ cap) → r ≤ mm := by
      intro ld X hX hl hju hje
      subst hX
      have hag : ∀ i, i < p → (fun i => if i = p then j else g i) i = g i := fun i hi => if_neg (by omega)
      have hlu : ∀ q, pld J 255 (fun i => if i = p then j else g i) q (p + 1) = pld J 255 g q p + (if j = q then J p else 0) := fun q => by
        rw [pld_255 (by omega), pld_ag hag, if_pos rfl]
      have hz : pld J 255 g u p = 0 := pld_zero p fun i hi _ => by have := P3 i hi; omega
      rw [nI_add, rset_in (M := M) (by omega) (by decide)]
      have hpre : pPre J n cap (fst1 M 295 j (nI (ld + J p))) (fun i => if i = p then j else g i) (p + 1) (max u (j + 1)) := by
        refine ⟨(congrFun (fst1_ne (by decide)) 6).trans P1, fun i hi => (congrFun (fst1_ne (by decide)) i).trans (P2 i hi), fun i hi => ?_, fun q hq => ?_⟩
        · show (if i = p then j else g i) < _
          by_cases e : i = p
          · rw [if_pos e]; omega
          · rw [if_neg e]; have := P3 i (by omega); omega
        · rw [hlu q]
          by_cases e : j = q
          · subst e
            rw [fst1_at, if_pos rfl]
            by_cases e2 : j < u
            · rw [← (hju e2).2]; exact ⟨rfl, hl⟩
            · have e3 : j = u := by omega
              rw [e3, hz, hje e3, Nat.zero_add]
              exact ⟨rfl, by omega⟩
          · have hq2 : q < u := by omega
            rw [fst1_nj (Ne.symm e), if_neg e, Nat.add_zero]
            exact P4 q hq2
      obtain ⟨r1, M1, f1, ⟨f2, f3, f4, f5⟩, f6⟩ := hF (fst1 M 295 j (nI (ld + J p))) (fun i => if i = p then j else g i) (max u (j + 1)) B h3 (by omega) hpre
      rw [f1]
      show ∃ (r : Nat) (M' : fM), l_X2_putI 294 8 12 (nI cap) p u b (nI (J p)) F (rset M1 294 8 (nI j) (nI ld)) m' (j + 1) (nI r1) = (nI r, M') ∧ _
      rw [rset_in (M := M1) (by omega) (by decide)]
      have hsame : ∀ q, q < u → fst1 M1 295 j (nI ld) 295 q = M 295 q := fun q hq => by
        by_cases e : q = j
        · subst e; rw [fst1_at]; exact (hju hq).1.symm
        · rw [fst1_nj e, f4 q (by omega), fst1_nj e]
      have hfr : ∀ a, a ≠ 295 → fst1 M1 295 j (nI ld) a = M a := fun a ha => by rw [fst1_ne ha, f3 a ha, fst1_ne ha]
      obtain ⟨r, M', k1, ⟨k2, k3, k4, k5⟩, k6⟩ := put_I hn hJ hc hc2 hp hF b hu m m' (j + 1) r1 (fst1 M1 295 j (nI ld)) (by omega) (by omega) (by omega) ⟨by rw [hfr 12 (by decide)]; exact P1, fun i hi => by rw [hfr 22 (by decide)]; exact P2 i hi, P3, fun q hq => by rw [hsame q hq]; exact P4 q hq⟩
      refine ⟨r, M', k1, ⟨by omega, fun a ha => (k3 a ha).trans (hfr a ha), fun q hq => (k4 q hq).trans (hsame q hq), ?_⟩, fun mm g' g1 g2 g3 g4 g5 g6 g7 => ?_⟩
      · rcases k5 with k5 | k5
        · rcases f5 with f5 | f5
          · exact Or.inl (k5.trans f5)
          · rw [k5]; exact Or.inr f5
        · exact Or.inr k5
      · by_cases e : g' p = j
        · refine Nat.le_trans k2 (f6 mm g' (fun i hi => ?_) g2 ?_ g7)
          · by_cases e2 : i = p
            · show g' i = if i = p then j else g i
              rw [if_pos e2, e2]; exact e
            · show g' i = if i = p then j else g i
              rw [if_neg e2]; exact g1 i (by omega)
          · by_cases e3 : j = u
            · have := g5 (by omega); omega
            · omega
        · exact k6 mm g' g1 g2 (by omega) g4 g5 g6 g7
    rw [l_X2_putI, if_neg (nI_nlt (by omega) (by omega))]
    by_cases e : u ≤ j
    · have e2 : j = u := by omega
      rw [if_pos (nI_le e (by omega)), if_neg (show ¬ nI cap < (0 : Int32) + nI (J p) by rw [Int32.zero_add]; exact nI_nlt (by omega) (by omega))]
      exact go 0 0 nI_0.symm (by omega) (fun q => by omega) (fun _ => rfl)
    · have hj : j < u := by omega
      obtain ⟨l1, l2⟩ := P4 j hj
      rw [if_neg (nI_ge (by omega) (by omega)), rget_in (by omega) (by decide), show (294 : Nat) + 1 = 295 from rfl, l1]
      by_cases hr : pld J 255 g j p + J p ≤ cap
      · rw [if_neg (show ¬ nI cap < nI (pld J 255 g j p) + nI (J p) by rw [nI_add]; exact nI_nlt hr (by omega))]
        exact go _ _ rfl hr (fun _ => ⟨l1, rfl⟩) (fun q => by omega)
      · rw [if_pos (show nI cap < nI (pld J 255 g j p) + nI (J p) by rw [nI_add]; exact nI_lt (by omega) (by omega))]
        obtain ⟨r, M', k1, k2, k6⟩ := put_I hn hJ hc hc2 hp hF b hu m m' (j + 1) B M (by omega) (by omega) h3 ⟨P1, P2, P3, P4⟩
        refine ⟨r, M', k1, k2, fun mm g' g1 g2 g3 g4 g5 g6 g7 => ?_⟩
        by_cases e4 : g' p = j
        · have h5 := g7 j (by omega)
          have h6 := pld_mono (J := J) (g := g') (q := j) (S := 255) (n - (p + 1)) (p + 1)
          rw [show p + 1 + (n - (p + 1)) = n by omega, pld_255 (by omega), if_pos e4, pld_ag g1] at h6
          omega
        · exact k6 mm g' g1 g2 (by omega) g4 g5 g6 g7
  | 0, 0, _, _, _, _, h2, _, _ => by omega
  | m + 1, 0, _, _, _, _, h2, _, _ => by omega
/-- crates u and v named the other way round -/
def swp (u v : Nat) (g : Nat → Nat) : Nat → Nat := fun i => if g i = u then v else if g i = v then u else g i
theorem swp_ld {u v q : Nat} {g : Nat → Nat} {S : Nat} : ∀ n, pld J S (swp u v g) q n = pld J S g (if q = u then v else if q = v then u else q) n := fun n => pld_cg n fun p _ => ⟨rfl, fun _ => ⟨by
  unfold swp
  by_cases h1 : g p = u
  · rw [if_pos h1]
    by_cases h2 : q = u
    · rw [if_pos h2]; constructor <;> intro h <;> omega
    · rw [if_neg h2]
      by_cases h3 : q = v
      · rw [if_pos h3]; constructor <;> intro h <;> omega
      · rw [if_neg h3]; constructor <;> intro h <;> omega
  · rw [if_neg h1]
    by_cases h4 : g p = v
    · rw [if_pos h4]
      by_cases h2 : q = u
      · rw [if_pos h2]; constructor <;> intro h <;> omega
      · rw [if_neg h2]
        by_cases h3 : q = v
        · rw [if_pos h3]; constructor <;> intro h <;> omega
        · rw [if_neg h3]; constructor <;> intro h <;> omega
    · rw [if_neg h4]
      by_cases h2 : q = u
      · rw [if_pos h2]; constructor <;> intro h <;> omega
      · rw [if_neg h2]
        by_cases h3 : q = v
        · rw [if_pos h3]; constructor <;> intro h <;> omega
        · rw [if_neg h3], rfl⟩⟩
theorem put_ok (hn : n ≤ 8) (hJ : ∀ i, i < n → 0 < J i ∧ J i ≤ 9) (hc : 9 ≤ cap) (hc2 : cap ≤ 40) : ∀ (m p : Nat), p + m = 9 → p ≤ n → pF J n cap p (sp_X2_put 294 8 12 (nI cap) m)
  | 0, p, h1, h2 => by omega
  | m + 1, p, h1, h2 => by
    intro M g u B hB hu hP
    obtain ⟨P1, P2, P3, P4⟩ := id hP
    rw [sp_X2_put]
    by_cases hub : u < B
    · rw [if_pos (nI_lt hub (by omega)), P1]
      by_cases hpn : n ≤ p
      · have e : p = n := by omega
        subst e
        rw [if_pos (nI_le hpn (by omega))]
        refine ⟨u, M, rfl, ⟨by omega, fun _ _ => rfl, fun _ _ => rfl, Or.inr ⟨g, P3, fun q => ?_⟩⟩, fun mm g' _ _ q _ => q⟩
        by_cases hq : q < u
        · exact (P4 q hq).2
        · rw [pld_zero p fun i hi _ => by have := P3 i hi; omega]; omega
      · have hF := put_ok hn hJ hc hc2 m (p + 1) (by omega) (by omega)
        have ej : rget M (12 + 9) 8 (nI p) = nI (J p) := by rw [rget_in (by omega) (by decide)]; exact P2 p (by omega)
        rw [if_neg (nI_ge (by omega) (by omega)), if_pos (show nI p < (8 : Int32) from nI_lt (b := 8) (by omega) (by omega)), ej]
        obtain ⟨r, M', k1, k2, k6⟩ := put_I hn hJ hc hc2 (p := p) (by omega) hF (nI B) hu (u + 1) 12 0 B M (by omega) (by omega) hB hP
        refine ⟨r, M', by rw [k1], k2, fun mm g' g1 g2 g3 g4 => ?_⟩
        by_cases e : g' p < u
        · exact k6 mm g' g1 g2 (by omega) (by omega) (fun q => by omega) g3 g4
        · have hm := g2 p (by omega)
          refine k6 mm (swp u (g' p) g') (fun i hi => ?_) (fun i hi => ?_) (Nat.zero_le _) ?_ (fun _ => by omega) g3 (fun q hq => ?_)
          · have h5 := g1 i hi
            have h6 := P3 i hi
            unfold swp
            rw [if_neg (by omega), if_neg (by omega), h5]
          · have h5 := g2 i hi
            unfold swp
            by_cases h7 : g' i = u
            · rw [if_pos h7]; exact hm
            · rw [if_neg h7]
              by_cases h8 : g' i = g' p
              · rw [if_pos h8]; omega
              · rw [if_neg h8]; exact h5
          · show swp u (g' p) g' p ≤ u
            unfold swp
            by_cases h7 : g' p = u
            · rw [if_pos h7]; omega
            · rw [if_neg h7, if_pos rfl]; omega
          · rw [swp_ld]
            by_cases h7 : q = u
            · rw [if_pos h7]; exact g4 _ hm
            · rw [if_neg h7]
              by_cases h8 : q = g' p
              · rw [if_pos h8]; exact g4 u (by omega)
              · rw [if_neg h8]; exact g4 q hq
    · rw [if_neg (nI_nlt (by omega) (by omega))]
      exact ⟨B, M, rfl, ⟨Nat.le_refl _, fun _ _ => rfl, fun _ _ => rfl, Or.inl rfl⟩, fun mm g' _ _ q _ => by omega⟩
end TRI
section TRI2
variable {N : Nat} {M W : fM} {f : Nat → Int32} {cap : Nat}
theorem c_try (h : SW N M 1 f) (hc : 9 ≤ cap) (hc2 : cap ≤ 40) : r_X2_leastByTrial M 12 (nI cap) = nI (dpF (Jn f) (f 3).toNatClampNeg cap (2 ^ (f 3).toNatClampNeg - 1)).1 ∧ ∀ a, a ≠ 295 → m_X2_leastByTrial M 12 (nI cap) a = M a := by
  have hn := h.2.lots.2
  have hp := Nat.two_pow_pos (f 3).toNatClampNeg
  have hJ : ∀ i, i < (f 3).toNatClampNeg → 0 < Jn f i ∧ Jn f i ≤ 9 := fun i hi => (h.2.jar hi).2
  have hE : M 12 6 = nI (f 3).toNatClampNeg := (show M 12 6 = f 3 from h.1.2.2.2.1.1).trans h.2.lots.1
  obtain ⟨r, M', k1, ⟨k2, k3, k4, k5⟩, k6⟩ := put_ok hn hJ hc hc2 9 0 (by omega) (by omega) M (fun _ => 0) 0 9 (by omega) (by omega) ⟨hE, fun i hi => ((h.1.2.2.2.2.1 i hi).2.2.2.2.1).trans (h.2.jar hi).1, fun i hi => by omega, fun q hq => by omega⟩
  have hall : ∀ p, p < (f 3).toNatClampNeg → (2 ^ (f 3).toNatClampNeg - 1).testBit p = (255 : Nat).testBit p := fun p hp2 => by rw [bt_all _ hn p hp2, tb255 p (by omega)]
  have hld : ∀ (g : Nat → Nat) (q : Nat), pld (Jn f) (2 ^ (f 3).toNatClampNeg - 1) g q (f 3).toNatClampNeg = pld (Jn f) 255 g q (f 3).toNatClampNeg := fun g q => pld_cg _ fun p hp2 => ⟨hall p hp2, fun _ => ⟨Iff.rfl, rfl⟩⟩
  have hr8 : r ≤ (f 3).toNatClampNeg := k6 (f 3).toNatClampNeg (fun i => i) (fun i hi => by omega) (fun i hi => hi) (by omega) (fun q hq => by
    have : ∀ m, m ≤ 8 → m ≤ (f 3).toNatClampNeg → pld (Jn f) 255 (fun i => i) q m ≤ if q < m then Jn f q else 0 := by
      intro m
      induction m with
      | zero => intro _ _; rw [pld]; omega
      | succ m ih =>
        intro h1 h2
        have i1 := ih (by omega) (by omega)
        rw [pld_255 (by omega)]
        by_cases e : m = q
        · subst e
          rw [if_neg (by omega)] at i1
          rw [if_pos rfl, if_pos (by omega)]
          omega
        · rw [if_neg (show ¬ (fun i => i) m = q from e)]
          by_cases e2 : q < m
          · rw [if_pos e2] at i1; rw [if_pos (by omega)]; omega
          · rw [if_neg e2] at i1; rw [if_neg (by omega)]; omega
    have h5 := this (f 3).toNatClampNeg hn (Nat.le_refl _)
    rw [if_pos hq] at h5
    have := (hJ q hq).2
    omega)
  have key : r = (dpF (Jn f) (f 3).toNatClampNeg cap (2 ^ (f 3).toNatClampNeg - 1)).1 := by
    by_cases h0 : (f 3).toNatClampNeg = 0
    · rw [h0] at hr8 ⊢
      have : r = 0 := by omega
      rw [this]
      rfl
    · have h2 : 1 < 2 ^ (f 3).toNatClampNeg := Nat.one_lt_two_pow h0
      have hD := dpF_ok (J := Jn f) (cap := cap) hn (h.2.jarc hc)
      obtain ⟨d0, g, d1, d2, -⟩ := pDP_has hD hn (h.2.jarc hc) _ (2 ^ (f 3).toNatClampNeg - 1) (Nat.le_refl _) (by omega) (by omega)
      have l1 := k6 _ g (fun i hi => by omega) (fun i hi => d1 i hi (bt_all _ hn i hi)) (Nat.zero_le _) (fun q _ => by rw [← hld]; exact d2 q)
      rcases k5 with k5 | ⟨g', q1, q2⟩
      · omega
      · have l2 := pDP_best hD hn (h.2.jarc hc) _ (2 ^ (f 3).toNatClampNeg - 1) (Nat.le_refl _) (by omega) (by omega) r g' (fun p hp2 _ => q1 p hp2) (fun q _ => by rw [hld]; exact q2 q)
        have l3 : (dpF (Jn f) (f 3).toNatClampNeg cap (2 ^ (f 3).toNatClampNeg - 1)).1 ≤ r := by
          rcases l2 with l2 | ⟨l2, -⟩
          · exact Nat.le_of_lt l2
          · exact Nat.le_of_eq l2
        omega
  rw [r_X2_leastByTrial, m_X2_leastByTrial, show (9 : Int32) = nI 9 from rfl, k1]
  exact ⟨by rw [key], fun a ha => k3 a ha⟩
end TRI2
