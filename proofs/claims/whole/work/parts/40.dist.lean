/-! ===== distances: the class's table ===== -/
theorem nI_min {a b : Nat} (ha : a < 2 ^ 30) (hb : b < 2 ^ 30) : (if nI a < nI b then nI a else nI b) = nI (min a b) := by
  by_cases h : a < b
  · rw [if_pos (nI_lt h (by omega)), Nat.min_eq_left (by omega)]
  · rw [if_neg (nI_nlt (by omega) (by omega)), Nat.min_eq_right (by omega)]
section DIS
variable {N : Nat} {M W : fM} {f : Nat → Int32} {s w : Nat → Int32} {T L : Nat}
/-- what the table's cells are asked of the two texts -/
def tRd (M : fM) (s w : Nat → Int32) (T L : Nat) : Prop := (∀ i, i < T → r_X10_at M 267 60 (nI i) = s i) ∧ (∀ j, j < L → r_X10_at M 273 6 (nI j) = w j) ∧ M 267 2 = nI T ∧ M 273 2 = nI L
theorem at_ext {M M' : fM} {k n : Nat} (h1 : M' k = M k) (h2 : M' (k + 2) = M (k + 2)) (i : Int32) : r_X10_at M' k n i = r_X10_at M k n i := by
  rw [r_X10_at, r_X10_at, rget, rget, h1, show k + 1 + 1 = k + 2 by omega, h2]
theorem tRd.ext {M M' : fM} (h : tRd M s w T L) (hf : ∀ a, a ≠ 286 → M' a = M a) : tRd M' s w T L :=
  ⟨fun i hi => (at_ext (hf 267 (by decide)) (hf 269 (by decide)) _).trans (h.1 i hi), fun j hj => (at_ext (hf 273 (by decide)) (hf 275 (by decide)) _).trans (h.2.1 j hj), by rw [hf 267 (by decide)]; exact h.2.2.1, by rw [hf 273 (by decide)]; exact h.2.2.2⟩
theorem ix7 (i j : Nat) : (nI i * (7 : Int32)) + nI j = nI (i * 7 + j) := by rw [show (7 : Int32) = nI 7 from rfl, pk_mul, nI_add]
theorem cel_ok (hR : tRd M s w T L) (hT : T ≤ 12) (hL : L ≤ 6) {i j : Nat} (hi : i ≤ T) (hj : j ≤ L) (hE : ∀ i' j', (i' < i ∧ j' ≤ j) ∨ (i' = i ∧ j' < j) → M 286 (i' * 7 + j') = nI (lv s w i' j')) : r_X3_cell M 267 60 273 6 (nI i) (nI j) = nI (lv s w i j) := by
  rw [r_X3_cell]
  match i, j with
  | 0, j => rw [if_pos nI_0, nI_add, Nat.zero_add, lv_0]
  | i + 1, 0 => rw [if_neg (nI_ne0 (by omega) (by omega)), if_pos nI_0, nI_add, Nat.add_zero, lv_s0]
  | i + 1, j + 1 =>
    have b1 := lv_le s w i j
    have b2 := lv_le s w i (j + 1)
    have b3 := lv_le s w (i + 1) j
    have g1 : rget M 285 91 (((nI (i + 1) * (7 : Int32)) + nI (j + 1)) - (1 : Int32)) = nI (lv s w (i + 1) j) := by
      rw [ix7, show (i + 1) * 7 + (j + 1) = ((i + 1) * 7 + j) + 1 by omega, nI_pred, rget_in (by omega) (by decide)]
      exact hE (i + 1) j (Or.inr ⟨rfl, by omega⟩)
    have g2 : rget M 285 91 (((nI (i + 1) - (1 : Int32)) * (7 : Int32)) + nI (j + 1)) = nI (lv s w i (j + 1)) := by
      rw [nI_pred, ix7, rget_in (by omega) (by decide)]
      exact hE i (j + 1) (Or.inl ⟨by omega, by omega⟩)
    have g3 : rget M 285 91 ((((nI (i + 1) - (1 : Int32)) * (7 : Int32)) + nI (j + 1)) - (1 : Int32)) = nI (lv s w i j) := by
      rw [nI_pred, ix7, show i * 7 + (j + 1) = (i * 7 + j) + 1 by omega, nI_pred, rget_in (by omega) (by decide)]
      exact hE i j (Or.inl ⟨by omega, by omega⟩)
    rw [if_neg (nI_ne0 (by omega) (by omega)), if_neg (nI_ne0 (by omega) (by omega)), g1, g2, g3, nI_pred, nI_pred, hR.1 i (by omega), hR.2.1 j (by omega), nI_min (by omega) (by omega), nI_1, Int32.add_zero, nI_1, lv_ss]
    by_cases e : s i = w j
    · rw [if_pos e, if_pos e, nI_min (by omega) (by omega)]
      congr 1
      omega
    · rw [if_neg e, if_neg e, nI_min (by omega) (by omega)]
      congr 1
      omega
theorem tabI (hT : T ≤ 12) (hL : L ≤ 6) {i : Nat} (hi : i ≤ T) : ∀ (m m' j : Nat) (M : fM), tRd M s w T L → (∀ i' j', (i' < i ∧ j' ≤ L) ∨ (i' = i ∧ j' < j) → M 286 (i' * 7 + j') = nI (lv s w i' j')) → j + m = L + 1 → m < m' →
    (∀ i' j', (i' < i + 1 ∧ j' ≤ L) → (l_X3_byTableI 267 60 273 6 i M m' j) 286 (i' * 7 + j') = nI (lv s w i' j')) ∧ ∀ a, a ≠ 286 → (l_X3_byTableI 267 60 273 6 i M m' j) a = M a
  | 0, m' + 1, j, M, hR, hE, h1, h2 => by
    rw [l_X3_byTableI, hR.2.2.2, if_pos (nI_lt (by omega) (by omega))]
    exact ⟨fun i' j' h => hE i' j' (by omega), fun _ _ => rfl⟩
  | m + 1, m' + 1, j, M, hR, hE, h1, h2 => by
    rw [l_X3_byTableI, hR.2.2.2, if_neg (nI_nlt (by omega) (by omega)), cel_ok hR hT hL hi (by omega) (fun i' j' h => hE i' j' (by omega)), ix7, rset_in (M := M) (by omega) (by decide)]
    have hf : ∀ a, a ≠ 286 → fst1 M 286 (i * 7 + j) (nI (lv s w i j)) a = M a := fun a ha => fst1_ne ha
    obtain ⟨q1, q2⟩ := tabI hT hL hi m m' (j + 1) (fst1 M 286 (i * 7 + j) (nI (lv s w i j))) (hR.ext hf) (fun i' j' h => by
      by_cases e : i' * 7 + j' = i * 7 + j
      · have e1 : i' = i := by omega
        have e2 : j' = j := by omega
        rw [e1, e2, fst1_at]
      · rw [fst1_nj e]
        exact hE i' j' (by omega)) (by omega) (by omega)
    exact ⟨q1, fun a ha => (q2 a ha).trans (hf a ha)⟩
  | 0, 0, _, _, _, _, _, h2 => by omega
  | m + 1, 0, _, _, _, _, _, h2 => by omega
theorem tabO (hT : T ≤ 12) (hL : L ≤ 6) : ∀ (m m' j : Nat) (M : fM), tRd M s w T L → (∀ i' j', (i' < j ∧ j' ≤ L) → M 286 (i' * 7 + j') = nI (lv s w i' j')) → j + m = T + 1 → m < m' →
    ∃ M', l_X3_byTable 267 60 273 6 M m' j = (nI (lv s w T L), M') ∧ ∀ a, a ≠ 286 → M' a = M a
  | 0, m' + 1, j, M, hR, hE, h1, h2 => by
    rw [l_X3_byTable, hR.2.2.1, hR.2.2.2, if_pos (nI_lt (by omega) (by omega)), ix7, rget_in (by omega) (by decide), show (285 : Nat) + 1 = 286 from rfl, hE T L ⟨by omega, by omega⟩]
    exact ⟨M, rfl, fun _ _ => rfl⟩
  | m + 1, m' + 1, j, M, hR, hE, h1, h2 => by
    rw [l_X3_byTable, hR.2.2.1, if_neg (nI_nlt (by omega) (by omega))]
    obtain ⟨q1, q2⟩ := tabI hT hL (i := j) (by omega) (L + 1) 301 0 M hR (fun i' j' h => hE i' j' (by omega)) (by omega) (by omega)
    obtain ⟨M', r1, r2⟩ := tabO hT hL m m' (j + 1) (l_X3_byTableI 267 60 273 6 j M 301 0) (hR.ext q2) q1 (by omega) (by omega)
    exact ⟨M', r1, fun a ha => (r2 a ha).trans (q2 a ha)⟩
  | 0, 0, _, _, _, _, _, h2 => by omega
  | m + 1, 0, _, _, _, _, _, h2 => by omega
/-- a row of letters, as the class reads it -/
theorem tRd_of (hT : ItT M) (h : SW N M 1 f) (h0 : M 273 0 = nI 6) {l : Nat} (hl : l < (f 2).toNatClampNeg) : tRd (m_X11_takeWord M (nI l)) (M 301) (wl f l) (M 296 9).toNatClampNeg (wn' f l) := by
  obtain ⟨t1, t2, t3⟩ := tkw h h0 hl
  obtain ⟨e1, e2, e3, e4⟩ := h.2.lab hl
  refine ⟨fun i hi => ?_, fun j hj => ?_, ?_, ?_⟩
  · rw [at_ext (t3 267 (by decide) (by decide)) (t3 269 (by decide) (by decide))]
    exact hT.at hi
  · have hlen : (ltF (wl f l) (wn' f l) 0).length = wn' f l := ltF_len _ _ _
    obtain ⟨x, x1, x2, x3⟩ := e4 j hj
    have g := t1.2 j (by omega)
    rw [ltF_get _ _ _ _ hj, Nat.zero_add] at g
    have e5 : m_X11_takeWord M (nI l) 273 2 = nI (wn' f l) := by rw [t1.1, hlen]
    rw [r_X10_at, e5, if_neg (nI_pos (by omega)), if_neg (nI_ge hj (by omega)), rget_in (by omega) (by decide), show (273 + 1 + 1 : Nat) = 273 + 2 from rfl, g, x1, ch_id (sm_nI (b := 200) (by omega) (by omega)) (by decide)]
  · rw [t3 267 (by decide) (by decide), hT.2.1]
    exact hT.2.2.1.1
  · rw [t1.1, ltF_len]
/-- the distance of the text to a label -/
def dst (f s : Nat → Int32) (T l : Nat) : Nat := lv s (wl f l) T (wn' f l)
theorem c_tab (hT : ItT M) (h : SW N M 1 f) (h0 : M 273 0 = nI 6) (h12 : (M 296 9).toNatClampNeg ≤ 12) {l : Nat} (hl : l < (f 2).toNatClampNeg) : r_X11_tableDistance M (nI l) = nI (dst f (M 301) (M 296 9).toNatClampNeg l) ∧ m_X11_tableDistance M (nI l) 273 0 = nI 6 ∧ ∀ a, a ≠ 273 → a ≠ 275 → a ≠ 286 → m_X11_tableDistance M (nI l) a = M a := by
  obtain ⟨t1, t2, t3⟩ := tkw h h0 hl
  obtain ⟨e1, e2, e3, e4⟩ := h.2.lab hl
  obtain ⟨M', r1, r2⟩ := tabO h12 e3 ((M 296 9).toNatClampNeg + 1) 301 0 (m_X11_takeWord M (nI l)) (tRd_of hT h h0 hl) (fun i' j' q => by omega) (by omega) (by omega)
  rw [r_X11_tableDistance, m_X11_tableDistance, r_X3_byTable, m_X3_byTable, r1]
  exact ⟨rfl, by show M' 273 0 = nI 6; rw [r2 273 (by decide)]; exact t2, fun a a1 a2 a3 => by show M' a = M a; rw [r2 a a3, t3 a a1 a2]⟩
/-! going on from letter to letter -/
theorem goOn_ok (hT : T ≤ 12) (hL : L ≤ 6) : ∀ (m i j c : Nat) (M : fM), i ≤ T → j ≤ L → c + m = 20 → c ≤ i + j → tRd M s w T L → (∀ i' j', i' < T → j' < L → M 288 (i' * 7 + j') = -1 ∨ M 288 (i' * 7 + j') = nI (lvE s w T L i' j')) →
    (sp_X3_goOn 287 91 267 60 273 6 m M (nI i) (nI j) c).1 = nI (lvE s w T L i j) ∧ (∀ i' j', i' < T → j' < L → (sp_X3_goOn 287 91 267 60 273 6 m M (nI i) (nI j) c).2 288 (i' * 7 + j') = -1 ∨ (sp_X3_goOn 287 91 267 60 273 6 m M (nI i) (nI j) c).2 288 (i' * 7 + j') = nI (lvE s w T L i' j')) ∧ ∀ a, a ≠ 288 → (sp_X3_goOn 287 91 267 60 273 6 m M (nI i) (nI j) c).2 a = M a
  | 0, i, j, c, M, h1, h2, h3, h4, hR, hE => by omega
  | m + 1, i, j, c, M, h1, h2, h3, h4, hR, hE => by
    have mx : ∀ z : Nat, z < 1000 → (if nI z < (0 : Int32) then (0 : Int32) else nI z) = nI z := fun z hz => if_neg (nI_pos (by omega))
    rw [sp_X3_goOn, hR.2.2.1, hR.2.2.2, pk_sub h1, pk_sub h2, mx _ (by omega), mx _ (by omega), nI_add]
    by_cases a1 : T ≤ i
    · rw [if_pos (show nI (T - i) ≤ 0 from nI_le (b := 0) (by omega) (by omega)), lvE_T s w a1]
      exact ⟨by show nI (T - i + (L - j)) = nI (L - j); rw [show T - i + (L - j) = L - j by omega], hE, fun _ _ => rfl⟩
    · rw [if_neg (nI_nle (by omega) (by omega))]
      by_cases a2 : L ≤ j
      · rw [if_pos (show nI (L - j) ≤ 0 from nI_le (b := 0) (by omega) (by omega)), lvE_W s w a2]
        exact ⟨by show nI (T - i + (L - j)) = nI (T - i); rw [show T - i + (L - j) = T - i by omega], hE, fun _ _ => rfl⟩
      · rw [if_neg (nI_nle (by omega) (by omega)), if_pos (show nI c ≤ (18 : Int32) from nI_le (b := 18) (by omega) (by omega)), ix7, rget_in (by omega) (by decide), show (287 : Nat) + 1 = 288 from rfl]
        have bE : ∀ i' j', lvE s w T L i' j' < 1000 := fun i' j' => by have := lvE_le s w T L i' j'; omega
        by_cases a3 : M 288 (i * 7 + j) = -1
        · rw [if_pos a3, nI_1, nI_1]
          obtain ⟨x1, x2, x3⟩ := goOn_ok hT hL m (i + 1) (j + 1) (c + 1) M (by omega) (by omega) (by omega) (by omega) hR hE
          generalize sp_X3_goOn 287 91 267 60 273 6 m M (nI (i + 1)) (nI (j + 1)) (c + 1) = X at *
          have hRX : tRd X.2 s w T L := ⟨fun i' hi => (at_ext (x3 267 (by decide)) (x3 269 (by decide)) _).trans (hR.1 i' hi), fun j' hj => (at_ext (x3 273 (by decide)) (x3 275 (by decide)) _).trans (hR.2.1 j' hj), by rw [x3 267 (by decide)]; exact hR.2.2.1, by rw [x3 273 (by decide)]; exact hR.2.2.2⟩
          rw [hRX.1 i (by omega), hRX.2.1 j (by omega), x1]
          have fin : ∀ (V : fM) (y : Int32), (∀ i' j', i' < T → j' < L → V 288 (i' * 7 + j') = -1 ∨ V 288 (i' * 7 + j') = nI (lvE s w T L i' j')) → (∀ a, a ≠ 288 → V a = M a) → y = nI (lvE s w T L i j) →
              (∀ i' j', i' < T → j' < L → (rset V 287 91 (nI (i * 7 + j)) y) 288 (i' * 7 + j') = -1 ∨ (rset V 287 91 (nI (i * 7 + j)) y) 288 (i' * 7 + j') = nI (lvE s w T L i' j')) ∧ ∀ a, a ≠ 288 → (rset V 287 91 (nI (i * 7 + j)) y) a = M a := fun V y v1 v2 v3 => by
            rw [rset_in (M := V) (by omega) (by decide), v3]
            refine ⟨fun i' j' q1 q2 => ?_, fun a ha => by rw [fst1_ne ha, v2 a ha]⟩
            by_cases e : i' * 7 + j' = i * 7 + j
            · have e1 : i' = i := by omega
              have e2 : j' = j := by omega
              rw [e1, e2, fst1_at]; exact Or.inr rfl
            · rw [fst1_nj e]; exact v1 i' j' q1 q2
          by_cases e : s i = w j
          · have e5 := lvE_same (s := s) (w := w) (T := T) (W := L) (i := i) (j := j) (by omega) (by omega) e
            rw [if_pos e]
            obtain ⟨f1, f2⟩ := fin X.2 (nI (lvE s w T L (i + 1) (j + 1))) x2 x3 (by rw [e5])
            exact ⟨by rw [e5], f1, f2⟩
          · rw [if_neg e]
            obtain ⟨y1, y2, y3⟩ := goOn_ok hT hL m (i + 1) j (c + 1) X.2 (by omega) (by omega) (by omega) (by omega) hRX x2
            generalize sp_X3_goOn 287 91 267 60 273 6 m X.2 (nI (i + 1)) (nI j) (c + 1) = Y at *
            have hRY : tRd Y.2 s w T L := ⟨fun i' hi => (at_ext (y3 267 (by decide)) (y3 269 (by decide)) _).trans (hRX.1 i' hi), fun j' hj => (at_ext (y3 273 (by decide)) (y3 275 (by decide)) _).trans (hRX.2.1 j' hj), by rw [y3 267 (by decide)]; exact hRX.2.2.1, by rw [y3 273 (by decide)]; exact hRX.2.2.2⟩
            obtain ⟨z1, z2, z3⟩ := goOn_ok hT hL m i (j + 1) (c + 1) Y.2 (by omega) (by omega) (by omega) (by omega) hRY y2
            generalize sp_X3_goOn 287 91 267 60 273 6 m Y.2 (nI i) (nI (j + 1)) (c + 1) = Z at *
            have u1 := bE (i + 1) (j + 1)
            have u2 := bE (i + 1) j
            have u3 := bE i (j + 1)
            have ev : (if (if Z.1 < Y.1 then Z.1 else Y.1) < nI (lvE s w T L (i + 1) (j + 1)) then (if Z.1 < Y.1 then Z.1 else Y.1) else nI (lvE s w T L (i + 1) (j + 1))) + (1 : Int32) = nI (lvE s w T L i j) := by
              rw [y1, z1, nI_min (by omega) (by omega), nI_min (by omega) (by omega), nI_1, lvE_diff (by omega) (by omega) e]
              congr 1
              omega
            obtain ⟨f1, f2⟩ := fin Z.2 _ z2 (fun a ha => (z3 a ha).trans ((y3 a ha).trans (x3 a ha))) ev
            exact ⟨ev, f1, f2⟩
        · rw [if_neg a3]
          rcases hE i j (by omega) (by omega) with q | q
          · exact absurd q a3
          · exact ⟨q, hE, fun _ _ => rfl⟩
theorem c_lets (hT : ItT M) (h : SW N M 1 f) (h0 : M 273 0 = nI 6) (h12 : (M 296 9).toNatClampNeg ≤ 12) {l : Nat} (hl : l < (f 2).toNatClampNeg) : r_X3_byLetters (m_X11_takeWord M (nI l)) 267 60 273 6 = nI (dst f (M 301) (M 296 9).toNatClampNeg l) ∧ m_X3_byLetters (m_X11_takeWord M (nI l)) 267 60 273 6 273 0 = nI 6 ∧ ∀ a, a ≠ 273 → a ≠ 275 → a ≠ 288 → m_X3_byLetters (m_X11_takeWord M (nI l)) 267 60 273 6 a = M a := by
  obtain ⟨t1, t2, t3⟩ := tkw h h0 hl
  obtain ⟨e1, e2, e3, e4⟩ := h.2.lab hl
  have hR := tRd_of hT h h0 hl
  have hf : ∀ a, a ≠ 288 → rall (m_X11_takeWord M (nI l)) 287 91 (-1 : Int32) a = m_X11_takeWord M (nI l) a := fun a ha => fsr_ne ha
  have hR2 : tRd (rall (m_X11_takeWord M (nI l)) 287 91 (-1 : Int32)) (M 301) (wl f l) (M 296 9).toNatClampNeg (wn' f l) := ⟨fun i' hi => (at_ext (hf 267 (by decide)) (hf 269 (by decide)) _).trans (hR.1 i' hi), fun j' hj => (at_ext (hf 273 (by decide)) (hf 275 (by decide)) _).trans (hR.2.1 j' hj), by rw [hf 267 (by decide)]; exact hR.2.2.1, by rw [hf 273 (by decide)]; exact hR.2.2.2⟩
  obtain ⟨q1, q2, q3⟩ := goOn_ok h12 e3 20 0 0 0 (rall (m_X11_takeWord M (nI l)) 287 91 (-1 : Int32)) (by omega) (by omega) (by omega) (by omega) hR2 (fun i' j' g1 g2 => Or.inl (by
    show fsr _ 288 _ 288 (i' * 7 + j') = -1
    rw [fsr_at, if_pos (by omega)]))
  rw [nI_0] at q1 q3
  rw [r_X3_byLetters, m_X3_byLetters, q1, lvE_0]
  exact ⟨rfl, by rw [q3 273 (by decide), hf 273 (by decide)]; exact t2, fun a a1 a2 a3 => by rw [q3 a a3, hf a a3, t3 a a1 a2]⟩
/-! the model's row -/
theorem least_nI {a b : Nat} (ha : a < 2 ^ 30) (hb : b < 2 ^ 30) : r_X12_least M (nI a) (nI b) = nI (min a b) := by
  rw [r_X12_least]
  by_cases h : b ≤ a
  · rw [if_pos (nI_le h (by omega)), Nat.min_eq_right h]
  · rw [if_neg (nI_ge (by omega) (by omega)), Nat.min_eq_left (by omega)]
theorem apA (hT : T ≤ 12) (x : Int32) : ∀ (m m' j : Nat) (W : fM), W 296 9 = nI T → (∀ k, k < j → W 303 k = nI k) → j + m = T + 1 → m < m' → (∀ k, k ≤ T → (l_X12_apartA x W m' j) 303 k = nI k) ∧ ∀ a, a ≠ 303 → (l_X12_apartA x W m' j) a = W a
  | 0, m' + 1, j, W, h9, hE, h1, h2 => by
    rw [l_X12_apartA, h9, if_pos (nI_lt (by omega) (by omega))]
    exact ⟨fun k hk => hE k (by omega), fun _ _ => rfl⟩
  | m + 1, m' + 1, j, W, h9, hE, h1, h2 => by
    rw [l_X12_apartA, h9, if_neg (nI_nlt (by omega) (by omega)), nI_clamp (by omega)]
    obtain ⟨q1, q2⟩ := apA hT x m m' (j + 1) (fst1 W 303 j (nI j)) (by rw [fst1_ne (by decide)]; exact h9) (fun k hk => by
      by_cases e : k = j
      · rw [e, fst1_at]
      · rw [fst1_nj e]; exact hE k (by omega)) (by omega) (by omega)
    exact ⟨q1, fun a ha => (q2 a ha).trans (fst1_ne ha)⟩
  | 0, 0, _, _, _, _, _, h2 => by omega
  | m + 1, 0, _, _, _, _, _, h2 => by omega
theorem apI (hT : T ≤ 12) {l L : Nat} (hl : l < (f 2).toNatClampNeg) (hw : WF N f) (hL : wn' f l = L) {j : Nat} (hj : j < L) : ∀ (m m' k : Nat) (v : Int32) (W : fM), W 296 9 = nI T → W 297 = f → W 301 = s → 1 ≤ k → v = nI (lv s (wl f l) (k - 1) j) → (∀ q, q < k → W 303 q = nI (lv s (wl f l) q (j + 1))) → (∀ q, k ≤ q → q ≤ T → W 303 q = nI (lv s (wl f l) q j)) → k + m = T + 1 → m < m' →
    (∀ q, q ≤ T → (l_X12_apartI (nI l) (nI (j + 1)) W m' k v).2 303 q = nI (lv s (wl f l) q (j + 1))) ∧ ∀ a, a ≠ 303 → (l_X12_apartI (nI l) (nI (j + 1)) W m' k v).2 a = W a
  | 0, m' + 1, k, v, W, h9, hW, hs, hk, hv, hE, hE2, h1, h2 => by
    rw [l_X12_apartI, h9, if_pos (nI_lt (by omega) (by omega))]
    exact ⟨fun q hq => hE q (by omega), fun _ _ => rfl⟩
  | m + 1, m' + 1, k, v, W, h9, hW, hs, hk, hv, hE, hE2, h1, h2 => by
    obtain ⟨e1, e2, e3, e4⟩ := hw.lab hl
    have hl8 := hw.labs.2
    obtain ⟨k', rfl⟩ : ∃ k', k = k' + 1 := ⟨k - 1, by omega⟩
    rw [show k' + 1 - 1 = k' by omega] at hv
    have b1 := lv_le s (wl f l) k' j
    have b2 := lv_le s (wl f l) (k' + 1) j
    have b3 := lv_le s (wl f l) k' (j + 1)
    have hsg : r_X12_sign W (nI l) (nI (j + 1)) = wl f l j := by rw [m_sign hW (w := j + 1) (by omega) (by omega) _ rfl, wl, show 1 + j = j + 1 by omega]
    have hc : W 303 (k' + 1) = nI (lv s (wl f l) (k' + 1) j) := hE2 (k' + 1) (Nat.le_refl _) (by omega)
    have hp : W 303 k' = nI (lv s (wl f l) k' (j + 1)) := hE k' (by omega)
    rw [l_X12_apartI, h9, if_neg (nI_nlt (by omega) (by omega)), hsg, nI_pred, nI_clamp (by omega), nI_clamp (by omega), hs, hc]
    have step : ∀ st : Nat, (st = if s k' = wl f l j then 0 else 1) → (∀ q, q ≤ T → (l_X12_apartI (nI l) (nI (j + 1)) (fst1 W 303 (k' + 1) (nI (lv s (wl f l) (k' + 1) (j + 1)))) m' (k' + 1 + 1) (nI (lv s (wl f l) (k' + 1) j))).2 303 q = nI (lv s (wl f l) q (j + 1))) ∧ ∀ a, a ≠ 303 → (l_X12_apartI (nI l) (nI (j + 1)) (fst1 W 303 (k' + 1) (nI (lv s (wl f l) (k' + 1) (j + 1)))) m' (k' + 1 + 1) (nI (lv s (wl f l) (k' + 1) j))).2 a = W a := fun st hst => by
      obtain ⟨q1, q2⟩ := apI hT hl hw hL hj m m' (k' + 1 + 1) (nI (lv s (wl f l) (k' + 1) j)) (fst1 W 303 (k' + 1) (nI (lv s (wl f l) (k' + 1) (j + 1)))) (by rw [fst1_ne (by decide)]; exact h9) ((fst1_ne (by decide)).trans hW) ((fst1_ne (by decide)).trans hs) (by omega) (by rw [show k' + 1 + 1 - 1 = k' + 1 by omega]) (fun q hq => by
        by_cases e : q = k' + 1
        · rw [e, fst1_at]
        · rw [fst1_nj e]; exact hE q (by omega)) (fun q hq hq2 => by rw [fst1_nj (by omega)]; exact hE2 q (by omega) hq2) (by omega) (by omega)
      exact ⟨q1, fun a ha => (q2 a ha).trans (fst1_ne ha)⟩
    have lss := lv_ss s (wl f l) k' j
    by_cases e : wl f l j = s k'
    · have ha : a1_X12_apart W (k' + 1) v = fst1 W 303 (k' + 1) (nI (lv s (wl f l) (k' + 1) (j + 1))) := by
        rw [a1_X12_apart, nI_pred, nI_clamp (by omega), nI_clamp (by omega), hc, hp, hv, Int32.add_zero, least_nI (by omega) (by omega), nI_1, least_nI (by omega) (by omega), lss, if_pos e.symm]
        congr 2
        omega
      rw [if_pos e, ha]
      exact step 0 (by rw [if_pos e.symm])
    · have ha : a0_X12_apart W (k' + 1) v = fst1 W 303 (k' + 1) (nI (lv s (wl f l) (k' + 1) (j + 1))) := by
        rw [a0_X12_apart, nI_pred, nI_clamp (by omega), nI_clamp (by omega), hc, hp, hv, nI_1, least_nI (by omega) (by omega), nI_1, least_nI (by omega) (by omega), lss, if_neg (Ne.symm e)]
        congr 2
        omega
      rw [if_neg e, ha]
      exact step 1 (by rw [if_neg (Ne.symm e)])
  | 0, 0, _, _, _, _, _, _, _, _, _, _, _, h2 => by omega
  | m + 1, 0, _, _, _, _, _, _, _, _, _, _, _, h2 => by omega
theorem apO (hT : T ≤ 12) {l L : Nat} (hl : l < (f 2).toNatClampNeg) (hw : WF N f) (hL : wn' f l = L) : ∀ (m m' j : Nat) (W : fM), W 296 9 = nI T → W 297 = f → W 301 = s → (∀ q, q ≤ T → W 303 q = nI (lv s (wl f l) q j)) → j + m = L → m < m' →
    (∀ q, q ≤ T → (l_X12_apartO (nI l) W m' (j + 1)) 303 q = nI (lv s (wl f l) q L)) ∧ ∀ a, a ≠ 303 → (l_X12_apartO (nI l) W m' (j + 1)) a = W a
  | 0, m' + 1, j, W, h9, hW, hs, hE, h1, h2 => by
    obtain ⟨e1, e2, e3, e4⟩ := hw.lab hl
    have hl8 := hw.labs.2
    rw [l_X12_apartO, m_sign hW (w := 0) (by omega) (by omega) 0 rfl, Nat.add_zero, e1, hL, if_pos (nI_lt (by omega) (by omega))]
    exact ⟨fun q hq => by rw [hE q hq, show j = L by omega], fun _ _ => rfl⟩
  | m + 1, m' + 1, j, W, h9, hW, hs, hE, h1, h2 => by
    obtain ⟨e1, e2, e3, e4⟩ := hw.lab hl
    have hl8 := hw.labs.2
    rw [l_X12_apartO, m_sign hW (w := 0) (by omega) (by omega) 0 rfl, Nat.add_zero, e1, hL, if_neg (nI_nlt (by omega) (by omega)), a2_X12_apart, cl_0]
    obtain ⟨q1, q2⟩ := apI hT hl hw hL (j := j) (by omega) T 14 1 (W 303 0) (fst1 W 303 0 (nI (j + 1))) (by rw [fst1_ne (by decide)]; exact h9) ((fst1_ne (by decide)).trans hW) ((fst1_ne (by decide)).trans hs) (Nat.le_refl _) (hE 0 (by omega)) (fun q hq => by
      rw [show q = 0 by omega, fst1_at, lv_0]) (fun q hq hq2 => by rw [fst1_nj (by omega)]; exact hE q hq2) (by omega) (by omega)
    obtain ⟨r1, r2⟩ := apO hT hl hw hL m m' (j + 1) ((l_X12_apartI (nI l) (nI (j + 1)) (fst1 W 303 0 (nI (j + 1))) 14 1 (W 303 0)).2) (by rw [q2 296 (by decide), fst1_ne (by decide)]; exact h9) ((q2 297 (by decide)).trans ((fst1_ne (by decide)).trans hW)) ((q2 301 (by decide)).trans ((fst1_ne (by decide)).trans hs)) q1 (by omega) (by omega)
    exact ⟨r1, fun a ha => (r2 a ha).trans ((q2 a ha).trans (fst1_ne ha))⟩
  | 0, 0, _, _, _, _, _, _, _, h2 => by omega
  | m + 1, 0, _, _, _, _, _, _, _, h2 => by omega
theorem m_ap (h9 : W 296 9 = nI T) (hT : T ≤ 12) (hW : W 297 = f) (hs : W 301 = s) (hw : WF N f) {l : Nat} (hl : l < (f 2).toNatClampNeg) : r_X12_apart W (nI l) = nI (dst f s T l) ∧ ∀ a, a ≠ 303 → m_X12_apart W (nI l) a = W a := by
  obtain ⟨e1, e2, e3, e4⟩ := hw.lab hl
  obtain ⟨p1, p2⟩ := apA hT (nI l) (T + 1) 14 0 W h9 (fun k hk => by omega) (by omega) (by omega)
  obtain ⟨q1, q2⟩ := apO hT hl hw rfl (wn' f l) 8 0 (l_X12_apartA (nI l) W 14 0) (by rw [p2 296 (by decide)]; exact h9) ((p2 297 (by decide)).trans hW) ((p2 301 (by decide)).trans hs) (fun q hq => by rw [p1 q hq, lv_r0]) (by omega) (by omega)
  rw [r_X12_apart, m_X12_apart, q2 296 (by decide), p2 296 (by decide), h9, nI_clamp (by omega), q1 T (Nat.le_refl _)]
  exact ⟨rfl, fun a ha => (q2 a ha).trans (p2 a ha)⟩
theorem N_ap (h9 : W 296 9 = nI T) (hT : T ≤ 12) (hW : W 297 = f) (hw : WF N f) {l : Nat} (hl : l < (f 2).toNatClampNeg) : N_X12_apart W (nI l) := by
  obtain ⟨e1, e2, e3, e4⟩ := hw.lab hl
  have hl8 := hw.labs.2
  have lt9 : ∀ (V : fM) (j : Nat), V 296 9 = nI T → j ≤ 13 → ¬ (V 296 9 < nI j) → j ≤ T := fun V j hV _ h => by
    rw [hV] at h
    exact Nat.le_of_not_lt fun q => h (nI_lt q (by omega))
  have ltL : ∀ (V : fM) (j : Nat), V 297 = f → j ≤ 7 → ¬ (r_X12_sign V (nI l) 0 < nI j) → j ≤ wn' f l := fun V j hV _ h => by
    rw [m_sign hV (w := 0) (by omega) (by omega) 0 rfl, Nat.add_zero, e1] at h
    exact Nat.le_of_not_lt fun q => h (nI_lt q (by omega))
  have kA : ∀ (m j : Nat) (V : fM), ∀ a, a ≠ 303 → (l_X12_apartA (nI l) V m j) a = V a := by
    intro m
    induction m with
    | zero => intro j V a _; rfl
    | succ m ih =>
      intro j V a ha
      rw [l_X12_apartA]
      split
      · rfl
      · exact (ih _ _ a ha).trans (fst1_ne ha)
  have kI : ∀ (x : Int32) (m j : Nat) (v : Int32) (V : fM), ∀ a, a ≠ 303 → (l_X12_apartI (nI l) x V m j v).2 a = V a := by
    intro x m
    induction m with
    | zero => intro j v V a _; rfl
    | succ m ih =>
      intro j v V a ha
      rw [l_X12_apartI]
      split
      · rfl
      · split
        · exact (ih _ _ _ a ha).trans (fst1_ne ha)
        · exact (ih _ _ _ a ha).trans (fst1_ne ha)
  have k2 : ∀ (j : Nat) (V : fM), ∀ a, a ≠ 303 → a2_X12_apart V (nI l) j a = V a := fun j V a ha => (kI _ _ _ _ _ a ha).trans (fst1_ne ha)
  have kO : ∀ (m j : Nat) (V : fM), ∀ a, a ≠ 303 → (l_X12_apartO (nI l) V m j) a = V a := by
    intro m
    induction m with
    | zero => intro j V a _; rfl
    | succ m ih =>
      intro j V a ha
      rw [l_X12_apartO]
      split
      · rfl
      · exact (ih _ _ a ha).trans (k2 _ _ a ha)
  refine ⟨⟨fun _ V => V 296 9 = nI T, h9, fun j V h1 hV h2 => ?_, fun j V h1 hV h2 => (congrFun (fst1_ne (by decide)) 9).trans hV⟩, ⟨fun _ V => V 296 9 = nI T ∧ V 297 = f, ⟨by rw [kA _ _ _ 296 (by decide)]; exact h9, (kA _ _ _ 297 (by decide)).trans hW⟩, fun j V h1 hV => Nsign_nI (w := 0) (by omega) 0 rfl, fun j V h1 hV h2 => ?_, fun j V h1 hV h2 => ?_, fun j V h1 hV h2 => ⟨by rw [k2 _ _ 296 (by decide)]; exact hV.1, (k2 _ _ 297 (by decide)).trans hV.2⟩⟩, ?_⟩
  · have := lt9 V j hV h1 h2; omega
  · have := ltL V j hV.2 h1 h2; omega
  · have hjL := ltL V j hV.2 h1 h2
    refine ⟨fun k U _ => U 296 9 = nI T ∧ U 297 = f ∧ 1 ≤ k, ⟨by rw [fst1_ne (by decide)]; exact hV.1, (fst1_ne (by decide)).trans hV.2, Nat.le_refl _⟩, fun k U v k1 hU k3 => ?_, fun k U v k1 hU k3 => Nsign_nI (w := j) (by omega) _ rfl, fun k U v k1 hU k3 => ?_, fun k U v k1 hU k3 _ => ?_, fun k U v k1 hU k3 _ => ⟨(congrFun (fst1_ne (by decide)) 9).trans hU.1, (fst1_ne (by decide)).trans hU.2.1, by omega⟩, fun k U v k1 hU k3 _ => ?_, fun k U v k1 hU k3 _ => ⟨(congrFun (fst1_ne (by decide)) 9).trans hU.1, (fst1_ne (by decide)).trans hU.2.1, by omega⟩⟩
    · have := lt9 U k hU.1 k1 k3; omega
    · have := hU.2.2
      rw [show (1 : Int32) = nI 1 from rfl, pk_sub (by omega)]
      exact vp_in_nI (by omega) (by decide)
    · have := hU.2.2
      rw [show (1 : Int32) = nI 1 from rfl, pk_sub (by omega)]
      exact vp_in_nI (by omega) (by decide)
    · have := hU.2.2
      rw [show (1 : Int32) = nI 1 from rfl, pk_sub (by omega)]
      exact vp_in_nI (by omega) (by decide)
  · rw [kO _ _ _ 296 (by decide), kA _ _ _ 296 (by decide), h9]
    exact vp_in_nI (by omega) (by decide)
end DIS
