/-! ===== crates: the calls; isConsistent ===== -/
theorem Sm.fr {M M' : fM} (h : ∀ a, (mcell a ∨ a = 0 ∨ a = 273 ∨ a = 277 ∨ a = 296) → M' a = M a) : Sm M M' :=
  ⟨fun a ha => h a (Or.inl ha), ⟨by rw [h 0 (by omega)], by rw [h 0 (by omega)], by rw [h 0 (by omega)]⟩, ⟨by rw [h 273 (by omega)], by rw [h 277 (by omega)]⟩, by rw [h 296 (by omega)], by rw [h 296 (by omega)], by rw [h 296 (by omega)], by rw [h 296 (by omega)], by rw [h 296 (by omega)], by rw [h 296 (by omega)], by rw [h 296 (by omega)]⟩
theorem no_cap {a : Int32} (h : ¬ ∃ j, a = nI j ∧ 9 ≤ j ∧ j ≤ 40) (h0 : ¬ a < 9) : ¬ a ≤ 40 := fun h1 => by
  have h2 : ¬ a < 0 := fun q => h0 (Int32.lt_of_lt_of_le q (by decide))
  obtain ⟨j, hj, rfl⟩ := nI_of2 (M := 40) (n := 40) (by decide) h2 h1
  refine h ⟨j, rfl, Nat.le_of_not_lt fun q => h0 ?_, hj⟩
  exact nI_lt (b := 9) q (by omega)
section OPS2
variable {G : fG} {c : Nat} {M : fM} {dv : UInt64} {a b e f : Int32}
theorem q300l {N : Nat} {M : fM} {f : Nat → Int32} (h : SW N M 1 f) : sm (((1 : Int32) <<< ((M (1 + 11) 6) &&& 31)) - (1 : Int32)) 300 := by
  have hn := h.2.lots.2
  have h8 := pow_le8 hn
  have := Nat.two_pow_pos (f 3).toNatClampNeg
  rw [show M (1 + 11) 6 = f 3 from h.1.2.2.2.1.1, allL h.2]
  exact sm_nI (by omega) (by omega)
theorem m_caps {W : fM} (h : ¬ ∃ j, a = nI j ∧ 9 ≤ j ∧ j ≤ 40) : r_X12_in W a 9 40 = 0 := by
  rw [in_nI (lo := 9) (n := 40) 9 rfl 40 rfl (by decide) (by decide)]
  exact exd_neg h
theorem op_30 (hG : fOK G) (h : It c M) : Op_30 G It c M dv a b e f := by
  have hS := h.1
  have hc := c_X11_leastCrates hG (d := 40) (by decide) M dv a (fun _ _ => q300 hS) (fun _ _ => q300l hS)
  rw [o_X11_leastCrates] at hc
  by_cases hx : ∃ j, a = nI j ∧ 9 ≤ j ∧ j ≤ 40
  · obtain ⟨j, rfl, h1, h2⟩ := hx
    obtain ⟨e1, e2⟩ := c_dp hS h1 h2
    rw [if_neg (show ¬ nI j < (9 : Int32) from nI_nlt (b := 9) h1 (by omega)), if_pos (show nI j ≤ (40 : Int32) from nI_le (b := 40) h2 (by omega)), show (1 + 11 : Nat) = 12 from rfl, e1] at hc
    obtain ⟨m1, m2, m3, m4⟩ := m_dp (W := fst1 (m_X2_leastBySets M 12 (nI j)) 306 0 (nI (dpF (Jn (M 297)) (M 297 3).toNatClampNeg j (2 ^ (M 297 3).toNatClampNeg - 1)).1)) ((fst1_ne (by decide)).trans (e2 297 (by decide) (by decide))) hS.2 h1 h2
    have kc2 := c_X12_leastCrates hG (d := 60) (by decide) (fst1 (m_X2_leastBySets M 12 (nI j)) 306 0 (nI (dpF (Jn (M 297)) (M 297 3).toNatClampNeg j (2 ^ (M 297 3).toNatClampNeg - 1)).1)) dv (nI j) (N_dp ((fst1_ne (by decide)).trans (e2 297 (by decide) (by decide))) hS.2 _)
    rw [r_X12_leastCrates, m_X12_leastCrates, m1] at kc2
    have s1 : Sm M (m_X2_leastBySets M 12 (nI j)) := Sm.fr fun a ha => e2 a (by unfold mcell at ha; omega) (by unfold mcell at ha; omega)
    exact opi_mk h 0 _ _ _ ((s1.tr Sm.out306).tr m2) m3 (c_L_leastCrates hG (by decide) (by decide) (by decide) M dv _ hc 0 _ (Or.inl ⟨_, _, rfl, rfl, rfl⟩)) kc2 (fun _ => by rw [m4, fst1_at])
  · have hc' : fCt G z_X11_leastCrates 40 [.ref 0, .int a] (sS M dv) 1 6 (fO dv (.inr "java/lang/IllegalArgumentException", M)) := by
      by_cases h0 : a < 9
      · rw [if_pos h0] at hc; exact hc
      · rw [if_neg h0, if_neg (no_cap hx h0)] at hc; exact hc
    have em : m_X12_leastCrates M a = fst1 M 296 7 1 := by rw [m_X12_leastCrates, m_X12_crates, m_caps hx, if_pos rfl]
    have kc2 := c_X12_leastCrates hG (d := 60) (by decide) M dv a (N_dp rfl hS.2 _)
    rw [em] at kc2
    exact opi_mk h 1 _ _ _ Sm.code (fst1_at _ _ _ _) (c_L_leastCrates hG (by decide) (by decide) (by decide) M dv a hc' 1 _ (Or.inr ⟨_, rfl, rfl, rfl⟩)) kc2 (fun h => absurd h (by decide))
theorem op_31 (hG : fOK G) (h : It c M) : Op_31 G It c M dv a b e f := by
  have hS := h.1
  have hc := c_X11_leastCratesByTrial hG (d := 40) (by decide) M dv a
  rw [o_X11_leastCratesByTrial] at hc
  by_cases hx : ∃ j, a = nI j ∧ 9 ≤ j ∧ j ≤ 40
  · obtain ⟨j, rfl, h1, h2⟩ := hx
    obtain ⟨e1, e2⟩ := c_try hS h1 h2
    rw [if_neg (show ¬ nI j < (9 : Int32) from nI_nlt (b := 9) h1 (by omega)), if_pos (show nI j ≤ (40 : Int32) from nI_le (b := 40) h2 (by omega)), show (1 + 11 : Nat) = 12 from rfl, e1] at hc
    obtain ⟨m1, m2, m3, m4⟩ := m_dp (W := fst1 (m_X2_leastByTrial M 12 (nI j)) 306 0 (nI (dpF (Jn (M 297)) (M 297 3).toNatClampNeg j (2 ^ (M 297 3).toNatClampNeg - 1)).1)) ((fst1_ne (by decide)).trans (e2 297 (by decide))) hS.2 h1 h2
    have kc2 := c_X12_leastCratesByTrial hG (d := 60) (by decide) (fst1 (m_X2_leastByTrial M 12 (nI j)) 306 0 (nI (dpF (Jn (M 297)) (M 297 3).toNatClampNeg j (2 ^ (M 297 3).toNatClampNeg - 1)).1)) dv (nI j) (N_dp ((fst1_ne (by decide)).trans (e2 297 (by decide))) hS.2 _)
    rw [r_X12_leastCratesByTrial, m_X12_leastCratesByTrial, m1] at kc2
    have s1 : Sm M (m_X2_leastByTrial M 12 (nI j)) := Sm.fr fun a ha => e2 a (by unfold mcell at ha; omega)
    exact opi_mk h 0 _ _ _ ((s1.tr Sm.out306).tr m2) m3 (c_L_leastCratesByTrial hG (by decide) (by decide) (by decide) M dv _ hc 0 _ (Or.inl ⟨_, _, rfl, rfl, rfl⟩)) kc2 (fun _ => by rw [m4, fst1_at])
  · have hc' : fCt G z_X11_leastCratesByTrial 40 [.ref 0, .int a] (sS M dv) 1 6 (fO dv (.inr "java/lang/IllegalArgumentException", M)) := by
      by_cases h0 : a < 9
      · rw [if_pos h0] at hc; exact hc
      · rw [if_neg h0, if_neg (no_cap hx h0)] at hc; exact hc
    have em : m_X12_leastCratesByTrial M a = fst1 M 296 7 1 := by rw [m_X12_leastCratesByTrial, m_X12_crates, m_caps hx, if_pos rfl]
    have kc2 := c_X12_leastCratesByTrial hG (d := 60) (by decide) M dv a (N_dp rfl hS.2 _)
    rw [em] at kc2
    exact opi_mk h 1 _ _ _ Sm.code (fst1_at _ _ _ _) (c_L_leastCratesByTrial hG (by decide) (by decide) (by decide) M dv a hc' 1 _ (Or.inr ⟨_, rfl, rfl, rfl⟩)) kc2 (fun h => absurd h (by decide))
/-! isConsistent -/
theorem recAL {N : Nat} {M : fM} {f : Nat → Int32} (h : SW N M 1 f) : ∀ (m m' j : Nat), j + m = (f 0).toNatClampNeg → m < m' → l_X11_recallsAgree M m' j = 1
  | 0, m' + 1, j, h1, h2 => by
    have hr := h.2.raws
    rw [l_X11_recallsAgree, h.1.1.1, if_pos (by rw [hr.1]; exact nI_le (by omega) (by omega))]
  | m + 1, m' + 1, j, h1, h2 => by
    have hr := h.2.raws
    rw [l_X11_recallsAgree, h.1.1.1, if_neg (by rw [hr.1]; exact nI_ge (by omega) (by omega)), c_thr h (by omega), c_sets h, if_pos rfl]
    exact recAL h m m' (j + 1) (by omega) (by omega)
  | 0, 0, _, _, h2 => by omega
  | m + 1, 0, _, _, h2 => by omega
theorem popAL {N : Nat} {M : fM} {f : Nat → Int32} (h : SW N M 1 f) : ∀ (m m' j : Nat), j + m = (f 3).toNatClampNeg → m < m' → l_X11_popsAgree M m' j = 1
  | 0, m' + 1, j, h1, h2 => by
    rw [l_X11_popsAgree, show M (1 + 11) 6 = f 3 from h.1.2.2.2.1.1, if_pos (le3 h.2 (by omega))]
  | m + 1, m' + 1, j, h1, h2 => by
    rw [l_X11_popsAgree, show M (1 + 11) 6 = f 3 from h.1.2.2.2.1.1, if_neg (nle3 h.2 (by omega)), c_dayC h (by omega), c_dayD h (by omega), if_pos rfl]
    exact popAL h m m' (j + 1) (by omega) (by omega)
  | 0, 0, _, _, h2 => by omega
  | m + 1, 0, _, _, h2 => by omega
theorem craA {N : Nat} {M : fM} {f : Nat → Int32} (h : SW N M 1 f) {cap : Nat} (h1 : 9 ≤ cap) (h2 : cap ≤ 40) : r_X11_cratesAgree M (nI cap) = 1 ∧ ∀ a, a ≠ 291 → a ≠ 293 → a ≠ 295 → m_X11_cratesAgree M (nI cap) a = M a := by
  obtain ⟨e1, e2⟩ := c_dp h h1 h2
  have h' : SW N (m_X2_leastBySets M 12 (nI cap)) 1 f := h.ext fun a a1 a2 => e2 a (by omega) (by omega)
  obtain ⟨e3, e4⟩ := c_try h' h1 h2
  rw [r_X11_cratesAgree, m_X11_cratesAgree, show (1 + 11 : Nat) = 12 from rfl, e1, e3, if_pos rfl, if_pos rfl]
  exact ⟨rfl, fun a a1 a2 a3 => by rw [e4 a a3, e2 a a1 a2]⟩
theorem op_46 (hG : fOK G) (h : It c M) : Op_46 G It c M dv a b e f := by
  have hS := h.1
  have hr := hS.2.raws
  have hn := hS.2.lots
  have c1 : r_X11_recallsAgree M = 1 := by rw [r_X11_recallsAgree, recAL hS _ 301 0 (Nat.zero_add _) (by omega)]
  have c2 : r_X11_popsAgree M = 1 := by rw [r_X11_popsAgree, popAL hS _ 301 0 (Nat.zero_add _) (by omega)]
  obtain ⟨c3, f3⟩ := craA hS (cap := 9) (by omega) (by omega)
  have hS1 : SW (32 * c + 1) (m_X11_cratesAgree M (9 : Int32)) 1 (M 297) := hS.ext fun a a1 a2 => f3 a (by omega) (by omega) (by omega)
  obtain ⟨c4, f4⟩ := craA hS1 (cap := 20) (by omega) (by omega)
  have hS2 : SW (32 * c + 1) (m_X11_cratesAgree (m_X11_cratesAgree M (9 : Int32)) (20 : Int32)) 1 (M 297) := hS1.ext fun a a1 a2 => f4 a (by omega) (by omega) (by omega)
  have fr : ∀ a, a ≠ 291 → a ≠ 293 → a ≠ 295 → m_X11_cratesAgree (m_X11_cratesAgree M (9 : Int32)) (20 : Int32) a = M a := fun a a1 a2 a3 => (f4 a a1 a2 a3).trans (f3 a a1 a2 a3)
  obtain ⟨r, r1, -, r3, r4⟩ := best_same hS2 (W := M) rfl
  have c5 : r_J6_bitCount_0f7a4 (m_X11_cratesAgree (m_X11_cratesAgree M (9 : Int32)) (20 : Int32)) (r_X9_best (m_X11_cratesAgree (m_X11_cratesAgree M (9 : Int32)) (20 : Int32)) 1) = r_X9_fewestByBranching (m_X11_cratesAgree (m_X11_cratesAgree M (9 : Int32)) (20 : Int32)) 1 := by
    rw [r1, pc_J _ (by omega), br_same hS2 r3]
  have k1 := c_X11_isConsistent hG (d := 60) (by decide) M dv
    (fun j h1 h2 => by
      rw [hS.1.1.1, hr.1] at h2
      have : j < (M 297 0).toNatClampNeg := Nat.lt_of_not_le fun q => h2 (nI_le q (by omega))
      omega)
    (fun _ _ _ => q300b hS) (fun _ _ _ => q300 hS)
    (fun _ j h1 h2 => by
      rw [show M (1 + 11) 6 = M 297 3 from hS.1.2.2.2.1.1] at h2
      have := lt3 hS.2 (by omega) h2
      omega)
    (fun _ _ => q300 hS) (fun _ _ => q300l hS) (fun _ _ _ => q300 hS1) (fun _ _ _ => q300l hS1) (fun _ _ _ _ => q300 hS2) (fun _ _ _ _ => q300a hS2) (fun _ _ _ _ _ => q300 hS2)
  rw [r_X11_isConsistent, m_X11_isConsistent, c1, c2] at k1
  rw [show r_X11_cratesAgree M (9 : Int32) = 1 from c3, show r_X11_cratesAgree (m_X11_cratesAgree M (9 : Int32)) (20 : Int32) = 1 from c4] at k1
  rw [if_neg z_n1, if_neg z_n1, if_neg z_n1, if_neg z_n1, if_pos c5, if_neg z_n1, if_neg z_n1, if_neg z_n1, if_neg z_n1, if_pos c5, ite_self] at k1
  have hW : (m_X11_cratesAgree (m_X11_cratesAgree M (9 : Int32)) (20 : Int32)) 297 = M 297 := fr 297 (by decide) (by decide) (by decide)
  have k2 := c_X12_isConsistent hG (d := 60) (by decide) (m_X11_cratesAgree (m_X11_cratesAgree M (9 : Int32)) (20 : Int32)) dv (N_sJ (w7.trans hW) hS.2)
  have em : m_X12_isConsistent (m_X11_cratesAgree (m_X11_cratesAgree M (9 : Int32)) (20 : Int32)) = fst1 (m_X11_cratesAgree (m_X11_cratesAgree M (9 : Int32)) (20 : Int32)) 296 7 0 := by rw [m_X12_isConsistent, ite_self]
  have er : r_X12_isConsistent (m_X11_cratesAgree (m_X11_cratesAgree M (9 : Int32)) (20 : Int32)) = (if r_X11_accountsAgree (m_X11_cratesAgree (m_X11_cratesAgree M (9 : Int32)) (20 : Int32)) = 0 then 0 else 1) := by
    have g1 : m_X11_cratesAgree (m_X11_cratesAgree M (9 : Int32)) (20 : Int32) 1 = M 1 := fr 1 (by decide) (by decide) (by decide)
    obtain ⟨-, -, -, -, -, -, a4, a5, a6, a7⟩ := hS.1
    rw [r_X12_isConsistent, m_sJ (w7.trans hW) hS.2, w7, hW, cl_7, cl_8, cl_9, cl_10, r_X11_accountsAgree, c_sJ hS2, g1, a4, a5, a6, a7]
    have as : sJ (M 297) + M 297 8 + M 297 9 + M 297 10 = sJ (M 297) + (M 297 8 + M 297 9 + M 297 10) := by rw [Int32.add_assoc, Int32.add_assoc, Int32.add_assoc]
    rw [as]
    by_cases q : M 297 7 = sJ (M 297) + (M 297 8 + M 297 9 + M 297 10)
    · rw [if_pos q, if_neg z_n1]
    · rw [if_neg q, if_pos rfl]
  rw [er, em] at k2
  exact ⟨_, _, _, k1, k2, h.up.sm ((Sm.fr fun a ha => fr a (by unfold mcell at ha; omega) (by unfold mcell at ha; omega) (by unfold mcell at ha; omega)).tr Sm.code)⟩
end OPS2
