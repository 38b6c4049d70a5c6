/-! ===== calls on texts ===== -/
theorem It_text {c : Nat} {M M' : fM} (h : It c M) (hf : ∀ a, a ≠ 267 → a ≠ 269 → a ≠ 301 → a ≠ 296 → a ≠ 306 → M' a = M a) (h6 : ∀ j, j ≠ 7 → j ≠ 9 → M' 296 j = M 296 j) (hT : ItT M') : It c M' := by
  obtain ⟨h1, h2, h3, h4, h5, h7, h8⟩ := h
  refine ⟨?_, h2.ext (fun q q1 q2 => hf q (by omega) (by omega) (by omega) (by omega) (by omega)) (hf 298 (by decide) (by decide) (by decide) (by decide) (by decide)) (h6 5 (by decide) (by decide)), h3.ext (fun q q1 q2 => hf q (by omega) (by omega) (by omega) (by omega) (by omega)) (hf 299 (by decide) (by decide) (by decide) (by decide) (by decide)) (congrFun (hf 0 (by decide) (by decide) (by decide) (by decide) (by decide)) 10) (h6 4 (by decide) (by decide)), hT, h5.ext (hf 270 (by decide) (by decide) (by decide) (by decide) (by decide)) (hf 272 (by decide) (by decide) (by decide) (by decide) (by decide)) (hf 302 (by decide) (by decide) (by decide) (by decide) (by decide)) (h6 13 (by decide) (by decide)), h7.ext (congrFun (hf 0 (by decide) (by decide) (by decide) (by decide) (by decide)) 11) (congrFun (hf 0 (by decide) (by decide) (by decide) (by decide) (by decide)) 12) (h6 10 (by decide) (by decide)) (h6 11 (by decide) (by decide)), h8.ext (h6 6 (by decide) (by decide)) (congrFun (hf 273 (by decide) (by decide) (by decide) (by decide) (by decide)) 0) (congrFun (hf 277 (by decide) (by decide) (by decide) (by decide) (by decide)) 0)⟩
  rw [hf 297 (by decide) (by decide) (by decide) (by decide) (by decide)]
  exact h1.ext fun q q1 q2 => hf q (by omega) (by omega) (by omega) (by omega) (by omega)
section OPS3
variable {G : fG} {c : Nat} {M : fM} {dv : UInt64} {a b e f : Int32}
theorem op_48 (hG : fOK G) (h : It c M) : Op_48 G It c M dv a b e f := by
  obtain ⟨t1, t2, t3, t4⟩ := h.2.2.2.1
  have k1 := c_X11_clearText hG (d := 60) (by decide) M dv
  have k2 := c_X12_clearText hG (d := 60) (by decide) (m_X11_clearText M) dv
  have er : r_X12_clearText (m_X11_clearText M) = r_X11_clearText M := by
    rw [r_X12_clearText, r_X11_clearText, m_X11_clearText, m_X10_clear, fst1_nj (by decide), fst1_ne (by decide), t2]
  rw [er] at k2
  refine ⟨_, _, _, k1, k2, It_text h.up (fun q q1 q2 q3 q4 q5 => ?_) (fun j j1 j2 => ?_) ⟨?_, ?_, ?_, fun i hi => ?_⟩⟩
  · rw [m_X12_clearText, m_X11_clearText, m_X10_clear, fst1_ne q4, fst1_ne q4, fst1_ne q1]
  · rw [m_X12_clearText, m_X11_clearText, m_X10_clear, fst1_nj j2, fst1_nj j1, fst1_ne (by decide)]
  · rw [m_X12_clearText, m_X11_clearText, m_X10_clear, fst1_ne (by decide), fst1_ne (by decide), fst1_nj (by decide)]; exact t1
  · rw [m_X12_clearText, m_X11_clearText, m_X10_clear, fst1_at, fst1_ne (by decide), fst1_ne (by decide), fst1_at]
  · rw [m_X12_clearText, fst1_at]; exact sm_nI (n := 0) (by decide) (by decide)
  · rw [m_X12_clearText, fst1_at, cl_0] at hi; omega
theorem op_47 (hG : fOK G) (h : It c M) : Op_47 G It c M dv a b e f := by
  obtain ⟨t1, t2, t3, t4⟩ := id h.2.2.2.1
  have l3 := t3.2
  have hx : i2c a = nI (a.toBitVec.toNat % 65536) := pk_char a
  have hq : a.toBitVec.toNat % 65536 < 65536 := Nat.mod_lt _ (by decide)
  show OPi G (It (c + 1)) z_L_type z_X12_type M dv [.int (i2c a)]
  rw [hx]
  generalize a.toBitVec.toNat % 65536 = x at hq
  have hc := c_X11_type hG (d := 40) (by decide) M dv (nI x)
  rw [o_X11_type, t2] at hc
  have hN : ∀ W : fM, W 296 9 = M 296 9 → N_X12_type W (nI x) := fun W hW _ h60 => by
    rw [hW] at h60
    rw [fst1_nj (by decide), hW, t3.1]
    refine vp_in_nI ?_ (by decide)
    have : (M 296 9).toNatClampNeg ≠ 60 := fun q => h60 (by rw [t3.1, q]; rfl)
    omega
  by_cases hr : ∃ k, nI x = nI k ∧ 32 ≤ k ∧ k ≤ 126
  · obtain ⟨k, e0, k1, k2⟩ := id hr
    have ek : x = k := (nI_eq (by omega) (by omega)).mp e0
    subst ek
    have hin : ∀ W : fM, r_X12_in W (nI x) 32 126 = 1 := fun W => by
      rw [in_nI (lo := 32) (n := 126) 32 rfl 126 rfl (by decide) (by decide)]
      exact exd_pos hr
    rw [if_neg (show ¬ nI x < (32 : Int32) from nI_nlt (b := 32) k1 (by omega)), if_pos (show nI x ≤ (126 : Int32) from nI_le (b := 126) k2 (by omega))] at hc
    by_cases hl : (M 296 9).toNatClampNeg < 60
    · have hlt : M 296 9 < (60 : Int32) := by rw [t3.1]; exact nI_lt (b := 60) hl (by omega)
      have h60 : ¬ M 296 9 = (60 : Int32) := fun q => by
        have : (M 296 9).toNatClampNeg = 60 := by rw [q]; rfl
        omega
      have ea : m_X10_add M 267 60 (nI x) = fst1 (fst1 M 269 (M 296 9).toNatClampNeg (nI x)) 267 2 (nI ((M 296 9).toNatClampNeg + 1)) := add_eq t1 (t2.trans t3.1) hl (Nat.le_refl _) (by decide)
      rw [if_pos hlt, ea, fst1_at] at hc
      generalize hV : fst1 (fst1 (fst1 M 269 (M 296 9).toNatClampNeg (nI x)) 267 2 (nI ((M 296 9).toNatClampNeg + 1))) 306 0 (nI ((M 296 9).toNatClampNeg + 1)) = V
      have v9 : V 296 = M 296 := by rw [← hV, fst1_ne (by decide), fst1_ne (by decide), fst1_ne (by decide)]
      have e2 : a0_X12_type V (nI x) = fst1 (fst1 (fst1 V 296 7 0) 301 (M 296 9).toNatClampNeg (nI x)) 296 9 (nI ((M 296 9).toNatClampNeg + 1)) := by
        rw [a0_X12_type, fst1_nj (by decide), v9, fst1_ne (show 296 ≠ 301 by decide), fst1_nj (by decide), v9]
        have e3 : M 296 9 + 1 = nI ((M 296 9).toNatClampNeg + 1) := by rw [← nI_1, ← t3.1]
        rw [e3]
      have kc2 := c_X12_type hG (d := 60) (by decide) V dv (nI x) (hN V (by rw [v9]))
      rw [r_X12_type, m_X12_type, hin, if_neg z_n1, if_neg z_n1, v9, if_neg h60, if_neg h60, e2, fst1_at] at kc2
      refine ⟨0, _, V, _, by rw [← hV]; exact c_L_type hG (by decide) (by decide) (by decide) M dv _ hc 0 _ (Or.inl ⟨_, _, rfl, rfl, rfl⟩), kc2, ?_, fun _ => ?_, ?_⟩
      · rw [fst1_nj (by decide), fst1_ne (by decide), fst1_at]
      · rw [fst1_ne (by decide), fst1_ne (by decide), fst1_ne (by decide), ← hV, fst1_at]
      · refine It_text h.up (fun q q1 q2 q3 q4 q5 => ?_) (fun j j1 j2 => ?_) ⟨?_, ?_, ?_, fun i hi => ?_⟩
        · rw [fst1_ne q4, fst1_ne q3, fst1_ne q4, ← hV, fst1_ne q5, fst1_ne q1, fst1_ne q2]
        · rw [fst1_nj j2, fst1_ne (by decide), fst1_nj j1, v9]
        · rw [fst1_ne (by decide), fst1_ne (by decide), fst1_ne (by decide), ← hV, fst1_ne (by decide), fst1_nj (by decide), fst1_ne (by decide)]; exact t1
        · rw [fst1_at, fst1_ne (by decide), fst1_ne (by decide), fst1_ne (by decide), ← hV, fst1_ne (by decide), fst1_at]
        · rw [fst1_at]; exact sm_nI (by omega) (by decide)
        · rw [fst1_at, nI_clamp (by omega)] at hi
          rw [fst1_ne (show 269 ≠ 296 by decide), fst1_ne (show 269 ≠ 301 by decide), fst1_ne (show 269 ≠ 296 by decide), fst1_ne (show 301 ≠ 296 by decide), ← hV, fst1_ne (show 269 ≠ 306 by decide), fst1_ne (show 269 ≠ 267 by decide)]
          by_cases ei : i = (M 296 9).toNatClampNeg
          · rw [ei, fst1_at, fst1_at]
            exact ⟨rfl, sm_nI (by omega) (by omega), by rw [nI_clamp (by omega)]; exact k1⟩
          · rw [fst1_nj ei, fst1_nj ei, fst1_ne (show 301 ≠ 296 by decide), fst1_ne (show 301 ≠ 306 by decide), fst1_ne (show 301 ≠ 267 by decide), fst1_ne (show 301 ≠ 269 by decide)]
            exact t4 i (by omega)
    · have e60 : (M 296 9).toNatClampNeg = 60 := by omega
      have h60 : M 296 9 = (60 : Int32) := by rw [t3.1, e60]; rfl
      rw [h60, if_neg (by decide)] at hc
      have kc2 := c_X12_type hG (d := 60) (by decide) M dv (nI x) (hN M rfl)
      have em : m_X12_type M (nI x) = fst1 M 296 7 2 := by rw [m_X12_type, hin, if_neg z_n1, if_pos h60]
      rw [em] at kc2
      exact opi_mk h 2 _ _ _ Sm.code (fst1_at _ _ _ _) (c_L_type hG (by decide) (by decide) (by decide) M dv _ hc 2 _ (Or.inr (Or.inr ⟨_, rfl, rfl, rfl⟩))) kc2 (fun h => absurd h (by decide))
  · have hc' : fCt G z_X11_type 40 [.ref 0, .int (nI x)] (sS M dv) 1 6 (fO dv (.inr "java/lang/IllegalArgumentException", M)) := by
      by_cases h0 : nI x < 32
      · rw [if_pos h0] at hc; exact hc
      · have h1 : ¬ nI x ≤ 126 := fun q => hr ⟨x, rfl, Nat.le_of_not_lt fun r => h0 (nI_lt (b := 32) r (by omega)), (nI_leI (b := 126) (by omega) (by omega)).mp q⟩
        rw [if_neg h0, if_neg h1] at hc; exact hc
    have kc2 := c_X12_type hG (d := 60) (by decide) M dv (nI x) (hN M rfl)
    have em : m_X12_type M (nI x) = fst1 M 296 7 1 := by
      rw [m_X12_type, in_nI (lo := 32) (n := 126) 32 rfl 126 rfl (by decide) (by decide), exd_neg hr, if_pos rfl]
    rw [em] at kc2
    exact opi_mk h 1 _ _ _ Sm.code (fst1_at _ _ _ _) (c_L_type hG (by decide) (by decide) (by decide) M dv _ hc' 1 _ (Or.inr (Or.inl ⟨_, rfl, rfl, rfl⟩))) kc2 (fun h => absurd h (by decide))
/-! distances -/
theorem lab_ex {N : Nat} {M : fM} {f : Nat → Int32} (h : SW N M 1 f) {x : Int32} (hx : ¬ r_X6_has M (1 + 6) x = 0) : ∃ l, x = nI l ∧ l < (f 2).toNatClampNeg := by
  by_cases q : ∃ l, x = nI l ∧ l < (f 2).toNatClampNeg
  · exact q
  · exact absurd (by rw [c_lab h, exd_neg q]) hx
theorem tk300 {N : Nat} {M : fM} {f : Nat → Int32} (h : SW N M 1 f) {l : Nat} (hl : l < (f 2).toNatClampNeg) : sm (rget (m_X10_clear M 273 6) ((1 + 6) + 1) 8 (nI l)) 300 := by
  have h' : SW N (m_X10_clear M 273 6) 1 f := h.ext fun a a1 a2 => fst1_ne (by omega)
  rw [show rget (m_X10_clear M 273 6) ((1 + 6) + 1) 8 (nI l) = f (23 + 7 * l) from c_lens h' hl]
  obtain ⟨e1, e2, e3, e4⟩ := h.2.lab hl
  rw [e1]
  exact sm_nI (by omega) (by decide)
theorem tk300b {N : Nat} {M : fM} {f : Nat → Int32} (hT : ItT M) (h : SW N M 1 f) (h0 : M 273 0 = nI 6) {l : Nat} (hl : l < (f 2).toNatClampNeg) : sm ((m_X11_takeWord M (nI l)) 267 2) 300 ∧ sm ((m_X11_takeWord M (nI l)) 273 2) 300 := by
  obtain ⟨t1, t2, t3⟩ := tkw h h0 hl
  obtain ⟨e1, e2, e3, e4⟩ := h.2.lab hl
  rw [t3 267 (by decide) (by decide), t1.1, ltF_len, hT.2.1]
  exact ⟨hT.2.2.1.mono (by decide), sm_nI (by omega) (by decide)⟩
theorem t300 {M : fM} (hT : ItT M) : sm (M 267 2) 300 := by rw [hT.2.1]; exact hT.2.2.1.mono (by decide)
theorem m_dst {N T l : Nat} {W : fM} {f s : Nat → Int32} (h9 : W 296 9 = nI T) (hT : T ≤ 12) (hW : W 297 = f) (hs : W 301 = s) (hw : WF N f) (hl : l < (f 2).toNatClampNeg) (hp : ltP s T 12) : r_X12_distance W (nI l) = nI (dst f s T l) ∧ m_X12_distance W (nI l) 296 7 = 0 ∧ m_X12_distance W (nI l) 306 = W 306 ∧ Sm W (m_X12_distance W (nI l)) ∧ N_X12_distance W (nI l) := by
  have g9 : (fst1 W 296 7 (0 : Int32)) 296 9 = nI T := (fst1_nj (by decide)).trans h9
  obtain ⟨a1, a2⟩ := m_ap (W := fst1 W 296 7 0) g9 hT (w7.trans hW) ((fst1_ne (by decide)).trans hs) hw hl
  have hwr : r_X12_isWritten W (12 : Int32) = 1 := by
    rw [show (12 : Int32) = nI 12 from rfl, m_wr h9 (by omega) (by decide), hs]
    exact exd_pos hp
  rw [r_X12_distance, m_X12_distance, m_lab hW hw, exd_pos ⟨l, rfl, hl⟩, if_neg z_n1, if_neg z_n1, hwr, if_neg z_n1, if_neg z_n1]
  refine ⟨a1, by rw [a2 296 (by decide), fst1_at], by rw [a2 306 (by decide), fst1_ne (by decide)], Sm.code.tr (Sm.fr fun a ha => a2 a (by unfold mcell at ha; omega)), fun _ => N_wr h9 (by omega) _, fun _ _ => N_ap g9 hT (w7.trans hW) hw hl⟩
theorem op_12 (hG : fOK G) (h : It c M) : Op_12 G It c M dv a b e f := by
  have hS := h.1
  have hT := h.2.2.2.1
  have h0 := h.2.2.2.2.2.2.2.1
  have t3 := hT.2.2.1
  have kc := c_lab hS a
  have kw := c_wr hT (q := 12) (by decide)
  have hc := c_X11_distanceTo hG (d := 40) (by decide) M dv a (fun _ => t300 hT)
    (fun q _ => by obtain ⟨l, rfl, hl⟩ := lab_ex hS q; exact tk300 hS hl)
    (fun q _ => by obtain ⟨l, rfl, hl⟩ := lab_ex hS q; exact (tk300b hT hS h0 hl).1)
    (fun q _ => by obtain ⟨l, rfl, hl⟩ := lab_ex hS q; exact (tk300b hT hS h0 hl).2)
  rw [o_X11_distanceTo] at hc
  by_cases hx : ∃ i, a = nI i ∧ i < (M 297 2).toNatClampNeg
  · rw [exd_pos hx] at kc
    rw [kc, if_neg z_n1, show (12 : Int32) = nI 12 from rfl, kw] at hc
    obtain ⟨l, rfl, hl⟩ := id hx
    by_cases hp : ltP (M 301) (M 296 9).toNatClampNeg 12
    · obtain ⟨d1, d2, d3⟩ := c_tab hT hS h0 hp.2.1 hl
      rw [exd_pos hp, if_neg z_n1, d1] at hc
      generalize hV : fst1 (m_X11_tableDistance M (nI l)) 306 0 (nI (dst (M 297) (M 301) (M 296 9).toNatClampNeg l)) = V
      have vf : ∀ a, a ≠ 273 → a ≠ 275 → a ≠ 286 → a ≠ 306 → V a = M a := fun a a1 a2 a3 a4 => by rw [← hV, fst1_ne a4, d3 a a1 a2 a3]
      obtain ⟨m1, m2, m3, m4, m5⟩ := m_dst (W := V) (T := (M 296 9).toNatClampNeg) (l := l) (by rw [vf 296 (by decide) (by decide) (by decide) (by decide)]; exact t3.1) hp.2.1 (vf 297 (by decide) (by decide) (by decide) (by decide)) (vf 301 (by decide) (by decide) (by decide) (by decide)) hS.2 hl hp
      have kc2 := c_X12_distanceTo hG (d := 60) (by decide) V dv (nI l) m5
      rw [r_X12_distanceTo, m_X12_distanceTo, m1] at kc2
      have s1 : Sm M (m_X11_tableDistance M (nI l)) := ⟨fun a ha => d3 a (by unfold mcell at ha; omega) (by unfold mcell at ha; omega) (by unfold mcell at ha; omega), by rw [d3 0 (by decide) (by decide) (by decide)]; exact ⟨rfl, rfl, rfl⟩, ⟨d2.trans h0.symm, by rw [d3 277 (by decide) (by decide) (by decide)]⟩, by rw [d3 296 (by decide) (by decide) (by decide)]; exact ⟨rfl, rfl, rfl, rfl, rfl, rfl, rfl⟩⟩
      have s2 : Sm M V := by rw [← hV]; exact s1.tr Sm.out306
      exact opi_mk h 0 _ V _ (s2.tr m4) m2 (by rw [← hV]; exact c_L_distanceTo hG (by decide) (by decide) (by decide) M dv _ hc 0 _ (Or.inl ⟨_, _, rfl, rfl, rfl⟩)) kc2 (fun _ => by rw [m3, ← hV, fst1_at])
    · rw [exd_neg hp, if_pos rfl] at hc
      have hwr : r_X12_isWritten M (12 : Int32) = 0 := by rw [show (12 : Int32) = nI 12 from rfl, m_wr t3.1 (by have := t3.2; omega) (by decide), exd_neg hp]
      have kc2 := c_X12_distanceTo hG (d := 60) (by decide) M dv (nI l) ⟨fun _ => N_wr t3.1 (by have := t3.2; omega) _, fun _ q => absurd hwr q⟩
      have em : m_X12_distanceTo M (nI l) = fst1 M 296 7 2 := by rw [m_X12_distanceTo, m_X12_distance, m_lab w0 hS.2, exd_pos hx, if_neg z_n1, hwr, if_pos rfl]
      rw [em] at kc2
      exact opi_mk h 2 _ _ _ Sm.code (fst1_at _ _ _ _) (c_L_distanceTo hG (by decide) (by decide) (by decide) M dv _ hc 2 _ (Or.inr (Or.inr ⟨_, rfl, rfl, rfl⟩))) kc2 (fun h => absurd h (by decide))
  · rw [exd_neg hx] at kc
    rw [kc, if_pos rfl] at hc
    have hz : r_X12_isLabel M a = 0 := by rw [m_lab w0 hS.2, exd_neg hx]
    have kc2 := c_X12_distanceTo hG (d := 60) (by decide) M dv a ⟨fun q => absurd hz q, fun q => absurd hz q⟩
    have em : m_X12_distanceTo M a = fst1 M 296 7 1 := by rw [m_X12_distanceTo, m_X12_distance, hz, if_pos rfl]
    rw [em] at kc2
    exact opi_mk h 1 _ _ _ Sm.code (fst1_at _ _ _ _) (c_L_distanceTo hG (by decide) (by decide) (by decide) M dv _ hc 1 _ (Or.inr (Or.inl ⟨_, rfl, rfl, rfl⟩))) kc2 (fun h => absurd h (by decide))
theorem op_13 (hG : fOK G) (h : It c M) : Op_13 G It c M dv a b e f := by
  have hS := h.1
  have hT := h.2.2.2.1
  have h0 := h.2.2.2.2.2.2.2.1
  have t3 := hT.2.2.1
  have kc := c_lab hS a
  have kw := c_wr hT (q := 12) (by decide)
  have hc := c_X11_distanceByLetters hG (d := 40) (by decide) M dv a (fun _ => t300 hT)
    (fun q _ => by obtain ⟨l, rfl, hl⟩ := lab_ex hS q; exact tk300 hS hl)
  rw [o_X11_distanceByLetters] at hc
  by_cases hx : ∃ i, a = nI i ∧ i < (M 297 2).toNatClampNeg
  · rw [exd_pos hx] at kc
    rw [kc, if_neg z_n1, show (12 : Int32) = nI 12 from rfl, kw] at hc
    obtain ⟨l, rfl, hl⟩ := id hx
    by_cases hp : ltP (M 301) (M 296 9).toNatClampNeg 12
    · obtain ⟨d1, d2, d3⟩ := c_lets hT hS h0 hp.2.1 hl
      rw [exd_pos hp, if_neg z_n1, d1] at hc
      generalize hV : fst1 (m_X3_byLetters (m_X11_takeWord M (nI l)) 267 60 273 6) 306 0 (nI (dst (M 297) (M 301) (M 296 9).toNatClampNeg l)) = V
      have vf : ∀ a, a ≠ 273 → a ≠ 275 → a ≠ 288 → a ≠ 306 → V a = M a := fun a a1 a2 a3 a4 => by rw [← hV, fst1_ne a4, d3 a a1 a2 a3]
      obtain ⟨m1, m2, m3, m4, m5⟩ := m_dst (W := V) (T := (M 296 9).toNatClampNeg) (l := l) (by rw [vf 296 (by decide) (by decide) (by decide) (by decide)]; exact t3.1) hp.2.1 (vf 297 (by decide) (by decide) (by decide) (by decide)) (vf 301 (by decide) (by decide) (by decide) (by decide)) hS.2 hl hp
      have kc2 := c_X12_distanceByLetters hG (d := 60) (by decide) V dv (nI l) m5
      rw [r_X12_distanceByLetters, m_X12_distanceByLetters, m1] at kc2
      have s1 : Sm M (m_X3_byLetters (m_X11_takeWord M (nI l)) 267 60 273 6) := ⟨fun a ha => d3 a (by unfold mcell at ha; omega) (by unfold mcell at ha; omega) (by unfold mcell at ha; omega), by rw [d3 0 (by decide) (by decide) (by decide)]; exact ⟨rfl, rfl, rfl⟩, ⟨d2.trans h0.symm, by rw [d3 277 (by decide) (by decide) (by decide)]⟩, by rw [d3 296 (by decide) (by decide) (by decide)]; exact ⟨rfl, rfl, rfl, rfl, rfl, rfl, rfl⟩⟩
      have s2 : Sm M V := by rw [← hV]; exact s1.tr Sm.out306
      exact opi_mk h 0 _ V _ (s2.tr m4) m2 (by rw [← hV]; exact c_L_distanceByLetters hG (by decide) (by decide) (by decide) M dv _ hc 0 _ (Or.inl ⟨_, _, rfl, rfl, rfl⟩)) kc2 (fun _ => by rw [m3, ← hV, fst1_at])
    · rw [exd_neg hp, if_pos rfl] at hc
      have hwr : r_X12_isWritten M (12 : Int32) = 0 := by rw [show (12 : Int32) = nI 12 from rfl, m_wr t3.1 (by have := t3.2; omega) (by decide), exd_neg hp]
      have kc2 := c_X12_distanceByLetters hG (d := 60) (by decide) M dv (nI l) ⟨fun _ => N_wr t3.1 (by have := t3.2; omega) _, fun _ q => absurd hwr q⟩
      have em : m_X12_distanceByLetters M (nI l) = fst1 M 296 7 2 := by rw [m_X12_distanceByLetters, m_X12_distance, m_lab w0 hS.2, exd_pos hx, if_neg z_n1, hwr, if_pos rfl]
      rw [em] at kc2
      exact opi_mk h 2 _ _ _ Sm.code (fst1_at _ _ _ _) (c_L_distanceByLetters hG (by decide) (by decide) (by decide) M dv _ hc 2 _ (Or.inr (Or.inr ⟨_, rfl, rfl, rfl⟩))) kc2 (fun h => absurd h (by decide))
  · rw [exd_neg hx] at kc
    rw [kc, if_pos rfl] at hc
    have hz : r_X12_isLabel M a = 0 := by rw [m_lab w0 hS.2, exd_neg hx]
    have kc2 := c_X12_distanceByLetters hG (d := 60) (by decide) M dv a ⟨fun q => absurd hz q, fun q => absurd hz q⟩
    have em : m_X12_distanceByLetters M a = fst1 M 296 7 1 := by rw [m_X12_distanceByLetters, m_X12_distance, hz, if_pos rfl]
    rw [em] at kc2
    exact opi_mk h 1 _ _ _ Sm.code (fst1_at _ _ _ _) (c_L_distanceByLetters hG (by decide) (by decide) (by decide) M dv _ hc 1 _ (Or.inr (Or.inl ⟨_, rfl, rfl, rfl⟩))) kc2 (fun h => absurd h (by decide))
end OPS3
