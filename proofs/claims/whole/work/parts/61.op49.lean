/-! ===== execute, put together ===== -/
theorem It_exec {N N' : Nat} {M F : fM} (h : It0 N M) (hN : N ≤ N') (a1 : SW N' F 1 (F 297)) (a2 : ItH N' F) (a3 : ∀ a, 49 ≤ a → a < 73 → F a = M a) (a4 : ∀ a, a = 270 ∨ a = 272 ∨ a = 299 ∨ a = 302 → F a = M a) (a5 : F 0 10 = M 0 10) (a6 : ∀ b, b = 4 ∨ b = 13 → F 296 b = M 296 b) (a7 : F 267 0 = nI 60) (a8 : F 267 2 = 0) (a9 : F 296 9 = 0) (b1 : ItE F) (b2 : F 296 6 = 0) (b3 : F 273 0 = M 273 0) (b4 : F 277 0 = nI 60) : It0 N' F := by
  obtain ⟨-, -, hs, -, hl, -, hz⟩ := h
  refine ⟨a1, a2, (hs.ext a3 (a4 299 (by omega)) a5 (a6 4 (by omega))).mono hN, ⟨a7, a8.trans a9.symm, by rw [a9]; exact sm_nI (n := 0) (by decide) (by decide), fun i hi => ?_⟩, hl.ext (a4 270 (by omega)) (a4 272 (by omega)) (a4 302 (by omega)) (a6 13 (by omega)), b1, b2, b3.trans hz.2.1, b4⟩
  rw [a9, cl_0] at hi
  omega
theorem rd_of {c : Nat} {M W : fM} (h : It c M) (w6 : W 296 = M 296) (w1 : W 301 = M 301) : ∃ p, p ≤ (M 296 9).toNatClampNeg ∧ m_X1_read M 267 276 5 = nI p ∧ m_X12_isText W 296 16 = nI p ∧ (∀ q, q ≠ 276 → q ≠ 277 → q ≠ 279 → q ≠ 281 → q ≠ 283 → m_X1_read M 267 q = M q) ∧ m_X1_read M 267 277 0 = nI 60 ∧ FM3 W (m_X12_isText W) ∧ ((r_X1_read M 267 = 0 ∧ r_X12_isText W = 0) ∨ (r_X1_read M 267 = 1 ∧ r_X12_isText W = 1 ∧ ∃ n, n ≤ 16 ∧ m_X1_read M 267 276 3 = nI n ∧ m_X12_isText W 296 18 = nI n ∧ ∀ c, c < n → CC (m_X1_read M 267) (m_X12_isText W) c)) := by
  have hT := h.2.2.2.1
  obtain ⟨t1, t2, t3, t4⟩ := id hT
  exact both_read (okT_of hT) h.2.2.2.2.2.2.2.2 (t2.trans t3.1) (fun q hq => (t4 q hq).1) (by rw [w6]; exact t3.1) (fun q hq => by rw [w1])
/-- the model up to where it begins to carry out -/
theorem exec_pre {c n : Nat} {M U V : fM} (h : It c M) (hr : r_X1_read M 267 = 1) (hn : n ≤ 16) (h3 : m_X1_read M 267 276 3 = nI n) (v81 : V 281 = m_X1_read M 267 281) (v83 : V 283 = m_X1_read M 267 283) (u6 : U 296 = M 296) (u97 : U 297 = M 297) (u01 : U 301 = M 301) : r_X12_isText U = 1 ∧ N_X12_isText U ∧ Wk n V (fst1 (a0_X12_execute U) 296 6 1) (M 297) ∧ (∀ a, a ≠ 296 → a ≠ 300 → a ≠ 305 → (fst1 (a0_X12_execute U) 296 6 1) a = U a) ∧ (∀ b, b ≠ 6 → b ≠ 7 → b ≠ 9 → b ≠ 16 → b ≠ 18 → (fst1 (a0_X12_execute U) 296 6 1) 296 b = U 296 b) ∧ (fst1 (a0_X12_execute U) 296 6 1) 296 9 = 0 ∧ ∀ x, x < 127 → (fst1 (a0_X12_execute U) 296 6 1) 300 x = M 297 x := by
  have hT := h.2.2.2.1
  obtain ⟨t1, t2, t3, t4⟩ := id hT
  obtain ⟨p, -, -, -, -, -, x6, x7⟩ := rd_of h u6 u01
  rcases x7 with ⟨e1, -⟩ | ⟨-, e2, n2, hn2, e4, e5, e6⟩
  · exact absurd (hr.symm.trans e1) (by decide)
  · have : n2 = n := (nI_eq (by omega) (by omega)).mp (e4.symm.trans h3)
    subst this
    have ea : a0_X12_execute U = fsr (fst1 (fst1 (m_X12_isText U) 296 9 0) 296 7 0) 300 (fun x => if 0 ≤ x ∧ x < 0 + 127 then (fst1 (fst1 (m_X12_isText U) 296 9 0) 296 7 0) 297 (0 + (x - 0)) else (fst1 (fst1 (m_X12_isText U) 296 9 0) 296 7 0) 300 x) := by
      rw [a0_X12_execute, mcp (p := 297) (q := 300) (a := 0) (b := 0) (by decide) (by omega) (by omega) 127 127 _ 0 0 rfl rfl]
    have y97 : m_X12_isText U 297 = M 297 := (x6.1 297 (by decide) (by decide)).trans u97
    refine ⟨e2, N_text (okT_of hT) (by rw [u6]; exact t3.1) (fun q hq => by rw [u01]), ⟨?_, ?_, ?_, ?_, fun x hx => (e6 x hx).ext v81 v83 ?_⟩, fun a a1 a2 a3 => ?_, fun b b1 b2 b3 b4 b5 => ?_, ?_, fun x hx => ?_⟩
    · rw [fst1_ne (by decide), ea, fsr_ne (by decide), fst1_ne (by decide), fst1_ne (by decide), y97]
    · rw [fst1_at]; decide
    · rw [fst1_nj (by decide), ea, fsr_ne (by decide), fst1_at]
    · rw [fst1_nj (by decide), ea, fsr_ne (by decide), fst1_nj (by decide), fst1_nj (by decide), e5]
    · rw [fst1_ne (by decide), ea, fsr_ne (by decide), fst1_ne (by decide), fst1_ne (by decide)]
    · rw [fst1_ne a1, ea, fsr_ne a2, fst1_ne a1, fst1_ne a1, x6.1 a a1 a3]
    · rw [fst1_nj b1, ea, fsr_ne (by decide), fst1_nj b2, fst1_nj b3, x6.2 b b4 b5]
    · rw [fst1_nj (by decide), ea, fsr_ne (by decide), fst1_nj (by decide), fst1_at]
    · rw [fst1_ne (by decide), ea, fsr_at]
      show (if 0 ≤ x ∧ x < 0 + 127 then (fst1 (fst1 (m_X12_isText U) 296 9 0) 296 7 0) 297 (0 + (x - 0)) else _) = _
      rw [if_pos (by omega), fst1_ne (by decide), fst1_ne (by decide), y97, Nat.sub_zero, Nat.zero_add]
section OPS12
variable {G : fG} {c : Nat} {M : fM} {dv : UInt64} {a b e f : Int32}
theorem op_49 (hG : fOK G) (hc512 : c < 512) (h : It c M) : Op_49 G It c M dv a b e f := by
  have hS := h.1
  have hT := h.2.2.2.1
  have hE := h.2.2.2.2.2.1
  have hZ := h.2.2.2.2.2.2
  obtain ⟨t1, t2, t3, t4⟩ := id hT
  have lT := t3.2
  obtain ⟨C, n0, a1, a2, a3, a4, a5, a6⟩ := h.2.1
  obtain ⟨p, p1, p2, -, p4, p5, -, p7⟩ := rd_of h (W := M) rfl rfl
  rcases p7 with ⟨hr, -⟩ | ⟨hr, -, n, hn, r3, -, rcc⟩
  · -- the text is none
    have hc := c_X11_execute hG (d := 40) (by decide) M dv (fun q => absurd hr q)
    rw [o_X11_execute, if_pos hr, show m_X10_clear (m_X1_read M 267) 267 60 = fst1 (m_X1_read M 267) 267 2 0 from rfl, fst1_ne (show 276 ≠ 267 by decide), p2] at hc
    generalize hU : fst1 (fst1 (m_X1_read M 267) 267 2 0) 0 11 (nI p) = U at hc
    have u1 : ∀ q, q ≠ 0 → q ≠ 267 → q ≠ 276 → q ≠ 277 → q ≠ 279 → q ≠ 281 → q ≠ 283 → U q = M q := fun q q1 q2 q3 q4 q5 q6 q7 => by rw [← hU, fst1_ne q1, fst1_ne q2, p4 q q3 q4 q5 q6 q7]
    have u6 : U 296 = M 296 := u1 296 (by decide) (by decide) (by decide) (by decide) (by decide) (by decide) (by decide)
    have u01 : U 301 = M 301 := u1 301 (by decide) (by decide) (by decide) (by decide) (by decide) (by decide) (by decide)
    obtain ⟨p', p1', p2', y16, -, -, yf, y7⟩ := rd_of h u6 u01
    have ep : p' = p := (nI_eq (by omega) (by omega)).mp (p2'.symm.trans p2)
    subst ep
    have hi : r_X12_isText U = 0 := by
      rcases y7 with ⟨-, e2⟩ | ⟨e1, -⟩
      · exact e2
      · exact absurd (hr.symm.trans e1) (by decide)
    have k2 := c_X12_execute hG (d := 60) (by decide) U dv ⟨N_text (okT_of hT) (by rw [u6]; exact t3.1) (fun q hq => by rw [u01]), fun q => absurd hi q, fun q => absurd hi q, fun q => absurd hi q, fun q => absurd hi q⟩
    have em : m_X12_execute U = fst1 (fst1 (fst1 (m_X12_isText U) 296 10 (nI p')) 296 9 0) 296 7 1 := by rw [m_X12_execute, if_pos hi, y16]
    rw [em] at k2
    generalize m_X12_isText U = Y at k2 yf
    have hF : ∀ q, q ≠ 0 → q ≠ 267 → q ≠ 276 → q ≠ 277 → q ≠ 279 → q ≠ 281 → q ≠ 283 → q ≠ 296 → q ≠ 305 → (fst1 (fst1 (fst1 Y 296 10 (nI p')) 296 9 0) 296 7 1) q = M q := fun q q1 q2 q3 q4 q5 q6 q7 q8 q9 => by rw [fst1_ne q8, fst1_ne q8, fst1_ne q8, yf.1 q q8 q9, u1 q q1 q2 q3 q4 q5 q6 q7]
    have hJ : ∀ b, b ≠ 7 → b ≠ 9 → b ≠ 10 → b ≠ 16 → b ≠ 18 → (fst1 (fst1 (fst1 Y 296 10 (nI p')) 296 9 0) 296 7 1) 296 b = M 296 b := fun b q1 q2 q3 q4 q5 => by rw [fst1_nj q1, fst1_nj q2, fst1_nj q3, yf.2 b q4 q5, u6]
    have hF0 : ∀ q, q ≠ 296 → q ≠ 305 → (fst1 (fst1 (fst1 Y 296 10 (nI p')) 296 9 0) 296 7 1) q = U q := fun q q8 q9 => by rw [fst1_ne q8, fst1_ne q8, fst1_ne q8, yf.1 q q8 q9]
    have u0 : ∀ b, b ≠ 11 → U 0 b = M 0 b := fun b hb => by rw [← hU, fst1_nj hb, fst1_ne (by decide), p4 0 (by decide) (by decide) (by decide) (by decide) (by decide)]
    refine ⟨1, _, _, _, c_L_execute hG (by decide) (by decide) (by decide) M dv hc 1 _ (Or.inr (Or.inl ⟨_, rfl, rfl, rfl⟩)), k2, fst1_at _ _ _ _, fun q => absurd q (by decide), It.up (c := c) (It_exec h (Nat.le_refl _) ?_ ?_ (fun q q1 q2 => hF q (by omega) (by omega) (by omega) (by omega) (by omega) (by omega) (by omega) (by omega) (by omega)) (fun q q1 => hF q (by omega) (by omega) (by omega) (by omega) (by omega) (by omega) (by omega) (by omega) (by omega)) ?_ (fun q q1 => hJ q (by omega) (by omega) (by omega) (by omega) (by omega)) ?_ ?_ ?_ ⟨⟨?_, ?_⟩, ?_, ?_⟩ ?_ ?_ ?_)⟩
    · rw [hF 297 (by decide) (by decide) (by decide) (by decide) (by decide) (by decide) (by decide) (by decide) (by decide)]
      exact hS.ext fun q q1 q2 => hF q (by omega) (by omega) (by omega) (by omega) (by omega) (by omega) (by omega) (by omega) (by omega)
    · exact h.2.1.ext (fun q q1 q2 => hF q (by omega) (by omega) (by omega) (by omega) (by omega) (by omega) (by omega) (by omega) (by omega)) (hF 298 (by decide) (by decide) (by decide) (by decide) (by decide) (by decide) (by decide) (by decide) (by decide)) (hJ 5 (by decide) (by decide) (by decide) (by decide) (by decide))
    · rw [hF0 0 (by decide) (by decide), u0 10 (by decide)]
    · rw [hF0 267 (by decide) (by decide), ← hU, fst1_ne (by decide), fst1_nj (by decide), p4 267 (by decide) (by decide) (by decide) (by decide) (by decide)]; exact t1
    · rw [hF0 267 (by decide) (by decide), ← hU, fst1_ne (by decide), fst1_at]
    · rw [fst1_nj (by decide), fst1_at]
    · rw [hF0 0 (by decide) (by decide), ← hU, fst1_at, fst1_nj (by decide), fst1_nj (by decide), fst1_at]
    · rw [fst1_nj (by decide), fst1_nj (by decide), fst1_at]
      exact Or.inr (sm_nI (by omega) (by decide))
    · rw [hF0 0 (by decide) (by decide), u0 12 (by decide), hJ 11 (by decide) (by decide) (by decide) (by decide) (by decide)]
      exact hE.2.1
    · rw [hJ 11 (by decide) (by decide) (by decide) (by decide) (by decide)]
      exact hE.2.2
    · rw [hJ 6 (by decide) (by decide) (by decide) (by decide) (by decide)]
      exact hZ.1
    · rw [hF 273 (by decide) (by decide) (by decide) (by decide) (by decide) (by decide) (by decide) (by decide) (by decide)]
    · rw [hF0 277 (by decide) (by decide), ← hU, fst1_ne (by decide), fst1_ne (by decide)]; exact p5
  · -- it is one
    have hr0 : ¬ r_X1_read M 267 = 0 := by rw [hr]; exact z_n1
    generalize hQ : fst1 (m_X1_read M 267) 267 2 0 = Q
    have hQc : m_X10_clear (m_X1_read M 267) 267 60 = Q := hQ
    have q1 : ∀ q, q ≠ 267 → q ≠ 276 → q ≠ 277 → q ≠ 279 → q ≠ 281 → q ≠ 283 → Q q = M q := fun q c1 c2 c3 c4 c5 c6 => by rw [← hQ, fst1_ne c1, p4 q c2 c3 c4 c5 c6]
    have hSQ : SW (32 * c + 1) Q 1 (M 297) := hS.ext fun q c1 c2 => q1 q (by omega) (by omega) (by omega) (by omega) (by omega) (by omega)
    obtain ⟨z1, -, -⟩ := cp8 (M := Q) (k := 25) (k2 := 1) (by omega)
    have z2 := SR_cp (k := 25) (k2 := 1) (by omega) hSQ
    have h25 : SW (32 * c + 1) (m_X8_copyFrom Q 25 1) 1 (M 297) := hSQ.ext fun q c1 c2 => z1 q (by omega)
    have hck : CK n (m_X8_copyFrom Q 25 1) := by
      unfold CK
      rw [z1 276 (by omega), z1 281 (by omega), z1 283 (by omega), ← hQ, fst1_ne (by decide), fst1_ne (by decide), fst1_ne (by decide)]
      refine ⟨r3, fun x hx => ?_⟩
      obtain ⟨K, k1, k2, k3, k4⟩ := rcc x hx
      exact ⟨K, k1, k2, fun t ht => (k4 t ht).1⟩
    have z73 : m_X8_copyFrom Q 25 1 73 = M 73 := by rw [z1 73 (by omega), q1 73 (by decide) (by decide) (by decide) (by decide) (by decide) (by decide)]
    have hc := c_X11_execute hG (d := 40) (by decide) M dv (fun _ => by
      rw [hQc]
      exact q_exec hn (by omega) h25 hck (by rw [z73]; exact It_73 h))
    rw [o_X11_execute, if_neg hr0, hQc, r_X11_performAll, m_X11_performAll] at hc
    have v81 : m_X8_copyFrom Q 25 1 281 = m_X1_read M 267 281 := by rw [z1 281 (by omega), ← hQ, fst1_ne (by decide)]
    have v83 : m_X8_copyFrom Q 25 1 283 = m_X1_read M 267 283 := by rw [z1 283 (by omega), ← hQ, fst1_ne (by decide)]
    have zM : ∀ q, q < 25 ∨ 49 ≤ q → q ≠ 267 → q ≠ 276 → q ≠ 277 → q ≠ 279 → q ≠ 281 → q ≠ 283 → m_X8_copyFrom Q 25 1 q = M q := fun q c0 c1 c2 c3 c4 c5 c6 => by rw [z1 q (by omega), q1 q c1 c2 c3 c4 c5 c6]
    have z67 : m_X8_copyFrom Q 25 1 267 0 = nI 60 ∧ m_X8_copyFrom Q 25 1 267 2 = 0 := by
      rw [z1 267 (by omega), ← hQ]
      exact ⟨by rw [fst1_nj (by decide), p4 267 (by decide) (by decide) (by decide) (by decide) (by decide)]; exact t1, fst1_at _ _ _ _⟩
    have z77 : m_X8_copyFrom Q 25 1 277 0 = nI 60 := by rw [z1 277 (by omega), ← hQ, fst1_ne (by decide)]; exact p5
    have hrun := run hn n 0 301 (32 * c + 1) (M 297) (m_X8_copyFrom Q 25 1) (by omega) (by omega) h25 (by omega) hck
    generalize m_X8_copyFrom Q 25 1 = D at hc z2 h25 hck z73 v81 v83 zM z67 z77 hrun
    rcases hrun with ⟨N', f', V', b1, b2, b3, b4, b5, b6⟩ | ⟨q, V', b1, b2, b3, b4, b5⟩
    · rw [b1, if_pos rfl] at hc
      have s25 : SW (32 * c + 1) V' 25 (M 297) := z2.ext fun q c1 c2 => b5 q (by omega)
      have vM : ∀ q, q = 0 ∨ 49 ≤ q → q ≠ 267 → q ≠ 276 → q ≠ 277 → q ≠ 279 → q ≠ 281 → q ≠ 283 → V' q = M q := fun q c0 c1 c2 c3 c4 c5 c6 => by rw [b5 q (by omega), zM q (by omega) c1 c2 c3 c4 c5 c6]
      have v73 : V' 73 = M 73 := vM 73 (by decide) (by decide) (by decide) (by decide) (by decide) (by decide) (by decide)
      obtain ⟨k1, -, -, -⟩ := kc_keep (M := V') (k := 25) (by omega) a2 a1 (by rw [v73]; exact a5) (by rw [v73]; exact a4) s25
      have e3 : m_X4_keep V' 25 276 3 = nI n := by rw [k1 276 (by omega) (by omega), b5 276 (by omega)]; exact hck.1
      have hc : fCt G z_X11_execute 40 [.ref 0] (sS M dv) 1 6 (fO dv (.inl (some (.int (m_X4_keep V' 25 276 3))), m_X4_keep V' 25)) := hc
      rw [e3] at hc
      generalize hU : fst1 (m_X4_keep V' 25) 306 0 (nI n) = U
      have uk : ∀ q, q ≠ 306 → U q = m_X4_keep V' 25 q := fun q hq => by rw [← hU, fst1_ne hq]
      have uV : ∀ q, q < 73 ∨ 267 ≤ q → q ≠ 306 → U q = V' q := fun q c1 c2 => by rw [uk q c2, k1 q (by omega) (by omega)]
      have uM : ∀ q, q = 0 ∨ (49 ≤ q ∧ q < 73) ∨ 267 < q → q ≠ 276 → q ≠ 277 → q ≠ 279 → q ≠ 281 → q ≠ 283 → q ≠ 306 → U q = M q := fun q c0 c2 c3 c4 c5 c6 c7 => by rw [uV q (by omega) c7, vM q (by omega) (by omega) c2 c3 c4 c5 c6]
      have u6 : U 296 = M 296 := uM 296 (by omega) (by decide) (by decide) (by decide) (by decide) (by decide) (by decide)
      have u97 : U 297 = M 297 := uM 297 (by omega) (by decide) (by decide) (by decide) (by decide) (by decide) (by decide)
      have u01 : U 301 = M 301 := uM 301 (by omega) (by decide) (by decide) (by decide) (by decide) (by decide) (by decide)
      obtain ⟨m1, m2, m3, m4, m5, m6, m7⟩ := exec_pre h hr hn r3 v81 v83 u6 u97 u01
      have hNe := N_exec hn (by omega) hS.2 m3
      obtain ⟨v3', W', y1, y2, y3, y4⟩ := b6 _ 41 0 0 (by omega) m3
      have y1 : l_X12_executeL (fst1 (a0_X12_execute U) 296 6 1) 41 0 0 0 = (nI n, v3', W') := y1
      generalize hB : fst1 (a0_X12_execute U) 296 6 1 = B0 at m3 m4 m5 m6 m7 y1 y3 hNe
      have m18 := m3.2.2.2.1
      have ea1 : a1_X12_execute U = fst1 W' 296 6 0 := by rw [a1_X12_execute, hB, y1]
      have w4 : (fst1 W' 296 6 (0 : Int32)) 296 7 = 0 := by rw [fst1_nj (by decide)]; exact y4
      have wa : ∀ q, q ≠ 296 → q ≠ 297 → q ≠ 300 → q ≠ 305 → (fst1 W' 296 6 (0 : Int32)) q = U q := fun q c1 c2 c3 c4 => by rw [fst1_ne c1, y3.1 q c1 c2, m4 q c1 c3 c4]
      have wj : ∀ j, j ≠ 6 → j ≠ 7 → j ≠ 9 → j ≠ 16 → j ≠ 18 → (fst1 W' 296 6 (0 : Int32)) 296 j = M 296 j := fun j c1 c2 c3 c4 c5 => by rw [fst1_nj c1, y3.2 j c2, m5 j c1 c2 c3 c4 c5, u6]
      have w18 : (fst1 W' 296 6 (0 : Int32)) 296 18 = nI n := by rw [fst1_nj (by decide), y3.2 18 (by decide), m18]
      have w9 : (fst1 W' 296 6 (0 : Int32)) 296 9 = 0 := by rw [fst1_nj (by decide), y3.2 9 (by decide), m6]
      have w300 : ∀ x, x < 127 → (fst1 W' 296 6 (0 : Int32)) 300 x = M 297 x := fun x hx => by rw [fst1_ne (by decide), y3.1 300 (by decide) (by decide)]; exact m7 x hx
      have w97 : (fst1 W' 296 6 (0 : Int32)) 297 = f' := by rw [fst1_ne (by decide)]; exact y2
      have w5 : (fst1 W' 296 6 (0 : Int32)) 296 5 = nI C := (wj 5 (by decide) (by decide) (by decide) (by decide) (by decide)).trans a3
      have w6 : (fst1 W' 296 6 (0 : Int32)) 296 6 = 0 := fst1_at _ _ _ _
      have hc0 : (a1_X12_execute U) 296 7 ≤ 0 := by rw [ea1, w4]; exact Int32.le_refl _
      have hm1 : ¬ r_X12_isText U = 0 := by rw [m1]; exact z_n1
      have kk := c_X12_execute hG (d := 60) (by decide) U dv ⟨m2, fun _ => N_mcp (a := 0) (b := 0) (by omega) (by omega) (by omega) (by omega) 0 0 rfl rfl, fun _ => by rw [hB]; exact hNe, fun _ _ => by rw [ea1]; exact N_kp_out a1 w5, fun _ q => absurd hc0 q⟩
      have em : m_X12_execute U = m_X12_keeps (fst1 W' 296 6 0) 300 127 := by rw [m_X12_execute, if_neg hm1, if_pos hc0, ea1]
      have er : r_X12_execute U = m_X12_keeps (fst1 W' 296 6 0) 300 127 296 18 := by rw [r_X12_execute, if_neg hm1, if_pos hc0, ea1]
      rw [em, er] at kk
      generalize fst1 W' 296 6 (0 : Int32) = A at kk w4 wa wj w18 w9 w300 w97 w5 w6
      rw [kp_out (by decide) (by decide) a1 w6 w5, fsr_ne (show 296 ≠ 298 by decide), fst1_nj (show 18 ≠ 5 by decide), fst1_nj (show 18 ≠ 7 by decide), w18] at kk
      have hFa : ∀ q, q ≠ 296 → q ≠ 297 → q ≠ 298 → q ≠ 300 → q ≠ 305 → (fsr (fst1 (fst1 A 296 7 0) 296 5 (nI (kpC C))) 298 (kpF (A 298) C (A 300))) q = U q := fun q c1 c2 c3 c4 c5 => by rw [fsr_ne c3, fst1_ne c1, fst1_ne c1, wa q c1 c2 c4 c5]
      have hFj : ∀ j, j ≠ 5 → j ≠ 6 → j ≠ 7 → j ≠ 9 → j ≠ 16 → j ≠ 18 → (fsr (fst1 (fst1 A 296 7 0) 296 5 (nI (kpC C))) 298 (kpF (A 298) C (A 300))) 296 j = M 296 j := fun j c1 c2 c3 c4 c5 c6 => by rw [fsr_ne (by decide), fst1_nj c1, fst1_nj c3, wj j c2 c3 c4 c5 c6]
      have hFM : ∀ q, q = 0 ∨ (49 ≤ q ∧ q < 73) ∨ 267 < q → q ≠ 276 → q ≠ 277 → q ≠ 279 → q ≠ 281 → q ≠ 283 → q ≠ 296 → q ≠ 297 → q ≠ 298 → q ≠ 300 → q ≠ 305 → q ≠ 306 → (fsr (fst1 (fst1 A 296 7 0) 296 5 (nI (kpC C))) 298 (kpF (A 298) C (A 300))) q = M q := fun q c0 c1 c2 c3 c4 c5 c6 c7 c8 c9 d1 d2 => by rw [hFa q c6 c7 c8 c9 d1, uM q c0 c1 c2 c3 c4 c5 d2]
      have u67 : U 267 = D 267 := by rw [uV 267 (by omega) (by decide), b5 267 (by omega)]
      have hItH : ItH N' (fsr (fst1 (fst1 A 296 7 0) 296 5 (nI (kpC C))) 298 (kpF (A 298) C (A 300))) := by
        refine ItH_keep (M := V') (k := 25) (g := A 300) (C := C) (n := n0) (by omega) a2 a1 (by rw [v73]; exact a5) (by rw [v73]; exact a4) ((s25.mono b2).cg w300) (fun i hi => ?_) (fun q c1 c2 => ?_) ?_ ?_
        · have hr8 : rg n0 C i < 8 := Nat.mod_lt _ (by decide)
          rw [vM 298 (by omega) (by decide) (by decide) (by decide) (by decide) (by decide) (by decide)]
          exact ((a6 i hi).mono b2).ext fun q c1 c2 => vM q (by omega) (by omega) (by omega) (by omega) (by omega) (by omega) (by omega)
        · rw [hFa q (by omega) (by omega) (by omega) (by omega) (by omega), uk q (by omega)]
        · rw [fsr_at, wa 298 (by decide) (by decide) (by decide) (by decide), uV 298 (by omega) (by decide)]
        · rw [fsr_ne (by decide), fst1_at]
      refine ⟨0, nI n, _, _, c_L_execute hG (by decide) (by decide) (by decide) M dv hc 0 U (Or.inl ⟨_, _, rfl, rfl, hU.symm⟩), kk, ?_, fun _ => ?_, It0.mono (It_exec h b2 ?_ hItH (fun q c1 c2 => hFM q (by omega) (by omega) (by omega) (by omega) (by omega) (by omega) (by omega) (by omega) (by omega) (by omega) (by omega) (by omega)) (fun q c1 => hFM q (by omega) (by omega) (by omega) (by omega) (by omega) (by omega) (by omega) (by omega) (by omega) (by omega) (by omega) (by omega)) ?_ (fun q c1 => hFj q (by omega) (by omega) (by omega) (by omega) (by omega) (by omega)) ?_ ?_ ?_ ?_ ?_ ?_ ?_) (by omega)⟩
      · rw [fsr_ne (by decide), fst1_nj (by decide), fst1_at]
      · rw [hFa 306 (by decide) (by decide) (by decide) (by decide) (by decide), ← hU, fst1_at]
      · have e97 : (fsr (fst1 (fst1 A 296 7 0) 296 5 (nI (kpC C))) 298 (kpF (A 298) C (A 300))) 297 = f' := by rw [fsr_ne (by decide), fst1_ne (by decide), fst1_ne (by decide), w97]
        rw [e97]
        exact b4.ext fun q c1 c2 => by rw [hFa q (by omega) (by omega) (by omega) (by omega) (by omega), uV q (by omega) (by omega)]
      · rw [hFM 0 (by omega) (by decide) (by decide) (by decide) (by decide) (by decide) (by decide) (by decide) (by decide) (by decide) (by decide) (by decide)]
      · rw [hFa 267 (by decide) (by decide) (by decide) (by decide) (by decide), u67]; exact z67.1
      · rw [hFa 267 (by decide) (by decide) (by decide) (by decide) (by decide), u67]; exact z67.2
      · rw [fsr_ne (by decide), fst1_nj (by decide), fst1_nj (by decide), w9]
      · have e0 := hFM 0 (by omega) (by decide) (by decide) (by decide) (by decide) (by decide) (by decide) (by decide) (by decide) (by decide) (by decide) (by decide)
        exact hE.ext (congrFun e0 11) (congrFun e0 12) (hFj 10 (by decide) (by decide) (by decide) (by decide) (by decide) (by decide)) (hFj 11 (by decide) (by decide) (by decide) (by decide) (by decide) (by decide))
      · rw [fsr_ne (by decide), fst1_nj (by decide), fst1_nj (by decide), w6]
      · rw [hFM 273 (by omega) (by decide) (by decide) (by decide) (by decide) (by decide) (by decide) (by decide) (by decide) (by decide) (by decide) (by decide)]
      · rw [hFa 277 (by decide) (by decide) (by decide) (by decide) (by decide), uV 277 (by omega) (by decide), b5 277 (by omega)]; exact z77
    · rw [b3, if_neg (n1_nI (by omega))] at hc
      have s25 : SW (32 * c + 1) V' 25 (M 297) := z2.ext fun q c1 c2 => b4 q (by omega)
      obtain ⟨k1, -, -⟩ := cp8 (M := V') (k := 1) (k2 := 25) (by omega)
      have k2 := SR_cp (k := 1) (k2 := 25) (by omega) s25
      have vM : ∀ q, q = 0 ∨ 49 ≤ q → q ≠ 267 → q ≠ 276 → q ≠ 277 → q ≠ 279 → q ≠ 281 → q ≠ 283 → m_X8_copyFrom V' 1 25 q = M q := fun q c0 c1 c2 c3 c4 c5 c6 => by rw [k1 q (by omega), b4 q (by omega), zM q (by omega) c1 c2 c3 c4 c5 c6]
      have vD : ∀ q, 49 ≤ q → m_X8_copyFrom V' 1 25 q = D q := fun q c0 => by rw [k1 q (by omega), b4 q (by omega)]
      have hc : fCt G z_X11_execute 40 [.ref 0] (sS M dv) 1 6 (fO dv (.inr "java/lang/IllegalStateException", fst1 (m_X8_copyFrom V' 1 25) 0 12 (nI q))) := hc
      generalize m_X8_copyFrom V' 1 25 = E at hc k2 vM vD
      generalize hU : fst1 E 0 12 (nI q) = U at hc
      have uE : ∀ x, x ≠ 0 → U x = E x := fun x hx => by rw [← hU, fst1_ne hx]
      have uM : ∀ q, 49 ≤ q → q ≠ 267 → q ≠ 276 → q ≠ 277 → q ≠ 279 → q ≠ 281 → q ≠ 283 → U q = M q := fun q c0 c1 c2 c3 c4 c5 c6 => by rw [uE q (by omega), vM q (by omega) c1 c2 c3 c4 c5 c6]
      have u6 : U 296 = M 296 := uM 296 (by omega) (by decide) (by decide) (by decide) (by decide) (by decide) (by decide)
      have u97 : U 297 = M 297 := uM 297 (by omega) (by decide) (by decide) (by decide) (by decide) (by decide) (by decide)
      have u01 : U 301 = M 301 := uM 301 (by omega) (by decide) (by decide) (by decide) (by decide) (by decide) (by decide)
      obtain ⟨m1, m2, m3, m4, m5, m6, m7⟩ := exec_pre h hr hn r3 v81 v83 u6 u97 u01
      have hNe := N_exec hn (by omega) hS.2 m3
      obtain ⟨W', y1, y3, y4⟩ := b5 _ 41 0 0 (by omega) m3
      have y1 : l_X12_executeL (fst1 (a0_X12_execute U) 296 6 1) 41 0 0 0 = (nI q, 0, W') := y1
      generalize hB : fst1 (a0_X12_execute U) 296 6 1 = B0 at m3 m4 m5 m6 m7 y1 y3 hNe
      have ea1 : a1_X12_execute U = fst1 W' 296 6 0 := by rw [a1_X12_execute, hB, y1]
      have w4 : ¬ (fst1 W' 296 6 (0 : Int32)) 296 7 ≤ 0 := by rw [fst1_nj (by decide)]; exact y4
      have wa : ∀ q, q ≠ 296 → q ≠ 297 → q ≠ 300 → q ≠ 305 → (fst1 W' 296 6 (0 : Int32)) q = U q := fun q c1 c2 c3 c4 => by rw [fst1_ne c1, y3.1 q c1 c2, m4 q c1 c3 c4]
      have wj : ∀ j, j ≠ 6 → j ≠ 7 → j ≠ 9 → j ≠ 16 → j ≠ 18 → (fst1 W' 296 6 (0 : Int32)) 296 j = M 296 j := fun j c1 c2 c3 c4 c5 => by rw [fst1_nj c1, y3.2 j c2, m5 j c1 c2 c3 c4 c5, u6]
      have w9 : (fst1 W' 296 6 (0 : Int32)) 296 9 = 0 := by rw [fst1_nj (by decide), y3.2 9 (by decide), m6]
      have w300 : ∀ x, x < 127 → (fst1 W' 296 6 (0 : Int32)) 300 x = M 297 x := fun x hx => by rw [fst1_ne (by decide), y3.1 300 (by decide) (by decide)]; exact m7 x hx
      have w6 : (fst1 W' 296 6 (0 : Int32)) 296 6 = 0 := fst1_at _ _ _ _
      have hc0 : ¬ (a1_X12_execute U) 296 7 ≤ 0 := by rw [ea1]; exact w4
      have hm1 : ¬ r_X12_isText U = 0 := by rw [m1]; exact z_n1
      have kk := c_X12_execute hG (d := 60) (by decide) U dv ⟨m2, fun _ => N_mcp (a := 0) (b := 0) (by omega) (by omega) (by omega) (by omega) 0 0 rfl rfl, fun _ => by rw [hB]; exact hNe, fun _ q => absurd q hc0, fun _ _ => N_mcp (a := 0) (b := 0) (by omega) (by omega) (by omega) (by omega) 0 0 rfl rfl⟩
      have ey1 : (l_X12_executeL (fst1 (a0_X12_execute U) 296 6 1) 41 0 0 0).1 = nI q := by rw [hB, y1]
      have ey2 : (l_X12_executeL (fst1 (a0_X12_execute U) 296 6 1) 41 0 0 0).2.1 = 0 := by rw [hB, y1]
      have em : m_X12_execute U = fst1 (fst1 (fsr (fst1 W' 296 6 0) 297 (fun x => if 0 ≤ x ∧ x < 0 + 127 then (fst1 W' 296 6 0) 300 (0 + (x - 0)) else (fst1 W' 296 6 0) 297 x)) 296 11 (nI q)) 296 7 2 := by
        rw [m_X12_execute, if_neg hm1, if_neg hc0, ey2, if_pos (Int32.le_refl _), a2_X12_execute, ey1, ea1, mcp (p := 300) (q := 297) (a := 0) (b := 0) (by decide) (by omega) (by omega) 127 127 _ 0 0 rfl rfl]
      rw [em] at kk
      generalize fst1 W' 296 6 (0 : Int32) = A at kk w4 wa wj w9 w300 w6
      generalize hrow : (fun x => if 0 ≤ x ∧ x < 0 + 127 then A 300 (0 + (x - 0)) else A 297 x) = rowF at kk
      have hrow2 : ∀ x, x < 127 → rowF x = M 297 x := fun x hx => by
        rw [← hrow]
        show (if 0 ≤ x ∧ x < 0 + 127 then A 300 (0 + (x - 0)) else A 297 x) = M 297 x
        rw [if_pos (by omega), Nat.sub_zero, Nat.zero_add]
        exact w300 x hx
      have hFa : ∀ x, x ≠ 296 → x ≠ 297 → x ≠ 300 → x ≠ 305 → (fst1 (fst1 (fsr A 297 rowF) 296 11 (nI q)) 296 7 2) x = U x := fun x c1 c2 c3 c4 => by rw [fst1_ne c1, fst1_ne c1, fsr_ne c2, wa x c1 c2 c3 c4]
      have hFj : ∀ j, j ≠ 6 → j ≠ 7 → j ≠ 9 → j ≠ 11 → j ≠ 16 → j ≠ 18 → (fst1 (fst1 (fsr A 297 rowF) 296 11 (nI q)) 296 7 2) 296 j = M 296 j := fun j c1 c2 c3 c4 c5 c6 => by rw [fst1_nj c2, fst1_nj c4, fsr_ne (by decide), wj j c1 c2 c3 c5 c6]
      have hFM : ∀ x, 49 ≤ x → x ≠ 267 → x ≠ 276 → x ≠ 277 → x ≠ 279 → x ≠ 281 → x ≠ 283 → x ≠ 296 → x ≠ 297 → x ≠ 300 → x ≠ 305 → (fst1 (fst1 (fsr A 297 rowF) 296 11 (nI q)) 296 7 2) x = M x := fun x c0 c1 c2 c3 c4 c5 c6 c7 c8 c9 d1 => by rw [hFa x c7 c8 c9 d1, uM x c0 c1 c2 c3 c4 c5 c6]
      have u0 : ∀ j, j ≠ 12 → U 0 j = M 0 j := fun j hj => by rw [← hU, fst1_nj hj, vM 0 (by omega) (by decide) (by decide) (by decide) (by decide) (by decide) (by decide)]
      have f0 := hFa 0 (by decide) (by decide) (by decide) (by decide)
      refine ⟨2, _, _, _, c_L_execute hG (by decide) (by decide) (by decide) M dv hc 2 _ (Or.inr (Or.inr ⟨_, rfl, rfl, rfl⟩)), kk, fst1_at _ _ _ _, fun q => absurd q (by decide), It.up (c := c) (It_exec h (Nat.le_refl _) ?_ ?_ (fun x c1 c2 => hFM x (by omega) (by omega) (by omega) (by omega) (by omega) (by omega) (by omega) (by omega) (by omega) (by omega) (by omega)) (fun x c1 => hFM x (by omega) (by omega) (by omega) (by omega) (by omega) (by omega) (by omega) (by omega) (by omega) (by omega) (by omega)) ?_ (fun j c1 => hFj j (by omega) (by omega) (by omega) (by omega) (by omega) (by omega)) ?_ ?_ ?_ ⟨⟨?_, ?_⟩, ?_, ?_⟩ ?_ ?_ ?_)⟩
      · rw [show (fst1 (fst1 (fsr A 297 rowF) 296 11 (nI q)) 296 7 2) 297 = rowF by rw [fst1_ne (by decide), fst1_ne (by decide), fsr_at]]
        exact (k2.ext fun x c1 c2 => by rw [hFa x (by omega) (by omega) (by omega) (by omega), uE x (by omega)]).cg hrow2
      · exact h.2.1.ext (fun x c1 c2 => hFM x (by omega) (by omega) (by omega) (by omega) (by omega) (by omega) (by omega) (by omega) (by omega) (by omega) (by omega)) (hFM 298 (by omega) (by decide) (by decide) (by decide) (by decide) (by decide) (by decide) (by decide) (by decide) (by decide) (by decide)) (hFj 5 (by decide) (by decide) (by decide) (by decide) (by decide) (by decide))
      · rw [f0, u0 10 (by decide)]
      · rw [hFa 267 (by decide) (by decide) (by decide) (by decide), uE 267 (by decide), vD 267 (by decide)]; exact z67.1
      · rw [hFa 267 (by decide) (by decide) (by decide) (by decide), uE 267 (by decide), vD 267 (by decide)]; exact z67.2
      · rw [fst1_nj (by decide), fst1_nj (by decide), fsr_ne (by decide), w9]
      · rw [f0, u0 11 (by decide), hFj 10 (by decide) (by decide) (by decide) (by decide) (by decide) (by decide)]; exact hE.1.1
      · rw [hFj 10 (by decide) (by decide) (by decide) (by decide) (by decide) (by decide)]; exact hE.1.2
      · rw [f0, ← hU, fst1_at, fst1_nj (by decide), fst1_at]
      · rw [fst1_nj (by decide), fst1_at]
        exact Or.inr (sm_nI (by omega) (by decide))
      · rw [fst1_nj (by decide), fst1_nj (by decide), fsr_ne (by decide), w6]
      · rw [hFM 273 (by omega) (by decide) (by decide) (by decide) (by decide) (by decide) (by decide) (by decide) (by decide) (by decide) (by decide)]
      · rw [hFa 277 (by decide) (by decide) (by decide) (by decide), uE 277 (by decide), vD 277 (by decide)]; exact z77
end OPS12
