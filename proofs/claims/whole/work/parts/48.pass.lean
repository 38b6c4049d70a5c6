/-! ===== days pass ===== -/
def dwP (f : Nat → Int32) (i : Nat) : Int32 := f (79 + 6 * i + 5) + (21 - str f i)
def dwF : Nat → (Nat → Int32) → Int32 → Int32 × (Nat → Int32)
  | 0, f, v => (v, f)
  | i + 1, f, v => if (60 : Int32) ≤ dwP f i then dwF i (up (goF f i) 10 (f 10 + f (79 + 6 * i + 1))) (v + 1) else dwF i (up f (79 + 6 * i + 5) (dwP f i)) v
theorem dwP_sm {N : Nat} {f : Nat → Int32} {i : Nat} (hf : WF N f) (hi : i < (f 3).toNatClampNeg) (h : ¬ (60 : Int32) ≤ dwP f i) : sm (dwP f i) 60 := by
  obtain ⟨e1, l1⟩ := hf.pr hi
  obtain ⟨r, e2, r1, r2⟩ := rise_ok hf hi
  have e3 : dwP f i = nI ((f (79 + 6 * i + 5)).toNatClampNeg + r) := by rw [dwP, e2, e1, nI_add, ← e1]
  rw [e3] at h ⊢
  exact sm_nI (Nat.lt_of_not_le fun q => h (nI_le (a := 60) q (by omega))) (by decide)
theorem c_dw {N : Nat} : ∀ (i : Nat) (f : Nat → Int32) (M : fM) (v : Int32), SW N M 1 f → i ≤ (f 3).toNatClampNeg → (l_X8_passOneDay 1 M i v).1 = (dwF i f v).1 ∧ SW N (l_X8_passOneDay 1 M i v).2 1 (dwF i f v).2 ∧ ∀ q, q < 1 ∨ 24 < q → (l_X8_passOneDay 1 M i v).2 q = M q := by
  intro i
  induction i with
  | zero => intro f M v hS _; exact ⟨rfl, hS, fun _ _ => rfl⟩
  | succ i ih =>
    intro f M v hS hi
    have hn := hS.2.lots.2
    obtain ⟨b1, b2, b3⟩ := hS.2.bd
    have et : rget M (1 + 11 + 11) 8 (nI i) + r_X8_riseAt M 1 (nI i) = dwP f i := by rw [c_pres hS (by omega), r_X8_riseAt, c_strg hS (by omega), dwP]
    have es : rset M (1 + 11 + 11) 8 (nI i) (dwP f i) = fst1 M 24 i (dwP f i) := by rw [rset_in (by omega) (by decide)]
    rw [l_X8_passOneDay, dwF, et, es]
    by_cases hb : (60 : Int32) ≤ dwP f i
    · rw [if_pos hb, if_neg (Int32.not_lt.mpr hb)]
      have s0 := SR_pre (p := i) (x := dwP f i) hS.1 hS.2.bd
      have u3 : up f (79 + 6 * i + 5) (dwP f i) 3 = f 3 := up_ne (by omega)
      have u1 : up f (79 + 6 * i + 5) (dwP f i) 1 = f 1 := up_ne (by omega)
      have u2 : up f (79 + 6 * i + 5) (dwP f i) 2 = f 2 := up_ne (by omega)
      obtain ⟨s1, s2, s3⟩ := SR_go (p := i) s0 (u3.trans hS.2.lots.1) hn (by rw [u1]; exact b1) (by rw [u2]; exact b2) (fun l hl => by rw [u2] at hl; rw [up_ne (by omega)]; exact b3 l hl) (by omega)
      rw [go_up (by omega) (by omega)] at s1
      rw [up_ne (by omega)] at s3
      show (l_X8_passOneDay 1 (fst1 (m_X5_remove (fst1 M 24 i (dwP f i)) 12 i) 1 7 (fst1 M 24 i (dwP f i) 1 7 + r_X5_remove (fst1 M 24 i (dwP f i)) 12 i)) i (v + 1)).1 = _ ∧ SW N (l_X8_passOneDay 1 (fst1 (m_X5_remove (fst1 M 24 i (dwP f i)) 12 i) 1 7 (fst1 M 24 i (dwP f i) 1 7 + r_X5_remove (fst1 M 24 i (dwP f i)) 12 i)) i (v + 1)).2 1 _ ∧ ∀ q, q < 1 ∨ 24 < q → (l_X8_passOneDay 1 (fst1 (m_X5_remove (fst1 M 24 i (dwP f i)) 12 i) 1 7 (fst1 M 24 i (dwP f i) 1 7 + r_X5_remove (fst1 M 24 i (dwP f i)) 12 i)) i (v + 1)).2 q = M q
      rw [s3, fst1_ne (show 1 ≠ 24 by decide), show M 1 7 = f 10 from hS.1.2.2.2.2.2.2.2.2.2]
      obtain ⟨t1, t2, t3⟩ := ih (up (goF f i) 10 (f 10 + f (79 + 6 * i + 1))) (fst1 (m_X5_remove (fst1 M 24 i (dwP f i)) 12 i) 1 7 (f 10 + f (79 + 6 * i + 1))) (v + 1) ⟨SR_sum s1 (by omega), WF_rcS hS.2 (by omega) (by omega)⟩ (by rw [go_n hn (by decide)]; omega)
      exact ⟨t1, t2, fun q hq => by rw [t3 q hq, fst1_ne (by omega), s2 q (by omega), fst1_ne (by omega)]⟩
    · rw [if_neg hb, if_pos (Int32.not_le.mp hb)]
      obtain ⟨t1, t2, t3⟩ := ih (up f (79 + 6 * i + 5) (dwP f i)) (fst1 M 24 i (dwP f i)) v ⟨SR_pre hS.1 hS.2.bd, WF_pre hS.2 (dwP_sm hS.2 (by omega) hb)⟩ (by rw [up_ne (by omega)]; omega)
      exact ⟨t1, t2, fun q hq => by rw [t3 q hq, fst1_ne (by omega)]⟩
section DAWN
variable {N : Nat} {W : fM} {f : Nat → Int32} {i : Nat}
theorem m_dwT (hf : WF N f) (hi : i < (f 3).toNatClampNeg) (hW : W 297 = f) : r_X12_by W (nI i) (5 : Int32) + r_X12_grows W (nI i) = dwP f i := by
  have hn := hf.lots.2
  rw [m_by hW (w := 5) (by omega) (by omega) 5 rfl, r_X12_grows, m_strong hW hf hi, dwP]
theorem m_dw0 (hf : WF N f) (hi : i < (f 3).toNatClampNeg) (hW : W 297 = f) : a0_X12_dawns W i = fsr W 297 (up f (79 + 6 * i + 5) (dwP f i)) := by
  have hn := hf.lots.2
  rw [a0_X12_dawns, m_dwT hf hi hW, nI_ix6 (w := 5) 5 rfl, nI_clamp (by omega), up1 hW]
theorem m_dwG (hf : WF N f) (hi : i < (f 3).toNatClampNeg) (hW : W 297 = f) : N_X12_goes (a0_X12_dawns W i) (nI i) ∧ a1_X12_dawns W i = fsr W 297 (up (goF f i) 10 (f 10 + f (79 + 6 * i + 1))) := by
  have hn := hf.lots.2
  have u3 : up f (79 + 6 * i + 5) (dwP f i) 3 = f 3 := up_ne (by omega)
  obtain ⟨g1, g2, g3⟩ := m_go (W := a0_X12_dawns W i) (f := up f (79 + 6 * i + 5) (dwP f i)) (by rw [m_dw0 hf hi hW, fsr_at]) (u3.trans hf.lots.1) hn hi
  refine ⟨g3, ?_⟩
  rw [a1_X12_dawns, g1, g2, show (10 : Int32).toNatClampNeg = 10 from rfl, go_up hi (by omega), m_dw0 hf hi hW, fsr_at, fsr_fsr, up2, up_ne (show 10 ≠ 79 + 6 * i + 5 by omega), up_ne (show 79 + 6 * i + 1 ≠ 79 + 6 * i + 5 by omega)]
end DAWN
theorem WF_dw {N : Nat} : ∀ (i : Nat) (f : Nat → Int32) (v : Int32), WF N f → i ≤ (f 3).toNatClampNeg → WF N (dwF i f v).2 := by
  intro i
  induction i with
  | zero => intro f v hf _; exact hf
  | succ i ih =>
    intro f v hf hi
    have hn := hf.lots.2
    rw [dwF]
    by_cases hb : (60 : Int32) ≤ dwP f i
    · rw [if_pos hb]
      exact ih _ _ (WF_rcS hf (by omega) (by omega)) (by rw [go_n hn (by decide)]; omega)
    · rw [if_neg hb]
      exact ih _ _ (WF_pre hf (dwP_sm hf (by omega) hb)) (by rw [up_ne (by omega)]; omega)
theorem m_dw {N : Nat} : ∀ (i : Nat) (f : Nat → Int32) (K : fM) (v : Int32), WF N f → i ≤ (f 3).toNatClampNeg → l_X12_dawnsL (fsr K 297 f) i v = ((dwF i f v).1, fsr K 297 (dwF i f v).2) := by
  intro i
  induction i with
  | zero => intro f K v hf _; rfl
  | succ i ih =>
    intro f K v hf hi
    have hn := hf.lots.2
    rw [l_X12_dawnsL, dwF, m_dwT hf (by omega) (fsr_at _ _ _)]
    by_cases hb : (60 : Int32) ≤ dwP f i
    · rw [if_pos hb, if_pos hb, (m_dwG hf (by omega) (fsr_at K 297 f)).2, fsr_fsr]
      exact ih _ K (v + 1) (WF_rcS hf (by omega) (by omega)) (by rw [go_n hn (by decide)]; omega)
    · rw [if_neg hb, if_neg hb, m_dw0 hf (by omega) (fsr_at _ _ _), fsr_fsr]
      exact ih _ K v (WF_pre hf (dwP_sm hf (by omega) hb)) (by rw [up_ne (by omega)]; omega)
def dwn (f : Nat → Int32) : Int32 × (Nat → Int32) := dwF ((f 3).toNatClampNeg) (up f 5 (f 5 + 1)) 0
theorem dwn3 {f : Nat → Int32} : up f 5 (f 5 + 1) 3 = f 3 := up_ne (by decide)
theorem WF5 {N : Nat} {f : Nat → Int32} {x : Int32} (hf : WF N f) : WF N (up f 5 x) := hf.cg2 fun q _ hq => up_ne (by omega)
theorem WF_dwn {N : Nat} {f : Nat → Int32} (hf : WF N f) : WF N (dwn f).2 := WF_dw _ _ _ (WF5 hf) (by rw [dwn3]; exact Nat.le_refl _)
theorem c_dwn {N : Nat} {M : fM} {f : Nat → Int32} (hS : SW N M 1 f) : r_X8_passOneDay M 1 (M (1 + 11) 6).toNatClampNeg = (dwn f).1 ∧ SW N (m_X8_passOneDay M 1 (M (1 + 11) 6).toNatClampNeg) 1 (dwn f).2 ∧ ∀ q, q < 1 ∨ 24 < q → m_X8_passOneDay M 1 (M (1 + 11) 6).toNatClampNeg q = M q := by
  rw [r_X8_passOneDay, m_X8_passOneDay, show M (1 + 11) 6 = f 3 from hS.1.2.2.2.1.1, show M 1 3 = f 5 from hS.1.2.2.2.2.2.1]
  obtain ⟨t1, t2, t3⟩ := c_dw ((f 3).toNatClampNeg) (up f 5 (f 5 + 1)) (fst1 M 1 3 (f 5 + 1)) 0 ⟨SR_sum hS.1 (by omega), WF5 hS.2⟩ (by rw [dwn3]; exact Nat.le_refl _)
  exact ⟨t1, t2, fun q hq => by rw [t3 q hq, fst1_ne (by omega)]⟩
theorem m_dwn {N : Nat} {W : fM} {f : Nat → Int32} (hf : WF N f) (hW : W 297 = f) : r_X12_dawns W = (dwn f).1 ∧ m_X12_dawns W = fsr W 297 (dwn f).2 ∧ N_X12_dawns W := by
  have hn := hf.lots.2
  have e5 : fst1 W 297 5 (W 297 5 + 1) = fsr W 297 (up f 5 (f 5 + 1)) := by rw [up1 hW, hW]
  have el := m_dw ((f 3).toNatClampNeg) (up f 5 (f 5 + 1)) W 0 (WF5 hf) (by rw [dwn3]; exact Nat.le_refl _)
  refine ⟨?_, ?_, ?_, fun i V _ => rcInv N i V, ?_, ?_, ?_, ?_, ?_, ?_, ?_⟩
  · rw [r_X12_dawns, cl_5, cl_3, e5, fsr_at, dwn3, el]; rfl
  · rw [m_X12_dawns, a2_X12_dawns, cl_5, cl_3, e5, fsr_at, dwn3, el]; rfl
  · rw [cl_5, cl_3, e5, fsr_at, dwn3]; exact hf.1.2.2.2.1
  · rw [cl_5, cl_3, e5, fsr_at, dwn3]
    exact ⟨_, WF5 (x := f 5 + 1) hf, fsr_at _ _ _, by rw [dwn3]; exact Nat.le_refl _⟩
  · rintro i V v h1 ⟨g, q1, q2, q3⟩
    exact Nby_nI (w := 5) (by omega) 5 rfl
  · rintro i V v h1 ⟨g, q1, q2, q3⟩
    exact N_strong q2 q1 (by omega)
  · rintro i V v h1 ⟨g, q1, q2, q3⟩
    rw [nI_ix6 (w := 5) 5 rfl]
    exact vp_in_nI (by omega) (by decide)
  · rintro i V v h1 ⟨g, q1, q2, q3⟩ _
    exact (m_dwG q1 (by omega) q2).1
  · rintro i V v h1 ⟨g, q1, q2, q3⟩ _
    have hn := q1.lots.2
    exact ⟨up (goF g i) 10 (g 10 + g (79 + 6 * i + 1)), WF_rcS q1 (by omega) (by omega), by rw [(m_dwG q1 (by omega) q2).2, fsr_at], by rw [go_n hn (by decide)]; omega⟩
  · rintro i V v h1 ⟨g, q1, q2, q3⟩ hb
    rw [m_dwT q1 (by omega) q2] at hb
    exact ⟨up g (79 + 6 * i + 5) (dwP g i), WF_pre q1 (dwP_sm q1 (by omega) hb), by rw [m_dw0 q1 (by omega) q2, fsr_at], by rw [up_ne (by omega)]; omega⟩
def paF : Nat → (Nat → Int32) → Int32 → Int32 × (Nat → Int32)
  | 0, f, v => (v, f)
  | m + 1, f, v => paF m (dwn f).2 (v + (dwn f).1)
theorem c_pa {N A : Nat} (hA : A ≤ 30) : ∀ (r m j : Nat) (f : Nat → Int32) (M : fM) (v : Int32), j + r = A → r < m → SW N M 1 f → (l_X8_passDays 1 (nI A) M m j v).1 = (paF r f v).1 ∧ SW N (l_X8_passDays 1 (nI A) M m j v).2 1 (paF r f v).2 ∧ ∀ q, q < 1 ∨ 24 < q → (l_X8_passDays 1 (nI A) M m j v).2 q = M q := by
  intro r
  induction r with
  | zero =>
    intro m j f M v h1 h2 hS
    obtain ⟨m, rfl⟩ : ∃ m', m = m' + 1 := ⟨m - 1, by omega⟩
    rw [l_X8_passDays, if_pos (nI_le (by omega) (by omega))]
    exact ⟨rfl, hS, fun _ _ => rfl⟩
  | succ r ih =>
    intro m j f M v h1 h2 hS
    obtain ⟨m, rfl⟩ : ∃ m', m = m' + 1 := ⟨m - 1, by omega⟩
    obtain ⟨d1, d2, d3⟩ := c_dwn hS
    rw [l_X8_passDays, if_neg (nI_ge (by omega) (by omega)), paF, d1]
    obtain ⟨t1, t2, t3⟩ := ih m (j + 1) _ _ (v + (dwn f).1) (by omega) (by omega) d2
    exact ⟨t1, t2, fun q hq => by rw [t3 q hq, d3 q hq]⟩
theorem m_pa {N A : Nat} (hA : A ≤ 30) : ∀ (r m j : Nat) (f : Nat → Int32) (K : fM) (v : Int32), j + r = A → r < m → WF N f → l_X12_passL (nI A) (fsr K 297 f) m j v = ((paF r f v).1, fsr K 297 (paF r f v).2) := by
  intro r
  induction r with
  | zero =>
    intro m j f K v h1 h2 hf
    obtain ⟨m, rfl⟩ : ∃ m', m = m' + 1 := ⟨m - 1, by omega⟩
    rw [l_X12_passL, if_pos (nI_le (by omega) (by omega))]
    rfl
  | succ r ih =>
    intro m j f K v h1 h2 hf
    obtain ⟨m, rfl⟩ : ∃ m', m = m' + 1 := ⟨m - 1, by omega⟩
    obtain ⟨d1, d2, d3⟩ := m_dwn hf (fsr_at K 297 f)
    rw [l_X12_passL, if_neg (nI_ge (by omega) (by omega)), paF, d1, d2, fsr_fsr]
    exact ih m (j + 1) _ K _ (by omega) (by omega) (WF_dwn hf)
def okD (a : Int32) : Prop := ∃ A, a = nI A ∧ 1 ≤ A ∧ A ≤ 30
theorem k_pass (M : fM) (a : Int32) : (¬ okD a ∧ r_X8_passRefusal M 1 a = 2) ∨ (okD a ∧ r_X8_passRefusal M 1 a = 0) := by
  rw [r_X8_passRefusal]
  by_cases h : okD a
  · obtain ⟨A, rfl, h1, h2⟩ := id h
    rw [if_neg (show ¬ nI A < (1 : Int32) from nI_nlt (b := 1) h1 (by omega)), if_pos (show nI A ≤ (30 : Int32) from nI_le (b := 30) h2 (by omega))]
    exact Or.inr ⟨h, rfl⟩
  · refine Or.inl ⟨h, ?_⟩
    by_cases b1 : a < 1
    · rw [if_pos b1]
    · rw [if_neg b1, if_neg]
      intro b2
      obtain ⟨y, hy, rfl⟩ := nI_of (fun q => b1 (Int32.lt_trans q (by decide)))
      exact h ⟨y, rfl, Nat.le_of_not_lt fun q => b1 (nI_lt (b := 1) q (by omega)), (nI_leI (b := 30) hy (by omega)).mp b2⟩
theorem in_D (W : fM) (a : Int32) : r_X12_in W a (1 : Int32) (30 : Int32) = exd (okD a) := in_nI (lo := 1) (n := 30) 1 rfl 30 rfl (by decide) (by decide)
theorem b_pass {f : Nat → Int32} {a : Int32} (h : ¬ okD a) : bad (fun W => m_X12_pass W a) (fun W => r_X12_pass W a) (fun W => N_X12_pass W a) f 1 := by
  intro W hW hk
  have e := in_D W a
  rw [exd_neg h] at e
  refine ⟨⟨fun q => absurd e q, fun q => absurd e q⟩, ?_, ?_⟩
  · show m_X12_pass W a = _
    rw [m_X12_pass, e, if_pos rfl]
  · show r_X12_pass W a = _
    rw [r_X12_pass, e, if_pos rfl]
theorem g_pass {N : Nat} {f : Nat → Int32} {a : Int32} (hf : WF N f) (h : okD a) : cgood (fun M => m_X8_passDays M 1 a) (fun M => r_X8_passDays M 1 a) N f N (paF a.toNatClampNeg f 0).2 (paF a.toNatClampNeg f 0).1 ∧ good (fun W => m_X12_pass W a) (fun W => r_X12_pass W a) (fun W => N_X12_pass W a) f (paF a.toNatClampNeg f 0).2 (paF a.toNatClampNeg f 0).1 := by
  have e0 := fun W => in_D W a
  rw [exd_pos h] at e0
  obtain ⟨A, rfl, h1, h2⟩ := id h
  rw [nI_clamp (by omega)]
  refine ⟨fun M hS => ?_, fun W hW hk => ?_⟩
  · obtain ⟨t1, t2, t3⟩ := c_pa h2 A 301 0 f M 0 (by omega) (by omega) hS
    exact ⟨t2, t1, t3⟩
  · have hk1 := hk.code (x := 0)
    have e7 : m_X12_keeps (fst1 W 296 7 0) 297 127 297 = f := by rw [kp_ne hk1 (by decide) (by decide), fst1_ne (by decide), hW]
    have el := m_pa (N := N) h2 A 31 0 f (m_X12_keeps (fst1 W 296 7 0) 297 127) 0 (by omega) (by omega) hf
    have ek : fsr (m_X12_keeps (fst1 W 296 7 0) 297 127) 297 f = m_X12_keeps (fst1 W 296 7 0) 297 127 := by rw [← e7, fsr_self]
    rw [ek] at el
    refine ⟨⟨fun _ => N_kp hk1, fun _ => ⟨fun _ V _ => ∃ g, WF N g ∧ V 297 = g, ⟨f, hf, e7⟩, ?_, ?_, ?_⟩⟩, ?_, ?_⟩
    · intro j V v h3 _ h4
      exact Nat.lt_of_not_le fun q => h4 (nI_le (by omega) (by omega))
    · rintro j V v h3 ⟨g, q1, q2⟩ _
      exact (m_dwn q1 q2).2.2
    · rintro j V v h3 ⟨g, q1, q2⟩ _
      exact ⟨_, WF_dwn q1, by rw [(m_dwn q1 q2).2.1, fsr_at]⟩
    · show m_X12_pass W (nI A) = _
      rw [m_X12_pass, e0, if_neg (by decide), el]
    · show r_X12_pass W (nI A) = _
      rw [r_X12_pass, e0, if_neg (by decide), el]
section OPS7
variable {G : fG} {c : Nat} {M : fM} {dv : UInt64} {a b e f : Int32}
theorem op_15 (hG : fOK G) (h : It c M) : Op_15 G It c M dv a b e f := by
  have hS := h.1
  obtain ⟨k1, k2, -⟩ := It_mut h (Nat.le_refl _)
  have hq : ∀ p, p < (M 297 3).toNatClampNeg → ps (M 297) a = nI p → sm (r_X5_positionOf (m_X4_keep M 1) (1 + 11) a) 8 := fun p h1 h2 => by
    rw [c_ps k1, h2]
    exact sm_nI (by have := hS.2.lots.2; omega) (by decide)
  rcases k_ship hS a with ⟨h1, h2⟩ | ⟨p, h1, h3, h2⟩
  · have hc := c_X11_ship hG (d := 40) (by decide) M dv a (q300 hS) (fun _ _ _ _ q => absurd h2 q) (fun _ _ _ _ q => absurd h2 q) (fun _ _ _ _ q => absurd h2 q)
    rw [o_X11_ship, h2, if_neg (by decide), if_neg (by decide), if_neg (by decide), if_neg (by decide), if_pos rfl] at hc
    exact op_bad h (by decide) (b_ship hS.2 h1) (c_L_ship hG (by decide) (by decide) (by decide) M dv a hc 1 _ (Or.inr ⟨_, rfl, rfl, rfl⟩)) (fun W hW => c_X12_ship hG (by decide) W dv a hW)
  · have hc := c_X11_ship hG (d := 40) (by decide) M dv a (q300 hS) (fun _ _ _ _ _ => It_73 h) (fun _ _ _ _ _ => q300 k1) (fun _ _ _ _ _ => hq p h1 h3)
    rw [o_X11_ship, h2, if_neg (by decide), if_neg (by decide), if_neg (by decide), if_neg (by decide), if_neg (by decide)] at hc
    obtain ⟨g1, g2⟩ := g_ship hS.2 h1 h3
    exact op_good h (Nat.le_refl _) (by omega) g1 g2 (c_L_ship hG (by decide) (by decide) (by decide) M dv a hc 0 _ (Or.inl ⟨_, _, rfl, rfl, rfl⟩)) (fun W hW => c_X12_ship hG (by decide) W dv a hW)
theorem op_16 (hG : fOK G) (h : It c M) : Op_16 G It c M dv a b e f := by
  have hS := h.1
  obtain ⟨k1, k2, -⟩ := It_mut h (Nat.le_refl _)
  rcases k_pass M a with ⟨h1, h2⟩ | ⟨h1, h2⟩
  · have hc := c_X11_pass hG (d := 40) (by decide) M dv a (fun _ q _ _ _ => absurd h2 q) (fun _ q _ _ _ => absurd h2 q) (fun _ q _ _ _ => absurd h2 q)
    rw [o_X11_pass, h2, if_neg (by decide), if_pos rfl] at hc
    exact op_bad h (by decide) (b_pass h1) (c_L_pass hG (by decide) (by decide) (by decide) M dv a hc 1 _ (Or.inr ⟨_, rfl, rfl, rfl⟩)) (fun W hW => c_X12_pass hG (by decide) W dv a hW)
  · have ha : sm a 300 := by
      obtain ⟨A, rfl, q1, q2⟩ := h1
      exact sm_nI (by omega) (by decide)
    have hok : cOK (m_X4_keep M 1) 1 := by
      have e := k1.1.2.2.2.1.1
      have hl := k1.2.lots
      exact cOK_of (e.trans hl.1) hl.2
    have hc := c_X11_pass hG (d := 40) (by decide) M dv a (fun _ _ _ _ _ => It_73 h) (fun _ _ _ _ _ => ha) (fun _ _ _ _ _ => hok)
    rw [o_X11_pass, h2, if_neg (by decide), if_neg (by decide), if_neg (by decide), if_neg (by decide), if_neg (by decide)] at hc
    obtain ⟨g1, g2⟩ := g_pass hS.2 h1
    exact op_good h (Nat.le_refl _) (by omega) g1 g2 (c_L_pass hG (by decide) (by decide) (by decide) M dv a hc 0 _ (Or.inl ⟨_, _, rfl, rfl, rfl⟩)) (fun W hW => c_X12_pass hG (by decide) W dv a hW)
theorem op_17 (hG : fOK G) (h : It c M) : Op_17 G It c M dv a b e f := by
  have hS := h.1
  obtain ⟨k1, k2, -⟩ := It_mut h (Nat.le_refl _)
  have h9 : sm (m_X4_keep M 1 (1 + 11) 6) 9 := by
    rw [show m_X4_keep M 1 (1 + 11) 6 = M 297 3 from k1.1.2.2.2.1.1]
    exact hS.2.1.2.2.2.1
  have hc := c_X11_recall hG (d := 40) (by decide) M dv a (fun _ _ _ _ _ => It_73 h) (fun _ _ _ _ _ => h9)
  rw [o_X11_recall] at hc
  rcases k_rec hS a with ⟨h1, h2⟩ | ⟨h1, h3, h2⟩ | ⟨h1, h3, h2⟩
  · rw [h2, if_pos rfl] at hc
    exact op_bad h (by decide) (b_rec hS.2 h1) (c_L_recall hG (by decide) (by decide) (by decide) M dv a hc 1 _ (Or.inr (Or.inl ⟨_, rfl, rfl, rfl⟩))) (fun W hW => c_X12_recall hG (by decide) W dv a hW)
  · rw [h2, if_neg (by decide), if_neg (by decide), if_pos rfl] at hc
    exact op_bad h (by decide) (b_rec2 hS.2 h1 h3) (c_L_recall hG (by decide) (by decide) (by decide) M dv a hc 2 _ (Or.inr (Or.inr ⟨_, rfl, rfl, rfl⟩))) (fun W hW => c_X12_recall hG (by decide) W dv a hW)
  · rw [h2, if_neg (by decide), if_neg (by decide), if_neg (by decide), if_neg (by decide), if_neg (by decide)] at hc
    obtain ⟨g1, g2⟩ := g_rec hS.2 h1 h3
    exact op_good h (Nat.le_refl _) (by omega) g1 g2 (c_L_recall hG (by decide) (by decide) (by decide) M dv a hc 0 _ (Or.inl ⟨_, _, rfl, rfl, rfl⟩)) (fun W hW => c_X12_recall hG (by decide) W dv a hW)
end OPS7
