/-! ===== calls that change ===== -/
def up (f : Nat → Int32) (j : Nat) (x : Int32) : Nat → Int32 := fun b => if b = j then x else f b
theorem up_at {f : Nat → Int32} {j b : Nat} {x : Int32} (h : b = j) : up f j x b = x := if_pos h
theorem up_ne {f : Nat → Int32} {j b : Nat} {x : Int32} (h : b ≠ j) : up f j x b = f b := if_neg h
theorem up1 {K : fM} {f : Nat → Int32} {k j : Nat} {x : Int32} (h : K k = f) : fst1 K k j x = fsr K k (up f j x) := by subst h; rfl
theorem up2 {K : fM} {f : Nat → Int32} {k j : Nat} {x : Int32} : fst1 (fsr K k f) k j x = fsr K k (up f j x) := by rw [fst1_fsr]; rfl
def kq (W : fM) : Prop := W 296 6 = 0 → ∃ C, C ≤ 8 ∧ W 296 5 = nI C
theorem kq.code {W : fM} {x : Int32} (h : kq W) : kq (fst1 W 296 7 x) := fun q => by
  rw [fst1_nj (show 6 ≠ 7 by decide)] at q
  obtain ⟨C, h1, h2⟩ := h q
  exact ⟨C, h1, by rw [fst1_nj (show 5 ≠ 7 by decide)]; exact h2⟩
theorem kp_ne {W : fM} (h : kq W) {a : Nat} (h1 : a ≠ 296) (h2 : a ≠ 298) : m_X12_keeps W 297 127 a = W a := by
  by_cases h6 : W 296 6 = 0
  · obtain ⟨C, hC, h5⟩ := h h6
    rw [kp_out (by decide) (by decide) hC h6 h5, fsr_ne h2, fst1_ne h1, fst1_ne h1]
  · rw [kp_in h6, fst1_ne h1]
theorem kp_j {W : fM} (h : kq W) {j : Nat} (h5 : j ≠ 5) (h7 : j ≠ 7) : m_X12_keeps W 297 127 296 j = W 296 j := by
  by_cases h6 : W 296 6 = 0
  · obtain ⟨C, hC, e5⟩ := h h6
    rw [kp_out (by decide) (by decide) hC h6 e5, fsr_ne (by decide), fst1_nj h5, fst1_nj h7]
  · rw [kp_in h6, fst1_nj h7]
theorem kp_code {W : fM} (h : kq W) : m_X12_keeps W 297 127 296 7 = 0 := by
  by_cases h6 : W 296 6 = 0
  · obtain ⟨C, hC, e5⟩ := h h6
    rw [kp_out (by decide) (by decide) hC h6 e5, fsr_ne (by decide), fst1_nj (by decide), fst1_at]
  · rw [kp_in h6, fst1_at]
theorem N_kp {W : fM} (h : kq W) : N_X12_keeps W 297 127 := by
  by_cases h6 : W 296 6 = 0
  · obtain ⟨C, hC, e5⟩ := h h6
    exact N_kp_out hC e5
  · exact N_kp_in h6
/-- the model refuses, with a code -/
def bad (z : fM → fM) (rz : fM → Int32) (Nz : fM → Prop) (f : Nat → Int32) (k : Int32) : Prop := ∀ W : fM, W 297 = f → kq W → Nz W ∧ z W = fst1 W 296 7 k ∧ rz W = 0
/-- the model does it -/
def good (z : fM → fM) (rz : fM → Int32) (Nz : fM → Prop) (f f' : Nat → Int32) (r : Int32) : Prop := ∀ W : fM, W 297 = f → kq W → Nz W ∧ z W = fsr (m_X12_keeps (fst1 W 296 7 0) 297 127) 297 f' ∧ rz W = r
/-- the class does it -/
def cgood (cz : fM → fM) (crz : fM → Int32) (N : Nat) (f : Nat → Int32) (N' : Nat) (f' : Nat → Int32) (r : Int32) : Prop := ∀ M : fM, SW N M 1 f → SW N' (cz M) 1 f' ∧ crz M = r ∧ ∀ a, a < 1 ∨ 24 < a → cz M a = M a
theorem It_kq {N : Nat} {M : fM} (h : It0 N M) : kq M := by
  obtain ⟨C, n, a1, a2, a3, -⟩ := h.2.1
  exact fun _ => ⟨C, a1, a3⟩
theorem It_73 {N : Nat} {M : fM} (h : It0 N M) : sm (M 73 1) 8 := by
  obtain ⟨C, n, a1, a2, a3, a4, a5, -⟩ := h.2.1
  exact sm_of a5 a2 (by decide)
/-- what both have after a change is an It0 -/
theorem It_mut {N N' : Nat} {M : fM} (h : It0 N M) (hN : N ≤ N') : SW N (m_X4_keep M 1) 1 (M 297) ∧ (∀ a, a < 73 ∨ 267 ≤ a → m_X4_keep M 1 a = M a) ∧ ∀ V W f', (∀ a, a < 1 ∨ 24 < a → a ≠ 267 → a ≠ 306 → V a = m_X4_keep M 1 a) → V 267 0 = M 267 0 → SW N' V 1 f' → ItT W → (∀ a, a ≠ 296 → a ≠ 297 → a ≠ 298 → W a = V a) → (∀ j, j ≠ 5 → j ≠ 7 → j ≠ 9 → W 296 j = V 296 j) → W 298 = m_X12_keeps M 297 127 298 → W 296 5 = m_X12_keeps M 297 127 296 5 → W 297 = f' → It0 N' W := by
  obtain ⟨C, n, a1, a2, a3, a4, a5, a6⟩ := h.2.1
  obtain ⟨f1, f2, f3, f4⟩ := kc_keep (k := 1) (by omega) a2 a1 a5 a4 h.1
  have hfr : ∀ a, a < 73 ∨ 267 ≤ a → m_X4_keep M 1 a = M a := fun a ha => f1 a (by omega) (by omega)
  refine ⟨h.1.ext fun a b1 b2 => hfr a (by omega), hfr, ?_⟩
  intro V W f' v1 v2 v3 hT w1 w2 w3 w4 w5
  have h6 := h.2.2.2.2.2.2.1
  rw [kp_out (by decide) (by decide) a1 h6 a3, fsr_at] at w3
  rw [kp_out (by decide) (by decide) a1 h6 a3, fsr_ne (by decide), fst1_at] at w4
  have hM : ∀ a, (a = 0 ∨ (24 < a ∧ a < 73) ∨ (268 ≤ a ∧ a ≠ 296 ∧ a ≠ 297 ∧ a ≠ 298 ∧ a ≠ 306)) → W a = M a := fun a ha => by
    rw [w1 a (by omega) (by omega) (by omega), v1 a (by omega) (by omega) (by omega), hfr a (by omega)]
  have hJ : ∀ j, j ≠ 5 → j ≠ 7 → j ≠ 9 → W 296 j = M 296 j := fun j j1 j2 j3 => by
    rw [w2 j j1 j2 j3, v1 296 (by omega) (by omega) (by omega), hfr 296 (by omega)]
  obtain ⟨-, -, hs, -, hl, he, hz⟩ := id h
  refine ⟨?_, ?_, ?_, hT, ?_, ?_, ?_⟩
  · rw [w5]
    exact v3.ext fun a b1 b2 => w1 a (by omega) (by omega) (by omega)
  · have hk := ItH_keep (W := W) (k := 1) (by omega) a2 a1 a5 a4 h.1 a6 (fun a b1 b2 => by rw [w1 a (by omega) (by omega) (by omega), v1 a (by omega) (by omega) (by omega)]) w3 w4
    exact hk.mono hN
  · exact (hs.ext (fun a b1 b2 => hM a (by omega)) (hM 299 (by omega)) (congrFun (hM 0 (by omega)) 10) (hJ 4 (by decide) (by decide) (by decide))).mono hN
  · exact hl.ext (hM 270 (by omega)) (hM 272 (by omega)) (hM 302 (by omega)) (hJ 13 (by decide) (by decide) (by decide))
  · exact he.ext (congrFun (hM 0 (by omega)) 11) (congrFun (hM 0 (by omega)) 12) (hJ 10 (by decide) (by decide) (by decide)) (hJ 11 (by decide) (by decide) (by decide))
  · exact hz.ext (hJ 6 (by decide) (by decide) (by decide)) (congrFun (hM 273 (by omega)) 0) (congrFun (hM 277 (by omega)) 0)
theorem op_bad {G : fG} {zh zm : fMi} {as : List Value} {c : Nat} {M : fM} {dv : UInt64} (h : It c M) {z : fM → fM} {rz : fM → Int32} {Nz : fM → Prop} {k : Int32} (hk : k ≠ 0) (hz : bad z rz Nz (M 297) k) (hh : fCt G zh 60 (.ref 0 :: (as ++ [.ref 306])) (sS M dv) 16 96 (fD (some (.int k)) (sS M dv))) (hm : ∀ W, Nz W → fCt G zm 60 (.ref 296 :: as) (sS W dv) 0 0 (fD (some (.int (rz W))) (sS (z W) dv))) : OPi G (It (c + 1)) zh zm M dv as := by
  obtain ⟨z1, z2, z3⟩ := hz M rfl (It_kq h)
  have hm := hm M z1
  rw [z2] at hm
  exact opi_mk h k _ _ _ Sm.code (fst1_at _ _ _ _) hh hm (fun q => absurd q hk)
theorem op_good {G : fG} {zh zm : fMi} {as : List Value} {c : Nat} {M : fM} {dv : UInt64} (h : It c M) {z cz : fM → fM} {rz crz : fM → Int32} {Nz : fM → Prop} {N' : Nat} {f' : Nat → Int32} {r : Int32} (hN1 : 32 * c + 1 ≤ N') (hN2 : N' ≤ 32 * (c + 1) + 1) (hc : cgood cz crz (32 * c + 1) (M 297) N' f' r) (hz : good z rz Nz (M 297) f' r) (hh : fCt G zh 60 (.ref 0 :: (as ++ [.ref 306])) (sS M dv) 16 96 (fD (some (.int 0)) (sS (fst1 (cz (m_X4_keep M 1)) 306 0 (crz (m_X4_keep M 1))) dv))) (hm : ∀ W, Nz W → fCt G zm 60 (.ref 296 :: as) (sS W dv) 0 0 (fD (some (.int (rz W))) (sS (z W) dv))) : OPi G (It (c + 1)) zh zm M dv as := by
  obtain ⟨k1, k2, k3⟩ := It_mut h hN1
  obtain ⟨c1, c2, c3⟩ := hc _ k1
  generalize hV : fst1 (cz (m_X4_keep M 1)) 306 0 (crz (m_X4_keep M 1)) = V at hh
  have hVa : ∀ a, a < 1 ∨ 24 < a → a ≠ 306 → V a = m_X4_keep M 1 a := fun a a1 a2 => by rw [← hV, fst1_ne a2, c3 a a1]
  have hV6 : V 306 0 = r := by rw [← hV, fst1_at, c2]
  have hVM : ∀ a, (24 < a ∧ a < 73) ∨ 267 ≤ a → a ≠ 306 → V a = M a := fun a a1 a2 => by rw [hVa a (by omega) a2, k2 a (by omega)]
  have hk0 : kq V := fun q => by
    rw [hVM 296 (by omega) (by omega)] at q ⊢
    exact It_kq h q
  have hk1 : kq (fst1 V 296 7 0) := hk0.code
  obtain ⟨z1, z2, z3⟩ := hz V (by rw [hVM 297 (by omega) (by omega)]) hk0
  have hm := hm V z1
  rw [z2, z3] at hm
  have e8 : m_X12_keeps (fst1 V 296 7 0) 297 127 298 = m_X12_keeps M 297 127 298 ∧ m_X12_keeps (fst1 V 296 7 0) 297 127 296 5 = m_X12_keeps M 297 127 296 5 := by
    have h6 := h.2.2.2.2.2.2.1
    obtain ⟨C, hC, h5⟩ := It_kq h h6
    have x5 : (fst1 V 296 7 (0 : Int32)) 296 5 = nI C := by rw [fst1_nj (by decide), hVM 296 (by omega) (by omega)]; exact h5
    have x6 : (fst1 V 296 7 (0 : Int32)) 296 6 = 0 := by rw [fst1_nj (by decide), hVM 296 (by omega) (by omega)]; exact h6
    rw [kp_out (by decide) (by decide) hC h6 h5, kp_out (by decide) (by decide) hC x6 x5, fsr_at, fsr_at, fsr_ne (by decide), fsr_ne (by decide), fst1_at, fst1_at, fst1_ne (by decide), fst1_ne (by decide), hVM 297 (by omega) (by omega), hVM 298 (by omega) (by omega)]
    exact ⟨rfl, rfl⟩
  have w1 : ∀ a, a ≠ 296 → a ≠ 297 → a ≠ 298 → (fsr (m_X12_keeps (fst1 V 296 7 0) 297 127) 297 f') a = V a := fun a a1 a2 a3 => by rw [fsr_ne a2, kp_ne hk1 a1 a3, fst1_ne a1]
  have w2 : ∀ j, j ≠ 5 → j ≠ 7 → (fsr (m_X12_keeps (fst1 V 296 7 0) 297 127) 297 f') 296 j = V 296 j := fun j j1 j2 => by rw [fsr_ne (by decide), kp_j hk1 j1 j2, fst1_nj j2]
  refine ⟨0, r, _, _, hh, hm, ?_, fun _ => ?_, ?_⟩
  · rw [fsr_ne (by decide), kp_code hk1]
  · rw [w1 306 (by decide) (by decide) (by decide), hV6]
  · refine It0.mono (k3 V _ f' (fun a a1 a2 a3 => hVa a a1 a3) (by rw [hVM 267 (by omega) (by omega)]) (c1.ext fun a a1 a2 => by rw [← hV, fst1_ne (by omega)]) ?_ w1 (fun j j1 j2 j3 => w2 j j1 j2) ?_ ?_ (fsr_at _ _ _)) hN2
    · refine h.2.2.2.1.ext ?_ ?_ ?_ ?_
      · rw [w1 267 (by decide) (by decide) (by decide), hVM 267 (by omega) (by omega)]
      · rw [w1 269 (by decide) (by decide) (by decide), hVM 269 (by omega) (by omega)]
      · rw [w1 301 (by decide) (by decide) (by decide), hVM 301 (by omega) (by omega)]
      · rw [w2 9 (by decide) (by decide), hVM 296 (by omega) (by omega)]
    · rw [fsr_ne (by decide)]; exact e8.1
    · rw [fsr_ne (by decide)]; exact e8.2
/-! a raw lot more -/
theorem lt6 {x : Int32} (h : x = nI x.toNatClampNeg) (h6 : x.toNatClampNeg ≤ 6) : ¬ x < (6 : Int32) ↔ x = (6 : Int32) := by
  rw [h, show (6 : Int32) = nI 6 from rfl, nI_ltI (by omega) (by omega), nI_eq (by omega) (by omega)]
  omega
def fRaw (f : Nat → Int32) : Nat → Int32 := up f 0 (f 0 + 1)
theorem g_raw {N : Nat} {f : Nat → Int32} (hf : WF N f) (h6 : ¬ f 0 = 6) : cgood (fun M => m_X0_addOneRaw M (1 + 1)) (fun M => r_X0_addOneRaw M (1 + 1)) N f N (fRaw f) (f 0) ∧ good m_X12_addRaw r_X12_addRaw N_X12_addRaw f (fRaw f) (f 0) := by
  obtain ⟨e0, h0⟩ := hf.raws
  have e6 : (f 0).toNatClampNeg ≠ 6 := fun q => h6 (by rw [e0, q]; rfl)
  have e1 : f 0 + 1 = nI ((f 0).toNatClampNeg + 1) := by rw [← nI_1, ← e0]
  have e2 : f 0 + 1 - 1 = f 0 := by rw [e1, nI_pred, ← e0]
  refine ⟨fun M hS => ⟨⟨?_, ?_⟩, ?_, fun a ha => ?_⟩, fun W hW hk => ⟨fun _ => N_kp hk.code, ?_, ?_⟩⟩
  · obtain ⟨⟨a1, a2, a3⟩, b, ⟨d0, d⟩, ⟨p1, p2⟩, e, g1, g2, g3, g4, g5⟩ := hS.1
    have u : ∀ b, b ≠ 0 → fRaw f b = f b := fun b hb => up_ne hb
    refine ⟨⟨?_, ?_, ?_⟩, ?_, ⟨?_, ?_⟩, ⟨?_, ?_⟩, ?_, ?_, ?_, ?_, ?_, ?_⟩
    · show fst1 M 2 2 (M 2 2 + 1) 2 2 = _
      rw [fst1_at, show M 2 2 = f 0 from a1]; rfl
    · show fst1 M 2 2 (M 2 2 + 1) 2 3 = _
      rw [fst1_nj (by decide), u 6 (by decide)]; exact a2
    · show fst1 M 2 2 (M 2 2 + 1) 2 4 = _
      rw [fst1_nj (by decide), u 1 (by decide)]; exact a3
    · intro q hq
      rw [u 1 (by decide)] at hq
      rw [u _ (by omega), u _ (by omega)]
      exact b q hq
    · rw [u 2 (by decide)]; exact d0
    · intro q hq
      rw [u 2 (by decide)] at hq
      rw [u _ (by omega)]
      refine ⟨(d q hq).1, fun i hi => ?_⟩
      rw [u _ (by omega)]
      exact (d q hq).2 i hi
    · rw [u 3 (by decide)]; exact p1
    · rw [u 4 (by decide)]; exact p2
    · intro q hq
      rw [u 3 (by decide)] at hq
      rw [u _ (by omega), u _ (by omega), u _ (by omega), u _ (by omega), u _ (by omega), u _ (by omega)]
      exact e q hq
    · rw [u 5 (by decide)]; exact g1
    · rw [u 7 (by decide)]; exact g2
    · rw [u 8 (by decide)]; exact g3
    · rw [u 9 (by decide)]; exact g4
    · rw [u 10 (by decide)]; exact g5
  · have u : ∀ b, b ≠ 0 → fRaw f b = f b := fun b hb => up_ne hb
    have u0 : fRaw f 0 = nI ((f 0).toNatClampNeg + 1) := (up_at rfl).trans e1
    obtain ⟨⟨a1, a2, a3, a4, a5⟩, b, d, e⟩ := hf
    refine ⟨⟨?_, ?_, ?_, ?_, ?_⟩, ?_, ?_, ?_⟩
    · rw [u0]; exact sm_nI (by omega) (by decide)
    · rw [u 1 (by decide)]; exact a2
    · rw [u 2 (by decide)]; exact a3
    · rw [u 3 (by decide)]; exact a4
    · rw [u 4 (by decide)]; exact a5
    · intro q hq
      rw [u 1 (by decide)] at hq
      rw [u _ (by omega), u _ (by omega), u0, nI_clamp (by omega)]
      obtain ⟨b1, b2, b3⟩ := b q hq
      exact ⟨b1, b2.mono (Nat.pow_le_pow_right (by decide) (by omega)), b3⟩
    · intro q hq
      rw [u 2 (by decide)] at hq
      rw [u _ (by omega)]
      refine ⟨(d q hq).1, fun i hi => ?_⟩
      rw [u _ (by omega)]
      exact (d q hq).2 i hi
    · intro q hq
      rw [u 3 (by decide)] at hq
      rw [u 1 (by decide), u 2 (by decide), u (79 + 6 * q) (by omega), u (79 + 6 * q + 1) (by omega), u (79 + 6 * q + 2) (by omega), u (79 + 6 * q + 3) (by omega), u (79 + 6 * q + 4) (by omega), u (79 + 6 * q + 5) (by omega)]
      exact e q hq
  · show (fst1 M 2 2 (M 2 2 + 1)) 2 2 - 1 = f 0
    rw [fst1_at, show M 2 2 = f 0 from hS.1.1.1, e2]
  · exact fst1_ne (by omega)
  · have e7 : m_X12_keeps (fst1 W 296 7 0) 297 127 297 = f := by rw [kp_ne hk.code (by decide) (by decide), fst1_ne (by decide), hW]
    rw [m_X12_addRaw, cl_0, hW, if_neg h6, a0_X12_addRaw, cl_0, e7, up1 e7]; rfl
  · have e7 : m_X12_keeps (fst1 W 296 7 0) 297 127 297 = f := by rw [kp_ne hk.code (by decide) (by decide), fst1_ne (by decide), hW]
    rw [r_X12_addRaw, cl_0, hW, if_neg h6, a0_X12_addRaw, cl_0, fst1_at, e7, e2]
theorem b_raw {f : Nat → Int32} (h6 : f 0 = 6) : bad m_X12_addRaw r_X12_addRaw N_X12_addRaw f 1 := by
  intro W hW hk
  refine ⟨fun q => absurd (by rw [cl_0, hW]; exact h6) q, ?_, ?_⟩
  · rw [m_X12_addRaw, cl_0, hW, if_pos h6]
  · rw [r_X12_addRaw, cl_0, hW, if_pos h6]
theorem k_raw {N : Nat} {M : fM} {f : Nat → Int32} (hS : SW N M 1 f) : r_X8_rawRefusal M 1 = if f 0 = 6 then 3 else 0 := by
  obtain ⟨e0, h0⟩ := hS.2.raws
  rw [r_X8_rawRefusal, hS.1.1.1]
  by_cases h6 : f 0 = 6
  · rw [if_neg ((lt6 e0 h0).mpr h6), if_pos h6]
  · rw [if_pos (Classical.not_not.mp fun q => h6 ((lt6 e0 h0).mp q)), if_neg h6]
section OPS5
variable {G : fG} {c : Nat} {M : fM} {dv : UInt64} {a b e f : Int32}
theorem op_0 (hG : fOK G) (h : It c M) : Op_0 G It c M dv a b e f := by
  have hS := h.1
  have hc := c_X11_addRaw hG (d := 40) (by decide) M dv (fun _ _ _ _ _ => It_73 h)
  rw [o_X11_addRaw, k_raw hS] at hc
  by_cases h6 : M 297 0 = 6
  · rw [if_pos h6, if_neg (by decide), if_neg (by decide), if_pos rfl] at hc
    exact op_bad h (by decide) (b_raw h6) (c_L_addRaw hG (by decide) (by decide) (by decide) M dv hc 1 _ (Or.inr ⟨_, rfl, rfl, rfl⟩)) (fun W hW => c_X12_addRaw hG (by decide) W dv hW)
  · rw [if_neg h6, if_neg (by decide), if_neg (by decide), if_neg (by decide), if_neg (by decide), if_neg (by decide)] at hc
    obtain ⟨g1, g2⟩ := g_raw hS.2 h6
    exact op_good h (Nat.le_refl _) (by omega) g1 g2 (c_L_addRaw hG (by decide) (by decide) (by decide) M dv hc 0 _ (Or.inl ⟨_, _, rfl, rfl, rfl⟩)) (fun W hW => c_X12_addRaw hG (by decide) W dv hW)
end OPS5
