/-! ===== commands carried out ===== -/
def zK (K : Nat) (v : Nat → Int32) : fM → fM := match K with | 0 => m_X12_addRaw | 1 => fun W => m_X12_mix W (v 0) (v 1) | 2 => fun W => m_X12_fill W (v 0) (v 1) (v 2) (v 3) | 3 => fun W => m_X12_ship W (v 0) | 4 => fun W => m_X12_pass W (v 0) | _ => fun W => m_X12_recall W (v 0)
def rzK (K : Nat) (v : Nat → Int32) : fM → Int32 := match K with | 0 => r_X12_addRaw | 1 => fun W => r_X12_mix W (v 0) (v 1) | 2 => fun W => r_X12_fill W (v 0) (v 1) (v 2) (v 3) | 3 => fun W => r_X12_ship W (v 0) | 4 => fun W => r_X12_pass W (v 0) | _ => fun W => r_X12_recall W (v 0)
def NzK (K : Nat) (v : Nat → Int32) : fM → Prop := match K with | 0 => N_X12_addRaw | 1 => fun W => N_X12_mix W (v 0) (v 1) | 2 => fun W => N_X12_fill W (v 0) (v 1) (v 2) (v 3) | 3 => fun W => N_X12_ship W (v 0) | 4 => fun W => N_X12_pass W (v 0) | _ => fun W => N_X12_recall W (v 0)
def refK (K : Nat) (v : Nat → Int32) : fM → Int32 := match K with | 0 => fun M => r_X8_rawRefusal M 1 | 1 => fun M => r_X8_mixRefusal M 1 (v 0) (v 1) | 2 => fun M => r_X8_fillRefusal M 1 (v 0) (v 1) (v 2) (v 3) | 3 => fun M => r_X8_shipRefusal M 1 (v 0) | 4 => fun M => r_X8_passRefusal M 1 (v 0) | _ => fun M => r_X8_recallRefusal M 1 (v 0)
def pfK (K : Nat) (v : Nat → Int32) : fM → fM := match K with | 0 => fun M => m_X0_addOneRaw M (1 + 1) | 1 => fun M => m_X0_addBatch M (1 + 1) (v 0) (v 1) | 2 => fun M => m_X8_fillLot M 1 (v 0) (v 1) (v 2) (v 3) | 3 => fun M => m_X8_shipLot M 1 (v 0) | 4 => fun M => m_X8_passDays M 1 (v 0) | _ => fun M => m_X8_recallRaw M 1 (v 0) (M (1 + 11) 6).toNatClampNeg
section PERF
variable {N c K : Nat} {V W : fM} {f v : Nat → Int32}
theorem car (hK : K < 6) (hc : c < 16) (hk : W 305 (5 * c) = nI K) (hv : ∀ t, t < ar K → W 305 (5 * c + 1 + t) = v t) : (NzK K v W → N_X12_carries W (nI (5 * c))) ∧ m_X12_carries W (nI (5 * c)) = zK K v W ∧ r_X12_carries W (nI (5 * c)) = rzK K v W := by
  have e0 : (nI (5 * c)).toNatClampNeg = 5 * c := nI_clamp (by omega)
  have a1 : nI (5 * c) + 1 = nI (5 * c + 1 + 0) := nI_add _ 1
  have a2 : nI (5 * c) + 2 = nI (5 * c + 1 + 1) := nI_add _ 2
  have a3 : nI (5 * c) + 3 = nI (5 * c + 1 + 2) := nI_add _ 3
  have a4 : nI (5 * c) + 4 = nI (5 * c + 1 + 3) := nI_add _ 4
  have e1 : ∀ t, t < 4 → (nI (5 * c + 1 + t)).toNatClampNeg = 5 * c + 1 + t := fun t ht => nI_clamp (by omega)
  have i0 : vp_in (nI (5 * c)) 155 := vp_in_nI (by omega) (by decide)
  have i1 : ∀ t, t < 4 → vp_in (nI (5 * c + 1 + t)) 155 := fun t ht => vp_in_nI (by omega) (by decide)
  rw [N_X12_carries, m_X12_carries, r_X12_carries, a0_X12_carries, a1, a2, a3, a4, e0, hk, e1 0 (by omega), e1 1 (by omega), e1 2 (by omega), e1 3 (by omega)]
  have : K = 0 ∨ K = 1 ∨ K = 2 ∨ K = 3 ∨ K = 4 ∨ K = 5 := by omega
  rcases this with rfl | rfl | rfl | rfl | rfl | rfl
  · have h0 : nI 0 = (0 : Int32) := rfl
    rw [if_pos h0, if_pos h0]
    exact ⟨fun h => ⟨i1 0 (by omega), i1 1 (by omega), i0, fun _ => h, fun q => absurd h0 q, fun q => absurd h0 q, fun q => absurd h0 q, fun q => absurd h0 q, fun q => absurd h0 q, fun q => absurd h0 q, fun q => absurd h0 q⟩, rfl, rfl⟩
  · have n0 : ¬ nI 1 = (0 : Int32) := by decide
    have h1 : nI 1 = (1 : Int32) := rfl
    rw [if_neg n0, if_neg n0, if_pos h1, if_pos h1, hv 0 (by decide), hv 1 (by decide)]
    exact ⟨fun h => ⟨i1 0 (by omega), i1 1 (by omega), i0, fun q => absurd q n0, fun _ _ => h, fun _ q => absurd h1 q, fun _ q => absurd h1 q, fun _ q => absurd h1 q, fun _ q => absurd h1 q, fun _ q => absurd h1 q, fun _ q => absurd h1 q⟩, rfl, rfl⟩
  · have n0 : ¬ nI 2 = (0 : Int32) := by decide
    have n1 : ¬ nI 2 = (1 : Int32) := by decide
    have h2 : nI 2 = (2 : Int32) := rfl
    rw [if_neg n0, if_neg n0, if_neg n1, if_neg n1, if_pos h2, if_pos h2, hv 0 (by decide), hv 1 (by decide), hv 2 (by decide), hv 3 (by decide)]
    exact ⟨fun h => ⟨i1 0 (by omega), i1 1 (by omega), i0, fun q => absurd q n0, fun _ q => absurd q n1, fun _ _ _ => i1 2 (by omega), fun _ _ _ => i1 3 (by omega), fun _ _ _ => h, fun _ _ q => absurd h2 q, fun _ _ q => absurd h2 q, fun _ _ q => absurd h2 q⟩, rfl, rfl⟩
  · have n0 : ¬ nI 3 = (0 : Int32) := by decide
    have n1 : ¬ nI 3 = (1 : Int32) := by decide
    have n2 : ¬ nI 3 = (2 : Int32) := by decide
    have h3 : nI 3 = (3 : Int32) := rfl
    rw [if_neg n0, if_neg n0, if_neg n1, if_neg n1, if_neg n2, if_neg n2, if_pos h3, if_pos h3, hv 0 (by decide)]
    exact ⟨fun h => ⟨i1 0 (by omega), i1 1 (by omega), i0, fun q => absurd q n0, fun _ q => absurd q n1, fun _ _ q => absurd q n2, fun _ _ q => absurd q n2, fun _ _ q => absurd q n2, fun _ _ _ _ => h, fun _ _ _ q => absurd h3 q, fun _ _ _ q => absurd h3 q⟩, rfl, rfl⟩
  · have n0 : ¬ nI 4 = (0 : Int32) := by decide
    have n1 : ¬ nI 4 = (1 : Int32) := by decide
    have n2 : ¬ nI 4 = (2 : Int32) := by decide
    have n3 : ¬ nI 4 = (3 : Int32) := by decide
    have h4 : nI 4 = (4 : Int32) := rfl
    rw [if_neg n0, if_neg n0, if_neg n1, if_neg n1, if_neg n2, if_neg n2, if_neg n3, if_neg n3, if_pos h4, if_pos h4, hv 0 (by decide)]
    exact ⟨fun h => ⟨i1 0 (by omega), i1 1 (by omega), i0, fun q => absurd q n0, fun _ q => absurd q n1, fun _ _ q => absurd q n2, fun _ _ q => absurd q n2, fun _ _ q => absurd q n2, fun _ _ _ q => absurd q n3, fun _ _ _ _ _ => h, fun _ _ _ _ q => absurd h4 q⟩, rfl, rfl⟩
  · have n0 : ¬ nI 5 = (0 : Int32) := by decide
    have n1 : ¬ nI 5 = (1 : Int32) := by decide
    have n2 : ¬ nI 5 = (2 : Int32) := by decide
    have n3 : ¬ nI 5 = (3 : Int32) := by decide
    have n4 : ¬ nI 5 = (4 : Int32) := by decide
    rw [if_neg n0, if_neg n0, if_neg n1, if_neg n1, if_neg n2, if_neg n2, if_neg n3, if_neg n3, if_neg n4, if_neg n4, hv 0 (by decide)]
    exact ⟨fun h => ⟨i1 0 (by omega), i1 1 (by omega), i0, fun q => absurd q n0, fun _ q => absurd q n1, fun _ _ q => absurd q n2, fun _ _ q => absurd q n2, fun _ _ q => absurd q n2, fun _ _ _ q => absurd q n3, fun _ _ _ _ q => absurd q n4, fun _ _ _ _ _ => h⟩, rfl, rfl⟩
theorem arg_eq (hc : c < 20) {t : Nat} (ht : t < 4) (X : Int32) (hX : X = nI t) : r_X1_argument V (nI c) X = V 283 (4 * c + t) := by
  subst hX
  rw [r_X1_argument, show (4 : Int32) = nI 4 from rfl, pk_mul, nI_add, show c * 4 + t = 4 * c + t by omega, rget_in (by omega) (by decide)]
theorem clas (hK : K < 6) (hc : c < 16) (hk : V 281 c = nI K) (hv : ∀ t, t < ar K → V 283 (4 * c + t) = v t) : r_X11_refusalOf V (nI c) = refK K v V ∧ m_X11_perform V (nI c) = pfK K v V := by
  have hr : rget V 280 20 (nI c) = nI K := by rw [rget_in (by omega) (by decide)]; exact hk
  rw [r_X11_refusalOf, m_X11_perform, hr, arg_eq (by omega) (t := 0) (by omega) 0 rfl, arg_eq (by omega) (t := 1) (by omega) 1 rfl, arg_eq (by omega) (t := 2) (by omega) 2 rfl, arg_eq (by omega) (t := 3) (by omega) 3 rfl]
  have : K = 0 ∨ K = 1 ∨ K = 2 ∨ K = 3 ∨ K = 4 ∨ K = 5 := by omega
  rcases this with rfl | rfl | rfl | rfl | rfl | rfl
  · exact ⟨rfl, rfl⟩
  · rw [hv 0 (by decide), hv 1 (by decide)]; exact ⟨rfl, rfl⟩
  · rw [hv 0 (by decide), hv 1 (by decide), hv 2 (by decide), hv 3 (by decide)]; exact ⟨rfl, rfl⟩
  · rw [hv 0 (by decide)]; exact ⟨rfl, rfl⟩
  · rw [hv 0 (by decide)]; exact ⟨rfl, rfl⟩
  · rw [hv 0 (by decide)]; exact ⟨rfl, rfl⟩
theorem cstep (hS : SW N V 1 f) (hN : N < 2 ^ 20) (hK : K < 6) : (refK K v V = 0 ∧ ∃ (N' : Nat) (f' : Nat → Int32) (crz : fM → Int32) (r : Int32), N ≤ N' ∧ N' ≤ N + 1 ∧ cgood (pfK K v) crz N f N' f' r ∧ good (zK K v) (rzK K v) (NzK K v) f f' r) ∨ (¬ refK K v V = 0 ∧ ∃ k : Int32, ¬ k ≤ 0 ∧ bad (zK K v) (rzK K v) (NzK K v) f k) := by
  have hf := hS.2
  have : K = 0 ∨ K = 1 ∨ K = 2 ∨ K = 3 ∨ K = 4 ∨ K = 5 := by omega
  rcases this with rfl | rfl | rfl | rfl | rfl | rfl
  · have k := k_raw hS
    by_cases h6 : f 0 = 6
    · rw [if_pos h6] at k
      exact Or.inr ⟨fun q => absurd (k.symm.trans q) (by decide), 1, by decide, b_raw h6⟩
    · rw [if_neg h6] at k
      obtain ⟨g1, g2⟩ := g_raw hf h6
      exact Or.inl ⟨k, N, _, _, _, Nat.le_refl _, by omega, g1, g2⟩
  · rcases k_mix hS (v 0) (v 1) with ⟨k1, k2⟩ | ⟨k1, k3, k2⟩ | ⟨k1, k3, k4, k2⟩ | ⟨k1, k3, k4, k2⟩
    · exact Or.inr ⟨fun q => absurd (k2.symm.trans q) (by decide), 1, by decide, b_mix hf k1⟩
    · have hb := b_mix2 hf k1 (Or.inl k3)
      rw [if_pos k3] at hb
      exact Or.inr ⟨fun q => absurd (k2.symm.trans q) (by decide), 2, by decide, hb⟩
    · have hb := b_mix2 hf k1 (Or.inr k4)
      rw [if_neg k3] at hb
      exact Or.inr ⟨fun q => absurd (k2.symm.trans q) (by decide), 3, by decide, hb⟩
    · obtain ⟨g1, g2⟩ := g_mix hf k1 k3 k4
      exact Or.inl ⟨k2, N, _, _, _, Nat.le_refl _, by omega, g1, g2⟩
  · rcases k_fill hS (v 0) (v 1) (v 2) (v 3) with ⟨k1, k2⟩ | ⟨k1, k3, k2⟩ | ⟨k1, k3, k4, k2⟩ | ⟨k1, k3, k4, k5, k2⟩ | ⟨k1, k3, k4, k5, k2⟩
    · exact Or.inr ⟨fun q => absurd (k2.symm.trans q) (by decide), 1, by decide, b_fill1 hf k1⟩
    · exact Or.inr ⟨fun q => absurd (k2.symm.trans q) (by decide), 2, by decide, b_fill2 hf k1 k3⟩
    · exact Or.inr ⟨fun q => absurd (k2.symm.trans q) (by decide), 3, by decide, b_fill3 hf k1 k3 k4⟩
    · exact Or.inr ⟨fun q => absurd (k2.symm.trans q) (by decide), 4, by decide, b_fill4 hf k1 k3 k4 k5⟩
    · obtain ⟨g1, g2⟩ := g_fill hf k1 k3 k4 k5 hN
      exact Or.inl ⟨k2, N + 1, _, _, _, by omega, Nat.le_refl _, g1, g2⟩
  · rcases k_ship hS (v 0) with ⟨k1, k2⟩ | ⟨p, k1, k3, k2⟩
    · exact Or.inr ⟨fun q => absurd (k2.symm.trans q) (by decide), 1, by decide, b_ship hf k1⟩
    · obtain ⟨g1, g2⟩ := g_ship hf k1 k3
      exact Or.inl ⟨k2, N, _, _, _, Nat.le_refl _, by omega, g1, g2⟩
  · rcases k_pass V (v 0) with ⟨k1, k2⟩ | ⟨k1, k2⟩
    · exact Or.inr ⟨fun q => absurd (k2.symm.trans q) (by decide), 1, by decide, b_pass k1⟩
    · obtain ⟨g1, g2⟩ := g_pass hf k1
      exact Or.inl ⟨k2, N, _, _, _, Nat.le_refl _, by omega, g1, g2⟩
  · rcases k_rec hS (v 0) with ⟨k1, k2⟩ | ⟨k1, k3, k2⟩ | ⟨k1, k3, k2⟩
    · exact Or.inr ⟨fun q => absurd (k2.symm.trans q) (by decide), 1, by decide, b_rec hf k1⟩
    · exact Or.inr ⟨fun q => absurd (k2.symm.trans q) (by decide), 2, by decide, b_rec2 hf k1 k3⟩
    · obtain ⟨g1, g2⟩ := g_rec hf k1 k3
      exact Or.inl ⟨k2, N, _, _, _, Nat.le_refl _, by omega, g1, g2⟩
/-- the model within: it keeps nothing -/
theorem kp_w (h6 : ¬ W 296 6 = 0) : m_X12_keeps (fst1 W 296 7 0) 297 127 = fst1 W 296 7 0 := by
  rw [kp_in (by rw [fst1_nj (by decide)]; exact h6), fst1_2]
def CK (n : Nat) (V : fM) : Prop := V 276 3 = nI n ∧ ∀ x, x < n → ∃ K, K < 6 ∧ V 281 x = nI K ∧ ∀ t, t < ar K → sm (V 283 (4 * x + t)) 100
def Wk (n : Nat) (V W : fM) (f : Nat → Int32) : Prop := W 297 = f ∧ ¬ W 296 6 = 0 ∧ W 296 7 = 0 ∧ W 296 18 = nI n ∧ ∀ x, x < n → CC V W x
def Wf (W W' : fM) : Prop := (∀ a, a ≠ 296 → a ≠ 297 → W' a = W a) ∧ ∀ b, b ≠ 7 → W' 296 b = W 296 b
theorem CC.ext {V' W' : fM} {x : Nat} (h : CC V W x) (h1 : V' 281 = V 281) (h2 : V' 283 = V 283) (h3 : W' 305 = W 305) : CC V' W' x := by
  unfold CC
  rw [h1, h2, h3]
  exact h
/-- one command on the model's side -/
theorem m_one {n : Nat} (hS : SW N V 1 f) (hN : N < 2 ^ 20) (hc : c < n) (hn : n ≤ 16) (hW1 : W 297 = f) (hW2 : ¬ W 296 6 = 0) (hcc : CC V W c) : N_X12_carries W (nI (5 * c)) ∧ ((r_X11_refusalOf V (nI c) = 0 ∧ ∃ (N' : Nat) (f' : Nat → Int32), N ≤ N' ∧ N' ≤ N + 1 ∧ SW N' (m_X11_perform V (nI c)) 1 f' ∧ (∀ q, q < 1 ∨ 24 < q → m_X11_perform V (nI c) q = V q) ∧ m_X12_carries W (nI (5 * c)) = fsr (fst1 W 296 7 0) 297 f') ∨ (¬ r_X11_refusalOf V (nI c) = 0 ∧ ∃ k : Int32, ¬ k ≤ 0 ∧ m_X12_carries W (nI (5 * c)) = fst1 W 296 7 k ∧ r_X12_carries W (nI (5 * c)) = 0)) := by
  obtain ⟨K, k1, k2, k3, k4⟩ := hcc
  obtain ⟨c1, c2, c3⟩ := car (v := fun t => V 283 (4 * c + t)) k1 (by omega) k3 (fun t ht => (k4 t ht).2)
  obtain ⟨d1, d2⟩ := clas (v := fun t => V 283 (4 * c + t)) k1 (by omega) k2 (fun t ht => rfl)
  have hk : kq W := fun q => absurd q hW2
  rcases cstep (v := fun t => V 283 (4 * c + t)) hS hN k1 with ⟨e1, N', f', crz, r, e2, e3, e4, e5⟩ | ⟨e1, k, e2, e3⟩
  · obtain ⟨z1, z2, z3⟩ := e5 W hW1 hk
    obtain ⟨g1, -, g3⟩ := e4 V hS
    rw [kp_w hW2] at z2
    exact ⟨c1 z1, Or.inl ⟨d1.trans e1, N', f', e2, e3, by rw [d2]; exact g1, by rw [d2]; exact g3, c2.trans z2⟩⟩
  · obtain ⟨z1, z2, z3⟩ := e3 W hW1 hk
    exact ⟨c1 z1, Or.inr ⟨fun q => e1 (d1.symm.trans q), k, e2, c2.trans z2, c3.trans z3⟩⟩
theorem one_ok {n : Nat} (hS : SW N V 1 f) (hN : N < 2 ^ 20) (hc : c < n) (hn : n ≤ 16) (hK : K < 6) (hk : V 281 c = nI K) (h0 : r_X11_refusalOf V (nI c) = 0) : ∃ (N' : Nat) (f' : Nat → Int32), N ≤ N' ∧ N' ≤ N + 1 ∧ SW N' (m_X11_perform V (nI c)) 1 f' ∧ (∀ q, q < 1 ∨ 24 < q → m_X11_perform V (nI c) q = V q) ∧ ∀ W : fM, W 297 = f → ¬ W 296 6 = 0 → CC V W c → m_X12_carries W (nI (5 * c)) = fsr (fst1 W 296 7 0) 297 f' := by
  obtain ⟨d1, d2⟩ := clas (v := fun t => V 283 (4 * c + t)) hK (by omega) hk (fun t ht => rfl)
  rcases cstep (v := fun t => V 283 (4 * c + t)) hS hN hK with ⟨e1, N', f', crz, r, e2, e3, e4, e5⟩ | ⟨e1, -⟩
  · obtain ⟨g1, -, g3⟩ := e4 V hS
    refine ⟨N', f', e2, e3, by rw [d2]; exact g1, by rw [d2]; exact g3, fun W hW1 hW2 hcc => ?_⟩
    obtain ⟨K', k1, k2, k3, k4⟩ := hcc
    have : K' = K := (nI_eq (by omega) (by omega)).mp (k2.symm.trans hk)
    subst this
    obtain ⟨c1, c2, c3⟩ := car (v := fun t => V 283 (4 * c + t)) k1 (by omega) k3 (fun t ht => (k4 t ht).2)
    obtain ⟨z1, z2, z3⟩ := e5 W hW1 (fun q => absurd q hW2)
    rw [kp_w hW2] at z2
    exact c2.trans z2
  · exact absurd (d1.symm.trans h0) e1
theorem ex_W (n : Nat) (hn : n ≤ 16) (hk : CK n V) (f : Nat → Int32) {c : Nat} (hc : c < n) : ∃ W : fM, W 297 = f ∧ ¬ W 296 6 = 0 ∧ CC V W c := by
  obtain ⟨K, k1, k2, k3⟩ := hk.2 c hc
  refine ⟨fsr (fst1 (fsr (fun _ _ => 0) 305 (fun b => if b = 5 * c then nI K else V 283 (4 * c + (b - (5 * c + 1))))) 296 6 1) 297 f, fsr_at _ _ _, by rw [fsr_ne (by decide), fst1_at]; decide, K, k1, k2, ?_, fun t ht => ⟨k3 t ht, ?_⟩⟩
  · rw [fsr_ne (by decide), fst1_ne (by decide), fsr_at]; exact if_pos rfl
  · rw [fsr_ne (by decide), fst1_ne (by decide), fsr_at]
    show (if 5 * c + 1 + t = 5 * c then nI K else V 283 (4 * c + (5 * c + 1 + t - (5 * c + 1)))) = _
    rw [if_neg (by omega), show 5 * c + 1 + t - (5 * c + 1) = t by omega]
theorem run {n : Nat} (hn : n ≤ 16) : ∀ (r c m N : Nat) (f : Nat → Int32) (V : fM), c + r = n → r < m → SW N V 1 f → N + r < 2 ^ 20 → CK n V →
    (∃ (N' : Nat) (f' : Nat → Int32) (V' : fM), l_X11_performAll V m c = (-1, m_X4_keep V' 25) ∧ N ≤ N' ∧ N' ≤ N + r ∧ SW N' V' 1 f' ∧ (∀ q, q < 1 ∨ 24 < q → V' q = V q) ∧ ∀ (W : fM) (m2 j2 : Nat) (v3 : Int32), r < m2 → Wk n V W f → ∃ (v3' : Int32) (W' : fM), l_X12_executeL W m2 j2 (nI c) v3 = (nI n, v3', W') ∧ W' 297 = f' ∧ Wf W W' ∧ W' 296 7 = 0) ∨
    (∃ (q : Nat) (V' : fM), c ≤ q ∧ q < n ∧ l_X11_performAll V m c = (nI q, m_X8_copyFrom V' 1 25) ∧ (∀ q, q < 1 ∨ 24 < q → V' q = V q) ∧ ∀ (W : fM) (m2 j2 : Nat) (v3 : Int32), r < m2 → Wk n V W f → ∃ W' : fM, l_X12_executeL W m2 j2 (nI c) v3 = (nI q, 0, W') ∧ Wf W W' ∧ ¬ W' 296 7 ≤ 0) := by
  intro r
  induction r with
  | zero =>
    intro c m N f V h1 h2 hS hN hk
    obtain ⟨m, rfl⟩ : ∃ q, m = q + 1 := ⟨m - 1, by omega⟩
    refine Or.inl ⟨N, f, V, ?_, Nat.le_refl _, Nat.le_refl _, hS, fun _ _ => rfl, fun W m2 j2 v3 h3 hW => ⟨v3, W, ?_, hW.1, ⟨fun _ _ _ => rfl, fun _ _ => rfl⟩, hW.2.2.1⟩⟩
    · rw [l_X11_performAll, hk.1, if_pos (nI_le (by omega) (by omega))]
    · obtain ⟨m2, rfl⟩ : ∃ q, m2 = q + 1 := ⟨m2 - 1, by omega⟩
      rw [l_X12_executeL, hW.2.2.2.1, if_pos (nI_le (by omega) (by omega)), show c = n by omega]
  | succ r ih =>
    intro c m N f V h1 h2 hS hN hk
    obtain ⟨m, rfl⟩ : ∃ q, m = q + 1 := ⟨m - 1, by omega⟩
    have hcn : c < n := by omega
    have e5 : (5 : Int32) * nI c = nI (5 * c) := pk_mul 5 c
    obtain ⟨W0, w1, w2, w3⟩ := ex_W n hn hk f hcn
    rw [l_X11_performAll, hk.1, if_neg (nI_ge hcn (by omega))]
    by_cases a1 : r_X11_refusalOf V (nI c) = 0
    · rw [if_pos a1]
      obtain ⟨K, k1, k2, k3⟩ := hk.2 c hcn
      obtain ⟨N', f', a2, a3, a4, a5, a6⟩ := one_ok hS (by omega) hcn hn k1 k2 a1
      have hk' : CK n (m_X11_perform V (nI c)) := by
        unfold CK
        rw [a5 276 (by omega), a5 281 (by omega), a5 283 (by omega)]
        exact hk
      have hstep : ∀ (W : fM) (m2 j2 : Nat) (v3 : Int32), Wk n V W f → l_X12_executeL W (m2 + 1) j2 (nI c) v3 = l_X12_executeL (fsr (fst1 W 296 7 0) 297 f') m2 (j2 + 1) (nI (c + 1)) (r_X12_carries W (nI (5 * c))) ∧ Wk n (m_X11_perform V (nI c)) (fsr (fst1 W 296 7 0) 297 f') f' := fun W m2 j2 v3 hW => by
        have b3 := a6 W hW.1 hW.2.1 (hW.2.2.2.2 c hcn)
        refine ⟨?_, fsr_at _ _ _, by rw [fsr_ne (by decide), fst1_nj (by decide)]; exact hW.2.1, by rw [fsr_ne (by decide), fst1_at], by rw [fsr_ne (by decide), fst1_nj (by decide)]; exact hW.2.2.2.1, fun x hx => (hW.2.2.2.2 x hx).ext (a5 281 (by omega)) (a5 283 (by omega)) (by rw [fsr_ne (by decide), fst1_ne (by decide)])⟩
        rw [l_X12_executeL, hW.2.2.2.1, if_neg (nI_ge hcn (by omega)), if_pos hW.2.2.1, e5, b3, fsr_ne (show 296 ≠ 297 by decide), fst1_at, if_pos rfl, nI_1]
      have hWf : ∀ W W' : fM, Wf (fsr (fst1 W 296 7 0) 297 f') W' → Wf W W' := fun W W' h => ⟨fun a q1 q2 => by rw [h.1 a q1 q2, fsr_ne q2, fst1_ne q1], fun b hb => by rw [h.2 b hb, fsr_ne (by decide), fst1_nj hb]⟩
      rcases ih (c + 1) m N' f' (m_X11_perform V (nI c)) (by omega) (by omega) a4 (by omega) hk' with ⟨N2, f2, V2, b1, b2, b3, b4, b5, b6⟩ | ⟨q, V2, b1, b2, b3, b4, b5⟩
      · refine Or.inl ⟨N2, f2, V2, b1, by omega, by omega, b4, fun q hq => (b5 q hq).trans (a5 q hq), fun W m2 j2 v3 h3 hW => ?_⟩
        obtain ⟨m2, rfl⟩ : ∃ q, m2 = q + 1 := ⟨m2 - 1, by omega⟩
        obtain ⟨x1, x2⟩ := hstep W m2 j2 v3 hW
        obtain ⟨v3', W', y1, y2, y3, y4⟩ := b6 _ m2 (j2 + 1) (r_X12_carries W (nI (5 * c))) (by omega) x2
        exact ⟨v3', W', x1.trans y1, y2, hWf _ _ y3, y4⟩
      · refine Or.inr ⟨q, V2, by omega, b2, b3, fun q hq => (b4 q hq).trans (a5 q hq), fun W m2 j2 v3 h3 hW => ?_⟩
        obtain ⟨m2, rfl⟩ : ∃ q, m2 = q + 1 := ⟨m2 - 1, by omega⟩
        obtain ⟨x1, x2⟩ := hstep W m2 j2 v3 hW
        obtain ⟨W', y1, y2, y3⟩ := b5 _ m2 (j2 + 1) (r_X12_carries W (nI (5 * c))) (by omega) x2
        exact ⟨W', x1.trans y1, hWf _ _ y2, y3⟩
    · rw [if_neg a1]
      refine Or.inr ⟨c, V, Nat.le_refl _, hcn, rfl, fun _ _ => rfl, fun W m2 j2 v3 h3 hW => ?_⟩
      obtain ⟨m2, rfl⟩ : ∃ q, m2 = q + 1 := ⟨m2 - 1, by omega⟩
      obtain ⟨-, b⟩ := m_one hS (by omega) hcn hn hW.1 hW.2.1 (hW.2.2.2.2 c hcn)
      rcases b with ⟨b1, -⟩ | ⟨-, k, b2, b3, b4⟩
      · exact absurd b1 a1
      · have hk0 : ¬ k = 0 := fun q => b2 (by rw [q]; decide)
        refine ⟨fst1 W 296 7 k, ?_, ⟨fun a q1 q2 => fst1_ne q1, fun b hb => fst1_nj hb⟩, by rw [fst1_at]; exact b2⟩
        rw [l_X12_executeL, hW.2.2.2.1, if_neg (nI_ge hcn (by omega)), if_pos hW.2.2.1, e5, b3, b4, fst1_at, if_neg hk0]
        cases m2 with
        | zero => rfl
        | succ m2 => rw [l_X12_executeL, fst1_nj (by decide), hW.2.2.2.1, if_neg (nI_ge hcn (by omega)), fst1_at, if_neg hk0]
end PERF
