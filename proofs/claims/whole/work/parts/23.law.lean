/-! ===== the law's body ===== -/
def z_L_law : fMi := (x, code, 9, ret, [])
theorem f_sld {G : fG} {z : fMi} {d pc : Nat} {Q : fR → fS → Prop} {ls : List (Option Value)} {st : List Value} {S : fS} {kc ks L q : Nat} {xs : Nat → Int32} (hX : va_X (gsa G 25) L xs (gs G) (gs G).heap) (hbl : gsa G 25 < fo G) {i : Int32} (hi : i = nI q) (hq : q < L) (hL : L < 2 ^ 31) (hd : decode z.2.1 pc = .ok (.iaload, 1)) (kk : fV G z d Q (pc + 1) ls (.int (xs q) :: st) S kc ks) : fV G z d Q pc ls (.int i :: .ref 4121 :: st) S kc ks := by
  intro p e s m args below meth c R Z H locs cells slots lsr hC hE h1 h2 h3 h4 hW hS hl
  obtain ⟨hx, hb, hml, hr, hown, hlocks, ht, hnm, hB⟩ := id hC
  subst hi
  have hX2 : va_X (gsa G 25) L xs s s.heap := (hX.kept (hB.2.1 _ hbl)).moved hB.1.alike
  have k2 := kk p e s m args below meth c R Z H locs cells slots lsr hC hE h1 h2 h3 h4 hW hS hl
  refine va_sld (i := nI q) hx hb hX2 (Nat.lt_of_lt_of_le hbl hB.2.2) (Nat.not_le.mpr hbl) hS (vp_in_nI hq hL) hd ?_
  rw [nI_clamp (by omega)]
  exact k2
theorem f_slen {G : fG} {z : fMi} {d pc : Nat} {Q : fR → fS → Prop} {ls : List (Option Value)} {st : List Value} {S : fS} {kc ks L : Nat} {xs : Nat → Int32} (hX : va_X (gsa G 25) L xs (gs G) (gs G).heap) (hbl : gsa G 25 < fo G) (hd : decode z.2.1 pc = .ok (.arraylength, 1)) (kk : fV G z d Q (pc + 1) ls (.int (nI L) :: st) S kc ks) : fV G z d Q pc ls (.ref 4121 :: st) S kc ks := by
  intro p e s m args below meth c R Z H locs cells slots lsr hC hE h1 h2 h3 h4 hW hS hl
  obtain ⟨hx, hb, hml, hr, hown, hlocks, ht, hnm, hB⟩ := id hC
  have hX2 : va_X (gsa G 25) L xs s s.heap := (hX.kept (hB.2.1 _ hbl)).moved hB.1.alike
  exact va_slen hx hb hX2 (Nat.lt_of_lt_of_le hbl hB.2.2) (Nat.not_le.mpr hbl) hS hd (kk p e s m args below meth c R Z H locs cells slots lsr hC hE h1 h2 h3 h4 hW hS hl)
theorem flv_store2 {G : fG} {ls : List (Option Value)} {lsr : Array Slot} {nL i : Nat} {v : Value} (h : lv_has lsr nL ((i, frl G v) :: (flv G ls 0).filter (fun q => !(q.1 == i) && (!(q.1 == i + 1) && !(q.1 + 1 == i && q.2.category == 2))))) (hw : fnw ls i = true) : lv_has lsr nL (flv G ((ls.set (i + 1) none).set i (some v)) 0) := by
  refine ⟨h.1, h.2.1, fun q hq => ?_⟩
  obtain ⟨k, w, h1, rfl⟩ := flv_inv _ _ _ hq
  rw [Nat.zero_add]
  by_cases hk : k = i
  · subst hk
    have hl : k < (ls.set (k + 1) none).length := by
      have := (List.getElem?_eq_some_iff.mp h1).1
      simpa using this
    rw [List.getElem?_set_self hl] at h1
    cases h1
    exact h.2.2 _ List.mem_cons_self
  · rw [List.getElem?_set_ne (Ne.symm hk)] at h1
    by_cases hk2 : k = i + 1
    · subst hk2
      have hl : i + 1 < ls.length := by
        have := (List.getElem?_eq_some_iff.mp h1).1
        simpa using this
      rw [List.getElem?_set_self hl] at h1
      cases h1
    · rw [List.getElem?_set_ne (Ne.symm hk2)] at h1
      refine h.2.2 (k, frl G w) (List.mem_cons_of_mem _ (List.mem_filter.mpr ⟨?_, ?_⟩))
      · have h2 := flv_get (G := G) ls 0 k w h1
        rwa [Nat.zero_add] at h2
      · have e1 : (k == i) = false := by simpa using hk
        have e3 : (k == i + 1) = false := by simpa using hk2
        have e2 : (k + 1 == i && (frl G w).category == 2) = false := by
          by_cases h3 : k + 1 = i
          · subst h3
            have h4 : (w.category == 1) = true := by
              have := hw
              simp only [fnw, h1] at this
              exact this
            rw [frl_cat]
            have h5 : w.category = 1 := by simpa using h4
            simp [h5]
          · simp [h3]
        show (!(k == i) && (!(k == i + 1) && !(k + 1 == i && (frl G w).category == 2))) = true
        rw [e1, e2, e3]
        rfl
theorem f_dstore {G : fG} {z : fMi} {d pc : Nat} {Q : fR → fS → Prop} {ls : List (Option Value)} {st : List Value} {S : fS} {kc ks : Nat} {i : Nat} {x : UInt64} {ls' : List (Option Value)} (hd : decode z.2.1 pc = .ok (.dstore i, 2)) (hn : i + 1 < z.2.2.1) (hw : fnw ls i = true) (he : (ls.set (i + 1) none).set i (some (.double x)) = ls') (kk : fV G z d Q (pc + 2) ls' st S kc ks) : fV G z d Q pc ls (.double x :: st) S kc ks := by
  intro p e s m args below meth c R Z H locs cells slots lsr hC hE h1 h2 h3 h4 hW hS hl
  subst he
  exact lv_dstore hC.1 hC.2.1 hd hl hn rfl (fun lsr2 hl2 => kk p e s m args below meth c R Z H locs cells slots lsr2 hC hE h1 h2 h3 h4 hW hS (flv_store2 hl2 hw))
theorem law_ix {q w : Nat} {W : Int32} (hW : W = nI w) : nI q + W = nI (q + w) := by rw [hW, nI_add]
theorem lcmp_eq (x : Int64) : lg_cmp x x = 0 := by simp [lg_cmp]
abbrev i2c (x : Int32) : Int32 := (x.toUInt32 % 65536).toInt32
/-- what the law asks of a call with a helper, without one, with a double, with a float -/
def OPi (G : fG) (Iv : fM → Prop) (zh zm : fMi) (M : fM) (dv : UInt64) (as : List Value) : Prop := ∃ (k b : Int32) (M1 M2 : fM), fCt G zh 60 (.ref 0 :: (as ++ [.ref 306])) (sS M dv) 16 96 (fD (some (.int k)) (sS M1 dv)) ∧ fCt G zm 60 (.ref 296 :: as) (sS M1 dv) 0 0 (fD (some (.int b)) (sS M2 dv)) ∧ M2 296 7 = k ∧ (k = 0 → M2 306 0 = b) ∧ Iv M2
def OPb (G : fG) (Iv : fM → Prop) (zh zm : fMi) (M : fM) (dv : UInt64) (as : List Value) : Prop := ∃ (k b : Int32) (M1 M2 : fM), fCt G zh 60 (.ref 0 :: (as ++ [.ref 306])) (sS M dv) 16 96 (fD (some (.int k)) (sS M1 dv)) ∧ fCt G zm 60 (.ref 296 :: as) (sS M1 dv) 0 0 (fD (some (.int b)) (sS M2 dv)) ∧ M2 296 7 = k ∧ (k = 0 → M2 306 0 = oL b) ∧ Iv M2
def OPp (G : fG) (Iv : fM → Prop) (zx zm : fMi) (M : fM) (dv : UInt64) : Prop := ∃ (b : Int32) (M1 M2 : fM), fCt G zx 60 [.ref 0] (sS M dv) 0 0 (fD (some (.int b)) (sS M1 dv)) ∧ fCt G zm 60 [.ref 296] (sS M1 dv) 0 0 (fD (some (.int b)) (sS M2 dv)) ∧ Iv M2
def OPd (G : fG) (Iv : fM → Prop) (zh zm : fMi) (M : fM) (dv : UInt64) : Prop := ∃ (k : Int32) (b dv2 : UInt64) (M1 M2 : fM), fCt G zh 60 [.ref 0, .ref 307] (sS M dv) 16 96 (fD (some (.int k)) (sS M1 dv2)) ∧ fCt G zm 60 [.ref 296] (sS M1 dv2) 0 0 (fD (some (.double b)) (sS M2 dv2)) ∧ M2 296 7 = k ∧ (k = 0 → Op.cmpValue (FP.dcmp dv2 b) CmpOp.l = 0) ∧ Iv M2
def OPf (G : fG) (Iv : fM → Prop) (zh zm : fMi) (M : fM) (dv : UInt64) : Prop := ∃ (k : Int32) (b : UInt32) (dv2 : UInt64) (M1 M2 : fM), fCt G zh 60 [.ref 0, .ref 307] (sS M dv) 16 96 (fD (some (.int k)) (sS M1 dv2)) ∧ fCt G zm 60 [.ref 296] (sS M1 dv2) 0 0 (fD (some (.float b)) (sS M2 dv2)) ∧ M2 296 7 = k ∧ (k = 0 → vf_n64 (FP.f2d b) ∧ Op.cmpValue (FP.dcmp dv2 (FP.f2d b)) CmpOp.l = 0) ∧ Iv M2
abbrev lLs (j : Nat) (a b c : Option Value) : List (Option Value) := [some (.ref 4121), some (.ref 0), some (.ref 296), some (.ref 306), some (.ref 307), some (.int (nI (5 * j))), a, b, c]
section LAW
variable {G : fG} {Q : fR → fS → Prop} {Iv : fM → Prop} {M : fM} {dv : UInt64} {kc ks L : Nat} {xs : Nat → Int32}
/-- the end of a round -/
theorem lw_next {j : Nat} {a b c : Option Value} (kk : fV G z_L_law 70 Q 28 (lLs (j + 1) none none none) [] (sS M dv) kc ks) : fV G z_L_law 70 Q 2709 (lLs j a b c) [] (sS M dv) kc ks := by
  refine f_iinc (v := nI (5 * (j + 1))) (ls' := lLs (j + 1) a b c) dL_law_2709 rfl (by rw [show (Int32.ofInt 5 : Int32) = nI 5 from rfl, nI_add]; rfl) (Nat.le_of_ble_eq_true rfl) rfl rfl ?_
  refine f_goto (tgt := 28) dL_law_2712 (by decide) ?_
  refine f_locals (ls' := lLs (j + 1) none none none) (fun k v h => ?_) kk
  match k, h with
  | 0, h => exact h
  | 1, h => exact h
  | 2, h => exact h
  | 3, h => exact h
  | 4, h => exact h
  | 5, h => exact h
  | 6, h => cases h
  | 7, h => cases h
  | 8, h => cases h
  | k + 9, h => cases h
set_option maxRecDepth 100000 in
set_option maxHeartbeats 4000000 in
theorem lw_case_0 (hG : fOK G) (hX : va_X (gsa G 25) L xs (gs G) (gs G).heap) (hbl : gsa G 25 < fo G) (hL : L ≤ 2560) (hkc : 16 ≤ kc) (hks : 96 ≤ ks) {j : Nat} (hj : 5 * j + 5 ≤ L) (hop : OPi G Iv z_L_addRaw z_X12_addRaw M dv []) (kk : ∀ (M2 : fM) (dv2 : UInt64), Iv M2 → fV G z_L_law 70 Q 28 (lLs (j + 1) none none none) [] (sS M2 dv2) (kc - 16) (ks - 96)) : fV G z_L_law 70 Q 280 (lLs j none none none) [] (sS M dv) kc ks := by
  obtain ⟨k, b, M1, M2, hh, hm, hk, hb, hI⟩ := hop
  refine f_aload_n dL_law_280 rfl rfl ?_
  refine f_aload_n dL_law_281 rfl rfl ?_
  refine f_cSW hG (As := [_, _]) dL_law_282 rfl k_L_addRaw rfl rfl ml_L_153 sm_L_addRaw hh (by decide) (by decide) hkc hks ?_
  refine f_istore (ls' := lLs j (some (.int k)) none none) dL_law_285 (Nat.le_of_ble_eq_true rfl) rfl rfl ?_
  refine f_aload_n dL_law_287 rfl rfl ?_
  refine f_cV hG (As := []) dL_law_288 rfl k_X12_addRaw rfl rfl ml_L_158 im_X12_addRaw se_X12_addRaw rfl rfl hm (by decide) (Nat.le_of_ble_eq_true rfl) (Nat.zero_le _) (Nat.zero_le _) ?_
  refine f_istore (ls' := lLs j (some (.int k)) (some (.int b)) none) dL_law_291 (Nat.le_of_ble_eq_true rfl) rfl rfl ?_
  refine f_aload_n dL_law_293 rfl rfl ?_
  refine f_cV hG (As := []) dL_law_294 rfl k_X12_thrown rfl rfl ml_L_159 im_X12_thrown se_X12_thrown rfl rfl (c_X12_thrown hG (d := 60) (Nat.zero_le _) M2 dv) (by decide) (by decide) (Nat.zero_le _) (Nat.zero_le _) ?_
  refine f_iload dL_law_297 rfl ?_
  refine f_icmp_eq (tgt := 304) dL_law_299 (by decide) (fun _ => ?_) (fun h => absurd (by rw [r_X12_thrown]; exact hk) h)
  refine f_iload dL_law_304 rfl ?_
  refine f_if_ne (tgt := 321) dL_law_306 (by decide) (fun _ => ?_) (fun h0 => ?_)
  · refine f_goto (tgt := 2709) dL_law_321 (by decide) ?_
    exact lw_next (f_less (kc' := kc - 16) (ks' := ks - 96) (by omega) (by omega) (kk M2 dv hI))
  · refine f_aload_n dL_law_309 rfl rfl ?_
    refine f_iconst (v := 0) dL_law_310 rfl ?_
    refine s_laload hG dL_law_311 rfl (vp_in_nI (n := 0) (by decide) (by decide)) ?_
    refine f_iload dL_law_312 rfl ?_
    refine f_i2l dL_law_314 ?_
    refine f_lcmp dL_law_315 ?_
    refine f_if_eq (tgt := 321) dL_law_316 (by decide) (fun _ => ?_) (fun h => absurd (by rw [show M2 306 (0 : Int32).toNatClampNeg = b from hb h0]; exact lcmp_eq _) h)
    refine f_goto (tgt := 2709) dL_law_321 (by decide) ?_
    exact lw_next (f_less (kc' := kc - 16) (ks' := ks - 96) (by omega) (by omega) (kk M2 dv hI))
set_option maxRecDepth 100000 in
set_option maxHeartbeats 4000000 in
theorem lw_case_1 (hG : fOK G) (hX : va_X (gsa G 25) L xs (gs G) (gs G).heap) (hbl : gsa G 25 < fo G) (hL : L ≤ 2560) (hkc : 16 ≤ kc) (hks : 96 ≤ ks) {j : Nat} (hj : 5 * j + 5 ≤ L) (hop : OPi G Iv z_L_mix z_X12_mix M dv [.int (xs (5 * j + 1)), .int (xs (5 * j + 2))]) (kk : ∀ (M2 : fM) (dv2 : UInt64), Iv M2 → fV G z_L_law 70 Q 28 (lLs (j + 1) none none none) [] (sS M2 dv2) (kc - 16) (ks - 96)) : fV G z_L_law 70 Q 324 (lLs j none none none) [] (sS M dv) kc ks := by
  obtain ⟨k, b, M1, M2, hh, hm, hk, hb, hI⟩ := hop
  refine f_aload_n dL_law_324 rfl rfl ?_
  refine f_aload_n dL_law_325 rfl rfl ?_
  refine f_iload dL_law_326 rfl ?_
  refine f_iconst (v := 1) dL_law_328 rfl ?_
  refine f_iadd dL_law_329 ?_
  refine f_sld (q := 5 * j + 1) hX hbl (law_ix (w := 1) rfl) (by omega) (by omega) dL_law_330 ?_
  refine f_aload_n dL_law_331 rfl rfl ?_
  refine f_iload dL_law_332 rfl ?_
  refine f_iconst (v := 2) dL_law_334 rfl ?_
  refine f_iadd dL_law_335 ?_
  refine f_sld (q := 5 * j + 2) hX hbl (law_ix (w := 2) rfl) (by omega) (by omega) dL_law_336 ?_
  refine f_aload_n dL_law_337 rfl rfl ?_
  refine f_cSW hG (As := [_, _, _, _]) dL_law_338 rfl k_L_mix rfl rfl ml_L_162 sm_L_mix hh (by decide) (by decide) hkc hks ?_
  refine f_istore (ls' := lLs j (some (.int k)) none none) dL_law_341 (Nat.le_of_ble_eq_true rfl) rfl rfl ?_
  refine f_aload_n dL_law_343 rfl rfl ?_
  refine f_aload_n dL_law_344 rfl rfl ?_
  refine f_iload dL_law_345 rfl ?_
  refine f_iconst (v := 1) dL_law_347 rfl ?_
  refine f_iadd dL_law_348 ?_
  refine f_sld (q := 5 * j + 1) hX hbl (law_ix (w := 1) rfl) (by omega) (by omega) dL_law_349 ?_
  refine f_aload_n dL_law_350 rfl rfl ?_
  refine f_iload dL_law_351 rfl ?_
  refine f_iconst (v := 2) dL_law_353 rfl ?_
  refine f_iadd dL_law_354 ?_
  refine f_sld (q := 5 * j + 2) hX hbl (law_ix (w := 2) rfl) (by omega) (by omega) dL_law_355 ?_
  refine f_cV hG (As := [_, _]) dL_law_356 rfl k_X12_mix rfl rfl ml_L_165 im_X12_mix se_X12_mix rfl rfl hm (by decide) (Nat.le_of_ble_eq_true rfl) (Nat.zero_le _) (Nat.zero_le _) ?_
  refine f_istore (ls' := lLs j (some (.int k)) (some (.int b)) none) dL_law_359 (Nat.le_of_ble_eq_true rfl) rfl rfl ?_
  refine f_aload_n dL_law_361 rfl rfl ?_
  refine f_cV hG (As := []) dL_law_362 rfl k_X12_thrown rfl rfl ml_L_159 im_X12_thrown se_X12_thrown rfl rfl (c_X12_thrown hG (d := 60) (Nat.zero_le _) M2 dv) (by decide) (by decide) (Nat.zero_le _) (Nat.zero_le _) ?_
  refine f_iload dL_law_365 rfl ?_
  refine f_icmp_eq (tgt := 372) dL_law_367 (by decide) (fun _ => ?_) (fun h => absurd (by rw [r_X12_thrown]; exact hk) h)
  refine f_iload dL_law_372 rfl ?_
  refine f_if_ne (tgt := 389) dL_law_374 (by decide) (fun _ => ?_) (fun h0 => ?_)
  · refine f_goto (tgt := 2709) dL_law_389 (by decide) ?_
    exact lw_next (f_less (kc' := kc - 16) (ks' := ks - 96) (by omega) (by omega) (kk M2 dv hI))
  · refine f_aload_n dL_law_377 rfl rfl ?_
    refine f_iconst (v := 0) dL_law_378 rfl ?_
    refine s_laload hG dL_law_379 rfl (vp_in_nI (n := 0) (by decide) (by decide)) ?_
    refine f_iload dL_law_380 rfl ?_
    refine f_i2l dL_law_382 ?_
    refine f_lcmp dL_law_383 ?_
    refine f_if_eq (tgt := 389) dL_law_384 (by decide) (fun _ => ?_) (fun h => absurd (by rw [show M2 306 (0 : Int32).toNatClampNeg = b from hb h0]; exact lcmp_eq _) h)
    refine f_goto (tgt := 2709) dL_law_389 (by decide) ?_
    exact lw_next (f_less (kc' := kc - 16) (ks' := ks - 96) (by omega) (by omega) (kk M2 dv hI))
set_option maxRecDepth 100000 in
set_option maxHeartbeats 4000000 in
theorem lw_case_2 (hG : fOK G) (hX : va_X (gsa G 25) L xs (gs G) (gs G).heap) (hbl : gsa G 25 < fo G) (hL : L ≤ 2560) (hkc : 16 ≤ kc) (hks : 96 ≤ ks) {j : Nat} (hj : 5 * j + 5 ≤ L) (hop : OPp G Iv z_X11_rawCount z_X12_rawCount M dv) (kk : ∀ (M2 : fM) (dv2 : UInt64), Iv M2 → fV G z_L_law 70 Q 28 (lLs (j + 1) none none none) [] (sS M2 dv2) (kc - 16) (ks - 96)) : fV G z_L_law 70 Q 392 (lLs j none none none) [] (sS M dv) kc ks := by
  obtain ⟨b, M1, M2, hh, hm, hI⟩ := hop
  refine f_aload_n dL_law_392 rfl rfl ?_
  refine f_cV hG (As := []) dL_law_393 rfl k_X11_rawCount rfl rfl ml_L_166 im_X11_rawCount se_X11_rawCount rfl rfl hh (by decide) (Nat.le_of_ble_eq_true rfl) (Nat.zero_le _) (Nat.zero_le _) ?_
  refine f_aload_n dL_law_396 rfl rfl ?_
  refine f_cV hG (As := []) dL_law_397 rfl k_X12_rawCount rfl rfl ml_L_169 im_X12_rawCount se_X12_rawCount rfl rfl hm (by decide) (Nat.le_of_ble_eq_true rfl) (Nat.zero_le _) (Nat.zero_le _) ?_
  refine f_icmp_eq (tgt := 2709) dL_law_400 (by decide) (fun _ => ?_) (fun h => absurd rfl h)
  refine f_less (kc' := kc - 16) (ks' := ks - 96) (by omega) (by omega) (lw_next (kk M2 dv hI))
set_option maxRecDepth 100000 in
set_option maxHeartbeats 4000000 in
theorem lw_case_3 (hG : fOK G) (hX : va_X (gsa G 25) L xs (gs G) (gs G).heap) (hbl : gsa G 25 < fo G) (hL : L ≤ 2560) (hkc : 16 ≤ kc) (hks : 96 ≤ ks) {j : Nat} (hj : 5 * j + 5 ≤ L) (hop : OPp G Iv z_X11_batchCount z_X12_batchCount M dv) (kk : ∀ (M2 : fM) (dv2 : UInt64), Iv M2 → fV G z_L_law 70 Q 28 (lLs (j + 1) none none none) [] (sS M2 dv2) (kc - 16) (ks - 96)) : fV G z_L_law 70 Q 405 (lLs j none none none) [] (sS M dv) kc ks := by
  obtain ⟨b, M1, M2, hh, hm, hI⟩ := hop
  refine f_aload_n dL_law_405 rfl rfl ?_
  refine f_cV hG (As := []) dL_law_406 rfl k_X11_batchCount rfl rfl ml_L_170 im_X11_batchCount se_X11_batchCount rfl rfl hh (by decide) (Nat.le_of_ble_eq_true rfl) (Nat.zero_le _) (Nat.zero_le _) ?_
  refine f_aload_n dL_law_409 rfl rfl ?_
  refine f_cV hG (As := []) dL_law_410 rfl k_X12_batchCount rfl rfl ml_L_173 im_X12_batchCount se_X12_batchCount rfl rfl hm (by decide) (Nat.le_of_ble_eq_true rfl) (Nat.zero_le _) (Nat.zero_le _) ?_
  refine f_icmp_eq (tgt := 2709) dL_law_413 (by decide) (fun _ => ?_) (fun h => absurd rfl h)
  refine f_less (kc' := kc - 16) (ks' := ks - 96) (by omega) (by omega) (lw_next (kk M2 dv hI))
set_option maxRecDepth 100000 in
set_option maxHeartbeats 4000000 in
theorem lw_case_4 (hG : fOK G) (hX : va_X (gsa G 25) L xs (gs G) (gs G).heap) (hbl : gsa G 25 < fo G) (hL : L ≤ 2560) (hkc : 16 ≤ kc) (hks : 96 ≤ ks) {j : Nat} (hj : 5 * j + 5 ≤ L) (hop : OPb G Iv z_L_isFaulty z_X12_isFaulty M dv [.int (xs (5 * j + 1))]) (kk : ∀ (M2 : fM) (dv2 : UInt64), Iv M2 → fV G z_L_law 70 Q 28 (lLs (j + 1) none none none) [] (sS M2 dv2) (kc - 16) (ks - 96)) : fV G z_L_law 70 Q 418 (lLs j none none none) [] (sS M dv) kc ks := by
  obtain ⟨k, b, M1, M2, hh, hm, hk, hb, hI⟩ := hop
  refine f_aload_n dL_law_418 rfl rfl ?_
  refine f_aload_n dL_law_419 rfl rfl ?_
  refine f_iload dL_law_420 rfl ?_
  refine f_iconst (v := 1) dL_law_422 rfl ?_
  refine f_iadd dL_law_423 ?_
  refine f_sld (q := 5 * j + 1) hX hbl (law_ix (w := 1) rfl) (by omega) (by omega) dL_law_424 ?_
  refine f_aload_n dL_law_425 rfl rfl ?_
  refine f_cSW hG (As := [_, _, _]) dL_law_426 rfl k_L_isFaulty rfl rfl ml_L_174 sm_L_isFaulty hh (by decide) (by decide) hkc hks ?_
  refine f_istore (ls' := lLs j (some (.int k)) none none) dL_law_429 (Nat.le_of_ble_eq_true rfl) rfl rfl ?_
  refine f_aload_n dL_law_431 rfl rfl ?_
  refine f_aload_n dL_law_432 rfl rfl ?_
  refine f_iload dL_law_433 rfl ?_
  refine f_iconst (v := 1) dL_law_435 rfl ?_
  refine f_iadd dL_law_436 ?_
  refine f_sld (q := 5 * j + 1) hX hbl (law_ix (w := 1) rfl) (by omega) (by omega) dL_law_437 ?_
  refine f_cV hG (As := [_]) dL_law_438 rfl k_X12_isFaulty rfl rfl ml_L_177 im_X12_isFaulty se_X12_isFaulty rfl rfl hm (by decide) (Nat.le_of_ble_eq_true rfl) (Nat.zero_le _) (Nat.zero_le _) ?_
  refine f_istore (ls' := lLs j (some (.int k)) (some (.int b)) none) dL_law_441 (Nat.le_of_ble_eq_true rfl) rfl rfl ?_
  refine f_aload_n dL_law_443 rfl rfl ?_
  refine f_cV hG (As := []) dL_law_444 rfl k_X12_thrown rfl rfl ml_L_159 im_X12_thrown se_X12_thrown rfl rfl (c_X12_thrown hG (d := 60) (Nat.zero_le _) M2 dv) (by decide) (by decide) (Nat.zero_le _) (Nat.zero_le _) ?_
  refine f_iload dL_law_447 rfl ?_
  refine f_icmp_eq (tgt := 454) dL_law_449 (by decide) (fun _ => ?_) (fun h => absurd (by rw [r_X12_thrown]; exact hk) h)
  refine f_iload dL_law_454 rfl ?_
  refine f_if_ne (tgt := 478) dL_law_456 (by decide) (fun _ => ?_) (fun h0 => ?_)
  · refine f_goto (tgt := 2709) dL_law_478 (by decide) ?_
    exact lw_next (f_less (kc' := kc - 16) (ks' := ks - 96) (by omega) (by omega) (kk M2 dv hI))
  · refine f_aload_n dL_law_459 rfl rfl ?_
    refine f_iconst (v := 0) dL_law_460 rfl ?_
    refine s_laload hG dL_law_461 rfl (vp_in_nI (n := 0) (by decide) (by decide)) ?_
    refine f_iload dL_law_462 rfl ?_
    refine f_if_eq (tgt := 471) dL_law_464 (by decide) (fun b0 => ?_) (fun b0 => ?_)
    · refine f_lconst (v := (0 : Int32).toInt64) dL_law_471 rfl ?_
      refine f_lcmp dL_law_472 ?_
      refine f_if_eq (tgt := 478) dL_law_473 (by decide) (fun _ => ?_) (fun h => absurd (by rw [show M2 306 (0 : Int32).toNatClampNeg = oL b from hb h0, oL, if_pos b0]; exact lcmp_eq _) h)
      refine f_goto (tgt := 2709) dL_law_478 (by decide) ?_
      exact lw_next (f_less (kc' := kc - 16) (ks' := ks - 96) (by omega) (by omega) (kk M2 dv hI))
    · refine f_lconst (v := (1 : Int32).toInt64) dL_law_467 rfl ?_
      refine f_goto (tgt := 472) dL_law_468 (by decide) ?_
      refine f_lcmp dL_law_472 ?_
      refine f_if_eq (tgt := 478) dL_law_473 (by decide) (fun _ => ?_) (fun h => absurd (by rw [show M2 306 (0 : Int32).toNatClampNeg = oL b from hb h0, oL, if_neg b0]; exact lcmp_eq _) h)
      refine f_goto (tgt := 2709) dL_law_478 (by decide) ?_
      exact lw_next (f_less (kc' := kc - 16) (ks' := ks - 96) (by omega) (by omega) (kk M2 dv hI))
set_option maxRecDepth 100000 in
set_option maxHeartbeats 4000000 in
theorem lw_case_5 (hG : fOK G) (hX : va_X (gsa G 25) L xs (gs G) (gs G).heap) (hbl : gsa G 25 < fo G) (hL : L ≤ 2560) (hkc : 16 ≤ kc) (hks : 96 ≤ ks) {j : Nat} (hj : 5 * j + 5 ≤ L) (hop : OPi G Iv z_L_strengthOf z_X12_strengthOf M dv [.int (xs (5 * j + 1))]) (kk : ∀ (M2 : fM) (dv2 : UInt64), Iv M2 → fV G z_L_law 70 Q 28 (lLs (j + 1) none none none) [] (sS M2 dv2) (kc - 16) (ks - 96)) : fV G z_L_law 70 Q 481 (lLs j none none none) [] (sS M dv) kc ks := by
  obtain ⟨k, b, M1, M2, hh, hm, hk, hb, hI⟩ := hop
  refine f_aload_n dL_law_481 rfl rfl ?_
  refine f_aload_n dL_law_482 rfl rfl ?_
  refine f_iload dL_law_483 rfl ?_
  refine f_iconst (v := 1) dL_law_485 rfl ?_
  refine f_iadd dL_law_486 ?_
  refine f_sld (q := 5 * j + 1) hX hbl (law_ix (w := 1) rfl) (by omega) (by omega) dL_law_487 ?_
  refine f_aload_n dL_law_488 rfl rfl ?_
  refine f_cSW hG (As := [_, _, _]) dL_law_489 rfl k_L_strengthOf rfl rfl ml_L_178 sm_L_strengthOf hh (by decide) (by decide) hkc hks ?_
  refine f_istore (ls' := lLs j (some (.int k)) none none) dL_law_492 (Nat.le_of_ble_eq_true rfl) rfl rfl ?_
  refine f_aload_n dL_law_494 rfl rfl ?_
  refine f_aload_n dL_law_495 rfl rfl ?_
  refine f_iload dL_law_496 rfl ?_
  refine f_iconst (v := 1) dL_law_498 rfl ?_
  refine f_iadd dL_law_499 ?_
  refine f_sld (q := 5 * j + 1) hX hbl (law_ix (w := 1) rfl) (by omega) (by omega) dL_law_500 ?_
  refine f_cV hG (As := [_]) dL_law_501 rfl k_X12_strengthOf rfl rfl ml_L_180 im_X12_strengthOf se_X12_strengthOf rfl rfl hm (by decide) (Nat.le_of_ble_eq_true rfl) (Nat.zero_le _) (Nat.zero_le _) ?_
  refine f_istore (ls' := lLs j (some (.int k)) (some (.int b)) none) dL_law_504 (Nat.le_of_ble_eq_true rfl) rfl rfl ?_
  refine f_aload_n dL_law_506 rfl rfl ?_
  refine f_cV hG (As := []) dL_law_507 rfl k_X12_thrown rfl rfl ml_L_159 im_X12_thrown se_X12_thrown rfl rfl (c_X12_thrown hG (d := 60) (Nat.zero_le _) M2 dv) (by decide) (by decide) (Nat.zero_le _) (Nat.zero_le _) ?_
  refine f_iload dL_law_510 rfl ?_
  refine f_icmp_eq (tgt := 517) dL_law_512 (by decide) (fun _ => ?_) (fun h => absurd (by rw [r_X12_thrown]; exact hk) h)
  refine f_iload dL_law_517 rfl ?_
  refine f_if_ne (tgt := 534) dL_law_519 (by decide) (fun _ => ?_) (fun h0 => ?_)
  · refine f_goto (tgt := 2709) dL_law_534 (by decide) ?_
    exact lw_next (f_less (kc' := kc - 16) (ks' := ks - 96) (by omega) (by omega) (kk M2 dv hI))
  · refine f_aload_n dL_law_522 rfl rfl ?_
    refine f_iconst (v := 0) dL_law_523 rfl ?_
    refine s_laload hG dL_law_524 rfl (vp_in_nI (n := 0) (by decide) (by decide)) ?_
    refine f_iload dL_law_525 rfl ?_
    refine f_i2l dL_law_527 ?_
    refine f_lcmp dL_law_528 ?_
    refine f_if_eq (tgt := 534) dL_law_529 (by decide) (fun _ => ?_) (fun h => absurd (by rw [show M2 306 (0 : Int32).toNatClampNeg = b from hb h0]; exact lcmp_eq _) h)
    refine f_goto (tgt := 2709) dL_law_534 (by decide) ?_
    exact lw_next (f_less (kc' := kc - 16) (ks' := ks - 96) (by omega) (by omega) (kk M2 dv hI))
set_option maxRecDepth 100000 in
set_option maxHeartbeats 4000000 in
theorem lw_case_6 (hG : fOK G) (hX : va_X (gsa G 25) L xs (gs G) (gs G).heap) (hbl : gsa G 25 < fo G) (hL : L ≤ 2560) (hkc : 16 ≤ kc) (hks : 96 ≤ ks) {j : Nat} (hj : 5 * j + 5 ≤ L) (hop : OPb G Iv z_L_batchContains z_X12_batchContains M dv [.int (xs (5 * j + 1)), .int (xs (5 * j + 2))]) (kk : ∀ (M2 : fM) (dv2 : UInt64), Iv M2 → fV G z_L_law 70 Q 28 (lLs (j + 1) none none none) [] (sS M2 dv2) (kc - 16) (ks - 96)) : fV G z_L_law 70 Q 537 (lLs j none none none) [] (sS M dv) kc ks := by
  obtain ⟨k, b, M1, M2, hh, hm, hk, hb, hI⟩ := hop
  refine f_aload_n dL_law_537 rfl rfl ?_
  refine f_aload_n dL_law_538 rfl rfl ?_
  refine f_iload dL_law_539 rfl ?_
  refine f_iconst (v := 1) dL_law_541 rfl ?_
  refine f_iadd dL_law_542 ?_
  refine f_sld (q := 5 * j + 1) hX hbl (law_ix (w := 1) rfl) (by omega) (by omega) dL_law_543 ?_
  refine f_aload_n dL_law_544 rfl rfl ?_
  refine f_iload dL_law_545 rfl ?_
  refine f_iconst (v := 2) dL_law_547 rfl ?_
  refine f_iadd dL_law_548 ?_
  refine f_sld (q := 5 * j + 2) hX hbl (law_ix (w := 2) rfl) (by omega) (by omega) dL_law_549 ?_
  refine f_aload_n dL_law_550 rfl rfl ?_
  refine f_cSW hG (As := [_, _, _, _]) dL_law_551 rfl k_L_batchContains rfl rfl ml_L_181 sm_L_batchContains hh (by decide) (by decide) hkc hks ?_
  refine f_istore (ls' := lLs j (some (.int k)) none none) dL_law_554 (Nat.le_of_ble_eq_true rfl) rfl rfl ?_
  refine f_aload_n dL_law_556 rfl rfl ?_
  refine f_aload_n dL_law_557 rfl rfl ?_
  refine f_iload dL_law_558 rfl ?_
  refine f_iconst (v := 1) dL_law_560 rfl ?_
  refine f_iadd dL_law_561 ?_
  refine f_sld (q := 5 * j + 1) hX hbl (law_ix (w := 1) rfl) (by omega) (by omega) dL_law_562 ?_
  refine f_aload_n dL_law_563 rfl rfl ?_
  refine f_iload dL_law_564 rfl ?_
  refine f_iconst (v := 2) dL_law_566 rfl ?_
  refine f_iadd dL_law_567 ?_
  refine f_sld (q := 5 * j + 2) hX hbl (law_ix (w := 2) rfl) (by omega) (by omega) dL_law_568 ?_
  refine f_cV hG (As := [_, _]) dL_law_569 rfl k_X12_batchContains rfl rfl ml_L_183 im_X12_batchContains se_X12_batchContains rfl rfl hm (by decide) (Nat.le_of_ble_eq_true rfl) (Nat.zero_le _) (Nat.zero_le _) ?_
  refine f_istore (ls' := lLs j (some (.int k)) (some (.int b)) none) dL_law_572 (Nat.le_of_ble_eq_true rfl) rfl rfl ?_
  refine f_aload_n dL_law_574 rfl rfl ?_
  refine f_cV hG (As := []) dL_law_575 rfl k_X12_thrown rfl rfl ml_L_159 im_X12_thrown se_X12_thrown rfl rfl (c_X12_thrown hG (d := 60) (Nat.zero_le _) M2 dv) (by decide) (by decide) (Nat.zero_le _) (Nat.zero_le _) ?_
  refine f_iload dL_law_578 rfl ?_
  refine f_icmp_eq (tgt := 585) dL_law_580 (by decide) (fun _ => ?_) (fun h => absurd (by rw [r_X12_thrown]; exact hk) h)
  refine f_iload dL_law_585 rfl ?_
  refine f_if_ne (tgt := 609) dL_law_587 (by decide) (fun _ => ?_) (fun h0 => ?_)
  · refine f_goto (tgt := 2709) dL_law_609 (by decide) ?_
    exact lw_next (f_less (kc' := kc - 16) (ks' := ks - 96) (by omega) (by omega) (kk M2 dv hI))
  · refine f_aload_n dL_law_590 rfl rfl ?_
    refine f_iconst (v := 0) dL_law_591 rfl ?_
    refine s_laload hG dL_law_592 rfl (vp_in_nI (n := 0) (by decide) (by decide)) ?_
    refine f_iload dL_law_593 rfl ?_
    refine f_if_eq (tgt := 602) dL_law_595 (by decide) (fun b0 => ?_) (fun b0 => ?_)
    · refine f_lconst (v := (0 : Int32).toInt64) dL_law_602 rfl ?_
      refine f_lcmp dL_law_603 ?_
      refine f_if_eq (tgt := 609) dL_law_604 (by decide) (fun _ => ?_) (fun h => absurd (by rw [show M2 306 (0 : Int32).toNatClampNeg = oL b from hb h0, oL, if_pos b0]; exact lcmp_eq _) h)
      refine f_goto (tgt := 2709) dL_law_609 (by decide) ?_
      exact lw_next (f_less (kc' := kc - 16) (ks' := ks - 96) (by omega) (by omega) (kk M2 dv hI))
    · refine f_lconst (v := (1 : Int32).toInt64) dL_law_598 rfl ?_
      refine f_goto (tgt := 603) dL_law_599 (by decide) ?_
      refine f_lcmp dL_law_603 ?_
      refine f_if_eq (tgt := 609) dL_law_604 (by decide) (fun _ => ?_) (fun h => absurd (by rw [show M2 306 (0 : Int32).toNatClampNeg = oL b from hb h0, oL, if_neg b0]; exact lcmp_eq _) h)
      refine f_goto (tgt := 2709) dL_law_609 (by decide) ?_
      exact lw_next (f_less (kc' := kc - 16) (ks' := ks - 96) (by omega) (by omega) (kk M2 dv hI))
set_option maxRecDepth 100000 in
set_option maxHeartbeats 4000000 in
theorem lw_case_7 (hG : fOK G) (hX : va_X (gsa G 25) L xs (gs G) (gs G).heap) (hbl : gsa G 25 < fo G) (hL : L ≤ 2560) (hkc : 16 ≤ kc) (hks : 96 ≤ ks) {j : Nat} (hj : 5 * j + 5 ≤ L) (hop : OPi G Iv z_L_addLabel z_X12_addLabel M dv []) (kk : ∀ (M2 : fM) (dv2 : UInt64), Iv M2 → fV G z_L_law 70 Q 28 (lLs (j + 1) none none none) [] (sS M2 dv2) (kc - 16) (ks - 96)) : fV G z_L_law 70 Q 612 (lLs j none none none) [] (sS M dv) kc ks := by
  obtain ⟨k, b, M1, M2, hh, hm, hk, hb, hI⟩ := hop
  refine f_aload_n dL_law_612 rfl rfl ?_
  refine f_aload_n dL_law_613 rfl rfl ?_
  refine f_cSW hG (As := [_, _]) dL_law_614 rfl k_L_addLabel rfl rfl ml_L_184 sm_L_addLabel hh (by decide) (by decide) hkc hks ?_
  refine f_istore (ls' := lLs j (some (.int k)) none none) dL_law_617 (Nat.le_of_ble_eq_true rfl) rfl rfl ?_
  refine f_aload_n dL_law_619 rfl rfl ?_
  refine f_cV hG (As := []) dL_law_620 rfl k_X12_addLabel rfl rfl ml_L_186 im_X12_addLabel se_X12_addLabel rfl rfl hm (by decide) (Nat.le_of_ble_eq_true rfl) (Nat.zero_le _) (Nat.zero_le _) ?_
  refine f_istore (ls' := lLs j (some (.int k)) (some (.int b)) none) dL_law_623 (Nat.le_of_ble_eq_true rfl) rfl rfl ?_
  refine f_aload_n dL_law_625 rfl rfl ?_
  refine f_cV hG (As := []) dL_law_626 rfl k_X12_thrown rfl rfl ml_L_159 im_X12_thrown se_X12_thrown rfl rfl (c_X12_thrown hG (d := 60) (Nat.zero_le _) M2 dv) (by decide) (by decide) (Nat.zero_le _) (Nat.zero_le _) ?_
  refine f_iload dL_law_629 rfl ?_
  refine f_icmp_eq (tgt := 636) dL_law_631 (by decide) (fun _ => ?_) (fun h => absurd (by rw [r_X12_thrown]; exact hk) h)
  refine f_iload dL_law_636 rfl ?_
  refine f_if_ne (tgt := 653) dL_law_638 (by decide) (fun _ => ?_) (fun h0 => ?_)
  · refine f_goto (tgt := 2709) dL_law_653 (by decide) ?_
    exact lw_next (f_less (kc' := kc - 16) (ks' := ks - 96) (by omega) (by omega) (kk M2 dv hI))
  · refine f_aload_n dL_law_641 rfl rfl ?_
    refine f_iconst (v := 0) dL_law_642 rfl ?_
    refine s_laload hG dL_law_643 rfl (vp_in_nI (n := 0) (by decide) (by decide)) ?_
    refine f_iload dL_law_644 rfl ?_
    refine f_i2l dL_law_646 ?_
    refine f_lcmp dL_law_647 ?_
    refine f_if_eq (tgt := 653) dL_law_648 (by decide) (fun _ => ?_) (fun h => absurd (by rw [show M2 306 (0 : Int32).toNatClampNeg = b from hb h0]; exact lcmp_eq _) h)
    refine f_goto (tgt := 2709) dL_law_653 (by decide) ?_
    exact lw_next (f_less (kc' := kc - 16) (ks' := ks - 96) (by omega) (by omega) (kk M2 dv hI))
set_option maxRecDepth 100000 in
set_option maxHeartbeats 4000000 in
theorem lw_case_8 (hG : fOK G) (hX : va_X (gsa G 25) L xs (gs G) (gs G).heap) (hbl : gsa G 25 < fo G) (hL : L ≤ 2560) (hkc : 16 ≤ kc) (hks : 96 ≤ ks) {j : Nat} (hj : 5 * j + 5 ≤ L) (hop : OPp G Iv z_X11_labelCount z_X12_labelCount M dv) (kk : ∀ (M2 : fM) (dv2 : UInt64), Iv M2 → fV G z_L_law 70 Q 28 (lLs (j + 1) none none none) [] (sS M2 dv2) (kc - 16) (ks - 96)) : fV G z_L_law 70 Q 656 (lLs j none none none) [] (sS M dv) kc ks := by
  obtain ⟨b, M1, M2, hh, hm, hI⟩ := hop
  refine f_aload_n dL_law_656 rfl rfl ?_
  refine f_cV hG (As := []) dL_law_657 rfl k_X11_labelCount rfl rfl ml_L_187 im_X11_labelCount se_X11_labelCount rfl rfl hh (by decide) (Nat.le_of_ble_eq_true rfl) (Nat.zero_le _) (Nat.zero_le _) ?_
  refine f_aload_n dL_law_660 rfl rfl ?_
  refine f_cV hG (As := []) dL_law_661 rfl k_X12_labelCount rfl rfl ml_L_190 im_X12_labelCount se_X12_labelCount rfl rfl hm (by decide) (Nat.le_of_ble_eq_true rfl) (Nat.zero_le _) (Nat.zero_le _) ?_
  refine f_icmp_eq (tgt := 2709) dL_law_664 (by decide) (fun _ => ?_) (fun h => absurd rfl h)
  refine f_less (kc' := kc - 16) (ks' := ks - 96) (by omega) (by omega) (lw_next (kk M2 dv hI))
set_option maxRecDepth 100000 in
set_option maxHeartbeats 4000000 in
theorem lw_case_9 (hG : fOK G) (hX : va_X (gsa G 25) L xs (gs G) (gs G).heap) (hbl : gsa G 25 < fo G) (hL : L ≤ 2560) (hkc : 16 ≤ kc) (hks : 96 ≤ ks) {j : Nat} (hj : 5 * j + 5 ≤ L) (hop : OPi G Iv z_L_labelLength z_X12_labelLength M dv [.int (xs (5 * j + 1))]) (kk : ∀ (M2 : fM) (dv2 : UInt64), Iv M2 → fV G z_L_law 70 Q 28 (lLs (j + 1) none none none) [] (sS M2 dv2) (kc - 16) (ks - 96)) : fV G z_L_law 70 Q 669 (lLs j none none none) [] (sS M dv) kc ks := by
  obtain ⟨k, b, M1, M2, hh, hm, hk, hb, hI⟩ := hop
  refine f_aload_n dL_law_669 rfl rfl ?_
  refine f_aload_n dL_law_670 rfl rfl ?_
  refine f_iload dL_law_671 rfl ?_
  refine f_iconst (v := 1) dL_law_673 rfl ?_
  refine f_iadd dL_law_674 ?_
  refine f_sld (q := 5 * j + 1) hX hbl (law_ix (w := 1) rfl) (by omega) (by omega) dL_law_675 ?_
  refine f_aload_n dL_law_676 rfl rfl ?_
  refine f_cSW hG (As := [_, _, _]) dL_law_677 rfl k_L_labelLength rfl rfl ml_L_191 sm_L_labelLength hh (by decide) (by decide) hkc hks ?_
  refine f_istore (ls' := lLs j (some (.int k)) none none) dL_law_680 (Nat.le_of_ble_eq_true rfl) rfl rfl ?_
  refine f_aload_n dL_law_682 rfl rfl ?_
  refine f_aload_n dL_law_683 rfl rfl ?_
  refine f_iload dL_law_684 rfl ?_
  refine f_iconst (v := 1) dL_law_686 rfl ?_
  refine f_iadd dL_law_687 ?_
  refine f_sld (q := 5 * j + 1) hX hbl (law_ix (w := 1) rfl) (by omega) (by omega) dL_law_688 ?_
  refine f_cV hG (As := [_]) dL_law_689 rfl k_X12_labelLength rfl rfl ml_L_193 im_X12_labelLength se_X12_labelLength rfl rfl hm (by decide) (Nat.le_of_ble_eq_true rfl) (Nat.zero_le _) (Nat.zero_le _) ?_
  refine f_istore (ls' := lLs j (some (.int k)) (some (.int b)) none) dL_law_692 (Nat.le_of_ble_eq_true rfl) rfl rfl ?_
  refine f_aload_n dL_law_694 rfl rfl ?_
  refine f_cV hG (As := []) dL_law_695 rfl k_X12_thrown rfl rfl ml_L_159 im_X12_thrown se_X12_thrown rfl rfl (c_X12_thrown hG (d := 60) (Nat.zero_le _) M2 dv) (by decide) (by decide) (Nat.zero_le _) (Nat.zero_le _) ?_
  refine f_iload dL_law_698 rfl ?_
  refine f_icmp_eq (tgt := 705) dL_law_700 (by decide) (fun _ => ?_) (fun h => absurd (by rw [r_X12_thrown]; exact hk) h)
  refine f_iload dL_law_705 rfl ?_
  refine f_if_ne (tgt := 722) dL_law_707 (by decide) (fun _ => ?_) (fun h0 => ?_)
  · refine f_goto (tgt := 2709) dL_law_722 (by decide) ?_
    exact lw_next (f_less (kc' := kc - 16) (ks' := ks - 96) (by omega) (by omega) (kk M2 dv hI))
  · refine f_aload_n dL_law_710 rfl rfl ?_
    refine f_iconst (v := 0) dL_law_711 rfl ?_
    refine s_laload hG dL_law_712 rfl (vp_in_nI (n := 0) (by decide) (by decide)) ?_
    refine f_iload dL_law_713 rfl ?_
    refine f_i2l dL_law_715 ?_
    refine f_lcmp dL_law_716 ?_
    refine f_if_eq (tgt := 722) dL_law_717 (by decide) (fun _ => ?_) (fun h => absurd (by rw [show M2 306 (0 : Int32).toNatClampNeg = b from hb h0]; exact lcmp_eq _) h)
    refine f_goto (tgt := 2709) dL_law_722 (by decide) ?_
    exact lw_next (f_less (kc' := kc - 16) (ks' := ks - 96) (by omega) (by omega) (kk M2 dv hI))
set_option maxRecDepth 100000 in
set_option maxHeartbeats 4000000 in
theorem lw_case_10 (hG : fOK G) (hX : va_X (gsa G 25) L xs (gs G) (gs G).heap) (hbl : gsa G 25 < fo G) (hL : L ≤ 2560) (hkc : 16 ≤ kc) (hks : 96 ≤ ks) {j : Nat} (hj : 5 * j + 5 ≤ L) (hop : OPi G Iv z_L_labelLetter z_X12_labelLetter M dv [.int (xs (5 * j + 1)), .int (xs (5 * j + 2))]) (kk : ∀ (M2 : fM) (dv2 : UInt64), Iv M2 → fV G z_L_law 70 Q 28 (lLs (j + 1) none none none) [] (sS M2 dv2) (kc - 16) (ks - 96)) : fV G z_L_law 70 Q 725 (lLs j none none none) [] (sS M dv) kc ks := by
  obtain ⟨k, b, M1, M2, hh, hm, hk, hb, hI⟩ := hop
  refine f_aload_n dL_law_725 rfl rfl ?_
  refine f_aload_n dL_law_726 rfl rfl ?_
  refine f_iload dL_law_727 rfl ?_
  refine f_iconst (v := 1) dL_law_729 rfl ?_
  refine f_iadd dL_law_730 ?_
  refine f_sld (q := 5 * j + 1) hX hbl (law_ix (w := 1) rfl) (by omega) (by omega) dL_law_731 ?_
  refine f_aload_n dL_law_732 rfl rfl ?_
  refine f_iload dL_law_733 rfl ?_
  refine f_iconst (v := 2) dL_law_735 rfl ?_
  refine f_iadd dL_law_736 ?_
  refine f_sld (q := 5 * j + 2) hX hbl (law_ix (w := 2) rfl) (by omega) (by omega) dL_law_737 ?_
  refine f_aload_n dL_law_738 rfl rfl ?_
  refine f_cSW hG (As := [_, _, _, _]) dL_law_739 rfl k_L_labelLetter rfl rfl ml_L_194 sm_L_labelLetter hh (by decide) (by decide) hkc hks ?_
  refine f_istore (ls' := lLs j (some (.int k)) none none) dL_law_742 (Nat.le_of_ble_eq_true rfl) rfl rfl ?_
  refine f_aload_n dL_law_744 rfl rfl ?_
  refine f_aload_n dL_law_745 rfl rfl ?_
  refine f_iload dL_law_746 rfl ?_
  refine f_iconst (v := 1) dL_law_748 rfl ?_
  refine f_iadd dL_law_749 ?_
  refine f_sld (q := 5 * j + 1) hX hbl (law_ix (w := 1) rfl) (by omega) (by omega) dL_law_750 ?_
  refine f_aload_n dL_law_751 rfl rfl ?_
  refine f_iload dL_law_752 rfl ?_
  refine f_iconst (v := 2) dL_law_754 rfl ?_
  refine f_iadd dL_law_755 ?_
  refine f_sld (q := 5 * j + 2) hX hbl (law_ix (w := 2) rfl) (by omega) (by omega) dL_law_756 ?_
  refine f_cV hG (As := [_, _]) dL_law_757 rfl k_X12_labelLetter rfl rfl ml_L_196 im_X12_labelLetter se_X12_labelLetter rfl rfl hm (by decide) (Nat.le_of_ble_eq_true rfl) (Nat.zero_le _) (Nat.zero_le _) ?_
  refine f_istore (ls' := lLs j (some (.int k)) (some (.int b)) none) dL_law_760 (Nat.le_of_ble_eq_true rfl) rfl rfl ?_
  refine f_aload_n dL_law_762 rfl rfl ?_
  refine f_cV hG (As := []) dL_law_763 rfl k_X12_thrown rfl rfl ml_L_159 im_X12_thrown se_X12_thrown rfl rfl (c_X12_thrown hG (d := 60) (Nat.zero_le _) M2 dv) (by decide) (by decide) (Nat.zero_le _) (Nat.zero_le _) ?_
  refine f_iload dL_law_766 rfl ?_
  refine f_icmp_eq (tgt := 773) dL_law_768 (by decide) (fun _ => ?_) (fun h => absurd (by rw [r_X12_thrown]; exact hk) h)
  refine f_iload dL_law_773 rfl ?_
  refine f_if_ne (tgt := 790) dL_law_775 (by decide) (fun _ => ?_) (fun h0 => ?_)
  · refine f_goto (tgt := 2709) dL_law_790 (by decide) ?_
    exact lw_next (f_less (kc' := kc - 16) (ks' := ks - 96) (by omega) (by omega) (kk M2 dv hI))
  · refine f_aload_n dL_law_778 rfl rfl ?_
    refine f_iconst (v := 0) dL_law_779 rfl ?_
    refine s_laload hG dL_law_780 rfl (vp_in_nI (n := 0) (by decide) (by decide)) ?_
    refine f_iload dL_law_781 rfl ?_
    refine f_i2l dL_law_783 ?_
    refine f_lcmp dL_law_784 ?_
    refine f_if_eq (tgt := 790) dL_law_785 (by decide) (fun _ => ?_) (fun h => absurd (by rw [show M2 306 (0 : Int32).toNatClampNeg = b from hb h0]; exact lcmp_eq _) h)
    refine f_goto (tgt := 2709) dL_law_790 (by decide) ?_
    exact lw_next (f_less (kc' := kc - 16) (ks' := ks - 96) (by omega) (by omega) (kk M2 dv hI))
set_option maxRecDepth 100000 in
set_option maxHeartbeats 4000000 in
theorem lw_case_11 (hG : fOK G) (hX : va_X (gsa G 25) L xs (gs G) (gs G).heap) (hbl : gsa G 25 < fo G) (hL : L ≤ 2560) (hkc : 16 ≤ kc) (hks : 96 ≤ ks) {j : Nat} (hj : 5 * j + 5 ≤ L) (hop : OPi G Iv z_L_scan z_X12_scan M dv []) (kk : ∀ (M2 : fM) (dv2 : UInt64), Iv M2 → fV G z_L_law 70 Q 28 (lLs (j + 1) none none none) [] (sS M2 dv2) (kc - 16) (ks - 96)) : fV G z_L_law 70 Q 793 (lLs j none none none) [] (sS M dv) kc ks := by
  obtain ⟨k, b, M1, M2, hh, hm, hk, hb, hI⟩ := hop
  refine f_aload_n dL_law_793 rfl rfl ?_
  refine f_aload_n dL_law_794 rfl rfl ?_
  refine f_cSW hG (As := [_, _]) dL_law_795 rfl k_L_scan rfl rfl ml_L_197 sm_L_scan hh (by decide) (by decide) hkc hks ?_
  refine f_istore (ls' := lLs j (some (.int k)) none none) dL_law_798 (Nat.le_of_ble_eq_true rfl) rfl rfl ?_
  refine f_aload_n dL_law_800 rfl rfl ?_
  refine f_cV hG (As := []) dL_law_801 rfl k_X12_scan rfl rfl ml_L_199 im_X12_scan se_X12_scan rfl rfl hm (by decide) (Nat.le_of_ble_eq_true rfl) (Nat.zero_le _) (Nat.zero_le _) ?_
  refine f_istore (ls' := lLs j (some (.int k)) (some (.int b)) none) dL_law_804 (Nat.le_of_ble_eq_true rfl) rfl rfl ?_
  refine f_aload_n dL_law_806 rfl rfl ?_
  refine f_cV hG (As := []) dL_law_807 rfl k_X12_thrown rfl rfl ml_L_159 im_X12_thrown se_X12_thrown rfl rfl (c_X12_thrown hG (d := 60) (Nat.zero_le _) M2 dv) (by decide) (by decide) (Nat.zero_le _) (Nat.zero_le _) ?_
  refine f_iload dL_law_810 rfl ?_
  refine f_icmp_eq (tgt := 817) dL_law_812 (by decide) (fun _ => ?_) (fun h => absurd (by rw [r_X12_thrown]; exact hk) h)
  refine f_iload dL_law_817 rfl ?_
  refine f_if_ne (tgt := 834) dL_law_819 (by decide) (fun _ => ?_) (fun h0 => ?_)
  · refine f_goto (tgt := 2709) dL_law_834 (by decide) ?_
    exact lw_next (f_less (kc' := kc - 16) (ks' := ks - 96) (by omega) (by omega) (kk M2 dv hI))
  · refine f_aload_n dL_law_822 rfl rfl ?_
    refine f_iconst (v := 0) dL_law_823 rfl ?_
    refine s_laload hG dL_law_824 rfl (vp_in_nI (n := 0) (by decide) (by decide)) ?_
    refine f_iload dL_law_825 rfl ?_
    refine f_i2l dL_law_827 ?_
    refine f_lcmp dL_law_828 ?_
    refine f_if_eq (tgt := 834) dL_law_829 (by decide) (fun _ => ?_) (fun h => absurd (by rw [show M2 306 (0 : Int32).toNatClampNeg = b from hb h0]; exact lcmp_eq _) h)
    refine f_goto (tgt := 2709) dL_law_834 (by decide) ?_
    exact lw_next (f_less (kc' := kc - 16) (ks' := ks - 96) (by omega) (by omega) (kk M2 dv hI))
set_option maxRecDepth 100000 in
set_option maxHeartbeats 4000000 in
theorem lw_case_12 (hG : fOK G) (hX : va_X (gsa G 25) L xs (gs G) (gs G).heap) (hbl : gsa G 25 < fo G) (hL : L ≤ 2560) (hkc : 16 ≤ kc) (hks : 96 ≤ ks) {j : Nat} (hj : 5 * j + 5 ≤ L) (hop : OPi G Iv z_L_distanceTo z_X12_distanceTo M dv [.int (xs (5 * j + 1))]) (kk : ∀ (M2 : fM) (dv2 : UInt64), Iv M2 → fV G z_L_law 70 Q 28 (lLs (j + 1) none none none) [] (sS M2 dv2) (kc - 16) (ks - 96)) : fV G z_L_law 70 Q 837 (lLs j none none none) [] (sS M dv) kc ks := by
  obtain ⟨k, b, M1, M2, hh, hm, hk, hb, hI⟩ := hop
  refine f_aload_n dL_law_837 rfl rfl ?_
  refine f_aload_n dL_law_838 rfl rfl ?_
  refine f_iload dL_law_839 rfl ?_
  refine f_iconst (v := 1) dL_law_841 rfl ?_
  refine f_iadd dL_law_842 ?_
  refine f_sld (q := 5 * j + 1) hX hbl (law_ix (w := 1) rfl) (by omega) (by omega) dL_law_843 ?_
  refine f_aload_n dL_law_844 rfl rfl ?_
  refine f_cSW hG (As := [_, _, _]) dL_law_845 rfl k_L_distanceTo rfl rfl ml_L_200 sm_L_distanceTo hh (by decide) (by decide) hkc hks ?_
  refine f_istore (ls' := lLs j (some (.int k)) none none) dL_law_848 (Nat.le_of_ble_eq_true rfl) rfl rfl ?_
  refine f_aload_n dL_law_850 rfl rfl ?_
  refine f_aload_n dL_law_851 rfl rfl ?_
  refine f_iload dL_law_852 rfl ?_
  refine f_iconst (v := 1) dL_law_854 rfl ?_
  refine f_iadd dL_law_855 ?_
  refine f_sld (q := 5 * j + 1) hX hbl (law_ix (w := 1) rfl) (by omega) (by omega) dL_law_856 ?_
  refine f_cV hG (As := [_]) dL_law_857 rfl k_X12_distanceTo rfl rfl ml_L_202 im_X12_distanceTo se_X12_distanceTo rfl rfl hm (by decide) (Nat.le_of_ble_eq_true rfl) (Nat.zero_le _) (Nat.zero_le _) ?_
  refine f_istore (ls' := lLs j (some (.int k)) (some (.int b)) none) dL_law_860 (Nat.le_of_ble_eq_true rfl) rfl rfl ?_
  refine f_aload_n dL_law_862 rfl rfl ?_
  refine f_cV hG (As := []) dL_law_863 rfl k_X12_thrown rfl rfl ml_L_159 im_X12_thrown se_X12_thrown rfl rfl (c_X12_thrown hG (d := 60) (Nat.zero_le _) M2 dv) (by decide) (by decide) (Nat.zero_le _) (Nat.zero_le _) ?_
  refine f_iload dL_law_866 rfl ?_
  refine f_icmp_eq (tgt := 873) dL_law_868 (by decide) (fun _ => ?_) (fun h => absurd (by rw [r_X12_thrown]; exact hk) h)
  refine f_iload dL_law_873 rfl ?_
  refine f_if_ne (tgt := 890) dL_law_875 (by decide) (fun _ => ?_) (fun h0 => ?_)
  · refine f_goto (tgt := 2709) dL_law_890 (by decide) ?_
    exact lw_next (f_less (kc' := kc - 16) (ks' := ks - 96) (by omega) (by omega) (kk M2 dv hI))
  · refine f_aload_n dL_law_878 rfl rfl ?_
    refine f_iconst (v := 0) dL_law_879 rfl ?_
    refine s_laload hG dL_law_880 rfl (vp_in_nI (n := 0) (by decide) (by decide)) ?_
    refine f_iload dL_law_881 rfl ?_
    refine f_i2l dL_law_883 ?_
    refine f_lcmp dL_law_884 ?_
    refine f_if_eq (tgt := 890) dL_law_885 (by decide) (fun _ => ?_) (fun h => absurd (by rw [show M2 306 (0 : Int32).toNatClampNeg = b from hb h0]; exact lcmp_eq _) h)
    refine f_goto (tgt := 2709) dL_law_890 (by decide) ?_
    exact lw_next (f_less (kc' := kc - 16) (ks' := ks - 96) (by omega) (by omega) (kk M2 dv hI))
set_option maxRecDepth 100000 in
set_option maxHeartbeats 4000000 in
theorem lw_case_13 (hG : fOK G) (hX : va_X (gsa G 25) L xs (gs G) (gs G).heap) (hbl : gsa G 25 < fo G) (hL : L ≤ 2560) (hkc : 16 ≤ kc) (hks : 96 ≤ ks) {j : Nat} (hj : 5 * j + 5 ≤ L) (hop : OPi G Iv z_L_distanceByLetters z_X12_distanceByLetters M dv [.int (xs (5 * j + 1))]) (kk : ∀ (M2 : fM) (dv2 : UInt64), Iv M2 → fV G z_L_law 70 Q 28 (lLs (j + 1) none none none) [] (sS M2 dv2) (kc - 16) (ks - 96)) : fV G z_L_law 70 Q 893 (lLs j none none none) [] (sS M dv) kc ks := by
  obtain ⟨k, b, M1, M2, hh, hm, hk, hb, hI⟩ := hop
  refine f_aload_n dL_law_893 rfl rfl ?_
  refine f_aload_n dL_law_894 rfl rfl ?_
  refine f_iload dL_law_895 rfl ?_
  refine f_iconst (v := 1) dL_law_897 rfl ?_
  refine f_iadd dL_law_898 ?_
  refine f_sld (q := 5 * j + 1) hX hbl (law_ix (w := 1) rfl) (by omega) (by omega) dL_law_899 ?_
  refine f_aload_n dL_law_900 rfl rfl ?_
  refine f_cSW hG (As := [_, _, _]) dL_law_901 rfl k_L_distanceByLetters rfl rfl ml_L_203 sm_L_distanceByLetters hh (by decide) (by decide) hkc hks ?_
  refine f_istore (ls' := lLs j (some (.int k)) none none) dL_law_904 (Nat.le_of_ble_eq_true rfl) rfl rfl ?_
  refine f_aload_n dL_law_906 rfl rfl ?_
  refine f_aload_n dL_law_907 rfl rfl ?_
  refine f_iload dL_law_908 rfl ?_
  refine f_iconst (v := 1) dL_law_910 rfl ?_
  refine f_iadd dL_law_911 ?_
  refine f_sld (q := 5 * j + 1) hX hbl (law_ix (w := 1) rfl) (by omega) (by omega) dL_law_912 ?_
  refine f_cV hG (As := [_]) dL_law_913 rfl k_X12_distanceByLetters rfl rfl ml_L_205 im_X12_distanceByLetters se_X12_distanceByLetters rfl rfl hm (by decide) (Nat.le_of_ble_eq_true rfl) (Nat.zero_le _) (Nat.zero_le _) ?_
  refine f_istore (ls' := lLs j (some (.int k)) (some (.int b)) none) dL_law_916 (Nat.le_of_ble_eq_true rfl) rfl rfl ?_
  refine f_aload_n dL_law_918 rfl rfl ?_
  refine f_cV hG (As := []) dL_law_919 rfl k_X12_thrown rfl rfl ml_L_159 im_X12_thrown se_X12_thrown rfl rfl (c_X12_thrown hG (d := 60) (Nat.zero_le _) M2 dv) (by decide) (by decide) (Nat.zero_le _) (Nat.zero_le _) ?_
  refine f_iload dL_law_922 rfl ?_
  refine f_icmp_eq (tgt := 929) dL_law_924 (by decide) (fun _ => ?_) (fun h => absurd (by rw [r_X12_thrown]; exact hk) h)
  refine f_iload dL_law_929 rfl ?_
  refine f_if_ne (tgt := 946) dL_law_931 (by decide) (fun _ => ?_) (fun h0 => ?_)
  · refine f_goto (tgt := 2709) dL_law_946 (by decide) ?_
    exact lw_next (f_less (kc' := kc - 16) (ks' := ks - 96) (by omega) (by omega) (kk M2 dv hI))
  · refine f_aload_n dL_law_934 rfl rfl ?_
    refine f_iconst (v := 0) dL_law_935 rfl ?_
    refine s_laload hG dL_law_936 rfl (vp_in_nI (n := 0) (by decide) (by decide)) ?_
    refine f_iload dL_law_937 rfl ?_
    refine f_i2l dL_law_939 ?_
    refine f_lcmp dL_law_940 ?_
    refine f_if_eq (tgt := 946) dL_law_941 (by decide) (fun _ => ?_) (fun h => absurd (by rw [show M2 306 (0 : Int32).toNatClampNeg = b from hb h0]; exact lcmp_eq _) h)
    refine f_goto (tgt := 2709) dL_law_946 (by decide) ?_
    exact lw_next (f_less (kc' := kc - 16) (ks' := ks - 96) (by omega) (by omega) (kk M2 dv hI))
set_option maxRecDepth 100000 in
set_option maxHeartbeats 4000000 in
theorem lw_case_14 (hG : fOK G) (hX : va_X (gsa G 25) L xs (gs G) (gs G).heap) (hbl : gsa G 25 < fo G) (hL : L ≤ 2560) (hkc : 16 ≤ kc) (hks : 96 ≤ ks) {j : Nat} (hj : 5 * j + 5 ≤ L) (hop : OPi G Iv z_L_fill z_X12_fill M dv [.int (xs (5 * j + 1)), .int (xs (5 * j + 2)), .int (xs (5 * j + 3)), .int (xs (5 * j + 4))]) (kk : ∀ (M2 : fM) (dv2 : UInt64), Iv M2 → fV G z_L_law 70 Q 28 (lLs (j + 1) none none none) [] (sS M2 dv2) (kc - 16) (ks - 96)) : fV G z_L_law 70 Q 949 (lLs j none none none) [] (sS M dv) kc ks := by
  obtain ⟨k, b, M1, M2, hh, hm, hk, hb, hI⟩ := hop
  refine f_aload_n dL_law_949 rfl rfl ?_
  refine f_aload_n dL_law_950 rfl rfl ?_
  refine f_iload dL_law_951 rfl ?_
  refine f_iconst (v := 1) dL_law_953 rfl ?_
  refine f_iadd dL_law_954 ?_
  refine f_sld (q := 5 * j + 1) hX hbl (law_ix (w := 1) rfl) (by omega) (by omega) dL_law_955 ?_
  refine f_aload_n dL_law_956 rfl rfl ?_
  refine f_iload dL_law_957 rfl ?_
  refine f_iconst (v := 2) dL_law_959 rfl ?_
  refine f_iadd dL_law_960 ?_
  refine f_sld (q := 5 * j + 2) hX hbl (law_ix (w := 2) rfl) (by omega) (by omega) dL_law_961 ?_
  refine f_aload_n dL_law_962 rfl rfl ?_
  refine f_iload dL_law_963 rfl ?_
  refine f_iconst (v := 3) dL_law_965 rfl ?_
  refine f_iadd dL_law_966 ?_
  refine f_sld (q := 5 * j + 3) hX hbl (law_ix (w := 3) rfl) (by omega) (by omega) dL_law_967 ?_
  refine f_aload_n dL_law_968 rfl rfl ?_
  refine f_iload dL_law_969 rfl ?_
  refine f_iconst (v := 4) dL_law_971 rfl ?_
  refine f_iadd dL_law_972 ?_
  refine f_sld (q := 5 * j + 4) hX hbl (law_ix (w := 4) rfl) (by omega) (by omega) dL_law_973 ?_
  refine f_aload_n dL_law_974 rfl rfl ?_
  refine f_cSW hG (As := [_, _, _, _, _, _]) dL_law_975 rfl k_L_fill rfl rfl ml_L_206 sm_L_fill hh (by decide) (by decide) hkc hks ?_
  refine f_istore (ls' := lLs j (some (.int k)) none none) dL_law_978 (Nat.le_of_ble_eq_true rfl) rfl rfl ?_
  refine f_aload_n dL_law_980 rfl rfl ?_
  refine f_aload_n dL_law_981 rfl rfl ?_
  refine f_iload dL_law_982 rfl ?_
  refine f_iconst (v := 1) dL_law_984 rfl ?_
  refine f_iadd dL_law_985 ?_
  refine f_sld (q := 5 * j + 1) hX hbl (law_ix (w := 1) rfl) (by omega) (by omega) dL_law_986 ?_
  refine f_aload_n dL_law_987 rfl rfl ?_
  refine f_iload dL_law_988 rfl ?_
  refine f_iconst (v := 2) dL_law_990 rfl ?_
  refine f_iadd dL_law_991 ?_
  refine f_sld (q := 5 * j + 2) hX hbl (law_ix (w := 2) rfl) (by omega) (by omega) dL_law_992 ?_
  refine f_aload_n dL_law_993 rfl rfl ?_
  refine f_iload dL_law_994 rfl ?_
  refine f_iconst (v := 3) dL_law_996 rfl ?_
  refine f_iadd dL_law_997 ?_
  refine f_sld (q := 5 * j + 3) hX hbl (law_ix (w := 3) rfl) (by omega) (by omega) dL_law_998 ?_
  refine f_aload_n dL_law_999 rfl rfl ?_
  refine f_iload dL_law_1000 rfl ?_
  refine f_iconst (v := 4) dL_law_1002 rfl ?_
  refine f_iadd dL_law_1003 ?_
  refine f_sld (q := 5 * j + 4) hX hbl (law_ix (w := 4) rfl) (by omega) (by omega) dL_law_1004 ?_
  refine f_cV hG (As := [_, _, _, _]) dL_law_1005 rfl k_X12_fill rfl rfl ml_L_209 im_X12_fill se_X12_fill rfl rfl hm (by decide) (Nat.le_of_ble_eq_true rfl) (Nat.zero_le _) (Nat.zero_le _) ?_
  refine f_istore (ls' := lLs j (some (.int k)) (some (.int b)) none) dL_law_1008 (Nat.le_of_ble_eq_true rfl) rfl rfl ?_
  refine f_aload_n dL_law_1010 rfl rfl ?_
  refine f_cV hG (As := []) dL_law_1011 rfl k_X12_thrown rfl rfl ml_L_159 im_X12_thrown se_X12_thrown rfl rfl (c_X12_thrown hG (d := 60) (Nat.zero_le _) M2 dv) (by decide) (by decide) (Nat.zero_le _) (Nat.zero_le _) ?_
  refine f_iload dL_law_1014 rfl ?_
  refine f_icmp_eq (tgt := 1021) dL_law_1016 (by decide) (fun _ => ?_) (fun h => absurd (by rw [r_X12_thrown]; exact hk) h)
  refine f_iload dL_law_1021 rfl ?_
  refine f_if_ne (tgt := 1038) dL_law_1023 (by decide) (fun _ => ?_) (fun h0 => ?_)
  · refine f_goto (tgt := 2709) dL_law_1038 (by decide) ?_
    exact lw_next (f_less (kc' := kc - 16) (ks' := ks - 96) (by omega) (by omega) (kk M2 dv hI))
  · refine f_aload_n dL_law_1026 rfl rfl ?_
    refine f_iconst (v := 0) dL_law_1027 rfl ?_
    refine s_laload hG dL_law_1028 rfl (vp_in_nI (n := 0) (by decide) (by decide)) ?_
    refine f_iload dL_law_1029 rfl ?_
    refine f_i2l dL_law_1031 ?_
    refine f_lcmp dL_law_1032 ?_
    refine f_if_eq (tgt := 1038) dL_law_1033 (by decide) (fun _ => ?_) (fun h => absurd (by rw [show M2 306 (0 : Int32).toNatClampNeg = b from hb h0]; exact lcmp_eq _) h)
    refine f_goto (tgt := 2709) dL_law_1038 (by decide) ?_
    exact lw_next (f_less (kc' := kc - 16) (ks' := ks - 96) (by omega) (by omega) (kk M2 dv hI))
set_option maxRecDepth 100000 in
set_option maxHeartbeats 4000000 in
theorem lw_case_15 (hG : fOK G) (hX : va_X (gsa G 25) L xs (gs G) (gs G).heap) (hbl : gsa G 25 < fo G) (hL : L ≤ 2560) (hkc : 16 ≤ kc) (hks : 96 ≤ ks) {j : Nat} (hj : 5 * j + 5 ≤ L) (hop : OPi G Iv z_L_ship z_X12_ship M dv [.int (xs (5 * j + 1))]) (kk : ∀ (M2 : fM) (dv2 : UInt64), Iv M2 → fV G z_L_law 70 Q 28 (lLs (j + 1) none none none) [] (sS M2 dv2) (kc - 16) (ks - 96)) : fV G z_L_law 70 Q 1041 (lLs j none none none) [] (sS M dv) kc ks := by
  obtain ⟨k, b, M1, M2, hh, hm, hk, hb, hI⟩ := hop
  refine f_aload_n dL_law_1041 rfl rfl ?_
  refine f_aload_n dL_law_1042 rfl rfl ?_
  refine f_iload dL_law_1043 rfl ?_
  refine f_iconst (v := 1) dL_law_1045 rfl ?_
  refine f_iadd dL_law_1046 ?_
  refine f_sld (q := 5 * j + 1) hX hbl (law_ix (w := 1) rfl) (by omega) (by omega) dL_law_1047 ?_
  refine f_aload_n dL_law_1048 rfl rfl ?_
  refine f_cSW hG (As := [_, _, _]) dL_law_1049 rfl k_L_ship rfl rfl ml_L_210 sm_L_ship hh (by decide) (by decide) hkc hks ?_
  refine f_istore (ls' := lLs j (some (.int k)) none none) dL_law_1052 (Nat.le_of_ble_eq_true rfl) rfl rfl ?_
  refine f_aload_n dL_law_1054 rfl rfl ?_
  refine f_aload_n dL_law_1055 rfl rfl ?_
  refine f_iload dL_law_1056 rfl ?_
  refine f_iconst (v := 1) dL_law_1058 rfl ?_
  refine f_iadd dL_law_1059 ?_
  refine f_sld (q := 5 * j + 1) hX hbl (law_ix (w := 1) rfl) (by omega) (by omega) dL_law_1060 ?_
  refine f_cV hG (As := [_]) dL_law_1061 rfl k_X12_ship rfl rfl ml_L_212 im_X12_ship se_X12_ship rfl rfl hm (by decide) (Nat.le_of_ble_eq_true rfl) (Nat.zero_le _) (Nat.zero_le _) ?_
  refine f_istore (ls' := lLs j (some (.int k)) (some (.int b)) none) dL_law_1064 (Nat.le_of_ble_eq_true rfl) rfl rfl ?_
  refine f_aload_n dL_law_1066 rfl rfl ?_
  refine f_cV hG (As := []) dL_law_1067 rfl k_X12_thrown rfl rfl ml_L_159 im_X12_thrown se_X12_thrown rfl rfl (c_X12_thrown hG (d := 60) (Nat.zero_le _) M2 dv) (by decide) (by decide) (Nat.zero_le _) (Nat.zero_le _) ?_
  refine f_iload dL_law_1070 rfl ?_
  refine f_icmp_eq (tgt := 1077) dL_law_1072 (by decide) (fun _ => ?_) (fun h => absurd (by rw [r_X12_thrown]; exact hk) h)
  refine f_iload dL_law_1077 rfl ?_
  refine f_if_ne (tgt := 1094) dL_law_1079 (by decide) (fun _ => ?_) (fun h0 => ?_)
  · refine f_goto (tgt := 2709) dL_law_1094 (by decide) ?_
    exact lw_next (f_less (kc' := kc - 16) (ks' := ks - 96) (by omega) (by omega) (kk M2 dv hI))
  · refine f_aload_n dL_law_1082 rfl rfl ?_
    refine f_iconst (v := 0) dL_law_1083 rfl ?_
    refine s_laload hG dL_law_1084 rfl (vp_in_nI (n := 0) (by decide) (by decide)) ?_
    refine f_iload dL_law_1085 rfl ?_
    refine f_i2l dL_law_1087 ?_
    refine f_lcmp dL_law_1088 ?_
    refine f_if_eq (tgt := 1094) dL_law_1089 (by decide) (fun _ => ?_) (fun h => absurd (by rw [show M2 306 (0 : Int32).toNatClampNeg = b from hb h0]; exact lcmp_eq _) h)
    refine f_goto (tgt := 2709) dL_law_1094 (by decide) ?_
    exact lw_next (f_less (kc' := kc - 16) (ks' := ks - 96) (by omega) (by omega) (kk M2 dv hI))
set_option maxRecDepth 100000 in
set_option maxHeartbeats 4000000 in
theorem lw_case_16 (hG : fOK G) (hX : va_X (gsa G 25) L xs (gs G) (gs G).heap) (hbl : gsa G 25 < fo G) (hL : L ≤ 2560) (hkc : 16 ≤ kc) (hks : 96 ≤ ks) {j : Nat} (hj : 5 * j + 5 ≤ L) (hop : OPi G Iv z_L_pass z_X12_pass M dv [.int (xs (5 * j + 1))]) (kk : ∀ (M2 : fM) (dv2 : UInt64), Iv M2 → fV G z_L_law 70 Q 28 (lLs (j + 1) none none none) [] (sS M2 dv2) (kc - 16) (ks - 96)) : fV G z_L_law 70 Q 1097 (lLs j none none none) [] (sS M dv) kc ks := by
  obtain ⟨k, b, M1, M2, hh, hm, hk, hb, hI⟩ := hop
  refine f_aload_n dL_law_1097 rfl rfl ?_
  refine f_aload_n dL_law_1098 rfl rfl ?_
  refine f_iload dL_law_1099 rfl ?_
  refine f_iconst (v := 1) dL_law_1101 rfl ?_
  refine f_iadd dL_law_1102 ?_
  refine f_sld (q := 5 * j + 1) hX hbl (law_ix (w := 1) rfl) (by omega) (by omega) dL_law_1103 ?_
  refine f_aload_n dL_law_1104 rfl rfl ?_
  refine f_cSW hG (As := [_, _, _]) dL_law_1105 rfl k_L_pass rfl rfl ml_L_213 sm_L_pass hh (by decide) (by decide) hkc hks ?_
  refine f_istore (ls' := lLs j (some (.int k)) none none) dL_law_1108 (Nat.le_of_ble_eq_true rfl) rfl rfl ?_
  refine f_aload_n dL_law_1110 rfl rfl ?_
  refine f_aload_n dL_law_1111 rfl rfl ?_
  refine f_iload dL_law_1112 rfl ?_
  refine f_iconst (v := 1) dL_law_1114 rfl ?_
  refine f_iadd dL_law_1115 ?_
  refine f_sld (q := 5 * j + 1) hX hbl (law_ix (w := 1) rfl) (by omega) (by omega) dL_law_1116 ?_
  refine f_cV hG (As := [_]) dL_law_1117 rfl k_X12_pass rfl rfl ml_L_215 im_X12_pass se_X12_pass rfl rfl hm (by decide) (Nat.le_of_ble_eq_true rfl) (Nat.zero_le _) (Nat.zero_le _) ?_
  refine f_istore (ls' := lLs j (some (.int k)) (some (.int b)) none) dL_law_1120 (Nat.le_of_ble_eq_true rfl) rfl rfl ?_
  refine f_aload_n dL_law_1122 rfl rfl ?_
  refine f_cV hG (As := []) dL_law_1123 rfl k_X12_thrown rfl rfl ml_L_159 im_X12_thrown se_X12_thrown rfl rfl (c_X12_thrown hG (d := 60) (Nat.zero_le _) M2 dv) (by decide) (by decide) (Nat.zero_le _) (Nat.zero_le _) ?_
  refine f_iload dL_law_1126 rfl ?_
  refine f_icmp_eq (tgt := 1133) dL_law_1128 (by decide) (fun _ => ?_) (fun h => absurd (by rw [r_X12_thrown]; exact hk) h)
  refine f_iload dL_law_1133 rfl ?_
  refine f_if_ne (tgt := 1150) dL_law_1135 (by decide) (fun _ => ?_) (fun h0 => ?_)
  · refine f_goto (tgt := 2709) dL_law_1150 (by decide) ?_
    exact lw_next (f_less (kc' := kc - 16) (ks' := ks - 96) (by omega) (by omega) (kk M2 dv hI))
  · refine f_aload_n dL_law_1138 rfl rfl ?_
    refine f_iconst (v := 0) dL_law_1139 rfl ?_
    refine s_laload hG dL_law_1140 rfl (vp_in_nI (n := 0) (by decide) (by decide)) ?_
    refine f_iload dL_law_1141 rfl ?_
    refine f_i2l dL_law_1143 ?_
    refine f_lcmp dL_law_1144 ?_
    refine f_if_eq (tgt := 1150) dL_law_1145 (by decide) (fun _ => ?_) (fun h => absurd (by rw [show M2 306 (0 : Int32).toNatClampNeg = b from hb h0]; exact lcmp_eq _) h)
    refine f_goto (tgt := 2709) dL_law_1150 (by decide) ?_
    exact lw_next (f_less (kc' := kc - 16) (ks' := ks - 96) (by omega) (by omega) (kk M2 dv hI))
set_option maxRecDepth 100000 in
set_option maxHeartbeats 4000000 in
theorem lw_case_17 (hG : fOK G) (hX : va_X (gsa G 25) L xs (gs G) (gs G).heap) (hbl : gsa G 25 < fo G) (hL : L ≤ 2560) (hkc : 16 ≤ kc) (hks : 96 ≤ ks) {j : Nat} (hj : 5 * j + 5 ≤ L) (hop : OPi G Iv z_L_recall z_X12_recall M dv [.int (xs (5 * j + 1))]) (kk : ∀ (M2 : fM) (dv2 : UInt64), Iv M2 → fV G z_L_law 70 Q 28 (lLs (j + 1) none none none) [] (sS M2 dv2) (kc - 16) (ks - 96)) : fV G z_L_law 70 Q 1153 (lLs j none none none) [] (sS M dv) kc ks := by
  obtain ⟨k, b, M1, M2, hh, hm, hk, hb, hI⟩ := hop
  refine f_aload_n dL_law_1153 rfl rfl ?_
  refine f_aload_n dL_law_1154 rfl rfl ?_
  refine f_iload dL_law_1155 rfl ?_
  refine f_iconst (v := 1) dL_law_1157 rfl ?_
  refine f_iadd dL_law_1158 ?_
  refine f_sld (q := 5 * j + 1) hX hbl (law_ix (w := 1) rfl) (by omega) (by omega) dL_law_1159 ?_
  refine f_aload_n dL_law_1160 rfl rfl ?_
  refine f_cSW hG (As := [_, _, _]) dL_law_1161 rfl k_L_recall rfl rfl ml_L_216 sm_L_recall hh (by decide) (by decide) hkc hks ?_
  refine f_istore (ls' := lLs j (some (.int k)) none none) dL_law_1164 (Nat.le_of_ble_eq_true rfl) rfl rfl ?_
  refine f_aload_n dL_law_1166 rfl rfl ?_
  refine f_aload_n dL_law_1167 rfl rfl ?_
  refine f_iload dL_law_1168 rfl ?_
  refine f_iconst (v := 1) dL_law_1170 rfl ?_
  refine f_iadd dL_law_1171 ?_
  refine f_sld (q := 5 * j + 1) hX hbl (law_ix (w := 1) rfl) (by omega) (by omega) dL_law_1172 ?_
  refine f_cV hG (As := [_]) dL_law_1173 rfl k_X12_recall rfl rfl ml_L_218 im_X12_recall se_X12_recall rfl rfl hm (by decide) (Nat.le_of_ble_eq_true rfl) (Nat.zero_le _) (Nat.zero_le _) ?_
  refine f_istore (ls' := lLs j (some (.int k)) (some (.int b)) none) dL_law_1176 (Nat.le_of_ble_eq_true rfl) rfl rfl ?_
  refine f_aload_n dL_law_1178 rfl rfl ?_
  refine f_cV hG (As := []) dL_law_1179 rfl k_X12_thrown rfl rfl ml_L_159 im_X12_thrown se_X12_thrown rfl rfl (c_X12_thrown hG (d := 60) (Nat.zero_le _) M2 dv) (by decide) (by decide) (Nat.zero_le _) (Nat.zero_le _) ?_
  refine f_iload dL_law_1182 rfl ?_
  refine f_icmp_eq (tgt := 1189) dL_law_1184 (by decide) (fun _ => ?_) (fun h => absurd (by rw [r_X12_thrown]; exact hk) h)
  refine f_iload dL_law_1189 rfl ?_
  refine f_if_ne (tgt := 1206) dL_law_1191 (by decide) (fun _ => ?_) (fun h0 => ?_)
  · refine f_goto (tgt := 2709) dL_law_1206 (by decide) ?_
    exact lw_next (f_less (kc' := kc - 16) (ks' := ks - 96) (by omega) (by omega) (kk M2 dv hI))
  · refine f_aload_n dL_law_1194 rfl rfl ?_
    refine f_iconst (v := 0) dL_law_1195 rfl ?_
    refine s_laload hG dL_law_1196 rfl (vp_in_nI (n := 0) (by decide) (by decide)) ?_
    refine f_iload dL_law_1197 rfl ?_
    refine f_i2l dL_law_1199 ?_
    refine f_lcmp dL_law_1200 ?_
    refine f_if_eq (tgt := 1206) dL_law_1201 (by decide) (fun _ => ?_) (fun h => absurd (by rw [show M2 306 (0 : Int32).toNatClampNeg = b from hb h0]; exact lcmp_eq _) h)
    refine f_goto (tgt := 2709) dL_law_1206 (by decide) ?_
    exact lw_next (f_less (kc' := kc - 16) (ks' := ks - 96) (by omega) (by omega) (kk M2 dv hI))
set_option maxRecDepth 100000 in
set_option maxHeartbeats 4000000 in
theorem lw_case_18 (hG : fOK G) (hX : va_X (gsa G 25) L xs (gs G) (gs G).heap) (hbl : gsa G 25 < fo G) (hL : L ≤ 2560) (hkc : 16 ≤ kc) (hks : 96 ≤ ks) {j : Nat} (hj : 5 * j + 5 ≤ L) (hop : OPp G Iv z_X11_lotCount z_X12_lotCount M dv) (kk : ∀ (M2 : fM) (dv2 : UInt64), Iv M2 → fV G z_L_law 70 Q 28 (lLs (j + 1) none none none) [] (sS M2 dv2) (kc - 16) (ks - 96)) : fV G z_L_law 70 Q 1209 (lLs j none none none) [] (sS M dv) kc ks := by
  obtain ⟨b, M1, M2, hh, hm, hI⟩ := hop
  refine f_aload_n dL_law_1209 rfl rfl ?_
  refine f_cV hG (As := []) dL_law_1210 rfl k_X11_lotCount rfl rfl ml_L_219 im_X11_lotCount se_X11_lotCount rfl rfl hh (by decide) (Nat.le_of_ble_eq_true rfl) (Nat.zero_le _) (Nat.zero_le _) ?_
  refine f_aload_n dL_law_1213 rfl rfl ?_
  refine f_cV hG (As := []) dL_law_1214 rfl k_X12_lotCount rfl rfl ml_L_222 im_X12_lotCount se_X12_lotCount rfl rfl hm (by decide) (Nat.le_of_ble_eq_true rfl) (Nat.zero_le _) (Nat.zero_le _) ?_
  refine f_icmp_eq (tgt := 2709) dL_law_1217 (by decide) (fun _ => ?_) (fun h => absurd rfl h)
  refine f_less (kc' := kc - 16) (ks' := ks - 96) (by omega) (by omega) (lw_next (kk M2 dv hI))
set_option maxRecDepth 100000 in
set_option maxHeartbeats 4000000 in
theorem lw_case_19 (hG : fOK G) (hX : va_X (gsa G 25) L xs (gs G) (gs G).heap) (hbl : gsa G 25 < fo G) (hL : L ≤ 2560) (hkc : 16 ≤ kc) (hks : 96 ≤ ks) {j : Nat} (hj : 5 * j + 5 ≤ L) (hop : OPi G Iv z_L_lotAt z_X12_lotAt M dv [.int (xs (5 * j + 1))]) (kk : ∀ (M2 : fM) (dv2 : UInt64), Iv M2 → fV G z_L_law 70 Q 28 (lLs (j + 1) none none none) [] (sS M2 dv2) (kc - 16) (ks - 96)) : fV G z_L_law 70 Q 1222 (lLs j none none none) [] (sS M dv) kc ks := by
  obtain ⟨k, b, M1, M2, hh, hm, hk, hb, hI⟩ := hop
  refine f_aload_n dL_law_1222 rfl rfl ?_
  refine f_aload_n dL_law_1223 rfl rfl ?_
  refine f_iload dL_law_1224 rfl ?_
  refine f_iconst (v := 1) dL_law_1226 rfl ?_
  refine f_iadd dL_law_1227 ?_
  refine f_sld (q := 5 * j + 1) hX hbl (law_ix (w := 1) rfl) (by omega) (by omega) dL_law_1228 ?_
  refine f_aload_n dL_law_1229 rfl rfl ?_
  refine f_cSW hG (As := [_, _, _]) dL_law_1230 rfl k_L_lotAt rfl rfl ml_L_223 sm_L_lotAt hh (by decide) (by decide) hkc hks ?_
  refine f_istore (ls' := lLs j (some (.int k)) none none) dL_law_1233 (Nat.le_of_ble_eq_true rfl) rfl rfl ?_
  refine f_aload_n dL_law_1235 rfl rfl ?_
  refine f_aload_n dL_law_1236 rfl rfl ?_
  refine f_iload dL_law_1237 rfl ?_
  refine f_iconst (v := 1) dL_law_1239 rfl ?_
  refine f_iadd dL_law_1240 ?_
  refine f_sld (q := 5 * j + 1) hX hbl (law_ix (w := 1) rfl) (by omega) (by omega) dL_law_1241 ?_
  refine f_cV hG (As := [_]) dL_law_1242 rfl k_X12_lotAt rfl rfl ml_L_225 im_X12_lotAt se_X12_lotAt rfl rfl hm (by decide) (Nat.le_of_ble_eq_true rfl) (Nat.zero_le _) (Nat.zero_le _) ?_
  refine f_istore (ls' := lLs j (some (.int k)) (some (.int b)) none) dL_law_1245 (Nat.le_of_ble_eq_true rfl) rfl rfl ?_
  refine f_aload_n dL_law_1247 rfl rfl ?_
  refine f_cV hG (As := []) dL_law_1248 rfl k_X12_thrown rfl rfl ml_L_159 im_X12_thrown se_X12_thrown rfl rfl (c_X12_thrown hG (d := 60) (Nat.zero_le _) M2 dv) (by decide) (by decide) (Nat.zero_le _) (Nat.zero_le _) ?_
  refine f_iload dL_law_1251 rfl ?_
  refine f_icmp_eq (tgt := 1258) dL_law_1253 (by decide) (fun _ => ?_) (fun h => absurd (by rw [r_X12_thrown]; exact hk) h)
  refine f_iload dL_law_1258 rfl ?_
  refine f_if_ne (tgt := 1275) dL_law_1260 (by decide) (fun _ => ?_) (fun h0 => ?_)
  · refine f_goto (tgt := 2709) dL_law_1275 (by decide) ?_
    exact lw_next (f_less (kc' := kc - 16) (ks' := ks - 96) (by omega) (by omega) (kk M2 dv hI))
  · refine f_aload_n dL_law_1263 rfl rfl ?_
    refine f_iconst (v := 0) dL_law_1264 rfl ?_
    refine s_laload hG dL_law_1265 rfl (vp_in_nI (n := 0) (by decide) (by decide)) ?_
    refine f_iload dL_law_1266 rfl ?_
    refine f_i2l dL_law_1268 ?_
    refine f_lcmp dL_law_1269 ?_
    refine f_if_eq (tgt := 1275) dL_law_1270 (by decide) (fun _ => ?_) (fun h => absurd (by rw [show M2 306 (0 : Int32).toNatClampNeg = b from hb h0]; exact lcmp_eq _) h)
    refine f_goto (tgt := 2709) dL_law_1275 (by decide) ?_
    exact lw_next (f_less (kc' := kc - 16) (ks' := ks - 96) (by omega) (by omega) (kk M2 dv hI))
set_option maxRecDepth 100000 in
set_option maxHeartbeats 4000000 in
theorem lw_case_20 (hG : fOK G) (hX : va_X (gsa G 25) L xs (gs G) (gs G).heap) (hbl : gsa G 25 < fo G) (hL : L ≤ 2560) (hkc : 16 ≤ kc) (hks : 96 ≤ ks) {j : Nat} (hj : 5 * j + 5 ≤ L) (hop : OPi G Iv z_L_jarsOf z_X12_jarsOf M dv [.int (xs (5 * j + 1))]) (kk : ∀ (M2 : fM) (dv2 : UInt64), Iv M2 → fV G z_L_law 70 Q 28 (lLs (j + 1) none none none) [] (sS M2 dv2) (kc - 16) (ks - 96)) : fV G z_L_law 70 Q 1278 (lLs j none none none) [] (sS M dv) kc ks := by
  obtain ⟨k, b, M1, M2, hh, hm, hk, hb, hI⟩ := hop
  refine f_aload_n dL_law_1278 rfl rfl ?_
  refine f_aload_n dL_law_1279 rfl rfl ?_
  refine f_iload dL_law_1280 rfl ?_
  refine f_iconst (v := 1) dL_law_1282 rfl ?_
  refine f_iadd dL_law_1283 ?_
  refine f_sld (q := 5 * j + 1) hX hbl (law_ix (w := 1) rfl) (by omega) (by omega) dL_law_1284 ?_
  refine f_aload_n dL_law_1285 rfl rfl ?_
  refine f_cSW hG (As := [_, _, _]) dL_law_1286 rfl k_L_jarsOf rfl rfl ml_L_226 sm_L_jarsOf hh (by decide) (by decide) hkc hks ?_
  refine f_istore (ls' := lLs j (some (.int k)) none none) dL_law_1289 (Nat.le_of_ble_eq_true rfl) rfl rfl ?_
  refine f_aload_n dL_law_1291 rfl rfl ?_
  refine f_aload_n dL_law_1292 rfl rfl ?_
  refine f_iload dL_law_1293 rfl ?_
  refine f_iconst (v := 1) dL_law_1295 rfl ?_
  refine f_iadd dL_law_1296 ?_
  refine f_sld (q := 5 * j + 1) hX hbl (law_ix (w := 1) rfl) (by omega) (by omega) dL_law_1297 ?_
  refine f_cV hG (As := [_]) dL_law_1298 rfl k_X12_jarsOf rfl rfl ml_L_228 im_X12_jarsOf se_X12_jarsOf rfl rfl hm (by decide) (Nat.le_of_ble_eq_true rfl) (Nat.zero_le _) (Nat.zero_le _) ?_
  refine f_istore (ls' := lLs j (some (.int k)) (some (.int b)) none) dL_law_1301 (Nat.le_of_ble_eq_true rfl) rfl rfl ?_
  refine f_aload_n dL_law_1303 rfl rfl ?_
  refine f_cV hG (As := []) dL_law_1304 rfl k_X12_thrown rfl rfl ml_L_159 im_X12_thrown se_X12_thrown rfl rfl (c_X12_thrown hG (d := 60) (Nat.zero_le _) M2 dv) (by decide) (by decide) (Nat.zero_le _) (Nat.zero_le _) ?_
  refine f_iload dL_law_1307 rfl ?_
  refine f_icmp_eq (tgt := 1314) dL_law_1309 (by decide) (fun _ => ?_) (fun h => absurd (by rw [r_X12_thrown]; exact hk) h)
  refine f_iload dL_law_1314 rfl ?_
  refine f_if_ne (tgt := 1331) dL_law_1316 (by decide) (fun _ => ?_) (fun h0 => ?_)
  · refine f_goto (tgt := 2709) dL_law_1331 (by decide) ?_
    exact lw_next (f_less (kc' := kc - 16) (ks' := ks - 96) (by omega) (by omega) (kk M2 dv hI))
  · refine f_aload_n dL_law_1319 rfl rfl ?_
    refine f_iconst (v := 0) dL_law_1320 rfl ?_
    refine s_laload hG dL_law_1321 rfl (vp_in_nI (n := 0) (by decide) (by decide)) ?_
    refine f_iload dL_law_1322 rfl ?_
    refine f_i2l dL_law_1324 ?_
    refine f_lcmp dL_law_1325 ?_
    refine f_if_eq (tgt := 1331) dL_law_1326 (by decide) (fun _ => ?_) (fun h => absurd (by rw [show M2 306 (0 : Int32).toNatClampNeg = b from hb h0]; exact lcmp_eq _) h)
    refine f_goto (tgt := 2709) dL_law_1331 (by decide) ?_
    exact lw_next (f_less (kc' := kc - 16) (ks' := ks - 96) (by omega) (by omega) (kk M2 dv hI))
set_option maxRecDepth 100000 in
set_option maxHeartbeats 4000000 in
theorem lw_case_21 (hG : fOK G) (hX : va_X (gsa G 25) L xs (gs G) (gs G).heap) (hbl : gsa G 25 < fo G) (hL : L ≤ 2560) (hkc : 16 ≤ kc) (hks : 96 ≤ ks) {j : Nat} (hj : 5 * j + 5 ≤ L) (hop : OPi G Iv z_L_labelOf z_X12_labelOf M dv [.int (xs (5 * j + 1))]) (kk : ∀ (M2 : fM) (dv2 : UInt64), Iv M2 → fV G z_L_law 70 Q 28 (lLs (j + 1) none none none) [] (sS M2 dv2) (kc - 16) (ks - 96)) : fV G z_L_law 70 Q 1334 (lLs j none none none) [] (sS M dv) kc ks := by
  obtain ⟨k, b, M1, M2, hh, hm, hk, hb, hI⟩ := hop
  refine f_aload_n dL_law_1334 rfl rfl ?_
  refine f_aload_n dL_law_1335 rfl rfl ?_
  refine f_iload dL_law_1336 rfl ?_
  refine f_iconst (v := 1) dL_law_1338 rfl ?_
  refine f_iadd dL_law_1339 ?_
  refine f_sld (q := 5 * j + 1) hX hbl (law_ix (w := 1) rfl) (by omega) (by omega) dL_law_1340 ?_
  refine f_aload_n dL_law_1341 rfl rfl ?_
  refine f_cSW hG (As := [_, _, _]) dL_law_1342 rfl k_L_labelOf rfl rfl ml_L_229 sm_L_labelOf hh (by decide) (by decide) hkc hks ?_
  refine f_istore (ls' := lLs j (some (.int k)) none none) dL_law_1345 (Nat.le_of_ble_eq_true rfl) rfl rfl ?_
  refine f_aload_n dL_law_1347 rfl rfl ?_
  refine f_aload_n dL_law_1348 rfl rfl ?_
  refine f_iload dL_law_1349 rfl ?_
  refine f_iconst (v := 1) dL_law_1351 rfl ?_
  refine f_iadd dL_law_1352 ?_
  refine f_sld (q := 5 * j + 1) hX hbl (law_ix (w := 1) rfl) (by omega) (by omega) dL_law_1353 ?_
  refine f_cV hG (As := [_]) dL_law_1354 rfl k_X12_labelOf rfl rfl ml_L_231 im_X12_labelOf se_X12_labelOf rfl rfl hm (by decide) (Nat.le_of_ble_eq_true rfl) (Nat.zero_le _) (Nat.zero_le _) ?_
  refine f_istore (ls' := lLs j (some (.int k)) (some (.int b)) none) dL_law_1357 (Nat.le_of_ble_eq_true rfl) rfl rfl ?_
  refine f_aload_n dL_law_1359 rfl rfl ?_
  refine f_cV hG (As := []) dL_law_1360 rfl k_X12_thrown rfl rfl ml_L_159 im_X12_thrown se_X12_thrown rfl rfl (c_X12_thrown hG (d := 60) (Nat.zero_le _) M2 dv) (by decide) (by decide) (Nat.zero_le _) (Nat.zero_le _) ?_
  refine f_iload dL_law_1363 rfl ?_
  refine f_icmp_eq (tgt := 1370) dL_law_1365 (by decide) (fun _ => ?_) (fun h => absurd (by rw [r_X12_thrown]; exact hk) h)
  refine f_iload dL_law_1370 rfl ?_
  refine f_if_ne (tgt := 1387) dL_law_1372 (by decide) (fun _ => ?_) (fun h0 => ?_)
  · refine f_goto (tgt := 2709) dL_law_1387 (by decide) ?_
    exact lw_next (f_less (kc' := kc - 16) (ks' := ks - 96) (by omega) (by omega) (kk M2 dv hI))
  · refine f_aload_n dL_law_1375 rfl rfl ?_
    refine f_iconst (v := 0) dL_law_1376 rfl ?_
    refine s_laload hG dL_law_1377 rfl (vp_in_nI (n := 0) (by decide) (by decide)) ?_
    refine f_iload dL_law_1378 rfl ?_
    refine f_i2l dL_law_1380 ?_
    refine f_lcmp dL_law_1381 ?_
    refine f_if_eq (tgt := 1387) dL_law_1382 (by decide) (fun _ => ?_) (fun h => absurd (by rw [show M2 306 (0 : Int32).toNatClampNeg = b from hb h0]; exact lcmp_eq _) h)
    refine f_goto (tgt := 2709) dL_law_1387 (by decide) ?_
    exact lw_next (f_less (kc' := kc - 16) (ks' := ks - 96) (by omega) (by omega) (kk M2 dv hI))
set_option maxRecDepth 100000 in
set_option maxHeartbeats 4000000 in
theorem lw_case_22 (hG : fOK G) (hX : va_X (gsa G 25) L xs (gs G) (gs G).heap) (hbl : gsa G 25 < fo G) (hL : L ≤ 2560) (hkc : 16 ≤ kc) (hks : 96 ≤ ks) {j : Nat} (hj : 5 * j + 5 ≤ L) (hop : OPi G Iv z_L_strengthOfLot z_X12_strengthOfLot M dv [.int (xs (5 * j + 1))]) (kk : ∀ (M2 : fM) (dv2 : UInt64), Iv M2 → fV G z_L_law 70 Q 28 (lLs (j + 1) none none none) [] (sS M2 dv2) (kc - 16) (ks - 96)) : fV G z_L_law 70 Q 1390 (lLs j none none none) [] (sS M dv) kc ks := by
  obtain ⟨k, b, M1, M2, hh, hm, hk, hb, hI⟩ := hop
  refine f_aload_n dL_law_1390 rfl rfl ?_
  refine f_aload_n dL_law_1391 rfl rfl ?_
  refine f_iload dL_law_1392 rfl ?_
  refine f_iconst (v := 1) dL_law_1394 rfl ?_
  refine f_iadd dL_law_1395 ?_
  refine f_sld (q := 5 * j + 1) hX hbl (law_ix (w := 1) rfl) (by omega) (by omega) dL_law_1396 ?_
  refine f_aload_n dL_law_1397 rfl rfl ?_
  refine f_cSW hG (As := [_, _, _]) dL_law_1398 rfl k_L_strengthOfLot rfl rfl ml_L_232 sm_L_strengthOfLot hh (by decide) (by decide) hkc hks ?_
  refine f_istore (ls' := lLs j (some (.int k)) none none) dL_law_1401 (Nat.le_of_ble_eq_true rfl) rfl rfl ?_
  refine f_aload_n dL_law_1403 rfl rfl ?_
  refine f_aload_n dL_law_1404 rfl rfl ?_
  refine f_iload dL_law_1405 rfl ?_
  refine f_iconst (v := 1) dL_law_1407 rfl ?_
  refine f_iadd dL_law_1408 ?_
  refine f_sld (q := 5 * j + 1) hX hbl (law_ix (w := 1) rfl) (by omega) (by omega) dL_law_1409 ?_
  refine f_cV hG (As := [_]) dL_law_1410 rfl k_X12_strengthOfLot rfl rfl ml_L_234 im_X12_strengthOfLot se_X12_strengthOfLot rfl rfl hm (by decide) (Nat.le_of_ble_eq_true rfl) (Nat.zero_le _) (Nat.zero_le _) ?_
  refine f_istore (ls' := lLs j (some (.int k)) (some (.int b)) none) dL_law_1413 (Nat.le_of_ble_eq_true rfl) rfl rfl ?_
  refine f_aload_n dL_law_1415 rfl rfl ?_
  refine f_cV hG (As := []) dL_law_1416 rfl k_X12_thrown rfl rfl ml_L_159 im_X12_thrown se_X12_thrown rfl rfl (c_X12_thrown hG (d := 60) (Nat.zero_le _) M2 dv) (by decide) (by decide) (Nat.zero_le _) (Nat.zero_le _) ?_
  refine f_iload dL_law_1419 rfl ?_
  refine f_icmp_eq (tgt := 1426) dL_law_1421 (by decide) (fun _ => ?_) (fun h => absurd (by rw [r_X12_thrown]; exact hk) h)
  refine f_iload dL_law_1426 rfl ?_
  refine f_if_ne (tgt := 1443) dL_law_1428 (by decide) (fun _ => ?_) (fun h0 => ?_)
  · refine f_goto (tgt := 2709) dL_law_1443 (by decide) ?_
    exact lw_next (f_less (kc' := kc - 16) (ks' := ks - 96) (by omega) (by omega) (kk M2 dv hI))
  · refine f_aload_n dL_law_1431 rfl rfl ?_
    refine f_iconst (v := 0) dL_law_1432 rfl ?_
    refine s_laload hG dL_law_1433 rfl (vp_in_nI (n := 0) (by decide) (by decide)) ?_
    refine f_iload dL_law_1434 rfl ?_
    refine f_i2l dL_law_1436 ?_
    refine f_lcmp dL_law_1437 ?_
    refine f_if_eq (tgt := 1443) dL_law_1438 (by decide) (fun _ => ?_) (fun h => absurd (by rw [show M2 306 (0 : Int32).toNatClampNeg = b from hb h0]; exact lcmp_eq _) h)
    refine f_goto (tgt := 2709) dL_law_1443 (by decide) ?_
    exact lw_next (f_less (kc' := kc - 16) (ks' := ks - 96) (by omega) (by omega) (kk M2 dv hI))
set_option maxRecDepth 100000 in
set_option maxHeartbeats 4000000 in
theorem lw_case_23 (hG : fOK G) (hX : va_X (gsa G 25) L xs (gs G) (gs G).heap) (hbl : gsa G 25 < fo G) (hL : L ≤ 2560) (hkc : 16 ≤ kc) (hks : 96 ≤ ks) {j : Nat} (hj : 5 * j + 5 ≤ L) (hop : OPi G Iv z_L_pressureOf z_X12_pressureOf M dv [.int (xs (5 * j + 1))]) (kk : ∀ (M2 : fM) (dv2 : UInt64), Iv M2 → fV G z_L_law 70 Q 28 (lLs (j + 1) none none none) [] (sS M2 dv2) (kc - 16) (ks - 96)) : fV G z_L_law 70 Q 1446 (lLs j none none none) [] (sS M dv) kc ks := by
  obtain ⟨k, b, M1, M2, hh, hm, hk, hb, hI⟩ := hop
  refine f_aload_n dL_law_1446 rfl rfl ?_
  refine f_aload_n dL_law_1447 rfl rfl ?_
  refine f_iload dL_law_1448 rfl ?_
  refine f_iconst (v := 1) dL_law_1450 rfl ?_
  refine f_iadd dL_law_1451 ?_
  refine f_sld (q := 5 * j + 1) hX hbl (law_ix (w := 1) rfl) (by omega) (by omega) dL_law_1452 ?_
  refine f_aload_n dL_law_1453 rfl rfl ?_
  refine f_cSW hG (As := [_, _, _]) dL_law_1454 rfl k_L_pressureOf rfl rfl ml_L_235 sm_L_pressureOf hh (by decide) (by decide) hkc hks ?_
  refine f_istore (ls' := lLs j (some (.int k)) none none) dL_law_1457 (Nat.le_of_ble_eq_true rfl) rfl rfl ?_
  refine f_aload_n dL_law_1459 rfl rfl ?_
  refine f_aload_n dL_law_1460 rfl rfl ?_
  refine f_iload dL_law_1461 rfl ?_
  refine f_iconst (v := 1) dL_law_1463 rfl ?_
  refine f_iadd dL_law_1464 ?_
  refine f_sld (q := 5 * j + 1) hX hbl (law_ix (w := 1) rfl) (by omega) (by omega) dL_law_1465 ?_
  refine f_cV hG (As := [_]) dL_law_1466 rfl k_X12_pressureOf rfl rfl ml_L_237 im_X12_pressureOf se_X12_pressureOf rfl rfl hm (by decide) (Nat.le_of_ble_eq_true rfl) (Nat.zero_le _) (Nat.zero_le _) ?_
  refine f_istore (ls' := lLs j (some (.int k)) (some (.int b)) none) dL_law_1469 (Nat.le_of_ble_eq_true rfl) rfl rfl ?_
  refine f_aload_n dL_law_1471 rfl rfl ?_
  refine f_cV hG (As := []) dL_law_1472 rfl k_X12_thrown rfl rfl ml_L_159 im_X12_thrown se_X12_thrown rfl rfl (c_X12_thrown hG (d := 60) (Nat.zero_le _) M2 dv) (by decide) (by decide) (Nat.zero_le _) (Nat.zero_le _) ?_
  refine f_iload dL_law_1475 rfl ?_
  refine f_icmp_eq (tgt := 1482) dL_law_1477 (by decide) (fun _ => ?_) (fun h => absurd (by rw [r_X12_thrown]; exact hk) h)
  refine f_iload dL_law_1482 rfl ?_
  refine f_if_ne (tgt := 1499) dL_law_1484 (by decide) (fun _ => ?_) (fun h0 => ?_)
  · refine f_goto (tgt := 2709) dL_law_1499 (by decide) ?_
    exact lw_next (f_less (kc' := kc - 16) (ks' := ks - 96) (by omega) (by omega) (kk M2 dv hI))
  · refine f_aload_n dL_law_1487 rfl rfl ?_
    refine f_iconst (v := 0) dL_law_1488 rfl ?_
    refine s_laload hG dL_law_1489 rfl (vp_in_nI (n := 0) (by decide) (by decide)) ?_
    refine f_iload dL_law_1490 rfl ?_
    refine f_i2l dL_law_1492 ?_
    refine f_lcmp dL_law_1493 ?_
    refine f_if_eq (tgt := 1499) dL_law_1494 (by decide) (fun _ => ?_) (fun h => absurd (by rw [show M2 306 (0 : Int32).toNatClampNeg = b from hb h0]; exact lcmp_eq _) h)
    refine f_goto (tgt := 2709) dL_law_1499 (by decide) ?_
    exact lw_next (f_less (kc' := kc - 16) (ks' := ks - 96) (by omega) (by omega) (kk M2 dv hI))
set_option maxRecDepth 100000 in
set_option maxHeartbeats 4000000 in
theorem lw_case_24 (hG : fOK G) (hX : va_X (gsa G 25) L xs (gs G) (gs G).heap) (hbl : gsa G 25 < fo G) (hL : L ≤ 2560) (hkc : 16 ≤ kc) (hks : 96 ≤ ks) {j : Nat} (hj : 5 * j + 5 ≤ L) (hop : OPb G Iv z_L_lotContains z_X12_lotContains M dv [.int (xs (5 * j + 1)), .int (xs (5 * j + 2))]) (kk : ∀ (M2 : fM) (dv2 : UInt64), Iv M2 → fV G z_L_law 70 Q 28 (lLs (j + 1) none none none) [] (sS M2 dv2) (kc - 16) (ks - 96)) : fV G z_L_law 70 Q 1502 (lLs j none none none) [] (sS M dv) kc ks := by
  obtain ⟨k, b, M1, M2, hh, hm, hk, hb, hI⟩ := hop
  refine f_aload_n dL_law_1502 rfl rfl ?_
  refine f_aload_n dL_law_1503 rfl rfl ?_
  refine f_iload dL_law_1504 rfl ?_
  refine f_iconst (v := 1) dL_law_1506 rfl ?_
  refine f_iadd dL_law_1507 ?_
  refine f_sld (q := 5 * j + 1) hX hbl (law_ix (w := 1) rfl) (by omega) (by omega) dL_law_1508 ?_
  refine f_aload_n dL_law_1509 rfl rfl ?_
  refine f_iload dL_law_1510 rfl ?_
  refine f_iconst (v := 2) dL_law_1512 rfl ?_
  refine f_iadd dL_law_1513 ?_
  refine f_sld (q := 5 * j + 2) hX hbl (law_ix (w := 2) rfl) (by omega) (by omega) dL_law_1514 ?_
  refine f_aload_n dL_law_1515 rfl rfl ?_
  refine f_cSW hG (As := [_, _, _, _]) dL_law_1516 rfl k_L_lotContains rfl rfl ml_L_238 sm_L_lotContains hh (by decide) (by decide) hkc hks ?_
  refine f_istore (ls' := lLs j (some (.int k)) none none) dL_law_1519 (Nat.le_of_ble_eq_true rfl) rfl rfl ?_
  refine f_aload_n dL_law_1521 rfl rfl ?_
  refine f_aload_n dL_law_1522 rfl rfl ?_
  refine f_iload dL_law_1523 rfl ?_
  refine f_iconst (v := 1) dL_law_1525 rfl ?_
  refine f_iadd dL_law_1526 ?_
  refine f_sld (q := 5 * j + 1) hX hbl (law_ix (w := 1) rfl) (by omega) (by omega) dL_law_1527 ?_
  refine f_aload_n dL_law_1528 rfl rfl ?_
  refine f_iload dL_law_1529 rfl ?_
  refine f_iconst (v := 2) dL_law_1531 rfl ?_
  refine f_iadd dL_law_1532 ?_
  refine f_sld (q := 5 * j + 2) hX hbl (law_ix (w := 2) rfl) (by omega) (by omega) dL_law_1533 ?_
  refine f_cV hG (As := [_, _]) dL_law_1534 rfl k_X12_lotContains rfl rfl ml_L_240 im_X12_lotContains se_X12_lotContains rfl rfl hm (by decide) (Nat.le_of_ble_eq_true rfl) (Nat.zero_le _) (Nat.zero_le _) ?_
  refine f_istore (ls' := lLs j (some (.int k)) (some (.int b)) none) dL_law_1537 (Nat.le_of_ble_eq_true rfl) rfl rfl ?_
  refine f_aload_n dL_law_1539 rfl rfl ?_
  refine f_cV hG (As := []) dL_law_1540 rfl k_X12_thrown rfl rfl ml_L_159 im_X12_thrown se_X12_thrown rfl rfl (c_X12_thrown hG (d := 60) (Nat.zero_le _) M2 dv) (by decide) (by decide) (Nat.zero_le _) (Nat.zero_le _) ?_
  refine f_iload dL_law_1543 rfl ?_
  refine f_icmp_eq (tgt := 1550) dL_law_1545 (by decide) (fun _ => ?_) (fun h => absurd (by rw [r_X12_thrown]; exact hk) h)
  refine f_iload dL_law_1550 rfl ?_
  refine f_if_ne (tgt := 1574) dL_law_1552 (by decide) (fun _ => ?_) (fun h0 => ?_)
  · refine f_goto (tgt := 2709) dL_law_1574 (by decide) ?_
    exact lw_next (f_less (kc' := kc - 16) (ks' := ks - 96) (by omega) (by omega) (kk M2 dv hI))
  · refine f_aload_n dL_law_1555 rfl rfl ?_
    refine f_iconst (v := 0) dL_law_1556 rfl ?_
    refine s_laload hG dL_law_1557 rfl (vp_in_nI (n := 0) (by decide) (by decide)) ?_
    refine f_iload dL_law_1558 rfl ?_
    refine f_if_eq (tgt := 1567) dL_law_1560 (by decide) (fun b0 => ?_) (fun b0 => ?_)
    · refine f_lconst (v := (0 : Int32).toInt64) dL_law_1567 rfl ?_
      refine f_lcmp dL_law_1568 ?_
      refine f_if_eq (tgt := 1574) dL_law_1569 (by decide) (fun _ => ?_) (fun h => absurd (by rw [show M2 306 (0 : Int32).toNatClampNeg = oL b from hb h0, oL, if_pos b0]; exact lcmp_eq _) h)
      refine f_goto (tgt := 2709) dL_law_1574 (by decide) ?_
      exact lw_next (f_less (kc' := kc - 16) (ks' := ks - 96) (by omega) (by omega) (kk M2 dv hI))
    · refine f_lconst (v := (1 : Int32).toInt64) dL_law_1563 rfl ?_
      refine f_goto (tgt := 1568) dL_law_1564 (by decide) ?_
      refine f_lcmp dL_law_1568 ?_
      refine f_if_eq (tgt := 1574) dL_law_1569 (by decide) (fun _ => ?_) (fun h => absurd (by rw [show M2 306 (0 : Int32).toNatClampNeg = oL b from hb h0, oL, if_neg b0]; exact lcmp_eq _) h)
      refine f_goto (tgt := 2709) dL_law_1574 (by decide) ?_
      exact lw_next (f_less (kc' := kc - 16) (ks' := ks - 96) (by omega) (by omega) (kk M2 dv hI))
set_option maxRecDepth 100000 in
set_option maxHeartbeats 4000000 in
theorem lw_case_25 (hG : fOK G) (hX : va_X (gsa G 25) L xs (gs G) (gs G).heap) (hbl : gsa G 25 < fo G) (hL : L ≤ 2560) (hkc : 16 ≤ kc) (hks : 96 ≤ ks) {j : Nat} (hj : 5 * j + 5 ≤ L) (hop : OPi G Iv z_L_daysUntilPop z_X12_daysUntilPop M dv [.int (xs (5 * j + 1))]) (kk : ∀ (M2 : fM) (dv2 : UInt64), Iv M2 → fV G z_L_law 70 Q 28 (lLs (j + 1) none none none) [] (sS M2 dv2) (kc - 16) (ks - 96)) : fV G z_L_law 70 Q 1577 (lLs j none none none) [] (sS M dv) kc ks := by
  obtain ⟨k, b, M1, M2, hh, hm, hk, hb, hI⟩ := hop
  refine f_aload_n dL_law_1577 rfl rfl ?_
  refine f_aload_n dL_law_1578 rfl rfl ?_
  refine f_iload dL_law_1579 rfl ?_
  refine f_iconst (v := 1) dL_law_1581 rfl ?_
  refine f_iadd dL_law_1582 ?_
  refine f_sld (q := 5 * j + 1) hX hbl (law_ix (w := 1) rfl) (by omega) (by omega) dL_law_1583 ?_
  refine f_aload_n dL_law_1584 rfl rfl ?_
  refine f_cSW hG (As := [_, _, _]) dL_law_1585 rfl k_L_daysUntilPop rfl rfl ml_L_241 sm_L_daysUntilPop hh (by decide) (by decide) hkc hks ?_
  refine f_istore (ls' := lLs j (some (.int k)) none none) dL_law_1588 (Nat.le_of_ble_eq_true rfl) rfl rfl ?_
  refine f_aload_n dL_law_1590 rfl rfl ?_
  refine f_aload_n dL_law_1591 rfl rfl ?_
  refine f_iload dL_law_1592 rfl ?_
  refine f_iconst (v := 1) dL_law_1594 rfl ?_
  refine f_iadd dL_law_1595 ?_
  refine f_sld (q := 5 * j + 1) hX hbl (law_ix (w := 1) rfl) (by omega) (by omega) dL_law_1596 ?_
  refine f_cV hG (As := [_]) dL_law_1597 rfl k_X12_daysUntilPop rfl rfl ml_L_243 im_X12_daysUntilPop se_X12_daysUntilPop rfl rfl hm (by decide) (Nat.le_of_ble_eq_true rfl) (Nat.zero_le _) (Nat.zero_le _) ?_
  refine f_istore (ls' := lLs j (some (.int k)) (some (.int b)) none) dL_law_1600 (Nat.le_of_ble_eq_true rfl) rfl rfl ?_
  refine f_aload_n dL_law_1602 rfl rfl ?_
  refine f_cV hG (As := []) dL_law_1603 rfl k_X12_thrown rfl rfl ml_L_159 im_X12_thrown se_X12_thrown rfl rfl (c_X12_thrown hG (d := 60) (Nat.zero_le _) M2 dv) (by decide) (by decide) (Nat.zero_le _) (Nat.zero_le _) ?_
  refine f_iload dL_law_1606 rfl ?_
  refine f_icmp_eq (tgt := 1613) dL_law_1608 (by decide) (fun _ => ?_) (fun h => absurd (by rw [r_X12_thrown]; exact hk) h)
  refine f_iload dL_law_1613 rfl ?_
  refine f_if_ne (tgt := 1630) dL_law_1615 (by decide) (fun _ => ?_) (fun h0 => ?_)
  · refine f_goto (tgt := 2709) dL_law_1630 (by decide) ?_
    exact lw_next (f_less (kc' := kc - 16) (ks' := ks - 96) (by omega) (by omega) (kk M2 dv hI))
  · refine f_aload_n dL_law_1618 rfl rfl ?_
    refine f_iconst (v := 0) dL_law_1619 rfl ?_
    refine s_laload hG dL_law_1620 rfl (vp_in_nI (n := 0) (by decide) (by decide)) ?_
    refine f_iload dL_law_1621 rfl ?_
    refine f_i2l dL_law_1623 ?_
    refine f_lcmp dL_law_1624 ?_
    refine f_if_eq (tgt := 1630) dL_law_1625 (by decide) (fun _ => ?_) (fun h => absurd (by rw [show M2 306 (0 : Int32).toNatClampNeg = b from hb h0]; exact lcmp_eq _) h)
    refine f_goto (tgt := 2709) dL_law_1630 (by decide) ?_
    exact lw_next (f_less (kc' := kc - 16) (ks' := ks - 96) (by omega) (by omega) (kk M2 dv hI))
set_option maxRecDepth 100000 in
set_option maxHeartbeats 4000000 in
theorem lw_case_26 (hG : fOK G) (hX : va_X (gsa G 25) L xs (gs G) (gs G).heap) (hbl : gsa G 25 < fo G) (hL : L ≤ 2560) (hkc : 16 ≤ kc) (hks : 96 ≤ ks) {j : Nat} (hj : 5 * j + 5 ≤ L) (hop : OPi G Iv z_L_daysByDivision z_X12_daysByDivision M dv [.int (xs (5 * j + 1))]) (kk : ∀ (M2 : fM) (dv2 : UInt64), Iv M2 → fV G z_L_law 70 Q 28 (lLs (j + 1) none none none) [] (sS M2 dv2) (kc - 16) (ks - 96)) : fV G z_L_law 70 Q 1633 (lLs j none none none) [] (sS M dv) kc ks := by
  obtain ⟨k, b, M1, M2, hh, hm, hk, hb, hI⟩ := hop
  refine f_aload_n dL_law_1633 rfl rfl ?_
  refine f_aload_n dL_law_1634 rfl rfl ?_
  refine f_iload dL_law_1635 rfl ?_
  refine f_iconst (v := 1) dL_law_1637 rfl ?_
  refine f_iadd dL_law_1638 ?_
  refine f_sld (q := 5 * j + 1) hX hbl (law_ix (w := 1) rfl) (by omega) (by omega) dL_law_1639 ?_
  refine f_aload_n dL_law_1640 rfl rfl ?_
  refine f_cSW hG (As := [_, _, _]) dL_law_1641 rfl k_L_daysByDivision rfl rfl ml_L_244 sm_L_daysByDivision hh (by decide) (by decide) hkc hks ?_
  refine f_istore (ls' := lLs j (some (.int k)) none none) dL_law_1644 (Nat.le_of_ble_eq_true rfl) rfl rfl ?_
  refine f_aload_n dL_law_1646 rfl rfl ?_
  refine f_aload_n dL_law_1647 rfl rfl ?_
  refine f_iload dL_law_1648 rfl ?_
  refine f_iconst (v := 1) dL_law_1650 rfl ?_
  refine f_iadd dL_law_1651 ?_
  refine f_sld (q := 5 * j + 1) hX hbl (law_ix (w := 1) rfl) (by omega) (by omega) dL_law_1652 ?_
  refine f_cV hG (As := [_]) dL_law_1653 rfl k_X12_daysByDivision rfl rfl ml_L_246 im_X12_daysByDivision se_X12_daysByDivision rfl rfl hm (by decide) (Nat.le_of_ble_eq_true rfl) (Nat.zero_le _) (Nat.zero_le _) ?_
  refine f_istore (ls' := lLs j (some (.int k)) (some (.int b)) none) dL_law_1656 (Nat.le_of_ble_eq_true rfl) rfl rfl ?_
  refine f_aload_n dL_law_1658 rfl rfl ?_
  refine f_cV hG (As := []) dL_law_1659 rfl k_X12_thrown rfl rfl ml_L_159 im_X12_thrown se_X12_thrown rfl rfl (c_X12_thrown hG (d := 60) (Nat.zero_le _) M2 dv) (by decide) (by decide) (Nat.zero_le _) (Nat.zero_le _) ?_
  refine f_iload dL_law_1662 rfl ?_
  refine f_icmp_eq (tgt := 1669) dL_law_1664 (by decide) (fun _ => ?_) (fun h => absurd (by rw [r_X12_thrown]; exact hk) h)
  refine f_iload dL_law_1669 rfl ?_
  refine f_if_ne (tgt := 1686) dL_law_1671 (by decide) (fun _ => ?_) (fun h0 => ?_)
  · refine f_goto (tgt := 2709) dL_law_1686 (by decide) ?_
    exact lw_next (f_less (kc' := kc - 16) (ks' := ks - 96) (by omega) (by omega) (kk M2 dv hI))
  · refine f_aload_n dL_law_1674 rfl rfl ?_
    refine f_iconst (v := 0) dL_law_1675 rfl ?_
    refine s_laload hG dL_law_1676 rfl (vp_in_nI (n := 0) (by decide) (by decide)) ?_
    refine f_iload dL_law_1677 rfl ?_
    refine f_i2l dL_law_1679 ?_
    refine f_lcmp dL_law_1680 ?_
    refine f_if_eq (tgt := 1686) dL_law_1681 (by decide) (fun _ => ?_) (fun h => absurd (by rw [show M2 306 (0 : Int32).toNatClampNeg = b from hb h0]; exact lcmp_eq _) h)
    refine f_goto (tgt := 2709) dL_law_1686 (by decide) ?_
    exact lw_next (f_less (kc' := kc - 16) (ks' := ks - 96) (by omega) (by omega) (kk M2 dv hI))
set_option maxRecDepth 100000 in
set_option maxHeartbeats 4000000 in
theorem lw_case_27 (hG : fOK G) (hX : va_X (gsa G 25) L xs (gs G) (gs G).heap) (hbl : gsa G 25 < fo G) (hL : L ≤ 2560) (hkc : 16 ≤ kc) (hks : 96 ≤ ks) {j : Nat} (hj : 5 * j + 5 ≤ L) (hop : OPi G Iv z_L_lotByPressure z_X12_lotByPressure M dv [.int (xs (5 * j + 1))]) (kk : ∀ (M2 : fM) (dv2 : UInt64), Iv M2 → fV G z_L_law 70 Q 28 (lLs (j + 1) none none none) [] (sS M2 dv2) (kc - 16) (ks - 96)) : fV G z_L_law 70 Q 1689 (lLs j none none none) [] (sS M dv) kc ks := by
  obtain ⟨k, b, M1, M2, hh, hm, hk, hb, hI⟩ := hop
  refine f_aload_n dL_law_1689 rfl rfl ?_
  refine f_aload_n dL_law_1690 rfl rfl ?_
  refine f_iload dL_law_1691 rfl ?_
  refine f_iconst (v := 1) dL_law_1693 rfl ?_
  refine f_iadd dL_law_1694 ?_
  refine f_sld (q := 5 * j + 1) hX hbl (law_ix (w := 1) rfl) (by omega) (by omega) dL_law_1695 ?_
  refine f_aload_n dL_law_1696 rfl rfl ?_
  refine f_cSW hG (As := [_, _, _]) dL_law_1697 rfl k_L_lotByPressure rfl rfl ml_L_247 sm_L_lotByPressure hh (by decide) (by decide) hkc hks ?_
  refine f_istore (ls' := lLs j (some (.int k)) none none) dL_law_1700 (Nat.le_of_ble_eq_true rfl) rfl rfl ?_
  refine f_aload_n dL_law_1702 rfl rfl ?_
  refine f_aload_n dL_law_1703 rfl rfl ?_
  refine f_iload dL_law_1704 rfl ?_
  refine f_iconst (v := 1) dL_law_1706 rfl ?_
  refine f_iadd dL_law_1707 ?_
  refine f_sld (q := 5 * j + 1) hX hbl (law_ix (w := 1) rfl) (by omega) (by omega) dL_law_1708 ?_
  refine f_cV hG (As := [_]) dL_law_1709 rfl k_X12_lotByPressure rfl rfl ml_L_249 im_X12_lotByPressure se_X12_lotByPressure rfl rfl hm (by decide) (Nat.le_of_ble_eq_true rfl) (Nat.zero_le _) (Nat.zero_le _) ?_
  refine f_istore (ls' := lLs j (some (.int k)) (some (.int b)) none) dL_law_1712 (Nat.le_of_ble_eq_true rfl) rfl rfl ?_
  refine f_aload_n dL_law_1714 rfl rfl ?_
  refine f_cV hG (As := []) dL_law_1715 rfl k_X12_thrown rfl rfl ml_L_159 im_X12_thrown se_X12_thrown rfl rfl (c_X12_thrown hG (d := 60) (Nat.zero_le _) M2 dv) (by decide) (by decide) (Nat.zero_le _) (Nat.zero_le _) ?_
  refine f_iload dL_law_1718 rfl ?_
  refine f_icmp_eq (tgt := 1725) dL_law_1720 (by decide) (fun _ => ?_) (fun h => absurd (by rw [r_X12_thrown]; exact hk) h)
  refine f_iload dL_law_1725 rfl ?_
  refine f_if_ne (tgt := 1742) dL_law_1727 (by decide) (fun _ => ?_) (fun h0 => ?_)
  · refine f_goto (tgt := 2709) dL_law_1742 (by decide) ?_
    exact lw_next (f_less (kc' := kc - 16) (ks' := ks - 96) (by omega) (by omega) (kk M2 dv hI))
  · refine f_aload_n dL_law_1730 rfl rfl ?_
    refine f_iconst (v := 0) dL_law_1731 rfl ?_
    refine s_laload hG dL_law_1732 rfl (vp_in_nI (n := 0) (by decide) (by decide)) ?_
    refine f_iload dL_law_1733 rfl ?_
    refine f_i2l dL_law_1735 ?_
    refine f_lcmp dL_law_1736 ?_
    refine f_if_eq (tgt := 1742) dL_law_1737 (by decide) (fun _ => ?_) (fun h => absurd (by rw [show M2 306 (0 : Int32).toNatClampNeg = b from hb h0]; exact lcmp_eq _) h)
    refine f_goto (tgt := 2709) dL_law_1742 (by decide) ?_
    exact lw_next (f_less (kc' := kc - 16) (ks' := ks - 96) (by omega) (by omega) (kk M2 dv hI))
set_option maxRecDepth 100000 in
set_option maxHeartbeats 4000000 in
theorem lw_case_28 (hG : fOK G) (hX : va_X (gsa G 25) L xs (gs G) (gs G).heap) (hbl : gsa G 25 < fo G) (hL : L ≤ 2560) (hkc : 16 ≤ kc) (hks : 96 ≤ ks) {j : Nat} (hj : 5 * j + 5 ≤ L) (hop : OPi G Iv z_L_affectedLots z_X12_affectedLots M dv [.int (xs (5 * j + 1))]) (kk : ∀ (M2 : fM) (dv2 : UInt64), Iv M2 → fV G z_L_law 70 Q 28 (lLs (j + 1) none none none) [] (sS M2 dv2) (kc - 16) (ks - 96)) : fV G z_L_law 70 Q 1745 (lLs j none none none) [] (sS M dv) kc ks := by
  obtain ⟨k, b, M1, M2, hh, hm, hk, hb, hI⟩ := hop
  refine f_aload_n dL_law_1745 rfl rfl ?_
  refine f_aload_n dL_law_1746 rfl rfl ?_
  refine f_iload dL_law_1747 rfl ?_
  refine f_iconst (v := 1) dL_law_1749 rfl ?_
  refine f_iadd dL_law_1750 ?_
  refine f_sld (q := 5 * j + 1) hX hbl (law_ix (w := 1) rfl) (by omega) (by omega) dL_law_1751 ?_
  refine f_aload_n dL_law_1752 rfl rfl ?_
  refine f_cSW hG (As := [_, _, _]) dL_law_1753 rfl k_L_affectedLots rfl rfl ml_L_250 sm_L_affectedLots hh (by decide) (by decide) hkc hks ?_
  refine f_istore (ls' := lLs j (some (.int k)) none none) dL_law_1756 (Nat.le_of_ble_eq_true rfl) rfl rfl ?_
  refine f_aload_n dL_law_1758 rfl rfl ?_
  refine f_aload_n dL_law_1759 rfl rfl ?_
  refine f_iload dL_law_1760 rfl ?_
  refine f_iconst (v := 1) dL_law_1762 rfl ?_
  refine f_iadd dL_law_1763 ?_
  refine f_sld (q := 5 * j + 1) hX hbl (law_ix (w := 1) rfl) (by omega) (by omega) dL_law_1764 ?_
  refine f_cV hG (As := [_]) dL_law_1765 rfl k_X12_affectedLots rfl rfl ml_L_252 im_X12_affectedLots se_X12_affectedLots rfl rfl hm (by decide) (Nat.le_of_ble_eq_true rfl) (Nat.zero_le _) (Nat.zero_le _) ?_
  refine f_istore (ls' := lLs j (some (.int k)) (some (.int b)) none) dL_law_1768 (Nat.le_of_ble_eq_true rfl) rfl rfl ?_
  refine f_aload_n dL_law_1770 rfl rfl ?_
  refine f_cV hG (As := []) dL_law_1771 rfl k_X12_thrown rfl rfl ml_L_159 im_X12_thrown se_X12_thrown rfl rfl (c_X12_thrown hG (d := 60) (Nat.zero_le _) M2 dv) (by decide) (by decide) (Nat.zero_le _) (Nat.zero_le _) ?_
  refine f_iload dL_law_1774 rfl ?_
  refine f_icmp_eq (tgt := 1781) dL_law_1776 (by decide) (fun _ => ?_) (fun h => absurd (by rw [r_X12_thrown]; exact hk) h)
  refine f_iload dL_law_1781 rfl ?_
  refine f_if_ne (tgt := 1798) dL_law_1783 (by decide) (fun _ => ?_) (fun h0 => ?_)
  · refine f_goto (tgt := 2709) dL_law_1798 (by decide) ?_
    exact lw_next (f_less (kc' := kc - 16) (ks' := ks - 96) (by omega) (by omega) (kk M2 dv hI))
  · refine f_aload_n dL_law_1786 rfl rfl ?_
    refine f_iconst (v := 0) dL_law_1787 rfl ?_
    refine s_laload hG dL_law_1788 rfl (vp_in_nI (n := 0) (by decide) (by decide)) ?_
    refine f_iload dL_law_1789 rfl ?_
    refine f_i2l dL_law_1791 ?_
    refine f_lcmp dL_law_1792 ?_
    refine f_if_eq (tgt := 1798) dL_law_1793 (by decide) (fun _ => ?_) (fun h => absurd (by rw [show M2 306 (0 : Int32).toNatClampNeg = b from hb h0]; exact lcmp_eq _) h)
    refine f_goto (tgt := 2709) dL_law_1798 (by decide) ?_
    exact lw_next (f_less (kc' := kc - 16) (ks' := ks - 96) (by omega) (by omega) (kk M2 dv hI))
set_option maxRecDepth 100000 in
set_option maxHeartbeats 4000000 in
theorem lw_case_29 (hG : fOK G) (hX : va_X (gsa G 25) L xs (gs G) (gs G).heap) (hbl : gsa G 25 < fo G) (hL : L ≤ 2560) (hkc : 16 ≤ kc) (hks : 96 ≤ ks) {j : Nat} (hj : 5 * j + 5 ≤ L) (hop : OPi G Iv z_L_affectedBySets z_X12_affectedBySets M dv [.int (xs (5 * j + 1))]) (kk : ∀ (M2 : fM) (dv2 : UInt64), Iv M2 → fV G z_L_law 70 Q 28 (lLs (j + 1) none none none) [] (sS M2 dv2) (kc - 16) (ks - 96)) : fV G z_L_law 70 Q 1801 (lLs j none none none) [] (sS M dv) kc ks := by
  obtain ⟨k, b, M1, M2, hh, hm, hk, hb, hI⟩ := hop
  refine f_aload_n dL_law_1801 rfl rfl ?_
  refine f_aload_n dL_law_1802 rfl rfl ?_
  refine f_iload dL_law_1803 rfl ?_
  refine f_iconst (v := 1) dL_law_1805 rfl ?_
  refine f_iadd dL_law_1806 ?_
  refine f_sld (q := 5 * j + 1) hX hbl (law_ix (w := 1) rfl) (by omega) (by omega) dL_law_1807 ?_
  refine f_aload_n dL_law_1808 rfl rfl ?_
  refine f_cSW hG (As := [_, _, _]) dL_law_1809 rfl k_L_affectedBySets rfl rfl ml_L_253 sm_L_affectedBySets hh (by decide) (by decide) hkc hks ?_
  refine f_istore (ls' := lLs j (some (.int k)) none none) dL_law_1812 (Nat.le_of_ble_eq_true rfl) rfl rfl ?_
  refine f_aload_n dL_law_1814 rfl rfl ?_
  refine f_aload_n dL_law_1815 rfl rfl ?_
  refine f_iload dL_law_1816 rfl ?_
  refine f_iconst (v := 1) dL_law_1818 rfl ?_
  refine f_iadd dL_law_1819 ?_
  refine f_sld (q := 5 * j + 1) hX hbl (law_ix (w := 1) rfl) (by omega) (by omega) dL_law_1820 ?_
  refine f_cV hG (As := [_]) dL_law_1821 rfl k_X12_affectedBySets rfl rfl ml_L_255 im_X12_affectedBySets se_X12_affectedBySets rfl rfl hm (by decide) (Nat.le_of_ble_eq_true rfl) (Nat.zero_le _) (Nat.zero_le _) ?_
  refine f_istore (ls' := lLs j (some (.int k)) (some (.int b)) none) dL_law_1824 (Nat.le_of_ble_eq_true rfl) rfl rfl ?_
  refine f_aload_n dL_law_1826 rfl rfl ?_
  refine f_cV hG (As := []) dL_law_1827 rfl k_X12_thrown rfl rfl ml_L_159 im_X12_thrown se_X12_thrown rfl rfl (c_X12_thrown hG (d := 60) (Nat.zero_le _) M2 dv) (by decide) (by decide) (Nat.zero_le _) (Nat.zero_le _) ?_
  refine f_iload dL_law_1830 rfl ?_
  refine f_icmp_eq (tgt := 1837) dL_law_1832 (by decide) (fun _ => ?_) (fun h => absurd (by rw [r_X12_thrown]; exact hk) h)
  refine f_iload dL_law_1837 rfl ?_
  refine f_if_ne (tgt := 1854) dL_law_1839 (by decide) (fun _ => ?_) (fun h0 => ?_)
  · refine f_goto (tgt := 2709) dL_law_1854 (by decide) ?_
    exact lw_next (f_less (kc' := kc - 16) (ks' := ks - 96) (by omega) (by omega) (kk M2 dv hI))
  · refine f_aload_n dL_law_1842 rfl rfl ?_
    refine f_iconst (v := 0) dL_law_1843 rfl ?_
    refine s_laload hG dL_law_1844 rfl (vp_in_nI (n := 0) (by decide) (by decide)) ?_
    refine f_iload dL_law_1845 rfl ?_
    refine f_i2l dL_law_1847 ?_
    refine f_lcmp dL_law_1848 ?_
    refine f_if_eq (tgt := 1854) dL_law_1849 (by decide) (fun _ => ?_) (fun h => absurd (by rw [show M2 306 (0 : Int32).toNatClampNeg = b from hb h0]; exact lcmp_eq _) h)
    refine f_goto (tgt := 2709) dL_law_1854 (by decide) ?_
    exact lw_next (f_less (kc' := kc - 16) (ks' := ks - 96) (by omega) (by omega) (kk M2 dv hI))
set_option maxRecDepth 100000 in
set_option maxHeartbeats 4000000 in
theorem lw_case_30 (hG : fOK G) (hX : va_X (gsa G 25) L xs (gs G) (gs G).heap) (hbl : gsa G 25 < fo G) (hL : L ≤ 2560) (hkc : 16 ≤ kc) (hks : 96 ≤ ks) {j : Nat} (hj : 5 * j + 5 ≤ L) (hop : OPi G Iv z_L_leastCrates z_X12_leastCrates M dv [.int (xs (5 * j + 1))]) (kk : ∀ (M2 : fM) (dv2 : UInt64), Iv M2 → fV G z_L_law 70 Q 28 (lLs (j + 1) none none none) [] (sS M2 dv2) (kc - 16) (ks - 96)) : fV G z_L_law 70 Q 1857 (lLs j none none none) [] (sS M dv) kc ks := by
  obtain ⟨k, b, M1, M2, hh, hm, hk, hb, hI⟩ := hop
  refine f_aload_n dL_law_1857 rfl rfl ?_
  refine f_aload_n dL_law_1858 rfl rfl ?_
  refine f_iload dL_law_1859 rfl ?_
  refine f_iconst (v := 1) dL_law_1861 rfl ?_
  refine f_iadd dL_law_1862 ?_
  refine f_sld (q := 5 * j + 1) hX hbl (law_ix (w := 1) rfl) (by omega) (by omega) dL_law_1863 ?_
  refine f_aload_n dL_law_1864 rfl rfl ?_
  refine f_cSW hG (As := [_, _, _]) dL_law_1865 rfl k_L_leastCrates rfl rfl ml_L_256 sm_L_leastCrates hh (by decide) (by decide) hkc hks ?_
  refine f_istore (ls' := lLs j (some (.int k)) none none) dL_law_1868 (Nat.le_of_ble_eq_true rfl) rfl rfl ?_
  refine f_aload_n dL_law_1870 rfl rfl ?_
  refine f_aload_n dL_law_1871 rfl rfl ?_
  refine f_iload dL_law_1872 rfl ?_
  refine f_iconst (v := 1) dL_law_1874 rfl ?_
  refine f_iadd dL_law_1875 ?_
  refine f_sld (q := 5 * j + 1) hX hbl (law_ix (w := 1) rfl) (by omega) (by omega) dL_law_1876 ?_
  refine f_cV hG (As := [_]) dL_law_1877 rfl k_X12_leastCrates rfl rfl ml_L_258 im_X12_leastCrates se_X12_leastCrates rfl rfl hm (by decide) (Nat.le_of_ble_eq_true rfl) (Nat.zero_le _) (Nat.zero_le _) ?_
  refine f_istore (ls' := lLs j (some (.int k)) (some (.int b)) none) dL_law_1880 (Nat.le_of_ble_eq_true rfl) rfl rfl ?_
  refine f_aload_n dL_law_1882 rfl rfl ?_
  refine f_cV hG (As := []) dL_law_1883 rfl k_X12_thrown rfl rfl ml_L_159 im_X12_thrown se_X12_thrown rfl rfl (c_X12_thrown hG (d := 60) (Nat.zero_le _) M2 dv) (by decide) (by decide) (Nat.zero_le _) (Nat.zero_le _) ?_
  refine f_iload dL_law_1886 rfl ?_
  refine f_icmp_eq (tgt := 1893) dL_law_1888 (by decide) (fun _ => ?_) (fun h => absurd (by rw [r_X12_thrown]; exact hk) h)
  refine f_iload dL_law_1893 rfl ?_
  refine f_if_ne (tgt := 1910) dL_law_1895 (by decide) (fun _ => ?_) (fun h0 => ?_)
  · refine f_goto (tgt := 2709) dL_law_1910 (by decide) ?_
    exact lw_next (f_less (kc' := kc - 16) (ks' := ks - 96) (by omega) (by omega) (kk M2 dv hI))
  · refine f_aload_n dL_law_1898 rfl rfl ?_
    refine f_iconst (v := 0) dL_law_1899 rfl ?_
    refine s_laload hG dL_law_1900 rfl (vp_in_nI (n := 0) (by decide) (by decide)) ?_
    refine f_iload dL_law_1901 rfl ?_
    refine f_i2l dL_law_1903 ?_
    refine f_lcmp dL_law_1904 ?_
    refine f_if_eq (tgt := 1910) dL_law_1905 (by decide) (fun _ => ?_) (fun h => absurd (by rw [show M2 306 (0 : Int32).toNatClampNeg = b from hb h0]; exact lcmp_eq _) h)
    refine f_goto (tgt := 2709) dL_law_1910 (by decide) ?_
    exact lw_next (f_less (kc' := kc - 16) (ks' := ks - 96) (by omega) (by omega) (kk M2 dv hI))
set_option maxRecDepth 100000 in
set_option maxHeartbeats 4000000 in
theorem lw_case_31 (hG : fOK G) (hX : va_X (gsa G 25) L xs (gs G) (gs G).heap) (hbl : gsa G 25 < fo G) (hL : L ≤ 2560) (hkc : 16 ≤ kc) (hks : 96 ≤ ks) {j : Nat} (hj : 5 * j + 5 ≤ L) (hop : OPi G Iv z_L_leastCratesByTrial z_X12_leastCratesByTrial M dv [.int (xs (5 * j + 1))]) (kk : ∀ (M2 : fM) (dv2 : UInt64), Iv M2 → fV G z_L_law 70 Q 28 (lLs (j + 1) none none none) [] (sS M2 dv2) (kc - 16) (ks - 96)) : fV G z_L_law 70 Q 1913 (lLs j none none none) [] (sS M dv) kc ks := by
  obtain ⟨k, b, M1, M2, hh, hm, hk, hb, hI⟩ := hop
  refine f_aload_n dL_law_1913 rfl rfl ?_
  refine f_aload_n dL_law_1914 rfl rfl ?_
  refine f_iload dL_law_1915 rfl ?_
  refine f_iconst (v := 1) dL_law_1917 rfl ?_
  refine f_iadd dL_law_1918 ?_
  refine f_sld (q := 5 * j + 1) hX hbl (law_ix (w := 1) rfl) (by omega) (by omega) dL_law_1919 ?_
  refine f_aload_n dL_law_1920 rfl rfl ?_
  refine f_cSW hG (As := [_, _, _]) dL_law_1921 rfl k_L_leastCratesByTrial rfl rfl ml_L_259 sm_L_leastCratesByTrial hh (by decide) (by decide) hkc hks ?_
  refine f_istore (ls' := lLs j (some (.int k)) none none) dL_law_1924 (Nat.le_of_ble_eq_true rfl) rfl rfl ?_
  refine f_aload_n dL_law_1926 rfl rfl ?_
  refine f_aload_n dL_law_1927 rfl rfl ?_
  refine f_iload dL_law_1928 rfl ?_
  refine f_iconst (v := 1) dL_law_1930 rfl ?_
  refine f_iadd dL_law_1931 ?_
  refine f_sld (q := 5 * j + 1) hX hbl (law_ix (w := 1) rfl) (by omega) (by omega) dL_law_1932 ?_
  refine f_cV hG (As := [_]) dL_law_1933 rfl k_X12_leastCratesByTrial rfl rfl ml_L_261 im_X12_leastCratesByTrial se_X12_leastCratesByTrial rfl rfl hm (by decide) (Nat.le_of_ble_eq_true rfl) (Nat.zero_le _) (Nat.zero_le _) ?_
  refine f_istore (ls' := lLs j (some (.int k)) (some (.int b)) none) dL_law_1936 (Nat.le_of_ble_eq_true rfl) rfl rfl ?_
  refine f_aload_n dL_law_1938 rfl rfl ?_
  refine f_cV hG (As := []) dL_law_1939 rfl k_X12_thrown rfl rfl ml_L_159 im_X12_thrown se_X12_thrown rfl rfl (c_X12_thrown hG (d := 60) (Nat.zero_le _) M2 dv) (by decide) (by decide) (Nat.zero_le _) (Nat.zero_le _) ?_
  refine f_iload dL_law_1942 rfl ?_
  refine f_icmp_eq (tgt := 1949) dL_law_1944 (by decide) (fun _ => ?_) (fun h => absurd (by rw [r_X12_thrown]; exact hk) h)
  refine f_iload dL_law_1949 rfl ?_
  refine f_if_ne (tgt := 1966) dL_law_1951 (by decide) (fun _ => ?_) (fun h0 => ?_)
  · refine f_goto (tgt := 2709) dL_law_1966 (by decide) ?_
    exact lw_next (f_less (kc' := kc - 16) (ks' := ks - 96) (by omega) (by omega) (kk M2 dv hI))
  · refine f_aload_n dL_law_1954 rfl rfl ?_
    refine f_iconst (v := 0) dL_law_1955 rfl ?_
    refine s_laload hG dL_law_1956 rfl (vp_in_nI (n := 0) (by decide) (by decide)) ?_
    refine f_iload dL_law_1957 rfl ?_
    refine f_i2l dL_law_1959 ?_
    refine f_lcmp dL_law_1960 ?_
    refine f_if_eq (tgt := 1966) dL_law_1961 (by decide) (fun _ => ?_) (fun h => absurd (by rw [show M2 306 (0 : Int32).toNatClampNeg = b from hb h0]; exact lcmp_eq _) h)
    refine f_goto (tgt := 2709) dL_law_1966 (by decide) ?_
    exact lw_next (f_less (kc' := kc - 16) (ks' := ks - 96) (by omega) (by omega) (kk M2 dv hI))
set_option maxRecDepth 100000 in
set_option maxHeartbeats 4000000 in
theorem lw_case_32 (hG : fOK G) (hX : va_X (gsa G 25) L xs (gs G) (gs G).heap) (hbl : gsa G 25 < fo G) (hL : L ≤ 2560) (hkc : 16 ≤ kc) (hks : 96 ≤ ks) {j : Nat} (hj : 5 * j + 5 ≤ L) (hop : OPp G Iv z_X11_fewestTests z_X12_fewestTests M dv) (kk : ∀ (M2 : fM) (dv2 : UInt64), Iv M2 → fV G z_L_law 70 Q 28 (lLs (j + 1) none none none) [] (sS M2 dv2) (kc - 16) (ks - 96)) : fV G z_L_law 70 Q 1969 (lLs j none none none) [] (sS M dv) kc ks := by
  obtain ⟨b, M1, M2, hh, hm, hI⟩ := hop
  refine f_aload_n dL_law_1969 rfl rfl ?_
  refine f_cV hG (As := []) dL_law_1970 rfl k_X11_fewestTests rfl rfl ml_L_262 im_X11_fewestTests se_X11_fewestTests rfl rfl hh (by decide) (Nat.le_of_ble_eq_true rfl) (Nat.zero_le _) (Nat.zero_le _) ?_
  refine f_aload_n dL_law_1973 rfl rfl ?_
  refine f_cV hG (As := []) dL_law_1974 rfl k_X12_fewestTests rfl rfl ml_L_265 im_X12_fewestTests se_X12_fewestTests rfl rfl hm (by decide) (Nat.le_of_ble_eq_true rfl) (Nat.zero_le _) (Nat.zero_le _) ?_
  refine f_icmp_eq (tgt := 2709) dL_law_1977 (by decide) (fun _ => ?_) (fun h => absurd rfl h)
  refine f_less (kc' := kc - 16) (ks' := ks - 96) (by omega) (by omega) (lw_next (kk M2 dv hI))
set_option maxRecDepth 100000 in
set_option maxHeartbeats 4000000 in
theorem lw_case_33 (hG : fOK G) (hX : va_X (gsa G 25) L xs (gs G) (gs G).heap) (hbl : gsa G 25 < fo G) (hL : L ≤ 2560) (hkc : 16 ≤ kc) (hks : 96 ≤ ks) {j : Nat} (hj : 5 * j + 5 ≤ L) (hop : OPp G Iv z_X11_fewestTestsByBranching z_X12_fewestTestsByBranching M dv) (kk : ∀ (M2 : fM) (dv2 : UInt64), Iv M2 → fV G z_L_law 70 Q 28 (lLs (j + 1) none none none) [] (sS M2 dv2) (kc - 16) (ks - 96)) : fV G z_L_law 70 Q 1982 (lLs j none none none) [] (sS M dv) kc ks := by
  obtain ⟨b, M1, M2, hh, hm, hI⟩ := hop
  refine f_aload_n dL_law_1982 rfl rfl ?_
  refine f_cV hG (As := []) dL_law_1983 rfl k_X11_fewestTestsByBranching rfl rfl ml_L_266 im_X11_fewestTestsByBranching se_X11_fewestTestsByBranching rfl rfl hh (by decide) (Nat.le_of_ble_eq_true rfl) (Nat.zero_le _) (Nat.zero_le _) ?_
  refine f_aload_n dL_law_1986 rfl rfl ?_
  refine f_cV hG (As := []) dL_law_1987 rfl k_X12_fewestTestsByBranching rfl rfl ml_L_269 im_X12_fewestTestsByBranching se_X12_fewestTestsByBranching rfl rfl hm (by decide) (Nat.le_of_ble_eq_true rfl) (Nat.zero_le _) (Nat.zero_le _) ?_
  refine f_icmp_eq (tgt := 2709) dL_law_1990 (by decide) (fun _ => ?_) (fun h => absurd rfl h)
  refine f_less (kc' := kc - 16) (ks' := ks - 96) (by omega) (by omega) (lw_next (kk M2 dv hI))
set_option maxRecDepth 100000 in
set_option maxHeartbeats 4000000 in
theorem lw_case_34 (hG : fOK G) (hX : va_X (gsa G 25) L xs (gs G) (gs G).heap) (hbl : gsa G 25 < fo G) (hL : L ≤ 2560) (hkc : 16 ≤ kc) (hks : 96 ≤ ks) {j : Nat} (hj : 5 * j + 5 ≤ L) (hop : OPb G Iv z_L_isTested z_X12_isTested M dv [.int (xs (5 * j + 1))]) (kk : ∀ (M2 : fM) (dv2 : UInt64), Iv M2 → fV G z_L_law 70 Q 28 (lLs (j + 1) none none none) [] (sS M2 dv2) (kc - 16) (ks - 96)) : fV G z_L_law 70 Q 1995 (lLs j none none none) [] (sS M dv) kc ks := by
  obtain ⟨k, b, M1, M2, hh, hm, hk, hb, hI⟩ := hop
  refine f_aload_n dL_law_1995 rfl rfl ?_
  refine f_aload_n dL_law_1996 rfl rfl ?_
  refine f_iload dL_law_1997 rfl ?_
  refine f_iconst (v := 1) dL_law_1999 rfl ?_
  refine f_iadd dL_law_2000 ?_
  refine f_sld (q := 5 * j + 1) hX hbl (law_ix (w := 1) rfl) (by omega) (by omega) dL_law_2001 ?_
  refine f_aload_n dL_law_2002 rfl rfl ?_
  refine f_cSW hG (As := [_, _, _]) dL_law_2003 rfl k_L_isTested rfl rfl ml_L_270 sm_L_isTested hh (by decide) (by decide) hkc hks ?_
  refine f_istore (ls' := lLs j (some (.int k)) none none) dL_law_2006 (Nat.le_of_ble_eq_true rfl) rfl rfl ?_
  refine f_aload_n dL_law_2008 rfl rfl ?_
  refine f_aload_n dL_law_2009 rfl rfl ?_
  refine f_iload dL_law_2010 rfl ?_
  refine f_iconst (v := 1) dL_law_2012 rfl ?_
  refine f_iadd dL_law_2013 ?_
  refine f_sld (q := 5 * j + 1) hX hbl (law_ix (w := 1) rfl) (by omega) (by omega) dL_law_2014 ?_
  refine f_cV hG (As := [_]) dL_law_2015 rfl k_X12_isTested rfl rfl ml_L_272 im_X12_isTested se_X12_isTested rfl rfl hm (by decide) (Nat.le_of_ble_eq_true rfl) (Nat.zero_le _) (Nat.zero_le _) ?_
  refine f_istore (ls' := lLs j (some (.int k)) (some (.int b)) none) dL_law_2018 (Nat.le_of_ble_eq_true rfl) rfl rfl ?_
  refine f_aload_n dL_law_2020 rfl rfl ?_
  refine f_cV hG (As := []) dL_law_2021 rfl k_X12_thrown rfl rfl ml_L_159 im_X12_thrown se_X12_thrown rfl rfl (c_X12_thrown hG (d := 60) (Nat.zero_le _) M2 dv) (by decide) (by decide) (Nat.zero_le _) (Nat.zero_le _) ?_
  refine f_iload dL_law_2024 rfl ?_
  refine f_icmp_eq (tgt := 2031) dL_law_2026 (by decide) (fun _ => ?_) (fun h => absurd (by rw [r_X12_thrown]; exact hk) h)
  refine f_iload dL_law_2031 rfl ?_
  refine f_if_ne (tgt := 2055) dL_law_2033 (by decide) (fun _ => ?_) (fun h0 => ?_)
  · refine f_goto (tgt := 2709) dL_law_2055 (by decide) ?_
    exact lw_next (f_less (kc' := kc - 16) (ks' := ks - 96) (by omega) (by omega) (kk M2 dv hI))
  · refine f_aload_n dL_law_2036 rfl rfl ?_
    refine f_iconst (v := 0) dL_law_2037 rfl ?_
    refine s_laload hG dL_law_2038 rfl (vp_in_nI (n := 0) (by decide) (by decide)) ?_
    refine f_iload dL_law_2039 rfl ?_
    refine f_if_eq (tgt := 2048) dL_law_2041 (by decide) (fun b0 => ?_) (fun b0 => ?_)
    · refine f_lconst (v := (0 : Int32).toInt64) dL_law_2048 rfl ?_
      refine f_lcmp dL_law_2049 ?_
      refine f_if_eq (tgt := 2055) dL_law_2050 (by decide) (fun _ => ?_) (fun h => absurd (by rw [show M2 306 (0 : Int32).toNatClampNeg = oL b from hb h0, oL, if_pos b0]; exact lcmp_eq _) h)
      refine f_goto (tgt := 2709) dL_law_2055 (by decide) ?_
      exact lw_next (f_less (kc' := kc - 16) (ks' := ks - 96) (by omega) (by omega) (kk M2 dv hI))
    · refine f_lconst (v := (1 : Int32).toInt64) dL_law_2044 rfl ?_
      refine f_goto (tgt := 2049) dL_law_2045 (by decide) ?_
      refine f_lcmp dL_law_2049 ?_
      refine f_if_eq (tgt := 2055) dL_law_2050 (by decide) (fun _ => ?_) (fun h => absurd (by rw [show M2 306 (0 : Int32).toNatClampNeg = oL b from hb h0, oL, if_neg b0]; exact lcmp_eq _) h)
      refine f_goto (tgt := 2709) dL_law_2055 (by decide) ?_
      exact lw_next (f_less (kc' := kc - 16) (ks' := ks - 96) (by omega) (by omega) (kk M2 dv hI))
set_option maxRecDepth 100000 in
set_option maxHeartbeats 4000000 in
theorem lw_case_35 (hG : fOK G) (hX : va_X (gsa G 25) L xs (gs G) (gs G).heap) (hbl : gsa G 25 < fo G) (hL : L ≤ 2560) (hkc : 16 ≤ kc) (hks : 96 ≤ ks) {j : Nat} (hj : 5 * j + 5 ≤ L) (hop : OPp G Iv z_X11_dayCount z_X12_dayCount M dv) (kk : ∀ (M2 : fM) (dv2 : UInt64), Iv M2 → fV G z_L_law 70 Q 28 (lLs (j + 1) none none none) [] (sS M2 dv2) (kc - 16) (ks - 96)) : fV G z_L_law 70 Q 2058 (lLs j none none none) [] (sS M dv) kc ks := by
  obtain ⟨b, M1, M2, hh, hm, hI⟩ := hop
  refine f_aload_n dL_law_2058 rfl rfl ?_
  refine f_cV hG (As := []) dL_law_2059 rfl k_X11_dayCount rfl rfl ml_L_273 im_X11_dayCount se_X11_dayCount rfl rfl hh (by decide) (Nat.le_of_ble_eq_true rfl) (Nat.zero_le _) (Nat.zero_le _) ?_
  refine f_aload_n dL_law_2062 rfl rfl ?_
  refine f_cV hG (As := []) dL_law_2063 rfl k_X12_dayCount rfl rfl ml_L_276 im_X12_dayCount se_X12_dayCount rfl rfl hm (by decide) (Nat.le_of_ble_eq_true rfl) (Nat.zero_le _) (Nat.zero_le _) ?_
  refine f_icmp_eq (tgt := 2709) dL_law_2066 (by decide) (fun _ => ?_) (fun h => absurd rfl h)
  refine f_less (kc' := kc - 16) (ks' := ks - 96) (by omega) (by omega) (lw_next (kk M2 dv hI))
set_option maxRecDepth 100000 in
set_option maxHeartbeats 4000000 in
theorem lw_case_36 (hG : fOK G) (hX : va_X (gsa G 25) L xs (gs G) (gs G).heap) (hbl : gsa G 25 < fo G) (hL : L ≤ 2560) (hkc : 16 ≤ kc) (hks : 96 ≤ ks) {j : Nat} (hj : 5 * j + 5 ≤ L) (hop : OPp G Iv z_X11_filled z_X12_filled M dv) (kk : ∀ (M2 : fM) (dv2 : UInt64), Iv M2 → fV G z_L_law 70 Q 28 (lLs (j + 1) none none none) [] (sS M2 dv2) (kc - 16) (ks - 96)) : fV G z_L_law 70 Q 2071 (lLs j none none none) [] (sS M dv) kc ks := by
  obtain ⟨b, M1, M2, hh, hm, hI⟩ := hop
  refine f_aload_n dL_law_2071 rfl rfl ?_
  refine f_cV hG (As := []) dL_law_2072 rfl k_X11_filled rfl rfl ml_L_277 im_X11_filled se_X11_filled rfl rfl hh (by decide) (Nat.le_of_ble_eq_true rfl) (Nat.zero_le _) (Nat.zero_le _) ?_
  refine f_aload_n dL_law_2075 rfl rfl ?_
  refine f_cV hG (As := []) dL_law_2076 rfl k_X12_filled rfl rfl ml_L_280 im_X12_filled se_X12_filled rfl rfl hm (by decide) (Nat.le_of_ble_eq_true rfl) (Nat.zero_le _) (Nat.zero_le _) ?_
  refine f_icmp_eq (tgt := 2709) dL_law_2079 (by decide) (fun _ => ?_) (fun h => absurd rfl h)
  refine f_less (kc' := kc - 16) (ks' := ks - 96) (by omega) (by omega) (lw_next (kk M2 dv hI))
set_option maxRecDepth 100000 in
set_option maxHeartbeats 4000000 in
theorem lw_case_37 (hG : fOK G) (hX : va_X (gsa G 25) L xs (gs G) (gs G).heap) (hbl : gsa G 25 < fo G) (hL : L ≤ 2560) (hkc : 16 ≤ kc) (hks : 96 ≤ ks) {j : Nat} (hj : 5 * j + 5 ≤ L) (hop : OPp G Iv z_X11_stored z_X12_stored M dv) (kk : ∀ (M2 : fM) (dv2 : UInt64), Iv M2 → fV G z_L_law 70 Q 28 (lLs (j + 1) none none none) [] (sS M2 dv2) (kc - 16) (ks - 96)) : fV G z_L_law 70 Q 2084 (lLs j none none none) [] (sS M dv) kc ks := by
  obtain ⟨b, M1, M2, hh, hm, hI⟩ := hop
  refine f_aload_n dL_law_2084 rfl rfl ?_
  refine f_cV hG (As := []) dL_law_2085 rfl k_X11_stored rfl rfl ml_L_281 im_X11_stored se_X11_stored rfl rfl hh (by decide) (Nat.le_of_ble_eq_true rfl) (Nat.zero_le _) (Nat.zero_le _) ?_
  refine f_aload_n dL_law_2088 rfl rfl ?_
  refine f_cV hG (As := []) dL_law_2089 rfl k_X12_stored rfl rfl ml_L_284 im_X12_stored se_X12_stored rfl rfl hm (by decide) (Nat.le_of_ble_eq_true rfl) (Nat.zero_le _) (Nat.zero_le _) ?_
  refine f_icmp_eq (tgt := 2709) dL_law_2092 (by decide) (fun _ => ?_) (fun h => absurd rfl h)
  refine f_less (kc' := kc - 16) (ks' := ks - 96) (by omega) (by omega) (lw_next (kk M2 dv hI))
set_option maxRecDepth 100000 in
set_option maxHeartbeats 4000000 in
theorem lw_case_38 (hG : fOK G) (hX : va_X (gsa G 25) L xs (gs G) (gs G).heap) (hbl : gsa G 25 < fo G) (hL : L ≤ 2560) (hkc : 16 ≤ kc) (hks : 96 ≤ ks) {j : Nat} (hj : 5 * j + 5 ≤ L) (hop : OPp G Iv z_X11_shipped z_X12_shipped M dv) (kk : ∀ (M2 : fM) (dv2 : UInt64), Iv M2 → fV G z_L_law 70 Q 28 (lLs (j + 1) none none none) [] (sS M2 dv2) (kc - 16) (ks - 96)) : fV G z_L_law 70 Q 2097 (lLs j none none none) [] (sS M dv) kc ks := by
  obtain ⟨b, M1, M2, hh, hm, hI⟩ := hop
  refine f_aload_n dL_law_2097 rfl rfl ?_
  refine f_cV hG (As := []) dL_law_2098 rfl k_X11_shipped rfl rfl ml_L_285 im_X11_shipped se_X11_shipped rfl rfl hh (by decide) (Nat.le_of_ble_eq_true rfl) (Nat.zero_le _) (Nat.zero_le _) ?_
  refine f_aload_n dL_law_2101 rfl rfl ?_
  refine f_cV hG (As := []) dL_law_2102 rfl k_X12_shipped rfl rfl ml_L_288 im_X12_shipped se_X12_shipped rfl rfl hm (by decide) (Nat.le_of_ble_eq_true rfl) (Nat.zero_le _) (Nat.zero_le _) ?_
  refine f_icmp_eq (tgt := 2709) dL_law_2105 (by decide) (fun _ => ?_) (fun h => absurd rfl h)
  refine f_less (kc' := kc - 16) (ks' := ks - 96) (by omega) (by omega) (lw_next (kk M2 dv hI))
set_option maxRecDepth 100000 in
set_option maxHeartbeats 4000000 in
theorem lw_case_39 (hG : fOK G) (hX : va_X (gsa G 25) L xs (gs G) (gs G).heap) (hbl : gsa G 25 < fo G) (hL : L ≤ 2560) (hkc : 16 ≤ kc) (hks : 96 ≤ ks) {j : Nat} (hj : 5 * j + 5 ≤ L) (hop : OPp G Iv z_X11_recalled z_X12_recalled M dv) (kk : ∀ (M2 : fM) (dv2 : UInt64), Iv M2 → fV G z_L_law 70 Q 28 (lLs (j + 1) none none none) [] (sS M2 dv2) (kc - 16) (ks - 96)) : fV G z_L_law 70 Q 2110 (lLs j none none none) [] (sS M dv) kc ks := by
  obtain ⟨b, M1, M2, hh, hm, hI⟩ := hop
  refine f_aload_n dL_law_2110 rfl rfl ?_
  refine f_cV hG (As := []) dL_law_2111 rfl k_X11_recalled rfl rfl ml_L_289 im_X11_recalled se_X11_recalled rfl rfl hh (by decide) (Nat.le_of_ble_eq_true rfl) (Nat.zero_le _) (Nat.zero_le _) ?_
  refine f_aload_n dL_law_2114 rfl rfl ?_
  refine f_cV hG (As := []) dL_law_2115 rfl k_X12_recalled rfl rfl ml_L_292 im_X12_recalled se_X12_recalled rfl rfl hm (by decide) (Nat.le_of_ble_eq_true rfl) (Nat.zero_le _) (Nat.zero_le _) ?_
  refine f_icmp_eq (tgt := 2709) dL_law_2118 (by decide) (fun _ => ?_) (fun h => absurd rfl h)
  refine f_less (kc' := kc - 16) (ks' := ks - 96) (by omega) (by omega) (lw_next (kk M2 dv hI))
set_option maxRecDepth 100000 in
set_option maxHeartbeats 4000000 in
theorem lw_case_40 (hG : fOK G) (hX : va_X (gsa G 25) L xs (gs G) (gs G).heap) (hbl : gsa G 25 < fo G) (hL : L ≤ 2560) (hkc : 16 ≤ kc) (hks : 96 ≤ ks) {j : Nat} (hj : 5 * j + 5 ≤ L) (hop : OPp G Iv z_X11_spoiled z_X12_spoiled M dv) (kk : ∀ (M2 : fM) (dv2 : UInt64), Iv M2 → fV G z_L_law 70 Q 28 (lLs (j + 1) none none none) [] (sS M2 dv2) (kc - 16) (ks - 96)) : fV G z_L_law 70 Q 2123 (lLs j none none none) [] (sS M dv) kc ks := by
  obtain ⟨b, M1, M2, hh, hm, hI⟩ := hop
  refine f_aload_n dL_law_2123 rfl rfl ?_
  refine f_cV hG (As := []) dL_law_2124 rfl k_X11_spoiled rfl rfl ml_L_293 im_X11_spoiled se_X11_spoiled rfl rfl hh (by decide) (Nat.le_of_ble_eq_true rfl) (Nat.zero_le _) (Nat.zero_le _) ?_
  refine f_aload_n dL_law_2127 rfl rfl ?_
  refine f_cV hG (As := []) dL_law_2128 rfl k_X12_spoiled rfl rfl ml_L_296 im_X12_spoiled se_X12_spoiled rfl rfl hm (by decide) (Nat.le_of_ble_eq_true rfl) (Nat.zero_le _) (Nat.zero_le _) ?_
  refine f_icmp_eq (tgt := 2709) dL_law_2131 (by decide) (fun _ => ?_) (fun h => absurd rfl h)
  refine f_less (kc' := kc - 16) (ks' := ks - 96) (by omega) (by omega) (lw_next (kk M2 dv hI))
set_option maxRecDepth 100000 in
set_option maxHeartbeats 4000000 in
theorem lw_case_41 (hG : fOK G) (hX : va_X (gsa G 25) L xs (gs G) (gs G).heap) (hbl : gsa G 25 < fo G) (hL : L ≤ 2560) (hkc : 16 ≤ kc) (hks : 96 ≤ ks) {j : Nat} (hj : 5 * j + 5 ≤ L) (hop : OPd G Iv z_L_meanPressure z_X12_meanPressure M dv) (kk : ∀ (M2 : fM) (dv2 : UInt64), Iv M2 → fV G z_L_law 70 Q 28 (lLs (j + 1) none none none) [] (sS M2 dv2) (kc - 16) (ks - 96)) : fV G z_L_law 70 Q 2136 (lLs j none none none) [] (sS M dv) kc ks := by
  obtain ⟨k, b, dv2, M1, M2, hh, hm, hk, hb, hI⟩ := hop
  refine f_aload_n dL_law_2136 rfl rfl ?_
  refine f_aload dL_law_2137 rfl ?_
  refine f_cSW hG (As := [_, _]) dL_law_2139 rfl k_L_meanPressure rfl rfl ml_L_297 sm_L_meanPressure hh (by decide) (by decide) hkc hks ?_
  refine f_istore (ls' := lLs j (some (.int k)) none none) dL_law_2142 (Nat.le_of_ble_eq_true rfl) rfl rfl ?_
  refine f_aload_n dL_law_2144 rfl rfl ?_
  refine f_cV hG (As := []) dL_law_2145 rfl k_X12_meanPressure rfl rfl ml_L_300 im_X12_meanPressure se_X12_meanPressure rfl rfl hm (by decide) (Nat.le_of_ble_eq_true rfl) (Nat.zero_le _) (Nat.zero_le _) ?_
  refine f_dstore (ls' := lLs j (some (.int k)) (some (.double b)) none) dL_law_2148 (Nat.le_of_ble_eq_true rfl) rfl rfl ?_
  refine f_aload_n dL_law_2150 rfl rfl ?_
  refine f_cV hG (As := []) dL_law_2151 rfl k_X12_thrown rfl rfl ml_L_159 im_X12_thrown se_X12_thrown rfl rfl (c_X12_thrown hG (d := 60) (Nat.zero_le _) M2 dv2) (by decide) (by decide) (Nat.zero_le _) (Nat.zero_le _) ?_
  refine f_iload dL_law_2154 rfl ?_
  refine f_icmp_eq (tgt := 2161) dL_law_2156 (by decide) (fun _ => ?_) (fun h => absurd (by rw [r_X12_thrown]; exact hk) h)
  refine f_iload dL_law_2161 rfl ?_
  refine f_if_ne (tgt := 2198) dL_law_2163 (by decide) (fun _ => ?_) (fun h0 => ?_)
  · refine f_goto (tgt := 2709) dL_law_2198 (by decide) ?_
    exact lw_next (f_less (kc' := kc - 16) (ks' := ks - 96) (by omega) (by omega) (kk M2 dv2 hI))
  · refine f_aload dL_law_2166 rfl ?_
    refine f_iconst (v := 0) dL_law_2168 rfl ?_
    refine s_daload hG dL_law_2169 rfl (vp_in_nI (n := 0) (by decide) (by decide)) ?_
    refine f_dload dL_law_2170 rfl ?_
    refine f_dcmp dL_law_2172 ?_
    refine f_if_eq (tgt := 2198) dL_law_2173 (by decide) (fun _ => ?_) (fun h => absurd (hb h0) h)
    refine f_goto (tgt := 2709) dL_law_2198 (by decide) ?_
    exact lw_next (f_less (kc' := kc - 16) (ks' := ks - 96) (by omega) (by omega) (kk M2 dv2 hI))
set_option maxRecDepth 100000 in
set_option maxHeartbeats 4000000 in
theorem lw_case_42 (hG : fOK G) (hX : va_X (gsa G 25) L xs (gs G) (gs G).heap) (hbl : gsa G 25 < fo G) (hL : L ≤ 2560) (hkc : 16 ≤ kc) (hks : 96 ≤ ks) {j : Nat} (hj : 5 * j + 5 ≤ L) (hop : OPf G Iv z_L_shippedShare z_X12_shippedShare M dv) (kk : ∀ (M2 : fM) (dv2 : UInt64), Iv M2 → fV G z_L_law 70 Q 28 (lLs (j + 1) none none none) [] (sS M2 dv2) (kc - 16) (ks - 96)) : fV G z_L_law 70 Q 2201 (lLs j none none none) [] (sS M dv) kc ks := by
  obtain ⟨k, b, dv2, M1, M2, hh, hm, hk, hb, hI⟩ := hop
  refine f_aload_n dL_law_2201 rfl rfl ?_
  refine f_aload dL_law_2202 rfl ?_
  refine f_cSW hG (As := [_, _]) dL_law_2204 rfl k_L_shippedShare rfl rfl ml_L_301 sm_L_shippedShare hh (by decide) (by decide) hkc hks ?_
  refine f_istore (ls' := lLs j (some (.int k)) none none) dL_law_2207 (Nat.le_of_ble_eq_true rfl) rfl rfl ?_
  refine f_aload_n dL_law_2209 rfl rfl ?_
  refine f_cV hG (As := []) dL_law_2210 rfl k_X12_shippedShare rfl rfl ml_L_303 im_X12_shippedShare se_X12_shippedShare rfl rfl hm (by decide) (Nat.le_of_ble_eq_true rfl) (Nat.zero_le _) (Nat.zero_le _) ?_
  refine f_fstore (ls' := lLs j (some (.int k)) (some (.float b)) none) dL_law_2213 (Nat.le_of_ble_eq_true rfl) rfl rfl ?_
  refine f_aload_n dL_law_2215 rfl rfl ?_
  refine f_cV hG (As := []) dL_law_2216 rfl k_X12_thrown rfl rfl ml_L_159 im_X12_thrown se_X12_thrown rfl rfl (c_X12_thrown hG (d := 60) (Nat.zero_le _) M2 dv2) (by decide) (by decide) (Nat.zero_le _) (Nat.zero_le _) ?_
  refine f_iload dL_law_2219 rfl ?_
  refine f_icmp_eq (tgt := 2226) dL_law_2221 (by decide) (fun _ => ?_) (fun h => absurd (by rw [r_X12_thrown]; exact hk) h)
  refine f_iload dL_law_2226 rfl ?_
  refine f_if_ne (tgt := 2264) dL_law_2228 (by decide) (fun _ => ?_) (fun h0 => ?_)
  · refine f_goto (tgt := 2709) dL_law_2264 (by decide) ?_
    exact lw_next (f_less (kc' := kc - 16) (ks' := ks - 96) (by omega) (by omega) (kk M2 dv2 hI))
  · refine f_aload dL_law_2231 rfl ?_
    refine f_iconst (v := 0) dL_law_2233 rfl ?_
    refine s_daload hG dL_law_2234 rfl (vp_in_nI (n := 0) (by decide) (by decide)) ?_
    refine f_fload dL_law_2235 rfl ?_
    refine f_f2d dL_law_2237 (hb h0).1 ?_
    refine f_dcmp dL_law_2238 ?_
    refine f_if_eq (tgt := 2264) dL_law_2239 (by decide) (fun _ => ?_) (fun h => absurd ((hb h0).2) h)
    refine f_goto (tgt := 2709) dL_law_2264 (by decide) ?_
    exact lw_next (f_less (kc' := kc - 16) (ks' := ks - 96) (by omega) (by omega) (kk M2 dv2 hI))
set_option maxRecDepth 100000 in
set_option maxHeartbeats 4000000 in
theorem lw_case_43 (hG : fOK G) (hX : va_X (gsa G 25) L xs (gs G) (gs G).heap) (hbl : gsa G 25 < fo G) (hL : L ≤ 2560) (hkc : 16 ≤ kc) (hks : 96 ≤ ks) {j : Nat} (hj : 5 * j + 5 ≤ L) (hop : OPi G Iv z_L_writeLot z_X12_writeLot M dv [.int (xs (5 * j + 1))]) (kk : ∀ (M2 : fM) (dv2 : UInt64), Iv M2 → fV G z_L_law 70 Q 28 (lLs (j + 1) none none none) [] (sS M2 dv2) (kc - 16) (ks - 96)) : fV G z_L_law 70 Q 2267 (lLs j none none none) [] (sS M dv) kc ks := by
  obtain ⟨k, b, M1, M2, hh, hm, hk, hb, hI⟩ := hop
  refine f_aload_n dL_law_2267 rfl rfl ?_
  refine f_aload_n dL_law_2268 rfl rfl ?_
  refine f_iload dL_law_2269 rfl ?_
  refine f_iconst (v := 1) dL_law_2271 rfl ?_
  refine f_iadd dL_law_2272 ?_
  refine f_sld (q := 5 * j + 1) hX hbl (law_ix (w := 1) rfl) (by omega) (by omega) dL_law_2273 ?_
  refine f_aload_n dL_law_2274 rfl rfl ?_
  refine f_cSW hG (As := [_, _, _]) dL_law_2275 rfl k_L_writeLot rfl rfl ml_L_304 sm_L_writeLot hh (by decide) (by decide) hkc hks ?_
  refine f_istore (ls' := lLs j (some (.int k)) none none) dL_law_2278 (Nat.le_of_ble_eq_true rfl) rfl rfl ?_
  refine f_aload_n dL_law_2280 rfl rfl ?_
  refine f_aload_n dL_law_2281 rfl rfl ?_
  refine f_iload dL_law_2282 rfl ?_
  refine f_iconst (v := 1) dL_law_2284 rfl ?_
  refine f_iadd dL_law_2285 ?_
  refine f_sld (q := 5 * j + 1) hX hbl (law_ix (w := 1) rfl) (by omega) (by omega) dL_law_2286 ?_
  refine f_cV hG (As := [_]) dL_law_2287 rfl k_X12_writeLot rfl rfl ml_L_306 im_X12_writeLot se_X12_writeLot rfl rfl hm (by decide) (Nat.le_of_ble_eq_true rfl) (Nat.zero_le _) (Nat.zero_le _) ?_
  refine f_istore (ls' := lLs j (some (.int k)) (some (.int b)) none) dL_law_2290 (Nat.le_of_ble_eq_true rfl) rfl rfl ?_
  refine f_aload_n dL_law_2292 rfl rfl ?_
  refine f_cV hG (As := []) dL_law_2293 rfl k_X12_thrown rfl rfl ml_L_159 im_X12_thrown se_X12_thrown rfl rfl (c_X12_thrown hG (d := 60) (Nat.zero_le _) M2 dv) (by decide) (by decide) (Nat.zero_le _) (Nat.zero_le _) ?_
  refine f_iload dL_law_2296 rfl ?_
  refine f_icmp_eq (tgt := 2303) dL_law_2298 (by decide) (fun _ => ?_) (fun h => absurd (by rw [r_X12_thrown]; exact hk) h)
  refine f_iload dL_law_2303 rfl ?_
  refine f_if_ne (tgt := 2320) dL_law_2305 (by decide) (fun _ => ?_) (fun h0 => ?_)
  · refine f_goto (tgt := 2709) dL_law_2320 (by decide) ?_
    exact lw_next (f_less (kc' := kc - 16) (ks' := ks - 96) (by omega) (by omega) (kk M2 dv hI))
  · refine f_aload_n dL_law_2308 rfl rfl ?_
    refine f_iconst (v := 0) dL_law_2309 rfl ?_
    refine s_laload hG dL_law_2310 rfl (vp_in_nI (n := 0) (by decide) (by decide)) ?_
    refine f_iload dL_law_2311 rfl ?_
    refine f_i2l dL_law_2313 ?_
    refine f_lcmp dL_law_2314 ?_
    refine f_if_eq (tgt := 2320) dL_law_2315 (by decide) (fun _ => ?_) (fun h => absurd (by rw [show M2 306 (0 : Int32).toNatClampNeg = b from hb h0]; exact lcmp_eq _) h)
    refine f_goto (tgt := 2709) dL_law_2320 (by decide) ?_
    exact lw_next (f_less (kc' := kc - 16) (ks' := ks - 96) (by omega) (by omega) (kk M2 dv hI))
set_option maxRecDepth 100000 in
set_option maxHeartbeats 4000000 in
theorem lw_case_44 (hG : fOK G) (hX : va_X (gsa G 25) L xs (gs G) (gs G).heap) (hbl : gsa G 25 < fo G) (hL : L ≤ 2560) (hkc : 16 ≤ kc) (hks : 96 ≤ ks) {j : Nat} (hj : 5 * j + 5 ≤ L) (hop : OPp G Iv z_X11_writeRaws z_X12_writeRaws M dv) (kk : ∀ (M2 : fM) (dv2 : UInt64), Iv M2 → fV G z_L_law 70 Q 28 (lLs (j + 1) none none none) [] (sS M2 dv2) (kc - 16) (ks - 96)) : fV G z_L_law 70 Q 2323 (lLs j none none none) [] (sS M dv) kc ks := by
  obtain ⟨b, M1, M2, hh, hm, hI⟩ := hop
  refine f_aload_n dL_law_2323 rfl rfl ?_
  refine f_cV hG (As := []) dL_law_2324 rfl k_X11_writeRaws rfl rfl ml_L_307 im_X11_writeRaws se_X11_writeRaws rfl rfl hh (by decide) (Nat.le_of_ble_eq_true rfl) (Nat.zero_le _) (Nat.zero_le _) ?_
  refine f_aload_n dL_law_2327 rfl rfl ?_
  refine f_cV hG (As := []) dL_law_2328 rfl k_X12_writeRaws rfl rfl ml_L_310 im_X12_writeRaws se_X12_writeRaws rfl rfl hm (by decide) (Nat.le_of_ble_eq_true rfl) (Nat.zero_le _) (Nat.zero_le _) ?_
  refine f_icmp_eq (tgt := 2709) dL_law_2331 (by decide) (fun _ => ?_) (fun h => absurd rfl h)
  refine f_less (kc' := kc - 16) (ks' := ks - 96) (by omega) (by omega) (lw_next (kk M2 dv hI))
set_option maxRecDepth 100000 in
set_option maxHeartbeats 4000000 in
theorem lw_case_45 (hG : fOK G) (hX : va_X (gsa G 25) L xs (gs G) (gs G).heap) (hbl : gsa G 25 < fo G) (hL : L ≤ 2560) (hkc : 16 ≤ kc) (hks : 96 ≤ ks) {j : Nat} (hj : 5 * j + 5 ≤ L) (hop : OPi G Iv z_L_lineAt z_X12_lineAt M dv [.int (xs (5 * j + 1))]) (kk : ∀ (M2 : fM) (dv2 : UInt64), Iv M2 → fV G z_L_law 70 Q 28 (lLs (j + 1) none none none) [] (sS M2 dv2) (kc - 16) (ks - 96)) : fV G z_L_law 70 Q 2336 (lLs j none none none) [] (sS M dv) kc ks := by
  obtain ⟨k, b, M1, M2, hh, hm, hk, hb, hI⟩ := hop
  refine f_aload_n dL_law_2336 rfl rfl ?_
  refine f_aload_n dL_law_2337 rfl rfl ?_
  refine f_iload dL_law_2338 rfl ?_
  refine f_iconst (v := 1) dL_law_2340 rfl ?_
  refine f_iadd dL_law_2341 ?_
  refine f_sld (q := 5 * j + 1) hX hbl (law_ix (w := 1) rfl) (by omega) (by omega) dL_law_2342 ?_
  refine f_aload_n dL_law_2343 rfl rfl ?_
  refine f_cSW hG (As := [_, _, _]) dL_law_2344 rfl k_L_lineAt rfl rfl ml_L_311 sm_L_lineAt hh (by decide) (by decide) hkc hks ?_
  refine f_istore (ls' := lLs j (some (.int k)) none none) dL_law_2347 (Nat.le_of_ble_eq_true rfl) rfl rfl ?_
  refine f_aload_n dL_law_2349 rfl rfl ?_
  refine f_aload_n dL_law_2350 rfl rfl ?_
  refine f_iload dL_law_2351 rfl ?_
  refine f_iconst (v := 1) dL_law_2353 rfl ?_
  refine f_iadd dL_law_2354 ?_
  refine f_sld (q := 5 * j + 1) hX hbl (law_ix (w := 1) rfl) (by omega) (by omega) dL_law_2355 ?_
  refine f_cV hG (As := [_]) dL_law_2356 rfl k_X12_lineAt rfl rfl ml_L_313 im_X12_lineAt se_X12_lineAt rfl rfl hm (by decide) (Nat.le_of_ble_eq_true rfl) (Nat.zero_le _) (Nat.zero_le _) ?_
  refine f_istore (ls' := lLs j (some (.int k)) (some (.int b)) none) dL_law_2359 (Nat.le_of_ble_eq_true rfl) rfl rfl ?_
  refine f_aload_n dL_law_2361 rfl rfl ?_
  refine f_cV hG (As := []) dL_law_2362 rfl k_X12_thrown rfl rfl ml_L_159 im_X12_thrown se_X12_thrown rfl rfl (c_X12_thrown hG (d := 60) (Nat.zero_le _) M2 dv) (by decide) (by decide) (Nat.zero_le _) (Nat.zero_le _) ?_
  refine f_iload dL_law_2365 rfl ?_
  refine f_icmp_eq (tgt := 2372) dL_law_2367 (by decide) (fun _ => ?_) (fun h => absurd (by rw [r_X12_thrown]; exact hk) h)
  refine f_iload dL_law_2372 rfl ?_
  refine f_if_ne (tgt := 2389) dL_law_2374 (by decide) (fun _ => ?_) (fun h0 => ?_)
  · refine f_goto (tgt := 2709) dL_law_2389 (by decide) ?_
    exact lw_next (f_less (kc' := kc - 16) (ks' := ks - 96) (by omega) (by omega) (kk M2 dv hI))
  · refine f_aload_n dL_law_2377 rfl rfl ?_
    refine f_iconst (v := 0) dL_law_2378 rfl ?_
    refine s_laload hG dL_law_2379 rfl (vp_in_nI (n := 0) (by decide) (by decide)) ?_
    refine f_iload dL_law_2380 rfl ?_
    refine f_i2l dL_law_2382 ?_
    refine f_lcmp dL_law_2383 ?_
    refine f_if_eq (tgt := 2389) dL_law_2384 (by decide) (fun _ => ?_) (fun h => absurd (by rw [show M2 306 (0 : Int32).toNatClampNeg = b from hb h0]; exact lcmp_eq _) h)
    refine f_goto (tgt := 2709) dL_law_2389 (by decide) ?_
    exact lw_next (f_less (kc' := kc - 16) (ks' := ks - 96) (by omega) (by omega) (kk M2 dv hI))
set_option maxRecDepth 100000 in
set_option maxHeartbeats 4000000 in
theorem lw_case_46 (hG : fOK G) (hX : va_X (gsa G 25) L xs (gs G) (gs G).heap) (hbl : gsa G 25 < fo G) (hL : L ≤ 2560) (hkc : 16 ≤ kc) (hks : 96 ≤ ks) {j : Nat} (hj : 5 * j + 5 ≤ L) (hop : OPp G Iv z_X11_isConsistent z_X12_isConsistent M dv) (kk : ∀ (M2 : fM) (dv2 : UInt64), Iv M2 → fV G z_L_law 70 Q 28 (lLs (j + 1) none none none) [] (sS M2 dv2) (kc - 16) (ks - 96)) : fV G z_L_law 70 Q 2392 (lLs j none none none) [] (sS M dv) kc ks := by
  obtain ⟨b, M1, M2, hh, hm, hI⟩ := hop
  refine f_aload_n dL_law_2392 rfl rfl ?_
  refine f_cV hG (As := []) dL_law_2393 rfl k_X11_isConsistent rfl rfl ml_L_314 im_X11_isConsistent se_X11_isConsistent rfl rfl hh (by decide) (Nat.le_of_ble_eq_true rfl) (Nat.zero_le _) (Nat.zero_le _) ?_
  refine f_aload_n dL_law_2396 rfl rfl ?_
  refine f_cV hG (As := []) dL_law_2397 rfl k_X12_isConsistent rfl rfl ml_L_318 im_X12_isConsistent se_X12_isConsistent rfl rfl hm (by decide) (Nat.le_of_ble_eq_true rfl) (Nat.zero_le _) (Nat.zero_le _) ?_
  refine f_icmp_eq (tgt := 2709) dL_law_2400 (by decide) (fun _ => ?_) (fun h => absurd rfl h)
  refine f_less (kc' := kc - 16) (ks' := ks - 96) (by omega) (by omega) (lw_next (kk M2 dv hI))
set_option maxRecDepth 100000 in
set_option maxHeartbeats 4000000 in
theorem lw_case_47 (hG : fOK G) (hX : va_X (gsa G 25) L xs (gs G) (gs G).heap) (hbl : gsa G 25 < fo G) (hL : L ≤ 2560) (hkc : 16 ≤ kc) (hks : 96 ≤ ks) {j : Nat} (hj : 5 * j + 5 ≤ L) (hop : OPi G Iv z_L_type z_X12_type M dv [.int (i2c (xs (5 * j + 1)))]) (kk : ∀ (M2 : fM) (dv2 : UInt64), Iv M2 → fV G z_L_law 70 Q 28 (lLs (j + 1) none none none) [] (sS M2 dv2) (kc - 16) (ks - 96)) : fV G z_L_law 70 Q 2405 (lLs j none none none) [] (sS M dv) kc ks := by
  obtain ⟨k, b, M1, M2, hh, hm, hk, hb, hI⟩ := hop
  refine f_aload_n dL_law_2405 rfl rfl ?_
  refine f_aload_n dL_law_2406 rfl rfl ?_
  refine f_iload dL_law_2407 rfl ?_
  refine f_iconst (v := 1) dL_law_2409 rfl ?_
  refine f_iadd dL_law_2410 ?_
  refine f_sld (q := 5 * j + 1) hX hbl (law_ix (w := 1) rfl) (by omega) (by omega) dL_law_2411 ?_
  refine f_i2c dL_law_2412 ?_
  refine f_aload_n dL_law_2413 rfl rfl ?_
  refine f_cSW hG (As := [_, _, _]) dL_law_2414 rfl k_L_type rfl rfl ml_L_319 sm_L_type hh (by decide) (by decide) hkc hks ?_
  refine f_istore (ls' := lLs j (some (.int k)) none none) dL_law_2417 (Nat.le_of_ble_eq_true rfl) rfl rfl ?_
  refine f_aload_n dL_law_2419 rfl rfl ?_
  refine f_aload_n dL_law_2420 rfl rfl ?_
  refine f_iload dL_law_2421 rfl ?_
  refine f_iconst (v := 1) dL_law_2423 rfl ?_
  refine f_iadd dL_law_2424 ?_
  refine f_sld (q := 5 * j + 1) hX hbl (law_ix (w := 1) rfl) (by omega) (by omega) dL_law_2425 ?_
  refine f_i2c dL_law_2426 ?_
  refine f_cV hG (As := [_]) dL_law_2427 rfl k_X12_type rfl rfl ml_L_322 im_X12_type se_X12_type rfl rfl hm (by decide) (Nat.le_of_ble_eq_true rfl) (Nat.zero_le _) (Nat.zero_le _) ?_
  refine f_istore (ls' := lLs j (some (.int k)) (some (.int b)) none) dL_law_2430 (Nat.le_of_ble_eq_true rfl) rfl rfl ?_
  refine f_aload_n dL_law_2432 rfl rfl ?_
  refine f_cV hG (As := []) dL_law_2433 rfl k_X12_thrown rfl rfl ml_L_159 im_X12_thrown se_X12_thrown rfl rfl (c_X12_thrown hG (d := 60) (Nat.zero_le _) M2 dv) (by decide) (by decide) (Nat.zero_le _) (Nat.zero_le _) ?_
  refine f_iload dL_law_2436 rfl ?_
  refine f_icmp_eq (tgt := 2443) dL_law_2438 (by decide) (fun _ => ?_) (fun h => absurd (by rw [r_X12_thrown]; exact hk) h)
  refine f_iload dL_law_2443 rfl ?_
  refine f_if_ne (tgt := 2460) dL_law_2445 (by decide) (fun _ => ?_) (fun h0 => ?_)
  · refine f_goto (tgt := 2709) dL_law_2460 (by decide) ?_
    exact lw_next (f_less (kc' := kc - 16) (ks' := ks - 96) (by omega) (by omega) (kk M2 dv hI))
  · refine f_aload_n dL_law_2448 rfl rfl ?_
    refine f_iconst (v := 0) dL_law_2449 rfl ?_
    refine s_laload hG dL_law_2450 rfl (vp_in_nI (n := 0) (by decide) (by decide)) ?_
    refine f_iload dL_law_2451 rfl ?_
    refine f_i2l dL_law_2453 ?_
    refine f_lcmp dL_law_2454 ?_
    refine f_if_eq (tgt := 2460) dL_law_2455 (by decide) (fun _ => ?_) (fun h => absurd (by rw [show M2 306 (0 : Int32).toNatClampNeg = b from hb h0]; exact lcmp_eq _) h)
    refine f_goto (tgt := 2709) dL_law_2460 (by decide) ?_
    exact lw_next (f_less (kc' := kc - 16) (ks' := ks - 96) (by omega) (by omega) (kk M2 dv hI))
set_option maxRecDepth 100000 in
set_option maxHeartbeats 4000000 in
theorem lw_case_48 (hG : fOK G) (hX : va_X (gsa G 25) L xs (gs G) (gs G).heap) (hbl : gsa G 25 < fo G) (hL : L ≤ 2560) (hkc : 16 ≤ kc) (hks : 96 ≤ ks) {j : Nat} (hj : 5 * j + 5 ≤ L) (hop : OPp G Iv z_X11_clearText z_X12_clearText M dv) (kk : ∀ (M2 : fM) (dv2 : UInt64), Iv M2 → fV G z_L_law 70 Q 28 (lLs (j + 1) none none none) [] (sS M2 dv2) (kc - 16) (ks - 96)) : fV G z_L_law 70 Q 2463 (lLs j none none none) [] (sS M dv) kc ks := by
  obtain ⟨b, M1, M2, hh, hm, hI⟩ := hop
  refine f_aload_n dL_law_2463 rfl rfl ?_
  refine f_cV hG (As := []) dL_law_2464 rfl k_X11_clearText rfl rfl ml_L_323 im_X11_clearText se_X11_clearText rfl rfl hh (by decide) (Nat.le_of_ble_eq_true rfl) (Nat.zero_le _) (Nat.zero_le _) ?_
  refine f_aload_n dL_law_2467 rfl rfl ?_
  refine f_cV hG (As := []) dL_law_2468 rfl k_X12_clearText rfl rfl ml_L_326 im_X12_clearText se_X12_clearText rfl rfl hm (by decide) (Nat.le_of_ble_eq_true rfl) (Nat.zero_le _) (Nat.zero_le _) ?_
  refine f_icmp_eq (tgt := 2709) dL_law_2471 (by decide) (fun _ => ?_) (fun h => absurd rfl h)
  refine f_less (kc' := kc - 16) (ks' := ks - 96) (by omega) (by omega) (lw_next (kk M2 dv hI))
set_option maxRecDepth 100000 in
set_option maxHeartbeats 4000000 in
theorem lw_case_49 (hG : fOK G) (hX : va_X (gsa G 25) L xs (gs G) (gs G).heap) (hbl : gsa G 25 < fo G) (hL : L ≤ 2560) (hkc : 16 ≤ kc) (hks : 96 ≤ ks) {j : Nat} (hj : 5 * j + 5 ≤ L) (hop : OPi G Iv z_L_execute z_X12_execute M dv []) (kk : ∀ (M2 : fM) (dv2 : UInt64), Iv M2 → fV G z_L_law 70 Q 28 (lLs (j + 1) none none none) [] (sS M2 dv2) (kc - 16) (ks - 96)) : fV G z_L_law 70 Q 2476 (lLs j none none none) [] (sS M dv) kc ks := by
  obtain ⟨k, b, M1, M2, hh, hm, hk, hb, hI⟩ := hop
  refine f_aload_n dL_law_2476 rfl rfl ?_
  refine f_aload_n dL_law_2477 rfl rfl ?_
  refine f_cSW hG (As := [_, _]) dL_law_2478 rfl k_L_execute rfl rfl ml_L_327 sm_L_execute hh (by decide) (by decide) hkc hks ?_
  refine f_istore (ls' := lLs j (some (.int k)) none none) dL_law_2481 (Nat.le_of_ble_eq_true rfl) rfl rfl ?_
  refine f_aload_n dL_law_2483 rfl rfl ?_
  refine f_cV hG (As := []) dL_law_2484 rfl k_X12_execute rfl rfl ml_L_329 im_X12_execute se_X12_execute rfl rfl hm (by decide) (Nat.le_of_ble_eq_true rfl) (Nat.zero_le _) (Nat.zero_le _) ?_
  refine f_istore (ls' := lLs j (some (.int k)) (some (.int b)) none) dL_law_2487 (Nat.le_of_ble_eq_true rfl) rfl rfl ?_
  refine f_aload_n dL_law_2489 rfl rfl ?_
  refine f_cV hG (As := []) dL_law_2490 rfl k_X12_thrown rfl rfl ml_L_159 im_X12_thrown se_X12_thrown rfl rfl (c_X12_thrown hG (d := 60) (Nat.zero_le _) M2 dv) (by decide) (by decide) (Nat.zero_le _) (Nat.zero_le _) ?_
  refine f_iload dL_law_2493 rfl ?_
  refine f_icmp_eq (tgt := 2500) dL_law_2495 (by decide) (fun _ => ?_) (fun h => absurd (by rw [r_X12_thrown]; exact hk) h)
  refine f_iload dL_law_2500 rfl ?_
  refine f_if_ne (tgt := 2517) dL_law_2502 (by decide) (fun _ => ?_) (fun h0 => ?_)
  · refine f_goto (tgt := 2709) dL_law_2517 (by decide) ?_
    exact lw_next (f_less (kc' := kc - 16) (ks' := ks - 96) (by omega) (by omega) (kk M2 dv hI))
  · refine f_aload_n dL_law_2505 rfl rfl ?_
    refine f_iconst (v := 0) dL_law_2506 rfl ?_
    refine s_laload hG dL_law_2507 rfl (vp_in_nI (n := 0) (by decide) (by decide)) ?_
    refine f_iload dL_law_2508 rfl ?_
    refine f_i2l dL_law_2510 ?_
    refine f_lcmp dL_law_2511 ?_
    refine f_if_eq (tgt := 2517) dL_law_2512 (by decide) (fun _ => ?_) (fun h => absurd (by rw [show M2 306 (0 : Int32).toNatClampNeg = b from hb h0]; exact lcmp_eq _) h)
    refine f_goto (tgt := 2709) dL_law_2517 (by decide) ?_
    exact lw_next (f_less (kc' := kc - 16) (ks' := ks - 96) (by omega) (by omega) (kk M2 dv hI))
set_option maxRecDepth 100000 in
set_option maxHeartbeats 4000000 in
theorem lw_case_50 (hG : fOK G) (hX : va_X (gsa G 25) L xs (gs G) (gs G).heap) (hbl : gsa G 25 < fo G) (hL : L ≤ 2560) (hkc : 16 ≤ kc) (hks : 96 ≤ ks) {j : Nat} (hj : 5 * j + 5 ≤ L) (hop : OPi G Iv z_L_errorPosition z_X12_errorPosition M dv []) (kk : ∀ (M2 : fM) (dv2 : UInt64), Iv M2 → fV G z_L_law 70 Q 28 (lLs (j + 1) none none none) [] (sS M2 dv2) (kc - 16) (ks - 96)) : fV G z_L_law 70 Q 2520 (lLs j none none none) [] (sS M dv) kc ks := by
  obtain ⟨k, b, M1, M2, hh, hm, hk, hb, hI⟩ := hop
  refine f_aload_n dL_law_2520 rfl rfl ?_
  refine f_aload_n dL_law_2521 rfl rfl ?_
  refine f_cSW hG (As := [_, _]) dL_law_2522 rfl k_L_errorPosition rfl rfl ml_L_330 sm_L_errorPosition hh (by decide) (by decide) hkc hks ?_
  refine f_istore (ls' := lLs j (some (.int k)) none none) dL_law_2525 (Nat.le_of_ble_eq_true rfl) rfl rfl ?_
  refine f_aload_n dL_law_2527 rfl rfl ?_
  refine f_cV hG (As := []) dL_law_2528 rfl k_X12_errorPosition rfl rfl ml_L_332 im_X12_errorPosition se_X12_errorPosition rfl rfl hm (by decide) (Nat.le_of_ble_eq_true rfl) (Nat.zero_le _) (Nat.zero_le _) ?_
  refine f_istore (ls' := lLs j (some (.int k)) (some (.int b)) none) dL_law_2531 (Nat.le_of_ble_eq_true rfl) rfl rfl ?_
  refine f_aload_n dL_law_2533 rfl rfl ?_
  refine f_cV hG (As := []) dL_law_2534 rfl k_X12_thrown rfl rfl ml_L_159 im_X12_thrown se_X12_thrown rfl rfl (c_X12_thrown hG (d := 60) (Nat.zero_le _) M2 dv) (by decide) (by decide) (Nat.zero_le _) (Nat.zero_le _) ?_
  refine f_iload dL_law_2537 rfl ?_
  refine f_icmp_eq (tgt := 2544) dL_law_2539 (by decide) (fun _ => ?_) (fun h => absurd (by rw [r_X12_thrown]; exact hk) h)
  refine f_iload dL_law_2544 rfl ?_
  refine f_if_ne (tgt := 2561) dL_law_2546 (by decide) (fun _ => ?_) (fun h0 => ?_)
  · refine f_goto (tgt := 2709) dL_law_2561 (by decide) ?_
    exact lw_next (f_less (kc' := kc - 16) (ks' := ks - 96) (by omega) (by omega) (kk M2 dv hI))
  · refine f_aload_n dL_law_2549 rfl rfl ?_
    refine f_iconst (v := 0) dL_law_2550 rfl ?_
    refine s_laload hG dL_law_2551 rfl (vp_in_nI (n := 0) (by decide) (by decide)) ?_
    refine f_iload dL_law_2552 rfl ?_
    refine f_i2l dL_law_2554 ?_
    refine f_lcmp dL_law_2555 ?_
    refine f_if_eq (tgt := 2561) dL_law_2556 (by decide) (fun _ => ?_) (fun h => absurd (by rw [show M2 306 (0 : Int32).toNatClampNeg = b from hb h0]; exact lcmp_eq _) h)
    refine f_goto (tgt := 2709) dL_law_2561 (by decide) ?_
    exact lw_next (f_less (kc' := kc - 16) (ks' := ks - 96) (by omega) (by omega) (kk M2 dv hI))
set_option maxRecDepth 100000 in
set_option maxHeartbeats 4000000 in
theorem lw_case_51 (hG : fOK G) (hX : va_X (gsa G 25) L xs (gs G) (gs G).heap) (hbl : gsa G 25 < fo G) (hL : L ≤ 2560) (hkc : 16 ≤ kc) (hks : 96 ≤ ks) {j : Nat} (hj : 5 * j + 5 ≤ L) (hop : OPi G Iv z_L_failedCommand z_X12_failedCommand M dv []) (kk : ∀ (M2 : fM) (dv2 : UInt64), Iv M2 → fV G z_L_law 70 Q 28 (lLs (j + 1) none none none) [] (sS M2 dv2) (kc - 16) (ks - 96)) : fV G z_L_law 70 Q 2564 (lLs j none none none) [] (sS M dv) kc ks := by
  obtain ⟨k, b, M1, M2, hh, hm, hk, hb, hI⟩ := hop
  refine f_aload_n dL_law_2564 rfl rfl ?_
  refine f_aload_n dL_law_2565 rfl rfl ?_
  refine f_cSW hG (As := [_, _]) dL_law_2566 rfl k_L_failedCommand rfl rfl ml_L_333 sm_L_failedCommand hh (by decide) (by decide) hkc hks ?_
  refine f_istore (ls' := lLs j (some (.int k)) none none) dL_law_2569 (Nat.le_of_ble_eq_true rfl) rfl rfl ?_
  refine f_aload_n dL_law_2571 rfl rfl ?_
  refine f_cV hG (As := []) dL_law_2572 rfl k_X12_failedCommand rfl rfl ml_L_335 im_X12_failedCommand se_X12_failedCommand rfl rfl hm (by decide) (Nat.le_of_ble_eq_true rfl) (Nat.zero_le _) (Nat.zero_le _) ?_
  refine f_istore (ls' := lLs j (some (.int k)) (some (.int b)) none) dL_law_2575 (Nat.le_of_ble_eq_true rfl) rfl rfl ?_
  refine f_aload_n dL_law_2577 rfl rfl ?_
  refine f_cV hG (As := []) dL_law_2578 rfl k_X12_thrown rfl rfl ml_L_159 im_X12_thrown se_X12_thrown rfl rfl (c_X12_thrown hG (d := 60) (Nat.zero_le _) M2 dv) (by decide) (by decide) (Nat.zero_le _) (Nat.zero_le _) ?_
  refine f_iload dL_law_2581 rfl ?_
  refine f_icmp_eq (tgt := 2588) dL_law_2583 (by decide) (fun _ => ?_) (fun h => absurd (by rw [r_X12_thrown]; exact hk) h)
  refine f_iload dL_law_2588 rfl ?_
  refine f_if_ne (tgt := 2605) dL_law_2590 (by decide) (fun _ => ?_) (fun h0 => ?_)
  · refine f_goto (tgt := 2709) dL_law_2605 (by decide) ?_
    exact lw_next (f_less (kc' := kc - 16) (ks' := ks - 96) (by omega) (by omega) (kk M2 dv hI))
  · refine f_aload_n dL_law_2593 rfl rfl ?_
    refine f_iconst (v := 0) dL_law_2594 rfl ?_
    refine s_laload hG dL_law_2595 rfl (vp_in_nI (n := 0) (by decide) (by decide)) ?_
    refine f_iload dL_law_2596 rfl ?_
    refine f_i2l dL_law_2598 ?_
    refine f_lcmp dL_law_2599 ?_
    refine f_if_eq (tgt := 2605) dL_law_2600 (by decide) (fun _ => ?_) (fun h => absurd (by rw [show M2 306 (0 : Int32).toNatClampNeg = b from hb h0]; exact lcmp_eq _) h)
    refine f_goto (tgt := 2709) dL_law_2605 (by decide) ?_
    exact lw_next (f_less (kc' := kc - 16) (ks' := ks - 96) (by omega) (by omega) (kk M2 dv hI))
set_option maxRecDepth 100000 in
set_option maxHeartbeats 4000000 in
theorem lw_case_52 (hG : fOK G) (hX : va_X (gsa G 25) L xs (gs G) (gs G).heap) (hbl : gsa G 25 < fo G) (hL : L ≤ 2560) (hkc : 16 ≤ kc) (hks : 96 ≤ ks) {j : Nat} (hj : 5 * j + 5 ≤ L) (hop : OPi G Iv z_L_undo z_X12_undo M dv []) (kk : ∀ (M2 : fM) (dv2 : UInt64), Iv M2 → fV G z_L_law 70 Q 28 (lLs (j + 1) none none none) [] (sS M2 dv2) (kc - 16) (ks - 96)) : fV G z_L_law 70 Q 2608 (lLs j none none none) [] (sS M dv) kc ks := by
  obtain ⟨k, b, M1, M2, hh, hm, hk, hb, hI⟩ := hop
  refine f_aload_n dL_law_2608 rfl rfl ?_
  refine f_aload_n dL_law_2609 rfl rfl ?_
  refine f_cSW hG (As := [_, _]) dL_law_2610 rfl k_L_undo rfl rfl ml_L_336 sm_L_undo hh (by decide) (by decide) hkc hks ?_
  refine f_istore (ls' := lLs j (some (.int k)) none none) dL_law_2613 (Nat.le_of_ble_eq_true rfl) rfl rfl ?_
  refine f_aload_n dL_law_2615 rfl rfl ?_
  refine f_cV hG (As := []) dL_law_2616 rfl k_X12_undo rfl rfl ml_L_338 im_X12_undo se_X12_undo rfl rfl hm (by decide) (Nat.le_of_ble_eq_true rfl) (Nat.zero_le _) (Nat.zero_le _) ?_
  refine f_istore (ls' := lLs j (some (.int k)) (some (.int b)) none) dL_law_2619 (Nat.le_of_ble_eq_true rfl) rfl rfl ?_
  refine f_aload_n dL_law_2621 rfl rfl ?_
  refine f_cV hG (As := []) dL_law_2622 rfl k_X12_thrown rfl rfl ml_L_159 im_X12_thrown se_X12_thrown rfl rfl (c_X12_thrown hG (d := 60) (Nat.zero_le _) M2 dv) (by decide) (by decide) (Nat.zero_le _) (Nat.zero_le _) ?_
  refine f_iload dL_law_2625 rfl ?_
  refine f_icmp_eq (tgt := 2632) dL_law_2627 (by decide) (fun _ => ?_) (fun h => absurd (by rw [r_X12_thrown]; exact hk) h)
  refine f_iload dL_law_2632 rfl ?_
  refine f_if_ne (tgt := 2649) dL_law_2634 (by decide) (fun _ => ?_) (fun h0 => ?_)
  · refine f_goto (tgt := 2709) dL_law_2649 (by decide) ?_
    exact lw_next (f_less (kc' := kc - 16) (ks' := ks - 96) (by omega) (by omega) (kk M2 dv hI))
  · refine f_aload_n dL_law_2637 rfl rfl ?_
    refine f_iconst (v := 0) dL_law_2638 rfl ?_
    refine s_laload hG dL_law_2639 rfl (vp_in_nI (n := 0) (by decide) (by decide)) ?_
    refine f_iload dL_law_2640 rfl ?_
    refine f_i2l dL_law_2642 ?_
    refine f_lcmp dL_law_2643 ?_
    refine f_if_eq (tgt := 2649) dL_law_2644 (by decide) (fun _ => ?_) (fun h => absurd (by rw [show M2 306 (0 : Int32).toNatClampNeg = b from hb h0]; exact lcmp_eq _) h)
    refine f_goto (tgt := 2709) dL_law_2649 (by decide) ?_
    exact lw_next (f_less (kc' := kc - 16) (ks' := ks - 96) (by omega) (by omega) (kk M2 dv hI))
set_option maxRecDepth 100000 in
set_option maxHeartbeats 4000000 in
theorem lw_case_53 (hG : fOK G) (hX : va_X (gsa G 25) L xs (gs G) (gs G).heap) (hbl : gsa G 25 < fo G) (hL : L ≤ 2560) (hkc : 16 ≤ kc) (hks : 96 ≤ ks) {j : Nat} (hj : 5 * j + 5 ≤ L) (hop : OPp G Iv z_X11_save z_X12_save M dv) (kk : ∀ (M2 : fM) (dv2 : UInt64), Iv M2 → fV G z_L_law 70 Q 28 (lLs (j + 1) none none none) [] (sS M2 dv2) (kc - 16) (ks - 96)) : fV G z_L_law 70 Q 2652 (lLs j none none none) [] (sS M dv) kc ks := by
  obtain ⟨b, M1, M2, hh, hm, hI⟩ := hop
  refine f_aload_n dL_law_2652 rfl rfl ?_
  refine f_cV hG (As := []) dL_law_2653 rfl k_X11_save rfl rfl ml_L_339 im_X11_save se_X11_save rfl rfl hh (by decide) (Nat.le_of_ble_eq_true rfl) (Nat.zero_le _) (Nat.zero_le _) ?_
  refine f_aload_n dL_law_2656 rfl rfl ?_
  refine f_cV hG (As := []) dL_law_2657 rfl k_X12_save rfl rfl ml_L_342 im_X12_save se_X12_save rfl rfl hm (by decide) (Nat.le_of_ble_eq_true rfl) (Nat.zero_le _) (Nat.zero_le _) ?_
  refine f_icmp_eq (tgt := 2709) dL_law_2660 (by decide) (fun _ => ?_) (fun h => absurd rfl h)
  refine f_less (kc' := kc - 16) (ks' := ks - 96) (by omega) (by omega) (lw_next (kk M2 dv hI))
set_option maxRecDepth 100000 in
set_option maxHeartbeats 4000000 in
theorem lw_case_54 (hG : fOK G) (hX : va_X (gsa G 25) L xs (gs G) (gs G).heap) (hbl : gsa G 25 < fo G) (hL : L ≤ 2560) (hkc : 16 ≤ kc) (hks : 96 ≤ ks) {j : Nat} (hj : 5 * j + 5 ≤ L) (hop : OPi G Iv z_L_restore z_X12_restore M dv []) (kk : ∀ (M2 : fM) (dv2 : UInt64), Iv M2 → fV G z_L_law 70 Q 28 (lLs (j + 1) none none none) [] (sS M2 dv2) (kc - 16) (ks - 96)) : fV G z_L_law 70 Q 2665 (lLs j none none none) [] (sS M dv) kc ks := by
  obtain ⟨k, b, M1, M2, hh, hm, hk, hb, hI⟩ := hop
  refine f_aload_n dL_law_2665 rfl rfl ?_
  refine f_aload_n dL_law_2666 rfl rfl ?_
  refine f_cSW hG (As := [_, _]) dL_law_2667 rfl k_L_restore rfl rfl ml_L_343 sm_L_restore hh (by decide) (by decide) hkc hks ?_
  refine f_istore (ls' := lLs j (some (.int k)) none none) dL_law_2670 (Nat.le_of_ble_eq_true rfl) rfl rfl ?_
  refine f_aload_n dL_law_2672 rfl rfl ?_
  refine f_cV hG (As := []) dL_law_2673 rfl k_X12_restore rfl rfl ml_L_345 im_X12_restore se_X12_restore rfl rfl hm (by decide) (Nat.le_of_ble_eq_true rfl) (Nat.zero_le _) (Nat.zero_le _) ?_
  refine f_istore (ls' := lLs j (some (.int k)) (some (.int b)) none) dL_law_2676 (Nat.le_of_ble_eq_true rfl) rfl rfl ?_
  refine f_aload_n dL_law_2678 rfl rfl ?_
  refine f_cV hG (As := []) dL_law_2679 rfl k_X12_thrown rfl rfl ml_L_159 im_X12_thrown se_X12_thrown rfl rfl (c_X12_thrown hG (d := 60) (Nat.zero_le _) M2 dv) (by decide) (by decide) (Nat.zero_le _) (Nat.zero_le _) ?_
  refine f_iload dL_law_2682 rfl ?_
  refine f_icmp_eq (tgt := 2689) dL_law_2684 (by decide) (fun _ => ?_) (fun h => absurd (by rw [r_X12_thrown]; exact hk) h)
  refine f_iload dL_law_2689 rfl ?_
  refine f_if_ne (tgt := 2706) dL_law_2691 (by decide) (fun _ => ?_) (fun h0 => ?_)
  · refine f_goto (tgt := 2709) dL_law_2706 (by decide) ?_
    exact lw_next (f_less (kc' := kc - 16) (ks' := ks - 96) (by omega) (by omega) (kk M2 dv hI))
  · refine f_aload_n dL_law_2694 rfl rfl ?_
    refine f_iconst (v := 0) dL_law_2695 rfl ?_
    refine s_laload hG dL_law_2696 rfl (vp_in_nI (n := 0) (by decide) (by decide)) ?_
    refine f_iload dL_law_2697 rfl ?_
    refine f_i2l dL_law_2699 ?_
    refine f_lcmp dL_law_2700 ?_
    refine f_if_eq (tgt := 2706) dL_law_2701 (by decide) (fun _ => ?_) (fun h => absurd (by rw [show M2 306 (0 : Int32).toNatClampNeg = b from hb h0]; exact lcmp_eq _) h)
    refine f_goto (tgt := 2709) dL_law_2706 (by decide) ?_
    exact lw_next (f_less (kc' := kc - 16) (ks' := ks - 96) (by omega) (by omega) (kk M2 dv hI))
end LAW
def Op_0 (G : fG) (Iv : Nat → fM → Prop) (c : Nat) (M : fM) (dv : UInt64) (a b e f : Int32) : Prop := OPi G (Iv (c + 1)) z_L_addRaw z_X12_addRaw M dv []
def Op_1 (G : fG) (Iv : Nat → fM → Prop) (c : Nat) (M : fM) (dv : UInt64) (a b e f : Int32) : Prop := OPi G (Iv (c + 1)) z_L_mix z_X12_mix M dv [.int (a), .int (b)]
def Op_2 (G : fG) (Iv : Nat → fM → Prop) (c : Nat) (M : fM) (dv : UInt64) (a b e f : Int32) : Prop := OPp G (Iv (c + 1)) z_X11_rawCount z_X12_rawCount M dv
def Op_3 (G : fG) (Iv : Nat → fM → Prop) (c : Nat) (M : fM) (dv : UInt64) (a b e f : Int32) : Prop := OPp G (Iv (c + 1)) z_X11_batchCount z_X12_batchCount M dv
def Op_4 (G : fG) (Iv : Nat → fM → Prop) (c : Nat) (M : fM) (dv : UInt64) (a b e f : Int32) : Prop := OPb G (Iv (c + 1)) z_L_isFaulty z_X12_isFaulty M dv [.int (a)]
def Op_5 (G : fG) (Iv : Nat → fM → Prop) (c : Nat) (M : fM) (dv : UInt64) (a b e f : Int32) : Prop := OPi G (Iv (c + 1)) z_L_strengthOf z_X12_strengthOf M dv [.int (a)]
def Op_6 (G : fG) (Iv : Nat → fM → Prop) (c : Nat) (M : fM) (dv : UInt64) (a b e f : Int32) : Prop := OPb G (Iv (c + 1)) z_L_batchContains z_X12_batchContains M dv [.int (a), .int (b)]
def Op_7 (G : fG) (Iv : Nat → fM → Prop) (c : Nat) (M : fM) (dv : UInt64) (a b e f : Int32) : Prop := OPi G (Iv (c + 1)) z_L_addLabel z_X12_addLabel M dv []
def Op_8 (G : fG) (Iv : Nat → fM → Prop) (c : Nat) (M : fM) (dv : UInt64) (a b e f : Int32) : Prop := OPp G (Iv (c + 1)) z_X11_labelCount z_X12_labelCount M dv
def Op_9 (G : fG) (Iv : Nat → fM → Prop) (c : Nat) (M : fM) (dv : UInt64) (a b e f : Int32) : Prop := OPi G (Iv (c + 1)) z_L_labelLength z_X12_labelLength M dv [.int (a)]
def Op_10 (G : fG) (Iv : Nat → fM → Prop) (c : Nat) (M : fM) (dv : UInt64) (a b e f : Int32) : Prop := OPi G (Iv (c + 1)) z_L_labelLetter z_X12_labelLetter M dv [.int (a), .int (b)]
def Op_11 (G : fG) (Iv : Nat → fM → Prop) (c : Nat) (M : fM) (dv : UInt64) (a b e f : Int32) : Prop := OPi G (Iv (c + 1)) z_L_scan z_X12_scan M dv []
def Op_12 (G : fG) (Iv : Nat → fM → Prop) (c : Nat) (M : fM) (dv : UInt64) (a b e f : Int32) : Prop := OPi G (Iv (c + 1)) z_L_distanceTo z_X12_distanceTo M dv [.int (a)]
def Op_13 (G : fG) (Iv : Nat → fM → Prop) (c : Nat) (M : fM) (dv : UInt64) (a b e f : Int32) : Prop := OPi G (Iv (c + 1)) z_L_distanceByLetters z_X12_distanceByLetters M dv [.int (a)]
def Op_14 (G : fG) (Iv : Nat → fM → Prop) (c : Nat) (M : fM) (dv : UInt64) (a b e f : Int32) : Prop := OPi G (Iv (c + 1)) z_L_fill z_X12_fill M dv [.int (a), .int (b), .int (e), .int (f)]
def Op_15 (G : fG) (Iv : Nat → fM → Prop) (c : Nat) (M : fM) (dv : UInt64) (a b e f : Int32) : Prop := OPi G (Iv (c + 1)) z_L_ship z_X12_ship M dv [.int (a)]
def Op_16 (G : fG) (Iv : Nat → fM → Prop) (c : Nat) (M : fM) (dv : UInt64) (a b e f : Int32) : Prop := OPi G (Iv (c + 1)) z_L_pass z_X12_pass M dv [.int (a)]
def Op_17 (G : fG) (Iv : Nat → fM → Prop) (c : Nat) (M : fM) (dv : UInt64) (a b e f : Int32) : Prop := OPi G (Iv (c + 1)) z_L_recall z_X12_recall M dv [.int (a)]
def Op_18 (G : fG) (Iv : Nat → fM → Prop) (c : Nat) (M : fM) (dv : UInt64) (a b e f : Int32) : Prop := OPp G (Iv (c + 1)) z_X11_lotCount z_X12_lotCount M dv
def Op_19 (G : fG) (Iv : Nat → fM → Prop) (c : Nat) (M : fM) (dv : UInt64) (a b e f : Int32) : Prop := OPi G (Iv (c + 1)) z_L_lotAt z_X12_lotAt M dv [.int (a)]
def Op_20 (G : fG) (Iv : Nat → fM → Prop) (c : Nat) (M : fM) (dv : UInt64) (a b e f : Int32) : Prop := OPi G (Iv (c + 1)) z_L_jarsOf z_X12_jarsOf M dv [.int (a)]
def Op_21 (G : fG) (Iv : Nat → fM → Prop) (c : Nat) (M : fM) (dv : UInt64) (a b e f : Int32) : Prop := OPi G (Iv (c + 1)) z_L_labelOf z_X12_labelOf M dv [.int (a)]
def Op_22 (G : fG) (Iv : Nat → fM → Prop) (c : Nat) (M : fM) (dv : UInt64) (a b e f : Int32) : Prop := OPi G (Iv (c + 1)) z_L_strengthOfLot z_X12_strengthOfLot M dv [.int (a)]
def Op_23 (G : fG) (Iv : Nat → fM → Prop) (c : Nat) (M : fM) (dv : UInt64) (a b e f : Int32) : Prop := OPi G (Iv (c + 1)) z_L_pressureOf z_X12_pressureOf M dv [.int (a)]
def Op_24 (G : fG) (Iv : Nat → fM → Prop) (c : Nat) (M : fM) (dv : UInt64) (a b e f : Int32) : Prop := OPb G (Iv (c + 1)) z_L_lotContains z_X12_lotContains M dv [.int (a), .int (b)]
def Op_25 (G : fG) (Iv : Nat → fM → Prop) (c : Nat) (M : fM) (dv : UInt64) (a b e f : Int32) : Prop := OPi G (Iv (c + 1)) z_L_daysUntilPop z_X12_daysUntilPop M dv [.int (a)]
def Op_26 (G : fG) (Iv : Nat → fM → Prop) (c : Nat) (M : fM) (dv : UInt64) (a b e f : Int32) : Prop := OPi G (Iv (c + 1)) z_L_daysByDivision z_X12_daysByDivision M dv [.int (a)]
def Op_27 (G : fG) (Iv : Nat → fM → Prop) (c : Nat) (M : fM) (dv : UInt64) (a b e f : Int32) : Prop := OPi G (Iv (c + 1)) z_L_lotByPressure z_X12_lotByPressure M dv [.int (a)]
def Op_28 (G : fG) (Iv : Nat → fM → Prop) (c : Nat) (M : fM) (dv : UInt64) (a b e f : Int32) : Prop := OPi G (Iv (c + 1)) z_L_affectedLots z_X12_affectedLots M dv [.int (a)]
def Op_29 (G : fG) (Iv : Nat → fM → Prop) (c : Nat) (M : fM) (dv : UInt64) (a b e f : Int32) : Prop := OPi G (Iv (c + 1)) z_L_affectedBySets z_X12_affectedBySets M dv [.int (a)]
def Op_30 (G : fG) (Iv : Nat → fM → Prop) (c : Nat) (M : fM) (dv : UInt64) (a b e f : Int32) : Prop := OPi G (Iv (c + 1)) z_L_leastCrates z_X12_leastCrates M dv [.int (a)]
def Op_31 (G : fG) (Iv : Nat → fM → Prop) (c : Nat) (M : fM) (dv : UInt64) (a b e f : Int32) : Prop := OPi G (Iv (c + 1)) z_L_leastCratesByTrial z_X12_leastCratesByTrial M dv [.int (a)]
def Op_32 (G : fG) (Iv : Nat → fM → Prop) (c : Nat) (M : fM) (dv : UInt64) (a b e f : Int32) : Prop := OPp G (Iv (c + 1)) z_X11_fewestTests z_X12_fewestTests M dv
def Op_33 (G : fG) (Iv : Nat → fM → Prop) (c : Nat) (M : fM) (dv : UInt64) (a b e f : Int32) : Prop := OPp G (Iv (c + 1)) z_X11_fewestTestsByBranching z_X12_fewestTestsByBranching M dv
def Op_34 (G : fG) (Iv : Nat → fM → Prop) (c : Nat) (M : fM) (dv : UInt64) (a b e f : Int32) : Prop := OPb G (Iv (c + 1)) z_L_isTested z_X12_isTested M dv [.int (a)]
def Op_35 (G : fG) (Iv : Nat → fM → Prop) (c : Nat) (M : fM) (dv : UInt64) (a b e f : Int32) : Prop := OPp G (Iv (c + 1)) z_X11_dayCount z_X12_dayCount M dv
def Op_36 (G : fG) (Iv : Nat → fM → Prop) (c : Nat) (M : fM) (dv : UInt64) (a b e f : Int32) : Prop := OPp G (Iv (c + 1)) z_X11_filled z_X12_filled M dv
def Op_37 (G : fG) (Iv : Nat → fM → Prop) (c : Nat) (M : fM) (dv : UInt64) (a b e f : Int32) : Prop := OPp G (Iv (c + 1)) z_X11_stored z_X12_stored M dv
def Op_38 (G : fG) (Iv : Nat → fM → Prop) (c : Nat) (M : fM) (dv : UInt64) (a b e f : Int32) : Prop := OPp G (Iv (c + 1)) z_X11_shipped z_X12_shipped M dv
def Op_39 (G : fG) (Iv : Nat → fM → Prop) (c : Nat) (M : fM) (dv : UInt64) (a b e f : Int32) : Prop := OPp G (Iv (c + 1)) z_X11_recalled z_X12_recalled M dv
def Op_40 (G : fG) (Iv : Nat → fM → Prop) (c : Nat) (M : fM) (dv : UInt64) (a b e f : Int32) : Prop := OPp G (Iv (c + 1)) z_X11_spoiled z_X12_spoiled M dv
def Op_41 (G : fG) (Iv : Nat → fM → Prop) (c : Nat) (M : fM) (dv : UInt64) (a b e f : Int32) : Prop := OPd G (Iv (c + 1)) z_L_meanPressure z_X12_meanPressure M dv
def Op_42 (G : fG) (Iv : Nat → fM → Prop) (c : Nat) (M : fM) (dv : UInt64) (a b e f : Int32) : Prop := OPf G (Iv (c + 1)) z_L_shippedShare z_X12_shippedShare M dv
def Op_43 (G : fG) (Iv : Nat → fM → Prop) (c : Nat) (M : fM) (dv : UInt64) (a b e f : Int32) : Prop := OPi G (Iv (c + 1)) z_L_writeLot z_X12_writeLot M dv [.int (a)]
def Op_44 (G : fG) (Iv : Nat → fM → Prop) (c : Nat) (M : fM) (dv : UInt64) (a b e f : Int32) : Prop := OPp G (Iv (c + 1)) z_X11_writeRaws z_X12_writeRaws M dv
def Op_45 (G : fG) (Iv : Nat → fM → Prop) (c : Nat) (M : fM) (dv : UInt64) (a b e f : Int32) : Prop := OPi G (Iv (c + 1)) z_L_lineAt z_X12_lineAt M dv [.int (a)]
def Op_46 (G : fG) (Iv : Nat → fM → Prop) (c : Nat) (M : fM) (dv : UInt64) (a b e f : Int32) : Prop := OPp G (Iv (c + 1)) z_X11_isConsistent z_X12_isConsistent M dv
def Op_47 (G : fG) (Iv : Nat → fM → Prop) (c : Nat) (M : fM) (dv : UInt64) (a b e f : Int32) : Prop := OPi G (Iv (c + 1)) z_L_type z_X12_type M dv [.int (i2c (a))]
def Op_48 (G : fG) (Iv : Nat → fM → Prop) (c : Nat) (M : fM) (dv : UInt64) (a b e f : Int32) : Prop := OPp G (Iv (c + 1)) z_X11_clearText z_X12_clearText M dv
def Op_49 (G : fG) (Iv : Nat → fM → Prop) (c : Nat) (M : fM) (dv : UInt64) (a b e f : Int32) : Prop := OPi G (Iv (c + 1)) z_L_execute z_X12_execute M dv []
def Op_50 (G : fG) (Iv : Nat → fM → Prop) (c : Nat) (M : fM) (dv : UInt64) (a b e f : Int32) : Prop := OPi G (Iv (c + 1)) z_L_errorPosition z_X12_errorPosition M dv []
def Op_51 (G : fG) (Iv : Nat → fM → Prop) (c : Nat) (M : fM) (dv : UInt64) (a b e f : Int32) : Prop := OPi G (Iv (c + 1)) z_L_failedCommand z_X12_failedCommand M dv []
def Op_52 (G : fG) (Iv : Nat → fM → Prop) (c : Nat) (M : fM) (dv : UInt64) (a b e f : Int32) : Prop := OPi G (Iv (c + 1)) z_L_undo z_X12_undo M dv []
def Op_53 (G : fG) (Iv : Nat → fM → Prop) (c : Nat) (M : fM) (dv : UInt64) (a b e f : Int32) : Prop := OPp G (Iv (c + 1)) z_X11_save z_X12_save M dv
def Op_54 (G : fG) (Iv : Nat → fM → Prop) (c : Nat) (M : fM) (dv : UInt64) (a b e f : Int32) : Prop := OPi G (Iv (c + 1)) z_L_restore z_X12_restore M dv []
def Ops (G : fG) (Iv : Nat → fM → Prop) (c : Nat) (M : fM) (dv : UInt64) (a b e f : Int32) : Prop := Op_0 G Iv c M dv a b e f ∧ Op_1 G Iv c M dv a b e f ∧ Op_2 G Iv c M dv a b e f ∧ Op_3 G Iv c M dv a b e f ∧ Op_4 G Iv c M dv a b e f ∧ Op_5 G Iv c M dv a b e f ∧ Op_6 G Iv c M dv a b e f ∧ Op_7 G Iv c M dv a b e f ∧ Op_8 G Iv c M dv a b e f ∧ Op_9 G Iv c M dv a b e f ∧ Op_10 G Iv c M dv a b e f ∧ Op_11 G Iv c M dv a b e f ∧ Op_12 G Iv c M dv a b e f ∧ Op_13 G Iv c M dv a b e f ∧ Op_14 G Iv c M dv a b e f ∧ Op_15 G Iv c M dv a b e f ∧ Op_16 G Iv c M dv a b e f ∧ Op_17 G Iv c M dv a b e f ∧ Op_18 G Iv c M dv a b e f ∧ Op_19 G Iv c M dv a b e f ∧ Op_20 G Iv c M dv a b e f ∧ Op_21 G Iv c M dv a b e f ∧ Op_22 G Iv c M dv a b e f ∧ Op_23 G Iv c M dv a b e f ∧ Op_24 G Iv c M dv a b e f ∧ Op_25 G Iv c M dv a b e f ∧ Op_26 G Iv c M dv a b e f ∧ Op_27 G Iv c M dv a b e f ∧ Op_28 G Iv c M dv a b e f ∧ Op_29 G Iv c M dv a b e f ∧ Op_30 G Iv c M dv a b e f ∧ Op_31 G Iv c M dv a b e f ∧ Op_32 G Iv c M dv a b e f ∧ Op_33 G Iv c M dv a b e f ∧ Op_34 G Iv c M dv a b e f ∧ Op_35 G Iv c M dv a b e f ∧ Op_36 G Iv c M dv a b e f ∧ Op_37 G Iv c M dv a b e f ∧ Op_38 G Iv c M dv a b e f ∧ Op_39 G Iv c M dv a b e f ∧ Op_40 G Iv c M dv a b e f ∧ Op_41 G Iv c M dv a b e f ∧ Op_42 G Iv c M dv a b e f ∧ Op_43 G Iv c M dv a b e f ∧ Op_44 G Iv c M dv a b e f ∧ Op_45 G Iv c M dv a b e f ∧ Op_46 G Iv c M dv a b e f ∧ Op_47 G Iv c M dv a b e f ∧ Op_48 G Iv c M dv a b e f ∧ Op_49 G Iv c M dv a b e f ∧ Op_50 G Iv c M dv a b e f ∧ Op_51 G Iv c M dv a b e f ∧ Op_52 G Iv c M dv a b e f ∧ Op_53 G Iv c M dv a b e f ∧ Op_54 G Iv c M dv a b e f
