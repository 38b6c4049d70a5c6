theorem lw_gt {L j : Nat} (hL : L ≤ 2560) (h : ¬ nI L - 5 < nI (5 * j)) (hj : 5 * j ≤ 2560) : 5 * j + 5 ≤ L := by
  have h1 : (nI L - nI 5).toInt = (L : Int) - (5 : Nat) := pk_sub_toInt (by omega) (by omega)
  have h2 : (nI (5 * j)).toInt = ((5 * j : Nat) : Int) := nI_toInt (by omega)
  rw [show (5 : Int32) = nI 5 from rfl, Int32.lt_iff_toInt_lt, h1, h2] at h
  omega
set_option maxRecDepth 100000 in
set_option maxHeartbeats 4000000 in
theorem lw_loop {G : fG} (hG : fOK G) {Q : fR → fS → Prop} {L : Nat} {xs : Nat → Int32} (hX : va_X (gsa G 25) L xs (gs G) (gs G).heap) (hbl : gsa G 25 < fo G) (hL : L ≤ 2560) {Iv : Nat → fM → Prop} (hops : ∀ (c : Nat) (M : fM) (dv : UInt64) (a b e f : Int32), c < 512 → Iv c M → Ops G Iv c M dv a b e f) (hmono : ∀ c M, Iv c M → Iv (c + 1) M) (hQ : ∀ S, Q (.inl (some (.int 1))) S) :
    ∀ (n j : Nat) (M : fM) (dv : UInt64) (kc ks : Nat), j + n = 512 → 5 * j ≤ 2560 → 16 * n ≤ kc → 96 * n ≤ ks → Iv j M → fV G z_L_law 70 Q 28 (lLs j none none none) [] (sS M dv) kc ks := by
  intro n
  induction n with
  | zero =>
    intro j M dv kc ks hjn hj hkc hks hI
    refine f_iload dL_law_28 rfl ?_
    refine f_aload_n dL_law_30 rfl rfl ?_
    refine f_slen hX hbl dL_law_31 ?_
    refine f_iconst (v := 5) dL_law_32 rfl ?_
    refine f_isub dL_law_33 ?_
    refine f_icmp_gt (tgt := 2715) dL_law_34 (by decide) (fun _ => ?_) (fun h => ?_)
    · refine f_iconst (v := 1) dL_law_2715 rfl ?_
      refine f_ireturn dL_law_2716 rfl rfl ?_
      exact hQ _
    · have := lw_gt hL h hj
      omega
  | succ n ih =>
    intro j M dv kc ks hjn hj hkc hks hI
    refine f_iload dL_law_28 rfl ?_
    refine f_aload_n dL_law_30 rfl rfl ?_
    refine f_slen hX hbl dL_law_31 ?_
    refine f_iconst (v := 5) dL_law_32 rfl ?_
    refine f_isub dL_law_33 ?_
    refine f_icmp_gt (tgt := 2715) dL_law_34 (by decide) (fun _ => ?_) (fun h => ?_)
    · refine f_iconst (v := 1) dL_law_2715 rfl ?_
      refine f_ireturn dL_law_2716 rfl rfl ?_
      exact hQ _
    · have hj5 := lw_gt hL h hj
      refine f_aload_n dL_law_37 rfl rfl ?_
      refine f_iload dL_law_38 rfl ?_
      refine f_sld (q := 5 * j) hX hbl rfl (by omega) (by omega) dL_law_40 ?_
      refine f_bipush (v := 63) dL_law_41 (by decide) ?_
      refine f_iand dL_law_43 ?_
      obtain ⟨t, ht, hx⟩ := pk_andE (xs (5 * j)) (m := 63) 6 (by decide)
      have kk : ∀ (M2 : fM) (dv2 : UInt64), Iv (j + 1) M2 → fV G z_L_law 70 Q 28 (lLs (j + 1) none none none) [] (sS M2 dv2) (kc - 16) (ks - 96) := fun M2 dv2 h2 => ih (j + 1) M2 dv2 (kc - 16) (ks - 96) (by omega) (by omega) (by omega) (by omega) h2
      have hop := hops j M dv (xs (5 * j + 1)) (xs (5 * j + 2)) (xs (5 * j + 3)) (xs (5 * j + 4)) (by omega) hI
      have hkc1 : 16 ≤ kc := by omega
      have hks1 : 96 ≤ ks := by omega
      obtain ⟨op0, op1, op2, op3, op4, op5, op6, op7, op8, op9, op10, op11, op12, op13, op14, op15, op16, op17, op18, op19, op20, op21, op22, op23, op24, op25, op26, op27, op28, op29, op30, op31, op32, op33, op34, op35, op36, op37, op38, op39, op40, op41, op42, op43, op44, op45, op46, op47, op48, op49, op50, op51, op52, op53, op54⟩ := hop
      by_cases e0 : t = 0
      · subst e0
        refine f_tableIn (off := 236) (tgt := 280) dL_law_44 (by rw [hx]; decide) (by rw [hx]; decide) (by rw [hx]; rfl) (by decide) ?_
        exact lw_case_0 hG hX hbl hL hkc1 hks1 hj5 op0 kk
      by_cases e1 : t = 1
      · subst e1
        refine f_tableIn (off := 280) (tgt := 324) dL_law_44 (by rw [hx]; decide) (by rw [hx]; decide) (by rw [hx]; rfl) (by decide) ?_
        exact lw_case_1 hG hX hbl hL hkc1 hks1 hj5 op1 kk
      by_cases e2 : t = 2
      · subst e2
        refine f_tableIn (off := 348) (tgt := 392) dL_law_44 (by rw [hx]; decide) (by rw [hx]; decide) (by rw [hx]; rfl) (by decide) ?_
        exact lw_case_2 hG hX hbl hL hkc1 hks1 hj5 op2 kk
      by_cases e3 : t = 3
      · subst e3
        refine f_tableIn (off := 361) (tgt := 405) dL_law_44 (by rw [hx]; decide) (by rw [hx]; decide) (by rw [hx]; rfl) (by decide) ?_
        exact lw_case_3 hG hX hbl hL hkc1 hks1 hj5 op3 kk
      by_cases e4 : t = 4
      · subst e4
        refine f_tableIn (off := 374) (tgt := 418) dL_law_44 (by rw [hx]; decide) (by rw [hx]; decide) (by rw [hx]; rfl) (by decide) ?_
        exact lw_case_4 hG hX hbl hL hkc1 hks1 hj5 op4 kk
      by_cases e5 : t = 5
      · subst e5
        refine f_tableIn (off := 437) (tgt := 481) dL_law_44 (by rw [hx]; decide) (by rw [hx]; decide) (by rw [hx]; rfl) (by decide) ?_
        exact lw_case_5 hG hX hbl hL hkc1 hks1 hj5 op5 kk
      by_cases e6 : t = 6
      · subst e6
        refine f_tableIn (off := 493) (tgt := 537) dL_law_44 (by rw [hx]; decide) (by rw [hx]; decide) (by rw [hx]; rfl) (by decide) ?_
        exact lw_case_6 hG hX hbl hL hkc1 hks1 hj5 op6 kk
      by_cases e7 : t = 7
      · subst e7
        refine f_tableIn (off := 568) (tgt := 612) dL_law_44 (by rw [hx]; decide) (by rw [hx]; decide) (by rw [hx]; rfl) (by decide) ?_
        exact lw_case_7 hG hX hbl hL hkc1 hks1 hj5 op7 kk
      by_cases e8 : t = 8
      · subst e8
        refine f_tableIn (off := 612) (tgt := 656) dL_law_44 (by rw [hx]; decide) (by rw [hx]; decide) (by rw [hx]; rfl) (by decide) ?_
        exact lw_case_8 hG hX hbl hL hkc1 hks1 hj5 op8 kk
      by_cases e9 : t = 9
      · subst e9
        refine f_tableIn (off := 625) (tgt := 669) dL_law_44 (by rw [hx]; decide) (by rw [hx]; decide) (by rw [hx]; rfl) (by decide) ?_
        exact lw_case_9 hG hX hbl hL hkc1 hks1 hj5 op9 kk
      by_cases e10 : t = 10
      · subst e10
        refine f_tableIn (off := 681) (tgt := 725) dL_law_44 (by rw [hx]; decide) (by rw [hx]; decide) (by rw [hx]; rfl) (by decide) ?_
        exact lw_case_10 hG hX hbl hL hkc1 hks1 hj5 op10 kk
      by_cases e11 : t = 11
      · subst e11
        refine f_tableIn (off := 749) (tgt := 793) dL_law_44 (by rw [hx]; decide) (by rw [hx]; decide) (by rw [hx]; rfl) (by decide) ?_
        exact lw_case_11 hG hX hbl hL hkc1 hks1 hj5 op11 kk
      by_cases e12 : t = 12
      · subst e12
        refine f_tableIn (off := 793) (tgt := 837) dL_law_44 (by rw [hx]; decide) (by rw [hx]; decide) (by rw [hx]; rfl) (by decide) ?_
        exact lw_case_12 hG hX hbl hL hkc1 hks1 hj5 op12 kk
      by_cases e13 : t = 13
      · subst e13
        refine f_tableIn (off := 849) (tgt := 893) dL_law_44 (by rw [hx]; decide) (by rw [hx]; decide) (by rw [hx]; rfl) (by decide) ?_
        exact lw_case_13 hG hX hbl hL hkc1 hks1 hj5 op13 kk
      by_cases e14 : t = 14
      · subst e14
        refine f_tableIn (off := 905) (tgt := 949) dL_law_44 (by rw [hx]; decide) (by rw [hx]; decide) (by rw [hx]; rfl) (by decide) ?_
        exact lw_case_14 hG hX hbl hL hkc1 hks1 hj5 op14 kk
      by_cases e15 : t = 15
      · subst e15
        refine f_tableIn (off := 997) (tgt := 1041) dL_law_44 (by rw [hx]; decide) (by rw [hx]; decide) (by rw [hx]; rfl) (by decide) ?_
        exact lw_case_15 hG hX hbl hL hkc1 hks1 hj5 op15 kk
      by_cases e16 : t = 16
      · subst e16
        refine f_tableIn (off := 1053) (tgt := 1097) dL_law_44 (by rw [hx]; decide) (by rw [hx]; decide) (by rw [hx]; rfl) (by decide) ?_
        exact lw_case_16 hG hX hbl hL hkc1 hks1 hj5 op16 kk
      by_cases e17 : t = 17
      · subst e17
        refine f_tableIn (off := 1109) (tgt := 1153) dL_law_44 (by rw [hx]; decide) (by rw [hx]; decide) (by rw [hx]; rfl) (by decide) ?_
        exact lw_case_17 hG hX hbl hL hkc1 hks1 hj5 op17 kk
      by_cases e18 : t = 18
      · subst e18
        refine f_tableIn (off := 1165) (tgt := 1209) dL_law_44 (by rw [hx]; decide) (by rw [hx]; decide) (by rw [hx]; rfl) (by decide) ?_
        exact lw_case_18 hG hX hbl hL hkc1 hks1 hj5 op18 kk
      by_cases e19 : t = 19
      · subst e19
        refine f_tableIn (off := 1178) (tgt := 1222) dL_law_44 (by rw [hx]; decide) (by rw [hx]; decide) (by rw [hx]; rfl) (by decide) ?_
        exact lw_case_19 hG hX hbl hL hkc1 hks1 hj5 op19 kk
      by_cases e20 : t = 20
      · subst e20
        refine f_tableIn (off := 1234) (tgt := 1278) dL_law_44 (by rw [hx]; decide) (by rw [hx]; decide) (by rw [hx]; rfl) (by decide) ?_
        exact lw_case_20 hG hX hbl hL hkc1 hks1 hj5 op20 kk
      by_cases e21 : t = 21
      · subst e21
        refine f_tableIn (off := 1290) (tgt := 1334) dL_law_44 (by rw [hx]; decide) (by rw [hx]; decide) (by rw [hx]; rfl) (by decide) ?_
        exact lw_case_21 hG hX hbl hL hkc1 hks1 hj5 op21 kk
      by_cases e22 : t = 22
      · subst e22
        refine f_tableIn (off := 1346) (tgt := 1390) dL_law_44 (by rw [hx]; decide) (by rw [hx]; decide) (by rw [hx]; rfl) (by decide) ?_
        exact lw_case_22 hG hX hbl hL hkc1 hks1 hj5 op22 kk
      by_cases e23 : t = 23
      · subst e23
        refine f_tableIn (off := 1402) (tgt := 1446) dL_law_44 (by rw [hx]; decide) (by rw [hx]; decide) (by rw [hx]; rfl) (by decide) ?_
        exact lw_case_23 hG hX hbl hL hkc1 hks1 hj5 op23 kk
      by_cases e24 : t = 24
      · subst e24
        refine f_tableIn (off := 1458) (tgt := 1502) dL_law_44 (by rw [hx]; decide) (by rw [hx]; decide) (by rw [hx]; rfl) (by decide) ?_
        exact lw_case_24 hG hX hbl hL hkc1 hks1 hj5 op24 kk
      by_cases e25 : t = 25
      · subst e25
        refine f_tableIn (off := 1533) (tgt := 1577) dL_law_44 (by rw [hx]; decide) (by rw [hx]; decide) (by rw [hx]; rfl) (by decide) ?_
        exact lw_case_25 hG hX hbl hL hkc1 hks1 hj5 op25 kk
      by_cases e26 : t = 26
      · subst e26
        refine f_tableIn (off := 1589) (tgt := 1633) dL_law_44 (by rw [hx]; decide) (by rw [hx]; decide) (by rw [hx]; rfl) (by decide) ?_
        exact lw_case_26 hG hX hbl hL hkc1 hks1 hj5 op26 kk
      by_cases e27 : t = 27
      · subst e27
        refine f_tableIn (off := 1645) (tgt := 1689) dL_law_44 (by rw [hx]; decide) (by rw [hx]; decide) (by rw [hx]; rfl) (by decide) ?_
        exact lw_case_27 hG hX hbl hL hkc1 hks1 hj5 op27 kk
      by_cases e28 : t = 28
      · subst e28
        refine f_tableIn (off := 1701) (tgt := 1745) dL_law_44 (by rw [hx]; decide) (by rw [hx]; decide) (by rw [hx]; rfl) (by decide) ?_
        exact lw_case_28 hG hX hbl hL hkc1 hks1 hj5 op28 kk
      by_cases e29 : t = 29
      · subst e29
        refine f_tableIn (off := 1757) (tgt := 1801) dL_law_44 (by rw [hx]; decide) (by rw [hx]; decide) (by rw [hx]; rfl) (by decide) ?_
        exact lw_case_29 hG hX hbl hL hkc1 hks1 hj5 op29 kk
      by_cases e30 : t = 30
      · subst e30
        refine f_tableIn (off := 1813) (tgt := 1857) dL_law_44 (by rw [hx]; decide) (by rw [hx]; decide) (by rw [hx]; rfl) (by decide) ?_
        exact lw_case_30 hG hX hbl hL hkc1 hks1 hj5 op30 kk
      by_cases e31 : t = 31
      · subst e31
        refine f_tableIn (off := 1869) (tgt := 1913) dL_law_44 (by rw [hx]; decide) (by rw [hx]; decide) (by rw [hx]; rfl) (by decide) ?_
        exact lw_case_31 hG hX hbl hL hkc1 hks1 hj5 op31 kk
      by_cases e32 : t = 32
      · subst e32
        refine f_tableIn (off := 1925) (tgt := 1969) dL_law_44 (by rw [hx]; decide) (by rw [hx]; decide) (by rw [hx]; rfl) (by decide) ?_
        exact lw_case_32 hG hX hbl hL hkc1 hks1 hj5 op32 kk
      by_cases e33 : t = 33
      · subst e33
        refine f_tableIn (off := 1938) (tgt := 1982) dL_law_44 (by rw [hx]; decide) (by rw [hx]; decide) (by rw [hx]; rfl) (by decide) ?_
        exact lw_case_33 hG hX hbl hL hkc1 hks1 hj5 op33 kk
      by_cases e34 : t = 34
      · subst e34
        refine f_tableIn (off := 1951) (tgt := 1995) dL_law_44 (by rw [hx]; decide) (by rw [hx]; decide) (by rw [hx]; rfl) (by decide) ?_
        exact lw_case_34 hG hX hbl hL hkc1 hks1 hj5 op34 kk
      by_cases e35 : t = 35
      · subst e35
        refine f_tableIn (off := 2014) (tgt := 2058) dL_law_44 (by rw [hx]; decide) (by rw [hx]; decide) (by rw [hx]; rfl) (by decide) ?_
        exact lw_case_35 hG hX hbl hL hkc1 hks1 hj5 op35 kk
      by_cases e36 : t = 36
      · subst e36
        refine f_tableIn (off := 2027) (tgt := 2071) dL_law_44 (by rw [hx]; decide) (by rw [hx]; decide) (by rw [hx]; rfl) (by decide) ?_
        exact lw_case_36 hG hX hbl hL hkc1 hks1 hj5 op36 kk
      by_cases e37 : t = 37
      · subst e37
        refine f_tableIn (off := 2040) (tgt := 2084) dL_law_44 (by rw [hx]; decide) (by rw [hx]; decide) (by rw [hx]; rfl) (by decide) ?_
        exact lw_case_37 hG hX hbl hL hkc1 hks1 hj5 op37 kk
      by_cases e38 : t = 38
      · subst e38
        refine f_tableIn (off := 2053) (tgt := 2097) dL_law_44 (by rw [hx]; decide) (by rw [hx]; decide) (by rw [hx]; rfl) (by decide) ?_
        exact lw_case_38 hG hX hbl hL hkc1 hks1 hj5 op38 kk
      by_cases e39 : t = 39
      · subst e39
        refine f_tableIn (off := 2066) (tgt := 2110) dL_law_44 (by rw [hx]; decide) (by rw [hx]; decide) (by rw [hx]; rfl) (by decide) ?_
        exact lw_case_39 hG hX hbl hL hkc1 hks1 hj5 op39 kk
      by_cases e40 : t = 40
      · subst e40
        refine f_tableIn (off := 2079) (tgt := 2123) dL_law_44 (by rw [hx]; decide) (by rw [hx]; decide) (by rw [hx]; rfl) (by decide) ?_
        exact lw_case_40 hG hX hbl hL hkc1 hks1 hj5 op40 kk
      by_cases e41 : t = 41
      · subst e41
        refine f_tableIn (off := 2092) (tgt := 2136) dL_law_44 (by rw [hx]; decide) (by rw [hx]; decide) (by rw [hx]; rfl) (by decide) ?_
        exact lw_case_41 hG hX hbl hL hkc1 hks1 hj5 op41 kk
      by_cases e42 : t = 42
      · subst e42
        refine f_tableIn (off := 2157) (tgt := 2201) dL_law_44 (by rw [hx]; decide) (by rw [hx]; decide) (by rw [hx]; rfl) (by decide) ?_
        exact lw_case_42 hG hX hbl hL hkc1 hks1 hj5 op42 kk
      by_cases e43 : t = 43
      · subst e43
        refine f_tableIn (off := 2223) (tgt := 2267) dL_law_44 (by rw [hx]; decide) (by rw [hx]; decide) (by rw [hx]; rfl) (by decide) ?_
        exact lw_case_43 hG hX hbl hL hkc1 hks1 hj5 op43 kk
      by_cases e44 : t = 44
      · subst e44
        refine f_tableIn (off := 2279) (tgt := 2323) dL_law_44 (by rw [hx]; decide) (by rw [hx]; decide) (by rw [hx]; rfl) (by decide) ?_
        exact lw_case_44 hG hX hbl hL hkc1 hks1 hj5 op44 kk
      by_cases e45 : t = 45
      · subst e45
        refine f_tableIn (off := 2292) (tgt := 2336) dL_law_44 (by rw [hx]; decide) (by rw [hx]; decide) (by rw [hx]; rfl) (by decide) ?_
        exact lw_case_45 hG hX hbl hL hkc1 hks1 hj5 op45 kk
      by_cases e46 : t = 46
      · subst e46
        refine f_tableIn (off := 2348) (tgt := 2392) dL_law_44 (by rw [hx]; decide) (by rw [hx]; decide) (by rw [hx]; rfl) (by decide) ?_
        exact lw_case_46 hG hX hbl hL hkc1 hks1 hj5 op46 kk
      by_cases e47 : t = 47
      · subst e47
        refine f_tableIn (off := 2361) (tgt := 2405) dL_law_44 (by rw [hx]; decide) (by rw [hx]; decide) (by rw [hx]; rfl) (by decide) ?_
        exact lw_case_47 hG hX hbl hL hkc1 hks1 hj5 op47 kk
      by_cases e48 : t = 48
      · subst e48
        refine f_tableIn (off := 2419) (tgt := 2463) dL_law_44 (by rw [hx]; decide) (by rw [hx]; decide) (by rw [hx]; rfl) (by decide) ?_
        exact lw_case_48 hG hX hbl hL hkc1 hks1 hj5 op48 kk
      by_cases e49 : t = 49
      · subst e49
        refine f_tableIn (off := 2432) (tgt := 2476) dL_law_44 (by rw [hx]; decide) (by rw [hx]; decide) (by rw [hx]; rfl) (by decide) ?_
        exact lw_case_49 hG hX hbl hL hkc1 hks1 hj5 op49 kk
      by_cases e50 : t = 50
      · subst e50
        refine f_tableIn (off := 2476) (tgt := 2520) dL_law_44 (by rw [hx]; decide) (by rw [hx]; decide) (by rw [hx]; rfl) (by decide) ?_
        exact lw_case_50 hG hX hbl hL hkc1 hks1 hj5 op50 kk
      by_cases e51 : t = 51
      · subst e51
        refine f_tableIn (off := 2520) (tgt := 2564) dL_law_44 (by rw [hx]; decide) (by rw [hx]; decide) (by rw [hx]; rfl) (by decide) ?_
        exact lw_case_51 hG hX hbl hL hkc1 hks1 hj5 op51 kk
      by_cases e52 : t = 52
      · subst e52
        refine f_tableIn (off := 2564) (tgt := 2608) dL_law_44 (by rw [hx]; decide) (by rw [hx]; decide) (by rw [hx]; rfl) (by decide) ?_
        exact lw_case_52 hG hX hbl hL hkc1 hks1 hj5 op52 kk
      by_cases e53 : t = 53
      · subst e53
        refine f_tableIn (off := 2608) (tgt := 2652) dL_law_44 (by rw [hx]; decide) (by rw [hx]; decide) (by rw [hx]; rfl) (by decide) ?_
        exact lw_case_53 hG hX hbl hL hkc1 hks1 hj5 op53 kk
      by_cases e54 : t = 54
      · subst e54
        refine f_tableIn (off := 2621) (tgt := 2665) dL_law_44 (by rw [hx]; decide) (by rw [hx]; decide) (by rw [hx]; rfl) (by decide) ?_
        exact lw_case_54 hG hX hbl hL hkc1 hks1 hj5 op54 kk
      have h55 : 55 ≤ t := by omega
      refine f_tableOut (tgt := 2709) dL_law_44 (Or.inr (by rw [hx, nI_toInt (by omega)]; omega)) (by decide) ?_
      exact lw_next (f_less (kc' := kc - 16) (ks' := ks - 96) (by omega) (by omega) (kk M dv (hmono _ _ hI)))
