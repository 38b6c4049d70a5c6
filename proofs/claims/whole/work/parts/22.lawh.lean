/-! ===== the law's helpers ===== -/
theorem f_cSW {G : fG} {z : fMi} {d pc : Nat} {Q : fR → fS → Prop} {ls : List (Option Value)} {st : List Value} {S : fS} {kc ks : Nat} (hG : fOK G) {z2 : fMi} {d2 idx n mc ms : Nat} {As rest : List Value} {v : Option Value} {S2 : fS} {h0 : Nat × Nat × Nat × Nat} {ht0 : List (Nat × Nat × Nat × Nat)} (hd : decode z.2.1 pc = .ok (.invokestatic idx, 3)) (hst : st = As.reverse ++ rest) (hk : fMk z2 n) (hn : As.length = n) (hh : z2.2.2.2.2 = h0 :: ht0) (hm : Cond.methodLink z.1.cls idx z2.1 ∈ lw_tbl) (hs : Cond.static z2.1 ∈ lw_tbl)
    (hc : fCt G z2 d2 As S mc ms (fD v S2)) (hdd : d2 < d) (hcat : (rest.map (fun v => v.category)).sum ≤ 8) (hmc : mc ≤ kc) (hms : ms ≤ ks) (kk : fV G z d Q (pc + 3) ls (v.toList ++ rest) S2 (kc - mc) (ks - ms)) : fV G z d Q pc ls st S kc ks := by
  intro p e s m args below meth c R Z H locs cells slots lsr hC hE h1 h2 h3 h4 hW hS hl
  obtain ⟨hx, hb, hml, hr, hown, hlocks, ht, hnm, hB⟩ := id hC
  subst hst
  have hpp := f_preS (As := As) hB hW hS
  have hcode : fword z2 = Cond.codeWith z2.1 z2.2.1 z2.2.2.1 z2.2.2.2.1 (h0 :: ht0) := by simp [fword, hh]
  have hw : ∀ a, (fword z2).before a s = true := fun a => f_word hG hB hk.1.1 hk.1.2 a
  have e0 : z2.2.2.1 ≤ 40 := hk.2.2.2.2.2
  have e1 : (frm d2 mc ms).frames + 1 ≤ R.frames := by show d2 + 20 + 1 ≤ R.frames; omega
  have e2 : 8 + (z2.2.2.1 + 11) + (frm d2 mc ms).locals ≤ R.locals := by rw [frm_loc]; exact f_ar e0 hdd h2
  have cw : vx_CSW R s args z.1.cls idx z2.1 z2.2.1 z2.2.2.1 z2.2.2.2.1 (h0 :: ht0) [fword z2] (frm d2 mc ms) mc ms n := by
    refine ⟨⟨rfl, rfl, e1, e2, fun w hw1 a' U hU => ?_, by rw [← hcode]; exact List.mem_cons_self⟩, by rw [← hcode]; exact hw args, f_word hG hB hk.2.1 rfl args, hk.2.2.1, fun sig h => ?_, f_word hG hB hm rfl args, f_word hG hB hs rfl args⟩
    · have hw2 : w = fword z2 := by simpa using hw1
      subst hw2
      exact word_at hU (good_of_word hk.1.2) (hw args)
    · have h9 := hk.2.2.2.1
      rw [h] at h9
      exact (Option.some.inj h9).symm
  exact f_after hC hE h1 h2 h3 h4 hS hl hmc hms (f_va2vx (XC := fXC G (fD v S2)) (vx_runSW (nL := z.2.2.1) (Ts := []) (n := n) (own := z.1.cls) (As := As.map (frl G)) (rest := rest.map (frl G)) ⟨hx, hb, hml, hown, fun _ h => nomatch h⟩ (fCt_met hc fD_no) cw hpp rfl (by simpa using hn) hl.1 (by rw [List.map_append, List.map_reverse]) (lv_room (by rw [f_cat]; exact hcat)) hd ⟨by omega, by omega⟩)) (fun v' S' h => by obtain ⟨h5, rfl⟩ := h; cases h5; exact kk) (fun E S' h => absurd h (fD_no E S'))
abbrev oL (v : Int32) : Int32 := if v = 0 then 0 else 1
theorem cc_L_13 : Cond.classLink RL 13 "java/lang/IllegalStateException" ∈ lw_tbl := List.mem_of_getElem? (i := 623) (by decide +kernel)
theorem cc_L_19 : Cond.classLink RL 19 "java/lang/IllegalArgumentException" ∈ lw_tbl := List.mem_of_getElem? (i := 788) (by decide +kernel)
theorem cc_L_21 : Cond.classLink RL 21 "java/lang/UnsupportedOperationException" ∈ lw_tbl := List.mem_of_getElem? (i := 789) (by decide +kernel)
theorem cc_L_27 : Cond.classLink RL 27 "java/lang/IndexOutOfBoundsException" ∈ lw_tbl := List.mem_of_getElem? (i := 810) (by decide +kernel)
theorem cc_L_50 : Cond.classLink RL 50 "java/util/NoSuchElementException" ∈ lw_tbl := List.mem_of_getElem? (i := 935) (by decide +kernel)
theorem cc_L_117 : Cond.classLink RL 117 "java/lang/ArithmeticException" ∈ lw_tbl := List.mem_of_getElem? (i := 1215) (by decide +kernel)
theorem ca_IllegalStateException : Cond.castable "java/lang/IllegalStateException" "java/lang/IllegalStateException" ∈ lw_tbl := List.mem_of_getElem? (i := 725) (by decide +kernel)
theorem ca_IllegalArgumentException : Cond.castable "java/lang/IllegalArgumentException" "java/lang/IllegalArgumentException" ∈ lw_tbl := List.mem_of_getElem? (i := 709) (by decide +kernel)
theorem ca_UnsupportedOperationException : Cond.castable "java/lang/UnsupportedOperationException" "java/lang/UnsupportedOperationException" ∈ lw_tbl := List.mem_of_getElem? (i := 741) (by decide +kernel)
theorem ca_IndexOutOfBoundsException : Cond.castable "java/lang/IndexOutOfBoundsException" "java/lang/IndexOutOfBoundsException" ∈ lw_tbl := List.mem_of_getElem? (i := 637) (by decide +kernel)
theorem ca_NoSuchElementException : Cond.castable "java/util/NoSuchElementException" "java/util/NoSuchElementException" ∈ lw_tbl := List.mem_of_getElem? (i := 757) (by decide +kernel)
theorem ca_ArithmeticException : Cond.castable "java/lang/ArithmeticException" "java/lang/ArithmeticException" ∈ lw_tbl := List.mem_of_getElem? (i := 1227) (by decide +kernel)
set_option maxRecDepth 100000 in
theorem only307 : fonly L1 307 := by
  intro i a h h3
  have hl : i < 308 := (List.getElem?_eq_some_iff.mp h).1
  have hb : (List.range 308).all (fun i => match L1[i]? with | some (.inr a) => a.1 != 3 || i == 307 | _ => true) = true := by decide +kernel
  have hi := List.all_eq_true.mp hb i (List.mem_range.mpr hl)
  rw [h] at hi
  simpa [h3] using hi
def H_addRaw (o : fR × fM) (r : Int32) (M' : fM) : Prop := (∃ (v : Int32) (M2 : fM), o = (.inl (some (.int v)), M2) ∧ r = 0 ∧ M' = fst1 M2 306 0 v) ∨ (∃ M2 : fM, o = (.inr "java/lang/IllegalStateException", M2) ∧ r = 1 ∧ M2 = M')
set_option maxRecDepth 100000 in
set_option maxHeartbeats 4000000 in
theorem c_L_addRaw {G : fG} (hG : fOK G) {d d2 : Nat} (hdd : d2 < d) {mc ms kc ks : Nat} (hmc : mc ≤ kc) (hms : ms ≤ ks) (M : fM) (dv : UInt64) {o : fR × fM} (hc : fCt G z_X11_addRaw d2 [.ref 0] (sS M dv) mc ms (fO dv o)) (r : Int32) (M' : fM) (ho : H_addRaw o r M') : fCt G z_L_addRaw d [.ref 0, .ref 306] (sS M dv) kc ks (fD (some (.int r)) (sS M' dv)) := by
  refine fCt_to [some (.ref 0), some (.ref 306), none] k_L_addRaw rfl (Nat.le_of_ble_eq_true rfl) rfl ?_
  rcases ho with ⟨v, M2, rfl, rfl, rfl⟩ | ⟨M2, rfl, rfl, rfl⟩
  · refine f_aload_n dL_addRaw_0 rfl rfl ?_
    refine f_iconst (v := 0) dL_addRaw_1 rfl ?_
    refine f_aload_n dL_addRaw_2 rfl rfl ?_
    refine f_rV hG (As := []) dL_addRaw_3 rfl k_X11_addRaw rfl rfl ml_L_7 im_X11_addRaw se_X11_addRaw rfl rfl (v := some (.int v)) (M2 := M2) hc hdd (by decide) hmc hms ?_
    refine f_i2l dL_addRaw_6 ?_
    refine s_lastore hG dL_addRaw_7 rfl (vp_in_nI (n := 0) (by decide) (by decide)) ?_
    refine f_goto (tgt := 14) dL_addRaw_8 (by decide) ?_
    refine f_iconst (v := 0) dL_addRaw_14 rfl ?_
    refine f_ireturn dL_addRaw_15 rfl rfl ?_
    exact ⟨rfl, rfl⟩
  · refine f_aload_n dL_addRaw_0 rfl rfl ?_
    refine f_iconst (v := 0) dL_addRaw_1 rfl ?_
    refine f_aload_n dL_addRaw_2 rfl rfl ?_
    refine f_tV hG (As := []) dL_addRaw_3 rfl k_X11_addRaw rfl rfl ml_L_7 im_X11_addRaw se_X11_addRaw rfl rfl (E := "java/lang/IllegalStateException") (M2 := M2) hc hdd (by decide) hmc hms (f_catch hG (pre := []) (y := (0, 8, 11, 13)) (suf := []) rfl (fun w hw => by cases hw) ⟨by decide, by decide⟩ (by decide) cc_L_13 ca_IllegalStateException dL_addRaw_11 rfl (Nat.le_of_ble_eq_true rfl) rfl ?_)
    refine f_iconst (v := 1) dL_addRaw_12 rfl ?_
    refine f_ireturn dL_addRaw_13 rfl rfl ?_
    exact ⟨rfl, rfl⟩
def H_mix (o : fR × fM) (r : Int32) (M' : fM) : Prop := (∃ (v : Int32) (M2 : fM), o = (.inl (some (.int v)), M2) ∧ r = 0 ∧ M' = fst1 M2 306 0 v) ∨ (∃ M2 : fM, o = (.inr "java/lang/IllegalArgumentException", M2) ∧ r = 1 ∧ M2 = M') ∨ (∃ M2 : fM, o = (.inr "java/lang/IllegalStateException", M2) ∧ r = 2 ∧ M2 = M') ∨ (∃ M2 : fM, o = (.inr "java/lang/UnsupportedOperationException", M2) ∧ r = 3 ∧ M2 = M')
set_option maxRecDepth 100000 in
set_option maxHeartbeats 4000000 in
theorem c_L_mix {G : fG} (hG : fOK G) {d d2 : Nat} (hdd : d2 < d) {mc ms kc ks : Nat} (hmc : mc ≤ kc) (hms : ms ≤ ks) (M : fM) (dv : UInt64) (a : Int32) (b : Int32) {o : fR × fM} (hc : fCt G z_X11_mix d2 [.ref 0, .int a, .int b] (sS M dv) mc ms (fO dv o)) (r : Int32) (M' : fM) (ho : H_mix o r M') : fCt G z_L_mix d [.ref 0, .int a, .int b, .ref 306] (sS M dv) kc ks (fD (some (.int r)) (sS M' dv)) := by
  refine fCt_to [some (.ref 0), some (.int a), some (.int b), some (.ref 306), none] k_L_mix rfl (Nat.le_of_ble_eq_true rfl) rfl ?_
  rcases ho with ⟨v, M2, rfl, rfl, rfl⟩ | ⟨M2, rfl, rfl, rfl⟩ | ⟨M2, rfl, rfl, rfl⟩ | ⟨M2, rfl, rfl, rfl⟩
  · refine f_aload_n dL_mix_0 rfl rfl ?_
    refine f_iconst (v := 0) dL_mix_1 rfl ?_
    refine f_aload_n dL_mix_2 rfl rfl ?_
    refine f_iload_n dL_mix_3 rfl rfl ?_
    refine f_iload_n dL_mix_4 rfl rfl ?_
    refine f_rV hG (As := [_, _]) dL_mix_5 rfl k_X11_mix rfl rfl ml_L_15 im_X11_mix se_X11_mix rfl rfl (v := some (.int v)) (M2 := M2) hc hdd (by decide) hmc hms ?_
    refine f_i2l dL_mix_8 ?_
    refine s_lastore hG dL_mix_9 rfl (vp_in_nI (n := 0) (by decide) (by decide)) ?_
    refine f_goto (tgt := 25) dL_mix_10 (by decide) ?_
    refine f_iconst (v := 0) dL_mix_25 rfl ?_
    refine f_ireturn dL_mix_26 rfl rfl ?_
    exact ⟨rfl, rfl⟩
  · refine f_aload_n dL_mix_0 rfl rfl ?_
    refine f_iconst (v := 0) dL_mix_1 rfl ?_
    refine f_aload_n dL_mix_2 rfl rfl ?_
    refine f_iload_n dL_mix_3 rfl rfl ?_
    refine f_iload_n dL_mix_4 rfl rfl ?_
    refine f_tV hG (As := [_, _]) dL_mix_5 rfl k_X11_mix rfl rfl ml_L_15 im_X11_mix se_X11_mix rfl rfl (E := "java/lang/IllegalArgumentException") (M2 := M2) hc hdd (by decide) hmc hms (f_catch2 hG (pre := []) (y := (0, 10, 13, 19)) (suf := [(0, 10, 17, 13), (0, 10, 21, 21)]) rfl (fun w hw => by cases hw) ⟨by decide, by decide⟩ (by decide) cc_L_19 ca_IllegalArgumentException dL_mix_13 (Nat.le_of_ble_eq_true rfl) rfl ?_)
    refine f_iconst (v := 1) dL_mix_15 rfl ?_
    refine f_ireturn dL_mix_16 rfl rfl ?_
    exact ⟨rfl, rfl⟩
  · refine f_aload_n dL_mix_0 rfl rfl ?_
    refine f_iconst (v := 0) dL_mix_1 rfl ?_
    refine f_aload_n dL_mix_2 rfl rfl ?_
    refine f_iload_n dL_mix_3 rfl rfl ?_
    refine f_iload_n dL_mix_4 rfl rfl ?_
    refine f_tV hG (As := [_, _]) dL_mix_5 rfl k_X11_mix rfl rfl ml_L_15 im_X11_mix se_X11_mix rfl rfl (E := "java/lang/IllegalStateException") (M2 := M2) hc hdd (by decide) hmc hms (f_catch2 hG (pre := [(0, 10, 13, 19)]) (y := (0, 10, 17, 13)) (suf := [(0, 10, 21, 21)]) rfl (fun w hw => by
      simp only [List.mem_cons, List.not_mem_nil, or_false] at hw
      rcases hw with rfl
      · exact ⟨by decide, _, cc_L_19, by decide +kernel⟩) ⟨by decide, by decide⟩ (by decide) cc_L_13 ca_IllegalStateException dL_mix_17 (Nat.le_of_ble_eq_true rfl) rfl ?_)
    refine f_iconst (v := 2) dL_mix_19 rfl ?_
    refine f_ireturn dL_mix_20 rfl rfl ?_
    exact ⟨rfl, rfl⟩
  · refine f_aload_n dL_mix_0 rfl rfl ?_
    refine f_iconst (v := 0) dL_mix_1 rfl ?_
    refine f_aload_n dL_mix_2 rfl rfl ?_
    refine f_iload_n dL_mix_3 rfl rfl ?_
    refine f_iload_n dL_mix_4 rfl rfl ?_
    refine f_tV hG (As := [_, _]) dL_mix_5 rfl k_X11_mix rfl rfl ml_L_15 im_X11_mix se_X11_mix rfl rfl (E := "java/lang/UnsupportedOperationException") (M2 := M2) hc hdd (by decide) hmc hms (f_catch2 hG (pre := [(0, 10, 13, 19), (0, 10, 17, 13)]) (y := (0, 10, 21, 21)) (suf := []) rfl (fun w hw => by
      simp only [List.mem_cons, List.not_mem_nil, or_false] at hw
      rcases hw with rfl | rfl
      · exact ⟨by decide, _, cc_L_19, by decide +kernel⟩
      · exact ⟨by decide, _, cc_L_13, by decide +kernel⟩) ⟨by decide, by decide⟩ (by decide) cc_L_21 ca_UnsupportedOperationException dL_mix_21 (Nat.le_of_ble_eq_true rfl) rfl ?_)
    refine f_iconst (v := 3) dL_mix_23 rfl ?_
    refine f_ireturn dL_mix_24 rfl rfl ?_
    exact ⟨rfl, rfl⟩
def H_isFaulty (o : fR × fM) (r : Int32) (M' : fM) : Prop := (∃ (v : Int32) (M2 : fM), o = (.inl (some (.int v)), M2) ∧ r = 0 ∧ M' = fst1 M2 306 0 (oL v)) ∨ (∃ M2 : fM, o = (.inr "java/lang/IndexOutOfBoundsException", M2) ∧ r = 1 ∧ M2 = M')
set_option maxRecDepth 100000 in
set_option maxHeartbeats 4000000 in
theorem c_L_isFaulty {G : fG} (hG : fOK G) {d d2 : Nat} (hdd : d2 < d) {mc ms kc ks : Nat} (hmc : mc ≤ kc) (hms : ms ≤ ks) (M : fM) (dv : UInt64) (a : Int32) {o : fR × fM} (hc : fCt G z_X11_isFaulty d2 [.ref 0, .int a] (sS M dv) mc ms (fO dv o)) (r : Int32) (M' : fM) (ho : H_isFaulty o r M') : fCt G z_L_isFaulty d [.ref 0, .int a, .ref 306] (sS M dv) kc ks (fD (some (.int r)) (sS M' dv)) := by
  refine fCt_to [some (.ref 0), some (.int a), some (.ref 306), none] k_L_isFaulty rfl (Nat.le_of_ble_eq_true rfl) rfl ?_
  rcases ho with ⟨v, M2, rfl, rfl, rfl⟩ | ⟨M2, rfl, rfl, rfl⟩
  · refine f_aload_n dL_isFaulty_0 rfl rfl ?_
    refine f_iconst (v := 0) dL_isFaulty_1 rfl ?_
    refine f_aload_n dL_isFaulty_2 rfl rfl ?_
    refine f_iload_n dL_isFaulty_3 rfl rfl ?_
    refine f_rV hG (As := [_]) dL_isFaulty_4 rfl k_X11_isFaulty rfl rfl ml_L_23 im_X11_isFaulty se_X11_isFaulty rfl rfl (v := some (.int v)) (M2 := M2) hc hdd (by decide) hmc hms ?_
    refine f_if_eq (tgt := 14) dL_isFaulty_7 (by decide) (fun c_1 => ?_) (fun c_1 => ?_)
    · refine f_lconst (v := (0 : Int32).toInt64) dL_isFaulty_14 rfl ?_
      refine s_lastore hG dL_isFaulty_15 rfl (vp_in_nI (n := 0) (by decide) (by decide)) ?_
      refine f_goto (tgt := 22) dL_isFaulty_16 (by decide) ?_
      refine f_iconst (v := 0) dL_isFaulty_22 rfl ?_
      refine f_ireturn dL_isFaulty_23 rfl rfl ?_
      exact ⟨rfl, by rw [oL, if_pos c_1]; rfl⟩
    · refine f_lconst (v := (1 : Int32).toInt64) dL_isFaulty_10 rfl ?_
      refine f_goto (tgt := 15) dL_isFaulty_11 (by decide) ?_
      refine s_lastore hG dL_isFaulty_15 rfl (vp_in_nI (n := 0) (by decide) (by decide)) ?_
      refine f_goto (tgt := 22) dL_isFaulty_16 (by decide) ?_
      refine f_iconst (v := 0) dL_isFaulty_22 rfl ?_
      refine f_ireturn dL_isFaulty_23 rfl rfl ?_
      exact ⟨rfl, by rw [oL, if_neg c_1]; rfl⟩
  · refine f_aload_n dL_isFaulty_0 rfl rfl ?_
    refine f_iconst (v := 0) dL_isFaulty_1 rfl ?_
    refine f_aload_n dL_isFaulty_2 rfl rfl ?_
    refine f_iload_n dL_isFaulty_3 rfl rfl ?_
    refine f_tV hG (As := [_]) dL_isFaulty_4 rfl k_X11_isFaulty rfl rfl ml_L_23 im_X11_isFaulty se_X11_isFaulty rfl rfl (E := "java/lang/IndexOutOfBoundsException") (M2 := M2) hc hdd (by decide) hmc hms (f_catch hG (pre := []) (y := (0, 16, 19, 27)) (suf := []) rfl (fun w hw => by cases hw) ⟨by decide, by decide⟩ (by decide) cc_L_27 ca_IndexOutOfBoundsException dL_isFaulty_19 rfl (Nat.le_of_ble_eq_true rfl) rfl ?_)
    refine f_iconst (v := 1) dL_isFaulty_20 rfl ?_
    refine f_ireturn dL_isFaulty_21 rfl rfl ?_
    exact ⟨rfl, rfl⟩
def H_strengthOf (o : fR × fM) (r : Int32) (M' : fM) : Prop := (∃ (v : Int32) (M2 : fM), o = (.inl (some (.int v)), M2) ∧ r = 0 ∧ M' = fst1 M2 306 0 v) ∨ (∃ M2 : fM, o = (.inr "java/lang/IndexOutOfBoundsException", M2) ∧ r = 1 ∧ M2 = M')
set_option maxRecDepth 100000 in
set_option maxHeartbeats 4000000 in
theorem c_L_strengthOf {G : fG} (hG : fOK G) {d d2 : Nat} (hdd : d2 < d) {mc ms kc ks : Nat} (hmc : mc ≤ kc) (hms : ms ≤ ks) (M : fM) (dv : UInt64) (a : Int32) {o : fR × fM} (hc : fCt G z_X11_strengthOf d2 [.ref 0, .int a] (sS M dv) mc ms (fO dv o)) (r : Int32) (M' : fM) (ho : H_strengthOf o r M') : fCt G z_L_strengthOf d [.ref 0, .int a, .ref 306] (sS M dv) kc ks (fD (some (.int r)) (sS M' dv)) := by
  refine fCt_to [some (.ref 0), some (.int a), some (.ref 306), none] k_L_strengthOf rfl (Nat.le_of_ble_eq_true rfl) rfl ?_
  rcases ho with ⟨v, M2, rfl, rfl, rfl⟩ | ⟨M2, rfl, rfl, rfl⟩
  · refine f_aload_n dL_strengthOf_0 rfl rfl ?_
    refine f_iconst (v := 0) dL_strengthOf_1 rfl ?_
    refine f_aload_n dL_strengthOf_2 rfl rfl ?_
    refine f_iload_n dL_strengthOf_3 rfl rfl ?_
    refine f_rV hG (As := [_]) dL_strengthOf_4 rfl k_X11_strengthOf rfl rfl ml_L_29 im_X11_strengthOf se_X11_strengthOf rfl rfl (v := some (.int v)) (M2 := M2) hc hdd (by decide) hmc hms ?_
    refine f_i2l dL_strengthOf_7 ?_
    refine s_lastore hG dL_strengthOf_8 rfl (vp_in_nI (n := 0) (by decide) (by decide)) ?_
    refine f_goto (tgt := 15) dL_strengthOf_9 (by decide) ?_
    refine f_iconst (v := 0) dL_strengthOf_15 rfl ?_
    refine f_ireturn dL_strengthOf_16 rfl rfl ?_
    exact ⟨rfl, rfl⟩
  · refine f_aload_n dL_strengthOf_0 rfl rfl ?_
    refine f_iconst (v := 0) dL_strengthOf_1 rfl ?_
    refine f_aload_n dL_strengthOf_2 rfl rfl ?_
    refine f_iload_n dL_strengthOf_3 rfl rfl ?_
    refine f_tV hG (As := [_]) dL_strengthOf_4 rfl k_X11_strengthOf rfl rfl ml_L_29 im_X11_strengthOf se_X11_strengthOf rfl rfl (E := "java/lang/IndexOutOfBoundsException") (M2 := M2) hc hdd (by decide) hmc hms (f_catch hG (pre := []) (y := (0, 9, 12, 27)) (suf := []) rfl (fun w hw => by cases hw) ⟨by decide, by decide⟩ (by decide) cc_L_27 ca_IndexOutOfBoundsException dL_strengthOf_12 rfl (Nat.le_of_ble_eq_true rfl) rfl ?_)
    refine f_iconst (v := 1) dL_strengthOf_13 rfl ?_
    refine f_ireturn dL_strengthOf_14 rfl rfl ?_
    exact ⟨rfl, rfl⟩
def H_batchContains (o : fR × fM) (r : Int32) (M' : fM) : Prop := (∃ (v : Int32) (M2 : fM), o = (.inl (some (.int v)), M2) ∧ r = 0 ∧ M' = fst1 M2 306 0 (oL v)) ∨ (∃ M2 : fM, o = (.inr "java/lang/IndexOutOfBoundsException", M2) ∧ r = 1 ∧ M2 = M')
set_option maxRecDepth 100000 in
set_option maxHeartbeats 4000000 in
theorem c_L_batchContains {G : fG} (hG : fOK G) {d d2 : Nat} (hdd : d2 < d) {mc ms kc ks : Nat} (hmc : mc ≤ kc) (hms : ms ≤ ks) (M : fM) (dv : UInt64) (a : Int32) (b : Int32) {o : fR × fM} (hc : fCt G z_X11_batchContains d2 [.ref 0, .int a, .int b] (sS M dv) mc ms (fO dv o)) (r : Int32) (M' : fM) (ho : H_batchContains o r M') : fCt G z_L_batchContains d [.ref 0, .int a, .int b, .ref 306] (sS M dv) kc ks (fD (some (.int r)) (sS M' dv)) := by
  refine fCt_to [some (.ref 0), some (.int a), some (.int b), some (.ref 306), none] k_L_batchContains rfl (Nat.le_of_ble_eq_true rfl) rfl ?_
  rcases ho with ⟨v, M2, rfl, rfl, rfl⟩ | ⟨M2, rfl, rfl, rfl⟩
  · refine f_aload_n dL_batchContains_0 rfl rfl ?_
    refine f_iconst (v := 0) dL_batchContains_1 rfl ?_
    refine f_aload_n dL_batchContains_2 rfl rfl ?_
    refine f_iload_n dL_batchContains_3 rfl rfl ?_
    refine f_iload_n dL_batchContains_4 rfl rfl ?_
    refine f_rV hG (As := [_, _]) dL_batchContains_5 rfl k_X11_batchContains rfl rfl ml_L_33 im_X11_batchContains se_X11_batchContains rfl rfl (v := some (.int v)) (M2 := M2) hc hdd (by decide) hmc hms ?_
    refine f_if_eq (tgt := 15) dL_batchContains_8 (by decide) (fun c_1 => ?_) (fun c_1 => ?_)
    · refine f_lconst (v := (0 : Int32).toInt64) dL_batchContains_15 rfl ?_
      refine s_lastore hG dL_batchContains_16 rfl (vp_in_nI (n := 0) (by decide) (by decide)) ?_
      refine f_goto (tgt := 24) dL_batchContains_17 (by decide) ?_
      refine f_iconst (v := 0) dL_batchContains_24 rfl ?_
      refine f_ireturn dL_batchContains_25 rfl rfl ?_
      exact ⟨rfl, by rw [oL, if_pos c_1]; rfl⟩
    · refine f_lconst (v := (1 : Int32).toInt64) dL_batchContains_11 rfl ?_
      refine f_goto (tgt := 16) dL_batchContains_12 (by decide) ?_
      refine s_lastore hG dL_batchContains_16 rfl (vp_in_nI (n := 0) (by decide) (by decide)) ?_
      refine f_goto (tgt := 24) dL_batchContains_17 (by decide) ?_
      refine f_iconst (v := 0) dL_batchContains_24 rfl ?_
      refine f_ireturn dL_batchContains_25 rfl rfl ?_
      exact ⟨rfl, by rw [oL, if_neg c_1]; rfl⟩
  · refine f_aload_n dL_batchContains_0 rfl rfl ?_
    refine f_iconst (v := 0) dL_batchContains_1 rfl ?_
    refine f_aload_n dL_batchContains_2 rfl rfl ?_
    refine f_iload_n dL_batchContains_3 rfl rfl ?_
    refine f_iload_n dL_batchContains_4 rfl rfl ?_
    refine f_tV hG (As := [_, _]) dL_batchContains_5 rfl k_X11_batchContains rfl rfl ml_L_33 im_X11_batchContains se_X11_batchContains rfl rfl (E := "java/lang/IndexOutOfBoundsException") (M2 := M2) hc hdd (by decide) hmc hms (f_catch2 hG (pre := []) (y := (0, 17, 20, 27)) (suf := []) rfl (fun w hw => by cases hw) ⟨by decide, by decide⟩ (by decide) cc_L_27 ca_IndexOutOfBoundsException dL_batchContains_20 (Nat.le_of_ble_eq_true rfl) rfl ?_)
    refine f_iconst (v := 1) dL_batchContains_22 rfl ?_
    refine f_ireturn dL_batchContains_23 rfl rfl ?_
    exact ⟨rfl, rfl⟩
def H_addLabel (o : fR × fM) (r : Int32) (M' : fM) : Prop := (∃ (v : Int32) (M2 : fM), o = (.inl (some (.int v)), M2) ∧ r = 0 ∧ M' = fst1 M2 306 0 v) ∨ (∃ M2 : fM, o = (.inr "java/lang/IllegalArgumentException", M2) ∧ r = 1 ∧ M2 = M') ∨ (∃ M2 : fM, o = (.inr "java/lang/IllegalStateException", M2) ∧ r = 2 ∧ M2 = M')
set_option maxRecDepth 100000 in
set_option maxHeartbeats 4000000 in
theorem c_L_addLabel {G : fG} (hG : fOK G) {d d2 : Nat} (hdd : d2 < d) {mc ms kc ks : Nat} (hmc : mc ≤ kc) (hms : ms ≤ ks) (M : fM) (dv : UInt64) {o : fR × fM} (hc : fCt G z_X11_addLabel d2 [.ref 0] (sS M dv) mc ms (fO dv o)) (r : Int32) (M' : fM) (ho : H_addLabel o r M') : fCt G z_L_addLabel d [.ref 0, .ref 306] (sS M dv) kc ks (fD (some (.int r)) (sS M' dv)) := by
  refine fCt_to [some (.ref 0), some (.ref 306), none] k_L_addLabel rfl (Nat.le_of_ble_eq_true rfl) rfl ?_
  rcases ho with ⟨v, M2, rfl, rfl, rfl⟩ | ⟨M2, rfl, rfl, rfl⟩ | ⟨M2, rfl, rfl, rfl⟩
  · refine f_aload_n dL_addLabel_0 rfl rfl ?_
    refine f_iconst (v := 0) dL_addLabel_1 rfl ?_
    refine f_aload_n dL_addLabel_2 rfl rfl ?_
    refine f_rV hG (As := []) dL_addLabel_3 rfl k_X11_addLabel rfl rfl ml_L_37 im_X11_addLabel se_X11_addLabel rfl rfl (v := some (.int v)) (M2 := M2) hc hdd (by decide) hmc hms ?_
    refine f_i2l dL_addLabel_6 ?_
    refine s_lastore hG dL_addLabel_7 rfl (vp_in_nI (n := 0) (by decide) (by decide)) ?_
    refine f_goto (tgt := 17) dL_addLabel_8 (by decide) ?_
    refine f_iconst (v := 0) dL_addLabel_17 rfl ?_
    refine f_ireturn dL_addLabel_18 rfl rfl ?_
    exact ⟨rfl, rfl⟩
  · refine f_aload_n dL_addLabel_0 rfl rfl ?_
    refine f_iconst (v := 0) dL_addLabel_1 rfl ?_
    refine f_aload_n dL_addLabel_2 rfl rfl ?_
    refine f_tV hG (As := []) dL_addLabel_3 rfl k_X11_addLabel rfl rfl ml_L_37 im_X11_addLabel se_X11_addLabel rfl rfl (E := "java/lang/IllegalArgumentException") (M2 := M2) hc hdd (by decide) hmc hms (f_catch hG (pre := []) (y := (0, 8, 11, 19)) (suf := [(0, 8, 14, 13)]) rfl (fun w hw => by cases hw) ⟨by decide, by decide⟩ (by decide) cc_L_19 ca_IllegalArgumentException dL_addLabel_11 rfl (Nat.le_of_ble_eq_true rfl) rfl ?_)
    refine f_iconst (v := 1) dL_addLabel_12 rfl ?_
    refine f_ireturn dL_addLabel_13 rfl rfl ?_
    exact ⟨rfl, rfl⟩
  · refine f_aload_n dL_addLabel_0 rfl rfl ?_
    refine f_iconst (v := 0) dL_addLabel_1 rfl ?_
    refine f_aload_n dL_addLabel_2 rfl rfl ?_
    refine f_tV hG (As := []) dL_addLabel_3 rfl k_X11_addLabel rfl rfl ml_L_37 im_X11_addLabel se_X11_addLabel rfl rfl (E := "java/lang/IllegalStateException") (M2 := M2) hc hdd (by decide) hmc hms (f_catch hG (pre := [(0, 8, 11, 19)]) (y := (0, 8, 14, 13)) (suf := []) rfl (fun w hw => by
      simp only [List.mem_cons, List.not_mem_nil, or_false] at hw
      rcases hw with rfl
      · exact ⟨by decide, _, cc_L_19, by decide +kernel⟩) ⟨by decide, by decide⟩ (by decide) cc_L_13 ca_IllegalStateException dL_addLabel_14 rfl (Nat.le_of_ble_eq_true rfl) rfl ?_)
    refine f_iconst (v := 2) dL_addLabel_15 rfl ?_
    refine f_ireturn dL_addLabel_16 rfl rfl ?_
    exact ⟨rfl, rfl⟩
def H_labelLength (o : fR × fM) (r : Int32) (M' : fM) : Prop := (∃ (v : Int32) (M2 : fM), o = (.inl (some (.int v)), M2) ∧ r = 0 ∧ M' = fst1 M2 306 0 v) ∨ (∃ M2 : fM, o = (.inr "java/lang/IndexOutOfBoundsException", M2) ∧ r = 1 ∧ M2 = M')
set_option maxRecDepth 100000 in
set_option maxHeartbeats 4000000 in
theorem c_L_labelLength {G : fG} (hG : fOK G) {d d2 : Nat} (hdd : d2 < d) {mc ms kc ks : Nat} (hmc : mc ≤ kc) (hms : ms ≤ ks) (M : fM) (dv : UInt64) (a : Int32) {o : fR × fM} (hc : fCt G z_X11_labelLength d2 [.ref 0, .int a] (sS M dv) mc ms (fO dv o)) (r : Int32) (M' : fM) (ho : H_labelLength o r M') : fCt G z_L_labelLength d [.ref 0, .int a, .ref 306] (sS M dv) kc ks (fD (some (.int r)) (sS M' dv)) := by
  refine fCt_to [some (.ref 0), some (.int a), some (.ref 306), none] k_L_labelLength rfl (Nat.le_of_ble_eq_true rfl) rfl ?_
  rcases ho with ⟨v, M2, rfl, rfl, rfl⟩ | ⟨M2, rfl, rfl, rfl⟩
  · refine f_aload_n dL_labelLength_0 rfl rfl ?_
    refine f_iconst (v := 0) dL_labelLength_1 rfl ?_
    refine f_aload_n dL_labelLength_2 rfl rfl ?_
    refine f_iload_n dL_labelLength_3 rfl rfl ?_
    refine f_rV hG (As := [_]) dL_labelLength_4 rfl k_X11_labelLength rfl rfl ml_L_40 im_X11_labelLength se_X11_labelLength rfl rfl (v := some (.int v)) (M2 := M2) hc hdd (by decide) hmc hms ?_
    refine f_i2l dL_labelLength_7 ?_
    refine s_lastore hG dL_labelLength_8 rfl (vp_in_nI (n := 0) (by decide) (by decide)) ?_
    refine f_goto (tgt := 15) dL_labelLength_9 (by decide) ?_
    refine f_iconst (v := 0) dL_labelLength_15 rfl ?_
    refine f_ireturn dL_labelLength_16 rfl rfl ?_
    exact ⟨rfl, rfl⟩
  · refine f_aload_n dL_labelLength_0 rfl rfl ?_
    refine f_iconst (v := 0) dL_labelLength_1 rfl ?_
    refine f_aload_n dL_labelLength_2 rfl rfl ?_
    refine f_iload_n dL_labelLength_3 rfl rfl ?_
    refine f_tV hG (As := [_]) dL_labelLength_4 rfl k_X11_labelLength rfl rfl ml_L_40 im_X11_labelLength se_X11_labelLength rfl rfl (E := "java/lang/IndexOutOfBoundsException") (M2 := M2) hc hdd (by decide) hmc hms (f_catch hG (pre := []) (y := (0, 9, 12, 27)) (suf := []) rfl (fun w hw => by cases hw) ⟨by decide, by decide⟩ (by decide) cc_L_27 ca_IndexOutOfBoundsException dL_labelLength_12 rfl (Nat.le_of_ble_eq_true rfl) rfl ?_)
    refine f_iconst (v := 1) dL_labelLength_13 rfl ?_
    refine f_ireturn dL_labelLength_14 rfl rfl ?_
    exact ⟨rfl, rfl⟩
def H_labelLetter (o : fR × fM) (r : Int32) (M' : fM) : Prop := (∃ (v : Int32) (M2 : fM), o = (.inl (some (.int v)), M2) ∧ r = 0 ∧ M' = fst1 M2 306 0 v) ∨ (∃ M2 : fM, o = (.inr "java/lang/IndexOutOfBoundsException", M2) ∧ r = 1 ∧ M2 = M')
set_option maxRecDepth 100000 in
set_option maxHeartbeats 4000000 in
theorem c_L_labelLetter {G : fG} (hG : fOK G) {d d2 : Nat} (hdd : d2 < d) {mc ms kc ks : Nat} (hmc : mc ≤ kc) (hms : ms ≤ ks) (M : fM) (dv : UInt64) (a : Int32) (b : Int32) {o : fR × fM} (hc : fCt G z_X11_labelLetter d2 [.ref 0, .int a, .int b] (sS M dv) mc ms (fO dv o)) (r : Int32) (M' : fM) (ho : H_labelLetter o r M') : fCt G z_L_labelLetter d [.ref 0, .int a, .int b, .ref 306] (sS M dv) kc ks (fD (some (.int r)) (sS M' dv)) := by
  refine fCt_to [some (.ref 0), some (.int a), some (.int b), some (.ref 306), none] k_L_labelLetter rfl (Nat.le_of_ble_eq_true rfl) rfl ?_
  rcases ho with ⟨v, M2, rfl, rfl, rfl⟩ | ⟨M2, rfl, rfl, rfl⟩
  · refine f_aload_n dL_labelLetter_0 rfl rfl ?_
    refine f_iconst (v := 0) dL_labelLetter_1 rfl ?_
    refine f_aload_n dL_labelLetter_2 rfl rfl ?_
    refine f_iload_n dL_labelLetter_3 rfl rfl ?_
    refine f_iload_n dL_labelLetter_4 rfl rfl ?_
    refine f_rV hG (As := [_, _]) dL_labelLetter_5 rfl k_X11_labelLetter rfl rfl ml_L_43 im_X11_labelLetter se_X11_labelLetter rfl rfl (v := some (.int v)) (M2 := M2) hc hdd (by decide) hmc hms ?_
    refine f_i2l dL_labelLetter_8 ?_
    refine s_lastore hG dL_labelLetter_9 rfl (vp_in_nI (n := 0) (by decide) (by decide)) ?_
    refine f_goto (tgt := 17) dL_labelLetter_10 (by decide) ?_
    refine f_iconst (v := 0) dL_labelLetter_17 rfl ?_
    refine f_ireturn dL_labelLetter_18 rfl rfl ?_
    exact ⟨rfl, rfl⟩
  · refine f_aload_n dL_labelLetter_0 rfl rfl ?_
    refine f_iconst (v := 0) dL_labelLetter_1 rfl ?_
    refine f_aload_n dL_labelLetter_2 rfl rfl ?_
    refine f_iload_n dL_labelLetter_3 rfl rfl ?_
    refine f_iload_n dL_labelLetter_4 rfl rfl ?_
    refine f_tV hG (As := [_, _]) dL_labelLetter_5 rfl k_X11_labelLetter rfl rfl ml_L_43 im_X11_labelLetter se_X11_labelLetter rfl rfl (E := "java/lang/IndexOutOfBoundsException") (M2 := M2) hc hdd (by decide) hmc hms (f_catch2 hG (pre := []) (y := (0, 10, 13, 27)) (suf := []) rfl (fun w hw => by cases hw) ⟨by decide, by decide⟩ (by decide) cc_L_27 ca_IndexOutOfBoundsException dL_labelLetter_13 (Nat.le_of_ble_eq_true rfl) rfl ?_)
    refine f_iconst (v := 1) dL_labelLetter_15 rfl ?_
    refine f_ireturn dL_labelLetter_16 rfl rfl ?_
    exact ⟨rfl, rfl⟩
def H_scan (o : fR × fM) (r : Int32) (M' : fM) : Prop := (∃ (v : Int32) (M2 : fM), o = (.inl (some (.int v)), M2) ∧ r = 0 ∧ M' = fst1 M2 306 0 v) ∨ (∃ M2 : fM, o = (.inr "java/lang/IllegalArgumentException", M2) ∧ r = 1 ∧ M2 = M') ∨ (∃ M2 : fM, o = (.inr "java/util/NoSuchElementException", M2) ∧ r = 2 ∧ M2 = M')
set_option maxRecDepth 100000 in
set_option maxHeartbeats 4000000 in
theorem c_L_scan {G : fG} (hG : fOK G) {d d2 : Nat} (hdd : d2 < d) {mc ms kc ks : Nat} (hmc : mc ≤ kc) (hms : ms ≤ ks) (M : fM) (dv : UInt64) {o : fR × fM} (hc : fCt G z_X11_scan d2 [.ref 0] (sS M dv) mc ms (fO dv o)) (r : Int32) (M' : fM) (ho : H_scan o r M') : fCt G z_L_scan d [.ref 0, .ref 306] (sS M dv) kc ks (fD (some (.int r)) (sS M' dv)) := by
  refine fCt_to [some (.ref 0), some (.ref 306), none] k_L_scan rfl (Nat.le_of_ble_eq_true rfl) rfl ?_
  rcases ho with ⟨v, M2, rfl, rfl, rfl⟩ | ⟨M2, rfl, rfl, rfl⟩ | ⟨M2, rfl, rfl, rfl⟩
  · refine f_aload_n dL_scan_0 rfl rfl ?_
    refine f_iconst (v := 0) dL_scan_1 rfl ?_
    refine f_aload_n dL_scan_2 rfl rfl ?_
    refine f_rV hG (As := []) dL_scan_3 rfl k_X11_scan rfl rfl ml_L_47 im_X11_scan se_X11_scan rfl rfl (v := some (.int v)) (M2 := M2) hc hdd (by decide) hmc hms ?_
    refine f_i2l dL_scan_6 ?_
    refine s_lastore hG dL_scan_7 rfl (vp_in_nI (n := 0) (by decide) (by decide)) ?_
    refine f_goto (tgt := 17) dL_scan_8 (by decide) ?_
    refine f_iconst (v := 0) dL_scan_17 rfl ?_
    refine f_ireturn dL_scan_18 rfl rfl ?_
    exact ⟨rfl, rfl⟩
  · refine f_aload_n dL_scan_0 rfl rfl ?_
    refine f_iconst (v := 0) dL_scan_1 rfl ?_
    refine f_aload_n dL_scan_2 rfl rfl ?_
    refine f_tV hG (As := []) dL_scan_3 rfl k_X11_scan rfl rfl ml_L_47 im_X11_scan se_X11_scan rfl rfl (E := "java/lang/IllegalArgumentException") (M2 := M2) hc hdd (by decide) hmc hms (f_catch hG (pre := []) (y := (0, 8, 11, 19)) (suf := [(0, 8, 14, 50)]) rfl (fun w hw => by cases hw) ⟨by decide, by decide⟩ (by decide) cc_L_19 ca_IllegalArgumentException dL_scan_11 rfl (Nat.le_of_ble_eq_true rfl) rfl ?_)
    refine f_iconst (v := 1) dL_scan_12 rfl ?_
    refine f_ireturn dL_scan_13 rfl rfl ?_
    exact ⟨rfl, rfl⟩
  · refine f_aload_n dL_scan_0 rfl rfl ?_
    refine f_iconst (v := 0) dL_scan_1 rfl ?_
    refine f_aload_n dL_scan_2 rfl rfl ?_
    refine f_tV hG (As := []) dL_scan_3 rfl k_X11_scan rfl rfl ml_L_47 im_X11_scan se_X11_scan rfl rfl (E := "java/util/NoSuchElementException") (M2 := M2) hc hdd (by decide) hmc hms (f_catch hG (pre := [(0, 8, 11, 19)]) (y := (0, 8, 14, 50)) (suf := []) rfl (fun w hw => by
      simp only [List.mem_cons, List.not_mem_nil, or_false] at hw
      rcases hw with rfl
      · exact ⟨by decide, _, cc_L_19, by decide +kernel⟩) ⟨by decide, by decide⟩ (by decide) cc_L_50 ca_NoSuchElementException dL_scan_14 rfl (Nat.le_of_ble_eq_true rfl) rfl ?_)
    refine f_iconst (v := 2) dL_scan_15 rfl ?_
    refine f_ireturn dL_scan_16 rfl rfl ?_
    exact ⟨rfl, rfl⟩
def H_distanceTo (o : fR × fM) (r : Int32) (M' : fM) : Prop := (∃ (v : Int32) (M2 : fM), o = (.inl (some (.int v)), M2) ∧ r = 0 ∧ M' = fst1 M2 306 0 v) ∨ (∃ M2 : fM, o = (.inr "java/lang/IndexOutOfBoundsException", M2) ∧ r = 1 ∧ M2 = M') ∨ (∃ M2 : fM, o = (.inr "java/lang/IllegalArgumentException", M2) ∧ r = 2 ∧ M2 = M')
set_option maxRecDepth 100000 in
set_option maxHeartbeats 4000000 in
theorem c_L_distanceTo {G : fG} (hG : fOK G) {d d2 : Nat} (hdd : d2 < d) {mc ms kc ks : Nat} (hmc : mc ≤ kc) (hms : ms ≤ ks) (M : fM) (dv : UInt64) (a : Int32) {o : fR × fM} (hc : fCt G z_X11_distanceTo d2 [.ref 0, .int a] (sS M dv) mc ms (fO dv o)) (r : Int32) (M' : fM) (ho : H_distanceTo o r M') : fCt G z_L_distanceTo d [.ref 0, .int a, .ref 306] (sS M dv) kc ks (fD (some (.int r)) (sS M' dv)) := by
  refine fCt_to [some (.ref 0), some (.int a), some (.ref 306), none] k_L_distanceTo rfl (Nat.le_of_ble_eq_true rfl) rfl ?_
  rcases ho with ⟨v, M2, rfl, rfl, rfl⟩ | ⟨M2, rfl, rfl, rfl⟩ | ⟨M2, rfl, rfl, rfl⟩
  · refine f_aload_n dL_distanceTo_0 rfl rfl ?_
    refine f_iconst (v := 0) dL_distanceTo_1 rfl ?_
    refine f_aload_n dL_distanceTo_2 rfl rfl ?_
    refine f_iload_n dL_distanceTo_3 rfl rfl ?_
    refine f_rV hG (As := [_]) dL_distanceTo_4 rfl k_X11_distanceTo rfl rfl ml_L_52 im_X11_distanceTo se_X11_distanceTo rfl rfl (v := some (.int v)) (M2 := M2) hc hdd (by decide) hmc hms ?_
    refine f_i2l dL_distanceTo_7 ?_
    refine s_lastore hG dL_distanceTo_8 rfl (vp_in_nI (n := 0) (by decide) (by decide)) ?_
    refine f_goto (tgt := 18) dL_distanceTo_9 (by decide) ?_
    refine f_iconst (v := 0) dL_distanceTo_18 rfl ?_
    refine f_ireturn dL_distanceTo_19 rfl rfl ?_
    exact ⟨rfl, rfl⟩
  · refine f_aload_n dL_distanceTo_0 rfl rfl ?_
    refine f_iconst (v := 0) dL_distanceTo_1 rfl ?_
    refine f_aload_n dL_distanceTo_2 rfl rfl ?_
    refine f_iload_n dL_distanceTo_3 rfl rfl ?_
    refine f_tV hG (As := [_]) dL_distanceTo_4 rfl k_X11_distanceTo rfl rfl ml_L_52 im_X11_distanceTo se_X11_distanceTo rfl rfl (E := "java/lang/IndexOutOfBoundsException") (M2 := M2) hc hdd (by decide) hmc hms (f_catch hG (pre := []) (y := (0, 9, 12, 27)) (suf := [(0, 9, 15, 19)]) rfl (fun w hw => by cases hw) ⟨by decide, by decide⟩ (by decide) cc_L_27 ca_IndexOutOfBoundsException dL_distanceTo_12 rfl (Nat.le_of_ble_eq_true rfl) rfl ?_)
    refine f_iconst (v := 1) dL_distanceTo_13 rfl ?_
    refine f_ireturn dL_distanceTo_14 rfl rfl ?_
    exact ⟨rfl, rfl⟩
  · refine f_aload_n dL_distanceTo_0 rfl rfl ?_
    refine f_iconst (v := 0) dL_distanceTo_1 rfl ?_
    refine f_aload_n dL_distanceTo_2 rfl rfl ?_
    refine f_iload_n dL_distanceTo_3 rfl rfl ?_
    refine f_tV hG (As := [_]) dL_distanceTo_4 rfl k_X11_distanceTo rfl rfl ml_L_52 im_X11_distanceTo se_X11_distanceTo rfl rfl (E := "java/lang/IllegalArgumentException") (M2 := M2) hc hdd (by decide) hmc hms (f_catch hG (pre := [(0, 9, 12, 27)]) (y := (0, 9, 15, 19)) (suf := []) rfl (fun w hw => by
      simp only [List.mem_cons, List.not_mem_nil, or_false] at hw
      rcases hw with rfl
      · exact ⟨by decide, _, cc_L_27, by decide +kernel⟩) ⟨by decide, by decide⟩ (by decide) cc_L_19 ca_IllegalArgumentException dL_distanceTo_15 rfl (Nat.le_of_ble_eq_true rfl) rfl ?_)
    refine f_iconst (v := 2) dL_distanceTo_16 rfl ?_
    refine f_ireturn dL_distanceTo_17 rfl rfl ?_
    exact ⟨rfl, rfl⟩
def H_distanceByLetters (o : fR × fM) (r : Int32) (M' : fM) : Prop := (∃ (v : Int32) (M2 : fM), o = (.inl (some (.int v)), M2) ∧ r = 0 ∧ M' = fst1 M2 306 0 v) ∨ (∃ M2 : fM, o = (.inr "java/lang/IndexOutOfBoundsException", M2) ∧ r = 1 ∧ M2 = M') ∨ (∃ M2 : fM, o = (.inr "java/lang/IllegalArgumentException", M2) ∧ r = 2 ∧ M2 = M')
set_option maxRecDepth 100000 in
set_option maxHeartbeats 4000000 in
theorem c_L_distanceByLetters {G : fG} (hG : fOK G) {d d2 : Nat} (hdd : d2 < d) {mc ms kc ks : Nat} (hmc : mc ≤ kc) (hms : ms ≤ ks) (M : fM) (dv : UInt64) (a : Int32) {o : fR × fM} (hc : fCt G z_X11_distanceByLetters d2 [.ref 0, .int a] (sS M dv) mc ms (fO dv o)) (r : Int32) (M' : fM) (ho : H_distanceByLetters o r M') : fCt G z_L_distanceByLetters d [.ref 0, .int a, .ref 306] (sS M dv) kc ks (fD (some (.int r)) (sS M' dv)) := by
  refine fCt_to [some (.ref 0), some (.int a), some (.ref 306), none] k_L_distanceByLetters rfl (Nat.le_of_ble_eq_true rfl) rfl ?_
  rcases ho with ⟨v, M2, rfl, rfl, rfl⟩ | ⟨M2, rfl, rfl, rfl⟩ | ⟨M2, rfl, rfl, rfl⟩
  · refine f_aload_n dL_distanceByLetters_0 rfl rfl ?_
    refine f_iconst (v := 0) dL_distanceByLetters_1 rfl ?_
    refine f_aload_n dL_distanceByLetters_2 rfl rfl ?_
    refine f_iload_n dL_distanceByLetters_3 rfl rfl ?_
    refine f_rV hG (As := [_]) dL_distanceByLetters_4 rfl k_X11_distanceByLetters rfl rfl ml_L_55 im_X11_distanceByLetters se_X11_distanceByLetters rfl rfl (v := some (.int v)) (M2 := M2) hc hdd (by decide) hmc hms ?_
    refine f_i2l dL_distanceByLetters_7 ?_
    refine s_lastore hG dL_distanceByLetters_8 rfl (vp_in_nI (n := 0) (by decide) (by decide)) ?_
    refine f_goto (tgt := 18) dL_distanceByLetters_9 (by decide) ?_
    refine f_iconst (v := 0) dL_distanceByLetters_18 rfl ?_
    refine f_ireturn dL_distanceByLetters_19 rfl rfl ?_
    exact ⟨rfl, rfl⟩
  · refine f_aload_n dL_distanceByLetters_0 rfl rfl ?_
    refine f_iconst (v := 0) dL_distanceByLetters_1 rfl ?_
    refine f_aload_n dL_distanceByLetters_2 rfl rfl ?_
    refine f_iload_n dL_distanceByLetters_3 rfl rfl ?_
    refine f_tV hG (As := [_]) dL_distanceByLetters_4 rfl k_X11_distanceByLetters rfl rfl ml_L_55 im_X11_distanceByLetters se_X11_distanceByLetters rfl rfl (E := "java/lang/IndexOutOfBoundsException") (M2 := M2) hc hdd (by decide) hmc hms (f_catch hG (pre := []) (y := (0, 9, 12, 27)) (suf := [(0, 9, 15, 19)]) rfl (fun w hw => by cases hw) ⟨by decide, by decide⟩ (by decide) cc_L_27 ca_IndexOutOfBoundsException dL_distanceByLetters_12 rfl (Nat.le_of_ble_eq_true rfl) rfl ?_)
    refine f_iconst (v := 1) dL_distanceByLetters_13 rfl ?_
    refine f_ireturn dL_distanceByLetters_14 rfl rfl ?_
    exact ⟨rfl, rfl⟩
  · refine f_aload_n dL_distanceByLetters_0 rfl rfl ?_
    refine f_iconst (v := 0) dL_distanceByLetters_1 rfl ?_
    refine f_aload_n dL_distanceByLetters_2 rfl rfl ?_
    refine f_iload_n dL_distanceByLetters_3 rfl rfl ?_
    refine f_tV hG (As := [_]) dL_distanceByLetters_4 rfl k_X11_distanceByLetters rfl rfl ml_L_55 im_X11_distanceByLetters se_X11_distanceByLetters rfl rfl (E := "java/lang/IllegalArgumentException") (M2 := M2) hc hdd (by decide) hmc hms (f_catch hG (pre := [(0, 9, 12, 27)]) (y := (0, 9, 15, 19)) (suf := []) rfl (fun w hw => by
      simp only [List.mem_cons, List.not_mem_nil, or_false] at hw
      rcases hw with rfl
      · exact ⟨by decide, _, cc_L_27, by decide +kernel⟩) ⟨by decide, by decide⟩ (by decide) cc_L_19 ca_IllegalArgumentException dL_distanceByLetters_15 rfl (Nat.le_of_ble_eq_true rfl) rfl ?_)
    refine f_iconst (v := 2) dL_distanceByLetters_16 rfl ?_
    refine f_ireturn dL_distanceByLetters_17 rfl rfl ?_
    exact ⟨rfl, rfl⟩
def H_fill (o : fR × fM) (r : Int32) (M' : fM) : Prop := (∃ (v : Int32) (M2 : fM), o = (.inl (some (.int v)), M2) ∧ r = 0 ∧ M' = fst1 M2 306 0 v) ∨ (∃ M2 : fM, o = (.inr "java/lang/IndexOutOfBoundsException", M2) ∧ r = 1 ∧ M2 = M') ∨ (∃ M2 : fM, o = (.inr "java/lang/IllegalArgumentException", M2) ∧ r = 2 ∧ M2 = M') ∨ (∃ M2 : fM, o = (.inr "java/lang/IllegalStateException", M2) ∧ r = 3 ∧ M2 = M') ∨ (∃ M2 : fM, o = (.inr "java/lang/UnsupportedOperationException", M2) ∧ r = 4 ∧ M2 = M')
set_option maxRecDepth 100000 in
set_option maxHeartbeats 4000000 in
theorem c_L_fill {G : fG} (hG : fOK G) {d d2 : Nat} (hdd : d2 < d) {mc ms kc ks : Nat} (hmc : mc ≤ kc) (hms : ms ≤ ks) (M : fM) (dv : UInt64) (a : Int32) (b : Int32) (c : Int32) (e : Int32) {o : fR × fM} (hc : fCt G z_X11_fill d2 [.ref 0, .int a, .int b, .int c, .int e] (sS M dv) mc ms (fO dv o)) (r : Int32) (M' : fM) (ho : H_fill o r M') : fCt G z_L_fill d [.ref 0, .int a, .int b, .int c, .int e, .ref 306] (sS M dv) kc ks (fD (some (.int r)) (sS M' dv)) := by
  refine fCt_to [some (.ref 0), some (.int a), some (.int b), some (.int c), some (.int e), some (.ref 306), none] k_L_fill rfl (Nat.le_of_ble_eq_true rfl) rfl ?_
  rcases ho with ⟨v, M2, rfl, rfl, rfl⟩ | ⟨M2, rfl, rfl, rfl⟩ | ⟨M2, rfl, rfl, rfl⟩ | ⟨M2, rfl, rfl, rfl⟩ | ⟨M2, rfl, rfl, rfl⟩
  · refine f_aload dL_fill_0 rfl ?_
    refine f_iconst (v := 0) dL_fill_2 rfl ?_
    refine f_aload_n dL_fill_3 rfl rfl ?_
    refine f_iload_n dL_fill_4 rfl rfl ?_
    refine f_iload_n dL_fill_5 rfl rfl ?_
    refine f_iload_n dL_fill_6 rfl rfl ?_
    refine f_iload dL_fill_7 rfl ?_
    refine f_rV hG (As := [_, _, _, _]) dL_fill_9 rfl k_X11_fill rfl rfl ml_L_58 im_X11_fill se_X11_fill rfl rfl (v := some (.int v)) (M2 := M2) hc hdd (by decide) hmc hms ?_
    refine f_i2l dL_fill_12 ?_
    refine s_lastore hG dL_fill_13 rfl (vp_in_nI (n := 0) (by decide) (by decide)) ?_
    refine f_goto (tgt := 33) dL_fill_14 (by decide) ?_
    refine f_iconst (v := 0) dL_fill_33 rfl ?_
    refine f_ireturn dL_fill_34 rfl rfl ?_
    exact ⟨rfl, rfl⟩
  · refine f_aload dL_fill_0 rfl ?_
    refine f_iconst (v := 0) dL_fill_2 rfl ?_
    refine f_aload_n dL_fill_3 rfl rfl ?_
    refine f_iload_n dL_fill_4 rfl rfl ?_
    refine f_iload_n dL_fill_5 rfl rfl ?_
    refine f_iload_n dL_fill_6 rfl rfl ?_
    refine f_iload dL_fill_7 rfl ?_
    refine f_tV hG (As := [_, _, _, _]) dL_fill_9 rfl k_X11_fill rfl rfl ml_L_58 im_X11_fill se_X11_fill rfl rfl (E := "java/lang/IndexOutOfBoundsException") (M2 := M2) hc hdd (by decide) hmc hms (f_catch2 hG (pre := []) (y := (0, 14, 17, 27)) (suf := [(0, 14, 21, 19), (0, 14, 25, 13), (0, 14, 29, 21)]) rfl (fun w hw => by cases hw) ⟨by decide, by decide⟩ (by decide) cc_L_27 ca_IndexOutOfBoundsException dL_fill_17 (Nat.le_of_ble_eq_true rfl) rfl ?_)
    refine f_iconst (v := 1) dL_fill_19 rfl ?_
    refine f_ireturn dL_fill_20 rfl rfl ?_
    exact ⟨rfl, rfl⟩
  · refine f_aload dL_fill_0 rfl ?_
    refine f_iconst (v := 0) dL_fill_2 rfl ?_
    refine f_aload_n dL_fill_3 rfl rfl ?_
    refine f_iload_n dL_fill_4 rfl rfl ?_
    refine f_iload_n dL_fill_5 rfl rfl ?_
    refine f_iload_n dL_fill_6 rfl rfl ?_
    refine f_iload dL_fill_7 rfl ?_
    refine f_tV hG (As := [_, _, _, _]) dL_fill_9 rfl k_X11_fill rfl rfl ml_L_58 im_X11_fill se_X11_fill rfl rfl (E := "java/lang/IllegalArgumentException") (M2 := M2) hc hdd (by decide) hmc hms (f_catch2 hG (pre := [(0, 14, 17, 27)]) (y := (0, 14, 21, 19)) (suf := [(0, 14, 25, 13), (0, 14, 29, 21)]) rfl (fun w hw => by
      simp only [List.mem_cons, List.not_mem_nil, or_false] at hw
      rcases hw with rfl
      · exact ⟨by decide, _, cc_L_27, by decide +kernel⟩) ⟨by decide, by decide⟩ (by decide) cc_L_19 ca_IllegalArgumentException dL_fill_21 (Nat.le_of_ble_eq_true rfl) rfl ?_)
    refine f_iconst (v := 2) dL_fill_23 rfl ?_
    refine f_ireturn dL_fill_24 rfl rfl ?_
    exact ⟨rfl, rfl⟩
  · refine f_aload dL_fill_0 rfl ?_
    refine f_iconst (v := 0) dL_fill_2 rfl ?_
    refine f_aload_n dL_fill_3 rfl rfl ?_
    refine f_iload_n dL_fill_4 rfl rfl ?_
    refine f_iload_n dL_fill_5 rfl rfl ?_
    refine f_iload_n dL_fill_6 rfl rfl ?_
    refine f_iload dL_fill_7 rfl ?_
    refine f_tV hG (As := [_, _, _, _]) dL_fill_9 rfl k_X11_fill rfl rfl ml_L_58 im_X11_fill se_X11_fill rfl rfl (E := "java/lang/IllegalStateException") (M2 := M2) hc hdd (by decide) hmc hms (f_catch2 hG (pre := [(0, 14, 17, 27), (0, 14, 21, 19)]) (y := (0, 14, 25, 13)) (suf := [(0, 14, 29, 21)]) rfl (fun w hw => by
      simp only [List.mem_cons, List.not_mem_nil, or_false] at hw
      rcases hw with rfl | rfl
      · exact ⟨by decide, _, cc_L_27, by decide +kernel⟩
      · exact ⟨by decide, _, cc_L_19, by decide +kernel⟩) ⟨by decide, by decide⟩ (by decide) cc_L_13 ca_IllegalStateException dL_fill_25 (Nat.le_of_ble_eq_true rfl) rfl ?_)
    refine f_iconst (v := 3) dL_fill_27 rfl ?_
    refine f_ireturn dL_fill_28 rfl rfl ?_
    exact ⟨rfl, rfl⟩
  · refine f_aload dL_fill_0 rfl ?_
    refine f_iconst (v := 0) dL_fill_2 rfl ?_
    refine f_aload_n dL_fill_3 rfl rfl ?_
    refine f_iload_n dL_fill_4 rfl rfl ?_
    refine f_iload_n dL_fill_5 rfl rfl ?_
    refine f_iload_n dL_fill_6 rfl rfl ?_
    refine f_iload dL_fill_7 rfl ?_
    refine f_tV hG (As := [_, _, _, _]) dL_fill_9 rfl k_X11_fill rfl rfl ml_L_58 im_X11_fill se_X11_fill rfl rfl (E := "java/lang/UnsupportedOperationException") (M2 := M2) hc hdd (by decide) hmc hms (f_catch2 hG (pre := [(0, 14, 17, 27), (0, 14, 21, 19), (0, 14, 25, 13)]) (y := (0, 14, 29, 21)) (suf := []) rfl (fun w hw => by
      simp only [List.mem_cons, List.not_mem_nil, or_false] at hw
      rcases hw with rfl | rfl | rfl
      · exact ⟨by decide, _, cc_L_27, by decide +kernel⟩
      · exact ⟨by decide, _, cc_L_19, by decide +kernel⟩
      · exact ⟨by decide, _, cc_L_13, by decide +kernel⟩) ⟨by decide, by decide⟩ (by decide) cc_L_21 ca_UnsupportedOperationException dL_fill_29 (Nat.le_of_ble_eq_true rfl) rfl ?_)
    refine f_iconst (v := 4) dL_fill_31 rfl ?_
    refine f_ireturn dL_fill_32 rfl rfl ?_
    exact ⟨rfl, rfl⟩
def H_ship (o : fR × fM) (r : Int32) (M' : fM) : Prop := (∃ (v : Int32) (M2 : fM), o = (.inl (some (.int v)), M2) ∧ r = 0 ∧ M' = fst1 M2 306 0 v) ∨ (∃ M2 : fM, o = (.inr "java/util/NoSuchElementException", M2) ∧ r = 1 ∧ M2 = M')
set_option maxRecDepth 100000 in
set_option maxHeartbeats 4000000 in
theorem c_L_ship {G : fG} (hG : fOK G) {d d2 : Nat} (hdd : d2 < d) {mc ms kc ks : Nat} (hmc : mc ≤ kc) (hms : ms ≤ ks) (M : fM) (dv : UInt64) (a : Int32) {o : fR × fM} (hc : fCt G z_X11_ship d2 [.ref 0, .int a] (sS M dv) mc ms (fO dv o)) (r : Int32) (M' : fM) (ho : H_ship o r M') : fCt G z_L_ship d [.ref 0, .int a, .ref 306] (sS M dv) kc ks (fD (some (.int r)) (sS M' dv)) := by
  refine fCt_to [some (.ref 0), some (.int a), some (.ref 306), none] k_L_ship rfl (Nat.le_of_ble_eq_true rfl) rfl ?_
  rcases ho with ⟨v, M2, rfl, rfl, rfl⟩ | ⟨M2, rfl, rfl, rfl⟩
  · refine f_aload_n dL_ship_0 rfl rfl ?_
    refine f_iconst (v := 0) dL_ship_1 rfl ?_
    refine f_aload_n dL_ship_2 rfl rfl ?_
    refine f_iload_n dL_ship_3 rfl rfl ?_
    refine f_rV hG (As := [_]) dL_ship_4 rfl k_X11_ship rfl rfl ml_L_62 im_X11_ship se_X11_ship rfl rfl (v := some (.int v)) (M2 := M2) hc hdd (by decide) hmc hms ?_
    refine f_i2l dL_ship_7 ?_
    refine s_lastore hG dL_ship_8 rfl (vp_in_nI (n := 0) (by decide) (by decide)) ?_
    refine f_goto (tgt := 15) dL_ship_9 (by decide) ?_
    refine f_iconst (v := 0) dL_ship_15 rfl ?_
    refine f_ireturn dL_ship_16 rfl rfl ?_
    exact ⟨rfl, rfl⟩
  · refine f_aload_n dL_ship_0 rfl rfl ?_
    refine f_iconst (v := 0) dL_ship_1 rfl ?_
    refine f_aload_n dL_ship_2 rfl rfl ?_
    refine f_iload_n dL_ship_3 rfl rfl ?_
    refine f_tV hG (As := [_]) dL_ship_4 rfl k_X11_ship rfl rfl ml_L_62 im_X11_ship se_X11_ship rfl rfl (E := "java/util/NoSuchElementException") (M2 := M2) hc hdd (by decide) hmc hms (f_catch hG (pre := []) (y := (0, 9, 12, 50)) (suf := []) rfl (fun w hw => by cases hw) ⟨by decide, by decide⟩ (by decide) cc_L_50 ca_NoSuchElementException dL_ship_12 rfl (Nat.le_of_ble_eq_true rfl) rfl ?_)
    refine f_iconst (v := 1) dL_ship_13 rfl ?_
    refine f_ireturn dL_ship_14 rfl rfl ?_
    exact ⟨rfl, rfl⟩
def H_pass (o : fR × fM) (r : Int32) (M' : fM) : Prop := (∃ (v : Int32) (M2 : fM), o = (.inl (some (.int v)), M2) ∧ r = 0 ∧ M' = fst1 M2 306 0 v) ∨ (∃ M2 : fM, o = (.inr "java/lang/IllegalArgumentException", M2) ∧ r = 1 ∧ M2 = M')
set_option maxRecDepth 100000 in
set_option maxHeartbeats 4000000 in
theorem c_L_pass {G : fG} (hG : fOK G) {d d2 : Nat} (hdd : d2 < d) {mc ms kc ks : Nat} (hmc : mc ≤ kc) (hms : ms ≤ ks) (M : fM) (dv : UInt64) (a : Int32) {o : fR × fM} (hc : fCt G z_X11_pass d2 [.ref 0, .int a] (sS M dv) mc ms (fO dv o)) (r : Int32) (M' : fM) (ho : H_pass o r M') : fCt G z_L_pass d [.ref 0, .int a, .ref 306] (sS M dv) kc ks (fD (some (.int r)) (sS M' dv)) := by
  refine fCt_to [some (.ref 0), some (.int a), some (.ref 306), none] k_L_pass rfl (Nat.le_of_ble_eq_true rfl) rfl ?_
  rcases ho with ⟨v, M2, rfl, rfl, rfl⟩ | ⟨M2, rfl, rfl, rfl⟩
  · refine f_aload_n dL_pass_0 rfl rfl ?_
    refine f_iconst (v := 0) dL_pass_1 rfl ?_
    refine f_aload_n dL_pass_2 rfl rfl ?_
    refine f_iload_n dL_pass_3 rfl rfl ?_
    refine f_rV hG (As := [_]) dL_pass_4 rfl k_X11_pass rfl rfl ml_L_65 im_X11_pass se_X11_pass rfl rfl (v := some (.int v)) (M2 := M2) hc hdd (by decide) hmc hms ?_
    refine f_i2l dL_pass_7 ?_
    refine s_lastore hG dL_pass_8 rfl (vp_in_nI (n := 0) (by decide) (by decide)) ?_
    refine f_goto (tgt := 15) dL_pass_9 (by decide) ?_
    refine f_iconst (v := 0) dL_pass_15 rfl ?_
    refine f_ireturn dL_pass_16 rfl rfl ?_
    exact ⟨rfl, rfl⟩
  · refine f_aload_n dL_pass_0 rfl rfl ?_
    refine f_iconst (v := 0) dL_pass_1 rfl ?_
    refine f_aload_n dL_pass_2 rfl rfl ?_
    refine f_iload_n dL_pass_3 rfl rfl ?_
    refine f_tV hG (As := [_]) dL_pass_4 rfl k_X11_pass rfl rfl ml_L_65 im_X11_pass se_X11_pass rfl rfl (E := "java/lang/IllegalArgumentException") (M2 := M2) hc hdd (by decide) hmc hms (f_catch hG (pre := []) (y := (0, 9, 12, 19)) (suf := []) rfl (fun w hw => by cases hw) ⟨by decide, by decide⟩ (by decide) cc_L_19 ca_IllegalArgumentException dL_pass_12 rfl (Nat.le_of_ble_eq_true rfl) rfl ?_)
    refine f_iconst (v := 1) dL_pass_13 rfl ?_
    refine f_ireturn dL_pass_14 rfl rfl ?_
    exact ⟨rfl, rfl⟩
def H_recall (o : fR × fM) (r : Int32) (M' : fM) : Prop := (∃ (v : Int32) (M2 : fM), o = (.inl (some (.int v)), M2) ∧ r = 0 ∧ M' = fst1 M2 306 0 v) ∨ (∃ M2 : fM, o = (.inr "java/lang/IndexOutOfBoundsException", M2) ∧ r = 1 ∧ M2 = M') ∨ (∃ M2 : fM, o = (.inr "java/lang/IllegalStateException", M2) ∧ r = 2 ∧ M2 = M')
set_option maxRecDepth 100000 in
set_option maxHeartbeats 4000000 in
theorem c_L_recall {G : fG} (hG : fOK G) {d d2 : Nat} (hdd : d2 < d) {mc ms kc ks : Nat} (hmc : mc ≤ kc) (hms : ms ≤ ks) (M : fM) (dv : UInt64) (a : Int32) {o : fR × fM} (hc : fCt G z_X11_recall d2 [.ref 0, .int a] (sS M dv) mc ms (fO dv o)) (r : Int32) (M' : fM) (ho : H_recall o r M') : fCt G z_L_recall d [.ref 0, .int a, .ref 306] (sS M dv) kc ks (fD (some (.int r)) (sS M' dv)) := by
  refine fCt_to [some (.ref 0), some (.int a), some (.ref 306), none] k_L_recall rfl (Nat.le_of_ble_eq_true rfl) rfl ?_
  rcases ho with ⟨v, M2, rfl, rfl, rfl⟩ | ⟨M2, rfl, rfl, rfl⟩ | ⟨M2, rfl, rfl, rfl⟩
  · refine f_aload_n dL_recall_0 rfl rfl ?_
    refine f_iconst (v := 0) dL_recall_1 rfl ?_
    refine f_aload_n dL_recall_2 rfl rfl ?_
    refine f_iload_n dL_recall_3 rfl rfl ?_
    refine f_rV hG (As := [_]) dL_recall_4 rfl k_X11_recall rfl rfl ml_L_68 im_X11_recall se_X11_recall rfl rfl (v := some (.int v)) (M2 := M2) hc hdd (by decide) hmc hms ?_
    refine f_i2l dL_recall_7 ?_
    refine s_lastore hG dL_recall_8 rfl (vp_in_nI (n := 0) (by decide) (by decide)) ?_
    refine f_goto (tgt := 18) dL_recall_9 (by decide) ?_
    refine f_iconst (v := 0) dL_recall_18 rfl ?_
    refine f_ireturn dL_recall_19 rfl rfl ?_
    exact ⟨rfl, rfl⟩
  · refine f_aload_n dL_recall_0 rfl rfl ?_
    refine f_iconst (v := 0) dL_recall_1 rfl ?_
    refine f_aload_n dL_recall_2 rfl rfl ?_
    refine f_iload_n dL_recall_3 rfl rfl ?_
    refine f_tV hG (As := [_]) dL_recall_4 rfl k_X11_recall rfl rfl ml_L_68 im_X11_recall se_X11_recall rfl rfl (E := "java/lang/IndexOutOfBoundsException") (M2 := M2) hc hdd (by decide) hmc hms (f_catch hG (pre := []) (y := (0, 9, 12, 27)) (suf := [(0, 9, 15, 13)]) rfl (fun w hw => by cases hw) ⟨by decide, by decide⟩ (by decide) cc_L_27 ca_IndexOutOfBoundsException dL_recall_12 rfl (Nat.le_of_ble_eq_true rfl) rfl ?_)
    refine f_iconst (v := 1) dL_recall_13 rfl ?_
    refine f_ireturn dL_recall_14 rfl rfl ?_
    exact ⟨rfl, rfl⟩
  · refine f_aload_n dL_recall_0 rfl rfl ?_
    refine f_iconst (v := 0) dL_recall_1 rfl ?_
    refine f_aload_n dL_recall_2 rfl rfl ?_
    refine f_iload_n dL_recall_3 rfl rfl ?_
    refine f_tV hG (As := [_]) dL_recall_4 rfl k_X11_recall rfl rfl ml_L_68 im_X11_recall se_X11_recall rfl rfl (E := "java/lang/IllegalStateException") (M2 := M2) hc hdd (by decide) hmc hms (f_catch hG (pre := [(0, 9, 12, 27)]) (y := (0, 9, 15, 13)) (suf := []) rfl (fun w hw => by
      simp only [List.mem_cons, List.not_mem_nil, or_false] at hw
      rcases hw with rfl
      · exact ⟨by decide, _, cc_L_27, by decide +kernel⟩) ⟨by decide, by decide⟩ (by decide) cc_L_13 ca_IllegalStateException dL_recall_15 rfl (Nat.le_of_ble_eq_true rfl) rfl ?_)
    refine f_iconst (v := 2) dL_recall_16 rfl ?_
    refine f_ireturn dL_recall_17 rfl rfl ?_
    exact ⟨rfl, rfl⟩
def H_lotAt (o : fR × fM) (r : Int32) (M' : fM) : Prop := (∃ (v : Int32) (M2 : fM), o = (.inl (some (.int v)), M2) ∧ r = 0 ∧ M' = fst1 M2 306 0 v) ∨ (∃ M2 : fM, o = (.inr "java/lang/IndexOutOfBoundsException", M2) ∧ r = 1 ∧ M2 = M')
set_option maxRecDepth 100000 in
set_option maxHeartbeats 4000000 in
theorem c_L_lotAt {G : fG} (hG : fOK G) {d d2 : Nat} (hdd : d2 < d) {mc ms kc ks : Nat} (hmc : mc ≤ kc) (hms : ms ≤ ks) (M : fM) (dv : UInt64) (a : Int32) {o : fR × fM} (hc : fCt G z_X11_lotAt d2 [.ref 0, .int a] (sS M dv) mc ms (fO dv o)) (r : Int32) (M' : fM) (ho : H_lotAt o r M') : fCt G z_L_lotAt d [.ref 0, .int a, .ref 306] (sS M dv) kc ks (fD (some (.int r)) (sS M' dv)) := by
  refine fCt_to [some (.ref 0), some (.int a), some (.ref 306), none] k_L_lotAt rfl (Nat.le_of_ble_eq_true rfl) rfl ?_
  rcases ho with ⟨v, M2, rfl, rfl, rfl⟩ | ⟨M2, rfl, rfl, rfl⟩
  · refine f_aload_n dL_lotAt_0 rfl rfl ?_
    refine f_iconst (v := 0) dL_lotAt_1 rfl ?_
    refine f_aload_n dL_lotAt_2 rfl rfl ?_
    refine f_iload_n dL_lotAt_3 rfl rfl ?_
    refine f_rV hG (As := [_]) dL_lotAt_4 rfl k_X11_lotAt rfl rfl ml_L_71 im_X11_lotAt se_X11_lotAt rfl rfl (v := some (.int v)) (M2 := M2) hc hdd (by decide) hmc hms ?_
    refine f_i2l dL_lotAt_7 ?_
    refine s_lastore hG dL_lotAt_8 rfl (vp_in_nI (n := 0) (by decide) (by decide)) ?_
    refine f_goto (tgt := 15) dL_lotAt_9 (by decide) ?_
    refine f_iconst (v := 0) dL_lotAt_15 rfl ?_
    refine f_ireturn dL_lotAt_16 rfl rfl ?_
    exact ⟨rfl, rfl⟩
  · refine f_aload_n dL_lotAt_0 rfl rfl ?_
    refine f_iconst (v := 0) dL_lotAt_1 rfl ?_
    refine f_aload_n dL_lotAt_2 rfl rfl ?_
    refine f_iload_n dL_lotAt_3 rfl rfl ?_
    refine f_tV hG (As := [_]) dL_lotAt_4 rfl k_X11_lotAt rfl rfl ml_L_71 im_X11_lotAt se_X11_lotAt rfl rfl (E := "java/lang/IndexOutOfBoundsException") (M2 := M2) hc hdd (by decide) hmc hms (f_catch hG (pre := []) (y := (0, 9, 12, 27)) (suf := []) rfl (fun w hw => by cases hw) ⟨by decide, by decide⟩ (by decide) cc_L_27 ca_IndexOutOfBoundsException dL_lotAt_12 rfl (Nat.le_of_ble_eq_true rfl) rfl ?_)
    refine f_iconst (v := 1) dL_lotAt_13 rfl ?_
    refine f_ireturn dL_lotAt_14 rfl rfl ?_
    exact ⟨rfl, rfl⟩
def H_jarsOf (o : fR × fM) (r : Int32) (M' : fM) : Prop := (∃ (v : Int32) (M2 : fM), o = (.inl (some (.int v)), M2) ∧ r = 0 ∧ M' = fst1 M2 306 0 v) ∨ (∃ M2 : fM, o = (.inr "java/util/NoSuchElementException", M2) ∧ r = 1 ∧ M2 = M')
set_option maxRecDepth 100000 in
set_option maxHeartbeats 4000000 in
theorem c_L_jarsOf {G : fG} (hG : fOK G) {d d2 : Nat} (hdd : d2 < d) {mc ms kc ks : Nat} (hmc : mc ≤ kc) (hms : ms ≤ ks) (M : fM) (dv : UInt64) (a : Int32) {o : fR × fM} (hc : fCt G z_X11_jarsOf d2 [.ref 0, .int a] (sS M dv) mc ms (fO dv o)) (r : Int32) (M' : fM) (ho : H_jarsOf o r M') : fCt G z_L_jarsOf d [.ref 0, .int a, .ref 306] (sS M dv) kc ks (fD (some (.int r)) (sS M' dv)) := by
  refine fCt_to [some (.ref 0), some (.int a), some (.ref 306), none] k_L_jarsOf rfl (Nat.le_of_ble_eq_true rfl) rfl ?_
  rcases ho with ⟨v, M2, rfl, rfl, rfl⟩ | ⟨M2, rfl, rfl, rfl⟩
  · refine f_aload_n dL_jarsOf_0 rfl rfl ?_
    refine f_iconst (v := 0) dL_jarsOf_1 rfl ?_
    refine f_aload_n dL_jarsOf_2 rfl rfl ?_
    refine f_iload_n dL_jarsOf_3 rfl rfl ?_
    refine f_rV hG (As := [_]) dL_jarsOf_4 rfl k_X11_jarsOf rfl rfl ml_L_74 im_X11_jarsOf se_X11_jarsOf rfl rfl (v := some (.int v)) (M2 := M2) hc hdd (by decide) hmc hms ?_
    refine f_i2l dL_jarsOf_7 ?_
    refine s_lastore hG dL_jarsOf_8 rfl (vp_in_nI (n := 0) (by decide) (by decide)) ?_
    refine f_goto (tgt := 15) dL_jarsOf_9 (by decide) ?_
    refine f_iconst (v := 0) dL_jarsOf_15 rfl ?_
    refine f_ireturn dL_jarsOf_16 rfl rfl ?_
    exact ⟨rfl, rfl⟩
  · refine f_aload_n dL_jarsOf_0 rfl rfl ?_
    refine f_iconst (v := 0) dL_jarsOf_1 rfl ?_
    refine f_aload_n dL_jarsOf_2 rfl rfl ?_
    refine f_iload_n dL_jarsOf_3 rfl rfl ?_
    refine f_tV hG (As := [_]) dL_jarsOf_4 rfl k_X11_jarsOf rfl rfl ml_L_74 im_X11_jarsOf se_X11_jarsOf rfl rfl (E := "java/util/NoSuchElementException") (M2 := M2) hc hdd (by decide) hmc hms (f_catch hG (pre := []) (y := (0, 9, 12, 50)) (suf := []) rfl (fun w hw => by cases hw) ⟨by decide, by decide⟩ (by decide) cc_L_50 ca_NoSuchElementException dL_jarsOf_12 rfl (Nat.le_of_ble_eq_true rfl) rfl ?_)
    refine f_iconst (v := 1) dL_jarsOf_13 rfl ?_
    refine f_ireturn dL_jarsOf_14 rfl rfl ?_
    exact ⟨rfl, rfl⟩
def H_labelOf (o : fR × fM) (r : Int32) (M' : fM) : Prop := (∃ (v : Int32) (M2 : fM), o = (.inl (some (.int v)), M2) ∧ r = 0 ∧ M' = fst1 M2 306 0 v) ∨ (∃ M2 : fM, o = (.inr "java/util/NoSuchElementException", M2) ∧ r = 1 ∧ M2 = M')
set_option maxRecDepth 100000 in
set_option maxHeartbeats 4000000 in
theorem c_L_labelOf {G : fG} (hG : fOK G) {d d2 : Nat} (hdd : d2 < d) {mc ms kc ks : Nat} (hmc : mc ≤ kc) (hms : ms ≤ ks) (M : fM) (dv : UInt64) (a : Int32) {o : fR × fM} (hc : fCt G z_X11_labelOf d2 [.ref 0, .int a] (sS M dv) mc ms (fO dv o)) (r : Int32) (M' : fM) (ho : H_labelOf o r M') : fCt G z_L_labelOf d [.ref 0, .int a, .ref 306] (sS M dv) kc ks (fD (some (.int r)) (sS M' dv)) := by
  refine fCt_to [some (.ref 0), some (.int a), some (.ref 306), none] k_L_labelOf rfl (Nat.le_of_ble_eq_true rfl) rfl ?_
  rcases ho with ⟨v, M2, rfl, rfl, rfl⟩ | ⟨M2, rfl, rfl, rfl⟩
  · refine f_aload_n dL_labelOf_0 rfl rfl ?_
    refine f_iconst (v := 0) dL_labelOf_1 rfl ?_
    refine f_aload_n dL_labelOf_2 rfl rfl ?_
    refine f_iload_n dL_labelOf_3 rfl rfl ?_
    refine f_rV hG (As := [_]) dL_labelOf_4 rfl k_X11_labelOf rfl rfl ml_L_77 im_X11_labelOf se_X11_labelOf rfl rfl (v := some (.int v)) (M2 := M2) hc hdd (by decide) hmc hms ?_
    refine f_i2l dL_labelOf_7 ?_
    refine s_lastore hG dL_labelOf_8 rfl (vp_in_nI (n := 0) (by decide) (by decide)) ?_
    refine f_goto (tgt := 15) dL_labelOf_9 (by decide) ?_
    refine f_iconst (v := 0) dL_labelOf_15 rfl ?_
    refine f_ireturn dL_labelOf_16 rfl rfl ?_
    exact ⟨rfl, rfl⟩
  · refine f_aload_n dL_labelOf_0 rfl rfl ?_
    refine f_iconst (v := 0) dL_labelOf_1 rfl ?_
    refine f_aload_n dL_labelOf_2 rfl rfl ?_
    refine f_iload_n dL_labelOf_3 rfl rfl ?_
    refine f_tV hG (As := [_]) dL_labelOf_4 rfl k_X11_labelOf rfl rfl ml_L_77 im_X11_labelOf se_X11_labelOf rfl rfl (E := "java/util/NoSuchElementException") (M2 := M2) hc hdd (by decide) hmc hms (f_catch hG (pre := []) (y := (0, 9, 12, 50)) (suf := []) rfl (fun w hw => by cases hw) ⟨by decide, by decide⟩ (by decide) cc_L_50 ca_NoSuchElementException dL_labelOf_12 rfl (Nat.le_of_ble_eq_true rfl) rfl ?_)
    refine f_iconst (v := 1) dL_labelOf_13 rfl ?_
    refine f_ireturn dL_labelOf_14 rfl rfl ?_
    exact ⟨rfl, rfl⟩
def H_strengthOfLot (o : fR × fM) (r : Int32) (M' : fM) : Prop := (∃ (v : Int32) (M2 : fM), o = (.inl (some (.int v)), M2) ∧ r = 0 ∧ M' = fst1 M2 306 0 v) ∨ (∃ M2 : fM, o = (.inr "java/util/NoSuchElementException", M2) ∧ r = 1 ∧ M2 = M')
set_option maxRecDepth 100000 in
set_option maxHeartbeats 4000000 in
theorem c_L_strengthOfLot {G : fG} (hG : fOK G) {d d2 : Nat} (hdd : d2 < d) {mc ms kc ks : Nat} (hmc : mc ≤ kc) (hms : ms ≤ ks) (M : fM) (dv : UInt64) (a : Int32) {o : fR × fM} (hc : fCt G z_X11_strengthOfLot d2 [.ref 0, .int a] (sS M dv) mc ms (fO dv o)) (r : Int32) (M' : fM) (ho : H_strengthOfLot o r M') : fCt G z_L_strengthOfLot d [.ref 0, .int a, .ref 306] (sS M dv) kc ks (fD (some (.int r)) (sS M' dv)) := by
  refine fCt_to [some (.ref 0), some (.int a), some (.ref 306), none] k_L_strengthOfLot rfl (Nat.le_of_ble_eq_true rfl) rfl ?_
  rcases ho with ⟨v, M2, rfl, rfl, rfl⟩ | ⟨M2, rfl, rfl, rfl⟩
  · refine f_aload_n dL_strengthOfLot_0 rfl rfl ?_
    refine f_iconst (v := 0) dL_strengthOfLot_1 rfl ?_
    refine f_aload_n dL_strengthOfLot_2 rfl rfl ?_
    refine f_iload_n dL_strengthOfLot_3 rfl rfl ?_
    refine f_rV hG (As := [_]) dL_strengthOfLot_4 rfl k_X11_strengthOfLot rfl rfl ml_L_80 im_X11_strengthOfLot se_X11_strengthOfLot rfl rfl (v := some (.int v)) (M2 := M2) hc hdd (by decide) hmc hms ?_
    refine f_i2l dL_strengthOfLot_7 ?_
    refine s_lastore hG dL_strengthOfLot_8 rfl (vp_in_nI (n := 0) (by decide) (by decide)) ?_
    refine f_goto (tgt := 15) dL_strengthOfLot_9 (by decide) ?_
    refine f_iconst (v := 0) dL_strengthOfLot_15 rfl ?_
    refine f_ireturn dL_strengthOfLot_16 rfl rfl ?_
    exact ⟨rfl, rfl⟩
  · refine f_aload_n dL_strengthOfLot_0 rfl rfl ?_
    refine f_iconst (v := 0) dL_strengthOfLot_1 rfl ?_
    refine f_aload_n dL_strengthOfLot_2 rfl rfl ?_
    refine f_iload_n dL_strengthOfLot_3 rfl rfl ?_
    refine f_tV hG (As := [_]) dL_strengthOfLot_4 rfl k_X11_strengthOfLot rfl rfl ml_L_80 im_X11_strengthOfLot se_X11_strengthOfLot rfl rfl (E := "java/util/NoSuchElementException") (M2 := M2) hc hdd (by decide) hmc hms (f_catch hG (pre := []) (y := (0, 9, 12, 50)) (suf := []) rfl (fun w hw => by cases hw) ⟨by decide, by decide⟩ (by decide) cc_L_50 ca_NoSuchElementException dL_strengthOfLot_12 rfl (Nat.le_of_ble_eq_true rfl) rfl ?_)
    refine f_iconst (v := 1) dL_strengthOfLot_13 rfl ?_
    refine f_ireturn dL_strengthOfLot_14 rfl rfl ?_
    exact ⟨rfl, rfl⟩
def H_pressureOf (o : fR × fM) (r : Int32) (M' : fM) : Prop := (∃ (v : Int32) (M2 : fM), o = (.inl (some (.int v)), M2) ∧ r = 0 ∧ M' = fst1 M2 306 0 v) ∨ (∃ M2 : fM, o = (.inr "java/util/NoSuchElementException", M2) ∧ r = 1 ∧ M2 = M')
set_option maxRecDepth 100000 in
set_option maxHeartbeats 4000000 in
theorem c_L_pressureOf {G : fG} (hG : fOK G) {d d2 : Nat} (hdd : d2 < d) {mc ms kc ks : Nat} (hmc : mc ≤ kc) (hms : ms ≤ ks) (M : fM) (dv : UInt64) (a : Int32) {o : fR × fM} (hc : fCt G z_X11_pressureOf d2 [.ref 0, .int a] (sS M dv) mc ms (fO dv o)) (r : Int32) (M' : fM) (ho : H_pressureOf o r M') : fCt G z_L_pressureOf d [.ref 0, .int a, .ref 306] (sS M dv) kc ks (fD (some (.int r)) (sS M' dv)) := by
  refine fCt_to [some (.ref 0), some (.int a), some (.ref 306), none] k_L_pressureOf rfl (Nat.le_of_ble_eq_true rfl) rfl ?_
  rcases ho with ⟨v, M2, rfl, rfl, rfl⟩ | ⟨M2, rfl, rfl, rfl⟩
  · refine f_aload_n dL_pressureOf_0 rfl rfl ?_
    refine f_iconst (v := 0) dL_pressureOf_1 rfl ?_
    refine f_aload_n dL_pressureOf_2 rfl rfl ?_
    refine f_iload_n dL_pressureOf_3 rfl rfl ?_
    refine f_rV hG (As := [_]) dL_pressureOf_4 rfl k_X11_pressureOf rfl rfl ml_L_83 im_X11_pressureOf se_X11_pressureOf rfl rfl (v := some (.int v)) (M2 := M2) hc hdd (by decide) hmc hms ?_
    refine f_i2l dL_pressureOf_7 ?_
    refine s_lastore hG dL_pressureOf_8 rfl (vp_in_nI (n := 0) (by decide) (by decide)) ?_
    refine f_goto (tgt := 15) dL_pressureOf_9 (by decide) ?_
    refine f_iconst (v := 0) dL_pressureOf_15 rfl ?_
    refine f_ireturn dL_pressureOf_16 rfl rfl ?_
    exact ⟨rfl, rfl⟩
  · refine f_aload_n dL_pressureOf_0 rfl rfl ?_
    refine f_iconst (v := 0) dL_pressureOf_1 rfl ?_
    refine f_aload_n dL_pressureOf_2 rfl rfl ?_
    refine f_iload_n dL_pressureOf_3 rfl rfl ?_
    refine f_tV hG (As := [_]) dL_pressureOf_4 rfl k_X11_pressureOf rfl rfl ml_L_83 im_X11_pressureOf se_X11_pressureOf rfl rfl (E := "java/util/NoSuchElementException") (M2 := M2) hc hdd (by decide) hmc hms (f_catch hG (pre := []) (y := (0, 9, 12, 50)) (suf := []) rfl (fun w hw => by cases hw) ⟨by decide, by decide⟩ (by decide) cc_L_50 ca_NoSuchElementException dL_pressureOf_12 rfl (Nat.le_of_ble_eq_true rfl) rfl ?_)
    refine f_iconst (v := 1) dL_pressureOf_13 rfl ?_
    refine f_ireturn dL_pressureOf_14 rfl rfl ?_
    exact ⟨rfl, rfl⟩
def H_lotContains (o : fR × fM) (r : Int32) (M' : fM) : Prop := (∃ (v : Int32) (M2 : fM), o = (.inl (some (.int v)), M2) ∧ r = 0 ∧ M' = fst1 M2 306 0 (oL v)) ∨ (∃ M2 : fM, o = (.inr "java/util/NoSuchElementException", M2) ∧ r = 1 ∧ M2 = M') ∨ (∃ M2 : fM, o = (.inr "java/lang/IndexOutOfBoundsException", M2) ∧ r = 2 ∧ M2 = M')
set_option maxRecDepth 100000 in
set_option maxHeartbeats 4000000 in
theorem c_L_lotContains {G : fG} (hG : fOK G) {d d2 : Nat} (hdd : d2 < d) {mc ms kc ks : Nat} (hmc : mc ≤ kc) (hms : ms ≤ ks) (M : fM) (dv : UInt64) (a : Int32) (b : Int32) {o : fR × fM} (hc : fCt G z_X11_lotContains d2 [.ref 0, .int a, .int b] (sS M dv) mc ms (fO dv o)) (r : Int32) (M' : fM) (ho : H_lotContains o r M') : fCt G z_L_lotContains d [.ref 0, .int a, .int b, .ref 306] (sS M dv) kc ks (fD (some (.int r)) (sS M' dv)) := by
  refine fCt_to [some (.ref 0), some (.int a), some (.int b), some (.ref 306), none] k_L_lotContains rfl (Nat.le_of_ble_eq_true rfl) rfl ?_
  rcases ho with ⟨v, M2, rfl, rfl, rfl⟩ | ⟨M2, rfl, rfl, rfl⟩ | ⟨M2, rfl, rfl, rfl⟩
  · refine f_aload_n dL_lotContains_0 rfl rfl ?_
    refine f_iconst (v := 0) dL_lotContains_1 rfl ?_
    refine f_aload_n dL_lotContains_2 rfl rfl ?_
    refine f_iload_n dL_lotContains_3 rfl rfl ?_
    refine f_iload_n dL_lotContains_4 rfl rfl ?_
    refine f_rV hG (As := [_, _]) dL_lotContains_5 rfl k_X11_lotContains rfl rfl ml_L_86 im_X11_lotContains se_X11_lotContains rfl rfl (v := some (.int v)) (M2 := M2) hc hdd (by decide) hmc hms ?_
    refine f_if_eq (tgt := 15) dL_lotContains_8 (by decide) (fun c_1 => ?_) (fun c_1 => ?_)
    · refine f_lconst (v := (0 : Int32).toInt64) dL_lotContains_15 rfl ?_
      refine s_lastore hG dL_lotContains_16 rfl (vp_in_nI (n := 0) (by decide) (by decide)) ?_
      refine f_goto (tgt := 28) dL_lotContains_17 (by decide) ?_
      refine f_iconst (v := 0) dL_lotContains_28 rfl ?_
      refine f_ireturn dL_lotContains_29 rfl rfl ?_
      exact ⟨rfl, by rw [oL, if_pos c_1]; rfl⟩
    · refine f_lconst (v := (1 : Int32).toInt64) dL_lotContains_11 rfl ?_
      refine f_goto (tgt := 16) dL_lotContains_12 (by decide) ?_
      refine s_lastore hG dL_lotContains_16 rfl (vp_in_nI (n := 0) (by decide) (by decide)) ?_
      refine f_goto (tgt := 28) dL_lotContains_17 (by decide) ?_
      refine f_iconst (v := 0) dL_lotContains_28 rfl ?_
      refine f_ireturn dL_lotContains_29 rfl rfl ?_
      exact ⟨rfl, by rw [oL, if_neg c_1]; rfl⟩
  · refine f_aload_n dL_lotContains_0 rfl rfl ?_
    refine f_iconst (v := 0) dL_lotContains_1 rfl ?_
    refine f_aload_n dL_lotContains_2 rfl rfl ?_
    refine f_iload_n dL_lotContains_3 rfl rfl ?_
    refine f_iload_n dL_lotContains_4 rfl rfl ?_
    refine f_tV hG (As := [_, _]) dL_lotContains_5 rfl k_X11_lotContains rfl rfl ml_L_86 im_X11_lotContains se_X11_lotContains rfl rfl (E := "java/util/NoSuchElementException") (M2 := M2) hc hdd (by decide) hmc hms (f_catch2 hG (pre := []) (y := (0, 17, 20, 50)) (suf := [(0, 17, 24, 27)]) rfl (fun w hw => by cases hw) ⟨by decide, by decide⟩ (by decide) cc_L_50 ca_NoSuchElementException dL_lotContains_20 (Nat.le_of_ble_eq_true rfl) rfl ?_)
    refine f_iconst (v := 1) dL_lotContains_22 rfl ?_
    refine f_ireturn dL_lotContains_23 rfl rfl ?_
    exact ⟨rfl, rfl⟩
  · refine f_aload_n dL_lotContains_0 rfl rfl ?_
    refine f_iconst (v := 0) dL_lotContains_1 rfl ?_
    refine f_aload_n dL_lotContains_2 rfl rfl ?_
    refine f_iload_n dL_lotContains_3 rfl rfl ?_
    refine f_iload_n dL_lotContains_4 rfl rfl ?_
    refine f_tV hG (As := [_, _]) dL_lotContains_5 rfl k_X11_lotContains rfl rfl ml_L_86 im_X11_lotContains se_X11_lotContains rfl rfl (E := "java/lang/IndexOutOfBoundsException") (M2 := M2) hc hdd (by decide) hmc hms (f_catch2 hG (pre := [(0, 17, 20, 50)]) (y := (0, 17, 24, 27)) (suf := []) rfl (fun w hw => by
      simp only [List.mem_cons, List.not_mem_nil, or_false] at hw
      rcases hw with rfl
      · exact ⟨by decide, _, cc_L_50, by decide +kernel⟩) ⟨by decide, by decide⟩ (by decide) cc_L_27 ca_IndexOutOfBoundsException dL_lotContains_24 (Nat.le_of_ble_eq_true rfl) rfl ?_)
    refine f_iconst (v := 2) dL_lotContains_26 rfl ?_
    refine f_ireturn dL_lotContains_27 rfl rfl ?_
    exact ⟨rfl, rfl⟩
def H_daysUntilPop (o : fR × fM) (r : Int32) (M' : fM) : Prop := (∃ (v : Int32) (M2 : fM), o = (.inl (some (.int v)), M2) ∧ r = 0 ∧ M' = fst1 M2 306 0 v) ∨ (∃ M2 : fM, o = (.inr "java/util/NoSuchElementException", M2) ∧ r = 1 ∧ M2 = M')
set_option maxRecDepth 100000 in
set_option maxHeartbeats 4000000 in
theorem c_L_daysUntilPop {G : fG} (hG : fOK G) {d d2 : Nat} (hdd : d2 < d) {mc ms kc ks : Nat} (hmc : mc ≤ kc) (hms : ms ≤ ks) (M : fM) (dv : UInt64) (a : Int32) {o : fR × fM} (hc : fCt G z_X11_daysUntilPop d2 [.ref 0, .int a] (sS M dv) mc ms (fO dv o)) (r : Int32) (M' : fM) (ho : H_daysUntilPop o r M') : fCt G z_L_daysUntilPop d [.ref 0, .int a, .ref 306] (sS M dv) kc ks (fD (some (.int r)) (sS M' dv)) := by
  refine fCt_to [some (.ref 0), some (.int a), some (.ref 306), none] k_L_daysUntilPop rfl (Nat.le_of_ble_eq_true rfl) rfl ?_
  rcases ho with ⟨v, M2, rfl, rfl, rfl⟩ | ⟨M2, rfl, rfl, rfl⟩
  · refine f_aload_n dL_daysUntilPop_0 rfl rfl ?_
    refine f_iconst (v := 0) dL_daysUntilPop_1 rfl ?_
    refine f_aload_n dL_daysUntilPop_2 rfl rfl ?_
    refine f_iload_n dL_daysUntilPop_3 rfl rfl ?_
    refine f_rV hG (As := [_]) dL_daysUntilPop_4 rfl k_X11_daysUntilPop rfl rfl ml_L_89 im_X11_daysUntilPop se_X11_daysUntilPop rfl rfl (v := some (.int v)) (M2 := M2) hc hdd (by decide) hmc hms ?_
    refine f_i2l dL_daysUntilPop_7 ?_
    refine s_lastore hG dL_daysUntilPop_8 rfl (vp_in_nI (n := 0) (by decide) (by decide)) ?_
    refine f_goto (tgt := 15) dL_daysUntilPop_9 (by decide) ?_
    refine f_iconst (v := 0) dL_daysUntilPop_15 rfl ?_
    refine f_ireturn dL_daysUntilPop_16 rfl rfl ?_
    exact ⟨rfl, rfl⟩
  · refine f_aload_n dL_daysUntilPop_0 rfl rfl ?_
    refine f_iconst (v := 0) dL_daysUntilPop_1 rfl ?_
    refine f_aload_n dL_daysUntilPop_2 rfl rfl ?_
    refine f_iload_n dL_daysUntilPop_3 rfl rfl ?_
    refine f_tV hG (As := [_]) dL_daysUntilPop_4 rfl k_X11_daysUntilPop rfl rfl ml_L_89 im_X11_daysUntilPop se_X11_daysUntilPop rfl rfl (E := "java/util/NoSuchElementException") (M2 := M2) hc hdd (by decide) hmc hms (f_catch hG (pre := []) (y := (0, 9, 12, 50)) (suf := []) rfl (fun w hw => by cases hw) ⟨by decide, by decide⟩ (by decide) cc_L_50 ca_NoSuchElementException dL_daysUntilPop_12 rfl (Nat.le_of_ble_eq_true rfl) rfl ?_)
    refine f_iconst (v := 1) dL_daysUntilPop_13 rfl ?_
    refine f_ireturn dL_daysUntilPop_14 rfl rfl ?_
    exact ⟨rfl, rfl⟩
def H_daysByDivision (o : fR × fM) (r : Int32) (M' : fM) : Prop := (∃ (v : Int32) (M2 : fM), o = (.inl (some (.int v)), M2) ∧ r = 0 ∧ M' = fst1 M2 306 0 v) ∨ (∃ M2 : fM, o = (.inr "java/util/NoSuchElementException", M2) ∧ r = 1 ∧ M2 = M')
set_option maxRecDepth 100000 in
set_option maxHeartbeats 4000000 in
theorem c_L_daysByDivision {G : fG} (hG : fOK G) {d d2 : Nat} (hdd : d2 < d) {mc ms kc ks : Nat} (hmc : mc ≤ kc) (hms : ms ≤ ks) (M : fM) (dv : UInt64) (a : Int32) {o : fR × fM} (hc : fCt G z_X11_daysByDivision d2 [.ref 0, .int a] (sS M dv) mc ms (fO dv o)) (r : Int32) (M' : fM) (ho : H_daysByDivision o r M') : fCt G z_L_daysByDivision d [.ref 0, .int a, .ref 306] (sS M dv) kc ks (fD (some (.int r)) (sS M' dv)) := by
  refine fCt_to [some (.ref 0), some (.int a), some (.ref 306), none] k_L_daysByDivision rfl (Nat.le_of_ble_eq_true rfl) rfl ?_
  rcases ho with ⟨v, M2, rfl, rfl, rfl⟩ | ⟨M2, rfl, rfl, rfl⟩
  · refine f_aload_n dL_daysByDivision_0 rfl rfl ?_
    refine f_iconst (v := 0) dL_daysByDivision_1 rfl ?_
    refine f_aload_n dL_daysByDivision_2 rfl rfl ?_
    refine f_iload_n dL_daysByDivision_3 rfl rfl ?_
    refine f_rV hG (As := [_]) dL_daysByDivision_4 rfl k_X11_daysByDivision rfl rfl ml_L_92 im_X11_daysByDivision se_X11_daysByDivision rfl rfl (v := some (.int v)) (M2 := M2) hc hdd (by decide) hmc hms ?_
    refine f_i2l dL_daysByDivision_7 ?_
    refine s_lastore hG dL_daysByDivision_8 rfl (vp_in_nI (n := 0) (by decide) (by decide)) ?_
    refine f_goto (tgt := 15) dL_daysByDivision_9 (by decide) ?_
    refine f_iconst (v := 0) dL_daysByDivision_15 rfl ?_
    refine f_ireturn dL_daysByDivision_16 rfl rfl ?_
    exact ⟨rfl, rfl⟩
  · refine f_aload_n dL_daysByDivision_0 rfl rfl ?_
    refine f_iconst (v := 0) dL_daysByDivision_1 rfl ?_
    refine f_aload_n dL_daysByDivision_2 rfl rfl ?_
    refine f_iload_n dL_daysByDivision_3 rfl rfl ?_
    refine f_tV hG (As := [_]) dL_daysByDivision_4 rfl k_X11_daysByDivision rfl rfl ml_L_92 im_X11_daysByDivision se_X11_daysByDivision rfl rfl (E := "java/util/NoSuchElementException") (M2 := M2) hc hdd (by decide) hmc hms (f_catch hG (pre := []) (y := (0, 9, 12, 50)) (suf := []) rfl (fun w hw => by cases hw) ⟨by decide, by decide⟩ (by decide) cc_L_50 ca_NoSuchElementException dL_daysByDivision_12 rfl (Nat.le_of_ble_eq_true rfl) rfl ?_)
    refine f_iconst (v := 1) dL_daysByDivision_13 rfl ?_
    refine f_ireturn dL_daysByDivision_14 rfl rfl ?_
    exact ⟨rfl, rfl⟩
def H_lotByPressure (o : fR × fM) (r : Int32) (M' : fM) : Prop := (∃ (v : Int32) (M2 : fM), o = (.inl (some (.int v)), M2) ∧ r = 0 ∧ M' = fst1 M2 306 0 v) ∨ (∃ M2 : fM, o = (.inr "java/util/NoSuchElementException", M2) ∧ r = 1 ∧ M2 = M')
set_option maxRecDepth 100000 in
set_option maxHeartbeats 4000000 in
theorem c_L_lotByPressure {G : fG} (hG : fOK G) {d d2 : Nat} (hdd : d2 < d) {mc ms kc ks : Nat} (hmc : mc ≤ kc) (hms : ms ≤ ks) (M : fM) (dv : UInt64) (a : Int32) {o : fR × fM} (hc : fCt G z_X11_lotByPressure d2 [.ref 0, .int a] (sS M dv) mc ms (fO dv o)) (r : Int32) (M' : fM) (ho : H_lotByPressure o r M') : fCt G z_L_lotByPressure d [.ref 0, .int a, .ref 306] (sS M dv) kc ks (fD (some (.int r)) (sS M' dv)) := by
  refine fCt_to [some (.ref 0), some (.int a), some (.ref 306), none] k_L_lotByPressure rfl (Nat.le_of_ble_eq_true rfl) rfl ?_
  rcases ho with ⟨v, M2, rfl, rfl, rfl⟩ | ⟨M2, rfl, rfl, rfl⟩
  · refine f_aload_n dL_lotByPressure_0 rfl rfl ?_
    refine f_iconst (v := 0) dL_lotByPressure_1 rfl ?_
    refine f_aload_n dL_lotByPressure_2 rfl rfl ?_
    refine f_iload_n dL_lotByPressure_3 rfl rfl ?_
    refine f_rV hG (As := [_]) dL_lotByPressure_4 rfl k_X11_lotByPressure rfl rfl ml_L_95 im_X11_lotByPressure se_X11_lotByPressure rfl rfl (v := some (.int v)) (M2 := M2) hc hdd (by decide) hmc hms ?_
    refine f_i2l dL_lotByPressure_7 ?_
    refine s_lastore hG dL_lotByPressure_8 rfl (vp_in_nI (n := 0) (by decide) (by decide)) ?_
    refine f_goto (tgt := 15) dL_lotByPressure_9 (by decide) ?_
    refine f_iconst (v := 0) dL_lotByPressure_15 rfl ?_
    refine f_ireturn dL_lotByPressure_16 rfl rfl ?_
    exact ⟨rfl, rfl⟩
  · refine f_aload_n dL_lotByPressure_0 rfl rfl ?_
    refine f_iconst (v := 0) dL_lotByPressure_1 rfl ?_
    refine f_aload_n dL_lotByPressure_2 rfl rfl ?_
    refine f_iload_n dL_lotByPressure_3 rfl rfl ?_
    refine f_tV hG (As := [_]) dL_lotByPressure_4 rfl k_X11_lotByPressure rfl rfl ml_L_95 im_X11_lotByPressure se_X11_lotByPressure rfl rfl (E := "java/util/NoSuchElementException") (M2 := M2) hc hdd (by decide) hmc hms (f_catch hG (pre := []) (y := (0, 9, 12, 50)) (suf := []) rfl (fun w hw => by cases hw) ⟨by decide, by decide⟩ (by decide) cc_L_50 ca_NoSuchElementException dL_lotByPressure_12 rfl (Nat.le_of_ble_eq_true rfl) rfl ?_)
    refine f_iconst (v := 1) dL_lotByPressure_13 rfl ?_
    refine f_ireturn dL_lotByPressure_14 rfl rfl ?_
    exact ⟨rfl, rfl⟩
def H_affectedLots (o : fR × fM) (r : Int32) (M' : fM) : Prop := (∃ (v : Int32) (M2 : fM), o = (.inl (some (.int v)), M2) ∧ r = 0 ∧ M' = fst1 M2 306 0 v) ∨ (∃ M2 : fM, o = (.inr "java/lang/IndexOutOfBoundsException", M2) ∧ r = 1 ∧ M2 = M')
set_option maxRecDepth 100000 in
set_option maxHeartbeats 4000000 in
theorem c_L_affectedLots {G : fG} (hG : fOK G) {d d2 : Nat} (hdd : d2 < d) {mc ms kc ks : Nat} (hmc : mc ≤ kc) (hms : ms ≤ ks) (M : fM) (dv : UInt64) (a : Int32) {o : fR × fM} (hc : fCt G z_X11_affectedLots d2 [.ref 0, .int a] (sS M dv) mc ms (fO dv o)) (r : Int32) (M' : fM) (ho : H_affectedLots o r M') : fCt G z_L_affectedLots d [.ref 0, .int a, .ref 306] (sS M dv) kc ks (fD (some (.int r)) (sS M' dv)) := by
  refine fCt_to [some (.ref 0), some (.int a), some (.ref 306), none] k_L_affectedLots rfl (Nat.le_of_ble_eq_true rfl) rfl ?_
  rcases ho with ⟨v, M2, rfl, rfl, rfl⟩ | ⟨M2, rfl, rfl, rfl⟩
  · refine f_aload_n dL_affectedLots_0 rfl rfl ?_
    refine f_iconst (v := 0) dL_affectedLots_1 rfl ?_
    refine f_aload_n dL_affectedLots_2 rfl rfl ?_
    refine f_iload_n dL_affectedLots_3 rfl rfl ?_
    refine f_rV hG (As := [_]) dL_affectedLots_4 rfl k_X11_affectedLots rfl rfl ml_L_98 im_X11_affectedLots se_X11_affectedLots rfl rfl (v := some (.int v)) (M2 := M2) hc hdd (by decide) hmc hms ?_
    refine f_i2l dL_affectedLots_7 ?_
    refine s_lastore hG dL_affectedLots_8 rfl (vp_in_nI (n := 0) (by decide) (by decide)) ?_
    refine f_goto (tgt := 15) dL_affectedLots_9 (by decide) ?_
    refine f_iconst (v := 0) dL_affectedLots_15 rfl ?_
    refine f_ireturn dL_affectedLots_16 rfl rfl ?_
    exact ⟨rfl, rfl⟩
  · refine f_aload_n dL_affectedLots_0 rfl rfl ?_
    refine f_iconst (v := 0) dL_affectedLots_1 rfl ?_
    refine f_aload_n dL_affectedLots_2 rfl rfl ?_
    refine f_iload_n dL_affectedLots_3 rfl rfl ?_
    refine f_tV hG (As := [_]) dL_affectedLots_4 rfl k_X11_affectedLots rfl rfl ml_L_98 im_X11_affectedLots se_X11_affectedLots rfl rfl (E := "java/lang/IndexOutOfBoundsException") (M2 := M2) hc hdd (by decide) hmc hms (f_catch hG (pre := []) (y := (0, 9, 12, 27)) (suf := []) rfl (fun w hw => by cases hw) ⟨by decide, by decide⟩ (by decide) cc_L_27 ca_IndexOutOfBoundsException dL_affectedLots_12 rfl (Nat.le_of_ble_eq_true rfl) rfl ?_)
    refine f_iconst (v := 1) dL_affectedLots_13 rfl ?_
    refine f_ireturn dL_affectedLots_14 rfl rfl ?_
    exact ⟨rfl, rfl⟩
def H_affectedBySets (o : fR × fM) (r : Int32) (M' : fM) : Prop := (∃ (v : Int32) (M2 : fM), o = (.inl (some (.int v)), M2) ∧ r = 0 ∧ M' = fst1 M2 306 0 v) ∨ (∃ M2 : fM, o = (.inr "java/lang/IndexOutOfBoundsException", M2) ∧ r = 1 ∧ M2 = M')
set_option maxRecDepth 100000 in
set_option maxHeartbeats 4000000 in
theorem c_L_affectedBySets {G : fG} (hG : fOK G) {d d2 : Nat} (hdd : d2 < d) {mc ms kc ks : Nat} (hmc : mc ≤ kc) (hms : ms ≤ ks) (M : fM) (dv : UInt64) (a : Int32) {o : fR × fM} (hc : fCt G z_X11_affectedBySets d2 [.ref 0, .int a] (sS M dv) mc ms (fO dv o)) (r : Int32) (M' : fM) (ho : H_affectedBySets o r M') : fCt G z_L_affectedBySets d [.ref 0, .int a, .ref 306] (sS M dv) kc ks (fD (some (.int r)) (sS M' dv)) := by
  refine fCt_to [some (.ref 0), some (.int a), some (.ref 306), none] k_L_affectedBySets rfl (Nat.le_of_ble_eq_true rfl) rfl ?_
  rcases ho with ⟨v, M2, rfl, rfl, rfl⟩ | ⟨M2, rfl, rfl, rfl⟩
  · refine f_aload_n dL_affectedBySets_0 rfl rfl ?_
    refine f_iconst (v := 0) dL_affectedBySets_1 rfl ?_
    refine f_aload_n dL_affectedBySets_2 rfl rfl ?_
    refine f_iload_n dL_affectedBySets_3 rfl rfl ?_
    refine f_rV hG (As := [_]) dL_affectedBySets_4 rfl k_X11_affectedBySets rfl rfl ml_L_101 im_X11_affectedBySets se_X11_affectedBySets rfl rfl (v := some (.int v)) (M2 := M2) hc hdd (by decide) hmc hms ?_
    refine f_i2l dL_affectedBySets_7 ?_
    refine s_lastore hG dL_affectedBySets_8 rfl (vp_in_nI (n := 0) (by decide) (by decide)) ?_
    refine f_goto (tgt := 15) dL_affectedBySets_9 (by decide) ?_
    refine f_iconst (v := 0) dL_affectedBySets_15 rfl ?_
    refine f_ireturn dL_affectedBySets_16 rfl rfl ?_
    exact ⟨rfl, rfl⟩
  · refine f_aload_n dL_affectedBySets_0 rfl rfl ?_
    refine f_iconst (v := 0) dL_affectedBySets_1 rfl ?_
    refine f_aload_n dL_affectedBySets_2 rfl rfl ?_
    refine f_iload_n dL_affectedBySets_3 rfl rfl ?_
    refine f_tV hG (As := [_]) dL_affectedBySets_4 rfl k_X11_affectedBySets rfl rfl ml_L_101 im_X11_affectedBySets se_X11_affectedBySets rfl rfl (E := "java/lang/IndexOutOfBoundsException") (M2 := M2) hc hdd (by decide) hmc hms (f_catch hG (pre := []) (y := (0, 9, 12, 27)) (suf := []) rfl (fun w hw => by cases hw) ⟨by decide, by decide⟩ (by decide) cc_L_27 ca_IndexOutOfBoundsException dL_affectedBySets_12 rfl (Nat.le_of_ble_eq_true rfl) rfl ?_)
    refine f_iconst (v := 1) dL_affectedBySets_13 rfl ?_
    refine f_ireturn dL_affectedBySets_14 rfl rfl ?_
    exact ⟨rfl, rfl⟩
def H_leastCrates (o : fR × fM) (r : Int32) (M' : fM) : Prop := (∃ (v : Int32) (M2 : fM), o = (.inl (some (.int v)), M2) ∧ r = 0 ∧ M' = fst1 M2 306 0 v) ∨ (∃ M2 : fM, o = (.inr "java/lang/IllegalArgumentException", M2) ∧ r = 1 ∧ M2 = M')
set_option maxRecDepth 100000 in
set_option maxHeartbeats 4000000 in
theorem c_L_leastCrates {G : fG} (hG : fOK G) {d d2 : Nat} (hdd : d2 < d) {mc ms kc ks : Nat} (hmc : mc ≤ kc) (hms : ms ≤ ks) (M : fM) (dv : UInt64) (a : Int32) {o : fR × fM} (hc : fCt G z_X11_leastCrates d2 [.ref 0, .int a] (sS M dv) mc ms (fO dv o)) (r : Int32) (M' : fM) (ho : H_leastCrates o r M') : fCt G z_L_leastCrates d [.ref 0, .int a, .ref 306] (sS M dv) kc ks (fD (some (.int r)) (sS M' dv)) := by
  refine fCt_to [some (.ref 0), some (.int a), some (.ref 306), none] k_L_leastCrates rfl (Nat.le_of_ble_eq_true rfl) rfl ?_
  rcases ho with ⟨v, M2, rfl, rfl, rfl⟩ | ⟨M2, rfl, rfl, rfl⟩
  · refine f_aload_n dL_leastCrates_0 rfl rfl ?_
    refine f_iconst (v := 0) dL_leastCrates_1 rfl ?_
    refine f_aload_n dL_leastCrates_2 rfl rfl ?_
    refine f_iload_n dL_leastCrates_3 rfl rfl ?_
    refine f_rV hG (As := [_]) dL_leastCrates_4 rfl k_X11_leastCrates rfl rfl ml_L_104 im_X11_leastCrates se_X11_leastCrates rfl rfl (v := some (.int v)) (M2 := M2) hc hdd (by decide) hmc hms ?_
    refine f_i2l dL_leastCrates_7 ?_
    refine s_lastore hG dL_leastCrates_8 rfl (vp_in_nI (n := 0) (by decide) (by decide)) ?_
    refine f_goto (tgt := 15) dL_leastCrates_9 (by decide) ?_
    refine f_iconst (v := 0) dL_leastCrates_15 rfl ?_
    refine f_ireturn dL_leastCrates_16 rfl rfl ?_
    exact ⟨rfl, rfl⟩
  · refine f_aload_n dL_leastCrates_0 rfl rfl ?_
    refine f_iconst (v := 0) dL_leastCrates_1 rfl ?_
    refine f_aload_n dL_leastCrates_2 rfl rfl ?_
    refine f_iload_n dL_leastCrates_3 rfl rfl ?_
    refine f_tV hG (As := [_]) dL_leastCrates_4 rfl k_X11_leastCrates rfl rfl ml_L_104 im_X11_leastCrates se_X11_leastCrates rfl rfl (E := "java/lang/IllegalArgumentException") (M2 := M2) hc hdd (by decide) hmc hms (f_catch hG (pre := []) (y := (0, 9, 12, 19)) (suf := []) rfl (fun w hw => by cases hw) ⟨by decide, by decide⟩ (by decide) cc_L_19 ca_IllegalArgumentException dL_leastCrates_12 rfl (Nat.le_of_ble_eq_true rfl) rfl ?_)
    refine f_iconst (v := 1) dL_leastCrates_13 rfl ?_
    refine f_ireturn dL_leastCrates_14 rfl rfl ?_
    exact ⟨rfl, rfl⟩
def H_leastCratesByTrial (o : fR × fM) (r : Int32) (M' : fM) : Prop := (∃ (v : Int32) (M2 : fM), o = (.inl (some (.int v)), M2) ∧ r = 0 ∧ M' = fst1 M2 306 0 v) ∨ (∃ M2 : fM, o = (.inr "java/lang/IllegalArgumentException", M2) ∧ r = 1 ∧ M2 = M')
set_option maxRecDepth 100000 in
set_option maxHeartbeats 4000000 in
theorem c_L_leastCratesByTrial {G : fG} (hG : fOK G) {d d2 : Nat} (hdd : d2 < d) {mc ms kc ks : Nat} (hmc : mc ≤ kc) (hms : ms ≤ ks) (M : fM) (dv : UInt64) (a : Int32) {o : fR × fM} (hc : fCt G z_X11_leastCratesByTrial d2 [.ref 0, .int a] (sS M dv) mc ms (fO dv o)) (r : Int32) (M' : fM) (ho : H_leastCratesByTrial o r M') : fCt G z_L_leastCratesByTrial d [.ref 0, .int a, .ref 306] (sS M dv) kc ks (fD (some (.int r)) (sS M' dv)) := by
  refine fCt_to [some (.ref 0), some (.int a), some (.ref 306), none] k_L_leastCratesByTrial rfl (Nat.le_of_ble_eq_true rfl) rfl ?_
  rcases ho with ⟨v, M2, rfl, rfl, rfl⟩ | ⟨M2, rfl, rfl, rfl⟩
  · refine f_aload_n dL_leastCratesByTrial_0 rfl rfl ?_
    refine f_iconst (v := 0) dL_leastCratesByTrial_1 rfl ?_
    refine f_aload_n dL_leastCratesByTrial_2 rfl rfl ?_
    refine f_iload_n dL_leastCratesByTrial_3 rfl rfl ?_
    refine f_rV hG (As := [_]) dL_leastCratesByTrial_4 rfl k_X11_leastCratesByTrial rfl rfl ml_L_107 im_X11_leastCratesByTrial se_X11_leastCratesByTrial rfl rfl (v := some (.int v)) (M2 := M2) hc hdd (by decide) hmc hms ?_
    refine f_i2l dL_leastCratesByTrial_7 ?_
    refine s_lastore hG dL_leastCratesByTrial_8 rfl (vp_in_nI (n := 0) (by decide) (by decide)) ?_
    refine f_goto (tgt := 15) dL_leastCratesByTrial_9 (by decide) ?_
    refine f_iconst (v := 0) dL_leastCratesByTrial_15 rfl ?_
    refine f_ireturn dL_leastCratesByTrial_16 rfl rfl ?_
    exact ⟨rfl, rfl⟩
  · refine f_aload_n dL_leastCratesByTrial_0 rfl rfl ?_
    refine f_iconst (v := 0) dL_leastCratesByTrial_1 rfl ?_
    refine f_aload_n dL_leastCratesByTrial_2 rfl rfl ?_
    refine f_iload_n dL_leastCratesByTrial_3 rfl rfl ?_
    refine f_tV hG (As := [_]) dL_leastCratesByTrial_4 rfl k_X11_leastCratesByTrial rfl rfl ml_L_107 im_X11_leastCratesByTrial se_X11_leastCratesByTrial rfl rfl (E := "java/lang/IllegalArgumentException") (M2 := M2) hc hdd (by decide) hmc hms (f_catch hG (pre := []) (y := (0, 9, 12, 19)) (suf := []) rfl (fun w hw => by cases hw) ⟨by decide, by decide⟩ (by decide) cc_L_19 ca_IllegalArgumentException dL_leastCratesByTrial_12 rfl (Nat.le_of_ble_eq_true rfl) rfl ?_)
    refine f_iconst (v := 1) dL_leastCratesByTrial_13 rfl ?_
    refine f_ireturn dL_leastCratesByTrial_14 rfl rfl ?_
    exact ⟨rfl, rfl⟩
def H_isTested (o : fR × fM) (r : Int32) (M' : fM) : Prop := (∃ (v : Int32) (M2 : fM), o = (.inl (some (.int v)), M2) ∧ r = 0 ∧ M' = fst1 M2 306 0 (oL v)) ∨ (∃ M2 : fM, o = (.inr "java/lang/IndexOutOfBoundsException", M2) ∧ r = 1 ∧ M2 = M')
set_option maxRecDepth 100000 in
set_option maxHeartbeats 4000000 in
theorem c_L_isTested {G : fG} (hG : fOK G) {d d2 : Nat} (hdd : d2 < d) {mc ms kc ks : Nat} (hmc : mc ≤ kc) (hms : ms ≤ ks) (M : fM) (dv : UInt64) (a : Int32) {o : fR × fM} (hc : fCt G z_X11_isTested d2 [.ref 0, .int a] (sS M dv) mc ms (fO dv o)) (r : Int32) (M' : fM) (ho : H_isTested o r M') : fCt G z_L_isTested d [.ref 0, .int a, .ref 306] (sS M dv) kc ks (fD (some (.int r)) (sS M' dv)) := by
  refine fCt_to [some (.ref 0), some (.int a), some (.ref 306), none] k_L_isTested rfl (Nat.le_of_ble_eq_true rfl) rfl ?_
  rcases ho with ⟨v, M2, rfl, rfl, rfl⟩ | ⟨M2, rfl, rfl, rfl⟩
  · refine f_aload_n dL_isTested_0 rfl rfl ?_
    refine f_iconst (v := 0) dL_isTested_1 rfl ?_
    refine f_aload_n dL_isTested_2 rfl rfl ?_
    refine f_iload_n dL_isTested_3 rfl rfl ?_
    refine f_rV hG (As := [_]) dL_isTested_4 rfl k_X11_isTested rfl rfl ml_L_110 im_X11_isTested se_X11_isTested rfl rfl (v := some (.int v)) (M2 := M2) hc hdd (by decide) hmc hms ?_
    refine f_if_eq (tgt := 14) dL_isTested_7 (by decide) (fun c_1 => ?_) (fun c_1 => ?_)
    · refine f_lconst (v := (0 : Int32).toInt64) dL_isTested_14 rfl ?_
      refine s_lastore hG dL_isTested_15 rfl (vp_in_nI (n := 0) (by decide) (by decide)) ?_
      refine f_goto (tgt := 22) dL_isTested_16 (by decide) ?_
      refine f_iconst (v := 0) dL_isTested_22 rfl ?_
      refine f_ireturn dL_isTested_23 rfl rfl ?_
      exact ⟨rfl, by rw [oL, if_pos c_1]; rfl⟩
    · refine f_lconst (v := (1 : Int32).toInt64) dL_isTested_10 rfl ?_
      refine f_goto (tgt := 15) dL_isTested_11 (by decide) ?_
      refine s_lastore hG dL_isTested_15 rfl (vp_in_nI (n := 0) (by decide) (by decide)) ?_
      refine f_goto (tgt := 22) dL_isTested_16 (by decide) ?_
      refine f_iconst (v := 0) dL_isTested_22 rfl ?_
      refine f_ireturn dL_isTested_23 rfl rfl ?_
      exact ⟨rfl, by rw [oL, if_neg c_1]; rfl⟩
  · refine f_aload_n dL_isTested_0 rfl rfl ?_
    refine f_iconst (v := 0) dL_isTested_1 rfl ?_
    refine f_aload_n dL_isTested_2 rfl rfl ?_
    refine f_iload_n dL_isTested_3 rfl rfl ?_
    refine f_tV hG (As := [_]) dL_isTested_4 rfl k_X11_isTested rfl rfl ml_L_110 im_X11_isTested se_X11_isTested rfl rfl (E := "java/lang/IndexOutOfBoundsException") (M2 := M2) hc hdd (by decide) hmc hms (f_catch hG (pre := []) (y := (0, 16, 19, 27)) (suf := []) rfl (fun w hw => by cases hw) ⟨by decide, by decide⟩ (by decide) cc_L_27 ca_IndexOutOfBoundsException dL_isTested_19 rfl (Nat.le_of_ble_eq_true rfl) rfl ?_)
    refine f_iconst (v := 1) dL_isTested_20 rfl ?_
    refine f_ireturn dL_isTested_21 rfl rfl ?_
    exact ⟨rfl, rfl⟩
def H_meanPressure (dv : UInt64) (o : fR × fM) (r : Int32) (M' : fM) (dv' : UInt64) : Prop := (∃ (v : UInt64) (M2 : fM), o = (.inl (some (.double v)), M2) ∧ r = 0 ∧ M2 = M' ∧ v = dv') ∨ (∃ M2 : fM, o = (.inr "java/lang/ArithmeticException", M2) ∧ r = 1 ∧ M2 = M' ∧ dv = dv')
set_option maxRecDepth 100000 in
set_option maxHeartbeats 4000000 in
theorem c_L_meanPressure {G : fG} (hG : fOK G) {d d2 : Nat} (hdd : d2 < d) {mc ms kc ks : Nat} (hmc : mc ≤ kc) (hms : ms ≤ ks) (M : fM) (dv : UInt64) {o : fR × fM} (hc : fCt G z_X11_meanPressure d2 [.ref 0] (sS M dv) mc ms (fO dv o)) (r : Int32) (M' : fM) (dv' : UInt64) (ho : H_meanPressure dv o r M' dv') : fCt G z_L_meanPressure d [.ref 0, .ref 307] (sS M dv) kc ks (fD (some (.int r)) (sS M' dv')) := by
  refine fCt_to [some (.ref 0), some (.ref 307), none] k_L_meanPressure rfl (Nat.le_of_ble_eq_true rfl) rfl ?_
  rcases ho with ⟨v, M2, rfl, rfl, rfl, rfl⟩ | ⟨M2, rfl, rfl, rfl, rfl⟩
  · refine f_aload_n dL_meanPressure_0 rfl rfl ?_
    refine f_iconst (v := 0) dL_meanPressure_1 rfl ?_
    refine f_aload_n dL_meanPressure_2 rfl rfl ?_
    refine f_rV hG (As := []) dL_meanPressure_3 rfl k_X11_meanPressure rfl rfl ml_L_113 im_X11_meanPressure se_X11_meanPressure rfl rfl (v := some (.double v)) (M2 := M2) hc hdd (by decide) hmc hms ?_
    refine f_dastore hG dL_meanPressure_6 rfl only307 ?_
    refine f_goto (tgt := 13) dL_meanPressure_7 (by decide) ?_
    refine f_iconst (v := 0) dL_meanPressure_13 rfl ?_
    refine f_ireturn dL_meanPressure_14 rfl rfl ?_
    exact ⟨rfl, rfl⟩
  · refine f_aload_n dL_meanPressure_0 rfl rfl ?_
    refine f_iconst (v := 0) dL_meanPressure_1 rfl ?_
    refine f_aload_n dL_meanPressure_2 rfl rfl ?_
    refine f_tV hG (As := []) dL_meanPressure_3 rfl k_X11_meanPressure rfl rfl ml_L_113 im_X11_meanPressure se_X11_meanPressure rfl rfl (E := "java/lang/ArithmeticException") (M2 := M2) hc hdd (by decide) hmc hms (f_catch hG (pre := []) (y := (0, 7, 10, 117)) (suf := []) rfl (fun w hw => by cases hw) ⟨by decide, by decide⟩ (by decide) cc_L_117 ca_ArithmeticException dL_meanPressure_10 rfl (Nat.le_of_ble_eq_true rfl) rfl ?_)
    refine f_iconst (v := 1) dL_meanPressure_11 rfl ?_
    refine f_ireturn dL_meanPressure_12 rfl rfl ?_
    exact ⟨rfl, rfl⟩
def H_shippedShare (dv : UInt64) (o : fR × fM) (r : Int32) (M' : fM) (dv' : UInt64) : Prop := (∃ (v : UInt32) (M2 : fM), o = (.inl (some (.float v)), M2) ∧ r = 0 ∧ M2 = M' ∧ FP.f2d v = dv' ∧ vf_n64 (FP.f2d v)) ∨ (∃ M2 : fM, o = (.inr "java/lang/ArithmeticException", M2) ∧ r = 1 ∧ M2 = M' ∧ dv = dv')
set_option maxRecDepth 100000 in
set_option maxHeartbeats 4000000 in
theorem c_L_shippedShare {G : fG} (hG : fOK G) {d d2 : Nat} (hdd : d2 < d) {mc ms kc ks : Nat} (hmc : mc ≤ kc) (hms : ms ≤ ks) (M : fM) (dv : UInt64) {o : fR × fM} (hc : fCt G z_X11_shippedShare d2 [.ref 0] (sS M dv) mc ms (fO dv o)) (r : Int32) (M' : fM) (dv' : UInt64) (ho : H_shippedShare dv o r M' dv') : fCt G z_L_shippedShare d [.ref 0, .ref 307] (sS M dv) kc ks (fD (some (.int r)) (sS M' dv')) := by
  refine fCt_to [some (.ref 0), some (.ref 307), none] k_L_shippedShare rfl (Nat.le_of_ble_eq_true rfl) rfl ?_
  rcases ho with ⟨v, M2, rfl, rfl, rfl, rfl, hv⟩ | ⟨M2, rfl, rfl, rfl, rfl⟩
  · refine f_aload_n dL_shippedShare_0 rfl rfl ?_
    refine f_iconst (v := 0) dL_shippedShare_1 rfl ?_
    refine f_aload_n dL_shippedShare_2 rfl rfl ?_
    refine f_rV hG (As := []) dL_shippedShare_3 rfl k_X11_shippedShare rfl rfl ml_L_119 im_X11_shippedShare se_X11_shippedShare rfl rfl (v := some (.float v)) (M2 := M2) hc hdd (by decide) hmc hms ?_
    refine f_f2d dL_shippedShare_6 hv ?_
    refine f_dastore hG dL_shippedShare_7 rfl only307 ?_
    refine f_goto (tgt := 14) dL_shippedShare_8 (by decide) ?_
    refine f_iconst (v := 0) dL_shippedShare_14 rfl ?_
    refine f_ireturn dL_shippedShare_15 rfl rfl ?_
    exact ⟨rfl, rfl⟩
  · refine f_aload_n dL_shippedShare_0 rfl rfl ?_
    refine f_iconst (v := 0) dL_shippedShare_1 rfl ?_
    refine f_aload_n dL_shippedShare_2 rfl rfl ?_
    refine f_tV hG (As := []) dL_shippedShare_3 rfl k_X11_shippedShare rfl rfl ml_L_119 im_X11_shippedShare se_X11_shippedShare rfl rfl (E := "java/lang/ArithmeticException") (M2 := M2) hc hdd (by decide) hmc hms (f_catch hG (pre := []) (y := (0, 8, 11, 117)) (suf := []) rfl (fun w hw => by cases hw) ⟨by decide, by decide⟩ (by decide) cc_L_117 ca_ArithmeticException dL_shippedShare_11 rfl (Nat.le_of_ble_eq_true rfl) rfl ?_)
    refine f_iconst (v := 1) dL_shippedShare_12 rfl ?_
    refine f_ireturn dL_shippedShare_13 rfl rfl ?_
    exact ⟨rfl, rfl⟩
def H_writeLot (o : fR × fM) (r : Int32) (M' : fM) : Prop := (∃ (v : Int32) (M2 : fM), o = (.inl (some (.int v)), M2) ∧ r = 0 ∧ M' = fst1 M2 306 0 v) ∨ (∃ M2 : fM, o = (.inr "java/util/NoSuchElementException", M2) ∧ r = 1 ∧ M2 = M')
set_option maxRecDepth 100000 in
set_option maxHeartbeats 4000000 in
theorem c_L_writeLot {G : fG} (hG : fOK G) {d d2 : Nat} (hdd : d2 < d) {mc ms kc ks : Nat} (hmc : mc ≤ kc) (hms : ms ≤ ks) (M : fM) (dv : UInt64) (a : Int32) {o : fR × fM} (hc : fCt G z_X11_writeLot d2 [.ref 0, .int a] (sS M dv) mc ms (fO dv o)) (r : Int32) (M' : fM) (ho : H_writeLot o r M') : fCt G z_L_writeLot d [.ref 0, .int a, .ref 306] (sS M dv) kc ks (fD (some (.int r)) (sS M' dv)) := by
  refine fCt_to [some (.ref 0), some (.int a), some (.ref 306), none] k_L_writeLot rfl (Nat.le_of_ble_eq_true rfl) rfl ?_
  rcases ho with ⟨v, M2, rfl, rfl, rfl⟩ | ⟨M2, rfl, rfl, rfl⟩
  · refine f_aload_n dL_writeLot_0 rfl rfl ?_
    refine f_iconst (v := 0) dL_writeLot_1 rfl ?_
    refine f_aload_n dL_writeLot_2 rfl rfl ?_
    refine f_iload_n dL_writeLot_3 rfl rfl ?_
    refine f_rV hG (As := [_]) dL_writeLot_4 rfl k_X11_writeLot rfl rfl ml_L_123 im_X11_writeLot se_X11_writeLot rfl rfl (v := some (.int v)) (M2 := M2) hc hdd (by decide) hmc hms ?_
    refine f_i2l dL_writeLot_7 ?_
    refine s_lastore hG dL_writeLot_8 rfl (vp_in_nI (n := 0) (by decide) (by decide)) ?_
    refine f_goto (tgt := 15) dL_writeLot_9 (by decide) ?_
    refine f_iconst (v := 0) dL_writeLot_15 rfl ?_
    refine f_ireturn dL_writeLot_16 rfl rfl ?_
    exact ⟨rfl, rfl⟩
  · refine f_aload_n dL_writeLot_0 rfl rfl ?_
    refine f_iconst (v := 0) dL_writeLot_1 rfl ?_
    refine f_aload_n dL_writeLot_2 rfl rfl ?_
    refine f_iload_n dL_writeLot_3 rfl rfl ?_
    refine f_tV hG (As := [_]) dL_writeLot_4 rfl k_X11_writeLot rfl rfl ml_L_123 im_X11_writeLot se_X11_writeLot rfl rfl (E := "java/util/NoSuchElementException") (M2 := M2) hc hdd (by decide) hmc hms (f_catch hG (pre := []) (y := (0, 9, 12, 50)) (suf := []) rfl (fun w hw => by cases hw) ⟨by decide, by decide⟩ (by decide) cc_L_50 ca_NoSuchElementException dL_writeLot_12 rfl (Nat.le_of_ble_eq_true rfl) rfl ?_)
    refine f_iconst (v := 1) dL_writeLot_13 rfl ?_
    refine f_ireturn dL_writeLot_14 rfl rfl ?_
    exact ⟨rfl, rfl⟩
def H_lineAt (o : fR × fM) (r : Int32) (M' : fM) : Prop := (∃ (v : Int32) (M2 : fM), o = (.inl (some (.int v)), M2) ∧ r = 0 ∧ M' = fst1 M2 306 0 v) ∨ (∃ M2 : fM, o = (.inr "java/lang/IndexOutOfBoundsException", M2) ∧ r = 1 ∧ M2 = M')
set_option maxRecDepth 100000 in
set_option maxHeartbeats 4000000 in
theorem c_L_lineAt {G : fG} (hG : fOK G) {d d2 : Nat} (hdd : d2 < d) {mc ms kc ks : Nat} (hmc : mc ≤ kc) (hms : ms ≤ ks) (M : fM) (dv : UInt64) (a : Int32) {o : fR × fM} (hc : fCt G z_X11_lineAt d2 [.ref 0, .int a] (sS M dv) mc ms (fO dv o)) (r : Int32) (M' : fM) (ho : H_lineAt o r M') : fCt G z_L_lineAt d [.ref 0, .int a, .ref 306] (sS M dv) kc ks (fD (some (.int r)) (sS M' dv)) := by
  refine fCt_to [some (.ref 0), some (.int a), some (.ref 306), none] k_L_lineAt rfl (Nat.le_of_ble_eq_true rfl) rfl ?_
  rcases ho with ⟨v, M2, rfl, rfl, rfl⟩ | ⟨M2, rfl, rfl, rfl⟩
  · refine f_aload_n dL_lineAt_0 rfl rfl ?_
    refine f_iconst (v := 0) dL_lineAt_1 rfl ?_
    refine f_aload_n dL_lineAt_2 rfl rfl ?_
    refine f_iload_n dL_lineAt_3 rfl rfl ?_
    refine f_rV hG (As := [_]) dL_lineAt_4 rfl k_X11_lineAt rfl rfl ml_L_126 im_X11_lineAt se_X11_lineAt rfl rfl (v := some (.int v)) (M2 := M2) hc hdd (by decide) hmc hms ?_
    refine f_i2l dL_lineAt_7 ?_
    refine s_lastore hG dL_lineAt_8 rfl (vp_in_nI (n := 0) (by decide) (by decide)) ?_
    refine f_goto (tgt := 15) dL_lineAt_9 (by decide) ?_
    refine f_iconst (v := 0) dL_lineAt_15 rfl ?_
    refine f_ireturn dL_lineAt_16 rfl rfl ?_
    exact ⟨rfl, rfl⟩
  · refine f_aload_n dL_lineAt_0 rfl rfl ?_
    refine f_iconst (v := 0) dL_lineAt_1 rfl ?_
    refine f_aload_n dL_lineAt_2 rfl rfl ?_
    refine f_iload_n dL_lineAt_3 rfl rfl ?_
    refine f_tV hG (As := [_]) dL_lineAt_4 rfl k_X11_lineAt rfl rfl ml_L_126 im_X11_lineAt se_X11_lineAt rfl rfl (E := "java/lang/IndexOutOfBoundsException") (M2 := M2) hc hdd (by decide) hmc hms (f_catch hG (pre := []) (y := (0, 9, 12, 27)) (suf := []) rfl (fun w hw => by cases hw) ⟨by decide, by decide⟩ (by decide) cc_L_27 ca_IndexOutOfBoundsException dL_lineAt_12 rfl (Nat.le_of_ble_eq_true rfl) rfl ?_)
    refine f_iconst (v := 1) dL_lineAt_13 rfl ?_
    refine f_ireturn dL_lineAt_14 rfl rfl ?_
    exact ⟨rfl, rfl⟩
def H_type (o : fR × fM) (r : Int32) (M' : fM) : Prop := (∃ (v : Int32) (M2 : fM), o = (.inl (some (.int v)), M2) ∧ r = 0 ∧ M' = fst1 M2 306 0 v) ∨ (∃ M2 : fM, o = (.inr "java/lang/IllegalArgumentException", M2) ∧ r = 1 ∧ M2 = M') ∨ (∃ M2 : fM, o = (.inr "java/lang/IllegalStateException", M2) ∧ r = 2 ∧ M2 = M')
set_option maxRecDepth 100000 in
set_option maxHeartbeats 4000000 in
theorem c_L_type {G : fG} (hG : fOK G) {d d2 : Nat} (hdd : d2 < d) {mc ms kc ks : Nat} (hmc : mc ≤ kc) (hms : ms ≤ ks) (M : fM) (dv : UInt64) (a : Int32) {o : fR × fM} (hc : fCt G z_X11_type d2 [.ref 0, .int a] (sS M dv) mc ms (fO dv o)) (r : Int32) (M' : fM) (ho : H_type o r M') : fCt G z_L_type d [.ref 0, .int a, .ref 306] (sS M dv) kc ks (fD (some (.int r)) (sS M' dv)) := by
  refine fCt_to [some (.ref 0), some (.int a), some (.ref 306), none] k_L_type rfl (Nat.le_of_ble_eq_true rfl) rfl ?_
  rcases ho with ⟨v, M2, rfl, rfl, rfl⟩ | ⟨M2, rfl, rfl, rfl⟩ | ⟨M2, rfl, rfl, rfl⟩
  · refine f_aload_n dL_type_0 rfl rfl ?_
    refine f_iconst (v := 0) dL_type_1 rfl ?_
    refine f_aload_n dL_type_2 rfl rfl ?_
    refine f_iload_n dL_type_3 rfl rfl ?_
    refine f_rV hG (As := [_]) dL_type_4 rfl k_X11_type rfl rfl ml_L_130 im_X11_type se_X11_type rfl rfl (v := some (.int v)) (M2 := M2) hc hdd (by decide) hmc hms ?_
    refine f_i2l dL_type_7 ?_
    refine s_lastore hG dL_type_8 rfl (vp_in_nI (n := 0) (by decide) (by decide)) ?_
    refine f_goto (tgt := 18) dL_type_9 (by decide) ?_
    refine f_iconst (v := 0) dL_type_18 rfl ?_
    refine f_ireturn dL_type_19 rfl rfl ?_
    exact ⟨rfl, rfl⟩
  · refine f_aload_n dL_type_0 rfl rfl ?_
    refine f_iconst (v := 0) dL_type_1 rfl ?_
    refine f_aload_n dL_type_2 rfl rfl ?_
    refine f_iload_n dL_type_3 rfl rfl ?_
    refine f_tV hG (As := [_]) dL_type_4 rfl k_X11_type rfl rfl ml_L_130 im_X11_type se_X11_type rfl rfl (E := "java/lang/IllegalArgumentException") (M2 := M2) hc hdd (by decide) hmc hms (f_catch hG (pre := []) (y := (0, 9, 12, 19)) (suf := [(0, 9, 15, 13)]) rfl (fun w hw => by cases hw) ⟨by decide, by decide⟩ (by decide) cc_L_19 ca_IllegalArgumentException dL_type_12 rfl (Nat.le_of_ble_eq_true rfl) rfl ?_)
    refine f_iconst (v := 1) dL_type_13 rfl ?_
    refine f_ireturn dL_type_14 rfl rfl ?_
    exact ⟨rfl, rfl⟩
  · refine f_aload_n dL_type_0 rfl rfl ?_
    refine f_iconst (v := 0) dL_type_1 rfl ?_
    refine f_aload_n dL_type_2 rfl rfl ?_
    refine f_iload_n dL_type_3 rfl rfl ?_
    refine f_tV hG (As := [_]) dL_type_4 rfl k_X11_type rfl rfl ml_L_130 im_X11_type se_X11_type rfl rfl (E := "java/lang/IllegalStateException") (M2 := M2) hc hdd (by decide) hmc hms (f_catch hG (pre := [(0, 9, 12, 19)]) (y := (0, 9, 15, 13)) (suf := []) rfl (fun w hw => by
      simp only [List.mem_cons, List.not_mem_nil, or_false] at hw
      rcases hw with rfl
      · exact ⟨by decide, _, cc_L_19, by decide +kernel⟩) ⟨by decide, by decide⟩ (by decide) cc_L_13 ca_IllegalStateException dL_type_15 rfl (Nat.le_of_ble_eq_true rfl) rfl ?_)
    refine f_iconst (v := 2) dL_type_16 rfl ?_
    refine f_ireturn dL_type_17 rfl rfl ?_
    exact ⟨rfl, rfl⟩
def H_execute (o : fR × fM) (r : Int32) (M' : fM) : Prop := (∃ (v : Int32) (M2 : fM), o = (.inl (some (.int v)), M2) ∧ r = 0 ∧ M' = fst1 M2 306 0 v) ∨ (∃ M2 : fM, o = (.inr "java/lang/IllegalArgumentException", M2) ∧ r = 1 ∧ M2 = M') ∨ (∃ M2 : fM, o = (.inr "java/lang/IllegalStateException", M2) ∧ r = 2 ∧ M2 = M')
set_option maxRecDepth 100000 in
set_option maxHeartbeats 4000000 in
theorem c_L_execute {G : fG} (hG : fOK G) {d d2 : Nat} (hdd : d2 < d) {mc ms kc ks : Nat} (hmc : mc ≤ kc) (hms : ms ≤ ks) (M : fM) (dv : UInt64) {o : fR × fM} (hc : fCt G z_X11_execute d2 [.ref 0] (sS M dv) mc ms (fO dv o)) (r : Int32) (M' : fM) (ho : H_execute o r M') : fCt G z_L_execute d [.ref 0, .ref 306] (sS M dv) kc ks (fD (some (.int r)) (sS M' dv)) := by
  refine fCt_to [some (.ref 0), some (.ref 306), none] k_L_execute rfl (Nat.le_of_ble_eq_true rfl) rfl ?_
  rcases ho with ⟨v, M2, rfl, rfl, rfl⟩ | ⟨M2, rfl, rfl, rfl⟩ | ⟨M2, rfl, rfl, rfl⟩
  · refine f_aload_n dL_execute_0 rfl rfl ?_
    refine f_iconst (v := 0) dL_execute_1 rfl ?_
    refine f_aload_n dL_execute_2 rfl rfl ?_
    refine f_rV hG (As := []) dL_execute_3 rfl k_X11_execute rfl rfl ml_L_134 im_X11_execute se_X11_execute rfl rfl (v := some (.int v)) (M2 := M2) hc hdd (by decide) hmc hms ?_
    refine f_i2l dL_execute_6 ?_
    refine s_lastore hG dL_execute_7 rfl (vp_in_nI (n := 0) (by decide) (by decide)) ?_
    refine f_goto (tgt := 17) dL_execute_8 (by decide) ?_
    refine f_iconst (v := 0) dL_execute_17 rfl ?_
    refine f_ireturn dL_execute_18 rfl rfl ?_
    exact ⟨rfl, rfl⟩
  · refine f_aload_n dL_execute_0 rfl rfl ?_
    refine f_iconst (v := 0) dL_execute_1 rfl ?_
    refine f_aload_n dL_execute_2 rfl rfl ?_
    refine f_tV hG (As := []) dL_execute_3 rfl k_X11_execute rfl rfl ml_L_134 im_X11_execute se_X11_execute rfl rfl (E := "java/lang/IllegalArgumentException") (M2 := M2) hc hdd (by decide) hmc hms (f_catch hG (pre := []) (y := (0, 8, 11, 19)) (suf := [(0, 8, 14, 13)]) rfl (fun w hw => by cases hw) ⟨by decide, by decide⟩ (by decide) cc_L_19 ca_IllegalArgumentException dL_execute_11 rfl (Nat.le_of_ble_eq_true rfl) rfl ?_)
    refine f_iconst (v := 1) dL_execute_12 rfl ?_
    refine f_ireturn dL_execute_13 rfl rfl ?_
    exact ⟨rfl, rfl⟩
  · refine f_aload_n dL_execute_0 rfl rfl ?_
    refine f_iconst (v := 0) dL_execute_1 rfl ?_
    refine f_aload_n dL_execute_2 rfl rfl ?_
    refine f_tV hG (As := []) dL_execute_3 rfl k_X11_execute rfl rfl ml_L_134 im_X11_execute se_X11_execute rfl rfl (E := "java/lang/IllegalStateException") (M2 := M2) hc hdd (by decide) hmc hms (f_catch hG (pre := [(0, 8, 11, 19)]) (y := (0, 8, 14, 13)) (suf := []) rfl (fun w hw => by
      simp only [List.mem_cons, List.not_mem_nil, or_false] at hw
      rcases hw with rfl
      · exact ⟨by decide, _, cc_L_19, by decide +kernel⟩) ⟨by decide, by decide⟩ (by decide) cc_L_13 ca_IllegalStateException dL_execute_14 rfl (Nat.le_of_ble_eq_true rfl) rfl ?_)
    refine f_iconst (v := 2) dL_execute_15 rfl ?_
    refine f_ireturn dL_execute_16 rfl rfl ?_
    exact ⟨rfl, rfl⟩
def H_errorPosition (o : fR × fM) (r : Int32) (M' : fM) : Prop := (∃ (v : Int32) (M2 : fM), o = (.inl (some (.int v)), M2) ∧ r = 0 ∧ M' = fst1 M2 306 0 v) ∨ (∃ M2 : fM, o = (.inr "java/util/NoSuchElementException", M2) ∧ r = 1 ∧ M2 = M')
set_option maxRecDepth 100000 in
set_option maxHeartbeats 4000000 in
theorem c_L_errorPosition {G : fG} (hG : fOK G) {d d2 : Nat} (hdd : d2 < d) {mc ms kc ks : Nat} (hmc : mc ≤ kc) (hms : ms ≤ ks) (M : fM) (dv : UInt64) {o : fR × fM} (hc : fCt G z_X11_errorPosition d2 [.ref 0] (sS M dv) mc ms (fO dv o)) (r : Int32) (M' : fM) (ho : H_errorPosition o r M') : fCt G z_L_errorPosition d [.ref 0, .ref 306] (sS M dv) kc ks (fD (some (.int r)) (sS M' dv)) := by
  refine fCt_to [some (.ref 0), some (.ref 306), none] k_L_errorPosition rfl (Nat.le_of_ble_eq_true rfl) rfl ?_
  rcases ho with ⟨v, M2, rfl, rfl, rfl⟩ | ⟨M2, rfl, rfl, rfl⟩
  · refine f_aload_n dL_errorPosition_0 rfl rfl ?_
    refine f_iconst (v := 0) dL_errorPosition_1 rfl ?_
    refine f_aload_n dL_errorPosition_2 rfl rfl ?_
    refine f_rV hG (As := []) dL_errorPosition_3 rfl k_X11_errorPosition rfl rfl ml_L_137 im_X11_errorPosition se_X11_errorPosition rfl rfl (v := some (.int v)) (M2 := M2) hc hdd (by decide) hmc hms ?_
    refine f_i2l dL_errorPosition_6 ?_
    refine s_lastore hG dL_errorPosition_7 rfl (vp_in_nI (n := 0) (by decide) (by decide)) ?_
    refine f_goto (tgt := 14) dL_errorPosition_8 (by decide) ?_
    refine f_iconst (v := 0) dL_errorPosition_14 rfl ?_
    refine f_ireturn dL_errorPosition_15 rfl rfl ?_
    exact ⟨rfl, rfl⟩
  · refine f_aload_n dL_errorPosition_0 rfl rfl ?_
    refine f_iconst (v := 0) dL_errorPosition_1 rfl ?_
    refine f_aload_n dL_errorPosition_2 rfl rfl ?_
    refine f_tV hG (As := []) dL_errorPosition_3 rfl k_X11_errorPosition rfl rfl ml_L_137 im_X11_errorPosition se_X11_errorPosition rfl rfl (E := "java/util/NoSuchElementException") (M2 := M2) hc hdd (by decide) hmc hms (f_catch hG (pre := []) (y := (0, 8, 11, 50)) (suf := []) rfl (fun w hw => by cases hw) ⟨by decide, by decide⟩ (by decide) cc_L_50 ca_NoSuchElementException dL_errorPosition_11 rfl (Nat.le_of_ble_eq_true rfl) rfl ?_)
    refine f_iconst (v := 1) dL_errorPosition_12 rfl ?_
    refine f_ireturn dL_errorPosition_13 rfl rfl ?_
    exact ⟨rfl, rfl⟩
def H_failedCommand (o : fR × fM) (r : Int32) (M' : fM) : Prop := (∃ (v : Int32) (M2 : fM), o = (.inl (some (.int v)), M2) ∧ r = 0 ∧ M' = fst1 M2 306 0 v) ∨ (∃ M2 : fM, o = (.inr "java/util/NoSuchElementException", M2) ∧ r = 1 ∧ M2 = M')
set_option maxRecDepth 100000 in
set_option maxHeartbeats 4000000 in
theorem c_L_failedCommand {G : fG} (hG : fOK G) {d d2 : Nat} (hdd : d2 < d) {mc ms kc ks : Nat} (hmc : mc ≤ kc) (hms : ms ≤ ks) (M : fM) (dv : UInt64) {o : fR × fM} (hc : fCt G z_X11_failedCommand d2 [.ref 0] (sS M dv) mc ms (fO dv o)) (r : Int32) (M' : fM) (ho : H_failedCommand o r M') : fCt G z_L_failedCommand d [.ref 0, .ref 306] (sS M dv) kc ks (fD (some (.int r)) (sS M' dv)) := by
  refine fCt_to [some (.ref 0), some (.ref 306), none] k_L_failedCommand rfl (Nat.le_of_ble_eq_true rfl) rfl ?_
  rcases ho with ⟨v, M2, rfl, rfl, rfl⟩ | ⟨M2, rfl, rfl, rfl⟩
  · refine f_aload_n dL_failedCommand_0 rfl rfl ?_
    refine f_iconst (v := 0) dL_failedCommand_1 rfl ?_
    refine f_aload_n dL_failedCommand_2 rfl rfl ?_
    refine f_rV hG (As := []) dL_failedCommand_3 rfl k_X11_failedCommand rfl rfl ml_L_140 im_X11_failedCommand se_X11_failedCommand rfl rfl (v := some (.int v)) (M2 := M2) hc hdd (by decide) hmc hms ?_
    refine f_i2l dL_failedCommand_6 ?_
    refine s_lastore hG dL_failedCommand_7 rfl (vp_in_nI (n := 0) (by decide) (by decide)) ?_
    refine f_goto (tgt := 14) dL_failedCommand_8 (by decide) ?_
    refine f_iconst (v := 0) dL_failedCommand_14 rfl ?_
    refine f_ireturn dL_failedCommand_15 rfl rfl ?_
    exact ⟨rfl, rfl⟩
  · refine f_aload_n dL_failedCommand_0 rfl rfl ?_
    refine f_iconst (v := 0) dL_failedCommand_1 rfl ?_
    refine f_aload_n dL_failedCommand_2 rfl rfl ?_
    refine f_tV hG (As := []) dL_failedCommand_3 rfl k_X11_failedCommand rfl rfl ml_L_140 im_X11_failedCommand se_X11_failedCommand rfl rfl (E := "java/util/NoSuchElementException") (M2 := M2) hc hdd (by decide) hmc hms (f_catch hG (pre := []) (y := (0, 8, 11, 50)) (suf := []) rfl (fun w hw => by cases hw) ⟨by decide, by decide⟩ (by decide) cc_L_50 ca_NoSuchElementException dL_failedCommand_11 rfl (Nat.le_of_ble_eq_true rfl) rfl ?_)
    refine f_iconst (v := 1) dL_failedCommand_12 rfl ?_
    refine f_ireturn dL_failedCommand_13 rfl rfl ?_
    exact ⟨rfl, rfl⟩
def H_undo (o : fR × fM) (r : Int32) (M' : fM) : Prop := (∃ (v : Int32) (M2 : fM), o = (.inl (some (.int v)), M2) ∧ r = 0 ∧ M' = fst1 M2 306 0 v) ∨ (∃ M2 : fM, o = (.inr "java/lang/IllegalStateException", M2) ∧ r = 1 ∧ M2 = M')
set_option maxRecDepth 100000 in
set_option maxHeartbeats 4000000 in
theorem c_L_undo {G : fG} (hG : fOK G) {d d2 : Nat} (hdd : d2 < d) {mc ms kc ks : Nat} (hmc : mc ≤ kc) (hms : ms ≤ ks) (M : fM) (dv : UInt64) {o : fR × fM} (hc : fCt G z_X11_undo d2 [.ref 0] (sS M dv) mc ms (fO dv o)) (r : Int32) (M' : fM) (ho : H_undo o r M') : fCt G z_L_undo d [.ref 0, .ref 306] (sS M dv) kc ks (fD (some (.int r)) (sS M' dv)) := by
  refine fCt_to [some (.ref 0), some (.ref 306), none] k_L_undo rfl (Nat.le_of_ble_eq_true rfl) rfl ?_
  rcases ho with ⟨v, M2, rfl, rfl, rfl⟩ | ⟨M2, rfl, rfl, rfl⟩
  · refine f_aload_n dL_undo_0 rfl rfl ?_
    refine f_iconst (v := 0) dL_undo_1 rfl ?_
    refine f_aload_n dL_undo_2 rfl rfl ?_
    refine f_rV hG (As := []) dL_undo_3 rfl k_X11_undo rfl rfl ml_L_143 im_X11_undo se_X11_undo rfl rfl (v := some (.int v)) (M2 := M2) hc hdd (by decide) hmc hms ?_
    refine f_i2l dL_undo_6 ?_
    refine s_lastore hG dL_undo_7 rfl (vp_in_nI (n := 0) (by decide) (by decide)) ?_
    refine f_goto (tgt := 14) dL_undo_8 (by decide) ?_
    refine f_iconst (v := 0) dL_undo_14 rfl ?_
    refine f_ireturn dL_undo_15 rfl rfl ?_
    exact ⟨rfl, rfl⟩
  · refine f_aload_n dL_undo_0 rfl rfl ?_
    refine f_iconst (v := 0) dL_undo_1 rfl ?_
    refine f_aload_n dL_undo_2 rfl rfl ?_
    refine f_tV hG (As := []) dL_undo_3 rfl k_X11_undo rfl rfl ml_L_143 im_X11_undo se_X11_undo rfl rfl (E := "java/lang/IllegalStateException") (M2 := M2) hc hdd (by decide) hmc hms (f_catch hG (pre := []) (y := (0, 8, 11, 13)) (suf := []) rfl (fun w hw => by cases hw) ⟨by decide, by decide⟩ (by decide) cc_L_13 ca_IllegalStateException dL_undo_11 rfl (Nat.le_of_ble_eq_true rfl) rfl ?_)
    refine f_iconst (v := 1) dL_undo_12 rfl ?_
    refine f_ireturn dL_undo_13 rfl rfl ?_
    exact ⟨rfl, rfl⟩
def H_restore (o : fR × fM) (r : Int32) (M' : fM) : Prop := (∃ (v : Int32) (M2 : fM), o = (.inl (some (.int v)), M2) ∧ r = 0 ∧ M' = fst1 M2 306 0 v) ∨ (∃ M2 : fM, o = (.inr "java/lang/IllegalStateException", M2) ∧ r = 1 ∧ M2 = M')
set_option maxRecDepth 100000 in
set_option maxHeartbeats 4000000 in
theorem c_L_restore {G : fG} (hG : fOK G) {d d2 : Nat} (hdd : d2 < d) {mc ms kc ks : Nat} (hmc : mc ≤ kc) (hms : ms ≤ ks) (M : fM) (dv : UInt64) {o : fR × fM} (hc : fCt G z_X11_restore d2 [.ref 0] (sS M dv) mc ms (fO dv o)) (r : Int32) (M' : fM) (ho : H_restore o r M') : fCt G z_L_restore d [.ref 0, .ref 306] (sS M dv) kc ks (fD (some (.int r)) (sS M' dv)) := by
  refine fCt_to [some (.ref 0), some (.ref 306), none] k_L_restore rfl (Nat.le_of_ble_eq_true rfl) rfl ?_
  rcases ho with ⟨v, M2, rfl, rfl, rfl⟩ | ⟨M2, rfl, rfl, rfl⟩
  · refine f_aload_n dL_restore_0 rfl rfl ?_
    refine f_iconst (v := 0) dL_restore_1 rfl ?_
    refine f_aload_n dL_restore_2 rfl rfl ?_
    refine f_rV hG (As := []) dL_restore_3 rfl k_X11_restore rfl rfl ml_L_146 im_X11_restore se_X11_restore rfl rfl (v := some (.int v)) (M2 := M2) hc hdd (by decide) hmc hms ?_
    refine f_i2l dL_restore_6 ?_
    refine s_lastore hG dL_restore_7 rfl (vp_in_nI (n := 0) (by decide) (by decide)) ?_
    refine f_goto (tgt := 14) dL_restore_8 (by decide) ?_
    refine f_iconst (v := 0) dL_restore_14 rfl ?_
    refine f_ireturn dL_restore_15 rfl rfl ?_
    exact ⟨rfl, rfl⟩
  · refine f_aload_n dL_restore_0 rfl rfl ?_
    refine f_iconst (v := 0) dL_restore_1 rfl ?_
    refine f_aload_n dL_restore_2 rfl rfl ?_
    refine f_tV hG (As := []) dL_restore_3 rfl k_X11_restore rfl rfl ml_L_146 im_X11_restore se_X11_restore rfl rfl (E := "java/lang/IllegalStateException") (M2 := M2) hc hdd (by decide) hmc hms (f_catch hG (pre := []) (y := (0, 8, 11, 13)) (suf := []) rfl (fun w hw => by cases hw) ⟨by decide, by decide⟩ (by decide) cc_L_13 ca_IllegalStateException dL_restore_11 rfl (Nat.le_of_ble_eq_true rfl) rfl ?_)
    refine f_iconst (v := 1) dL_restore_12 rfl ?_
    refine f_ireturn dL_restore_13 rfl rfl ?_
    exact ⟨rfl, rfl⟩
