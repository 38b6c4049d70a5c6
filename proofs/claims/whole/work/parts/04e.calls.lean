/-! ===== calls ===== -/
theorem frm_loc {d mc ms : Nat} : (frm d mc ms).locals = 64 * d + 300 := by unfold frm; rfl
set_option maxRecDepth 100000 in
theorem f_ar {a b c R : Nat} (h : a ≤ 40) (hdd : b < c) (h2 : 64 * c + 300 ≤ R) : 8 + (a + 11) + (64 * b + 300) ≤ R := by
  have h3 : 64 * (b + 1) ≤ 64 * c := Nat.mul_le_mul_left 64 hdd
  omega
/-- a callee's own words -/
def fMk (z : fMi) (n : Nat) : Prop := (fword z ∈ lw_tbl ∧ goodWord (fword z) = true) ∧ Cond.initialized z.1.cls ∈ lw_tbl ∧ (z.1.cls ≠ "java/lang/invoke/MethodHandle" ∧ z.1.cls ≠ "java/lang/invoke/VarHandle") ∧ (parseMethodDescriptor z.1.desc).map (fun d => d.parameters.length) = some n ∧ plainName z.1.cls = true ∧ z.2.2.1 ≤ 40
/-- THE WALK, when an object of the class E is thrown over the frame at pc -/
def fVX (G : fG) (z : fMi) (d : Nat) (Q : fR → fS → Prop) (pc : Nat) (ls : List (Option Value)) (rest : List Value) (S : fS) (kc ks : Nat) (E : String) : Prop :=
  ∀ (p : Program) (e : Env) (s : State) (m : MethodId) (args : Array Value) (below : List Frame) (meth : Method) (c : Code) (R : Room) (Z : State → Prop) (H : Heap) (locs : List Loc) (cells slots : Nat) (lsr : Array Slot) (ce : Cell) (q : Addr),
    fC0 G z p s m meth c → fEnd G z Q p e R s m args below meth c Z → d + 20 ≤ R.frames → 64 * d + 300 ≤ R.locals → cells + kc ≤ R.cells → slots + ks ≤ R.slots →
    fW G S H → va_S (fA G) s.heap H locs → lv_has lsr z.2.2.1 (flv G ls 0) → H[q]? = some ce → ce.vm = .none → s.vm.findClass E = some ce.cls →
    vx_W p (gl G) e R s m args below meth c H locs cells slots Z (F0 m pc lsr (rest.map (frl G))) q
theorem f_after {G : fG} {z : fMi} {d pc : Nat} {Q Q2 : fR → fS → Prop} {ls : List (Option Value)} {rest st0 : List Value} {kc ks mc ms : Nat} {p : Program} {e : Env} {s : State} {m : MethodId} {args a : Array Value} {below : List Frame} {meth : Method} {c : Code} {R : Room} {Z : State → Prop} {H : Heap} {locs : List Loc} {cells slots : Nat} {lsr : Array Slot}
    (hC : fC0 G z p s m meth c) (hE : fEnd G z Q p e R s m args below meth c Z) (h1 : d + 20 ≤ R.frames) (h2 : 64 * d + 300 ≤ R.locals) (h3 : cells + kc ≤ R.cells) (h4 : slots + ks ≤ R.slots) (hS : va_S (fA G) s.heap H locs) (hl : lv_has lsr z.2.2.1 (flv G ls 0)) (hmc : mc ≤ kc) (hms : ms ≤ ks)
    (hr : vx_Run p (gl G) e R s m args below meth c H locs cells slots mc ms (F0 m pc lsr st0) (rest.map (frl G)) (fQc G Q2 a) (fXC G Q2) (fA G))
    (kk : ∀ (v : Option Value) (S' : fS), Q2 (.inl v) S' → fV G z d Q (pc + 3) ls (v.toList ++ rest) S' (kc - mc) (ks - ms))
    (kx : ∀ (E : String) (S' : fS), Q2 (.inr E) S' → fVX G z d Q pc ls rest S' (kc - mc) (ks - ms) E) : W p (gl G) e R s m args below meth c H locs cells slots Z (F0 m pc lsr st0) := by
  intro T hT X
  rcases hr T hT X with ⟨v, st₀, t, T', L, h0, X', hL, e1, e2, ⟨⟨v', S', hv, hq, hw⟩, hF⟩, st⟩ | ⟨q, st₀, t, T', L, E, ce, h0, X', hL, e1, e2, ⟨⟨S', hq, hw⟩, hF⟩, hce, hcv, hcl, st⟩
  · cases hv
    obtain ⟨k1, k2, k3⟩ := vx_keep h0 e1 hS (fun q _ h => h) (fun q h => h) hL hF
    have hw' : fW G S' T'.heap := by rw [e1]; exact hw
    obtain ⟨t2, a1, b1⟩ := kk v' S' hq p e s m args below meth c R Z T'.heap (locs ++ L) (cells + mc) (slots + ms) lsr hC hE h1 h2 (by omega) (by omega) hw' k3 hl T' rfl X'
    refine ⟨t2, st t2 ?_, b1⟩
    have e9 : (v'.toList ++ rest).map (frl G) = (v'.map (frl G)).toList ++ rest.map (frl G) := by cases v' <;> simp
    rw [e9] at a1
    exact a1
  · obtain ⟨k1, k2, k3⟩ := vx_keep h0 e1 hS (fun q _ h => h) (fun q h => h) hL hF
    have hw' : fW G S' T'.heap := by rw [e1]; exact hw
    obtain ⟨t2, a1, b1⟩ := kx E S' hq p e s m args below meth c R Z T'.heap (locs ++ L) (cells + mc) (slots + ms) lsr ce q hC hE h1 h2 (by omega) (by omega) hw' k3 hl (by rw [e1]; exact hce) hcv hcl T' rfl X'
    exact ⟨t2, st.trans a1, b1⟩
theorem f_va2vx {p : Program} {l : Launch} {e : Env} {R : Room} {s : State} {m : MethodId} {args : Array Value} {below : List Frame} {meth : Method} {c : Code} {H : Heap} {locs : List Loc} {cells slots mc ms : Nat} {g : JFrame} {rest : List Value} {Qa : State → Outcome → State → Prop} {XC : String → State → State → Prop} {free : Addr → Prop}
    (h : va_Run p l e R s m args below meth c H locs cells slots mc ms g rest Qa free) : vx_Run p l e R s m args below meth c H locs cells slots mc ms g rest Qa XC free := fun T hT X => Or.inl (h T hT X)
theorem fCt_met {G : fG} {z : fMi} {d : Nat} {args : List Value} {S : fS} {mc ms : Nat} {Q : fR → fS → Prop} (h : fCt G z d args S mc ms Q) (hno : ∀ E S', ¬ Q (.inr E) S') : Met (gl G) z.1 [fword z] (frm d mc ms) (fPc G args S) (fQc G Q) mc ms (fA G) := by
  intro p e ha hc hk s m args below hf happ hP hK
  obtain ⟨n, o, h1, h2, h3, h4⟩ := h p e ha hc hk s m args below hf happ hP hK
  refine ⟨n, o, h1, h2, h3, ?_⟩
  rcases h4 with h4 | ⟨q, e1, E, ce, L, ⟨⟨S', q1, w1⟩, hF⟩, h5⟩
  · exact h4
  · exact absurd q1 (hno E S')
theorem f_cat {G : fG} {l : List Value} : ((l.map (frl G)).map (fun v => v.category)).sum = (l.map (fun v => v.category)).sum := by
  rw [List.map_map]
  congr 1
  exact List.map_congr_left fun v _ => frl_cat
/-- what a call finds -/
theorem f_preS {G : fG} {s : State} {H : Heap} {locs : List Loc} {S : fS} {As : List Value} (hB : fB G s) (hW : fW G S H) (hS : va_S (fA G) s.heap H locs) : FrameBlind (fPc G As S) ∧ ∀ U : State, U.heap = H → s.WarmedH U.vm → fPc G As S (As.map (frl G)).toArray U := by
  refine ⟨fun a U g mk h => h, fun U hU hWm => ⟨rfl, ⟨State.WarmedH.trans hB.1 hWm, fun q hq => ?_, ?_⟩, by rw [hU]; exact hW⟩⟩
  · rw [hU, hS.2.1 q (Nat.lt_of_lt_of_le hq hB.2.2) (fun h => by have h : fo G ≤ q := h; omega)]
    exact hB.2.1 q hq
  · rw [hU]
    have := hW.2.2.2
    omega
theorem f_callB {G : fG} {s : State} {R : Room} {args : Array Value} {own : String} {idx d d2 mc ms n : Nat} {z2 : fMi} (hG : fOK G) (hB : fB G s) (hk : fMk z2 n) (hh : z2.2.2.2.2 = []) (hm : (Cond.methodLink own idx z2.1).before args s = true) (hdd : d2 < d) (h1 : d + 20 ≤ R.frames) (h2 : 64 * d + 300 ≤ R.locals) : CallB R s args own idx z2.1 z2.2.1 z2.2.2.1 z2.2.2.2.1 [fword z2] (frm d2 mc ms) mc ms n := by
  have hcode : fword z2 = Cond.code z2.1 z2.2.1 z2.2.2.1 z2.2.2.2.1 := by simp [fword, hh]
  have hw : ∀ a, (fword z2).before a s = true := fun a => f_word hG hB hk.1.1 hk.1.2 a
  have e0 : z2.2.2.1 ≤ 40 := hk.2.2.2.2.2
  have e1 : (frm d2 mc ms).frames + 1 ≤ R.frames := by show d2 + 20 + 1 ≤ R.frames; omega
  have e2 : 8 + (z2.2.2.1 + 11) + (frm d2 mc ms).locals ≤ R.locals := by rw [frm_loc]; exact f_ar e0 hdd h2
  refine ⟨rfl, rfl, e1, e2, fun w hw1 a' U hU => ?_, by rw [← hcode]; exact List.mem_cons_self, by rw [← hcode]; exact hw args, f_word hG hB hk.2.1 rfl args, hk.2.2.1, fun sig h => ?_, hm⟩
  · have hw2 : w = fword z2 := by simpa using hw1
    subst hw2
    exact word_at hU (good_of_word hk.1.2) (hw args)
  · have h9 := hk.2.2.2.1
    rw [h] at h9
    exact (Option.some.inj h9).symm
theorem f_callN {G : fG} {s : State} {R : Room} {args : Array Value} {own host : String} {idx d d2 mc ms n : Nat} {z2 : fMi} (hG : fOK G) (hB : fB G s) (hk : fMk z2 n) (hh : z2.2.2.2.2 = []) (hm : Cond.methodLinkNest own idx z2.1 host ∈ lw_tbl) (hdd : d2 < d) (h1 : d + 20 ≤ R.frames) (h2 : 64 * d + 300 ≤ R.locals) : va_CN R s args own idx z2.1 host z2.2.1 z2.2.2.1 z2.2.2.2.1 [fword z2] (frm d2 mc ms) mc ms n := by
  have hcode : fword z2 = Cond.code z2.1 z2.2.1 z2.2.2.1 z2.2.2.2.1 := by simp [fword, hh]
  have hw : ∀ a, (fword z2).before a s = true := fun a => f_word hG hB hk.1.1 hk.1.2 a
  have e0 : z2.2.2.1 ≤ 40 := hk.2.2.2.2.2
  have e1 : (frm d2 mc ms).frames + 1 ≤ R.frames := by show d2 + 20 + 1 ≤ R.frames; omega
  have e2 : 8 + (z2.2.2.1 + 11) + (frm d2 mc ms).locals ≤ R.locals := by rw [frm_loc]; exact f_ar e0 hdd h2
  refine ⟨⟨rfl, rfl, e1, e2, fun w hw1 a' U hU => ?_, by rw [← hcode]; exact List.mem_cons_self⟩, by rw [← hcode]; exact hw args, f_word hG hB hk.2.1 rfl args, hk.2.2.1, fun sig h => ?_, f_nestM hG hB hm args⟩
  · have hw2 : w = fword z2 := by simpa using hw1
    subst hw2
    exact word_at hU (good_of_word hk.1.2) (hw args)
  · have h9 := hk.2.2.2.1
    rw [h] at h9
    exact (Option.some.inj h9).symm
theorem f_recv {G : fG} {s : State} {H : Heap} {S : fS} {k ci : Nat} {sl : List (Option (Option Nat))} {C : String} (hK : va_K (gD G) fcl (ftys G) s) (hW : fW G S H) (hL : S.1[k]? = some (.inl (ci, sl))) (hc : (fcl[ci]?).map (fun q => q.1) = some C) : ∃ cell : Cell, H[fad G k]? = some cell ∧ cell.vm.isStatics = false ∧ s.vm.findClass C = some cell.cls := by
  rw [fad_lt (fW_lt hW hL)]
  cases hq : fcl[ci]? with
  | none => rw [hq] at hc; cases hc
  | some q =>
    rw [hq] at hc
    cases hc
    exact va_recv hK hW.1 hq (fwl_get0 (G := G) hL)
theorem f_callS {G : fG} {z : fMi} {d pc : Nat} {Q : fR → fS → Prop} {ls : List (Option Value)} {st : List Value} {S : fS} {kc ks : Nat} (hG : fOK G) {z2 : fMi} {d2 idx n mc ms : Nat} {As rest : List Value} {Q2 : fR → fS → Prop} (hk : fMk z2 n) (hh : z2.2.2.2.2 = []) (hm : Cond.methodLink z.1.cls idx z2.1 ∈ lw_tbl) (hs : Cond.static z2.1 ∈ lw_tbl) (hd : decode z.2.1 pc = .ok (.invokestatic idx, 3)) (hc : fCt G z2 d2 (As) S mc ms Q2) (hn : As.length = n) (hdd : d2 < d) (hmc : mc ≤ kc) (hms : ms ≤ ks) (hcat : (rest.map (fun v => v.category)).sum ≤ 8) (hst : st = As.reverse ++ rest)
    (kx : ∀ (E : String) (S' : fS), Q2 (.inr E) S' → fVX G z d Q pc ls rest S' (kc - mc) (ks - ms) E) (kk : ∀ (v : Option Value) (S' : fS), Q2 (.inl v) S' → fV G z d Q (pc + 3) ls (v.toList ++ rest) S' (kc - mc) (ks - ms)) : fV G z d Q pc ls st S kc ks := by
  intro p e s m args below meth c R Z H locs cells slots lsr hC hE h1 h2 h3 h4 hW hS hl
  obtain ⟨hx, hb, hml, hr, hown, hlocks, ht, hnm, hB⟩ := id hC
  subst hst
  have hpp := f_preS (As := As) hB hW hS
  exact f_after hC hE h1 h2 h3 h4 hS hl hmc hms (vx_runS (nL := z.2.2.1) (Ts := []) (n := n) (own := z.1.cls) (As := As.map (frl G)) (rest := rest.map (frl G)) ⟨hx, hb, hml, hown, fun _ h => nomatch h⟩ hc ⟨f_callB hG hB hk hh (f_word hG hB hm rfl args) hdd h1 h2, f_word hG hB hs rfl args⟩ hpp rfl (by simpa using hn) hl.1 (by rw [List.map_append, List.map_reverse]) (lv_room (by rw [f_cat]; exact hcat)) hd ⟨by omega, by omega⟩) kk kx

theorem f_callV {G : fG} {z : fMi} {d pc : Nat} {Q : fR → fS → Prop} {ls : List (Option Value)} {st : List Value} {S : fS} {kc ks : Nat} (hG : fOK G) {z2 : fMi} {d2 idx n mc ms : Nat} {As rest : List Value} {Q2 : fR → fS → Prop} (hk : fMk z2 n) (hh : z2.2.2.2.2 = []) (hm : Cond.methodLink z.1.cls idx z2.1 ∈ lw_tbl) (hi : Cond.instanceMethod z2.1 ∈ lw_tbl) (hs : Cond.selects z2.1.cls z2.1 z2.1 ∈ lw_tbl) {k ci : Nat} {sl : List (Option (Option Nat))} (hL : S.1[k]? = some (.inl (ci, sl))) (hcl : (fcl[ci]?).map (fun q => q.1) = some z2.1.cls) (hd : decode z.2.1 pc = .ok (.invokevirtual idx, 3)) (hc : fCt G z2 d2 (.ref k :: As) S mc ms Q2) (hn : As.length = n) (hdd : d2 < d) (hmc : mc ≤ kc) (hms : ms ≤ ks) (hcat : (rest.map (fun v => v.category)).sum ≤ 8) (hst : st = As.reverse ++ .ref k :: rest)
    (kx : ∀ (E : String) (S' : fS), Q2 (.inr E) S' → fVX G z d Q pc ls rest S' (kc - mc) (ks - ms) E) (kk : ∀ (v : Option Value) (S' : fS), Q2 (.inl v) S' → fV G z d Q (pc + 3) ls (v.toList ++ rest) S' (kc - mc) (ks - ms)) : fV G z d Q pc ls st S kc ks := by
  intro p e s m args below meth c R Z H locs cells slots lsr hC hE h1 h2 h3 h4 hW hS hl
  obtain ⟨hx, hb, hml, hr, hown, hlocks, ht, hnm, hB⟩ := id hC
  subst hst
  have hrc := f_recv (f_K hG hB) hW hL hcl
  have hpp := f_preS (As := .ref k :: As) hB hW hS
  exact f_after hC hE h1 h2 h3 h4 hS hl hmc hms (vx_runV (nL := z.2.2.1) (Ts := []) (n := n) (own := z.1.cls) (As := As.map (frl G)) (rest := rest.map (frl G)) ⟨hx, hb, hml, hown, fun _ h => nomatch h⟩ hc ⟨f_callB hG hB hk hh (f_word hG hB hm rfl args) hdd h1 h2, f_word hG hB hi rfl args, f_word hG hB hs rfl args⟩ ⟨hpp.1, hrc, hpp.2⟩ rfl (by simpa using hn) hl.1 (by rw [List.map_append, List.map_reverse]; rfl) (lv_room (by rw [f_cat]; exact hcat)) hd ⟨by omega, by omega⟩) kk kx

theorem f_callVN {G : fG} {z : fMi} {d pc : Nat} {Q : fR → fS → Prop} {ls : List (Option Value)} {st : List Value} {S : fS} {kc ks : Nat} (hG : fOK G) {z2 : fMi} {d2 idx n mc ms : Nat} {As rest : List Value} {Q2 : fR → fS → Prop} (hk : fMk z2 n) (hh : z2.2.2.2.2 = []) {host : String} (hm : Cond.methodLinkNest z.1.cls idx z2.1 host ∈ lw_tbl) (hi : Cond.instanceMethod z2.1 ∈ lw_tbl) (hs : Cond.selects z2.1.cls z2.1 z2.1 ∈ lw_tbl) {k ci : Nat} {sl : List (Option (Option Nat))} (hL : S.1[k]? = some (.inl (ci, sl))) (hcl : (fcl[ci]?).map (fun q => q.1) = some z2.1.cls) (hd : decode z.2.1 pc = .ok (.invokevirtual idx, 3)) (hc : fCt G z2 d2 (.ref k :: As) S mc ms Q2) (hn : As.length = n) (hdd : d2 < d) (hmc : mc ≤ kc) (hms : ms ≤ ks) (hcat : (rest.map (fun v => v.category)).sum ≤ 8) (hst : st = As.reverse ++ .ref k :: rest)
    (hno : ∀ E S', ¬ Q2 (.inr E) S') (kk : ∀ (v : Option Value) (S' : fS), Q2 (.inl v) S' → fV G z d Q (pc + 3) ls (v.toList ++ rest) S' (kc - mc) (ks - ms)) : fV G z d Q pc ls st S kc ks := by
  intro p e s m args below meth c R Z H locs cells slots lsr hC hE h1 h2 h3 h4 hW hS hl
  obtain ⟨hx, hb, hml, hr, hown, hlocks, ht, hnm, hB⟩ := id hC
  subst hst
  have hrc := f_recv (f_K hG hB) hW hL hcl
  have hpp := f_preS (As := .ref k :: As) hB hW hS
  exact f_after hC hE h1 h2 h3 h4 hS hl hmc hms (f_va2vx (XC := fXC G Q2) (va_runVN (nL := z.2.2.1) (Ts := []) (n := n) (own := z.1.cls) (As := As.map (frl G)) (rest := rest.map (frl G)) ⟨hx, hb, hml, hown, fun _ h => nomatch h⟩ (fCt_met hc hno) ⟨f_callN hG hB hk hh hm hdd h1 h2, f_word hG hB hi rfl args, f_word hG hB hs rfl args⟩ ⟨hpp.1, hrc, hpp.2⟩ rfl (by simpa using hn) hl.1 (by rw [List.map_append, List.map_reverse]; rfl) (lv_room (by rw [f_cat]; exact hcat)) hd ⟨by omega, by omega⟩)) kk (fun E S' h => absurd h (hno E S'))

theorem f_callSN {G : fG} {z : fMi} {d pc : Nat} {Q : fR → fS → Prop} {ls : List (Option Value)} {st : List Value} {S : fS} {kc ks : Nat} (hG : fOK G) {z2 : fMi} {d2 idx n mc ms : Nat} {As rest : List Value} {Q2 : fR → fS → Prop} (hk : fMk z2 n) (hh : z2.2.2.2.2 = []) {host : String} (hm : Cond.methodLinkNest z.1.cls idx z2.1 host ∈ lw_tbl) (hs : Cond.static z2.1 ∈ lw_tbl) (hd : decode z.2.1 pc = .ok (.invokestatic idx, 3)) (hc : fCt G z2 d2 (As) S mc ms Q2) (hn : As.length = n) (hdd : d2 < d) (hmc : mc ≤ kc) (hms : ms ≤ ks) (hcat : (rest.map (fun v => v.category)).sum ≤ 8) (hst : st = As.reverse ++ rest)
    (hno : ∀ E S', ¬ Q2 (.inr E) S') (kk : ∀ (v : Option Value) (S' : fS), Q2 (.inl v) S' → fV G z d Q (pc + 3) ls (v.toList ++ rest) S' (kc - mc) (ks - ms)) : fV G z d Q pc ls st S kc ks := by
  intro p e s m args below meth c R Z H locs cells slots lsr hC hE h1 h2 h3 h4 hW hS hl
  obtain ⟨hx, hb, hml, hr, hown, hlocks, ht, hnm, hB⟩ := id hC
  subst hst
  have hpp := f_preS (As := As) hB hW hS
  exact f_after hC hE h1 h2 h3 h4 hS hl hmc hms (f_va2vx (XC := fXC G Q2) (va_runSN (nL := z.2.2.1) (Ts := []) (n := n) (own := z.1.cls) (As := As.map (frl G)) (rest := rest.map (frl G)) ⟨hx, hb, hml, hown, fun _ h => nomatch h⟩ (fCt_met hc hno) ⟨f_callN hG hB hk hh hm hdd h1 h2, f_word hG hB hs rfl args, trivial⟩ hpp rfl (by simpa using hn) hl.1 (by rw [List.map_append, List.map_reverse]) (lv_room (by rw [f_cat]; exact hcat)) hd ⟨by omega, by omega⟩)) kk (fun E S' h => absurd h (hno E S'))

theorem f_callI {G : fG} {z : fMi} {d pc : Nat} {Q : fR → fS → Prop} {ls : List (Option Value)} {st : List Value} {S : fS} {kc ks : Nat} (hG : fOK G) {z2 : fMi} {d2 idx n mc ms : Nat} {As rest : List Value} {Q2 : fR → fS → Prop} (hk : fMk z2 n) (hh : z2.2.2.2.2 = []) (hret : z2.2.2.2.1 = none) (hm : Cond.methodLink z.1.cls idx z2.1 ∈ lw_tbl) (hi : Cond.instanceMethod z2.1 ∈ lw_tbl) (hnm2 : z2.1.name = "<init>") {k : Nat} (hd : decode z.2.1 pc = .ok (.invokespecial idx, 3)) (hc : fCt G z2 d2 (.ref k :: As) S mc ms Q2) (hn : As.length = n) (hdd : d2 < d) (hmc : mc ≤ kc) (hms : ms ≤ ks) (hcat : (rest.map (fun v => v.category)).sum ≤ 8) (hst : st = As.reverse ++ .ref k :: rest)
    (hno : ∀ E S', ¬ Q2 (.inr E) S') (kk : ∀ (v : Option Value) (S' : fS), Q2 (.inl v) S' → fV G z d Q (pc + 3) ls (v.toList ++ rest) S' (kc - mc) (ks - ms)) : fV G z d Q pc ls st S kc ks := by
  intro p e s m args below meth c R Z H locs cells slots lsr hC hE h1 h2 h3 h4 hW hS hl
  obtain ⟨hx, hb, hml, hr, hown, hlocks, ht, hnm, hB⟩ := id hC
  subst hst
  have hpp := f_preS (As := .ref k :: As) hB hW hS
  exact f_after hC hE h1 h2 h3 h4 hS hl hmc hms (f_va2vx (XC := fXC G Q2) (va_runI (nL := z.2.2.1) (Ts := []) (n := n) (own := z.1.cls) (As := As.map (frl G)) (rest := rest.map (frl G)) ⟨hx, hb, hml, hown, fun _ h => nomatch h⟩ (fCt_met hc hno) ⟨hret ▸ f_callB hG hB hk hh (f_word hG hB hm rfl args) hdd h1 h2, hnm2, f_word hG hB hi rfl args⟩ hpp rfl (by simpa using hn) hl.1 (by rw [List.map_append, List.map_reverse]; rfl) (lv_room (by rw [f_cat]; exact hcat)) hd ⟨by omega, by omega⟩)) kk (fun E S' h => absurd h (hno E S'))

theorem f_callIN {G : fG} {z : fMi} {d pc : Nat} {Q : fR → fS → Prop} {ls : List (Option Value)} {st : List Value} {S : fS} {kc ks : Nat} (hG : fOK G) {z2 : fMi} {d2 idx n mc ms : Nat} {As rest : List Value} {Q2 : fR → fS → Prop} (hk : fMk z2 n) (hh : z2.2.2.2.2 = []) (hret : z2.2.2.2.1 = none) {host : String} (hm : Cond.methodLinkNest z.1.cls idx z2.1 host ∈ lw_tbl) (hi : Cond.instanceMethod z2.1 ∈ lw_tbl) (hnm2 : z2.1.name = "<init>") {k : Nat} (hd : decode z.2.1 pc = .ok (.invokespecial idx, 3)) (hc : fCt G z2 d2 (.ref k :: As) S mc ms Q2) (hn : As.length = n) (hdd : d2 < d) (hmc : mc ≤ kc) (hms : ms ≤ ks) (hcat : (rest.map (fun v => v.category)).sum ≤ 8) (hst : st = As.reverse ++ .ref k :: rest)
    (hno : ∀ E S', ¬ Q2 (.inr E) S') (kk : ∀ (v : Option Value) (S' : fS), Q2 (.inl v) S' → fV G z d Q (pc + 3) ls (v.toList ++ rest) S' (kc - mc) (ks - ms)) : fV G z d Q pc ls st S kc ks := by
  intro p e s m args below meth c R Z H locs cells slots lsr hC hE h1 h2 h3 h4 hW hS hl
  obtain ⟨hx, hb, hml, hr, hown, hlocks, ht, hnm, hB⟩ := id hC
  subst hst
  have hpp := f_preS (As := .ref k :: As) hB hW hS
  exact f_after hC hE h1 h2 h3 h4 hS hl hmc hms (f_va2vx (XC := fXC G Q2) (va_runIN (nL := z.2.2.1) (Ts := []) (n := n) (own := z.1.cls) (As := As.map (frl G)) (rest := rest.map (frl G)) ⟨hx, hb, hml, hown, fun _ h => nomatch h⟩ (fCt_met hc hno) ⟨hret ▸ f_callN hG hB hk hh hm hdd h1 h2, hnm2, f_word hG hB hi rfl args⟩ hpp rfl (by simpa using hn) hl.1 (by rw [List.map_append, List.map_reverse]; rfl) (lv_room (by rw [f_cat]; exact hcat)) hd ⟨by omega, by omega⟩)) kk (fun E S' h => absurd h (hno E S'))

