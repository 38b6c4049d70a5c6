/-! ===== the entry (begun from the starting text of the claim) ===== -/
/-! THE CLAIM OUT OF ONE WALK OF THE LAW'S BODY. Your part is whole_start (and what it stands on); all else here is the same for every law, but numbers. -/
def R_law : String := "JarCanneryLaw"
def lw_P (b : Addr) (xs : List Int32) (args : Array Value) (s : State) : Prop := args = #[.ref b] ∧ s.IntsAt b xs ∧ xs.length ≤ 2560 ∧ (Jvm.Cond.and given_1 narrow_1).before args s = true
/-- what a walk over the start with the record d0 says of its end, said of the start itself -/
theorem lw_closed {s t : State} {o : Outcome} {d0 : Drawn} {L : List Loc} {k n : Nat} (hd0 : s.drawn.sameBut d0 lw_cs) (hv : ∃ v, o = .returned v) (hW : (s.setDrawn d0).WarmedH t.vm) (hs : (s.setDrawn d0).sameButNew ({ t with vm := s.vm } : State) L k n) : State.butDraws s t lw_cs (fun t1 => Framed s o t1 L k n) := by
  have h2 : t.drawn = d0 := congrArg State.drawn hs.1
  refine ⟨⟨hv, hW, State.sameButNew.setDrawn hs s.drawn⟩, ?_, by decide⟩
  rw [h2]
  exact hd0
def lw_Q (_ : Array Value) (s : State) (o : Outcome) (t : State) : Prop := o = .returned (some (.int 1)) ∧ State.butDraws s t lw_cs (fun t1 => Framed s o t1 [] 603072 7198826)
def lw_Z (below : List Frame) (a : Array Value) (s : State) : State → Prop := fun t => ∃ o, t.status = .running ∧ Ended t below o ∧ lw_Q a s o t
/-- the law's own end, with 1 on the stack, nothing written that was there before, its room as the claim has it; d0: the record of draws at this point (at the entry s.drawn: begin with 'refine W.base ?_' and 'have hd0 := Drawn.sameBut.refl s.drawn lw_cs') -/
theorem lw_ret {p : Program} {l : Launch} {e : Env} {s : State} {m : MethodId} {below : List Frame} {meth : Method} {c : Code} {b : Nat} {d0 : Drawn} (hd0 : s.drawn.sameBut d0 lw_cs) (hx : p.tables.exec = Jvm.exec) (hb : c.code = code) (hr : meth.sig.returnType = ret) (hlocks : meth.locks = false) {pc : Nat} {H : Heap} {ls : Array Slot} (hdg : decode code pc = .ok (.ireturn, 1)) : W p l e room_1 (s.setDrawn d0) m #[Value.ref b] below meth c H [] 603072 7198826 (lw_Z below #[Value.ref b] s) (F0 m pc ls [.int 1]) := by
  intro T hT X
  obtain ⟨fs, hret, hrun, hended, hW, hframe⟩ := X.leave (v := some (.int 1)) (hlocks := hlocks) (fun h => by rw [hr] at h; cases h)
  have hmeth' : T.vm.method? m = some meth := X.method'
  refine ⟨T.setFrames fs, ?_, .returned (some (.int 1)), hrun, hended, rfl, lw_closed hd0 ⟨_, rfl⟩ hW hframe⟩
  jvm_step X.here [X.here.top, hx, hb, hdg, hmeth', hr, ret, narrow_b1]
  (try refine ⟨rfl, ?_⟩); (try refine ⟨rfl, ?_⟩)
  first | (intro acts; rw [hret _ acts rfl rfl rfl]) | rw [hret _ _ rfl rfl rfl]
  exact Steps.refl _
/-- what holds at the law's entry: the machine, the code, the tables' words (any of lw_tbl by 'hts w (by decide +kernel)'), the script of L ints xs at the cell b, what the Statement gives of the start (any of its parts by flat_of_before) -/
def lw_At (p : Program) (s : State) (m : MethodId) (meth : Method) (c : Code) (b L : Nat) (xs : Nat → Int32) : Prop :=
  p.tables.exec = Jvm.exec ∧ c.code = code ∧ meth.sig.returnType = ret ∧ c.maxLocals = 9 ∧ s.vm.findClass R_law = some m.cls ∧ (∀ w ∈ lw_tbl, w.before #[Value.ref b] s = true) ∧ va_X b L xs s s.heap ∧ b < s.heap.size ∧ meth.locks = false ∧ (Jvm.Cond.and given_1 narrow_1).before #[Value.ref b] s = true ∧ c.exceptionTable.toList = [] ∧ meth.name = x.name
/-- the world at the loop's first round -/
def M00 : fM := fst1 (fst1 (fst1 (fst1 (fst1 (fst1 (fst1 (fst1 (fun _ _ => 0) 267 0 (nI 60)) 270 0 (nI 60)) 273 0 (nI 6)) 277 0 (nI 60)) 0 11 (-1 : Int32)) 0 12 (-1 : Int32)) 296 10 (-1 : Int32)) 296 11 (-1 : Int32)
noncomputable def bLaw : List fE := bX11 ++ bX12 296 ++ [.inr (2, 1, [])] ++ [.inr (3, 1, [])]
set_option maxRecDepth 100000 in
theorem bLaw_eq : bLaw = L1 := rfl
theorem zz_0 : zz (fun _ _ => 0) 0 := fun _ _ _ => rfl
set_option maxRecDepth 100000 in
set_option maxHeartbeats 4000000 in
theorem law_init {G : fG} (hG : fOK G) {Q : fR → fS → Prop} (kk : fV G z_L_law 70 Q 28 (lLs 0 none none none) [] (sS M00 0) 500000 7000000) : fV G z_L_law 70 Q 0 [some (.ref 4121), none, none, none, none, none, none, none, none] [] (mS [] [] (fun _ _ => 0)) 603072 7198826 := by
  have hP : ([] : List fE).length = 0 := rfl
  refine m_new hG (n := 0) ([.inl (10, bl_X11)]) rfl hP rfl (zz_0.up (by omega)) rfl nw_X11 dL_law_0 cl_L_8 in_X11 ini_X11 (by omega) (by omega) (by omega) ?_
  refine f_dup dL_law_3 rfl ?_
  refine m_init hG (kc := 603071) (ks := 7198813) (st := [.ref 0]) (n := 0) (B := []) (as := []) (blk := bX11) (M' := (fst1 (fst1 (fst1 (fst1 (fst1 (fst1 (fun _ _ => 0) 267 0 (nI 60)) 270 0 (nI 60)) 273 0 (nI 6)) 277 0 (nI 60)) 0 11 (-1 : Int32)) 0 12 (-1 : Int32))) bX11 rfl rfl hP rfl rfl dL_law_4 k_X11_init rfl rfl rfl ml_L_149 im_X11_init rfl (c_X11_init hG (d := 4) (Nat.le_refl _) _ zz_0) (by decide) rfl (Nat.le_of_ble_eq_true rfl) (by omega) (by omega) ?_
  refine f_astore_n (ls' := [some (.ref 4121), some (.ref 0), none, none, none, none, none, none, none]) dL_law_7 rfl (Nat.le_of_ble_eq_true rfl) rfl rfl ?_
  have z6 : zz (fst1 (fst1 (fst1 (fst1 (fst1 (fst1 (fun _ _ => 0) 267 0 (nI 60)) 270 0 (nI 60)) 273 0 (nI 6)) 277 0 (nI 60)) 0 11 (-1 : Int32)) 0 12 (-1 : Int32)) 296 := (((((((zz_0.up (by omega)).put (by omega)).put (by omega)).put (by omega)).put (by omega)).put (by omega)).put (by omega))
  refine m_new hG (n := 296) (bX11 ++ [.inl (11, bl_X12)]) rfl hP rfl z6 rfl nw_X12 dL_law_8 cl_L_150 in_X12 ini_X12 (by omega) (by omega) (by omega) ?_
  refine f_dup dL_law_11 rfl ?_
  refine m_init hG (kc := 602775) (ks := 7196111) (st := [.ref 296]) (n := 296) (B := bX11) (as := []) (blk := bX12 296) (M' := M00) (bX11 ++ bX12 296) rfl rfl hP rfl rfl dL_law_12 k_X12_init rfl rfl rfl ml_L_152 im_X12_init rfl (c_X12_init hG (d := 0) (Nat.le_refl _) 296 _ z6 (by omega)) (by decide) rfl (Nat.le_of_ble_eq_true rfl) (by omega) (by omega) ?_
  refine f_astore_n (ls' := [some (.ref 4121), some (.ref 0), some (.ref 296), none, none, none, none, none, none]) dL_law_15 rfl (Nat.le_of_ble_eq_true rfl) rfl rfl ?_
  have z8 : zz M00 306 := ((z6.up (by omega)).put (by omega)).put (by omega)
  refine f_iconst (v := 1) dL_law_16 rfl ?_
  refine m_newarr hG (N := 1) (n := 306) (bX11 ++ bX12 296 ++ [.inr (2, 1, [])]) rfl hP rfl z8 dL_law_17 rfl (by decide) ac_long (by decide) rfl (by decide) (by omega) (by omega) (by omega) ?_
  refine f_astore_n (ls' := [some (.ref 4121), some (.ref 0), some (.ref 296), some (.ref 306), none, none, none, none, none]) dL_law_19 rfl (Nat.le_of_ble_eq_true rfl) rfl rfl ?_
  refine f_iconst (v := 1) dL_law_20 rfl ?_
  refine m_newarr hG (N := 1) (n := 307) bLaw rfl hP rfl (z8.up (by omega)) dL_law_21 rfl (by decide) ac_double (by decide) rfl (by decide) (by omega) (by omega) (by omega) ?_
  refine f_astore (ls' := [some (.ref 4121), some (.ref 0), some (.ref 296), some (.ref 306), some (.ref 307), none, none, none, none]) dL_law_23 (Nat.le_of_ble_eq_true rfl) rfl rfl ?_
  refine f_iconst (v := 0) dL_law_25 rfl ?_
  refine f_istore (ls' := [some (.ref 4121), some (.ref 0), some (.ref 296), some (.ref 306), some (.ref 307), some (.int 0), none, none, none]) dL_law_26 (Nat.le_of_ble_eq_true rfl) rfl rfl ?_
  refine f_loose ?_
  refine f_cg (ls' := lLs 0 none none none) rfl rfl (S' := sS M00 0) (show ([] ++ bLaw, M00, (0 : UInt64), false) = sS M00 0 by rw [bLaw_eq]; rfl) ?_
  exact f_less (by omega) (by omega) kk
set_option maxRecDepth 100000 in
set_option maxHeartbeats 4000000 in
/-- the claim's walk, over an invariant that every call keeps -/
theorem whole_open {Iv : Nat → fM → Prop} (hops : ∀ (G : fG), fOK G → ∀ (c : Nat) (M : fM) (dv : UInt64) (a b e f : Int32), c < 512 → Iv c M → Ops G Iv c M dv a b e f) (hmono : ∀ c M, Iv c M → Iv (c + 1) M) (h0 : Iv 0 M00) {p : Program} {e : Env} {s : State} {m : MethodId} {below : List Frame} {meth : Method} {c : Code} (l : Launch) (hflags : l.flags = flags0) {b L : Nat} {xs : Nat → Int32} (hL : L ≤ 2560) (C0 : lw_At p s m meth c b L xs) : W p l e room_1 s m #[Value.ref b] below meth c s.heap [] 0 0 (lw_Z below #[Value.ref b] s) (entryFrame m ([Value.ref b] : List Value).toArray 9) := by
  obtain ⟨hx, hb, hr, hml, hown, hts, hX, hbl, hlocks, hgv, htab, hnm⟩ := id C0
  have hs := flat_of_before _ hgv
  have hst : l.stackTraces = false := by rw [Launch.stackTraces, hflags]; decide +kernel
  obtain ⟨G, hG, e1, e2, e3, e4⟩ := st_ok (args := #[Value.ref b]) hst hts hs b L xs
  have hsz : fo G = s.heap.size := by rw [fo, e1]
  have hXg : va_X (gsa G 25) L xs (gs G) (gs G).heap := by rw [e4, e1]; exact hX
  have hblg : gsa G 25 < fo G := by rw [e4, hsz]; exact hbl
  have hB : fB G s := ⟨by rw [e1]; exact State.WarmedH.refl s, fun q _ => by rw [e1], by rw [hsz]; exact Nat.le_refl _⟩
  have hC : fC0 G z_L_law p s m meth c := ⟨hx, hb, hml, hr, hown, hlocks, htab, hnm, hB⟩
  have hE : fEnd G z_L_law (fun r _ => r = .inl (some (.int 1))) p e room_1 s m #[Value.ref b] below meth c (lw_Z below #[Value.ref b] s) := by
    refine ⟨?_, Or.inl rfl⟩
    intro v S H locs cells slots pc ls hQ hW hS h1 h2 hret
    cases hQ
    refine va_forget (fun q hq => ?_) ?_
    · have h9 : fo G ≤ q.base := hS.2.2 q hq
      rw [← hsz]; exact h9
    refine W.widen h1 h2 ?_
    exact W.base (lw_ret (Drawn.sameBut.refl s.drawn lw_cs) hx hb hr hlocks hret.1)
  have hW : fW G (mS [] [] (fun _ _ => 0)) s.heap := ⟨fun k q h => by simp [fwl] at h, Nat.zero_le _, fun _ => by rw [hsz]; rfl, by rw [hsz]; exact Nat.le_refl _⟩
  have k := law_init hG (Q := fun r _ => r = .inl (some (.int 1))) (lw_loop hG hXg hblg hL (hops G hG) hmono (fun _ => rfl) 512 0 M00 0 500000 7000000 (by omega) (by omega) (by omega) (by omega) h0)
  have hl := lv_entry ([.ref b]) (n := 9) (Nat.le_of_ble_eq_true rfl)
  rw [lg_entry_eq]
  generalize (lg_sl ([.ref b]) ++ List.replicate (9 - (lg_sl ([.ref b])).length) Slot.unset).toArray = ls at hl ⊢
  have hl : lv_has ls 9 [(0, .ref b)] := hl
  have e5 : fad G 4121 = b := by rw [← e4]; rfl
  have hl2 : lv_has ls 9 [(0, .ref (fad G 4121))] := by rw [e5]; exact hl
  have k2 := k p e s m #[Value.ref b] below meth c room_1 _ s.heap [] 0 0 ls hC hE (by decide) (by decide) (by decide) (by decide) hW va_S.rf hl2
  rw [e3] at k2
  exact k2
