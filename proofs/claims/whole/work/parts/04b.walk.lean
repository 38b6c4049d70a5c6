/-! ===== a method's walk over the flat world ===== -/
/-- where a walk stands, but the heap -/
def fC0 (G : fG) (z : fMi) (p : Program) (s : State) (m : MethodId) (meth : Method) (c : Code) : Prop :=
  p.tables.exec = Jvm.exec ∧ c.code = z.2.1 ∧ c.maxLocals = z.2.2.1 ∧ meth.sig.returnType = z.2.2.2.1 ∧ s.vm.findClass z.1.cls = some m.cls ∧ meth.locks = false ∧ c.exceptionTable.toList = tableOf z.2.2.2.2 ∧ meth.name = z.1.name ∧ fB G s
abbrev fA (G : fG) : Nat → Prop := fun q => fo G ≤ q
def fPc (G : fG) (args : List Value) (S : fS) : Array Value → State → Prop := fun v U => v = (args.map (frl G)).toArray ∧ fB G U ∧ fW G S U.heap
def fQc (G : fG) (Q : fR → fS → Prop) : Array Value → State → Outcome → State → Prop := fun _ st oc t => (∃ (v : Option Value) (S : fS), oc = .returned (v.map (frl G)) ∧ Q (.inl v) S ∧ fW G S t.heap) ∧ va_F (fA G) st t
def fXC (G : fG) (Q : fR → fS → Prop) : String → State → State → Prop := fun E st t => (∃ S : fS, Q (.inr E) S ∧ fW G S t.heap) ∧ va_F (fA G) st t
def frm (d mc ms : Nat) : Room := { frames := d + 20, cells := mc, slots := ms, locals := 64 * d + 300 }
def fword (z : fMi) : Cond := match z.2.2.2.2 with
  | [] => .code z.1 z.2.1 z.2.2.1 z.2.2.2.1
  | h :: t => .codeWith z.1 z.2.1 z.2.2.1 z.2.2.2.1 (h :: t)
/-- THE CONTRACT: from every state where the world is S, with these arguments: it comes to an end of which Q holds -/
def fCt (G : fG) (z : fMi) (d : Nat) (args : List Value) (S : fS) (mc ms : Nat) (Q : fR → fS → Prop) : Prop :=
  vx_Met (gl G) z.1 [fword z] (frm d mc ms) (fPc G args S) (fQc G Q) (fXC G Q) mc ms (fA G)
/-- a return at pc of the value v -/
def fRet (z : fMi) (pc : Nat) (v : Option Value) : Prop := match v with
  | none => decode z.2.1 pc = .ok (.return_, 1) ∧ z.2.2.2.1 = none
  | some (.int x) => decode z.2.1 pc = .ok (.ireturn, 1) ∧ ∃ ty, z.2.2.2.1 = some ty ∧ narrow ty (.int x) = .int x
  | some (.ref _) => decode z.2.1 pc = .ok (.areturn, 1) ∧ ∃ rt, z.2.2.2.1 = some rt ∧ ((∃ n, rt = .object n) ∨ ∃ t, rt = .array t)
  | some .null => decode z.2.1 pc = .ok (.areturn, 1) ∧ ∃ rt, z.2.2.2.1 = some rt ∧ ((∃ n, rt = .object n) ∨ ∃ t, rt = .array t)
  | some (.float _) => decode z.2.1 pc = .ok (.freturn, 1) ∧ z.2.2.2.1 = some .float
  | some (.double _) => decode z.2.1 pc = .ok (.dreturn, 1) ∧ z.2.2.2.1 = some .double
  | _ => False
/-- what an end owes: the return; and (but for the law's own entry) what the end's word is -/
def fEnd (G : fG) (z : fMi) (Q : fR → fS → Prop) (p : Program) (e : Env) (R : Room) (s : State) (m : MethodId) (args : Array Value) (below : List Frame) (meth : Method) (c : Code) (Z : State → Prop) : Prop :=
  (∀ (v : Option Value) (S : fS) (H : Heap) (locs : List Loc) (cells slots pc : Nat) (ls : Array Slot), Q (.inl v) S → fW G S H → va_S (fA G) s.heap H locs → cells ≤ R.cells → slots ≤ R.slots → fRet z pc v → W p (gl G) e R s m args below meth c H locs cells slots Z (F0 m pc ls (v.toList.map (frl G)))) ∧
  (z.1 = x ∨ Z = vx_MQ below (fQc G Q) (fXC G Q) args s R.cells R.slots (fA G))
/-- THE WALK at pc: locals ls, stack st, world S, with kc cells and ks slots left to make -/
def fV (G : fG) (z : fMi) (d : Nat) (Q : fR → fS → Prop) (pc : Nat) (ls : List (Option Value)) (st : List Value) (S : fS) (kc ks : Nat) : Prop :=
  ∀ (p : Program) (e : Env) (s : State) (m : MethodId) (args : Array Value) (below : List Frame) (meth : Method) (c : Code) (R : Room) (Z : State → Prop) (H : Heap) (locs : List Loc) (cells slots : Nat) (lsr : Array Slot),
    fC0 G z p s m meth c → fEnd G z Q p e R s m args below meth c Z → d + 20 ≤ R.frames → 64 * d + 300 ≤ R.locals → cells + kc ≤ R.cells → slots + ks ≤ R.slots →
    fW G S H → va_S (fA G) s.heap H locs → lv_has lsr z.2.2.1 (flv G ls 0) → W p (gl G) e R s m args below meth c H locs cells slots Z (F0 m pc lsr (st.map (frl G)))
/-- the locals at a method's entry -/
def fen (args : List Value) (n : Nat) : List (Option Value) := args.map some ++ List.replicate (n - args.length) none
theorem flv_en {G : fG} : ∀ (as : List Value) (n i : Nat), (∀ v ∈ as, v.category = 1) → flv G (as.map some ++ List.replicate n none) i = lv_args i (as.map (frl G))
  | [], n, i, _ => by
    have h : ∀ (n i : Nat), flv G (List.replicate n none) i = [] := by
      intro n
      induction n with
      | zero => intro i; rfl
      | succ n ih => intro i; simp only [List.replicate_succ, flv]; exact ih (i + 1)
    simpa [lv_args] using h n i
  | v :: t, n, i, h => by
    have h1 : (frl G v).category = 1 := by rw [frl_cat]; exact h v List.mem_cons_self
    simp only [List.map_cons, List.cons_append, flv, lv_args]
    rw [if_neg (by omega), flv_en t n (i + 1) (fun w hw => h w (List.mem_cons_of_mem _ hw))]
theorem lg_sl_len {vs : List Value} (h : ∀ v ∈ vs, v.category = 1) : (lg_sl vs).length = vs.length := by
  induction vs with
  | nil => rfl
  | cons v t ih =>
    have h1 : v.category = 1 := h v List.mem_cons_self
    have h2 := ih (fun w hw => h w (List.mem_cons_of_mem _ hw))
    simp only [lg_sl, List.flatMap_cons, List.length_append, List.length_cons] at h2 ⊢
    rw [if_neg (by omega)]
    simp only [List.length_cons, List.length_nil]
    omega
theorem fB_self {G : fG} {s : State} (h : fB G s) : va_S (fA G) s.heap s.heap [] := va_S.rf
/-- the end of a method whose walk is done -/
theorem fEnd_of {G : fG} {z : fMi} {Q : fR → fS → Prop} {p : Program} {e : Env} {R : Room} {s : State} {m : MethodId} {args : Array Value} {below : List Frame} {meth : Method} {c : Code} (hC : fC0 G z p s m meth c) : fEnd G z Q p e R s m args below meth c (vx_MQ below (fQc G Q) (fXC G Q) args s R.cells R.slots (fA G)) := by
  obtain ⟨hx, hb, hml, hr, hown, hlocks, ht, hnm, hB⟩ := hC
  refine ⟨?_, Or.inr rfl⟩
  intro v S H locs cells slots pc ls hQ hW hS h1 h2 hret
  refine vx_ret ?_
  refine W.widen h1 h2 ?_
  have hq : ∀ (t : State), t.heap = H → fQc G Q args s (.returned (v.map (frl G))) t := fun t ht => ⟨⟨v, S, rfl, hQ, by rw [ht]; exact hW⟩, hS.F ht⟩
  match v, hret, hq with
  | none, hret, hq =>
    obtain ⟨hd, h3⟩ := hret
    exact W.vret hx hb (hr.trans h3) (fun t ht _ => hq t ht) hS.2.2 hd hlocks
  | some (.int v), hret, hq =>
    obtain ⟨hd, ty, h3, h4⟩ := hret
    exact W.zret hx hb (hr.trans h3) h4 (fun t ht _ => hq t ht) hS.2.2 hd hlocks
  | some (.ref a), hret, hq =>
    obtain ⟨hd, rt, h3, h4⟩ := hret
    exact W.aret (v := .ref (fad G a)) hx hb (hr.trans h3) h4 (Or.inr ⟨_, rfl⟩) (fun t ht _ => hq t ht) hS.2.2 hd hlocks
  | some .null, hret, hq =>
    obtain ⟨hd, rt, h3, h4⟩ := hret
    exact W.aret (v := .null) hx hb (hr.trans h3) h4 (Or.inl rfl) (fun t ht _ => hq t ht) hS.2.2 hd hlocks
  | some (.float v), hret, hq =>
    obtain ⟨hd, h3⟩ := hret
    exact W.fret hx hb (hr.trans h3) (fun t ht _ => hq t ht) hS.2.2 hd hlocks
  | some (.double v), hret, hq =>
    obtain ⟨hd, h3⟩ := hret
    exact W.dret hx hb (hr.trans h3) (fun t ht _ => hq t ht) hS.2.2 hd hlocks
theorem fCt_of {G : fG} {z : fMi} {d : Nat} {args : List Value} {S : fS} {mc ms : Nat} {Q : fR → fS → Prop} (hp : plainName z.1.cls = true) (hcat : ∀ v ∈ args, v.category = 1) (hlen : args.length ≤ z.2.2.1)
    (k : fV G z d Q 0 (fen args z.2.2.1) [] S mc ms) : fCt G z d args S mc ms Q := by
  have body : ∀ (p : Program) (e : Env) (s : State) (m : MethodId) (a : Array Value) (below : List Frame) (meth : Method) (c : Code) (s₁ : State), BodyLoose p (gl G) z.1 (headSpec [fword z] (frm d mc ms)) z.2.1 z.2.2.1 z.2.2.2.1 e s m a below meth c s₁ → c.maxLocals = z.2.2.1 → c.exceptionTable.toList = tableOf z.2.2.2.2 → fPc G args S a s →
      W p (gl G) e (headSpec [fword z] (frm d mc ms)).room s m a below meth c s.heap [] 0 0 (vx_MQ below (fQc G Q) (fXC G Q) a s mc ms (fA G)) (entryFrame m a z.2.2.1) := by
    intro p e s m a below meth c s₁ B hml ht hP
    obtain ⟨rfl, hB, hW⟩ := hP
    have hC : fC0 G z p s m meth c := ⟨B.exec, B.bytes, hml, B.returns, findClass_of_methodNamed B.named, B.notSynchronized, ht, (name_of_methodNamed B.named B.method).1, hB⟩
    have hcat2 : ∀ v ∈ args.map (frl G), v.category = 1 := fun v hv => by
      obtain ⟨w, hw, rfl⟩ := List.mem_map.mp hv
      rw [frl_cat]; exact hcat w hw
    have hl := lv_entry (args.map (frl G)) (n := z.2.2.1) (by rw [lg_sl_len hcat2, List.length_map]; exact hlen)
    rw [← flv_en args (z.2.2.1 - args.length) 0 hcat] at hl
    rw [lg_entry_eq]
    exact k p e s m _ below meth c (frm d mc ms) _ s.heap [] 0 0 _ hC (fEnd_of hC) (Nat.le_refl _) (Nat.le_refl _) (by simp [frm]) (by simp [frm]) hW va_S.rf hl
  unfold fCt
  cases hz : z.2.2.2.2 with
  | nil =>
    have hw : [fword z] = Cond.code z.1 z.2.1 z.2.2.1 z.2.2.2.1 :: [] := by simp [fword, hz]
    refine vx_ofW (cc := z.2.1) (maxL := z.2.2.1) (ret := z.2.2.2.1) hp hw ?_
    intro p e s m a below meth c s₁ B hml ht hP
    refine body p e s m a below meth c s₁ B hml ?_ hP
    rw [hz]
    show c.exceptionTable.toList = []
    exact List.eq_nil_iff_forall_not_mem.mpr ht
  | cons h t =>
    have hw : [fword z] = Cond.codeWith z.1 z.2.1 z.2.2.1 z.2.2.2.1 (h :: t) :: [] := by simp [fword, hz]
    refine vx_ofWH (cc := z.2.1) (maxL := z.2.2.1) (ret := z.2.2.2.1) (hh := h :: t) hp hw ?_
    intro p e s m a below meth c s₁ B hml hP
    refine body p e s m a below meth c s₁ B hml ?_ hP
    rw [hz]
    exact vx_table (x := z.1) (bytes := z.2.1) (maxL' := z.2.2.1) (ret' := z.2.2.2.1) (y := z.1) B (atoms_spec (ws := [fword z]) B.pre _ (by rw [hw]; exact List.mem_cons_self))
/-- weaker ends -/
theorem fCt_mono {G : fG} {z : fMi} {d : Nat} {args : List Value} {S : fS} {mc ms : Nat} {Q Q' : fR → fS → Prop} (h : fCt G z d args S mc ms Q) (hQ : ∀ r S', Q r S' → Q' r S') : fCt G z d args S mc ms Q' := by
  intro p e ha hc hk s m args below hf happ hP hK
  obtain ⟨n, o, h1, h2, h3, h4⟩ := h p e ha hc hk s m args below hf happ hP hK
  refine ⟨n, o, h1, h2, h3, ?_⟩
  rcases h4 with ⟨⟨⟨v, S', e1, q1, w1⟩, hF⟩, hL⟩ | ⟨q, e1, E, ce, L, ⟨⟨S', q1, w1⟩, hF⟩, h5⟩
  · exact Or.inl ⟨⟨⟨v, S', e1, hQ _ _ q1, w1⟩, hF⟩, hL⟩
  · exact Or.inr ⟨q, e1, E, ce, L, ⟨⟨S', hQ _ _ q1, w1⟩, hF⟩, h5⟩
