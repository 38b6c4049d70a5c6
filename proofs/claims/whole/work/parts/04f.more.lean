/-! ===== returns ===== -/
theorem f_ireturn {G : fG} {z : fMi} {d pc : Nat} {Q : fR → fS → Prop} {ls : List (Option Value)} {S : fS} {kc ks : Nat} {x : Int32} {ty : FieldType} (hd : decode z.2.1 pc = .ok (.ireturn, 1)) (hr : z.2.2.2.1 = some ty) (hn : narrow ty (.int x) = .int x) (hQ : Q (.inl (some (.int x))) S) : fV G z d Q pc ls [.int x] S kc ks := by
  intro p e s m args below meth c R Z H locs cells slots lsr hC hE h1 h2 h3 h4 hW hS hl
  exact hE.1 (some (.int x)) S H locs cells slots pc lsr hQ hW hS (by omega) (by omega) ⟨hd, ty, hr, hn⟩
theorem f_return {G : fG} {z : fMi} {d pc : Nat} {Q : fR → fS → Prop} {ls : List (Option Value)} {S : fS} {kc ks : Nat} (hd : decode z.2.1 pc = .ok (.return_, 1)) (hr : z.2.2.2.1 = none) (hQ : Q (.inl none) S) : fV G z d Q pc ls [] S kc ks := by
  intro p e s m args below meth c R Z H locs cells slots lsr hC hE h1 h2 h3 h4 hW hS hl
  exact hE.1 none S H locs cells slots pc lsr hQ hW hS (by omega) (by omega) ⟨hd, hr⟩
theorem f_areturn {G : fG} {z : fMi} {d pc : Nat} {Q : fR → fS → Prop} {ls : List (Option Value)} {S : fS} {kc ks : Nat} {k : Nat} {rt : FieldType} (hd : decode z.2.1 pc = .ok (.areturn, 1)) (hr : z.2.2.2.1 = some rt) (ho : (∃ n, rt = .object n) ∨ ∃ t, rt = .array t) (hQ : Q (.inl (some (.ref k))) S) : fV G z d Q pc ls [.ref k] S kc ks := by
  intro p e s m args below meth c R Z H locs cells slots lsr hC hE h1 h2 h3 h4 hW hS hl
  exact hE.1 (some (.ref k)) S H locs cells slots pc lsr hQ hW hS (by omega) (by omega) ⟨hd, rt, hr, ho⟩
theorem f_areturnN {G : fG} {z : fMi} {d pc : Nat} {Q : fR → fS → Prop} {ls : List (Option Value)} {S : fS} {kc ks : Nat} {rt : FieldType} (hd : decode z.2.1 pc = .ok (.areturn, 1)) (hr : z.2.2.2.1 = some rt) (ho : (∃ n, rt = .object n) ∨ ∃ t, rt = .array t) (hQ : Q (.inl (some .null)) S) : fV G z d Q pc ls [.null] S kc ks := by
  intro p e s m args below meth c R Z H locs cells slots lsr hC hE h1 h2 h3 h4 hW hS hl
  exact hE.1 (some .null) S H locs cells slots pc lsr hQ hW hS (by omega) (by omega) ⟨hd, rt, hr, ho⟩
theorem f_freturn {G : fG} {z : fMi} {d pc : Nat} {Q : fR → fS → Prop} {ls : List (Option Value)} {S : fS} {kc ks : Nat} {x : UInt32} (hd : decode z.2.1 pc = .ok (.freturn, 1)) (hr : z.2.2.2.1 = some .float) (hQ : Q (.inl (some (.float x))) S) : fV G z d Q pc ls [.float x] S kc ks := by
  intro p e s m args below meth c R Z H locs cells slots lsr hC hE h1 h2 h3 h4 hW hS hl
  exact hE.1 (some (.float x)) S H locs cells slots pc lsr hQ hW hS (by omega) (by omega) ⟨hd, hr⟩
theorem f_dreturn {G : fG} {z : fMi} {d pc : Nat} {Q : fR → fS → Prop} {ls : List (Option Value)} {S : fS} {kc ks : Nat} {x : UInt64} (hd : decode z.2.1 pc = .ok (.dreturn, 1)) (hr : z.2.2.2.1 = some .double) (hQ : Q (.inl (some (.double x))) S) : fV G z d Q pc ls [.double x] S kc ks := by
  intro p e s m args below meth c R Z H locs cells slots lsr hC hE h1 h2 h3 h4 hW hS hl
  exact hE.1 (some (.double x)) S H locs cells slots pc lsr hQ hW hS (by omega) (by omega) ⟨hd, hr⟩
/-! ===== switches ===== -/
theorem f_tableIn {G : fG} {z : fMi} {d pc : Nat} {Q : fR → fS → Prop} {ls : List (Option Value)} {st : List Value} {S : fS} {kc ks : Nat} {dflt lo hi : Int} {offs : Array Int} {len : Nat} {x : Int32} {off : Int} {tgt : Nat} (hd : decode z.2.1 pc = .ok (.tableswitch dflt lo hi offs, len)) (hlo : ¬ x.toInt < lo) (hhi : ¬ hi < x.toInt) (ho : offs[(x.toInt - lo).toNat]? = some off) (ht : (pc : Int) + off = (tgt : Int)) (kk : fV G z d Q tgt ls st S kc ks) : fV G z d Q pc ls (.int x :: st) S kc ks := by
  intro p e s m args below meth c R Z H locs cells slots lsr hC hE h1 h2 h3 h4 hW hS hl
  exact lv_tableIn hC.1 hC.2.1 hd hlo hhi ho ht (kk p e s m args below meth c R Z H locs cells slots lsr hC hE h1 h2 h3 h4 hW hS hl)
theorem f_tableOut {G : fG} {z : fMi} {d pc : Nat} {Q : fR → fS → Prop} {ls : List (Option Value)} {st : List Value} {S : fS} {kc ks : Nat} {dflt lo hi : Int} {offs : Array Int} {len : Nat} {x : Int32} {tgt : Nat} (hd : decode z.2.1 pc = .ok (.tableswitch dflt lo hi offs, len)) (hlo : x.toInt < lo ∨ hi < x.toInt) (ht : (pc : Int) + dflt = (tgt : Int)) (kk : fV G z d Q tgt ls st S kc ks) : fV G z d Q pc ls (.int x :: st) S kc ks := by
  intro p e s m args below meth c R Z H locs cells slots lsr hC hE h1 h2 h3 h4 hW hS hl
  exact lv_tableOut hC.1 hC.2.1 hd hlo ht (kk p e s m args below meth c R Z H locs cells slots lsr hC hE h1 h2 h3 h4 hW hS hl)
/-! ===== small steps over the walk ===== -/
theorem f_locals {G : fG} {z : fMi} {d pc : Nat} {Q : fR → fS → Prop} {ls : List (Option Value)} {st : List Value} {S : fS} {kc ks : Nat} {ls' : List (Option Value)} (hs : ∀ (k : Nat) (v : Value), ls'[k]? = some (some v) → ls[k]? = some (some v)) (kk : fV G z d Q pc ls' st S kc ks) : fV G z d Q pc ls st S kc ks := by
  intro p e s m args below meth c R Z H locs cells slots lsr hC hE h1 h2 h3 h4 hW hS hl
  exact kk p e s m args below meth c R Z H locs cells slots lsr hC hE h1 h2 h3 h4 hW hS (flv_sub hl hs)
theorem f_less {G : fG} {z : fMi} {d pc : Nat} {Q : fR → fS → Prop} {ls : List (Option Value)} {st : List Value} {S : fS} {kc ks : Nat} {kc' ks' : Nat} (hc : kc' ≤ kc) (hs : ks' ≤ ks) (kk : fV G z d Q pc ls st S kc' ks') : fV G z d Q pc ls st S kc ks := by
  intro p e s m args below meth c R Z H locs cells slots lsr hC hE h1 h2 h3 h4 hW hS hl
  exact kk p e s m args below meth c R Z H locs cells slots lsr hC hE h1 h2 (by omega) (by omega) hW hS hl
theorem f_depth {G : fG} {z : fMi} {d pc : Nat} {Q : fR → fS → Prop} {ls : List (Option Value)} {st : List Value} {S : fS} {kc ks : Nat} {d' : Nat} (hd : d' ≤ d) (kk : fV G z d' Q pc ls st S kc ks) : fV G z d Q pc ls st S kc ks := by
  intro p e s m args below meth c R Z H locs cells slots lsr hC hE h1 h2 h3 h4 hW hS hl
  have h9 : 64 * d' ≤ 64 * d := Nat.mul_le_mul_left 64 hd
  exact kk p e s m args below meth c R Z H locs cells slots lsr hC hE (by omega) (Nat.le_trans (Nat.add_le_add_right h9 300) h2) h3 h4 hW hS hl
/-- nothing more is known of what lies behind the world -/
def fth (S : fS) : fS := (S.1, S.2.1, S.2.2.1, false)
theorem fW_th {G : fG} {S : fS} {H : Heap} (h : fW G S H) : fW G (fth S) H := ⟨h.1, h.2.1, fun q => Bool.noConfusion q, h.2.2.2⟩
theorem f_loose {G : fG} {z : fMi} {d pc : Nat} {Q : fR → fS → Prop} {ls : List (Option Value)} {st : List Value} {S : fS} {kc ks : Nat} (kk : fV G z d Q pc ls st (fth S) kc ks) : fV G z d Q pc ls st S kc ks := by
  intro p e s m args below meth c R Z H locs cells slots lsr hC hE h1 h2 h3 h4 hW hS hl
  exact kk p e s m args below meth c R Z H locs cells slots lsr hC hE h1 h2 h3 h4 (fW_th hW) hS hl
/-! ===== more stores ===== -/
theorem f_lastore {G : fG} {z : fMi} {d pc : Nat} {Q : fR → fS → Prop} {ls : List (Option Value)} {st : List Value} {S : fS} {kc ks : Nat} (hG : fOK G) {k n : Nat} {rs : List (Option Nat)} {i x : Int32} (hd : decode z.2.1 pc = .ok (.lastore, 1)) (hL : S.1[k]? = some (.inr (2, n, rs))) (hin : vp_in i n)
    (kk : fV G z d Q (pc + 1) ls st (fput S k i.toNatClampNeg x) kc ks) : fV G z d Q pc ls (.long x.toInt64 :: .int i :: .ref k :: st) S kc ks := by
  intro p e s m args below meth c R Z H locs cells slots lsr hC hE h1 h2 h3 h4 hW hS hl
  show W p (gl G) e R s m args below meth c H locs cells slots Z (F0 m pc lsr (.long x.toInt64 :: .int i :: .ref (fad G k) :: st.map (frl G)))
  rw [fad_lt (fW_lt hW hL)]
  have hK := f_K hG hC.2.2.2.2.2.2.2.2
  have he := fwl_get0 (G := G) hL
  refine W.last hC.1 hC.2.1 (hW.1 k _ he) ((hK.2 2 _ rfl).1 n (fun j => .long (S.2.1 k j).toInt64)) (fun q => by cases q) (by show ¬ (i < 0 ∨ (arrV _ _ _).slots.size ≤ _); rw [arrV_size]; exact hin) rfl rfl hd fun H1 e1 e2 e3 => ?_
  refine kk p e s m args below meth c R Z H1 _ cells slots lsr hC hE h1 h2 h3 h4 (f_wroteA (f := fun b => if b = i.toNatClampNeg then x else S.2.1 k b) hW hS hL ?_ e2 e3) (hS.put e2 e3 (show fo G ≤ fo G + k by omega)) hl
  show H1[fo G + k]? = some (vp_cell _ _)
  rw [e1]
  show some (Cell.setSlot (vp_cell (gcA G 2) (n, .inr (.inl fun j => (S.2.1 k j).toInt64))) _ _) = some (vp_cell (gcA G 2) (n, .inr (.inl _)))
  rw [vp_cell_l, vp_cell_l, arrV_store]
  congr 2
  funext q
  by_cases hq : q = i.toNatClampNeg
  · subst hq; simp [updV]
  · simp [updV, hq]
theorem f_castore {G : fG} {z : fMi} {d pc : Nat} {Q : fR → fS → Prop} {ls : List (Option Value)} {st : List Value} {S : fS} {kc ks : Nat} (hG : fOK G) {k n : Nat} {rs : List (Option Nat)} {i x : Int32} (hd : decode z.2.1 pc = .ok (.castore, 1)) (hL : S.1[k]? = some (.inr (1, n, rs))) (hin : vp_in i n)
    (kk : fV G z d Q (pc + 1) ls st (fput S k i.toNatClampNeg (vp_nar .char x)) kc ks) : fV G z d Q pc ls (.int x :: .int i :: .ref k :: st) S kc ks := by
  intro p e s m args below meth c R Z H locs cells slots lsr hC hE h1 h2 h3 h4 hW hS hl
  show W p (gl G) e R s m args below meth c H locs cells slots Z (F0 m pc lsr (.int x :: .int i :: .ref (fad G k) :: st.map (frl G)))
  rw [fad_lt (fW_lt hW hL)]
  have hK := f_K hG hC.2.2.2.2.2.2.2.2
  have he := fwl_get0 (G := G) hL
  refine W.cast hC.1 hC.2.1 (hW.1 k _ he) ((hK.2 1 _ rfl).1 n (fun j => .int (S.2.1 k j))) (fun q => by cases q) (by show ¬ (i < 0 ∨ (arrV _ _ _).slots.size ≤ _); rw [arrV_size]; exact hin) rfl rfl hd fun H1 e1 e2 e3 => ?_
  refine kk p e s m args below meth c R Z H1 _ cells slots lsr hC hE h1 h2 h3 h4 (f_wroteA (f := fun b => if b = i.toNatClampNeg then vp_nar .char x else S.2.1 k b) hW hS hL ?_ e2 e3) (hS.put e2 e3 (show fo G ≤ fo G + k by omega)) hl
  show H1[fo G + k]? = some (vp_cell _ _)
  rw [e1]
  show some (Cell.setSlot (vp_cell (gcA G 1) (n, .inl (S.2.1 k))) _ _) = some (vp_cell (gcA G 1) (n, .inl _))
  rw [vp_cell_i, vp_cell_i, arrV_store]
  congr 2
  funext q
  by_cases hq : q = i.toNatClampNeg
  · subst hq; simp [updV, vp_nar]; try rfl
  · simp [updV, hq]
/-- the double written -/
def fdbl (S : fS) (x : UInt64) : fS := (S.1, S.2.1, x, S.2.2.2)
/-- only k holds doubles -/
def fonly (L : List fE) (k : Nat) : Prop := ∀ (i : Nat) (a : Nat × Nat × List (Option Nat)), L[i]? = some (.inr a) → a.1 = 3 → i = k
theorem f_dastore {G : fG} {z : fMi} {d pc : Nat} {Q : fR → fS → Prop} {ls : List (Option Value)} {st : List Value} {S : fS} {kc ks : Nat} (hG : fOK G) {k : Nat} {rs : List (Option Nat)} {x : UInt64} (hd : decode z.2.1 pc = .ok (.dastore, 1)) (hL : S.1[k]? = some (.inr (3, 1, rs))) (ho : fonly S.1 k)
    (kk : fV G z d Q (pc + 1) ls st (fdbl S x) kc ks) : fV G z d Q pc ls (.double x :: .int 0 :: .ref k :: st) S kc ks := by
  intro p e s m args below meth c R Z H locs cells slots lsr hC hE h1 h2 h3 h4 hW hS hl
  show W p (gl G) e R s m args below meth c H locs cells slots Z (F0 m pc lsr (.double x :: .int 0 :: .ref (fad G k) :: st.map (frl G)))
  rw [fad_lt (fW_lt hW hL)]
  have hK := f_K hG hC.2.2.2.2.2.2.2.2
  have he := fwl_get0 (G := G) hL
  refine W.dast hC.1 hC.2.1 (hW.1 k _ he) ((hK.2 3 _ rfl).1 1 (fun j => .double S.2.2.1)) (fun q => by cases q) (by show ¬ ((0 : Int32) < 0 ∨ (arrV _ _ _).slots.size ≤ _); rw [arrV_size]; show ¬ ((0 : Int32) < 0 ∨ 1 ≤ (0 : Int32).toNatClampNeg); decide) rfl rfl hd fun H1 e1 e2 e3 => ?_
  refine kk p e s m args below meth c R Z H1 _ cells slots lsr hC hE h1 h2 h3 h4 ⟨?_, hW.2.1, fun h => e2.trans (hW.2.2.1 h), by rw [e2]; exact hW.2.2.2⟩ (hS.put e2 e3 (show fo G ≤ fo G + k by omega)) hl
  intro i q hq
  obtain ⟨hi, hqa⟩ := fwl_inv _ _ _ _ hq
  obtain ⟨en, hen⟩ : ∃ en, S.1[i]? = some en := ⟨_, List.getElem?_eq_getElem hi⟩
  have hq2 := fwl_get0 (G := G) (S := fdbl S x) (k := i) hen
  cases hq.symm.trans hq2
  have hold := hW.1 i _ (fwl_get0 (G := G) hen)
  by_cases hik : i = k
  · subst hik
    cases hL.symm.trans hen
    show H1[fo G + i]? = some (vp_cell _ _)
    rw [e1]
    show some (Cell.setSlot (vp_cell (gcA G 3) (1, .inr (.inr (.inr (.inl fun _ => S.2.2.1))))) _ _) = some (vp_cell (gcA G 3) (1, .inr (.inr (.inr (.inl fun _ => x)))))
    rw [vp_cell_d, vp_cell_d, arrV_store]
    show some (arrV (gcA G 3) 1 _) = some (arrV (gcA G 3) 1 _)
    congr 1
  · have hsame : fce G en ((fdbl S x).2.1 i) (fdbl S x).2.2.1 = fce G en (S.2.1 i) S.2.2.1 := by
      cases en with
      | inl a => rfl
      | inr a =>
        obtain ⟨t, n, rs2⟩ := a
        have hne : t ≠ 3 := fun h => hik (ho i (t, n, rs2) hen h)
        match t, hne with
        | 0, _ => rfl
        | 1, _ => rfl
        | 2, _ => rfl
        | 3, hne => exact absurd rfl hne
        | t + 4, _ => rfl
    rw [hsame]
    exact hold.kept (e3 _ (by show fo G + i ≠ fo G + k; omega))

/-! ===== what is thrown ===== -/
/-- words that stand in every state of the run -/
def fgw (w : Cond) : Bool := match w with
  | .castable _ _ => true
  | .declares _ => true
  | w => goodWord w
theorem f_wordC {G : fG} {s : State} (hG : fOK G) (hB : fB G s) {w : Cond} (hw : w ∈ lw_tbl) (hg : fgw w = true) (args : Array Value) : w.before args s = true := by
  by_cases h : ∃ a b, w = .castable a b
  · obtain ⟨a, b, rfl⟩ := h
    exact va_Nw.use rfl (va_Nw.warmC hB.1 (va_Nw.of rfl (hG.1 _ hw)))
  · by_cases h2 : ∃ a, w = .declares a
    · obtain ⟨a, rfl⟩ := h2
      exact va_Nw.use rfl (va_Nw.warmD hB.1 (va_Nw.of rfl (hG.1 _ hw)))
    · refine f_word hG hB hw ?_ args
      cases w <;> first | exact hg | exact absurd ⟨_, _, rfl⟩ h | exact absurd ⟨_, rfl⟩ h2
def fThr (own : String) (ik ic : Nat) (cls : String) (names : List String) : Prop := Bundle.fit cls = true ∧ (∀ n ∈ names, Bundle.fit n = true) ∧ names.length ≤ 4 ∧ Cond.classLink own ik cls ∈ lw_tbl ∧ Cond.initialized cls ∈ lw_tbl ∧ (∀ w ∈ vx_atS own ic cls names, w ∈ lw_tbl ∧ fgw w = true) ∧ (∀ w ∈ Cond.classLink own ik cls :: Cond.initialized cls :: vx_atS own ic cls names, vx_ot w = true)
theorem f_statics {G : fG} {s : State} (hB : fB G s) {C n dsc : String} (h : vx_Zq C n dsc (fA G) (gs G) (gs G).heap) : vx_Zq C n dsc (fA G) s s.heap :=
  vx_Zq.moved hB.1.alike (h.kept fun a h1 _ => hB.2.1 a h1)
theorem f_throw {G : fG} {z : fMi} {d pc : Nat} {Q : fR → fS → Prop} {ls : List (Option Value)} {S : fS} {kc ks : Nat} (hG : fOK G) {ik is ic : Nat} {cls text : String} {names : List String} (hf : fThr z.1.cls ik ic cls names) (hstr : (z.1.cls, is, text) ∈ fstrs) (hh : z.2.2.2.2 = []) (hlaw : z.1 ≠ x) (d0 : decode z.2.1 pc = .ok (.new ik, 3)) (d3 : decode z.2.1 (pc + 3) = .ok (.dup, 1)) (d4 : decode z.2.1 (pc + 4) = .ok (.ldc is, 2)) (d6 : decode z.2.1 (pc + 6) = .ok (.invokespecial ic, 3)) (d9 : decode z.2.1 (pc + 9) = .ok (.athrow, 1)) (hkc : 1 ≤ kc) (hks : 6 ≤ ks) (hQ : Q (.inr cls) (fth S)) : fV G z d Q pc ls [] S kc ks := by
  intro p e s m args below meth c R Z H locs cells slots lsr hC hE h1 h2 h3 h4 hW hS hl
  obtain ⟨hx, hb, hml, hr, hown, hlocks, ht, hnm, hB⟩ := id hC
  rcases hE.2 with h | rfl
  · exact absurd h hlaw
  have hno : ∀ x ∈ c.exceptionTable.toList, covers x (pc + 9) = false := by
    intro y hy
    rw [ht, hh] at hy
    cases hy
  obtain ⟨sa, hsa⟩ := hG.2.2.2.2.2.1 _ hstr
  refine vx_throwS hx hb hG.2.2.1 (A := fA G) hown hf.1 hf.2.1 (f_word hG hB hf.2.2.2.1 rfl args) (f_word hG hB hf.2.2.2.2.1 rfl args) (vk_R.warm hB.1 hsa) (fun w hw => f_wordC hG hB (hf.2.2.2.2.2.1 w hw).1 (hf.2.2.2.2.2.1 w hw).2 args) hf.2.2.2.2.2.2 (f_statics hB hG.2.2.2.1) (f_statics hB hG.2.2.2.2.1) hS (hl.1.trans hml.symm) d0 d3 d4 d6 d9 hno
    (by have := hf.2.2.1; omega) (by have := hf.2.2.1; simp only [List.map_nil, List.sum_nil]; omega) (by omega) (by omega) hlocks (fun t hvm hz hq => ⟨⟨fth S, hQ, ?_⟩, ?_⟩) hS.2.2 (by omega) (by omega)
  · exact ⟨hW.1.kept fun k q hk => hq q.1 ((hW.1 k q hk).lt), hW.2.1, fun q => Bool.noConfusion q, Nat.le_trans hW.2.2.2 hz⟩
  · exact ⟨Nat.le_trans hS.1 hz, fun q h5 h6 => (hq q (Nat.lt_of_lt_of_le h5 hS.1)).trans (hS.2.1 q h5 h6)⟩
theorem f_throwW {G : fG} {z : fMi} {d pc : Nat} {Q : fR → fS → Prop} {ls : List (Option Value)} {S : fS} {kc ks : Nat} (hG : fOK G) {ik is ic : Nat} {cls text : String} {names : List String} (hf : fThr z.1.cls ik ic cls names) (hstr : (z.1.cls, is, text) ∈ fstrs) (hh : z.2.2.2.2 = []) (hlaw : z.1 ≠ x) (d0 : decode z.2.1 pc = .ok (.new ik, 3)) (d3 : decode z.2.1 (pc + 3) = .ok (.dup, 1)) (d4 : decode z.2.1 (pc + 4) = .ok (.ldc_w is, 3)) (d6 : decode z.2.1 (pc + 7) = .ok (.invokespecial ic, 3)) (d9 : decode z.2.1 (pc + 10) = .ok (.athrow, 1)) (hkc : 1 ≤ kc) (hks : 6 ≤ ks) (hQ : Q (.inr cls) (fth S)) : fV G z d Q pc ls [] S kc ks := by
  intro p e s m args below meth c R Z H locs cells slots lsr hC hE h1 h2 h3 h4 hW hS hl
  obtain ⟨hx, hb, hml, hr, hown, hlocks, ht, hnm, hB⟩ := id hC
  rcases hE.2 with h | rfl
  · exact absurd h hlaw
  have hno : ∀ x ∈ c.exceptionTable.toList, covers x (pc + 10) = false := by
    intro y hy
    rw [ht, hh] at hy
    cases hy
  obtain ⟨sa, hsa⟩ := hG.2.2.2.2.2.1 _ hstr
  refine vx_throwSW hx hb hG.2.2.1 (A := fA G) hown hf.1 hf.2.1 (f_word hG hB hf.2.2.2.1 rfl args) (f_word hG hB hf.2.2.2.2.1 rfl args) (vk_R.warm hB.1 hsa) (fun w hw => f_wordC hG hB (hf.2.2.2.2.2.1 w hw).1 (hf.2.2.2.2.2.1 w hw).2 args) hf.2.2.2.2.2.2 (f_statics hB hG.2.2.2.1) (f_statics hB hG.2.2.2.2.1) hS (hl.1.trans hml.symm) d0 d3 d4 d6 d9 hno
    (by have := hf.2.2.1; omega) (by have := hf.2.2.1; simp only [List.map_nil, List.sum_nil]; omega) (by omega) (by omega) hlocks (fun t hvm hz hq => ⟨⟨fth S, hQ, ?_⟩, ?_⟩) hS.2.2 (by omega) (by omega)
  · exact ⟨hW.1.kept fun k q hk => hq q.1 ((hW.1 k q hk).lt), hW.2.1, fun q => Bool.noConfusion q, Nat.le_trans hW.2.2.2 hz⟩
  · exact ⟨Nat.le_trans hS.1 hz, fun q h5 h6 => (hq q (Nat.lt_of_lt_of_le h5 hS.1)).trans (hS.2.1 q h5 h6)⟩
/-- a thrown object leaves a method without handlers -/
theorem f_out {G : fG} {z : fMi} {d pc : Nat} {Q : fR → fS → Prop} {ls : List (Option Value)} {rest : List Value} {S : fS} {kc ks : Nat} {E : String} (hh : z.2.2.2.2 = []) (hlaw : z.1 ≠ x) (hQ : Q (.inr E) S) : fVX G z d Q pc ls rest S kc ks E := by
  intro p e s m args below meth c R Z H locs cells slots lsr ce q hC hE h1 h2 h3 h4 hW hS hl hce hcv hcl
  obtain ⟨hx, hb, hml, hr, hown, hlocks, ht, hnm, hB⟩ := id hC
  rcases hE.2 with h | rfl
  · exact absurd h hlaw
  refine vx_out (E := E) ?_ hlocks hce hcv hcl (fun t ht _ => ⟨⟨S, hQ, by rw [ht]; exact hW⟩, hS.F ht⟩) hS.2.2 (by omega) (by omega)
  intro y hy
  rw [ht, hh] at hy
  cases hy
theorem flv_forget {G : fG} {ls : List (Option Value)} {lsr : Array Slot} {nL i : Nat} {v : Value} (h : lv_has lsr nL ((i, v) :: (flv G ls 0).filter (fun q => !(q.1 == i) && !(q.1 + 1 == i && q.2.category == 2)))) (hw : fnw ls i = true) : lv_has lsr nL (flv G (ls.set i none) 0) := by
  refine ⟨h.1, h.2.1, fun q hq => ?_⟩
  obtain ⟨k, w, h1, rfl⟩ := flv_inv _ _ _ hq
  rw [Nat.zero_add] at hq ⊢
  have hk : k ≠ i := by
    intro hk
    subst hk
    have hl : k < ls.length := by
      have := (List.getElem?_eq_some_iff.mp h1).1
      simpa using this
    rw [List.getElem?_set_self hl] at h1
    cases h1
  rw [List.getElem?_set_ne (Ne.symm hk)] at h1
  refine h.2.2 (k, frl G w) (List.mem_cons_of_mem _ (List.mem_filter.mpr ⟨?_, ?_⟩))
  · have h2 := flv_get (G := G) ls 0 k w h1
    rwa [Nat.zero_add] at h2
  · have e1 : (k == i) = false := by simpa using hk
    have e2 : (k + 1 == i && (frl G w).category == 2) = false := by
      by_cases h3 : k + 1 = i
      · subst h3
        have h4 : (w.category == 1) = true := by
          have := hw
          simp only [fnw, h1] at this
          exact this
        rw [frl_cat]
        have h5 : w.category = 1 := by simpa using h4
        simp [h5]
      · simp [h3]
    show (!(k == i) && !(k + 1 == i && (frl G w).category == 2)) = true
    rw [e1, e2]
    rfl
/-- a class that isn't the other's kind, at the start -/
def fNc (G : fG) (E T : String) : Prop := va_Nc E T (gs G)
/-- caught: the handler stores the object (n: a short store) and goes on -/
theorem f_catch {G : fG} {z : fMi} {d pc : Nat} {Q : fR → fS → Prop} {ls : List (Option Value)} {rest : List Value} {S : fS} {kc ks : Nat} (hG : fOK G) {E : String} {pre suf : List (Nat × Nat × Nat × Nat)} {y : Nat × Nat × Nat × Nat} {j : Nat} {k : Fin 4} (hh : z.2.2.2.2 = pre ++ y :: suf) (hp : ∀ w ∈ pre, w.2.2.2 ≠ 0 ∧ ∃ nm : String, Cond.classLink z.1.cls w.2.2.2 nm ∈ lw_tbl ∧ (E, nm) ∈ fncs) (hy : y.1 ≤ pc ∧ pc < y.2.1) (h0 : y.2.2.2 ≠ 0) (hlk : Cond.classLink z.1.cls y.2.2.2 E ∈ lw_tbl) (hca : Cond.castable E E ∈ lw_tbl)
    (hd : decode z.2.1 y.2.2.1 = .ok (.astore_n k, 1)) (hj : (k : Nat) = j) (hn : j < z.2.2.1) (hw : fnw ls j = true) (kk : fV G z d Q (y.2.2.1 + 1) (ls.set j none) [] S kc ks) : fVX G z d Q pc ls rest S kc ks E := by
  intro p e s m args below meth c R Z H locs cells slots lsr ce q hC hE h1 h2 h3 h4 hW hS hl hce hcv hcl
  obtain ⟨hx, hb, hml, hr, hown, hlocks, ht, hnm, hB⟩ := id hC
  have hsp : c.exceptionTable.toList = tableOf pre ++ (⟨y.1, y.2.1, y.2.2.1, y.2.2.2⟩ : ExceptionTableEntry) :: tableOf suf := by
    rw [ht, hh]
    simp [tableOf]
  refine vx_catch hown (tableOf pre) ⟨y.1, y.2.1, y.2.2.1, y.2.2.2⟩ (tableOf suf) hsp ?_ ?_ h0 (f_word hG hB hlk rfl args) (f_wordC hG hB hca rfl args) hce hcv hcl ?_
  · intro w hw
    obtain ⟨w0, hw0, rfl⟩ := List.mem_map.mp hw
    obtain ⟨g1, nm, g2, g3⟩ := hp w0 hw0
    exact Or.inr ⟨g1, nm, f_word hG hB g2 rfl args, va_Nc.moved hB.1.alike (hG.2.2.2.2.2.2.1 _ g3)⟩
  · simp [covers, hy.1, hy.2]
  · refine lv_astore_n hx hb hd hj hl hn rfl (fun lsr2 hl2 => ?_)
    exact kk p e s m args below meth c R Z H locs cells slots lsr2 hC hE h1 h2 h3 h4 hW hS (flv_forget hl2 hw)
theorem f_catch2 {G : fG} {z : fMi} {d pc : Nat} {Q : fR → fS → Prop} {ls : List (Option Value)} {rest : List Value} {S : fS} {kc ks : Nat} (hG : fOK G) {E : String} {pre suf : List (Nat × Nat × Nat × Nat)} {y : Nat × Nat × Nat × Nat} {j : Nat} (hh : z.2.2.2.2 = pre ++ y :: suf) (hp : ∀ w ∈ pre, w.2.2.2 ≠ 0 ∧ ∃ nm : String, Cond.classLink z.1.cls w.2.2.2 nm ∈ lw_tbl ∧ (E, nm) ∈ fncs) (hy : y.1 ≤ pc ∧ pc < y.2.1) (h0 : y.2.2.2 ≠ 0) (hlk : Cond.classLink z.1.cls y.2.2.2 E ∈ lw_tbl) (hca : Cond.castable E E ∈ lw_tbl)
    (hd : decode z.2.1 y.2.2.1 = .ok (.astore j, 2)) (hn : j < z.2.2.1) (hw : fnw ls j = true) (kk : fV G z d Q (y.2.2.1 + 2) (ls.set j none) [] S kc ks) : fVX G z d Q pc ls rest S kc ks E := by
  intro p e s m args below meth c R Z H locs cells slots lsr ce q hC hE h1 h2 h3 h4 hW hS hl hce hcv hcl
  obtain ⟨hx, hb, hml, hr, hown, hlocks, ht, hnm, hB⟩ := id hC
  have hsp : c.exceptionTable.toList = tableOf pre ++ (⟨y.1, y.2.1, y.2.2.1, y.2.2.2⟩ : ExceptionTableEntry) :: tableOf suf := by
    rw [ht, hh]
    simp [tableOf]
  refine vx_catch hown (tableOf pre) ⟨y.1, y.2.1, y.2.2.1, y.2.2.2⟩ (tableOf suf) hsp ?_ ?_ h0 (f_word hG hB hlk rfl args) (f_wordC hG hB hca rfl args) hce hcv hcl ?_
  · intro w hw
    obtain ⟨w0, hw0, rfl⟩ := List.mem_map.mp hw
    obtain ⟨g1, nm, g2, g3⟩ := hp w0 hw0
    exact Or.inr ⟨g1, nm, f_word hG hB g2 rfl args, va_Nc.moved hB.1.alike (hG.2.2.2.2.2.2.1 _ g3)⟩
  · simp [covers, hy.1, hy.2]
  · refine lv_astore hx hb hd hl hn rfl (fun lsr2 hl2 => ?_)
    exact kk p e s m args below meth c R Z H locs cells slots lsr2 hC hE h1 h2 h3 h4 hW hS (flv_forget hl2 hw)

