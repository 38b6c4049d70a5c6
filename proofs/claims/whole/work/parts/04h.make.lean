theorem f_mmax {G : fG} {z : fMi} {d pc : Nat} {Q : fR → fS → Prop} {ls : List (Option Value)} {st : List Value} {S : fS} {kc ks : Nat} (hG : fOK G) {idx : Nat} {x y : Int32} (hd : decode z.2.1 pc = .ok (.invokestatic idx, 3)) (hm : Cond.methodLink z.1.cls idx Lib.Math.max.name ∈ lw_tbl) (hw : Cond.static Lib.Math.max.name ∈ lw_tbl ∧ Cond.initialized "java/lang/Math" ∈ lw_tbl ∧ Cond.code Lib.Math.max.name Lib.Math.max.code 2 (some .int) ∈ lw_tbl) (hcat : (st.map (fun v => v.category)).sum ≤ 8)
    (kk : fV G z d Q (pc + 3) ls (.int (if x < y then y else x) :: st) S kc ks) : fV G z d Q pc ls (.int y :: .int x :: st) S kc ks := by
  intro p e s m args below meth c R Z H locs cells slots lsr hC hE h1 h2 h3 h4 hW hS hl
  obtain ⟨hx, hb, hml, hr, hown, hlocks, ht, hnm, hB⟩ := id hC
  exact va_mmax hx hb (hml.trans hl.1.symm) hown (f_word hG hB hm rfl args) (f_word hG hB hw.1 rfl args) (f_word hG hB hw.2.1 rfl args) (f_word hG hB hw.2.2 rfl args) (by omega) (by rw [f_cat]; omega) (by omega) (by omega) hd (kk p e s m args below meth c R Z H locs cells slots lsr hC hE h1 h2 h3 h4 hW hS hl)

theorem f_mmin {G : fG} {z : fMi} {d pc : Nat} {Q : fR → fS → Prop} {ls : List (Option Value)} {st : List Value} {S : fS} {kc ks : Nat} (hG : fOK G) {idx : Nat} {x y : Int32} (hd : decode z.2.1 pc = .ok (.invokestatic idx, 3)) (hm : Cond.methodLink z.1.cls idx Lib.Math.min.name ∈ lw_tbl) (hw : Cond.static Lib.Math.min.name ∈ lw_tbl ∧ Cond.initialized "java/lang/Math" ∈ lw_tbl ∧ Cond.code Lib.Math.min.name Lib.Math.min.code 2 (some .int) ∈ lw_tbl) (hcat : (st.map (fun v => v.category)).sum ≤ 8)
    (kk : fV G z d Q (pc + 3) ls (.int (if y < x then y else x) :: st) S kc ks) : fV G z d Q pc ls (.int y :: .int x :: st) S kc ks := by
  intro p e s m args below meth c R Z H locs cells slots lsr hC hE h1 h2 h3 h4 hW hS hl
  obtain ⟨hx, hb, hml, hr, hown, hlocks, ht, hnm, hB⟩ := id hC
  exact va_mmin hx hb (hml.trans hl.1.symm) hown (f_word hG hB hm rfl args) (f_word hG hB hw.1 rfl args) (f_word hG hB hw.2.1 rfl args) (f_word hG hB hw.2.2 rfl args) (by omega) (by rw [f_cat]; omega) (by omega) (by omega) hd (kk p e s m args below meth c R Z H locs cells slots lsr hC hE h1 h2 h3 h4 hW hS hl)

theorem fW_of {G : fG} {S : fS} {H : Heap} (hP : va_P (gD G) fcl (fwl G S.1 0 S.2.1 S.2.2.1) H) (h1 : S.1.length ≤ 4096) (ht : S.2.2.2 = false) (h2 : fo G ≤ H.size) : fW G S H := by
  refine ⟨hP, h1, (fun h => by rw [ht] at h; cases h), ?_⟩
  by_cases hn : S.1.length = 0
  · omega
  · obtain ⟨e, he⟩ : ∃ e, S.1[S.1.length - 1]? = some e := ⟨_, List.getElem?_eq_getElem (by omega)⟩
    have h3 := (hP _ _ (fwl_get0 (G := G) he)).lt
    have h4 : fo G + (S.1.length - 1) < H.size := h3
    omega
theorem f_copy {G : fG} {z : fMi} {d pc : Nat} {Q : fR → fS → Prop} {ls : List (Option Value)} {st : List Value} {S : fS} {kc ks : Nat} (hG : fOK G) {idx k1 k2 n1 n2 : Nat} {r1 r2 : List (Option Nat)} {n : Int32} (hd : decode z.2.1 pc = .ok (.invokestatic idx, 3)) (hm : Cond.methodLink z.1.cls idx arraycopyName ∈ lw_tbl) (hw : Cond.native arraycopyName ∈ lw_tbl ∧ Cond.static arraycopyName ∈ lw_tbl ∧ Cond.initialized "java/lang/System" ∈ lw_tbl) (hL1 : S.1[k1]? = some (.inr (0, n1, r1))) (hL2 : S.1[k2]? = some (.inr (0, n2, r2))) (hn : ¬ n < 0) (hn1 : n.toNatClampNeg ≤ n1) (hn2 : n.toNatClampNeg ≤ n2) (hcat : (st.map (fun v => v.category)).sum ≤ 8) (hti : S.2.2.2 = false)
    (kk : fV G z d Q (pc + 3) ls st (frow S k2 (va_cpy (S.2.1 k1) (S.2.1 k2) 0 0 n.toNatClampNeg)) kc ks) : fV G z d Q pc ls (.int n :: .int 0 :: .ref k2 :: .int 0 :: .ref k1 :: st) S kc ks := by
  intro p e s m args below meth c R Z H locs cells slots lsr hC hE h1 h2 h3 h4 hW hS hl
  obtain ⟨hx, hb, hml, hr, hown, hlocks, ht, hnm, hB⟩ := id hC
  have hK := f_K hG hB
  show W p (gl G) e R s m args below meth c H locs cells slots Z (F0 m pc lsr (.int n :: .int 0 :: .ref (fad G k2) :: .int 0 :: .ref (fad G k1) :: st.map (frl G)))
  rw [fad_lt (fW_lt hW hL1), fad_lt (fW_lt hW hL2)]
  have hz : (0 : Int32).toNatClampNeg = 0 := rfl
  have h9 : nativeFrameWords "java/lang/System" "arraycopy" 5 ≤ 100 := by decide +kernel
  have h10 : ((st.map (frl G)).map (fun v => v.category)).sum + (nativeFrameWords "java/lang/System" "arraycopy" 5 + 11) ≤ R.locals := by rw [f_cat]; omega
  refine va_copyi (sp := 0) (dp := 0) (n := n) (q0 := k1) (q1 := k2) (t0 := 0) (t1 := 0) hx hb (hml.trans hl.1.symm) hown (f_word hG hB hm rfl args) (f_word hG hB hw.1 rfl args) (f_word hG hB hw.2.1 rfl args) (f_word hG hB hw.2.2 rfl args) hK hW.1 fwl_D hS (fwl_get0 (G := G) hL1) (fwl_get0 (G := G) hL2) rfl rfl rfl (by decide) (by decide) hn (by rw [hz, Nat.zero_add]; exact hn1) (by rw [hz, Nat.zero_add]; exact hn2) (fun _ _ => rfl) (by omega) h10 hd (fun H1 locs1 hP1 hD1 hS1 => ?_)
  rw [hz] at hP1
  have e1 : (Sum.inl (gcA G 0, n2, Sum.inl (va_cpy (S.2.1 k1) (S.2.1 k2) 0 0 n.toNatClampNeg)) : va_E) = fce G (.inr (0, n2, r2)) (va_cpy (S.2.1 k1) (S.2.1 k2) 0 0 n.toNatClampNeg) S.2.2.1 := rfl
  rw [e1, fwl_setr hL2] at hP1
  exact kk p e s m args below meth c R Z H1 locs1 cells slots lsr hC hE h1 h2 h3 h4 (fW_of hP1 hW.2.1 hti (Nat.le_trans hB.2.2 hS1.1)) hS1 hl
theorem f_objInit {G : fG} {z : fMi} {d pc : Nat} {Q : fR → fS → Prop} {ls : List (Option Value)} {st : List Value} {S : fS} {kc ks : Nat} (hG : fOK G) {idx k : Nat} (hd : decode z.2.1 pc = .ok (.invokespecial idx, 3)) (hm : Cond.methodLink z.1.cls idx Lib.objectInit ∈ lw_tbl) (hw : Cond.instanceMethod Lib.objectInit ∈ lw_tbl ∧ Cond.code Lib.objectInit ⟨#[0xb1]⟩ 1 none ∈ lw_tbl) (hcat : (st.map (fun v => v.category)).sum ≤ 8) (kk : fV G z d Q (pc + 3) ls st S kc ks) : fV G z d Q pc ls (.ref k :: st) S kc ks := by
  intro p e s m args below meth c R Z H locs cells slots lsr hC hE h1 h2 h3 h4 hW hS hl
  obtain ⟨hx, hb, hml, hr, hown, hlocks, ht, hnm, hB⟩ := id hC
  refine W.objInit hx hb hown (f_word hG hB hm rfl args) (f_word hG hB hw.1 rfl args) (f_word hG hB hw.2 rfl args) rfl (hl.1.trans hml.symm) rfl hd (by omega) ?_ (kk p e s m args below meth c R Z H locs cells slots lsr hC hE h1 h2 h3 h4 hW hS hl)
  have h9 : 2 * (F0 m pc lsr ((Value.ref k :: st).map (frl G))).monitorRoom + ((st.map (frl G)).map (fun v => v.category)).sum ≤ 8 := lv_room (by rw [f_cat]; exact hcat)
  omega
/-! ===== what is made (in the constructors: nothing else lies behind the world) ===== -/
theorem fwl_extl {G : fG} {d : UInt64} {M M' : fM} : ∀ (L : List fE) (i : Nat), (∀ a, i ≤ a → a < i + L.length → M a = M' a) → fwl G L i M d = fwl G L i M' d
  | [], i, _ => rfl
  | e0 :: t, i, h => by
    simp only [fwl]
    rw [h i (Nat.le_refl i) (by simp), fwl_extl t (i + 1) (fun a h1 h2 => h a (by omega) (by simp only [List.length_cons]; omega))]
/-- a cell comes, its ints 0 -/
def fnew (S : fS) (e : fE) : fS := (S.1 ++ [e], fsr S.2.1 S.1.length (fun _ => 0), S.2.2)
theorem fwl_new {G : fG} {S : fS} {e : fE} : fwl G (fnew S e).1 0 (fnew S e).2.1 (fnew S e).2.2.1 = fwl G S.1 0 S.2.1 S.2.2.1 ++ [(fo G + S.1.length, fce G e (fun _ => 0) S.2.2.1)] := by
  show fwl G (S.1 ++ [e]) 0 _ _ = _
  rw [fwl_app]
  congr 1
  · exact fwl_extl _ _ fun a _ h => by
      show fsr S.2.1 S.1.length (fun _ => 0) a = S.2.1 a
      simp only [fsr]
      rw [if_neg (by omega)]
  · simp [fwl, fnew, fsr]
theorem f_made {G : fG} {s : State} {H H1 : Heap} {locs : List Loc} {S : fS} {e : fE} (hW : fW G S H) (hS : va_S (fA G) s.heap H locs) (hB : fB G s) (ht : S.2.2.2 = true) (hlen : S.1.length < 4096) (hz : H1.size = H.size + 1) (ho : ∀ q : Nat, q < H.size → H1[q]? = H[q]?) (hat : va_at (gD G) fcl (fo G + S.1.length, fce G e (fun _ => 0) S.2.2.1) H1) : fW G (fnew S e) H1 ∧ va_S (fA G) s.heap H1 locs := by
  refine ⟨⟨?_, ?_, fun _ => ?_, ?_⟩, ⟨Nat.le_trans hS.1 (by omega), fun q h1 h2 => (ho q (Nat.lt_of_lt_of_le h1 hS.1)).trans (hS.2.1 q h1 h2), hS.2.2⟩⟩
  · rw [fwl_new]
    refine (hW.1.kept fun k q hk => ho q.1 ((hW.1 k q hk).lt)).app fun k q hk => ?_
    have hz : k < 1 := (List.getElem?_eq_some_iff.mp hk).1
    have hk0 : k = 0 := by omega
    subst hk0
    cases hk
    exact hat
  · show (S.1 ++ [e]).length ≤ 4096
    rw [List.length_append]; simp only [List.length_cons, List.length_nil]; omega
  · show H1.size = fo G + (S.1 ++ [e]).length
    rw [hz, hW.2.2.1 ht, List.length_append]; rfl
  · show fo G + (S.1 ++ [e]).length ≤ H1.size
    rw [hz, hW.2.2.1 ht, List.length_append]; exact Nat.le_refl _
/-- the fields of a new object -/
def fdef (ty : Nat → FieldType) (N : Nat) : List (Option (Option Nat)) := (List.range N).map fun j => if defaultValue (ty j) = .null then some none else none
theorem f_new {G : fG} {z : fMi} {d pc : Nat} {Q : fR → fS → Prop} {ls : List (Option Value)} {st : List Value} {S : fS} {kc ks : Nat} (hG : fOK G) {idx ci N : Nat} {C : String} {T : u_T} (ty : Nat → FieldType) {sl : List (Option (Option Nat))} (hc : fcl[ci]? = some (C, T, N)) (hd : decode z.2.1 pc = .ok (.new idx, 3)) (hlk : Cond.classLink z.1.cls idx C ∈ lw_tbl) (hin : Cond.instantiable C N ∈ lw_tbl) (hini : Cond.initialized C ∈ lw_tbl) (hty : ∀ k, k < N → parseFieldDescriptor (T k).2.2.1 = some (ty k))
    (hdv : ∀ j, j < N → (sl[j]? = some none ∧ defaultValue (ty j) = .int 0) ∨ (sl[j]? = some (some none) ∧ defaultValue (ty j) = .null)) (hti : S.2.2.2 = true) (hlen : S.1.length < 4096) (hkc : 1 ≤ kc) (hks : N ≤ ks)
    (kk : fV G z d Q (pc + 3) ls (.ref S.1.length :: st) (fnew S (.inl (ci, sl))) (kc - 1) (ks - N)) : fV G z d Q pc ls st S kc ks := by
  intro p e s m args below meth c R Z H locs cells slots lsr hC hE h1 h2 h3 h4 hW hS hl
  obtain ⟨hx, hb, hml, hr, hown, hlocks, ht, hnm, hB⟩ := id hC
  have hK := f_K hG hB
  have hcl := fcl_ok hc
  have hKn := hK.1 ci _ hc
  refine W.newcK hx hb hown (f_word hG hB hlk rfl args) (f_word hG hB hin rfl args) (f_word hG hB hini rfl args) rfl hd (by omega) (by omega) hKn.2.1 (hW.2.2.1 hti) fun H1 kC hkC e1 z1 o1 => ?_
  have hz := hW.2.2.1 hti
  obtain ⟨g1, g2⟩ := f_made (e := .inl (ci, sl)) hW hS hB hti hlen (by rw [z1, hz]) (fun q hq => o1 q (by omega)) ⟨_, hc, (u_born ty (f_cw hG hB hcl args) (fun w h => h) hKn hkC e1 hty).to fun j hj => by
    rcases hdv j hj with ⟨h5, h6⟩ | ⟨h5, h6⟩
    · rw [h6]
      have h7 := fsl_get (G := G) (f := fun _ => 0) sl 0 j none h5
      show Value.int 0 = vp_V (fsl G sl 0 fun _ => 0) j
      simp only [vp_V, List.getD_eq_getElem?_getD, h7]
      rfl
    · rw [h6]
      have h7 := fsl_get (G := G) (f := fun _ => 0) sl 0 j (some none) h5
      show Value.null = vp_V (fsl G sl 0 fun _ => 0) j
      simp only [vp_V, List.getD_eq_getElem?_getD, h7]
      rfl⟩
  have k2 := kk p e s m args below meth c R Z H1 locs (cells + 1) (slots + N) lsr hC hE h1 h2 (by omega) (by omega) g1 g2 hl
  rw [List.map_cons] at k2
  have e5 : frl G (.ref S.1.length) = .ref (fo G + S.1.length) := by
    show Value.ref (fad G S.1.length) = _
    rw [fad_lt hlen]
  rw [e5] at k2
  exact k2
theorem f_RA {U : State} {cA : ClassId} {ty : FieldType} (h : ty = .int ∨ ty = .char ∨ ty = .long ∨ ty = .double) (h2 : va_RA U cA ty) : U.vm.findClass ("[" ++ ty.toString) = some cA := by
  rcases h with rfl | rfl | rfl | rfl <;> exact h2
theorem f_prim {t : Nat} (h : t < 4) : fty t = .int ∨ fty t = .char ∨ fty t = .long ∨ fty t = .double := by
  match t, h with
  | 0, _ => exact Or.inl rfl
  | 1, _ => exact Or.inr (Or.inl rfl)
  | 2, _ => exact Or.inr (Or.inr (Or.inl rfl))
  | 3, _ => exact Or.inr (Or.inr (Or.inr rfl))
theorem f_newarray {G : fG} {z : fMi} {d pc : Nat} {Q : fR → fS → Prop} {ls : List (Option Value)} {st : List Value} {S : fS} {kc ks : Nat} (hG : fOK G) {t N : Nat} {n : Int32} {atype : ArrayType} (hd : decode z.2.1 pc = .ok (.newarray atype, 2)) (hat : newarray.typeOf atype = fty t) (htt : t < 4) (hw : Cond.arrayClass (newarray.typeOf atype) ∈ lw_tbl) (hn : ¬ n < 0) (hN : n.toNatClampNeg = N) (hby : N * componentBytes (newarray.typeOf atype) ≤ 536870912) (hd0 : t = 3 → S.2.2.1 = 0) (hti : S.2.2.2 = true) (hlen : S.1.length < 4096) (hkc : 1 ≤ kc) (hks : N ≤ ks)
    (kk : fV G z d Q (pc + 2) ls (.ref S.1.length :: st) (fnew S (.inr (t, N, []))) (kc - 1) (ks - N)) : fV G z d Q pc ls (.int n :: st) S kc ks := by
  intro p e s m args below meth c R Z H locs cells slots lsr hC hE h1 h2 h3 h4 hW hS hl
  obtain ⟨hx, hb, hml, hr, hown, hlocks, ht, hnm, hB⟩ := id hC
  have hK := f_K hG hB
  have hz := hW.2.2.1 hti
  refine va_newaK hx hb (f_word hG hB hw rfl args) rfl hd rfl hn hN hby (by omega) (by omega) hz fun H1 cA e1 z1 o1 hA hf => ?_
  have hcA : cA = gcA G t := by
    have h5 := (hK.2 t _ (ftys_at G t (by omega))).2
    rw [hat] at hf
    exact Option.some.inj (hf.symm.trans (f_RA (f_prim htt) h5))
  subst hcA
  obtain ⟨g1, g2⟩ := f_made (e := .inr (t, N, [])) hW hS hB hti hlen (by rw [z1, hz]) (fun q hq => o1 q (by omega)) (by
    show H1[fo G + S.1.length]? = some (vp_cell _ _)
    rw [e1, hat]
    match t, htt, hd0 with
    | 0, _, _ => rfl
    | 1, _, _ => rfl
    | 2, _, _ => rfl
    | 3, _, hd0 =>
      show some (arrV (gcA G 3) N fun _ => defaultValue (fty 3)) = some (vp_cell (gcA G 3) (N, .inr (.inr (.inr (.inl fun _ => S.2.2.1)))))
      rw [hd0 rfl]
      rfl)
  have k2 := kk p e s m args below meth c R Z H1 locs (cells + 1) (slots + N) lsr hC hE h1 h2 (by omega) (by omega) g1 g2 hl
  rw [List.map_cons] at k2
  have e5 : frl G (.ref S.1.length) = .ref (fo G + S.1.length) := by
    show Value.ref (fad G S.1.length) = _
    rw [fad_lt hlen]
  rw [e5] at k2
  exact k2

