
/-! ===== fields ===== -/
theorem fad_lt {G : fG} {k : Nat} (h : k < 4096) : fad G k = fo G + k := if_pos h
theorem f_set_self {α : Type} {L : List α} {k : Nat} {e : α} (h : L[k]? = some e) : L.set k e = L := by
  obtain ⟨h1, h2⟩ := List.getElem?_eq_some_iff.mp h
  subst h2
  exact List.set_getElem_self h1
def fput (S : fS) (k j : Nat) (x : Int32) : fS := (S.1, fst1 S.2.1 k j x, S.2.2)
def frow (S : fS) (k : Nat) (f : Nat → Int32) : fS := (S.1, fsr S.2.1 k f, S.2.2)
/-- a reference written (in a constructor) -/
def fref (S : fS) (k : Nat) (e : fE) : fS := (S.1.set k e, S.2)
theorem fwl_get0 {G : fG} {S : fS} {k : Nat} {e : fE} (h : S.1[k]? = some e) : (fwl G S.1 0 S.2.1 S.2.2.1)[k]? = some (fo G + k, fce G e (S.2.1 k) S.2.2.1) := by
  have h1 := fwl_get (G := G) (d := S.2.2.1) (M := S.2.1) S.1 0 k e h
  rwa [Nat.zero_add] at h1
theorem fwl_setr {G : fG} {S : fS} {k : Nat} {e : fE} {f : Nat → Int32} (h : S.1[k]? = some e) : (fwl G S.1 0 S.2.1 S.2.2.1).set k (fo G + k, fce G e f S.2.2.1) = fwl G (frow S k f).1 0 (frow S k f).2.1 (frow S k f).2.2.1 := by
  have h1 := fwl_set (G := G) (d := S.2.2.1) (M := S.2.1) S.1 0 k e f (List.getElem?_eq_some_iff.mp h).1
  rw [Nat.zero_add, f_set_self h] at h1
  exact h1
theorem fst1_row (M : fM) (k j : Nat) (x : Int32) : fst1 M k j x = fsr M k (fun b => if b = j then x else M k b) := rfl
theorem fwl_seto {G : fG} {S : fS} {k j ci : Nat} {sl : List (Option (Option Nat))} {x : Int32} (h : S.1[k]? = some (.inl (ci, sl))) (hs : sl[j]? = some none) : (fwl G S.1 0 S.2.1 S.2.2.1).set k (fo G + k, .inr (ci, (fsl G sl 0 (S.2.1 k)).set j (.int x))) = fwl G (fput S k j x).1 0 (fput S k j x).2.1 (fput S k j x).2.2.1 := by
  have h1 := fsl_set (G := G) (f := S.2.1 k) sl 0 j none x (List.getElem?_eq_some_iff.mp hs).1
  rw [f_set_self hs, Nat.zero_add] at h1
  have h2 : (Sum.inr (ci, (fsl G sl 0 (S.2.1 k)).set j (.int x)) : va_E) = fce G (.inl (ci, sl)) (fun a => if a = j then x else S.2.1 k a) S.2.2.1 := by
    show (Sum.inr (ci, (fsl G sl 0 (S.2.1 k)).set j (fvl G none x)) : va_E) = _
    rw [h1]
    rfl
  rw [h2, fwl_setr h]
  rfl
theorem fwl_setq {G : fG} {S : fS} {k j ci r : Nat} {sl : List (Option (Option Nat))} (h : S.1[k]? = some (.inl (ci, sl))) (hj : j < sl.length) : (fwl G S.1 0 S.2.1 S.2.2.1).set k (fo G + k, .inr (ci, (fsl G sl 0 (S.2.1 k)).set j (.ref (fad G r)))) = fwl G (fref S k (.inl (ci, sl.set j (some (some r))))).1 0 (fref S k (.inl (ci, sl.set j (some (some r))))).2.1 (fref S k (.inl (ci, sl.set j (some (some r))))).2.2.1 := by
  have h1 := fsl_set (G := G) (f := S.2.1 k) sl 0 j (some (some r)) (S.2.1 k j) hj
  have e1 : (fun a => if a = 0 + j then S.2.1 k j else S.2.1 k a) = S.2.1 k := by
    funext a
    by_cases ha : a = j
    · subst ha; simp
    · rw [if_neg (by omega)]
  rw [e1] at h1
  have h2 : (Sum.inr (ci, (fsl G sl 0 (S.2.1 k)).set j (.ref (fad G r))) : va_E) = fce G (.inl (ci, sl.set j (some (some r)))) (S.2.1 k) S.2.2.1 := by
    show (Sum.inr (ci, (fsl G sl 0 (S.2.1 k)).set j (fvl G (some (some r)) (S.2.1 k j))) : va_E) = _
    rw [h1]
    rfl
  have h3 := fwl_set (G := G) (d := S.2.2.1) (M := S.2.1) S.1 0 k (.inl (ci, sl.set j (some (some r)))) (S.2.1 k) (List.getElem?_eq_some_iff.mp h).1
  have e2 : (fun a => if a = 0 + k then S.2.1 k else S.2.1 a) = S.2.1 := by
    funext a
    by_cases ha : a = k
    · subst ha; simp
    · rw [if_neg (by omega)]
  rw [e2, Nat.zero_add] at h3
  rw [h2, h3]
  rfl
theorem fW_lt {G : fG} {S : fS} {H : Heap} {k : Nat} {e : fE} (hW : fW G S H) (h : S.1[k]? = some e) : k < 4096 := Nat.lt_of_lt_of_le (List.getElem?_eq_some_iff.mp h).1 hW.2.1
/-- a field of a class of the world, as an instruction names it -/
def fFd (own : String) (idx ci j : Nat) (ty : FieldType) (fin nest : Bool) : Prop := ∃ (C : String) (T : u_T) (N : Nat), fcl[ci]? = some (C, T, N) ∧ j < N ∧ (T j).1 = C ∧ parseFieldDescriptor (T j).2.2.1 = some ty ∧ (T j).2.2.2 = fin ∧
  (if nest = true then Cond.fieldLinkNest own idx C (T j).2.1 (T j).2.2.1 "JarCannery" ∈ lw_tbl else Cond.fieldLink own idx C (T j).2.1 (T j).2.2.1 ∈ lw_tbl)
theorem f_getv {G : fG} {z : fMi} {d pc : Nat} {Q : fR → fS → Prop} {ls : List (Option Value)} {st : List Value} {S : fS} {kc ks : Nat} (hG : fOK G) {idx ci j k : Nat} {ty : FieldType} {fin nest : Bool} {sl : List (Option (Option Nat))} {q : Option (Option Nat)} {v : Value} (hf : fFd z.1.cls idx ci j ty fin nest) (hd : decode z.2.1 pc = .ok (.getfield idx, 3)) (hL : S.1[k]? = some (.inl (ci, sl))) (hs : sl[j]? = some q) (hv : frl G v = fvl G q (S.2.1 k j))
    (kk : fV G z d Q (pc + 3) ls (v :: st) S kc ks) : fV G z d Q pc ls (.ref k :: st) S kc ks := by
  intro p e s m args below meth c R Z H locs cells slots lsr hC hE h1 h2 h3 h4 hW hS hl
  obtain ⟨hx, hb, hml, hr, hown, hlocks, ht, hnm, hB⟩ := id hC
  obtain ⟨C, T, N, hc, hj, hT, hty, hfin, hlk⟩ := hf
  have hK := f_K hG hB
  have hcl := fcl_ok hc
  have he := fwl_get0 (G := G) hL
  have hk4 := fW_lt hW hL
  have hg : (fsl G sl 0 (S.2.1 k))[j]? = some (fvl G q (S.2.1 k j)) := by
    have h9 := fsl_get (G := G) (f := S.2.1 k) sl 0 j q hs
    rwa [Nat.zero_add] at h9
  have kk2 := kk p e s m args below meth c R Z H locs cells slots lsr hC hE h1 h2 h3 h4 hW hS hl
  rw [List.map_cons, hv] at kk2
  show W p (gl G) e R s m args below meth c H locs cells slots Z (F0 m pc lsr (.ref (fad G k) :: st.map (frl G)))
  rw [fad_lt hk4]
  cases nest with
  | false =>
    exact va_get (Ts := u_ws C T N) hx hb (f_cw hG hB hcl args) (fun w h => h) hown hK hW.1 k he hc j hj (f_word hG hB hlk rfl args) (fun y h => by rw [hT] at h; exact h) hg hd kk2
  | true =>
    exact va_getN (Ts := u_ws C T N) hx hb (f_cw hG hB hcl args) (fun w h => h) hown hK hW.1 k he hc j hj (f_nestF hG hB hlk args) (fun y h => by rw [hT] at h; exact h) hg hd kk2
theorem f_geti {G : fG} {z : fMi} {d pc : Nat} {Q : fR → fS → Prop} {ls : List (Option Value)} {st : List Value} {S : fS} {kc ks : Nat} (hG : fOK G) {idx ci j k : Nat} {ty : FieldType} {fin nest : Bool} {sl : List (Option (Option Nat))} (hf : fFd z.1.cls idx ci j ty fin nest) (hd : decode z.2.1 pc = .ok (.getfield idx, 3)) (hL : S.1[k]? = some (.inl (ci, sl))) (hs : sl[j]? = some none)
    (kk : fV G z d Q (pc + 3) ls (.int (S.2.1 k j) :: st) S kc ks) : fV G z d Q pc ls (.ref k :: st) S kc ks := f_getv hG hf hd hL hs rfl kk
theorem f_getr {G : fG} {z : fMi} {d pc : Nat} {Q : fR → fS → Prop} {ls : List (Option Value)} {st : List Value} {S : fS} {kc ks : Nat} (hG : fOK G) {idx ci j k r : Nat} {ty : FieldType} {fin nest : Bool} {sl : List (Option (Option Nat))} (hf : fFd z.1.cls idx ci j ty fin nest) (hd : decode z.2.1 pc = .ok (.getfield idx, 3)) (hL : S.1[k]? = some (.inl (ci, sl))) (hs : sl[j]? = some (some (some r)))
    (kk : fV G z d Q (pc + 3) ls (.ref r :: st) S kc ks) : fV G z d Q pc ls (.ref k :: st) S kc ks := f_getv hG hf hd hL hs rfl kk
/-- behind a write into an object of the world -/
theorem f_wrote {G : fG} {s : State} {H H1 : Heap} {locs : List Loc} {S S1 : fS} {k ci j : Nat} {sl : List (Option (Option Nat))} {v : Value} {C : String} {T : u_T} {N : Nat} {cell : Cell} (hK : va_K (gD G) fcl (ftys G) s) (hB : fB G s) (hW : fW G S H) (hS : va_S (fA G) s.heap H locs) (hL : S.1[k]? = some (.inl (ci, sl))) (hc : fcl[ci]? = some (C, T, N))
    (hap : ∀ x y, x < N → y < N → x ≠ y → (gD G).2 ci x ≠ (gD G).2 ci y) (hj : j < N) (hjl : j < sl.length) (q2 : cell.cls = (gD G).1 ci) (q3 : cell.vm = .none) (q4 : ∀ i, i < N → cell.slots[(gD G).2 ci i]? = some (vp_V (fsl G sl 0 (S.2.1 k)) i))
    (e1 : H1[fo G + k]? = some (cell.setSlot ((gD G).2 ci j) v)) (e2 : H1.size = H.size) (e3 : ∀ q : Nat, q ≠ fo G + k → H1[q]? = H[q]?)
    (hS1 : (fwl G S.1 0 S.2.1 S.2.2.1).set k (fo G + k, .inr (ci, (fsl G sl 0 (S.2.1 k)).set j v)) = fwl G S1.1 0 S1.2.1 S1.2.2.1) (hz : S1.1.length = S.1.length) (ht : S1.2.2.2 = S.2.2.2) :
    fW G S1 H1 ∧ va_S (fA G) s.heap H1 (locs ++ [⟨fo G + k, (gD G).2 ci j⟩]) := by
  have he := fwl_get0 (G := G) hL
  refine ⟨⟨?_, by rw [hz]; exact hW.2.1, fun h => by rw [e2, hz]; exact hW.2.2.1 (ht ▸ h), by rw [e2, hz]; exact hW.2.2.2⟩, hS.put e2 e3 (show fo G ≤ fo G + k by omega)⟩
  rw [← hS1]
  exact hW.1.set fwl_D he ⟨_, hc, t_OB.to (V := updV (vp_V (fsl G sl 0 (S.2.1 k))) j v) ⟨_, e1, q2, q3, t_set q4 hap hj v⟩ (fun i _ => vp_updV_set (by rw [fsl_len]; exact hjl) v i)⟩ e3
theorem f_put {G : fG} {z : fMi} {d pc : Nat} {Q : fR → fS → Prop} {ls : List (Option Value)} {st : List Value} {S S1 : fS} {kc ks : Nat} (hG : fOK G) {idx ci j k : Nat} {ty : FieldType} {fin nest : Bool} {sl : List (Option (Option Nat))} {v : Value} (hf : fFd z.1.cls idx ci j ty fin nest) (hfi : fin = false ∨ (z.1.name = "<init>" ∧ nest = false ∧ (fcl[ci]?).map (fun q => q.1) = some z.1.cls)) (hd : decode z.2.1 pc = .ok (.putfield idx, 3)) (hL : S.1[k]? = some (.inl (ci, sl))) (hjl : j < sl.length) (hn : narrow ty (frl G v) = frl G v) (hfit : fits ty (frl G v) = true)
    (hS1 : (fwl G S.1 0 S.2.1 S.2.2.1).set k (fo G + k, .inr (ci, (fsl G sl 0 (S.2.1 k)).set j (frl G v))) = fwl G S1.1 0 S1.2.1 S1.2.2.1) (hz : S1.1.length = S.1.length) (ht : S1.2.2.2 = S.2.2.2)
    (kk : fV G z d Q (pc + 3) ls st S1 kc ks) : fV G z d Q pc ls (v :: .ref k :: st) S kc ks := by
  intro p e s m args below meth c R Z H locs cells slots lsr hC hE h1 h2 h3 h4 hW hS hl
  obtain ⟨hx, hb, hml, hr, hown, hlocks, hta, hnm, hB⟩ := id hC
  obtain ⟨C, T, N, hc, hj, hT, hty, hfin, hlk⟩ := hf
  have hK := f_K hG hB
  have hcl := fcl_ok hc
  obtain ⟨ty0, hty0⟩ := hcl.2.2
  have hk4 := fW_lt hW hL
  have hts := f_cw hG hB hcl args
  have hap := va_apart (own := z.1.cls) (Ts := u_ws C T N) hts (fun w h => h) ty0 hty0 hcl.2.1 hK hc
  obtain ⟨r, hr1, cell, q1, q2, q3, q4⟩ := hW.1 k _ (fwl_get0 (G := G) hL)
  have hrr : r = (C, T, N) := Option.some.inj (hr1.symm.trans hc)
  subst hrr
  obtain ⟨hSl, hfc, kC, hkC, hkind⟩ := hK.1 ci _ hc
  obtain ⟨cf, kf, fi, f, hi, hsl⟩ := hSl j hj
  have hst := (u_facts hfc hkC (u_lays (ws := u_ws C T N) hts (fun w h => h) hj) hi).1
  have hi2 : s.fieldFound? C (T j).2.1 (T j).2.2.1 = some (cf, kf, fi, f) := by rw [hT] at hi; exact hi
  show W p (gl G) e R s m args below meth c H locs cells slots Z (F0 m pc lsr (frl G v :: .ref (fad G k) :: st.map (frl G)))
  rw [fad_lt hk4]
  have fin1 : ∀ (H1 : Heap), H1[fo G + k]? = some (cell.setSlot f.slot (frl G v)) → H1.size = H.size → (∀ q : Nat, q ≠ fo G + k → H1[q]? = H[q]?) → W p (gl G) e R s m args below meth c H1 (locs ++ [⟨fo G + k, f.slot⟩]) cells slots Z (F0 m (pc + 3) lsr (st.map (frl G))) := by
    intro H1 e1 e2 e3
    rw [hsl] at e1 ⊢
    obtain ⟨g1, g2⟩ := f_wrote hK hB hW hS hL hc hap hj hjl q2 q3 q4 e1 e2 e3 hS1 hz ht
    exact kk p e s m args below meth c R Z H1 _ cells slots lsr hC hE h1 h2 h3 h4 g1 g2 hl
  have hslot : f.slot < cell.slots.size := by rw [hsl]; exact k2_hasslot (q4 j hj)
  have hlay := hts _ (u_in_lay hj)
  unfold u_lay at hlay
  cases fin with
  | false =>
    rw [if_neg (by rw [hfin]; decide)] at hlay
    have h6 := u_store hfc hkC hkind hlay hi hty hn hfit
    cases nest with
    | false => exact W.putK hx hb (f := f) ⟨hown, f_word hG hB hlk rfl args, ⟨_, _, _, hi2⟩, hst⟩ (by rw [q2]; exact h6) q1 q3 hslot rfl rfl hd fin1
    | true => exact va_WputK hx hb (f := f) hown (f_nestF hG hB hlk args) hi2 hst (by rw [q2]; exact h6) q1 q3 hslot rfl rfl hd fin1
  | true =>
    rw [if_pos hfin] at hlay
    rcases hfi with h9 | ⟨h9, h8, h7⟩
    · cases h9
    · subst h8
      have hCo : C = z.1.cls := by rw [hc] at h7; exact Option.some.inj h7
      have hcf : m.cls = cf := by
        obtain ⟨_, _, c', _, _, _, -, -, hf', -, -, -, hown2, -⟩ := Cond.laysFinal_spec hlay
        have e1 : c' = cf := by have := hi.symm.trans hf'; simp at this; exact this.1.symm
        rw [hT, hCo] at hown2
        rw [← e1]; exact Option.some.inj (hown.symm.trans hown2)
      have h6 := u_fits hfc hkC hkind (Or.inr hlay) hi hty hn hfit
      exact W.putFinK hx hb hown (f_word hG hB hlk rfl args) hi2 hst hcf (hnm.trans h9) (by rw [q2]; exact h6) q1 q3 hslot rfl rfl hd fin1
theorem f_puti {G : fG} {z : fMi} {d pc : Nat} {Q : fR → fS → Prop} {ls : List (Option Value)} {st : List Value} {S : fS} {kc ks : Nat} (hG : fOK G) {idx ci j k : Nat} {ty : FieldType} {fin nest : Bool} {sl : List (Option (Option Nat))} {x : Int32} (hf : fFd z.1.cls idx ci j ty fin nest) (hfi : fin = false ∨ (z.1.name = "<init>" ∧ nest = false ∧ (fcl[ci]?).map (fun q => q.1) = some z.1.cls)) (hd : decode z.2.1 pc = .ok (.putfield idx, 3)) (hL : S.1[k]? = some (.inl (ci, sl))) (hs : sl[j]? = some none) (hn : narrow ty (.int x) = .int x) (hfit : fits ty (.int x) = true)
    (kk : fV G z d Q (pc + 3) ls st (fput S k j x) kc ks) : fV G z d Q pc ls (.int x :: .ref k :: st) S kc ks :=
  f_put hG (v := .int x) hf hfi hd hL (List.getElem?_eq_some_iff.mp hs).1 hn hfit (fwl_seto hL hs) rfl rfl kk
theorem f_putr {G : fG} {z : fMi} {d pc : Nat} {Q : fR → fS → Prop} {ls : List (Option Value)} {st : List Value} {S : fS} {kc ks : Nat} (hG : fOK G) {idx ci j k r : Nat} {ty : FieldType} {fin nest : Bool} {sl : List (Option (Option Nat))} {e' : fE} (hf : fFd z.1.cls idx ci j ty fin nest) (hfi : fin = false ∨ (z.1.name = "<init>" ∧ nest = false ∧ (fcl[ci]?).map (fun q => q.1) = some z.1.cls)) (hd : decode z.2.1 pc = .ok (.putfield idx, 3)) (hL : S.1[k]? = some (.inl (ci, sl))) (hjl : j < sl.length) (hn : ∀ a, narrow ty (.ref a) = .ref a) (hfit : ∀ a, fits ty (.ref a) = true) (he : (Sum.inl (ci, sl.set j (some (some r))) : fE) = e')
    (kk : fV G z d Q (pc + 3) ls st (fref S k e') kc ks) : fV G z d Q pc ls (.ref r :: .ref k :: st) S kc ks := by
  subst he
  exact f_put hG (v := .ref r) hf hfi hd hL hjl (hn _) (hfit _) (fwl_setq hL hjl) (by simp [fref]) rfl kk
/-! ===== arrays ===== -/
theorem f_iaload {G : fG} {z : fMi} {d pc : Nat} {Q : fR → fS → Prop} {ls : List (Option Value)} {st : List Value} {S : fS} {kc ks : Nat} (hG : fOK G) {k n : Nat} {rs : List (Option Nat)} {i : Int32} (hd : decode z.2.1 pc = .ok (.iaload, 1)) (hL : S.1[k]? = some (.inr (0, n, rs))) (hin : vp_in i n)
    (kk : fV G z d Q (pc + 1) ls (.int (S.2.1 k i.toNatClampNeg) :: st) S kc ks) : fV G z d Q pc ls (.int i :: .ref k :: st) S kc ks := by
  intro p e s m args below meth c R Z H locs cells slots lsr hC hE h1 h2 h3 h4 hW hS hl
  show W p (gl G) e R s m args below meth c H locs cells slots Z (F0 m pc lsr (.int i :: .ref (fad G k) :: st.map (frl G)))
  rw [fad_lt (fW_lt hW hL)]
  exact va_iald hC.1 hC.2.1 (f_K hG hC.2.2.2.2.2.2.2.2) hW.1 k 0 (fwl_get0 (G := G) hL) rfl hin hd (kk p e s m args below meth c R Z H locs cells slots lsr hC hE h1 h2 h3 h4 hW hS hl)
theorem f_caload {G : fG} {z : fMi} {d pc : Nat} {Q : fR → fS → Prop} {ls : List (Option Value)} {st : List Value} {S : fS} {kc ks : Nat} (hG : fOK G) {k n : Nat} {rs : List (Option Nat)} {i : Int32} (hd : decode z.2.1 pc = .ok (.caload, 1)) (hL : S.1[k]? = some (.inr (1, n, rs))) (hin : vp_in i n)
    (kk : fV G z d Q (pc + 1) ls (.int (S.2.1 k i.toNatClampNeg) :: st) S kc ks) : fV G z d Q pc ls (.int i :: .ref k :: st) S kc ks := by
  intro p e s m args below meth c R Z H locs cells slots lsr hC hE h1 h2 h3 h4 hW hS hl
  show W p (gl G) e R s m args below meth c H locs cells slots Z (F0 m pc lsr (.int i :: .ref (fad G k) :: st.map (frl G)))
  rw [fad_lt (fW_lt hW hL)]
  exact va_cald hC.1 hC.2.1 (f_K hG hC.2.2.2.2.2.2.2.2) hW.1 k 1 (fwl_get0 (G := G) hL) rfl hin hd (kk p e s m args below meth c R Z H locs cells slots lsr hC hE h1 h2 h3 h4 hW hS hl)
theorem f_laload {G : fG} {z : fMi} {d pc : Nat} {Q : fR → fS → Prop} {ls : List (Option Value)} {st : List Value} {S : fS} {kc ks : Nat} (hG : fOK G) {k n : Nat} {rs : List (Option Nat)} {i : Int32} (hd : decode z.2.1 pc = .ok (.laload, 1)) (hL : S.1[k]? = some (.inr (2, n, rs))) (hin : vp_in i n)
    (kk : fV G z d Q (pc + 1) ls (.long (S.2.1 k i.toNatClampNeg).toInt64 :: st) S kc ks) : fV G z d Q pc ls (.int i :: .ref k :: st) S kc ks := by
  intro p e s m args below meth c R Z H locs cells slots lsr hC hE h1 h2 h3 h4 hW hS hl
  show W p (gl G) e R s m args below meth c H locs cells slots Z (F0 m pc lsr (.int i :: .ref (fad G k) :: st.map (frl G)))
  rw [fad_lt (fW_lt hW hL)]
  exact va_lald hC.1 hC.2.1 (f_K hG hC.2.2.2.2.2.2.2.2) hW.1 k 2 (fwl_get0 (G := G) hL) rfl hin hd (kk p e s m args below meth c R Z H locs cells slots lsr hC hE h1 h2 h3 h4 hW hS hl)
theorem f_daload {G : fG} {z : fMi} {d pc : Nat} {Q : fR → fS → Prop} {ls : List (Option Value)} {st : List Value} {S : fS} {kc ks : Nat} (hG : fOK G) {k n : Nat} {rs : List (Option Nat)} {i : Int32} (hd : decode z.2.1 pc = .ok (.daload, 1)) (hL : S.1[k]? = some (.inr (3, n, rs))) (hin : vp_in i n)
    (kk : fV G z d Q (pc + 1) ls (.double S.2.2.1 :: st) S kc ks) : fV G z d Q pc ls (.int i :: .ref k :: st) S kc ks := by
  intro p e s m args below meth c R Z H locs cells slots lsr hC hE h1 h2 h3 h4 hW hS hl
  show W p (gl G) e R s m args below meth c H locs cells slots Z (F0 m pc lsr (.int i :: .ref (fad G k) :: st.map (frl G)))
  rw [fad_lt (fW_lt hW hL)]
  exact va_dald hC.1 hC.2.1 (f_K hG hC.2.2.2.2.2.2.2.2) hW.1 k 3 (fwl_get0 (G := G) hL) rfl hin hd (kk p e s m args below meth c R Z H locs cells slots lsr hC hE h1 h2 h3 h4 hW hS hl)
theorem f_aaload {G : fG} {z : fMi} {d pc : Nat} {Q : fR → fS → Prop} {ls : List (Option Value)} {st : List Value} {S : fS} {kc ks : Nat} (hG : fOK G) {k n r : Nat} {rs : List (Option Nat)} {i : Int32} (hd : decode z.2.1 pc = .ok (.aaload, 1)) (hL : S.1[k]? = some (.inr (4, n, rs))) (hin : vp_in i n) (hr : rs.getD i.toNatClampNeg none = some r)
    (kk : fV G z d Q (pc + 1) ls (.ref r :: st) S kc ks) : fV G z d Q pc ls (.int i :: .ref k :: st) S kc ks := by
  intro p e s m args below meth c R Z H locs cells slots lsr hC hE h1 h2 h3 h4 hW hS hl
  show W p (gl G) e R s m args below meth c H locs cells slots Z (F0 m pc lsr (.int i :: .ref (fad G k) :: st.map (frl G)))
  rw [fad_lt (fW_lt hW hL)]
  refine va_aldq hC.1 hC.2.1 (f_K hG hC.2.2.2.2.2.2.2.2) hW.1 k 4 (fwl_get0 (G := G) hL) rfl hin hd ?_
  show W p (gl G) e R s m args below meth c H locs cells slots Z (F0 m (pc + 1) lsr (va_rf ((rs.getD i.toNatClampNeg none).map (fad G)) :: st.map (frl G)))
  rw [hr]
  exact kk p e s m args below meth c R Z H locs cells slots lsr hC hE h1 h2 h3 h4 hW hS hl
theorem f_alen {G : fG} {z : fMi} {d pc : Nat} {Q : fR → fS → Prop} {ls : List (Option Value)} {st : List Value} {S : fS} {kc ks : Nat} (hG : fOK G) {k t n : Nat} {rs : List (Option Nat)} {v : Int32} (hd : decode z.2.1 pc = .ok (.arraylength, 1)) (hL : S.1[k]? = some (.inr (t, n, rs))) (ht : t < 5) (hv : Int32.ofNat n = v)
    (kk : fV G z d Q (pc + 1) ls (.int v :: st) S kc ks) : fV G z d Q pc ls (.ref k :: st) S kc ks := by
  intro p e s m args below meth c R Z H locs cells slots lsr hC hE h1 h2 h3 h4 hW hS hl
  show W p (gl G) e R s m args below meth c H locs cells slots Z (F0 m pc lsr (.ref (fad G k) :: st.map (frl G)))
  rw [fad_lt (fW_lt hW hL)]
  exact va_alen hC.1 hC.2.1 (f_K hG hC.2.2.2.2.2.2.2.2) hW.1 k t (fwl_get0 (G := G) hL) (ftys_at G t ht) hv hd (kk p e s m args below meth c R Z H locs cells slots lsr hC hE h1 h2 h3 h4 hW hS hl)
/-- behind a write into an array of the world -/
theorem f_wroteA {G : fG} {s : State} {H H1 : Heap} {locs : List Loc} {S : fS} {k : Nat} {e : fE} {f : Nat → Int32} (hW : fW G S H) (hS : va_S (fA G) s.heap H locs) (hL : S.1[k]? = some e) (hat : va_at (gD G) fcl (fo G + k, fce G e f S.2.2.1) H1) (e2 : H1.size = H.size) (e3 : ∀ q : Nat, q ≠ fo G + k → H1[q]? = H[q]?) :
    fW G (frow S k f) H1 := by
  refine ⟨?_, hW.2.1, fun h => e2.trans (hW.2.2.1 h), by rw [e2]; exact hW.2.2.2⟩
  rw [← fwl_setr hL]
  exact hW.1.set fwl_D (fwl_get0 (G := G) hL) hat e3
theorem f_iastore {G : fG} {z : fMi} {d pc : Nat} {Q : fR → fS → Prop} {ls : List (Option Value)} {st : List Value} {S : fS} {kc ks : Nat} (hG : fOK G) {k n : Nat} {rs : List (Option Nat)} {i x : Int32} (hd : decode z.2.1 pc = .ok (.iastore, 1)) (hL : S.1[k]? = some (.inr (0, n, rs))) (hin : vp_in i n)
    (kk : fV G z d Q (pc + 1) ls st (fput S k i.toNatClampNeg x) kc ks) : fV G z d Q pc ls (.int x :: .int i :: .ref k :: st) S kc ks := by
  intro p e s m args below meth c R Z H locs cells slots lsr hC hE h1 h2 h3 h4 hW hS hl
  show W p (gl G) e R s m args below meth c H locs cells slots Z (F0 m pc lsr (.int x :: .int i :: .ref (fad G k) :: st.map (frl G)))
  rw [fad_lt (fW_lt hW hL)]
  have hK := f_K hG hC.2.2.2.2.2.2.2.2
  have he := fwl_get0 (G := G) hL
  refine W.iast hC.1 hC.2.1 (hW.1 k _ he) ((hK.2 0 _ rfl).1 n (fun j => .int (S.2.1 k j))) (fun q => by cases q) (by show ¬ (i < 0 ∨ (arrV _ _ _).slots.size ≤ _); rw [arrV_size]; exact hin) rfl rfl hd fun H1 e1 e2 e3 => ?_
  refine kk p e s m args below meth c R Z H1 _ cells slots lsr hC hE h1 h2 h3 h4 (f_wroteA (f := fun b => if b = i.toNatClampNeg then x else S.2.1 k b) hW hS hL ?_ e2 e3) (hS.put e2 e3 (show fo G ≤ fo G + k by omega)) hl
  show H1[fo G + k]? = some (vp_cell _ _)
  rw [e1]
  show some (Cell.setSlot (vp_cell (gcA G 0) (n, .inl (S.2.1 k))) _ _) = some (vp_cell (gcA G 0) (n, .inl _))
  rw [vp_cell_i, vp_cell_i, arrV_store]
  congr 2
  funext q
  by_cases hq : q = i.toNatClampNeg
  · subst hq; simp [updV]
  · simp [updV, hq]

