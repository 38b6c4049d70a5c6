/-! ===== constructors: nothing lies behind the world; its list is P ++ B, ints behind it 0 ===== -/
theorem f_anewarray {G : fG} {z : fMi} {d pc : Nat} {Q : fR → fS → Prop} {ls : List (Option Value)} {st : List Value} {S : fS} {kc ks : Nat} (hG : fOK G) {idx N : Nat} {n : Int32} (hd : decode z.2.1 pc = .ok (.anewarray idx, 3)) (hlk : Cond.classLink z.1.cls idx "JarCannery$State" ∈ lw_tbl) (hov : Cond.arrayOver (.object "JarCannery$State") ∈ lw_tbl) (hn : ¬ n < 0) (hN : n.toNatClampNeg = N) (hby : N * 4 ≤ 536870912) (hti : S.2.2.2 = true) (hlen : S.1.length < 4096) (hkc : 1 ≤ kc) (hks : N ≤ ks)
    (kk : fV G z d Q (pc + 3) ls (.ref S.1.length :: st) (fnew S (.inr (4, N, List.replicate N none))) (kc - 1) (ks - N)) : fV G z d Q pc ls (.int n :: st) S kc ks := by
  intro p e s m args below meth c R Z H locs cells slots lsr hC hE h1 h2 h3 h4 hW hS hl
  obtain ⟨hx, hb, hml, hr, hown, hlocks, ht, hnm, hB⟩ := id hC
  have hK := f_K hG hB
  have hz := hW.2.2.1 hti
  have hov2 : (Cond.arrayOver (.object "JarCannery$State")).before args s = true := ((va_AO.of (hG.1 _ hov)).moved hB.1.alike).use
  subst hN
  refine W.anew hx hb hown (f_word hG hB hlk rfl args) hov2 rfl hd rfl hn hby (by omega) (by omega) fun cA kA comp g1 g2 g3 g4 => ?_
  obtain ⟨kA', comp', k1, k2, k3, k4⟩ := (hK.2 4 _ (ftys_at G 4 (by decide))).2
  have hcA : cA = gcA G 4 := Option.some.inj (g1.symm.trans k4)
  subst hcA
  have hsz : fo G + S.1.length = H.size := hz.symm
  obtain ⟨q1, q2⟩ := f_made (e := .inr (4, n.toNatClampNeg, List.replicate n.toNatClampNeg none)) (H1 := H.push { cls := gcA G 4, slots := Array.replicate n.toNatClampNeg .null, vm := .none }) hW hS hB hti hlen (by rw [Array.size_push]) (fun q hq => by rw [Array.getElem?_push, if_neg (Nat.ne_of_lt hq)]) (by
    show (H.push _)[fo G + S.1.length]? = some (vp_cell _ _)
    rw [hsz, Array.getElem?_push_size, arrV_new]
    show _ = some (vp_cell (gcA G 4) (n.toNatClampNeg, .inr (.inr (.inr (.inr fun j => ((List.replicate n.toNatClampNeg none).getD j none).map (fad G))))))
    rw [vp_cell_q]
    congr 2
    funext j
    have e : (List.replicate n.toNatClampNeg (none : Option Nat)).getD j none = none := by
      rw [List.getD_eq_getElem?_getD]
      by_cases hj : j < n.toNatClampNeg
      · simp [hj]
      · simp [hj]
    rw [e]
    rfl)
  have k5 := kk p e s m args below meth c R Z _ locs (cells + 1) (slots + n.toNatClampNeg) lsr hC hE h1 h2 (by omega) (by omega) q1 q2 hl
  rw [List.map_cons] at k5
  have e5 : frl G (.ref S.1.length) = .ref H.size := by
    show Value.ref (fad G S.1.length) = _
    rw [fad_lt hlen, hsz]
  rw [e5] at k5
  exact k5
theorem f_aastore {G : fG} {z : fMi} {d pc : Nat} {Q : fR → fS → Prop} {ls : List (Option Value)} {st : List Value} {S : fS} {kc ks : Nat} (hG : fOK G) {k n r : Nat} {rs : List (Option Nat)} {sl : List (Option (Option Nat))} {i : Int32} (hd : decode z.2.1 pc = .ok (.aastore, 1)) (hL : S.1[k]? = some (.inr (4, n, rs))) (hv : S.1[r]? = some (.inl (8, sl))) (hin : vp_in i n) (hrs : rs.length = n) (hti : S.2.2.2 = true)
    (kk : fV G z d Q (pc + 1) ls st (fref S k (.inr (4, n, rs.set i.toNatClampNeg (some r)))) kc ks) : fV G z d Q pc ls (.ref r :: .int i :: .ref k :: st) S kc ks := by
  intro p e s m args below meth c R Z H locs cells slots lsr hC hE h1 h2 h3 h4 hW hS hl
  obtain ⟨hx, hb, hml, hr, hown, hlocks, ht, hnm, hB⟩ := id hC
  have hK := f_K hG hB
  show W p (gl G) e R s m args below meth c H locs cells slots Z (F0 m pc lsr (.ref (fad G r) :: .int i :: .ref (fad G k) :: st.map (frl G)))
  rw [fad_lt (fW_lt hW hL), fad_lt (fW_lt hW hv)]
  have hlt : i.toNatClampNeg < n := Nat.not_le.mp fun q => hin (Or.inr q)
  have e1 : (Sum.inl (gcA G 4, n, Sum.inr (Sum.inr (Sum.inr (Sum.inr (va_up (fun j => (rs.getD j none).map (fad G)) i.toNatClampNeg (some (fo G + r))))))) : va_E) = fce G (.inr (4, n, rs.set i.toNatClampNeg (some r))) (S.2.1 k) S.2.2.1 := by
    show _ = (Sum.inl (gcA G 4, n, Sum.inr (Sum.inr (Sum.inr (Sum.inr fun j => ((rs.set i.toNatClampNeg (some r)).getD j none).map (fad G))))) : va_E)
    refine congrArg (fun f => (Sum.inl (gcA G 4, n, Sum.inr (Sum.inr (Sum.inr (Sum.inr f)))) : va_E)) (funext fun j => ?_)
    by_cases hj : j = i.toNatClampNeg
    · subst hj
      rw [List.getD_eq_getElem?_getD, List.getElem?_set_self (by omega)]
      simp [va_up, fad_lt (fW_lt hW hv)]
    · rw [List.getD_eq_getElem?_getD, List.getElem?_set_ne (fun h => hj h.symm)]
      simp [va_up, hj]
  have e2 : (fwl G S.1 0 S.2.1 S.2.2.1).set k (fo G + k, fce G (.inr (4, n, rs.set i.toNatClampNeg (some r))) (S.2.1 k) S.2.2.1) = fwl G (S.1.set k (.inr (4, n, rs.set i.toNatClampNeg (some r)))) 0 S.2.1 S.2.2.1 := by
    have h9 := fwl_set (G := G) (d := S.2.2.1) (M := S.2.1) S.1 0 k (.inr (4, n, rs.set i.toNatClampNeg (some r))) (S.2.1 k) (List.getElem?_eq_some_iff.mp hL).1
    rw [Nat.zero_add] at h9
    rw [h9]
    refine fwl_ext _ _ fun a _ => ?_
    by_cases ha : a = k
    · subst ha; simp
    · simp [ha]
  obtain ⟨rr, hrr, cellV, g1, g2, g3, -⟩ := hW.1 r _ (fwl_get0 (G := G) hv)
  have hc8 : rr = (RX8, TX8, 8) := Option.some.inj (hrr.symm.trans rfl)
  subst hc8
  have hcls := (hK.1 8 _ hrr).2
  obtain ⟨kA, comp, k1, k2, k3, -⟩ := (hK.2 4 _ (ftys_at G 4 (by decide))).2
  have hcomp : comp = (gD G).1 8 := Option.some.inj (k3.symm.trans hcls.1)
  subst hcomp
  obtain ⟨kC, hkC, -⟩ := hcls.2
  have he := fwl_get0 (G := G) hL
  refine W.aast hx hb (hW.1 k _ he) (fun q h => by cases h) (fun h => by cases h) k1 k2 rfl hkC ⟨fun q => hin (Or.inl q), by show _ < (arrV _ _ _).slots.size; rw [arrV_size]; exact hlt⟩ g1 (fun q h => by rw [g3] at h; cases h) (by rw [g2]; exact hkC) (by rw [g2]; exact va_assign hcls) rfl rfl hd fun H1 e9 z9 oq => ?_
  have hW1 : fW G (fref S k (.inr (4, n, rs.set i.toNatClampNeg (some r)))) H1 := by
    refine ⟨?_, ?_, fun _ => ?_, ?_⟩
    · show va_P (gD G) fcl (fwl G (S.1.set k (.inr (4, n, rs.set i.toNatClampNeg (some r)))) 0 S.2.1 S.2.2.1) H1
      rw [← e2, ← e1]
      refine hW.1.set fwl_D he ?_ oq
      show H1[fo G + k]? = some (vp_cell _ _)
      rw [e9]
      show some (Cell.setSlot (vp_cell (gcA G 4) (n, .inr (.inr (.inr (.inr fun j => (rs.getD j none).map (fad G)))))) _ _) = _
      rw [vp_cell_q, vp_cell_q, arrV_store]
      congr 2
      funext q
      by_cases hq : q = i.toNatClampNeg
      · subst hq
        simp [updV, va_up, va_rf]
      · simp [updV, va_up, hq]
    · show (S.1.set k _).length ≤ 4096
      rw [List.length_set]; exact hW.2.1
    · show H1.size = fo G + (S.1.set k _).length
      rw [z9, List.length_set]; exact hW.2.2.1 hti
    · show fo G + (S.1.set k _).length ≤ H1.size
      rw [z9, List.length_set]; exact hW.2.2.2
  exact kk p e s m args below meth c R Z H1 _ cells slots lsr hC hE h1 h2 h3 h4 hW1 (hS.put z9 oq (show fo G ≤ fo G + k by omega)) hl
