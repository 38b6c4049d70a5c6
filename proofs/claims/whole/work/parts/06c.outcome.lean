/-! ===== an outcome that may be a throw ===== -/
def fO (dv : UInt64) (o : fR × fM) : fR → fS → Prop := fun r S' => r = o.1 ∧ S' = sS o.2 dv
section FO
variable {G : fG} {z : fMi} {d pc : Nat} {Q : fR → fS → Prop} {ls : List (Option Value)} {st : List Value} {S : fS} {kc ks : Nat} {dv : UInt64} {M2 : fM}
theorem f_rV (hG : fOK G) {z2 : fMi} {d2 idx n mc ms k ci : Nat} {As rest : List Value} {v : Option Value} {sl : List (Option (Option Nat))} (hd : decode z.2.1 pc = .ok (.invokevirtual idx, 3)) (hst : st = As.reverse ++ .ref k :: rest) (hk : fMk z2 n) (hn : As.length = n) (hh : z2.2.2.2.2 = []) (hm : Cond.methodLink z.1.cls idx z2.1 ∈ lw_tbl) (hi : Cond.instanceMethod z2.1 ∈ lw_tbl) (hs : Cond.selects z2.1.cls z2.1 z2.1 ∈ lw_tbl) (hL : S.1[k]? = some (.inl (ci, sl))) (hcl : (fcl[ci]?).map (fun q => q.1) = some z2.1.cls)
    (hc : fCt G z2 d2 (.ref k :: As) S mc ms (fO dv (.inl v, M2))) (hdd : d2 < d) (hcat : (rest.map (fun v => v.category)).sum ≤ 8) (hmc : mc ≤ kc) (hms : ms ≤ ks) (kk : fV G z d Q (pc + 3) ls (v.toList ++ rest) (sS M2 dv) (kc - mc) (ks - ms)) : fV G z d Q pc ls st S kc ks :=
  f_callV hG hk hh hm hi hs hL hcl hd hc hn hdd hmc hms hcat hst (fun E S' h => by cases h.1) (fun v' S' h => by obtain ⟨h1, rfl⟩ := h; cases h1; exact kk)
theorem f_rS (hG : fOK G) {z2 : fMi} {d2 idx n mc ms : Nat} {As rest : List Value} {v : Option Value} (hd : decode z.2.1 pc = .ok (.invokestatic idx, 3)) (hst : st = As.reverse ++ rest) (hk : fMk z2 n) (hn : As.length = n) (hh : z2.2.2.2.2 = []) (hm : Cond.methodLink z.1.cls idx z2.1 ∈ lw_tbl) (hs : Cond.static z2.1 ∈ lw_tbl)
    (hc : fCt G z2 d2 As S mc ms (fO dv (.inl v, M2))) (hdd : d2 < d) (hcat : (rest.map (fun v => v.category)).sum ≤ 8) (hmc : mc ≤ kc) (hms : ms ≤ ks) (kk : fV G z d Q (pc + 3) ls (v.toList ++ rest) (sS M2 dv) (kc - mc) (ks - ms)) : fV G z d Q pc ls st S kc ks :=
  f_callS hG hk hh hm hs hd hc hn hdd hmc hms hcat hst (fun E S' h => by cases h.1) (fun v' S' h => by obtain ⟨h1, rfl⟩ := h; cases h1; exact kk)
theorem f_tV (hG : fOK G) {z2 : fMi} {d2 idx n mc ms k ci : Nat} {As rest : List Value} {E : String} {sl : List (Option (Option Nat))} (hd : decode z.2.1 pc = .ok (.invokevirtual idx, 3)) (hst : st = As.reverse ++ .ref k :: rest) (hk : fMk z2 n) (hn : As.length = n) (hh : z2.2.2.2.2 = []) (hm : Cond.methodLink z.1.cls idx z2.1 ∈ lw_tbl) (hi : Cond.instanceMethod z2.1 ∈ lw_tbl) (hs : Cond.selects z2.1.cls z2.1 z2.1 ∈ lw_tbl) (hL : S.1[k]? = some (.inl (ci, sl))) (hcl : (fcl[ci]?).map (fun q => q.1) = some z2.1.cls)
    (hc : fCt G z2 d2 (.ref k :: As) S mc ms (fO dv (.inr E, M2))) (hdd : d2 < d) (hcat : (rest.map (fun v => v.category)).sum ≤ 8) (hmc : mc ≤ kc) (hms : ms ≤ ks) (kx : fVX G z d Q pc ls rest (sS M2 dv) (kc - mc) (ks - ms) E) : fV G z d Q pc ls st S kc ks :=
  f_callV hG hk hh hm hi hs hL hcl hd hc hn hdd hmc hms hcat hst (fun E' S' h => by obtain ⟨h1, rfl⟩ := h; cases h1; exact kx) (fun v' S' h => by cases h.1)
theorem f_tS (hG : fOK G) {z2 : fMi} {d2 idx n mc ms : Nat} {As rest : List Value} {E : String} (hd : decode z.2.1 pc = .ok (.invokestatic idx, 3)) (hst : st = As.reverse ++ rest) (hk : fMk z2 n) (hn : As.length = n) (hh : z2.2.2.2.2 = []) (hm : Cond.methodLink z.1.cls idx z2.1 ∈ lw_tbl) (hs : Cond.static z2.1 ∈ lw_tbl)
    (hc : fCt G z2 d2 As S mc ms (fO dv (.inr E, M2))) (hdd : d2 < d) (hcat : (rest.map (fun v => v.category)).sum ≤ 8) (hmc : mc ≤ kc) (hms : ms ≤ ks) (kx : fVX G z d Q pc ls rest (sS M2 dv) (kc - mc) (ks - ms) E) : fV G z d Q pc ls st S kc ks :=
  f_callS hG hk hh hm hs hd hc hn hdd hmc hms hcat hst (fun E' S' h => by obtain ⟨h1, rfl⟩ := h; cases h1; exact kx) (fun v' S' h => by cases h.1)
end FO
theorem f_drop {G : fG} {z : fMi} {d pc : Nat} {Q : fR → fS → Prop} {ls : List (Option Value)} {st : List Value} {S : fS} {kc ks : Nat} (i : Nat) (kk : fV G z d Q pc (ls.set i none) st S kc ks) : fV G z d Q pc ls st S kc ks := by
  refine f_locals (fun k v h => ?_) kk
  by_cases hk : i = k
  · subst hk
    by_cases hl : i < ls.length
    · rw [List.getElem?_set_self hl] at h
      cases h
    · rw [List.getElem?_eq_none (by simpa using hl)] at h
      cases h
  · rwa [List.getElem?_set_ne hk] at h
