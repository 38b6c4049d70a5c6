/-! ===== constructors, walked over P ++ B ===== -/
/-- ints from n on are 0 -/
def zz (M : fM) (n : Nat) : Prop := ∀ a, n ≤ a → ∀ b, M a b = 0
theorem zz.up {M : fM} {n n' : Nat} (h : zz M n) (hn : n ≤ n') : zz M n' := fun a ha b => h a (by omega) b
theorem zz.put {M : fM} {n k j : Nat} {x : Int32} (h : zz M n) (hk : k < n) : zz (fst1 M k j x) n := fun a ha b => by rw [fst1_ne (by omega)]; exact h a ha b
theorem fst1_self0 {M : fM} {k j : Nat} (h : M k j = 0) : fst1 M k j 0 = M := by
  funext a b
  by_cases ha : a = k
  · subst ha
    by_cases hb : b = j
    · subst hb; rw [fst1_at, h]
    · rw [fst1_nj hb]
  · rw [fst1_ne ha]
abbrev mS (P B : List fE) (M : fM) : fS := (P ++ B, M, 0, true)
theorem mk_len {P B : List fE} {k n : Nat} (hP : P.length = k) (hn : B.length = n) : (P ++ B).length = k + n := by rw [List.length_append, hP, hn]
theorem mk_get {P B : List fE} {k j : Nat} {e : fE} (hP : P.length = k) (h : B[j]? = some e) : (P ++ B)[k + j]? = some e := by
  rw [List.getElem?_append_right (by omega), hP, Nat.add_sub_cancel_left]; exact h
theorem mk_set {P B : List fE} {k j : Nat} {e : fE} (hP : P.length = k) : (P ++ B).set (k + j) e = P ++ B.set j e := by
  rw [List.set_append_right _ _ (by omega), hP, Nat.add_sub_cancel_left]
theorem mk_new {P B : List fE} {M : fM} {k n : Nat} {e : fE} (hP : P.length = k) (hn : B.length = n) (hM : zz M (k + n)) : fnew (mS P B M) e = mS P (B ++ [e]) M := by
  have h1 : fsr M (P ++ B).length (fun _ => 0) = M := by
    funext a b
    by_cases ha : a = (P ++ B).length
    · subst ha
      rw [fsr_at, hM _ (by rw [mk_len hP hn]; exact Nat.le_refl _) b]
    · rw [fsr_ne ha]
  show ((P ++ B) ++ [e], fsr M (P ++ B).length (fun _ => 0), (0 : UInt64), true) = (P ++ (B ++ [e]), M, 0, true)
  rw [h1, List.append_assoc]
/-- what a class's new object is -/
def nwC (ci N : Nat) (T : u_T) (ty : Nat → FieldType) (sl : List (Option (Option Nat))) : Prop := (∀ k, k < N → parseFieldDescriptor (T k).2.2.1 = some (ty k)) ∧ ∀ j, j < N → (sl[j]? = some none ∧ defaultValue (ty j) = .int 0) ∨ (sl[j]? = some (some none) ∧ defaultValue (ty j) = .null)
section MK
variable {G : fG} {z : fMi} {d pc : Nat} {Q : fR → fS → Prop} {ls : List (Option Value)} {st : List Value} {P B : List fE} {M : fM} {kc ks : Nat}
theorem m_new (hG : fOK G) {idx ci N k n : Nat} {C : String} {T : u_T} {ty : Nat → FieldType} {sl : List (Option (Option Nat))} (B' : List fE) (hB : B ++ [.inl (ci, sl)] = B') (hP : P.length = k) (hn : B.length = n) (hM : zz M (k + n)) (hc : fcl[ci]? = some (C, T, N)) (hw : nwC ci N T ty sl) (hd : decode z.2.1 pc = .ok (.new idx, 3)) (hlk : Cond.classLink z.1.cls idx C ∈ lw_tbl) (hin : Cond.instantiable C N ∈ lw_tbl) (hini : Cond.initialized C ∈ lw_tbl) (hlen : k + n < 4096) (hkc : 1 ≤ kc) (hks : N ≤ ks)
    (kk : fV G z d Q (pc + 3) ls (.ref (k + n) :: st) (mS P B' M) (kc - 1) (ks - N)) : fV G z d Q pc ls st (mS P B M) kc ks := by
  subst hB
  refine f_new hG ty hc hd hlk hin hini hw.1 hw.2 rfl (by show (P ++ B).length < 4096; rw [mk_len hP hn]; exact hlen) hkc hks ?_
  have e := mk_new (e := .inl (ci, sl)) hP hn hM
  rw [e]
  show fV G z d Q (pc + 3) ls (.ref (P ++ B).length :: st) _ _ _
  rw [mk_len hP hn]
  exact kk
theorem m_newarr (hG : fOK G) {t N k n : Nat} {x : Int32} {atype : ArrayType} (B' : List fE) (hB : B ++ [.inr (t, N, [])] = B') (hP : P.length = k) (hn : B.length = n) (hM : zz M (k + n)) (hd : decode z.2.1 pc = .ok (.newarray atype, 2)) (hat : newarray.typeOf atype = fty t) (htt : t < 4) (hw : Cond.arrayClass (newarray.typeOf atype) ∈ lw_tbl) (hx : ¬ x < 0) (hN : x.toNatClampNeg = N) (hby : N * componentBytes (newarray.typeOf atype) ≤ 536870912) (hlen : k + n < 4096) (hkc : 1 ≤ kc) (hks : N ≤ ks)
    (kk : fV G z d Q (pc + 2) ls (.ref (k + n) :: st) (mS P B' M) (kc - 1) (ks - N)) : fV G z d Q pc ls (.int x :: st) (mS P B M) kc ks := by
  subst hB
  refine f_newarray hG hd hat htt hw hx hN hby (fun _ => rfl) rfl (by show (P ++ B).length < 4096; rw [mk_len hP hn]; exact hlen) hkc hks ?_
  have e := mk_new (e := .inr (t, N, [])) hP hn hM
  rw [e]
  show fV G z d Q (pc + 2) ls (.ref (P ++ B).length :: st) _ _ _
  rw [mk_len hP hn]
  exact kk
theorem m_anew (hG : fOK G) {idx N k n : Nat} {x : Int32} (B' : List fE) (hB : B ++ [.inr (4, N, List.replicate N none)] = B') (hP : P.length = k) (hn : B.length = n) (hM : zz M (k + n)) (hd : decode z.2.1 pc = .ok (.anewarray idx, 3)) (hlk : Cond.classLink z.1.cls idx "JarCannery$State" ∈ lw_tbl) (hov : Cond.arrayOver (.object "JarCannery$State") ∈ lw_tbl) (hx : ¬ x < 0) (hN : x.toNatClampNeg = N) (hby : N * 4 ≤ 536870912) (hlen : k + n < 4096) (hkc : 1 ≤ kc) (hks : N ≤ ks)
    (kk : fV G z d Q (pc + 3) ls (.ref (k + n) :: st) (mS P B' M) (kc - 1) (ks - N)) : fV G z d Q pc ls (.int x :: st) (mS P B M) kc ks := by
  subst hB
  refine f_anewarray hG hd hlk hov hx hN hby rfl (by show (P ++ B).length < 4096; rw [mk_len hP hn]; exact hlen) hkc hks ?_
  have e := mk_new (e := .inr (4, N, List.replicate N none)) hP hn hM
  rw [e]
  show fV G z d Q (pc + 3) ls (.ref (P ++ B).length :: st) _ _ _
  rw [mk_len hP hn]
  exact kk
theorem m_aastore (hG : fOK G) {k j r N a q : Nat} {rs : List (Option Nat)} {sl : List (Option (Option Nat))} {i : Int32} (B' : List fE) (hB : B.set j (.inr (4, N, rs.set i.toNatClampNeg (some q))) = B') (hP : P.length = k) (ha : a = k + j) (hq : q = k + r) (hd : decode z.2.1 pc = .ok (.aastore, 1)) (hL : B[j]? = some (.inr (4, N, rs))) (hv : B[r]? = some (.inl (8, sl))) (hin : vp_in i N) (hrs : rs.length = N)
    (kk : fV G z d Q (pc + 1) ls st (mS P B' M) kc ks) : fV G z d Q pc ls (.ref q :: .int i :: .ref a :: st) (mS P B M) kc ks := by
  subst hB; subst ha
  have hq2 : (P ++ B)[q]? = some (.inl (8, sl)) := by rw [hq]; exact mk_get hP hv
  refine f_aastore hG hd (mk_get hP hL) hq2 hin hrs rfl ?_
  show fV G z d Q (pc + 1) ls st ((P ++ B).set (k + j) _, M, 0, true) kc ks
  rw [mk_set hP]
  exact kk
theorem m_putr (hG : fOK G) {idx ci f k j a r : Nat} {ty : FieldType} {fin nest : Bool} {sl : List (Option (Option Nat))} (B' : List fE) (hB : B.set j (.inl (ci, sl.set f (some (some r)))) = B') (hP : P.length = k) (ha : a = k + j) (hf : fFd z.1.cls idx ci f ty fin nest) (hfi : fin = false ∨ (z.1.name = "<init>" ∧ nest = false ∧ (fcl[ci]?).map (fun q => q.1) = some z.1.cls)) (hd : decode z.2.1 pc = .ok (.putfield idx, 3)) (hL : B[j]? = some (.inl (ci, sl))) (hjl : f < sl.length) (hn : ∀ a, narrow ty (.ref a) = .ref a) (hfit : ∀ a, fits ty (.ref a) = true)
    (kk : fV G z d Q (pc + 3) ls st (mS P B' M) kc ks) : fV G z d Q pc ls (.ref r :: .ref a :: st) (mS P B M) kc ks := by
  subst hB; subst ha
  refine f_putr hG hf hfi hd (mk_get hP hL) hjl hn hfit rfl ?_
  show fV G z d Q (pc + 3) ls st ((P ++ B).set (k + j) _, M, 0, true) kc ks
  rw [mk_set hP]
  exact kk
theorem m_puti (hG : fOK G) {idx ci f k j a : Nat} {x : Int32} {ty : FieldType} {fin nest : Bool} {sl : List (Option (Option Nat))} (hP : P.length = k) (ha : a = k + j) (hf : fFd z.1.cls idx ci f ty fin nest) (hfi : fin = false ∨ (z.1.name = "<init>" ∧ nest = false ∧ (fcl[ci]?).map (fun q => q.1) = some z.1.cls)) (hd : decode z.2.1 pc = .ok (.putfield idx, 3)) (hL : B[j]? = some (.inl (ci, sl))) (hs : sl[f]? = some none) (hn : narrow ty (.int x) = .int x) (hfit : fits ty (.int x) = true)
    (kk : fV G z d Q (pc + 3) ls st (mS P B (fst1 M a f x)) kc ks) : fV G z d Q pc ls (.int x :: .ref a :: st) (mS P B M) kc ks := by
  subst ha
  exact f_puti hG hf hfi hd (mk_get hP hL) hs hn hfit kk
theorem m_put0 (hG : fOK G) {idx ci f k j a : Nat} {ty : FieldType} {fin nest : Bool} {sl : List (Option (Option Nat))} (hP : P.length = k) (ha : a = k + j) (h0 : M a f = 0) (hf : fFd z.1.cls idx ci f ty fin nest) (hfi : fin = false ∨ (z.1.name = "<init>" ∧ nest = false ∧ (fcl[ci]?).map (fun q => q.1) = some z.1.cls)) (hd : decode z.2.1 pc = .ok (.putfield idx, 3)) (hL : B[j]? = some (.inl (ci, sl))) (hs : sl[f]? = some none) (hn : narrow ty (.int 0) = .int 0) (hfit : fits ty (.int 0) = true)
    (kk : fV G z d Q (pc + 3) ls st (mS P B M) kc ks) : fV G z d Q pc ls (.int 0 :: .ref a :: st) (mS P B M) kc ks := by
  refine m_puti hG hP ha hf hfi hd hL hs hn hfit ?_
  rw [fst1_self0 h0]
  exact kk
/-- a constructor's contract -/
def mkC (G : fG) (z : fMi) (d k : Nat) (as : List Value) (e : fE) (blk : List fE) (M M' : fM) (mc ms : Nat) : Prop := ∀ (P : List fE), P.length = k → fCt G z d (.ref k :: as) (mS P [e] M) mc ms (fD none (mS P blk M'))
theorem m_init (hG : fOK G) {z2 : fMi} {d2 idx n k q mc ms : Nat} {as : List Value} {st0 : List Value} {e : fE} {blk : List fE} {M' : fM} (B' : List fE) (hB : B ++ blk = B') {B0 : List fE} (hB0 : B0 = B ++ [e]) (hP : P.length = k) (hq : B.length = n) (hdd : q = k + n) (hd : decode z.2.1 pc = .ok (.invokespecial idx, 3)) {na : Nat} (hk : fMk z2 na) (hna : as.length = na) (hh : z2.2.2.2.2 = []) (hret : z2.2.2.2.1 = none) (hm : Cond.methodLink z.1.cls idx z2.1 ∈ lw_tbl) (hi : Cond.instanceMethod z2.1 ∈ lw_tbl) (hnm2 : z2.1.name = "<init>") (hc : mkC G z2 d2 q as e blk M M' mc ms) (hlt : d2 < d) (hst : st0 = as.reverse ++ .ref q :: st) (hcat : (st.map (fun v => v.category)).sum ≤ 8) (hmc : mc ≤ kc) (hms : ms ≤ ks)
    (kk : fV G z d Q (pc + 3) ls st (mS P B' M') (kc - mc) (ks - ms)) : fV G z d Q pc ls st0 (mS P B0 M) kc ks := by
  subst hB; subst hB0; subst hdd
  have h1 := hc (P ++ B) (by rw [mk_len hP hq])
  have e1 : mS (P ++ B) [e] M = mS P (B ++ [e]) M := by show (P ++ B ++ [e], M, (0 : UInt64), true) = _; rw [List.append_assoc]
  have e2 : mS (P ++ B) blk M' = mS P (B ++ blk) M' := by show (P ++ B ++ blk, M', (0 : UInt64), true) = _; rw [List.append_assoc]
  rw [e1, e2] at h1
  exact f_callI hG hk hh hret hm hi hnm2 hd h1 hna hlt hmc hms hcat hst fD_no (fun v' S' h => by obtain ⟨h2, rfl⟩ := h; cases h2; exact kk)
theorem m_initN (hG : fOK G) {z2 : fMi} {d2 idx n k q mc ms : Nat} {as : List Value} {st0 : List Value} {e : fE} {blk : List fE} {M' : fM} {host : String} (B' : List fE) (hB : B ++ blk = B') {B0 : List fE} (hB0 : B0 = B ++ [e]) (hP : P.length = k) (hq : B.length = n) (hdd : q = k + n) (hd : decode z.2.1 pc = .ok (.invokespecial idx, 3)) {na : Nat} (hk : fMk z2 na) (hna : as.length = na) (hh : z2.2.2.2.2 = []) (hret : z2.2.2.2.1 = none) (hm : Cond.methodLinkNest z.1.cls idx z2.1 host ∈ lw_tbl) (hi : Cond.instanceMethod z2.1 ∈ lw_tbl) (hnm2 : z2.1.name = "<init>") (hc : mkC G z2 d2 q as e blk M M' mc ms) (hlt : d2 < d) (hst : st0 = as.reverse ++ .ref q :: st) (hcat : (st.map (fun v => v.category)).sum ≤ 8) (hmc : mc ≤ kc) (hms : ms ≤ ks)
    (kk : fV G z d Q (pc + 3) ls st (mS P B' M') (kc - mc) (ks - ms)) : fV G z d Q pc ls st0 (mS P B0 M) kc ks := by
  subst hB; subst hB0; subst hdd
  have h1 := hc (P ++ B) (by rw [mk_len hP hq])
  have e1 : mS (P ++ B) [e] M = mS P (B ++ [e]) M := by show (P ++ B ++ [e], M, (0 : UInt64), true) = _; rw [List.append_assoc]
  have e2 : mS (P ++ B) blk M' = mS P (B ++ blk) M' := by show (P ++ B ++ blk, M', (0 : UInt64), true) = _; rw [List.append_assoc]
  rw [e1, e2] at h1
  exact f_callIN hG hk hh hret hm hi hnm2 hd h1 hna hlt hmc hms hcat hst fD_no (fun v' S' h => by obtain ⟨h2, rfl⟩ := h; cases h2; exact kk)
end MK
abbrev bl_X0 : List (Option (Option Nat)) := [some none, some none, none, none, none]
abbrev tl_X0 (j : Nat) : FieldType := ([(.object "JarCannery$Row"), (.object "JarCannery$Row"), .int, .int, .int] : List FieldType).getD j .int
theorem nw_X0 : nwC 0 5 TX0 tl_X0 bl_X0 := ⟨by decide +kernel, by decide +kernel⟩
theorem in_X0 : Cond.instantiable RX0 5 ∈ lw_tbl := List.mem_of_getElem? (i := 111) (by decide +kernel)
theorem ini_X0 : Cond.initialized RX0 ∈ lw_tbl := List.mem_of_getElem? (i := 68) (by decide +kernel)
abbrev bl_X1 : List (Option (Option Nat)) := [some none, some none, some none, none, none, none]
abbrev tl_X1 (j : Nat) : FieldType := ([(.object "JarCannery$Text"), (.object "JarCannery$Row"), (.object "JarCannery$Row"), .int, .int, .int] : List FieldType).getD j .int
theorem nw_X1 : nwC 1 6 TX1 tl_X1 bl_X1 := ⟨by decide +kernel, by decide +kernel⟩
theorem in_X1 : Cond.instantiable RX1 6 ∈ lw_tbl := List.mem_of_getElem? (i := 300) (by decide +kernel)
theorem ini_X1 : Cond.initialized RX1 ∈ lw_tbl := List.mem_of_getElem? (i := 75) (by decide +kernel)
abbrev bl_X2 : List (Option (Option Nat)) := [some none, some none, some none]
abbrev tl_X2 (j : Nat) : FieldType := ([(.object "JarCannery$Row"), (.object "JarCannery$Row"), (.object "JarCannery$Row")] : List FieldType).getD j .int
theorem nw_X2 : nwC 2 3 TX2 tl_X2 bl_X2 := ⟨by decide +kernel, by decide +kernel⟩
theorem in_X2 : Cond.instantiable RX2 3 ∈ lw_tbl := List.mem_of_getElem? (i := 347) (by decide +kernel)
theorem ini_X2 : Cond.initialized RX2 ∈ lw_tbl := List.mem_of_getElem? (i := 77) (by decide +kernel)
abbrev bl_X3 : List (Option (Option Nat)) := [some none, some none]
abbrev tl_X3 (j : Nat) : FieldType := ([(.object "JarCannery$Row"), (.object "JarCannery$Row")] : List FieldType).getD j .int
theorem nw_X3 : nwC 3 2 TX3 tl_X3 bl_X3 := ⟨by decide +kernel, by decide +kernel⟩
theorem in_X3 : Cond.instantiable RX3 2 ∈ lw_tbl := List.mem_of_getElem? (i := 332) (by decide +kernel)
theorem ini_X3 : Cond.initialized RX3 ∈ lw_tbl := List.mem_of_getElem? (i := 76) (by decide +kernel)
abbrev bl_X4 : List (Option (Option Nat)) := [some none, none, none]
abbrev tl_X4 (j : Nat) : FieldType := ([(.array (.object "JarCannery$State")), .int, .int] : List FieldType).getD j .int
theorem nw_X4 : nwC 4 3 TX4 tl_X4 bl_X4 := ⟨by decide +kernel, by decide +kernel⟩
theorem in_X4 : Cond.instantiable RX4 3 ∈ lw_tbl := List.mem_of_getElem? (i := 258) (by decide +kernel)
theorem ini_X4 : Cond.initialized RX4 ∈ lw_tbl := List.mem_of_getElem? (i := 73) (by decide +kernel)
abbrev bl_X5 : List (Option (Option Nat)) := [some none, some none, some none, some none, some none, some none, none, none]
abbrev tl_X5 (j : Nat) : FieldType := ([(.object "JarCannery$Row"), (.object "JarCannery$Row"), (.object "JarCannery$Row"), (.object "JarCannery$Row"), (.object "JarCannery$Row"), (.object "JarCannery$Row"), .int, .int] : List FieldType).getD j .int
theorem nw_X5 : nwC 5 8 TX5 tl_X5 bl_X5 := ⟨by decide +kernel, by decide +kernel⟩
theorem in_X5 : Cond.instantiable RX5 8 ∈ lw_tbl := List.mem_of_getElem? (i := 178) (by decide +kernel)
theorem ini_X5 : Cond.initialized RX5 ∈ lw_tbl := List.mem_of_getElem? (i := 72) (by decide +kernel)
abbrev bl_X6 : List (Option (Option Nat)) := [some none, some none, none]
abbrev tl_X6 (j : Nat) : FieldType := ([(.object "JarCannery$Row"), (.object "JarCannery$Row"), .int] : List FieldType).getD j .int
theorem nw_X6 : nwC 6 3 TX6 tl_X6 bl_X6 := ⟨by decide +kernel, by decide +kernel⟩
theorem in_X6 : Cond.instantiable RX6 3 ∈ lw_tbl := List.mem_of_getElem? (i := 157) (by decide +kernel)
theorem ini_X6 : Cond.initialized RX6 ∈ lw_tbl := List.mem_of_getElem? (i := 71) (by decide +kernel)
abbrev bl_X7 : List (Option (Option Nat)) := [some none]
abbrev tl_X7 (j : Nat) : FieldType := ([(.array .int)] : List FieldType).getD j .int
theorem nw_X7 : nwC 7 1 TX7 tl_X7 bl_X7 := ⟨by decide +kernel, by decide +kernel⟩
theorem in_X7 : Cond.instantiable RX7 1 ∈ lw_tbl := List.mem_of_getElem? (i := 117) (by decide +kernel)
theorem ini_X7 : Cond.initialized RX7 ∈ lw_tbl := List.mem_of_getElem? (i := 69) (by decide +kernel)
abbrev bl_X8 : List (Option (Option Nat)) := [some none, some none, some none, none, none, none, none, none]
abbrev tl_X8 (j : Nat) : FieldType := ([(.object "JarCannery$Brine"), (.object "JarCannery$Labels"), (.object "JarCannery$JarLots"), .int, .int, .int, .int, .int] : List FieldType).getD j .int
theorem nw_X8 : nwC 8 8 TX8 tl_X8 bl_X8 := ⟨by decide +kernel, by decide +kernel⟩
theorem in_X8 : Cond.instantiable RX8 8 ∈ lw_tbl := List.mem_of_getElem? (i := 105) (by decide +kernel)
theorem ini_X8 : Cond.initialized RX8 ∈ lw_tbl := List.mem_of_getElem? (i := 67) (by decide +kernel)
abbrev bl_X10 : List (Option (Option Nat)) := [none, some none, none]
abbrev tl_X10 (j : Nat) : FieldType := ([.int, (.object "JarCannery$Row"), .int] : List FieldType).getD j .int
theorem nw_X10 : nwC 9 3 TX10 tl_X10 bl_X10 := ⟨by decide +kernel, by decide +kernel⟩
theorem in_X10 : Cond.instantiable RX10 3 ∈ lw_tbl := List.mem_of_getElem? (i := 278) (by decide +kernel)
theorem ini_X10 : Cond.initialized RX10 ∈ lw_tbl := List.mem_of_getElem? (i := 74) (by decide +kernel)
abbrev bl_X11 : List (Option (Option Nat)) := [some none, some none, some none, some none, some none, some none, some none, some none, some none, some none, none, none, none]
abbrev tl_X11 (j : Nat) : FieldType := ([(.object "JarCannery$State"), (.object "JarCannery$State"), (.object "JarCannery$State"), (.object "JarCannery$History"), (.object "JarCannery$Text"), (.object "JarCannery$Text"), (.object "JarCannery$Text"), (.object "JarCannery$CommandText"), (.object "JarCannery$Distances"), (.object "JarCannery$Crates"), .boolean, .int, .int] : List FieldType).getD j .int
theorem nw_X11 : nwC 10 13 TX11 tl_X11 bl_X11 := ⟨by decide +kernel, by decide +kernel⟩
theorem in_X11 : Cond.instantiable RX11 13 ∈ lw_tbl := List.mem_of_getElem? (i := 97) (by decide +kernel)
theorem ini_X11 : Cond.initialized RX11 ∈ lw_tbl := List.mem_of_getElem? (i := 66) (by decide +kernel)
abbrev bl_X12 : List (Option (Option Nat)) := [some none, some none, some none, some none, none, none, none, none, some none, none, none, none, some none, none, some none, some none, none, some none, none]
abbrev tl_X12 (j : Nat) : FieldType := ([(.array .int), (.array .int), (.array .int), (.array .int), .boolean, .int, .boolean, .int, (.array .int), .int, .int, .int, (.array .char), .int, (.array .int), (.array .int), .int, (.array .int), .int] : List FieldType).getD j .int
theorem nw_X12 : nwC 11 19 TX12 tl_X12 bl_X12 := ⟨by decide +kernel, by decide +kernel⟩
theorem in_X12 : Cond.instantiable RX12 19 ∈ lw_tbl := List.mem_of_getElem? (i := 1444) (by decide +kernel)
theorem ini_X12 : Cond.initialized RX12 ∈ lw_tbl := List.mem_of_getElem? (i := 78) (by decide +kernel)
theorem cl_L_8 : Cond.classLink RL 8 RX11 ∈ lw_tbl := List.mem_of_getElem? (i := 96) (by decide +kernel)
theorem cl_X11_7 : Cond.classLink RX11 7 RX8 ∈ lw_tbl := List.mem_of_getElem? (i := 104) (by decide +kernel)
theorem cl_X8_9 : Cond.classLink RX8 9 RX0 ∈ lw_tbl := List.mem_of_getElem? (i := 110) (by decide +kernel)
theorem cl_X0_9 : Cond.classLink RX0 9 RX7 ∈ lw_tbl := List.mem_of_getElem? (i := 116) (by decide +kernel)
theorem cl_X8_18 : Cond.classLink RX8 18 RX6 ∈ lw_tbl := List.mem_of_getElem? (i := 156) (by decide +kernel)
theorem cl_X6_9 : Cond.classLink RX6 9 RX7 ∈ lw_tbl := List.mem_of_getElem? (i := 162) (by decide +kernel)
theorem cl_X8_25 : Cond.classLink RX8 25 RX5 ∈ lw_tbl := List.mem_of_getElem? (i := 177) (by decide +kernel)
theorem cl_X5_9 : Cond.classLink RX5 9 RX7 ∈ lw_tbl := List.mem_of_getElem? (i := 183) (by decide +kernel)
theorem cl_X11_22 : Cond.classLink RX11 22 RX4 ∈ lw_tbl := List.mem_of_getElem? (i := 257) (by decide +kernel)
theorem cl_X4_9 : Cond.classLink RX4 9 RX8 ∈ lw_tbl := List.mem_of_getElem? (i := 263) (by decide +kernel)
theorem cl_X11_29 : Cond.classLink RX11 29 RX10 ∈ lw_tbl := List.mem_of_getElem? (i := 277) (by decide +kernel)
theorem cl_X10_16 : Cond.classLink RX10 16 RX7 ∈ lw_tbl := List.mem_of_getElem? (i := 283) (by decide +kernel)
theorem cl_X11_44 : Cond.classLink RX11 44 RX1 ∈ lw_tbl := List.mem_of_getElem? (i := 299) (by decide +kernel)
theorem cl_X1_11 : Cond.classLink RX1 11 RX10 ∈ lw_tbl := List.mem_of_getElem? (i := 305) (by decide +kernel)
theorem cl_X1_20 : Cond.classLink RX1 20 RX7 ∈ lw_tbl := List.mem_of_getElem? (i := 307) (by decide +kernel)
theorem cl_X11_51 : Cond.classLink RX11 51 RX3 ∈ lw_tbl := List.mem_of_getElem? (i := 331) (by decide +kernel)
theorem cl_X3_9 : Cond.classLink RX3 9 RX7 ∈ lw_tbl := List.mem_of_getElem? (i := 337) (by decide +kernel)
theorem cl_X11_58 : Cond.classLink RX11 58 RX2 ∈ lw_tbl := List.mem_of_getElem? (i := 346) (by decide +kernel)
theorem cl_X2_9 : Cond.classLink RX2 9 RX7 ∈ lw_tbl := List.mem_of_getElem? (i := 352) (by decide +kernel)
theorem cl_L_150 : Cond.classLink RL 150 RX12 ∈ lw_tbl := List.mem_of_getElem? (i := 1443) (by decide +kernel)
theorem ac_int : Cond.arrayClass (FieldType.int) ∈ lw_tbl := List.mem_of_getElem? (i := 129) (by decide +kernel)
theorem ao_S : Cond.arrayOver (.object "JarCannery$State") ∈ lw_tbl := List.mem_of_getElem? (i := 264) (by decide +kernel)
theorem ac_byte : Cond.arrayClass (FieldType.byte) ∈ lw_tbl := List.mem_of_getElem? (i := 706) (by decide +kernel)
theorem ac_char : Cond.arrayClass (FieldType.char) ∈ lw_tbl := List.mem_of_getElem? (i := 1507) (by decide +kernel)
theorem ac_long : Cond.arrayClass (FieldType.long) ∈ lw_tbl := List.mem_of_getElem? (i := 1895) (by decide +kernel)
theorem ac_double : Cond.arrayClass (FieldType.double) ∈ lw_tbl := List.mem_of_getElem? (i := 1896) (by decide +kernel)
