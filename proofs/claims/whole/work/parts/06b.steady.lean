/-! ===== the same rows over the steady state ===== -/
section ST
variable {G : fG} {z : fMi} {d pc : Nat} {Q : fR → fS → Prop} {ls : List (Option Value)} {st : List Value} {M : fM} {dv : UInt64} {kc ks : Nat}
theorem s_geti (hG : fOK G) {idx ci j k : Nat} {ty : FieldType} {fin nest : Bool} {sl : List (Option (Option Nat))} (hf : fFd z.1.cls idx ci j ty fin nest) (hd : decode z.2.1 pc = .ok (.getfield idx, 3)) (hL : L1[k]? = some (.inl (ci, sl))) (hs : sl[j]? = some none)
    (kk : fV G z d Q (pc + 3) ls (.int (M k j) :: st) (sS M dv) kc ks) : fV G z d Q pc ls (.ref k :: st) (sS M dv) kc ks := f_geti hG (S := sS M dv) hf hd hL hs kk
theorem s_getr (hG : fOK G) {idx ci j k r : Nat} {ty : FieldType} {fin nest : Bool} {sl : List (Option (Option Nat))} (hf : fFd z.1.cls idx ci j ty fin nest) (hd : decode z.2.1 pc = .ok (.getfield idx, 3)) (hL : L1[k]? = some (.inl (ci, sl))) (hs : sl[j]? = some (some (some r)))
    (kk : fV G z d Q (pc + 3) ls (.ref r :: st) (sS M dv) kc ks) : fV G z d Q pc ls (.ref k :: st) (sS M dv) kc ks := f_getr hG (S := sS M dv) hf hd hL hs kk
theorem s_puti (hG : fOK G) {idx ci j k : Nat} {ty : FieldType} {fin nest : Bool} {sl : List (Option (Option Nat))} {x : Int32} (hf : fFd z.1.cls idx ci j ty fin nest) (hfi : fin = false ∨ (z.1.name = "<init>" ∧ nest = false ∧ (fcl[ci]?).map (fun q => q.1) = some z.1.cls)) (hd : decode z.2.1 pc = .ok (.putfield idx, 3)) (hL : L1[k]? = some (.inl (ci, sl))) (hs : sl[j]? = some none) (hn : narrow ty (.int x) = .int x) (hfit : fits ty (.int x) = true)
    (kk : fV G z d Q (pc + 3) ls st (sS (fst1 M k j x) dv) kc ks) : fV G z d Q pc ls (.int x :: .ref k :: st) (sS M dv) kc ks := f_puti hG (S := sS M dv) hf hfi hd hL hs hn hfit kk
theorem s_iaload (hG : fOK G) {k n : Nat} {rs : List (Option Nat)} {i : Int32} (hd : decode z.2.1 pc = .ok (.iaload, 1)) (hL : L1[k]? = some (.inr (0, n, rs))) (hin : vp_in i n)
    (kk : fV G z d Q (pc + 1) ls (.int (M k i.toNatClampNeg) :: st) (sS M dv) kc ks) : fV G z d Q pc ls (.int i :: .ref k :: st) (sS M dv) kc ks := f_iaload hG (S := sS M dv) hd hL hin kk
theorem s_caload (hG : fOK G) {k n : Nat} {rs : List (Option Nat)} {i : Int32} (hd : decode z.2.1 pc = .ok (.caload, 1)) (hL : L1[k]? = some (.inr (1, n, rs))) (hin : vp_in i n)
    (kk : fV G z d Q (pc + 1) ls (.int (M k i.toNatClampNeg) :: st) (sS M dv) kc ks) : fV G z d Q pc ls (.int i :: .ref k :: st) (sS M dv) kc ks := f_caload hG (S := sS M dv) hd hL hin kk
theorem s_laload (hG : fOK G) {k n : Nat} {rs : List (Option Nat)} {i : Int32} (hd : decode z.2.1 pc = .ok (.laload, 1)) (hL : L1[k]? = some (.inr (2, n, rs))) (hin : vp_in i n)
    (kk : fV G z d Q (pc + 1) ls (.long (M k i.toNatClampNeg).toInt64 :: st) (sS M dv) kc ks) : fV G z d Q pc ls (.int i :: .ref k :: st) (sS M dv) kc ks := f_laload hG (S := sS M dv) hd hL hin kk
theorem s_daload (hG : fOK G) {k n : Nat} {rs : List (Option Nat)} {i : Int32} (hd : decode z.2.1 pc = .ok (.daload, 1)) (hL : L1[k]? = some (.inr (3, n, rs))) (hin : vp_in i n)
    (kk : fV G z d Q (pc + 1) ls (.double dv :: st) (sS M dv) kc ks) : fV G z d Q pc ls (.int i :: .ref k :: st) (sS M dv) kc ks := f_daload hG (S := sS M dv) hd hL hin kk
theorem s_aaload (hG : fOK G) {k n r : Nat} {rs : List (Option Nat)} {i : Int32} (hd : decode z.2.1 pc = .ok (.aaload, 1)) (hL : L1[k]? = some (.inr (4, n, rs))) (hin : vp_in i n) (hr : rs.getD i.toNatClampNeg none = some r)
    (kk : fV G z d Q (pc + 1) ls (.ref r :: st) (sS M dv) kc ks) : fV G z d Q pc ls (.int i :: .ref k :: st) (sS M dv) kc ks := f_aaload hG (S := sS M dv) hd hL hin hr kk
theorem s_alen (hG : fOK G) {k t n : Nat} {rs : List (Option Nat)} (hd : decode z.2.1 pc = .ok (.arraylength, 1)) (hL : L1[k]? = some (.inr (t, n, rs))) (ht : t < 5)
    (kk : fV G z d Q (pc + 1) ls (.int (nI n) :: st) (sS M dv) kc ks) : fV G z d Q pc ls (.ref k :: st) (sS M dv) kc ks := f_alen hG (S := sS M dv) hd hL ht rfl kk
theorem s_iastore (hG : fOK G) {k n : Nat} {rs : List (Option Nat)} {i x : Int32} (hd : decode z.2.1 pc = .ok (.iastore, 1)) (hL : L1[k]? = some (.inr (0, n, rs))) (hin : vp_in i n)
    (kk : fV G z d Q (pc + 1) ls st (sS (fst1 M k i.toNatClampNeg x) dv) kc ks) : fV G z d Q pc ls (.int x :: .int i :: .ref k :: st) (sS M dv) kc ks := f_iastore hG (S := sS M dv) hd hL hin kk
theorem s_castore (hG : fOK G) {k n : Nat} {rs : List (Option Nat)} {i x : Int32} (hd : decode z.2.1 pc = .ok (.castore, 1)) (hL : L1[k]? = some (.inr (1, n, rs))) (hin : vp_in i n)
    (kk : fV G z d Q (pc + 1) ls st (sS (fst1 M k i.toNatClampNeg (vp_nar .char x)) dv) kc ks) : fV G z d Q pc ls (.int x :: .int i :: .ref k :: st) (sS M dv) kc ks := f_castore hG (S := sS M dv) hd hL hin kk
theorem s_lastore (hG : fOK G) {k n : Nat} {rs : List (Option Nat)} {i x : Int32} (hd : decode z.2.1 pc = .ok (.lastore, 1)) (hL : L1[k]? = some (.inr (2, n, rs))) (hin : vp_in i n)
    (kk : fV G z d Q (pc + 1) ls st (sS (fst1 M k i.toNatClampNeg x) dv) kc ks) : fV G z d Q pc ls (.long x.toInt64 :: .int i :: .ref k :: st) (sS M dv) kc ks := f_lastore hG (S := sS M dv) hd hL hin kk
theorem s_copy (hG : fOK G) {idx k1 k2 n1 n2 : Nat} {r1 r2 : List (Option Nat)} {n : Int32} (hd : decode z.2.1 pc = .ok (.invokestatic idx, 3)) (hm : Cond.methodLink z.1.cls idx arraycopyName ∈ lw_tbl) (hw : Cond.native arraycopyName ∈ lw_tbl ∧ Cond.static arraycopyName ∈ lw_tbl ∧ Cond.initialized "java/lang/System" ∈ lw_tbl) (hL1 : L1[k1]? = some (.inr (0, n1, r1))) (hL2 : L1[k2]? = some (.inr (0, n2, r2))) (hn : ¬ n < 0) (hn1 : n.toNatClampNeg ≤ n1) (hn2 : n.toNatClampNeg ≤ n2) (hcat : (st.map (fun v => v.category)).sum ≤ 8)
    (kk : fV G z d Q (pc + 3) ls st (sS (fsr M k2 (va_cpy (M k1) (M k2) 0 0 n.toNatClampNeg)) dv) kc ks) : fV G z d Q pc ls (.int n :: .int 0 :: .ref k2 :: .int 0 :: .ref k1 :: st) (sS M dv) kc ks := f_copy hG (S := sS M dv) hd hm hw hL1 hL2 hn hn1 hn2 hcat rfl kk
end ST
theorem f_cg {G : fG} {z : fMi} {d pc : Nat} {Q : fR → fS → Prop} {ls ls' : List (Option Value)} {st st' : List Value} {S S' : fS} {kc ks : Nat} (h1 : ls = ls') (h2 : st = st') (h3 : S = S') (kk : fV G z d Q pc ls' st' S' kc ks) : fV G z d Q pc ls st S kc ks := by
  subst h1; subst h2; subst h3; exact kk
/-! ===== the memory ===== -/
theorem fst1_fsr (M : fM) (k j : Nat) (f : Nat → Int32) (x : Int32) : fst1 (fsr M k f) k j x = fsr M k (fun b => if b = j then x else f b) := by
  funext a
  by_cases h : a = k
  · subst h; simp [fst1, fsr]
  · simp [fst1, fsr, h]
theorem fsr_fsr (M : fM) (k : Nat) (f f' : Nat → Int32) : fsr (fsr M k f) k f' = fsr M k f' := by
  funext a
  by_cases h : a = k <;> simp [fsr, h]
theorem fsr_at (M : fM) (k : Nat) (f : Nat → Int32) : fsr M k f k = f := by simp [fsr]
theorem fsr_ne {M : fM} {k a : Nat} {f : Nat → Int32} (h : a ≠ k) : fsr M k f a = M a := by simp [fsr, h]
theorem fsr_self (M : fM) (k : Nat) : fsr M k (M k) = M := by
  funext a
  by_cases h : a = k
  · subst h; simp [fsr]
  · simp [fsr, h]
theorem fst1_at (M : fM) (k j : Nat) (x : Int32) : fst1 M k j x k j = x := by simp [fst1]
theorem fst1_ne {M : fM} {k j a : Nat} {x : Int32} (h : a ≠ k) : fst1 M k j x a = M a := by simp [fst1, h]
theorem fst1_nj {M : fM} {k j b : Nat} {x : Int32} (h : b ≠ j) : fst1 M k j x k b = M k b := by simp [fst1, h]
theorem fsr_congr {M : fM} {k : Nat} {f f' : Nat → Int32} (h : ∀ b, f b = f' b) : fsr M k f = fsr M k f' := by rw [show f = f' from funext h]
theorem sS_eq {M M' : fM} {dv : UInt64} (h : M = M') : sS M dv = sS M' dv := by rw [h]
