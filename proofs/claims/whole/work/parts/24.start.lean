/-! ===== the start holds what the walk asks ===== -/
abbrev nwF : List Cond := flatC (Jvm.Cond.and given_1 narrow_1)
set_option maxRecDepth 100000 in
theorem st_ex : ∀ q ∈ fstrs, Cond.stringRef q.1 q.2.1 q.2.2 ∈ lw_tbl ∧ Cond.exactly (.string q.1 q.2.1) "java/lang/String" ∈ nwF := by decide +kernel
set_option maxRecDepth 100000 in
theorem st_nc : ∀ q ∈ fncs, Cond.not (.castable q.1 q.2) ∈ nwF := by decide +kernel
def stP (q : String × Nat × String × Nat × List Int32) : Prop := (Cond.stringRef q.1 q.2.1 q.2.2.1 ∈ lw_tbl ∧ Cond.exactly (.string q.1 q.2.1) "java/lang/String" ∈ nwF) ∧ Cond.eq (.field (.string q.1 q.2.1) "java/lang/String" "coder" "B") (.int 0) ∈ nwF ∧ Cond.arrayOf (.field (.string q.1 q.2.1) "java/lang/String" "value" "[B") .byte ∈ nwF ∧ Cond.eq (.length (.field (.string q.1 q.2.1) "java/lang/String" "value" "[B")) (.int (Int32.ofNat q.2.2.2.2.length)) ∈ nwF ∧ ∀ j, j < q.2.2.2.2.length → Cond.eq (.elem (.field (.string q.1 q.2.1) "java/lang/String" "value" "[B") (.int (Int32.ofNat j))) (.int (q.2.2.2.2.getD j 0)) ∈ nwF
set_option maxRecDepth 100000 in
theorem st_sv_0 : stP ("JarCannery$CommandText", 95, "raw", 0, [114, 97, 119]) := by
  unfold stP
  refine ⟨⟨by decide +kernel, by decide +kernel⟩, by decide +kernel, by decide +kernel, by decide +kernel, by decide +kernel⟩
set_option maxRecDepth 100000 in
theorem st_sv_1 : stP ("JarCannery$CommandText", 97, "mix", 1, [109, 105, 120]) := by
  unfold stP
  refine ⟨⟨by decide +kernel, by decide +kernel⟩, by decide +kernel, by decide +kernel, by decide +kernel, by decide +kernel⟩
set_option maxRecDepth 100000 in
theorem st_sv_2 : stP ("JarCannery$CommandText", 99, "fill", 2, [102, 105, 108, 108]) := by
  unfold stP
  refine ⟨⟨by decide +kernel, by decide +kernel⟩, by decide +kernel, by decide +kernel, by decide +kernel, by decide +kernel⟩
set_option maxRecDepth 100000 in
theorem st_sv_3 : stP ("JarCannery$CommandText", 101, "ship", 3, [115, 104, 105, 112]) := by
  unfold stP
  refine ⟨⟨by decide +kernel, by decide +kernel⟩, by decide +kernel, by decide +kernel, by decide +kernel, by decide +kernel⟩
set_option maxRecDepth 100000 in
theorem st_sv_4 : stP ("JarCannery$CommandText", 103, "day", 4, [100, 97, 121]) := by
  unfold stP
  refine ⟨⟨by decide +kernel, by decide +kernel⟩, by decide +kernel, by decide +kernel, by decide +kernel, by decide +kernel⟩
set_option maxRecDepth 100000 in
theorem st_sv_5 : stP ("JarCannery$CommandText", 105, "recall", 5, [114, 101, 99, 97, 108, 108]) := by
  unfold stP
  refine ⟨⟨by decide +kernel, by decide +kernel⟩, by decide +kernel, by decide +kernel, by decide +kernel, by decide +kernel⟩
set_option maxRecDepth 100000 in
theorem st_sv_6 : stP ("JarCanneryModel", 184, "ix", 6, [105, 120]) := by
  unfold stP
  refine ⟨⟨by decide +kernel, by decide +kernel⟩, by decide +kernel, by decide +kernel, by decide +kernel, by decide +kernel⟩
set_option maxRecDepth 100000 in
theorem st_sv_7 : stP ("JarCanneryModel", 194, "ill", 7, [105, 108, 108]) := by
  unfold stP
  refine ⟨⟨by decide +kernel, by decide +kernel⟩, by decide +kernel, by decide +kernel, by decide +kernel, by decide +kernel⟩
set_option maxRecDepth 100000 in
theorem st_sv_8 : stP ("JarCanneryModel", 196, "hip", 8, [104, 105, 112]) := by
  unfold stP
  refine ⟨⟨by decide +kernel, by decide +kernel⟩, by decide +kernel, by decide +kernel, by decide +kernel, by decide +kernel⟩
set_option maxRecDepth 100000 in
theorem st_sv_9 : stP ("JarCanneryModel", 198, "w", 9, [119]) := by
  unfold stP
  refine ⟨⟨by decide +kernel, by decide +kernel⟩, by decide +kernel, by decide +kernel, by decide +kernel, by decide +kernel⟩
set_option maxRecDepth 100000 in
theorem st_sv_10 : stP ("JarCanneryModel", 200, "ecall", 10, [101, 99, 97, 108, 108]) := by
  unfold stP
  refine ⟨⟨by decide +kernel, by decide +kernel⟩, by decide +kernel, by decide +kernel, by decide +kernel, by decide +kernel⟩
set_option maxRecDepth 100000 in
theorem st_sv_11 : stP ("JarCanneryModel", 202, "ay", 11, [97, 121]) := by
  unfold stP
  refine ⟨⟨by decide +kernel, by decide +kernel⟩, by decide +kernel, by decide +kernel, by decide +kernel, by decide +kernel⟩
theorem st_sv : ∀ q ∈ fsvs, stP q := by
  intro q hq
  simp only [fsvs, List.mem_cons, List.not_mem_nil, or_false] at hq
  rcases hq with rfl | rfl | rfl | rfl | rfl | rfl | rfl | rfl | rfl | rfl | rfl | rfl
  · exact st_sv_0
  · exact st_sv_1
  · exact st_sv_2
  · exact st_sv_3
  · exact st_sv_4
  · exact st_sv_5
  · exact st_sv_6
  · exact st_sv_7
  · exact st_sv_8
  · exact st_sv_9
  · exact st_sv_10
  · exact st_sv_11
theorem st_ln : ∀ q ∈ fsvs, q.2.2.2.2.length < 2 ^ 31 ∧ q.2.2.2.1 < 12 := by decide +kernel
theorem st_un : ∀ q ∈ fsvs, ∀ r ∈ fsvs, q.2.2.2.1 = r.2.2.2.1 → q = r := by decide +kernel
set_option maxRecDepth 100000 in
theorem st_in : ∀ q ∈ fcl, Cond.instantiable q.1 q.2.2 ∈ lw_tbl := by decide +kernel
section START
variable {args : Array Value} {s : State} {A : Nat → Prop}
theorem st_str (hts : ∀ w ∈ lw_tbl, w.before args s = true) (hs : ∀ w ∈ nwF, w.before args s = true) (hA : ∀ a : Nat, a < s.heap.size → ¬ A a) (q : String × Nat × String × Nat × List Int32) (hq : q ∈ fsvs) : ∃ x : Nat × Nat, vk_R q.1 q.2.1 q.2.2.1 x.1 s ∧ vk_S 1 [q.2.2.2.2.length] [q.2.2.2.2] (fun _ => x.1) (fun _ => x.2) A s s.heap := by
  obtain ⟨⟨h1, h2⟩, h3, h4, h5, h6⟩ := st_sv q hq
  have hl := (st_ln q hq).1
  obtain ⟨adK, adV, hS, hE⟩ := vk_Sof (s := s) (args := args) (N := 1) (tm := fun _ => .string q.1 q.2.1) (len := [q.2.2.2.2.length]) (byt := [q.2.2.2.2]) (A := A)
    (fun i hi => by
      have hi0 : i = 0 := by omega
      subst hi0
      exact hl) (fun i _ => hs _ h2) (fun i _ => hs _ h3) (fun i _ => hs _ h4) (fun i hi => by
      have hi0 : i = 0 := by omega
      subst hi0
      exact hs _ h5) (fun i hi j hj => by
      have hi0 : i = 0 := by omega
      subst hi0
      exact hs _ (h6 j hj)) (fun i j hi hj hne => by omega) hA
  refine ⟨(adK 0, adV 0), vk_R.of (hts _ h1) (hE 0 (by decide)), fun i hi => ?_, fun i j hi hj _ => by omega⟩
  have hi0 : i = 0 := by omega
  subst hi0
  exact hS.1 0 hi
theorem st_arr (hts : ∀ w ∈ lw_tbl, w.before args s = true) : ∃ cA : Nat → ClassId, ∀ (k : Nat) (q : ClassId × FieldType), [(cA 0, FieldType.int), (cA 1, .char), (cA 2, .long), (cA 3, .double), (cA 4, .object "JarCannery$State")][k]? = some q → ArrOfT s q.1 q.2 ∧ va_RA s q.1 q.2 := by
  obtain ⟨c0, k0, p0, a0, b0, d0⟩ := Cond.arrayClass_spec (hts _ ac_int)
  obtain ⟨c1, k1, p1, a1, b1, d1⟩ := Cond.arrayClass_spec (hts _ ac_char)
  obtain ⟨c2, k2, p2, a2, b2, d2⟩ := Cond.arrayClass_spec (hts _ ac_long)
  obtain ⟨c3, k3, p3, a3, b3, d3⟩ := Cond.arrayClass_spec (hts _ ac_double)
  obtain ⟨p4, c4, k4, a4, -, b4, d4, e4⟩ := Cond.arrayOver_spec (hts _ ao_S)
  refine ⟨fun j => if j = 0 then c0 else if j = 1 then c1 else if j = 2 then c2 else if j = 3 then c3 else c4, fun k q hq => ?_⟩
  match k, hq with
  | 0, hq => cases hq; exact ⟨fun n z => ⟨fun k h => (by cases h), k0, b0, p0, d0⟩, a0⟩
  | 1, hq => cases hq; exact ⟨fun n z => ⟨fun k h => (by cases h), k1, b1, p1, d1⟩, a1⟩
  | 2, hq => cases hq; exact ⟨fun n z => ⟨fun k h => (by cases h), k2, b2, p2, d2⟩, a2⟩
  | 3, hq => cases hq; exact ⟨fun n z => ⟨fun k h => (by cases h), k3, b3, p3, d3⟩, a3⟩
  | 4, hq => cases hq; exact ⟨fun n z => ⟨fun k h => (by cases h), k4, b4, p4, d4⟩, k4, p4, b4, d4, a4, e4⟩
  | k + 5, hq => simp at hq
theorem st_ok {l : Launch} (hl : l.stackTraces = false) (hts : ∀ w ∈ lw_tbl, w.before args s = true) (hs : ∀ w ∈ nwF, w.before args s = true) (b L : Nat) (xs : Nat → Int32) : ∃ G : fG, fOK G ∧ gs G = s ∧ ga G = args ∧ gl G = l ∧ gsa G 25 = b := by
  have hA : ∀ a : Nat, a < s.heap.size → ¬ (fun q : Nat => s.heap.size ≤ q) a := fun a h1 h2 => Nat.not_lt.mpr h2 h1
  have h0 : ∀ c : Nat, ∃ x : ClassId × (Nat → Nat), ∀ q : vw_C, fcl[c]? = some q → u_Kn s q.1 q.2.1 q.2.2 x.1 x.2 := by
    intro c
    cases hq : fcl[c]? with
    | none => exact ⟨(0, fun _ => 0), fun q h => by cases h⟩
    | some q =>
      obtain ⟨cC, iS, h⟩ := u_known (C := q.1) (T := q.2.1) (N := q.2.2) (n := q.2.2) hts (fun w hw => ((fcl_ok hq).1 w hw).1) (hts _ (st_in q (List.mem_of_getElem? hq)))
      exact ⟨(cC, iS), fun q' h' => by cases h'; exact h⟩
  obtain ⟨ad, had⟩ := Classical.axiomOfChoice h0
  obtain ⟨cA, hcA⟩ := st_arr hts
  have h1 : ∀ n : Nat, ∃ x : Nat × Nat, ∀ q ∈ fsvs, q.2.2.2.1 = n → vk_R q.1 q.2.1 q.2.2.1 x.1 s ∧ vk_S 1 [q.2.2.2.2.length] [q.2.2.2.2] (fun _ => x.1) (fun _ => x.2) (fun q : Nat => s.heap.size ≤ q) s s.heap := by
    intro n
    by_cases hn : ∃ q ∈ fsvs, q.2.2.2.1 = n
    · obtain ⟨q, hq, hqn⟩ := hn
      obtain ⟨x, hx⟩ := st_str hts hs hA q hq
      exact ⟨x, fun r hr hrn => by
        have e := st_un q hq r hr (hqn.trans hrn.symm)
        subst e
        exact hx⟩
    · exact ⟨(0, 0), fun q hq hqn => absurd ⟨q, hq, hqn⟩ hn⟩
  obtain ⟨sd, hsd⟩ := Classical.axiomOfChoice h1
  have hU := vx_Zqof (A := fun q : Nat => s.heap.size ≤ q) (hts (.laysStatic Bundle.tN "UNASSIGNED_STACK" Bundle.steD) (List.mem_of_getElem? (i := 662) (by decide +kernel))) (hts (.initialized Bundle.tN) (List.mem_of_getElem? (i := 79) (by decide +kernel))) (hs _ (by decide +kernel)) hA
  have hN := vx_Zqof (A := fun q : Nat => s.heap.size ≤ q) (hts (.laysStatic Bundle.tN "SUPPRESSED_SENTINEL" Bundle.listD) (List.mem_of_getElem? (i := 664) (by decide +kernel))) (hts (.initialized Bundle.tN) (List.mem_of_getElem? (i := 79) (by decide +kernel))) (hs _ (by decide +kernel)) hA
  have hC := va_Zof (A := fun q : Nat => s.heap.size ≤ q) (hts (.laysStatic "java/lang/String" "COMPACT_STRINGS" "Z") (List.mem_of_getElem? (i := 1322) (by decide +kernel))) (hts (.initialized "java/lang/String") (List.mem_of_getElem? (i := 89) (by decide +kernel))) (va_eqi (hs (.eq (.static "java/lang/String" "COMPACT_STRINGS" "Z") (.int 1)) (by decide +kernel))) hA
  have hF := va_Zqof (A := fun q : Nat => s.heap.size ≤ q) (hts (.laysStatic "jdk/internal/util/Preconditions" "SIOOBE_FORMATTER" "Ljava/util/function/BiFunction;") (List.mem_of_getElem? (i := 1339) (by decide +kernel))) (hts (.initialized "jdk/internal/util/Preconditions") (List.mem_of_getElem? (i := 94) (by decide +kernel))) (hs _ (by decide +kernel)) hA
  obtain ⟨t24, ht⟩ : ∃ t : Nat, va_Z "jdk/internal/util/Preconditions" "SIOOBE_FORMATTER" "Ljava/util/function/BiFunction;" (.ref t) (fun q : Nat => s.heap.size ≤ q) s s.heap ∨ va_Z "jdk/internal/util/Preconditions" "SIOOBE_FORMATTER" "Ljava/util/function/BiFunction;" .null (fun q : Nat => s.heap.size ≤ q) s s.heap := by
    rcases hF with h | ⟨t, h⟩
    · exact ⟨0, Or.inr h⟩
    · exact ⟨t, Or.inl h⟩
  refine ⟨(s, args, l, (fun c => (ad c).1, fun c => (ad c).2), cA, fun k => if k < 12 then (sd k).1 else if k < 24 then (sd (k - 12)).2 else if k = 24 then t24 else b, L, xs), ⟨hts, ⟨had, hcA⟩, hl, hU, hN, fun q hq => ?_, fun q hq => va_Nc.of (hs _ (st_nc q hq)), fun q hq => ?_, hC, ht⟩, rfl, rfl, rfl, rfl⟩
  · obtain ⟨e1, e2⟩ := st_ex q hq
    obtain ⟨a, c, cA', kA, q1, -⟩ := Cond.exactly_spec (args := args) (first := s) (o := none) (s := s) (idx := []) (t := .string q.1 q.2.1) (cls := "java/lang/String") (hs _ e2)
    exact ⟨a, vk_R.of (hts _ e1) q1⟩
  · have hn := (st_ln q hq).2
    have h9 := hsd _ q hq rfl
    show vk_R q.1 q.2.1 q.2.2.1 (if q.2.2.2.1 < 12 then (sd q.2.2.2.1).1 else _) s ∧ vk_S 1 [q.2.2.2.2.length] [q.2.2.2.2] (fun _ => if q.2.2.2.1 < 12 then (sd q.2.2.2.1).1 else _) (fun _ => if 12 + q.2.2.2.1 < 12 then _ else if 12 + q.2.2.2.1 < 24 then (sd (12 + q.2.2.2.1 - 12)).2 else _) _ s s.heap
    rw [if_pos hn, if_neg (by omega), if_pos (by omega), Nat.add_sub_cancel_left]
    exact h9
end START
