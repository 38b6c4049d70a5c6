/-! ===== THE FLAT WORLD: all cells that the law's run makes lie one behind another from the start's heap's end on; a state of it is (layout, ints, the double, whether nothing lies behind it) ===== -/
abbrev fE : Type := (Nat × List (Option (Option Nat))) ⊕ (Nat × Nat × List (Option Nat))
abbrev fM : Type := Nat → Nat → Int32
abbrev fS : Type := List fE × fM × UInt64 × Bool
/-- an outcome: a value (none: void), or the class of what is thrown -/
abbrev fR : Type := Option Value ⊕ String
/-- a method: name, code, locals, result, handlers -/
abbrev fMi : Type := MethodName × ByteArray × Nat × Option FieldType × List (Nat × Nat × Nat × Nat)
/-- what stays through the run: the start's state and arguments, the launch, the classes' numbers, the array classes, addresses outside, the script -/
abbrev fG : Type := State × Array Value × Launch × va_G × (Nat → ClassId) × (Nat → Nat) × Nat × (Nat → Int32)
abbrev gs (G : fG) : State := G.1
abbrev ga (G : fG) : Array Value := G.2.1
abbrev gl (G : fG) : Launch := G.2.2.1
abbrev gD (G : fG) : va_G := G.2.2.2.1
abbrev gcA (G : fG) : Nat → ClassId := G.2.2.2.2.1
abbrev gsa (G : fG) : Nat → Nat := G.2.2.2.2.2.1
def fo (G : fG) : Nat := (gs G).heap.size
/-- an address by its number: below 4096 a cell of the world, else one of the addresses outside -/
def fad (G : fG) (k : Nat) : Nat := if k < 4096 then fo G + k else gsa G (k - 4096)
def frl (G : fG) (v : Value) : Value := match v with
  | .ref k => .ref (fad G k)
  | w => w
def fvl (G : fG) (q : Option (Option Nat)) (x : Int32) : Value := match q with
  | none => .int x
  | some none => .null
  | some (some k) => .ref (fad G k)
def fsl (G : fG) : List (Option (Option Nat)) → Nat → (Nat → Int32) → List Value
  | [], _, _ => []
  | q :: t, i, f => fvl G q (f i) :: fsl G t (i + 1) f
def fty (k : Nat) : FieldType := match k with
  | 0 => .int
  | 1 => .char
  | 2 => .long
  | 3 => .double
  | _ => .object "JarCannery$State"
def fac (G : fG) (k : Nat) (rs : List (Option Nat)) (f : Nat → Int32) (d : UInt64) : (Nat → Int32) ⊕ (Nat → Int64) ⊕ (Nat → UInt32) ⊕ (Nat → UInt64) ⊕ (Nat → Option Nat) := match k with
  | 0 => .inl f
  | 1 => .inl f
  | 2 => .inr (.inl fun j => (f j).toInt64)
  | 3 => .inr (.inr (.inr (.inl fun _ => d)))
  | _ => .inr (.inr (.inr (.inr fun j => (rs.getD j none).map (fad G))))
def fce (G : fG) (e : fE) (f : Nat → Int32) (d : UInt64) : va_E := match e with
  | .inl o => .inr (o.1, fsl G o.2 0 f)
  | .inr a => .inl (gcA G a.1, a.2.1, fac G a.1 a.2.2 f d)
def fwl (G : fG) : List fE → Nat → fM → UInt64 → va_W
  | [], _, _, _ => []
  | e :: t, i, M, d => (fo G + i, fce G e (M i) d) :: fwl G t (i + 1) M d
theorem fwl_get {G : fG} {d : UInt64} {M : fM} : ∀ (L : List fE) (i k : Nat) (e : fE), L[k]? = some e → (fwl G L i M d)[k]? = some (fo G + (i + k), fce G e (M (i + k)) d)
  | [], i, k, e, h => by simp at h
  | e0 :: t, i, 0, e, h => by
    simp at h
    subst h
    simp [fwl]
  | e0 :: t, i, k + 1, e, h => by
    have h2 : t[k]? = some e := by simpa using h
    have h3 := fwl_get (G := G) (d := d) (M := M) t (i + 1) k e h2
    rw [show i + (k + 1) = i + 1 + k by omega]
    simpa [fwl] using h3
theorem fwl_inv {G : fG} {d : UInt64} {M : fM} : ∀ (L : List fE) (i k : Nat) (q : Nat × va_E), (fwl G L i M d)[k]? = some q → k < L.length ∧ q.1 = fo G + (i + k)
  | [], i, k, q, h => by simp [fwl] at h
  | e0 :: t, i, 0, q, h => by
    simp [fwl] at h
    subst h
    simp
  | e0 :: t, i, k + 1, q, h => by
    have h2 : (fwl G t (i + 1) M d)[k]? = some q := by simpa [fwl] using h
    have h3 := fwl_inv (G := G) (d := d) (M := M) t (i + 1) k q h2
    refine ⟨by simpa using h3.1, by rw [h3.2]; omega⟩
theorem fwl_len {G : fG} {d : UInt64} {M : fM} : ∀ (L : List fE) (i : Nat), (fwl G L i M d).length = L.length
  | [], i => rfl
  | e0 :: t, i => by simp [fwl, fwl_len t (i + 1)]
theorem fwl_ext {G : fG} {d : UInt64} {M M' : fM} : ∀ (L : List fE) (i : Nat), (∀ a, i ≤ a → M a = M' a) → fwl G L i M d = fwl G L i M' d
  | [], i, _ => rfl
  | e0 :: t, i, h => by
    simp only [fwl]
    rw [h i (Nat.le_refl i), fwl_ext t (i + 1) (fun a ha => h a (by omega))]
theorem fwl_set {G : fG} {d : UInt64} {M : fM} : ∀ (L : List fE) (i k : Nat) (e : fE) (f : Nat → Int32), k < L.length → (fwl G L i M d).set k (fo G + (i + k), fce G e f d) = fwl G (L.set k e) i (fun a => if a = i + k then f else M a) d
  | [], i, k, e, f, h => by simp at h
  | e0 :: t, i, 0, e, f, h => by
    simp only [fwl, List.set_cons_zero, Nat.add_zero, if_true]
    rw [fwl_ext (M := M) (M' := fun a => if a = i then f else M a) t (i + 1) (fun a ha => by rw [if_neg (by omega)])]
  | e0 :: t, i, k + 1, e, f, h => by
    have h2 := fwl_set (G := G) (d := d) (M := M) t (i + 1) k e f (by simpa using h)
    simp only [fwl, List.set_cons_succ]
    rw [if_neg (by omega), show i + (k + 1) = i + 1 + k by omega, h2]
theorem fwl_app {G : fG} {d : UInt64} {M : fM} : ∀ (L L2 : List fE) (i : Nat), fwl G (L ++ L2) i M d = fwl G L i M d ++ fwl G L2 (i + L.length) M d
  | [], L2, i => by simp [fwl]
  | e0 :: t, L2, i => by
    simp only [List.cons_append, fwl, List.length_cons]
    rw [fwl_app t L2 (i + 1), show i + 1 + t.length = i + (t.length + 1) by omega]
theorem fwl_D {G : fG} {d : UInt64} {M : fM} {L : List fE} : va_D (fun q : Nat => fo G ≤ q) (fwl G L 0 M d) := by
  refine ⟨fun i j p q hi hj h => ?_, fun k q hk => ?_⟩
  · have h1 := (fwl_inv L 0 i p hi).2
    have h2 := (fwl_inv L 0 j q hj).2
    omega
  · have h1 := (fwl_inv L 0 k q hk).2
    show fo G ≤ q.1
    omega
theorem fsl_get {G : fG} {f : Nat → Int32} : ∀ (sl : List (Option (Option Nat))) (i j : Nat) (q : Option (Option Nat)), sl[j]? = some q → (fsl G sl i f)[j]? = some (fvl G q (f (i + j)))
  | [], i, j, q, h => by simp at h
  | q0 :: t, i, 0, q, h => by
    simp at h
    subst h
    simp [fsl]
  | q0 :: t, i, j + 1, q, h => by
    have h3 := fsl_get (G := G) (f := f) t (i + 1) j q (by simpa using h)
    rw [show i + (j + 1) = i + 1 + j by omega]
    simpa [fsl] using h3
theorem fsl_len {G : fG} {f : Nat → Int32} : ∀ (sl : List (Option (Option Nat))) (i : Nat), (fsl G sl i f).length = sl.length
  | [], i => rfl
  | q0 :: t, i => by simp [fsl, fsl_len t (i + 1)]
theorem fsl_ext {G : fG} {f f' : Nat → Int32} : ∀ (sl : List (Option (Option Nat))) (i : Nat), (∀ a, i ≤ a → f a = f' a) → fsl G sl i f = fsl G sl i f'
  | [], i, _ => rfl
  | q0 :: t, i, h => by
    simp only [fsl]
    rw [h i (Nat.le_refl i), fsl_ext t (i + 1) (fun a ha => h a (by omega))]
theorem fsl_set {G : fG} {f : Nat → Int32} : ∀ (sl : List (Option (Option Nat))) (i j : Nat) (q : Option (Option Nat)) (x : Int32), j < sl.length → (fsl G sl i f).set j (fvl G q x) = fsl G (sl.set j q) i (fun a => if a = i + j then x else f a)
  | [], i, j, q, x, h => by simp at h
  | q0 :: t, i, 0, q, x, h => by
    simp only [fsl, List.set_cons_zero, Nat.add_zero, if_true]
    rw [fsl_ext (f := f) (f' := fun a => if a = i then x else f a) t (i + 1) (fun a ha => by rw [if_neg (by omega)])]
  | q0 :: t, i, j + 1, q, x, h => by
    have h2 := fsl_set (G := G) (f := f) t (i + 1) j q x (by simpa using h)
    simp only [fsl, List.set_cons_succ]
    rw [if_neg (by omega), show i + (j + 1) = i + 1 + j by omega, h2]
/-- one int written -/
def fst1 (M : fM) (k j : Nat) (x : Int32) : fM := fun a => if a = k then (fun b => if b = j then x else M k b) else M a
/-- a row written -/
def fsr (M : fM) (k : Nat) (f : Nat → Int32) : fM := fun a => if a = k then f else M a
/-- the classes whose objects the world holds -/
abbrev fcl : List vw_C := [(RX0, TX0, 5), (RX1, TX1, 6), (RX2, TX2, 3), (RX3, TX3, 2), (RX4, TX4, 3), (RX5, TX5, 8), (RX6, TX6, 3), (RX7, TX7, 1), (RX8, TX8, 8), (RX10, TX10, 3), (RX11, TX11, 13), (RX12, TX12, 19)]
abbrev ftys (G : fG) : List (ClassId × FieldType) := [(gcA G 0, .int), (gcA G 1, .char), (gcA G 2, .long), (gcA G 3, .double), (gcA G 4, .object "JarCannery$State")]
theorem ftys_at (G : fG) (k : Nat) (h : k < 5) : (ftys G)[k]? = some (gcA G k, fty k) := by
  match k, h with
  | 0, _ => rfl
  | 1, _ => rfl
  | 2, _ => rfl
  | 3, _ => rfl
  | 4, _ => rfl
def fW (G : fG) (S : fS) (H : Heap) : Prop := va_P (gD G) fcl (fwl G S.1 0 S.2.1 S.2.2.1) H ∧ S.1.length ≤ 4096 ∧ (S.2.2.2 = true → H.size = fo G + S.1.length) ∧ fo G + S.1.length ≤ H.size
/-- what a state has of the start -/
def fB (G : fG) (s : State) : Prop := (gs G).WarmedH s.vm ∧ (∀ q : Nat, q < fo G → s.heap[q]? = (gs G).heap[q]?) ∧ fo G ≤ s.heap.size
/-- the String constants of the class: own, entry, text; those whose contents count, with their number and bytes; classes that are no kind of others -/
def fstrs : List (String × Nat × String) := [("JarCannery", 391, "no such number"), ("JarCannery", 393, "not a valid argument"), ("JarCannery", 395, "not possible now"), ("JarCannery", 399, "a raw lot is faulty"), ("JarCannery", 402, "no such jar lot"), ("JarCannery", 407, "no such raw lot"), ("JarCannery", 412, "no such batch"), ("JarCannery", 417, "no such label"), ("JarCannery", 164, "no such letter"), ("JarCannery", 425, "the text cannot be scanned"), ("JarCannery", 178, "no labels"), ("JarCannery", 223, "no such position"), ("JarCannery", 254, "no such rank"), ("JarCannery", 427, "capacity out of range"), ("JarCannery", 307, "no jar lot is stored"), ("JarCannery", 310, "no jars were filled"), ("JarCannery", 329, "no such character"), ("JarCannery", 350, "not a character for the buffer"), ("JarCannery", 355, "the buffer is full"), ("JarCannery$CommandText", 95, "raw"), ("JarCannery$CommandText", 97, "mix"), ("JarCannery$CommandText", 99, "fill"), ("JarCannery$CommandText", 101, "ship"), ("JarCannery$CommandText", 103, "day"), ("JarCannery$CommandText", 105, "recall"), ("JarCannery", 365, "the text is malformed"), ("JarCannery", 370, "a command fails"), ("JarCannery", 373, "no text was malformed"), ("JarCannery", 375, "no command failed"), ("JarCannery", 378, "nothing can be undone"), ("JarCannery", 386, "no snapshot"), ("JarCanneryModel", 184, "ix"), ("JarCanneryModel", 194, "ill"), ("JarCanneryModel", 196, "hip"), ("JarCanneryModel", 198, "w"), ("JarCanneryModel", 200, "ecall"), ("JarCanneryModel", 202, "ay")]
def fsvs : List (String × Nat × String × Nat × List Int32) := [("JarCannery$CommandText", 95, "raw", 0, [114, 97, 119]), ("JarCannery$CommandText", 97, "mix", 1, [109, 105, 120]), ("JarCannery$CommandText", 99, "fill", 2, [102, 105, 108, 108]), ("JarCannery$CommandText", 101, "ship", 3, [115, 104, 105, 112]), ("JarCannery$CommandText", 103, "day", 4, [100, 97, 121]), ("JarCannery$CommandText", 105, "recall", 5, [114, 101, 99, 97, 108, 108]), ("JarCanneryModel", 184, "ix", 6, [105, 120]), ("JarCanneryModel", 194, "ill", 7, [105, 108, 108]), ("JarCanneryModel", 196, "hip", 8, [104, 105, 112]), ("JarCanneryModel", 198, "w", 9, [119]), ("JarCanneryModel", 200, "ecall", 10, [101, 99, 97, 108, 108]), ("JarCanneryModel", 202, "ay", 11, [97, 121])]
def fncs : List (String × String) := [("java/lang/IndexOutOfBoundsException", "java/lang/IllegalStateException"), ("java/lang/IllegalArgumentException", "java/lang/IllegalStateException"), ("java/lang/UnsupportedOperationException", "java/lang/IllegalStateException"), ("java/util/NoSuchElementException", "java/lang/IllegalStateException"), ("java/lang/ArrayIndexOutOfBoundsException", "java/lang/IllegalStateException"), ("java/lang/ArithmeticException", "java/lang/IllegalStateException"), ("java/lang/IndexOutOfBoundsException", "java/lang/IllegalArgumentException"), ("java/lang/IllegalStateException", "java/lang/IllegalArgumentException"), ("java/lang/UnsupportedOperationException", "java/lang/IllegalArgumentException"), ("java/util/NoSuchElementException", "java/lang/IllegalArgumentException"), ("java/lang/ArrayIndexOutOfBoundsException", "java/lang/IllegalArgumentException"), ("java/lang/ArithmeticException", "java/lang/IllegalArgumentException"), ("java/lang/IndexOutOfBoundsException", "java/lang/UnsupportedOperationException"), ("java/lang/IllegalArgumentException", "java/lang/UnsupportedOperationException"), ("java/lang/IllegalStateException", "java/lang/UnsupportedOperationException"), ("java/util/NoSuchElementException", "java/lang/UnsupportedOperationException"), ("java/lang/ArrayIndexOutOfBoundsException", "java/lang/UnsupportedOperationException"), ("java/lang/ArithmeticException", "java/lang/UnsupportedOperationException"), ("java/lang/IllegalArgumentException", "java/lang/IndexOutOfBoundsException"), ("java/lang/IllegalStateException", "java/lang/IndexOutOfBoundsException"), ("java/lang/UnsupportedOperationException", "java/lang/IndexOutOfBoundsException"), ("java/util/NoSuchElementException", "java/lang/IndexOutOfBoundsException"), ("java/lang/ArithmeticException", "java/lang/IndexOutOfBoundsException"), ("java/lang/IndexOutOfBoundsException", "java/util/NoSuchElementException"), ("java/lang/IllegalArgumentException", "java/util/NoSuchElementException"), ("java/lang/IllegalStateException", "java/util/NoSuchElementException"), ("java/lang/UnsupportedOperationException", "java/util/NoSuchElementException"), ("java/lang/ArrayIndexOutOfBoundsException", "java/util/NoSuchElementException"), ("java/lang/ArithmeticException", "java/util/NoSuchElementException"), ("java/lang/IndexOutOfBoundsException", "java/lang/ArithmeticException"), ("java/lang/IllegalArgumentException", "java/lang/ArithmeticException"), ("java/lang/IllegalStateException", "java/lang/ArithmeticException"), ("java/lang/UnsupportedOperationException", "java/lang/ArithmeticException"), ("java/util/NoSuchElementException", "java/lang/ArithmeticException"), ("java/lang/ArrayIndexOutOfBoundsException", "java/lang/ArithmeticException")]
/-- what is known of the start -/
def fOK (G : fG) : Prop := (∀ w ∈ lw_tbl, w.before (ga G) (gs G) = true) ∧ va_K (gD G) fcl (ftys G) (gs G) ∧ (gl G).stackTraces = false ∧
  vx_Zq Bundle.tN "UNASSIGNED_STACK" Bundle.steD (fun q : Nat => fo G ≤ q) (gs G) (gs G).heap ∧ vx_Zq Bundle.tN "SUPPRESSED_SENTINEL" Bundle.listD (fun q : Nat => fo G ≤ q) (gs G) (gs G).heap ∧
  (∀ q ∈ fstrs, ∃ a, vk_R q.1 q.2.1 q.2.2 a (gs G)) ∧ (∀ q ∈ fncs, va_Nc q.1 q.2 (gs G)) ∧
  (∀ q ∈ fsvs, vk_R q.1 q.2.1 q.2.2.1 (gsa G q.2.2.2.1) (gs G) ∧ vk_S 1 [q.2.2.2.2.length] [q.2.2.2.2] (fun _ => gsa G q.2.2.2.1) (fun _ => gsa G (12 + q.2.2.2.1)) (fun q : Nat => fo G ≤ q) (gs G) (gs G).heap) ∧
  va_Z "java/lang/String" "COMPACT_STRINGS" "Z" (.int 1) (fun q : Nat => fo G ≤ q) (gs G) (gs G).heap ∧ (va_Z "jdk/internal/util/Preconditions" "SIOOBE_FORMATTER" "Ljava/util/function/BiFunction;" (.ref (gsa G 24)) (fun q : Nat => fo G ≤ q) (gs G) (gs G).heap ∨ va_Z "jdk/internal/util/Preconditions" "SIOOBE_FORMATTER" "Ljava/util/function/BiFunction;" .null (fun q : Nat => fo G ≤ q) (gs G) (gs G).heap)
theorem f_word {G : fG} {s : State} (hG : fOK G) (hB : fB G s) {w : Cond} (hw : w ∈ lw_tbl) (hg : goodWord w = true) (args : Array Value) : w.before args s = true := word_at hB.1 (good_of_word hg) (hG.1 w hw)
theorem f_K {G : fG} {s : State} (hG : fOK G) (hB : fB G s) : va_K (gD G) fcl (ftys G) s := va_K.moved hB.1.alike hG.2.1
theorem f_nestF {G : fG} {s : State} (hG : fOK G) (hB : fB G s) {a : String} {i : Nat} {b n d h : String} (hw : Cond.fieldLinkNest a i b n d h ∈ lw_tbl) (args : Array Value) : (Cond.fieldLinkNest a i b n d h).before args s = true :=
  va_Nw.use rfl (va_Nw.warmF hB.1 (va_Nw.of rfl (hG.1 _ hw)))
theorem f_nestM {G : fG} {s : State} (hG : fOK G) (hB : fB G s) {a : String} {i : Nat} {y : MethodName} {h : String} (hw : Cond.methodLinkNest a i y h ∈ lw_tbl) (args : Array Value) : (Cond.methodLinkNest a i y h).before args s = true :=
  va_Nw.use rfl (va_Nw.warmM hB.1 (va_Nw.of rfl (hG.1 _ hw)))
/-- a class of the world: its words, its fields' names and types -/
def fCl (q : vw_C) : Prop := (∀ w ∈ u_ws q.1 q.2.1 q.2.2, w ∈ lw_tbl ∧ goodWord w = true) ∧ (∀ a, a < q.2.2 → ∀ b, b < q.2.2 → a ≠ b → (q.2.1 a).2.1 ≠ (q.2.1 b).2.1) ∧ ∃ ty0 : Nat → FieldType, ∀ k, k < q.2.2 → parseFieldDescriptor (q.2.1 k).2.2.1 = some (ty0 k)
theorem fcl_0 : fCl (RX0, TX0, 5) := ⟨by decide +kernel, nmX0, _, tyX0_ok⟩
theorem fcl_1 : fCl (RX1, TX1, 6) := ⟨by decide +kernel, nmX1, _, tyX1_ok⟩
theorem fcl_2 : fCl (RX2, TX2, 3) := ⟨by decide +kernel, nmX2, _, tyX2_ok⟩
theorem fcl_3 : fCl (RX3, TX3, 2) := ⟨by decide +kernel, nmX3, _, tyX3_ok⟩
theorem fcl_4 : fCl (RX4, TX4, 3) := ⟨by decide +kernel, nmX4, _, tyX4_ok⟩
theorem fcl_5 : fCl (RX5, TX5, 8) := ⟨by decide +kernel, nmX5, _, tyX5_ok⟩
theorem fcl_6 : fCl (RX6, TX6, 3) := ⟨by decide +kernel, nmX6, _, tyX6_ok⟩
theorem fcl_7 : fCl (RX7, TX7, 1) := ⟨by decide +kernel, nmX7, _, tyX7_ok⟩
theorem fcl_8 : fCl (RX8, TX8, 8) := ⟨by decide +kernel, nmX8, _, tyX8_ok⟩
theorem fcl_9 : fCl (RX10, TX10, 3) := ⟨by decide +kernel, nmX10, _, tyX10_ok⟩
theorem fcl_10 : fCl (RX11, TX11, 13) := ⟨by decide +kernel, nmX11, _, tyX11_ok⟩
theorem fcl_11 : fCl (RX12, TX12, 19) := ⟨by decide +kernel, nmX12, _, tyX12_ok⟩
theorem fcl_ok {ci : Nat} {q : vw_C} (h : fcl[ci]? = some q) : fCl q := by
  match ci, h with
  | 0, h => cases h; exact fcl_0
  | 1, h => cases h; exact fcl_1
  | 2, h => cases h; exact fcl_2
  | 3, h => cases h; exact fcl_3
  | 4, h => cases h; exact fcl_4
  | 5, h => cases h; exact fcl_5
  | 6, h => cases h; exact fcl_6
  | 7, h => cases h; exact fcl_7
  | 8, h => cases h; exact fcl_8
  | 9, h => cases h; exact fcl_9
  | 10, h => cases h; exact fcl_10
  | 11, h => cases h; exact fcl_11
  | n + 12, h => simp at h
theorem f_cw {G : fG} {s : State} (hG : fOK G) (hB : fB G s) {q : vw_C} (h : fCl q) (args : Array Value) : ∀ w ∈ u_ws q.1 q.2.1 q.2.2, w.before args s = true := fun w hw => f_word hG hB (h.1 w hw).1 (h.1 w hw).2 args
/-- the locals: a value at each place, or nothing known -/
def flv (G : fG) : List (Option Value) → Nat → List (Nat × Value)
  | [], _ => []
  | none :: t, i => flv G t (i + 1)
  | some v :: t, i => (i, frl G v) :: flv G t (i + 1)
theorem flv_get {G : fG} : ∀ (ls : List (Option Value)) (i k : Nat) (v : Value), ls[k]? = some (some v) → (i + k, frl G v) ∈ flv G ls i
  | [], i, k, v, h => by simp at h
  | none :: t, i, 0, v, h => by simp at h
  | some w :: t, i, 0, v, h => by
    simp at h
    subst h
    simp [flv]
  | none :: t, i, k + 1, v, h => by
    have h2 := flv_get (G := G) t (i + 1) k v (by simpa using h)
    rw [show i + (k + 1) = i + 1 + k by omega]
    simpa [flv] using h2
  | some w :: t, i, k + 1, v, h => by
    have h2 := flv_get (G := G) t (i + 1) k v (by simpa using h)
    rw [show i + (k + 1) = i + 1 + k by omega]
    simp only [flv]
    exact List.mem_cons_of_mem _ h2
theorem flv_inv {G : fG} : ∀ (ls : List (Option Value)) (i : Nat) (q : Nat × Value), q ∈ flv G ls i → ∃ (k : Nat) (v : Value), ls[k]? = some (some v) ∧ q = (i + k, frl G v)
  | [], i, q, h => by simp [flv] at h
  | none :: t, i, q, h => by
    obtain ⟨k, v, h1, h2⟩ := flv_inv (G := G) t (i + 1) q (by simpa [flv] using h)
    exact ⟨k + 1, v, by simpa using h1, by rw [h2, show i + 1 + k = i + (k + 1) by omega]⟩
  | some w :: t, i, q, h => by
    simp only [flv] at h
    rcases List.mem_cons.mp h with h | h
    · exact ⟨0, w, rfl, h⟩
    · obtain ⟨k, v, h1, h2⟩ := flv_inv (G := G) t (i + 1) q h
      exact ⟨k + 1, v, by simpa using h1, by rw [h2, show i + 1 + k = i + (k + 1) by omega]⟩
theorem flv_at {G : fG} {ls : List (Option Value)} {lsr : Array Slot} {nL k : Nat} {v : Value} (h : lv_has lsr nL (flv G ls 0)) (hk : ls[k]? = some (some v)) : lsr[k]? = some (.val (frl G v)) := by
  have h1 := flv_get (G := G) ls 0 k v hk
  rw [Nat.zero_add] at h1
  exact h.2.2 _ h1
/-- the place before isn't the first half of something wide -/
def fnw (ls : List (Option Value)) (i : Nat) : Bool := match i with
  | 0 => true
  | j + 1 => match ls[j]? with
    | some (some v) => v.category == 1
    | _ => true
theorem frl_cat {G : fG} {v : Value} : (frl G v).category = v.category := by cases v <;> rfl
theorem flv_store {G : fG} {ls : List (Option Value)} {lsr : Array Slot} {nL i : Nat} {v : Value} (h : lv_has lsr nL ((i, frl G v) :: (flv G ls 0).filter (fun q => !(q.1 == i) && !(q.1 + 1 == i && q.2.category == 2)))) (hw : fnw ls i = true) : lv_has lsr nL (flv G (ls.set i (some v)) 0) := by
  refine ⟨h.1, h.2.1, fun q hq => ?_⟩
  obtain ⟨k, w, h1, rfl⟩ := flv_inv _ _ _ hq
  rw [Nat.zero_add] at hq ⊢
  by_cases hk : k = i
  · subst hk
    have hl : k < ls.length := by
      have := (List.getElem?_eq_some_iff.mp h1).1
      simpa using this
    rw [List.getElem?_set_self hl] at h1
    cases h1
    exact h.2.2 _ List.mem_cons_self
  · rw [List.getElem?_set_ne (Ne.symm hk)] at h1
    refine h.2.2 (k, frl G w) (List.mem_cons_of_mem _ (List.mem_filter.mpr ⟨?_, ?_⟩))
    · have h2 := flv_get (G := G) ls 0 k w h1
      rwa [Nat.zero_add] at h2
    · have e1 : (k == i) = false := by simpa using hk
      have e2 : (k + 1 == i && (frl G w).category == 2) = false := by
        by_cases h3 : k + 1 = i
        · subst h3
          have h4 : (w.category == 1) = true := by
            have := hw
            simp only [fnw, h1] at this
            exact this
          rw [frl_cat]
          have h5 : w.category = 1 := by simpa using h4
          simp [h5]
        · simp [h3]
      show (!(k == i) && !(k + 1 == i && (frl G w).category == 2)) = true
      rw [e1, e2]
      rfl
theorem flv_sub {G : fG} {ls ls' : List (Option Value)} {lsr : Array Slot} {nL : Nat} (h : lv_has lsr nL (flv G ls 0)) (hs : ∀ (k : Nat) (v : Value), ls'[k]? = some (some v) → ls[k]? = some (some v)) : lv_has lsr nL (flv G ls' 0) := by
  refine ⟨h.1, h.2.1, fun q hq => ?_⟩
  obtain ⟨k, w, h1, rfl⟩ := flv_inv _ _ _ hq
  have h2 := flv_get (G := G) ls 0 k w (hs k w h1)
  exact h.2.2 _ h2
