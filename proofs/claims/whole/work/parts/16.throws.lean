/-! ===== what JarCannery throws ===== -/
def nsE : String := "java/util/NoSuchElementException"
def nsB : ByteArray := ⟨#[0x2a, 0x2b, 0xb7, 0x00, 0x0d, 0xb1]⟩
def nsAt (own : String) (ic : Nat) : List Cond := Bundle.throwableAtoms ++ Bundle.throwableSAtoms ++ Bundle.passSAtoms nsE "java/lang/RuntimeException" 13 nsB ++ Bundle.chainSAtoms "java/lang/RuntimeException" ["java/lang/Exception"] ++
  ((Bundle.ownAtoms own ic nsE []).drop (Bundle.throwableAtoms ++ Bundle.throwableSAtoms ++ Bundle.chainSAtoms nsE []).length)
def nsAs (own : String) (ic : Nat) : List Cond := (nsAt own ic).filter vx_no
def fThN (own : String) (ik ic : Nat) : Prop := Cond.classLink own ik nsE ∈ lw_tbl ∧ Cond.initialized nsE ∈ lw_tbl ∧ (∀ w ∈ nsAs own ic, w ∈ lw_tbl ∧ fgw w = true) ∧ (∀ w ∈ Cond.classLink own ik nsE :: Cond.initialized nsE :: nsAs own ic, vx_ot w = true)
theorem f_throwN {G : fG} {z : fMi} {d pc : Nat} {Q : fR → fS → Prop} {ls : List (Option Value)} {S : fS} {kc ks : Nat} (hG : fOK G) {ik is ic : Nat} {text : String} (hf : fThN z.1.cls ik ic) (hstr : (z.1.cls, is, text) ∈ fstrs) (hh : z.2.2.2.2 = []) (hlaw : z.1 ≠ x) (d0 : decode z.2.1 pc = .ok (.new ik, 3)) (d3 : decode z.2.1 (pc + 3) = .ok (.dup, 1)) (d4 : decode z.2.1 (pc + 4) = .ok (.ldc is, 2)) (d6 : decode z.2.1 (pc + 6) = .ok (.invokespecial ic, 3)) (d9 : decode z.2.1 (pc + 9) = .ok (.athrow, 1)) (hkc : 1 ≤ kc) (hks : 6 ≤ ks) (hQ : Q (.inr nsE) (fth S)) : fV G z d Q pc ls [] S kc ks := by
  sorry
theorem f_throwNW {G : fG} {z : fMi} {d pc : Nat} {Q : fR → fS → Prop} {ls : List (Option Value)} {S : fS} {kc ks : Nat} (hG : fOK G) {ik is ic : Nat} {text : String} (hf : fThN z.1.cls ik ic) (hstr : (z.1.cls, is, text) ∈ fstrs) (hh : z.2.2.2.2 = []) (hlaw : z.1 ≠ x) (d0 : decode z.2.1 pc = .ok (.new ik, 3)) (d3 : decode z.2.1 (pc + 3) = .ok (.dup, 1)) (d4 : decode z.2.1 (pc + 4) = .ok (.ldc_w is, 3)) (d7 : decode z.2.1 (pc + 7) = .ok (.invokespecial ic, 3)) (d10 : decode z.2.1 (pc + 10) = .ok (.athrow, 1)) (hkc : 1 ≤ kc) (hks : 6 ≤ ks) (hQ : Q (.inr nsE) (fth S)) : fV G z d Q pc ls [] S kc ks := by
  sorry
theorem th_X11_162_166 : fThr RX11 162 166 "java/lang/IndexOutOfBoundsException" ["java/lang/RuntimeException", "java/lang/Exception"] := ⟨by decide +kernel, by decide +kernel, by decide, List.mem_of_getElem? (i := 635) (by decide +kernel), List.mem_of_getElem? (i := 82) (by decide +kernel), by decide +kernel, by decide +kernel⟩
theorem st_X11_164 : ((RX11, 164, "no such letter") : String × Nat × String) ∈ fstrs := by decide +kernel
theorem th_X11_176_180 : fThN RX11 176 180 := ⟨List.mem_of_getElem? (i := 755) (by decide +kernel), List.mem_of_getElem? (i := 86) (by decide +kernel), by decide +kernel, by decide +kernel⟩
theorem st_X11_178 : ((RX11, 178, "no labels") : String × Nat × String) ∈ fstrs := by decide +kernel
theorem st_X11_223 : ((RX11, 223, "no such position") : String × Nat × String) ∈ fstrs := by decide +kernel
theorem st_X11_254 : ((RX11, 254, "no such rank") : String × Nat × String) ∈ fstrs := by decide +kernel
theorem th_X11_305_309 : fThr RX11 305 309 "java/lang/ArithmeticException" ["java/lang/RuntimeException", "java/lang/Exception"] := ⟨by decide +kernel, by decide +kernel, by decide, List.mem_of_getElem? (i := 1233) (by decide +kernel), List.mem_of_getElem? (i := 92) (by decide +kernel), by decide +kernel, by decide +kernel⟩
theorem st_X11_307 : ((RX11, 307, "no jar lot is stored") : String × Nat × String) ∈ fstrs := by decide +kernel
theorem st_X11_310 : ((RX11, 310, "no jars were filled") : String × Nat × String) ∈ fstrs := by decide +kernel
theorem st_X11_329 : ((RX11, 329, "no such character") : String × Nat × String) ∈ fstrs := by decide +kernel
theorem th_X11_348_352 : fThr RX11 348 352 "java/lang/IllegalArgumentException" ["java/lang/RuntimeException", "java/lang/Exception"] := ⟨by decide +kernel, by decide +kernel, by decide, List.mem_of_getElem? (i := 707) (by decide +kernel), List.mem_of_getElem? (i := 83) (by decide +kernel), by decide +kernel, by decide +kernel⟩
theorem st_X11_350 : ((RX11, 350, "not a character for the buffer") : String × Nat × String) ∈ fstrs := by decide +kernel
theorem th_X11_353_357 : fThr RX11 353 357 "java/lang/IllegalStateException" ["java/lang/RuntimeException", "java/lang/Exception"] := ⟨by decide +kernel, by decide +kernel, by decide, List.mem_of_getElem? (i := 723) (by decide +kernel), List.mem_of_getElem? (i := 84) (by decide +kernel), by decide +kernel, by decide +kernel⟩
theorem st_X11_355 : ((RX11, 355, "the buffer is full") : String × Nat × String) ∈ fstrs := by decide +kernel
theorem st_X11_365 : ((RX11, 365, "the text is malformed") : String × Nat × String) ∈ fstrs := by decide +kernel
theorem st_X11_370 : ((RX11, 370, "a command fails") : String × Nat × String) ∈ fstrs := by decide +kernel
theorem st_X11_373 : ((RX11, 373, "no text was malformed") : String × Nat × String) ∈ fstrs := by decide +kernel
theorem st_X11_375 : ((RX11, 375, "no command failed") : String × Nat × String) ∈ fstrs := by decide +kernel
theorem st_X11_378 : ((RX11, 378, "nothing can be undone") : String × Nat × String) ∈ fstrs := by decide +kernel
theorem st_X11_386 : ((RX11, 386, "no snapshot") : String × Nat × String) ∈ fstrs := by decide +kernel
theorem st_X11_391 : ((RX11, 391, "no such number") : String × Nat × String) ∈ fstrs := by decide +kernel
theorem st_X11_393 : ((RX11, 393, "not a valid argument") : String × Nat × String) ∈ fstrs := by decide +kernel
theorem st_X11_395 : ((RX11, 395, "not possible now") : String × Nat × String) ∈ fstrs := by decide +kernel
theorem th_X11_397_401 : fThr RX11 397 401 "java/lang/UnsupportedOperationException" ["java/lang/RuntimeException", "java/lang/Exception"] := ⟨by decide +kernel, by decide +kernel, by decide, List.mem_of_getElem? (i := 739) (by decide +kernel), List.mem_of_getElem? (i := 85) (by decide +kernel), by decide +kernel, by decide +kernel⟩
theorem st_X11_399 : ((RX11, 399, "a raw lot is faulty") : String × Nat × String) ∈ fstrs := by decide +kernel
theorem st_X11_402 : ((RX11, 402, "no such jar lot") : String × Nat × String) ∈ fstrs := by decide +kernel
theorem st_X11_407 : ((RX11, 407, "no such raw lot") : String × Nat × String) ∈ fstrs := by decide +kernel
theorem st_X11_412 : ((RX11, 412, "no such batch") : String × Nat × String) ∈ fstrs := by decide +kernel
theorem st_X11_417 : ((RX11, 417, "no such label") : String × Nat × String) ∈ fstrs := by decide +kernel
theorem st_X11_425 : ((RX11, 425, "the text cannot be scanned") : String × Nat × String) ∈ fstrs := by decide +kernel
theorem st_X11_427 : ((RX11, 427, "capacity out of range") : String × Nat × String) ∈ fstrs := by decide +kernel
