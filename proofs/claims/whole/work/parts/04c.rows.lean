theorem f_iconst {G : fG} {z : fMi} {d pc : Nat} {Q : fR → fS → Prop} {ls : List (Option Value)} {st : List Value} {S : fS} {kc ks : Nat} {n : Int} {v : Int32} (hd : decode z.2.1 pc = .ok (.iconst n, 1)) (hv : Int32.ofInt n = v) (kk : fV G z d Q (pc + 1) ls (.int v :: st) S kc ks) : fV G z d Q pc ls (st) S kc ks := by
  intro p e s m args below meth c R Z H locs cells slots lsr hC hE h1 h2 h3 h4 hW hS hl
  exact lv_iconst hC.1 hC.2.1 hd hv (kk p e s m args below meth c R Z H locs cells slots lsr hC hE h1 h2 h3 h4 hW hS hl)

theorem f_bipush {G : fG} {z : fMi} {d pc : Nat} {Q : fR → fS → Prop} {ls : List (Option Value)} {st : List Value} {S : fS} {kc ks : Nat} {n : Int} {v : Int32} (hd : decode z.2.1 pc = .ok (.bipush n, 2)) (hv : (Int8.ofInt n).toInt32 = v) (kk : fV G z d Q (pc + 2) ls (.int v :: st) S kc ks) : fV G z d Q pc ls (st) S kc ks := by
  intro p e s m args below meth c R Z H locs cells slots lsr hC hE h1 h2 h3 h4 hW hS hl
  exact lv_bipush hC.1 hC.2.1 hd hv (kk p e s m args below meth c R Z H locs cells slots lsr hC hE h1 h2 h3 h4 hW hS hl)

theorem f_sipush {G : fG} {z : fMi} {d pc : Nat} {Q : fR → fS → Prop} {ls : List (Option Value)} {st : List Value} {S : fS} {kc ks : Nat} {n : Int} {v : Int32} (hd : decode z.2.1 pc = .ok (.sipush n, 3)) (hv : (Int16.ofInt n).toInt32 = v) (kk : fV G z d Q (pc + 3) ls (.int v :: st) S kc ks) : fV G z d Q pc ls (st) S kc ks := by
  intro p e s m args below meth c R Z H locs cells slots lsr hC hE h1 h2 h3 h4 hW hS hl
  exact lv_sipush hC.1 hC.2.1 hd hv (kk p e s m args below meth c R Z H locs cells slots lsr hC hE h1 h2 h3 h4 hW hS hl)

theorem f_lconst {G : fG} {z : fMi} {d pc : Nat} {Q : fR → fS → Prop} {ls : List (Option Value)} {st : List Value} {S : fS} {kc ks : Nat} {n : Fin 2} {v : Int64} (hd : decode z.2.1 pc = .ok (.lconst n, 1)) (hv : Int64.ofNat (n : Nat) = v) (kk : fV G z d Q (pc + 1) ls (.long v :: st) S kc ks) : fV G z d Q pc ls (st) S kc ks := by
  intro p e s m args below meth c R Z H locs cells slots lsr hC hE h1 h2 h3 h4 hW hS hl
  exact lv_lconst hC.1 hC.2.1 hd hv (kk p e s m args below meth c R Z H locs cells slots lsr hC hE h1 h2 h3 h4 hW hS hl)

theorem f_aconst_null {G : fG} {z : fMi} {d pc : Nat} {Q : fR → fS → Prop} {ls : List (Option Value)} {st : List Value} {S : fS} {kc ks : Nat} (hd : decode z.2.1 pc = .ok (.aconst_null, 1)) (kk : fV G z d Q (pc + 1) ls (.null :: st) S kc ks) : fV G z d Q pc ls (st) S kc ks := by
  intro p e s m args below meth c R Z H locs cells slots lsr hC hE h1 h2 h3 h4 hW hS hl
  exact lv_null hC.1 hC.2.1 hd (kk p e s m args below meth c R Z H locs cells slots lsr hC hE h1 h2 h3 h4 hW hS hl)

theorem f_iadd {G : fG} {z : fMi} {d pc : Nat} {Q : fR → fS → Prop} {ls : List (Option Value)} {st : List Value} {S : fS} {kc ks : Nat} {x y : Int32} (hd : decode z.2.1 pc = .ok (.iadd, 1)) (kk : fV G z d Q (pc + 1) ls (.int (x + y) :: st) S kc ks) : fV G z d Q pc ls (.int y :: .int x :: st) S kc ks := by
  intro p e s m args below meth c R Z H locs cells slots lsr hC hE h1 h2 h3 h4 hW hS hl
  exact lv_iadd hC.1 hC.2.1 hd (kk p e s m args below meth c R Z H locs cells slots lsr hC hE h1 h2 h3 h4 hW hS hl)

theorem f_isub {G : fG} {z : fMi} {d pc : Nat} {Q : fR → fS → Prop} {ls : List (Option Value)} {st : List Value} {S : fS} {kc ks : Nat} {x y : Int32} (hd : decode z.2.1 pc = .ok (.isub, 1)) (kk : fV G z d Q (pc + 1) ls (.int (x - y) :: st) S kc ks) : fV G z d Q pc ls (.int y :: .int x :: st) S kc ks := by
  intro p e s m args below meth c R Z H locs cells slots lsr hC hE h1 h2 h3 h4 hW hS hl
  exact lv_isub hC.1 hC.2.1 hd (kk p e s m args below meth c R Z H locs cells slots lsr hC hE h1 h2 h3 h4 hW hS hl)

theorem f_imul {G : fG} {z : fMi} {d pc : Nat} {Q : fR → fS → Prop} {ls : List (Option Value)} {st : List Value} {S : fS} {kc ks : Nat} {x y : Int32} (hd : decode z.2.1 pc = .ok (.imul, 1)) (kk : fV G z d Q (pc + 1) ls (.int (x * y) :: st) S kc ks) : fV G z d Q pc ls (.int y :: .int x :: st) S kc ks := by
  intro p e s m args below meth c R Z H locs cells slots lsr hC hE h1 h2 h3 h4 hW hS hl
  exact lv_imul hC.1 hC.2.1 hd (kk p e s m args below meth c R Z H locs cells slots lsr hC hE h1 h2 h3 h4 hW hS hl)

theorem f_iand {G : fG} {z : fMi} {d pc : Nat} {Q : fR → fS → Prop} {ls : List (Option Value)} {st : List Value} {S : fS} {kc ks : Nat} {x y : Int32} (hd : decode z.2.1 pc = .ok (.iand, 1)) (kk : fV G z d Q (pc + 1) ls (.int (x &&& y) :: st) S kc ks) : fV G z d Q pc ls (.int y :: .int x :: st) S kc ks := by
  intro p e s m args below meth c R Z H locs cells slots lsr hC hE h1 h2 h3 h4 hW hS hl
  exact lv_iand hC.1 hC.2.1 hd (kk p e s m args below meth c R Z H locs cells slots lsr hC hE h1 h2 h3 h4 hW hS hl)

theorem f_ior {G : fG} {z : fMi} {d pc : Nat} {Q : fR → fS → Prop} {ls : List (Option Value)} {st : List Value} {S : fS} {kc ks : Nat} {x y : Int32} (hd : decode z.2.1 pc = .ok (.ior, 1)) (kk : fV G z d Q (pc + 1) ls (.int (x ||| y) :: st) S kc ks) : fV G z d Q pc ls (.int y :: .int x :: st) S kc ks := by
  intro p e s m args below meth c R Z H locs cells slots lsr hC hE h1 h2 h3 h4 hW hS hl
  exact lv_ior hC.1 hC.2.1 hd (kk p e s m args below meth c R Z H locs cells slots lsr hC hE h1 h2 h3 h4 hW hS hl)

theorem f_ixor {G : fG} {z : fMi} {d pc : Nat} {Q : fR → fS → Prop} {ls : List (Option Value)} {st : List Value} {S : fS} {kc ks : Nat} {x y : Int32} (hd : decode z.2.1 pc = .ok (.ixor, 1)) (kk : fV G z d Q (pc + 1) ls (.int (x ^^^ y) :: st) S kc ks) : fV G z d Q pc ls (.int y :: .int x :: st) S kc ks := by
  intro p e s m args below meth c R Z H locs cells slots lsr hC hE h1 h2 h3 h4 hW hS hl
  exact lv_ixor hC.1 hC.2.1 hd (kk p e s m args below meth c R Z H locs cells slots lsr hC hE h1 h2 h3 h4 hW hS hl)

theorem f_ishl {G : fG} {z : fMi} {d pc : Nat} {Q : fR → fS → Prop} {ls : List (Option Value)} {st : List Value} {S : fS} {kc ks : Nat} {x y : Int32} (hd : decode z.2.1 pc = .ok (.ishl, 1)) (kk : fV G z d Q (pc + 1) ls (.int (x <<< (y &&& 31)) :: st) S kc ks) : fV G z d Q pc ls (.int y :: .int x :: st) S kc ks := by
  intro p e s m args below meth c R Z H locs cells slots lsr hC hE h1 h2 h3 h4 hW hS hl
  exact lv_ishl hC.1 hC.2.1 hd (kk p e s m args below meth c R Z H locs cells slots lsr hC hE h1 h2 h3 h4 hW hS hl)

theorem f_ishr {G : fG} {z : fMi} {d pc : Nat} {Q : fR → fS → Prop} {ls : List (Option Value)} {st : List Value} {S : fS} {kc ks : Nat} {x y : Int32} (hd : decode z.2.1 pc = .ok (.ishr, 1)) (kk : fV G z d Q (pc + 1) ls (.int (x >>> (y &&& 31)) :: st) S kc ks) : fV G z d Q pc ls (.int y :: .int x :: st) S kc ks := by
  intro p e s m args below meth c R Z H locs cells slots lsr hC hE h1 h2 h3 h4 hW hS hl
  exact lv_ishr hC.1 hC.2.1 hd (kk p e s m args below meth c R Z H locs cells slots lsr hC hE h1 h2 h3 h4 hW hS hl)

theorem f_iushr {G : fG} {z : fMi} {d pc : Nat} {Q : fR → fS → Prop} {ls : List (Option Value)} {st : List Value} {S : fS} {kc ks : Nat} {x y v : Int32} (hd : decode z.2.1 pc = .ok (.iushr, 1)) (hv : (x.toUInt32 >>> (y.toUInt32 &&& Int32.toUInt32 31)).toInt32 = v) (kk : fV G z d Q (pc + 1) ls (.int v :: st) S kc ks) : fV G z d Q pc ls (.int y :: .int x :: st) S kc ks := by
  intro p e s m args below meth c R Z H locs cells slots lsr hC hE h1 h2 h3 h4 hW hS hl
  exact lv_iushr hC.1 hC.2.1 hd hv (kk p e s m args below meth c R Z H locs cells slots lsr hC hE h1 h2 h3 h4 hW hS hl)

theorem f_idiv {G : fG} {z : fMi} {d pc : Nat} {Q : fR → fS → Prop} {ls : List (Option Value)} {st : List Value} {S : fS} {kc ks : Nat} {x y : Int32} (hd : decode z.2.1 pc = .ok (.idiv, 1)) (hne : ¬ y = 0) (kk : fV G z d Q (pc + 1) ls (.int (x / y) :: st) S kc ks) : fV G z d Q pc ls (.int y :: .int x :: st) S kc ks := by
  intro p e s m args below meth c R Z H locs cells slots lsr hC hE h1 h2 h3 h4 hW hS hl
  exact lv_idiv hC.1 hC.2.1 hd hne (kk p e s m args below meth c R Z H locs cells slots lsr hC hE h1 h2 h3 h4 hW hS hl)

theorem f_irem {G : fG} {z : fMi} {d pc : Nat} {Q : fR → fS → Prop} {ls : List (Option Value)} {st : List Value} {S : fS} {kc ks : Nat} {x y : Int32} (hd : decode z.2.1 pc = .ok (.irem, 1)) (hne : ¬ y = 0) (kk : fV G z d Q (pc + 1) ls (.int (x - x / y * y) :: st) S kc ks) : fV G z d Q pc ls (.int y :: .int x :: st) S kc ks := by
  intro p e s m args below meth c R Z H locs cells slots lsr hC hE h1 h2 h3 h4 hW hS hl
  exact lv_irem hC.1 hC.2.1 hd hne (kk p e s m args below meth c R Z H locs cells slots lsr hC hE h1 h2 h3 h4 hW hS hl)

theorem f_i2l {G : fG} {z : fMi} {d pc : Nat} {Q : fR → fS → Prop} {ls : List (Option Value)} {st : List Value} {S : fS} {kc ks : Nat} {x : Int32} (hd : decode z.2.1 pc = .ok (.i2l, 1)) (kk : fV G z d Q (pc + 1) ls (.long x.toInt64 :: st) S kc ks) : fV G z d Q pc ls (.int x :: st) S kc ks := by
  intro p e s m args below meth c R Z H locs cells slots lsr hC hE h1 h2 h3 h4 hW hS hl
  exact lv_i2l hC.1 hC.2.1 hd rfl (kk p e s m args below meth c R Z H locs cells slots lsr hC hE h1 h2 h3 h4 hW hS hl)

theorem f_i2c {G : fG} {z : fMi} {d pc : Nat} {Q : fR → fS → Prop} {ls : List (Option Value)} {st : List Value} {S : fS} {kc ks : Nat} {x : Int32} (hd : decode z.2.1 pc = .ok (.i2c, 1)) (kk : fV G z d Q (pc + 1) ls (.int (x.toUInt32 % 65536).toInt32 :: st) S kc ks) : fV G z d Q pc ls (.int x :: st) S kc ks := by
  intro p e s m args below meth c R Z H locs cells slots lsr hC hE h1 h2 h3 h4 hW hS hl
  exact lv_i2c hC.1 hC.2.1 hd rfl (kk p e s m args below meth c R Z H locs cells slots lsr hC hE h1 h2 h3 h4 hW hS hl)

theorem f_i2f {G : fG} {z : fMi} {d pc : Nat} {Q : fR → fS → Prop} {ls : List (Option Value)} {st : List Value} {S : fS} {kc ks : Nat} {x : Int32} (hd : decode z.2.1 pc = .ok (.i2f, 1)) (kk : fV G z d Q (pc + 1) ls (.float (FP.i2f x) :: st) S kc ks) : fV G z d Q pc ls (.int x :: st) S kc ks := by
  intro p e s m args below meth c R Z H locs cells slots lsr hC hE h1 h2 h3 h4 hW hS hl
  exact lv_i2f hC.1 hC.2.1 hd (kk p e s m args below meth c R Z H locs cells slots lsr hC hE h1 h2 h3 h4 hW hS hl)

theorem f_i2d {G : fG} {z : fMi} {d pc : Nat} {Q : fR → fS → Prop} {ls : List (Option Value)} {st : List Value} {S : fS} {kc ks : Nat} {x : Int32} (hd : decode z.2.1 pc = .ok (.i2d, 1)) (kk : fV G z d Q (pc + 1) ls (.double (FP.i2d x) :: st) S kc ks) : fV G z d Q pc ls (.int x :: st) S kc ks := by
  intro p e s m args below meth c R Z H locs cells slots lsr hC hE h1 h2 h3 h4 hW hS hl
  exact lv_i2d hC.1 hC.2.1 hd (kk p e s m args below meth c R Z H locs cells slots lsr hC hE h1 h2 h3 h4 hW hS hl)

theorem f_f2d {G : fG} {z : fMi} {d pc : Nat} {Q : fR → fS → Prop} {ls : List (Option Value)} {st : List Value} {S : fS} {kc ks : Nat} {x : UInt32} (hd : decode z.2.1 pc = .ok (.f2d, 1)) (hne : vf_n64 (FP.f2d x)) (kk : fV G z d Q (pc + 1) ls (.double (FP.f2d x) :: st) S kc ks) : fV G z d Q pc ls (.float x :: st) S kc ks := by
  intro p e s m args below meth c R Z H locs cells slots lsr hC hE h1 h2 h3 h4 hW hS hl
  exact lv_f2d hC.1 hC.2.1 hd hne (kk p e s m args below meth c R Z H locs cells slots lsr hC hE h1 h2 h3 h4 hW hS hl)

theorem f_fdiv {G : fG} {z : fMi} {d pc : Nat} {Q : fR → fS → Prop} {ls : List (Option Value)} {st : List Value} {S : fS} {kc ks : Nat} {x y : UInt32} (hd : decode z.2.1 pc = .ok (.fdiv, 1)) (hne : vf_n32 (FP.fdiv x y)) (kk : fV G z d Q (pc + 1) ls (.float (FP.fdiv x y) :: st) S kc ks) : fV G z d Q pc ls (.float y :: .float x :: st) S kc ks := by
  intro p e s m args below meth c R Z H locs cells slots lsr hC hE h1 h2 h3 h4 hW hS hl
  exact lv_fdiv hC.1 hC.2.1 hd hne (kk p e s m args below meth c R Z H locs cells slots lsr hC hE h1 h2 h3 h4 hW hS hl)

theorem f_ddiv {G : fG} {z : fMi} {d pc : Nat} {Q : fR → fS → Prop} {ls : List (Option Value)} {st : List Value} {S : fS} {kc ks : Nat} {x y : UInt64} (hd : decode z.2.1 pc = .ok (.ddiv, 1)) (hne : vf_n64 (FP.ddiv x y)) (kk : fV G z d Q (pc + 1) ls (.double (FP.ddiv x y) :: st) S kc ks) : fV G z d Q pc ls (.double y :: .double x :: st) S kc ks := by
  intro p e s m args below meth c R Z H locs cells slots lsr hC hE h1 h2 h3 h4 hW hS hl
  exact lv_ddiv hC.1 hC.2.1 hd hne (kk p e s m args below meth c R Z H locs cells slots lsr hC hE h1 h2 h3 h4 hW hS hl)

theorem f_dcmp {G : fG} {z : fMi} {d pc : Nat} {Q : fR → fS → Prop} {ls : List (Option Value)} {st : List Value} {S : fS} {kc ks : Nat} {x y : UInt64} {op : CmpOp} (hd : decode z.2.1 pc = .ok (.dcmp op, 1)) (kk : fV G z d Q (pc + 1) ls (.int (Op.cmpValue (FP.dcmp x y) op) :: st) S kc ks) : fV G z d Q pc ls (.double y :: .double x :: st) S kc ks := by
  intro p e s m args below meth c R Z H locs cells slots lsr hC hE h1 h2 h3 h4 hW hS hl
  exact lv_dcmp hC.1 hC.2.1 hd (kk p e s m args below meth c R Z H locs cells slots lsr hC hE h1 h2 h3 h4 hW hS hl)

theorem f_fcmp {G : fG} {z : fMi} {d pc : Nat} {Q : fR → fS → Prop} {ls : List (Option Value)} {st : List Value} {S : fS} {kc ks : Nat} {x y : UInt32} {op : CmpOp} (hd : decode z.2.1 pc = .ok (.fcmp op, 1)) (kk : fV G z d Q (pc + 1) ls (.int (Op.cmpValue (FP.fcmp x y) op) :: st) S kc ks) : fV G z d Q pc ls (.float y :: .float x :: st) S kc ks := by
  intro p e s m args below meth c R Z H locs cells slots lsr hC hE h1 h2 h3 h4 hW hS hl
  exact lv_fcmp hC.1 hC.2.1 hd (kk p e s m args below meth c R Z H locs cells slots lsr hC hE h1 h2 h3 h4 hW hS hl)

theorem f_lcmp {G : fG} {z : fMi} {d pc : Nat} {Q : fR → fS → Prop} {ls : List (Option Value)} {st : List Value} {S : fS} {kc ks : Nat} {x y : Int64} (hd : decode z.2.1 pc = .ok (.lcmp, 1)) (kk : fV G z d Q (pc + 1) ls (.int (lg_cmp x y) :: st) S kc ks) : fV G z d Q pc ls (.long y :: .long x :: st) S kc ks := by
  intro p e s m args below meth c R Z H locs cells slots lsr hC hE h1 h2 h3 h4 hW hS hl
  exact W.lcmp hC.1 hC.2.1 hd (kk p e s m args below meth c R Z H locs cells slots lsr hC hE h1 h2 h3 h4 hW hS hl)

theorem f_dup {G : fG} {z : fMi} {d pc : Nat} {Q : fR → fS → Prop} {ls : List (Option Value)} {st : List Value} {S : fS} {kc ks : Nat} {v : Value} (hd : decode z.2.1 pc = .ok (.dup, 1)) (hv : v.category = 1) (kk : fV G z d Q (pc + 1) ls (v :: v :: st) S kc ks) : fV G z d Q pc ls (v :: st) S kc ks := by
  intro p e s m args below meth c R Z H locs cells slots lsr hC hE h1 h2 h3 h4 hW hS hl
  exact lv_dup hC.1 hC.2.1 hd (frl_cat.trans hv) (kk p e s m args below meth c R Z H locs cells slots lsr hC hE h1 h2 h3 h4 hW hS hl)

theorem f_dup2 {G : fG} {z : fMi} {d pc : Nat} {Q : fR → fS → Prop} {ls : List (Option Value)} {st : List Value} {S : fS} {kc ks : Nat} {v w : Value} (hd : decode z.2.1 pc = .ok (.dup2, 1)) (hv : v.category = 1) (hw : w.category = 1) (kk : fV G z d Q (pc + 1) ls (v :: w :: v :: w :: st) S kc ks) : fV G z d Q pc ls (v :: w :: st) S kc ks := by
  intro p e s m args below meth c R Z H locs cells slots lsr hC hE h1 h2 h3 h4 hW hS hl
  exact lv_dup2_11 hC.1 hC.2.1 hd (frl_cat.trans hv) (frl_cat.trans hw) (kk p e s m args below meth c R Z H locs cells slots lsr hC hE h1 h2 h3 h4 hW hS hl)

theorem f_pop {G : fG} {z : fMi} {d pc : Nat} {Q : fR → fS → Prop} {ls : List (Option Value)} {st : List Value} {S : fS} {kc ks : Nat} {v : Value} (hd : decode z.2.1 pc = .ok (.pop, 1)) (hv : v.category = 1) (kk : fV G z d Q (pc + 1) ls (st) S kc ks) : fV G z d Q pc ls (v :: st) S kc ks := by
  intro p e s m args below meth c R Z H locs cells slots lsr hC hE h1 h2 h3 h4 hW hS hl
  exact lv_pop hC.1 hC.2.1 hd (frl_cat.trans hv) (kk p e s m args below meth c R Z H locs cells slots lsr hC hE h1 h2 h3 h4 hW hS hl)

theorem f_goto {G : fG} {z : fMi} {d pc : Nat} {Q : fR → fS → Prop} {ls : List (Option Value)} {st : List Value} {S : fS} {kc ks : Nat} {off : Int} {tgt : Nat} (hd : decode z.2.1 pc = .ok (.goto off, 3)) (ht : (pc : Int) + off = (tgt : Int)) (kk : fV G z d Q (tgt) ls (st) S kc ks) : fV G z d Q pc ls (st) S kc ks := by
  intro p e s m args below meth c R Z H locs cells slots lsr hC hE h1 h2 h3 h4 hW hS hl
  exact lv_goto hC.1 hC.2.1 hd ht (kk p e s m args below meth c R Z H locs cells slots lsr hC hE h1 h2 h3 h4 hW hS hl)

theorem f_ifnull {G : fG} {z : fMi} {d pc : Nat} {Q : fR → fS → Prop} {ls : List (Option Value)} {st : List Value} {S : fS} {kc ks : Nat} {k : Nat} {off : Int} (hd : decode z.2.1 pc = .ok (.ifnull off, 3)) (kk : fV G z d Q (pc + 3) ls (st) S kc ks) : fV G z d Q pc ls (.ref k :: st) S kc ks := by
  intro p e s m args below meth c R Z H locs cells slots lsr hC hE h1 h2 h3 h4 hW hS hl
  exact lv_ifnull hC.1 hC.2.1 hd (kk p e s m args below meth c R Z H locs cells slots lsr hC hE h1 h2 h3 h4 hW hS hl)

theorem f_ifnullN {G : fG} {z : fMi} {d pc : Nat} {Q : fR → fS → Prop} {ls : List (Option Value)} {st : List Value} {S : fS} {kc ks : Nat} {off : Int} {tgt : Nat} (hd : decode z.2.1 pc = .ok (.ifnull off, 3)) (ht : (pc : Int) + off = (tgt : Int)) (kk : fV G z d Q (tgt) ls (st) S kc ks) : fV G z d Q pc ls (.null :: st) S kc ks := by
  intro p e s m args below meth c R Z H locs cells slots lsr hC hE h1 h2 h3 h4 hW hS hl
  exact lv_ifnullN hC.1 hC.2.1 hd ht (kk p e s m args below meth c R Z H locs cells slots lsr hC hE h1 h2 h3 h4 hW hS hl)

theorem f_ldc {G : fG} {z : fMi} {d pc : Nat} {Q : fR → fS → Prop} {ls : List (Option Value)} {st : List Value} {S : fS} {kc ks : Nat} (hG : fOK G) {i : Nat} {v : Int32} (hw : Jvm.Cond.constant z.1.cls i v ∈ lw_tbl ∧ goodWord (Jvm.Cond.constant z.1.cls i v) = true) (hd : decode z.2.1 pc = .ok (.ldc i, 2)) (kk : fV G z d Q (pc + 2) ls (.int v :: st) S kc ks) : fV G z d Q pc ls (st) S kc ks := by
  intro p e s m args below meth c R Z H locs cells slots lsr hC hE h1 h2 h3 h4 hW hS hl
  exact lv_ldc hC.1 hC.2.1 hC.2.2.2.2.1 (f_word hG hC.2.2.2.2.2.2.2.2 hw.1 hw.2 args) hd (kk p e s m args below meth c R Z H locs cells slots lsr hC hE h1 h2 h3 h4 hW hS hl)

theorem f_ldcw {G : fG} {z : fMi} {d pc : Nat} {Q : fR → fS → Prop} {ls : List (Option Value)} {st : List Value} {S : fS} {kc ks : Nat} (hG : fOK G) {i : Nat} {v : Int32} (hw : Jvm.Cond.constant z.1.cls i v ∈ lw_tbl ∧ goodWord (Jvm.Cond.constant z.1.cls i v) = true) (hd : decode z.2.1 pc = .ok (.ldc_w i, 3)) (kk : fV G z d Q (pc + 3) ls (.int v :: st) S kc ks) : fV G z d Q pc ls (st) S kc ks := by
  intro p e s m args below meth c R Z H locs cells slots lsr hC hE h1 h2 h3 h4 hW hS hl
  exact lv_ldcw hC.1 hC.2.1 hC.2.2.2.2.1 (f_word hG hC.2.2.2.2.2.2.2.2 hw.1 hw.2 args) hd (kk p e s m args below meth c R Z H locs cells slots lsr hC hE h1 h2 h3 h4 hW hS hl)

theorem f_iload_n {G : fG} {z : fMi} {d pc : Nat} {Q : fR → fS → Prop} {ls : List (Option Value)} {st : List Value} {S : fS} {kc ks : Nat} {k : Fin 4} {i : Nat} {x : Int32} (hd : decode z.2.1 pc = .ok (.iload_n k, 1)) (hi : (k : Nat) = i) (hv : ls[i]? = some (some (.int x))) (kk : fV G z d Q (pc + 1) ls (.int x :: st) S kc ks) : fV G z d Q pc ls (st) S kc ks := by
  intro p e s m args below meth c R Z H locs cells slots lsr hC hE h1 h2 h3 h4 hW hS hl
  exact lv_iload_n hC.1 hC.2.1 hd hi (flv_at hl hv) (kk p e s m args below meth c R Z H locs cells slots lsr hC hE h1 h2 h3 h4 hW hS hl)

theorem f_iload {G : fG} {z : fMi} {d pc : Nat} {Q : fR → fS → Prop} {ls : List (Option Value)} {st : List Value} {S : fS} {kc ks : Nat} {i : Nat} {x : Int32} (hd : decode z.2.1 pc = .ok (.iload i, 2)) (hv : ls[i]? = some (some (.int x))) (kk : fV G z d Q (pc + 2) ls (.int x :: st) S kc ks) : fV G z d Q pc ls (st) S kc ks := by
  intro p e s m args below meth c R Z H locs cells slots lsr hC hE h1 h2 h3 h4 hW hS hl
  exact lv_iload hC.1 hC.2.1 hd (flv_at hl hv) (kk p e s m args below meth c R Z H locs cells slots lsr hC hE h1 h2 h3 h4 hW hS hl)

theorem f_aload_n {G : fG} {z : fMi} {d pc : Nat} {Q : fR → fS → Prop} {ls : List (Option Value)} {st : List Value} {S : fS} {kc ks : Nat} {k : Fin 4} {i : Nat} {x : Nat} (hd : decode z.2.1 pc = .ok (.aload_n k, 1)) (hi : (k : Nat) = i) (hv : ls[i]? = some (some (.ref x))) (kk : fV G z d Q (pc + 1) ls (.ref x :: st) S kc ks) : fV G z d Q pc ls (st) S kc ks := by
  intro p e s m args below meth c R Z H locs cells slots lsr hC hE h1 h2 h3 h4 hW hS hl
  exact lv_aload_n hC.1 hC.2.1 hd hi (flv_at hl hv) (kk p e s m args below meth c R Z H locs cells slots lsr hC hE h1 h2 h3 h4 hW hS hl)

theorem f_aload {G : fG} {z : fMi} {d pc : Nat} {Q : fR → fS → Prop} {ls : List (Option Value)} {st : List Value} {S : fS} {kc ks : Nat} {i : Nat} {x : Nat} (hd : decode z.2.1 pc = .ok (.aload i, 2)) (hv : ls[i]? = some (some (.ref x))) (kk : fV G z d Q (pc + 2) ls (.ref x :: st) S kc ks) : fV G z d Q pc ls (st) S kc ks := by
  intro p e s m args below meth c R Z H locs cells slots lsr hC hE h1 h2 h3 h4 hW hS hl
  exact lv_aload hC.1 hC.2.1 hd (flv_at hl hv) (kk p e s m args below meth c R Z H locs cells slots lsr hC hE h1 h2 h3 h4 hW hS hl)

theorem f_fload_n {G : fG} {z : fMi} {d pc : Nat} {Q : fR → fS → Prop} {ls : List (Option Value)} {st : List Value} {S : fS} {kc ks : Nat} {k : Fin 4} {i : Nat} {x : UInt32} (hd : decode z.2.1 pc = .ok (.fload_n k, 1)) (hi : (k : Nat) = i) (hv : ls[i]? = some (some (.float x))) (kk : fV G z d Q (pc + 1) ls (.float x :: st) S kc ks) : fV G z d Q pc ls (st) S kc ks := by
  intro p e s m args below meth c R Z H locs cells slots lsr hC hE h1 h2 h3 h4 hW hS hl
  exact lv_fload_n hC.1 hC.2.1 hd hi (flv_at hl hv) (kk p e s m args below meth c R Z H locs cells slots lsr hC hE h1 h2 h3 h4 hW hS hl)

theorem f_fload {G : fG} {z : fMi} {d pc : Nat} {Q : fR → fS → Prop} {ls : List (Option Value)} {st : List Value} {S : fS} {kc ks : Nat} {i : Nat} {x : UInt32} (hd : decode z.2.1 pc = .ok (.fload i, 2)) (hv : ls[i]? = some (some (.float x))) (kk : fV G z d Q (pc + 2) ls (.float x :: st) S kc ks) : fV G z d Q pc ls (st) S kc ks := by
  intro p e s m args below meth c R Z H locs cells slots lsr hC hE h1 h2 h3 h4 hW hS hl
  exact lv_fload hC.1 hC.2.1 hd (flv_at hl hv) (kk p e s m args below meth c R Z H locs cells slots lsr hC hE h1 h2 h3 h4 hW hS hl)

theorem f_dload_n {G : fG} {z : fMi} {d pc : Nat} {Q : fR → fS → Prop} {ls : List (Option Value)} {st : List Value} {S : fS} {kc ks : Nat} {k : Fin 4} {i : Nat} {x : UInt64} (hd : decode z.2.1 pc = .ok (.dload_n k, 1)) (hi : (k : Nat) = i) (hv : ls[i]? = some (some (.double x))) (kk : fV G z d Q (pc + 1) ls (.double x :: st) S kc ks) : fV G z d Q pc ls (st) S kc ks := by
  intro p e s m args below meth c R Z H locs cells slots lsr hC hE h1 h2 h3 h4 hW hS hl
  exact lv_dload_n hC.1 hC.2.1 hd hi (flv_at hl hv) (kk p e s m args below meth c R Z H locs cells slots lsr hC hE h1 h2 h3 h4 hW hS hl)

theorem f_dload {G : fG} {z : fMi} {d pc : Nat} {Q : fR → fS → Prop} {ls : List (Option Value)} {st : List Value} {S : fS} {kc ks : Nat} {i : Nat} {x : UInt64} (hd : decode z.2.1 pc = .ok (.dload i, 2)) (hv : ls[i]? = some (some (.double x))) (kk : fV G z d Q (pc + 2) ls (.double x :: st) S kc ks) : fV G z d Q pc ls (st) S kc ks := by
  intro p e s m args below meth c R Z H locs cells slots lsr hC hE h1 h2 h3 h4 hW hS hl
  exact lv_dload hC.1 hC.2.1 hd (flv_at hl hv) (kk p e s m args below meth c R Z H locs cells slots lsr hC hE h1 h2 h3 h4 hW hS hl)

theorem f_istore_n {G : fG} {z : fMi} {d pc : Nat} {Q : fR → fS → Prop} {ls : List (Option Value)} {st : List Value} {S : fS} {kc ks : Nat} {k : Fin 4} {i : Nat} {x : Int32} {ls' : List (Option Value)} (hd : decode z.2.1 pc = .ok (.istore_n k, 1)) (hi : (k : Nat) = i) (hn : i < z.2.2.1) (hw : fnw ls i = true) (he : ls.set i (some (.int x)) = ls') (kk : fV G z d Q (pc + 1) ls' st S kc ks) : fV G z d Q pc ls (.int x :: st) S kc ks := by
  intro p e s m args below meth c R Z H locs cells slots lsr hC hE h1 h2 h3 h4 hW hS hl
  subst he
  exact lv_istore_n hC.1 hC.2.1 hd hi hl hn rfl (fun lsr2 hl2 => kk p e s m args below meth c R Z H locs cells slots lsr2 hC hE h1 h2 h3 h4 hW hS (flv_store hl2 hw))

theorem f_istore {G : fG} {z : fMi} {d pc : Nat} {Q : fR → fS → Prop} {ls : List (Option Value)} {st : List Value} {S : fS} {kc ks : Nat} {i : Nat} {x : Int32} {ls' : List (Option Value)} (hd : decode z.2.1 pc = .ok (.istore i, 2)) (hn : i < z.2.2.1) (hw : fnw ls i = true) (he : ls.set i (some (.int x)) = ls') (kk : fV G z d Q (pc + 2) ls' st S kc ks) : fV G z d Q pc ls (.int x :: st) S kc ks := by
  intro p e s m args below meth c R Z H locs cells slots lsr hC hE h1 h2 h3 h4 hW hS hl
  subst he
  exact lv_istore hC.1 hC.2.1 hd hl hn rfl (fun lsr2 hl2 => kk p e s m args below meth c R Z H locs cells slots lsr2 hC hE h1 h2 h3 h4 hW hS (flv_store hl2 hw))

theorem f_astore_n {G : fG} {z : fMi} {d pc : Nat} {Q : fR → fS → Prop} {ls : List (Option Value)} {st : List Value} {S : fS} {kc ks : Nat} {k : Fin 4} {i : Nat} {x : Nat} {ls' : List (Option Value)} (hd : decode z.2.1 pc = .ok (.astore_n k, 1)) (hi : (k : Nat) = i) (hn : i < z.2.2.1) (hw : fnw ls i = true) (he : ls.set i (some (.ref x)) = ls') (kk : fV G z d Q (pc + 1) ls' st S kc ks) : fV G z d Q pc ls (.ref x :: st) S kc ks := by
  intro p e s m args below meth c R Z H locs cells slots lsr hC hE h1 h2 h3 h4 hW hS hl
  subst he
  exact lv_astore_n hC.1 hC.2.1 hd hi hl hn rfl (fun lsr2 hl2 => kk p e s m args below meth c R Z H locs cells slots lsr2 hC hE h1 h2 h3 h4 hW hS (flv_store hl2 hw))

theorem f_astore {G : fG} {z : fMi} {d pc : Nat} {Q : fR → fS → Prop} {ls : List (Option Value)} {st : List Value} {S : fS} {kc ks : Nat} {i : Nat} {x : Nat} {ls' : List (Option Value)} (hd : decode z.2.1 pc = .ok (.astore i, 2)) (hn : i < z.2.2.1) (hw : fnw ls i = true) (he : ls.set i (some (.ref x)) = ls') (kk : fV G z d Q (pc + 2) ls' st S kc ks) : fV G z d Q pc ls (.ref x :: st) S kc ks := by
  intro p e s m args below meth c R Z H locs cells slots lsr hC hE h1 h2 h3 h4 hW hS hl
  subst he
  exact lv_astore hC.1 hC.2.1 hd hl hn rfl (fun lsr2 hl2 => kk p e s m args below meth c R Z H locs cells slots lsr2 hC hE h1 h2 h3 h4 hW hS (flv_store hl2 hw))

theorem f_fstore_n {G : fG} {z : fMi} {d pc : Nat} {Q : fR → fS → Prop} {ls : List (Option Value)} {st : List Value} {S : fS} {kc ks : Nat} {k : Fin 4} {i : Nat} {x : UInt32} {ls' : List (Option Value)} (hd : decode z.2.1 pc = .ok (.fstore_n k, 1)) (hi : (k : Nat) = i) (hn : i < z.2.2.1) (hw : fnw ls i = true) (he : ls.set i (some (.float x)) = ls') (kk : fV G z d Q (pc + 1) ls' st S kc ks) : fV G z d Q pc ls (.float x :: st) S kc ks := by
  intro p e s m args below meth c R Z H locs cells slots lsr hC hE h1 h2 h3 h4 hW hS hl
  subst he
  exact lv_fstore_n hC.1 hC.2.1 hd hi hl hn rfl (fun lsr2 hl2 => kk p e s m args below meth c R Z H locs cells slots lsr2 hC hE h1 h2 h3 h4 hW hS (flv_store hl2 hw))

theorem f_fstore {G : fG} {z : fMi} {d pc : Nat} {Q : fR → fS → Prop} {ls : List (Option Value)} {st : List Value} {S : fS} {kc ks : Nat} {i : Nat} {x : UInt32} {ls' : List (Option Value)} (hd : decode z.2.1 pc = .ok (.fstore i, 2)) (hn : i < z.2.2.1) (hw : fnw ls i = true) (he : ls.set i (some (.float x)) = ls') (kk : fV G z d Q (pc + 2) ls' st S kc ks) : fV G z d Q pc ls (.float x :: st) S kc ks := by
  intro p e s m args below meth c R Z H locs cells slots lsr hC hE h1 h2 h3 h4 hW hS hl
  subst he
  exact lv_fstore hC.1 hC.2.1 hd hl hn rfl (fun lsr2 hl2 => kk p e s m args below meth c R Z H locs cells slots lsr2 hC hE h1 h2 h3 h4 hW hS (flv_store hl2 hw))

theorem f_iinc {G : fG} {z : fMi} {d pc : Nat} {Q : fR → fS → Prop} {ls : List (Option Value)} {st : List Value} {S : fS} {kc ks : Nat} {i : Nat} {n : Int} {x v : Int32} {ls' : List (Option Value)} (hd : decode z.2.1 pc = .ok (.iinc i n, 3)) (hx : ls[i]? = some (some (.int x))) (hv : x + Int32.ofInt n = v) (hn : i < z.2.2.1) (hw : fnw ls i = true) (he : ls.set i (some (.int v)) = ls') (kk : fV G z d Q (pc + 3) ls' st S kc ks) : fV G z d Q pc ls st S kc ks := by
  intro p e s m args below meth c R Z H locs cells slots lsr hC hE h1 h2 h3 h4 hW hS hl
  subst he
  have hm := flv_get (G := G) ls 0 i _ hx
  rw [Nat.zero_add] at hm
  obtain ⟨k, hk⟩ := List.getElem?_of_mem hm
  exact lv_iinc hC.1 hC.2.1 hd hl (k := k) hk hv hn rfl (fun lsr2 hl2 => kk p e s m args below meth c R Z H locs cells slots lsr2 hC hE h1 h2 h3 h4 hW hS (flv_store hl2 hw))

theorem f_if_eq {G : fG} {z : fMi} {d pc : Nat} {Q : fR → fS → Prop} {ls : List (Option Value)} {st : List Value} {S : fS} {kc ks : Nat} {x : Int32} {off : Int} {tgt : Nat} (hd : decode z.2.1 pc = .ok (.ifCond .eq off, 3)) (ht : (pc : Int) + off = (tgt : Int)) (kt : x = 0 → fV G z d Q tgt ls st S kc ks) (kf : ¬ x = 0 → fV G z d Q (pc + 3) ls st S kc ks) : fV G z d Q pc ls (.int x :: st) S kc ks := by
  intro p e s m args below meth c R Z H locs cells slots lsr hC hE h1 h2 h3 h4 hW hS hl
  exact lv_if_eq hC.1 hC.2.1 hd ht (fun q => kt q p e s m args below meth c R Z H locs cells slots lsr hC hE h1 h2 h3 h4 hW hS hl) (fun q => kf q p e s m args below meth c R Z H locs cells slots lsr hC hE h1 h2 h3 h4 hW hS hl)

theorem f_if_ne {G : fG} {z : fMi} {d pc : Nat} {Q : fR → fS → Prop} {ls : List (Option Value)} {st : List Value} {S : fS} {kc ks : Nat} {x : Int32} {off : Int} {tgt : Nat} (hd : decode z.2.1 pc = .ok (.ifCond .ne off, 3)) (ht : (pc : Int) + off = (tgt : Int)) (kt : ¬ x = 0 → fV G z d Q tgt ls st S kc ks) (kf : x = 0 → fV G z d Q (pc + 3) ls st S kc ks) : fV G z d Q pc ls (.int x :: st) S kc ks := by
  intro p e s m args below meth c R Z H locs cells slots lsr hC hE h1 h2 h3 h4 hW hS hl
  exact lv_if_ne hC.1 hC.2.1 hd ht (fun q => kt q p e s m args below meth c R Z H locs cells slots lsr hC hE h1 h2 h3 h4 hW hS hl) (fun q => kf q p e s m args below meth c R Z H locs cells slots lsr hC hE h1 h2 h3 h4 hW hS hl)

theorem f_if_lt {G : fG} {z : fMi} {d pc : Nat} {Q : fR → fS → Prop} {ls : List (Option Value)} {st : List Value} {S : fS} {kc ks : Nat} {x : Int32} {off : Int} {tgt : Nat} (hd : decode z.2.1 pc = .ok (.ifCond .lt off, 3)) (ht : (pc : Int) + off = (tgt : Int)) (kt : x < 0 → fV G z d Q tgt ls st S kc ks) (kf : ¬ x < 0 → fV G z d Q (pc + 3) ls st S kc ks) : fV G z d Q pc ls (.int x :: st) S kc ks := by
  intro p e s m args below meth c R Z H locs cells slots lsr hC hE h1 h2 h3 h4 hW hS hl
  exact lv_if_lt hC.1 hC.2.1 hd ht (fun q => kt q p e s m args below meth c R Z H locs cells slots lsr hC hE h1 h2 h3 h4 hW hS hl) (fun q => kf q p e s m args below meth c R Z H locs cells slots lsr hC hE h1 h2 h3 h4 hW hS hl)

theorem f_if_ge {G : fG} {z : fMi} {d pc : Nat} {Q : fR → fS → Prop} {ls : List (Option Value)} {st : List Value} {S : fS} {kc ks : Nat} {x : Int32} {off : Int} {tgt : Nat} (hd : decode z.2.1 pc = .ok (.ifCond .ge off, 3)) (ht : (pc : Int) + off = (tgt : Int)) (kt : 0 ≤ x → fV G z d Q tgt ls st S kc ks) (kf : ¬ 0 ≤ x → fV G z d Q (pc + 3) ls st S kc ks) : fV G z d Q pc ls (.int x :: st) S kc ks := by
  intro p e s m args below meth c R Z H locs cells slots lsr hC hE h1 h2 h3 h4 hW hS hl
  exact lv_if_ge hC.1 hC.2.1 hd ht (fun q => kt q p e s m args below meth c R Z H locs cells slots lsr hC hE h1 h2 h3 h4 hW hS hl) (fun q => kf q p e s m args below meth c R Z H locs cells slots lsr hC hE h1 h2 h3 h4 hW hS hl)

theorem f_if_gt {G : fG} {z : fMi} {d pc : Nat} {Q : fR → fS → Prop} {ls : List (Option Value)} {st : List Value} {S : fS} {kc ks : Nat} {x : Int32} {off : Int} {tgt : Nat} (hd : decode z.2.1 pc = .ok (.ifCond .gt off, 3)) (ht : (pc : Int) + off = (tgt : Int)) (kt : 0 < x → fV G z d Q tgt ls st S kc ks) (kf : ¬ 0 < x → fV G z d Q (pc + 3) ls st S kc ks) : fV G z d Q pc ls (.int x :: st) S kc ks := by
  intro p e s m args below meth c R Z H locs cells slots lsr hC hE h1 h2 h3 h4 hW hS hl
  exact lv_if_gt hC.1 hC.2.1 hd ht (fun q => kt q p e s m args below meth c R Z H locs cells slots lsr hC hE h1 h2 h3 h4 hW hS hl) (fun q => kf q p e s m args below meth c R Z H locs cells slots lsr hC hE h1 h2 h3 h4 hW hS hl)

theorem f_if_le {G : fG} {z : fMi} {d pc : Nat} {Q : fR → fS → Prop} {ls : List (Option Value)} {st : List Value} {S : fS} {kc ks : Nat} {x : Int32} {off : Int} {tgt : Nat} (hd : decode z.2.1 pc = .ok (.ifCond .le off, 3)) (ht : (pc : Int) + off = (tgt : Int)) (kt : x ≤ 0 → fV G z d Q tgt ls st S kc ks) (kf : ¬ x ≤ 0 → fV G z d Q (pc + 3) ls st S kc ks) : fV G z d Q pc ls (.int x :: st) S kc ks := by
  intro p e s m args below meth c R Z H locs cells slots lsr hC hE h1 h2 h3 h4 hW hS hl
  exact lv_if_le hC.1 hC.2.1 hd ht (fun q => kt q p e s m args below meth c R Z H locs cells slots lsr hC hE h1 h2 h3 h4 hW hS hl) (fun q => kf q p e s m args below meth c R Z H locs cells slots lsr hC hE h1 h2 h3 h4 hW hS hl)

theorem f_icmp_eq {G : fG} {z : fMi} {d pc : Nat} {Q : fR → fS → Prop} {ls : List (Option Value)} {st : List Value} {S : fS} {kc ks : Nat} {x y : Int32} {off : Int} {tgt : Nat} (hd : decode z.2.1 pc = .ok (.if_icmp .eq off, 3)) (ht : (pc : Int) + off = (tgt : Int)) (kt : x = y → fV G z d Q tgt ls st S kc ks) (kf : ¬ x = y → fV G z d Q (pc + 3) ls st S kc ks) : fV G z d Q pc ls (.int y :: .int x :: st) S kc ks := by
  intro p e s m args below meth c R Z H locs cells slots lsr hC hE h1 h2 h3 h4 hW hS hl
  exact lv_icmp_eq hC.1 hC.2.1 hd ht (fun q => kt q p e s m args below meth c R Z H locs cells slots lsr hC hE h1 h2 h3 h4 hW hS hl) (fun q => kf q p e s m args below meth c R Z H locs cells slots lsr hC hE h1 h2 h3 h4 hW hS hl)

theorem f_icmp_ne {G : fG} {z : fMi} {d pc : Nat} {Q : fR → fS → Prop} {ls : List (Option Value)} {st : List Value} {S : fS} {kc ks : Nat} {x y : Int32} {off : Int} {tgt : Nat} (hd : decode z.2.1 pc = .ok (.if_icmp .ne off, 3)) (ht : (pc : Int) + off = (tgt : Int)) (kt : ¬ x = y → fV G z d Q tgt ls st S kc ks) (kf : x = y → fV G z d Q (pc + 3) ls st S kc ks) : fV G z d Q pc ls (.int y :: .int x :: st) S kc ks := by
  intro p e s m args below meth c R Z H locs cells slots lsr hC hE h1 h2 h3 h4 hW hS hl
  exact lv_icmp_ne hC.1 hC.2.1 hd ht (fun q => kt q p e s m args below meth c R Z H locs cells slots lsr hC hE h1 h2 h3 h4 hW hS hl) (fun q => kf q p e s m args below meth c R Z H locs cells slots lsr hC hE h1 h2 h3 h4 hW hS hl)

theorem f_icmp_lt {G : fG} {z : fMi} {d pc : Nat} {Q : fR → fS → Prop} {ls : List (Option Value)} {st : List Value} {S : fS} {kc ks : Nat} {x y : Int32} {off : Int} {tgt : Nat} (hd : decode z.2.1 pc = .ok (.if_icmp .lt off, 3)) (ht : (pc : Int) + off = (tgt : Int)) (kt : x < y → fV G z d Q tgt ls st S kc ks) (kf : ¬ x < y → fV G z d Q (pc + 3) ls st S kc ks) : fV G z d Q pc ls (.int y :: .int x :: st) S kc ks := by
  intro p e s m args below meth c R Z H locs cells slots lsr hC hE h1 h2 h3 h4 hW hS hl
  exact lv_icmp_lt hC.1 hC.2.1 hd ht (fun q => kt q p e s m args below meth c R Z H locs cells slots lsr hC hE h1 h2 h3 h4 hW hS hl) (fun q => kf q p e s m args below meth c R Z H locs cells slots lsr hC hE h1 h2 h3 h4 hW hS hl)

theorem f_icmp_ge {G : fG} {z : fMi} {d pc : Nat} {Q : fR → fS → Prop} {ls : List (Option Value)} {st : List Value} {S : fS} {kc ks : Nat} {x y : Int32} {off : Int} {tgt : Nat} (hd : decode z.2.1 pc = .ok (.if_icmp .ge off, 3)) (ht : (pc : Int) + off = (tgt : Int)) (kt : y ≤ x → fV G z d Q tgt ls st S kc ks) (kf : ¬ y ≤ x → fV G z d Q (pc + 3) ls st S kc ks) : fV G z d Q pc ls (.int y :: .int x :: st) S kc ks := by
  intro p e s m args below meth c R Z H locs cells slots lsr hC hE h1 h2 h3 h4 hW hS hl
  exact lv_icmp_ge hC.1 hC.2.1 hd ht (fun q => kt q p e s m args below meth c R Z H locs cells slots lsr hC hE h1 h2 h3 h4 hW hS hl) (fun q => kf q p e s m args below meth c R Z H locs cells slots lsr hC hE h1 h2 h3 h4 hW hS hl)

theorem f_icmp_gt {G : fG} {z : fMi} {d pc : Nat} {Q : fR → fS → Prop} {ls : List (Option Value)} {st : List Value} {S : fS} {kc ks : Nat} {x y : Int32} {off : Int} {tgt : Nat} (hd : decode z.2.1 pc = .ok (.if_icmp .gt off, 3)) (ht : (pc : Int) + off = (tgt : Int)) (kt : y < x → fV G z d Q tgt ls st S kc ks) (kf : ¬ y < x → fV G z d Q (pc + 3) ls st S kc ks) : fV G z d Q pc ls (.int y :: .int x :: st) S kc ks := by
  intro p e s m args below meth c R Z H locs cells slots lsr hC hE h1 h2 h3 h4 hW hS hl
  exact lv_icmp_gt hC.1 hC.2.1 hd ht (fun q => kt q p e s m args below meth c R Z H locs cells slots lsr hC hE h1 h2 h3 h4 hW hS hl) (fun q => kf q p e s m args below meth c R Z H locs cells slots lsr hC hE h1 h2 h3 h4 hW hS hl)

theorem f_icmp_le {G : fG} {z : fMi} {d pc : Nat} {Q : fR → fS → Prop} {ls : List (Option Value)} {st : List Value} {S : fS} {kc ks : Nat} {x y : Int32} {off : Int} {tgt : Nat} (hd : decode z.2.1 pc = .ok (.if_icmp .le off, 3)) (ht : (pc : Int) + off = (tgt : Int)) (kt : x ≤ y → fV G z d Q tgt ls st S kc ks) (kf : ¬ x ≤ y → fV G z d Q (pc + 3) ls st S kc ks) : fV G z d Q pc ls (.int y :: .int x :: st) S kc ks := by
  intro p e s m args below meth c R Z H locs cells slots lsr hC hE h1 h2 h3 h4 hW hS hl
  exact lv_icmp_le hC.1 hC.2.1 hd ht (fun q => kt q p e s m args below meth c R Z H locs cells slots lsr hC hE h1 h2 h3 h4 hW hS hl) (fun q => kf q p e s m args below meth c R Z H locs cells slots lsr hC hE h1 h2 h3 h4 hW hS hl)

