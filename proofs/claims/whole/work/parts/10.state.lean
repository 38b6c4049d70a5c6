/-! ===== State ===== -/
theorem dec1 (x : Int32) : x + Int32.ofInt (-1) = x - 1 := by rw [Int32.sub_eq_add_neg]; rfl
def r_J6_bitCount_0f7a4 (M : fM) (x : Int32) : Int32 := ((((((((x - ((((x).toUInt32 >>> (((1 : Int32)).toUInt32 &&& Int32.toUInt32 31)).toInt32) &&& (1431655765 : Int32))) &&& (858993459 : Int32)) + (((((x - ((((x).toUInt32 >>> (((1 : Int32)).toUInt32 &&& Int32.toUInt32 31)).toInt32) &&& (1431655765 : Int32)))).toUInt32 >>> (((2 : Int32)).toUInt32 &&& Int32.toUInt32 31)).toInt32) &&& (858993459 : Int32))) + ((((((x - ((((x).toUInt32 >>> (((1 : Int32)).toUInt32 &&& Int32.toUInt32 31)).toInt32) &&& (1431655765 : Int32))) &&& (858993459 : Int32)) + (((((x - ((((x).toUInt32 >>> (((1 : Int32)).toUInt32 &&& Int32.toUInt32 31)).toInt32) &&& (1431655765 : Int32)))).toUInt32 >>> (((2 : Int32)).toUInt32 &&& Int32.toUInt32 31)).toInt32) &&& (858993459 : Int32)))).toUInt32 >>> (((4 : Int32)).toUInt32 &&& Int32.toUInt32 31)).toInt32)) &&& (252645135 : Int32)) + ((((((((x - ((((x).toUInt32 >>> (((1 : Int32)).toUInt32 &&& Int32.toUInt32 31)).toInt32) &&& (1431655765 : Int32))) &&& (858993459 : Int32)) + (((((x - ((((x).toUInt32 >>> (((1 : Int32)).toUInt32 &&& Int32.toUInt32 31)).toInt32) &&& (1431655765 : Int32)))).toUInt32 >>> (((2 : Int32)).toUInt32 &&& Int32.toUInt32 31)).toInt32) &&& (858993459 : Int32))) + ((((((x - ((((x).toUInt32 >>> (((1 : Int32)).toUInt32 &&& Int32.toUInt32 31)).toInt32) &&& (1431655765 : Int32))) &&& (858993459 : Int32)) + (((((x - ((((x).toUInt32 >>> (((1 : Int32)).toUInt32 &&& Int32.toUInt32 31)).toInt32) &&& (1431655765 : Int32)))).toUInt32 >>> (((2 : Int32)).toUInt32 &&& Int32.toUInt32 31)).toInt32) &&& (858993459 : Int32)))).toUInt32 >>> (((4 : Int32)).toUInt32 &&& Int32.toUInt32 31)).toInt32)) &&& (252645135 : Int32))).toUInt32 >>> (((8 : Int32)).toUInt32 &&& Int32.toUInt32 31)).toInt32)) + (((((((((x - ((((x).toUInt32 >>> (((1 : Int32)).toUInt32 &&& Int32.toUInt32 31)).toInt32) &&& (1431655765 : Int32))) &&& (858993459 : Int32)) + (((((x - ((((x).toUInt32 >>> (((1 : Int32)).toUInt32 &&& Int32.toUInt32 31)).toInt32) &&& (1431655765 : Int32)))).toUInt32 >>> (((2 : Int32)).toUInt32 &&& Int32.toUInt32 31)).toInt32) &&& (858993459 : Int32))) + ((((((x - ((((x).toUInt32 >>> (((1 : Int32)).toUInt32 &&& Int32.toUInt32 31)).toInt32) &&& (1431655765 : Int32))) &&& (858993459 : Int32)) + (((((x - ((((x).toUInt32 >>> (((1 : Int32)).toUInt32 &&& Int32.toUInt32 31)).toInt32) &&& (1431655765 : Int32)))).toUInt32 >>> (((2 : Int32)).toUInt32 &&& Int32.toUInt32 31)).toInt32) &&& (858993459 : Int32)))).toUInt32 >>> (((4 : Int32)).toUInt32 &&& Int32.toUInt32 31)).toInt32)) &&& (252645135 : Int32)) + ((((((((x - ((((x).toUInt32 >>> (((1 : Int32)).toUInt32 &&& Int32.toUInt32 31)).toInt32) &&& (1431655765 : Int32))) &&& (858993459 : Int32)) + (((((x - ((((x).toUInt32 >>> (((1 : Int32)).toUInt32 &&& Int32.toUInt32 31)).toInt32) &&& (1431655765 : Int32)))).toUInt32 >>> (((2 : Int32)).toUInt32 &&& Int32.toUInt32 31)).toInt32) &&& (858993459 : Int32))) + ((((((x - ((((x).toUInt32 >>> (((1 : Int32)).toUInt32 &&& Int32.toUInt32 31)).toInt32) &&& (1431655765 : Int32))) &&& (858993459 : Int32)) + (((((x - ((((x).toUInt32 >>> (((1 : Int32)).toUInt32 &&& Int32.toUInt32 31)).toInt32) &&& (1431655765 : Int32)))).toUInt32 >>> (((2 : Int32)).toUInt32 &&& Int32.toUInt32 31)).toInt32) &&& (858993459 : Int32)))).toUInt32 >>> (((4 : Int32)).toUInt32 &&& Int32.toUInt32 31)).toInt32)) &&& (252645135 : Int32))).toUInt32 >>> (((8 : Int32)).toUInt32 &&& Int32.toUInt32 31)).toInt32))).toUInt32 >>> (((16 : Int32)).toUInt32 &&& Int32.toUInt32 31)).toInt32)) &&& (63 : Int32))
set_option maxRecDepth 100000 in
set_option maxHeartbeats 4000000 in
theorem c_J6_bitCount_0f7a4 {G : fG} (hG : fOK G) {d : Nat} (hd : 0 ≤ d) (M : fM) (dv : UInt64) (x : Int32) : fCt G z_J6_bitCount_0f7a4 d [.int x] (sS M dv) 0 0 (fD (some (.int (r_J6_bitCount_0f7a4 M x))) (sS M dv)) := by
  refine fCt_to [some (.int x)] k_J6_bitCount_0f7a4 rfl (Nat.le_of_ble_eq_true rfl) rfl ?_
  refine f_iload_n dJ6_bitCount_0f7a4_0 rfl rfl ?_
  refine f_iload_n dJ6_bitCount_0f7a4_1 rfl rfl ?_
  refine f_iconst (v := 1) dJ6_bitCount_0f7a4_2 rfl ?_
  refine f_iushr dJ6_bitCount_0f7a4_3 rfl ?_
  refine f_ldcw hG cw_J6_265 dJ6_bitCount_0f7a4_4 ?_
  refine f_iand dJ6_bitCount_0f7a4_7 ?_
  refine f_isub dJ6_bitCount_0f7a4_8 ?_
  refine f_istore_n (ls' := [_]) dJ6_bitCount_0f7a4_9 rfl (Nat.le_of_ble_eq_true rfl) rfl rfl ?_
  refine f_iload_n dJ6_bitCount_0f7a4_10 rfl rfl ?_
  refine f_ldcw hG cw_J6_266 dJ6_bitCount_0f7a4_11 ?_
  refine f_iand dJ6_bitCount_0f7a4_14 ?_
  refine f_iload_n dJ6_bitCount_0f7a4_15 rfl rfl ?_
  refine f_iconst (v := 2) dJ6_bitCount_0f7a4_16 rfl ?_
  refine f_iushr dJ6_bitCount_0f7a4_17 rfl ?_
  refine f_ldcw hG cw_J6_266 dJ6_bitCount_0f7a4_18 ?_
  refine f_iand dJ6_bitCount_0f7a4_21 ?_
  refine f_iadd dJ6_bitCount_0f7a4_22 ?_
  refine f_istore_n (ls' := [_]) dJ6_bitCount_0f7a4_23 rfl (Nat.le_of_ble_eq_true rfl) rfl rfl ?_
  refine f_iload_n dJ6_bitCount_0f7a4_24 rfl rfl ?_
  refine f_iload_n dJ6_bitCount_0f7a4_25 rfl rfl ?_
  refine f_iconst (v := 4) dJ6_bitCount_0f7a4_26 rfl ?_
  refine f_iushr dJ6_bitCount_0f7a4_27 rfl ?_
  refine f_iadd dJ6_bitCount_0f7a4_28 ?_
  refine f_ldcw hG cw_J6_267 dJ6_bitCount_0f7a4_29 ?_
  refine f_iand dJ6_bitCount_0f7a4_32 ?_
  refine f_istore_n (ls' := [_]) dJ6_bitCount_0f7a4_33 rfl (Nat.le_of_ble_eq_true rfl) rfl rfl ?_
  refine f_iload_n dJ6_bitCount_0f7a4_34 rfl rfl ?_
  refine f_iload_n dJ6_bitCount_0f7a4_35 rfl rfl ?_
  refine f_bipush (v := 8) dJ6_bitCount_0f7a4_36 (by decide) ?_
  refine f_iushr dJ6_bitCount_0f7a4_38 rfl ?_
  refine f_iadd dJ6_bitCount_0f7a4_39 ?_
  refine f_istore_n (ls' := [_]) dJ6_bitCount_0f7a4_40 rfl (Nat.le_of_ble_eq_true rfl) rfl rfl ?_
  refine f_iload_n dJ6_bitCount_0f7a4_41 rfl rfl ?_
  refine f_iload_n dJ6_bitCount_0f7a4_42 rfl rfl ?_
  refine f_bipush (v := 16) dJ6_bitCount_0f7a4_43 (by decide) ?_
  refine f_iushr dJ6_bitCount_0f7a4_45 rfl ?_
  refine f_iadd dJ6_bitCount_0f7a4_46 ?_
  refine f_istore_n (ls' := [_]) dJ6_bitCount_0f7a4_47 rfl (Nat.le_of_ble_eq_true rfl) rfl rfl ?_
  refine f_iload_n dJ6_bitCount_0f7a4_48 rfl rfl ?_
  refine f_bipush (v := 63) dJ6_bitCount_0f7a4_49 (by decide) ?_
  refine f_iand dJ6_bitCount_0f7a4_51 ?_
  refine f_ireturn dJ6_bitCount_0f7a4_52 rfl rfl ?_
  exact ⟨by rw [r_J6_bitCount_0f7a4], rfl⟩

def r_X8_rawRefusal (M : fM) (k : Nat) : Int32 := (if (M (k + 1) 2) < (6 : Int32) then (0 : Int32) else (3 : Int32))
set_option maxRecDepth 100000 in
set_option maxHeartbeats 4000000 in
theorem c_X8_rawRefusal {G : fG} (hG : fOK G) {d : Nat} (hd : 0 ≤ d) (M : fM) (dv : UInt64) (k : Nat) (hk : rState k) : fCt G z_X8_rawRefusal d [.ref k] (sS M dv) 0 0 (fD (some (.int (r_X8_rawRefusal M k))) (sS M dv)) := by
  refine fCt_to [some (.ref k)] k_X8_rawRefusal rfl (Nat.le_of_ble_eq_true rfl) rfl ?_
  refine f_aload_n dX8_rawRefusal_0 rfl rfl ?_
  refine s_getr hG fl_X8_12 dX8_rawRefusal_1 hk.1 rfl ?_
  refine s_geti hG fl_X8_48 dX8_rawRefusal_4 hk.2.1.1 rfl ?_
  refine f_bipush (v := 6) dX8_rawRefusal_7 (by decide) ?_
  refine f_icmp_lt (tgt := 16) dX8_rawRefusal_9 (by decide) (fun c_9 => ?_) (fun c_9 => ?_)
  · refine f_iconst (v := 0) dX8_rawRefusal_16 rfl ?_
    refine f_ireturn dX8_rawRefusal_17 rfl rfl ?_
    exact ⟨by rw [r_X8_rawRefusal, if_pos c_9], rfl⟩
  · refine f_iconst (v := 3) dX8_rawRefusal_12 rfl ?_
    refine f_goto (tgt := 17) dX8_rawRefusal_13 (by decide) ?_
    refine f_ireturn dX8_rawRefusal_17 rfl rfl ?_
    exact ⟨by rw [r_X8_rawRefusal, if_neg c_9], rfl⟩

def r_X8_mixRefusal (M : fM) (k : Nat) (a : Int32) (b : Int32) : Int32 := (if (r_X0_hasSet M (k + 1) a) = 0 then (2 : Int32) else (if b < (1 : Int32) then (2 : Int32) else (if b ≤ (20 : Int32) then (if (M (k + 1) 4) < (6 : Int32) then (if (a &&& (M (k + 1) 3)) = 0 then (0 : Int32) else (4 : Int32)) else (3 : Int32)) else (2 : Int32))))
set_option maxRecDepth 100000 in
set_option maxHeartbeats 4000000 in
theorem c_X8_mixRefusal {G : fG} (hG : fOK G) {d : Nat} (hd : 1 ≤ d) (M : fM) (dv : UInt64) (k : Nat) (a : Int32) (b : Int32) (hk : rState k) : fCt G z_X8_mixRefusal d [.ref k, .int a, .int b] (sS M dv) 0 0 (fD (some (.int (r_X8_mixRefusal M k a b))) (sS M dv)) := by
  refine fCt_to [some (.ref k), some (.int a), some (.int b)] k_X8_mixRefusal rfl (Nat.le_of_ble_eq_true rfl) rfl ?_
  refine f_aload_n dX8_mixRefusal_0 rfl rfl ?_
  refine s_getr hG fl_X8_12 dX8_mixRefusal_1 hk.1 rfl ?_
  refine f_iload_n dX8_mixRefusal_4 rfl rfl ?_
  refine f_cV hG (As := [_]) dX8_mixRefusal_5 rfl k_X0_hasSet rfl rfl ml_X8_51 im_X0_hasSet se_X0_hasSet hk.2.1.1 rfl (c_X0_hasSet hG (d := 0) (Nat.le_refl _) _ _ _ _ hk.2.1) (by omega) (Nat.le_of_ble_eq_true rfl) (Nat.zero_le _) (Nat.zero_le _) ?_
  refine f_if_eq (tgt := 22) dX8_mixRefusal_8 (by decide) (fun c_8 => ?_) (fun c_8 => ?_)
  · refine f_iconst (v := 2) dX8_mixRefusal_22 rfl ?_
    refine f_ireturn dX8_mixRefusal_23 rfl rfl ?_
    exact ⟨by rw [r_X8_mixRefusal, if_pos c_8], rfl⟩
  · refine f_iload_n dX8_mixRefusal_11 rfl rfl ?_
    refine f_iconst (v := 1) dX8_mixRefusal_12 rfl ?_
    refine f_icmp_lt (tgt := 22) dX8_mixRefusal_13 (by decide) (fun c_13 => ?_) (fun c_13 => ?_)
    · refine f_iconst (v := 2) dX8_mixRefusal_22 rfl ?_
      refine f_ireturn dX8_mixRefusal_23 rfl rfl ?_
      exact ⟨by rw [r_X8_mixRefusal, if_neg c_8, if_pos c_13], rfl⟩
    · refine f_iload_n dX8_mixRefusal_16 rfl rfl ?_
      refine f_bipush (v := 20) dX8_mixRefusal_17 (by decide) ?_
      refine f_icmp_le (tgt := 24) dX8_mixRefusal_19 (by decide) (fun c_19 => ?_) (fun c_19 => ?_)
      · refine f_aload_n dX8_mixRefusal_24 rfl rfl ?_
        refine s_getr hG fl_X8_12 dX8_mixRefusal_25 hk.1 rfl ?_
        refine s_geti hG fl_X8_55 dX8_mixRefusal_28 hk.2.1.1 rfl ?_
        refine f_bipush (v := 6) dX8_mixRefusal_31 (by decide) ?_
        refine f_icmp_lt (tgt := 38) dX8_mixRefusal_33 (by decide) (fun c_33 => ?_) (fun c_33 => ?_)
        · refine f_iload_n dX8_mixRefusal_38 rfl rfl ?_
          refine f_aload_n dX8_mixRefusal_39 rfl rfl ?_
          refine s_getr hG fl_X8_12 dX8_mixRefusal_40 hk.1 rfl ?_
          refine s_geti hG fl_X8_58 dX8_mixRefusal_43 hk.2.1.1 rfl ?_
          refine f_iand dX8_mixRefusal_46 ?_
          refine f_if_eq (tgt := 54) dX8_mixRefusal_47 (by decide) (fun c_47 => ?_) (fun c_47 => ?_)
          · refine f_iconst (v := 0) dX8_mixRefusal_54 rfl ?_
            refine f_ireturn dX8_mixRefusal_55 rfl rfl ?_
            exact ⟨by rw [r_X8_mixRefusal, if_neg c_8, if_neg c_13, if_pos c_19, if_pos c_33, if_pos c_47], rfl⟩
          · refine f_iconst (v := 4) dX8_mixRefusal_50 rfl ?_
            refine f_goto (tgt := 55) dX8_mixRefusal_51 (by decide) ?_
            refine f_ireturn dX8_mixRefusal_55 rfl rfl ?_
            exact ⟨by rw [r_X8_mixRefusal, if_neg c_8, if_neg c_13, if_pos c_19, if_pos c_33, if_neg c_47], rfl⟩
        · refine f_iconst (v := 3) dX8_mixRefusal_36 rfl ?_
          refine f_ireturn dX8_mixRefusal_37 rfl rfl ?_
          exact ⟨by rw [r_X8_mixRefusal, if_neg c_8, if_neg c_13, if_pos c_19, if_neg c_33], rfl⟩
      · refine f_iconst (v := 2) dX8_mixRefusal_22 rfl ?_
        refine f_ireturn dX8_mixRefusal_23 rfl rfl ?_
        exact ⟨by rw [r_X8_mixRefusal, if_neg c_8, if_neg c_13, if_neg c_19], rfl⟩

def r_X8_labelRefusal (M : fM) (k : Nat) (t : Nat) (n : Nat) : Int32 := (if (r_X10_isLetters M t n (6 : Int32)) = 0 then (2 : Int32) else (if (8 : Int32) ≤ (M (k + 6) 2) then (3 : Int32) else (if (r_X6_holds M (k + 6) t n) = 0 then (0 : Int32) else (3 : Int32))))
set_option maxRecDepth 100000 in
set_option maxHeartbeats 4000000 in
theorem c_X8_labelRefusal {G : fG} (hG : fOK G) {d : Nat} (hd : 4 ≤ d) (M : fM) (dv : UInt64) (k : Nat) (t : Nat) (n : Nat) (hk : rState k) (ht : rText t n) (hnt : n < 2147483648) (T : Nat) (hT : (M t 2) = nI T) (hT2 : T < 300) (N : Nat) (hN : (M (k + 6) 2) = nI N) (hN2 : N < 300) (hl : ∀ j, j < N → ∃ L, rget M (k + 6 + 1) 8 (nI j) = nI L ∧ L < 300) : fCt G z_X8_labelRefusal d [.ref k, .ref t] (sS M dv) 0 0 (fD (some (.int (r_X8_labelRefusal M k t n))) (sS M dv)) := by
  refine fCt_to [some (.ref k), some (.ref t)] k_X8_labelRefusal rfl (Nat.le_of_ble_eq_true rfl) rfl ?_
  refine f_aload_n dX8_labelRefusal_0 rfl rfl ?_
  refine f_bipush (v := 6) dX8_labelRefusal_1 (by decide) ?_
  refine f_cV hG (As := [_]) dX8_labelRefusal_3 rfl k_X10_isLetters rfl rfl ml_X8_61 im_X10_isLetters se_X10_isLetters ht.1 rfl (c_X10_isLetters hG (d := 2) (Nat.le_refl _) _ _ _ _ _ ht hnt _ (by assumption) (by omega)) (by omega) (Nat.le_of_ble_eq_true rfl) (Nat.zero_le _) (Nat.zero_le _) ?_
  refine f_if_ne (tgt := 11) dX8_labelRefusal_6 (by decide) (fun c_6 => ?_) (fun c_6 => ?_)
  · refine f_aload_n dX8_labelRefusal_11 rfl rfl ?_
    refine s_getr hG fl_X8_21 dX8_labelRefusal_12 hk.1 rfl ?_
    refine s_geti hG fl_X8_66 dX8_labelRefusal_15 hk.2.2.1.1 rfl ?_
    refine f_bipush (v := 8) dX8_labelRefusal_18 (by decide) ?_
    refine f_icmp_ge (tgt := 34) dX8_labelRefusal_20 (by decide) (fun c_20 => ?_) (fun c_20 => ?_)
    · refine f_iconst (v := 3) dX8_labelRefusal_34 rfl ?_
      refine f_goto (tgt := 39) dX8_labelRefusal_35 (by decide) ?_
      refine f_ireturn dX8_labelRefusal_39 rfl rfl ?_
      exact ⟨by rw [r_X8_labelRefusal, if_neg c_6, if_pos c_20], rfl⟩
    · refine f_aload_n dX8_labelRefusal_23 rfl rfl ?_
      refine s_getr hG fl_X8_21 dX8_labelRefusal_24 hk.1 rfl ?_
      refine f_aload_n dX8_labelRefusal_27 rfl rfl ?_
      refine f_cV hG (As := [_]) dX8_labelRefusal_28 rfl k_X6_holds rfl rfl ml_X8_69 im_X6_holds se_X6_holds hk.2.2.1.1 rfl (c_X6_holds hG (d := 3) (Nat.le_refl _) _ _ _ _ _ hk.2.2.1 ht hnt _ (by assumption) (by omega) (by assumption)) (by omega) (Nat.le_of_ble_eq_true rfl) (Nat.zero_le _) (Nat.zero_le _) ?_
      refine f_if_eq (tgt := 38) dX8_labelRefusal_31 (by decide) (fun c_31 => ?_) (fun c_31 => ?_)
      · refine f_iconst (v := 0) dX8_labelRefusal_38 rfl ?_
        refine f_ireturn dX8_labelRefusal_39 rfl rfl ?_
        exact ⟨by rw [r_X8_labelRefusal, if_neg c_6, if_neg c_20, if_pos c_31], rfl⟩
      · refine f_iconst (v := 3) dX8_labelRefusal_34 rfl ?_
        refine f_goto (tgt := 39) dX8_labelRefusal_35 (by decide) ?_
        refine f_ireturn dX8_labelRefusal_39 rfl rfl ?_
        exact ⟨by rw [r_X8_labelRefusal, if_neg c_6, if_neg c_20, if_neg c_31], rfl⟩
  · refine f_iconst (v := 2) dX8_labelRefusal_9 rfl ?_
    refine f_ireturn dX8_labelRefusal_10 rfl rfl ?_
    exact ⟨by rw [r_X8_labelRefusal, if_pos c_6], rfl⟩

def r_X8_fillRefusal (M : fM) (k : Nat) (a : Int32) (b : Int32) (c : Int32) (e : Int32) : Int32 := (if (r_X0_hasBatch M (k + 1) a) = 0 then (1 : Int32) else (if (r_X0_hasBatch M (k + 1) b) = 0 then (1 : Int32) else (if (r_X6_has M (k + 6) c) = 0 then (1 : Int32) else (if e < (1 : Int32) then (2 : Int32) else (if e ≤ (9 : Int32) then (if (M (k + 11) 6) < (8 : Int32) then (if (r_X0_isSpoilt M (k + 1) a) = 0 then (if (r_X0_isSpoilt M (k + 1) b) = 0 then (0 : Int32) else (4 : Int32)) else (4 : Int32)) else (3 : Int32)) else (2 : Int32))))))
set_option maxRecDepth 100000 in
set_option maxHeartbeats 4000000 in
theorem c_X8_fillRefusal {G : fG} (hG : fOK G) {d : Nat} (hd : 2 ≤ d) (M : fM) (dv : UInt64) (k : Nat) (a : Int32) (b : Int32) (c : Int32) (e : Int32) (hk : rState k) : fCt G z_X8_fillRefusal d [.ref k, .int a, .int b, .int c, .int e] (sS M dv) 0 0 (fD (some (.int (r_X8_fillRefusal M k a b c e))) (sS M dv)) := by
  refine fCt_to [some (.ref k), some (.int a), some (.int b), some (.int c), some (.int e)] k_X8_fillRefusal rfl (Nat.le_of_ble_eq_true rfl) rfl ?_
  refine f_aload_n dX8_fillRefusal_0 rfl rfl ?_
  refine s_getr hG fl_X8_12 dX8_fillRefusal_1 hk.1 rfl ?_
  refine f_iload_n dX8_fillRefusal_4 rfl rfl ?_
  refine f_cV hG (As := [_]) dX8_fillRefusal_5 rfl k_X0_hasBatch rfl rfl ml_X8_73 im_X0_hasBatch se_X0_hasBatch hk.2.1.1 rfl (c_X0_hasBatch hG (d := 0) (Nat.le_refl _) _ _ _ _ hk.2.1) (by omega) (Nat.le_of_ble_eq_true rfl) (Nat.zero_le _) (Nat.zero_le _) ?_
  refine f_if_eq (tgt := 33) dX8_fillRefusal_8 (by decide) (fun c_8 => ?_) (fun c_8 => ?_)
  · refine f_iconst (v := 1) dX8_fillRefusal_33 rfl ?_
    refine f_ireturn dX8_fillRefusal_34 rfl rfl ?_
    exact ⟨by rw [r_X8_fillRefusal, if_pos c_8], rfl⟩
  · refine f_aload_n dX8_fillRefusal_11 rfl rfl ?_
    refine s_getr hG fl_X8_12 dX8_fillRefusal_12 hk.1 rfl ?_
    refine f_iload_n dX8_fillRefusal_15 rfl rfl ?_
    refine f_cV hG (As := [_]) dX8_fillRefusal_16 rfl k_X0_hasBatch rfl rfl ml_X8_73 im_X0_hasBatch se_X0_hasBatch hk.2.1.1 rfl (c_X0_hasBatch hG (d := 0) (Nat.le_refl _) _ _ _ _ hk.2.1) (by omega) (Nat.le_of_ble_eq_true rfl) (Nat.zero_le _) (Nat.zero_le _) ?_
    refine f_if_eq (tgt := 33) dX8_fillRefusal_19 (by decide) (fun c_19 => ?_) (fun c_19 => ?_)
    · refine f_iconst (v := 1) dX8_fillRefusal_33 rfl ?_
      refine f_ireturn dX8_fillRefusal_34 rfl rfl ?_
      exact ⟨by rw [r_X8_fillRefusal, if_neg c_8, if_pos c_19], rfl⟩
    · refine f_aload_n dX8_fillRefusal_22 rfl rfl ?_
      refine s_getr hG fl_X8_21 dX8_fillRefusal_23 hk.1 rfl ?_
      refine f_iload_n dX8_fillRefusal_26 rfl rfl ?_
      refine f_cV hG (As := [_]) dX8_fillRefusal_27 rfl k_X6_has rfl rfl ml_X8_76 im_X6_has se_X6_has hk.2.2.1.1 rfl (c_X6_has hG (d := 0) (Nat.le_refl _) _ _ _ _ hk.2.2.1) (by omega) (Nat.le_of_ble_eq_true rfl) (Nat.zero_le _) (Nat.zero_le _) ?_
      refine f_if_ne (tgt := 35) dX8_fillRefusal_30 (by decide) (fun c_30 => ?_) (fun c_30 => ?_)
      · refine f_iload dX8_fillRefusal_35 rfl ?_
        refine f_iconst (v := 1) dX8_fillRefusal_37 rfl ?_
        refine f_icmp_lt (tgt := 48) dX8_fillRefusal_38 (by decide) (fun c_38 => ?_) (fun c_38 => ?_)
        · refine f_iconst (v := 2) dX8_fillRefusal_48 rfl ?_
          refine f_ireturn dX8_fillRefusal_49 rfl rfl ?_
          exact ⟨by rw [r_X8_fillRefusal, if_neg c_8, if_neg c_19, if_neg c_30, if_pos c_38], rfl⟩
        · refine f_iload dX8_fillRefusal_41 rfl ?_
          refine f_bipush (v := 9) dX8_fillRefusal_43 (by decide) ?_
          refine f_icmp_le (tgt := 50) dX8_fillRefusal_45 (by decide) (fun c_45 => ?_) (fun c_45 => ?_)
          · refine f_aload_n dX8_fillRefusal_50 rfl rfl ?_
            refine s_getr hG fl_X8_28 dX8_fillRefusal_51 hk.1 rfl ?_
            refine s_geti hG fl_X8_79 dX8_fillRefusal_54 hk.2.2.2.1 rfl ?_
            refine f_bipush (v := 8) dX8_fillRefusal_57 (by decide) ?_
            refine f_icmp_lt (tgt := 64) dX8_fillRefusal_59 (by decide) (fun c_59 => ?_) (fun c_59 => ?_)
            · refine f_aload_n dX8_fillRefusal_64 rfl rfl ?_
              refine s_getr hG fl_X8_12 dX8_fillRefusal_65 hk.1 rfl ?_
              refine f_iload_n dX8_fillRefusal_68 rfl rfl ?_
              refine f_cV hG (As := [_]) dX8_fillRefusal_69 rfl k_X0_isSpoilt rfl rfl ml_X8_80 im_X0_isSpoilt se_X0_isSpoilt hk.2.1.1 rfl (c_X0_isSpoilt hG (d := 1) (Nat.le_refl _) _ _ _ _ hk.2.1) (by omega) (Nat.le_of_ble_eq_true rfl) (Nat.zero_le _) (Nat.zero_le _) ?_
              refine f_if_ne (tgt := 86) dX8_fillRefusal_72 (by decide) (fun c_72 => ?_) (fun c_72 => ?_)
              · refine f_iconst (v := 4) dX8_fillRefusal_86 rfl ?_
                refine f_goto (tgt := 91) dX8_fillRefusal_87 (by decide) ?_
                refine f_ireturn dX8_fillRefusal_91 rfl rfl ?_
                exact ⟨by rw [r_X8_fillRefusal, if_neg c_8, if_neg c_19, if_neg c_30, if_neg c_38, if_pos c_45, if_pos c_59, if_neg c_72], rfl⟩
              · refine f_aload_n dX8_fillRefusal_75 rfl rfl ?_
                refine s_getr hG fl_X8_12 dX8_fillRefusal_76 hk.1 rfl ?_
                refine f_iload_n dX8_fillRefusal_79 rfl rfl ?_
                refine f_cV hG (As := [_]) dX8_fillRefusal_80 rfl k_X0_isSpoilt rfl rfl ml_X8_80 im_X0_isSpoilt se_X0_isSpoilt hk.2.1.1 rfl (c_X0_isSpoilt hG (d := 1) (Nat.le_refl _) _ _ _ _ hk.2.1) (by omega) (Nat.le_of_ble_eq_true rfl) (Nat.zero_le _) (Nat.zero_le _) ?_
                refine f_if_eq (tgt := 90) dX8_fillRefusal_83 (by decide) (fun c_83 => ?_) (fun c_83 => ?_)
                · refine f_iconst (v := 0) dX8_fillRefusal_90 rfl ?_
                  refine f_ireturn dX8_fillRefusal_91 rfl rfl ?_
                  exact ⟨by rw [r_X8_fillRefusal, if_neg c_8, if_neg c_19, if_neg c_30, if_neg c_38, if_pos c_45, if_pos c_59, if_pos c_72, if_pos c_83], rfl⟩
                · refine f_iconst (v := 4) dX8_fillRefusal_86 rfl ?_
                  refine f_goto (tgt := 91) dX8_fillRefusal_87 (by decide) ?_
                  refine f_ireturn dX8_fillRefusal_91 rfl rfl ?_
                  exact ⟨by rw [r_X8_fillRefusal, if_neg c_8, if_neg c_19, if_neg c_30, if_neg c_38, if_pos c_45, if_pos c_59, if_pos c_72, if_neg c_83], rfl⟩
            · refine f_iconst (v := 3) dX8_fillRefusal_62 rfl ?_
              refine f_ireturn dX8_fillRefusal_63 rfl rfl ?_
              exact ⟨by rw [r_X8_fillRefusal, if_neg c_8, if_neg c_19, if_neg c_30, if_neg c_38, if_pos c_45, if_neg c_59], rfl⟩
          · refine f_iconst (v := 2) dX8_fillRefusal_48 rfl ?_
            refine f_ireturn dX8_fillRefusal_49 rfl rfl ?_
            exact ⟨by rw [r_X8_fillRefusal, if_neg c_8, if_neg c_19, if_neg c_30, if_neg c_38, if_neg c_45], rfl⟩
      · refine f_iconst (v := 1) dX8_fillRefusal_33 rfl ?_
        refine f_ireturn dX8_fillRefusal_34 rfl rfl ?_
        exact ⟨by rw [r_X8_fillRefusal, if_neg c_8, if_neg c_19, if_pos c_30], rfl⟩

def r_X8_fillLot (M : fM) (k : Nat) (a : Int32) (b : Int32) (c : Int32) (e : Int32) : Int32 := (r_X5_add (fst1 M k 4 ((M k 4) + e)) (k + 11) a b c e)
def m_X8_fillLot (M : fM) (k : Nat) (a : Int32) (b : Int32) (c : Int32) (e : Int32) : fM := (m_X5_add (fst1 M k 4 ((M k 4) + e)) (k + 11) a b c e)
set_option maxRecDepth 100000 in
set_option maxHeartbeats 4000000 in
theorem c_X8_fillLot {G : fG} (hG : fOK G) {d : Nat} (hd : 2 ≤ d) (M : fM) (dv : UInt64) (k : Nat) (a : Int32) (b : Int32) (c : Int32) (e : Int32) (hk : rState k) : fCt G z_X8_fillLot d [.ref k, .int a, .int b, .int c, .int e] (sS M dv) 0 0 (fD (some (.int (r_X8_fillLot M k a b c e))) (sS (m_X8_fillLot M k a b c e) dv)) := by
  refine fCt_to [some (.ref k), some (.int a), some (.int b), some (.int c), some (.int e)] k_X8_fillLot rfl (Nat.le_of_ble_eq_true rfl) rfl ?_
  refine f_aload_n dX8_fillLot_0 rfl rfl ?_
  refine f_dup dX8_fillLot_1 rfl ?_
  refine s_geti hG fl_X8_36 dX8_fillLot_2 hk.1 rfl ?_
  refine f_iload dX8_fillLot_5 rfl ?_
  refine f_iadd dX8_fillLot_7 ?_
  refine s_puti hG fl_X8_36 (Or.inl rfl) dX8_fillLot_8 hk.1 rfl rfl rfl ?_
  refine f_aload_n dX8_fillLot_11 rfl rfl ?_
  refine s_getr hG fl_X8_28 dX8_fillLot_12 hk.1 rfl ?_
  refine f_iload_n dX8_fillLot_15 rfl rfl ?_
  refine f_iload_n dX8_fillLot_16 rfl rfl ?_
  refine f_iload_n dX8_fillLot_17 rfl rfl ?_
  refine f_iload dX8_fillLot_18 rfl ?_
  refine f_cV hG (As := [_, _, _, _]) dX8_fillLot_20 rfl k_X5_add rfl rfl ml_X8_83 im_X5_add se_X5_add hk.2.2.2.1 rfl (c_X5_add hG (d := 1) (Nat.le_refl _) _ _ _ _ _ _ _ hk.2.2.2) (by omega) (Nat.le_of_ble_eq_true rfl) (Nat.zero_le _) (Nat.zero_le _) ?_
  refine f_ireturn dX8_fillLot_23 rfl rfl ?_
  exact ⟨by rw [r_X8_fillLot], by rw [m_X8_fillLot]⟩

def r_X8_shipRefusal (M : fM) (k : Nat) (a : Int32) : Int32 := (if (r_X5_positionOf M (k + 11) a) = (-1 : Int32) then (5 : Int32) else (0 : Int32))
set_option maxRecDepth 100000 in
set_option maxHeartbeats 4000000 in
theorem c_X8_shipRefusal {G : fG} (hG : fOK G) {d : Nat} (hd : 2 ≤ d) (M : fM) (dv : UInt64) (k : Nat) (a : Int32) (hk : rState k) (N : Nat) (hN : (M (k + 11) 6) = nI N) (hN2 : N < 300) : fCt G z_X8_shipRefusal d [.ref k, .int a] (sS M dv) 0 0 (fD (some (.int (r_X8_shipRefusal M k a))) (sS M dv)) := by
  refine fCt_to [some (.ref k), some (.int a)] k_X8_shipRefusal rfl (Nat.le_of_ble_eq_true rfl) rfl ?_
  refine f_aload_n dX8_shipRefusal_0 rfl rfl ?_
  refine s_getr hG fl_X8_28 dX8_shipRefusal_1 hk.1 rfl ?_
  refine f_iload_n dX8_shipRefusal_4 rfl rfl ?_
  refine f_cV hG (As := [_]) dX8_shipRefusal_5 rfl k_X5_positionOf rfl rfl ml_X8_87 im_X5_positionOf se_X5_positionOf hk.2.2.2.1 rfl (c_X5_positionOf hG (d := 1) (Nat.le_refl _) _ _ _ _ hk.2.2.2 _ (by assumption) (by omega)) (by omega) (Nat.le_of_ble_eq_true rfl) (Nat.zero_le _) (Nat.zero_le _) ?_
  refine f_iconst (v := (-1)) dX8_shipRefusal_8 rfl ?_
  refine f_icmp_ne (tgt := 16) dX8_shipRefusal_9 (by decide) (fun c_9 => ?_) (fun c_9 => ?_)
  · refine f_iconst (v := 0) dX8_shipRefusal_16 rfl ?_
    refine f_ireturn dX8_shipRefusal_17 rfl rfl ?_
    exact ⟨by rw [r_X8_shipRefusal, if_neg c_9], rfl⟩
  · refine f_iconst (v := 5) dX8_shipRefusal_12 rfl ?_
    refine f_goto (tgt := 17) dX8_shipRefusal_13 (by decide) ?_
    refine f_ireturn dX8_shipRefusal_17 rfl rfl ?_
    exact ⟨by rw [r_X8_shipRefusal, if_pos c_9], rfl⟩

def r_X8_passRefusal (M : fM) (k : Nat) (a : Int32) : Int32 := (if a < (1 : Int32) then (2 : Int32) else (if a ≤ (30 : Int32) then (0 : Int32) else (2 : Int32)))
set_option maxRecDepth 100000 in
set_option maxHeartbeats 4000000 in
theorem c_X8_passRefusal {G : fG} (hG : fOK G) {d : Nat} (hd : 0 ≤ d) (M : fM) (dv : UInt64) (k : Nat) (a : Int32) (hk : rState k) : fCt G z_X8_passRefusal d [.ref k, .int a] (sS M dv) 0 0 (fD (some (.int (r_X8_passRefusal M k a))) (sS M dv)) := by
  refine fCt_to [some (.ref k), some (.int a)] k_X8_passRefusal rfl (Nat.le_of_ble_eq_true rfl) rfl ?_
  refine f_iload_n dX8_passRefusal_0 rfl rfl ?_
  refine f_iconst (v := 1) dX8_passRefusal_1 rfl ?_
  refine f_icmp_lt (tgt := 11) dX8_passRefusal_2 (by decide) (fun c_2 => ?_) (fun c_2 => ?_)
  · refine f_iconst (v := 2) dX8_passRefusal_11 rfl ?_
    refine f_goto (tgt := 16) dX8_passRefusal_12 (by decide) ?_
    refine f_ireturn dX8_passRefusal_16 rfl rfl ?_
    exact ⟨by rw [r_X8_passRefusal, if_pos c_2], rfl⟩
  · refine f_iload_n dX8_passRefusal_5 rfl rfl ?_
    refine f_bipush (v := 30) dX8_passRefusal_6 (by decide) ?_
    refine f_icmp_le (tgt := 15) dX8_passRefusal_8 (by decide) (fun c_8 => ?_) (fun c_8 => ?_)
    · refine f_iconst (v := 0) dX8_passRefusal_15 rfl ?_
      refine f_ireturn dX8_passRefusal_16 rfl rfl ?_
      exact ⟨by rw [r_X8_passRefusal, if_neg c_2, if_pos c_8], rfl⟩
    · refine f_iconst (v := 2) dX8_passRefusal_11 rfl ?_
      refine f_goto (tgt := 16) dX8_passRefusal_12 (by decide) ?_
      refine f_ireturn dX8_passRefusal_16 rfl rfl ?_
      exact ⟨by rw [r_X8_passRefusal, if_neg c_2, if_neg c_8], rfl⟩

def r_X8_recallRefusal (M : fM) (k : Nat) (a : Int32) : Int32 := (if (r_X0_hasRaw M (k + 1) a) = 0 then (1 : Int32) else (if (r_X0_isRawFaulty M (k + 1) a) = 0 then (0 : Int32) else (3 : Int32)))
set_option maxRecDepth 100000 in
set_option maxHeartbeats 4000000 in
theorem c_X8_recallRefusal {G : fG} (hG : fOK G) {d : Nat} (hd : 2 ≤ d) (M : fM) (dv : UInt64) (k : Nat) (a : Int32) (hk : rState k) : fCt G z_X8_recallRefusal d [.ref k, .int a] (sS M dv) 0 0 (fD (some (.int (r_X8_recallRefusal M k a))) (sS M dv)) := by
  refine fCt_to [some (.ref k), some (.int a)] k_X8_recallRefusal rfl (Nat.le_of_ble_eq_true rfl) rfl ?_
  refine f_aload_n dX8_recallRefusal_0 rfl rfl ?_
  refine s_getr hG fl_X8_12 dX8_recallRefusal_1 hk.1 rfl ?_
  refine f_iload_n dX8_recallRefusal_4 rfl rfl ?_
  refine f_cV hG (As := [_]) dX8_recallRefusal_5 rfl k_X0_hasRaw rfl rfl ml_X8_114 im_X0_hasRaw se_X0_hasRaw hk.2.1.1 rfl (c_X0_hasRaw hG (d := 0) (Nat.le_refl _) _ _ _ _ hk.2.1) (by omega) (Nat.le_of_ble_eq_true rfl) (Nat.zero_le _) (Nat.zero_le _) ?_
  refine f_if_ne (tgt := 13) dX8_recallRefusal_8 (by decide) (fun c_8 => ?_) (fun c_8 => ?_)
  · refine f_aload_n dX8_recallRefusal_13 rfl rfl ?_
    refine s_getr hG fl_X8_12 dX8_recallRefusal_14 hk.1 rfl ?_
    refine f_iload_n dX8_recallRefusal_17 rfl rfl ?_
    refine f_cV hG (As := [_]) dX8_recallRefusal_18 rfl k_X0_isRawFaulty rfl rfl ml_X8_117 im_X0_isRawFaulty se_X0_isRawFaulty hk.2.1.1 rfl (c_X0_isRawFaulty hG (d := 1) (Nat.le_refl _) _ _ _ _ hk.2.1) (by omega) (Nat.le_of_ble_eq_true rfl) (Nat.zero_le _) (Nat.zero_le _) ?_
    refine f_if_eq (tgt := 28) dX8_recallRefusal_21 (by decide) (fun c_21 => ?_) (fun c_21 => ?_)
    · refine f_iconst (v := 0) dX8_recallRefusal_28 rfl ?_
      refine f_ireturn dX8_recallRefusal_29 rfl rfl ?_
      exact ⟨by rw [r_X8_recallRefusal, if_neg c_8, if_pos c_21], rfl⟩
    · refine f_iconst (v := 3) dX8_recallRefusal_24 rfl ?_
      refine f_goto (tgt := 29) dX8_recallRefusal_25 (by decide) ?_
      refine f_ireturn dX8_recallRefusal_29 rfl rfl ?_
      exact ⟨by rw [r_X8_recallRefusal, if_neg c_8, if_neg c_21], rfl⟩
  · refine f_iconst (v := 1) dX8_recallRefusal_11 rfl ?_
    refine f_ireturn dX8_recallRefusal_12 rfl rfl ?_
    exact ⟨by rw [r_X8_recallRefusal, if_pos c_8], rfl⟩

def r_X8_strengthAt (M : fM) (k : Nat) (i : Int32) : Int32 := (((rget M (k + 1 + 3) 6 (rget M (k + 11 + 3) 8 i)) + (rget M (k + 1 + 3) 6 (rget M (k + 11 + 5) 8 i))) / (2 : Int32))
set_option maxRecDepth 100000 in
set_option maxHeartbeats 4000000 in
theorem c_X8_strengthAt {G : fG} (hG : fOK G) {d : Nat} (hd : 1 ≤ d) (M : fM) (dv : UInt64) (k : Nat) (i : Int32) (hk : rState k) : fCt G z_X8_strengthAt d [.ref k, .int i] (sS M dv) 0 0 (fD (some (.int (r_X8_strengthAt M k i))) (sS M dv)) := by
  refine fCt_to [some (.ref k), some (.int i), none, none] k_X8_strengthAt rfl (Nat.le_of_ble_eq_true rfl) rfl ?_
  refine f_aload_n dX8_strengthAt_0 rfl rfl ?_
  refine s_getr hG fl_X8_12 dX8_strengthAt_1 hk.1 rfl ?_
  refine s_getr hG fl_X8_131 dX8_strengthAt_4 hk.2.1.1 rfl ?_
  refine f_aload_n dX8_strengthAt_7 rfl rfl ?_
  refine s_getr hG fl_X8_28 dX8_strengthAt_8 hk.1 rfl ?_
  refine s_getr hG fl_X8_134 dX8_strengthAt_11 hk.2.2.2.1 rfl ?_
  refine f_iload_n dX8_strengthAt_14 rfl rfl ?_
  refine f_cV hG (As := [_]) dX8_strengthAt_15 rfl k_X7_get rfl rfl ml_X8_102 im_X7_get se_X7_get hk.2.2.2.2.2.1.1 rfl (c_X7_get hG (Nat.le_refl _) _ _ _ _ hk.2.2.2.2.2.1 (by decide) _) (by omega) (Nat.le_of_ble_eq_true rfl) (Nat.zero_le _) (Nat.zero_le _) ?_
  refine f_cV hG (As := [_]) dX8_strengthAt_18 rfl k_X7_get rfl rfl ml_X8_102 im_X7_get se_X7_get hk.2.1.2.2.1 rfl (c_X7_get hG (Nat.le_refl _) _ _ _ _ hk.2.1.2.2 (by decide) _) (by omega) (Nat.le_of_ble_eq_true rfl) (Nat.zero_le _) (Nat.zero_le _) ?_
  refine f_istore_n (ls' := [_, _, _, _]) dX8_strengthAt_21 rfl (Nat.le_of_ble_eq_true rfl) rfl rfl ?_
  refine f_aload_n dX8_strengthAt_22 rfl rfl ?_
  refine s_getr hG fl_X8_12 dX8_strengthAt_23 hk.1 rfl ?_
  refine s_getr hG fl_X8_131 dX8_strengthAt_26 hk.2.1.1 rfl ?_
  refine f_aload_n dX8_strengthAt_29 rfl rfl ?_
  refine s_getr hG fl_X8_28 dX8_strengthAt_30 hk.1 rfl ?_
  refine s_getr hG fl_X8_137 dX8_strengthAt_33 hk.2.2.2.1 rfl ?_
  refine f_iload_n dX8_strengthAt_36 rfl rfl ?_
  refine f_cV hG (As := [_]) dX8_strengthAt_37 rfl k_X7_get rfl rfl ml_X8_102 im_X7_get se_X7_get hk.2.2.2.2.2.2.1.1 rfl (c_X7_get hG (Nat.le_refl _) _ _ _ _ hk.2.2.2.2.2.2.1 (by decide) _) (by omega) (Nat.le_of_ble_eq_true rfl) (Nat.zero_le _) (Nat.zero_le _) ?_
  refine f_cV hG (As := [_]) dX8_strengthAt_40 rfl k_X7_get rfl rfl ml_X8_102 im_X7_get se_X7_get hk.2.1.2.2.1 rfl (c_X7_get hG (Nat.le_refl _) _ _ _ _ hk.2.1.2.2 (by decide) _) (by omega) (Nat.le_of_ble_eq_true rfl) (Nat.zero_le _) (Nat.zero_le _) ?_
  refine f_istore_n (ls' := [_, _, _, _]) dX8_strengthAt_43 rfl (Nat.le_of_ble_eq_true rfl) rfl rfl ?_
  refine f_iload_n dX8_strengthAt_44 rfl rfl ?_
  refine f_iload_n dX8_strengthAt_45 rfl rfl ?_
  refine f_iadd dX8_strengthAt_46 ?_
  refine f_iconst (v := 2) dX8_strengthAt_47 rfl ?_
  refine f_idiv dX8_strengthAt_48 (by decide) ?_
  refine f_ireturn dX8_strengthAt_49 rfl rfl ?_
  exact ⟨by rw [r_X8_strengthAt], rfl⟩

def r_X8_rawsAt (M : fM) (k : Nat) (i : Int32) : Int32 := ((rget M (k + 1 + 1) 6 (rget M (k + 11 + 3) 8 i)) ||| (rget M (k + 1 + 1) 6 (rget M (k + 11 + 5) 8 i)))
set_option maxRecDepth 100000 in
set_option maxHeartbeats 4000000 in
theorem c_X8_rawsAt {G : fG} (hG : fOK G) {d : Nat} (hd : 1 ≤ d) (M : fM) (dv : UInt64) (k : Nat) (i : Int32) (hk : rState k) : fCt G z_X8_rawsAt d [.ref k, .int i] (sS M dv) 0 0 (fD (some (.int (r_X8_rawsAt M k i))) (sS M dv)) := by
  refine fCt_to [some (.ref k), some (.int i)] k_X8_rawsAt rfl (Nat.le_of_ble_eq_true rfl) rfl ?_
  refine f_aload_n dX8_rawsAt_0 rfl rfl ?_
  refine s_getr hG fl_X8_12 dX8_rawsAt_1 hk.1 rfl ?_
  refine s_getr hG fl_X8_140 dX8_rawsAt_4 hk.2.1.1 rfl ?_
  refine f_aload_n dX8_rawsAt_7 rfl rfl ?_
  refine s_getr hG fl_X8_28 dX8_rawsAt_8 hk.1 rfl ?_
  refine s_getr hG fl_X8_134 dX8_rawsAt_11 hk.2.2.2.1 rfl ?_
  refine f_iload_n dX8_rawsAt_14 rfl rfl ?_
  refine f_cV hG (As := [_]) dX8_rawsAt_15 rfl k_X7_get rfl rfl ml_X8_102 im_X7_get se_X7_get hk.2.2.2.2.2.1.1 rfl (c_X7_get hG (Nat.le_refl _) _ _ _ _ hk.2.2.2.2.2.1 (by decide) _) (by omega) (Nat.le_of_ble_eq_true rfl) (Nat.zero_le _) (Nat.zero_le _) ?_
  refine f_cV hG (As := [_]) dX8_rawsAt_18 rfl k_X7_get rfl rfl ml_X8_102 im_X7_get se_X7_get hk.2.1.2.1.1 rfl (c_X7_get hG (Nat.le_refl _) _ _ _ _ hk.2.1.2.1 (by decide) _) (by omega) (Nat.le_of_ble_eq_true rfl) (Nat.zero_le _) (Nat.zero_le _) ?_
  refine f_aload_n dX8_rawsAt_21 rfl rfl ?_
  refine s_getr hG fl_X8_12 dX8_rawsAt_22 hk.1 rfl ?_
  refine s_getr hG fl_X8_140 dX8_rawsAt_25 hk.2.1.1 rfl ?_
  refine f_aload_n dX8_rawsAt_28 rfl rfl ?_
  refine s_getr hG fl_X8_28 dX8_rawsAt_29 hk.1 rfl ?_
  refine s_getr hG fl_X8_137 dX8_rawsAt_32 hk.2.2.2.1 rfl ?_
  refine f_iload_n dX8_rawsAt_35 rfl rfl ?_
  refine f_cV hG (As := [_]) dX8_rawsAt_36 rfl k_X7_get rfl rfl ml_X8_102 im_X7_get se_X7_get hk.2.2.2.2.2.2.1.1 rfl (c_X7_get hG (Nat.le_refl _) _ _ _ _ hk.2.2.2.2.2.2.1 (by decide) _) (by omega) (Nat.le_of_ble_eq_true rfl) (Nat.zero_le _) (Nat.zero_le _) ?_
  refine f_cV hG (As := [_]) dX8_rawsAt_39 rfl k_X7_get rfl rfl ml_X8_102 im_X7_get se_X7_get hk.2.1.2.1.1 rfl (c_X7_get hG (Nat.le_refl _) _ _ _ _ hk.2.1.2.1 (by decide) _) (by omega) (Nat.le_of_ble_eq_true rfl) (Nat.zero_le _) (Nat.zero_le _) ?_
  refine f_ior dX8_rawsAt_42 ?_
  refine f_ireturn dX8_rawsAt_43 rfl rfl ?_
  exact ⟨by rw [r_X8_rawsAt], rfl⟩

def r_X8_riseAt (M : fM) (k : Nat) (i : Int32) : Int32 := ((21 : Int32) - (r_X8_strengthAt M k i))
set_option maxRecDepth 100000 in
set_option maxHeartbeats 4000000 in
theorem c_X8_riseAt {G : fG} (hG : fOK G) {d : Nat} (hd : 2 ≤ d) (M : fM) (dv : UInt64) (k : Nat) (i : Int32) (hk : rState k) : fCt G z_X8_riseAt d [.ref k, .int i] (sS M dv) 0 0 (fD (some (.int (r_X8_riseAt M k i))) (sS M dv)) := by
  refine fCt_to [some (.ref k), some (.int i)] k_X8_riseAt rfl (Nat.le_of_ble_eq_true rfl) rfl ?_
  refine f_bipush (v := 21) dX8_riseAt_0 (by decide) ?_
  refine f_aload_n dX8_riseAt_2 rfl rfl ?_
  refine f_iload_n dX8_riseAt_3 rfl rfl ?_
  refine f_cV hG (As := [_]) dX8_riseAt_4 rfl k_X8_strengthAt rfl rfl ml_X8_143 im_X8_strengthAt se_X8_strengthAt hk.1 rfl (c_X8_strengthAt hG (d := 1) (Nat.le_refl _) _ _ _ _ hk) (by omega) (Nat.le_of_ble_eq_true rfl) (Nat.zero_le _) (Nat.zero_le _) ?_
  refine f_isub dX8_riseAt_7 ?_
  refine f_ireturn dX8_riseAt_8 rfl rfl ?_
  exact ⟨by rw [r_X8_riseAt], rfl⟩

def l_X8_daysDayByDay (k : Nat) (i : Int32) (M : fM) : Nat → Nat → Int32 → Int32
  | 0, _, _ => 0
  | m + 1, j, v2 => (if (60 : Int32) ≤ v2 then (nI j) else (if (60 : Int32) ≤ (nI j) then (nI j) else (l_X8_daysDayByDay k i M m (j + 1) (v2 + (r_X8_riseAt M k i)))))
set_option maxRecDepth 100000 in
set_option maxHeartbeats 4000000 in
theorem lp_X8_daysDayByDay {G : fG} (hG : fOK G) {d : Nat} (hd : 3 ≤ d) (M : fM) (dv : UInt64) (k : Nat) (i : Int32) (hk : rState k) : ∀ (m j : Nat) (v2 : Int32), j ≤ 60 → 60 + 1 ≤ j + m → fV G z_X8_daysDayByDay d (fD (some (.int (l_X8_daysDayByDay k i M m j v2))) (sS M dv)) 14 [some (.ref k), some (.int i), some (.int v2), some (.int (nI j))] [] (sS M dv) 0 0 := by
  intro m
  induction m with
  | zero => intros; omega
  | succ m ih =>
    intro j v2 hj hm
    refine f_iload_n dX8_daysDayByDay_14 rfl rfl ?_
    refine f_bipush (v := 60) dX8_daysDayByDay_15 (by decide) ?_
    refine f_icmp_ge (tgt := 40) dX8_daysDayByDay_17 (by decide) (fun c_17 => ?_) (fun c_17 => ?_)
    · refine f_iload_n dX8_daysDayByDay_40 rfl rfl ?_
      refine f_ireturn dX8_daysDayByDay_41 rfl rfl ?_
      exact ⟨by rw [l_X8_daysDayByDay, if_pos c_17], rfl⟩
    · refine f_iload_n dX8_daysDayByDay_20 rfl rfl ?_
      refine f_bipush (v := 60) dX8_daysDayByDay_21 (by decide) ?_
      refine f_icmp_ge (tgt := 40) dX8_daysDayByDay_23 (by decide) (fun c_23 => ?_) (fun c_23 => ?_)
      · refine f_iload_n dX8_daysDayByDay_40 rfl rfl ?_
        refine f_ireturn dX8_daysDayByDay_41 rfl rfl ?_
        exact ⟨by rw [l_X8_daysDayByDay, if_neg c_17, if_pos c_23], rfl⟩
      · have hlt : j < 60 := nlt (N := 60) rfl c_23 hj (by omega)
        refine f_iload_n dX8_daysDayByDay_26 rfl rfl ?_
        refine f_aload_n dX8_daysDayByDay_27 rfl rfl ?_
        refine f_iload_n dX8_daysDayByDay_28 rfl rfl ?_
        refine f_cV hG (As := [_]) dX8_daysDayByDay_29 rfl k_X8_riseAt rfl rfl ml_X8_107 im_X8_riseAt se_X8_riseAt hk.1 rfl (c_X8_riseAt hG (d := 2) (Nat.le_refl _) _ _ _ _ hk) (by omega) (Nat.le_of_ble_eq_true rfl) (Nat.zero_le _) (Nat.zero_le _) ?_
        refine f_iadd dX8_daysDayByDay_32 ?_
        refine f_istore_n (ls' := [_, _, _, _]) dX8_daysDayByDay_33 rfl (Nat.le_of_ble_eq_true rfl) rfl rfl ?_
        refine f_iinc (v := nI (j + 1)) (ls' := [_, _, _, _]) dX8_daysDayByDay_34 rfl (nI_1 j) (Nat.le_of_ble_eq_true rfl) rfl rfl ?_
        refine f_goto (tgt := 14) dX8_daysDayByDay_37 (by decide) ?_
        have e9 : l_X8_daysDayByDay k i M (m + 1) j v2 = l_X8_daysDayByDay k i M m (j + 1) (v2 + (r_X8_riseAt M k i)) := by rw [l_X8_daysDayByDay, if_neg c_17, if_neg c_23]
        rw [e9]
        exact ih (j + 1) (v2 + (r_X8_riseAt M k i)) (by omega) (by omega)
def r_X8_daysDayByDay (M : fM) (k : Nat) (i : Int32) : Int32 := (l_X8_daysDayByDay k i M 61 0 (rget M (k + 11 + 11) 8 i))
set_option maxRecDepth 100000 in
set_option maxHeartbeats 4000000 in
theorem c_X8_daysDayByDay {G : fG} (hG : fOK G) {d : Nat} (hd : 3 ≤ d) (M : fM) (dv : UInt64) (k : Nat) (i : Int32) (hk : rState k) : fCt G z_X8_daysDayByDay d [.ref k, .int i] (sS M dv) 0 0 (fD (some (.int (r_X8_daysDayByDay M k i))) (sS M dv)) := by
  refine fCt_to [some (.ref k), some (.int i), none, none] k_X8_daysDayByDay rfl (Nat.le_of_ble_eq_true rfl) rfl ?_
  refine f_aload_n dX8_daysDayByDay_0 rfl rfl ?_
  refine s_getr hG fl_X8_28 dX8_daysDayByDay_1 hk.1 rfl ?_
  refine s_getr hG fl_X8_98 dX8_daysDayByDay_4 hk.2.2.2.1 rfl ?_
  refine f_iload_n dX8_daysDayByDay_7 rfl rfl ?_
  refine f_cV hG (As := [_]) dX8_daysDayByDay_8 rfl k_X7_get rfl rfl ml_X8_102 im_X7_get se_X7_get hk.2.2.2.2.2.2.2.2.2.1 rfl (c_X7_get hG (Nat.le_refl _) _ _ _ _ hk.2.2.2.2.2.2.2.2.2 (by decide) _) (by omega) (Nat.le_of_ble_eq_true rfl) (Nat.zero_le _) (Nat.zero_le _) ?_
  refine f_istore_n (ls' := [_, _, _, _]) dX8_daysDayByDay_11 rfl (Nat.le_of_ble_eq_true rfl) rfl rfl ?_
  refine f_iconst (v := 0) dX8_daysDayByDay_12 rfl ?_
  refine f_istore_n (ls' := [_, _, _, _]) dX8_daysDayByDay_13 rfl (Nat.le_of_ble_eq_true rfl) rfl rfl ?_
  exact lp_X8_daysDayByDay hG hd _ dv k i hk 61 0 _ (by omega) (by omega)

def r_X8_daysDivided (M : fM) (k : Nat) (i : Int32) : Int32 := (if (r_X8_riseAt M k i) ≤ 0 then (0 : Int32) else (((((60 : Int32) - (rget M (k + 11 + 11) 8 i)) + (r_X8_riseAt M k i)) - (1 : Int32)) / (r_X8_riseAt M k i)))
set_option maxRecDepth 100000 in
set_option maxHeartbeats 4000000 in
theorem c_X8_daysDivided {G : fG} (hG : fOK G) {d : Nat} (hd : 3 ≤ d) (M : fM) (dv : UInt64) (k : Nat) (i : Int32) (hk : rState k) : fCt G z_X8_daysDivided d [.ref k, .int i] (sS M dv) 0 0 (fD (some (.int (r_X8_daysDivided M k i))) (sS M dv)) := by
  refine fCt_to [some (.ref k), some (.int i), none, none] k_X8_daysDivided rfl (Nat.le_of_ble_eq_true rfl) rfl ?_
  refine f_bipush (v := 60) dX8_daysDivided_0 (by decide) ?_
  refine f_aload_n dX8_daysDivided_2 rfl rfl ?_
  refine s_getr hG fl_X8_28 dX8_daysDivided_3 hk.1 rfl ?_
  refine s_getr hG fl_X8_98 dX8_daysDivided_6 hk.2.2.2.1 rfl ?_
  refine f_iload_n dX8_daysDivided_9 rfl rfl ?_
  refine f_cV hG (As := [_]) dX8_daysDivided_10 rfl k_X7_get rfl rfl ml_X8_102 im_X7_get se_X7_get hk.2.2.2.2.2.2.2.2.2.1 rfl (c_X7_get hG (Nat.le_refl _) _ _ _ _ hk.2.2.2.2.2.2.2.2.2 (by decide) _) (by omega) (Nat.le_of_ble_eq_true rfl) (Nat.zero_le _) (Nat.zero_le _) ?_
  refine f_isub dX8_daysDivided_13 ?_
  refine f_istore_n (ls' := [_, _, _, _]) dX8_daysDivided_14 rfl (Nat.le_of_ble_eq_true rfl) rfl rfl ?_
  refine f_aload_n dX8_daysDivided_15 rfl rfl ?_
  refine f_iload_n dX8_daysDivided_16 rfl rfl ?_
  refine f_cV hG (As := [_]) dX8_daysDivided_17 rfl k_X8_riseAt rfl rfl ml_X8_107 im_X8_riseAt se_X8_riseAt hk.1 rfl (c_X8_riseAt hG (d := 2) (Nat.le_refl _) _ _ _ _ hk) (by omega) (Nat.le_of_ble_eq_true rfl) (Nat.zero_le _) (Nat.zero_le _) ?_
  refine f_istore_n (ls' := [_, _, _, _]) dX8_daysDivided_20 rfl (Nat.le_of_ble_eq_true rfl) rfl rfl ?_
  refine f_iload_n dX8_daysDivided_21 rfl rfl ?_
  refine f_if_le (tgt := 35) dX8_daysDivided_22 (by decide) (fun c_22 => ?_) (fun c_22 => ?_)
  · refine f_iconst (v := 0) dX8_daysDivided_35 rfl ?_
    refine f_ireturn dX8_daysDivided_36 rfl rfl ?_
    exact ⟨by rw [r_X8_daysDivided, if_pos c_22], rfl⟩
  · refine f_iload_n dX8_daysDivided_25 rfl rfl ?_
    refine f_iload_n dX8_daysDivided_26 rfl rfl ?_
    refine f_iadd dX8_daysDivided_27 ?_
    refine f_iconst (v := 1) dX8_daysDivided_28 rfl ?_
    refine f_isub dX8_daysDivided_29 ?_
    refine f_iload_n dX8_daysDivided_30 rfl rfl ?_
    refine f_idiv dX8_daysDivided_31 (fun h => by rw [h] at c_22; exact c_22 (Int32.le_refl _)) ?_
    refine f_goto (tgt := 36) dX8_daysDivided_32 (by decide) ?_
    refine f_ireturn dX8_daysDivided_36 rfl rfl ?_
    exact ⟨by rw [r_X8_daysDivided, if_neg c_22], rfl⟩

def l_X8_lotsOfBatch (k : Nat) (b : Int32) (M : fM) : Nat → Nat → Int32 → Int32
  | 0, _, _ => 0
  | m + 1, j, v2 => (if (M (k + 11) 6) ≤ (nI j) then v2 else (if (rget M (k + 11 + 3) 8 (nI j)) = b then (l_X8_lotsOfBatch k b M m (j + 1) (v2 ||| ((1 : Int32) <<< ((nI j) &&& 31)))) else (if (rget M (k + 11 + 5) 8 (nI j)) = b then (l_X8_lotsOfBatch k b M m (j + 1) (v2 ||| ((1 : Int32) <<< ((nI j) &&& 31)))) else (l_X8_lotsOfBatch k b M m (j + 1) v2))))
set_option maxRecDepth 100000 in
set_option maxHeartbeats 4000000 in
theorem lp_X8_lotsOfBatch {G : fG} (hG : fOK G) {d : Nat} (hd : 1 ≤ d) (M : fM) (dv : UInt64) (k : Nat) (b : Int32) (hk : rState k) (N : Nat) (hN : (M (k + 11) 6) = nI N) (hN2 : N < 300) : ∀ (m j : Nat) (v2 : Int32), j ≤ N → N + 1 ≤ j + m → fV G z_X8_lotsOfBatch d (fD (some (.int (l_X8_lotsOfBatch k b M m j v2))) (sS M dv)) 4 [some (.ref k), some (.int b), some (.int v2), some (.int (nI j))] [] (sS M dv) 0 0 := by
  intro m
  induction m with
  | zero => intros; omega
  | succ m ih =>
    intro j v2 hj hm
    refine f_iload_n dX8_lotsOfBatch_4 rfl rfl ?_
    refine f_aload_n dX8_lotsOfBatch_5 rfl rfl ?_
    refine s_getr hG fl_X8_28 dX8_lotsOfBatch_6 hk.1 rfl ?_
    refine s_geti hG fl_X8_79 dX8_lotsOfBatch_9 hk.2.2.2.1 rfl ?_
    refine f_icmp_ge (tgt := 57) dX8_lotsOfBatch_12 (by decide) (fun c_12 => ?_) (fun c_12 => ?_)
    · refine f_iload_n dX8_lotsOfBatch_57 rfl rfl ?_
      refine f_ireturn dX8_lotsOfBatch_58 rfl rfl ?_
      exact ⟨by rw [l_X8_lotsOfBatch, if_pos c_12], rfl⟩
    · have hlt : j < N := nlt hN c_12 hj (by omega)
      refine f_aload_n dX8_lotsOfBatch_15 rfl rfl ?_
      refine s_getr hG fl_X8_28 dX8_lotsOfBatch_16 hk.1 rfl ?_
      refine s_getr hG fl_X8_134 dX8_lotsOfBatch_19 hk.2.2.2.1 rfl ?_
      refine f_iload_n dX8_lotsOfBatch_22 rfl rfl ?_
      refine f_cV hG (As := [_]) dX8_lotsOfBatch_23 rfl k_X7_get rfl rfl ml_X8_102 im_X7_get se_X7_get hk.2.2.2.2.2.1.1 rfl (c_X7_get hG (Nat.le_refl _) _ _ _ _ hk.2.2.2.2.2.1 (by decide) _) (by omega) (Nat.le_of_ble_eq_true rfl) (Nat.zero_le _) (Nat.zero_le _) ?_
      refine f_iload_n dX8_lotsOfBatch_26 rfl rfl ?_
      refine f_icmp_eq (tgt := 45) dX8_lotsOfBatch_27 (by decide) (fun c_27 => ?_) (fun c_27 => ?_)
      · refine f_iload_n dX8_lotsOfBatch_45 rfl rfl ?_
        refine f_iconst (v := 1) dX8_lotsOfBatch_46 rfl ?_
        refine f_iload_n dX8_lotsOfBatch_47 rfl rfl ?_
        refine f_ishl dX8_lotsOfBatch_48 ?_
        refine f_ior dX8_lotsOfBatch_49 ?_
        refine f_istore_n (ls' := [_, _, _, _]) dX8_lotsOfBatch_50 rfl (Nat.le_of_ble_eq_true rfl) rfl rfl ?_
        refine f_iinc (v := nI (j + 1)) (ls' := [_, _, _, _]) dX8_lotsOfBatch_51 rfl (nI_1 j) (Nat.le_of_ble_eq_true rfl) rfl rfl ?_
        refine f_goto (tgt := 4) dX8_lotsOfBatch_54 (by decide) ?_
        have e9 : l_X8_lotsOfBatch k b M (m + 1) j v2 = l_X8_lotsOfBatch k b M m (j + 1) (v2 ||| ((1 : Int32) <<< ((nI j) &&& 31))) := by rw [l_X8_lotsOfBatch, if_neg c_12, if_pos c_27]
        rw [e9]
        exact ih (j + 1) (v2 ||| ((1 : Int32) <<< ((nI j) &&& 31))) (by omega) (by omega)
      · refine f_aload_n dX8_lotsOfBatch_30 rfl rfl ?_
        refine s_getr hG fl_X8_28 dX8_lotsOfBatch_31 hk.1 rfl ?_
        refine s_getr hG fl_X8_137 dX8_lotsOfBatch_34 hk.2.2.2.1 rfl ?_
        refine f_iload_n dX8_lotsOfBatch_37 rfl rfl ?_
        refine f_cV hG (As := [_]) dX8_lotsOfBatch_38 rfl k_X7_get rfl rfl ml_X8_102 im_X7_get se_X7_get hk.2.2.2.2.2.2.1.1 rfl (c_X7_get hG (Nat.le_refl _) _ _ _ _ hk.2.2.2.2.2.2.1 (by decide) _) (by omega) (Nat.le_of_ble_eq_true rfl) (Nat.zero_le _) (Nat.zero_le _) ?_
        refine f_iload_n dX8_lotsOfBatch_41 rfl rfl ?_
        refine f_icmp_ne (tgt := 51) dX8_lotsOfBatch_42 (by decide) (fun c_42 => ?_) (fun c_42 => ?_)
        · refine f_iinc (v := nI (j + 1)) (ls' := [_, _, _, _]) dX8_lotsOfBatch_51 rfl (nI_1 j) (Nat.le_of_ble_eq_true rfl) rfl rfl ?_
          refine f_goto (tgt := 4) dX8_lotsOfBatch_54 (by decide) ?_
          have e9 : l_X8_lotsOfBatch k b M (m + 1) j v2 = l_X8_lotsOfBatch k b M m (j + 1) v2 := by rw [l_X8_lotsOfBatch, if_neg c_12, if_neg c_27, if_neg c_42]
          rw [e9]
          exact ih (j + 1) v2 (by omega) (by omega)
        · refine f_iload_n dX8_lotsOfBatch_45 rfl rfl ?_
          refine f_iconst (v := 1) dX8_lotsOfBatch_46 rfl ?_
          refine f_iload_n dX8_lotsOfBatch_47 rfl rfl ?_
          refine f_ishl dX8_lotsOfBatch_48 ?_
          refine f_ior dX8_lotsOfBatch_49 ?_
          refine f_istore_n (ls' := [_, _, _, _]) dX8_lotsOfBatch_50 rfl (Nat.le_of_ble_eq_true rfl) rfl rfl ?_
          refine f_iinc (v := nI (j + 1)) (ls' := [_, _, _, _]) dX8_lotsOfBatch_51 rfl (nI_1 j) (Nat.le_of_ble_eq_true rfl) rfl rfl ?_
          refine f_goto (tgt := 4) dX8_lotsOfBatch_54 (by decide) ?_
          have e9 : l_X8_lotsOfBatch k b M (m + 1) j v2 = l_X8_lotsOfBatch k b M m (j + 1) (v2 ||| ((1 : Int32) <<< ((nI j) &&& 31))) := by rw [l_X8_lotsOfBatch, if_neg c_12, if_neg c_27, if_pos c_42]
          rw [e9]
          exact ih (j + 1) (v2 ||| ((1 : Int32) <<< ((nI j) &&& 31))) (by omega) (by omega)
def r_X8_lotsOfBatch (M : fM) (k : Nat) (b : Int32) : Int32 := (l_X8_lotsOfBatch k b M 301 0 (0 : Int32))
set_option maxRecDepth 100000 in
set_option maxHeartbeats 4000000 in
theorem c_X8_lotsOfBatch {G : fG} (hG : fOK G) {d : Nat} (hd : 1 ≤ d) (M : fM) (dv : UInt64) (k : Nat) (b : Int32) (hk : rState k) (N : Nat) (hN : (M (k + 11) 6) = nI N) (hN2 : N < 300) : fCt G z_X8_lotsOfBatch d [.ref k, .int b] (sS M dv) 0 0 (fD (some (.int (r_X8_lotsOfBatch M k b))) (sS M dv)) := by
  refine fCt_to [some (.ref k), some (.int b), none, none] k_X8_lotsOfBatch rfl (Nat.le_of_ble_eq_true rfl) rfl ?_
  refine f_iconst (v := 0) dX8_lotsOfBatch_0 rfl ?_
  refine f_istore_n (ls' := [_, _, _, _]) dX8_lotsOfBatch_1 rfl (Nat.le_of_ble_eq_true rfl) rfl rfl ?_
  refine f_iconst (v := 0) dX8_lotsOfBatch_2 rfl ?_
  refine f_istore_n (ls' := [_, _, _, _]) dX8_lotsOfBatch_3 rfl (Nat.le_of_ble_eq_true rfl) rfl rfl ?_
  exact lp_X8_lotsOfBatch hG hd _ dv k b hk N hN hN2 301 0 _ (by omega) (by omega)

def l_X8_countFromSets (k : Nat) (a : Int32) (M : fM) : Nat → Nat → Int32 → Int32
  | 0, _, _ => 0
  | m + 1, j, v2 => (if (M (k + 11) 6) ≤ (nI j) then v2 else (if (r_X11_setHas M (r_X8_rawsAt M k (nI j)) a) = 0 then (l_X8_countFromSets k a M m (j + 1) v2) else (l_X8_countFromSets k a M m (j + 1) (v2 + 1))))
set_option maxRecDepth 100000 in
set_option maxHeartbeats 4000000 in
theorem lp_X8_countFromSets {G : fG} (hG : fOK G) {d : Nat} (hd : 2 ≤ d) (M : fM) (dv : UInt64) (k : Nat) (a : Int32) (hk : rState k) (N : Nat) (hN : (M (k + 11) 6) = nI N) (hN2 : N < 300) : ∀ (m j : Nat) (v2 : Int32), j ≤ N → N + 1 ≤ j + m → fV G z_X8_countFromSets d (fD (some (.int (l_X8_countFromSets k a M m j v2))) (sS M dv)) 4 [some (.ref k), some (.int a), some (.int v2), some (.int (nI j))] [] (sS M dv) 0 0 := by
  intro m
  induction m with
  | zero => intros; omega
  | succ m ih =>
    intro j v2 hj hm
    refine f_iload_n dX8_countFromSets_4 rfl rfl ?_
    refine f_aload_n dX8_countFromSets_5 rfl rfl ?_
    refine s_getr hG fl_X8_28 dX8_countFromSets_6 hk.1 rfl ?_
    refine s_geti hG fl_X8_79 dX8_countFromSets_9 hk.2.2.2.1 rfl ?_
    refine f_icmp_ge (tgt := 36) dX8_countFromSets_12 (by decide) (fun c_12 => ?_) (fun c_12 => ?_)
    · refine f_iload_n dX8_countFromSets_36 rfl rfl ?_
      refine f_ireturn dX8_countFromSets_37 rfl rfl ?_
      exact ⟨by rw [l_X8_countFromSets, if_pos c_12], rfl⟩
    · have hlt : j < N := nlt hN c_12 hj (by omega)
      refine f_aload_n dX8_countFromSets_15 rfl rfl ?_
      refine f_iload_n dX8_countFromSets_16 rfl rfl ?_
      refine f_cV hG (As := [_]) dX8_countFromSets_17 rfl k_X8_rawsAt rfl rfl ml_X8_124 im_X8_rawsAt se_X8_rawsAt hk.1 rfl (c_X8_rawsAt hG (d := 1) (Nat.le_refl _) _ _ _ _ hk) (by omega) (Nat.le_of_ble_eq_true rfl) (Nat.zero_le _) (Nat.zero_le _) ?_
      refine f_iload_n dX8_countFromSets_20 rfl rfl ?_
      refine f_cSN hG (As := [_, _]) dX8_countFromSets_21 rfl k_X11_setHas rfl rfl ml_X8_127 sm_X11_setHas (c_X11_setHas hG (d := 0) (Nat.le_refl _) _ _ _ _) (by omega) (Nat.le_of_ble_eq_true rfl) (Nat.zero_le _) (Nat.zero_le _) ?_
      refine f_if_eq (tgt := 30) dX8_countFromSets_24 (by decide) (fun c_24 => ?_) (fun c_24 => ?_)
      · refine f_iinc (v := nI (j + 1)) (ls' := [_, _, _, _]) dX8_countFromSets_30 rfl (nI_1 j) (Nat.le_of_ble_eq_true rfl) rfl rfl ?_
        refine f_goto (tgt := 4) dX8_countFromSets_33 (by decide) ?_
        have e9 : l_X8_countFromSets k a M (m + 1) j v2 = l_X8_countFromSets k a M m (j + 1) v2 := by rw [l_X8_countFromSets, if_neg c_12, if_pos c_24]
        rw [e9]
        exact ih (j + 1) v2 (by omega) (by omega)
      · refine f_iinc (v := v2 + 1) (ls' := [_, _, _, _]) dX8_countFromSets_27 rfl rfl (Nat.le_of_ble_eq_true rfl) rfl rfl ?_
        refine f_iinc (v := nI (j + 1)) (ls' := [_, _, _, _]) dX8_countFromSets_30 rfl (nI_1 j) (Nat.le_of_ble_eq_true rfl) rfl rfl ?_
        refine f_goto (tgt := 4) dX8_countFromSets_33 (by decide) ?_
        have e9 : l_X8_countFromSets k a M (m + 1) j v2 = l_X8_countFromSets k a M m (j + 1) (v2 + 1) := by rw [l_X8_countFromSets, if_neg c_12, if_neg c_24]
        rw [e9]
        exact ih (j + 1) (v2 + 1) (by omega) (by omega)
def r_X8_countFromSets (M : fM) (k : Nat) (a : Int32) : Int32 := (l_X8_countFromSets k a M 301 0 (0 : Int32))
set_option maxRecDepth 100000 in
set_option maxHeartbeats 4000000 in
theorem c_X8_countFromSets {G : fG} (hG : fOK G) {d : Nat} (hd : 2 ≤ d) (M : fM) (dv : UInt64) (k : Nat) (a : Int32) (hk : rState k) (N : Nat) (hN : (M (k + 11) 6) = nI N) (hN2 : N < 300) : fCt G z_X8_countFromSets d [.ref k, .int a] (sS M dv) 0 0 (fD (some (.int (r_X8_countFromSets M k a))) (sS M dv)) := by
  refine fCt_to [some (.ref k), some (.int a), none, none] k_X8_countFromSets rfl (Nat.le_of_ble_eq_true rfl) rfl ?_
  refine f_iconst (v := 0) dX8_countFromSets_0 rfl ?_
  refine f_istore_n (ls' := [_, _, _, _]) dX8_countFromSets_1 rfl (Nat.le_of_ble_eq_true rfl) rfl rfl ?_
  refine f_iconst (v := 0) dX8_countFromSets_2 rfl ?_
  refine f_istore_n (ls' := [_, _, _, _]) dX8_countFromSets_3 rfl (Nat.le_of_ble_eq_true rfl) rfl rfl ?_
  exact lp_X8_countFromSets hG hd _ dv k a hk N hN hN2 301 0 _ (by omega) (by omega)

def l_X8_countThroughBatches (k : Nat) (a : Int32) (M : fM) : Nat → Nat → Int32 → Int32 → Int32
  | 0, _, _, _ => 0
  | m + 1, j, v2, v3 => (if (M (k + 1) 4) ≤ (nI j) then v2 else (if (r_X11_setHas M (rget M (k + 1 + 1) 6 (nI j)) a) = 0 then (l_X8_countThroughBatches k a M m (j + 1) v2 v3) else (l_X8_countThroughBatches k a M m (j + 1) (v2 + (r_J6_bitCount_0f7a4 M ((r_X8_lotsOfBatch M k (nI j)) &&& (v3 ^^^ (-1 : Int32))))) (v3 ||| (r_X8_lotsOfBatch M k (nI j))))))
set_option maxRecDepth 100000 in
set_option maxHeartbeats 4000000 in
theorem lp_X8_countThroughBatches {G : fG} (hG : fOK G) {d : Nat} (hd : 2 ≤ d) (M : fM) (dv : UInt64) (k : Nat) (a : Int32) (hk : rState k) (N : Nat) (hN : (M (k + 1) 4) = nI N) (hN2 : N < 300) (C : Nat) (hC : (M (k + 11) 6) = nI C) (hC2 : C < 300) : ∀ (m j : Nat) (v2 : Int32) (v3 : Int32), j ≤ N → N + 1 ≤ j + m → fV G z_X8_countThroughBatches d (fD (some (.int (l_X8_countThroughBatches k a M m j v2 v3))) (sS M dv)) 7 [some (.ref k), some (.int a), some (.int v2), some (.int v3), some (.int (nI j)), none] [] (sS M dv) 0 0 := by
  intro m
  induction m with
  | zero => intros; omega
  | succ m ih =>
    intro j v2 v3 hj hm
    refine f_iload dX8_countThroughBatches_7 rfl ?_
    refine f_aload_n dX8_countThroughBatches_9 rfl rfl ?_
    refine s_getr hG fl_X8_12 dX8_countThroughBatches_10 hk.1 rfl ?_
    refine s_geti hG fl_X8_55 dX8_countThroughBatches_13 hk.2.1.1 rfl ?_
    refine f_icmp_ge (tgt := 69) dX8_countThroughBatches_16 (by decide) (fun c_16 => ?_) (fun c_16 => ?_)
    · refine f_iload_n dX8_countThroughBatches_69 rfl rfl ?_
      refine f_ireturn dX8_countThroughBatches_70 rfl rfl ?_
      exact ⟨by rw [l_X8_countThroughBatches, if_pos c_16], rfl⟩
    · have hlt : j < N := nlt hN c_16 hj (by omega)
      refine f_aload_n dX8_countThroughBatches_19 rfl rfl ?_
      refine s_getr hG fl_X8_12 dX8_countThroughBatches_20 hk.1 rfl ?_
      refine s_getr hG fl_X8_140 dX8_countThroughBatches_23 hk.2.1.1 rfl ?_
      refine f_iload dX8_countThroughBatches_26 rfl ?_
      refine f_cV hG (As := [_]) dX8_countThroughBatches_28 rfl k_X7_get rfl rfl ml_X8_102 im_X7_get se_X7_get hk.2.1.2.1.1 rfl (c_X7_get hG (Nat.le_refl _) _ _ _ _ hk.2.1.2.1 (by decide) _) (by omega) (Nat.le_of_ble_eq_true rfl) (Nat.zero_le _) (Nat.zero_le _) ?_
      refine f_iload_n dX8_countThroughBatches_31 rfl rfl ?_
      refine f_cSN hG (As := [_, _]) dX8_countThroughBatches_32 rfl k_X11_setHas rfl rfl ml_X8_127 sm_X11_setHas (c_X11_setHas hG (d := 0) (Nat.le_refl _) _ _ _ _) (by omega) (Nat.le_of_ble_eq_true rfl) (Nat.zero_le _) (Nat.zero_le _) ?_
      refine f_if_eq (tgt := 63) dX8_countThroughBatches_35 (by decide) (fun c_35 => ?_) (fun c_35 => ?_)
      · refine f_iinc (v := nI (j + 1)) (ls' := [_, _, _, _, _, _]) dX8_countThroughBatches_63 rfl (nI_1 j) (Nat.le_of_ble_eq_true rfl) rfl rfl ?_
        refine f_goto (tgt := 7) dX8_countThroughBatches_66 (by decide) ?_
        have e9 : l_X8_countThroughBatches k a M (m + 1) j v2 v3 = l_X8_countThroughBatches k a M m (j + 1) v2 v3 := by rw [l_X8_countThroughBatches, if_neg c_16, if_pos c_35]
        rw [e9]
        refine f_drop 5 ?_
        exact ih (j + 1) v2 v3 (by omega) (by omega)
      · refine f_aload_n dX8_countThroughBatches_38 rfl rfl ?_
        refine f_iload dX8_countThroughBatches_39 rfl ?_
        refine f_cV hG (As := [_]) dX8_countThroughBatches_41 rfl k_X8_lotsOfBatch rfl rfl ml_X8_146 im_X8_lotsOfBatch se_X8_lotsOfBatch hk.1 rfl (c_X8_lotsOfBatch hG (d := 1) (Nat.le_refl _) _ _ _ _ hk _ (by assumption) (by omega)) (by omega) (Nat.le_of_ble_eq_true rfl) (Nat.zero_le _) (Nat.zero_le _) ?_
        refine f_istore (ls' := [_, _, _, _, _, _]) dX8_countThroughBatches_44 (Nat.le_of_ble_eq_true rfl) rfl rfl ?_
        refine f_iload_n dX8_countThroughBatches_46 rfl rfl ?_
        refine f_iload dX8_countThroughBatches_47 rfl ?_
        refine f_iload_n dX8_countThroughBatches_49 rfl rfl ?_
        refine f_iconst (v := (-1)) dX8_countThroughBatches_50 rfl ?_
        refine f_ixor dX8_countThroughBatches_51 ?_
        refine f_iand dX8_countThroughBatches_52 ?_
        refine f_cS hG (As := [_]) dX8_countThroughBatches_53 rfl k_J6_bitCount_0f7a4 rfl rfl ml_X8_149 sm_J6_bitCount_0f7a4 (c_J6_bitCount_0f7a4 hG (d := 0) (Nat.le_refl _) _ _ _) (by omega) (Nat.le_of_ble_eq_true rfl) (Nat.zero_le _) (Nat.zero_le _) ?_
        refine f_iadd dX8_countThroughBatches_56 ?_
        refine f_istore_n (ls' := [_, _, _, _, _, _]) dX8_countThroughBatches_57 rfl (Nat.le_of_ble_eq_true rfl) rfl rfl ?_
        refine f_iload_n dX8_countThroughBatches_58 rfl rfl ?_
        refine f_iload dX8_countThroughBatches_59 rfl ?_
        refine f_ior dX8_countThroughBatches_61 ?_
        refine f_istore_n (ls' := [_, _, _, _, _, _]) dX8_countThroughBatches_62 rfl (Nat.le_of_ble_eq_true rfl) rfl rfl ?_
        refine f_iinc (v := nI (j + 1)) (ls' := [_, _, _, _, _, _]) dX8_countThroughBatches_63 rfl (nI_1 j) (Nat.le_of_ble_eq_true rfl) rfl rfl ?_
        refine f_goto (tgt := 7) dX8_countThroughBatches_66 (by decide) ?_
        have e9 : l_X8_countThroughBatches k a M (m + 1) j v2 v3 = l_X8_countThroughBatches k a M m (j + 1) (v2 + (r_J6_bitCount_0f7a4 M ((r_X8_lotsOfBatch M k (nI j)) &&& (v3 ^^^ (-1 : Int32))))) (v3 ||| (r_X8_lotsOfBatch M k (nI j))) := by rw [l_X8_countThroughBatches, if_neg c_16, if_neg c_35]
        rw [e9]
        refine f_drop 5 ?_
        exact ih (j + 1) (v2 + (r_J6_bitCount_0f7a4 M ((r_X8_lotsOfBatch M k (nI j)) &&& (v3 ^^^ (-1 : Int32))))) (v3 ||| (r_X8_lotsOfBatch M k (nI j))) (by omega) (by omega)
def r_X8_countThroughBatches (M : fM) (k : Nat) (a : Int32) : Int32 := (l_X8_countThroughBatches k a M 301 0 (0 : Int32) (0 : Int32))
set_option maxRecDepth 100000 in
set_option maxHeartbeats 4000000 in
theorem c_X8_countThroughBatches {G : fG} (hG : fOK G) {d : Nat} (hd : 2 ≤ d) (M : fM) (dv : UInt64) (k : Nat) (a : Int32) (hk : rState k) (N : Nat) (hN : (M (k + 1) 4) = nI N) (hN2 : N < 300) (C : Nat) (hC : (M (k + 11) 6) = nI C) (hC2 : C < 300) : fCt G z_X8_countThroughBatches d [.ref k, .int a] (sS M dv) 0 0 (fD (some (.int (r_X8_countThroughBatches M k a))) (sS M dv)) := by
  refine fCt_to [some (.ref k), some (.int a), none, none, none, none] k_X8_countThroughBatches rfl (Nat.le_of_ble_eq_true rfl) rfl ?_
  refine f_iconst (v := 0) dX8_countThroughBatches_0 rfl ?_
  refine f_istore_n (ls' := [_, _, _, _, _, _]) dX8_countThroughBatches_1 rfl (Nat.le_of_ble_eq_true rfl) rfl rfl ?_
  refine f_iconst (v := 0) dX8_countThroughBatches_2 rfl ?_
  refine f_istore_n (ls' := [_, _, _, _, _, _]) dX8_countThroughBatches_3 rfl (Nat.le_of_ble_eq_true rfl) rfl rfl ?_
  refine f_iconst (v := 0) dX8_countThroughBatches_4 rfl ?_
  refine f_istore (ls' := [_, _, _, _, _, _]) dX8_countThroughBatches_5 (Nat.le_of_ble_eq_true rfl) rfl rfl ?_
  exact lp_X8_countThroughBatches hG hd _ dv k a hk N hN hN2 C hC hC2 301 0 _ _ (by omega) (by omega)

def m_X8_copyFrom (M : fM) (k : Nat) (k2 : Nat) : fM := (fst1 (fst1 (fst1 (fst1 (fst1 (m_X5_copyFrom (m_X6_copyFrom (m_X0_copyFrom M (k + 1) (k2 + 1)) (k + 6) (k2 + 6)) (k + 11) (k2 + 11)) k 3 ((m_X5_copyFrom (m_X6_copyFrom (m_X0_copyFrom M (k + 1) (k2 + 1)) (k + 6) (k2 + 6)) (k + 11) (k2 + 11)) k2 3)) k 4 ((fst1 (m_X5_copyFrom (m_X6_copyFrom (m_X0_copyFrom M (k + 1) (k2 + 1)) (k + 6) (k2 + 6)) (k + 11) (k2 + 11)) k 3 ((m_X5_copyFrom (m_X6_copyFrom (m_X0_copyFrom M (k + 1) (k2 + 1)) (k + 6) (k2 + 6)) (k + 11) (k2 + 11)) k2 3)) k2 4)) k 5 ((fst1 (fst1 (m_X5_copyFrom (m_X6_copyFrom (m_X0_copyFrom M (k + 1) (k2 + 1)) (k + 6) (k2 + 6)) (k + 11) (k2 + 11)) k 3 ((m_X5_copyFrom (m_X6_copyFrom (m_X0_copyFrom M (k + 1) (k2 + 1)) (k + 6) (k2 + 6)) (k + 11) (k2 + 11)) k2 3)) k 4 ((fst1 (m_X5_copyFrom (m_X6_copyFrom (m_X0_copyFrom M (k + 1) (k2 + 1)) (k + 6) (k2 + 6)) (k + 11) (k2 + 11)) k 3 ((m_X5_copyFrom (m_X6_copyFrom (m_X0_copyFrom M (k + 1) (k2 + 1)) (k + 6) (k2 + 6)) (k + 11) (k2 + 11)) k2 3)) k2 4)) k2 5)) k 6 ((fst1 (fst1 (fst1 (m_X5_copyFrom (m_X6_copyFrom (m_X0_copyFrom M (k + 1) (k2 + 1)) (k + 6) (k2 + 6)) (k + 11) (k2 + 11)) k 3 ((m_X5_copyFrom (m_X6_copyFrom (m_X0_copyFrom M (k + 1) (k2 + 1)) (k + 6) (k2 + 6)) (k + 11) (k2 + 11)) k2 3)) k 4 ((fst1 (m_X5_copyFrom (m_X6_copyFrom (m_X0_copyFrom M (k + 1) (k2 + 1)) (k + 6) (k2 + 6)) (k + 11) (k2 + 11)) k 3 ((m_X5_copyFrom (m_X6_copyFrom (m_X0_copyFrom M (k + 1) (k2 + 1)) (k + 6) (k2 + 6)) (k + 11) (k2 + 11)) k2 3)) k2 4)) k 5 ((fst1 (fst1 (m_X5_copyFrom (m_X6_copyFrom (m_X0_copyFrom M (k + 1) (k2 + 1)) (k + 6) (k2 + 6)) (k + 11) (k2 + 11)) k 3 ((m_X5_copyFrom (m_X6_copyFrom (m_X0_copyFrom M (k + 1) (k2 + 1)) (k + 6) (k2 + 6)) (k + 11) (k2 + 11)) k2 3)) k 4 ((fst1 (m_X5_copyFrom (m_X6_copyFrom (m_X0_copyFrom M (k + 1) (k2 + 1)) (k + 6) (k2 + 6)) (k + 11) (k2 + 11)) k 3 ((m_X5_copyFrom (m_X6_copyFrom (m_X0_copyFrom M (k + 1) (k2 + 1)) (k + 6) (k2 + 6)) (k + 11) (k2 + 11)) k2 3)) k2 4)) k2 5)) k2 6)) k 7 ((fst1 (fst1 (fst1 (fst1 (m_X5_copyFrom (m_X6_copyFrom (m_X0_copyFrom M (k + 1) (k2 + 1)) (k + 6) (k2 + 6)) (k + 11) (k2 + 11)) k 3 ((m_X5_copyFrom (m_X6_copyFrom (m_X0_copyFrom M (k + 1) (k2 + 1)) (k + 6) (k2 + 6)) (k + 11) (k2 + 11)) k2 3)) k 4 ((fst1 (m_X5_copyFrom (m_X6_copyFrom (m_X0_copyFrom M (k + 1) (k2 + 1)) (k + 6) (k2 + 6)) (k + 11) (k2 + 11)) k 3 ((m_X5_copyFrom (m_X6_copyFrom (m_X0_copyFrom M (k + 1) (k2 + 1)) (k + 6) (k2 + 6)) (k + 11) (k2 + 11)) k2 3)) k2 4)) k 5 ((fst1 (fst1 (m_X5_copyFrom (m_X6_copyFrom (m_X0_copyFrom M (k + 1) (k2 + 1)) (k + 6) (k2 + 6)) (k + 11) (k2 + 11)) k 3 ((m_X5_copyFrom (m_X6_copyFrom (m_X0_copyFrom M (k + 1) (k2 + 1)) (k + 6) (k2 + 6)) (k + 11) (k2 + 11)) k2 3)) k 4 ((fst1 (m_X5_copyFrom (m_X6_copyFrom (m_X0_copyFrom M (k + 1) (k2 + 1)) (k + 6) (k2 + 6)) (k + 11) (k2 + 11)) k 3 ((m_X5_copyFrom (m_X6_copyFrom (m_X0_copyFrom M (k + 1) (k2 + 1)) (k + 6) (k2 + 6)) (k + 11) (k2 + 11)) k2 3)) k2 4)) k2 5)) k 6 ((fst1 (fst1 (fst1 (m_X5_copyFrom (m_X6_copyFrom (m_X0_copyFrom M (k + 1) (k2 + 1)) (k + 6) (k2 + 6)) (k + 11) (k2 + 11)) k 3 ((m_X5_copyFrom (m_X6_copyFrom (m_X0_copyFrom M (k + 1) (k2 + 1)) (k + 6) (k2 + 6)) (k + 11) (k2 + 11)) k2 3)) k 4 ((fst1 (m_X5_copyFrom (m_X6_copyFrom (m_X0_copyFrom M (k + 1) (k2 + 1)) (k + 6) (k2 + 6)) (k + 11) (k2 + 11)) k 3 ((m_X5_copyFrom (m_X6_copyFrom (m_X0_copyFrom M (k + 1) (k2 + 1)) (k + 6) (k2 + 6)) (k + 11) (k2 + 11)) k2 3)) k2 4)) k 5 ((fst1 (fst1 (m_X5_copyFrom (m_X6_copyFrom (m_X0_copyFrom M (k + 1) (k2 + 1)) (k + 6) (k2 + 6)) (k + 11) (k2 + 11)) k 3 ((m_X5_copyFrom (m_X6_copyFrom (m_X0_copyFrom M (k + 1) (k2 + 1)) (k + 6) (k2 + 6)) (k + 11) (k2 + 11)) k2 3)) k 4 ((fst1 (m_X5_copyFrom (m_X6_copyFrom (m_X0_copyFrom M (k + 1) (k2 + 1)) (k + 6) (k2 + 6)) (k + 11) (k2 + 11)) k 3 ((m_X5_copyFrom (m_X6_copyFrom (m_X0_copyFrom M (k + 1) (k2 + 1)) (k + 6) (k2 + 6)) (k + 11) (k2 + 11)) k2 3)) k2 4)) k2 5)) k2 6)) k2 7))
set_option maxRecDepth 100000 in
set_option maxHeartbeats 4000000 in
theorem c_X8_copyFrom {G : fG} (hG : fOK G) {d : Nat} (hd : 2 ≤ d) (M : fM) (dv : UInt64) (k : Nat) (k2 : Nat) (hk : rState k) (hk2 : rState k2) : fCt G z_X8_copyFrom d [.ref k, .ref k2] (sS M dv) 0 0 (fD none (sS (m_X8_copyFrom M k k2) dv)) := by
  refine fCt_to [some (.ref k), some (.ref k2)] k_X8_copyFrom rfl (Nat.le_of_ble_eq_true rfl) rfl ?_
  refine f_aload_n dX8_copyFrom_0 rfl rfl ?_
  refine s_getr hG fl_X8_12 dX8_copyFrom_1 hk.1 rfl ?_
  refine f_aload_n dX8_copyFrom_4 rfl rfl ?_
  refine s_getr hG fl_X8_12 dX8_copyFrom_5 hk2.1 rfl ?_
  refine f_cV hG (As := [_]) dX8_copyFrom_8 rfl k_X0_copyFrom rfl rfl ml_X8_154 im_X0_copyFrom se_X0_copyFrom hk.2.1.1 rfl (c_X0_copyFrom hG (d := 1) (Nat.le_refl _) _ _ _ _ hk.2.1 hk2.2.1) (by omega) (Nat.le_of_ble_eq_true rfl) (Nat.zero_le _) (Nat.zero_le _) ?_
  refine f_aload_n dX8_copyFrom_11 rfl rfl ?_
  refine s_getr hG fl_X8_21 dX8_copyFrom_12 hk.1 rfl ?_
  refine f_aload_n dX8_copyFrom_15 rfl rfl ?_
  refine s_getr hG fl_X8_21 dX8_copyFrom_16 hk2.1 rfl ?_
  refine f_cV hG (As := [_]) dX8_copyFrom_19 rfl k_X6_copyFrom rfl rfl ml_X8_158 im_X6_copyFrom se_X6_copyFrom hk.2.2.1.1 rfl (c_X6_copyFrom hG (d := 1) (Nat.le_refl _) _ _ _ _ hk.2.2.1 hk2.2.2.1) (by omega) (Nat.le_of_ble_eq_true rfl) (Nat.zero_le _) (Nat.zero_le _) ?_
  refine f_aload_n dX8_copyFrom_22 rfl rfl ?_
  refine s_getr hG fl_X8_28 dX8_copyFrom_23 hk.1 rfl ?_
  refine f_aload_n dX8_copyFrom_26 rfl rfl ?_
  refine s_getr hG fl_X8_28 dX8_copyFrom_27 hk2.1 rfl ?_
  refine f_cV hG (As := [_]) dX8_copyFrom_30 rfl k_X5_copyFrom rfl rfl ml_X8_161 im_X5_copyFrom se_X5_copyFrom hk.2.2.2.1 rfl (c_X5_copyFrom hG (d := 1) (Nat.le_refl _) _ _ _ _ hk.2.2.2 hk2.2.2.2) (by omega) (Nat.le_of_ble_eq_true rfl) (Nat.zero_le _) (Nat.zero_le _) ?_
  refine f_aload_n dX8_copyFrom_33 rfl rfl ?_
  refine f_aload_n dX8_copyFrom_34 rfl rfl ?_
  refine s_geti hG fl_X8_32 dX8_copyFrom_35 hk2.1 rfl ?_
  refine s_puti hG fl_X8_32 (Or.inl rfl) dX8_copyFrom_38 hk.1 rfl rfl rfl ?_
  refine f_aload_n dX8_copyFrom_41 rfl rfl ?_
  refine f_aload_n dX8_copyFrom_42 rfl rfl ?_
  refine s_geti hG fl_X8_36 dX8_copyFrom_43 hk2.1 rfl ?_
  refine s_puti hG fl_X8_36 (Or.inl rfl) dX8_copyFrom_46 hk.1 rfl rfl rfl ?_
  refine f_aload_n dX8_copyFrom_49 rfl rfl ?_
  refine f_aload_n dX8_copyFrom_50 rfl rfl ?_
  refine s_geti hG fl_X8_39 dX8_copyFrom_51 hk2.1 rfl ?_
  refine s_puti hG fl_X8_39 (Or.inl rfl) dX8_copyFrom_54 hk.1 rfl rfl rfl ?_
  refine f_aload_n dX8_copyFrom_57 rfl rfl ?_
  refine f_aload_n dX8_copyFrom_58 rfl rfl ?_
  refine s_geti hG fl_X8_42 dX8_copyFrom_59 hk2.1 rfl ?_
  refine s_puti hG fl_X8_42 (Or.inl rfl) dX8_copyFrom_62 hk.1 rfl rfl rfl ?_
  refine f_aload_n dX8_copyFrom_65 rfl rfl ?_
  refine f_aload_n dX8_copyFrom_66 rfl rfl ?_
  refine s_geti hG fl_X8_45 dX8_copyFrom_67 hk2.1 rfl ?_
  refine s_puti hG fl_X8_45 (Or.inl rfl) dX8_copyFrom_70 hk.1 rfl rfl rfl ?_
  refine f_return dX8_copyFrom_73 rfl ?_
  exact ⟨rfl, by rw [m_X8_copyFrom]⟩

def l_X8_passOneDay (k : Nat) : fM → Nat → Int32 → Int32 × fM
  | M, 0, v1 => (v1, M)
  | M, i + 1, v1 => (if ((rget M (k + 11 + 11) 8 (nI i)) + (r_X8_riseAt M k (nI i))) < (60 : Int32) then (l_X8_passOneDay k (rset M (k + 11 + 11) 8 (nI i) ((rget M (k + 11 + 11) 8 (nI i)) + (r_X8_riseAt M k (nI i)))) i v1) else (l_X8_passOneDay k (fst1 (m_X5_remove (rset M (k + 11 + 11) 8 (nI i) ((rget M (k + 11 + 11) 8 (nI i)) + (r_X8_riseAt M k (nI i)))) (k + 11) i) k 7 (((rset M (k + 11 + 11) 8 (nI i) ((rget M (k + 11 + 11) 8 (nI i)) + (r_X8_riseAt M k (nI i)))) k 7) + (r_X5_remove (rset M (k + 11 + 11) 8 (nI i) ((rget M (k + 11 + 11) 8 (nI i)) + (r_X8_riseAt M k (nI i)))) (k + 11) i))) i (v1 + 1)))
set_option maxRecDepth 100000 in
set_option maxHeartbeats 4000000 in
theorem lp_X8_passOneDay {G : fG} (hG : fOK G) {d : Nat} (hd : 3 ≤ d) (dv : UInt64) (k : Nat) (hk : rState k) : ∀ (j : Nat) (M : fM) (v1 : Int32), j ≤ 8 → fV G z_X8_passOneDay d (fD (some (.int (l_X8_passOneDay k M j v1).1)) (sS (l_X8_passOneDay k M j v1).2 dv)) 22 [some (.ref k), some (.int v1), some (.int (nI j - 1)), none] [] (sS M dv) 0 0 := by
  intro j
  induction j with
  | zero =>
    intro M v1 hj
    refine f_iload_n dX8_passOneDay_22 rfl rfl ?_
    refine f_if_lt (tgt := 88) dX8_passOneDay_23 (by decide) (fun c_23 => ?_) (fun c_23 => absurd (show (nI 0 - 1 : Int32) < 0 by decide) c_23)
    refine f_iload_n dX8_passOneDay_88 rfl rfl ?_
    refine f_ireturn dX8_passOneDay_89 rfl rfl ?_
    exact ⟨by rw [l_X8_passOneDay], by rw [l_X8_passOneDay]⟩
  | succ i ih =>
    intro M v1 hj
    refine f_cg (ls' := [some (.ref k), some (.int v1), some (.int (nI i)), none]) (by rw [nI_pred]) rfl rfl ?_
    refine f_iload_n dX8_passOneDay_22 rfl rfl ?_
    refine f_if_lt (tgt := 88) dX8_passOneDay_23 (by decide) (fun c_23 => absurd c_23 (nI_pos (by omega))) (fun c_23 => ?_)
    refine f_aload_n dX8_passOneDay_26 rfl rfl ?_
    refine s_getr hG fl_X8_28 dX8_passOneDay_27 hk.1 rfl ?_
    refine s_getr hG fl_X8_98 dX8_passOneDay_30 hk.2.2.2.1 rfl ?_
    refine f_iload_n dX8_passOneDay_33 rfl rfl ?_
    refine f_cV hG (As := [_]) dX8_passOneDay_34 rfl k_X7_get rfl rfl ml_X8_102 im_X7_get se_X7_get hk.2.2.2.2.2.2.2.2.2.1 rfl (c_X7_get hG (Nat.le_refl _) _ _ _ _ hk.2.2.2.2.2.2.2.2.2 (by decide) _) (by omega) (Nat.le_of_ble_eq_true rfl) (Nat.zero_le _) (Nat.zero_le _) ?_
    refine f_aload_n dX8_passOneDay_37 rfl rfl ?_
    refine f_iload_n dX8_passOneDay_38 rfl rfl ?_
    refine f_cV hG (As := [_]) dX8_passOneDay_39 rfl k_X8_riseAt rfl rfl ml_X8_107 im_X8_riseAt se_X8_riseAt hk.1 rfl (c_X8_riseAt hG (d := 2) (Nat.le_refl _) _ _ _ _ hk) (by omega) (Nat.le_of_ble_eq_true rfl) (Nat.zero_le _) (Nat.zero_le _) ?_
    refine f_iadd dX8_passOneDay_42 ?_
    refine f_istore_n (ls' := [_, _, _, _]) dX8_passOneDay_43 rfl (Nat.le_of_ble_eq_true rfl) rfl rfl ?_
    refine f_aload_n dX8_passOneDay_44 rfl rfl ?_
    refine s_getr hG fl_X8_28 dX8_passOneDay_45 hk.1 rfl ?_
    refine s_getr hG fl_X8_98 dX8_passOneDay_48 hk.2.2.2.1 rfl ?_
    refine f_iload_n dX8_passOneDay_51 rfl rfl ?_
    refine f_iload_n dX8_passOneDay_52 rfl rfl ?_
    refine f_cV hG (As := [_, _]) dX8_passOneDay_53 rfl k_X7_set rfl rfl ml_X8_110 im_X7_set se_X7_set hk.2.2.2.2.2.2.2.2.2.1 rfl (c_X7_set hG (Nat.le_refl _) _ _ _ _ hk.2.2.2.2.2.2.2.2.2 (by decide) _ _) (by omega) (Nat.le_of_ble_eq_true rfl) (Nat.zero_le _) (Nat.zero_le _) ?_
    refine f_iload_n dX8_passOneDay_56 rfl rfl ?_
    refine f_bipush (v := 60) dX8_passOneDay_57 (by decide) ?_
    refine f_icmp_lt (tgt := 82) dX8_passOneDay_59 (by decide) (fun c_59 => ?_) (fun c_59 => ?_)
    · refine f_iinc (v := nI i - 1) (ls' := [_, _, _, _]) dX8_passOneDay_82 rfl (dec1 _) (Nat.le_of_ble_eq_true rfl) rfl rfl ?_
      refine f_goto (tgt := 22) dX8_passOneDay_85 (by decide) ?_
      have e9 : l_X8_passOneDay k M (i + 1) v1 = l_X8_passOneDay k (rset M (k + 11 + 11) 8 (nI i) ((rget M (k + 11 + 11) 8 (nI i)) + (r_X8_riseAt M k (nI i)))) i v1 := by rw [l_X8_passOneDay, if_pos c_59]
      rw [e9]
      refine f_drop 3 ?_
      exact ih (rset M (k + 11 + 11) 8 (nI i) ((rget M (k + 11 + 11) 8 (nI i)) + (r_X8_riseAt M k (nI i)))) v1 (by omega)
    · refine f_aload_n dX8_passOneDay_62 rfl rfl ?_
      refine f_dup dX8_passOneDay_63 rfl ?_
      refine s_geti hG fl_X8_45 dX8_passOneDay_64 hk.1 rfl ?_
      refine f_aload_n dX8_passOneDay_67 rfl rfl ?_
      refine s_getr hG fl_X8_28 dX8_passOneDay_68 hk.1 rfl ?_
      refine f_iload_n dX8_passOneDay_71 rfl rfl ?_
      refine f_cV hG (As := [_]) dX8_passOneDay_72 rfl k_X5_remove rfl rfl ml_X8_91 im_X5_remove se_X5_remove hk.2.2.2.1 rfl (c_X5_remove hG (d := 1) (Nat.le_refl _) _ _ _ _ hk.2.2.2 (by omega)) (by omega) (Nat.le_of_ble_eq_true rfl) (Nat.zero_le _) (Nat.zero_le _) ?_
      refine f_iadd dX8_passOneDay_75 ?_
      refine s_puti hG fl_X8_45 (Or.inl rfl) dX8_passOneDay_76 hk.1 rfl rfl rfl ?_
      refine f_iinc (v := v1 + 1) (ls' := [_, _, _, _]) dX8_passOneDay_79 rfl rfl (Nat.le_of_ble_eq_true rfl) rfl rfl ?_
      refine f_iinc (v := nI i - 1) (ls' := [_, _, _, _]) dX8_passOneDay_82 rfl (dec1 _) (Nat.le_of_ble_eq_true rfl) rfl rfl ?_
      refine f_goto (tgt := 22) dX8_passOneDay_85 (by decide) ?_
      have e9 : l_X8_passOneDay k M (i + 1) v1 = l_X8_passOneDay k (fst1 (m_X5_remove (rset M (k + 11 + 11) 8 (nI i) ((rget M (k + 11 + 11) 8 (nI i)) + (r_X8_riseAt M k (nI i)))) (k + 11) i) k 7 (((rset M (k + 11 + 11) 8 (nI i) ((rget M (k + 11 + 11) 8 (nI i)) + (r_X8_riseAt M k (nI i)))) k 7) + (r_X5_remove (rset M (k + 11 + 11) 8 (nI i) ((rget M (k + 11 + 11) 8 (nI i)) + (r_X8_riseAt M k (nI i)))) (k + 11) i))) i (v1 + 1) := by rw [l_X8_passOneDay, if_neg c_59]
      rw [e9]
      refine f_drop 3 ?_
      exact ih (fst1 (m_X5_remove (rset M (k + 11 + 11) 8 (nI i) ((rget M (k + 11 + 11) 8 (nI i)) + (r_X8_riseAt M k (nI i)))) (k + 11) i) k 7 (((rset M (k + 11 + 11) 8 (nI i) ((rget M (k + 11 + 11) 8 (nI i)) + (r_X8_riseAt M k (nI i)))) k 7) + (r_X5_remove (rset M (k + 11 + 11) 8 (nI i) ((rget M (k + 11 + 11) 8 (nI i)) + (r_X8_riseAt M k (nI i)))) (k + 11) i))) (v1 + 1) (by omega)
def r_X8_passOneDay (M : fM) (k : Nat) (N : Nat) : Int32 := (l_X8_passOneDay k (fst1 M k 3 ((M k 3) + (1 : Int32))) N (0 : Int32)).1
def m_X8_passOneDay (M : fM) (k : Nat) (N : Nat) : fM := (l_X8_passOneDay k (fst1 M k 3 ((M k 3) + (1 : Int32))) N (0 : Int32)).2
set_option maxRecDepth 100000 in
set_option maxHeartbeats 4000000 in
theorem c_X8_passOneDay {G : fG} (hG : fOK G) {d : Nat} (hd : 3 ≤ d) (M : fM) (dv : UInt64) (k : Nat) (hk : rState k) (N : Nat) (hN : (M (k + 11) 6) = nI N) (hN2 : N ≤ 8) : fCt G z_X8_passOneDay d [.ref k] (sS M dv) 0 0 (fD (some (.int (r_X8_passOneDay M k N))) (sS (m_X8_passOneDay M k N) dv)) := by
  refine fCt_to [some (.ref k), none, none, none] k_X8_passOneDay rfl (Nat.le_of_ble_eq_true rfl) rfl ?_
  refine f_iconst (v := 0) dX8_passOneDay_0 rfl ?_
  refine f_istore_n (ls' := [_, _, _, _]) dX8_passOneDay_1 rfl (Nat.le_of_ble_eq_true rfl) rfl rfl ?_
  refine f_aload_n dX8_passOneDay_2 rfl rfl ?_
  refine f_dup dX8_passOneDay_3 rfl ?_
  refine s_geti hG fl_X8_32 dX8_passOneDay_4 hk.1 rfl ?_
  refine f_iconst (v := 1) dX8_passOneDay_7 rfl ?_
  refine f_iadd dX8_passOneDay_8 ?_
  refine s_puti hG fl_X8_32 (Or.inl rfl) dX8_passOneDay_9 hk.1 rfl rfl rfl ?_
  refine f_aload_n dX8_passOneDay_12 rfl rfl ?_
  refine s_getr hG fl_X8_28 dX8_passOneDay_13 hk.1 rfl ?_
  refine s_geti hG fl_X8_79 dX8_passOneDay_16 hk.2.2.2.1 rfl ?_
  refine f_iconst (v := 1) dX8_passOneDay_19 rfl ?_
  refine f_isub dX8_passOneDay_20 ?_
  refine f_istore_n (ls' := [_, _, _, _]) dX8_passOneDay_21 rfl (Nat.le_of_ble_eq_true rfl) rfl rfl ?_
  refine f_cg (ls' := [some (.ref k), some (.int (0 : Int32)), some (.int (nI N - 1)), none]) (by rw [fst1_ne (by omega), hN]) rfl rfl ?_
  exact lp_X8_passOneDay hG hd dv k hk N _ _ hN2

def l_X8_recallRaw (k : Nat) (a : Int32) : fM → Nat → Int32 → Int32 × fM
  | M, 0, v2 => (v2, M)
  | M, i + 1, v2 => (if (r_X11_setHas M (r_X8_rawsAt M k (nI i)) a) = 0 then (l_X8_recallRaw k a M i v2) else (l_X8_recallRaw k a (fst1 (m_X5_remove M (k + 11) i) k 6 ((M k 6) + (r_X5_remove M (k + 11) i))) i (v2 + 1)))
set_option maxRecDepth 100000 in
set_option maxHeartbeats 4000000 in
theorem lp_X8_recallRaw {G : fG} (hG : fOK G) {d : Nat} (hd : 2 ≤ d) (dv : UInt64) (k : Nat) (a : Int32) (hk : rState k) : ∀ (j : Nat) (M : fM) (v2 : Int32), j ≤ 8 → fV G z_X8_recallRaw d (fD (some (.int (l_X8_recallRaw k a M j v2).1)) (sS (l_X8_recallRaw k a M j v2).2 dv)) 20 [some (.ref k), some (.int a), some (.int v2), some (.int (nI j - 1))] [] (sS M dv) 0 0 := by
  intro j
  induction j with
  | zero =>
    intro M v2 hj
    refine f_iload_n dX8_recallRaw_20 rfl rfl ?_
    refine f_if_lt (tgt := 62) dX8_recallRaw_21 (by decide) (fun c_21 => ?_) (fun c_21 => absurd (show (nI 0 - 1 : Int32) < 0 by decide) c_21)
    refine f_iload_n dX8_recallRaw_62 rfl rfl ?_
    refine f_ireturn dX8_recallRaw_63 rfl rfl ?_
    exact ⟨by rw [l_X8_recallRaw], by rw [l_X8_recallRaw]⟩
  | succ i ih =>
    intro M v2 hj
    refine f_cg (ls' := [some (.ref k), some (.int a), some (.int v2), some (.int (nI i))]) (by rw [nI_pred]) rfl rfl ?_
    refine f_iload_n dX8_recallRaw_20 rfl rfl ?_
    refine f_if_lt (tgt := 62) dX8_recallRaw_21 (by decide) (fun c_21 => absurd c_21 (nI_pos (by omega))) (fun c_21 => ?_)
    refine f_aload_n dX8_recallRaw_24 rfl rfl ?_
    refine f_iload_n dX8_recallRaw_25 rfl rfl ?_
    refine f_cV hG (As := [_]) dX8_recallRaw_26 rfl k_X8_rawsAt rfl rfl ml_X8_124 im_X8_rawsAt se_X8_rawsAt hk.1 rfl (c_X8_rawsAt hG (d := 1) (Nat.le_refl _) _ _ _ _ hk) (by omega) (Nat.le_of_ble_eq_true rfl) (Nat.zero_le _) (Nat.zero_le _) ?_
    refine f_iload_n dX8_recallRaw_29 rfl rfl ?_
    refine f_cSN hG (As := [_, _]) dX8_recallRaw_30 rfl k_X11_setHas rfl rfl ml_X8_127 sm_X11_setHas (c_X11_setHas hG (d := 0) (Nat.le_refl _) _ _ _ _) (by omega) (Nat.le_of_ble_eq_true rfl) (Nat.zero_le _) (Nat.zero_le _) ?_
    refine f_if_eq (tgt := 56) dX8_recallRaw_33 (by decide) (fun c_33 => ?_) (fun c_33 => ?_)
    · refine f_iinc (v := nI i - 1) (ls' := [_, _, _, _]) dX8_recallRaw_56 rfl (dec1 _) (Nat.le_of_ble_eq_true rfl) rfl rfl ?_
      refine f_goto (tgt := 20) dX8_recallRaw_59 (by decide) ?_
      have e9 : l_X8_recallRaw k a M (i + 1) v2 = l_X8_recallRaw k a M i v2 := by rw [l_X8_recallRaw, if_pos c_33]
      rw [e9]
      exact ih M v2 (by omega)
    · refine f_aload_n dX8_recallRaw_36 rfl rfl ?_
      refine f_dup dX8_recallRaw_37 rfl ?_
      refine s_geti hG fl_X8_42 dX8_recallRaw_38 hk.1 rfl ?_
      refine f_aload_n dX8_recallRaw_41 rfl rfl ?_
      refine s_getr hG fl_X8_28 dX8_recallRaw_42 hk.1 rfl ?_
      refine f_iload_n dX8_recallRaw_45 rfl rfl ?_
      refine f_cV hG (As := [_]) dX8_recallRaw_46 rfl k_X5_remove rfl rfl ml_X8_91 im_X5_remove se_X5_remove hk.2.2.2.1 rfl (c_X5_remove hG (d := 1) (Nat.le_refl _) _ _ _ _ hk.2.2.2 (by omega)) (by omega) (Nat.le_of_ble_eq_true rfl) (Nat.zero_le _) (Nat.zero_le _) ?_
      refine f_iadd dX8_recallRaw_49 ?_
      refine s_puti hG fl_X8_42 (Or.inl rfl) dX8_recallRaw_50 hk.1 rfl rfl rfl ?_
      refine f_iinc (v := v2 + 1) (ls' := [_, _, _, _]) dX8_recallRaw_53 rfl rfl (Nat.le_of_ble_eq_true rfl) rfl rfl ?_
      refine f_iinc (v := nI i - 1) (ls' := [_, _, _, _]) dX8_recallRaw_56 rfl (dec1 _) (Nat.le_of_ble_eq_true rfl) rfl rfl ?_
      refine f_goto (tgt := 20) dX8_recallRaw_59 (by decide) ?_
      have e9 : l_X8_recallRaw k a M (i + 1) v2 = l_X8_recallRaw k a (fst1 (m_X5_remove M (k + 11) i) k 6 ((M k 6) + (r_X5_remove M (k + 11) i))) i (v2 + 1) := by rw [l_X8_recallRaw, if_neg c_33]
      rw [e9]
      exact ih (fst1 (m_X5_remove M (k + 11) i) k 6 ((M k 6) + (r_X5_remove M (k + 11) i))) (v2 + 1) (by omega)
def r_X8_recallRaw (M : fM) (k : Nat) (a : Int32) (N : Nat) : Int32 := (l_X8_recallRaw k a (m_X0_markFaulty M (k + 1) a) N (0 : Int32)).1
def m_X8_recallRaw (M : fM) (k : Nat) (a : Int32) (N : Nat) : fM := (l_X8_recallRaw k a (m_X0_markFaulty M (k + 1) a) N (0 : Int32)).2
set_option maxRecDepth 100000 in
set_option maxHeartbeats 4000000 in
theorem c_X8_recallRaw {G : fG} (hG : fOK G) {d : Nat} (hd : 2 ≤ d) (M : fM) (dv : UInt64) (k : Nat) (a : Int32) (hk : rState k) (N : Nat) (hN : (M (k + 11) 6) = nI N) (hN2 : N ≤ 8) : fCt G z_X8_recallRaw d [.ref k, .int a] (sS M dv) 0 0 (fD (some (.int (r_X8_recallRaw M k a N))) (sS (m_X8_recallRaw M k a N) dv)) := by
  refine fCt_to [some (.ref k), some (.int a), none, none] k_X8_recallRaw rfl (Nat.le_of_ble_eq_true rfl) rfl ?_
  refine f_iconst (v := 0) dX8_recallRaw_0 rfl ?_
  refine f_istore_n (ls' := [_, _, _, _]) dX8_recallRaw_1 rfl (Nat.le_of_ble_eq_true rfl) rfl rfl ?_
  refine f_aload_n dX8_recallRaw_2 rfl rfl ?_
  refine s_getr hG fl_X8_12 dX8_recallRaw_3 hk.1 rfl ?_
  refine f_iload_n dX8_recallRaw_6 rfl rfl ?_
  refine f_cV hG (As := [_]) dX8_recallRaw_7 rfl k_X0_markFaulty rfl rfl ml_X8_120 im_X0_markFaulty se_X0_markFaulty hk.2.1.1 rfl (c_X0_markFaulty hG (d := 0) (Nat.le_refl _) _ _ _ _ hk.2.1) (by omega) (Nat.le_of_ble_eq_true rfl) (Nat.zero_le _) (Nat.zero_le _) ?_
  refine f_aload_n dX8_recallRaw_10 rfl rfl ?_
  refine s_getr hG fl_X8_28 dX8_recallRaw_11 hk.1 rfl ?_
  refine s_geti hG fl_X8_79 dX8_recallRaw_14 hk.2.2.2.1 rfl ?_
  refine f_iconst (v := 1) dX8_recallRaw_17 rfl ?_
  refine f_isub dX8_recallRaw_18 ?_
  refine f_istore_n (ls' := [_, _, _, _]) dX8_recallRaw_19 rfl (Nat.le_of_ble_eq_true rfl) rfl rfl ?_
  refine f_cg (ls' := [some (.ref k), some (.int a), some (.int (0 : Int32)), some (.int (nI N - 1))]) (by rw [m_X0_markFaulty, fst1_ne (by omega), hN]) rfl rfl ?_
  exact lp_X8_recallRaw hG hd dv k a hk N _ _ hN2
