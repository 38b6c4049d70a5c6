/-! ===== JarCannery ===== -/
def sm (x : Int32) (b : Nat) : Prop := x = nI x.toNatClampNeg ∧ x.toNatClampNeg < b
theorem fO_cg {G : fG} {z : fMi} {d : Nat} {As : List Value} {S : fS} {mc ms : Nat} {dv : UInt64} {o o' : fR × fM} (hc : fCt G z d As S mc ms (fO dv o)) (h : o = o') : fCt G z d As S mc ms (fO dv o') := h ▸ hc
theorem sm_of {x : Int32} {b n : Nat} (h : x = nI n) (hn : n < b) (hb : b < 2 ^ 31) : sm x b := by
  subst h; rw [sm, nI_clamp (by omega)]; exact ⟨rfl, hn⟩
def o_X11_demandAllowed (M : fM) (a : Int32) : fR × fM := (if a = (1 : Int32) then (.inr "java/lang/IndexOutOfBoundsException", M) else (if a = (2 : Int32) then (.inr "java/lang/IllegalArgumentException", M) else (if a = (3 : Int32) then (.inr "java/lang/IllegalStateException", M) else (if a = (4 : Int32) then (.inr "java/lang/UnsupportedOperationException", M) else (if a = (5 : Int32) then (.inr "java/util/NoSuchElementException", M) else (.inl none, M))))))
set_option maxRecDepth 100000 in
set_option maxHeartbeats 4000000 in
theorem c_X11_demandAllowed {G : fG} (hG : fOK G) {d : Nat} (hd : 0 ≤ d) (M : fM) (dv : UInt64) (a : Int32) : fCt G z_X11_demandAllowed d [.int a] (sS M dv) 1 6 (fO dv (o_X11_demandAllowed M a)) := by
  refine fCt_to [some (.int a)] k_X11_demandAllowed rfl (Nat.le_of_ble_eq_true rfl) rfl ?_
  refine f_iload_n dX11_demandAllowed_0 rfl rfl ?_
  by_cases c_1_1 : a = (1 : Int32)
  · refine f_tableIn (off := 35) (tgt := 36) dX11_demandAllowed_1 (by rw [c_1_1]; decide) (by rw [c_1_1]; decide) (by rw [c_1_1]; rfl) (by decide) ?_
    refine f_throwW hG th_X11_162_166 (st_X11_391) rfl (by decide +kernel) dX11_demandAllowed_36 dX11_demandAllowed_39 dX11_demandAllowed_40 dX11_demandAllowed_43 dX11_demandAllowed_46 (by decide) (by decide) ?_
    rw [o_X11_demandAllowed, if_pos c_1_1]
    exact ⟨rfl, rfl⟩
  · by_cases c_1_2 : a = (2 : Int32)
    · refine f_tableIn (off := 46) (tgt := 47) dX11_demandAllowed_1 (by rw [c_1_2]; decide) (by rw [c_1_2]; decide) (by rw [c_1_2]; rfl) (by decide) ?_
      refine f_throwW hG th_X11_348_352 (st_X11_393) rfl (by decide +kernel) dX11_demandAllowed_47 dX11_demandAllowed_50 dX11_demandAllowed_51 dX11_demandAllowed_54 dX11_demandAllowed_57 (by decide) (by decide) ?_
      rw [o_X11_demandAllowed, if_neg c_1_1, if_pos c_1_2]
      exact ⟨rfl, rfl⟩
    · by_cases c_1_3 : a = (3 : Int32)
      · refine f_tableIn (off := 57) (tgt := 58) dX11_demandAllowed_1 (by rw [c_1_3]; decide) (by rw [c_1_3]; decide) (by rw [c_1_3]; rfl) (by decide) ?_
        refine f_throwW hG th_X11_353_357 (st_X11_395) rfl (by decide +kernel) dX11_demandAllowed_58 dX11_demandAllowed_61 dX11_demandAllowed_62 dX11_demandAllowed_65 dX11_demandAllowed_68 (by decide) (by decide) ?_
        rw [o_X11_demandAllowed, if_neg c_1_1, if_neg c_1_2, if_pos c_1_3]
        exact ⟨rfl, rfl⟩
      · by_cases c_1_4 : a = (4 : Int32)
        · refine f_tableIn (off := 68) (tgt := 69) dX11_demandAllowed_1 (by rw [c_1_4]; decide) (by rw [c_1_4]; decide) (by rw [c_1_4]; rfl) (by decide) ?_
          refine f_throwW hG th_X11_397_401 (st_X11_399) rfl (by decide +kernel) dX11_demandAllowed_69 dX11_demandAllowed_72 dX11_demandAllowed_73 dX11_demandAllowed_76 dX11_demandAllowed_79 (by decide) (by decide) ?_
          rw [o_X11_demandAllowed, if_neg c_1_1, if_neg c_1_2, if_neg c_1_3, if_pos c_1_4]
          exact ⟨rfl, rfl⟩
        · by_cases c_1_5 : a = (5 : Int32)
          · refine f_tableIn (off := 79) (tgt := 80) dX11_demandAllowed_1 (by rw [c_1_5]; decide) (by rw [c_1_5]; decide) (by rw [c_1_5]; rfl) (by decide) ?_
            refine f_throwNW hG th_X11_176_180 (st_X11_402) rfl (by decide +kernel) dX11_demandAllowed_80 dX11_demandAllowed_83 dX11_demandAllowed_84 dX11_demandAllowed_87 dX11_demandAllowed_90 (by decide) (by decide) ?_
            rw [o_X11_demandAllowed, if_neg c_1_1, if_neg c_1_2, if_neg c_1_3, if_neg c_1_4, if_pos c_1_5]
            exact ⟨rfl, rfl⟩
          · refine f_tableOut (tgt := 91) dX11_demandAllowed_1 (ts_1_5 c_1_1 c_1_2 c_1_3 c_1_4 c_1_5) (by decide) ?_
            refine f_return dX11_demandAllowed_91 rfl ?_
            rw [o_X11_demandAllowed, if_neg c_1_1, if_neg c_1_2, if_neg c_1_3, if_neg c_1_4, if_neg c_1_5]
            exact ⟨rfl, rfl⟩

def o_X11_demandRaw (M : fM) (a : Int32) : fR × fM := (if (r_X0_hasRaw M (1 + 1) a) = 0 then (.inr "java/lang/IndexOutOfBoundsException", M) else (.inl none, M))
set_option maxRecDepth 100000 in
set_option maxHeartbeats 4000000 in
theorem c_X11_demandRaw {G : fG} (hG : fOK G) {d : Nat} (hd : 1 ≤ d) (M : fM) (dv : UInt64) (a : Int32) : fCt G z_X11_demandRaw d [.ref 0, .int a] (sS M dv) 1 6 (fO dv (o_X11_demandRaw M a)) := by
  refine fCt_to [some (.ref 0), some (.int a)] k_X11_demandRaw rfl (Nat.le_of_ble_eq_true rfl) rfl ?_
  refine f_aload_n dX11_demandRaw_0 rfl rfl ?_
  refine s_getr hG fl_X11_10 dX11_demandRaw_1 rfl rfl ?_
  refine s_getr hG fl_X11_87 dX11_demandRaw_4 rS_1.1 rfl ?_
  refine f_iload_n dX11_demandRaw_7 rfl rfl ?_
  refine f_cV hG (As := [_]) dX11_demandRaw_8 rfl k_X0_hasRaw rfl rfl ml_X11_404 im_X0_hasRaw se_X0_hasRaw rS_1.2.1.1 rfl (c_X0_hasRaw hG (d := 0) (Nat.le_refl _) _ _ _ _ rS_1.2.1) (by omega) (Nat.le_of_ble_eq_true rfl) (Nat.zero_le _) (Nat.zero_le _) ?_
  refine f_if_ne (tgt := 25) dX11_demandRaw_11 (by decide) (fun c_11 => ?_) (fun c_11 => ?_)
  · refine f_return dX11_demandRaw_25 rfl ?_
    rw [o_X11_demandRaw, if_neg c_11]
    exact ⟨rfl, rfl⟩
  · refine f_throwW hG th_X11_162_166 (st_X11_407) rfl (by decide +kernel) dX11_demandRaw_14 dX11_demandRaw_17 dX11_demandRaw_18 dX11_demandRaw_21 dX11_demandRaw_24 (by decide) (by decide) ?_
    rw [o_X11_demandRaw, if_pos c_11]
    exact ⟨rfl, rfl⟩

def o_X11_demandBatch (M : fM) (a : Int32) : fR × fM := (if (r_X0_hasBatch M (1 + 1) a) = 0 then (.inr "java/lang/IndexOutOfBoundsException", M) else (.inl none, M))
set_option maxRecDepth 100000 in
set_option maxHeartbeats 4000000 in
theorem c_X11_demandBatch {G : fG} (hG : fOK G) {d : Nat} (hd : 1 ≤ d) (M : fM) (dv : UInt64) (a : Int32) : fCt G z_X11_demandBatch d [.ref 0, .int a] (sS M dv) 1 6 (fO dv (o_X11_demandBatch M a)) := by
  refine fCt_to [some (.ref 0), some (.int a)] k_X11_demandBatch rfl (Nat.le_of_ble_eq_true rfl) rfl ?_
  refine f_aload_n dX11_demandBatch_0 rfl rfl ?_
  refine s_getr hG fl_X11_10 dX11_demandBatch_1 rfl rfl ?_
  refine s_getr hG fl_X11_87 dX11_demandBatch_4 rS_1.1 rfl ?_
  refine f_iload_n dX11_demandBatch_7 rfl rfl ?_
  refine f_cV hG (As := [_]) dX11_demandBatch_8 rfl k_X0_hasBatch rfl rfl ml_X11_409 im_X0_hasBatch se_X0_hasBatch rS_1.2.1.1 rfl (c_X0_hasBatch hG (d := 0) (Nat.le_refl _) _ _ _ _ rS_1.2.1) (by omega) (Nat.le_of_ble_eq_true rfl) (Nat.zero_le _) (Nat.zero_le _) ?_
  refine f_if_ne (tgt := 25) dX11_demandBatch_11 (by decide) (fun c_11 => ?_) (fun c_11 => ?_)
  · refine f_return dX11_demandBatch_25 rfl ?_
    rw [o_X11_demandBatch, if_neg c_11]
    exact ⟨rfl, rfl⟩
  · refine f_throwW hG th_X11_162_166 (st_X11_412) rfl (by decide +kernel) dX11_demandBatch_14 dX11_demandBatch_17 dX11_demandBatch_18 dX11_demandBatch_21 dX11_demandBatch_24 (by decide) (by decide) ?_
    rw [o_X11_demandBatch, if_pos c_11]
    exact ⟨rfl, rfl⟩

def o_X11_demandLabel (M : fM) (a : Int32) : fR × fM := (if (r_X6_has M (1 + 6) a) = 0 then (.inr "java/lang/IndexOutOfBoundsException", M) else (.inl none, M))
set_option maxRecDepth 100000 in
set_option maxHeartbeats 4000000 in
theorem c_X11_demandLabel {G : fG} (hG : fOK G) {d : Nat} (hd : 1 ≤ d) (M : fM) (dv : UInt64) (a : Int32) : fCt G z_X11_demandLabel d [.ref 0, .int a] (sS M dv) 1 6 (fO dv (o_X11_demandLabel M a)) := by
  refine fCt_to [some (.ref 0), some (.int a)] k_X11_demandLabel rfl (Nat.le_of_ble_eq_true rfl) rfl ?_
  refine f_aload_n dX11_demandLabel_0 rfl rfl ?_
  refine s_getr hG fl_X11_10 dX11_demandLabel_1 rfl rfl ?_
  refine s_getr hG fl_X11_140 dX11_demandLabel_4 rS_1.1 rfl ?_
  refine f_iload_n dX11_demandLabel_7 rfl rfl ?_
  refine f_cV hG (As := [_]) dX11_demandLabel_8 rfl k_X6_has rfl rfl ml_X11_414 im_X6_has se_X6_has rS_1.2.2.1.1 rfl (c_X6_has hG (d := 0) (Nat.le_refl _) _ _ _ _ rS_1.2.2.1) (by omega) (Nat.le_of_ble_eq_true rfl) (Nat.zero_le _) (Nat.zero_le _) ?_
  refine f_if_ne (tgt := 25) dX11_demandLabel_11 (by decide) (fun c_11 => ?_) (fun c_11 => ?_)
  · refine f_return dX11_demandLabel_25 rfl ?_
    rw [o_X11_demandLabel, if_neg c_11]
    exact ⟨rfl, rfl⟩
  · refine f_throwW hG th_X11_162_166 (st_X11_417) rfl (by decide +kernel) dX11_demandLabel_14 dX11_demandLabel_17 dX11_demandLabel_18 dX11_demandLabel_21 dX11_demandLabel_24 (by decide) (by decide) ?_
    rw [o_X11_demandLabel, if_pos c_11]
    exact ⟨rfl, rfl⟩

def o_X11_demandLot (M : fM) (a : Int32) : fR × fM := (if (r_X5_positionOf M (1 + 11) a) = (-1 : Int32) then (.inr "java/util/NoSuchElementException", M) else (.inl (some (.int (r_X5_positionOf M (1 + 11) a))), M))
set_option maxRecDepth 100000 in
set_option maxHeartbeats 4000000 in
theorem c_X11_demandLot {G : fG} (hG : fOK G) {d : Nat} (hd : 2 ≤ d) (M : fM) (dv : UInt64) (a : Int32) (q0 : sm (M (1 + 11) 6) 300) : fCt G z_X11_demandLot d [.ref 0, .int a] (sS M dv) 1 6 (fO dv (o_X11_demandLot M a)) := by
  refine fCt_to [some (.ref 0), some (.int a), none] k_X11_demandLot rfl (Nat.le_of_ble_eq_true rfl) rfl ?_
  refine f_aload_n dX11_demandLot_0 rfl rfl ?_
  refine s_getr hG fl_X11_10 dX11_demandLot_1 rfl rfl ?_
  refine s_getr hG fl_X11_216 dX11_demandLot_4 rS_1.1 rfl ?_
  refine f_iload_n dX11_demandLot_7 rfl rfl ?_
  refine f_cV hG (As := [_]) dX11_demandLot_8 rfl k_X5_positionOf rfl rfl ml_X11_419 im_X5_positionOf se_X5_positionOf rS_1.2.2.2.1 rfl (c_X5_positionOf hG (d := 1) (Nat.le_refl _) _ _ _ _ rS_1.2.2.2 _ q0.1 q0.2) (by omega) (Nat.le_of_ble_eq_true rfl) (Nat.zero_le _) (Nat.zero_le _) ?_
  refine f_istore_n (ls' := [_, _, _]) dX11_demandLot_11 rfl (Nat.le_of_ble_eq_true rfl) rfl rfl ?_
  refine f_iload_n dX11_demandLot_12 rfl rfl ?_
  refine f_iconst (v := (-1)) dX11_demandLot_13 rfl ?_
  refine f_icmp_ne (tgt := 28) dX11_demandLot_14 (by decide) (fun c_14 => ?_) (fun c_14 => ?_)
  · refine f_iload_n dX11_demandLot_28 rfl rfl ?_
    refine f_ireturn dX11_demandLot_29 rfl rfl ?_
    rw [o_X11_demandLot, if_neg c_14]
    exact ⟨rfl, rfl⟩
  · refine f_throwNW hG th_X11_176_180 (st_X11_402) rfl (by decide +kernel) dX11_demandLot_17 dX11_demandLot_20 dX11_demandLot_21 dX11_demandLot_24 dX11_demandLot_27 (by decide) (by decide) ?_
    rw [o_X11_demandLot, if_pos c_14]
    exact ⟨rfl, rfl⟩

def o_X11_demandScannedText (M : fM) : fR × fM := (if (r_X10_isLetters M 267 60 (12 : Int32)) = 0 then (.inr "java/lang/IllegalArgumentException", M) else (.inl none, M))
set_option maxRecDepth 100000 in
set_option maxHeartbeats 4000000 in
theorem c_X11_demandScannedText {G : fG} (hG : fOK G) {d : Nat} (hd : 3 ≤ d) (M : fM) (dv : UInt64) (q0 : sm (M 267 2) 300) : fCt G z_X11_demandScannedText d [.ref 0] (sS M dv) 1 6 (fO dv (o_X11_demandScannedText M)) := by
  refine fCt_to [some (.ref 0)] k_X11_demandScannedText rfl (Nat.le_of_ble_eq_true rfl) rfl ?_
  refine f_aload_n dX11_demandScannedText_0 rfl rfl ?_
  refine s_getr hG fl_X11_34 dX11_demandScannedText_1 rfl rfl ?_
  refine f_bipush (v := 12) dX11_demandScannedText_4 (by decide) ?_
  refine f_cV hG (As := [_]) dX11_demandScannedText_6 rfl k_X10_isLetters rfl rfl ml_X11_422 im_X10_isLetters se_X10_isLetters rT_267.1 rfl (c_X10_isLetters hG (d := 2) (Nat.le_refl _) _ _ _ _ _ rT_267 (by decide) _ q0.1 q0.2) (by omega) (Nat.le_of_ble_eq_true rfl) (Nat.zero_le _) (Nat.zero_le _) ?_
  refine f_if_ne (tgt := 23) dX11_demandScannedText_9 (by decide) (fun c_9 => ?_) (fun c_9 => ?_)
  · refine f_return dX11_demandScannedText_23 rfl ?_
    rw [o_X11_demandScannedText, if_neg c_9]
    exact ⟨rfl, rfl⟩
  · refine f_throwW hG th_X11_348_352 (st_X11_425) rfl (by decide +kernel) dX11_demandScannedText_12 dX11_demandScannedText_15 dX11_demandScannedText_16 dX11_demandScannedText_19 dX11_demandScannedText_22 (by decide) (by decide) ?_
    rw [o_X11_demandScannedText, if_pos c_9]
    exact ⟨rfl, rfl⟩

def o_X11_demandCapacity (M : fM) (a : Int32) : fR × fM := (if a < (9 : Int32) then (.inr "java/lang/IllegalArgumentException", M) else (if a ≤ (40 : Int32) then (.inl none, M) else (.inr "java/lang/IllegalArgumentException", M)))
set_option maxRecDepth 100000 in
set_option maxHeartbeats 4000000 in
theorem c_X11_demandCapacity {G : fG} (hG : fOK G) {d : Nat} (hd : 0 ≤ d) (M : fM) (dv : UInt64) (a : Int32) : fCt G z_X11_demandCapacity d [.int a] (sS M dv) 1 6 (fO dv (o_X11_demandCapacity M a)) := by
  refine fCt_to [some (.int a)] k_X11_demandCapacity rfl (Nat.le_of_ble_eq_true rfl) rfl ?_
  refine f_iload_n dX11_demandCapacity_0 rfl rfl ?_
  refine f_bipush (v := 9) dX11_demandCapacity_1 (by decide) ?_
  refine f_icmp_lt (tgt := 12) dX11_demandCapacity_3 (by decide) (fun c_3 => ?_) (fun c_3 => ?_)
  · refine f_throwW hG th_X11_348_352 (st_X11_427) rfl (by decide +kernel) dX11_demandCapacity_12 dX11_demandCapacity_15 dX11_demandCapacity_16 dX11_demandCapacity_19 dX11_demandCapacity_22 (by decide) (by decide) ?_
    rw [o_X11_demandCapacity, if_pos c_3]
    exact ⟨rfl, rfl⟩
  · refine f_iload_n dX11_demandCapacity_6 rfl rfl ?_
    refine f_bipush (v := 40) dX11_demandCapacity_7 (by decide) ?_
    refine f_icmp_le (tgt := 23) dX11_demandCapacity_9 (by decide) (fun c_9 => ?_) (fun c_9 => ?_)
    · refine f_return dX11_demandCapacity_23 rfl ?_
      rw [o_X11_demandCapacity, if_neg c_3, if_pos c_9]
      exact ⟨rfl, rfl⟩
    · refine f_throwW hG th_X11_348_352 (st_X11_427) rfl (by decide +kernel) dX11_demandCapacity_12 dX11_demandCapacity_15 dX11_demandCapacity_16 dX11_demandCapacity_19 dX11_demandCapacity_22 (by decide) (by decide) ?_
      rw [o_X11_demandCapacity, if_neg c_3, if_neg c_9]
      exact ⟨rfl, rfl⟩

def m_X11_takeWord (M : fM) (a : Int32) : fM := (m_X6_appendTo (m_X10_clear M 273 6) (1 + 6) a 273 6)
set_option maxRecDepth 100000 in
set_option maxHeartbeats 4000000 in
theorem c_X11_takeWord {G : fG} (hG : fOK G) {d : Nat} (hd : 3 ≤ d) (M : fM) (dv : UInt64) (a : Int32) (q0 : sm (rget (m_X10_clear M 273 6) ((1 + 6) + 1) 8 a) 300) : fCt G z_X11_takeWord d [.ref 0, .int a] (sS M dv) 0 0 (fD none (sS (m_X11_takeWord M a) dv)) := by
  refine fCt_to [some (.ref 0), some (.int a)] k_X11_takeWord rfl (Nat.le_of_ble_eq_true rfl) rfl ?_
  refine f_aload_n dX11_takeWord_0 rfl rfl ?_
  refine s_getr hG fl_X11_41 dX11_takeWord_1 rfl rfl ?_
  refine f_cV hG (As := []) dX11_takeWord_4 rfl k_X10_clear rfl rfl ml_X11_150 im_X10_clear se_X10_clear rT_273.1 rfl (c_X10_clear hG (d := 0) (Nat.le_refl _) _ _ _ _ rT_273 (by decide)) (by omega) (Nat.le_of_ble_eq_true rfl) (Nat.zero_le _) (Nat.zero_le _) ?_
  refine f_aload_n dX11_takeWord_7 rfl rfl ?_
  refine s_getr hG fl_X11_10 dX11_takeWord_8 rfl rfl ?_
  refine s_getr hG fl_X11_140 dX11_takeWord_11 rS_1.1 rfl ?_
  refine f_iload_n dX11_takeWord_14 rfl rfl ?_
  refine f_aload_n dX11_takeWord_15 rfl rfl ?_
  refine s_getr hG fl_X11_41 dX11_takeWord_16 rfl rfl ?_
  refine f_cV hG (As := [_, _]) dX11_takeWord_19 rfl k_X6_appendTo rfl rfl ml_X11_319 im_X6_appendTo se_X6_appendTo rS_1.2.2.1.1 rfl (c_X6_appendTo hG (d := 2) (Nat.le_refl _) _ _ _ _ _ _ rS_1.2.2.1 rT_273 (by decide) _ q0.1 q0.2 (by omega) (by omega)) (by omega) (Nat.le_of_ble_eq_true rfl) (Nat.zero_le _) (Nat.zero_le _) ?_
  refine f_return dX11_takeWord_22 rfl ?_
  exact ⟨rfl, by rw [m_X11_takeWord]⟩

def r_X11_tableDistance (M : fM) (a : Int32) : Int32 := (r_X3_byTable (m_X11_takeWord M a) 267 60 273 6)
def m_X11_tableDistance (M : fM) (a : Int32) : fM := (m_X3_byTable (m_X11_takeWord M a) 267 60 273 6)
set_option maxRecDepth 100000 in
set_option maxHeartbeats 4000000 in
theorem c_X11_tableDistance {G : fG} (hG : fOK G) {d : Nat} (hd : 4 ≤ d) (M : fM) (dv : UInt64) (a : Int32) (q0 : sm (rget (m_X10_clear M 273 6) ((1 + 6) + 1) 8 a) 300) (q1 : sm ((m_X11_takeWord M a) 267 2) 300) (q2 : sm ((m_X11_takeWord M a) 273 2) 300) : fCt G z_X11_tableDistance d [.ref 0, .int a] (sS M dv) 0 0 (fD (some (.int (r_X11_tableDistance M a))) (sS (m_X11_tableDistance M a) dv)) := by
  refine fCt_to [some (.ref 0), some (.int a)] k_X11_tableDistance rfl (Nat.le_of_ble_eq_true rfl) rfl ?_
  refine f_aload_n dX11_tableDistance_0 rfl rfl ?_
  refine f_iload_n dX11_tableDistance_1 rfl rfl ?_
  refine f_cV hG (As := [_]) dX11_tableDistance_2 rfl k_X11_takeWord rfl rfl ml_X11_184 im_X11_takeWord se_X11_takeWord rfl rfl (c_X11_takeWord hG (d := 3) (Nat.le_refl _) _ _ _ q0) (by omega) (Nat.le_of_ble_eq_true rfl) (Nat.zero_le _) (Nat.zero_le _) ?_
  refine f_aload_n dX11_tableDistance_5 rfl rfl ?_
  refine s_getr hG fl_X11_54 dX11_tableDistance_6 rfl rfl ?_
  refine f_aload_n dX11_tableDistance_9 rfl rfl ?_
  refine s_getr hG fl_X11_34 dX11_tableDistance_10 rfl rfl ?_
  refine f_aload_n dX11_tableDistance_13 rfl rfl ?_
  refine s_getr hG fl_X11_41 dX11_tableDistance_14 rfl rfl ?_
  refine f_cV hG (As := [_, _]) dX11_tableDistance_17 rfl k_X3_byTable rfl rfl ml_X11_429 im_X3_byTable se_X3_byTable rfl rfl (c_X3_byTable hG (d := 3) (Nat.le_refl _) _ _ _ _ _ _ rT_267 (by decide) rT_273 (by decide) _ q1.1 q1.2 _ q2.1 q2.2 (by omega) (by omega)) (by omega) (Nat.le_of_ble_eq_true rfl) (Nat.zero_le _) (Nat.zero_le _) ?_
  refine f_ireturn dX11_tableDistance_20 rfl rfl ?_
  exact ⟨by rw [r_X11_tableDistance], by rw [m_X11_tableDistance]⟩

def o_X11_addRaw (M : fM) : fR × fM := (if (r_X8_rawRefusal M 1) = (1 : Int32) then (.inr "java/lang/IndexOutOfBoundsException", M) else (if (r_X8_rawRefusal M 1) = (2 : Int32) then (.inr "java/lang/IllegalArgumentException", M) else (if (r_X8_rawRefusal M 1) = (3 : Int32) then (.inr "java/lang/IllegalStateException", M) else (if (r_X8_rawRefusal M 1) = (4 : Int32) then (.inr "java/lang/UnsupportedOperationException", M) else (if (r_X8_rawRefusal M 1) = (5 : Int32) then (.inr "java/util/NoSuchElementException", M) else (.inl (some (.int (r_X0_addOneRaw (m_X4_keep M 1) (1 + 1)))), (m_X0_addOneRaw (m_X4_keep M 1) (1 + 1))))))))
set_option maxRecDepth 100000 in
set_option maxHeartbeats 4000000 in
theorem c_X11_addRaw {G : fG} (hG : fOK G) {d : Nat} (hd : 4 ≤ d) (M : fM) (dv : UInt64) (q0 : ¬ ((r_X8_rawRefusal M 1) = (1 : Int32)) → ¬ ((r_X8_rawRefusal M 1) = (2 : Int32)) → ¬ ((r_X8_rawRefusal M 1) = (3 : Int32)) → ¬ ((r_X8_rawRefusal M 1) = (4 : Int32)) → ¬ ((r_X8_rawRefusal M 1) = (5 : Int32)) → sm (M 73 1) 8) : fCt G z_X11_addRaw d [.ref 0] (sS M dv) 1 6 (fO dv (o_X11_addRaw M)) := by
  refine fCt_to [some (.ref 0)] k_X11_addRaw rfl (Nat.le_of_ble_eq_true rfl) rfl ?_
  refine f_aload_n dX11_addRaw_0 rfl rfl ?_
  refine s_getr hG fl_X11_10 dX11_addRaw_1 rfl rfl ?_
  refine f_cV hG (As := []) dX11_addRaw_4 rfl k_X8_rawRefusal rfl rfl ml_X11_76 im_X8_rawRefusal se_X8_rawRefusal rS_1.1 rfl (c_X8_rawRefusal hG (d := 0) (Nat.le_refl _) _ _ _ rS_1) (by omega) (Nat.le_of_ble_eq_true rfl) (Nat.zero_le _) (Nat.zero_le _) ?_
  by_cases c_7_0 : (r_X8_rawRefusal M 1) = (1 : Int32)
  · refine f_tS hG (As := [_]) dX11_addRaw_7 rfl k_X11_demandAllowed rfl rfl ml_X11_80 sm_X11_demandAllowed (E := "java/lang/IndexOutOfBoundsException") (M2 := M) (fO_cg (c_X11_demandAllowed hG (d := 0) (Nat.le_refl _) _ _ _) (by rw [o_X11_demandAllowed, if_pos c_7_0])) (by omega) (Nat.le_of_ble_eq_true rfl) (by omega) (by omega) (f_out rfl (by decide +kernel) ?_)
    rw [o_X11_addRaw, if_pos c_7_0]
    exact ⟨rfl, rfl⟩
  · by_cases c_7_1 : (r_X8_rawRefusal M 1) = (2 : Int32)
    · refine f_tS hG (As := [_]) dX11_addRaw_7 rfl k_X11_demandAllowed rfl rfl ml_X11_80 sm_X11_demandAllowed (E := "java/lang/IllegalArgumentException") (M2 := M) (fO_cg (c_X11_demandAllowed hG (d := 0) (Nat.le_refl _) _ _ _) (by rw [o_X11_demandAllowed, if_neg c_7_0, if_pos c_7_1])) (by omega) (Nat.le_of_ble_eq_true rfl) (by omega) (by omega) (f_out rfl (by decide +kernel) ?_)
      rw [o_X11_addRaw, if_neg c_7_0, if_pos c_7_1]
      exact ⟨rfl, rfl⟩
    · by_cases c_7_2 : (r_X8_rawRefusal M 1) = (3 : Int32)
      · refine f_tS hG (As := [_]) dX11_addRaw_7 rfl k_X11_demandAllowed rfl rfl ml_X11_80 sm_X11_demandAllowed (E := "java/lang/IllegalStateException") (M2 := M) (fO_cg (c_X11_demandAllowed hG (d := 0) (Nat.le_refl _) _ _ _) (by rw [o_X11_demandAllowed, if_neg c_7_0, if_neg c_7_1, if_pos c_7_2])) (by omega) (Nat.le_of_ble_eq_true rfl) (by omega) (by omega) (f_out rfl (by decide +kernel) ?_)
        rw [o_X11_addRaw, if_neg c_7_0, if_neg c_7_1, if_pos c_7_2]
        exact ⟨rfl, rfl⟩
      · by_cases c_7_3 : (r_X8_rawRefusal M 1) = (4 : Int32)
        · refine f_tS hG (As := [_]) dX11_addRaw_7 rfl k_X11_demandAllowed rfl rfl ml_X11_80 sm_X11_demandAllowed (E := "java/lang/UnsupportedOperationException") (M2 := M) (fO_cg (c_X11_demandAllowed hG (d := 0) (Nat.le_refl _) _ _ _) (by rw [o_X11_demandAllowed, if_neg c_7_0, if_neg c_7_1, if_neg c_7_2, if_pos c_7_3])) (by omega) (Nat.le_of_ble_eq_true rfl) (by omega) (by omega) (f_out rfl (by decide +kernel) ?_)
          rw [o_X11_addRaw, if_neg c_7_0, if_neg c_7_1, if_neg c_7_2, if_pos c_7_3]
          exact ⟨rfl, rfl⟩
        · by_cases c_7_4 : (r_X8_rawRefusal M 1) = (5 : Int32)
          · refine f_tS hG (As := [_]) dX11_addRaw_7 rfl k_X11_demandAllowed rfl rfl ml_X11_80 sm_X11_demandAllowed (E := "java/util/NoSuchElementException") (M2 := M) (fO_cg (c_X11_demandAllowed hG (d := 0) (Nat.le_refl _) _ _ _) (by rw [o_X11_demandAllowed, if_neg c_7_0, if_neg c_7_1, if_neg c_7_2, if_neg c_7_3, if_pos c_7_4])) (by omega) (Nat.le_of_ble_eq_true rfl) (by omega) (by omega) (f_out rfl (by decide +kernel) ?_)
            rw [o_X11_addRaw, if_neg c_7_0, if_neg c_7_1, if_neg c_7_2, if_neg c_7_3, if_pos c_7_4]
            exact ⟨rfl, rfl⟩
          · refine f_rS hG (As := [_]) dX11_addRaw_7 rfl k_X11_demandAllowed rfl rfl ml_X11_80 sm_X11_demandAllowed (v := none) (M2 := M) (fO_cg (c_X11_demandAllowed hG (d := 0) (Nat.le_refl _) _ _ _) (by rw [o_X11_demandAllowed, if_neg c_7_0, if_neg c_7_1, if_neg c_7_2, if_neg c_7_3, if_neg c_7_4])) (by omega) (Nat.le_of_ble_eq_true rfl) (by omega) (by omega) ?_
            refine f_aload_n dX11_addRaw_10 rfl rfl ?_
            refine s_getr hG fl_X11_25 dX11_addRaw_11 rfl rfl ?_
            refine f_aload_n dX11_addRaw_14 rfl rfl ?_
            refine s_getr hG fl_X11_10 dX11_addRaw_15 rfl rfl ?_
            refine f_cV hG (As := [_]) dX11_addRaw_18 rfl k_X4_keep rfl rfl ml_X11_83 im_X4_keep se_X4_keep rfl rfl (c_X4_keep hG (d := 3) (Nat.le_refl _) _ _ _ rS_1 (q0 c_7_0 c_7_1 c_7_2 c_7_3 c_7_4).1 (q0 c_7_0 c_7_1 c_7_2 c_7_3 c_7_4).2) (by omega) (Nat.le_of_ble_eq_true rfl) (Nat.zero_le _) (Nat.zero_le _) ?_
            refine f_aload_n dX11_addRaw_21 rfl rfl ?_
            refine s_getr hG fl_X11_10 dX11_addRaw_22 rfl rfl ?_
            refine s_getr hG fl_X11_87 dX11_addRaw_25 rS_1.1 rfl ?_
            refine f_cV hG (As := []) dX11_addRaw_28 rfl k_X0_addOneRaw rfl rfl ml_X11_91 im_X0_addOneRaw se_X0_addOneRaw rS_1.2.1.1 rfl (c_X0_addOneRaw hG (d := 0) (Nat.le_refl _) _ _ _ rS_1.2.1) (by omega) (Nat.le_of_ble_eq_true rfl) (Nat.zero_le _) (Nat.zero_le _) ?_
            refine f_ireturn dX11_addRaw_31 rfl rfl ?_
            rw [o_X11_addRaw, if_neg c_7_0, if_neg c_7_1, if_neg c_7_2, if_neg c_7_3, if_neg c_7_4]
            exact ⟨rfl, rfl⟩

def r_X11_rawCount (M : fM) : Int32 := (M (1 + 1) 2)
set_option maxRecDepth 100000 in
set_option maxHeartbeats 4000000 in
theorem c_X11_rawCount {G : fG} (hG : fOK G) {d : Nat} (hd : 0 ≤ d) (M : fM) (dv : UInt64) : fCt G z_X11_rawCount d [.ref 0] (sS M dv) 0 0 (fD (some (.int (r_X11_rawCount M))) (sS M dv)) := by
  refine fCt_to [some (.ref 0)] k_X11_rawCount rfl (Nat.le_of_ble_eq_true rfl) rfl ?_
  refine f_aload_n dX11_rawCount_0 rfl rfl ?_
  refine s_getr hG fl_X11_10 dX11_rawCount_1 rfl rfl ?_
  refine s_getr hG fl_X11_87 dX11_rawCount_4 rS_1.1 rfl ?_
  refine s_geti hG fl_X11_103 dX11_rawCount_7 rS_1.2.1.1 rfl ?_
  refine f_ireturn dX11_rawCount_10 rfl rfl ?_
  exact ⟨by rw [r_X11_rawCount], rfl⟩

def r_X11_batchCount (M : fM) : Int32 := (M (1 + 1) 4)
set_option maxRecDepth 100000 in
set_option maxHeartbeats 4000000 in
theorem c_X11_batchCount {G : fG} (hG : fOK G) {d : Nat} (hd : 0 ≤ d) (M : fM) (dv : UInt64) : fCt G z_X11_batchCount d [.ref 0] (sS M dv) 0 0 (fD (some (.int (r_X11_batchCount M))) (sS M dv)) := by
  refine fCt_to [some (.ref 0)] k_X11_batchCount rfl (Nat.le_of_ble_eq_true rfl) rfl ?_
  refine f_aload_n dX11_batchCount_0 rfl rfl ?_
  refine s_getr hG fl_X11_10 dX11_batchCount_1 rfl rfl ?_
  refine s_getr hG fl_X11_87 dX11_batchCount_4 rS_1.1 rfl ?_
  refine s_geti hG fl_X11_106 dX11_batchCount_7 rS_1.2.1.1 rfl ?_
  refine f_ireturn dX11_batchCount_10 rfl rfl ?_
  exact ⟨by rw [r_X11_batchCount], rfl⟩

def o_X11_addLabel (M : fM) : fR × fM := (if (r_X8_labelRefusal M 1 267 60) = 0 then (if (r_X8_labelRefusal M 1 267 60) = (1 : Int32) then (.inr "java/lang/IndexOutOfBoundsException", (m_X10_clear (m_X6_addFrom (m_X4_keep M 1) (1 + 6) 267 60) 267 60)) else (if (r_X8_labelRefusal M 1 267 60) = (2 : Int32) then (.inr "java/lang/IllegalArgumentException", (m_X10_clear (m_X6_addFrom (m_X4_keep M 1) (1 + 6) 267 60) 267 60)) else (if (r_X8_labelRefusal M 1 267 60) = (3 : Int32) then (.inr "java/lang/IllegalStateException", (m_X10_clear (m_X6_addFrom (m_X4_keep M 1) (1 + 6) 267 60) 267 60)) else (if (r_X8_labelRefusal M 1 267 60) = (4 : Int32) then (.inr "java/lang/UnsupportedOperationException", (m_X10_clear (m_X6_addFrom (m_X4_keep M 1) (1 + 6) 267 60) 267 60)) else (if (r_X8_labelRefusal M 1 267 60) = (5 : Int32) then (.inr "java/util/NoSuchElementException", (m_X10_clear (m_X6_addFrom (m_X4_keep M 1) (1 + 6) 267 60) 267 60)) else (.inl (some (.int (((m_X10_clear (m_X6_addFrom (m_X4_keep M 1) (1 + 6) 267 60) 267 60) (1 + 6) 2) - (1 : Int32)))), (m_X10_clear (m_X6_addFrom (m_X4_keep M 1) (1 + 6) 267 60) 267 60))))))) else (if (r_X8_labelRefusal M 1 267 60) = (1 : Int32) then (.inr "java/lang/IndexOutOfBoundsException", (m_X10_clear M 267 60)) else (if (r_X8_labelRefusal M 1 267 60) = (2 : Int32) then (.inr "java/lang/IllegalArgumentException", (m_X10_clear M 267 60)) else (if (r_X8_labelRefusal M 1 267 60) = (3 : Int32) then (.inr "java/lang/IllegalStateException", (m_X10_clear M 267 60)) else (if (r_X8_labelRefusal M 1 267 60) = (4 : Int32) then (.inr "java/lang/UnsupportedOperationException", (m_X10_clear M 267 60)) else (if (r_X8_labelRefusal M 1 267 60) = (5 : Int32) then (.inr "java/util/NoSuchElementException", (m_X10_clear M 267 60)) else (.inl (some (.int (((m_X10_clear M 267 60) (1 + 6) 2) - (1 : Int32)))), (m_X10_clear M 267 60))))))))
set_option maxRecDepth 100000 in
set_option maxHeartbeats 4000000 in
theorem c_X11_addLabel {G : fG} (hG : fOK G) {d : Nat} (hd : 5 ≤ d) (M : fM) (dv : UInt64) (q0 : sm (M 267 2) 300) (q1 : sm (M (1 + 6) 2) 300) (q2 : ∀ (i1 : Nat), i1 < (M (1 + 6) 2).toNatClampNeg → sm (rget M (1 + 6 + 1) 8 (nI i1)) 300) (q3 : ((r_X8_labelRefusal M 1 267 60) = 0) → sm (M 73 1) 8) : fCt G z_X11_addLabel d [.ref 0] (sS M dv) 1 6 (fO dv (o_X11_addLabel M)) := by
  refine fCt_to [some (.ref 0), none] k_X11_addLabel rfl (Nat.le_of_ble_eq_true rfl) rfl ?_
  refine f_aload_n dX11_addLabel_0 rfl rfl ?_
  refine s_getr hG fl_X11_10 dX11_addLabel_1 rfl rfl ?_
  refine f_aload_n dX11_addLabel_4 rfl rfl ?_
  refine s_getr hG fl_X11_34 dX11_addLabel_5 rfl rfl ?_
  refine f_cV hG (As := [_]) dX11_addLabel_8 rfl k_X8_labelRefusal rfl rfl ml_X11_136 im_X8_labelRefusal se_X8_labelRefusal rS_1.1 rfl (c_X8_labelRefusal hG (d := 4) (Nat.le_refl _) _ _ _ _ _ rS_1 rT_267 (by decide) _ q0.1 q0.2 _ q1.1 q1.2 (fun i hi => ⟨_, (q2 i hi).1, (q2 i hi).2⟩)) (by omega) (Nat.le_of_ble_eq_true rfl) (Nat.zero_le _) (Nat.zero_le _) ?_
  refine f_istore_n (ls' := [_, _]) dX11_addLabel_11 rfl (Nat.le_of_ble_eq_true rfl) rfl rfl ?_
  refine f_iload_n dX11_addLabel_12 rfl rfl ?_
  refine f_if_ne (tgt := 41) dX11_addLabel_13 (by decide) (fun c_13 => ?_) (fun c_13 => ?_)
  · refine f_aload_n dX11_addLabel_41 rfl rfl ?_
    refine s_getr hG fl_X11_34 dX11_addLabel_42 rfl rfl ?_
    refine f_cV hG (As := []) dX11_addLabel_45 rfl k_X10_clear rfl rfl ml_X11_150 im_X10_clear se_X10_clear rT_267.1 rfl (c_X10_clear hG (d := 0) (Nat.le_refl _) _ _ _ _ rT_267 (by decide)) (by omega) (Nat.le_of_ble_eq_true rfl) (Nat.zero_le _) (Nat.zero_le _) ?_
    refine f_iload_n dX11_addLabel_48 rfl rfl ?_
    by_cases c_49_0 : (r_X8_labelRefusal M 1 267 60) = (1 : Int32)
    · refine f_tS hG (As := [_]) dX11_addLabel_49 rfl k_X11_demandAllowed rfl rfl ml_X11_80 sm_X11_demandAllowed (E := "java/lang/IndexOutOfBoundsException") (M2 := (m_X10_clear M 267 60)) (fO_cg (c_X11_demandAllowed hG (d := 0) (Nat.le_refl _) _ _ _) (by rw [o_X11_demandAllowed, if_pos c_49_0])) (by omega) (Nat.le_of_ble_eq_true rfl) (by omega) (by omega) (f_out rfl (by decide +kernel) ?_)
      rw [o_X11_addLabel, if_neg c_13, if_pos c_49_0]
      exact ⟨rfl, rfl⟩
    · by_cases c_49_1 : (r_X8_labelRefusal M 1 267 60) = (2 : Int32)
      · refine f_tS hG (As := [_]) dX11_addLabel_49 rfl k_X11_demandAllowed rfl rfl ml_X11_80 sm_X11_demandAllowed (E := "java/lang/IllegalArgumentException") (M2 := (m_X10_clear M 267 60)) (fO_cg (c_X11_demandAllowed hG (d := 0) (Nat.le_refl _) _ _ _) (by rw [o_X11_demandAllowed, if_neg c_49_0, if_pos c_49_1])) (by omega) (Nat.le_of_ble_eq_true rfl) (by omega) (by omega) (f_out rfl (by decide +kernel) ?_)
        rw [o_X11_addLabel, if_neg c_13, if_neg c_49_0, if_pos c_49_1]
        exact ⟨rfl, rfl⟩
      · by_cases c_49_2 : (r_X8_labelRefusal M 1 267 60) = (3 : Int32)
        · refine f_tS hG (As := [_]) dX11_addLabel_49 rfl k_X11_demandAllowed rfl rfl ml_X11_80 sm_X11_demandAllowed (E := "java/lang/IllegalStateException") (M2 := (m_X10_clear M 267 60)) (fO_cg (c_X11_demandAllowed hG (d := 0) (Nat.le_refl _) _ _ _) (by rw [o_X11_demandAllowed, if_neg c_49_0, if_neg c_49_1, if_pos c_49_2])) (by omega) (Nat.le_of_ble_eq_true rfl) (by omega) (by omega) (f_out rfl (by decide +kernel) ?_)
          rw [o_X11_addLabel, if_neg c_13, if_neg c_49_0, if_neg c_49_1, if_pos c_49_2]
          exact ⟨rfl, rfl⟩
        · by_cases c_49_3 : (r_X8_labelRefusal M 1 267 60) = (4 : Int32)
          · refine f_tS hG (As := [_]) dX11_addLabel_49 rfl k_X11_demandAllowed rfl rfl ml_X11_80 sm_X11_demandAllowed (E := "java/lang/UnsupportedOperationException") (M2 := (m_X10_clear M 267 60)) (fO_cg (c_X11_demandAllowed hG (d := 0) (Nat.le_refl _) _ _ _) (by rw [o_X11_demandAllowed, if_neg c_49_0, if_neg c_49_1, if_neg c_49_2, if_pos c_49_3])) (by omega) (Nat.le_of_ble_eq_true rfl) (by omega) (by omega) (f_out rfl (by decide +kernel) ?_)
            rw [o_X11_addLabel, if_neg c_13, if_neg c_49_0, if_neg c_49_1, if_neg c_49_2, if_pos c_49_3]
            exact ⟨rfl, rfl⟩
          · by_cases c_49_4 : (r_X8_labelRefusal M 1 267 60) = (5 : Int32)
            · refine f_tS hG (As := [_]) dX11_addLabel_49 rfl k_X11_demandAllowed rfl rfl ml_X11_80 sm_X11_demandAllowed (E := "java/util/NoSuchElementException") (M2 := (m_X10_clear M 267 60)) (fO_cg (c_X11_demandAllowed hG (d := 0) (Nat.le_refl _) _ _ _) (by rw [o_X11_demandAllowed, if_neg c_49_0, if_neg c_49_1, if_neg c_49_2, if_neg c_49_3, if_pos c_49_4])) (by omega) (Nat.le_of_ble_eq_true rfl) (by omega) (by omega) (f_out rfl (by decide +kernel) ?_)
              rw [o_X11_addLabel, if_neg c_13, if_neg c_49_0, if_neg c_49_1, if_neg c_49_2, if_neg c_49_3, if_pos c_49_4]
              exact ⟨rfl, rfl⟩
            · refine f_rS hG (As := [_]) dX11_addLabel_49 rfl k_X11_demandAllowed rfl rfl ml_X11_80 sm_X11_demandAllowed (v := none) (M2 := (m_X10_clear M 267 60)) (fO_cg (c_X11_demandAllowed hG (d := 0) (Nat.le_refl _) _ _ _) (by rw [o_X11_demandAllowed, if_neg c_49_0, if_neg c_49_1, if_neg c_49_2, if_neg c_49_3, if_neg c_49_4])) (by omega) (Nat.le_of_ble_eq_true rfl) (by omega) (by omega) ?_
              refine f_aload_n dX11_addLabel_52 rfl rfl ?_
              refine s_getr hG fl_X11_10 dX11_addLabel_53 rfl rfl ?_
              refine s_getr hG fl_X11_140 dX11_addLabel_56 rS_1.1 rfl ?_
              refine s_geti hG fl_X11_153 dX11_addLabel_59 rS_1.2.2.1.1 rfl ?_
              refine f_iconst (v := 1) dX11_addLabel_62 rfl ?_
              refine f_isub dX11_addLabel_63 ?_
              refine f_ireturn dX11_addLabel_64 rfl rfl ?_
              rw [o_X11_addLabel, if_neg c_13, if_neg c_49_0, if_neg c_49_1, if_neg c_49_2, if_neg c_49_3, if_neg c_49_4]
              exact ⟨rfl, rfl⟩
  · refine f_aload_n dX11_addLabel_16 rfl rfl ?_
    refine s_getr hG fl_X11_25 dX11_addLabel_17 rfl rfl ?_
    refine f_aload_n dX11_addLabel_20 rfl rfl ?_
    refine s_getr hG fl_X11_10 dX11_addLabel_21 rfl rfl ?_
    refine f_cV hG (As := [_]) dX11_addLabel_24 rfl k_X4_keep rfl rfl ml_X11_83 im_X4_keep se_X4_keep rfl rfl (c_X4_keep hG (d := 3) (Nat.le_refl _) _ _ _ rS_1 (q3 c_13).1 (q3 c_13).2) (by omega) (Nat.le_of_ble_eq_true rfl) (Nat.zero_le _) (Nat.zero_le _) ?_
    refine f_aload_n dX11_addLabel_27 rfl rfl ?_
    refine s_getr hG fl_X11_10 dX11_addLabel_28 rfl rfl ?_
    refine s_getr hG fl_X11_140 dX11_addLabel_31 rS_1.1 rfl ?_
    refine f_aload_n dX11_addLabel_34 rfl rfl ?_
    refine s_getr hG fl_X11_34 dX11_addLabel_35 rfl rfl ?_
    refine f_cV hG (As := [_]) dX11_addLabel_38 rfl k_X6_addFrom rfl rfl ml_X11_144 im_X6_addFrom se_X6_addFrom rS_1.2.2.1.1 rfl (c_X6_addFrom hG (d := 2) (Nat.le_refl _) _ _ _ _ _ rS_1.2.2.1 rT_267 (by decide)) (by omega) (Nat.le_of_ble_eq_true rfl) (Nat.zero_le _) (Nat.zero_le _) ?_
    refine f_aload_n dX11_addLabel_41 rfl rfl ?_
    refine s_getr hG fl_X11_34 dX11_addLabel_42 rfl rfl ?_
    refine f_cV hG (As := []) dX11_addLabel_45 rfl k_X10_clear rfl rfl ml_X11_150 im_X10_clear se_X10_clear rT_267.1 rfl (c_X10_clear hG (d := 0) (Nat.le_refl _) _ _ _ _ rT_267 (by decide)) (by omega) (Nat.le_of_ble_eq_true rfl) (Nat.zero_le _) (Nat.zero_le _) ?_
    refine f_iload_n dX11_addLabel_48 rfl rfl ?_
    by_cases c_49_0 : (r_X8_labelRefusal M 1 267 60) = (1 : Int32)
    · refine f_tS hG (As := [_]) dX11_addLabel_49 rfl k_X11_demandAllowed rfl rfl ml_X11_80 sm_X11_demandAllowed (E := "java/lang/IndexOutOfBoundsException") (M2 := (m_X10_clear (m_X6_addFrom (m_X4_keep M 1) (1 + 6) 267 60) 267 60)) (fO_cg (c_X11_demandAllowed hG (d := 0) (Nat.le_refl _) _ _ _) (by rw [o_X11_demandAllowed, if_pos c_49_0])) (by omega) (Nat.le_of_ble_eq_true rfl) (by omega) (by omega) (f_out rfl (by decide +kernel) ?_)
      rw [o_X11_addLabel, if_pos c_13, if_pos c_49_0]
      exact ⟨rfl, rfl⟩
    · by_cases c_49_1 : (r_X8_labelRefusal M 1 267 60) = (2 : Int32)
      · refine f_tS hG (As := [_]) dX11_addLabel_49 rfl k_X11_demandAllowed rfl rfl ml_X11_80 sm_X11_demandAllowed (E := "java/lang/IllegalArgumentException") (M2 := (m_X10_clear (m_X6_addFrom (m_X4_keep M 1) (1 + 6) 267 60) 267 60)) (fO_cg (c_X11_demandAllowed hG (d := 0) (Nat.le_refl _) _ _ _) (by rw [o_X11_demandAllowed, if_neg c_49_0, if_pos c_49_1])) (by omega) (Nat.le_of_ble_eq_true rfl) (by omega) (by omega) (f_out rfl (by decide +kernel) ?_)
        rw [o_X11_addLabel, if_pos c_13, if_neg c_49_0, if_pos c_49_1]
        exact ⟨rfl, rfl⟩
      · by_cases c_49_2 : (r_X8_labelRefusal M 1 267 60) = (3 : Int32)
        · refine f_tS hG (As := [_]) dX11_addLabel_49 rfl k_X11_demandAllowed rfl rfl ml_X11_80 sm_X11_demandAllowed (E := "java/lang/IllegalStateException") (M2 := (m_X10_clear (m_X6_addFrom (m_X4_keep M 1) (1 + 6) 267 60) 267 60)) (fO_cg (c_X11_demandAllowed hG (d := 0) (Nat.le_refl _) _ _ _) (by rw [o_X11_demandAllowed, if_neg c_49_0, if_neg c_49_1, if_pos c_49_2])) (by omega) (Nat.le_of_ble_eq_true rfl) (by omega) (by omega) (f_out rfl (by decide +kernel) ?_)
          rw [o_X11_addLabel, if_pos c_13, if_neg c_49_0, if_neg c_49_1, if_pos c_49_2]
          exact ⟨rfl, rfl⟩
        · by_cases c_49_3 : (r_X8_labelRefusal M 1 267 60) = (4 : Int32)
          · refine f_tS hG (As := [_]) dX11_addLabel_49 rfl k_X11_demandAllowed rfl rfl ml_X11_80 sm_X11_demandAllowed (E := "java/lang/UnsupportedOperationException") (M2 := (m_X10_clear (m_X6_addFrom (m_X4_keep M 1) (1 + 6) 267 60) 267 60)) (fO_cg (c_X11_demandAllowed hG (d := 0) (Nat.le_refl _) _ _ _) (by rw [o_X11_demandAllowed, if_neg c_49_0, if_neg c_49_1, if_neg c_49_2, if_pos c_49_3])) (by omega) (Nat.le_of_ble_eq_true rfl) (by omega) (by omega) (f_out rfl (by decide +kernel) ?_)
            rw [o_X11_addLabel, if_pos c_13, if_neg c_49_0, if_neg c_49_1, if_neg c_49_2, if_pos c_49_3]
            exact ⟨rfl, rfl⟩
          · by_cases c_49_4 : (r_X8_labelRefusal M 1 267 60) = (5 : Int32)
            · refine f_tS hG (As := [_]) dX11_addLabel_49 rfl k_X11_demandAllowed rfl rfl ml_X11_80 sm_X11_demandAllowed (E := "java/util/NoSuchElementException") (M2 := (m_X10_clear (m_X6_addFrom (m_X4_keep M 1) (1 + 6) 267 60) 267 60)) (fO_cg (c_X11_demandAllowed hG (d := 0) (Nat.le_refl _) _ _ _) (by rw [o_X11_demandAllowed, if_neg c_49_0, if_neg c_49_1, if_neg c_49_2, if_neg c_49_3, if_pos c_49_4])) (by omega) (Nat.le_of_ble_eq_true rfl) (by omega) (by omega) (f_out rfl (by decide +kernel) ?_)
              rw [o_X11_addLabel, if_pos c_13, if_neg c_49_0, if_neg c_49_1, if_neg c_49_2, if_neg c_49_3, if_pos c_49_4]
              exact ⟨rfl, rfl⟩
            · refine f_rS hG (As := [_]) dX11_addLabel_49 rfl k_X11_demandAllowed rfl rfl ml_X11_80 sm_X11_demandAllowed (v := none) (M2 := (m_X10_clear (m_X6_addFrom (m_X4_keep M 1) (1 + 6) 267 60) 267 60)) (fO_cg (c_X11_demandAllowed hG (d := 0) (Nat.le_refl _) _ _ _) (by rw [o_X11_demandAllowed, if_neg c_49_0, if_neg c_49_1, if_neg c_49_2, if_neg c_49_3, if_neg c_49_4])) (by omega) (Nat.le_of_ble_eq_true rfl) (by omega) (by omega) ?_
              refine f_aload_n dX11_addLabel_52 rfl rfl ?_
              refine s_getr hG fl_X11_10 dX11_addLabel_53 rfl rfl ?_
              refine s_getr hG fl_X11_140 dX11_addLabel_56 rS_1.1 rfl ?_
              refine s_geti hG fl_X11_153 dX11_addLabel_59 rS_1.2.2.1.1 rfl ?_
              refine f_iconst (v := 1) dX11_addLabel_62 rfl ?_
              refine f_isub dX11_addLabel_63 ?_
              refine f_ireturn dX11_addLabel_64 rfl rfl ?_
              rw [o_X11_addLabel, if_pos c_13, if_neg c_49_0, if_neg c_49_1, if_neg c_49_2, if_neg c_49_3, if_neg c_49_4]
              exact ⟨rfl, rfl⟩

def r_X11_labelCount (M : fM) : Int32 := (M (1 + 6) 2)
set_option maxRecDepth 100000 in
set_option maxHeartbeats 4000000 in
theorem c_X11_labelCount {G : fG} (hG : fOK G) {d : Nat} (hd : 0 ≤ d) (M : fM) (dv : UInt64) : fCt G z_X11_labelCount d [.ref 0] (sS M dv) 0 0 (fD (some (.int (r_X11_labelCount M))) (sS M dv)) := by
  refine fCt_to [some (.ref 0)] k_X11_labelCount rfl (Nat.le_of_ble_eq_true rfl) rfl ?_
  refine f_aload_n dX11_labelCount_0 rfl rfl ?_
  refine s_getr hG fl_X11_10 dX11_labelCount_1 rfl rfl ?_
  refine s_getr hG fl_X11_140 dX11_labelCount_4 rS_1.1 rfl ?_
  refine s_geti hG fl_X11_153 dX11_labelCount_7 rS_1.2.2.1.1 rfl ?_
  refine f_ireturn dX11_labelCount_10 rfl rfl ?_
  exact ⟨by rw [r_X11_labelCount], rfl⟩

def r_X11_lotCount (M : fM) : Int32 := (M (1 + 11) 6)
set_option maxRecDepth 100000 in
set_option maxHeartbeats 4000000 in
theorem c_X11_lotCount {G : fG} (hG : fOK G) {d : Nat} (hd : 0 ≤ d) (M : fM) (dv : UInt64) : fCt G z_X11_lotCount d [.ref 0] (sS M dv) 0 0 (fD (some (.int (r_X11_lotCount M))) (sS M dv)) := by
  refine fCt_to [some (.ref 0)] k_X11_lotCount rfl (Nat.le_of_ble_eq_true rfl) rfl ?_
  refine f_aload_n dX11_lotCount_0 rfl rfl ?_
  refine s_getr hG fl_X11_10 dX11_lotCount_1 rfl rfl ?_
  refine s_getr hG fl_X11_216 dX11_lotCount_4 rS_1.1 rfl ?_
  refine s_geti hG fl_X11_220 dX11_lotCount_7 rS_1.2.2.2.1 rfl ?_
  refine f_ireturn dX11_lotCount_10 rfl rfl ?_
  exact ⟨by rw [r_X11_lotCount], rfl⟩

def r_X11_dayCount (M : fM) : Int32 := (M 1 3)
set_option maxRecDepth 100000 in
set_option maxHeartbeats 4000000 in
theorem c_X11_dayCount {G : fG} (hG : fOK G) {d : Nat} (hd : 0 ≤ d) (M : fM) (dv : UInt64) : fCt G z_X11_dayCount d [.ref 0] (sS M dv) 0 0 (fD (some (.int (r_X11_dayCount M))) (sS M dv)) := by
  refine fCt_to [some (.ref 0)] k_X11_dayCount rfl (Nat.le_of_ble_eq_true rfl) rfl ?_
  refine f_aload_n dX11_dayCount_0 rfl rfl ?_
  refine s_getr hG fl_X11_10 dX11_dayCount_1 rfl rfl ?_
  refine s_geti hG fl_X11_286 dX11_dayCount_4 rS_1.1 rfl ?_
  refine f_ireturn dX11_dayCount_7 rfl rfl ?_
  exact ⟨by rw [r_X11_dayCount], rfl⟩

def r_X11_filled (M : fM) : Int32 := (M 1 4)
set_option maxRecDepth 100000 in
set_option maxHeartbeats 4000000 in
theorem c_X11_filled {G : fG} (hG : fOK G) {d : Nat} (hd : 0 ≤ d) (M : fM) (dv : UInt64) : fCt G z_X11_filled d [.ref 0] (sS M dv) 0 0 (fD (some (.int (r_X11_filled M))) (sS M dv)) := by
  refine fCt_to [some (.ref 0)] k_X11_filled rfl (Nat.le_of_ble_eq_true rfl) rfl ?_
  refine f_aload_n dX11_filled_0 rfl rfl ?_
  refine s_getr hG fl_X11_10 dX11_filled_1 rfl rfl ?_
  refine s_geti hG fl_X11_289 dX11_filled_4 rS_1.1 rfl ?_
  refine f_ireturn dX11_filled_7 rfl rfl ?_
  exact ⟨by rw [r_X11_filled], rfl⟩

def r_X11_stored (M : fM) : Int32 := (r_X5_sumOf M (1 + 11) (1 + 11 + 9))
set_option maxRecDepth 100000 in
set_option maxHeartbeats 4000000 in
theorem c_X11_stored {G : fG} (hG : fOK G) {d : Nat} (hd : 2 ≤ d) (M : fM) (dv : UInt64) (q0 : sm (M (1 + 11) 6) 300) : fCt G z_X11_stored d [.ref 0] (sS M dv) 0 0 (fD (some (.int (r_X11_stored M))) (sS M dv)) := by
  refine fCt_to [some (.ref 0)] k_X11_stored rfl (Nat.le_of_ble_eq_true rfl) rfl ?_
  refine f_aload_n dX11_stored_0 rfl rfl ?_
  refine s_getr hG fl_X11_10 dX11_stored_1 rfl rfl ?_
  refine s_getr hG fl_X11_216 dX11_stored_4 rS_1.1 rfl ?_
  refine f_aload_n dX11_stored_7 rfl rfl ?_
  refine s_getr hG fl_X11_10 dX11_stored_8 rfl rfl ?_
  refine s_getr hG fl_X11_216 dX11_stored_11 rS_1.1 rfl ?_
  refine s_getr hG fl_X11_228 dX11_stored_14 rS_1.2.2.2.1 rfl ?_
  refine f_cV hG (As := [_]) dX11_stored_17 rfl k_X5_sumOf rfl rfl ml_X11_292 im_X5_sumOf se_X5_sumOf rS_1.2.2.2.1 rfl (c_X5_sumOf hG (d := 1) (Nat.le_refl _) _ _ _ _ rS_1.2.2.2 rS_1.2.2.2.2.2.2.2.2.1 _ q0.1 q0.2) (by omega) (Nat.le_of_ble_eq_true rfl) (Nat.zero_le _) (Nat.zero_le _) ?_
  refine f_ireturn dX11_stored_20 rfl rfl ?_
  exact ⟨by rw [r_X11_stored], rfl⟩

def r_X11_shipped (M : fM) : Int32 := (M 1 5)
set_option maxRecDepth 100000 in
set_option maxHeartbeats 4000000 in
theorem c_X11_shipped {G : fG} (hG : fOK G) {d : Nat} (hd : 0 ≤ d) (M : fM) (dv : UInt64) : fCt G z_X11_shipped d [.ref 0] (sS M dv) 0 0 (fD (some (.int (r_X11_shipped M))) (sS M dv)) := by
  refine fCt_to [some (.ref 0)] k_X11_shipped rfl (Nat.le_of_ble_eq_true rfl) rfl ?_
  refine f_aload_n dX11_shipped_0 rfl rfl ?_
  refine s_getr hG fl_X11_10 dX11_shipped_1 rfl rfl ?_
  refine s_geti hG fl_X11_296 dX11_shipped_4 rS_1.1 rfl ?_
  refine f_ireturn dX11_shipped_7 rfl rfl ?_
  exact ⟨by rw [r_X11_shipped], rfl⟩

def r_X11_recalled (M : fM) : Int32 := (M 1 6)
set_option maxRecDepth 100000 in
set_option maxHeartbeats 4000000 in
theorem c_X11_recalled {G : fG} (hG : fOK G) {d : Nat} (hd : 0 ≤ d) (M : fM) (dv : UInt64) : fCt G z_X11_recalled d [.ref 0] (sS M dv) 0 0 (fD (some (.int (r_X11_recalled M))) (sS M dv)) := by
  refine fCt_to [some (.ref 0)] k_X11_recalled rfl (Nat.le_of_ble_eq_true rfl) rfl ?_
  refine f_aload_n dX11_recalled_0 rfl rfl ?_
  refine s_getr hG fl_X11_10 dX11_recalled_1 rfl rfl ?_
  refine s_geti hG fl_X11_299 dX11_recalled_4 rS_1.1 rfl ?_
  refine f_ireturn dX11_recalled_7 rfl rfl ?_
  exact ⟨by rw [r_X11_recalled], rfl⟩

def r_X11_spoiled (M : fM) : Int32 := (M 1 7)
set_option maxRecDepth 100000 in
set_option maxHeartbeats 4000000 in
theorem c_X11_spoiled {G : fG} (hG : fOK G) {d : Nat} (hd : 0 ≤ d) (M : fM) (dv : UInt64) : fCt G z_X11_spoiled d [.ref 0] (sS M dv) 0 0 (fD (some (.int (r_X11_spoiled M))) (sS M dv)) := by
  refine fCt_to [some (.ref 0)] k_X11_spoiled rfl (Nat.le_of_ble_eq_true rfl) rfl ?_
  refine f_aload_n dX11_spoiled_0 rfl rfl ?_
  refine s_getr hG fl_X11_10 dX11_spoiled_1 rfl rfl ?_
  refine s_geti hG fl_X11_302 dX11_spoiled_4 rS_1.1 rfl ?_
  refine f_ireturn dX11_spoiled_7 rfl rfl ?_
  exact ⟨by rw [r_X11_spoiled], rfl⟩

def o_X11_meanPressure (M : fM) : fR × fM := (if (M (1 + 11) 6) = 0 then (.inr "java/lang/ArithmeticException", M) else (.inl (some (.double (FP.ddiv (FP.i2d (r_X5_sumOf M (1 + 11) (1 + 11 + 11))) (FP.i2d (M (1 + 11) 6))))), M))
set_option maxRecDepth 100000 in
set_option maxHeartbeats 4000000 in
theorem c_X11_meanPressure {G : fG} (hG : fOK G) {d : Nat} (hd : 2 ≤ d) (M : fM) (dv : UInt64) (q0 : ¬ ((M (1 + 11) 6) = 0) → sm (M (1 + 11) 6) 300) (q1 : ¬ ((M (1 + 11) 6) = 0) → vf_n64 (FP.ddiv (FP.i2d (r_X5_sumOf M (1 + 11) (1 + 11 + 11))) (FP.i2d (M (1 + 11) 6)))) : fCt G z_X11_meanPressure d [.ref 0] (sS M dv) 1 6 (fO dv (o_X11_meanPressure M)) := by
  refine fCt_to [some (.ref 0), none] k_X11_meanPressure rfl (Nat.le_of_ble_eq_true rfl) rfl ?_
  refine f_aload_n dX11_meanPressure_0 rfl rfl ?_
  refine s_getr hG fl_X11_10 dX11_meanPressure_1 rfl rfl ?_
  refine s_getr hG fl_X11_216 dX11_meanPressure_4 rS_1.1 rfl ?_
  refine s_geti hG fl_X11_220 dX11_meanPressure_7 rS_1.2.2.2.1 rfl ?_
  refine f_istore_n (ls' := [_, _]) dX11_meanPressure_10 rfl (Nat.le_of_ble_eq_true rfl) rfl rfl ?_
  refine f_iload_n dX11_meanPressure_11 rfl rfl ?_
  refine f_if_ne (tgt := 26) dX11_meanPressure_12 (by decide) (fun c_12 => ?_) (fun c_12 => ?_)
  · refine f_aload_n dX11_meanPressure_26 rfl rfl ?_
    refine s_getr hG fl_X11_10 dX11_meanPressure_27 rfl rfl ?_
    refine s_getr hG fl_X11_216 dX11_meanPressure_30 rS_1.1 rfl ?_
    refine f_aload_n dX11_meanPressure_33 rfl rfl ?_
    refine s_getr hG fl_X11_10 dX11_meanPressure_34 rfl rfl ?_
    refine s_getr hG fl_X11_216 dX11_meanPressure_37 rS_1.1 rfl ?_
    refine s_getr hG fl_X11_239 dX11_meanPressure_40 rS_1.2.2.2.1 rfl ?_
    refine f_cV hG (As := [_]) dX11_meanPressure_43 rfl k_X5_sumOf rfl rfl ml_X11_292 im_X5_sumOf se_X5_sumOf rS_1.2.2.2.1 rfl (c_X5_sumOf hG (d := 1) (Nat.le_refl _) _ _ _ _ rS_1.2.2.2 rS_1.2.2.2.2.2.2.2.2.2 _ (q0 c_12).1 (q0 c_12).2) (by omega) (Nat.le_of_ble_eq_true rfl) (Nat.zero_le _) (Nat.zero_le _) ?_
    refine f_i2d dX11_meanPressure_46 ?_
    refine f_iload_n dX11_meanPressure_47 rfl rfl ?_
    refine f_i2d dX11_meanPressure_48 ?_
    refine f_ddiv dX11_meanPressure_49 ((q1 c_12)) ?_
    refine f_dreturn dX11_meanPressure_50 rfl ?_
    rw [o_X11_meanPressure, if_neg c_12]
    exact ⟨rfl, rfl⟩
  · refine f_throwW hG th_X11_305_309 (st_X11_307) rfl (by decide +kernel) dX11_meanPressure_15 dX11_meanPressure_18 dX11_meanPressure_19 dX11_meanPressure_22 dX11_meanPressure_25 (by decide) (by decide) ?_
    rw [o_X11_meanPressure, if_pos c_12]
    exact ⟨rfl, rfl⟩

def o_X11_shippedShare (M : fM) : fR × fM := (if (M 1 4) = 0 then (.inr "java/lang/ArithmeticException", M) else (.inl (some (.float (FP.fdiv (FP.i2f (M 1 5)) (FP.i2f (M 1 4))))), M))
set_option maxRecDepth 100000 in
set_option maxHeartbeats 4000000 in
theorem c_X11_shippedShare {G : fG} (hG : fOK G) {d : Nat} (hd : 0 ≤ d) (M : fM) (dv : UInt64) (q0 : ¬ ((M 1 4) = 0) → vf_n32 (FP.fdiv (FP.i2f (M 1 5)) (FP.i2f (M 1 4)))) : fCt G z_X11_shippedShare d [.ref 0] (sS M dv) 1 6 (fO dv (o_X11_shippedShare M)) := by
  refine fCt_to [some (.ref 0)] k_X11_shippedShare rfl (Nat.le_of_ble_eq_true rfl) rfl ?_
  refine f_aload_n dX11_shippedShare_0 rfl rfl ?_
  refine s_getr hG fl_X11_10 dX11_shippedShare_1 rfl rfl ?_
  refine s_geti hG fl_X11_289 dX11_shippedShare_4 rS_1.1 rfl ?_
  refine f_if_ne (tgt := 21) dX11_shippedShare_7 (by decide) (fun c_7 => ?_) (fun c_7 => ?_)
  · refine f_aload_n dX11_shippedShare_21 rfl rfl ?_
    refine s_getr hG fl_X11_10 dX11_shippedShare_22 rfl rfl ?_
    refine s_geti hG fl_X11_296 dX11_shippedShare_25 rS_1.1 rfl ?_
    refine f_i2f dX11_shippedShare_28 ?_
    refine f_aload_n dX11_shippedShare_29 rfl rfl ?_
    refine s_getr hG fl_X11_10 dX11_shippedShare_30 rfl rfl ?_
    refine s_geti hG fl_X11_289 dX11_shippedShare_33 rS_1.1 rfl ?_
    refine f_i2f dX11_shippedShare_36 ?_
    refine f_fdiv dX11_shippedShare_37 ((q0 c_7)) ?_
    refine f_freturn dX11_shippedShare_38 rfl ?_
    rw [o_X11_shippedShare, if_neg c_7]
    exact ⟨rfl, rfl⟩
  · refine f_throwW hG th_X11_305_309 (st_X11_310) rfl (by decide +kernel) dX11_shippedShare_10 dX11_shippedShare_13 dX11_shippedShare_14 dX11_shippedShare_17 dX11_shippedShare_20 (by decide) (by decide) ?_
    rw [o_X11_shippedShare, if_pos c_7]
    exact ⟨rfl, rfl⟩

def r_X11_fewestTests (M : fM) : Int32 := (r_J6_bitCount_0f7a4 M (r_X9_best M 1))
set_option maxRecDepth 100000 in
set_option maxHeartbeats 4000000 in
theorem c_X11_fewestTests {G : fG} (hG : fOK G) {d : Nat} (hd : 4 ≤ d) (M : fM) (dv : UInt64) (q0 : sm (M (1 + 11) 6) 300) (q1 : sm (((1 : Int32) <<< ((M (1 + 1) 2) &&& 31)) - (1 : Int32)) 300) : fCt G z_X11_fewestTests d [.ref 0] (sS M dv) 0 0 (fD (some (.int (r_X11_fewestTests M))) (sS M dv)) := by
  refine fCt_to [some (.ref 0)] k_X11_fewestTests rfl (Nat.le_of_ble_eq_true rfl) rfl ?_
  refine f_aload_n dX11_fewestTests_0 rfl rfl ?_
  refine s_getr hG fl_X11_10 dX11_fewestTests_1 rfl rfl ?_
  refine f_cS hG (As := [_]) dX11_fewestTests_4 rfl k_X9_best rfl rfl ml_X11_272 sm_X9_best (c_X9_best hG (d := 3) (Nat.le_refl _) _ _ _ rS_1 _ q0.1 q0.2 _ q1.1 q1.2) (by omega) (Nat.le_of_ble_eq_true rfl) (Nat.zero_le _) (Nat.zero_le _) ?_
  refine f_cS hG (As := [_]) dX11_fewestTests_7 rfl k_J6_bitCount_0f7a4 rfl rfl ml_X11_278 sm_J6_bitCount_0f7a4 (c_J6_bitCount_0f7a4 hG (d := 0) (Nat.le_refl _) _ _ _) (by omega) (Nat.le_of_ble_eq_true rfl) (Nat.zero_le _) (Nat.zero_le _) ?_
  refine f_ireturn dX11_fewestTests_10 rfl rfl ?_
  exact ⟨by rw [r_X11_fewestTests], rfl⟩

def r_X11_fewestTestsByBranching (M : fM) : Int32 := (r_X9_fewestByBranching M 1)
set_option maxRecDepth 100000 in
set_option maxHeartbeats 4000000 in
theorem c_X11_fewestTestsByBranching {G : fG} (hG : fOK G) {d : Nat} (hd : 12 ≤ d) (M : fM) (dv : UInt64) (q0 : sm (M (1 + 11) 6) 300) : fCt G z_X11_fewestTestsByBranching d [.ref 0] (sS M dv) 0 0 (fD (some (.int (r_X11_fewestTestsByBranching M))) (sS M dv)) := by
  refine fCt_to [some (.ref 0)] k_X11_fewestTestsByBranching rfl (Nat.le_of_ble_eq_true rfl) rfl ?_
  refine f_aload_n dX11_fewestTestsByBranching_0 rfl rfl ?_
  refine s_getr hG fl_X11_10 dX11_fewestTestsByBranching_1 rfl rfl ?_
  refine f_cS hG (As := [_]) dX11_fewestTestsByBranching_4 rfl k_X9_fewestByBranching rfl rfl ml_X11_283 sm_X9_fewestByBranching (c_X9_fewestByBranching hG (d := 11) (Nat.le_refl _) _ _ _ rS_1 _ q0.1 q0.2) (by omega) (Nat.le_of_ble_eq_true rfl) (Nat.zero_le _) (Nat.zero_le _) ?_
  refine f_ireturn dX11_fewestTestsByBranching_7 rfl rfl ?_
  exact ⟨by rw [r_X11_fewestTestsByBranching], rfl⟩

def r_X11_clearText (M : fM) : Int32 := (M 267 2)
def m_X11_clearText (M : fM) : fM := (m_X10_clear M 267 60)
set_option maxRecDepth 100000 in
set_option maxHeartbeats 4000000 in
theorem c_X11_clearText {G : fG} (hG : fOK G) {d : Nat} (hd : 1 ≤ d) (M : fM) (dv : UInt64) : fCt G z_X11_clearText d [.ref 0] (sS M dv) 0 0 (fD (some (.int (r_X11_clearText M))) (sS (m_X11_clearText M) dv)) := by
  refine fCt_to [some (.ref 0), none] k_X11_clearText rfl (Nat.le_of_ble_eq_true rfl) rfl ?_
  refine f_aload_n dX11_clearText_0 rfl rfl ?_
  refine s_getr hG fl_X11_34 dX11_clearText_1 rfl rfl ?_
  refine s_geti hG fl_X11_323 dX11_clearText_4 rT_267.1 rfl ?_
  refine f_istore_n (ls' := [_, _]) dX11_clearText_7 rfl (Nat.le_of_ble_eq_true rfl) rfl rfl ?_
  refine f_aload_n dX11_clearText_8 rfl rfl ?_
  refine s_getr hG fl_X11_34 dX11_clearText_9 rfl rfl ?_
  refine f_cV hG (As := []) dX11_clearText_12 rfl k_X10_clear rfl rfl ml_X11_150 im_X10_clear se_X10_clear rT_267.1 rfl (c_X10_clear hG (d := 0) (Nat.le_refl _) _ _ _ _ rT_267 (by decide)) (by omega) (Nat.le_of_ble_eq_true rfl) (Nat.zero_le _) (Nat.zero_le _) ?_
  refine f_iload_n dX11_clearText_15 rfl rfl ?_
  refine f_ireturn dX11_clearText_16 rfl rfl ?_
  exact ⟨by rw [r_X11_clearText], by rw [m_X11_clearText]⟩

def o_X11_errorPosition (M : fM) : fR × fM := (if (M 0 11) = (-1 : Int32) then (.inr "java/util/NoSuchElementException", M) else (.inl (some (.int (M 0 11))), M))
set_option maxRecDepth 100000 in
set_option maxHeartbeats 4000000 in
theorem c_X11_errorPosition {G : fG} (hG : fOK G) {d : Nat} (hd : 0 ≤ d) (M : fM) (dv : UInt64) : fCt G z_X11_errorPosition d [.ref 0] (sS M dv) 1 6 (fO dv (o_X11_errorPosition M)) := by
  refine fCt_to [some (.ref 0)] k_X11_errorPosition rfl (Nat.le_of_ble_eq_true rfl) rfl ?_
  refine f_aload_n dX11_errorPosition_0 rfl rfl ?_
  refine s_geti hG fl_X11_69 dX11_errorPosition_1 rfl rfl ?_
  refine f_iconst (v := (-1)) dX11_errorPosition_4 rfl ?_
  refine f_icmp_ne (tgt := 19) dX11_errorPosition_5 (by decide) (fun c_5 => ?_) (fun c_5 => ?_)
  · refine f_aload_n dX11_errorPosition_19 rfl rfl ?_
    refine s_geti hG fl_X11_69 dX11_errorPosition_20 rfl rfl ?_
    refine f_ireturn dX11_errorPosition_23 rfl rfl ?_
    rw [o_X11_errorPosition, if_neg c_5]
    exact ⟨rfl, rfl⟩
  · refine f_throwNW hG th_X11_176_180 (st_X11_373) rfl (by decide +kernel) dX11_errorPosition_8 dX11_errorPosition_11 dX11_errorPosition_12 dX11_errorPosition_15 dX11_errorPosition_18 (by decide) (by decide) ?_
    rw [o_X11_errorPosition, if_pos c_5]
    exact ⟨rfl, rfl⟩

def o_X11_failedCommand (M : fM) : fR × fM := (if (M 0 12) = (-1 : Int32) then (.inr "java/util/NoSuchElementException", M) else (.inl (some (.int (M 0 12))), M))
set_option maxRecDepth 100000 in
set_option maxHeartbeats 4000000 in
theorem c_X11_failedCommand {G : fG} (hG : fOK G) {d : Nat} (hd : 0 ≤ d) (M : fM) (dv : UInt64) : fCt G z_X11_failedCommand d [.ref 0] (sS M dv) 1 6 (fO dv (o_X11_failedCommand M)) := by
  refine fCt_to [some (.ref 0)] k_X11_failedCommand rfl (Nat.le_of_ble_eq_true rfl) rfl ?_
  refine f_aload_n dX11_failedCommand_0 rfl rfl ?_
  refine s_geti hG fl_X11_73 dX11_failedCommand_1 rfl rfl ?_
  refine f_iconst (v := (-1)) dX11_failedCommand_4 rfl ?_
  refine f_icmp_ne (tgt := 19) dX11_failedCommand_5 (by decide) (fun c_5 => ?_) (fun c_5 => ?_)
  · refine f_aload_n dX11_failedCommand_19 rfl rfl ?_
    refine s_geti hG fl_X11_73 dX11_failedCommand_20 rfl rfl ?_
    refine f_ireturn dX11_failedCommand_23 rfl rfl ?_
    rw [o_X11_failedCommand, if_neg c_5]
    exact ⟨rfl, rfl⟩
  · refine f_throwNW hG th_X11_176_180 (st_X11_375) rfl (by decide +kernel) dX11_failedCommand_8 dX11_failedCommand_11 dX11_failedCommand_12 dX11_failedCommand_15 dX11_failedCommand_18 (by decide) (by decide) ?_
    rw [o_X11_failedCommand, if_pos c_5]
    exact ⟨rfl, rfl⟩

def o_X11_undo (M : fM) : fR × fM := (if (M 73 2) = 0 then (.inr "java/lang/IllegalStateException", M) else (.inl (some (.int ((m_X4_takeBack M 1) 73 2))), (m_X4_takeBack M 1)))
set_option maxRecDepth 100000 in
set_option maxHeartbeats 4000000 in
theorem c_X11_undo {G : fG} (hG : fOK G) {d : Nat} (hd : 4 ≤ d) (M : fM) (dv : UInt64) (q0 : ¬ ((M 73 2) = 0) → 0 < M 73 1 → sm (M 73 1 - 1) 8) : fCt G z_X11_undo d [.ref 0] (sS M dv) 1 6 (fO dv (o_X11_undo M)) := by
  refine fCt_to [some (.ref 0)] k_X11_undo rfl (Nat.le_of_ble_eq_true rfl) rfl ?_
  refine f_aload_n dX11_undo_0 rfl rfl ?_
  refine s_getr hG fl_X11_25 dX11_undo_1 rfl rfl ?_
  refine s_geti hG fl_X11_377 dX11_undo_4 rfl rfl ?_
  refine f_if_ne (tgt := 21) dX11_undo_7 (by decide) (fun c_7 => ?_) (fun c_7 => ?_)
  · refine f_aload_n dX11_undo_21 rfl rfl ?_
    refine s_getr hG fl_X11_25 dX11_undo_22 rfl rfl ?_
    refine f_aload_n dX11_undo_25 rfl rfl ?_
    refine s_getr hG fl_X11_10 dX11_undo_26 rfl rfl ?_
    refine f_cV hG (As := [_]) dX11_undo_29 rfl k_X4_takeBack rfl rfl ml_X11_380 im_X4_takeBack se_X4_takeBack rfl rfl (c_X4_takeBack hG (d := 3) (Nat.le_refl _) _ _ _ rS_1 (fun h => (q0 c_7) h)) (by omega) (Nat.le_of_ble_eq_true rfl) (Nat.zero_le _) (Nat.zero_le _) ?_
    refine f_aload_n dX11_undo_32 rfl rfl ?_
    refine s_getr hG fl_X11_25 dX11_undo_33 rfl rfl ?_
    refine s_geti hG fl_X11_377 dX11_undo_36 rfl rfl ?_
    refine f_ireturn dX11_undo_39 rfl rfl ?_
    rw [o_X11_undo, if_neg c_7]
    exact ⟨rfl, rfl⟩
  · refine f_throwW hG th_X11_353_357 (st_X11_378) rfl (by decide +kernel) dX11_undo_10 dX11_undo_13 dX11_undo_14 dX11_undo_17 dX11_undo_20 (by decide) (by decide) ?_
    rw [o_X11_undo, if_pos c_7]
    exact ⟨rfl, rfl⟩

def r_X11_save (M : fM) : Int32 := ((fst1 (m_X8_copyFrom M 49 1) 0 10 (1 : Int32)) (1 + 11) 6)
def m_X11_save (M : fM) : fM := (fst1 (m_X8_copyFrom M 49 1) 0 10 (1 : Int32))
set_option maxRecDepth 100000 in
set_option maxHeartbeats 4000000 in
theorem c_X11_save {G : fG} (hG : fOK G) {d : Nat} (hd : 3 ≤ d) (M : fM) (dv : UInt64) : fCt G z_X11_save d [.ref 0] (sS M dv) 0 0 (fD (some (.int (r_X11_save M))) (sS (m_X11_save M) dv)) := by
  refine fCt_to [some (.ref 0)] k_X11_save rfl (Nat.le_of_ble_eq_true rfl) rfl ?_
  refine f_aload_n dX11_save_0 rfl rfl ?_
  refine s_getr hG fl_X11_19 dX11_save_1 rfl rfl ?_
  refine f_aload_n dX11_save_4 rfl rfl ?_
  refine s_getr hG fl_X11_10 dX11_save_5 rfl rfl ?_
  refine f_cV hG (As := [_]) dX11_save_8 rfl k_X8_copyFrom rfl rfl ml_X11_383 im_X8_copyFrom se_X8_copyFrom rS_49.1 rfl (c_X8_copyFrom hG (d := 2) (Nat.le_refl _) _ _ _ _ rS_49 rS_1) (by omega) (Nat.le_of_ble_eq_true rfl) (Nat.zero_le _) (Nat.zero_le _) ?_
  refine f_aload_n dX11_save_11 rfl rfl ?_
  refine f_iconst (v := 1) dX11_save_12 rfl ?_
  refine s_puti hG fl_X11_65 (Or.inl rfl) dX11_save_13 rfl rfl rfl rfl ?_
  refine f_aload_n dX11_save_16 rfl rfl ?_
  refine s_getr hG fl_X11_10 dX11_save_17 rfl rfl ?_
  refine s_getr hG fl_X11_216 dX11_save_20 rS_1.1 rfl ?_
  refine s_geti hG fl_X11_220 dX11_save_23 rS_1.2.2.2.1 rfl ?_
  refine f_ireturn dX11_save_26 rfl rfl ?_
  exact ⟨by rw [r_X11_save], by rw [m_X11_save]⟩

def o_X11_restore (M : fM) : fR × fM := (if (M 0 10) = 0 then (.inr "java/lang/IllegalStateException", M) else (.inl (some (.int ((m_X4_forget (m_X8_copyFrom M 1 49)) (1 + 11) 6))), (m_X4_forget (m_X8_copyFrom M 1 49))))
set_option maxRecDepth 100000 in
set_option maxHeartbeats 4000000 in
theorem c_X11_restore {G : fG} (hG : fOK G) {d : Nat} (hd : 3 ≤ d) (M : fM) (dv : UInt64) : fCt G z_X11_restore d [.ref 0] (sS M dv) 1 6 (fO dv (o_X11_restore M)) := by
  refine fCt_to [some (.ref 0)] k_X11_restore rfl (Nat.le_of_ble_eq_true rfl) rfl ?_
  refine f_aload_n dX11_restore_0 rfl rfl ?_
  refine s_geti hG fl_X11_65 dX11_restore_1 rfl rfl ?_
  refine f_if_ne (tgt := 18) dX11_restore_4 (by decide) (fun c_4 => ?_) (fun c_4 => ?_)
  · refine f_aload_n dX11_restore_18 rfl rfl ?_
    refine s_getr hG fl_X11_10 dX11_restore_19 rfl rfl ?_
    refine f_aload_n dX11_restore_22 rfl rfl ?_
    refine s_getr hG fl_X11_19 dX11_restore_23 rfl rfl ?_
    refine f_cV hG (As := [_]) dX11_restore_26 rfl k_X8_copyFrom rfl rfl ml_X11_383 im_X8_copyFrom se_X8_copyFrom rS_1.1 rfl (c_X8_copyFrom hG (d := 2) (Nat.le_refl _) _ _ _ _ rS_1 rS_49) (by omega) (Nat.le_of_ble_eq_true rfl) (Nat.zero_le _) (Nat.zero_le _) ?_
    refine f_aload_n dX11_restore_29 rfl rfl ?_
    refine s_getr hG fl_X11_25 dX11_restore_30 rfl rfl ?_
    refine f_cV hG (As := []) dX11_restore_33 rfl k_X4_forget rfl rfl ml_X11_388 im_X4_forget se_X4_forget rfl rfl (c_X4_forget hG (d := 0) (Nat.le_refl _) _ _) (by omega) (Nat.le_of_ble_eq_true rfl) (Nat.zero_le _) (Nat.zero_le _) ?_
    refine f_aload_n dX11_restore_36 rfl rfl ?_
    refine s_getr hG fl_X11_10 dX11_restore_37 rfl rfl ?_
    refine s_getr hG fl_X11_216 dX11_restore_40 rS_1.1 rfl ?_
    refine s_geti hG fl_X11_220 dX11_restore_43 rS_1.2.2.2.1 rfl ?_
    refine f_ireturn dX11_restore_46 rfl rfl ?_
    rw [o_X11_restore, if_neg c_4]
    exact ⟨rfl, rfl⟩
  · refine f_throwW hG th_X11_353_357 (st_X11_386) rfl (by decide +kernel) dX11_restore_7 dX11_restore_10 dX11_restore_11 dX11_restore_14 dX11_restore_17 (by decide) (by decide) ?_
    rw [o_X11_restore, if_pos c_4]
    exact ⟨rfl, rfl⟩

def o_X11_mix (M : fM) (a : Int32) (b : Int32) : fR × fM := (if (r_X8_mixRefusal M 1 a b) = (1 : Int32) then (.inr "java/lang/IndexOutOfBoundsException", M) else (if (r_X8_mixRefusal M 1 a b) = (2 : Int32) then (.inr "java/lang/IllegalArgumentException", M) else (if (r_X8_mixRefusal M 1 a b) = (3 : Int32) then (.inr "java/lang/IllegalStateException", M) else (if (r_X8_mixRefusal M 1 a b) = (4 : Int32) then (.inr "java/lang/UnsupportedOperationException", M) else (if (r_X8_mixRefusal M 1 a b) = (5 : Int32) then (.inr "java/util/NoSuchElementException", M) else (.inl (some (.int (r_X0_addBatch (m_X4_keep M 1) (1 + 1) a b))), (m_X0_addBatch (m_X4_keep M 1) (1 + 1) a b)))))))
set_option maxRecDepth 100000 in
set_option maxHeartbeats 4000000 in
theorem c_X11_mix {G : fG} (hG : fOK G) {d : Nat} (hd : 4 ≤ d) (M : fM) (dv : UInt64) (a : Int32) (b : Int32) (q0 : ¬ ((r_X8_mixRefusal M 1 a b) = (1 : Int32)) → ¬ ((r_X8_mixRefusal M 1 a b) = (2 : Int32)) → ¬ ((r_X8_mixRefusal M 1 a b) = (3 : Int32)) → ¬ ((r_X8_mixRefusal M 1 a b) = (4 : Int32)) → ¬ ((r_X8_mixRefusal M 1 a b) = (5 : Int32)) → sm (M 73 1) 8) : fCt G z_X11_mix d [.ref 0, .int a, .int b] (sS M dv) 1 6 (fO dv (o_X11_mix M a b)) := by
  refine fCt_to [some (.ref 0), some (.int a), some (.int b)] k_X11_mix rfl (Nat.le_of_ble_eq_true rfl) rfl ?_
  refine f_aload_n dX11_mix_0 rfl rfl ?_
  refine s_getr hG fl_X11_10 dX11_mix_1 rfl rfl ?_
  refine f_iload_n dX11_mix_4 rfl rfl ?_
  refine f_iload_n dX11_mix_5 rfl rfl ?_
  refine f_cV hG (As := [_, _]) dX11_mix_6 rfl k_X8_mixRefusal rfl rfl ml_X11_96 im_X8_mixRefusal se_X8_mixRefusal rS_1.1 rfl (c_X8_mixRefusal hG (d := 1) (Nat.le_refl _) _ _ _ _ _ rS_1) (by omega) (Nat.le_of_ble_eq_true rfl) (Nat.zero_le _) (Nat.zero_le _) ?_
  by_cases c_9_0 : (r_X8_mixRefusal M 1 a b) = (1 : Int32)
  · refine f_tS hG (As := [_]) dX11_mix_9 rfl k_X11_demandAllowed rfl rfl ml_X11_80 sm_X11_demandAllowed (E := "java/lang/IndexOutOfBoundsException") (M2 := M) (fO_cg (c_X11_demandAllowed hG (d := 0) (Nat.le_refl _) _ _ _) (by rw [o_X11_demandAllowed, if_pos c_9_0])) (by omega) (Nat.le_of_ble_eq_true rfl) (by omega) (by omega) (f_out rfl (by decide +kernel) ?_)
    rw [o_X11_mix, if_pos c_9_0]
    exact ⟨rfl, rfl⟩
  · by_cases c_9_1 : (r_X8_mixRefusal M 1 a b) = (2 : Int32)
    · refine f_tS hG (As := [_]) dX11_mix_9 rfl k_X11_demandAllowed rfl rfl ml_X11_80 sm_X11_demandAllowed (E := "java/lang/IllegalArgumentException") (M2 := M) (fO_cg (c_X11_demandAllowed hG (d := 0) (Nat.le_refl _) _ _ _) (by rw [o_X11_demandAllowed, if_neg c_9_0, if_pos c_9_1])) (by omega) (Nat.le_of_ble_eq_true rfl) (by omega) (by omega) (f_out rfl (by decide +kernel) ?_)
      rw [o_X11_mix, if_neg c_9_0, if_pos c_9_1]
      exact ⟨rfl, rfl⟩
    · by_cases c_9_2 : (r_X8_mixRefusal M 1 a b) = (3 : Int32)
      · refine f_tS hG (As := [_]) dX11_mix_9 rfl k_X11_demandAllowed rfl rfl ml_X11_80 sm_X11_demandAllowed (E := "java/lang/IllegalStateException") (M2 := M) (fO_cg (c_X11_demandAllowed hG (d := 0) (Nat.le_refl _) _ _ _) (by rw [o_X11_demandAllowed, if_neg c_9_0, if_neg c_9_1, if_pos c_9_2])) (by omega) (Nat.le_of_ble_eq_true rfl) (by omega) (by omega) (f_out rfl (by decide +kernel) ?_)
        rw [o_X11_mix, if_neg c_9_0, if_neg c_9_1, if_pos c_9_2]
        exact ⟨rfl, rfl⟩
      · by_cases c_9_3 : (r_X8_mixRefusal M 1 a b) = (4 : Int32)
        · refine f_tS hG (As := [_]) dX11_mix_9 rfl k_X11_demandAllowed rfl rfl ml_X11_80 sm_X11_demandAllowed (E := "java/lang/UnsupportedOperationException") (M2 := M) (fO_cg (c_X11_demandAllowed hG (d := 0) (Nat.le_refl _) _ _ _) (by rw [o_X11_demandAllowed, if_neg c_9_0, if_neg c_9_1, if_neg c_9_2, if_pos c_9_3])) (by omega) (Nat.le_of_ble_eq_true rfl) (by omega) (by omega) (f_out rfl (by decide +kernel) ?_)
          rw [o_X11_mix, if_neg c_9_0, if_neg c_9_1, if_neg c_9_2, if_pos c_9_3]
          exact ⟨rfl, rfl⟩
        · by_cases c_9_4 : (r_X8_mixRefusal M 1 a b) = (5 : Int32)
          · refine f_tS hG (As := [_]) dX11_mix_9 rfl k_X11_demandAllowed rfl rfl ml_X11_80 sm_X11_demandAllowed (E := "java/util/NoSuchElementException") (M2 := M) (fO_cg (c_X11_demandAllowed hG (d := 0) (Nat.le_refl _) _ _ _) (by rw [o_X11_demandAllowed, if_neg c_9_0, if_neg c_9_1, if_neg c_9_2, if_neg c_9_3, if_pos c_9_4])) (by omega) (Nat.le_of_ble_eq_true rfl) (by omega) (by omega) (f_out rfl (by decide +kernel) ?_)
            rw [o_X11_mix, if_neg c_9_0, if_neg c_9_1, if_neg c_9_2, if_neg c_9_3, if_pos c_9_4]
            exact ⟨rfl, rfl⟩
          · refine f_rS hG (As := [_]) dX11_mix_9 rfl k_X11_demandAllowed rfl rfl ml_X11_80 sm_X11_demandAllowed (v := none) (M2 := M) (fO_cg (c_X11_demandAllowed hG (d := 0) (Nat.le_refl _) _ _ _) (by rw [o_X11_demandAllowed, if_neg c_9_0, if_neg c_9_1, if_neg c_9_2, if_neg c_9_3, if_neg c_9_4])) (by omega) (Nat.le_of_ble_eq_true rfl) (by omega) (by omega) ?_
            refine f_aload_n dX11_mix_12 rfl rfl ?_
            refine s_getr hG fl_X11_25 dX11_mix_13 rfl rfl ?_
            refine f_aload_n dX11_mix_16 rfl rfl ?_
            refine s_getr hG fl_X11_10 dX11_mix_17 rfl rfl ?_
            refine f_cV hG (As := [_]) dX11_mix_20 rfl k_X4_keep rfl rfl ml_X11_83 im_X4_keep se_X4_keep rfl rfl (c_X4_keep hG (d := 3) (Nat.le_refl _) _ _ _ rS_1 (q0 c_9_0 c_9_1 c_9_2 c_9_3 c_9_4).1 (q0 c_9_0 c_9_1 c_9_2 c_9_3 c_9_4).2) (by omega) (Nat.le_of_ble_eq_true rfl) (Nat.zero_le _) (Nat.zero_le _) ?_
            refine f_aload_n dX11_mix_23 rfl rfl ?_
            refine s_getr hG fl_X11_10 dX11_mix_24 rfl rfl ?_
            refine s_getr hG fl_X11_87 dX11_mix_27 rS_1.1 rfl ?_
            refine f_iload_n dX11_mix_30 rfl rfl ?_
            refine f_iload_n dX11_mix_31 rfl rfl ?_
            refine f_cV hG (As := [_, _]) dX11_mix_32 rfl k_X0_addBatch rfl rfl ml_X11_100 im_X0_addBatch se_X0_addBatch rS_1.2.1.1 rfl (c_X0_addBatch hG (d := 1) (Nat.le_refl _) _ _ _ _ _ rS_1.2.1) (by omega) (Nat.le_of_ble_eq_true rfl) (Nat.zero_le _) (Nat.zero_le _) ?_
            refine f_ireturn dX11_mix_35 rfl rfl ?_
            rw [o_X11_mix, if_neg c_9_0, if_neg c_9_1, if_neg c_9_2, if_neg c_9_3, if_neg c_9_4]
            exact ⟨rfl, rfl⟩

def o_X11_isFaulty (M : fM) (a : Int32) : fR × fM := (if (r_X0_hasRaw M (1 + 1) a) = 0 then (.inr "java/lang/IndexOutOfBoundsException", M) else (.inl (some (.int (r_X0_isRawFaulty M (1 + 1) a))), M))
set_option maxRecDepth 100000 in
set_option maxHeartbeats 4000000 in
theorem c_X11_isFaulty {G : fG} (hG : fOK G) {d : Nat} (hd : 2 ≤ d) (M : fM) (dv : UInt64) (a : Int32) : fCt G z_X11_isFaulty d [.ref 0, .int a] (sS M dv) 1 6 (fO dv (o_X11_isFaulty M a)) := by
  refine fCt_to [some (.ref 0), some (.int a)] k_X11_isFaulty rfl (Nat.le_of_ble_eq_true rfl) rfl ?_
  refine f_aload_n dX11_isFaulty_0 rfl rfl ?_
  refine f_iload_n dX11_isFaulty_1 rfl rfl ?_
  by_cases c_2_0 : (r_X0_hasRaw M (1 + 1) a) = 0
  · refine f_tV hG (As := [_]) dX11_isFaulty_2 rfl k_X11_demandRaw rfl rfl ml_X11_109 im_X11_demandRaw se_X11_demandRaw rfl rfl (E := "java/lang/IndexOutOfBoundsException") (M2 := M) (fO_cg (c_X11_demandRaw hG (d := 1) (Nat.le_refl _) _ _ _) (by rw [o_X11_demandRaw, if_pos c_2_0])) (by omega) (Nat.le_of_ble_eq_true rfl) (by omega) (by omega) (f_out rfl (by decide +kernel) ?_)
    rw [o_X11_isFaulty, if_pos c_2_0]
    exact ⟨rfl, rfl⟩
  · refine f_rV hG (As := [_]) dX11_isFaulty_2 rfl k_X11_demandRaw rfl rfl ml_X11_109 im_X11_demandRaw se_X11_demandRaw rfl rfl (v := none) (M2 := M) (fO_cg (c_X11_demandRaw hG (d := 1) (Nat.le_refl _) _ _ _) (by rw [o_X11_demandRaw, if_neg c_2_0])) (by omega) (Nat.le_of_ble_eq_true rfl) (by omega) (by omega) ?_
    refine f_aload_n dX11_isFaulty_5 rfl rfl ?_
    refine s_getr hG fl_X11_10 dX11_isFaulty_6 rfl rfl ?_
    refine s_getr hG fl_X11_87 dX11_isFaulty_9 rS_1.1 rfl ?_
    refine f_iload_n dX11_isFaulty_12 rfl rfl ?_
    refine f_cV hG (As := [_]) dX11_isFaulty_13 rfl k_X0_isRawFaulty rfl rfl ml_X11_112 im_X0_isRawFaulty se_X0_isRawFaulty rS_1.2.1.1 rfl (c_X0_isRawFaulty hG (d := 1) (Nat.le_refl _) _ _ _ _ rS_1.2.1) (by omega) (Nat.le_of_ble_eq_true rfl) (Nat.zero_le _) (Nat.zero_le _) ?_
    refine f_ireturn dX11_isFaulty_16 rfl (n_X0_isRawFaulty ..) ?_
    rw [o_X11_isFaulty, if_neg c_2_0]
    exact ⟨rfl, rfl⟩

def o_X11_strengthOf (M : fM) (a : Int32) : fR × fM := (if (r_X0_hasBatch M (1 + 1) a) = 0 then (.inr "java/lang/IndexOutOfBoundsException", M) else (.inl (some (.int (rget M (1 + 1 + 3) 6 a))), M))
set_option maxRecDepth 100000 in
set_option maxHeartbeats 4000000 in
theorem c_X11_strengthOf {G : fG} (hG : fOK G) {d : Nat} (hd : 2 ≤ d) (M : fM) (dv : UInt64) (a : Int32) : fCt G z_X11_strengthOf d [.ref 0, .int a] (sS M dv) 1 6 (fO dv (o_X11_strengthOf M a)) := by
  refine fCt_to [some (.ref 0), some (.int a)] k_X11_strengthOf rfl (Nat.le_of_ble_eq_true rfl) rfl ?_
  refine f_aload_n dX11_strengthOf_0 rfl rfl ?_
  refine f_iload_n dX11_strengthOf_1 rfl rfl ?_
  by_cases c_2_0 : (r_X0_hasBatch M (1 + 1) a) = 0
  · refine f_tV hG (As := [_]) dX11_strengthOf_2 rfl k_X11_demandBatch rfl rfl ml_X11_116 im_X11_demandBatch se_X11_demandBatch rfl rfl (E := "java/lang/IndexOutOfBoundsException") (M2 := M) (fO_cg (c_X11_demandBatch hG (d := 1) (Nat.le_refl _) _ _ _) (by rw [o_X11_demandBatch, if_pos c_2_0])) (by omega) (Nat.le_of_ble_eq_true rfl) (by omega) (by omega) (f_out rfl (by decide +kernel) ?_)
    rw [o_X11_strengthOf, if_pos c_2_0]
    exact ⟨rfl, rfl⟩
  · refine f_rV hG (As := [_]) dX11_strengthOf_2 rfl k_X11_demandBatch rfl rfl ml_X11_116 im_X11_demandBatch se_X11_demandBatch rfl rfl (v := none) (M2 := M) (fO_cg (c_X11_demandBatch hG (d := 1) (Nat.le_refl _) _ _ _) (by rw [o_X11_demandBatch, if_neg c_2_0])) (by omega) (Nat.le_of_ble_eq_true rfl) (by omega) (by omega) ?_
    refine f_aload_n dX11_strengthOf_5 rfl rfl ?_
    refine s_getr hG fl_X11_10 dX11_strengthOf_6 rfl rfl ?_
    refine s_getr hG fl_X11_87 dX11_strengthOf_9 rS_1.1 rfl ?_
    refine s_getr hG fl_X11_119 dX11_strengthOf_12 rS_1.2.1.1 rfl ?_
    refine f_iload_n dX11_strengthOf_15 rfl rfl ?_
    refine f_cV hG (As := [_]) dX11_strengthOf_16 rfl k_X7_get rfl rfl ml_X11_123 im_X7_get se_X7_get rS_1.2.1.2.2.1 rfl (c_X7_get hG (Nat.le_refl _) _ _ _ _ rS_1.2.1.2.2 (by decide) _) (by omega) (Nat.le_of_ble_eq_true rfl) (Nat.zero_le _) (Nat.zero_le _) ?_
    refine f_ireturn dX11_strengthOf_19 rfl rfl ?_
    rw [o_X11_strengthOf, if_neg c_2_0]
    exact ⟨rfl, rfl⟩

def o_X11_labelLength (M : fM) (a : Int32) : fR × fM := (if (r_X6_has M (1 + 6) a) = 0 then (.inr "java/lang/IndexOutOfBoundsException", M) else (.inl (some (.int (rget M (1 + 6 + 1) 8 a))), M))
set_option maxRecDepth 100000 in
set_option maxHeartbeats 4000000 in
theorem c_X11_labelLength {G : fG} (hG : fOK G) {d : Nat} (hd : 2 ≤ d) (M : fM) (dv : UInt64) (a : Int32) : fCt G z_X11_labelLength d [.ref 0, .int a] (sS M dv) 1 6 (fO dv (o_X11_labelLength M a)) := by
  refine fCt_to [some (.ref 0), some (.int a)] k_X11_labelLength rfl (Nat.le_of_ble_eq_true rfl) rfl ?_
  refine f_aload_n dX11_labelLength_0 rfl rfl ?_
  refine f_iload_n dX11_labelLength_1 rfl rfl ?_
  by_cases c_2_0 : (r_X6_has M (1 + 6) a) = 0
  · refine f_tV hG (As := [_]) dX11_labelLength_2 rfl k_X11_demandLabel rfl rfl ml_X11_156 im_X11_demandLabel se_X11_demandLabel rfl rfl (E := "java/lang/IndexOutOfBoundsException") (M2 := M) (fO_cg (c_X11_demandLabel hG (d := 1) (Nat.le_refl _) _ _ _) (by rw [o_X11_demandLabel, if_pos c_2_0])) (by omega) (Nat.le_of_ble_eq_true rfl) (by omega) (by omega) (f_out rfl (by decide +kernel) ?_)
    rw [o_X11_labelLength, if_pos c_2_0]
    exact ⟨rfl, rfl⟩
  · refine f_rV hG (As := [_]) dX11_labelLength_2 rfl k_X11_demandLabel rfl rfl ml_X11_156 im_X11_demandLabel se_X11_demandLabel rfl rfl (v := none) (M2 := M) (fO_cg (c_X11_demandLabel hG (d := 1) (Nat.le_refl _) _ _ _) (by rw [o_X11_demandLabel, if_neg c_2_0])) (by omega) (Nat.le_of_ble_eq_true rfl) (by omega) (by omega) ?_
    refine f_aload_n dX11_labelLength_5 rfl rfl ?_
    refine s_getr hG fl_X11_10 dX11_labelLength_6 rfl rfl ?_
    refine s_getr hG fl_X11_140 dX11_labelLength_9 rS_1.1 rfl ?_
    refine s_getr hG fl_X11_159 dX11_labelLength_12 rS_1.2.2.1.1 rfl ?_
    refine f_iload_n dX11_labelLength_15 rfl rfl ?_
    refine f_cV hG (As := [_]) dX11_labelLength_16 rfl k_X7_get rfl rfl ml_X11_123 im_X7_get se_X7_get rS_1.2.2.1.2.1.1 rfl (c_X7_get hG (Nat.le_refl _) _ _ _ _ rS_1.2.2.1.2.1 (by decide) _) (by omega) (Nat.le_of_ble_eq_true rfl) (Nat.zero_le _) (Nat.zero_le _) ?_
    refine f_ireturn dX11_labelLength_19 rfl rfl ?_
    rw [o_X11_labelLength, if_neg c_2_0]
    exact ⟨rfl, rfl⟩

def o_X11_distanceTo (M : fM) (a : Int32) : fR × fM := (if (r_X6_has M (1 + 6) a) = 0 then (.inr "java/lang/IndexOutOfBoundsException", M) else (if (r_X10_isLetters M 267 60 (12 : Int32)) = 0 then (.inr "java/lang/IllegalArgumentException", M) else (.inl (some (.int (r_X11_tableDistance M a))), (m_X11_tableDistance M a))))
set_option maxRecDepth 100000 in
set_option maxHeartbeats 4000000 in
theorem c_X11_distanceTo {G : fG} (hG : fOK G) {d : Nat} (hd : 5 ≤ d) (M : fM) (dv : UInt64) (a : Int32) (q0 : ¬ ((r_X6_has M (1 + 6) a) = 0) → sm (M 267 2) 300) (q1 : ¬ ((r_X6_has M (1 + 6) a) = 0) → ¬ ((r_X10_isLetters M 267 60 (12 : Int32)) = 0) → sm (rget (m_X10_clear M 273 6) ((1 + 6) + 1) 8 a) 300) (q2 : ¬ ((r_X6_has M (1 + 6) a) = 0) → ¬ ((r_X10_isLetters M 267 60 (12 : Int32)) = 0) → sm ((m_X11_takeWord M a) 267 2) 300) (q3 : ¬ ((r_X6_has M (1 + 6) a) = 0) → ¬ ((r_X10_isLetters M 267 60 (12 : Int32)) = 0) → sm ((m_X11_takeWord M a) 273 2) 300) : fCt G z_X11_distanceTo d [.ref 0, .int a] (sS M dv) 2 12 (fO dv (o_X11_distanceTo M a)) := by
  refine fCt_to [some (.ref 0), some (.int a)] k_X11_distanceTo rfl (Nat.le_of_ble_eq_true rfl) rfl ?_
  refine f_aload_n dX11_distanceTo_0 rfl rfl ?_
  refine f_iload_n dX11_distanceTo_1 rfl rfl ?_
  by_cases c_2_0 : (r_X6_has M (1 + 6) a) = 0
  · refine f_tV hG (As := [_]) dX11_distanceTo_2 rfl k_X11_demandLabel rfl rfl ml_X11_156 im_X11_demandLabel se_X11_demandLabel rfl rfl (E := "java/lang/IndexOutOfBoundsException") (M2 := M) (fO_cg (c_X11_demandLabel hG (d := 1) (Nat.le_refl _) _ _ _) (by rw [o_X11_demandLabel, if_pos c_2_0])) (by omega) (Nat.le_of_ble_eq_true rfl) (by omega) (by omega) (f_out rfl (by decide +kernel) ?_)
    rw [o_X11_distanceTo, if_pos c_2_0]
    exact ⟨rfl, rfl⟩
  · refine f_rV hG (As := [_]) dX11_distanceTo_2 rfl k_X11_demandLabel rfl rfl ml_X11_156 im_X11_demandLabel se_X11_demandLabel rfl rfl (v := none) (M2 := M) (fO_cg (c_X11_demandLabel hG (d := 1) (Nat.le_refl _) _ _ _) (by rw [o_X11_demandLabel, if_neg c_2_0])) (by omega) (Nat.le_of_ble_eq_true rfl) (by omega) (by omega) ?_
    refine f_aload_n dX11_distanceTo_5 rfl rfl ?_
    by_cases c_6_0 : (r_X10_isLetters M 267 60 (12 : Int32)) = 0
    · refine f_tV hG (As := []) dX11_distanceTo_6 rfl k_X11_demandScannedText rfl rfl ml_X11_173 im_X11_demandScannedText se_X11_demandScannedText rfl rfl (E := "java/lang/IllegalArgumentException") (M2 := M) (fO_cg (c_X11_demandScannedText hG (d := 3) (Nat.le_refl _) _ _ (q0 c_2_0)) (by rw [o_X11_demandScannedText, if_pos c_6_0])) (by omega) (Nat.le_of_ble_eq_true rfl) (by omega) (by omega) (f_out rfl (by decide +kernel) ?_)
      rw [o_X11_distanceTo, if_neg c_2_0, if_pos c_6_0]
      exact ⟨rfl, rfl⟩
    · refine f_rV hG (As := []) dX11_distanceTo_6 rfl k_X11_demandScannedText rfl rfl ml_X11_173 im_X11_demandScannedText se_X11_demandScannedText rfl rfl (v := none) (M2 := M) (fO_cg (c_X11_demandScannedText hG (d := 3) (Nat.le_refl _) _ _ (q0 c_2_0)) (by rw [o_X11_demandScannedText, if_neg c_6_0])) (by omega) (Nat.le_of_ble_eq_true rfl) (by omega) (by omega) ?_
      refine f_aload_n dX11_distanceTo_9 rfl rfl ?_
      refine f_iload_n dX11_distanceTo_10 rfl rfl ?_
      refine f_cV hG (As := [_]) dX11_distanceTo_11 rfl k_X11_tableDistance rfl rfl ml_X11_181 im_X11_tableDistance se_X11_tableDistance rfl rfl (c_X11_tableDistance hG (d := 4) (Nat.le_refl _) _ _ _ (q1 c_2_0 c_6_0) (q2 c_2_0 c_6_0) (q3 c_2_0 c_6_0)) (by omega) (Nat.le_of_ble_eq_true rfl) (Nat.zero_le _) (Nat.zero_le _) ?_
      refine f_ireturn dX11_distanceTo_14 rfl rfl ?_
      rw [o_X11_distanceTo, if_neg c_2_0, if_neg c_6_0]
      exact ⟨rfl, rfl⟩

def o_X11_distanceByLetters (M : fM) (a : Int32) : fR × fM := (if (r_X6_has M (1 + 6) a) = 0 then (.inr "java/lang/IndexOutOfBoundsException", M) else (if (r_X10_isLetters M 267 60 (12 : Int32)) = 0 then (.inr "java/lang/IllegalArgumentException", M) else (.inl (some (.int (r_X3_byLetters (m_X11_takeWord M a) 267 60 273 6))), (m_X3_byLetters (m_X11_takeWord M a) 267 60 273 6))))
set_option maxRecDepth 100000 in
set_option maxHeartbeats 4000000 in
theorem c_X11_distanceByLetters {G : fG} (hG : fOK G) {d : Nat} (hd : 24 ≤ d) (M : fM) (dv : UInt64) (a : Int32) (q0 : ¬ ((r_X6_has M (1 + 6) a) = 0) → sm (M 267 2) 300) (q1 : ¬ ((r_X6_has M (1 + 6) a) = 0) → ¬ ((r_X10_isLetters M 267 60 (12 : Int32)) = 0) → sm (rget (m_X10_clear M 273 6) ((1 + 6) + 1) 8 a) 300) : fCt G z_X11_distanceByLetters d [.ref 0, .int a] (sS M dv) 2 12 (fO dv (o_X11_distanceByLetters M a)) := by
  refine fCt_to [some (.ref 0), some (.int a)] k_X11_distanceByLetters rfl (Nat.le_of_ble_eq_true rfl) rfl ?_
  refine f_aload_n dX11_distanceByLetters_0 rfl rfl ?_
  refine f_iload_n dX11_distanceByLetters_1 rfl rfl ?_
  by_cases c_2_0 : (r_X6_has M (1 + 6) a) = 0
  · refine f_tV hG (As := [_]) dX11_distanceByLetters_2 rfl k_X11_demandLabel rfl rfl ml_X11_156 im_X11_demandLabel se_X11_demandLabel rfl rfl (E := "java/lang/IndexOutOfBoundsException") (M2 := M) (fO_cg (c_X11_demandLabel hG (d := 1) (Nat.le_refl _) _ _ _) (by rw [o_X11_demandLabel, if_pos c_2_0])) (by omega) (Nat.le_of_ble_eq_true rfl) (by omega) (by omega) (f_out rfl (by decide +kernel) ?_)
    rw [o_X11_distanceByLetters, if_pos c_2_0]
    exact ⟨rfl, rfl⟩
  · refine f_rV hG (As := [_]) dX11_distanceByLetters_2 rfl k_X11_demandLabel rfl rfl ml_X11_156 im_X11_demandLabel se_X11_demandLabel rfl rfl (v := none) (M2 := M) (fO_cg (c_X11_demandLabel hG (d := 1) (Nat.le_refl _) _ _ _) (by rw [o_X11_demandLabel, if_neg c_2_0])) (by omega) (Nat.le_of_ble_eq_true rfl) (by omega) (by omega) ?_
    refine f_aload_n dX11_distanceByLetters_5 rfl rfl ?_
    by_cases c_6_0 : (r_X10_isLetters M 267 60 (12 : Int32)) = 0
    · refine f_tV hG (As := []) dX11_distanceByLetters_6 rfl k_X11_demandScannedText rfl rfl ml_X11_173 im_X11_demandScannedText se_X11_demandScannedText rfl rfl (E := "java/lang/IllegalArgumentException") (M2 := M) (fO_cg (c_X11_demandScannedText hG (d := 3) (Nat.le_refl _) _ _ (q0 c_2_0)) (by rw [o_X11_demandScannedText, if_pos c_6_0])) (by omega) (Nat.le_of_ble_eq_true rfl) (by omega) (by omega) (f_out rfl (by decide +kernel) ?_)
      rw [o_X11_distanceByLetters, if_neg c_2_0, if_pos c_6_0]
      exact ⟨rfl, rfl⟩
    · refine f_rV hG (As := []) dX11_distanceByLetters_6 rfl k_X11_demandScannedText rfl rfl ml_X11_173 im_X11_demandScannedText se_X11_demandScannedText rfl rfl (v := none) (M2 := M) (fO_cg (c_X11_demandScannedText hG (d := 3) (Nat.le_refl _) _ _ (q0 c_2_0)) (by rw [o_X11_demandScannedText, if_neg c_6_0])) (by omega) (Nat.le_of_ble_eq_true rfl) (by omega) (by omega) ?_
      refine f_aload_n dX11_distanceByLetters_9 rfl rfl ?_
      refine f_iload_n dX11_distanceByLetters_10 rfl rfl ?_
      refine f_cV hG (As := [_]) dX11_distanceByLetters_11 rfl k_X11_takeWord rfl rfl ml_X11_184 im_X11_takeWord se_X11_takeWord rfl rfl (c_X11_takeWord hG (d := 3) (Nat.le_refl _) _ _ _ (q1 c_2_0 c_6_0)) (by omega) (Nat.le_of_ble_eq_true rfl) (Nat.zero_le _) (Nat.zero_le _) ?_
      refine f_aload_n dX11_distanceByLetters_14 rfl rfl ?_
      refine s_getr hG fl_X11_54 dX11_distanceByLetters_15 rfl rfl ?_
      refine f_aload_n dX11_distanceByLetters_18 rfl rfl ?_
      refine s_getr hG fl_X11_34 dX11_distanceByLetters_19 rfl rfl ?_
      refine f_aload_n dX11_distanceByLetters_22 rfl rfl ?_
      refine s_getr hG fl_X11_41 dX11_distanceByLetters_23 rfl rfl ?_
      refine f_cV hG (As := [_, _]) dX11_distanceByLetters_26 rfl k_X3_byLetters rfl rfl ml_X11_187 im_X3_byLetters se_X3_byLetters rfl rfl (c_X3_byLetters hG (d := 23) (Nat.le_refl _) _ _ _ _ _ _ rT_267 (by decide) rT_273 (by decide)) (by omega) (Nat.le_of_ble_eq_true rfl) (Nat.zero_le _) (Nat.zero_le _) ?_
      refine f_ireturn dX11_distanceByLetters_29 rfl rfl ?_
      rw [o_X11_distanceByLetters, if_neg c_2_0, if_neg c_6_0]
      exact ⟨rfl, rfl⟩

def o_X11_ship (M : fM) (a : Int32) : fR × fM := (if (r_X8_shipRefusal M 1 a) = (1 : Int32) then (.inr "java/lang/IndexOutOfBoundsException", M) else (if (r_X8_shipRefusal M 1 a) = (2 : Int32) then (.inr "java/lang/IllegalArgumentException", M) else (if (r_X8_shipRefusal M 1 a) = (3 : Int32) then (.inr "java/lang/IllegalStateException", M) else (if (r_X8_shipRefusal M 1 a) = (4 : Int32) then (.inr "java/lang/UnsupportedOperationException", M) else (if (r_X8_shipRefusal M 1 a) = (5 : Int32) then (.inr "java/util/NoSuchElementException", M) else (.inl (some (.int (r_X8_shipLot (m_X4_keep M 1) 1 a))), (m_X8_shipLot (m_X4_keep M 1) 1 a)))))))
set_option maxRecDepth 100000 in
set_option maxHeartbeats 4000000 in
theorem c_X11_ship {G : fG} (hG : fOK G) {d : Nat} (hd : 4 ≤ d) (M : fM) (dv : UInt64) (a : Int32) (q0 : sm (M (1 + 11) 6) 300) (q1 : ¬ ((r_X8_shipRefusal M 1 a) = (1 : Int32)) → ¬ ((r_X8_shipRefusal M 1 a) = (2 : Int32)) → ¬ ((r_X8_shipRefusal M 1 a) = (3 : Int32)) → ¬ ((r_X8_shipRefusal M 1 a) = (4 : Int32)) → ¬ ((r_X8_shipRefusal M 1 a) = (5 : Int32)) → sm (M 73 1) 8) (q2 : ¬ ((r_X8_shipRefusal M 1 a) = (1 : Int32)) → ¬ ((r_X8_shipRefusal M 1 a) = (2 : Int32)) → ¬ ((r_X8_shipRefusal M 1 a) = (3 : Int32)) → ¬ ((r_X8_shipRefusal M 1 a) = (4 : Int32)) → ¬ ((r_X8_shipRefusal M 1 a) = (5 : Int32)) → sm ((m_X4_keep M 1) (1 + 11) 6) 300) (q3 : ¬ ((r_X8_shipRefusal M 1 a) = (1 : Int32)) → ¬ ((r_X8_shipRefusal M 1 a) = (2 : Int32)) → ¬ ((r_X8_shipRefusal M 1 a) = (3 : Int32)) → ¬ ((r_X8_shipRefusal M 1 a) = (4 : Int32)) → ¬ ((r_X8_shipRefusal M 1 a) = (5 : Int32)) → sm (r_X5_positionOf (m_X4_keep M 1) (1 + 11) a) 8) : fCt G z_X11_ship d [.ref 0, .int a] (sS M dv) 1 6 (fO dv (o_X11_ship M a)) := by
  refine fCt_to [some (.ref 0), some (.int a)] k_X11_ship rfl (Nat.le_of_ble_eq_true rfl) rfl ?_
  refine f_aload_n dX11_ship_0 rfl rfl ?_
  refine s_getr hG fl_X11_10 dX11_ship_1 rfl rfl ?_
  refine f_iload_n dX11_ship_4 rfl rfl ?_
  refine f_cV hG (As := [_]) dX11_ship_5 rfl k_X8_shipRefusal rfl rfl ml_X11_198 im_X8_shipRefusal se_X8_shipRefusal rS_1.1 rfl (c_X8_shipRefusal hG (d := 2) (Nat.le_refl _) _ _ _ _ rS_1 _ q0.1 q0.2) (by omega) (Nat.le_of_ble_eq_true rfl) (Nat.zero_le _) (Nat.zero_le _) ?_
  by_cases c_8_0 : (r_X8_shipRefusal M 1 a) = (1 : Int32)
  · refine f_tS hG (As := [_]) dX11_ship_8 rfl k_X11_demandAllowed rfl rfl ml_X11_80 sm_X11_demandAllowed (E := "java/lang/IndexOutOfBoundsException") (M2 := M) (fO_cg (c_X11_demandAllowed hG (d := 0) (Nat.le_refl _) _ _ _) (by rw [o_X11_demandAllowed, if_pos c_8_0])) (by omega) (Nat.le_of_ble_eq_true rfl) (by omega) (by omega) (f_out rfl (by decide +kernel) ?_)
    rw [o_X11_ship, if_pos c_8_0]
    exact ⟨rfl, rfl⟩
  · by_cases c_8_1 : (r_X8_shipRefusal M 1 a) = (2 : Int32)
    · refine f_tS hG (As := [_]) dX11_ship_8 rfl k_X11_demandAllowed rfl rfl ml_X11_80 sm_X11_demandAllowed (E := "java/lang/IllegalArgumentException") (M2 := M) (fO_cg (c_X11_demandAllowed hG (d := 0) (Nat.le_refl _) _ _ _) (by rw [o_X11_demandAllowed, if_neg c_8_0, if_pos c_8_1])) (by omega) (Nat.le_of_ble_eq_true rfl) (by omega) (by omega) (f_out rfl (by decide +kernel) ?_)
      rw [o_X11_ship, if_neg c_8_0, if_pos c_8_1]
      exact ⟨rfl, rfl⟩
    · by_cases c_8_2 : (r_X8_shipRefusal M 1 a) = (3 : Int32)
      · refine f_tS hG (As := [_]) dX11_ship_8 rfl k_X11_demandAllowed rfl rfl ml_X11_80 sm_X11_demandAllowed (E := "java/lang/IllegalStateException") (M2 := M) (fO_cg (c_X11_demandAllowed hG (d := 0) (Nat.le_refl _) _ _ _) (by rw [o_X11_demandAllowed, if_neg c_8_0, if_neg c_8_1, if_pos c_8_2])) (by omega) (Nat.le_of_ble_eq_true rfl) (by omega) (by omega) (f_out rfl (by decide +kernel) ?_)
        rw [o_X11_ship, if_neg c_8_0, if_neg c_8_1, if_pos c_8_2]
        exact ⟨rfl, rfl⟩
      · by_cases c_8_3 : (r_X8_shipRefusal M 1 a) = (4 : Int32)
        · refine f_tS hG (As := [_]) dX11_ship_8 rfl k_X11_demandAllowed rfl rfl ml_X11_80 sm_X11_demandAllowed (E := "java/lang/UnsupportedOperationException") (M2 := M) (fO_cg (c_X11_demandAllowed hG (d := 0) (Nat.le_refl _) _ _ _) (by rw [o_X11_demandAllowed, if_neg c_8_0, if_neg c_8_1, if_neg c_8_2, if_pos c_8_3])) (by omega) (Nat.le_of_ble_eq_true rfl) (by omega) (by omega) (f_out rfl (by decide +kernel) ?_)
          rw [o_X11_ship, if_neg c_8_0, if_neg c_8_1, if_neg c_8_2, if_pos c_8_3]
          exact ⟨rfl, rfl⟩
        · by_cases c_8_4 : (r_X8_shipRefusal M 1 a) = (5 : Int32)
          · refine f_tS hG (As := [_]) dX11_ship_8 rfl k_X11_demandAllowed rfl rfl ml_X11_80 sm_X11_demandAllowed (E := "java/util/NoSuchElementException") (M2 := M) (fO_cg (c_X11_demandAllowed hG (d := 0) (Nat.le_refl _) _ _ _) (by rw [o_X11_demandAllowed, if_neg c_8_0, if_neg c_8_1, if_neg c_8_2, if_neg c_8_3, if_pos c_8_4])) (by omega) (Nat.le_of_ble_eq_true rfl) (by omega) (by omega) (f_out rfl (by decide +kernel) ?_)
            rw [o_X11_ship, if_neg c_8_0, if_neg c_8_1, if_neg c_8_2, if_neg c_8_3, if_pos c_8_4]
            exact ⟨rfl, rfl⟩
          · refine f_rS hG (As := [_]) dX11_ship_8 rfl k_X11_demandAllowed rfl rfl ml_X11_80 sm_X11_demandAllowed (v := none) (M2 := M) (fO_cg (c_X11_demandAllowed hG (d := 0) (Nat.le_refl _) _ _ _) (by rw [o_X11_demandAllowed, if_neg c_8_0, if_neg c_8_1, if_neg c_8_2, if_neg c_8_3, if_neg c_8_4])) (by omega) (Nat.le_of_ble_eq_true rfl) (by omega) (by omega) ?_
            refine f_aload_n dX11_ship_11 rfl rfl ?_
            refine s_getr hG fl_X11_25 dX11_ship_12 rfl rfl ?_
            refine f_aload_n dX11_ship_15 rfl rfl ?_
            refine s_getr hG fl_X11_10 dX11_ship_16 rfl rfl ?_
            refine f_cV hG (As := [_]) dX11_ship_19 rfl k_X4_keep rfl rfl ml_X11_83 im_X4_keep se_X4_keep rfl rfl (c_X4_keep hG (d := 3) (Nat.le_refl _) _ _ _ rS_1 (q1 c_8_0 c_8_1 c_8_2 c_8_3 c_8_4).1 (q1 c_8_0 c_8_1 c_8_2 c_8_3 c_8_4).2) (by omega) (Nat.le_of_ble_eq_true rfl) (Nat.zero_le _) (Nat.zero_le _) ?_
            refine f_aload_n dX11_ship_22 rfl rfl ?_
            refine s_getr hG fl_X11_10 dX11_ship_23 rfl rfl ?_
            refine f_iload_n dX11_ship_26 rfl rfl ?_
            refine f_cV hG (As := [_]) dX11_ship_27 rfl k_X8_shipLot rfl rfl ml_X11_201 im_X8_shipLot se_X8_shipLot rS_1.1 rfl (c_X8_shipLot hG (d := 2) (Nat.le_refl _) _ _ _ _ rS_1 _ (q2 c_8_0 c_8_1 c_8_2 c_8_3 c_8_4).1 (q2 c_8_0 c_8_1 c_8_2 c_8_3 c_8_4).2 (q3 c_8_0 c_8_1 c_8_2 c_8_3 c_8_4).1 (q3 c_8_0 c_8_1 c_8_2 c_8_3 c_8_4).2) (by omega) (Nat.le_of_ble_eq_true rfl) (Nat.zero_le _) (Nat.zero_le _) ?_
            refine f_ireturn dX11_ship_30 rfl rfl ?_
            rw [o_X11_ship, if_neg c_8_0, if_neg c_8_1, if_neg c_8_2, if_neg c_8_3, if_neg c_8_4]
            exact ⟨rfl, rfl⟩

def o_X11_pass (M : fM) (a : Int32) : fR × fM := (if (r_X8_passRefusal M 1 a) = (1 : Int32) then (.inr "java/lang/IndexOutOfBoundsException", M) else (if (r_X8_passRefusal M 1 a) = (2 : Int32) then (.inr "java/lang/IllegalArgumentException", M) else (if (r_X8_passRefusal M 1 a) = (3 : Int32) then (.inr "java/lang/IllegalStateException", M) else (if (r_X8_passRefusal M 1 a) = (4 : Int32) then (.inr "java/lang/UnsupportedOperationException", M) else (if (r_X8_passRefusal M 1 a) = (5 : Int32) then (.inr "java/util/NoSuchElementException", M) else (.inl (some (.int (r_X8_passDays (m_X4_keep M 1) 1 a))), (m_X8_passDays (m_X4_keep M 1) 1 a)))))))
set_option maxRecDepth 100000 in
set_option maxHeartbeats 4000000 in
theorem c_X11_pass {G : fG} (hG : fOK G) {d : Nat} (hd : 5 ≤ d) (M : fM) (dv : UInt64) (a : Int32) (q0 : ¬ ((r_X8_passRefusal M 1 a) = (1 : Int32)) → ¬ ((r_X8_passRefusal M 1 a) = (2 : Int32)) → ¬ ((r_X8_passRefusal M 1 a) = (3 : Int32)) → ¬ ((r_X8_passRefusal M 1 a) = (4 : Int32)) → ¬ ((r_X8_passRefusal M 1 a) = (5 : Int32)) → sm (M 73 1) 8) (q1 : ¬ ((r_X8_passRefusal M 1 a) = (1 : Int32)) → ¬ ((r_X8_passRefusal M 1 a) = (2 : Int32)) → ¬ ((r_X8_passRefusal M 1 a) = (3 : Int32)) → ¬ ((r_X8_passRefusal M 1 a) = (4 : Int32)) → ¬ ((r_X8_passRefusal M 1 a) = (5 : Int32)) → sm a 300) (q2 : ¬ ((r_X8_passRefusal M 1 a) = (1 : Int32)) → ¬ ((r_X8_passRefusal M 1 a) = (2 : Int32)) → ¬ ((r_X8_passRefusal M 1 a) = (3 : Int32)) → ¬ ((r_X8_passRefusal M 1 a) = (4 : Int32)) → ¬ ((r_X8_passRefusal M 1 a) = (5 : Int32)) → cOK (m_X4_keep M 1) 1) : fCt G z_X11_pass d [.ref 0, .int a] (sS M dv) 1 6 (fO dv (o_X11_pass M a)) := by
  refine fCt_to [some (.ref 0), some (.int a)] k_X11_pass rfl (Nat.le_of_ble_eq_true rfl) rfl ?_
  refine f_aload_n dX11_pass_0 rfl rfl ?_
  refine s_getr hG fl_X11_10 dX11_pass_1 rfl rfl ?_
  refine f_iload_n dX11_pass_4 rfl rfl ?_
  refine f_cV hG (As := [_]) dX11_pass_5 rfl k_X8_passRefusal rfl rfl ml_X11_204 im_X8_passRefusal se_X8_passRefusal rS_1.1 rfl (c_X8_passRefusal hG (d := 0) (Nat.le_refl _) _ _ _ _ rS_1) (by omega) (Nat.le_of_ble_eq_true rfl) (Nat.zero_le _) (Nat.zero_le _) ?_
  by_cases c_8_0 : (r_X8_passRefusal M 1 a) = (1 : Int32)
  · refine f_tS hG (As := [_]) dX11_pass_8 rfl k_X11_demandAllowed rfl rfl ml_X11_80 sm_X11_demandAllowed (E := "java/lang/IndexOutOfBoundsException") (M2 := M) (fO_cg (c_X11_demandAllowed hG (d := 0) (Nat.le_refl _) _ _ _) (by rw [o_X11_demandAllowed, if_pos c_8_0])) (by omega) (Nat.le_of_ble_eq_true rfl) (by omega) (by omega) (f_out rfl (by decide +kernel) ?_)
    rw [o_X11_pass, if_pos c_8_0]
    exact ⟨rfl, rfl⟩
  · by_cases c_8_1 : (r_X8_passRefusal M 1 a) = (2 : Int32)
    · refine f_tS hG (As := [_]) dX11_pass_8 rfl k_X11_demandAllowed rfl rfl ml_X11_80 sm_X11_demandAllowed (E := "java/lang/IllegalArgumentException") (M2 := M) (fO_cg (c_X11_demandAllowed hG (d := 0) (Nat.le_refl _) _ _ _) (by rw [o_X11_demandAllowed, if_neg c_8_0, if_pos c_8_1])) (by omega) (Nat.le_of_ble_eq_true rfl) (by omega) (by omega) (f_out rfl (by decide +kernel) ?_)
      rw [o_X11_pass, if_neg c_8_0, if_pos c_8_1]
      exact ⟨rfl, rfl⟩
    · by_cases c_8_2 : (r_X8_passRefusal M 1 a) = (3 : Int32)
      · refine f_tS hG (As := [_]) dX11_pass_8 rfl k_X11_demandAllowed rfl rfl ml_X11_80 sm_X11_demandAllowed (E := "java/lang/IllegalStateException") (M2 := M) (fO_cg (c_X11_demandAllowed hG (d := 0) (Nat.le_refl _) _ _ _) (by rw [o_X11_demandAllowed, if_neg c_8_0, if_neg c_8_1, if_pos c_8_2])) (by omega) (Nat.le_of_ble_eq_true rfl) (by omega) (by omega) (f_out rfl (by decide +kernel) ?_)
        rw [o_X11_pass, if_neg c_8_0, if_neg c_8_1, if_pos c_8_2]
        exact ⟨rfl, rfl⟩
      · by_cases c_8_3 : (r_X8_passRefusal M 1 a) = (4 : Int32)
        · refine f_tS hG (As := [_]) dX11_pass_8 rfl k_X11_demandAllowed rfl rfl ml_X11_80 sm_X11_demandAllowed (E := "java/lang/UnsupportedOperationException") (M2 := M) (fO_cg (c_X11_demandAllowed hG (d := 0) (Nat.le_refl _) _ _ _) (by rw [o_X11_demandAllowed, if_neg c_8_0, if_neg c_8_1, if_neg c_8_2, if_pos c_8_3])) (by omega) (Nat.le_of_ble_eq_true rfl) (by omega) (by omega) (f_out rfl (by decide +kernel) ?_)
          rw [o_X11_pass, if_neg c_8_0, if_neg c_8_1, if_neg c_8_2, if_pos c_8_3]
          exact ⟨rfl, rfl⟩
        · by_cases c_8_4 : (r_X8_passRefusal M 1 a) = (5 : Int32)
          · refine f_tS hG (As := [_]) dX11_pass_8 rfl k_X11_demandAllowed rfl rfl ml_X11_80 sm_X11_demandAllowed (E := "java/util/NoSuchElementException") (M2 := M) (fO_cg (c_X11_demandAllowed hG (d := 0) (Nat.le_refl _) _ _ _) (by rw [o_X11_demandAllowed, if_neg c_8_0, if_neg c_8_1, if_neg c_8_2, if_neg c_8_3, if_pos c_8_4])) (by omega) (Nat.le_of_ble_eq_true rfl) (by omega) (by omega) (f_out rfl (by decide +kernel) ?_)
            rw [o_X11_pass, if_neg c_8_0, if_neg c_8_1, if_neg c_8_2, if_neg c_8_3, if_pos c_8_4]
            exact ⟨rfl, rfl⟩
          · refine f_rS hG (As := [_]) dX11_pass_8 rfl k_X11_demandAllowed rfl rfl ml_X11_80 sm_X11_demandAllowed (v := none) (M2 := M) (fO_cg (c_X11_demandAllowed hG (d := 0) (Nat.le_refl _) _ _ _) (by rw [o_X11_demandAllowed, if_neg c_8_0, if_neg c_8_1, if_neg c_8_2, if_neg c_8_3, if_neg c_8_4])) (by omega) (Nat.le_of_ble_eq_true rfl) (by omega) (by omega) ?_
            refine f_aload_n dX11_pass_11 rfl rfl ?_
            refine s_getr hG fl_X11_25 dX11_pass_12 rfl rfl ?_
            refine f_aload_n dX11_pass_15 rfl rfl ?_
            refine s_getr hG fl_X11_10 dX11_pass_16 rfl rfl ?_
            refine f_cV hG (As := [_]) dX11_pass_19 rfl k_X4_keep rfl rfl ml_X11_83 im_X4_keep se_X4_keep rfl rfl (c_X4_keep hG (d := 3) (Nat.le_refl _) _ _ _ rS_1 (q0 c_8_0 c_8_1 c_8_2 c_8_3 c_8_4).1 (q0 c_8_0 c_8_1 c_8_2 c_8_3 c_8_4).2) (by omega) (Nat.le_of_ble_eq_true rfl) (Nat.zero_le _) (Nat.zero_le _) ?_
            refine f_aload_n dX11_pass_22 rfl rfl ?_
            refine s_getr hG fl_X11_10 dX11_pass_23 rfl rfl ?_
            refine f_iload_n dX11_pass_26 rfl rfl ?_
            refine f_cV hG (As := [_]) dX11_pass_27 rfl k_X8_passDays rfl rfl ml_X11_207 im_X8_passDays se_X8_passDays rS_1.1 rfl (c_X8_passDays hG (d := 4) (Nat.le_refl _) _ _ _ _ rS_1 _ (q1 c_8_0 c_8_1 c_8_2 c_8_3 c_8_4).1 (q1 c_8_0 c_8_1 c_8_2 c_8_3 c_8_4).2 (q2 c_8_0 c_8_1 c_8_2 c_8_3 c_8_4)) (by omega) (Nat.le_of_ble_eq_true rfl) (Nat.zero_le _) (Nat.zero_le _) ?_
            refine f_ireturn dX11_pass_30 rfl rfl ?_
            rw [o_X11_pass, if_neg c_8_0, if_neg c_8_1, if_neg c_8_2, if_neg c_8_3, if_neg c_8_4]
            exact ⟨rfl, rfl⟩

def o_X11_recall (M : fM) (a : Int32) : fR × fM := (if (r_X8_recallRefusal M 1 a) = (1 : Int32) then (.inr "java/lang/IndexOutOfBoundsException", M) else (if (r_X8_recallRefusal M 1 a) = (2 : Int32) then (.inr "java/lang/IllegalArgumentException", M) else (if (r_X8_recallRefusal M 1 a) = (3 : Int32) then (.inr "java/lang/IllegalStateException", M) else (if (r_X8_recallRefusal M 1 a) = (4 : Int32) then (.inr "java/lang/UnsupportedOperationException", M) else (if (r_X8_recallRefusal M 1 a) = (5 : Int32) then (.inr "java/util/NoSuchElementException", M) else (.inl (some (.int (r_X8_recallRaw (m_X4_keep M 1) 1 a ((m_X4_keep M 1) (1 + 11) 6).toNatClampNeg))), (m_X8_recallRaw (m_X4_keep M 1) 1 a ((m_X4_keep M 1) (1 + 11) 6).toNatClampNeg)))))))
set_option maxRecDepth 100000 in
set_option maxHeartbeats 4000000 in
theorem c_X11_recall {G : fG} (hG : fOK G) {d : Nat} (hd : 4 ≤ d) (M : fM) (dv : UInt64) (a : Int32) (q0 : ¬ ((r_X8_recallRefusal M 1 a) = (1 : Int32)) → ¬ ((r_X8_recallRefusal M 1 a) = (2 : Int32)) → ¬ ((r_X8_recallRefusal M 1 a) = (3 : Int32)) → ¬ ((r_X8_recallRefusal M 1 a) = (4 : Int32)) → ¬ ((r_X8_recallRefusal M 1 a) = (5 : Int32)) → sm (M 73 1) 8) (q1 : ¬ ((r_X8_recallRefusal M 1 a) = (1 : Int32)) → ¬ ((r_X8_recallRefusal M 1 a) = (2 : Int32)) → ¬ ((r_X8_recallRefusal M 1 a) = (3 : Int32)) → ¬ ((r_X8_recallRefusal M 1 a) = (4 : Int32)) → ¬ ((r_X8_recallRefusal M 1 a) = (5 : Int32)) → sm ((m_X4_keep M 1) (1 + 11) 6) 9) : fCt G z_X11_recall d [.ref 0, .int a] (sS M dv) 1 6 (fO dv (o_X11_recall M a)) := by
  refine fCt_to [some (.ref 0), some (.int a)] k_X11_recall rfl (Nat.le_of_ble_eq_true rfl) rfl ?_
  refine f_aload_n dX11_recall_0 rfl rfl ?_
  refine s_getr hG fl_X11_10 dX11_recall_1 rfl rfl ?_
  refine f_iload_n dX11_recall_4 rfl rfl ?_
  refine f_cV hG (As := [_]) dX11_recall_5 rfl k_X8_recallRefusal rfl rfl ml_X11_210 im_X8_recallRefusal se_X8_recallRefusal rS_1.1 rfl (c_X8_recallRefusal hG (d := 2) (Nat.le_refl _) _ _ _ _ rS_1) (by omega) (Nat.le_of_ble_eq_true rfl) (Nat.zero_le _) (Nat.zero_le _) ?_
  by_cases c_8_0 : (r_X8_recallRefusal M 1 a) = (1 : Int32)
  · refine f_tS hG (As := [_]) dX11_recall_8 rfl k_X11_demandAllowed rfl rfl ml_X11_80 sm_X11_demandAllowed (E := "java/lang/IndexOutOfBoundsException") (M2 := M) (fO_cg (c_X11_demandAllowed hG (d := 0) (Nat.le_refl _) _ _ _) (by rw [o_X11_demandAllowed, if_pos c_8_0])) (by omega) (Nat.le_of_ble_eq_true rfl) (by omega) (by omega) (f_out rfl (by decide +kernel) ?_)
    rw [o_X11_recall, if_pos c_8_0]
    exact ⟨rfl, rfl⟩
  · by_cases c_8_1 : (r_X8_recallRefusal M 1 a) = (2 : Int32)
    · refine f_tS hG (As := [_]) dX11_recall_8 rfl k_X11_demandAllowed rfl rfl ml_X11_80 sm_X11_demandAllowed (E := "java/lang/IllegalArgumentException") (M2 := M) (fO_cg (c_X11_demandAllowed hG (d := 0) (Nat.le_refl _) _ _ _) (by rw [o_X11_demandAllowed, if_neg c_8_0, if_pos c_8_1])) (by omega) (Nat.le_of_ble_eq_true rfl) (by omega) (by omega) (f_out rfl (by decide +kernel) ?_)
      rw [o_X11_recall, if_neg c_8_0, if_pos c_8_1]
      exact ⟨rfl, rfl⟩
    · by_cases c_8_2 : (r_X8_recallRefusal M 1 a) = (3 : Int32)
      · refine f_tS hG (As := [_]) dX11_recall_8 rfl k_X11_demandAllowed rfl rfl ml_X11_80 sm_X11_demandAllowed (E := "java/lang/IllegalStateException") (M2 := M) (fO_cg (c_X11_demandAllowed hG (d := 0) (Nat.le_refl _) _ _ _) (by rw [o_X11_demandAllowed, if_neg c_8_0, if_neg c_8_1, if_pos c_8_2])) (by omega) (Nat.le_of_ble_eq_true rfl) (by omega) (by omega) (f_out rfl (by decide +kernel) ?_)
        rw [o_X11_recall, if_neg c_8_0, if_neg c_8_1, if_pos c_8_2]
        exact ⟨rfl, rfl⟩
      · by_cases c_8_3 : (r_X8_recallRefusal M 1 a) = (4 : Int32)
        · refine f_tS hG (As := [_]) dX11_recall_8 rfl k_X11_demandAllowed rfl rfl ml_X11_80 sm_X11_demandAllowed (E := "java/lang/UnsupportedOperationException") (M2 := M) (fO_cg (c_X11_demandAllowed hG (d := 0) (Nat.le_refl _) _ _ _) (by rw [o_X11_demandAllowed, if_neg c_8_0, if_neg c_8_1, if_neg c_8_2, if_pos c_8_3])) (by omega) (Nat.le_of_ble_eq_true rfl) (by omega) (by omega) (f_out rfl (by decide +kernel) ?_)
          rw [o_X11_recall, if_neg c_8_0, if_neg c_8_1, if_neg c_8_2, if_pos c_8_3]
          exact ⟨rfl, rfl⟩
        · by_cases c_8_4 : (r_X8_recallRefusal M 1 a) = (5 : Int32)
          · refine f_tS hG (As := [_]) dX11_recall_8 rfl k_X11_demandAllowed rfl rfl ml_X11_80 sm_X11_demandAllowed (E := "java/util/NoSuchElementException") (M2 := M) (fO_cg (c_X11_demandAllowed hG (d := 0) (Nat.le_refl _) _ _ _) (by rw [o_X11_demandAllowed, if_neg c_8_0, if_neg c_8_1, if_neg c_8_2, if_neg c_8_3, if_pos c_8_4])) (by omega) (Nat.le_of_ble_eq_true rfl) (by omega) (by omega) (f_out rfl (by decide +kernel) ?_)
            rw [o_X11_recall, if_neg c_8_0, if_neg c_8_1, if_neg c_8_2, if_neg c_8_3, if_pos c_8_4]
            exact ⟨rfl, rfl⟩
          · refine f_rS hG (As := [_]) dX11_recall_8 rfl k_X11_demandAllowed rfl rfl ml_X11_80 sm_X11_demandAllowed (v := none) (M2 := M) (fO_cg (c_X11_demandAllowed hG (d := 0) (Nat.le_refl _) _ _ _) (by rw [o_X11_demandAllowed, if_neg c_8_0, if_neg c_8_1, if_neg c_8_2, if_neg c_8_3, if_neg c_8_4])) (by omega) (Nat.le_of_ble_eq_true rfl) (by omega) (by omega) ?_
            refine f_aload_n dX11_recall_11 rfl rfl ?_
            refine s_getr hG fl_X11_25 dX11_recall_12 rfl rfl ?_
            refine f_aload_n dX11_recall_15 rfl rfl ?_
            refine s_getr hG fl_X11_10 dX11_recall_16 rfl rfl ?_
            refine f_cV hG (As := [_]) dX11_recall_19 rfl k_X4_keep rfl rfl ml_X11_83 im_X4_keep se_X4_keep rfl rfl (c_X4_keep hG (d := 3) (Nat.le_refl _) _ _ _ rS_1 (q0 c_8_0 c_8_1 c_8_2 c_8_3 c_8_4).1 (q0 c_8_0 c_8_1 c_8_2 c_8_3 c_8_4).2) (by omega) (Nat.le_of_ble_eq_true rfl) (Nat.zero_le _) (Nat.zero_le _) ?_
            refine f_aload_n dX11_recall_22 rfl rfl ?_
            refine s_getr hG fl_X11_10 dX11_recall_23 rfl rfl ?_
            refine f_iload_n dX11_recall_26 rfl rfl ?_
            refine f_cV hG (As := [_]) dX11_recall_27 rfl k_X8_recallRaw rfl rfl ml_X11_213 im_X8_recallRaw se_X8_recallRaw rS_1.1 rfl (c_X8_recallRaw hG (d := 2) (Nat.le_refl _) _ _ _ _ rS_1 _ (q1 c_8_0 c_8_1 c_8_2 c_8_3 c_8_4).1 (Nat.le_of_lt_succ (q1 c_8_0 c_8_1 c_8_2 c_8_3 c_8_4).2)) (by omega) (Nat.le_of_ble_eq_true rfl) (Nat.zero_le _) (Nat.zero_le _) ?_
            refine f_ireturn dX11_recall_30 rfl rfl ?_
            rw [o_X11_recall, if_neg c_8_0, if_neg c_8_1, if_neg c_8_2, if_neg c_8_3, if_neg c_8_4]
            exact ⟨rfl, rfl⟩

def o_X11_lotAt (M : fM) (a : Int32) : fR × fM := (if a < 0 then (.inr "java/lang/IndexOutOfBoundsException", M) else (if a < (M (1 + 11) 6) then (.inl (some (.int (rget M (1 + 11 + 1) 8 a))), M) else (.inr "java/lang/IndexOutOfBoundsException", M)))
set_option maxRecDepth 100000 in
set_option maxHeartbeats 4000000 in
theorem c_X11_lotAt {G : fG} (hG : fOK G) {d : Nat} (hd : 1 ≤ d) (M : fM) (dv : UInt64) (a : Int32) : fCt G z_X11_lotAt d [.ref 0, .int a] (sS M dv) 1 6 (fO dv (o_X11_lotAt M a)) := by
  refine fCt_to [some (.ref 0), some (.int a)] k_X11_lotAt rfl (Nat.le_of_ble_eq_true rfl) rfl ?_
  refine f_iload_n dX11_lotAt_0 rfl rfl ?_
  refine f_if_lt (tgt := 18) dX11_lotAt_1 (by decide) (fun c_1 => ?_) (fun c_1 => ?_)
  · refine f_throw hG th_X11_162_166 (st_X11_223) rfl (by decide +kernel) dX11_lotAt_18 dX11_lotAt_21 dX11_lotAt_22 dX11_lotAt_24 dX11_lotAt_27 (by decide) (by decide) ?_
    rw [o_X11_lotAt, if_pos c_1]
    exact ⟨rfl, rfl⟩
  · refine f_iload_n dX11_lotAt_4 rfl rfl ?_
    refine f_aload_n dX11_lotAt_5 rfl rfl ?_
    refine s_getr hG fl_X11_10 dX11_lotAt_6 rfl rfl ?_
    refine s_getr hG fl_X11_216 dX11_lotAt_9 rS_1.1 rfl ?_
    refine s_geti hG fl_X11_220 dX11_lotAt_12 rS_1.2.2.2.1 rfl ?_
    refine f_icmp_lt (tgt := 28) dX11_lotAt_15 (by decide) (fun c_15 => ?_) (fun c_15 => ?_)
    · refine f_aload_n dX11_lotAt_28 rfl rfl ?_
      refine s_getr hG fl_X11_10 dX11_lotAt_29 rfl rfl ?_
      refine s_getr hG fl_X11_216 dX11_lotAt_32 rS_1.1 rfl ?_
      refine s_getr hG fl_X11_225 dX11_lotAt_35 rS_1.2.2.2.1 rfl ?_
      refine f_iload_n dX11_lotAt_38 rfl rfl ?_
      refine f_cV hG (As := [_]) dX11_lotAt_39 rfl k_X7_get rfl rfl ml_X11_123 im_X7_get se_X7_get rS_1.2.2.2.2.1.1 rfl (c_X7_get hG (Nat.le_refl _) _ _ _ _ rS_1.2.2.2.2.1 (by decide) _) (by omega) (Nat.le_of_ble_eq_true rfl) (Nat.zero_le _) (Nat.zero_le _) ?_
      refine f_ireturn dX11_lotAt_42 rfl rfl ?_
      rw [o_X11_lotAt, if_neg c_1, if_pos c_15]
      exact ⟨rfl, rfl⟩
    · refine f_throw hG th_X11_162_166 (st_X11_223) rfl (by decide +kernel) dX11_lotAt_18 dX11_lotAt_21 dX11_lotAt_22 dX11_lotAt_24 dX11_lotAt_27 (by decide) (by decide) ?_
      rw [o_X11_lotAt, if_neg c_1, if_neg c_15]
      exact ⟨rfl, rfl⟩

def o_X11_jarsOf (M : fM) (a : Int32) : fR × fM := (if (r_X5_positionOf M (1 + 11) a) = (-1 : Int32) then (.inr "java/util/NoSuchElementException", M) else (.inl (some (.int (rget M (1 + 11 + 9) 8 (r_X5_positionOf M (1 + 11) a)))), M))
set_option maxRecDepth 100000 in
set_option maxHeartbeats 4000000 in
theorem c_X11_jarsOf {G : fG} (hG : fOK G) {d : Nat} (hd : 3 ≤ d) (M : fM) (dv : UInt64) (a : Int32) (q0 : sm (M (1 + 11) 6) 300) : fCt G z_X11_jarsOf d [.ref 0, .int a] (sS M dv) 1 6 (fO dv (o_X11_jarsOf M a)) := by
  refine fCt_to [some (.ref 0), some (.int a)] k_X11_jarsOf rfl (Nat.le_of_ble_eq_true rfl) rfl ?_
  refine f_aload_n dX11_jarsOf_0 rfl rfl ?_
  refine s_getr hG fl_X11_10 dX11_jarsOf_1 rfl rfl ?_
  refine s_getr hG fl_X11_216 dX11_jarsOf_4 rS_1.1 rfl ?_
  refine s_getr hG fl_X11_228 dX11_jarsOf_7 rS_1.2.2.2.1 rfl ?_
  refine f_aload_n dX11_jarsOf_10 rfl rfl ?_
  refine f_iload_n dX11_jarsOf_11 rfl rfl ?_
  by_cases c_12_0 : (r_X5_positionOf M (1 + 11) a) = (-1 : Int32)
  · refine f_tV hG (As := [_]) dX11_jarsOf_12 rfl k_X11_demandLot rfl rfl ml_X11_231 im_X11_demandLot se_X11_demandLot rfl rfl (E := "java/util/NoSuchElementException") (M2 := M) (fO_cg (c_X11_demandLot hG (d := 2) (Nat.le_refl _) _ _ _ q0) (by rw [o_X11_demandLot, if_pos c_12_0])) (by omega) (Nat.le_of_ble_eq_true rfl) (by omega) (by omega) (f_out rfl (by decide +kernel) ?_)
    rw [o_X11_jarsOf, if_pos c_12_0]
    exact ⟨rfl, rfl⟩
  · refine f_rV hG (As := [_]) dX11_jarsOf_12 rfl k_X11_demandLot rfl rfl ml_X11_231 im_X11_demandLot se_X11_demandLot rfl rfl (v := (some (.int (r_X5_positionOf M (1 + 11) a)))) (M2 := M) (fO_cg (c_X11_demandLot hG (d := 2) (Nat.le_refl _) _ _ _ q0) (by rw [o_X11_demandLot, if_neg c_12_0])) (by omega) (Nat.le_of_ble_eq_true rfl) (by omega) (by omega) ?_
    refine f_cV hG (As := [_]) dX11_jarsOf_15 rfl k_X7_get rfl rfl ml_X11_123 im_X7_get se_X7_get rS_1.2.2.2.2.2.2.2.2.1.1 rfl (c_X7_get hG (Nat.le_refl _) _ _ _ _ rS_1.2.2.2.2.2.2.2.2.1 (by decide) _) (by omega) (Nat.le_of_ble_eq_true rfl) (Nat.zero_le _) (Nat.zero_le _) ?_
    refine f_ireturn dX11_jarsOf_18 rfl rfl ?_
    rw [o_X11_jarsOf, if_neg c_12_0]
    exact ⟨rfl, rfl⟩

def o_X11_labelOf (M : fM) (a : Int32) : fR × fM := (if (r_X5_positionOf M (1 + 11) a) = (-1 : Int32) then (.inr "java/util/NoSuchElementException", M) else (.inl (some (.int (rget M (1 + 11 + 7) 8 (r_X5_positionOf M (1 + 11) a)))), M))
set_option maxRecDepth 100000 in
set_option maxHeartbeats 4000000 in
theorem c_X11_labelOf {G : fG} (hG : fOK G) {d : Nat} (hd : 3 ≤ d) (M : fM) (dv : UInt64) (a : Int32) (q0 : sm (M (1 + 11) 6) 300) : fCt G z_X11_labelOf d [.ref 0, .int a] (sS M dv) 1 6 (fO dv (o_X11_labelOf M a)) := by
  refine fCt_to [some (.ref 0), some (.int a)] k_X11_labelOf rfl (Nat.le_of_ble_eq_true rfl) rfl ?_
  refine f_aload_n dX11_labelOf_0 rfl rfl ?_
  refine s_getr hG fl_X11_10 dX11_labelOf_1 rfl rfl ?_
  refine s_getr hG fl_X11_216 dX11_labelOf_4 rS_1.1 rfl ?_
  refine s_getr hG fl_X11_234 dX11_labelOf_7 rS_1.2.2.2.1 rfl ?_
  refine f_aload_n dX11_labelOf_10 rfl rfl ?_
  refine f_iload_n dX11_labelOf_11 rfl rfl ?_
  by_cases c_12_0 : (r_X5_positionOf M (1 + 11) a) = (-1 : Int32)
  · refine f_tV hG (As := [_]) dX11_labelOf_12 rfl k_X11_demandLot rfl rfl ml_X11_231 im_X11_demandLot se_X11_demandLot rfl rfl (E := "java/util/NoSuchElementException") (M2 := M) (fO_cg (c_X11_demandLot hG (d := 2) (Nat.le_refl _) _ _ _ q0) (by rw [o_X11_demandLot, if_pos c_12_0])) (by omega) (Nat.le_of_ble_eq_true rfl) (by omega) (by omega) (f_out rfl (by decide +kernel) ?_)
    rw [o_X11_labelOf, if_pos c_12_0]
    exact ⟨rfl, rfl⟩
  · refine f_rV hG (As := [_]) dX11_labelOf_12 rfl k_X11_demandLot rfl rfl ml_X11_231 im_X11_demandLot se_X11_demandLot rfl rfl (v := (some (.int (r_X5_positionOf M (1 + 11) a)))) (M2 := M) (fO_cg (c_X11_demandLot hG (d := 2) (Nat.le_refl _) _ _ _ q0) (by rw [o_X11_demandLot, if_neg c_12_0])) (by omega) (Nat.le_of_ble_eq_true rfl) (by omega) (by omega) ?_
    refine f_cV hG (As := [_]) dX11_labelOf_15 rfl k_X7_get rfl rfl ml_X11_123 im_X7_get se_X7_get rS_1.2.2.2.2.2.2.2.1.1 rfl (c_X7_get hG (Nat.le_refl _) _ _ _ _ rS_1.2.2.2.2.2.2.2.1 (by decide) _) (by omega) (Nat.le_of_ble_eq_true rfl) (Nat.zero_le _) (Nat.zero_le _) ?_
    refine f_ireturn dX11_labelOf_18 rfl rfl ?_
    rw [o_X11_labelOf, if_neg c_12_0]
    exact ⟨rfl, rfl⟩

def o_X11_strengthOfLot (M : fM) (a : Int32) : fR × fM := (if (r_X5_positionOf M (1 + 11) a) = (-1 : Int32) then (.inr "java/util/NoSuchElementException", M) else (.inl (some (.int (r_X8_strengthAt M 1 (r_X5_positionOf M (1 + 11) a)))), M))
set_option maxRecDepth 100000 in
set_option maxHeartbeats 4000000 in
theorem c_X11_strengthOfLot {G : fG} (hG : fOK G) {d : Nat} (hd : 3 ≤ d) (M : fM) (dv : UInt64) (a : Int32) (q0 : sm (M (1 + 11) 6) 300) : fCt G z_X11_strengthOfLot d [.ref 0, .int a] (sS M dv) 1 6 (fO dv (o_X11_strengthOfLot M a)) := by
  refine fCt_to [some (.ref 0), some (.int a)] k_X11_strengthOfLot rfl (Nat.le_of_ble_eq_true rfl) rfl ?_
  refine f_aload_n dX11_strengthOfLot_0 rfl rfl ?_
  refine s_getr hG fl_X11_10 dX11_strengthOfLot_1 rfl rfl ?_
  refine f_aload_n dX11_strengthOfLot_4 rfl rfl ?_
  refine f_iload_n dX11_strengthOfLot_5 rfl rfl ?_
  by_cases c_6_0 : (r_X5_positionOf M (1 + 11) a) = (-1 : Int32)
  · refine f_tV hG (As := [_]) dX11_strengthOfLot_6 rfl k_X11_demandLot rfl rfl ml_X11_231 im_X11_demandLot se_X11_demandLot rfl rfl (E := "java/util/NoSuchElementException") (M2 := M) (fO_cg (c_X11_demandLot hG (d := 2) (Nat.le_refl _) _ _ _ q0) (by rw [o_X11_demandLot, if_pos c_6_0])) (by omega) (Nat.le_of_ble_eq_true rfl) (by omega) (by omega) (f_out rfl (by decide +kernel) ?_)
    rw [o_X11_strengthOfLot, if_pos c_6_0]
    exact ⟨rfl, rfl⟩
  · refine f_rV hG (As := [_]) dX11_strengthOfLot_6 rfl k_X11_demandLot rfl rfl ml_X11_231 im_X11_demandLot se_X11_demandLot rfl rfl (v := (some (.int (r_X5_positionOf M (1 + 11) a)))) (M2 := M) (fO_cg (c_X11_demandLot hG (d := 2) (Nat.le_refl _) _ _ _ q0) (by rw [o_X11_demandLot, if_neg c_6_0])) (by omega) (Nat.le_of_ble_eq_true rfl) (by omega) (by omega) ?_
    refine f_cV hG (As := [_]) dX11_strengthOfLot_9 rfl k_X8_strengthAt rfl rfl ml_X11_236 im_X8_strengthAt se_X8_strengthAt rS_1.1 rfl (c_X8_strengthAt hG (d := 1) (Nat.le_refl _) _ _ _ _ rS_1) (by omega) (Nat.le_of_ble_eq_true rfl) (Nat.zero_le _) (Nat.zero_le _) ?_
    refine f_ireturn dX11_strengthOfLot_12 rfl rfl ?_
    rw [o_X11_strengthOfLot, if_neg c_6_0]
    exact ⟨rfl, rfl⟩

def o_X11_pressureOf (M : fM) (a : Int32) : fR × fM := (if (r_X5_positionOf M (1 + 11) a) = (-1 : Int32) then (.inr "java/util/NoSuchElementException", M) else (.inl (some (.int (rget M (1 + 11 + 11) 8 (r_X5_positionOf M (1 + 11) a)))), M))
set_option maxRecDepth 100000 in
set_option maxHeartbeats 4000000 in
theorem c_X11_pressureOf {G : fG} (hG : fOK G) {d : Nat} (hd : 3 ≤ d) (M : fM) (dv : UInt64) (a : Int32) (q0 : sm (M (1 + 11) 6) 300) : fCt G z_X11_pressureOf d [.ref 0, .int a] (sS M dv) 1 6 (fO dv (o_X11_pressureOf M a)) := by
  refine fCt_to [some (.ref 0), some (.int a)] k_X11_pressureOf rfl (Nat.le_of_ble_eq_true rfl) rfl ?_
  refine f_aload_n dX11_pressureOf_0 rfl rfl ?_
  refine s_getr hG fl_X11_10 dX11_pressureOf_1 rfl rfl ?_
  refine s_getr hG fl_X11_216 dX11_pressureOf_4 rS_1.1 rfl ?_
  refine s_getr hG fl_X11_239 dX11_pressureOf_7 rS_1.2.2.2.1 rfl ?_
  refine f_aload_n dX11_pressureOf_10 rfl rfl ?_
  refine f_iload_n dX11_pressureOf_11 rfl rfl ?_
  by_cases c_12_0 : (r_X5_positionOf M (1 + 11) a) = (-1 : Int32)
  · refine f_tV hG (As := [_]) dX11_pressureOf_12 rfl k_X11_demandLot rfl rfl ml_X11_231 im_X11_demandLot se_X11_demandLot rfl rfl (E := "java/util/NoSuchElementException") (M2 := M) (fO_cg (c_X11_demandLot hG (d := 2) (Nat.le_refl _) _ _ _ q0) (by rw [o_X11_demandLot, if_pos c_12_0])) (by omega) (Nat.le_of_ble_eq_true rfl) (by omega) (by omega) (f_out rfl (by decide +kernel) ?_)
    rw [o_X11_pressureOf, if_pos c_12_0]
    exact ⟨rfl, rfl⟩
  · refine f_rV hG (As := [_]) dX11_pressureOf_12 rfl k_X11_demandLot rfl rfl ml_X11_231 im_X11_demandLot se_X11_demandLot rfl rfl (v := (some (.int (r_X5_positionOf M (1 + 11) a)))) (M2 := M) (fO_cg (c_X11_demandLot hG (d := 2) (Nat.le_refl _) _ _ _ q0) (by rw [o_X11_demandLot, if_neg c_12_0])) (by omega) (Nat.le_of_ble_eq_true rfl) (by omega) (by omega) ?_
    refine f_cV hG (As := [_]) dX11_pressureOf_15 rfl k_X7_get rfl rfl ml_X11_123 im_X7_get se_X7_get rS_1.2.2.2.2.2.2.2.2.2.1 rfl (c_X7_get hG (Nat.le_refl _) _ _ _ _ rS_1.2.2.2.2.2.2.2.2.2 (by decide) _) (by omega) (Nat.le_of_ble_eq_true rfl) (Nat.zero_le _) (Nat.zero_le _) ?_
    refine f_ireturn dX11_pressureOf_18 rfl rfl ?_
    rw [o_X11_pressureOf, if_neg c_12_0]
    exact ⟨rfl, rfl⟩

def o_X11_daysUntilPop (M : fM) (a : Int32) : fR × fM := (if (r_X5_positionOf M (1 + 11) a) = (-1 : Int32) then (.inr "java/util/NoSuchElementException", M) else (.inl (some (.int (r_X8_daysDayByDay M 1 (r_X5_positionOf M (1 + 11) a)))), M))
set_option maxRecDepth 100000 in
set_option maxHeartbeats 4000000 in
theorem c_X11_daysUntilPop {G : fG} (hG : fOK G) {d : Nat} (hd : 4 ≤ d) (M : fM) (dv : UInt64) (a : Int32) (q0 : sm (M (1 + 11) 6) 300) : fCt G z_X11_daysUntilPop d [.ref 0, .int a] (sS M dv) 1 6 (fO dv (o_X11_daysUntilPop M a)) := by
  refine fCt_to [some (.ref 0), some (.int a)] k_X11_daysUntilPop rfl (Nat.le_of_ble_eq_true rfl) rfl ?_
  refine f_aload_n dX11_daysUntilPop_0 rfl rfl ?_
  refine s_getr hG fl_X11_10 dX11_daysUntilPop_1 rfl rfl ?_
  refine f_aload_n dX11_daysUntilPop_4 rfl rfl ?_
  refine f_iload_n dX11_daysUntilPop_5 rfl rfl ?_
  by_cases c_6_0 : (r_X5_positionOf M (1 + 11) a) = (-1 : Int32)
  · refine f_tV hG (As := [_]) dX11_daysUntilPop_6 rfl k_X11_demandLot rfl rfl ml_X11_231 im_X11_demandLot se_X11_demandLot rfl rfl (E := "java/util/NoSuchElementException") (M2 := M) (fO_cg (c_X11_demandLot hG (d := 2) (Nat.le_refl _) _ _ _ q0) (by rw [o_X11_demandLot, if_pos c_6_0])) (by omega) (Nat.le_of_ble_eq_true rfl) (by omega) (by omega) (f_out rfl (by decide +kernel) ?_)
    rw [o_X11_daysUntilPop, if_pos c_6_0]
    exact ⟨rfl, rfl⟩
  · refine f_rV hG (As := [_]) dX11_daysUntilPop_6 rfl k_X11_demandLot rfl rfl ml_X11_231 im_X11_demandLot se_X11_demandLot rfl rfl (v := (some (.int (r_X5_positionOf M (1 + 11) a)))) (M2 := M) (fO_cg (c_X11_demandLot hG (d := 2) (Nat.le_refl _) _ _ _ q0) (by rw [o_X11_demandLot, if_neg c_6_0])) (by omega) (Nat.le_of_ble_eq_true rfl) (by omega) (by omega) ?_
    refine f_cV hG (As := [_]) dX11_daysUntilPop_9 rfl k_X8_daysDayByDay rfl rfl ml_X11_245 im_X8_daysDayByDay se_X8_daysDayByDay rS_1.1 rfl (c_X8_daysDayByDay hG (d := 3) (Nat.le_refl _) _ _ _ _ rS_1) (by omega) (Nat.le_of_ble_eq_true rfl) (Nat.zero_le _) (Nat.zero_le _) ?_
    refine f_ireturn dX11_daysUntilPop_12 rfl rfl ?_
    rw [o_X11_daysUntilPop, if_neg c_6_0]
    exact ⟨rfl, rfl⟩

def o_X11_daysByDivision (M : fM) (a : Int32) : fR × fM := (if (r_X5_positionOf M (1 + 11) a) = (-1 : Int32) then (.inr "java/util/NoSuchElementException", M) else (.inl (some (.int (r_X8_daysDivided M 1 (r_X5_positionOf M (1 + 11) a)))), M))
set_option maxRecDepth 100000 in
set_option maxHeartbeats 4000000 in
theorem c_X11_daysByDivision {G : fG} (hG : fOK G) {d : Nat} (hd : 4 ≤ d) (M : fM) (dv : UInt64) (a : Int32) (q0 : sm (M (1 + 11) 6) 300) : fCt G z_X11_daysByDivision d [.ref 0, .int a] (sS M dv) 1 6 (fO dv (o_X11_daysByDivision M a)) := by
  refine fCt_to [some (.ref 0), some (.int a)] k_X11_daysByDivision rfl (Nat.le_of_ble_eq_true rfl) rfl ?_
  refine f_aload_n dX11_daysByDivision_0 rfl rfl ?_
  refine s_getr hG fl_X11_10 dX11_daysByDivision_1 rfl rfl ?_
  refine f_aload_n dX11_daysByDivision_4 rfl rfl ?_
  refine f_iload_n dX11_daysByDivision_5 rfl rfl ?_
  by_cases c_6_0 : (r_X5_positionOf M (1 + 11) a) = (-1 : Int32)
  · refine f_tV hG (As := [_]) dX11_daysByDivision_6 rfl k_X11_demandLot rfl rfl ml_X11_231 im_X11_demandLot se_X11_demandLot rfl rfl (E := "java/util/NoSuchElementException") (M2 := M) (fO_cg (c_X11_demandLot hG (d := 2) (Nat.le_refl _) _ _ _ q0) (by rw [o_X11_demandLot, if_pos c_6_0])) (by omega) (Nat.le_of_ble_eq_true rfl) (by omega) (by omega) (f_out rfl (by decide +kernel) ?_)
    rw [o_X11_daysByDivision, if_pos c_6_0]
    exact ⟨rfl, rfl⟩
  · refine f_rV hG (As := [_]) dX11_daysByDivision_6 rfl k_X11_demandLot rfl rfl ml_X11_231 im_X11_demandLot se_X11_demandLot rfl rfl (v := (some (.int (r_X5_positionOf M (1 + 11) a)))) (M2 := M) (fO_cg (c_X11_demandLot hG (d := 2) (Nat.le_refl _) _ _ _ q0) (by rw [o_X11_demandLot, if_neg c_6_0])) (by omega) (Nat.le_of_ble_eq_true rfl) (by omega) (by omega) ?_
    refine f_cV hG (As := [_]) dX11_daysByDivision_9 rfl k_X8_daysDivided rfl rfl ml_X11_248 im_X8_daysDivided se_X8_daysDivided rS_1.1 rfl (c_X8_daysDivided hG (d := 3) (Nat.le_refl _) _ _ _ _ rS_1) (by omega) (Nat.le_of_ble_eq_true rfl) (Nat.zero_le _) (Nat.zero_le _) ?_
    refine f_ireturn dX11_daysByDivision_12 rfl rfl ?_
    rw [o_X11_daysByDivision, if_neg c_6_0]
    exact ⟨rfl, rfl⟩

def o_X11_lotByPressure (M : fM) (a : Int32) : fR × fM := (if (r_X5_positionOfRank M (1 + 11) a) = (-1 : Int32) then (.inr "java/util/NoSuchElementException", M) else (.inl (some (.int (rget M (1 + 11 + 1) 8 (r_X5_positionOfRank M (1 + 11) a)))), M))
set_option maxRecDepth 100000 in
set_option maxHeartbeats 4000000 in
theorem c_X11_lotByPressure {G : fG} (hG : fOK G) {d : Nat} (hd : 3 ≤ d) (M : fM) (dv : UInt64) (a : Int32) (q0 : sm (M (1 + 11) 6) 300) : fCt G z_X11_lotByPressure d [.ref 0, .int a] (sS M dv) 1 6 (fO dv (o_X11_lotByPressure M a)) := by
  refine fCt_to [some (.ref 0), some (.int a), none] k_X11_lotByPressure rfl (Nat.le_of_ble_eq_true rfl) rfl ?_
  refine f_aload_n dX11_lotByPressure_0 rfl rfl ?_
  refine s_getr hG fl_X11_10 dX11_lotByPressure_1 rfl rfl ?_
  refine s_getr hG fl_X11_216 dX11_lotByPressure_4 rS_1.1 rfl ?_
  refine f_iload_n dX11_lotByPressure_7 rfl rfl ?_
  refine f_cV hG (As := [_]) dX11_lotByPressure_8 rfl k_X5_positionOfRank rfl rfl ml_X11_251 im_X5_positionOfRank se_X5_positionOfRank rS_1.2.2.2.1 rfl (c_X5_positionOfRank hG (d := 2) (Nat.le_refl _) _ _ _ _ rS_1.2.2.2 _ q0.1 q0.2) (by omega) (Nat.le_of_ble_eq_true rfl) (Nat.zero_le _) (Nat.zero_le _) ?_
  refine f_istore_n (ls' := [_, _, _]) dX11_lotByPressure_11 rfl (Nat.le_of_ble_eq_true rfl) rfl rfl ?_
  refine f_iload_n dX11_lotByPressure_12 rfl rfl ?_
  refine f_iconst (v := (-1)) dX11_lotByPressure_13 rfl ?_
  refine f_icmp_ne (tgt := 27) dX11_lotByPressure_14 (by decide) (fun c_14 => ?_) (fun c_14 => ?_)
  · refine f_aload_n dX11_lotByPressure_27 rfl rfl ?_
    refine s_getr hG fl_X11_10 dX11_lotByPressure_28 rfl rfl ?_
    refine s_getr hG fl_X11_216 dX11_lotByPressure_31 rS_1.1 rfl ?_
    refine s_getr hG fl_X11_225 dX11_lotByPressure_34 rS_1.2.2.2.1 rfl ?_
    refine f_iload_n dX11_lotByPressure_37 rfl rfl ?_
    refine f_cV hG (As := [_]) dX11_lotByPressure_38 rfl k_X7_get rfl rfl ml_X11_123 im_X7_get se_X7_get rS_1.2.2.2.2.1.1 rfl (c_X7_get hG (Nat.le_refl _) _ _ _ _ rS_1.2.2.2.2.1 (by decide) _) (by omega) (Nat.le_of_ble_eq_true rfl) (Nat.zero_le _) (Nat.zero_le _) ?_
    refine f_ireturn dX11_lotByPressure_41 rfl rfl ?_
    rw [o_X11_lotByPressure, if_neg c_14]
    exact ⟨rfl, rfl⟩
  · refine f_throwN hG th_X11_176_180 (st_X11_254) rfl (by decide +kernel) dX11_lotByPressure_17 dX11_lotByPressure_20 dX11_lotByPressure_21 dX11_lotByPressure_23 dX11_lotByPressure_26 (by decide) (by decide) ?_
    rw [o_X11_lotByPressure, if_pos c_14]
    exact ⟨rfl, rfl⟩

def o_X11_affectedLots (M : fM) (a : Int32) : fR × fM := (if (r_X0_hasRaw M (1 + 1) a) = 0 then (.inr "java/lang/IndexOutOfBoundsException", M) else (.inl (some (.int (r_X8_countThroughBatches M 1 a))), M))
set_option maxRecDepth 100000 in
set_option maxHeartbeats 4000000 in
theorem c_X11_affectedLots {G : fG} (hG : fOK G) {d : Nat} (hd : 3 ≤ d) (M : fM) (dv : UInt64) (a : Int32) (q0 : ¬ ((r_X0_hasRaw M (1 + 1) a) = 0) → sm (M (1 + 1) 4) 300) (q1 : ¬ ((r_X0_hasRaw M (1 + 1) a) = 0) → sm (M (1 + 11) 6) 300) : fCt G z_X11_affectedLots d [.ref 0, .int a] (sS M dv) 1 6 (fO dv (o_X11_affectedLots M a)) := by
  refine fCt_to [some (.ref 0), some (.int a)] k_X11_affectedLots rfl (Nat.le_of_ble_eq_true rfl) rfl ?_
  refine f_aload_n dX11_affectedLots_0 rfl rfl ?_
  refine f_iload_n dX11_affectedLots_1 rfl rfl ?_
  by_cases c_2_0 : (r_X0_hasRaw M (1 + 1) a) = 0
  · refine f_tV hG (As := [_]) dX11_affectedLots_2 rfl k_X11_demandRaw rfl rfl ml_X11_109 im_X11_demandRaw se_X11_demandRaw rfl rfl (E := "java/lang/IndexOutOfBoundsException") (M2 := M) (fO_cg (c_X11_demandRaw hG (d := 1) (Nat.le_refl _) _ _ _) (by rw [o_X11_demandRaw, if_pos c_2_0])) (by omega) (Nat.le_of_ble_eq_true rfl) (by omega) (by omega) (f_out rfl (by decide +kernel) ?_)
    rw [o_X11_affectedLots, if_pos c_2_0]
    exact ⟨rfl, rfl⟩
  · refine f_rV hG (As := [_]) dX11_affectedLots_2 rfl k_X11_demandRaw rfl rfl ml_X11_109 im_X11_demandRaw se_X11_demandRaw rfl rfl (v := none) (M2 := M) (fO_cg (c_X11_demandRaw hG (d := 1) (Nat.le_refl _) _ _ _) (by rw [o_X11_demandRaw, if_neg c_2_0])) (by omega) (Nat.le_of_ble_eq_true rfl) (by omega) (by omega) ?_
    refine f_aload_n dX11_affectedLots_5 rfl rfl ?_
    refine s_getr hG fl_X11_10 dX11_affectedLots_6 rfl rfl ?_
    refine f_iload_n dX11_affectedLots_9 rfl rfl ?_
    refine f_cV hG (As := [_]) dX11_affectedLots_10 rfl k_X8_countThroughBatches rfl rfl ml_X11_256 im_X8_countThroughBatches se_X8_countThroughBatches rS_1.1 rfl (c_X8_countThroughBatches hG (d := 2) (Nat.le_refl _) _ _ _ _ rS_1 _ (q0 c_2_0).1 (q0 c_2_0).2 _ (q1 c_2_0).1 (q1 c_2_0).2) (by omega) (Nat.le_of_ble_eq_true rfl) (Nat.zero_le _) (Nat.zero_le _) ?_
    refine f_ireturn dX11_affectedLots_13 rfl rfl ?_
    rw [o_X11_affectedLots, if_neg c_2_0]
    exact ⟨rfl, rfl⟩

def o_X11_affectedBySets (M : fM) (a : Int32) : fR × fM := (if (r_X0_hasRaw M (1 + 1) a) = 0 then (.inr "java/lang/IndexOutOfBoundsException", M) else (.inl (some (.int (r_X8_countFromSets M 1 a))), M))
set_option maxRecDepth 100000 in
set_option maxHeartbeats 4000000 in
theorem c_X11_affectedBySets {G : fG} (hG : fOK G) {d : Nat} (hd : 3 ≤ d) (M : fM) (dv : UInt64) (a : Int32) (q0 : ¬ ((r_X0_hasRaw M (1 + 1) a) = 0) → sm (M (1 + 11) 6) 300) : fCt G z_X11_affectedBySets d [.ref 0, .int a] (sS M dv) 1 6 (fO dv (o_X11_affectedBySets M a)) := by
  refine fCt_to [some (.ref 0), some (.int a)] k_X11_affectedBySets rfl (Nat.le_of_ble_eq_true rfl) rfl ?_
  refine f_aload_n dX11_affectedBySets_0 rfl rfl ?_
  refine f_iload_n dX11_affectedBySets_1 rfl rfl ?_
  by_cases c_2_0 : (r_X0_hasRaw M (1 + 1) a) = 0
  · refine f_tV hG (As := [_]) dX11_affectedBySets_2 rfl k_X11_demandRaw rfl rfl ml_X11_109 im_X11_demandRaw se_X11_demandRaw rfl rfl (E := "java/lang/IndexOutOfBoundsException") (M2 := M) (fO_cg (c_X11_demandRaw hG (d := 1) (Nat.le_refl _) _ _ _) (by rw [o_X11_demandRaw, if_pos c_2_0])) (by omega) (Nat.le_of_ble_eq_true rfl) (by omega) (by omega) (f_out rfl (by decide +kernel) ?_)
    rw [o_X11_affectedBySets, if_pos c_2_0]
    exact ⟨rfl, rfl⟩
  · refine f_rV hG (As := [_]) dX11_affectedBySets_2 rfl k_X11_demandRaw rfl rfl ml_X11_109 im_X11_demandRaw se_X11_demandRaw rfl rfl (v := none) (M2 := M) (fO_cg (c_X11_demandRaw hG (d := 1) (Nat.le_refl _) _ _ _) (by rw [o_X11_demandRaw, if_neg c_2_0])) (by omega) (Nat.le_of_ble_eq_true rfl) (by omega) (by omega) ?_
    refine f_aload_n dX11_affectedBySets_5 rfl rfl ?_
    refine s_getr hG fl_X11_10 dX11_affectedBySets_6 rfl rfl ?_
    refine f_iload_n dX11_affectedBySets_9 rfl rfl ?_
    refine f_cV hG (As := [_]) dX11_affectedBySets_10 rfl k_X8_countFromSets rfl rfl ml_X11_259 im_X8_countFromSets se_X8_countFromSets rS_1.1 rfl (c_X8_countFromSets hG (d := 2) (Nat.le_refl _) _ _ _ _ rS_1 _ (q0 c_2_0).1 (q0 c_2_0).2) (by omega) (Nat.le_of_ble_eq_true rfl) (Nat.zero_le _) (Nat.zero_le _) ?_
    refine f_ireturn dX11_affectedBySets_13 rfl rfl ?_
    rw [o_X11_affectedBySets, if_neg c_2_0]
    exact ⟨rfl, rfl⟩

def o_X11_leastCrates (M : fM) (a : Int32) : fR × fM := (if a < (9 : Int32) then (.inr "java/lang/IllegalArgumentException", M) else (if a ≤ (40 : Int32) then (.inl (some (.int (r_X2_leastBySets M (1 + 11) a))), (m_X2_leastBySets M (1 + 11) a)) else (.inr "java/lang/IllegalArgumentException", M)))
set_option maxRecDepth 100000 in
set_option maxHeartbeats 4000000 in
theorem c_X11_leastCrates {G : fG} (hG : fOK G) {d : Nat} (hd : 3 ≤ d) (M : fM) (dv : UInt64) (a : Int32) (q0 : ¬ (a < (9 : Int32)) → (a ≤ (40 : Int32)) → sm (M (1 + 11) 6) 300) (q1 : ¬ (a < (9 : Int32)) → (a ≤ (40 : Int32)) → sm (((1 : Int32) <<< ((M (1 + 11) 6) &&& 31)) - (1 : Int32)) 300) : fCt G z_X11_leastCrates d [.ref 0, .int a] (sS M dv) 1 6 (fO dv (o_X11_leastCrates M a)) := by
  refine fCt_to [some (.ref 0), some (.int a)] k_X11_leastCrates rfl (Nat.le_of_ble_eq_true rfl) rfl ?_
  refine f_iload_n dX11_leastCrates_0 rfl rfl ?_
  by_cases c_1_0 : a < (9 : Int32)
  · refine f_tS hG (As := [_]) dX11_leastCrates_1 rfl k_X11_demandCapacity rfl rfl ml_X11_262 sm_X11_demandCapacity (E := "java/lang/IllegalArgumentException") (M2 := M) (fO_cg (c_X11_demandCapacity hG (d := 0) (Nat.le_refl _) _ _ _) (by rw [o_X11_demandCapacity, if_pos c_1_0])) (by omega) (Nat.le_of_ble_eq_true rfl) (by omega) (by omega) (f_out rfl (by decide +kernel) ?_)
    rw [o_X11_leastCrates, if_pos c_1_0]
    exact ⟨rfl, rfl⟩
  · by_cases c_1_1 : a ≤ (40 : Int32)
    · refine f_rS hG (As := [_]) dX11_leastCrates_1 rfl k_X11_demandCapacity rfl rfl ml_X11_262 sm_X11_demandCapacity (v := none) (M2 := M) (fO_cg (c_X11_demandCapacity hG (d := 0) (Nat.le_refl _) _ _ _) (by rw [o_X11_demandCapacity, if_neg c_1_0, if_pos c_1_1])) (by omega) (Nat.le_of_ble_eq_true rfl) (by omega) (by omega) ?_
      refine f_aload_n dX11_leastCrates_4 rfl rfl ?_
      refine s_getr hG fl_X11_61 dX11_leastCrates_5 rfl rfl ?_
      refine f_aload_n dX11_leastCrates_8 rfl rfl ?_
      refine s_getr hG fl_X11_10 dX11_leastCrates_9 rfl rfl ?_
      refine s_getr hG fl_X11_216 dX11_leastCrates_12 rS_1.1 rfl ?_
      refine f_iload_n dX11_leastCrates_15 rfl rfl ?_
      refine f_cV hG (As := [_, _]) dX11_leastCrates_16 rfl k_X2_leastBySets rfl rfl ml_X11_265 im_X2_leastBySets se_X2_leastBySets rfl rfl (c_X2_leastBySets hG (d := 2) (Nat.le_refl _) _ _ _ _ rS_1.2.2.2 _ (q0 c_1_0 c_1_1).1 (q0 c_1_0 c_1_1).2 _ (q1 c_1_0 c_1_1).1 (q1 c_1_0 c_1_1).2 (by omega) (by omega)) (by omega) (Nat.le_of_ble_eq_true rfl) (Nat.zero_le _) (Nat.zero_le _) ?_
      refine f_ireturn dX11_leastCrates_19 rfl rfl ?_
      rw [o_X11_leastCrates, if_neg c_1_0, if_pos c_1_1]
      exact ⟨rfl, rfl⟩
    · refine f_tS hG (As := [_]) dX11_leastCrates_1 rfl k_X11_demandCapacity rfl rfl ml_X11_262 sm_X11_demandCapacity (E := "java/lang/IllegalArgumentException") (M2 := M) (fO_cg (c_X11_demandCapacity hG (d := 0) (Nat.le_refl _) _ _ _) (by rw [o_X11_demandCapacity, if_neg c_1_0, if_neg c_1_1])) (by omega) (Nat.le_of_ble_eq_true rfl) (by omega) (by omega) (f_out rfl (by decide +kernel) ?_)
      rw [o_X11_leastCrates, if_neg c_1_0, if_neg c_1_1]
      exact ⟨rfl, rfl⟩

def o_X11_leastCratesByTrial (M : fM) (a : Int32) : fR × fM := (if a < (9 : Int32) then (.inr "java/lang/IllegalArgumentException", M) else (if a ≤ (40 : Int32) then (.inl (some (.int (r_X2_leastByTrial M (1 + 11) a))), (m_X2_leastByTrial M (1 + 11) a)) else (.inr "java/lang/IllegalArgumentException", M)))
set_option maxRecDepth 100000 in
set_option maxHeartbeats 4000000 in
theorem c_X11_leastCratesByTrial {G : fG} (hG : fOK G) {d : Nat} (hd : 12 ≤ d) (M : fM) (dv : UInt64) (a : Int32) : fCt G z_X11_leastCratesByTrial d [.ref 0, .int a] (sS M dv) 1 6 (fO dv (o_X11_leastCratesByTrial M a)) := by
  refine fCt_to [some (.ref 0), some (.int a)] k_X11_leastCratesByTrial rfl (Nat.le_of_ble_eq_true rfl) rfl ?_
  refine f_iload_n dX11_leastCratesByTrial_0 rfl rfl ?_
  by_cases c_1_0 : a < (9 : Int32)
  · refine f_tS hG (As := [_]) dX11_leastCratesByTrial_1 rfl k_X11_demandCapacity rfl rfl ml_X11_262 sm_X11_demandCapacity (E := "java/lang/IllegalArgumentException") (M2 := M) (fO_cg (c_X11_demandCapacity hG (d := 0) (Nat.le_refl _) _ _ _) (by rw [o_X11_demandCapacity, if_pos c_1_0])) (by omega) (Nat.le_of_ble_eq_true rfl) (by omega) (by omega) (f_out rfl (by decide +kernel) ?_)
    rw [o_X11_leastCratesByTrial, if_pos c_1_0]
    exact ⟨rfl, rfl⟩
  · by_cases c_1_1 : a ≤ (40 : Int32)
    · refine f_rS hG (As := [_]) dX11_leastCratesByTrial_1 rfl k_X11_demandCapacity rfl rfl ml_X11_262 sm_X11_demandCapacity (v := none) (M2 := M) (fO_cg (c_X11_demandCapacity hG (d := 0) (Nat.le_refl _) _ _ _) (by rw [o_X11_demandCapacity, if_neg c_1_0, if_pos c_1_1])) (by omega) (Nat.le_of_ble_eq_true rfl) (by omega) (by omega) ?_
      refine f_aload_n dX11_leastCratesByTrial_4 rfl rfl ?_
      refine s_getr hG fl_X11_61 dX11_leastCratesByTrial_5 rfl rfl ?_
      refine f_aload_n dX11_leastCratesByTrial_8 rfl rfl ?_
      refine s_getr hG fl_X11_10 dX11_leastCratesByTrial_9 rfl rfl ?_
      refine s_getr hG fl_X11_216 dX11_leastCratesByTrial_12 rS_1.1 rfl ?_
      refine f_iload_n dX11_leastCratesByTrial_15 rfl rfl ?_
      refine f_cV hG (As := [_, _]) dX11_leastCratesByTrial_16 rfl k_X2_leastByTrial rfl rfl ml_X11_269 im_X2_leastByTrial se_X2_leastByTrial rfl rfl (c_X2_leastByTrial hG (d := 11) (Nat.le_refl _) _ _ _ _ rS_1.2.2.2) (by omega) (Nat.le_of_ble_eq_true rfl) (Nat.zero_le _) (Nat.zero_le _) ?_
      refine f_ireturn dX11_leastCratesByTrial_19 rfl rfl ?_
      rw [o_X11_leastCratesByTrial, if_neg c_1_0, if_pos c_1_1]
      exact ⟨rfl, rfl⟩
    · refine f_tS hG (As := [_]) dX11_leastCratesByTrial_1 rfl k_X11_demandCapacity rfl rfl ml_X11_262 sm_X11_demandCapacity (E := "java/lang/IllegalArgumentException") (M2 := M) (fO_cg (c_X11_demandCapacity hG (d := 0) (Nat.le_refl _) _ _ _) (by rw [o_X11_demandCapacity, if_neg c_1_0, if_neg c_1_1])) (by omega) (Nat.le_of_ble_eq_true rfl) (by omega) (by omega) (f_out rfl (by decide +kernel) ?_)
      rw [o_X11_leastCratesByTrial, if_neg c_1_0, if_neg c_1_1]
      exact ⟨rfl, rfl⟩

def o_X11_isTested (M : fM) (a : Int32) : fR × fM := (if (r_X0_hasRaw M (1 + 1) a) = 0 then (.inr "java/lang/IndexOutOfBoundsException", M) else (.inl (some (.int (r_X11_setHas M (r_X9_best M 1) a))), M))
set_option maxRecDepth 100000 in
set_option maxHeartbeats 4000000 in
theorem c_X11_isTested {G : fG} (hG : fOK G) {d : Nat} (hd : 4 ≤ d) (M : fM) (dv : UInt64) (a : Int32) (q0 : ¬ ((r_X0_hasRaw M (1 + 1) a) = 0) → sm (M (1 + 11) 6) 300) (q1 : ¬ ((r_X0_hasRaw M (1 + 1) a) = 0) → sm (((1 : Int32) <<< ((M (1 + 1) 2) &&& 31)) - (1 : Int32)) 300) : fCt G z_X11_isTested d [.ref 0, .int a] (sS M dv) 1 6 (fO dv (o_X11_isTested M a)) := by
  refine fCt_to [some (.ref 0), some (.int a)] k_X11_isTested rfl (Nat.le_of_ble_eq_true rfl) rfl ?_
  refine f_aload_n dX11_isTested_0 rfl rfl ?_
  refine f_iload_n dX11_isTested_1 rfl rfl ?_
  by_cases c_2_0 : (r_X0_hasRaw M (1 + 1) a) = 0
  · refine f_tV hG (As := [_]) dX11_isTested_2 rfl k_X11_demandRaw rfl rfl ml_X11_109 im_X11_demandRaw se_X11_demandRaw rfl rfl (E := "java/lang/IndexOutOfBoundsException") (M2 := M) (fO_cg (c_X11_demandRaw hG (d := 1) (Nat.le_refl _) _ _ _) (by rw [o_X11_demandRaw, if_pos c_2_0])) (by omega) (Nat.le_of_ble_eq_true rfl) (by omega) (by omega) (f_out rfl (by decide +kernel) ?_)
    rw [o_X11_isTested, if_pos c_2_0]
    exact ⟨rfl, rfl⟩
  · refine f_rV hG (As := [_]) dX11_isTested_2 rfl k_X11_demandRaw rfl rfl ml_X11_109 im_X11_demandRaw se_X11_demandRaw rfl rfl (v := none) (M2 := M) (fO_cg (c_X11_demandRaw hG (d := 1) (Nat.le_refl _) _ _ _) (by rw [o_X11_demandRaw, if_neg c_2_0])) (by omega) (Nat.le_of_ble_eq_true rfl) (by omega) (by omega) ?_
    refine f_aload_n dX11_isTested_5 rfl rfl ?_
    refine s_getr hG fl_X11_10 dX11_isTested_6 rfl rfl ?_
    refine f_cS hG (As := [_]) dX11_isTested_9 rfl k_X9_best rfl rfl ml_X11_272 sm_X9_best (c_X9_best hG (d := 3) (Nat.le_refl _) _ _ _ rS_1 _ (q0 c_2_0).1 (q0 c_2_0).2 _ (q1 c_2_0).1 (q1 c_2_0).2) (by omega) (Nat.le_of_ble_eq_true rfl) (Nat.zero_le _) (Nat.zero_le _) ?_
    refine f_iload_n dX11_isTested_12 rfl rfl ?_
    refine f_cS hG (As := [_, _]) dX11_isTested_13 rfl k_X11_setHas rfl rfl ml_X11_132 sm_X11_setHas (c_X11_setHas hG (d := 0) (Nat.le_refl _) _ _ _ _) (by omega) (Nat.le_of_ble_eq_true rfl) (Nat.zero_le _) (Nat.zero_le _) ?_
    refine f_ireturn dX11_isTested_16 rfl (n_X11_setHas ..) ?_
    rw [o_X11_isTested, if_neg c_2_0]
    exact ⟨rfl, rfl⟩

def o_X11_lineAt (M : fM) (a : Int32) : fR × fM := (if a < 0 then (.inr "java/lang/IndexOutOfBoundsException", M) else (if a < (M 270 2) then (.inl (some (.int (r_X10_at M 270 60 a))), M) else (.inr "java/lang/IndexOutOfBoundsException", M)))
set_option maxRecDepth 100000 in
set_option maxHeartbeats 4000000 in
theorem c_X11_lineAt {G : fG} (hG : fOK G) {d : Nat} (hd : 2 ≤ d) (M : fM) (dv : UInt64) (a : Int32) : fCt G z_X11_lineAt d [.ref 0, .int a] (sS M dv) 1 6 (fO dv (o_X11_lineAt M a)) := by
  refine fCt_to [some (.ref 0), some (.int a)] k_X11_lineAt rfl (Nat.le_of_ble_eq_true rfl) rfl ?_
  refine f_iload_n dX11_lineAt_0 rfl rfl ?_
  refine f_if_lt (tgt := 15) dX11_lineAt_1 (by decide) (fun c_1 => ?_) (fun c_1 => ?_)
  · refine f_throwW hG th_X11_162_166 (st_X11_329) rfl (by decide +kernel) dX11_lineAt_15 dX11_lineAt_18 dX11_lineAt_19 dX11_lineAt_22 dX11_lineAt_25 (by decide) (by decide) ?_
    rw [o_X11_lineAt, if_pos c_1]
    exact ⟨rfl, rfl⟩
  · refine f_iload_n dX11_lineAt_4 rfl rfl ?_
    refine f_aload_n dX11_lineAt_5 rfl rfl ?_
    refine s_getr hG fl_X11_38 dX11_lineAt_6 rfl rfl ?_
    refine s_geti hG fl_X11_323 dX11_lineAt_9 rT_270.1 rfl ?_
    refine f_icmp_lt (tgt := 26) dX11_lineAt_12 (by decide) (fun c_12 => ?_) (fun c_12 => ?_)
    · refine f_aload_n dX11_lineAt_26 rfl rfl ?_
      refine s_getr hG fl_X11_38 dX11_lineAt_27 rfl rfl ?_
      refine f_iload_n dX11_lineAt_30 rfl rfl ?_
      refine f_cV hG (As := [_]) dX11_lineAt_31 rfl k_X10_at rfl rfl ml_X11_331 im_X10_at se_X10_at rT_270.1 rfl (c_X10_at hG (d := 1) (Nat.le_refl _) _ _ _ _ _ rT_270 (by decide)) (by omega) (Nat.le_of_ble_eq_true rfl) (Nat.zero_le _) (Nat.zero_le _) ?_
      refine f_ireturn dX11_lineAt_34 rfl (n_X10_at ..) ?_
      rw [o_X11_lineAt, if_neg c_1, if_pos c_12]
      exact ⟨rfl, rfl⟩
    · refine f_throwW hG th_X11_162_166 (st_X11_329) rfl (by decide +kernel) dX11_lineAt_15 dX11_lineAt_18 dX11_lineAt_19 dX11_lineAt_22 dX11_lineAt_25 (by decide) (by decide) ?_
      rw [o_X11_lineAt, if_neg c_1, if_neg c_12]
      exact ⟨rfl, rfl⟩

def o_X11_type (M : fM) (a : Int32) : fR × fM := (if a < (32 : Int32) then (.inr "java/lang/IllegalArgumentException", M) else (if a ≤ (126 : Int32) then (if (M 267 2) < (60 : Int32) then (.inl (some (.int ((m_X10_add M 267 60 a) 267 2))), (m_X10_add M 267 60 a)) else (.inr "java/lang/IllegalStateException", M)) else (.inr "java/lang/IllegalArgumentException", M)))
set_option maxRecDepth 100000 in
set_option maxHeartbeats 4000000 in
theorem c_X11_type {G : fG} (hG : fOK G) {d : Nat} (hd : 2 ≤ d) (M : fM) (dv : UInt64) (a : Int32) : fCt G z_X11_type d [.ref 0, .int a] (sS M dv) 1 6 (fO dv (o_X11_type M a)) := by
  refine fCt_to [some (.ref 0), some (.int a)] k_X11_type rfl (Nat.le_of_ble_eq_true rfl) rfl ?_
  refine f_iload_n dX11_type_0 rfl rfl ?_
  refine f_bipush (v := 32) dX11_type_1 (by decide) ?_
  refine f_icmp_lt (tgt := 12) dX11_type_3 (by decide) (fun c_3 => ?_) (fun c_3 => ?_)
  · refine f_throwW hG th_X11_348_352 (st_X11_350) rfl (by decide +kernel) dX11_type_12 dX11_type_15 dX11_type_16 dX11_type_19 dX11_type_22 (by decide) (by decide) ?_
    rw [o_X11_type, if_pos c_3]
    exact ⟨rfl, rfl⟩
  · refine f_iload_n dX11_type_6 rfl rfl ?_
    refine f_bipush (v := 126) dX11_type_7 (by decide) ?_
    refine f_icmp_le (tgt := 23) dX11_type_9 (by decide) (fun c_9 => ?_) (fun c_9 => ?_)
    · refine f_aload_n dX11_type_23 rfl rfl ?_
      refine s_getr hG fl_X11_34 dX11_type_24 rfl rfl ?_
      refine s_geti hG fl_X11_323 dX11_type_27 rT_267.1 rfl ?_
      refine f_bipush (v := 60) dX11_type_30 (by decide) ?_
      refine f_icmp_lt (tgt := 46) dX11_type_32 (by decide) (fun c_32 => ?_) (fun c_32 => ?_)
      · refine f_aload_n dX11_type_46 rfl rfl ?_
        refine s_getr hG fl_X11_34 dX11_type_47 rfl rfl ?_
        refine f_iload_n dX11_type_50 rfl rfl ?_
        refine f_cV hG (As := [_]) dX11_type_51 rfl k_X10_add rfl rfl ml_X11_315 im_X10_add se_X10_add rT_267.1 rfl (c_X10_add hG (d := 1) (Nat.le_refl _) _ _ _ _ _ rT_267 (by decide)) (by omega) (Nat.le_of_ble_eq_true rfl) (Nat.zero_le _) (Nat.zero_le _) ?_
        refine f_aload_n dX11_type_54 rfl rfl ?_
        refine s_getr hG fl_X11_34 dX11_type_55 rfl rfl ?_
        refine s_geti hG fl_X11_323 dX11_type_58 rT_267.1 rfl ?_
        refine f_ireturn dX11_type_61 rfl rfl ?_
        rw [o_X11_type, if_neg c_3, if_pos c_9, if_pos c_32]
        exact ⟨rfl, rfl⟩
      · refine f_throwW hG th_X11_353_357 (st_X11_355) rfl (by decide +kernel) dX11_type_35 dX11_type_38 dX11_type_39 dX11_type_42 dX11_type_45 (by decide) (by decide) ?_
        rw [o_X11_type, if_neg c_3, if_pos c_9, if_neg c_32]
        exact ⟨rfl, rfl⟩
    · refine f_throwW hG th_X11_348_352 (st_X11_350) rfl (by decide +kernel) dX11_type_12 dX11_type_15 dX11_type_16 dX11_type_19 dX11_type_22 (by decide) (by decide) ?_
      rw [o_X11_type, if_neg c_3, if_neg c_9]
      exact ⟨rfl, rfl⟩

def o_X11_writeLot (M : fM) (a : Int32) : fR × fM := (if (r_X5_positionOf M (1 + 11) a) = (-1 : Int32) then (.inr "java/util/NoSuchElementException", M) else (.inl (some (.int ((m_X10_addNumber (m_X10_add (m_X6_appendTo (m_X10_add (m_X10_addNumber (m_X10_add (m_X10_addNumber (m_X10_clear M 270 60) 270 60 a) 270 60 (58 : Int32)) 270 60 (rget (m_X10_add (m_X10_addNumber (m_X10_clear M 270 60) 270 60 a) 270 60 (58 : Int32)) (1 + 11 + 9) 8 (r_X5_positionOf M (1 + 11) a))) 270 60 (120 : Int32)) (1 + 6) (rget (m_X10_add (m_X10_addNumber (m_X10_add (m_X10_addNumber (m_X10_clear M 270 60) 270 60 a) 270 60 (58 : Int32)) 270 60 (rget (m_X10_add (m_X10_addNumber (m_X10_clear M 270 60) 270 60 a) 270 60 (58 : Int32)) (1 + 11 + 9) 8 (r_X5_positionOf M (1 + 11) a))) 270 60 (120 : Int32)) (1 + 11 + 7) 8 (r_X5_positionOf M (1 + 11) a)) 270 60) 270 60 (47 : Int32)) 270 60 (rget (m_X10_add (m_X6_appendTo (m_X10_add (m_X10_addNumber (m_X10_add (m_X10_addNumber (m_X10_clear M 270 60) 270 60 a) 270 60 (58 : Int32)) 270 60 (rget (m_X10_add (m_X10_addNumber (m_X10_clear M 270 60) 270 60 a) 270 60 (58 : Int32)) (1 + 11 + 9) 8 (r_X5_positionOf M (1 + 11) a))) 270 60 (120 : Int32)) (1 + 6) (rget (m_X10_add (m_X10_addNumber (m_X10_add (m_X10_addNumber (m_X10_clear M 270 60) 270 60 a) 270 60 (58 : Int32)) 270 60 (rget (m_X10_add (m_X10_addNumber (m_X10_clear M 270 60) 270 60 a) 270 60 (58 : Int32)) (1 + 11 + 9) 8 (r_X5_positionOf M (1 + 11) a))) 270 60 (120 : Int32)) (1 + 11 + 7) 8 (r_X5_positionOf M (1 + 11) a)) 270 60) 270 60 (47 : Int32)) (1 + 11 + 11) 8 (r_X5_positionOf M (1 + 11) a))) 270 2))), (m_X10_addNumber (m_X10_add (m_X6_appendTo (m_X10_add (m_X10_addNumber (m_X10_add (m_X10_addNumber (m_X10_clear M 270 60) 270 60 a) 270 60 (58 : Int32)) 270 60 (rget (m_X10_add (m_X10_addNumber (m_X10_clear M 270 60) 270 60 a) 270 60 (58 : Int32)) (1 + 11 + 9) 8 (r_X5_positionOf M (1 + 11) a))) 270 60 (120 : Int32)) (1 + 6) (rget (m_X10_add (m_X10_addNumber (m_X10_add (m_X10_addNumber (m_X10_clear M 270 60) 270 60 a) 270 60 (58 : Int32)) 270 60 (rget (m_X10_add (m_X10_addNumber (m_X10_clear M 270 60) 270 60 a) 270 60 (58 : Int32)) (1 + 11 + 9) 8 (r_X5_positionOf M (1 + 11) a))) 270 60 (120 : Int32)) (1 + 11 + 7) 8 (r_X5_positionOf M (1 + 11) a)) 270 60) 270 60 (47 : Int32)) 270 60 (rget (m_X10_add (m_X6_appendTo (m_X10_add (m_X10_addNumber (m_X10_add (m_X10_addNumber (m_X10_clear M 270 60) 270 60 a) 270 60 (58 : Int32)) 270 60 (rget (m_X10_add (m_X10_addNumber (m_X10_clear M 270 60) 270 60 a) 270 60 (58 : Int32)) (1 + 11 + 9) 8 (r_X5_positionOf M (1 + 11) a))) 270 60 (120 : Int32)) (1 + 6) (rget (m_X10_add (m_X10_addNumber (m_X10_add (m_X10_addNumber (m_X10_clear M 270 60) 270 60 a) 270 60 (58 : Int32)) 270 60 (rget (m_X10_add (m_X10_addNumber (m_X10_clear M 270 60) 270 60 a) 270 60 (58 : Int32)) (1 + 11 + 9) 8 (r_X5_positionOf M (1 + 11) a))) 270 60 (120 : Int32)) (1 + 11 + 7) 8 (r_X5_positionOf M (1 + 11) a)) 270 60) 270 60 (47 : Int32)) (1 + 11 + 11) 8 (r_X5_positionOf M (1 + 11) a)))))
set_option maxRecDepth 100000 in
set_option maxHeartbeats 4000000 in
theorem c_X11_writeLot {G : fG} (hG : fOK G) {d : Nat} (hd : 3 ≤ d) (M : fM) (dv : UInt64) (a : Int32) (q0 : sm (M (1 + 11) 6) 300) (q1 : ¬ ((r_X5_positionOf M (1 + 11) a) = (-1 : Int32)) → sm (rget (m_X10_add (m_X10_addNumber (m_X10_add (m_X10_addNumber (m_X10_clear M 270 60) 270 60 a) 270 60 (58 : Int32)) 270 60 (rget (m_X10_add (m_X10_addNumber (m_X10_clear M 270 60) 270 60 a) 270 60 (58 : Int32)) (1 + 11 + 9) 8 (r_X5_positionOf M (1 + 11) a))) 270 60 (120 : Int32)) ((1 + 6) + 1) 8 (rget (m_X10_add (m_X10_addNumber (m_X10_add (m_X10_addNumber (m_X10_clear M 270 60) 270 60 a) 270 60 (58 : Int32)) 270 60 (rget (m_X10_add (m_X10_addNumber (m_X10_clear M 270 60) 270 60 a) 270 60 (58 : Int32)) (1 + 11 + 9) 8 (r_X5_positionOf M (1 + 11) a))) 270 60 (120 : Int32)) (1 + 11 + 7) 8 (r_X5_positionOf M (1 + 11) a))) 300) : fCt G z_X11_writeLot d [.ref 0, .int a] (sS M dv) 1 6 (fO dv (o_X11_writeLot M a)) := by
  refine fCt_to [some (.ref 0), some (.int a), none] k_X11_writeLot rfl (Nat.le_of_ble_eq_true rfl) rfl ?_
  refine f_aload_n dX11_writeLot_0 rfl rfl ?_
  refine f_iload_n dX11_writeLot_1 rfl rfl ?_
  by_cases c_2_0 : (r_X5_positionOf M (1 + 11) a) = (-1 : Int32)
  · refine f_tV hG (As := [_]) dX11_writeLot_2 rfl k_X11_demandLot rfl rfl ml_X11_231 im_X11_demandLot se_X11_demandLot rfl rfl (E := "java/util/NoSuchElementException") (M2 := M) (fO_cg (c_X11_demandLot hG (d := 2) (Nat.le_refl _) _ _ _ q0) (by rw [o_X11_demandLot, if_pos c_2_0])) (by omega) (Nat.le_of_ble_eq_true rfl) (by omega) (by omega) (f_out rfl (by decide +kernel) ?_)
    rw [o_X11_writeLot, if_pos c_2_0]
    exact ⟨rfl, rfl⟩
  · refine f_rV hG (As := [_]) dX11_writeLot_2 rfl k_X11_demandLot rfl rfl ml_X11_231 im_X11_demandLot se_X11_demandLot rfl rfl (v := (some (.int (r_X5_positionOf M (1 + 11) a)))) (M2 := M) (fO_cg (c_X11_demandLot hG (d := 2) (Nat.le_refl _) _ _ _ q0) (by rw [o_X11_demandLot, if_neg c_2_0])) (by omega) (Nat.le_of_ble_eq_true rfl) (by omega) (by omega) ?_
    refine f_istore_n (ls' := [_, _, _]) dX11_writeLot_5 rfl (Nat.le_of_ble_eq_true rfl) rfl rfl ?_
    refine f_aload_n dX11_writeLot_6 rfl rfl ?_
    refine s_getr hG fl_X11_38 dX11_writeLot_7 rfl rfl ?_
    refine f_cV hG (As := []) dX11_writeLot_10 rfl k_X10_clear rfl rfl ml_X11_150 im_X10_clear se_X10_clear rT_270.1 rfl (c_X10_clear hG (d := 0) (Nat.le_refl _) _ _ _ _ rT_270 (by decide)) (by omega) (Nat.le_of_ble_eq_true rfl) (Nat.zero_le _) (Nat.zero_le _) ?_
    refine f_aload_n dX11_writeLot_13 rfl rfl ?_
    refine s_getr hG fl_X11_38 dX11_writeLot_14 rfl rfl ?_
    refine f_iload_n dX11_writeLot_17 rfl rfl ?_
    refine f_cV hG (As := [_]) dX11_writeLot_18 rfl k_X10_addNumber rfl rfl ml_X11_312 im_X10_addNumber se_X10_addNumber rT_270.1 rfl (c_X10_addNumber hG (d := 2) (Nat.le_refl _) _ _ _ _ _ rT_270 (by decide)) (by omega) (Nat.le_of_ble_eq_true rfl) (Nat.zero_le _) (Nat.zero_le _) ?_
    refine f_aload_n dX11_writeLot_21 rfl rfl ?_
    refine s_getr hG fl_X11_38 dX11_writeLot_22 rfl rfl ?_
    refine f_bipush (v := 58) dX11_writeLot_25 (by decide) ?_
    refine f_cV hG (As := [_]) dX11_writeLot_27 rfl k_X10_add rfl rfl ml_X11_315 im_X10_add se_X10_add rT_270.1 rfl (c_X10_add hG (d := 1) (Nat.le_refl _) _ _ _ _ _ rT_270 (by decide)) (by omega) (Nat.le_of_ble_eq_true rfl) (Nat.zero_le _) (Nat.zero_le _) ?_
    refine f_aload_n dX11_writeLot_30 rfl rfl ?_
    refine s_getr hG fl_X11_38 dX11_writeLot_31 rfl rfl ?_
    refine f_aload_n dX11_writeLot_34 rfl rfl ?_
    refine s_getr hG fl_X11_10 dX11_writeLot_35 rfl rfl ?_
    refine s_getr hG fl_X11_216 dX11_writeLot_38 rS_1.1 rfl ?_
    refine s_getr hG fl_X11_228 dX11_writeLot_41 rS_1.2.2.2.1 rfl ?_
    refine f_iload_n dX11_writeLot_44 rfl rfl ?_
    refine f_cV hG (As := [_]) dX11_writeLot_45 rfl k_X7_get rfl rfl ml_X11_123 im_X7_get se_X7_get rS_1.2.2.2.2.2.2.2.2.1.1 rfl (c_X7_get hG (Nat.le_refl _) _ _ _ _ rS_1.2.2.2.2.2.2.2.2.1 (by decide) _) (by omega) (Nat.le_of_ble_eq_true rfl) (Nat.zero_le _) (Nat.zero_le _) ?_
    refine f_cV hG (As := [_]) dX11_writeLot_48 rfl k_X10_addNumber rfl rfl ml_X11_312 im_X10_addNumber se_X10_addNumber rT_270.1 rfl (c_X10_addNumber hG (d := 2) (Nat.le_refl _) _ _ _ _ _ rT_270 (by decide)) (by omega) (Nat.le_of_ble_eq_true rfl) (Nat.zero_le _) (Nat.zero_le _) ?_
    refine f_aload_n dX11_writeLot_51 rfl rfl ?_
    refine s_getr hG fl_X11_38 dX11_writeLot_52 rfl rfl ?_
    refine f_bipush (v := 120) dX11_writeLot_55 (by decide) ?_
    refine f_cV hG (As := [_]) dX11_writeLot_57 rfl k_X10_add rfl rfl ml_X11_315 im_X10_add se_X10_add rT_270.1 rfl (c_X10_add hG (d := 1) (Nat.le_refl _) _ _ _ _ _ rT_270 (by decide)) (by omega) (Nat.le_of_ble_eq_true rfl) (Nat.zero_le _) (Nat.zero_le _) ?_
    refine f_aload_n dX11_writeLot_60 rfl rfl ?_
    refine s_getr hG fl_X11_10 dX11_writeLot_61 rfl rfl ?_
    refine s_getr hG fl_X11_140 dX11_writeLot_64 rS_1.1 rfl ?_
    refine f_aload_n dX11_writeLot_67 rfl rfl ?_
    refine s_getr hG fl_X11_10 dX11_writeLot_68 rfl rfl ?_
    refine s_getr hG fl_X11_216 dX11_writeLot_71 rS_1.1 rfl ?_
    refine s_getr hG fl_X11_234 dX11_writeLot_74 rS_1.2.2.2.1 rfl ?_
    refine f_iload_n dX11_writeLot_77 rfl rfl ?_
    refine f_cV hG (As := [_]) dX11_writeLot_78 rfl k_X7_get rfl rfl ml_X11_123 im_X7_get se_X7_get rS_1.2.2.2.2.2.2.2.1.1 rfl (c_X7_get hG (Nat.le_refl _) _ _ _ _ rS_1.2.2.2.2.2.2.2.1 (by decide) _) (by omega) (Nat.le_of_ble_eq_true rfl) (Nat.zero_le _) (Nat.zero_le _) ?_
    refine f_aload_n dX11_writeLot_81 rfl rfl ?_
    refine s_getr hG fl_X11_38 dX11_writeLot_82 rfl rfl ?_
    refine f_cV hG (As := [_, _]) dX11_writeLot_85 rfl k_X6_appendTo rfl rfl ml_X11_319 im_X6_appendTo se_X6_appendTo rS_1.2.2.1.1 rfl (c_X6_appendTo hG (d := 2) (Nat.le_refl _) _ _ _ _ _ _ rS_1.2.2.1 rT_270 (by decide) _ (q1 c_2_0).1 (q1 c_2_0).2 (by omega) (by omega)) (by omega) (Nat.le_of_ble_eq_true rfl) (Nat.zero_le _) (Nat.zero_le _) ?_
    refine f_aload_n dX11_writeLot_88 rfl rfl ?_
    refine s_getr hG fl_X11_38 dX11_writeLot_89 rfl rfl ?_
    refine f_bipush (v := 47) dX11_writeLot_92 (by decide) ?_
    refine f_cV hG (As := [_]) dX11_writeLot_94 rfl k_X10_add rfl rfl ml_X11_315 im_X10_add se_X10_add rT_270.1 rfl (c_X10_add hG (d := 1) (Nat.le_refl _) _ _ _ _ _ rT_270 (by decide)) (by omega) (Nat.le_of_ble_eq_true rfl) (Nat.zero_le _) (Nat.zero_le _) ?_
    refine f_aload_n dX11_writeLot_97 rfl rfl ?_
    refine s_getr hG fl_X11_38 dX11_writeLot_98 rfl rfl ?_
    refine f_aload_n dX11_writeLot_101 rfl rfl ?_
    refine s_getr hG fl_X11_10 dX11_writeLot_102 rfl rfl ?_
    refine s_getr hG fl_X11_216 dX11_writeLot_105 rS_1.1 rfl ?_
    refine s_getr hG fl_X11_239 dX11_writeLot_108 rS_1.2.2.2.1 rfl ?_
    refine f_iload_n dX11_writeLot_111 rfl rfl ?_
    refine f_cV hG (As := [_]) dX11_writeLot_112 rfl k_X7_get rfl rfl ml_X11_123 im_X7_get se_X7_get rS_1.2.2.2.2.2.2.2.2.2.1 rfl (c_X7_get hG (Nat.le_refl _) _ _ _ _ rS_1.2.2.2.2.2.2.2.2.2 (by decide) _) (by omega) (Nat.le_of_ble_eq_true rfl) (Nat.zero_le _) (Nat.zero_le _) ?_
    refine f_cV hG (As := [_]) dX11_writeLot_115 rfl k_X10_addNumber rfl rfl ml_X11_312 im_X10_addNumber se_X10_addNumber rT_270.1 rfl (c_X10_addNumber hG (d := 2) (Nat.le_refl _) _ _ _ _ _ rT_270 (by decide)) (by omega) (Nat.le_of_ble_eq_true rfl) (Nat.zero_le _) (Nat.zero_le _) ?_
    refine f_aload_n dX11_writeLot_118 rfl rfl ?_
    refine s_getr hG fl_X11_38 dX11_writeLot_119 rfl rfl ?_
    refine s_geti hG fl_X11_323 dX11_writeLot_122 rT_270.1 rfl ?_
    refine f_ireturn dX11_writeLot_125 rfl rfl ?_
    rw [o_X11_writeLot, if_neg c_2_0]
    exact ⟨rfl, rfl⟩

def o_X11_batchContains (M : fM) (a : Int32) (b : Int32) : fR × fM := (if (r_X0_hasBatch M (1 + 1) a) = 0 then (.inr "java/lang/IndexOutOfBoundsException", M) else (if (r_X0_hasRaw M (1 + 1) b) = 0 then (.inr "java/lang/IndexOutOfBoundsException", M) else (.inl (some (.int (r_X11_setHas M (rget M (1 + 1 + 1) 6 a) b))), M)))
set_option maxRecDepth 100000 in
set_option maxHeartbeats 4000000 in
theorem c_X11_batchContains {G : fG} (hG : fOK G) {d : Nat} (hd : 2 ≤ d) (M : fM) (dv : UInt64) (a : Int32) (b : Int32) : fCt G z_X11_batchContains d [.ref 0, .int a, .int b] (sS M dv) 2 12 (fO dv (o_X11_batchContains M a b)) := by
  refine fCt_to [some (.ref 0), some (.int a), some (.int b)] k_X11_batchContains rfl (Nat.le_of_ble_eq_true rfl) rfl ?_
  refine f_aload_n dX11_batchContains_0 rfl rfl ?_
  refine f_iload_n dX11_batchContains_1 rfl rfl ?_
  by_cases c_2_0 : (r_X0_hasBatch M (1 + 1) a) = 0
  · refine f_tV hG (As := [_]) dX11_batchContains_2 rfl k_X11_demandBatch rfl rfl ml_X11_116 im_X11_demandBatch se_X11_demandBatch rfl rfl (E := "java/lang/IndexOutOfBoundsException") (M2 := M) (fO_cg (c_X11_demandBatch hG (d := 1) (Nat.le_refl _) _ _ _) (by rw [o_X11_demandBatch, if_pos c_2_0])) (by omega) (Nat.le_of_ble_eq_true rfl) (by omega) (by omega) (f_out rfl (by decide +kernel) ?_)
    rw [o_X11_batchContains, if_pos c_2_0]
    exact ⟨rfl, rfl⟩
  · refine f_rV hG (As := [_]) dX11_batchContains_2 rfl k_X11_demandBatch rfl rfl ml_X11_116 im_X11_demandBatch se_X11_demandBatch rfl rfl (v := none) (M2 := M) (fO_cg (c_X11_demandBatch hG (d := 1) (Nat.le_refl _) _ _ _) (by rw [o_X11_demandBatch, if_neg c_2_0])) (by omega) (Nat.le_of_ble_eq_true rfl) (by omega) (by omega) ?_
    refine f_aload_n dX11_batchContains_5 rfl rfl ?_
    refine f_iload_n dX11_batchContains_6 rfl rfl ?_
    by_cases c_7_0 : (r_X0_hasRaw M (1 + 1) b) = 0
    · refine f_tV hG (As := [_]) dX11_batchContains_7 rfl k_X11_demandRaw rfl rfl ml_X11_109 im_X11_demandRaw se_X11_demandRaw rfl rfl (E := "java/lang/IndexOutOfBoundsException") (M2 := M) (fO_cg (c_X11_demandRaw hG (d := 1) (Nat.le_refl _) _ _ _) (by rw [o_X11_demandRaw, if_pos c_7_0])) (by omega) (Nat.le_of_ble_eq_true rfl) (by omega) (by omega) (f_out rfl (by decide +kernel) ?_)
      rw [o_X11_batchContains, if_neg c_2_0, if_pos c_7_0]
      exact ⟨rfl, rfl⟩
    · refine f_rV hG (As := [_]) dX11_batchContains_7 rfl k_X11_demandRaw rfl rfl ml_X11_109 im_X11_demandRaw se_X11_demandRaw rfl rfl (v := none) (M2 := M) (fO_cg (c_X11_demandRaw hG (d := 1) (Nat.le_refl _) _ _ _) (by rw [o_X11_demandRaw, if_neg c_7_0])) (by omega) (Nat.le_of_ble_eq_true rfl) (by omega) (by omega) ?_
      refine f_aload_n dX11_batchContains_10 rfl rfl ?_
      refine s_getr hG fl_X11_10 dX11_batchContains_11 rfl rfl ?_
      refine s_getr hG fl_X11_87 dX11_batchContains_14 rS_1.1 rfl ?_
      refine s_getr hG fl_X11_129 dX11_batchContains_17 rS_1.2.1.1 rfl ?_
      refine f_iload_n dX11_batchContains_20 rfl rfl ?_
      refine f_cV hG (As := [_]) dX11_batchContains_21 rfl k_X7_get rfl rfl ml_X11_123 im_X7_get se_X7_get rS_1.2.1.2.1.1 rfl (c_X7_get hG (Nat.le_refl _) _ _ _ _ rS_1.2.1.2.1 (by decide) _) (by omega) (Nat.le_of_ble_eq_true rfl) (Nat.zero_le _) (Nat.zero_le _) ?_
      refine f_iload_n dX11_batchContains_24 rfl rfl ?_
      refine f_cS hG (As := [_, _]) dX11_batchContains_25 rfl k_X11_setHas rfl rfl ml_X11_132 sm_X11_setHas (c_X11_setHas hG (d := 0) (Nat.le_refl _) _ _ _ _) (by omega) (Nat.le_of_ble_eq_true rfl) (Nat.zero_le _) (Nat.zero_le _) ?_
      refine f_ireturn dX11_batchContains_28 rfl (n_X11_setHas ..) ?_
      rw [o_X11_batchContains, if_neg c_2_0, if_neg c_7_0]
      exact ⟨rfl, rfl⟩

def o_X11_labelLetter (M : fM) (a : Int32) (b : Int32) : fR × fM := (if (r_X6_has M (1 + 6) a) = 0 then (.inr "java/lang/IndexOutOfBoundsException", M) else (if b < 0 then (.inr "java/lang/IndexOutOfBoundsException", M) else (if b < (rget M (1 + 6 + 1) 8 a) then (.inl (some (.int (r_X6_letter M (1 + 6) a b))), M) else (.inr "java/lang/IndexOutOfBoundsException", M))))
set_option maxRecDepth 100000 in
set_option maxHeartbeats 4000000 in
theorem c_X11_labelLetter {G : fG} (hG : fOK G) {d : Nat} (hd : 2 ≤ d) (M : fM) (dv : UInt64) (a : Int32) (b : Int32) : fCt G z_X11_labelLetter d [.ref 0, .int a, .int b] (sS M dv) 2 12 (fO dv (o_X11_labelLetter M a b)) := by
  refine fCt_to [some (.ref 0), some (.int a), some (.int b)] k_X11_labelLetter rfl (Nat.le_of_ble_eq_true rfl) rfl ?_
  refine f_aload_n dX11_labelLetter_0 rfl rfl ?_
  refine f_iload_n dX11_labelLetter_1 rfl rfl ?_
  by_cases c_2_0 : (r_X6_has M (1 + 6) a) = 0
  · refine f_tV hG (As := [_]) dX11_labelLetter_2 rfl k_X11_demandLabel rfl rfl ml_X11_156 im_X11_demandLabel se_X11_demandLabel rfl rfl (E := "java/lang/IndexOutOfBoundsException") (M2 := M) (fO_cg (c_X11_demandLabel hG (d := 1) (Nat.le_refl _) _ _ _) (by rw [o_X11_demandLabel, if_pos c_2_0])) (by omega) (Nat.le_of_ble_eq_true rfl) (by omega) (by omega) (f_out rfl (by decide +kernel) ?_)
    rw [o_X11_labelLetter, if_pos c_2_0]
    exact ⟨rfl, rfl⟩
  · refine f_rV hG (As := [_]) dX11_labelLetter_2 rfl k_X11_demandLabel rfl rfl ml_X11_156 im_X11_demandLabel se_X11_demandLabel rfl rfl (v := none) (M2 := M) (fO_cg (c_X11_demandLabel hG (d := 1) (Nat.le_refl _) _ _ _) (by rw [o_X11_demandLabel, if_neg c_2_0])) (by omega) (Nat.le_of_ble_eq_true rfl) (by omega) (by omega) ?_
    refine f_iload_n dX11_labelLetter_5 rfl rfl ?_
    refine f_if_lt (tgt := 27) dX11_labelLetter_6 (by decide) (fun c_6 => ?_) (fun c_6 => ?_)
    · refine f_throw hG th_X11_162_166 (st_X11_164) rfl (by decide +kernel) dX11_labelLetter_27 dX11_labelLetter_30 dX11_labelLetter_31 dX11_labelLetter_33 dX11_labelLetter_36 (by decide) (by decide) ?_
      rw [o_X11_labelLetter, if_neg c_2_0, if_pos c_6]
      exact ⟨rfl, rfl⟩
    · refine f_iload_n dX11_labelLetter_9 rfl rfl ?_
      refine f_aload_n dX11_labelLetter_10 rfl rfl ?_
      refine s_getr hG fl_X11_10 dX11_labelLetter_11 rfl rfl ?_
      refine s_getr hG fl_X11_140 dX11_labelLetter_14 rS_1.1 rfl ?_
      refine s_getr hG fl_X11_159 dX11_labelLetter_17 rS_1.2.2.1.1 rfl ?_
      refine f_iload_n dX11_labelLetter_20 rfl rfl ?_
      refine f_cV hG (As := [_]) dX11_labelLetter_21 rfl k_X7_get rfl rfl ml_X11_123 im_X7_get se_X7_get rS_1.2.2.1.2.1.1 rfl (c_X7_get hG (Nat.le_refl _) _ _ _ _ rS_1.2.2.1.2.1 (by decide) _) (by omega) (Nat.le_of_ble_eq_true rfl) (Nat.zero_le _) (Nat.zero_le _) ?_
      refine f_icmp_lt (tgt := 37) dX11_labelLetter_24 (by decide) (fun c_24 => ?_) (fun c_24 => ?_)
      · refine f_aload_n dX11_labelLetter_37 rfl rfl ?_
        refine s_getr hG fl_X11_10 dX11_labelLetter_38 rfl rfl ?_
        refine s_getr hG fl_X11_140 dX11_labelLetter_41 rS_1.1 rfl ?_
        refine f_iload_n dX11_labelLetter_44 rfl rfl ?_
        refine f_iload_n dX11_labelLetter_45 rfl rfl ?_
        refine f_cV hG (As := [_, _]) dX11_labelLetter_46 rfl k_X6_letter rfl rfl ml_X11_169 im_X6_letter se_X6_letter rS_1.2.2.1.1 rfl (c_X6_letter hG (d := 1) (Nat.le_refl _) _ _ _ _ _ rS_1.2.2.1) (by omega) (Nat.le_of_ble_eq_true rfl) (Nat.zero_le _) (Nat.zero_le _) ?_
        refine f_ireturn dX11_labelLetter_49 rfl (n_X6_letter ..) ?_
        rw [o_X11_labelLetter, if_neg c_2_0, if_neg c_6, if_pos c_24]
        exact ⟨rfl, rfl⟩
      · refine f_throw hG th_X11_162_166 (st_X11_164) rfl (by decide +kernel) dX11_labelLetter_27 dX11_labelLetter_30 dX11_labelLetter_31 dX11_labelLetter_33 dX11_labelLetter_36 (by decide) (by decide) ?_
        rw [o_X11_labelLetter, if_neg c_2_0, if_neg c_6, if_neg c_24]
        exact ⟨rfl, rfl⟩

def o_X11_lotContains (M : fM) (a : Int32) (b : Int32) : fR × fM := (if (r_X5_positionOf M (1 + 11) a) = (-1 : Int32) then (.inr "java/util/NoSuchElementException", M) else (if (r_X0_hasRaw M (1 + 1) b) = 0 then (.inr "java/lang/IndexOutOfBoundsException", M) else (.inl (some (.int (r_X11_setHas M (r_X8_rawsAt M 1 (r_X5_positionOf M (1 + 11) a)) b))), M)))
set_option maxRecDepth 100000 in
set_option maxHeartbeats 4000000 in
theorem c_X11_lotContains {G : fG} (hG : fOK G) {d : Nat} (hd : 3 ≤ d) (M : fM) (dv : UInt64) (a : Int32) (b : Int32) (q0 : sm (M (1 + 11) 6) 300) : fCt G z_X11_lotContains d [.ref 0, .int a, .int b] (sS M dv) 2 12 (fO dv (o_X11_lotContains M a b)) := by
  refine fCt_to [some (.ref 0), some (.int a), some (.int b), none] k_X11_lotContains rfl (Nat.le_of_ble_eq_true rfl) rfl ?_
  refine f_aload_n dX11_lotContains_0 rfl rfl ?_
  refine f_iload_n dX11_lotContains_1 rfl rfl ?_
  by_cases c_2_0 : (r_X5_positionOf M (1 + 11) a) = (-1 : Int32)
  · refine f_tV hG (As := [_]) dX11_lotContains_2 rfl k_X11_demandLot rfl rfl ml_X11_231 im_X11_demandLot se_X11_demandLot rfl rfl (E := "java/util/NoSuchElementException") (M2 := M) (fO_cg (c_X11_demandLot hG (d := 2) (Nat.le_refl _) _ _ _ q0) (by rw [o_X11_demandLot, if_pos c_2_0])) (by omega) (Nat.le_of_ble_eq_true rfl) (by omega) (by omega) (f_out rfl (by decide +kernel) ?_)
    rw [o_X11_lotContains, if_pos c_2_0]
    exact ⟨rfl, rfl⟩
  · refine f_rV hG (As := [_]) dX11_lotContains_2 rfl k_X11_demandLot rfl rfl ml_X11_231 im_X11_demandLot se_X11_demandLot rfl rfl (v := (some (.int (r_X5_positionOf M (1 + 11) a)))) (M2 := M) (fO_cg (c_X11_demandLot hG (d := 2) (Nat.le_refl _) _ _ _ q0) (by rw [o_X11_demandLot, if_neg c_2_0])) (by omega) (Nat.le_of_ble_eq_true rfl) (by omega) (by omega) ?_
    refine f_istore_n (ls' := [_, _, _, _]) dX11_lotContains_5 rfl (Nat.le_of_ble_eq_true rfl) rfl rfl ?_
    refine f_aload_n dX11_lotContains_6 rfl rfl ?_
    refine f_iload_n dX11_lotContains_7 rfl rfl ?_
    by_cases c_8_0 : (r_X0_hasRaw M (1 + 1) b) = 0
    · refine f_tV hG (As := [_]) dX11_lotContains_8 rfl k_X11_demandRaw rfl rfl ml_X11_109 im_X11_demandRaw se_X11_demandRaw rfl rfl (E := "java/lang/IndexOutOfBoundsException") (M2 := M) (fO_cg (c_X11_demandRaw hG (d := 1) (Nat.le_refl _) _ _ _) (by rw [o_X11_demandRaw, if_pos c_8_0])) (by omega) (Nat.le_of_ble_eq_true rfl) (by omega) (by omega) (f_out rfl (by decide +kernel) ?_)
      rw [o_X11_lotContains, if_neg c_2_0, if_pos c_8_0]
      exact ⟨rfl, rfl⟩
    · refine f_rV hG (As := [_]) dX11_lotContains_8 rfl k_X11_demandRaw rfl rfl ml_X11_109 im_X11_demandRaw se_X11_demandRaw rfl rfl (v := none) (M2 := M) (fO_cg (c_X11_demandRaw hG (d := 1) (Nat.le_refl _) _ _ _) (by rw [o_X11_demandRaw, if_neg c_8_0])) (by omega) (Nat.le_of_ble_eq_true rfl) (by omega) (by omega) ?_
      refine f_aload_n dX11_lotContains_11 rfl rfl ?_
      refine s_getr hG fl_X11_10 dX11_lotContains_12 rfl rfl ?_
      refine f_iload_n dX11_lotContains_15 rfl rfl ?_
      refine f_cV hG (As := [_]) dX11_lotContains_16 rfl k_X8_rawsAt rfl rfl ml_X11_242 im_X8_rawsAt se_X8_rawsAt rS_1.1 rfl (c_X8_rawsAt hG (d := 1) (Nat.le_refl _) _ _ _ _ rS_1) (by omega) (Nat.le_of_ble_eq_true rfl) (Nat.zero_le _) (Nat.zero_le _) ?_
      refine f_iload_n dX11_lotContains_19 rfl rfl ?_
      refine f_cS hG (As := [_, _]) dX11_lotContains_20 rfl k_X11_setHas rfl rfl ml_X11_132 sm_X11_setHas (c_X11_setHas hG (d := 0) (Nat.le_refl _) _ _ _ _) (by omega) (Nat.le_of_ble_eq_true rfl) (Nat.zero_le _) (Nat.zero_le _) ?_
      refine f_ireturn dX11_lotContains_23 rfl (n_X11_setHas ..) ?_
      rw [o_X11_lotContains, if_neg c_2_0, if_neg c_8_0]
      exact ⟨rfl, rfl⟩

def o_X11_fill (M : fM) (a : Int32) (b : Int32) (c : Int32) (e : Int32) : fR × fM := (if (r_X8_fillRefusal M 1 a b c e) = (1 : Int32) then (.inr "java/lang/IndexOutOfBoundsException", M) else (if (r_X8_fillRefusal M 1 a b c e) = (2 : Int32) then (.inr "java/lang/IllegalArgumentException", M) else (if (r_X8_fillRefusal M 1 a b c e) = (3 : Int32) then (.inr "java/lang/IllegalStateException", M) else (if (r_X8_fillRefusal M 1 a b c e) = (4 : Int32) then (.inr "java/lang/UnsupportedOperationException", M) else (if (r_X8_fillRefusal M 1 a b c e) = (5 : Int32) then (.inr "java/util/NoSuchElementException", M) else (.inl (some (.int (r_X8_fillLot (m_X4_keep M 1) 1 a b c e))), (m_X8_fillLot (m_X4_keep M 1) 1 a b c e)))))))
set_option maxRecDepth 100000 in
set_option maxHeartbeats 4000000 in
theorem c_X11_fill {G : fG} (hG : fOK G) {d : Nat} (hd : 4 ≤ d) (M : fM) (dv : UInt64) (a : Int32) (b : Int32) (c : Int32) (e : Int32) (q0 : ¬ ((r_X8_fillRefusal M 1 a b c e) = (1 : Int32)) → ¬ ((r_X8_fillRefusal M 1 a b c e) = (2 : Int32)) → ¬ ((r_X8_fillRefusal M 1 a b c e) = (3 : Int32)) → ¬ ((r_X8_fillRefusal M 1 a b c e) = (4 : Int32)) → ¬ ((r_X8_fillRefusal M 1 a b c e) = (5 : Int32)) → sm (M 73 1) 8) : fCt G z_X11_fill d [.ref 0, .int a, .int b, .int c, .int e] (sS M dv) 1 6 (fO dv (o_X11_fill M a b c e)) := by
  refine fCt_to [some (.ref 0), some (.int a), some (.int b), some (.int c), some (.int e)] k_X11_fill rfl (Nat.le_of_ble_eq_true rfl) rfl ?_
  refine f_aload_n dX11_fill_0 rfl rfl ?_
  refine s_getr hG fl_X11_10 dX11_fill_1 rfl rfl ?_
  refine f_iload_n dX11_fill_4 rfl rfl ?_
  refine f_iload_n dX11_fill_5 rfl rfl ?_
  refine f_iload_n dX11_fill_6 rfl rfl ?_
  refine f_iload dX11_fill_7 rfl ?_
  refine f_cV hG (As := [_, _, _, _]) dX11_fill_9 rfl k_X8_fillRefusal rfl rfl ml_X11_191 im_X8_fillRefusal se_X8_fillRefusal rS_1.1 rfl (c_X8_fillRefusal hG (d := 2) (Nat.le_refl _) _ _ _ _ _ _ _ rS_1) (by omega) (Nat.le_of_ble_eq_true rfl) (Nat.zero_le _) (Nat.zero_le _) ?_
  by_cases c_12_0 : (r_X8_fillRefusal M 1 a b c e) = (1 : Int32)
  · refine f_tS hG (As := [_]) dX11_fill_12 rfl k_X11_demandAllowed rfl rfl ml_X11_80 sm_X11_demandAllowed (E := "java/lang/IndexOutOfBoundsException") (M2 := M) (fO_cg (c_X11_demandAllowed hG (d := 0) (Nat.le_refl _) _ _ _) (by rw [o_X11_demandAllowed, if_pos c_12_0])) (by omega) (Nat.le_of_ble_eq_true rfl) (by omega) (by omega) (f_out rfl (by decide +kernel) ?_)
    rw [o_X11_fill, if_pos c_12_0]
    exact ⟨rfl, rfl⟩
  · by_cases c_12_1 : (r_X8_fillRefusal M 1 a b c e) = (2 : Int32)
    · refine f_tS hG (As := [_]) dX11_fill_12 rfl k_X11_demandAllowed rfl rfl ml_X11_80 sm_X11_demandAllowed (E := "java/lang/IllegalArgumentException") (M2 := M) (fO_cg (c_X11_demandAllowed hG (d := 0) (Nat.le_refl _) _ _ _) (by rw [o_X11_demandAllowed, if_neg c_12_0, if_pos c_12_1])) (by omega) (Nat.le_of_ble_eq_true rfl) (by omega) (by omega) (f_out rfl (by decide +kernel) ?_)
      rw [o_X11_fill, if_neg c_12_0, if_pos c_12_1]
      exact ⟨rfl, rfl⟩
    · by_cases c_12_2 : (r_X8_fillRefusal M 1 a b c e) = (3 : Int32)
      · refine f_tS hG (As := [_]) dX11_fill_12 rfl k_X11_demandAllowed rfl rfl ml_X11_80 sm_X11_demandAllowed (E := "java/lang/IllegalStateException") (M2 := M) (fO_cg (c_X11_demandAllowed hG (d := 0) (Nat.le_refl _) _ _ _) (by rw [o_X11_demandAllowed, if_neg c_12_0, if_neg c_12_1, if_pos c_12_2])) (by omega) (Nat.le_of_ble_eq_true rfl) (by omega) (by omega) (f_out rfl (by decide +kernel) ?_)
        rw [o_X11_fill, if_neg c_12_0, if_neg c_12_1, if_pos c_12_2]
        exact ⟨rfl, rfl⟩
      · by_cases c_12_3 : (r_X8_fillRefusal M 1 a b c e) = (4 : Int32)
        · refine f_tS hG (As := [_]) dX11_fill_12 rfl k_X11_demandAllowed rfl rfl ml_X11_80 sm_X11_demandAllowed (E := "java/lang/UnsupportedOperationException") (M2 := M) (fO_cg (c_X11_demandAllowed hG (d := 0) (Nat.le_refl _) _ _ _) (by rw [o_X11_demandAllowed, if_neg c_12_0, if_neg c_12_1, if_neg c_12_2, if_pos c_12_3])) (by omega) (Nat.le_of_ble_eq_true rfl) (by omega) (by omega) (f_out rfl (by decide +kernel) ?_)
          rw [o_X11_fill, if_neg c_12_0, if_neg c_12_1, if_neg c_12_2, if_pos c_12_3]
          exact ⟨rfl, rfl⟩
        · by_cases c_12_4 : (r_X8_fillRefusal M 1 a b c e) = (5 : Int32)
          · refine f_tS hG (As := [_]) dX11_fill_12 rfl k_X11_demandAllowed rfl rfl ml_X11_80 sm_X11_demandAllowed (E := "java/util/NoSuchElementException") (M2 := M) (fO_cg (c_X11_demandAllowed hG (d := 0) (Nat.le_refl _) _ _ _) (by rw [o_X11_demandAllowed, if_neg c_12_0, if_neg c_12_1, if_neg c_12_2, if_neg c_12_3, if_pos c_12_4])) (by omega) (Nat.le_of_ble_eq_true rfl) (by omega) (by omega) (f_out rfl (by decide +kernel) ?_)
            rw [o_X11_fill, if_neg c_12_0, if_neg c_12_1, if_neg c_12_2, if_neg c_12_3, if_pos c_12_4]
            exact ⟨rfl, rfl⟩
          · refine f_rS hG (As := [_]) dX11_fill_12 rfl k_X11_demandAllowed rfl rfl ml_X11_80 sm_X11_demandAllowed (v := none) (M2 := M) (fO_cg (c_X11_demandAllowed hG (d := 0) (Nat.le_refl _) _ _ _) (by rw [o_X11_demandAllowed, if_neg c_12_0, if_neg c_12_1, if_neg c_12_2, if_neg c_12_3, if_neg c_12_4])) (by omega) (Nat.le_of_ble_eq_true rfl) (by omega) (by omega) ?_
            refine f_aload_n dX11_fill_15 rfl rfl ?_
            refine s_getr hG fl_X11_25 dX11_fill_16 rfl rfl ?_
            refine f_aload_n dX11_fill_19 rfl rfl ?_
            refine s_getr hG fl_X11_10 dX11_fill_20 rfl rfl ?_
            refine f_cV hG (As := [_]) dX11_fill_23 rfl k_X4_keep rfl rfl ml_X11_83 im_X4_keep se_X4_keep rfl rfl (c_X4_keep hG (d := 3) (Nat.le_refl _) _ _ _ rS_1 (q0 c_12_0 c_12_1 c_12_2 c_12_3 c_12_4).1 (q0 c_12_0 c_12_1 c_12_2 c_12_3 c_12_4).2) (by omega) (Nat.le_of_ble_eq_true rfl) (Nat.zero_le _) (Nat.zero_le _) ?_
            refine f_aload_n dX11_fill_26 rfl rfl ?_
            refine s_getr hG fl_X11_10 dX11_fill_27 rfl rfl ?_
            refine f_iload_n dX11_fill_30 rfl rfl ?_
            refine f_iload_n dX11_fill_31 rfl rfl ?_
            refine f_iload_n dX11_fill_32 rfl rfl ?_
            refine f_iload dX11_fill_33 rfl ?_
            refine f_cV hG (As := [_, _, _, _]) dX11_fill_35 rfl k_X8_fillLot rfl rfl ml_X11_195 im_X8_fillLot se_X8_fillLot rS_1.1 rfl (c_X8_fillLot hG (d := 2) (Nat.le_refl _) _ _ _ _ _ _ _ rS_1) (by omega) (Nat.le_of_ble_eq_true rfl) (Nat.zero_le _) (Nat.zero_le _) ?_
            refine f_ireturn dX11_fill_38 rfl rfl ?_
            rw [o_X11_fill, if_neg c_12_0, if_neg c_12_1, if_neg c_12_2, if_neg c_12_3, if_neg c_12_4]
            exact ⟨rfl, rfl⟩

def r_X11_signOfRaw (M : fM) (a : Int32) (b : Int32) : Int32 := (if (r_X0_isRawFaulty M (1 + 1) a) = 0 then (if (r_X11_setHas M b a) = 0 then (46 : Int32) else (42 : Int32)) else (120 : Int32))
theorem n_X11_signOfRaw (M : fM) (a : Int32) (b : Int32) : narrow .char (.int (r_X11_signOfRaw M a b)) = .int (r_X11_signOfRaw M a b) := by
  unfold r_X11_signOfRaw
  repeat' with_reducible apply n_ite
  all_goals first | rfl | exact pk_nc _
set_option maxRecDepth 100000 in
set_option maxHeartbeats 4000000 in
theorem c_X11_signOfRaw {G : fG} (hG : fOK G) {d : Nat} (hd : 2 ≤ d) (M : fM) (dv : UInt64) (a : Int32) (b : Int32) : fCt G z_X11_signOfRaw d [.ref 0, .int a, .int b] (sS M dv) 0 0 (fD (some (.int (r_X11_signOfRaw M a b))) (sS M dv)) := by
  refine fCt_to [some (.ref 0), some (.int a), some (.int b)] k_X11_signOfRaw rfl (Nat.le_of_ble_eq_true rfl) rfl ?_
  refine f_aload_n dX11_signOfRaw_0 rfl rfl ?_
  refine s_getr hG fl_X11_10 dX11_signOfRaw_1 rfl rfl ?_
  refine s_getr hG fl_X11_87 dX11_signOfRaw_4 rS_1.1 rfl ?_
  refine f_iload_n dX11_signOfRaw_7 rfl rfl ?_
  refine f_cV hG (As := [_]) dX11_signOfRaw_8 rfl k_X0_isRawFaulty rfl rfl ml_X11_112 im_X0_isRawFaulty se_X0_isRawFaulty rS_1.2.1.1 rfl (c_X0_isRawFaulty hG (d := 1) (Nat.le_refl _) _ _ _ _ rS_1.2.1) (by omega) (Nat.le_of_ble_eq_true rfl) (Nat.zero_le _) (Nat.zero_le _) ?_
  refine f_if_eq (tgt := 17) dX11_signOfRaw_11 (by decide) (fun c_11 => ?_) (fun c_11 => ?_)
  · refine f_iload_n dX11_signOfRaw_17 rfl rfl ?_
    refine f_iload_n dX11_signOfRaw_18 rfl rfl ?_
    refine f_cS hG (As := [_, _]) dX11_signOfRaw_19 rfl k_X11_setHas rfl rfl ml_X11_132 sm_X11_setHas (c_X11_setHas hG (d := 0) (Nat.le_refl _) _ _ _ _) (by omega) (Nat.le_of_ble_eq_true rfl) (Nat.zero_le _) (Nat.zero_le _) ?_
    refine f_if_eq (tgt := 30) dX11_signOfRaw_22 (by decide) (fun c_22 => ?_) (fun c_22 => ?_)
    · refine f_bipush (v := 46) dX11_signOfRaw_30 (by decide) ?_
      refine f_ireturn dX11_signOfRaw_32 rfl rfl ?_
      exact ⟨by rw [r_X11_signOfRaw, if_pos c_11, if_pos c_22], rfl⟩
    · refine f_bipush (v := 42) dX11_signOfRaw_25 (by decide) ?_
      refine f_goto (tgt := 32) dX11_signOfRaw_27 (by decide) ?_
      refine f_ireturn dX11_signOfRaw_32 rfl rfl ?_
      exact ⟨by rw [r_X11_signOfRaw, if_pos c_11, if_neg c_22], rfl⟩
  · refine f_bipush (v := 120) dX11_signOfRaw_14 (by decide) ?_
    refine f_ireturn dX11_signOfRaw_16 rfl rfl ?_
    exact ⟨by rw [r_X11_signOfRaw, if_neg c_11], rfl⟩

def r_X11_cratesAgree (M : fM) (a : Int32) : Int32 := (if (r_X2_leastBySets M (1 + 11) a) = (r_X2_leastByTrial (m_X2_leastBySets M (1 + 11) a) (1 + 11) a) then (1 : Int32) else (0 : Int32))
def m_X11_cratesAgree (M : fM) (a : Int32) : fM := (if (r_X2_leastBySets M (1 + 11) a) = (r_X2_leastByTrial (m_X2_leastBySets M (1 + 11) a) (1 + 11) a) then (m_X2_leastByTrial (m_X2_leastBySets M (1 + 11) a) (1 + 11) a) else (m_X2_leastByTrial (m_X2_leastBySets M (1 + 11) a) (1 + 11) a))
theorem n_X11_cratesAgree (M : fM) (a : Int32) : narrow .boolean (.int (r_X11_cratesAgree M a)) = .int (r_X11_cratesAgree M a) := by
  unfold r_X11_cratesAgree
  repeat' with_reducible apply n_ite
  all_goals first | rfl | exact pk_nc _
set_option maxRecDepth 100000 in
set_option maxHeartbeats 4000000 in
theorem c_X11_cratesAgree {G : fG} (hG : fOK G) {d : Nat} (hd : 12 ≤ d) (M : fM) (dv : UInt64) (a : Int32) (q0 : sm (M (1 + 11) 6) 300) (q1 : sm (((1 : Int32) <<< ((M (1 + 11) 6) &&& 31)) - (1 : Int32)) 300) : fCt G z_X11_cratesAgree d [.ref 0, .int a] (sS M dv) 0 0 (fD (some (.int (r_X11_cratesAgree M a))) (sS (m_X11_cratesAgree M a) dv)) := by
  refine fCt_to [some (.ref 0), some (.int a)] k_X11_cratesAgree rfl (Nat.le_of_ble_eq_true rfl) rfl ?_
  refine f_aload_n dX11_cratesAgree_0 rfl rfl ?_
  refine s_getr hG fl_X11_61 dX11_cratesAgree_1 rfl rfl ?_
  refine f_aload_n dX11_cratesAgree_4 rfl rfl ?_
  refine s_getr hG fl_X11_10 dX11_cratesAgree_5 rfl rfl ?_
  refine s_getr hG fl_X11_216 dX11_cratesAgree_8 rS_1.1 rfl ?_
  refine f_iload_n dX11_cratesAgree_11 rfl rfl ?_
  refine f_cV hG (As := [_, _]) dX11_cratesAgree_12 rfl k_X2_leastBySets rfl rfl ml_X11_265 im_X2_leastBySets se_X2_leastBySets rfl rfl (c_X2_leastBySets hG (d := 2) (Nat.le_refl _) _ _ _ _ rS_1.2.2.2 _ q0.1 q0.2 _ q1.1 q1.2 (by omega) (by omega)) (by omega) (Nat.le_of_ble_eq_true rfl) (Nat.zero_le _) (Nat.zero_le _) ?_
  refine f_aload_n dX11_cratesAgree_15 rfl rfl ?_
  refine s_getr hG fl_X11_61 dX11_cratesAgree_16 rfl rfl ?_
  refine f_aload_n dX11_cratesAgree_19 rfl rfl ?_
  refine s_getr hG fl_X11_10 dX11_cratesAgree_20 rfl rfl ?_
  refine s_getr hG fl_X11_216 dX11_cratesAgree_23 rS_1.1 rfl ?_
  refine f_iload_n dX11_cratesAgree_26 rfl rfl ?_
  refine f_cV hG (As := [_, _]) dX11_cratesAgree_27 rfl k_X2_leastByTrial rfl rfl ml_X11_269 im_X2_leastByTrial se_X2_leastByTrial rfl rfl (c_X2_leastByTrial hG (d := 11) (Nat.le_refl _) _ _ _ _ rS_1.2.2.2) (by omega) (Nat.le_of_ble_eq_true rfl) (Nat.zero_le _) (Nat.zero_le _) ?_
  refine f_icmp_ne (tgt := 37) dX11_cratesAgree_30 (by decide) (fun c_30 => ?_) (fun c_30 => ?_)
  · refine f_iconst (v := 0) dX11_cratesAgree_37 rfl ?_
    refine f_ireturn dX11_cratesAgree_38 rfl rfl ?_
    exact ⟨by rw [r_X11_cratesAgree, if_neg c_30], by rw [m_X11_cratesAgree, if_neg c_30]⟩
  · refine f_iconst (v := 1) dX11_cratesAgree_33 rfl ?_
    refine f_goto (tgt := 38) dX11_cratesAgree_34 (by decide) ?_
    refine f_ireturn dX11_cratesAgree_38 rfl rfl ?_
    exact ⟨by rw [r_X11_cratesAgree, if_pos c_30], by rw [m_X11_cratesAgree, if_pos c_30]⟩

def r_X11_accountsAgree (M : fM) : Int32 := (if (M 1 4) = ((r_X5_sumOf M (1 + 11) (1 + 11 + 9)) + (((M 1 5) + (M 1 6)) + (M 1 7))) then (1 : Int32) else (0 : Int32))
theorem n_X11_accountsAgree (M : fM) : narrow .boolean (.int (r_X11_accountsAgree M)) = .int (r_X11_accountsAgree M) := by
  unfold r_X11_accountsAgree
  repeat' with_reducible apply n_ite
  all_goals first | rfl | exact pk_nc _
set_option maxRecDepth 100000 in
set_option maxHeartbeats 4000000 in
theorem c_X11_accountsAgree {G : fG} (hG : fOK G) {d : Nat} (hd : 2 ≤ d) (M : fM) (dv : UInt64) (q0 : sm (M (1 + 11) 6) 300) : fCt G z_X11_accountsAgree d [.ref 0] (sS M dv) 0 0 (fD (some (.int (r_X11_accountsAgree M))) (sS M dv)) := by
  refine fCt_to [some (.ref 0), none] k_X11_accountsAgree rfl (Nat.le_of_ble_eq_true rfl) rfl ?_
  refine f_aload_n dX11_accountsAgree_0 rfl rfl ?_
  refine s_getr hG fl_X11_10 dX11_accountsAgree_1 rfl rfl ?_
  refine s_geti hG fl_X11_296 dX11_accountsAgree_4 rS_1.1 rfl ?_
  refine f_aload_n dX11_accountsAgree_7 rfl rfl ?_
  refine s_getr hG fl_X11_10 dX11_accountsAgree_8 rfl rfl ?_
  refine s_geti hG fl_X11_299 dX11_accountsAgree_11 rS_1.1 rfl ?_
  refine f_iadd dX11_accountsAgree_14 ?_
  refine f_aload_n dX11_accountsAgree_15 rfl rfl ?_
  refine s_getr hG fl_X11_10 dX11_accountsAgree_16 rfl rfl ?_
  refine s_geti hG fl_X11_302 dX11_accountsAgree_19 rS_1.1 rfl ?_
  refine f_iadd dX11_accountsAgree_22 ?_
  refine f_istore_n (ls' := [_, _]) dX11_accountsAgree_23 rfl (Nat.le_of_ble_eq_true rfl) rfl rfl ?_
  refine f_aload_n dX11_accountsAgree_24 rfl rfl ?_
  refine s_getr hG fl_X11_10 dX11_accountsAgree_25 rfl rfl ?_
  refine s_geti hG fl_X11_289 dX11_accountsAgree_28 rS_1.1 rfl ?_
  refine f_aload_n dX11_accountsAgree_31 rfl rfl ?_
  refine s_getr hG fl_X11_10 dX11_accountsAgree_32 rfl rfl ?_
  refine s_getr hG fl_X11_216 dX11_accountsAgree_35 rS_1.1 rfl ?_
  refine f_aload_n dX11_accountsAgree_38 rfl rfl ?_
  refine s_getr hG fl_X11_10 dX11_accountsAgree_39 rfl rfl ?_
  refine s_getr hG fl_X11_216 dX11_accountsAgree_42 rS_1.1 rfl ?_
  refine s_getr hG fl_X11_228 dX11_accountsAgree_45 rS_1.2.2.2.1 rfl ?_
  refine f_cV hG (As := [_]) dX11_accountsAgree_48 rfl k_X5_sumOf rfl rfl ml_X11_292 im_X5_sumOf se_X5_sumOf rS_1.2.2.2.1 rfl (c_X5_sumOf hG (d := 1) (Nat.le_refl _) _ _ _ _ rS_1.2.2.2 rS_1.2.2.2.2.2.2.2.2.1 _ q0.1 q0.2) (by omega) (Nat.le_of_ble_eq_true rfl) (Nat.zero_le _) (Nat.zero_le _) ?_
  refine f_iload_n dX11_accountsAgree_51 rfl rfl ?_
  refine f_iadd dX11_accountsAgree_52 ?_
  refine f_icmp_ne (tgt := 60) dX11_accountsAgree_53 (by decide) (fun c_53 => ?_) (fun c_53 => ?_)
  · refine f_iconst (v := 0) dX11_accountsAgree_60 rfl ?_
    refine f_ireturn dX11_accountsAgree_61 rfl rfl ?_
    exact ⟨by rw [r_X11_accountsAgree, if_neg c_53], rfl⟩
  · refine f_iconst (v := 1) dX11_accountsAgree_56 rfl ?_
    refine f_goto (tgt := 61) dX11_accountsAgree_57 (by decide) ?_
    refine f_ireturn dX11_accountsAgree_61 rfl rfl ?_
    exact ⟨by rw [r_X11_accountsAgree, if_pos c_53], rfl⟩

def r_X11_refusalOf (M : fM) (a : Int32) : Int32 := (if (rget M 280 20 a) = (0 : Int32) then (r_X8_rawRefusal M 1) else (if (rget M 280 20 a) = (1 : Int32) then (r_X8_mixRefusal M 1 (r_X1_argument M a (0 : Int32)) (r_X1_argument M a (1 : Int32))) else (if (rget M 280 20 a) = (2 : Int32) then (r_X8_fillRefusal M 1 (r_X1_argument M a (0 : Int32)) (r_X1_argument M a (1 : Int32)) (r_X1_argument M a (2 : Int32)) (r_X1_argument M a (3 : Int32))) else (if (rget M 280 20 a) = (3 : Int32) then (r_X8_shipRefusal M 1 (r_X1_argument M a (0 : Int32))) else (if (rget M 280 20 a) = (4 : Int32) then (r_X8_passRefusal M 1 (r_X1_argument M a (0 : Int32))) else (r_X8_recallRefusal M 1 (r_X1_argument M a (0 : Int32))))))))
set_option maxRecDepth 100000 in
set_option maxHeartbeats 4000000 in
theorem c_X11_refusalOf {G : fG} (hG : fOK G) {d : Nat} (hd : 3 ≤ d) (M : fM) (dv : UInt64) (a : Int32) (q0 : ¬ ((rget M 280 20 a) = (0 : Int32)) → ¬ ((rget M 280 20 a) = (1 : Int32)) → ¬ ((rget M 280 20 a) = (2 : Int32)) → ((rget M 280 20 a) = (3 : Int32)) → sm (M (1 + 11) 6) 300) : fCt G z_X11_refusalOf d [.ref 0, .int a] (sS M dv) 0 0 (fD (some (.int (r_X11_refusalOf M a))) (sS M dv)) := by
  refine fCt_to [some (.ref 0), some (.int a), none, none] k_X11_refusalOf rfl (Nat.le_of_ble_eq_true rfl) rfl ?_
  refine f_aload_n dX11_refusalOf_0 rfl rfl ?_
  refine s_getr hG fl_X11_47 dX11_refusalOf_1 rfl rfl ?_
  refine f_iload_n dX11_refusalOf_4 rfl rfl ?_
  refine f_iconst (v := 0) dX11_refusalOf_5 rfl ?_
  refine f_cV hG (As := [_, _]) dX11_refusalOf_6 rfl k_X1_argument rfl rfl ml_X11_438 im_X1_argument se_X1_argument rfl rfl (c_X1_argument hG (d := 1) (Nat.le_refl _) _ _ _ _) (by omega) (Nat.le_of_ble_eq_true rfl) (Nat.zero_le _) (Nat.zero_le _) ?_
  refine f_istore_n (ls' := [_, _, _, _]) dX11_refusalOf_9 rfl (Nat.le_of_ble_eq_true rfl) rfl rfl ?_
  refine f_aload_n dX11_refusalOf_10 rfl rfl ?_
  refine s_getr hG fl_X11_47 dX11_refusalOf_11 rfl rfl ?_
  refine f_iload_n dX11_refusalOf_14 rfl rfl ?_
  refine f_iconst (v := 1) dX11_refusalOf_15 rfl ?_
  refine f_cV hG (As := [_, _]) dX11_refusalOf_16 rfl k_X1_argument rfl rfl ml_X11_438 im_X1_argument se_X1_argument rfl rfl (c_X1_argument hG (d := 1) (Nat.le_refl _) _ _ _ _) (by omega) (Nat.le_of_ble_eq_true rfl) (Nat.zero_le _) (Nat.zero_le _) ?_
  refine f_istore_n (ls' := [_, _, _, _]) dX11_refusalOf_19 rfl (Nat.le_of_ble_eq_true rfl) rfl rfl ?_
  refine f_aload_n dX11_refusalOf_20 rfl rfl ?_
  refine s_getr hG fl_X11_47 dX11_refusalOf_21 rfl rfl ?_
  refine s_getr hG fl_X11_441 dX11_refusalOf_24 rfl rfl ?_
  refine f_iload_n dX11_refusalOf_27 rfl rfl ?_
  refine f_cV hG (As := [_]) dX11_refusalOf_28 rfl k_X7_get rfl rfl ml_X11_123 im_X7_get se_X7_get rR_280.1 rfl (c_X7_get hG (Nat.le_refl _) _ _ _ _ rR_280 (by decide) _) (by omega) (Nat.le_of_ble_eq_true rfl) (Nat.zero_le _) (Nat.zero_le _) ?_
  by_cases c_31_0 : (rget M 280 20 a) = (0 : Int32)
  · refine f_tableIn (off := 33) (tgt := 64) dX11_refusalOf_31 (by rw [c_31_0]; decide) (by rw [c_31_0]; decide) (by rw [c_31_0]; rfl) (by decide) ?_
    refine f_aload_n dX11_refusalOf_64 rfl rfl ?_
    refine s_getr hG fl_X11_10 dX11_refusalOf_65 rfl rfl ?_
    refine f_cV hG (As := []) dX11_refusalOf_68 rfl k_X8_rawRefusal rfl rfl ml_X11_76 im_X8_rawRefusal se_X8_rawRefusal rS_1.1 rfl (c_X8_rawRefusal hG (d := 0) (Nat.le_refl _) _ _ _ rS_1) (by omega) (Nat.le_of_ble_eq_true rfl) (Nat.zero_le _) (Nat.zero_le _) ?_
    refine f_ireturn dX11_refusalOf_71 rfl rfl ?_
    exact ⟨by rw [r_X11_refusalOf, if_pos c_31_0], rfl⟩
  · by_cases c_31_1 : (rget M 280 20 a) = (1 : Int32)
    · refine f_tableIn (off := 41) (tgt := 72) dX11_refusalOf_31 (by rw [c_31_1]; decide) (by rw [c_31_1]; decide) (by rw [c_31_1]; rfl) (by decide) ?_
      refine f_aload_n dX11_refusalOf_72 rfl rfl ?_
      refine s_getr hG fl_X11_10 dX11_refusalOf_73 rfl rfl ?_
      refine f_iload_n dX11_refusalOf_76 rfl rfl ?_
      refine f_iload_n dX11_refusalOf_77 rfl rfl ?_
      refine f_cV hG (As := [_, _]) dX11_refusalOf_78 rfl k_X8_mixRefusal rfl rfl ml_X11_96 im_X8_mixRefusal se_X8_mixRefusal rS_1.1 rfl (c_X8_mixRefusal hG (d := 1) (Nat.le_refl _) _ _ _ _ _ rS_1) (by omega) (Nat.le_of_ble_eq_true rfl) (Nat.zero_le _) (Nat.zero_le _) ?_
      refine f_ireturn dX11_refusalOf_81 rfl rfl ?_
      exact ⟨by rw [r_X11_refusalOf, if_neg c_31_0, if_pos c_31_1], rfl⟩
    · by_cases c_31_2 : (rget M 280 20 a) = (2 : Int32)
      · refine f_tableIn (off := 51) (tgt := 82) dX11_refusalOf_31 (by rw [c_31_2]; decide) (by rw [c_31_2]; decide) (by rw [c_31_2]; rfl) (by decide) ?_
        refine f_aload_n dX11_refusalOf_82 rfl rfl ?_
        refine s_getr hG fl_X11_10 dX11_refusalOf_83 rfl rfl ?_
        refine f_iload_n dX11_refusalOf_86 rfl rfl ?_
        refine f_iload_n dX11_refusalOf_87 rfl rfl ?_
        refine f_aload_n dX11_refusalOf_88 rfl rfl ?_
        refine s_getr hG fl_X11_47 dX11_refusalOf_89 rfl rfl ?_
        refine f_iload_n dX11_refusalOf_92 rfl rfl ?_
        refine f_iconst (v := 2) dX11_refusalOf_93 rfl ?_
        refine f_cV hG (As := [_, _]) dX11_refusalOf_94 rfl k_X1_argument rfl rfl ml_X11_438 im_X1_argument se_X1_argument rfl rfl (c_X1_argument hG (d := 1) (Nat.le_refl _) _ _ _ _) (by omega) (Nat.le_of_ble_eq_true rfl) (Nat.zero_le _) (Nat.zero_le _) ?_
        refine f_aload_n dX11_refusalOf_97 rfl rfl ?_
        refine s_getr hG fl_X11_47 dX11_refusalOf_98 rfl rfl ?_
        refine f_iload_n dX11_refusalOf_101 rfl rfl ?_
        refine f_iconst (v := 3) dX11_refusalOf_102 rfl ?_
        refine f_cV hG (As := [_, _]) dX11_refusalOf_103 rfl k_X1_argument rfl rfl ml_X11_438 im_X1_argument se_X1_argument rfl rfl (c_X1_argument hG (d := 1) (Nat.le_refl _) _ _ _ _) (by omega) (Nat.le_of_ble_eq_true rfl) (Nat.zero_le _) (Nat.zero_le _) ?_
        refine f_cV hG (As := [_, _, _, _]) dX11_refusalOf_106 rfl k_X8_fillRefusal rfl rfl ml_X11_191 im_X8_fillRefusal se_X8_fillRefusal rS_1.1 rfl (c_X8_fillRefusal hG (d := 2) (Nat.le_refl _) _ _ _ _ _ _ _ rS_1) (by omega) (Nat.le_of_ble_eq_true rfl) (Nat.zero_le _) (Nat.zero_le _) ?_
        refine f_ireturn dX11_refusalOf_109 rfl rfl ?_
        exact ⟨by rw [r_X11_refusalOf, if_neg c_31_0, if_neg c_31_1, if_pos c_31_2], rfl⟩
      · by_cases c_31_3 : (rget M 280 20 a) = (3 : Int32)
        · refine f_tableIn (off := 79) (tgt := 110) dX11_refusalOf_31 (by rw [c_31_3]; decide) (by rw [c_31_3]; decide) (by rw [c_31_3]; rfl) (by decide) ?_
          refine f_aload_n dX11_refusalOf_110 rfl rfl ?_
          refine s_getr hG fl_X11_10 dX11_refusalOf_111 rfl rfl ?_
          refine f_iload_n dX11_refusalOf_114 rfl rfl ?_
          refine f_cV hG (As := [_]) dX11_refusalOf_115 rfl k_X8_shipRefusal rfl rfl ml_X11_198 im_X8_shipRefusal se_X8_shipRefusal rS_1.1 rfl (c_X8_shipRefusal hG (d := 2) (Nat.le_refl _) _ _ _ _ rS_1 _ (q0 c_31_0 c_31_1 c_31_2 c_31_3).1 (q0 c_31_0 c_31_1 c_31_2 c_31_3).2) (by omega) (Nat.le_of_ble_eq_true rfl) (Nat.zero_le _) (Nat.zero_le _) ?_
          refine f_ireturn dX11_refusalOf_118 rfl rfl ?_
          exact ⟨by rw [r_X11_refusalOf, if_neg c_31_0, if_neg c_31_1, if_neg c_31_2, if_pos c_31_3], rfl⟩
        · by_cases c_31_4 : (rget M 280 20 a) = (4 : Int32)
          · refine f_tableIn (off := 88) (tgt := 119) dX11_refusalOf_31 (by rw [c_31_4]; decide) (by rw [c_31_4]; decide) (by rw [c_31_4]; rfl) (by decide) ?_
            refine f_aload_n dX11_refusalOf_119 rfl rfl ?_
            refine s_getr hG fl_X11_10 dX11_refusalOf_120 rfl rfl ?_
            refine f_iload_n dX11_refusalOf_123 rfl rfl ?_
            refine f_cV hG (As := [_]) dX11_refusalOf_124 rfl k_X8_passRefusal rfl rfl ml_X11_204 im_X8_passRefusal se_X8_passRefusal rS_1.1 rfl (c_X8_passRefusal hG (d := 0) (Nat.le_refl _) _ _ _ _ rS_1) (by omega) (Nat.le_of_ble_eq_true rfl) (Nat.zero_le _) (Nat.zero_le _) ?_
            refine f_ireturn dX11_refusalOf_127 rfl rfl ?_
            exact ⟨by rw [r_X11_refusalOf, if_neg c_31_0, if_neg c_31_1, if_neg c_31_2, if_neg c_31_3, if_pos c_31_4], rfl⟩
          · refine f_tableOut (tgt := 128) dX11_refusalOf_31 (ts_0_4 c_31_0 c_31_1 c_31_2 c_31_3 c_31_4) (by decide) ?_
            refine f_aload_n dX11_refusalOf_128 rfl rfl ?_
            refine s_getr hG fl_X11_10 dX11_refusalOf_129 rfl rfl ?_
            refine f_iload_n dX11_refusalOf_132 rfl rfl ?_
            refine f_cV hG (As := [_]) dX11_refusalOf_133 rfl k_X8_recallRefusal rfl rfl ml_X11_210 im_X8_recallRefusal se_X8_recallRefusal rS_1.1 rfl (c_X8_recallRefusal hG (d := 2) (Nat.le_refl _) _ _ _ _ rS_1) (by omega) (Nat.le_of_ble_eq_true rfl) (Nat.zero_le _) (Nat.zero_le _) ?_
            refine f_ireturn dX11_refusalOf_136 rfl rfl ?_
            exact ⟨by rw [r_X11_refusalOf, if_neg c_31_0, if_neg c_31_1, if_neg c_31_2, if_neg c_31_3, if_neg c_31_4], rfl⟩

def m_X11_perform (M : fM) (a : Int32) : fM := (if (rget M 280 20 a) = (0 : Int32) then (m_X0_addOneRaw M (1 + 1)) else (if (rget M 280 20 a) = (1 : Int32) then (m_X0_addBatch M (1 + 1) (r_X1_argument M a (0 : Int32)) (r_X1_argument M a (1 : Int32))) else (if (rget M 280 20 a) = (2 : Int32) then (m_X8_fillLot M 1 (r_X1_argument M a (0 : Int32)) (r_X1_argument M a (1 : Int32)) (r_X1_argument M a (2 : Int32)) (r_X1_argument M a (3 : Int32))) else (if (rget M 280 20 a) = (3 : Int32) then (m_X8_shipLot M 1 (r_X1_argument M a (0 : Int32))) else (if (rget M 280 20 a) = (4 : Int32) then (m_X8_passDays M 1 (r_X1_argument M a (0 : Int32))) else (m_X8_recallRaw M 1 (r_X1_argument M a (0 : Int32)) (M (1 + 11) 6).toNatClampNeg))))))
set_option maxRecDepth 100000 in
set_option maxHeartbeats 4000000 in
theorem c_X11_perform {G : fG} (hG : fOK G) {d : Nat} (hd : 5 ≤ d) (M : fM) (dv : UInt64) (a : Int32) (q0 : ¬ ((rget M 280 20 a) = (0 : Int32)) → ¬ ((rget M 280 20 a) = (1 : Int32)) → ¬ ((rget M 280 20 a) = (2 : Int32)) → ((rget M 280 20 a) = (3 : Int32)) → sm (M (1 + 11) 6) 300) (q1 : ¬ ((rget M 280 20 a) = (0 : Int32)) → ¬ ((rget M 280 20 a) = (1 : Int32)) → ¬ ((rget M 280 20 a) = (2 : Int32)) → ((rget M 280 20 a) = (3 : Int32)) → sm (r_X5_positionOf M (1 + 11) (r_X1_argument M a (0 : Int32))) 8) (q2 : ¬ ((rget M 280 20 a) = (0 : Int32)) → ¬ ((rget M 280 20 a) = (1 : Int32)) → ¬ ((rget M 280 20 a) = (2 : Int32)) → ¬ ((rget M 280 20 a) = (3 : Int32)) → ((rget M 280 20 a) = (4 : Int32)) → sm (r_X1_argument M a (0 : Int32)) 300) (q3 : ¬ ((rget M 280 20 a) = (0 : Int32)) → ¬ ((rget M 280 20 a) = (1 : Int32)) → ¬ ((rget M 280 20 a) = (2 : Int32)) → ¬ ((rget M 280 20 a) = (3 : Int32)) → ((rget M 280 20 a) = (4 : Int32)) → cOK M 1) (q4 : ¬ ((rget M 280 20 a) = (0 : Int32)) → ¬ ((rget M 280 20 a) = (1 : Int32)) → ¬ ((rget M 280 20 a) = (2 : Int32)) → ¬ ((rget M 280 20 a) = (3 : Int32)) → ¬ ((rget M 280 20 a) = (4 : Int32)) → sm (M (1 + 11) 6) 9) : fCt G z_X11_perform d [.ref 0, .int a] (sS M dv) 0 0 (fD none (sS (m_X11_perform M a) dv)) := by
  refine fCt_to [some (.ref 0), some (.int a), none, none] k_X11_perform rfl (Nat.le_of_ble_eq_true rfl) rfl ?_
  refine f_aload_n dX11_perform_0 rfl rfl ?_
  refine s_getr hG fl_X11_47 dX11_perform_1 rfl rfl ?_
  refine f_iload_n dX11_perform_4 rfl rfl ?_
  refine f_iconst (v := 0) dX11_perform_5 rfl ?_
  refine f_cV hG (As := [_, _]) dX11_perform_6 rfl k_X1_argument rfl rfl ml_X11_438 im_X1_argument se_X1_argument rfl rfl (c_X1_argument hG (d := 1) (Nat.le_refl _) _ _ _ _) (by omega) (Nat.le_of_ble_eq_true rfl) (Nat.zero_le _) (Nat.zero_le _) ?_
  refine f_istore_n (ls' := [_, _, _, _]) dX11_perform_9 rfl (Nat.le_of_ble_eq_true rfl) rfl rfl ?_
  refine f_aload_n dX11_perform_10 rfl rfl ?_
  refine s_getr hG fl_X11_47 dX11_perform_11 rfl rfl ?_
  refine f_iload_n dX11_perform_14 rfl rfl ?_
  refine f_iconst (v := 1) dX11_perform_15 rfl ?_
  refine f_cV hG (As := [_, _]) dX11_perform_16 rfl k_X1_argument rfl rfl ml_X11_438 im_X1_argument se_X1_argument rfl rfl (c_X1_argument hG (d := 1) (Nat.le_refl _) _ _ _ _) (by omega) (Nat.le_of_ble_eq_true rfl) (Nat.zero_le _) (Nat.zero_le _) ?_
  refine f_istore_n (ls' := [_, _, _, _]) dX11_perform_19 rfl (Nat.le_of_ble_eq_true rfl) rfl rfl ?_
  refine f_aload_n dX11_perform_20 rfl rfl ?_
  refine s_getr hG fl_X11_47 dX11_perform_21 rfl rfl ?_
  refine s_getr hG fl_X11_441 dX11_perform_24 rfl rfl ?_
  refine f_iload_n dX11_perform_27 rfl rfl ?_
  refine f_cV hG (As := [_]) dX11_perform_28 rfl k_X7_get rfl rfl ml_X11_123 im_X7_get se_X7_get rR_280.1 rfl (c_X7_get hG (Nat.le_refl _) _ _ _ _ rR_280 (by decide) _) (by omega) (Nat.le_of_ble_eq_true rfl) (Nat.zero_le _) (Nat.zero_le _) ?_
  by_cases c_31_0 : (rget M 280 20 a) = (0 : Int32)
  · refine f_tableIn (off := 33) (tgt := 64) dX11_perform_31 (by rw [c_31_0]; decide) (by rw [c_31_0]; decide) (by rw [c_31_0]; rfl) (by decide) ?_
    refine f_aload_n dX11_perform_64 rfl rfl ?_
    refine s_getr hG fl_X11_10 dX11_perform_65 rfl rfl ?_
    refine s_getr hG fl_X11_87 dX11_perform_68 rS_1.1 rfl ?_
    refine f_cV hG (As := []) dX11_perform_71 rfl k_X0_addOneRaw rfl rfl ml_X11_91 im_X0_addOneRaw se_X0_addOneRaw rS_1.2.1.1 rfl (c_X0_addOneRaw hG (d := 0) (Nat.le_refl _) _ _ _ rS_1.2.1) (by omega) (Nat.le_of_ble_eq_true rfl) (Nat.zero_le _) (Nat.zero_le _) ?_
    refine f_pop dX11_perform_74 rfl ?_
    refine f_goto (tgt := 158) dX11_perform_75 (by decide) ?_
    refine f_return dX11_perform_158 rfl ?_
    exact ⟨rfl, by rw [m_X11_perform, if_pos c_31_0]⟩
  · by_cases c_31_1 : (rget M 280 20 a) = (1 : Int32)
    · refine f_tableIn (off := 47) (tgt := 78) dX11_perform_31 (by rw [c_31_1]; decide) (by rw [c_31_1]; decide) (by rw [c_31_1]; rfl) (by decide) ?_
      refine f_aload_n dX11_perform_78 rfl rfl ?_
      refine s_getr hG fl_X11_10 dX11_perform_79 rfl rfl ?_
      refine s_getr hG fl_X11_87 dX11_perform_82 rS_1.1 rfl ?_
      refine f_iload_n dX11_perform_85 rfl rfl ?_
      refine f_iload_n dX11_perform_86 rfl rfl ?_
      refine f_cV hG (As := [_, _]) dX11_perform_87 rfl k_X0_addBatch rfl rfl ml_X11_100 im_X0_addBatch se_X0_addBatch rS_1.2.1.1 rfl (c_X0_addBatch hG (d := 1) (Nat.le_refl _) _ _ _ _ _ rS_1.2.1) (by omega) (Nat.le_of_ble_eq_true rfl) (Nat.zero_le _) (Nat.zero_le _) ?_
      refine f_pop dX11_perform_90 rfl ?_
      refine f_goto (tgt := 158) dX11_perform_91 (by decide) ?_
      refine f_return dX11_perform_158 rfl ?_
      exact ⟨rfl, by rw [m_X11_perform, if_neg c_31_0, if_pos c_31_1]⟩
    · by_cases c_31_2 : (rget M 280 20 a) = (2 : Int32)
      · refine f_tableIn (off := 63) (tgt := 94) dX11_perform_31 (by rw [c_31_2]; decide) (by rw [c_31_2]; decide) (by rw [c_31_2]; rfl) (by decide) ?_
        refine f_aload_n dX11_perform_94 rfl rfl ?_
        refine s_getr hG fl_X11_10 dX11_perform_95 rfl rfl ?_
        refine f_iload_n dX11_perform_98 rfl rfl ?_
        refine f_iload_n dX11_perform_99 rfl rfl ?_
        refine f_aload_n dX11_perform_100 rfl rfl ?_
        refine s_getr hG fl_X11_47 dX11_perform_101 rfl rfl ?_
        refine f_iload_n dX11_perform_104 rfl rfl ?_
        refine f_iconst (v := 2) dX11_perform_105 rfl ?_
        refine f_cV hG (As := [_, _]) dX11_perform_106 rfl k_X1_argument rfl rfl ml_X11_438 im_X1_argument se_X1_argument rfl rfl (c_X1_argument hG (d := 1) (Nat.le_refl _) _ _ _ _) (by omega) (Nat.le_of_ble_eq_true rfl) (Nat.zero_le _) (Nat.zero_le _) ?_
        refine f_aload_n dX11_perform_109 rfl rfl ?_
        refine s_getr hG fl_X11_47 dX11_perform_110 rfl rfl ?_
        refine f_iload_n dX11_perform_113 rfl rfl ?_
        refine f_iconst (v := 3) dX11_perform_114 rfl ?_
        refine f_cV hG (As := [_, _]) dX11_perform_115 rfl k_X1_argument rfl rfl ml_X11_438 im_X1_argument se_X1_argument rfl rfl (c_X1_argument hG (d := 1) (Nat.le_refl _) _ _ _ _) (by omega) (Nat.le_of_ble_eq_true rfl) (Nat.zero_le _) (Nat.zero_le _) ?_
        refine f_cV hG (As := [_, _, _, _]) dX11_perform_118 rfl k_X8_fillLot rfl rfl ml_X11_195 im_X8_fillLot se_X8_fillLot rS_1.1 rfl (c_X8_fillLot hG (d := 2) (Nat.le_refl _) _ _ _ _ _ _ _ rS_1) (by omega) (Nat.le_of_ble_eq_true rfl) (Nat.zero_le _) (Nat.zero_le _) ?_
        refine f_pop dX11_perform_121 rfl ?_
        refine f_goto (tgt := 158) dX11_perform_122 (by decide) ?_
        refine f_return dX11_perform_158 rfl ?_
        exact ⟨rfl, by rw [m_X11_perform, if_neg c_31_0, if_neg c_31_1, if_pos c_31_2]⟩
      · by_cases c_31_3 : (rget M 280 20 a) = (3 : Int32)
        · refine f_tableIn (off := 94) (tgt := 125) dX11_perform_31 (by rw [c_31_3]; decide) (by rw [c_31_3]; decide) (by rw [c_31_3]; rfl) (by decide) ?_
          refine f_aload_n dX11_perform_125 rfl rfl ?_
          refine s_getr hG fl_X11_10 dX11_perform_126 rfl rfl ?_
          refine f_iload_n dX11_perform_129 rfl rfl ?_
          refine f_cV hG (As := [_]) dX11_perform_130 rfl k_X8_shipLot rfl rfl ml_X11_201 im_X8_shipLot se_X8_shipLot rS_1.1 rfl (c_X8_shipLot hG (d := 2) (Nat.le_refl _) _ _ _ _ rS_1 _ (q0 c_31_0 c_31_1 c_31_2 c_31_3).1 (q0 c_31_0 c_31_1 c_31_2 c_31_3).2 (q1 c_31_0 c_31_1 c_31_2 c_31_3).1 (q1 c_31_0 c_31_1 c_31_2 c_31_3).2) (by omega) (Nat.le_of_ble_eq_true rfl) (Nat.zero_le _) (Nat.zero_le _) ?_
          refine f_pop dX11_perform_133 rfl ?_
          refine f_goto (tgt := 158) dX11_perform_134 (by decide) ?_
          refine f_return dX11_perform_158 rfl ?_
          exact ⟨rfl, by rw [m_X11_perform, if_neg c_31_0, if_neg c_31_1, if_neg c_31_2, if_pos c_31_3]⟩
        · by_cases c_31_4 : (rget M 280 20 a) = (4 : Int32)
          · refine f_tableIn (off := 106) (tgt := 137) dX11_perform_31 (by rw [c_31_4]; decide) (by rw [c_31_4]; decide) (by rw [c_31_4]; rfl) (by decide) ?_
            refine f_aload_n dX11_perform_137 rfl rfl ?_
            refine s_getr hG fl_X11_10 dX11_perform_138 rfl rfl ?_
            refine f_iload_n dX11_perform_141 rfl rfl ?_
            refine f_cV hG (As := [_]) dX11_perform_142 rfl k_X8_passDays rfl rfl ml_X11_207 im_X8_passDays se_X8_passDays rS_1.1 rfl (c_X8_passDays hG (d := 4) (Nat.le_refl _) _ _ _ _ rS_1 _ (q2 c_31_0 c_31_1 c_31_2 c_31_3 c_31_4).1 (q2 c_31_0 c_31_1 c_31_2 c_31_3 c_31_4).2 (q3 c_31_0 c_31_1 c_31_2 c_31_3 c_31_4)) (by omega) (Nat.le_of_ble_eq_true rfl) (Nat.zero_le _) (Nat.zero_le _) ?_
            refine f_pop dX11_perform_145 rfl ?_
            refine f_goto (tgt := 158) dX11_perform_146 (by decide) ?_
            refine f_return dX11_perform_158 rfl ?_
            exact ⟨rfl, by rw [m_X11_perform, if_neg c_31_0, if_neg c_31_1, if_neg c_31_2, if_neg c_31_3, if_pos c_31_4]⟩
          · refine f_tableOut (tgt := 149) dX11_perform_31 (ts_0_4 c_31_0 c_31_1 c_31_2 c_31_3 c_31_4) (by decide) ?_
            refine f_aload_n dX11_perform_149 rfl rfl ?_
            refine s_getr hG fl_X11_10 dX11_perform_150 rfl rfl ?_
            refine f_iload_n dX11_perform_153 rfl rfl ?_
            refine f_cV hG (As := [_]) dX11_perform_154 rfl k_X8_recallRaw rfl rfl ml_X11_213 im_X8_recallRaw se_X8_recallRaw rS_1.1 rfl (c_X8_recallRaw hG (d := 2) (Nat.le_refl _) _ _ _ _ rS_1 _ (q4 c_31_0 c_31_1 c_31_2 c_31_3 c_31_4).1 (Nat.le_of_lt_succ (q4 c_31_0 c_31_1 c_31_2 c_31_3 c_31_4).2)) (by omega) (Nat.le_of_ble_eq_true rfl) (Nat.zero_le _) (Nat.zero_le _) ?_
            refine f_pop dX11_perform_157 rfl ?_
            refine f_return dX11_perform_158 rfl ?_
            exact ⟨rfl, by rw [m_X11_perform, if_neg c_31_0, if_neg c_31_1, if_neg c_31_2, if_neg c_31_3, if_neg c_31_4]⟩
