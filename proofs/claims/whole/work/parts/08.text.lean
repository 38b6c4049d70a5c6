/-! ===== setHas, Text, Brine ===== -/
def r_X11_setHas (M : fM) (s : Int32) (i : Int32) : Int32 := (if ((s >>> (i &&& 31)) &&& (1 : Int32)) = (1 : Int32) then (1 : Int32) else (0 : Int32))
theorem n_X11_setHas (M : fM) (s : Int32) (i : Int32) : narrow .boolean (.int (r_X11_setHas M s i)) = .int (r_X11_setHas M s i) := by
  unfold r_X11_setHas
  repeat' split
  all_goals first | rfl | exact pk_nc _
set_option maxRecDepth 100000 in
set_option maxHeartbeats 4000000 in
theorem c_X11_setHas {G : fG} (hG : fOK G) {d : Nat} (hd : 0 ≤ d) (M : fM) (dv : UInt64) (s : Int32) (i : Int32) : fCt G z_X11_setHas d [.int s, .int i] (sS M dv) 0 0 (fD (some (.int (r_X11_setHas M s i))) (sS M dv)) := by
  refine fCt_to [some (.int s), some (.int i)] k_X11_setHas rfl (Nat.le_of_ble_eq_true rfl) rfl ?_
  refine f_iload_n dX11_setHas_0 rfl rfl ?_
  refine f_iload_n dX11_setHas_1 rfl rfl ?_
  refine f_ishr dX11_setHas_2 ?_
  refine f_iconst (v := 1) dX11_setHas_3 rfl ?_
  refine f_iand dX11_setHas_4 ?_
  refine f_iconst (v := 1) dX11_setHas_5 rfl ?_
  refine f_icmp_ne (tgt := 13) dX11_setHas_6 (by decide) (fun c_6 => ?_) (fun c_6 => ?_)
  · refine f_iconst (v := 0) dX11_setHas_13 rfl ?_
    refine f_ireturn dX11_setHas_14 rfl rfl ?_
    exact ⟨by rw [r_X11_setHas, if_neg c_6], rfl⟩
  · refine f_iconst (v := 1) dX11_setHas_9 rfl ?_
    refine f_goto (tgt := 14) dX11_setHas_10 (by decide) ?_
    refine f_ireturn dX11_setHas_14 rfl rfl ?_
    exact ⟨by rw [r_X11_setHas, if_pos c_6], rfl⟩

def r_X10_at (M : fM) (k : Nat) (n : Nat) (i : Int32) : Int32 := (if i < 0 then (0 : Int32) else (if (M k 2) ≤ i then (0 : Int32) else (((rget M (k + 1) n i)).toUInt32 % 65536).toInt32))
theorem n_X10_at (M : fM) (k : Nat) (n : Nat) (i : Int32) : narrow .char (.int (r_X10_at M k n i)) = .int (r_X10_at M k n i) := by
  unfold r_X10_at
  repeat' split
  all_goals first | rfl | exact pk_nc _
set_option maxRecDepth 100000 in
set_option maxHeartbeats 4000000 in
theorem c_X10_at {G : fG} (hG : fOK G) {d : Nat} (hd : 1 ≤ d) (M : fM) (dv : UInt64) (k : Nat) (n : Nat) (i : Int32) (hk : rText k n) (hnk : n < 2147483648) : fCt G z_X10_at d [.ref k, .int i] (sS M dv) 0 0 (fD (some (.int (r_X10_at M k n i))) (sS M dv)) := by
  refine fCt_to [some (.ref k), some (.int i)] k_X10_at rfl (Nat.le_of_ble_eq_true rfl) rfl ?_
  refine f_iload_n dX10_at_0 rfl rfl ?_
  refine f_if_lt (tgt := 24) dX10_at_1 (by decide) (fun c_1 => ?_) (fun c_1 => ?_)
  · refine f_iconst (v := 0) dX10_at_24 rfl ?_
    refine f_ireturn dX10_at_25 rfl rfl ?_
    exact ⟨by rw [r_X10_at, if_pos c_1], rfl⟩
  · refine f_iload_n dX10_at_4 rfl rfl ?_
    refine f_aload_n dX10_at_5 rfl rfl ?_
    refine s_geti hG fl_X10_7 dX10_at_6 hk.1 rfl ?_
    refine f_icmp_ge (tgt := 24) dX10_at_9 (by decide) (fun c_9 => ?_) (fun c_9 => ?_)
    · refine f_iconst (v := 0) dX10_at_24 rfl ?_
      refine f_ireturn dX10_at_25 rfl rfl ?_
      exact ⟨by rw [r_X10_at, if_neg c_1, if_pos c_9], rfl⟩
    · refine f_aload_n dX10_at_12 rfl rfl ?_
      refine s_getr hG fl_X10_21 dX10_at_13 hk.1 rfl ?_
      refine f_iload_n dX10_at_16 rfl rfl ?_
      refine f_cV hG (As := [_]) dX10_at_17 rfl k_X7_get rfl rfl ml_X10_25 im_X7_get se_X7_get hk.2.1 rfl (c_X7_get hG (Nat.le_refl _) _ _ _ _ hk.2 hnk _) (by omega) (Nat.le_of_ble_eq_true rfl) (Nat.zero_le _) (Nat.zero_le _) ?_
      refine f_i2c dX10_at_20 ?_
      refine f_goto (tgt := 25) dX10_at_21 (by decide) ?_
      refine f_ireturn dX10_at_25 rfl (pk_nc _) ?_
      exact ⟨by rw [r_X10_at, if_neg c_1, if_neg c_9], rfl⟩

def m_X10_clear (M : fM) (k : Nat) (n : Nat) : fM := (fst1 M k 2 (0 : Int32))
set_option maxRecDepth 100000 in
set_option maxHeartbeats 4000000 in
theorem c_X10_clear {G : fG} (hG : fOK G) {d : Nat} (hd : 0 ≤ d) (M : fM) (dv : UInt64) (k : Nat) (n : Nat) (hk : rText k n) (hnk : n < 2147483648) : fCt G z_X10_clear d [.ref k] (sS M dv) 0 0 (fD none (sS (m_X10_clear M k n) dv)) := by
  refine fCt_to [some (.ref k)] k_X10_clear rfl (Nat.le_of_ble_eq_true rfl) rfl ?_
  refine f_aload_n dX10_clear_0 rfl rfl ?_
  refine f_iconst (v := 0) dX10_clear_1 rfl ?_
  refine s_puti hG fl_X10_7 (Or.inl rfl) dX10_clear_2 hk.1 rfl rfl rfl ?_
  refine f_return dX10_clear_5 rfl ?_
  exact ⟨rfl, by rw [m_X10_clear]⟩

def m_X10_add (M : fM) (k : Nat) (n : Nat) (c : Int32) : fM := (if (M k 0) ≤ (M k 2) then M else (fst1 (rset M (k + 1) n (M k 2) c) k 2 (((rset M (k + 1) n (M k 2) c) k 2) + (1 : Int32))))
set_option maxRecDepth 100000 in
set_option maxHeartbeats 4000000 in
theorem c_X10_add {G : fG} (hG : fOK G) {d : Nat} (hd : 1 ≤ d) (M : fM) (dv : UInt64) (k : Nat) (n : Nat) (c : Int32) (hk : rText k n) (hnk : n < 2147483648) : fCt G z_X10_add d [.ref k, .int c] (sS M dv) 0 0 (fD none (sS (m_X10_add M k n c) dv)) := by
  refine fCt_to [some (.ref k), some (.int c)] k_X10_add rfl (Nat.le_of_ble_eq_true rfl) rfl ?_
  refine f_aload_n dX10_add_0 rfl rfl ?_
  refine s_geti hG fl_X10_7 dX10_add_1 hk.1 rfl ?_
  refine f_aload_n dX10_add_4 rfl rfl ?_
  refine s_geti hG fl_X10_13 dX10_add_5 hk.1 rfl ?_
  refine f_icmp_ge (tgt := 33) dX10_add_8 (by decide) (fun c_8 => ?_) (fun c_8 => ?_)
  · refine f_return dX10_add_33 rfl ?_
    exact ⟨rfl, by rw [m_X10_add, if_pos c_8]⟩
  · refine f_aload_n dX10_add_11 rfl rfl ?_
    refine s_getr hG fl_X10_21 dX10_add_12 hk.1 rfl ?_
    refine f_aload_n dX10_add_15 rfl rfl ?_
    refine s_geti hG fl_X10_7 dX10_add_16 hk.1 rfl ?_
    refine f_iload_n dX10_add_19 rfl rfl ?_
    refine f_cV hG (As := [_, _]) dX10_add_20 rfl k_X7_set rfl rfl ml_X10_29 im_X7_set se_X7_set hk.2.1 rfl (c_X7_set hG (Nat.le_refl _) _ _ _ _ hk.2 hnk _ _) (by omega) (Nat.le_of_ble_eq_true rfl) (Nat.zero_le _) (Nat.zero_le _) ?_
    refine f_aload_n dX10_add_23 rfl rfl ?_
    refine f_dup dX10_add_24 rfl ?_
    refine s_geti hG fl_X10_7 dX10_add_25 hk.1 rfl ?_
    refine f_iconst (v := 1) dX10_add_28 rfl ?_
    refine f_iadd dX10_add_29 ?_
    refine s_puti hG fl_X10_7 (Or.inl rfl) dX10_add_30 hk.1 rfl rfl rfl ?_
    refine f_return dX10_add_33 rfl ?_
    exact ⟨rfl, by rw [m_X10_add, if_neg c_8]⟩

def m_X10_copyFrom (M : fM) (k : Nat) (n : Nat) (k2 : Nat) (n : Nat) : fM := (fst1 (rcpy M (k + 1) (k2 + 1) n) k 2 (if ((rcpy M (k + 1) (k2 + 1) n) k 0) < ((rcpy M (k + 1) (k2 + 1) n) k2 2) then ((rcpy M (k + 1) (k2 + 1) n) k 0) else ((rcpy M (k + 1) (k2 + 1) n) k2 2)))
set_option maxRecDepth 100000 in
set_option maxHeartbeats 4000000 in
theorem c_X10_copyFrom {G : fG} (hG : fOK G) {d : Nat} (hd : 1 ≤ d) (M : fM) (dv : UInt64) (k : Nat) (n : Nat) (k2 : Nat) (n : Nat) (hk : rText k n) (hnk : n < 2147483648) (hk2 : rText k2 n) (hnk2 : n < 2147483648) : fCt G z_X10_copyFrom d [.ref k, .ref k2] (sS M dv) 0 0 (fD none (sS (m_X10_copyFrom M k n k2 n) dv)) := by
  refine fCt_to [some (.ref k), some (.ref k2)] k_X10_copyFrom rfl (Nat.le_of_ble_eq_true rfl) rfl ?_
  refine f_aload_n dX10_copyFrom_0 rfl rfl ?_
  refine s_getr hG fl_X10_21 dX10_copyFrom_1 hk.1 rfl ?_
  refine f_aload_n dX10_copyFrom_4 rfl rfl ?_
  refine s_getr hG fl_X10_21 dX10_copyFrom_5 hk2.1 rfl ?_
  refine f_cV hG (As := [_]) dX10_copyFrom_8 rfl k_X7_copyFrom rfl rfl ml_X10_38 im_X7_copyFrom se_X7_copyFrom hk.2.1 rfl (c_X7_copyFrom hG (Nat.le_refl _) _ _ _ _ hk.2 hnk _ hk2.2) (by omega) (Nat.le_of_ble_eq_true rfl) (Nat.zero_le _) (Nat.zero_le _) ?_
  refine f_aload_n dX10_copyFrom_11 rfl rfl ?_
  refine f_aload_n dX10_copyFrom_12 rfl rfl ?_
  refine s_geti hG fl_X10_7 dX10_copyFrom_13 hk2.1 rfl ?_
  refine f_aload_n dX10_copyFrom_16 rfl rfl ?_
  refine s_geti hG fl_X10_13 dX10_copyFrom_17 hk.1 rfl ?_
  refine f_mmin hG dX10_copyFrom_20 mj_X10_42 mj_min (Nat.le_of_ble_eq_true rfl) ?_
  refine s_puti hG fl_X10_7 (Or.inl rfl) dX10_copyFrom_23 hk.1 rfl rfl rfl ?_
  refine f_return dX10_copyFrom_26 rfl ?_
  exact ⟨rfl, by rw [m_X10_copyFrom]⟩

def r_X0_hasRaw (M : fM) (k : Nat) (i : Int32) : Int32 := (if i < 0 then (0 : Int32) else (if (M k 2) ≤ i then (0 : Int32) else (1 : Int32)))
theorem n_X0_hasRaw (M : fM) (k : Nat) (i : Int32) : narrow .boolean (.int (r_X0_hasRaw M k i)) = .int (r_X0_hasRaw M k i) := by
  unfold r_X0_hasRaw
  repeat' split
  all_goals first | rfl | exact pk_nc _
set_option maxRecDepth 100000 in
set_option maxHeartbeats 4000000 in
theorem c_X0_hasRaw {G : fG} (hG : fOK G) {d : Nat} (hd : 0 ≤ d) (M : fM) (dv : UInt64) (k : Nat) (i : Int32) (hk : rBrine k) : fCt G z_X0_hasRaw d [.ref k, .int i] (sS M dv) 0 0 (fD (some (.int (r_X0_hasRaw M k i))) (sS M dv)) := by
  refine fCt_to [some (.ref k), some (.int i)] k_X0_hasRaw rfl (Nat.le_of_ble_eq_true rfl) rfl ?_
  refine f_iload_n dX0_hasRaw_0 rfl rfl ?_
  refine f_if_lt (tgt := 16) dX0_hasRaw_1 (by decide) (fun c_1 => ?_) (fun c_1 => ?_)
  · refine f_iconst (v := 0) dX0_hasRaw_16 rfl ?_
    refine f_ireturn dX0_hasRaw_17 rfl rfl ?_
    exact ⟨by rw [r_X0_hasRaw, if_pos c_1], rfl⟩
  · refine f_iload_n dX0_hasRaw_4 rfl rfl ?_
    refine f_aload_n dX0_hasRaw_5 rfl rfl ?_
    refine s_geti hG fl_X0_23 dX0_hasRaw_6 hk.1 rfl ?_
    refine f_icmp_ge (tgt := 16) dX0_hasRaw_9 (by decide) (fun c_9 => ?_) (fun c_9 => ?_)
    · refine f_iconst (v := 0) dX0_hasRaw_16 rfl ?_
      refine f_ireturn dX0_hasRaw_17 rfl rfl ?_
      exact ⟨by rw [r_X0_hasRaw, if_neg c_1, if_pos c_9], rfl⟩
    · refine f_iconst (v := 1) dX0_hasRaw_12 rfl ?_
      refine f_goto (tgt := 17) dX0_hasRaw_13 (by decide) ?_
      refine f_ireturn dX0_hasRaw_17 rfl rfl ?_
      exact ⟨by rw [r_X0_hasRaw, if_neg c_1, if_neg c_9], rfl⟩

def r_X0_hasBatch (M : fM) (k : Nat) (i : Int32) : Int32 := (if i < 0 then (0 : Int32) else (if (M k 4) ≤ i then (0 : Int32) else (1 : Int32)))
theorem n_X0_hasBatch (M : fM) (k : Nat) (i : Int32) : narrow .boolean (.int (r_X0_hasBatch M k i)) = .int (r_X0_hasBatch M k i) := by
  unfold r_X0_hasBatch
  repeat' split
  all_goals first | rfl | exact pk_nc _
set_option maxRecDepth 100000 in
set_option maxHeartbeats 4000000 in
theorem c_X0_hasBatch {G : fG} (hG : fOK G) {d : Nat} (hd : 0 ≤ d) (M : fM) (dv : UInt64) (k : Nat) (i : Int32) (hk : rBrine k) : fCt G z_X0_hasBatch d [.ref k, .int i] (sS M dv) 0 0 (fD (some (.int (r_X0_hasBatch M k i))) (sS M dv)) := by
  refine fCt_to [some (.ref k), some (.int i)] k_X0_hasBatch rfl (Nat.le_of_ble_eq_true rfl) rfl ?_
  refine f_iload_n dX0_hasBatch_0 rfl rfl ?_
  refine f_if_lt (tgt := 16) dX0_hasBatch_1 (by decide) (fun c_1 => ?_) (fun c_1 => ?_)
  · refine f_iconst (v := 0) dX0_hasBatch_16 rfl ?_
    refine f_ireturn dX0_hasBatch_17 rfl rfl ?_
    exact ⟨by rw [r_X0_hasBatch, if_pos c_1], rfl⟩
  · refine f_iload_n dX0_hasBatch_4 rfl rfl ?_
    refine f_aload_n dX0_hasBatch_5 rfl rfl ?_
    refine s_geti hG fl_X0_30 dX0_hasBatch_6 hk.1 rfl ?_
    refine f_icmp_ge (tgt := 16) dX0_hasBatch_9 (by decide) (fun c_9 => ?_) (fun c_9 => ?_)
    · refine f_iconst (v := 0) dX0_hasBatch_16 rfl ?_
      refine f_ireturn dX0_hasBatch_17 rfl rfl ?_
      exact ⟨by rw [r_X0_hasBatch, if_neg c_1, if_pos c_9], rfl⟩
    · refine f_iconst (v := 1) dX0_hasBatch_12 rfl ?_
      refine f_goto (tgt := 17) dX0_hasBatch_13 (by decide) ?_
      refine f_ireturn dX0_hasBatch_17 rfl rfl ?_
      exact ⟨by rw [r_X0_hasBatch, if_neg c_1, if_neg c_9], rfl⟩

def r_X0_hasSet (M : fM) (k : Nat) (i : Int32) : Int32 := (if i ≤ 0 then (0 : Int32) else (if (i >>> ((M k 2) &&& 31)) = 0 then (1 : Int32) else (0 : Int32)))
theorem n_X0_hasSet (M : fM) (k : Nat) (i : Int32) : narrow .boolean (.int (r_X0_hasSet M k i)) = .int (r_X0_hasSet M k i) := by
  unfold r_X0_hasSet
  repeat' split
  all_goals first | rfl | exact pk_nc _
set_option maxRecDepth 100000 in
set_option maxHeartbeats 4000000 in
theorem c_X0_hasSet {G : fG} (hG : fOK G) {d : Nat} (hd : 0 ≤ d) (M : fM) (dv : UInt64) (k : Nat) (i : Int32) (hk : rBrine k) : fCt G z_X0_hasSet d [.ref k, .int i] (sS M dv) 0 0 (fD (some (.int (r_X0_hasSet M k i))) (sS M dv)) := by
  refine fCt_to [some (.ref k), some (.int i)] k_X0_hasSet rfl (Nat.le_of_ble_eq_true rfl) rfl ?_
  refine f_iload_n dX0_hasSet_0 rfl rfl ?_
  refine f_if_le (tgt := 17) dX0_hasSet_1 (by decide) (fun c_1 => ?_) (fun c_1 => ?_)
  · refine f_iconst (v := 0) dX0_hasSet_17 rfl ?_
    refine f_ireturn dX0_hasSet_18 rfl rfl ?_
    exact ⟨by rw [r_X0_hasSet, if_pos c_1], rfl⟩
  · refine f_iload_n dX0_hasSet_4 rfl rfl ?_
    refine f_aload_n dX0_hasSet_5 rfl rfl ?_
    refine s_geti hG fl_X0_23 dX0_hasSet_6 hk.1 rfl ?_
    refine f_ishr dX0_hasSet_9 ?_
    refine f_if_ne (tgt := 17) dX0_hasSet_10 (by decide) (fun c_10 => ?_) (fun c_10 => ?_)
    · refine f_iconst (v := 0) dX0_hasSet_17 rfl ?_
      refine f_ireturn dX0_hasSet_18 rfl rfl ?_
      exact ⟨by rw [r_X0_hasSet, if_neg c_1, if_neg c_10], rfl⟩
    · refine f_iconst (v := 1) dX0_hasSet_13 rfl ?_
      refine f_goto (tgt := 18) dX0_hasSet_14 (by decide) ?_
      refine f_ireturn dX0_hasSet_18 rfl rfl ?_
      exact ⟨by rw [r_X0_hasSet, if_neg c_1, if_pos c_10], rfl⟩

def r_X0_isRawFaulty (M : fM) (k : Nat) (i : Int32) : Int32 := (r_X11_setHas M (M k 3) i)
theorem n_X0_isRawFaulty (M : fM) (k : Nat) (i : Int32) : narrow .boolean (.int (r_X0_isRawFaulty M k i)) = .int (r_X0_isRawFaulty M k i) := by
  unfold r_X0_isRawFaulty
  repeat' split
  all_goals first | rfl | exact pk_nc _ | exact n_X11_setHas ..
set_option maxRecDepth 100000 in
set_option maxHeartbeats 4000000 in
theorem c_X0_isRawFaulty {G : fG} (hG : fOK G) {d : Nat} (hd : 1 ≤ d) (M : fM) (dv : UInt64) (k : Nat) (i : Int32) (hk : rBrine k) : fCt G z_X0_isRawFaulty d [.ref k, .int i] (sS M dv) 0 0 (fD (some (.int (r_X0_isRawFaulty M k i))) (sS M dv)) := by
  refine fCt_to [some (.ref k), some (.int i)] k_X0_isRawFaulty rfl (Nat.le_of_ble_eq_true rfl) rfl ?_
  refine f_aload_n dX0_isRawFaulty_0 rfl rfl ?_
  refine s_geti hG fl_X0_27 dX0_isRawFaulty_1 hk.1 rfl ?_
  refine f_iload_n dX0_isRawFaulty_4 rfl rfl ?_
  refine f_cSN hG (As := [_, _]) dX0_isRawFaulty_5 rfl k_X11_setHas rfl rfl ml_X0_33 sm_X11_setHas (c_X11_setHas hG (d := 0) (Nat.le_refl _) _ _ _ _) (by omega) (Nat.le_of_ble_eq_true rfl) (Nat.zero_le _) (Nat.zero_le _) ?_
  refine f_ireturn dX0_isRawFaulty_8 rfl (n_X11_setHas ..) ?_
  exact ⟨by rw [r_X0_isRawFaulty], rfl⟩

def r_X0_isSpoilt (M : fM) (k : Nat) (i : Int32) : Int32 := (if ((rget M (k + 1) 6 i) &&& (M k 3)) = 0 then (0 : Int32) else (1 : Int32))
theorem n_X0_isSpoilt (M : fM) (k : Nat) (i : Int32) : narrow .boolean (.int (r_X0_isSpoilt M k i)) = .int (r_X0_isSpoilt M k i) := by
  unfold r_X0_isSpoilt
  repeat' split
  all_goals first | rfl | exact pk_nc _
set_option maxRecDepth 100000 in
set_option maxHeartbeats 4000000 in
theorem c_X0_isSpoilt {G : fG} (hG : fOK G) {d : Nat} (hd : 1 ≤ d) (M : fM) (dv : UInt64) (k : Nat) (i : Int32) (hk : rBrine k) : fCt G z_X0_isSpoilt d [.ref k, .int i] (sS M dv) 0 0 (fD (some (.int (r_X0_isSpoilt M k i))) (sS M dv)) := by
  refine fCt_to [some (.ref k), some (.int i)] k_X0_isSpoilt rfl (Nat.le_of_ble_eq_true rfl) rfl ?_
  refine f_aload_n dX0_isSpoilt_0 rfl rfl ?_
  refine s_getr hG fl_X0_14 dX0_isSpoilt_1 hk.1 rfl ?_
  refine f_iload_n dX0_isSpoilt_4 rfl rfl ?_
  refine f_cV hG (As := [_]) dX0_isSpoilt_5 rfl k_X7_get rfl rfl ml_X0_37 im_X7_get se_X7_get hk.2.1.1 rfl (c_X7_get hG (Nat.le_refl _) _ _ _ _ hk.2.1 (by decide) _) (by omega) (Nat.le_of_ble_eq_true rfl) (Nat.zero_le _) (Nat.zero_le _) ?_
  refine f_aload_n dX0_isSpoilt_8 rfl rfl ?_
  refine s_geti hG fl_X0_27 dX0_isSpoilt_9 hk.1 rfl ?_
  refine f_iand dX0_isSpoilt_12 ?_
  refine f_if_eq (tgt := 20) dX0_isSpoilt_13 (by decide) (fun c_13 => ?_) (fun c_13 => ?_)
  · refine f_iconst (v := 0) dX0_isSpoilt_20 rfl ?_
    refine f_ireturn dX0_isSpoilt_21 rfl rfl ?_
    exact ⟨by rw [r_X0_isSpoilt, if_pos c_13], rfl⟩
  · refine f_iconst (v := 1) dX0_isSpoilt_16 rfl ?_
    refine f_goto (tgt := 21) dX0_isSpoilt_17 (by decide) ?_
    refine f_ireturn dX0_isSpoilt_21 rfl rfl ?_
    exact ⟨by rw [r_X0_isSpoilt, if_neg c_13], rfl⟩

def r_X0_addOneRaw (M : fM) (k : Nat) : Int32 := (((fst1 M k 2 ((M k 2) + (1 : Int32))) k 2) - (1 : Int32))
def m_X0_addOneRaw (M : fM) (k : Nat) : fM := (fst1 M k 2 ((M k 2) + (1 : Int32)))
set_option maxRecDepth 100000 in
set_option maxHeartbeats 4000000 in
theorem c_X0_addOneRaw {G : fG} (hG : fOK G) {d : Nat} (hd : 0 ≤ d) (M : fM) (dv : UInt64) (k : Nat) (hk : rBrine k) : fCt G z_X0_addOneRaw d [.ref k] (sS M dv) 0 0 (fD (some (.int (r_X0_addOneRaw M k))) (sS (m_X0_addOneRaw M k) dv)) := by
  refine fCt_to [some (.ref k)] k_X0_addOneRaw rfl (Nat.le_of_ble_eq_true rfl) rfl ?_
  refine f_aload_n dX0_addOneRaw_0 rfl rfl ?_
  refine f_dup dX0_addOneRaw_1 rfl ?_
  refine s_geti hG fl_X0_23 dX0_addOneRaw_2 hk.1 rfl ?_
  refine f_iconst (v := 1) dX0_addOneRaw_5 rfl ?_
  refine f_iadd dX0_addOneRaw_6 ?_
  refine s_puti hG fl_X0_23 (Or.inl rfl) dX0_addOneRaw_7 hk.1 rfl rfl rfl ?_
  refine f_aload_n dX0_addOneRaw_10 rfl rfl ?_
  refine s_geti hG fl_X0_23 dX0_addOneRaw_11 hk.1 rfl ?_
  refine f_iconst (v := 1) dX0_addOneRaw_14 rfl ?_
  refine f_isub dX0_addOneRaw_15 ?_
  refine f_ireturn dX0_addOneRaw_16 rfl rfl ?_
  exact ⟨by rw [r_X0_addOneRaw], by rw [m_X0_addOneRaw]⟩

def r_X0_addBatch (M : fM) (k : Nat) (a : Int32) (b : Int32) : Int32 := (((fst1 (rset (rset M (k + 1) 6 (M k 4) a) (k + 3) 6 ((rset M (k + 1) 6 (M k 4) a) k 4) b) k 4 (((rset (rset M (k + 1) 6 (M k 4) a) (k + 3) 6 ((rset M (k + 1) 6 (M k 4) a) k 4) b) k 4) + (1 : Int32))) k 4) - (1 : Int32))
def m_X0_addBatch (M : fM) (k : Nat) (a : Int32) (b : Int32) : fM := (fst1 (rset (rset M (k + 1) 6 (M k 4) a) (k + 3) 6 ((rset M (k + 1) 6 (M k 4) a) k 4) b) k 4 (((rset (rset M (k + 1) 6 (M k 4) a) (k + 3) 6 ((rset M (k + 1) 6 (M k 4) a) k 4) b) k 4) + (1 : Int32)))
set_option maxRecDepth 100000 in
set_option maxHeartbeats 4000000 in
theorem c_X0_addBatch {G : fG} (hG : fOK G) {d : Nat} (hd : 1 ≤ d) (M : fM) (dv : UInt64) (k : Nat) (a : Int32) (b : Int32) (hk : rBrine k) : fCt G z_X0_addBatch d [.ref k, .int a, .int b] (sS M dv) 0 0 (fD (some (.int (r_X0_addBatch M k a b))) (sS (m_X0_addBatch M k a b) dv)) := by
  refine fCt_to [some (.ref k), some (.int a), some (.int b)] k_X0_addBatch rfl (Nat.le_of_ble_eq_true rfl) rfl ?_
  refine f_aload_n dX0_addBatch_0 rfl rfl ?_
  refine s_getr hG fl_X0_14 dX0_addBatch_1 hk.1 rfl ?_
  refine f_aload_n dX0_addBatch_4 rfl rfl ?_
  refine s_geti hG fl_X0_30 dX0_addBatch_5 hk.1 rfl ?_
  refine f_iload_n dX0_addBatch_8 rfl rfl ?_
  refine f_cV hG (As := [_, _]) dX0_addBatch_9 rfl k_X7_set rfl rfl ml_X0_41 im_X7_set se_X7_set hk.2.1.1 rfl (c_X7_set hG (Nat.le_refl _) _ _ _ _ hk.2.1 (by decide) _ _) (by omega) (Nat.le_of_ble_eq_true rfl) (Nat.zero_le _) (Nat.zero_le _) ?_
  refine f_aload_n dX0_addBatch_12 rfl rfl ?_
  refine s_getr hG fl_X0_20 dX0_addBatch_13 hk.1 rfl ?_
  refine f_aload_n dX0_addBatch_16 rfl rfl ?_
  refine s_geti hG fl_X0_30 dX0_addBatch_17 hk.1 rfl ?_
  refine f_iload_n dX0_addBatch_20 rfl rfl ?_
  refine f_cV hG (As := [_, _]) dX0_addBatch_21 rfl k_X7_set rfl rfl ml_X0_41 im_X7_set se_X7_set hk.2.2.1 rfl (c_X7_set hG (Nat.le_refl _) _ _ _ _ hk.2.2 (by decide) _ _) (by omega) (Nat.le_of_ble_eq_true rfl) (Nat.zero_le _) (Nat.zero_le _) ?_
  refine f_aload_n dX0_addBatch_24 rfl rfl ?_
  refine f_dup dX0_addBatch_25 rfl ?_
  refine s_geti hG fl_X0_30 dX0_addBatch_26 hk.1 rfl ?_
  refine f_iconst (v := 1) dX0_addBatch_29 rfl ?_
  refine f_iadd dX0_addBatch_30 ?_
  refine s_puti hG fl_X0_30 (Or.inl rfl) dX0_addBatch_31 hk.1 rfl rfl rfl ?_
  refine f_aload_n dX0_addBatch_34 rfl rfl ?_
  refine s_geti hG fl_X0_30 dX0_addBatch_35 hk.1 rfl ?_
  refine f_iconst (v := 1) dX0_addBatch_38 rfl ?_
  refine f_isub dX0_addBatch_39 ?_
  refine f_ireturn dX0_addBatch_40 rfl rfl ?_
  exact ⟨by rw [r_X0_addBatch], by rw [m_X0_addBatch]⟩

def m_X0_markFaulty (M : fM) (k : Nat) (i : Int32) : fM := (fst1 M k 3 ((M k 3) ||| ((1 : Int32) <<< (i &&& 31))))
set_option maxRecDepth 100000 in
set_option maxHeartbeats 4000000 in
theorem c_X0_markFaulty {G : fG} (hG : fOK G) {d : Nat} (hd : 0 ≤ d) (M : fM) (dv : UInt64) (k : Nat) (i : Int32) (hk : rBrine k) : fCt G z_X0_markFaulty d [.ref k, .int i] (sS M dv) 0 0 (fD none (sS (m_X0_markFaulty M k i) dv)) := by
  refine fCt_to [some (.ref k), some (.int i)] k_X0_markFaulty rfl (Nat.le_of_ble_eq_true rfl) rfl ?_
  refine f_aload_n dX0_markFaulty_0 rfl rfl ?_
  refine f_dup dX0_markFaulty_1 rfl ?_
  refine s_geti hG fl_X0_27 dX0_markFaulty_2 hk.1 rfl ?_
  refine f_iconst (v := 1) dX0_markFaulty_5 rfl ?_
  refine f_iload_n dX0_markFaulty_6 rfl rfl ?_
  refine f_ishl dX0_markFaulty_7 ?_
  refine f_ior dX0_markFaulty_8 ?_
  refine s_puti hG fl_X0_27 (Or.inl rfl) dX0_markFaulty_9 hk.1 rfl rfl rfl ?_
  refine f_return dX0_markFaulty_12 rfl ?_
  exact ⟨rfl, by rw [m_X0_markFaulty]⟩

def m_X0_copyFrom (M : fM) (k : Nat) (k2 : Nat) : fM := (fst1 (fst1 (fst1 (rcpy (rcpy M (k + 1) (k2 + 1) 6) (k + 3) (k2 + 3) 6) k 2 ((rcpy (rcpy M (k + 1) (k2 + 1) 6) (k + 3) (k2 + 3) 6) k2 2)) k 3 ((fst1 (rcpy (rcpy M (k + 1) (k2 + 1) 6) (k + 3) (k2 + 3) 6) k 2 ((rcpy (rcpy M (k + 1) (k2 + 1) 6) (k + 3) (k2 + 3) 6) k2 2)) k2 3)) k 4 ((fst1 (fst1 (rcpy (rcpy M (k + 1) (k2 + 1) 6) (k + 3) (k2 + 3) 6) k 2 ((rcpy (rcpy M (k + 1) (k2 + 1) 6) (k + 3) (k2 + 3) 6) k2 2)) k 3 ((fst1 (rcpy (rcpy M (k + 1) (k2 + 1) 6) (k + 3) (k2 + 3) 6) k 2 ((rcpy (rcpy M (k + 1) (k2 + 1) 6) (k + 3) (k2 + 3) 6) k2 2)) k2 3)) k2 4))
set_option maxRecDepth 100000 in
set_option maxHeartbeats 4000000 in
theorem c_X0_copyFrom {G : fG} (hG : fOK G) {d : Nat} (hd : 1 ≤ d) (M : fM) (dv : UInt64) (k : Nat) (k2 : Nat) (hk : rBrine k) (hk2 : rBrine k2) : fCt G z_X0_copyFrom d [.ref k, .ref k2] (sS M dv) 0 0 (fD none (sS (m_X0_copyFrom M k k2) dv)) := by
  refine fCt_to [some (.ref k), some (.ref k2)] k_X0_copyFrom rfl (Nat.le_of_ble_eq_true rfl) rfl ?_
  refine f_aload_n dX0_copyFrom_0 rfl rfl ?_
  refine s_getr hG fl_X0_14 dX0_copyFrom_1 hk.1 rfl ?_
  refine f_aload_n dX0_copyFrom_4 rfl rfl ?_
  refine s_getr hG fl_X0_14 dX0_copyFrom_5 hk2.1 rfl ?_
  refine f_cV hG (As := [_]) dX0_copyFrom_8 rfl k_X7_copyFrom rfl rfl ml_X0_45 im_X7_copyFrom se_X7_copyFrom hk.2.1.1 rfl (c_X7_copyFrom hG (Nat.le_refl _) _ _ _ _ hk.2.1 (by decide) _ hk2.2.1) (by omega) (Nat.le_of_ble_eq_true rfl) (Nat.zero_le _) (Nat.zero_le _) ?_
  refine f_aload_n dX0_copyFrom_11 rfl rfl ?_
  refine s_getr hG fl_X0_20 dX0_copyFrom_12 hk.1 rfl ?_
  refine f_aload_n dX0_copyFrom_15 rfl rfl ?_
  refine s_getr hG fl_X0_20 dX0_copyFrom_16 hk2.1 rfl ?_
  refine f_cV hG (As := [_]) dX0_copyFrom_19 rfl k_X7_copyFrom rfl rfl ml_X0_45 im_X7_copyFrom se_X7_copyFrom hk.2.2.1 rfl (c_X7_copyFrom hG (Nat.le_refl _) _ _ _ _ hk.2.2 (by decide) _ hk2.2.2) (by omega) (Nat.le_of_ble_eq_true rfl) (Nat.zero_le _) (Nat.zero_le _) ?_
  refine f_aload_n dX0_copyFrom_22 rfl rfl ?_
  refine f_aload_n dX0_copyFrom_23 rfl rfl ?_
  refine s_geti hG fl_X0_23 dX0_copyFrom_24 hk2.1 rfl ?_
  refine s_puti hG fl_X0_23 (Or.inl rfl) dX0_copyFrom_27 hk.1 rfl rfl rfl ?_
  refine f_aload_n dX0_copyFrom_30 rfl rfl ?_
  refine f_aload_n dX0_copyFrom_31 rfl rfl ?_
  refine s_geti hG fl_X0_27 dX0_copyFrom_32 hk2.1 rfl ?_
  refine s_puti hG fl_X0_27 (Or.inl rfl) dX0_copyFrom_35 hk.1 rfl rfl rfl ?_
  refine f_aload_n dX0_copyFrom_38 rfl rfl ?_
  refine f_aload_n dX0_copyFrom_39 rfl rfl ?_
  refine s_geti hG fl_X0_30 dX0_copyFrom_40 hk2.1 rfl ?_
  refine s_puti hG fl_X0_30 (Or.inl rfl) dX0_copyFrom_43 hk.1 rfl rfl rfl ?_
  refine f_return dX0_copyFrom_46 rfl ?_
  exact ⟨rfl, by rw [m_X0_copyFrom]⟩
