/-! ===== CommandText ===== -/
theorem sv_X1_95 : ((RX1, 95, "raw", 0, [114, 97, 119]) : String × Nat × String × Nat × List Int32) ∈ fsvs := by decide +kernel
theorem sv_X1_97 : ((RX1, 97, "mix", 1, [109, 105, 120]) : String × Nat × String × Nat × List Int32) ∈ fsvs := by decide +kernel
theorem sv_X1_99 : ((RX1, 99, "fill", 2, [102, 105, 108, 108]) : String × Nat × String × Nat × List Int32) ∈ fsvs := by decide +kernel
theorem sv_X1_101 : ((RX1, 101, "ship", 3, [115, 104, 105, 112]) : String × Nat × String × Nat × List Int32) ∈ fsvs := by decide +kernel
theorem sv_X1_103 : ((RX1, 103, "day", 4, [100, 97, 121]) : String × Nat × String × Nat × List Int32) ∈ fsvs := by decide +kernel
theorem sv_X1_105 : ((RX1, 105, "recall", 5, [114, 101, 99, 97, 108, 108]) : String × Nat × String × Nat × List Int32) ∈ fsvs := by decide +kernel
theorem sv_X12_184 : ((RX12, 184, "ix", 6, [105, 120]) : String × Nat × String × Nat × List Int32) ∈ fsvs := by decide +kernel
theorem sv_X12_194 : ((RX12, 194, "ill", 7, [105, 108, 108]) : String × Nat × String × Nat × List Int32) ∈ fsvs := by decide +kernel
theorem sv_X12_196 : ((RX12, 196, "hip", 8, [104, 105, 112]) : String × Nat × String × Nat × List Int32) ∈ fsvs := by decide +kernel
theorem sv_X12_198 : ((RX12, 198, "w", 9, [119]) : String × Nat × String × Nat × List Int32) ∈ fsvs := by decide +kernel
theorem sv_X12_200 : ((RX12, 200, "ecall", 10, [101, 99, 97, 108, 108]) : String × Nat × String × Nat × List Int32) ∈ fsvs := by decide +kernel
theorem sv_X12_202 : ((RX12, 202, "ay", 11, [97, 121]) : String × Nat × String × Nat × List Int32) ∈ fsvs := by decide +kernel
theorem ts_0_5 {x : Int32} (h0 : ¬ x = (0 : Int32)) (h1 : ¬ x = (1 : Int32)) (h2 : ¬ x = (2 : Int32)) (h3 : ¬ x = (3 : Int32)) (h4 : ¬ x = (4 : Int32)) (h5 : ¬ x = (5 : Int32)) : x.toInt < (0 : Int) ∨ (5 : Int) < x.toInt := by
  have g0 : ¬ x.toInt = 0 := fun h => h0 (Int32.toInt_inj.mp (by rw [h]; rfl))
  have g1 : ¬ x.toInt = 1 := fun h => h1 (Int32.toInt_inj.mp (by rw [h]; rfl))
  have g2 : ¬ x.toInt = 2 := fun h => h2 (Int32.toInt_inj.mp (by rw [h]; rfl))
  have g3 : ¬ x.toInt = 3 := fun h => h3 (Int32.toInt_inj.mp (by rw [h]; rfl))
  have g4 : ¬ x.toInt = 4 := fun h => h4 (Int32.toInt_inj.mp (by rw [h]; rfl))
  have g5 : ¬ x.toInt = 5 := fun h => h5 (Int32.toInt_inj.mp (by rw [h]; rfl))
  omega
theorem ts_0_4 {x : Int32} (h0 : ¬ x = (0 : Int32)) (h1 : ¬ x = (1 : Int32)) (h2 : ¬ x = (2 : Int32)) (h3 : ¬ x = (3 : Int32)) (h4 : ¬ x = (4 : Int32)) : x.toInt < (0 : Int) ∨ (4 : Int) < x.toInt := by
  have g0 : ¬ x.toInt = 0 := fun h => h0 (Int32.toInt_inj.mp (by rw [h]; rfl))
  have g1 : ¬ x.toInt = 1 := fun h => h1 (Int32.toInt_inj.mp (by rw [h]; rfl))
  have g2 : ¬ x.toInt = 2 := fun h => h2 (Int32.toInt_inj.mp (by rw [h]; rfl))
  have g3 : ¬ x.toInt = 3 := fun h => h3 (Int32.toInt_inj.mp (by rw [h]; rfl))
  have g4 : ¬ x.toInt = 4 := fun h => h4 (Int32.toInt_inj.mp (by rw [h]; rfl))
  omega
theorem ts_1_5 {x : Int32} (h1 : ¬ x = (1 : Int32)) (h2 : ¬ x = (2 : Int32)) (h3 : ¬ x = (3 : Int32)) (h4 : ¬ x = (4 : Int32)) (h5 : ¬ x = (5 : Int32)) : x.toInt < (1 : Int) ∨ (5 : Int) < x.toInt := by
  have g1 : ¬ x.toInt = 1 := fun h => h1 (Int32.toInt_inj.mp (by rw [h]; rfl))
  have g2 : ¬ x.toInt = 2 := fun h => h2 (Int32.toInt_inj.mp (by rw [h]; rfl))
  have g3 : ¬ x.toInt = 3 := fun h => h3 (Int32.toInt_inj.mp (by rw [h]; rfl))
  have g4 : ¬ x.toInt = 4 := fun h => h4 (Int32.toInt_inj.mp (by rw [h]; rfl))
  have g5 : ¬ x.toInt = 5 := fun h => h5 (Int32.toInt_inj.mp (by rw [h]; rfl))
  omega
theorem fStr_of {j : Nat} (h : j < 12) : fStr (4096 + j) := ⟨by omega, by omega⟩
theorem c_X1_nameOf {G : fG} (hG : fOK G) {d : Nat} (hd : 0 ≤ d) (S : fS) (j : Nat) (hj : j < 6) : fCt G z_X1_nameOf d [.int (nI j)] S 0 0 (fD (some (.ref (4096 + j))) S) := by
  match j, hj with
  | 0, _ =>
    refine fCt_to [some (.int (nI 0))] k_X1_nameOf rfl (Nat.le_of_ble_eq_true rfl) rfl ?_
    refine f_iload_n dX1_nameOf_0 rfl rfl ?_
    refine f_tableIn (off := 35) (tgt := 36) dX1_nameOf_1 (by decide) (by decide) rfl (by decide) ?_
    refine f_ldcS hG (e := 4096) ⟨_, sv_X1_95⟩ (by decide) dX1_nameOf_36 ?_
    refine f_areturn dX1_nameOf_38 rfl (Or.inl ⟨_, rfl⟩) ?_
    exact ⟨rfl, rfl⟩
  | 1, _ =>
    refine fCt_to [some (.int (nI 1))] k_X1_nameOf rfl (Nat.le_of_ble_eq_true rfl) rfl ?_
    refine f_iload_n dX1_nameOf_0 rfl rfl ?_
    refine f_tableIn (off := 38) (tgt := 39) dX1_nameOf_1 (by decide) (by decide) rfl (by decide) ?_
    refine f_ldcS hG (e := 4097) ⟨_, sv_X1_97⟩ (by decide) dX1_nameOf_39 ?_
    refine f_areturn dX1_nameOf_41 rfl (Or.inl ⟨_, rfl⟩) ?_
    exact ⟨rfl, rfl⟩
  | 2, _ =>
    refine fCt_to [some (.int (nI 2))] k_X1_nameOf rfl (Nat.le_of_ble_eq_true rfl) rfl ?_
    refine f_iload_n dX1_nameOf_0 rfl rfl ?_
    refine f_tableIn (off := 41) (tgt := 42) dX1_nameOf_1 (by decide) (by decide) rfl (by decide) ?_
    refine f_ldcS hG (e := 4098) ⟨_, sv_X1_99⟩ (by decide) dX1_nameOf_42 ?_
    refine f_areturn dX1_nameOf_44 rfl (Or.inl ⟨_, rfl⟩) ?_
    exact ⟨rfl, rfl⟩
  | 3, _ =>
    refine fCt_to [some (.int (nI 3))] k_X1_nameOf rfl (Nat.le_of_ble_eq_true rfl) rfl ?_
    refine f_iload_n dX1_nameOf_0 rfl rfl ?_
    refine f_tableIn (off := 44) (tgt := 45) dX1_nameOf_1 (by decide) (by decide) rfl (by decide) ?_
    refine f_ldcS hG (e := 4099) ⟨_, sv_X1_101⟩ (by decide) dX1_nameOf_45 ?_
    refine f_areturn dX1_nameOf_47 rfl (Or.inl ⟨_, rfl⟩) ?_
    exact ⟨rfl, rfl⟩
  | 4, _ =>
    refine fCt_to [some (.int (nI 4))] k_X1_nameOf rfl (Nat.le_of_ble_eq_true rfl) rfl ?_
    refine f_iload_n dX1_nameOf_0 rfl rfl ?_
    refine f_tableIn (off := 47) (tgt := 48) dX1_nameOf_1 (by decide) (by decide) rfl (by decide) ?_
    refine f_ldcS hG (e := 4100) ⟨_, sv_X1_103⟩ (by decide) dX1_nameOf_48 ?_
    refine f_areturn dX1_nameOf_50 rfl (Or.inl ⟨_, rfl⟩) ?_
    exact ⟨rfl, rfl⟩
  | 5, _ =>
    refine fCt_to [some (.int (nI 5))] k_X1_nameOf rfl (Nat.le_of_ble_eq_true rfl) rfl ?_
    refine f_iload_n dX1_nameOf_0 rfl rfl ?_
    refine f_tableOut (tgt := 51) dX1_nameOf_1 (Or.inr (by decide)) (by decide) ?_
    refine f_ldcS hG (e := 4101) ⟨_, sv_X1_105⟩ (by decide) dX1_nameOf_51 ?_
    refine f_areturn dX1_nameOf_53 rfl (Or.inl ⟨_, rfl⟩) ?_
    exact ⟨rfl, rfl⟩
  | j + 6, h => exact absurd h (by omega)
def r_X1_argument (M : fM) (a : Int32) (b : Int32) : Int32 := (rget M 282 80 ((a * (4 : Int32)) + b))
set_option maxRecDepth 100000 in
set_option maxHeartbeats 4000000 in
theorem c_X1_argument {G : fG} (hG : fOK G) {d : Nat} (hd : 1 ≤ d) (M : fM) (dv : UInt64) (a : Int32) (b : Int32) : fCt G z_X1_argument d [.ref 276, .int a, .int b] (sS M dv) 0 0 (fD (some (.int (r_X1_argument M a b))) (sS M dv)) := by
  refine fCt_to [some (.ref 276), some (.int a), some (.int b)] k_X1_argument rfl (Nat.le_of_ble_eq_true rfl) rfl ?_
  refine f_aload_n dX1_argument_0 rfl rfl ?_
  refine s_getr hG fl_X1_27 dX1_argument_1 rfl rfl ?_
  refine f_iload_n dX1_argument_4 rfl rfl ?_
  refine f_iconst (v := 4) dX1_argument_5 rfl ?_
  refine f_imul dX1_argument_6 ?_
  refine f_iload_n dX1_argument_7 rfl rfl ?_
  refine f_iadd dX1_argument_8 ?_
  refine f_cV hG (As := [_]) dX1_argument_9 rfl k_X7_get rfl rfl ml_X1_40 im_X7_get se_X7_get rR_282.1 rfl (c_X7_get hG (Nat.le_refl _) _ _ _ _ rR_282 (by decide) _) (by omega) (Nat.le_of_ble_eq_true rfl) (Nat.zero_le _) (Nat.zero_le _) ?_
  refine f_ireturn dX1_argument_12 rfl rfl ?_
  exact ⟨by rw [r_X1_argument], rfl⟩

def r_X1_isDigit (M : fM) (a : Int32) : Int32 := (if a < (48 : Int32) then (0 : Int32) else (if (57 : Int32) < a then (0 : Int32) else (1 : Int32)))
theorem n_X1_isDigit (M : fM) (a : Int32) : narrow .boolean (.int (r_X1_isDigit M a)) = .int (r_X1_isDigit M a) := by
  unfold r_X1_isDigit
  repeat' with_reducible apply n_ite
  all_goals first | rfl | exact pk_nc _
set_option maxRecDepth 100000 in
set_option maxHeartbeats 4000000 in
theorem c_X1_isDigit {G : fG} (hG : fOK G) {d : Nat} (hd : 0 ≤ d) (M : fM) (dv : UInt64) (a : Int32) : fCt G z_X1_isDigit d [.int a] (sS M dv) 0 0 (fD (some (.int (r_X1_isDigit M a))) (sS M dv)) := by
  refine fCt_to [some (.int a)] k_X1_isDigit rfl (Nat.le_of_ble_eq_true rfl) rfl ?_
  refine f_iload_n dX1_isDigit_0 rfl rfl ?_
  refine f_bipush (v := 48) dX1_isDigit_1 (by decide) ?_
  refine f_icmp_lt (tgt := 16) dX1_isDigit_3 (by decide) (fun c_3 => ?_) (fun c_3 => ?_)
  · refine f_iconst (v := 0) dX1_isDigit_16 rfl ?_
    refine f_ireturn dX1_isDigit_17 rfl rfl ?_
    exact ⟨by rw [r_X1_isDigit, if_pos c_3], rfl⟩
  · refine f_iload_n dX1_isDigit_6 rfl rfl ?_
    refine f_bipush (v := 57) dX1_isDigit_7 (by decide) ?_
    refine f_icmp_gt (tgt := 16) dX1_isDigit_9 (by decide) (fun c_9 => ?_) (fun c_9 => ?_)
    · refine f_iconst (v := 0) dX1_isDigit_16 rfl ?_
      refine f_ireturn dX1_isDigit_17 rfl rfl ?_
      exact ⟨by rw [r_X1_isDigit, if_neg c_3, if_pos c_9], rfl⟩
    · refine f_iconst (v := 1) dX1_isDigit_12 rfl ?_
      refine f_goto (tgt := 17) dX1_isDigit_13 (by decide) ?_
      refine f_ireturn dX1_isDigit_17 rfl rfl ?_
      exact ⟨by rw [r_X1_isDigit, if_neg c_3, if_neg c_9], rfl⟩

def m_X1_keepArgument (M : fM) (a : Int32) (b : Int32) : fM := (rset M 282 80 (((M 276 4) * (4 : Int32)) + a) b)
set_option maxRecDepth 100000 in
set_option maxHeartbeats 4000000 in
theorem c_X1_keepArgument {G : fG} (hG : fOK G) {d : Nat} (hd : 1 ≤ d) (M : fM) (dv : UInt64) (a : Int32) (b : Int32) : fCt G z_X1_keepArgument d [.ref 276, .int a, .int b] (sS M dv) 0 0 (fD none (sS (m_X1_keepArgument M a b) dv)) := by
  refine fCt_to [some (.ref 276), some (.int a), some (.int b)] k_X1_keepArgument rfl (Nat.le_of_ble_eq_true rfl) rfl ?_
  refine f_aload_n dX1_keepArgument_0 rfl rfl ?_
  refine s_getr hG fl_X1_27 dX1_keepArgument_1 rfl rfl ?_
  refine f_aload_n dX1_keepArgument_4 rfl rfl ?_
  refine s_geti hG fl_X1_34 dX1_keepArgument_5 rfl rfl ?_
  refine f_iconst (v := 4) dX1_keepArgument_8 rfl ?_
  refine f_imul dX1_keepArgument_9 ?_
  refine f_iload_n dX1_keepArgument_10 rfl rfl ?_
  refine f_iadd dX1_keepArgument_11 ?_
  refine f_iload_n dX1_keepArgument_12 rfl rfl ?_
  refine f_cV hG (As := [_, _]) dX1_keepArgument_13 rfl k_X7_set rfl rfl ml_X1_63 im_X7_set se_X7_set rR_282.1 rfl (c_X7_set hG (Nat.le_refl _) _ _ _ _ rR_282 (by decide) _ _) (by omega) (Nat.le_of_ble_eq_true rfl) (Nat.zero_le _) (Nat.zero_le _) ?_
  refine f_return dX1_keepArgument_16 rfl ?_
  exact ⟨rfl, by rw [m_X1_keepArgument]⟩

def l_X1_sameLetters (s : Nat) (M : fM) : Nat → Nat → Int32
  | 0, _ => 0
  | m + 1, j => (if (nI (fsb s).length) ≤ (nI j) then (nI (fsb s).length) else (if (r_X10_at M 277 60 ((M 276 5) + (nI j))) = ((fsb s).getD (nI j).toNatClampNeg 0) then (l_X1_sameLetters s M m (j + 1)) else (nI j)))
set_option maxRecDepth 100000 in
set_option maxHeartbeats 4000000 in
theorem lp_X1_sameLetters {G : fG} (hG : fOK G) {d : Nat} (hd : 4 ≤ d) (M : fM) (dv : UInt64) (s : Nat) (hs : fStr s) : ∀ (m j : Nat), j ≤ (fsb s).length → (fsb s).length + 1 ≤ j + m → fV G z_X1_sameLetters d (fD (some (.int (l_X1_sameLetters s M m j))) (sS M dv)) 2 [some (.ref 276), some (.ref s), some (.int (nI j))] [] (sS M dv) 0 0 := by
  intro m
  induction m with
  | zero => intros; omega
  | succ m ih =>
    intro j hj hm
    refine f_iload_n dX1_sameLetters_2 rfl rfl ?_
    refine f_aload_n dX1_sameLetters_3 rfl rfl ?_
    refine f_cVQ hG (As := []) dX1_sameLetters_4 rfl k_J0_length_8abf5 rfl rfl ml_X1_91 im_J0_length_8abf5 se_J0_length_8abf5 hs rfl (c_J0_length_8abf5 hG (d := 1) (Nat.le_refl _) _ _ hs) (by omega) (Nat.le_of_ble_eq_true rfl) (Nat.zero_le _) (Nat.zero_le _) ?_
    refine f_icmp_ge (tgt := 39) dX1_sameLetters_7 (by decide) (fun c_7 => ?_) (fun c_7 => ?_)
    · refine f_aload_n dX1_sameLetters_39 rfl rfl ?_
      refine f_cVQ hG (As := []) dX1_sameLetters_40 rfl k_J0_length_8abf5 rfl rfl ml_X1_91 im_J0_length_8abf5 se_J0_length_8abf5 hs rfl (c_J0_length_8abf5 hG (d := 1) (Nat.le_refl _) _ _ hs) (by omega) (Nat.le_of_ble_eq_true rfl) (Nat.zero_le _) (Nat.zero_le _) ?_
      refine f_ireturn dX1_sameLetters_43 rfl rfl ?_
      exact ⟨by rw [l_X1_sameLetters, if_pos c_7], rfl⟩
    · have hsl := fsb_lt hs
      have hlt : j < (fsb s).length := Nat.lt_of_not_le fun h => c_7 (nI_le h (by omega))
      refine f_aload_n dX1_sameLetters_10 rfl rfl ?_
      refine s_getr hG fl_X1_16 dX1_sameLetters_11 rfl rfl ?_
      refine f_aload_n dX1_sameLetters_14 rfl rfl ?_
      refine s_geti hG fl_X1_37 dX1_sameLetters_15 rfl rfl ?_
      refine f_iload_n dX1_sameLetters_18 rfl rfl ?_
      refine f_iadd dX1_sameLetters_19 ?_
      refine f_cV hG (As := [_]) dX1_sameLetters_20 rfl k_X10_at rfl rfl ml_X1_52 im_X10_at se_X10_at rT_277.1 rfl (c_X10_at hG (d := 1) (Nat.le_refl _) _ _ _ _ _ rT_277 (by decide)) (by omega) (Nat.le_of_ble_eq_true rfl) (Nat.zero_le _) (Nat.zero_le _) ?_
      refine f_aload_n dX1_sameLetters_23 rfl rfl ?_
      refine f_iload_n dX1_sameLetters_24 rfl rfl ?_
      refine f_cVQ hG (As := [_]) dX1_sameLetters_25 rfl k_J0_charAt_5068e rfl rfl ml_X1_107 im_J0_charAt_5068e se_J0_charAt_5068e hs rfl (c_J0_charAt_5068e hG (d := 3) (Nat.le_refl _) _ _ _ hs (vp_in_nI (by omega) (by omega))) (by omega) (Nat.le_of_ble_eq_true rfl) (Nat.zero_le _) (Nat.zero_le _) ?_
      refine f_icmp_eq (tgt := 33) dX1_sameLetters_28 (by decide) (fun c_28 => ?_) (fun c_28 => ?_)
      · refine f_iinc (v := nI (j + 1)) (ls' := [_, _, _]) dX1_sameLetters_33 rfl (nI_1 j) (Nat.le_of_ble_eq_true rfl) rfl rfl ?_
        refine f_goto (tgt := 2) dX1_sameLetters_36 (by decide) ?_
        have e9 : l_X1_sameLetters s M (m + 1) j = l_X1_sameLetters s M m (j + 1) := by rw [l_X1_sameLetters, if_neg c_7, if_pos c_28]
        rw [e9]
        exact ih (j + 1) (by omega) (by omega)
      · refine f_iload_n dX1_sameLetters_31 rfl rfl ?_
        refine f_ireturn dX1_sameLetters_32 rfl rfl ?_
        exact ⟨by rw [l_X1_sameLetters, if_neg c_7, if_neg c_28], rfl⟩
def r_X1_sameLetters (M : fM) (s : Nat) : Int32 := (l_X1_sameLetters s M 8 0)
set_option maxRecDepth 100000 in
set_option maxHeartbeats 4000000 in
theorem c_X1_sameLetters {G : fG} (hG : fOK G) {d : Nat} (hd : 4 ≤ d) (M : fM) (dv : UInt64) (s : Nat) (hs : fStr s) : fCt G z_X1_sameLetters d [.ref 276, .ref s] (sS M dv) 0 0 (fD (some (.int (r_X1_sameLetters M s))) (sS M dv)) := by
  refine fCt_to [some (.ref 276), some (.ref s), none] k_X1_sameLetters rfl (Nat.le_of_ble_eq_true rfl) rfl ?_
  have hsl := fsb_lt hs
  refine f_iconst (v := 0) dX1_sameLetters_0 rfl ?_
  refine f_istore_n (ls' := [_, _, _]) dX1_sameLetters_1 rfl (Nat.le_of_ble_eq_true rfl) rfl rfl ?_
  exact lp_X1_sameLetters hG hd _ dv s hs 8 0 (by omega) (by omega)

def l_X1_readKind (M : fM) : Nat → Nat → Int32 → Int32 × fM
  | 0, _, _ => (0, M)
  | m + 1, j, v1 => (if (6 : Int32) ≤ (nI j) then ((-1 : Int32), (fst1 M 276 5 ((M 276 5) + v1))) else (if (r_X1_sameLetters M (4096 + j)) = (nI (fsb (4096 + j)).length) then ((nI j), (fst1 M 276 5 ((M 276 5) + (r_X1_sameLetters M (4096 + j))))) else (l_X1_readKind M m (j + 1) (if v1 < (r_X1_sameLetters M (4096 + j)) then (r_X1_sameLetters M (4096 + j)) else v1))))
set_option maxRecDepth 100000 in
set_option maxHeartbeats 4000000 in
theorem lp_X1_readKind {G : fG} (hG : fOK G) {d : Nat} (hd : 5 ≤ d) (M : fM) (dv : UInt64) : ∀ (m j : Nat) (v1 : Int32), j ≤ 6 → 6 + 1 ≤ j + m → fV G z_X1_readKind d (fD (some (.int (l_X1_readKind M m j v1).1)) (sS (l_X1_readKind M m j v1).2 dv)) 4 [some (.ref 276), some (.int v1), some (.int (nI j)), none, none] [] (sS M dv) 0 0 := by
  intro m
  induction m with
  | zero => intros; omega
  | succ m ih =>
    intro j v1 hj hm
    refine f_iload_n dX1_readKind_4 rfl rfl ?_
    refine f_bipush (v := 6) dX1_readKind_5 (by decide) ?_
    refine f_icmp_ge (tgt := 57) dX1_readKind_7 (by decide) (fun c_7 => ?_) (fun c_7 => ?_)
    · refine f_aload_n dX1_readKind_57 rfl rfl ?_
      refine f_dup dX1_readKind_58 rfl ?_
      refine s_geti hG fl_X1_37 dX1_readKind_59 rfl rfl ?_
      refine f_iload_n dX1_readKind_62 rfl rfl ?_
      refine f_iadd dX1_readKind_63 ?_
      refine s_puti hG fl_X1_37 (Or.inl rfl) dX1_readKind_64 rfl rfl rfl rfl ?_
      refine f_iconst (v := (-1)) dX1_readKind_67 rfl ?_
      refine f_ireturn dX1_readKind_68 rfl rfl ?_
      exact ⟨by rw [l_X1_readKind, if_pos c_7], by rw [l_X1_readKind, if_pos c_7]⟩
    · have hlt : j < 6 := nlt (N := 6) rfl c_7 hj (by omega)
      refine f_iload_n dX1_readKind_10 rfl rfl ?_
      refine f_cS hG (As := [_]) dX1_readKind_11 rfl k_X1_nameOf rfl rfl ml_X1_77 sm_X1_nameOf (c_X1_nameOf hG (d := 0) (Nat.le_refl _) _ _ (by omega)) (by omega) (Nat.le_of_ble_eq_true rfl) (Nat.zero_le _) (Nat.zero_le _) ?_
      refine f_astore_n (ls' := [_, _, _, _, _]) dX1_readKind_14 rfl (Nat.le_of_ble_eq_true rfl) rfl rfl ?_
      refine f_aload_n dX1_readKind_15 rfl rfl ?_
      refine f_aload_n dX1_readKind_16 rfl rfl ?_
      refine f_cV hG (As := [_]) dX1_readKind_17 rfl k_X1_sameLetters rfl rfl ml_X1_81 im_X1_sameLetters se_X1_sameLetters rfl rfl (c_X1_sameLetters hG (d := 4) (Nat.le_refl _) _ _ _ (fStr_of (by omega))) (by omega) (Nat.le_of_ble_eq_true rfl) (Nat.zero_le _) (Nat.zero_le _) ?_
      refine f_istore (ls' := [_, _, _, _, _]) dX1_readKind_20 (Nat.le_of_ble_eq_true rfl) rfl rfl ?_
      refine f_iload_n dX1_readKind_22 rfl rfl ?_
      refine f_iload dX1_readKind_23 rfl ?_
      refine f_mmax hG dX1_readKind_25 mj_X1_85 mj_max (Nat.le_of_ble_eq_true rfl) ?_
      refine f_istore_n (ls' := [_, _, _, _, _]) dX1_readKind_28 rfl (Nat.le_of_ble_eq_true rfl) rfl rfl ?_
      refine f_iload dX1_readKind_29 rfl ?_
      refine f_aload_n dX1_readKind_31 rfl rfl ?_
      refine f_cVQ hG (As := []) dX1_readKind_32 rfl k_J0_length_8abf5 rfl rfl ml_X1_91 im_J0_length_8abf5 se_J0_length_8abf5 (fStr_of (by omega)) rfl (c_J0_length_8abf5 hG (d := 1) (Nat.le_refl _) _ _ (fStr_of (by omega))) (by omega) (Nat.le_of_ble_eq_true rfl) (Nat.zero_le _) (Nat.zero_le _) ?_
      refine f_icmp_ne (tgt := 51) dX1_readKind_35 (by decide) (fun c_35 => ?_) (fun c_35 => ?_)
      · refine f_iinc (v := nI (j + 1)) (ls' := [_, _, _, _, _]) dX1_readKind_51 rfl (nI_1 j) (Nat.le_of_ble_eq_true rfl) rfl rfl ?_
        refine f_goto (tgt := 4) dX1_readKind_54 (by decide) ?_
        have e9 : l_X1_readKind M (m + 1) j v1 = l_X1_readKind M m (j + 1) (if v1 < (r_X1_sameLetters M (4096 + j)) then (r_X1_sameLetters M (4096 + j)) else v1) := by rw [l_X1_readKind, if_neg c_7, if_neg c_35]
        rw [e9]
        refine f_drop 3 ?_
        refine f_drop 4 ?_
        exact ih (j + 1) (if v1 < (r_X1_sameLetters M (4096 + j)) then (r_X1_sameLetters M (4096 + j)) else v1) (by omega) (by omega)
      · refine f_aload_n dX1_readKind_38 rfl rfl ?_
        refine f_dup dX1_readKind_39 rfl ?_
        refine s_geti hG fl_X1_37 dX1_readKind_40 rfl rfl ?_
        refine f_iload dX1_readKind_43 rfl ?_
        refine f_iadd dX1_readKind_45 ?_
        refine s_puti hG fl_X1_37 (Or.inl rfl) dX1_readKind_46 rfl rfl rfl rfl ?_
        refine f_iload_n dX1_readKind_49 rfl rfl ?_
        refine f_ireturn dX1_readKind_50 rfl rfl ?_
        exact ⟨by rw [l_X1_readKind, if_neg c_7, if_pos c_35], by rw [l_X1_readKind, if_neg c_7, if_pos c_35]⟩
def r_X1_readKind (M : fM) : Int32 := (l_X1_readKind M 7 0 (0 : Int32)).1
def m_X1_readKind (M : fM) : fM := (l_X1_readKind M 7 0 (0 : Int32)).2
set_option maxRecDepth 100000 in
set_option maxHeartbeats 4000000 in
theorem c_X1_readKind {G : fG} (hG : fOK G) {d : Nat} (hd : 5 ≤ d) (M : fM) (dv : UInt64) : fCt G z_X1_readKind d [.ref 276] (sS M dv) 0 0 (fD (some (.int (r_X1_readKind M))) (sS (m_X1_readKind M) dv)) := by
  refine fCt_to [some (.ref 276), none, none, none, none] k_X1_readKind rfl (Nat.le_of_ble_eq_true rfl) rfl ?_
  refine f_iconst (v := 0) dX1_readKind_0 rfl ?_
  refine f_istore_n (ls' := [_, _, _, _, _]) dX1_readKind_1 rfl (Nat.le_of_ble_eq_true rfl) rfl rfl ?_
  refine f_iconst (v := 0) dX1_readKind_2 rfl ?_
  refine f_istore_n (ls' := [_, _, _, _, _]) dX1_readKind_3 rfl (Nat.le_of_ble_eq_true rfl) rfl rfl ?_
  exact lp_X1_readKind hG hd _ dv 7 0 _ (by omega) (by omega)

def r_X1_readDigit (M : fM) (a : Int32) : Int32 := (if (r_X10_at M 277 60 (M 276 5)) = (32 : Int32) then (if (r_X1_isDigit (fst1 M 276 5 ((M 276 5) + (1 : Int32))) (r_X10_at (fst1 M 276 5 ((M 276 5) + (1 : Int32))) 277 60 ((fst1 M 276 5 ((M 276 5) + (1 : Int32))) 276 5))) = 0 then (0 : Int32) else (1 : Int32)) else (0 : Int32))
def m_X1_readDigit (M : fM) (a : Int32) : fM := (if (r_X10_at M 277 60 (M 276 5)) = (32 : Int32) then (if (r_X1_isDigit (fst1 M 276 5 ((M 276 5) + (1 : Int32))) (r_X10_at (fst1 M 276 5 ((M 276 5) + (1 : Int32))) 277 60 ((fst1 M 276 5 ((M 276 5) + (1 : Int32))) 276 5))) = 0 then (fst1 M 276 5 ((M 276 5) + (1 : Int32))) else (fst1 (m_X1_keepArgument (fst1 M 276 5 ((M 276 5) + (1 : Int32))) a ((r_X10_at (fst1 M 276 5 ((M 276 5) + (1 : Int32))) 277 60 ((fst1 M 276 5 ((M 276 5) + (1 : Int32))) 276 5)) - (48 : Int32))) 276 5 (((m_X1_keepArgument (fst1 M 276 5 ((M 276 5) + (1 : Int32))) a ((r_X10_at (fst1 M 276 5 ((M 276 5) + (1 : Int32))) 277 60 ((fst1 M 276 5 ((M 276 5) + (1 : Int32))) 276 5)) - (48 : Int32))) 276 5) + (1 : Int32)))) else M)
theorem n_X1_readDigit (M : fM) (a : Int32) : narrow .boolean (.int (r_X1_readDigit M a)) = .int (r_X1_readDigit M a) := by
  unfold r_X1_readDigit
  repeat' with_reducible apply n_ite
  all_goals first | rfl | exact pk_nc _
set_option maxRecDepth 100000 in
set_option maxHeartbeats 4000000 in
theorem c_X1_readDigit {G : fG} (hG : fOK G) {d : Nat} (hd : 2 ≤ d) (M : fM) (dv : UInt64) (a : Int32) : fCt G z_X1_readDigit d [.ref 276, .int a] (sS M dv) 0 0 (fD (some (.int (r_X1_readDigit M a))) (sS (m_X1_readDigit M a) dv)) := by
  refine fCt_to [some (.ref 276), some (.int a)] k_X1_readDigit rfl (Nat.le_of_ble_eq_true rfl) rfl ?_
  refine f_aload_n dX1_readDigit_0 rfl rfl ?_
  refine s_getr hG fl_X1_16 dX1_readDigit_1 rfl rfl ?_
  refine f_aload_n dX1_readDigit_4 rfl rfl ?_
  refine s_geti hG fl_X1_37 dX1_readDigit_5 rfl rfl ?_
  refine f_cV hG (As := [_]) dX1_readDigit_8 rfl k_X10_at rfl rfl ml_X1_52 im_X10_at se_X10_at rT_277.1 rfl (c_X10_at hG (d := 1) (Nat.le_refl _) _ _ _ _ _ rT_277 (by decide)) (by omega) (Nat.le_of_ble_eq_true rfl) (Nat.zero_le _) (Nat.zero_le _) ?_
  refine f_bipush (v := 32) dX1_readDigit_11 (by decide) ?_
  refine f_icmp_eq (tgt := 18) dX1_readDigit_13 (by decide) (fun c_13 => ?_) (fun c_13 => ?_)
  · refine f_aload_n dX1_readDigit_18 rfl rfl ?_
    refine f_dup dX1_readDigit_19 rfl ?_
    refine s_geti hG fl_X1_37 dX1_readDigit_20 rfl rfl ?_
    refine f_iconst (v := 1) dX1_readDigit_23 rfl ?_
    refine f_iadd dX1_readDigit_24 ?_
    refine s_puti hG fl_X1_37 (Or.inl rfl) dX1_readDigit_25 rfl rfl rfl rfl ?_
    refine f_aload_n dX1_readDigit_28 rfl rfl ?_
    refine s_getr hG fl_X1_16 dX1_readDigit_29 rfl rfl ?_
    refine f_aload_n dX1_readDigit_32 rfl rfl ?_
    refine s_geti hG fl_X1_37 dX1_readDigit_33 rfl rfl ?_
    refine f_cV hG (As := [_]) dX1_readDigit_36 rfl k_X10_at rfl rfl ml_X1_52 im_X10_at se_X10_at rT_277.1 rfl (c_X10_at hG (d := 1) (Nat.le_refl _) _ _ _ _ _ rT_277 (by decide)) (by omega) (Nat.le_of_ble_eq_true rfl) (Nat.zero_le _) (Nat.zero_le _) ?_
    refine f_cS hG (As := [_]) dX1_readDigit_39 rfl k_X1_isDigit rfl rfl ml_X1_113 sm_X1_isDigit (c_X1_isDigit hG (d := 0) (Nat.le_refl _) _ _ _) (by omega) (Nat.le_of_ble_eq_true rfl) (Nat.zero_le _) (Nat.zero_le _) ?_
    refine f_if_ne (tgt := 47) dX1_readDigit_42 (by decide) (fun c_42 => ?_) (fun c_42 => ?_)
    · refine f_aload_n dX1_readDigit_47 rfl rfl ?_
      refine f_iload_n dX1_readDigit_48 rfl rfl ?_
      refine f_aload_n dX1_readDigit_49 rfl rfl ?_
      refine s_getr hG fl_X1_16 dX1_readDigit_50 rfl rfl ?_
      refine f_aload_n dX1_readDigit_53 rfl rfl ?_
      refine s_geti hG fl_X1_37 dX1_readDigit_54 rfl rfl ?_
      refine f_cV hG (As := [_]) dX1_readDigit_57 rfl k_X10_at rfl rfl ml_X1_52 im_X10_at se_X10_at rT_277.1 rfl (c_X10_at hG (d := 1) (Nat.le_refl _) _ _ _ _ _ rT_277 (by decide)) (by omega) (Nat.le_of_ble_eq_true rfl) (Nat.zero_le _) (Nat.zero_le _) ?_
      refine f_bipush (v := 48) dX1_readDigit_60 (by decide) ?_
      refine f_isub dX1_readDigit_62 ?_
      refine f_cV hG (As := [_, _]) dX1_readDigit_63 rfl k_X1_keepArgument rfl rfl ml_X1_110 im_X1_keepArgument se_X1_keepArgument rfl rfl (c_X1_keepArgument hG (d := 1) (Nat.le_refl _) _ _ _ _) (by omega) (Nat.le_of_ble_eq_true rfl) (Nat.zero_le _) (Nat.zero_le _) ?_
      refine f_aload_n dX1_readDigit_66 rfl rfl ?_
      refine f_dup dX1_readDigit_67 rfl ?_
      refine s_geti hG fl_X1_37 dX1_readDigit_68 rfl rfl ?_
      refine f_iconst (v := 1) dX1_readDigit_71 rfl ?_
      refine f_iadd dX1_readDigit_72 ?_
      refine s_puti hG fl_X1_37 (Or.inl rfl) dX1_readDigit_73 rfl rfl rfl rfl ?_
      refine f_iconst (v := 1) dX1_readDigit_76 rfl ?_
      refine f_ireturn dX1_readDigit_77 rfl rfl ?_
      exact ⟨by rw [r_X1_readDigit, if_pos c_13, if_neg c_42], by rw [m_X1_readDigit, if_pos c_13, if_neg c_42]⟩
    · refine f_iconst (v := 0) dX1_readDigit_45 rfl ?_
      refine f_ireturn dX1_readDigit_46 rfl rfl ?_
      exact ⟨by rw [r_X1_readDigit, if_pos c_13, if_pos c_42], by rw [m_X1_readDigit, if_pos c_13, if_pos c_42]⟩
  · refine f_iconst (v := 0) dX1_readDigit_16 rfl ?_
    refine f_ireturn dX1_readDigit_17 rfl rfl ?_
    exact ⟨by rw [r_X1_readDigit, if_neg c_13], by rw [m_X1_readDigit, if_neg c_13]⟩

def r_X1_readNumber (M : fM) (a : Int32) : Int32 := (if (r_X1_readDigit M a) = 0 then (0 : Int32) else (if (r_X1_isDigit (m_X1_readDigit M a) (r_X10_at (m_X1_readDigit M a) 277 60 ((m_X1_readDigit M a) 276 5))) = 0 then (1 : Int32) else (1 : Int32)))
def m_X1_readNumber (M : fM) (a : Int32) : fM := (if (r_X1_readDigit M a) = 0 then (m_X1_readDigit M a) else (if (r_X1_isDigit (m_X1_readDigit M a) (r_X10_at (m_X1_readDigit M a) 277 60 ((m_X1_readDigit M a) 276 5))) = 0 then (m_X1_readDigit M a) else (fst1 (m_X1_keepArgument (m_X1_readDigit M a) a ((((r_X1_argument (m_X1_readDigit M a) ((m_X1_readDigit M a) 276 4) a) * (10 : Int32)) + (r_X10_at (m_X1_readDigit M a) 277 60 ((m_X1_readDigit M a) 276 5))) - (48 : Int32))) 276 5 (((m_X1_keepArgument (m_X1_readDigit M a) a ((((r_X1_argument (m_X1_readDigit M a) ((m_X1_readDigit M a) 276 4) a) * (10 : Int32)) + (r_X10_at (m_X1_readDigit M a) 277 60 ((m_X1_readDigit M a) 276 5))) - (48 : Int32))) 276 5) + (1 : Int32)))))
theorem n_X1_readNumber (M : fM) (a : Int32) : narrow .boolean (.int (r_X1_readNumber M a)) = .int (r_X1_readNumber M a) := by
  unfold r_X1_readNumber
  repeat' with_reducible apply n_ite
  all_goals first | rfl | exact pk_nc _
set_option maxRecDepth 100000 in
set_option maxHeartbeats 4000000 in
theorem c_X1_readNumber {G : fG} (hG : fOK G) {d : Nat} (hd : 3 ≤ d) (M : fM) (dv : UInt64) (a : Int32) : fCt G z_X1_readNumber d [.ref 276, .int a] (sS M dv) 0 0 (fD (some (.int (r_X1_readNumber M a))) (sS (m_X1_readNumber M a) dv)) := by
  refine fCt_to [some (.ref 276), some (.int a)] k_X1_readNumber rfl (Nat.le_of_ble_eq_true rfl) rfl ?_
  refine f_aload_n dX1_readNumber_0 rfl rfl ?_
  refine f_iload_n dX1_readNumber_1 rfl rfl ?_
  refine f_cV hG (As := [_]) dX1_readNumber_2 rfl k_X1_readDigit rfl rfl ml_X1_71 im_X1_readDigit se_X1_readDigit rfl rfl (c_X1_readDigit hG (d := 2) (Nat.le_refl _) _ _ _) (by omega) (Nat.le_of_ble_eq_true rfl) (Nat.zero_le _) (Nat.zero_le _) ?_
  refine f_if_ne (tgt := 10) dX1_readNumber_5 (by decide) (fun c_5 => ?_) (fun c_5 => ?_)
  · refine f_aload_n dX1_readNumber_10 rfl rfl ?_
    refine s_getr hG fl_X1_16 dX1_readNumber_11 rfl rfl ?_
    refine f_aload_n dX1_readNumber_14 rfl rfl ?_
    refine s_geti hG fl_X1_37 dX1_readNumber_15 rfl rfl ?_
    refine f_cV hG (As := [_]) dX1_readNumber_18 rfl k_X10_at rfl rfl ml_X1_52 im_X10_at se_X10_at rT_277.1 rfl (c_X10_at hG (d := 1) (Nat.le_refl _) _ _ _ _ _ rT_277 (by decide)) (by omega) (Nat.le_of_ble_eq_true rfl) (Nat.zero_le _) (Nat.zero_le _) ?_
    refine f_cS hG (As := [_]) dX1_readNumber_21 rfl k_X1_isDigit rfl rfl ml_X1_113 sm_X1_isDigit (c_X1_isDigit hG (d := 0) (Nat.le_refl _) _ _ _) (by omega) (Nat.le_of_ble_eq_true rfl) (Nat.zero_le _) (Nat.zero_le _) ?_
    refine f_if_eq (tgt := 69) dX1_readNumber_24 (by decide) (fun c_24 => ?_) (fun c_24 => ?_)
    · refine f_iconst (v := 1) dX1_readNumber_69 rfl ?_
      refine f_ireturn dX1_readNumber_70 rfl rfl ?_
      exact ⟨by rw [r_X1_readNumber, if_neg c_5, if_pos c_24], by rw [m_X1_readNumber, if_neg c_5, if_pos c_24]⟩
    · refine f_aload_n dX1_readNumber_27 rfl rfl ?_
      refine f_iload_n dX1_readNumber_28 rfl rfl ?_
      refine f_aload_n dX1_readNumber_29 rfl rfl ?_
      refine f_aload_n dX1_readNumber_30 rfl rfl ?_
      refine s_geti hG fl_X1_34 dX1_readNumber_31 rfl rfl ?_
      refine f_iload_n dX1_readNumber_34 rfl rfl ?_
      refine f_cV hG (As := [_, _]) dX1_readNumber_35 rfl k_X1_argument rfl rfl ml_X1_117 im_X1_argument se_X1_argument rfl rfl (c_X1_argument hG (d := 1) (Nat.le_refl _) _ _ _ _) (by omega) (Nat.le_of_ble_eq_true rfl) (Nat.zero_le _) (Nat.zero_le _) ?_
      refine f_bipush (v := 10) dX1_readNumber_38 (by decide) ?_
      refine f_imul dX1_readNumber_40 ?_
      refine f_aload_n dX1_readNumber_41 rfl rfl ?_
      refine s_getr hG fl_X1_16 dX1_readNumber_42 rfl rfl ?_
      refine f_aload_n dX1_readNumber_45 rfl rfl ?_
      refine s_geti hG fl_X1_37 dX1_readNumber_46 rfl rfl ?_
      refine f_cV hG (As := [_]) dX1_readNumber_49 rfl k_X10_at rfl rfl ml_X1_52 im_X10_at se_X10_at rT_277.1 rfl (c_X10_at hG (d := 1) (Nat.le_refl _) _ _ _ _ _ rT_277 (by decide)) (by omega) (Nat.le_of_ble_eq_true rfl) (Nat.zero_le _) (Nat.zero_le _) ?_
      refine f_iadd dX1_readNumber_52 ?_
      refine f_bipush (v := 48) dX1_readNumber_53 (by decide) ?_
      refine f_isub dX1_readNumber_55 ?_
      refine f_cV hG (As := [_, _]) dX1_readNumber_56 rfl k_X1_keepArgument rfl rfl ml_X1_110 im_X1_keepArgument se_X1_keepArgument rfl rfl (c_X1_keepArgument hG (d := 1) (Nat.le_refl _) _ _ _ _) (by omega) (Nat.le_of_ble_eq_true rfl) (Nat.zero_le _) (Nat.zero_le _) ?_
      refine f_aload_n dX1_readNumber_59 rfl rfl ?_
      refine f_dup dX1_readNumber_60 rfl ?_
      refine s_geti hG fl_X1_37 dX1_readNumber_61 rfl rfl ?_
      refine f_iconst (v := 1) dX1_readNumber_64 rfl ?_
      refine f_iadd dX1_readNumber_65 ?_
      refine s_puti hG fl_X1_37 (Or.inl rfl) dX1_readNumber_66 rfl rfl rfl rfl ?_
      refine f_iconst (v := 1) dX1_readNumber_69 rfl ?_
      refine f_ireturn dX1_readNumber_70 rfl rfl ?_
      exact ⟨by rw [r_X1_readNumber, if_neg c_5, if_neg c_24], by rw [m_X1_readNumber, if_neg c_5, if_neg c_24]⟩
  · refine f_iconst (v := 0) dX1_readNumber_8 rfl ?_
    refine f_ireturn dX1_readNumber_9 rfl rfl ?_
    exact ⟨by rw [r_X1_readNumber, if_pos c_5], by rw [m_X1_readNumber, if_pos c_5]⟩

def r_X1_readDays (M : fM) : Int32 := (if (r_X10_at M 277 60 (M 276 5)) = (32 : Int32) then (r_X1_readNumber M (0 : Int32)) else (1 : Int32))
def m_X1_readDays (M : fM) : fM := (if (r_X10_at M 277 60 (M 276 5)) = (32 : Int32) then (m_X1_readNumber M (0 : Int32)) else (m_X1_keepArgument M (0 : Int32) (1 : Int32)))
theorem n_X1_readDays (M : fM) : narrow .boolean (.int (r_X1_readDays M)) = .int (r_X1_readDays M) := by
  unfold r_X1_readDays
  repeat' with_reducible apply n_ite
  all_goals first | with_reducible exact n_X1_readNumber .. | rfl | exact pk_nc _
set_option maxRecDepth 100000 in
set_option maxHeartbeats 4000000 in
theorem c_X1_readDays {G : fG} (hG : fOK G) {d : Nat} (hd : 4 ≤ d) (M : fM) (dv : UInt64) : fCt G z_X1_readDays d [.ref 276] (sS M dv) 0 0 (fD (some (.int (r_X1_readDays M))) (sS (m_X1_readDays M) dv)) := by
  refine fCt_to [some (.ref 276)] k_X1_readDays rfl (Nat.le_of_ble_eq_true rfl) rfl ?_
  refine f_aload_n dX1_readDays_0 rfl rfl ?_
  refine s_getr hG fl_X1_16 dX1_readDays_1 rfl rfl ?_
  refine f_aload_n dX1_readDays_4 rfl rfl ?_
  refine s_geti hG fl_X1_37 dX1_readDays_5 rfl rfl ?_
  refine f_cV hG (As := [_]) dX1_readDays_8 rfl k_X10_at rfl rfl ml_X1_52 im_X10_at se_X10_at rT_277.1 rfl (c_X10_at hG (d := 1) (Nat.le_refl _) _ _ _ _ _ rT_277 (by decide)) (by omega) (Nat.le_of_ble_eq_true rfl) (Nat.zero_le _) (Nat.zero_le _) ?_
  refine f_bipush (v := 32) dX1_readDays_11 (by decide) ?_
  refine f_icmp_ne (tgt := 22) dX1_readDays_13 (by decide) (fun c_13 => ?_) (fun c_13 => ?_)
  · refine f_aload_n dX1_readDays_22 rfl rfl ?_
    refine f_iconst (v := 0) dX1_readDays_23 rfl ?_
    refine f_iconst (v := 1) dX1_readDays_24 rfl ?_
    refine f_cV hG (As := [_, _]) dX1_readDays_25 rfl k_X1_keepArgument rfl rfl ml_X1_110 im_X1_keepArgument se_X1_keepArgument rfl rfl (c_X1_keepArgument hG (d := 1) (Nat.le_refl _) _ _ _ _) (by omega) (Nat.le_of_ble_eq_true rfl) (Nat.zero_le _) (Nat.zero_le _) ?_
    refine f_iconst (v := 1) dX1_readDays_28 rfl ?_
    refine f_ireturn dX1_readDays_29 rfl rfl ?_
    exact ⟨by rw [r_X1_readDays, if_neg c_13], by rw [m_X1_readDays, if_neg c_13]⟩
  · refine f_aload_n dX1_readDays_16 rfl rfl ?_
    refine f_iconst (v := 0) dX1_readDays_17 rfl ?_
    refine f_cV hG (As := [_]) dX1_readDays_18 rfl k_X1_readNumber rfl rfl ml_X1_67 im_X1_readNumber se_X1_readNumber rfl rfl (c_X1_readNumber hG (d := 3) (Nat.le_refl _) _ _ _) (by omega) (Nat.le_of_ble_eq_true rfl) (Nat.zero_le _) (Nat.zero_le _) ?_
    refine f_ireturn dX1_readDays_21 rfl (n_X1_readNumber ..) ?_
    exact ⟨by rw [r_X1_readDays, if_pos c_13], by rw [m_X1_readDays, if_pos c_13]⟩

def r_X1_readCommand (M : fM) : Int32 := (if (r_X1_readKind M) = (0 : Int32) then (1 : Int32) else (if (r_X1_readKind M) = (1 : Int32) then (if (r_X1_readNumber (rset (m_X1_readKind M) 280 20 ((m_X1_readKind M) 276 4) (r_X1_readKind M)) (0 : Int32)) = 0 then (0 : Int32) else (if (r_X1_readNumber (m_X1_readNumber (rset (m_X1_readKind M) 280 20 ((m_X1_readKind M) 276 4) (r_X1_readKind M)) (0 : Int32)) (1 : Int32)) = 0 then (0 : Int32) else (1 : Int32))) else (if (r_X1_readKind M) = (2 : Int32) then (if (r_X1_readDigit (rset (m_X1_readKind M) 280 20 ((m_X1_readKind M) 276 4) (r_X1_readKind M)) (0 : Int32)) = 0 then (0 : Int32) else (if (r_X1_readDigit (m_X1_readDigit (rset (m_X1_readKind M) 280 20 ((m_X1_readKind M) 276 4) (r_X1_readKind M)) (0 : Int32)) (1 : Int32)) = 0 then (0 : Int32) else (if (r_X1_readDigit (m_X1_readDigit (m_X1_readDigit (rset (m_X1_readKind M) 280 20 ((m_X1_readKind M) 276 4) (r_X1_readKind M)) (0 : Int32)) (1 : Int32)) (2 : Int32)) = 0 then (0 : Int32) else (if (r_X1_readDigit (m_X1_readDigit (m_X1_readDigit (m_X1_readDigit (rset (m_X1_readKind M) 280 20 ((m_X1_readKind M) 276 4) (r_X1_readKind M)) (0 : Int32)) (1 : Int32)) (2 : Int32)) (3 : Int32)) = 0 then (0 : Int32) else (1 : Int32))))) else (if (r_X1_readKind M) = (3 : Int32) then (r_X1_readNumber (rset (m_X1_readKind M) 280 20 ((m_X1_readKind M) 276 4) (r_X1_readKind M)) (0 : Int32)) else (if (r_X1_readKind M) = (4 : Int32) then (r_X1_readDays (rset (m_X1_readKind M) 280 20 ((m_X1_readKind M) 276 4) (r_X1_readKind M))) else (if (r_X1_readKind M) = (5 : Int32) then (r_X1_readDigit (rset (m_X1_readKind M) 280 20 ((m_X1_readKind M) 276 4) (r_X1_readKind M)) (0 : Int32)) else (0 : Int32)))))))
def m_X1_readCommand (M : fM) : fM := (if (r_X1_readKind M) = (0 : Int32) then (rset (m_X1_readKind M) 280 20 ((m_X1_readKind M) 276 4) (r_X1_readKind M)) else (if (r_X1_readKind M) = (1 : Int32) then (if (r_X1_readNumber (rset (m_X1_readKind M) 280 20 ((m_X1_readKind M) 276 4) (r_X1_readKind M)) (0 : Int32)) = 0 then (m_X1_readNumber (rset (m_X1_readKind M) 280 20 ((m_X1_readKind M) 276 4) (r_X1_readKind M)) (0 : Int32)) else (if (r_X1_readNumber (m_X1_readNumber (rset (m_X1_readKind M) 280 20 ((m_X1_readKind M) 276 4) (r_X1_readKind M)) (0 : Int32)) (1 : Int32)) = 0 then (m_X1_readNumber (m_X1_readNumber (rset (m_X1_readKind M) 280 20 ((m_X1_readKind M) 276 4) (r_X1_readKind M)) (0 : Int32)) (1 : Int32)) else (m_X1_readNumber (m_X1_readNumber (rset (m_X1_readKind M) 280 20 ((m_X1_readKind M) 276 4) (r_X1_readKind M)) (0 : Int32)) (1 : Int32)))) else (if (r_X1_readKind M) = (2 : Int32) then (if (r_X1_readDigit (rset (m_X1_readKind M) 280 20 ((m_X1_readKind M) 276 4) (r_X1_readKind M)) (0 : Int32)) = 0 then (m_X1_readDigit (rset (m_X1_readKind M) 280 20 ((m_X1_readKind M) 276 4) (r_X1_readKind M)) (0 : Int32)) else (if (r_X1_readDigit (m_X1_readDigit (rset (m_X1_readKind M) 280 20 ((m_X1_readKind M) 276 4) (r_X1_readKind M)) (0 : Int32)) (1 : Int32)) = 0 then (m_X1_readDigit (m_X1_readDigit (rset (m_X1_readKind M) 280 20 ((m_X1_readKind M) 276 4) (r_X1_readKind M)) (0 : Int32)) (1 : Int32)) else (if (r_X1_readDigit (m_X1_readDigit (m_X1_readDigit (rset (m_X1_readKind M) 280 20 ((m_X1_readKind M) 276 4) (r_X1_readKind M)) (0 : Int32)) (1 : Int32)) (2 : Int32)) = 0 then (m_X1_readDigit (m_X1_readDigit (m_X1_readDigit (rset (m_X1_readKind M) 280 20 ((m_X1_readKind M) 276 4) (r_X1_readKind M)) (0 : Int32)) (1 : Int32)) (2 : Int32)) else (if (r_X1_readDigit (m_X1_readDigit (m_X1_readDigit (m_X1_readDigit (rset (m_X1_readKind M) 280 20 ((m_X1_readKind M) 276 4) (r_X1_readKind M)) (0 : Int32)) (1 : Int32)) (2 : Int32)) (3 : Int32)) = 0 then (m_X1_readDigit (m_X1_readDigit (m_X1_readDigit (m_X1_readDigit (rset (m_X1_readKind M) 280 20 ((m_X1_readKind M) 276 4) (r_X1_readKind M)) (0 : Int32)) (1 : Int32)) (2 : Int32)) (3 : Int32)) else (m_X1_readDigit (m_X1_readDigit (m_X1_readDigit (m_X1_readDigit (rset (m_X1_readKind M) 280 20 ((m_X1_readKind M) 276 4) (r_X1_readKind M)) (0 : Int32)) (1 : Int32)) (2 : Int32)) (3 : Int32)))))) else (if (r_X1_readKind M) = (3 : Int32) then (m_X1_readNumber (rset (m_X1_readKind M) 280 20 ((m_X1_readKind M) 276 4) (r_X1_readKind M)) (0 : Int32)) else (if (r_X1_readKind M) = (4 : Int32) then (m_X1_readDays (rset (m_X1_readKind M) 280 20 ((m_X1_readKind M) 276 4) (r_X1_readKind M))) else (if (r_X1_readKind M) = (5 : Int32) then (m_X1_readDigit (rset (m_X1_readKind M) 280 20 ((m_X1_readKind M) 276 4) (r_X1_readKind M)) (0 : Int32)) else (rset (m_X1_readKind M) 280 20 ((m_X1_readKind M) 276 4) (r_X1_readKind M))))))))
theorem n_X1_readCommand (M : fM) : narrow .boolean (.int (r_X1_readCommand M)) = .int (r_X1_readCommand M) := by
  unfold r_X1_readCommand
  repeat' with_reducible apply n_ite
  all_goals first | with_reducible exact n_X1_readDays .. | with_reducible exact n_X1_readDigit .. | with_reducible exact n_X1_readNumber .. | rfl | exact pk_nc _
set_option maxRecDepth 100000 in
set_option maxHeartbeats 4000000 in
theorem c_X1_readCommand {G : fG} (hG : fOK G) {d : Nat} (hd : 6 ≤ d) (M : fM) (dv : UInt64) : fCt G z_X1_readCommand d [.ref 276] (sS M dv) 0 0 (fD (some (.int (r_X1_readCommand M))) (sS (m_X1_readCommand M) dv)) := by
  refine fCt_to [some (.ref 276), none] k_X1_readCommand rfl (Nat.le_of_ble_eq_true rfl) rfl ?_
  refine f_aload_n dX1_readCommand_0 rfl rfl ?_
  refine f_cV hG (As := []) dX1_readCommand_1 rfl k_X1_readKind rfl rfl ml_X1_59 im_X1_readKind se_X1_readKind rfl rfl (c_X1_readKind hG (d := 5) (Nat.le_refl _) _ _) (by omega) (Nat.le_of_ble_eq_true rfl) (Nat.zero_le _) (Nat.zero_le _) ?_
  refine f_istore_n (ls' := [_, _]) dX1_readCommand_4 rfl (Nat.le_of_ble_eq_true rfl) rfl rfl ?_
  refine f_aload_n dX1_readCommand_5 rfl rfl ?_
  refine s_getr hG fl_X1_23 dX1_readCommand_6 rfl rfl ?_
  refine f_aload_n dX1_readCommand_9 rfl rfl ?_
  refine s_geti hG fl_X1_34 dX1_readCommand_10 rfl rfl ?_
  refine f_iload_n dX1_readCommand_13 rfl rfl ?_
  refine f_cV hG (As := [_, _]) dX1_readCommand_14 rfl k_X7_set rfl rfl ml_X1_63 im_X7_set se_X7_set rR_280.1 rfl (c_X7_set hG (Nat.le_refl _) _ _ _ _ rR_280 (by decide) _ _) (by omega) (Nat.le_of_ble_eq_true rfl) (Nat.zero_le _) (Nat.zero_le _) ?_
  refine f_iload_n dX1_readCommand_17 rfl rfl ?_
  by_cases c_18_0 : (r_X1_readKind M) = (0 : Int32)
  · refine f_tableIn (off := 38) (tgt := 56) dX1_readCommand_18 (by rw [c_18_0]; decide) (by rw [c_18_0]; decide) (by rw [c_18_0]; rfl) (by decide) ?_
    refine f_iconst (v := 1) dX1_readCommand_56 rfl ?_
    refine f_ireturn dX1_readCommand_57 rfl rfl ?_
    exact ⟨by rw [r_X1_readCommand, if_pos c_18_0], by rw [m_X1_readCommand, if_pos c_18_0]⟩
  · by_cases c_18_1 : (r_X1_readKind M) = (1 : Int32)
    · refine f_tableIn (off := 40) (tgt := 58) dX1_readCommand_18 (by rw [c_18_1]; decide) (by rw [c_18_1]; decide) (by rw [c_18_1]; rfl) (by decide) ?_
      refine f_aload_n dX1_readCommand_58 rfl rfl ?_
      refine f_iconst (v := 0) dX1_readCommand_59 rfl ?_
      refine f_cV hG (As := [_]) dX1_readCommand_60 rfl k_X1_readNumber rfl rfl ml_X1_67 im_X1_readNumber se_X1_readNumber rfl rfl (c_X1_readNumber hG (d := 3) (Nat.le_refl _) _ _ _) (by omega) (Nat.le_of_ble_eq_true rfl) (Nat.zero_le _) (Nat.zero_le _) ?_
      refine f_if_eq (tgt := 78) dX1_readCommand_63 (by decide) (fun c_63 => ?_) (fun c_63 => ?_)
      · refine f_iconst (v := 0) dX1_readCommand_78 rfl ?_
        refine f_ireturn dX1_readCommand_79 rfl rfl ?_
        exact ⟨by rw [r_X1_readCommand, if_neg c_18_0, if_pos c_18_1, if_pos c_63], by rw [m_X1_readCommand, if_neg c_18_0, if_pos c_18_1, if_pos c_63]⟩
      · refine f_aload_n dX1_readCommand_66 rfl rfl ?_
        refine f_iconst (v := 1) dX1_readCommand_67 rfl ?_
        refine f_cV hG (As := [_]) dX1_readCommand_68 rfl k_X1_readNumber rfl rfl ml_X1_67 im_X1_readNumber se_X1_readNumber rfl rfl (c_X1_readNumber hG (d := 3) (Nat.le_refl _) _ _ _) (by omega) (Nat.le_of_ble_eq_true rfl) (Nat.zero_le _) (Nat.zero_le _) ?_
        refine f_if_eq (tgt := 78) dX1_readCommand_71 (by decide) (fun c_71 => ?_) (fun c_71 => ?_)
        · refine f_iconst (v := 0) dX1_readCommand_78 rfl ?_
          refine f_ireturn dX1_readCommand_79 rfl rfl ?_
          exact ⟨by rw [r_X1_readCommand, if_neg c_18_0, if_pos c_18_1, if_neg c_63, if_pos c_71], by rw [m_X1_readCommand, if_neg c_18_0, if_pos c_18_1, if_neg c_63, if_pos c_71]⟩
        · refine f_iconst (v := 1) dX1_readCommand_74 rfl ?_
          refine f_goto (tgt := 79) dX1_readCommand_75 (by decide) ?_
          refine f_ireturn dX1_readCommand_79 rfl rfl ?_
          exact ⟨by rw [r_X1_readCommand, if_neg c_18_0, if_pos c_18_1, if_neg c_63, if_neg c_71], by rw [m_X1_readCommand, if_neg c_18_0, if_pos c_18_1, if_neg c_63, if_neg c_71]⟩
    · by_cases c_18_2 : (r_X1_readKind M) = (2 : Int32)
      · refine f_tableIn (off := 62) (tgt := 80) dX1_readCommand_18 (by rw [c_18_2]; decide) (by rw [c_18_2]; decide) (by rw [c_18_2]; rfl) (by decide) ?_
        refine f_aload_n dX1_readCommand_80 rfl rfl ?_
        refine f_iconst (v := 0) dX1_readCommand_81 rfl ?_
        refine f_cV hG (As := [_]) dX1_readCommand_82 rfl k_X1_readDigit rfl rfl ml_X1_71 im_X1_readDigit se_X1_readDigit rfl rfl (c_X1_readDigit hG (d := 2) (Nat.le_refl _) _ _ _) (by omega) (Nat.le_of_ble_eq_true rfl) (Nat.zero_le _) (Nat.zero_le _) ?_
        refine f_if_eq (tgt := 116) dX1_readCommand_85 (by decide) (fun c_85 => ?_) (fun c_85 => ?_)
        · refine f_iconst (v := 0) dX1_readCommand_116 rfl ?_
          refine f_ireturn dX1_readCommand_117 rfl rfl ?_
          exact ⟨by rw [r_X1_readCommand, if_neg c_18_0, if_neg c_18_1, if_pos c_18_2, if_pos c_85], by rw [m_X1_readCommand, if_neg c_18_0, if_neg c_18_1, if_pos c_18_2, if_pos c_85]⟩
        · refine f_aload_n dX1_readCommand_88 rfl rfl ?_
          refine f_iconst (v := 1) dX1_readCommand_89 rfl ?_
          refine f_cV hG (As := [_]) dX1_readCommand_90 rfl k_X1_readDigit rfl rfl ml_X1_71 im_X1_readDigit se_X1_readDigit rfl rfl (c_X1_readDigit hG (d := 2) (Nat.le_refl _) _ _ _) (by omega) (Nat.le_of_ble_eq_true rfl) (Nat.zero_le _) (Nat.zero_le _) ?_
          refine f_if_eq (tgt := 116) dX1_readCommand_93 (by decide) (fun c_93 => ?_) (fun c_93 => ?_)
          · refine f_iconst (v := 0) dX1_readCommand_116 rfl ?_
            refine f_ireturn dX1_readCommand_117 rfl rfl ?_
            exact ⟨by rw [r_X1_readCommand, if_neg c_18_0, if_neg c_18_1, if_pos c_18_2, if_neg c_85, if_pos c_93], by rw [m_X1_readCommand, if_neg c_18_0, if_neg c_18_1, if_pos c_18_2, if_neg c_85, if_pos c_93]⟩
          · refine f_aload_n dX1_readCommand_96 rfl rfl ?_
            refine f_iconst (v := 2) dX1_readCommand_97 rfl ?_
            refine f_cV hG (As := [_]) dX1_readCommand_98 rfl k_X1_readDigit rfl rfl ml_X1_71 im_X1_readDigit se_X1_readDigit rfl rfl (c_X1_readDigit hG (d := 2) (Nat.le_refl _) _ _ _) (by omega) (Nat.le_of_ble_eq_true rfl) (Nat.zero_le _) (Nat.zero_le _) ?_
            refine f_if_eq (tgt := 116) dX1_readCommand_101 (by decide) (fun c_101 => ?_) (fun c_101 => ?_)
            · refine f_iconst (v := 0) dX1_readCommand_116 rfl ?_
              refine f_ireturn dX1_readCommand_117 rfl rfl ?_
              exact ⟨by rw [r_X1_readCommand, if_neg c_18_0, if_neg c_18_1, if_pos c_18_2, if_neg c_85, if_neg c_93, if_pos c_101], by rw [m_X1_readCommand, if_neg c_18_0, if_neg c_18_1, if_pos c_18_2, if_neg c_85, if_neg c_93, if_pos c_101]⟩
            · refine f_aload_n dX1_readCommand_104 rfl rfl ?_
              refine f_iconst (v := 3) dX1_readCommand_105 rfl ?_
              refine f_cV hG (As := [_]) dX1_readCommand_106 rfl k_X1_readDigit rfl rfl ml_X1_71 im_X1_readDigit se_X1_readDigit rfl rfl (c_X1_readDigit hG (d := 2) (Nat.le_refl _) _ _ _) (by omega) (Nat.le_of_ble_eq_true rfl) (Nat.zero_le _) (Nat.zero_le _) ?_
              refine f_if_eq (tgt := 116) dX1_readCommand_109 (by decide) (fun c_109 => ?_) (fun c_109 => ?_)
              · refine f_iconst (v := 0) dX1_readCommand_116 rfl ?_
                refine f_ireturn dX1_readCommand_117 rfl rfl ?_
                exact ⟨by rw [r_X1_readCommand, if_neg c_18_0, if_neg c_18_1, if_pos c_18_2, if_neg c_85, if_neg c_93, if_neg c_101, if_pos c_109], by rw [m_X1_readCommand, if_neg c_18_0, if_neg c_18_1, if_pos c_18_2, if_neg c_85, if_neg c_93, if_neg c_101, if_pos c_109]⟩
              · refine f_iconst (v := 1) dX1_readCommand_112 rfl ?_
                refine f_goto (tgt := 117) dX1_readCommand_113 (by decide) ?_
                refine f_ireturn dX1_readCommand_117 rfl rfl ?_
                exact ⟨by rw [r_X1_readCommand, if_neg c_18_0, if_neg c_18_1, if_pos c_18_2, if_neg c_85, if_neg c_93, if_neg c_101, if_neg c_109], by rw [m_X1_readCommand, if_neg c_18_0, if_neg c_18_1, if_pos c_18_2, if_neg c_85, if_neg c_93, if_neg c_101, if_neg c_109]⟩
      · by_cases c_18_3 : (r_X1_readKind M) = (3 : Int32)
        · refine f_tableIn (off := 100) (tgt := 118) dX1_readCommand_18 (by rw [c_18_3]; decide) (by rw [c_18_3]; decide) (by rw [c_18_3]; rfl) (by decide) ?_
          refine f_aload_n dX1_readCommand_118 rfl rfl ?_
          refine f_iconst (v := 0) dX1_readCommand_119 rfl ?_
          refine f_cV hG (As := [_]) dX1_readCommand_120 rfl k_X1_readNumber rfl rfl ml_X1_67 im_X1_readNumber se_X1_readNumber rfl rfl (c_X1_readNumber hG (d := 3) (Nat.le_refl _) _ _ _) (by omega) (Nat.le_of_ble_eq_true rfl) (Nat.zero_le _) (Nat.zero_le _) ?_
          refine f_ireturn dX1_readCommand_123 rfl (n_X1_readNumber ..) ?_
          exact ⟨by rw [r_X1_readCommand, if_neg c_18_0, if_neg c_18_1, if_neg c_18_2, if_pos c_18_3], by rw [m_X1_readCommand, if_neg c_18_0, if_neg c_18_1, if_neg c_18_2, if_pos c_18_3]⟩
        · by_cases c_18_4 : (r_X1_readKind M) = (4 : Int32)
          · refine f_tableIn (off := 106) (tgt := 124) dX1_readCommand_18 (by rw [c_18_4]; decide) (by rw [c_18_4]; decide) (by rw [c_18_4]; rfl) (by decide) ?_
            refine f_aload_n dX1_readCommand_124 rfl rfl ?_
            refine f_cV hG (As := []) dX1_readCommand_125 rfl k_X1_readDays rfl rfl ml_X1_74 im_X1_readDays se_X1_readDays rfl rfl (c_X1_readDays hG (d := 4) (Nat.le_refl _) _ _) (by omega) (Nat.le_of_ble_eq_true rfl) (Nat.zero_le _) (Nat.zero_le _) ?_
            refine f_ireturn dX1_readCommand_128 rfl (n_X1_readDays ..) ?_
            exact ⟨by rw [r_X1_readCommand, if_neg c_18_0, if_neg c_18_1, if_neg c_18_2, if_neg c_18_3, if_pos c_18_4], by rw [m_X1_readCommand, if_neg c_18_0, if_neg c_18_1, if_neg c_18_2, if_neg c_18_3, if_pos c_18_4]⟩
          · by_cases c_18_5 : (r_X1_readKind M) = (5 : Int32)
            · refine f_tableIn (off := 111) (tgt := 129) dX1_readCommand_18 (by rw [c_18_5]; decide) (by rw [c_18_5]; decide) (by rw [c_18_5]; rfl) (by decide) ?_
              refine f_aload_n dX1_readCommand_129 rfl rfl ?_
              refine f_iconst (v := 0) dX1_readCommand_130 rfl ?_
              refine f_cV hG (As := [_]) dX1_readCommand_131 rfl k_X1_readDigit rfl rfl ml_X1_71 im_X1_readDigit se_X1_readDigit rfl rfl (c_X1_readDigit hG (d := 2) (Nat.le_refl _) _ _ _) (by omega) (Nat.le_of_ble_eq_true rfl) (Nat.zero_le _) (Nat.zero_le _) ?_
              refine f_ireturn dX1_readCommand_134 rfl (n_X1_readDigit ..) ?_
              exact ⟨by rw [r_X1_readCommand, if_neg c_18_0, if_neg c_18_1, if_neg c_18_2, if_neg c_18_3, if_neg c_18_4, if_pos c_18_5], by rw [m_X1_readCommand, if_neg c_18_0, if_neg c_18_1, if_neg c_18_2, if_neg c_18_3, if_neg c_18_4, if_pos c_18_5]⟩
            · refine f_tableOut (tgt := 135) dX1_readCommand_18 (ts_0_5 c_18_0 c_18_1 c_18_2 c_18_3 c_18_4 c_18_5) (by decide) ?_
              refine f_iconst (v := 0) dX1_readCommand_135 rfl ?_
              refine f_ireturn dX1_readCommand_136 rfl rfl ?_
              exact ⟨by rw [r_X1_readCommand, if_neg c_18_0, if_neg c_18_1, if_neg c_18_2, if_neg c_18_3, if_neg c_18_4, if_neg c_18_5], by rw [m_X1_readCommand, if_neg c_18_0, if_neg c_18_1, if_neg c_18_2, if_neg c_18_3, if_neg c_18_4, if_neg c_18_5]⟩

def l_X1_read (t : Nat) : fM → Nat → Nat → Int32 × fM
  | M, 0, _ => (0, M)
  | M, m + 1, j => (if (20 : Int32) ≤ (nI j) then ((0 : Int32), M) else (if (r_X1_readCommand (fst1 (fst1 M 276 4 (nI j)) 276 3 ((nI j) + (1 : Int32)))) = 0 then ((0 : Int32), (m_X1_readCommand (fst1 (fst1 M 276 4 (nI j)) 276 3 ((nI j) + (1 : Int32))))) else (if (r_X10_at (m_X1_readCommand (fst1 (fst1 M 276 4 (nI j)) 276 3 ((nI j) + (1 : Int32)))) 277 60 ((m_X1_readCommand (fst1 (fst1 M 276 4 (nI j)) 276 3 ((nI j) + (1 : Int32)))) 276 5)) = (59 : Int32) then (l_X1_read t (fst1 (m_X1_readCommand (fst1 (fst1 M 276 4 (nI j)) 276 3 ((nI j) + (1 : Int32)))) 276 5 (((m_X1_readCommand (fst1 (fst1 M 276 4 (nI j)) 276 3 ((nI j) + (1 : Int32)))) 276 5) + (1 : Int32))) m (j + 1)) else (if ((m_X1_readCommand (fst1 (fst1 M 276 4 (nI j)) 276 3 ((nI j) + (1 : Int32)))) 276 5) = ((m_X1_readCommand (fst1 (fst1 M 276 4 (nI j)) 276 3 ((nI j) + (1 : Int32)))) 277 2) then ((1 : Int32), (m_X1_readCommand (fst1 (fst1 M 276 4 (nI j)) 276 3 ((nI j) + (1 : Int32))))) else ((0 : Int32), (m_X1_readCommand (fst1 (fst1 M 276 4 (nI j)) 276 3 ((nI j) + (1 : Int32)))))))))
set_option maxRecDepth 100000 in
set_option maxHeartbeats 4000000 in
theorem lp_X1_read {G : fG} (hG : fOK G) {d : Nat} (hd : 7 ≤ d) (dv : UInt64) (t : Nat) (ht : rText t 60) : ∀ (m j : Nat) (M : fM), j ≤ 20 → 20 + 1 ≤ j + m → fV G z_X1_read d (fD (some (.int (l_X1_read t M m j).1)) (sS (l_X1_read t M m j).2 dv)) 15 [some (.ref 276), some (.ref t), some (.int (nI j))] [] (sS M dv) 0 0 := by
  intro m
  induction m with
  | zero => intros; omega
  | succ m ih =>
    intro j M hj hm
    refine f_iload_n dX1_read_15 rfl rfl ?_
    refine f_bipush (v := 20) dX1_read_16 (by decide) ?_
    refine f_icmp_ge (tgt := 94) dX1_read_18 (by decide) (fun c_18 => ?_) (fun c_18 => ?_)
    · refine f_iconst (v := 0) dX1_read_94 rfl ?_
      refine f_ireturn dX1_read_95 rfl rfl ?_
      exact ⟨by rw [l_X1_read, if_pos c_18], by rw [l_X1_read, if_pos c_18]⟩
    · have hlt : j < 20 := nlt (N := 20) rfl c_18 hj (by omega)
      refine f_aload_n dX1_read_21 rfl rfl ?_
      refine f_iload_n dX1_read_22 rfl rfl ?_
      refine s_puti hG fl_X1_34 (Or.inl rfl) dX1_read_23 rfl rfl rfl rfl ?_
      refine f_aload_n dX1_read_26 rfl rfl ?_
      refine f_iload_n dX1_read_27 rfl rfl ?_
      refine f_iconst (v := 1) dX1_read_28 rfl ?_
      refine f_iadd dX1_read_29 ?_
      refine s_puti hG fl_X1_30 (Or.inl rfl) dX1_read_30 rfl rfl rfl rfl ?_
      refine f_aload_n dX1_read_33 rfl rfl ?_
      refine f_cV hG (As := []) dX1_read_34 rfl k_X1_readCommand rfl rfl ml_X1_48 im_X1_readCommand se_X1_readCommand rfl rfl (c_X1_readCommand hG (d := 6) (Nat.le_refl _) _ _) (by omega) (Nat.le_of_ble_eq_true rfl) (Nat.zero_le _) (Nat.zero_le _) ?_
      refine f_if_ne (tgt := 42) dX1_read_37 (by decide) (fun c_37 => ?_) (fun c_37 => ?_)
      · refine f_aload_n dX1_read_42 rfl rfl ?_
        refine s_getr hG fl_X1_16 dX1_read_43 rfl rfl ?_
        refine f_aload_n dX1_read_46 rfl rfl ?_
        refine s_geti hG fl_X1_37 dX1_read_47 rfl rfl ?_
        refine f_cV hG (As := [_]) dX1_read_50 rfl k_X10_at rfl rfl ml_X1_52 im_X10_at se_X10_at rT_277.1 rfl (c_X10_at hG (d := 1) (Nat.le_refl _) _ _ _ _ _ rT_277 (by decide)) (by omega) (Nat.le_of_ble_eq_true rfl) (Nat.zero_le _) (Nat.zero_le _) ?_
        refine f_bipush (v := 59) dX1_read_53 (by decide) ?_
        refine f_icmp_eq (tgt := 78) dX1_read_55 (by decide) (fun c_55 => ?_) (fun c_55 => ?_)
        · refine f_aload_n dX1_read_78 rfl rfl ?_
          refine f_dup dX1_read_79 rfl ?_
          refine s_geti hG fl_X1_37 dX1_read_80 rfl rfl ?_
          refine f_iconst (v := 1) dX1_read_83 rfl ?_
          refine f_iadd dX1_read_84 ?_
          refine s_puti hG fl_X1_37 (Or.inl rfl) dX1_read_85 rfl rfl rfl rfl ?_
          refine f_iinc (v := nI (j + 1)) (ls' := [_, _, _]) dX1_read_88 rfl (nI_1 j) (Nat.le_of_ble_eq_true rfl) rfl rfl ?_
          refine f_goto (tgt := 15) dX1_read_91 (by decide) ?_
          have e9 : l_X1_read t M (m + 1) j = l_X1_read t (fst1 (m_X1_readCommand (fst1 (fst1 M 276 4 (nI j)) 276 3 ((nI j) + (1 : Int32)))) 276 5 (((m_X1_readCommand (fst1 (fst1 M 276 4 (nI j)) 276 3 ((nI j) + (1 : Int32)))) 276 5) + (1 : Int32))) m (j + 1) := by rw [l_X1_read, if_neg c_18, if_neg c_37, if_pos c_55]
          rw [e9]
          exact ih (j + 1) (fst1 (m_X1_readCommand (fst1 (fst1 M 276 4 (nI j)) 276 3 ((nI j) + (1 : Int32)))) 276 5 (((m_X1_readCommand (fst1 (fst1 M 276 4 (nI j)) 276 3 ((nI j) + (1 : Int32)))) 276 5) + (1 : Int32))) (by omega) (by omega)
        · refine f_aload_n dX1_read_58 rfl rfl ?_
          refine s_geti hG fl_X1_37 dX1_read_59 rfl rfl ?_
          refine f_aload_n dX1_read_62 rfl rfl ?_
          refine s_getr hG fl_X1_16 dX1_read_63 rfl rfl ?_
          refine s_geti hG fl_X1_56 dX1_read_66 rT_277.1 rfl ?_
          refine f_icmp_ne (tgt := 76) dX1_read_69 (by decide) (fun c_69 => ?_) (fun c_69 => ?_)
          · refine f_iconst (v := 0) dX1_read_76 rfl ?_
            refine f_ireturn dX1_read_77 rfl rfl ?_
            exact ⟨by rw [l_X1_read, if_neg c_18, if_neg c_37, if_neg c_55, if_neg c_69], by rw [l_X1_read, if_neg c_18, if_neg c_37, if_neg c_55, if_neg c_69]⟩
          · refine f_iconst (v := 1) dX1_read_72 rfl ?_
            refine f_goto (tgt := 77) dX1_read_73 (by decide) ?_
            refine f_ireturn dX1_read_77 rfl rfl ?_
            exact ⟨by rw [l_X1_read, if_neg c_18, if_neg c_37, if_neg c_55, if_pos c_69], by rw [l_X1_read, if_neg c_18, if_neg c_37, if_neg c_55, if_pos c_69]⟩
      · refine f_iconst (v := 0) dX1_read_40 rfl ?_
        refine f_ireturn dX1_read_41 rfl rfl ?_
        exact ⟨by rw [l_X1_read, if_neg c_18, if_pos c_37], by rw [l_X1_read, if_neg c_18, if_pos c_37]⟩
def r_X1_read (M : fM) (t : Nat) : Int32 := (l_X1_read t (fst1 (m_X10_copyFrom M 277 60 t 60) 276 5 (0 : Int32)) 21 0).1
def m_X1_read (M : fM) (t : Nat) : fM := (l_X1_read t (fst1 (m_X10_copyFrom M 277 60 t 60) 276 5 (0 : Int32)) 21 0).2
theorem n_l_X1_read (t : Nat) : ∀ (m j : Nat) (M : fM), narrow .boolean (.int (l_X1_read t M m j).1) = .int (l_X1_read t M m j).1 := by
  intro m
  induction m with
  | zero => intros; unfold l_X1_read; first | rfl | (dsimp only; rfl)
  | succ m ih =>
    intro j M
    unfold l_X1_read
    repeat' split
    all_goals (try dsimp only)
    all_goals first | rfl | exact pk_nc _ | exact ih _ _ ..
theorem n_X1_read (M : fM) (t : Nat) : narrow .boolean (.int (r_X1_read M t)) = .int (r_X1_read M t) := n_l_X1_read ..
set_option maxRecDepth 100000 in
set_option maxHeartbeats 4000000 in
theorem c_X1_read {G : fG} (hG : fOK G) {d : Nat} (hd : 7 ≤ d) (M : fM) (dv : UInt64) (t : Nat) (ht : rText t 60) : fCt G z_X1_read d [.ref 276, .ref t] (sS M dv) 0 0 (fD (some (.int (r_X1_read M t))) (sS (m_X1_read M t) dv)) := by
  refine fCt_to [some (.ref 276), some (.ref t), none] k_X1_read rfl (Nat.le_of_ble_eq_true rfl) rfl ?_
  refine f_aload_n dX1_read_0 rfl rfl ?_
  refine s_getr hG fl_X1_16 dX1_read_1 rfl rfl ?_
  refine f_aload_n dX1_read_4 rfl rfl ?_
  refine f_cV hG (As := [_]) dX1_read_5 rfl k_X10_copyFrom rfl rfl ml_X1_44 im_X10_copyFrom se_X10_copyFrom rT_277.1 rfl (c_X10_copyFrom hG (d := 1) (Nat.le_refl _) _ _ _ 0 _ _ rT_277 (by decide) ht (by decide)) (by omega) (Nat.le_of_ble_eq_true rfl) (Nat.zero_le _) (Nat.zero_le _) ?_
  refine f_aload_n dX1_read_8 rfl rfl ?_
  refine f_iconst (v := 0) dX1_read_9 rfl ?_
  refine s_puti hG fl_X1_37 (Or.inl rfl) dX1_read_10 rfl rfl rfl rfl ?_
  refine f_iconst (v := 0) dX1_read_13 rfl ?_
  refine f_istore_n (ls' := [_, _, _]) dX1_read_14 rfl (Nat.le_of_ble_eq_true rfl) rfl rfl ?_
  exact lp_X1_read hG hd dv t ht 21 0 _ (by omega) (by omega)
