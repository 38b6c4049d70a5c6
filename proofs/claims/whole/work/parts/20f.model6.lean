def a0_X12_carries (M : fM) (a : Int32) : fM := (m_X12_fill M (M 305 ((a + (1 : Int32))).toNatClampNeg) (M 305 ((a + (2 : Int32))).toNatClampNeg) (M 305 ((a + (3 : Int32))).toNatClampNeg) (M 305 ((a + (4 : Int32))).toNatClampNeg))
def r_X12_carries (M : fM) (a : Int32) : Int32 := (if (M 305 (a).toNatClampNeg) = (0 : Int32) then (r_X12_addRaw M) else (if (M 305 (a).toNatClampNeg) = (1 : Int32) then (r_X12_mix M (M 305 ((a + (1 : Int32))).toNatClampNeg) (M 305 ((a + (2 : Int32))).toNatClampNeg)) else (if (M 305 (a).toNatClampNeg) = (2 : Int32) then (r_X12_fill M (M 305 ((a + (1 : Int32))).toNatClampNeg) (M 305 ((a + (2 : Int32))).toNatClampNeg) (M 305 ((a + (3 : Int32))).toNatClampNeg) (M 305 ((a + (4 : Int32))).toNatClampNeg)) else (if (M 305 (a).toNatClampNeg) = (3 : Int32) then (r_X12_ship M (M 305 ((a + (1 : Int32))).toNatClampNeg)) else (if (M 305 (a).toNatClampNeg) = (4 : Int32) then (r_X12_pass M (M 305 ((a + (1 : Int32))).toNatClampNeg)) else (r_X12_recall M (M 305 ((a + (1 : Int32))).toNatClampNeg)))))))
def m_X12_carries (M : fM) (a : Int32) : fM := (if (M 305 (a).toNatClampNeg) = (0 : Int32) then (m_X12_addRaw M) else (if (M 305 (a).toNatClampNeg) = (1 : Int32) then (m_X12_mix M (M 305 ((a + (1 : Int32))).toNatClampNeg) (M 305 ((a + (2 : Int32))).toNatClampNeg)) else (if (M 305 (a).toNatClampNeg) = (2 : Int32) then (a0_X12_carries M a) else (if (M 305 (a).toNatClampNeg) = (3 : Int32) then (m_X12_ship M (M 305 ((a + (1 : Int32))).toNatClampNeg)) else (if (M 305 (a).toNatClampNeg) = (4 : Int32) then (m_X12_pass M (M 305 ((a + (1 : Int32))).toNatClampNeg)) else (m_X12_recall M (M 305 ((a + (1 : Int32))).toNatClampNeg)))))))
def N_X12_carries (M : fM) (a : Int32) : Prop := (vp_in (a + (1 : Int32)) 155) ∧ (vp_in (a + (2 : Int32)) 155) ∧ (vp_in a 155) ∧ (((M 305 (a).toNatClampNeg) = (0 : Int32)) → N_X12_addRaw M) ∧ (¬ ((M 305 (a).toNatClampNeg) = (0 : Int32)) → ((M 305 (a).toNatClampNeg) = (1 : Int32)) → N_X12_mix M (M 305 ((a + (1 : Int32))).toNatClampNeg) (M 305 ((a + (2 : Int32))).toNatClampNeg)) ∧ (¬ ((M 305 (a).toNatClampNeg) = (0 : Int32)) → ¬ ((M 305 (a).toNatClampNeg) = (1 : Int32)) → ((M 305 (a).toNatClampNeg) = (2 : Int32)) → vp_in (a + (3 : Int32)) 155) ∧ (¬ ((M 305 (a).toNatClampNeg) = (0 : Int32)) → ¬ ((M 305 (a).toNatClampNeg) = (1 : Int32)) → ((M 305 (a).toNatClampNeg) = (2 : Int32)) → vp_in (a + (4 : Int32)) 155) ∧ (¬ ((M 305 (a).toNatClampNeg) = (0 : Int32)) → ¬ ((M 305 (a).toNatClampNeg) = (1 : Int32)) → ((M 305 (a).toNatClampNeg) = (2 : Int32)) → N_X12_fill M (M 305 ((a + (1 : Int32))).toNatClampNeg) (M 305 ((a + (2 : Int32))).toNatClampNeg) (M 305 ((a + (3 : Int32))).toNatClampNeg) (M 305 ((a + (4 : Int32))).toNatClampNeg)) ∧ (¬ ((M 305 (a).toNatClampNeg) = (0 : Int32)) → ¬ ((M 305 (a).toNatClampNeg) = (1 : Int32)) → ¬ ((M 305 (a).toNatClampNeg) = (2 : Int32)) → ((M 305 (a).toNatClampNeg) = (3 : Int32)) → N_X12_ship M (M 305 ((a + (1 : Int32))).toNatClampNeg)) ∧ (¬ ((M 305 (a).toNatClampNeg) = (0 : Int32)) → ¬ ((M 305 (a).toNatClampNeg) = (1 : Int32)) → ¬ ((M 305 (a).toNatClampNeg) = (2 : Int32)) → ¬ ((M 305 (a).toNatClampNeg) = (3 : Int32)) → ((M 305 (a).toNatClampNeg) = (4 : Int32)) → N_X12_pass M (M 305 ((a + (1 : Int32))).toNatClampNeg)) ∧ (¬ ((M 305 (a).toNatClampNeg) = (0 : Int32)) → ¬ ((M 305 (a).toNatClampNeg) = (1 : Int32)) → ¬ ((M 305 (a).toNatClampNeg) = (2 : Int32)) → ¬ ((M 305 (a).toNatClampNeg) = (3 : Int32)) → ¬ ((M 305 (a).toNatClampNeg) = (4 : Int32)) → N_X12_recall M (M 305 ((a + (1 : Int32))).toNatClampNeg))
set_option maxRecDepth 100000 in
set_option maxHeartbeats 4000000 in
theorem c_X12_carries {G : fG} (hG : fOK G) {d : Nat} (hd : 5 ≤ d) (M : fM) (dv : UInt64) (a : Int32) (hN : N_X12_carries M a) : fCt G z_X12_carries d [.ref 296, .int a] (sS M dv) 0 0 (fD (some (.int (r_X12_carries M a))) (sS (m_X12_carries M a) dv)) := by
  refine fCt_to [some (.ref 296), some (.int a), none, none] k_X12_carries rfl (Nat.le_of_ble_eq_true rfl) rfl ?_
  obtain ⟨q0, q1, q2, q3, q4, q5, q6, q7, q8, q9, q10⟩ := hN
  refine f_aload_n dX12_carries_0 rfl rfl ?_
  refine s_getr hG fl_X12_42 dX12_carries_1 rfl rfl ?_
  refine f_iload_n dX12_carries_4 rfl rfl ?_
  refine f_iconst (v := 1) dX12_carries_5 rfl ?_
  refine f_iadd dX12_carries_6 ?_
  refine s_iaload hG dX12_carries_7 rfl (q0) ?_
  refine f_istore_n (ls' := [_, _, _, _]) dX12_carries_8 rfl (Nat.le_of_ble_eq_true rfl) rfl rfl ?_
  refine f_aload_n dX12_carries_9 rfl rfl ?_
  refine s_getr hG fl_X12_42 dX12_carries_10 rfl rfl ?_
  refine f_iload_n dX12_carries_13 rfl rfl ?_
  refine f_iconst (v := 2) dX12_carries_14 rfl ?_
  refine f_iadd dX12_carries_15 ?_
  refine s_iaload hG dX12_carries_16 rfl (q1) ?_
  refine f_istore_n (ls' := [_, _, _, _]) dX12_carries_17 rfl (Nat.le_of_ble_eq_true rfl) rfl rfl ?_
  refine f_aload_n dX12_carries_18 rfl rfl ?_
  refine s_getr hG fl_X12_42 dX12_carries_19 rfl rfl ?_
  refine f_iload_n dX12_carries_22 rfl rfl ?_
  refine s_iaload hG dX12_carries_23 rfl (q2) ?_
  by_cases c_24_0 : (M 305 (a).toNatClampNeg) = (0 : Int32)
  · refine f_tableIn (off := 36) (tgt := 60) dX12_carries_24 (by rw [c_24_0]; decide) (by rw [c_24_0]; decide) (by rw [c_24_0]; rfl) (by decide) ?_
    refine f_aload_n dX12_carries_60 rfl rfl ?_
    refine f_cV hG (As := []) dX12_carries_61 rfl k_X12_addRaw rfl rfl ml_X12_207 im_X12_addRaw se_X12_addRaw rfl rfl (c_X12_addRaw hG (d := 2) (Nat.le_refl _) _ _ (q3 c_24_0)) (by omega) (Nat.le_of_ble_eq_true rfl) (Nat.zero_le _) (Nat.zero_le _) ?_
    refine f_ireturn dX12_carries_64 rfl rfl ?_
    exact ⟨by rw [r_X12_carries, if_pos c_24_0], by rw [m_X12_carries, if_pos c_24_0]⟩
  · by_cases c_24_1 : (M 305 (a).toNatClampNeg) = (1 : Int32)
    · refine f_tableIn (off := 41) (tgt := 65) dX12_carries_24 (by rw [c_24_1]; decide) (by rw [c_24_1]; decide) (by rw [c_24_1]; rfl) (by decide) ?_
      refine f_aload_n dX12_carries_65 rfl rfl ?_
      refine f_iload_n dX12_carries_66 rfl rfl ?_
      refine f_iload_n dX12_carries_67 rfl rfl ?_
      refine f_cV hG (As := [_, _]) dX12_carries_68 rfl k_X12_mix rfl rfl ml_X12_210 im_X12_mix se_X12_mix rfl rfl (c_X12_mix hG (d := 2) (Nat.le_refl _) _ _ _ _ (q4 c_24_0 c_24_1)) (by omega) (Nat.le_of_ble_eq_true rfl) (Nat.zero_le _) (Nat.zero_le _) ?_
      refine f_ireturn dX12_carries_71 rfl rfl ?_
      exact ⟨by rw [r_X12_carries, if_neg c_24_0, if_pos c_24_1], by rw [m_X12_carries, if_neg c_24_0, if_pos c_24_1]⟩
    · by_cases c_24_2 : (M 305 (a).toNatClampNeg) = (2 : Int32)
      · refine f_tableIn (off := 48) (tgt := 72) dX12_carries_24 (by rw [c_24_2]; decide) (by rw [c_24_2]; decide) (by rw [c_24_2]; rfl) (by decide) ?_
        refine f_aload_n dX12_carries_72 rfl rfl ?_
        refine f_iload_n dX12_carries_73 rfl rfl ?_
        refine f_iload_n dX12_carries_74 rfl rfl ?_
        refine f_aload_n dX12_carries_75 rfl rfl ?_
        refine s_getr hG fl_X12_42 dX12_carries_76 rfl rfl ?_
        refine f_iload_n dX12_carries_79 rfl rfl ?_
        refine f_iconst (v := 3) dX12_carries_80 rfl ?_
        refine f_iadd dX12_carries_81 ?_
        refine s_iaload hG dX12_carries_82 rfl ((q5 c_24_0 c_24_1 c_24_2)) ?_
        refine f_aload_n dX12_carries_83 rfl rfl ?_
        refine s_getr hG fl_X12_42 dX12_carries_84 rfl rfl ?_
        refine f_iload_n dX12_carries_87 rfl rfl ?_
        refine f_iconst (v := 4) dX12_carries_88 rfl ?_
        refine f_iadd dX12_carries_89 ?_
        refine s_iaload hG dX12_carries_90 rfl ((q6 c_24_0 c_24_1 c_24_2)) ?_
        refine f_cV hG (As := [_, _, _, _]) dX12_carries_91 rfl k_X12_fill rfl rfl ml_X12_213 im_X12_fill se_X12_fill rfl rfl (c_X12_fill hG (d := 2) (Nat.le_refl _) _ _ _ _ _ _ (q7 c_24_0 c_24_1 c_24_2)) (by omega) (Nat.le_of_ble_eq_true rfl) (Nat.zero_le _) (Nat.zero_le _) ?_
        refine f_mem (M := (m_X12_fill M (M 305 ((a + (1 : Int32))).toNatClampNeg) (M 305 ((a + (2 : Int32))).toNatClampNeg) (M 305 ((a + (3 : Int32))).toNatClampNeg) (M 305 ((a + (4 : Int32))).toNatClampNeg))) (M' := (a0_X12_carries M a)) (by rw [a0_X12_carries]) ?_
        refine f_ireturn dX12_carries_94 rfl rfl ?_
        exact ⟨by rw [r_X12_carries, if_neg c_24_0, if_neg c_24_1, if_pos c_24_2], by rw [m_X12_carries, if_neg c_24_0, if_neg c_24_1, if_pos c_24_2]⟩
      · by_cases c_24_3 : (M 305 (a).toNatClampNeg) = (3 : Int32)
        · refine f_tableIn (off := 71) (tgt := 95) dX12_carries_24 (by rw [c_24_3]; decide) (by rw [c_24_3]; decide) (by rw [c_24_3]; rfl) (by decide) ?_
          refine f_aload_n dX12_carries_95 rfl rfl ?_
          refine f_iload_n dX12_carries_96 rfl rfl ?_
          refine f_cV hG (As := [_]) dX12_carries_97 rfl k_X12_ship rfl rfl ml_X12_217 im_X12_ship se_X12_ship rfl rfl (c_X12_ship hG (d := 2) (Nat.le_refl _) _ _ _ (q8 c_24_0 c_24_1 c_24_2 c_24_3)) (by omega) (Nat.le_of_ble_eq_true rfl) (Nat.zero_le _) (Nat.zero_le _) ?_
          refine f_ireturn dX12_carries_100 rfl rfl ?_
          exact ⟨by rw [r_X12_carries, if_neg c_24_0, if_neg c_24_1, if_neg c_24_2, if_pos c_24_3], by rw [m_X12_carries, if_neg c_24_0, if_neg c_24_1, if_neg c_24_2, if_pos c_24_3]⟩
        · by_cases c_24_4 : (M 305 (a).toNatClampNeg) = (4 : Int32)
          · refine f_tableIn (off := 77) (tgt := 101) dX12_carries_24 (by rw [c_24_4]; decide) (by rw [c_24_4]; decide) (by rw [c_24_4]; rfl) (by decide) ?_
            refine f_aload_n dX12_carries_101 rfl rfl ?_
            refine f_iload_n dX12_carries_102 rfl rfl ?_
            refine f_cV hG (As := [_]) dX12_carries_103 rfl k_X12_pass rfl rfl ml_X12_220 im_X12_pass se_X12_pass rfl rfl (c_X12_pass hG (d := 4) (Nat.le_refl _) _ _ _ (q9 c_24_0 c_24_1 c_24_2 c_24_3 c_24_4)) (by omega) (Nat.le_of_ble_eq_true rfl) (Nat.zero_le _) (Nat.zero_le _) ?_
            refine f_ireturn dX12_carries_106 rfl rfl ?_
            exact ⟨by rw [r_X12_carries, if_neg c_24_0, if_neg c_24_1, if_neg c_24_2, if_neg c_24_3, if_pos c_24_4], by rw [m_X12_carries, if_neg c_24_0, if_neg c_24_1, if_neg c_24_2, if_neg c_24_3, if_pos c_24_4]⟩
          · refine f_tableOut (tgt := 107) dX12_carries_24 (ts_0_4 c_24_0 c_24_1 c_24_2 c_24_3 c_24_4) (by decide) ?_
            refine f_aload_n dX12_carries_107 rfl rfl ?_
            refine f_iload_n dX12_carries_108 rfl rfl ?_
            refine f_cV hG (As := [_]) dX12_carries_109 rfl k_X12_recall rfl rfl ml_X12_223 im_X12_recall se_X12_recall rfl rfl (c_X12_recall hG (d := 2) (Nat.le_refl _) _ _ _ (q10 c_24_0 c_24_1 c_24_2 c_24_3 c_24_4)) (by omega) (Nat.le_of_ble_eq_true rfl) (Nat.zero_le _) (Nat.zero_le _) ?_
            refine f_ireturn dX12_carries_112 rfl rfl ?_
            exact ⟨by rw [r_X12_carries, if_neg c_24_0, if_neg c_24_1, if_neg c_24_2, if_neg c_24_3, if_neg c_24_4], by rw [m_X12_carries, if_neg c_24_0, if_neg c_24_1, if_neg c_24_2, if_neg c_24_3, if_neg c_24_4]⟩

def l_X12_executeL : fM → Nat → Nat → Int32 → Int32 → Int32 × Int32 × fM
  | M, 0, _, v2, v3 => (v2, v3, M)
  | M, m + 1, j, v2, v3 => (if (M 296 18) ≤ v2 then (v2, v3, M) else (if (M 296 7) = 0 then (if ((m_X12_carries M ((5 : Int32) * v2)) 296 7) = 0 then (l_X12_executeL (m_X12_carries M ((5 : Int32) * v2)) m (j + 1) (v2 + 1) (r_X12_carries M ((5 : Int32) * v2))) else (l_X12_executeL (m_X12_carries M ((5 : Int32) * v2)) m (j + 1) v2 (r_X12_carries M ((5 : Int32) * v2)))) else (v2, v3, M)))
set_option maxRecDepth 100000 in
set_option maxHeartbeats 4000000 in
theorem lc_X12_executeL {G : fG} (hG : fOK G) {d : Nat} (hd : 6 ≤ d) (dv : UInt64) (Pv : Nat → fM → Int32 → Int32 → Prop) (q0 : ∀ (j : Nat) (W_303 : fM) (v2 : Int32) (v3 : Int32), j ≤ 40 → Pv j W_303 v2 v3 → ¬ ((W_303 296 18) ≤ v2) → ((W_303 296 7) = 0) → j < 40) (q1 : ∀ (j : Nat) (W_303 : fM) (v2 : Int32) (v3 : Int32), j ≤ 40 → Pv j W_303 v2 v3 → ¬ ((W_303 296 18) ≤ v2) → ((W_303 296 7) = 0) → N_X12_carries W_303 ((5 : Int32) * v2)) (q2 : ∀ (j : Nat) (W_303 : fM) (v2 : Int32) (v3 : Int32), j ≤ 40 → Pv j W_303 v2 v3 → ¬ ((W_303 296 18) ≤ v2) → ((W_303 296 7) = 0) → ¬ (((m_X12_carries W_303 ((5 : Int32) * v2)) 296 7) = 0) → Pv (j + 1) (m_X12_carries W_303 ((5 : Int32) * v2)) v2 (r_X12_carries W_303 ((5 : Int32) * v2))) (q3 : ∀ (j : Nat) (W_303 : fM) (v2 : Int32) (v3 : Int32), j ≤ 40 → Pv j W_303 v2 v3 → ¬ ((W_303 296 18) ≤ v2) → ((W_303 296 7) = 0) → (((m_X12_carries W_303 ((5 : Int32) * v2)) 296 7) = 0) → Pv (j + 1) (m_X12_carries W_303 ((5 : Int32) * v2)) (v2 + 1) (r_X12_carries W_303 ((5 : Int32) * v2))) {Q : fR → fS → Prop} {kc ks : Nat} : ∀ (m j : Nat) (M : fM) (v2 : Int32) (v3 : Int32), j ≤ 40 → 40 + 1 ≤ j + m → Pv j M v2 v3 → fV G z_X12_execute d Q 98 [some (.ref 296), none, some (.int ((l_X12_executeL M m j v2 v3).1)), some (.int ((l_X12_executeL M m j v2 v3).2.1))] [] (sS ((l_X12_executeL M m j v2 v3).2.2) dv) kc ks → fV G z_X12_execute d Q 62 [some (.ref 296), none, some (.int v2), some (.int v3)] [] (sS M dv) kc ks := by
  intro m
  induction m with
  | zero => intros; omega
  | succ m ih =>
    intro j M v2 v3 hj hm hI kk
    refine f_iload_n dX12_execute_62 rfl rfl ?_
    refine f_aload_n dX12_execute_63 rfl rfl ?_
    refine s_geti hG fl_X12_170 dX12_execute_64 rfl rfl ?_
    refine f_icmp_ge (tgt := 98) dX12_execute_67 (by decide) (fun c_67 => ?_) (fun c_67 => ?_)
    · have e9 : l_X12_executeL M (m + 1) j v2 v3 = (v2, v3, M) := by rw [l_X12_executeL, if_pos c_67]
      rw [e9] at kk
      exact kk
    · refine f_aload_n dX12_execute_70 rfl rfl ?_
      refine s_geti hG fl_X12_45 dX12_execute_71 rfl rfl ?_
      refine f_if_ne (tgt := 98) dX12_execute_74 (by decide) (fun c_74 => ?_) (fun c_74 => ?_)
      · have e9 : l_X12_executeL M (m + 1) j v2 v3 = (v2, v3, M) := by rw [l_X12_executeL, if_neg c_67, if_neg c_74]
        rw [e9] at kk
        exact kk
      · have hlt : j < 40 := (q0 j M v2 v3 hj hI c_67 c_74)
        refine f_aload_n dX12_execute_77 rfl rfl ?_
        refine f_iconst (v := 5) dX12_execute_78 rfl ?_
        refine f_iload_n dX12_execute_79 rfl rfl ?_
        refine f_imul dX12_execute_80 ?_
        refine f_cV hG (As := [_]) dX12_execute_81 rfl k_X12_carries rfl rfl ml_X12_229 im_X12_carries se_X12_carries rfl rfl (c_X12_carries hG (d := 5) (Nat.le_refl _) _ _ _ (q1 j M v2 v3 hj hI c_67 c_74)) (by omega) (Nat.le_of_ble_eq_true rfl) (Nat.zero_le _) (Nat.zero_le _) ?_
        refine f_istore_n (ls' := [_, _, _, _]) dX12_execute_84 rfl (Nat.le_of_ble_eq_true rfl) rfl rfl ?_
        refine f_aload_n dX12_execute_85 rfl rfl ?_
        refine s_geti hG fl_X12_45 dX12_execute_86 rfl rfl ?_
        refine f_if_ne (tgt := 62) dX12_execute_89 (by decide) (fun c_89 => ?_) (fun c_89 => ?_)
        · have e9 : l_X12_executeL M (m + 1) j v2 v3 = l_X12_executeL (m_X12_carries M ((5 : Int32) * v2)) m (j + 1) v2 (r_X12_carries M ((5 : Int32) * v2)) := by rw [l_X12_executeL, if_neg c_67, if_pos c_74, if_neg c_89]
          exact ih (j + 1) (m_X12_carries M ((5 : Int32) * v2)) v2 (r_X12_carries M ((5 : Int32) * v2)) (by omega) (by omega) (q2 j M v2 v3 hj hI c_67 c_74 c_89) (by rw [e9] at kk; exact kk)
        · refine f_iinc (v := v2 + 1) (ls' := [_, _, _, _]) dX12_execute_92 rfl rfl (Nat.le_of_ble_eq_true rfl) rfl rfl ?_
          refine f_goto (tgt := 62) dX12_execute_95 (by decide) ?_
          have e9 : l_X12_executeL M (m + 1) j v2 v3 = l_X12_executeL (m_X12_carries M ((5 : Int32) * v2)) m (j + 1) (v2 + 1) (r_X12_carries M ((5 : Int32) * v2)) := by rw [l_X12_executeL, if_neg c_67, if_pos c_74, if_pos c_89]
          exact ih (j + 1) (m_X12_carries M ((5 : Int32) * v2)) (v2 + 1) (r_X12_carries M ((5 : Int32) * v2)) (by omega) (by omega) (q3 j M v2 v3 hj hI c_67 c_74 c_89) (by rw [e9] at kk; exact kk)

def a0_X12_execute (M : fM) : fM := (m_X12_copies (fst1 (fst1 (m_X12_isText M) 296 9 (0 : Int32)) 296 7 (0 : Int32)) 297 127 (0 : Int32) 300 127 (0 : Int32))
def a1_X12_execute (M : fM) : fM := (fst1 (l_X12_executeL (fst1 (a0_X12_execute M) 296 6 (1 : Int32)) 41 0 (0 : Int32) (0 : Int32)).2.2 296 6 (0 : Int32))
def a2_X12_execute (M : fM) : fM := (fst1 (m_X12_copies (a1_X12_execute M) 300 127 (0 : Int32) 297 127 (0 : Int32)) 296 11 (l_X12_executeL (fst1 (a0_X12_execute M) 296 6 (1 : Int32)) 41 0 (0 : Int32) (0 : Int32)).1)
def r_X12_execute (M : fM) : Int32 := (if (r_X12_isText M) = 0 then (0 : Int32) else (if ((a1_X12_execute M) 296 7) ≤ 0 then ((m_X12_keeps (a1_X12_execute M) 300 127) 296 18) else (if (l_X12_executeL (fst1 (a0_X12_execute M) 296 6 (1 : Int32)) 41 0 (0 : Int32) (0 : Int32)).2.1 ≤ 0 then (l_X12_executeL (fst1 (a0_X12_execute M) 296 6 (1 : Int32)) 41 0 (0 : Int32) (0 : Int32)).2.1 else (0 : Int32))))
def m_X12_execute (M : fM) : fM := (if (r_X12_isText M) = 0 then (fst1 (fst1 (fst1 (m_X12_isText M) 296 10 ((m_X12_isText M) 296 16)) 296 9 (0 : Int32)) 296 7 (1 : Int32)) else (if ((a1_X12_execute M) 296 7) ≤ 0 then (m_X12_keeps (a1_X12_execute M) 300 127) else (if (l_X12_executeL (fst1 (a0_X12_execute M) 296 6 (1 : Int32)) 41 0 (0 : Int32) (0 : Int32)).2.1 ≤ 0 then (fst1 (a2_X12_execute M) 296 7 (2 : Int32)) else (fst1 (a2_X12_execute M) 296 7 (2 : Int32)))))
def N_X12_execute (M : fM) : Prop := (N_X12_isText M) ∧ (¬ ((r_X12_isText M) = 0) → N_X12_copies (fst1 (fst1 (m_X12_isText M) 296 9 (0 : Int32)) 296 7 (0 : Int32)) 297 127 (0 : Int32) 300 127 (0 : Int32)) ∧ (¬ ((r_X12_isText M) = 0) → ∃ Pv : Nat → fM → Int32 → Int32 → Prop, Pv 0 (fst1 (a0_X12_execute M) 296 6 (1 : Int32)) (0 : Int32) (0 : Int32) ∧ (∀ (j_310 : Nat) (W_303 : fM) (v2_310 : Int32) (v3_310 : Int32), j_310 ≤ 40 → Pv j_310 W_303 v2_310 v3_310 → ¬ ((W_303 296 18) ≤ v2_310) → ((W_303 296 7) = 0) → j_310 < 40) ∧ (∀ (j_311 : Nat) (W_303 : fM) (v2_311 : Int32) (v3_311 : Int32), j_311 ≤ 40 → Pv j_311 W_303 v2_311 v3_311 → ¬ ((W_303 296 18) ≤ v2_311) → ((W_303 296 7) = 0) → N_X12_carries W_303 ((5 : Int32) * v2_311)) ∧ (∀ (j_312 : Nat) (W_303 : fM) (v2_312 : Int32) (v3_312 : Int32), j_312 ≤ 40 → Pv j_312 W_303 v2_312 v3_312 → ¬ ((W_303 296 18) ≤ v2_312) → ((W_303 296 7) = 0) → ¬ (((m_X12_carries W_303 ((5 : Int32) * v2_312)) 296 7) = 0) → Pv (j_312 + 1) (m_X12_carries W_303 ((5 : Int32) * v2_312)) v2_312 (r_X12_carries W_303 ((5 : Int32) * v2_312))) ∧ (∀ (j_313 : Nat) (W_303 : fM) (v2_313 : Int32) (v3_313 : Int32), j_313 ≤ 40 → Pv j_313 W_303 v2_313 v3_313 → ¬ ((W_303 296 18) ≤ v2_313) → ((W_303 296 7) = 0) → (((m_X12_carries W_303 ((5 : Int32) * v2_313)) 296 7) = 0) → Pv (j_313 + 1) (m_X12_carries W_303 ((5 : Int32) * v2_313)) (v2_313 + 1) (r_X12_carries W_303 ((5 : Int32) * v2_313)))) ∧ (¬ ((r_X12_isText M) = 0) → (((a1_X12_execute M) 296 7) ≤ 0) → N_X12_keeps (a1_X12_execute M) 300 127) ∧ (¬ ((r_X12_isText M) = 0) → ¬ (((a1_X12_execute M) 296 7) ≤ 0) → N_X12_copies (a1_X12_execute M) 300 127 (0 : Int32) 297 127 (0 : Int32))
set_option maxRecDepth 100000 in
set_option maxHeartbeats 4000000 in
theorem c_X12_execute {G : fG} (hG : fOK G) {d : Nat} (hd : 7 ≤ d) (M : fM) (dv : UInt64) (hN : N_X12_execute M) : fCt G z_X12_execute d [.ref 296] (sS M dv) 0 0 (fD (some (.int (r_X12_execute M))) (sS (m_X12_execute M) dv)) := by
  refine fCt_to [some (.ref 296), none, none, none] k_X12_execute rfl (Nat.le_of_ble_eq_true rfl) rfl ?_
  obtain ⟨q0, q1, q2, q3, q4⟩ := hN
  refine f_aload_n dX12_execute_0 rfl rfl ?_
  refine f_cV hG (As := []) dX12_execute_1 rfl k_X12_isText rfl rfl ml_X12_226 im_X12_isText se_X12_isText rfl rfl (c_X12_isText hG (d := 6) (Nat.le_refl _) _ _ q0) (by omega) (Nat.le_of_ble_eq_true rfl) (Nat.zero_le _) (Nat.zero_le _) ?_
  refine f_istore_n (ls' := [_, _, _, _]) dX12_execute_4 rfl (Nat.le_of_ble_eq_true rfl) rfl rfl ?_
  refine f_iload_n dX12_execute_5 rfl rfl ?_
  refine f_if_ne (tgt := 17) dX12_execute_6 (by decide) (fun c_6 => ?_) (fun c_6 => ?_)
  · refine f_aload_n dX12_execute_17 rfl rfl ?_
    refine f_iconst (v := 0) dX12_execute_18 rfl ?_
    refine s_puti hG fl_X12_81 (Or.inl rfl) dX12_execute_19 rfl rfl rfl rfl ?_
    refine f_aload_n dX12_execute_22 rfl rfl ?_
    refine f_iload_n dX12_execute_23 rfl rfl ?_
    refine f_if_eq (tgt := 31) dX12_execute_24 (by decide) (fun c_24 => absurd c_24 c_6) (fun c_24 => ?_)
    refine f_iconst (v := 0) dX12_execute_27 rfl ?_
    refine f_goto (tgt := 32) dX12_execute_28 (by decide) ?_
    refine f_cV hG (As := [_]) dX12_execute_32 rfl k_X12_fails rfl rfl ml_X12_63 im_X12_fails se_X12_fails rfl rfl (c_X12_failsF hG (d := 0) (Nat.le_refl _) _ _ _ (by decide)) (by omega) (Nat.le_of_ble_eq_true rfl) (Nat.zero_le _) (Nat.zero_le _) ?_
    refine f_if_eq (tgt := 40) dX12_execute_35 (by decide) (fun c_35 => ?_) (fun c_35 => absurd c_35 (by decide))
    refine f_aload_n dX12_execute_40 rfl rfl ?_
    refine s_getr hG fl_X12_7 dX12_execute_41 rfl rfl ?_
    refine f_iconst (v := 0) dX12_execute_44 rfl ?_
    refine f_aload_n dX12_execute_45 rfl rfl ?_
    refine s_getr hG fl_X12_19 dX12_execute_46 rfl rfl ?_
    refine f_iconst (v := 0) dX12_execute_49 rfl ?_
    refine f_cS hG (As := [_, _, _, _]) dX12_execute_50 rfl k_X12_copies rfl rfl ml_X12_55 sm_X12_copies (c_X12_copies hG (d := 0) (Nat.le_refl _) _ _ _ _ _ _ _ _ rfl (by decide) rfl (by decide) (q1 c_6)) (by omega) (Nat.le_of_ble_eq_true rfl) (Nat.zero_le _) (Nat.zero_le _) ?_
    refine f_mem (M := (m_X12_copies (fst1 (fst1 (m_X12_isText M) 296 9 (0 : Int32)) 296 7 (0 : Int32)) 297 127 (0 : Int32) 300 127 (0 : Int32))) (M' := (a0_X12_execute M)) (by rw [a0_X12_execute]) ?_
    refine f_aload_n dX12_execute_53 rfl rfl ?_
    refine f_iconst (v := 1) dX12_execute_54 rfl ?_
    refine s_puti hG fl_X12_48 (Or.inl rfl) dX12_execute_55 rfl rfl rfl rfl ?_
    refine f_iconst (v := 0) dX12_execute_58 rfl ?_
    refine f_istore_n (ls' := [_, _, _, _]) dX12_execute_59 rfl (Nat.le_of_ble_eq_true rfl) rfl rfl ?_
    refine f_iconst (v := 0) dX12_execute_60 rfl ?_
    refine f_istore_n (ls' := [_, _, _, _]) dX12_execute_61 rfl (Nat.le_of_ble_eq_true rfl) rfl rfl ?_
    refine f_drop 1 ?_
    obtain ⟨Pv309, hI309, w309_0, w309_1, w309_2, w309_3⟩ := (q2 c_6)
    refine lc_X12_executeL hG (by omega) dv Pv309 w309_0 w309_1 w309_2 w309_3 41 0 _ _ _ (by omega) (by omega) hI309 ?_
    refine f_aload_n dX12_execute_98 rfl rfl ?_
    refine f_iconst (v := 0) dX12_execute_99 rfl ?_
    refine s_puti hG fl_X12_48 (Or.inl rfl) dX12_execute_100 rfl rfl rfl rfl ?_
    refine f_mem (M := (fst1 (l_X12_executeL (fst1 (a0_X12_execute M) 296 6 (1 : Int32)) 41 0 (0 : Int32) (0 : Int32)).2.2 296 6 (0 : Int32))) (M' := (a1_X12_execute M)) (by rw [a1_X12_execute]) ?_
    refine f_aload_n dX12_execute_103 rfl rfl ?_
    refine s_geti hG fl_X12_45 dX12_execute_104 rfl rfl ?_
    refine f_if_le (tgt := 143) dX12_execute_107 (by decide) (fun c_107 => ?_) (fun c_107 => ?_)
    · refine f_aload_n dX12_execute_143 rfl rfl ?_
      refine f_aload_n dX12_execute_144 rfl rfl ?_
      refine s_getr hG fl_X12_19 dX12_execute_145 rfl rfl ?_
      refine f_cV hG (As := [_]) dX12_execute_148 rfl k_X12_keeps rfl rfl ml_X12_67 im_X12_keeps se_X12_keeps rfl rfl (c_X12_keeps hG (d := 1) (Nat.le_refl _) _ _ _ _ rfl (by decide) (q3 c_6 c_107)) (by omega) (Nat.le_of_ble_eq_true rfl) (Nat.zero_le _) (Nat.zero_le _) ?_
      refine f_aload_n dX12_execute_151 rfl rfl ?_
      refine s_geti hG fl_X12_170 dX12_execute_152 rfl rfl ?_
      refine f_ireturn dX12_execute_155 rfl rfl ?_
      exact ⟨by rw [r_X12_execute, if_neg c_6, if_pos c_107], by rw [m_X12_execute, if_neg c_6, if_pos c_107]⟩
    · refine f_aload_n dX12_execute_110 rfl rfl ?_
      refine s_getr hG fl_X12_19 dX12_execute_111 rfl rfl ?_
      refine f_iconst (v := 0) dX12_execute_114 rfl ?_
      refine f_aload_n dX12_execute_115 rfl rfl ?_
      refine s_getr hG fl_X12_7 dX12_execute_116 rfl rfl ?_
      refine f_iconst (v := 0) dX12_execute_119 rfl ?_
      refine f_cS hG (As := [_, _, _, _]) dX12_execute_120 rfl k_X12_copies rfl rfl ml_X12_55 sm_X12_copies (c_X12_copies hG (d := 0) (Nat.le_refl _) _ _ _ _ _ _ _ _ rfl (by decide) rfl (by decide) (q4 c_6 c_107)) (by omega) (Nat.le_of_ble_eq_true rfl) (Nat.zero_le _) (Nat.zero_le _) ?_
      refine f_aload_n dX12_execute_123 rfl rfl ?_
      refine f_iload_n dX12_execute_124 rfl rfl ?_
      refine s_puti hG fl_X12_29 (Or.inl rfl) dX12_execute_125 rfl rfl rfl rfl ?_
      refine f_mem (M := (fst1 (m_X12_copies (a1_X12_execute M) 300 127 (0 : Int32) 297 127 (0 : Int32)) 296 11 (l_X12_executeL (fst1 (a0_X12_execute M) 296 6 (1 : Int32)) 41 0 (0 : Int32) (0 : Int32)).1)) (M' := (a2_X12_execute M)) (by rw [a2_X12_execute]) ?_
      refine f_aload_n dX12_execute_128 rfl rfl ?_
      refine f_iconst (v := 2) dX12_execute_129 rfl ?_
      refine s_puti hG fl_X12_45 (Or.inl rfl) dX12_execute_130 rfl rfl rfl rfl ?_
      refine f_iload_n dX12_execute_133 rfl rfl ?_
      refine f_if_le (tgt := 141) dX12_execute_134 (by decide) (fun c_134 => ?_) (fun c_134 => ?_)
      · refine f_iload_n dX12_execute_141 rfl rfl ?_
        refine f_ireturn dX12_execute_142 rfl rfl ?_
        exact ⟨by rw [r_X12_execute, if_neg c_6, if_neg c_107, if_pos c_134], by rw [m_X12_execute, if_neg c_6, if_neg c_107, if_pos c_134]⟩
      · refine f_iconst (v := 0) dX12_execute_137 rfl ?_
        refine f_goto (tgt := 142) dX12_execute_138 (by decide) ?_
        refine f_ireturn dX12_execute_142 rfl rfl ?_
        exact ⟨by rw [r_X12_execute, if_neg c_6, if_neg c_107, if_neg c_134], by rw [m_X12_execute, if_neg c_6, if_neg c_107, if_neg c_134]⟩
  · refine f_aload_n dX12_execute_9 rfl rfl ?_
    refine f_aload_n dX12_execute_10 rfl rfl ?_
    refine s_geti hG fl_X12_164 dX12_execute_11 rfl rfl ?_
    refine s_puti hG fl_X12_25 (Or.inl rfl) dX12_execute_14 rfl rfl rfl rfl ?_
    refine f_aload_n dX12_execute_17 rfl rfl ?_
    refine f_iconst (v := 0) dX12_execute_18 rfl ?_
    refine s_puti hG fl_X12_81 (Or.inl rfl) dX12_execute_19 rfl rfl rfl rfl ?_
    refine f_aload_n dX12_execute_22 rfl rfl ?_
    refine f_iload_n dX12_execute_23 rfl rfl ?_
    refine f_if_eq (tgt := 31) dX12_execute_24 (by decide) (fun c_24 => ?_) (fun c_24 => absurd c_6 c_24)
    refine f_iconst (v := 1) dX12_execute_31 rfl ?_
    refine f_cV hG (As := [_]) dX12_execute_32 rfl k_X12_fails rfl rfl ml_X12_63 im_X12_fails se_X12_fails rfl rfl (c_X12_failsT hG (d := 0) (Nat.le_refl _) _ _ _ (by decide)) (by omega) (Nat.le_of_ble_eq_true rfl) (Nat.zero_le _) (Nat.zero_le _) ?_
    refine f_if_eq (tgt := 40) dX12_execute_35 (by decide) (fun c_35 => absurd c_35 (by decide)) (fun c_35 => ?_)
    refine f_iconst (v := 0) dX12_execute_38 rfl ?_
    refine f_ireturn dX12_execute_39 rfl rfl ?_
    exact ⟨by rw [r_X12_execute, if_pos c_6], by rw [m_X12_execute, if_pos c_6]⟩

def r_X12_errorPosition (M : fM) : Int32 := (if 0 ≤ (M 296 10) then ((fst1 M 296 7 (0 : Int32)) 296 10) else (0 : Int32))
def m_X12_errorPosition (M : fM) : fM := (if 0 ≤ (M 296 10) then (fst1 M 296 7 (0 : Int32)) else (fst1 M 296 7 (1 : Int32)))
set_option maxRecDepth 100000 in
set_option maxHeartbeats 4000000 in
theorem c_X12_errorPosition {G : fG} (hG : fOK G) {d : Nat} (hd : 1 ≤ d) (M : fM) (dv : UInt64) : fCt G z_X12_errorPosition d [.ref 296] (sS M dv) 0 0 (fD (some (.int (r_X12_errorPosition M))) (sS (m_X12_errorPosition M) dv)) := by
  refine fCt_to [some (.ref 296)] k_X12_errorPosition rfl (Nat.le_of_ble_eq_true rfl) rfl ?_
  refine f_aload_n dX12_errorPosition_0 rfl rfl ?_
  refine f_aload_n dX12_errorPosition_1 rfl rfl ?_
  refine s_geti hG fl_X12_25 dX12_errorPosition_2 rfl rfl ?_
  refine f_if_ge (tgt := 12) dX12_errorPosition_5 (by decide) (fun c_5 => ?_) (fun c_5 => ?_)
  · refine f_iconst (v := 0) dX12_errorPosition_12 rfl ?_
    refine f_cV hG (As := [_]) dX12_errorPosition_13 rfl k_X12_fails rfl rfl ml_X12_63 im_X12_fails se_X12_fails rfl rfl (c_X12_failsF hG (d := 0) (Nat.le_refl _) _ _ _ (by decide)) (by omega) (Nat.le_of_ble_eq_true rfl) (Nat.zero_le _) (Nat.zero_le _) ?_
    refine f_if_eq (tgt := 23) dX12_errorPosition_16 (by decide) (fun c_16 => ?_) (fun c_16 => absurd c_16 (by decide))
    refine f_aload_n dX12_errorPosition_23 rfl rfl ?_
    refine s_geti hG fl_X12_25 dX12_errorPosition_24 rfl rfl ?_
    refine f_ireturn dX12_errorPosition_27 rfl rfl ?_
    exact ⟨by rw [r_X12_errorPosition, if_pos c_5], by rw [m_X12_errorPosition, if_pos c_5]⟩
  · refine f_iconst (v := 1) dX12_errorPosition_8 rfl ?_
    refine f_goto (tgt := 13) dX12_errorPosition_9 (by decide) ?_
    refine f_cV hG (As := [_]) dX12_errorPosition_13 rfl k_X12_fails rfl rfl ml_X12_63 im_X12_fails se_X12_fails rfl rfl (c_X12_failsT hG (d := 0) (Nat.le_refl _) _ _ _ (by decide)) (by omega) (Nat.le_of_ble_eq_true rfl) (Nat.zero_le _) (Nat.zero_le _) ?_
    refine f_if_eq (tgt := 23) dX12_errorPosition_16 (by decide) (fun c_16 => absurd c_16 (by decide)) (fun c_16 => ?_)
    refine f_iconst (v := 0) dX12_errorPosition_19 rfl ?_
    refine f_goto (tgt := 27) dX12_errorPosition_20 (by decide) ?_
    refine f_ireturn dX12_errorPosition_27 rfl rfl ?_
    exact ⟨by rw [r_X12_errorPosition, if_neg c_5], by rw [m_X12_errorPosition, if_neg c_5]⟩

def r_X12_failedCommand (M : fM) : Int32 := (if 0 ≤ (M 296 11) then ((fst1 M 296 7 (0 : Int32)) 296 11) else (0 : Int32))
def m_X12_failedCommand (M : fM) : fM := (if 0 ≤ (M 296 11) then (fst1 M 296 7 (0 : Int32)) else (fst1 M 296 7 (1 : Int32)))
set_option maxRecDepth 100000 in
set_option maxHeartbeats 4000000 in
theorem c_X12_failedCommand {G : fG} (hG : fOK G) {d : Nat} (hd : 1 ≤ d) (M : fM) (dv : UInt64) : fCt G z_X12_failedCommand d [.ref 296] (sS M dv) 0 0 (fD (some (.int (r_X12_failedCommand M))) (sS (m_X12_failedCommand M) dv)) := by
  refine fCt_to [some (.ref 296)] k_X12_failedCommand rfl (Nat.le_of_ble_eq_true rfl) rfl ?_
  refine f_aload_n dX12_failedCommand_0 rfl rfl ?_
  refine f_aload_n dX12_failedCommand_1 rfl rfl ?_
  refine s_geti hG fl_X12_29 dX12_failedCommand_2 rfl rfl ?_
  refine f_if_ge (tgt := 12) dX12_failedCommand_5 (by decide) (fun c_5 => ?_) (fun c_5 => ?_)
  · refine f_iconst (v := 0) dX12_failedCommand_12 rfl ?_
    refine f_cV hG (As := [_]) dX12_failedCommand_13 rfl k_X12_fails rfl rfl ml_X12_63 im_X12_fails se_X12_fails rfl rfl (c_X12_failsF hG (d := 0) (Nat.le_refl _) _ _ _ (by decide)) (by omega) (Nat.le_of_ble_eq_true rfl) (Nat.zero_le _) (Nat.zero_le _) ?_
    refine f_if_eq (tgt := 23) dX12_failedCommand_16 (by decide) (fun c_16 => ?_) (fun c_16 => absurd c_16 (by decide))
    refine f_aload_n dX12_failedCommand_23 rfl rfl ?_
    refine s_geti hG fl_X12_29 dX12_failedCommand_24 rfl rfl ?_
    refine f_ireturn dX12_failedCommand_27 rfl rfl ?_
    exact ⟨by rw [r_X12_failedCommand, if_pos c_5], by rw [m_X12_failedCommand, if_pos c_5]⟩
  · refine f_iconst (v := 1) dX12_failedCommand_8 rfl ?_
    refine f_goto (tgt := 13) dX12_failedCommand_9 (by decide) ?_
    refine f_cV hG (As := [_]) dX12_failedCommand_13 rfl k_X12_fails rfl rfl ml_X12_63 im_X12_fails se_X12_fails rfl rfl (c_X12_failsT hG (d := 0) (Nat.le_refl _) _ _ _ (by decide)) (by omega) (Nat.le_of_ble_eq_true rfl) (Nat.zero_le _) (Nat.zero_le _) ?_
    refine f_if_eq (tgt := 23) dX12_failedCommand_16 (by decide) (fun c_16 => absurd c_16 (by decide)) (fun c_16 => ?_)
    refine f_iconst (v := 0) dX12_failedCommand_19 rfl ?_
    refine f_goto (tgt := 27) dX12_failedCommand_20 (by decide) ?_
    refine f_ireturn dX12_failedCommand_27 rfl rfl ?_
    exact ⟨by rw [r_X12_failedCommand, if_neg c_5], by rw [m_X12_failedCommand, if_neg c_5]⟩

def a0_X12_undo (M : fM) : fM := (m_X12_copies (fst1 (fst1 M 296 7 (0 : Int32)) 296 5 (((fst1 M 296 7 (0 : Int32)) 296 5) - (1 : Int32))) 298 1016 ((127 : Int32) * ((fst1 (fst1 M 296 7 (0 : Int32)) 296 5 (((fst1 M 296 7 (0 : Int32)) 296 5) - (1 : Int32))) 296 5)) 297 127 (0 : Int32))
def r_X12_undo (M : fM) : Int32 := (if (M 296 5) = 0 then (0 : Int32) else ((a0_X12_undo M) 296 5))
def m_X12_undo (M : fM) : fM := (if (M 296 5) = 0 then (fst1 M 296 7 (1 : Int32)) else (a0_X12_undo M))
def N_X12_undo (M : fM) : Prop := (¬ ((M 296 5) = 0) → N_X12_copies (fst1 (fst1 M 296 7 (0 : Int32)) 296 5 (((fst1 M 296 7 (0 : Int32)) 296 5) - (1 : Int32))) 298 1016 ((127 : Int32) * ((fst1 (fst1 M 296 7 (0 : Int32)) 296 5 (((fst1 M 296 7 (0 : Int32)) 296 5) - (1 : Int32))) 296 5)) 297 127 (0 : Int32))
set_option maxRecDepth 100000 in
set_option maxHeartbeats 4000000 in
theorem c_X12_undo {G : fG} (hG : fOK G) {d : Nat} (hd : 1 ≤ d) (M : fM) (dv : UInt64) (hN : N_X12_undo M) : fCt G z_X12_undo d [.ref 296] (sS M dv) 0 0 (fD (some (.int (r_X12_undo M))) (sS (m_X12_undo M) dv)) := by
  refine fCt_to [some (.ref 296)] k_X12_undo rfl (Nat.le_of_ble_eq_true rfl) rfl ?_
  have q0 : ¬ ((M 296 5) = 0) → N_X12_copies (fst1 (fst1 M 296 7 (0 : Int32)) 296 5 (((fst1 M 296 7 (0 : Int32)) 296 5) - (1 : Int32))) 298 1016 ((127 : Int32) * ((fst1 (fst1 M 296 7 (0 : Int32)) 296 5 (((fst1 M 296 7 (0 : Int32)) 296 5) - (1 : Int32))) 296 5)) 297 127 (0 : Int32) := hN
  refine f_aload_n dX12_undo_0 rfl rfl ?_
  refine f_aload_n dX12_undo_1 rfl rfl ?_
  refine s_geti hG fl_X12_52 dX12_undo_2 rfl rfl ?_
  refine f_if_ne (tgt := 12) dX12_undo_5 (by decide) (fun c_5 => ?_) (fun c_5 => ?_)
  · refine f_iconst (v := 0) dX12_undo_12 rfl ?_
    refine f_cV hG (As := [_]) dX12_undo_13 rfl k_X12_fails rfl rfl ml_X12_63 im_X12_fails se_X12_fails rfl rfl (c_X12_failsF hG (d := 0) (Nat.le_refl _) _ _ _ (by decide)) (by omega) (Nat.le_of_ble_eq_true rfl) (Nat.zero_le _) (Nat.zero_le _) ?_
    refine f_if_eq (tgt := 21) dX12_undo_16 (by decide) (fun c_16 => ?_) (fun c_16 => absurd c_16 (by decide))
    refine f_aload_n dX12_undo_21 rfl rfl ?_
    refine f_dup dX12_undo_22 rfl ?_
    refine s_geti hG fl_X12_52 dX12_undo_23 rfl rfl ?_
    refine f_iconst (v := 1) dX12_undo_26 rfl ?_
    refine f_isub dX12_undo_27 ?_
    refine s_puti hG fl_X12_52 (Or.inl rfl) dX12_undo_28 rfl rfl rfl rfl ?_
    refine f_aload_n dX12_undo_31 rfl rfl ?_
    refine s_getr hG fl_X12_13 dX12_undo_32 rfl rfl ?_
    refine f_bipush (v := 127) dX12_undo_35 (by decide) ?_
    refine f_aload_n dX12_undo_37 rfl rfl ?_
    refine s_geti hG fl_X12_52 dX12_undo_38 rfl rfl ?_
    refine f_imul dX12_undo_41 ?_
    refine f_aload_n dX12_undo_42 rfl rfl ?_
    refine s_getr hG fl_X12_7 dX12_undo_43 rfl rfl ?_
    refine f_iconst (v := 0) dX12_undo_46 rfl ?_
    refine f_cS hG (As := [_, _, _, _]) dX12_undo_47 rfl k_X12_copies rfl rfl ml_X12_55 sm_X12_copies (c_X12_copies hG (d := 0) (Nat.le_refl _) _ _ _ _ _ _ _ _ rfl (by decide) rfl (by decide) (q0 c_5)) (by omega) (Nat.le_of_ble_eq_true rfl) (Nat.zero_le _) (Nat.zero_le _) ?_
    refine f_mem (M := (m_X12_copies (fst1 (fst1 M 296 7 (0 : Int32)) 296 5 (((fst1 M 296 7 (0 : Int32)) 296 5) - (1 : Int32))) 298 1016 ((127 : Int32) * ((fst1 (fst1 M 296 7 (0 : Int32)) 296 5 (((fst1 M 296 7 (0 : Int32)) 296 5) - (1 : Int32))) 296 5)) 297 127 (0 : Int32))) (M' := (a0_X12_undo M)) (by rw [a0_X12_undo]) ?_
    refine f_aload_n dX12_undo_50 rfl rfl ?_
    refine s_geti hG fl_X12_52 dX12_undo_51 rfl rfl ?_
    refine f_ireturn dX12_undo_54 rfl rfl ?_
    exact ⟨by rw [r_X12_undo, if_neg c_5], by rw [m_X12_undo, if_neg c_5]⟩
  · refine f_iconst (v := 1) dX12_undo_8 rfl ?_
    refine f_goto (tgt := 13) dX12_undo_9 (by decide) ?_
    refine f_cV hG (As := [_]) dX12_undo_13 rfl k_X12_fails rfl rfl ml_X12_63 im_X12_fails se_X12_fails rfl rfl (c_X12_failsT hG (d := 0) (Nat.le_refl _) _ _ _ (by decide)) (by omega) (Nat.le_of_ble_eq_true rfl) (Nat.zero_le _) (Nat.zero_le _) ?_
    refine f_if_eq (tgt := 21) dX12_undo_16 (by decide) (fun c_16 => absurd c_16 (by decide)) (fun c_16 => ?_)
    refine f_iconst (v := 0) dX12_undo_19 rfl ?_
    refine f_ireturn dX12_undo_20 rfl rfl ?_
    exact ⟨by rw [r_X12_undo, if_pos c_5], by rw [m_X12_undo, if_pos c_5]⟩

def r_X12_save (M : fM) : Int32 := ((m_X12_copies (fst1 (fst1 M 296 7 (0 : Int32)) 296 4 (1 : Int32)) 297 127 (0 : Int32) 299 127 (0 : Int32)) 297 ((3 : Int32)).toNatClampNeg)
def m_X12_save (M : fM) : fM := (m_X12_copies (fst1 (fst1 M 296 7 (0 : Int32)) 296 4 (1 : Int32)) 297 127 (0 : Int32) 299 127 (0 : Int32))
def N_X12_save (M : fM) : Prop := (N_X12_copies (fst1 (fst1 M 296 7 (0 : Int32)) 296 4 (1 : Int32)) 297 127 (0 : Int32) 299 127 (0 : Int32))
set_option maxRecDepth 100000 in
set_option maxHeartbeats 4000000 in
theorem c_X12_save {G : fG} (hG : fOK G) {d : Nat} (hd : 1 ≤ d) (M : fM) (dv : UInt64) (hN : N_X12_save M) : fCt G z_X12_save d [.ref 296] (sS M dv) 0 0 (fD (some (.int (r_X12_save M))) (sS (m_X12_save M) dv)) := by
  refine fCt_to [some (.ref 296)] k_X12_save rfl (Nat.le_of_ble_eq_true rfl) rfl ?_
  have q0 : N_X12_copies (fst1 (fst1 M 296 7 (0 : Int32)) 296 4 (1 : Int32)) 297 127 (0 : Int32) 299 127 (0 : Int32) := hN
  refine f_aload_n dX12_save_0 rfl rfl ?_
  refine f_iconst (v := 0) dX12_save_1 rfl ?_
  refine s_puti hG fl_X12_45 (Or.inl rfl) dX12_save_2 rfl rfl rfl rfl ?_
  refine f_aload_n dX12_save_5 rfl rfl ?_
  refine f_iconst (v := 1) dX12_save_6 rfl ?_
  refine s_puti hG fl_X12_232 (Or.inl rfl) dX12_save_7 rfl rfl rfl rfl ?_
  refine f_aload_n dX12_save_10 rfl rfl ?_
  refine s_getr hG fl_X12_7 dX12_save_11 rfl rfl ?_
  refine f_iconst (v := 0) dX12_save_14 rfl ?_
  refine f_aload_n dX12_save_15 rfl rfl ?_
  refine s_getr hG fl_X12_16 dX12_save_16 rfl rfl ?_
  refine f_iconst (v := 0) dX12_save_19 rfl ?_
  refine f_cS hG (As := [_, _, _, _]) dX12_save_20 rfl k_X12_copies rfl rfl ml_X12_55 sm_X12_copies (c_X12_copies hG (d := 0) (Nat.le_refl _) _ _ _ _ _ _ _ _ rfl (by decide) rfl (by decide) q0) (by omega) (Nat.le_of_ble_eq_true rfl) (Nat.zero_le _) (Nat.zero_le _) ?_
  refine f_aload_n dX12_save_23 rfl rfl ?_
  refine s_getr hG fl_X12_7 dX12_save_24 rfl rfl ?_
  refine f_iconst (v := 3) dX12_save_27 rfl ?_
  refine s_iaload hG dX12_save_28 rfl ((show ¬ ((3 : Int32) < 0 ∨ 127 ≤ (3 : Int32).toNatClampNeg) by decide)) ?_
  refine f_ireturn dX12_save_29 rfl rfl ?_
  exact ⟨by rw [r_X12_save], by rw [m_X12_save]⟩

def r_X12_restore (M : fM) : Int32 := (if (M 296 4) = 0 then (0 : Int32) else ((fst1 (m_X12_copies (fst1 M 296 7 (0 : Int32)) 299 127 (0 : Int32) 297 127 (0 : Int32)) 296 5 (0 : Int32)) 297 ((3 : Int32)).toNatClampNeg))
def m_X12_restore (M : fM) : fM := (if (M 296 4) = 0 then (fst1 M 296 7 (1 : Int32)) else (fst1 (m_X12_copies (fst1 M 296 7 (0 : Int32)) 299 127 (0 : Int32) 297 127 (0 : Int32)) 296 5 (0 : Int32)))
def N_X12_restore (M : fM) : Prop := (¬ ((M 296 4) = 0) → N_X12_copies (fst1 M 296 7 (0 : Int32)) 299 127 (0 : Int32) 297 127 (0 : Int32))
set_option maxRecDepth 100000 in
set_option maxHeartbeats 4000000 in
theorem c_X12_restore {G : fG} (hG : fOK G) {d : Nat} (hd : 1 ≤ d) (M : fM) (dv : UInt64) (hN : N_X12_restore M) : fCt G z_X12_restore d [.ref 296] (sS M dv) 0 0 (fD (some (.int (r_X12_restore M))) (sS (m_X12_restore M) dv)) := by
  refine fCt_to [some (.ref 296)] k_X12_restore rfl (Nat.le_of_ble_eq_true rfl) rfl ?_
  have q0 : ¬ ((M 296 4) = 0) → N_X12_copies (fst1 M 296 7 (0 : Int32)) 299 127 (0 : Int32) 297 127 (0 : Int32) := hN
  refine f_aload_n dX12_restore_0 rfl rfl ?_
  refine f_aload_n dX12_restore_1 rfl rfl ?_
  refine s_geti hG fl_X12_232 dX12_restore_2 rfl rfl ?_
  refine f_if_eq (tgt := 12) dX12_restore_5 (by decide) (fun c_5 => ?_) (fun c_5 => ?_)
  · refine f_iconst (v := 1) dX12_restore_12 rfl ?_
    refine f_cV hG (As := [_]) dX12_restore_13 rfl k_X12_fails rfl rfl ml_X12_63 im_X12_fails se_X12_fails rfl rfl (c_X12_failsT hG (d := 0) (Nat.le_refl _) _ _ _ (by decide)) (by omega) (Nat.le_of_ble_eq_true rfl) (Nat.zero_le _) (Nat.zero_le _) ?_
    refine f_if_eq (tgt := 21) dX12_restore_16 (by decide) (fun c_16 => absurd c_16 (by decide)) (fun c_16 => ?_)
    refine f_iconst (v := 0) dX12_restore_19 rfl ?_
    refine f_ireturn dX12_restore_20 rfl rfl ?_
    exact ⟨by rw [r_X12_restore, if_pos c_5], by rw [m_X12_restore, if_pos c_5]⟩
  · refine f_iconst (v := 0) dX12_restore_8 rfl ?_
    refine f_goto (tgt := 13) dX12_restore_9 (by decide) ?_
    refine f_cV hG (As := [_]) dX12_restore_13 rfl k_X12_fails rfl rfl ml_X12_63 im_X12_fails se_X12_fails rfl rfl (c_X12_failsF hG (d := 0) (Nat.le_refl _) _ _ _ (by decide)) (by omega) (Nat.le_of_ble_eq_true rfl) (Nat.zero_le _) (Nat.zero_le _) ?_
    refine f_if_eq (tgt := 21) dX12_restore_16 (by decide) (fun c_16 => ?_) (fun c_16 => absurd c_16 (by decide))
    refine f_aload_n dX12_restore_21 rfl rfl ?_
    refine s_getr hG fl_X12_16 dX12_restore_22 rfl rfl ?_
    refine f_iconst (v := 0) dX12_restore_25 rfl ?_
    refine f_aload_n dX12_restore_26 rfl rfl ?_
    refine s_getr hG fl_X12_7 dX12_restore_27 rfl rfl ?_
    refine f_iconst (v := 0) dX12_restore_30 rfl ?_
    refine f_cS hG (As := [_, _, _, _]) dX12_restore_31 rfl k_X12_copies rfl rfl ml_X12_55 sm_X12_copies (c_X12_copies hG (d := 0) (Nat.le_refl _) _ _ _ _ _ _ _ _ rfl (by decide) rfl (by decide) (q0 c_5)) (by omega) (Nat.le_of_ble_eq_true rfl) (Nat.zero_le _) (Nat.zero_le _) ?_
    refine f_aload_n dX12_restore_34 rfl rfl ?_
    refine f_iconst (v := 0) dX12_restore_35 rfl ?_
    refine s_puti hG fl_X12_52 (Or.inl rfl) dX12_restore_36 rfl rfl rfl rfl ?_
    refine f_aload_n dX12_restore_39 rfl rfl ?_
    refine s_getr hG fl_X12_7 dX12_restore_40 rfl rfl ?_
    refine f_iconst (v := 3) dX12_restore_43 rfl ?_
    refine s_iaload hG dX12_restore_44 rfl ((show ¬ ((3 : Int32) < 0 ∨ 127 ≤ (3 : Int32).toNatClampNeg) by decide)) ?_
    refine f_ireturn dX12_restore_45 rfl rfl ?_
    exact ⟨by rw [r_X12_restore, if_neg c_5], by rw [m_X12_restore, if_neg c_5]⟩
