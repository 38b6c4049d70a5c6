def l_X12_apartA (a : Int32) : fM → Nat → Nat → fM
  | M, 0, _ => M
  | M, m + 1, j => (if (M 296 9) < (nI j) then M else (l_X12_apartA a (fst1 M 303 ((nI j)).toNatClampNeg (nI j)) m (j + 1)))
set_option maxRecDepth 100000 in
set_option maxHeartbeats 4000000 in
theorem lc_X12_apartA {G : fG} (hG : fOK G) {d : Nat} (hd : 0 ≤ d) (dv : UInt64) (a : Int32) (Pv : Nat → fM → Prop) (q0 : ∀ (j : Nat) (W_86 : fM), j ≤ 13 → Pv j W_86 → ¬ ((W_86 296 9) < (nI j)) → j < 13) (q1 : ∀ (j : Nat) (W_86 : fM), j ≤ 13 → Pv j W_86 → ¬ ((W_86 296 9) < (nI j)) → Pv (j + 1) (fst1 W_86 303 ((nI j)).toNatClampNeg (nI j))) {Q : fR → fS → Prop} {kc ks : Nat} : ∀ (m j : Nat) (M : fM), j ≤ 13 → 13 + 1 ≤ j + m → Pv j M → fV G z_X12_apart d Q 23 [some (.ref 296), some (.int a), none, none, none, none, none] [] (sS (l_X12_apartA a M m j) dv) kc ks → fV G z_X12_apart d Q 2 [some (.ref 296), some (.int a), some (.int (nI j)), none, none, none, none] [] (sS M dv) kc ks := by
  intro m
  induction m with
  | zero => intros; omega
  | succ m ih =>
    intro j M hj hm hI kk
    refine f_iload_n dX12_apart_2 rfl rfl ?_
    refine f_aload_n dX12_apart_3 rfl rfl ?_
    refine s_geti hG fl_X12_81 dX12_apart_4 rfl rfl ?_
    refine f_icmp_gt (tgt := 23) dX12_apart_7 (by decide) (fun c_7 => ?_) (fun c_7 => ?_)
    · have e9 : l_X12_apartA a M (m + 1) j = M := by rw [l_X12_apartA, if_pos c_7]
      rw [e9] at kk
      refine f_drop 2 ?_
      exact kk
    · have hlt : j < 13 := (q0 j M hj hI c_7)
      refine f_aload_n dX12_apart_10 rfl rfl ?_
      refine s_getr hG fl_X12_36 dX12_apart_11 rfl rfl ?_
      refine f_iload_n dX12_apart_14 rfl rfl ?_
      refine f_iload_n dX12_apart_15 rfl rfl ?_
      refine s_iastore hG dX12_apart_16 rfl ((vp_in_nI (by omega) (by decide))) ?_
      refine f_iinc (v := nI (j + 1)) (ls' := [_, _, _, _, _, _, _]) dX12_apart_17 rfl (nI_1 j) (Nat.le_of_ble_eq_true rfl) rfl rfl ?_
      refine f_goto (tgt := 2) dX12_apart_20 (by decide) ?_
      have e9 : l_X12_apartA a M (m + 1) j = l_X12_apartA a (fst1 M 303 ((nI j)).toNatClampNeg (nI j)) m (j + 1) := by rw [l_X12_apartA, if_neg c_7]
      exact ih (j + 1) (fst1 M 303 ((nI j)).toNatClampNeg (nI j)) (by omega) (by omega) (q1 j M hj hI c_7) (by rw [e9] at kk; exact kk)

def a0_X12_apart (M : fM) (j : Nat) (v3 : Int32) : fM := (fst1 M 303 ((nI j)).toNatClampNeg (r_X12_least M (v3 + (1 : Int32)) ((r_X12_least M (M 303 ((nI j)).toNatClampNeg) (M 303 (((nI j) - (1 : Int32))).toNatClampNeg)) + (1 : Int32))))
def a1_X12_apart (M : fM) (j : Nat) (v3 : Int32) : fM := (fst1 M 303 ((nI j)).toNatClampNeg (r_X12_least M (v3 + (0 : Int32)) ((r_X12_least M (M 303 ((nI j)).toNatClampNeg) (M 303 (((nI j) - (1 : Int32))).toNatClampNeg)) + (1 : Int32))))
def l_X12_apartI (a : Int32) (lv : Int32) : fM → Nat → Nat → Int32 → Int32 × fM
  | M, 0, _, v3 => (v3, M)
  | M, m + 1, j, v3 => (if (M 296 9) < (nI j) then (v3, M) else (if (r_X12_sign M a lv) = (M 301 (((nI j) - (1 : Int32))).toNatClampNeg) then (l_X12_apartI a lv (a1_X12_apart M j v3) m (j + 1) (M 303 ((nI j)).toNatClampNeg)) else (l_X12_apartI a lv (a0_X12_apart M j v3) m (j + 1) (M 303 ((nI j)).toNatClampNeg))))
set_option maxRecDepth 100000 in
set_option maxHeartbeats 4000000 in
theorem lc_X12_apartI {G : fG} (hG : fOK G) {d : Nat} (hd : 1 ≤ d) (dv : UInt64) (a : Int32) (lv : Int32) (Pv : Nat → fM → Int32 → Prop) (q0 : ∀ (j : Nat) (W_87 : fM) (v3 : Int32), j ≤ 13 → Pv j W_87 v3 → ¬ ((W_87 296 9) < (nI j)) → j < 13) (q1 : ∀ (j : Nat) (W_87 : fM) (v3 : Int32), j ≤ 13 → Pv j W_87 v3 → ¬ ((W_87 296 9) < (nI j)) → N_X12_sign W_87 a lv) (q2 : ∀ (j : Nat) (W_87 : fM) (v3 : Int32), j ≤ 13 → Pv j W_87 v3 → ¬ ((W_87 296 9) < (nI j)) → vp_in ((nI j) - (1 : Int32)) 60) (q3 : ∀ (j : Nat) (W_87 : fM) (v3 : Int32), j ≤ 13 → Pv j W_87 v3 → ¬ ((W_87 296 9) < (nI j)) → ¬ ((r_X12_sign W_87 a lv) = (W_87 301 (((nI j) - (1 : Int32))).toNatClampNeg)) → vp_in ((nI j) - (1 : Int32)) 13) (q4 : ∀ (j : Nat) (W_87 : fM) (v3 : Int32), j ≤ 13 → Pv j W_87 v3 → ¬ ((W_87 296 9) < (nI j)) → ¬ ((r_X12_sign W_87 a lv) = (W_87 301 (((nI j) - (1 : Int32))).toNatClampNeg)) → Pv (j + 1) (a0_X12_apart W_87 j v3) (W_87 303 ((nI j)).toNatClampNeg)) (q5 : ∀ (j : Nat) (W_87 : fM) (v3 : Int32), j ≤ 13 → Pv j W_87 v3 → ¬ ((W_87 296 9) < (nI j)) → ((r_X12_sign W_87 a lv) = (W_87 301 (((nI j) - (1 : Int32))).toNatClampNeg)) → vp_in ((nI j) - (1 : Int32)) 13) (q6 : ∀ (j : Nat) (W_87 : fM) (v3 : Int32), j ≤ 13 → Pv j W_87 v3 → ¬ ((W_87 296 9) < (nI j)) → ((r_X12_sign W_87 a lv) = (W_87 301 (((nI j) - (1 : Int32))).toNatClampNeg)) → Pv (j + 1) (a1_X12_apart W_87 j v3) (W_87 303 ((nI j)).toNatClampNeg)) {Q : fR → fS → Prop} {kc ks : Nat} : ∀ (m j : Nat) (M : fM) (v3 : Int32), j ≤ 13 → 13 + 1 ≤ j + m → Pv j M v3 → fV G z_X12_apart d Q 134 [some (.ref 296), some (.int a), some (.int lv), some (.int ((l_X12_apartI a lv M m j v3).1)), none, none, none] [] (sS ((l_X12_apartI a lv M m j v3).2) dv) kc ks → fV G z_X12_apart d Q 52 [some (.ref 296), some (.int a), some (.int lv), some (.int v3), some (.int (nI j)), none, none] [] (sS M dv) kc ks := by
  intro m
  induction m with
  | zero => intros; omega
  | succ m ih =>
    intro j M v3 hj hm hI kk
    refine f_iload dX12_apart_52 rfl ?_
    refine f_aload_n dX12_apart_54 rfl rfl ?_
    refine s_geti hG fl_X12_81 dX12_apart_55 rfl rfl ?_
    refine f_icmp_gt (tgt := 134) dX12_apart_58 (by decide) (fun c_58 => ?_) (fun c_58 => ?_)
    · have e9 : l_X12_apartI a lv M (m + 1) j v3 = (v3, M) := by rw [l_X12_apartI, if_pos c_58]
      rw [e9] at kk
      refine f_drop 4 ?_
      refine f_drop 5 ?_
      refine f_drop 6 ?_
      exact kk
    · have hlt : j < 13 := (q0 j M v3 hj hI c_58)
      refine f_aload_n dX12_apart_61 rfl rfl ?_
      refine s_getr hG fl_X12_36 dX12_apart_62 rfl rfl ?_
      refine f_iload dX12_apart_65 rfl ?_
      refine s_iaload hG dX12_apart_67 rfl ((vp_in_nI (by omega) (by decide))) ?_
      refine f_istore (ls' := [_, _, _, _, _, _, _]) dX12_apart_68 (Nat.le_of_ble_eq_true rfl) rfl rfl ?_
      refine f_aload_n dX12_apart_70 rfl rfl ?_
      refine f_iload_n dX12_apart_71 rfl rfl ?_
      refine f_iload_n dX12_apart_72 rfl rfl ?_
      refine f_cV hG (As := [_, _]) dX12_apart_73 rfl k_X12_sign rfl rfl ml_X12_84 im_X12_sign se_X12_sign rfl rfl (c_X12_sign hG (d := 0) (Nat.le_refl _) _ _ _ _ (q1 j M v3 hj hI c_58)) (by omega) (Nat.le_of_ble_eq_true rfl) (Nat.zero_le _) (Nat.zero_le _) ?_
      refine f_aload_n dX12_apart_76 rfl rfl ?_
      refine s_getr hG fl_X12_22 dX12_apart_77 rfl rfl ?_
      refine f_iload dX12_apart_80 rfl ?_
      refine f_iconst (v := 1) dX12_apart_82 rfl ?_
      refine f_isub dX12_apart_83 ?_
      refine s_iaload hG dX12_apart_84 rfl ((q2 j M v3 hj hI c_58)) ?_
      refine f_icmp_ne (tgt := 92) dX12_apart_85 (by decide) (fun c_85 => ?_) (fun c_85 => ?_)
      · refine f_iconst (v := 1) dX12_apart_92 rfl ?_
        refine f_istore (ls' := [_, _, _, _, _, _, _]) dX12_apart_93 (Nat.le_of_ble_eq_true rfl) rfl rfl ?_
        refine f_aload_n dX12_apart_95 rfl rfl ?_
        refine s_getr hG fl_X12_36 dX12_apart_96 rfl rfl ?_
        refine f_iload dX12_apart_99 rfl ?_
        refine f_iload_n dX12_apart_101 rfl rfl ?_
        refine f_iload dX12_apart_102 rfl ?_
        refine f_iadd dX12_apart_104 ?_
        refine f_iload dX12_apart_105 rfl ?_
        refine f_aload_n dX12_apart_107 rfl rfl ?_
        refine s_getr hG fl_X12_36 dX12_apart_108 rfl rfl ?_
        refine f_iload dX12_apart_111 rfl ?_
        refine f_iconst (v := 1) dX12_apart_113 rfl ?_
        refine f_isub dX12_apart_114 ?_
        refine s_iaload hG dX12_apart_115 rfl ((q3 j M v3 hj hI c_58 c_85)) ?_
        refine f_cS hG (As := [_, _]) dX12_apart_116 rfl k_X12_least rfl rfl ml_X12_97 sm_X12_least (c_X12_least hG (d := 0) (Nat.le_refl _) _ _ _ _) (by omega) (Nat.le_of_ble_eq_true rfl) (Nat.zero_le _) (Nat.zero_le _) ?_
        refine f_iconst (v := 1) dX12_apart_119 rfl ?_
        refine f_iadd dX12_apart_120 ?_
        refine f_cS hG (As := [_, _]) dX12_apart_121 rfl k_X12_least rfl rfl ml_X12_97 sm_X12_least (c_X12_least hG (d := 0) (Nat.le_refl _) _ _ _ _) (by omega) (Nat.le_of_ble_eq_true rfl) (Nat.zero_le _) (Nat.zero_le _) ?_
        refine s_iastore hG dX12_apart_124 rfl ((vp_in_nI (by omega) (by decide))) ?_
        refine f_mem (M := (fst1 M 303 ((nI j)).toNatClampNeg (r_X12_least M (v3 + (1 : Int32)) ((r_X12_least M (M 303 ((nI j)).toNatClampNeg) (M 303 (((nI j) - (1 : Int32))).toNatClampNeg)) + (1 : Int32))))) (M' := (a0_X12_apart M j v3)) (by rw [a0_X12_apart]) ?_
        refine f_iload dX12_apart_125 rfl ?_
        refine f_istore_n (ls' := [_, _, _, _, _, _, _]) dX12_apart_127 rfl (Nat.le_of_ble_eq_true rfl) rfl rfl ?_
        refine f_iinc (v := nI (j + 1)) (ls' := [_, _, _, _, _, _, _]) dX12_apart_128 rfl (nI_1 j) (Nat.le_of_ble_eq_true rfl) rfl rfl ?_
        refine f_goto (tgt := 52) dX12_apart_131 (by decide) ?_
        have e9 : l_X12_apartI a lv M (m + 1) j v3 = l_X12_apartI a lv (a0_X12_apart M j v3) m (j + 1) (M 303 ((nI j)).toNatClampNeg) := by rw [l_X12_apartI, if_neg c_58, if_neg c_85]
        refine f_drop 5 ?_
        refine f_drop 6 ?_
        exact ih (j + 1) (a0_X12_apart M j v3) (M 303 ((nI j)).toNatClampNeg) (by omega) (by omega) (q4 j M v3 hj hI c_58 c_85) (by rw [e9] at kk; exact kk)
      · refine f_iconst (v := 0) dX12_apart_88 rfl ?_
        refine f_goto (tgt := 93) dX12_apart_89 (by decide) ?_
        refine f_istore (ls' := [_, _, _, _, _, _, _]) dX12_apart_93 (Nat.le_of_ble_eq_true rfl) rfl rfl ?_
        refine f_aload_n dX12_apart_95 rfl rfl ?_
        refine s_getr hG fl_X12_36 dX12_apart_96 rfl rfl ?_
        refine f_iload dX12_apart_99 rfl ?_
        refine f_iload_n dX12_apart_101 rfl rfl ?_
        refine f_iload dX12_apart_102 rfl ?_
        refine f_iadd dX12_apart_104 ?_
        refine f_iload dX12_apart_105 rfl ?_
        refine f_aload_n dX12_apart_107 rfl rfl ?_
        refine s_getr hG fl_X12_36 dX12_apart_108 rfl rfl ?_
        refine f_iload dX12_apart_111 rfl ?_
        refine f_iconst (v := 1) dX12_apart_113 rfl ?_
        refine f_isub dX12_apart_114 ?_
        refine s_iaload hG dX12_apart_115 rfl ((q5 j M v3 hj hI c_58 c_85)) ?_
        refine f_cS hG (As := [_, _]) dX12_apart_116 rfl k_X12_least rfl rfl ml_X12_97 sm_X12_least (c_X12_least hG (d := 0) (Nat.le_refl _) _ _ _ _) (by omega) (Nat.le_of_ble_eq_true rfl) (Nat.zero_le _) (Nat.zero_le _) ?_
        refine f_iconst (v := 1) dX12_apart_119 rfl ?_
        refine f_iadd dX12_apart_120 ?_
        refine f_cS hG (As := [_, _]) dX12_apart_121 rfl k_X12_least rfl rfl ml_X12_97 sm_X12_least (c_X12_least hG (d := 0) (Nat.le_refl _) _ _ _ _) (by omega) (Nat.le_of_ble_eq_true rfl) (Nat.zero_le _) (Nat.zero_le _) ?_
        refine s_iastore hG dX12_apart_124 rfl ((vp_in_nI (by omega) (by decide))) ?_
        refine f_mem (M := (fst1 M 303 ((nI j)).toNatClampNeg (r_X12_least M (v3 + (0 : Int32)) ((r_X12_least M (M 303 ((nI j)).toNatClampNeg) (M 303 (((nI j) - (1 : Int32))).toNatClampNeg)) + (1 : Int32))))) (M' := (a1_X12_apart M j v3)) (by rw [a1_X12_apart]) ?_
        refine f_iload dX12_apart_125 rfl ?_
        refine f_istore_n (ls' := [_, _, _, _, _, _, _]) dX12_apart_127 rfl (Nat.le_of_ble_eq_true rfl) rfl rfl ?_
        refine f_iinc (v := nI (j + 1)) (ls' := [_, _, _, _, _, _, _]) dX12_apart_128 rfl (nI_1 j) (Nat.le_of_ble_eq_true rfl) rfl rfl ?_
        refine f_goto (tgt := 52) dX12_apart_131 (by decide) ?_
        have e9 : l_X12_apartI a lv M (m + 1) j v3 = l_X12_apartI a lv (a1_X12_apart M j v3) m (j + 1) (M 303 ((nI j)).toNatClampNeg) := by rw [l_X12_apartI, if_neg c_58, if_pos c_85]
        refine f_drop 5 ?_
        refine f_drop 6 ?_
        exact ih (j + 1) (a1_X12_apart M j v3) (M 303 ((nI j)).toNatClampNeg) (by omega) (by omega) (q6 j M v3 hj hI c_58 c_85) (by rw [e9] at kk; exact kk)

def a2_X12_apart (M : fM) (a : Int32) (j : Nat) : fM := (l_X12_apartI a (nI j) (fst1 M 303 ((0 : Int32)).toNatClampNeg (nI j)) 14 1 (M 303 ((0 : Int32)).toNatClampNeg)).2
def l_X12_apartO (a : Int32) : fM → Nat → Nat → fM
  | M, 0, _ => M
  | M, m + 1, j => (if (r_X12_sign M a (0 : Int32)) < (nI j) then M else (l_X12_apartO a (a2_X12_apart M a j) m (j + 1)))
set_option maxRecDepth 100000 in
set_option maxHeartbeats 4000000 in
theorem lc_X12_apartO {G : fG} (hG : fOK G) {d : Nat} (hd : 1 ≤ d) (dv : UInt64) (a : Int32) (Pv : Nat → fM → Prop) (q0 : ∀ (j : Nat) (W_104 : fM), j ≤ 7 → Pv j W_104 → N_X12_sign W_104 a (0 : Int32)) (q1 : ∀ (j : Nat) (W_104 : fM), j ≤ 7 → Pv j W_104 → ¬ ((r_X12_sign W_104 a (0 : Int32)) < (nI j)) → j < 7) (q2 : ∀ (j : Nat) (W_104 : fM), j ≤ 7 → Pv j W_104 → ¬ ((r_X12_sign W_104 a (0 : Int32)) < (nI j)) → ∃ Pv : Nat → fM → Int32 → Prop, Pv 1 (fst1 W_104 303 ((0 : Int32)).toNatClampNeg (nI j)) (W_104 303 ((0 : Int32)).toNatClampNeg) ∧ (∀ (j_97 : Nat) (W_87 : fM) (v3_97 : Int32), j_97 ≤ 13 → Pv j_97 W_87 v3_97 → ¬ ((W_87 296 9) < (nI j_97)) → j_97 < 13) ∧ (∀ (j_98 : Nat) (W_87 : fM) (v3_98 : Int32), j_98 ≤ 13 → Pv j_98 W_87 v3_98 → ¬ ((W_87 296 9) < (nI j_98)) → N_X12_sign W_87 a (nI j)) ∧ (∀ (j_99 : Nat) (W_87 : fM) (v3_99 : Int32), j_99 ≤ 13 → Pv j_99 W_87 v3_99 → ¬ ((W_87 296 9) < (nI j_99)) → vp_in ((nI j_99) - (1 : Int32)) 60) ∧ (∀ (j_100 : Nat) (W_87 : fM) (v3_100 : Int32), j_100 ≤ 13 → Pv j_100 W_87 v3_100 → ¬ ((W_87 296 9) < (nI j_100)) → ¬ ((r_X12_sign W_87 a (nI j)) = (W_87 301 (((nI j_100) - (1 : Int32))).toNatClampNeg)) → vp_in ((nI j_100) - (1 : Int32)) 13) ∧ (∀ (j_101 : Nat) (W_87 : fM) (v3_101 : Int32), j_101 ≤ 13 → Pv j_101 W_87 v3_101 → ¬ ((W_87 296 9) < (nI j_101)) → ¬ ((r_X12_sign W_87 a (nI j)) = (W_87 301 (((nI j_101) - (1 : Int32))).toNatClampNeg)) → Pv (j_101 + 1) (a0_X12_apart W_87 j_101 v3_101) (W_87 303 ((nI j_101)).toNatClampNeg)) ∧ (∀ (j_102 : Nat) (W_87 : fM) (v3_102 : Int32), j_102 ≤ 13 → Pv j_102 W_87 v3_102 → ¬ ((W_87 296 9) < (nI j_102)) → ((r_X12_sign W_87 a (nI j)) = (W_87 301 (((nI j_102) - (1 : Int32))).toNatClampNeg)) → vp_in ((nI j_102) - (1 : Int32)) 13) ∧ (∀ (j_103 : Nat) (W_87 : fM) (v3_103 : Int32), j_103 ≤ 13 → Pv j_103 W_87 v3_103 → ¬ ((W_87 296 9) < (nI j_103)) → ((r_X12_sign W_87 a (nI j)) = (W_87 301 (((nI j_103) - (1 : Int32))).toNatClampNeg)) → Pv (j_103 + 1) (a1_X12_apart W_87 j_103 v3_103) (W_87 303 ((nI j_103)).toNatClampNeg))) (q3 : ∀ (j : Nat) (W_104 : fM), j ≤ 7 → Pv j W_104 → ¬ ((r_X12_sign W_104 a (0 : Int32)) < (nI j)) → Pv (j + 1) (a2_X12_apart W_104 a j)) {Q : fR → fS → Prop} {kc ks : Nat} : ∀ (m j : Nat) (M : fM), j ≤ 7 → 7 + 1 ≤ j + m → Pv j M → fV G z_X12_apart d Q 140 [some (.ref 296), some (.int a), none, none, none, none, none] [] (sS (l_X12_apartO a M m j) dv) kc ks → fV G z_X12_apart d Q 25 [some (.ref 296), some (.int a), some (.int (nI j)), none, none, none, none] [] (sS M dv) kc ks := by
  intro m
  induction m with
  | zero => intros; omega
  | succ m ih =>
    intro j M hj hm hI kk
    refine f_iload_n dX12_apart_25 rfl rfl ?_
    refine f_aload_n dX12_apart_26 rfl rfl ?_
    refine f_iload_n dX12_apart_27 rfl rfl ?_
    refine f_iconst (v := 0) dX12_apart_28 rfl ?_
    refine f_cV hG (As := [_, _]) dX12_apart_29 rfl k_X12_sign rfl rfl ml_X12_84 im_X12_sign se_X12_sign rfl rfl (c_X12_sign hG (d := 0) (Nat.le_refl _) _ _ _ _ (q0 j M hj hI)) (by omega) (Nat.le_of_ble_eq_true rfl) (Nat.zero_le _) (Nat.zero_le _) ?_
    refine f_icmp_gt (tgt := 140) dX12_apart_32 (by decide) (fun c_32 => ?_) (fun c_32 => ?_)
    · have e9 : l_X12_apartO a M (m + 1) j = M := by rw [l_X12_apartO, if_pos c_32]
      rw [e9] at kk
      refine f_drop 2 ?_
      refine f_drop 3 ?_
      refine f_drop 4 ?_
      refine f_drop 5 ?_
      refine f_drop 6 ?_
      exact kk
    · have hlt : j < 7 := (q1 j M hj hI c_32)
      refine f_aload_n dX12_apart_35 rfl rfl ?_
      refine s_getr hG fl_X12_36 dX12_apart_36 rfl rfl ?_
      refine f_iconst (v := 0) dX12_apart_39 rfl ?_
      refine s_iaload hG dX12_apart_40 rfl ((show ¬ ((0 : Int32) < 0 ∨ 13 ≤ (0 : Int32).toNatClampNeg) by decide)) ?_
      refine f_istore_n (ls' := [_, _, _, _, _, _, _]) dX12_apart_41 rfl (Nat.le_of_ble_eq_true rfl) rfl rfl ?_
      refine f_aload_n dX12_apart_42 rfl rfl ?_
      refine s_getr hG fl_X12_36 dX12_apart_43 rfl rfl ?_
      refine f_iconst (v := 0) dX12_apart_46 rfl ?_
      refine f_iload_n dX12_apart_47 rfl rfl ?_
      refine s_iastore hG dX12_apart_48 rfl ((show ¬ ((0 : Int32) < 0 ∨ 13 ≤ (0 : Int32).toNatClampNeg) by decide)) ?_
      refine f_iconst (v := 1) dX12_apart_49 rfl ?_
      refine f_istore (ls' := [_, _, _, _, _, _, _]) dX12_apart_50 (Nat.le_of_ble_eq_true rfl) rfl rfl ?_
      obtain ⟨Pv96, hI96, w96_0, w96_1, w96_2, w96_3, w96_4, w96_5, w96_6⟩ := (q2 j M hj hI c_32)
      refine lc_X12_apartI hG (by omega) dv _ _ Pv96 w96_0 w96_1 w96_2 w96_3 w96_4 w96_5 w96_6 14 1 _ _ (by omega) (by omega) hI96 ?_
      refine f_mem (M := (l_X12_apartI a (nI j) (fst1 M 303 ((0 : Int32)).toNatClampNeg (nI j)) 14 1 (M 303 ((0 : Int32)).toNatClampNeg)).2) (M' := (a2_X12_apart M a j)) (by rw [a2_X12_apart]) ?_
      refine f_iinc (v := nI (j + 1)) (ls' := [_, _, _, _, _, _, _]) dX12_apart_134 rfl (nI_1 j) (Nat.le_of_ble_eq_true rfl) rfl rfl ?_
      refine f_goto (tgt := 25) dX12_apart_137 (by decide) ?_
      have e9 : l_X12_apartO a M (m + 1) j = l_X12_apartO a (a2_X12_apart M a j) m (j + 1) := by rw [l_X12_apartO, if_neg c_32]
      refine f_drop 3 ?_
      refine f_drop 4 ?_
      refine f_drop 5 ?_
      refine f_drop 6 ?_
      exact ih (j + 1) (a2_X12_apart M a j) (by omega) (by omega) (q3 j M hj hI c_32) (by rw [e9] at kk; exact kk)

def r_X12_apart (M : fM) (a : Int32) : Int32 := ((l_X12_apartO a (l_X12_apartA a M 14 0) 8 1) 303 (((l_X12_apartO a (l_X12_apartA a M 14 0) 8 1) 296 9)).toNatClampNeg)
def m_X12_apart (M : fM) (a : Int32) : fM := (l_X12_apartO a (l_X12_apartA a M 14 0) 8 1)
def N_X12_apart (M : fM) (a : Int32) : Prop := (∃ Pv : Nat → fM → Prop, Pv 0 M ∧ (∀ (j_114 : Nat) (W_86 : fM), j_114 ≤ 13 → Pv j_114 W_86 → ¬ ((W_86 296 9) < (nI j_114)) → j_114 < 13) ∧ (∀ (j_115 : Nat) (W_86 : fM), j_115 ≤ 13 → Pv j_115 W_86 → ¬ ((W_86 296 9) < (nI j_115)) → Pv (j_115 + 1) (fst1 W_86 303 ((nI j_115)).toNatClampNeg (nI j_115)))) ∧ (∃ Pv : Nat → fM → Prop, Pv 1 (l_X12_apartA a M 14 0) ∧ (∀ (j_117 : Nat) (W_104 : fM), j_117 ≤ 7 → Pv j_117 W_104 → N_X12_sign W_104 a (0 : Int32)) ∧ (∀ (j_118 : Nat) (W_104 : fM), j_118 ≤ 7 → Pv j_118 W_104 → ¬ ((r_X12_sign W_104 a (0 : Int32)) < (nI j_118)) → j_118 < 7) ∧ (∀ (j_119 : Nat) (W_104 : fM), j_119 ≤ 7 → Pv j_119 W_104 → ¬ ((r_X12_sign W_104 a (0 : Int32)) < (nI j_119)) → ∃ Pv : Nat → fM → Int32 → Prop, Pv 1 (fst1 W_104 303 ((0 : Int32)).toNatClampNeg (nI j_119)) (W_104 303 ((0 : Int32)).toNatClampNeg) ∧ (∀ (j_119x5 : Nat) (W_87 : fM) (v3_119x4 : Int32), j_119x5 ≤ 13 → Pv j_119x5 W_87 v3_119x4 → ¬ ((W_87 296 9) < (nI j_119x5)) → j_119x5 < 13) ∧ (∀ (j_119x6 : Nat) (W_87 : fM) (v3_119x5 : Int32), j_119x6 ≤ 13 → Pv j_119x6 W_87 v3_119x5 → ¬ ((W_87 296 9) < (nI j_119x6)) → N_X12_sign W_87 a (nI j_119)) ∧ (∀ (j_119x7 : Nat) (W_87 : fM) (v3_119x6 : Int32), j_119x7 ≤ 13 → Pv j_119x7 W_87 v3_119x6 → ¬ ((W_87 296 9) < (nI j_119x7)) → vp_in ((nI j_119x7) - (1 : Int32)) 60) ∧ (∀ (j_119x1 : Nat) (W_87 : fM) (v3_119 : Int32), j_119x1 ≤ 13 → Pv j_119x1 W_87 v3_119 → ¬ ((W_87 296 9) < (nI j_119x1)) → ¬ ((r_X12_sign W_87 a (nI j_119)) = (W_87 301 (((nI j_119x1) - (1 : Int32))).toNatClampNeg)) → vp_in ((nI j_119x1) - (1 : Int32)) 13) ∧ (∀ (j_119x2 : Nat) (W_87 : fM) (v3_119x1 : Int32), j_119x2 ≤ 13 → Pv j_119x2 W_87 v3_119x1 → ¬ ((W_87 296 9) < (nI j_119x2)) → ¬ ((r_X12_sign W_87 a (nI j_119)) = (W_87 301 (((nI j_119x2) - (1 : Int32))).toNatClampNeg)) → Pv (j_119x2 + 1) (a0_X12_apart W_87 j_119x2 v3_119x1) (W_87 303 ((nI j_119x2)).toNatClampNeg)) ∧ (∀ (j_119x3 : Nat) (W_87 : fM) (v3_119x2 : Int32), j_119x3 ≤ 13 → Pv j_119x3 W_87 v3_119x2 → ¬ ((W_87 296 9) < (nI j_119x3)) → ((r_X12_sign W_87 a (nI j_119)) = (W_87 301 (((nI j_119x3) - (1 : Int32))).toNatClampNeg)) → vp_in ((nI j_119x3) - (1 : Int32)) 13) ∧ (∀ (j_119x4 : Nat) (W_87 : fM) (v3_119x3 : Int32), j_119x4 ≤ 13 → Pv j_119x4 W_87 v3_119x3 → ¬ ((W_87 296 9) < (nI j_119x4)) → ((r_X12_sign W_87 a (nI j_119)) = (W_87 301 (((nI j_119x4) - (1 : Int32))).toNatClampNeg)) → Pv (j_119x4 + 1) (a1_X12_apart W_87 j_119x4 v3_119x3) (W_87 303 ((nI j_119x4)).toNatClampNeg))) ∧ (∀ (j_120 : Nat) (W_104 : fM), j_120 ≤ 7 → Pv j_120 W_104 → ¬ ((r_X12_sign W_104 a (0 : Int32)) < (nI j_120)) → Pv (j_120 + 1) (a2_X12_apart W_104 a j_120))) ∧ (vp_in ((l_X12_apartO a (l_X12_apartA a M 14 0) 8 1) 296 9) 13)
set_option maxRecDepth 100000 in
set_option maxHeartbeats 4000000 in
theorem c_X12_apart {G : fG} (hG : fOK G) {d : Nat} (hd : 1 ≤ d) (M : fM) (dv : UInt64) (a : Int32) (hN : N_X12_apart M a) : fCt G z_X12_apart d [.ref 296, .int a] (sS M dv) 0 0 (fD (some (.int (r_X12_apart M a))) (sS (m_X12_apart M a) dv)) := by
  refine fCt_to [some (.ref 296), some (.int a), none, none, none, none, none] k_X12_apart rfl (Nat.le_of_ble_eq_true rfl) rfl ?_
  obtain ⟨q0, q1, q2⟩ := hN
  refine f_iconst (v := 0) dX12_apart_0 rfl ?_
  refine f_istore_n (ls' := [_, _, _, _, _, _, _]) dX12_apart_1 rfl (Nat.le_of_ble_eq_true rfl) rfl rfl ?_
  obtain ⟨Pv113, hI113, w113_0, w113_1⟩ := q0
  refine lc_X12_apartA hG (by omega) dv _ Pv113 w113_0 w113_1 14 0 _ (by omega) (by omega) hI113 ?_
  refine f_iconst (v := 1) dX12_apart_23 rfl ?_
  refine f_istore_n (ls' := [_, _, _, _, _, _, _]) dX12_apart_24 rfl (Nat.le_of_ble_eq_true rfl) rfl rfl ?_
  obtain ⟨Pv116, hI116, w116_0, w116_1, w116_2, w116_3⟩ := q1
  refine lc_X12_apartO hG (by omega) dv _ Pv116 w116_0 w116_1 w116_2 w116_3 8 1 _ (by omega) (by omega) hI116 ?_
  refine f_aload_n dX12_apart_140 rfl rfl ?_
  refine s_getr hG fl_X12_36 dX12_apart_141 rfl rfl ?_
  refine f_aload_n dX12_apart_144 rfl rfl ?_
  refine s_geti hG fl_X12_81 dX12_apart_145 rfl rfl ?_
  refine s_iaload hG dX12_apart_148 rfl (q2) ?_
  refine f_ireturn dX12_apart_149 rfl rfl ?_
  exact ⟨by rw [r_X12_apart], by rw [m_X12_apart]⟩

def l_X12_scanL : fM → Nat → Nat → Int32 → Int32 × fM
  | M, 0, _, v1 => (v1, M)
  | M, m + 1, j, v1 => (if (M 297 ((2 : Int32)).toNatClampNeg) ≤ (nI j) then (v1, M) else (if (r_X12_apart (m_X12_apart M (nI j)) v1) ≤ (r_X12_apart M (nI j)) then (l_X12_scanL (m_X12_apart (m_X12_apart M (nI j)) v1) m (j + 1) v1) else (l_X12_scanL (m_X12_apart (m_X12_apart M (nI j)) v1) m (j + 1) (nI j))))
set_option maxRecDepth 100000 in
set_option maxHeartbeats 4000000 in
theorem lc_X12_scanL {G : fG} (hG : fOK G) {d : Nat} (hd : 2 ≤ d) (dv : UInt64) (Pv : Nat → fM → Int32 → Prop) (q0 : ∀ (j : Nat) (W_121 : fM) (v1 : Int32), j ≤ 8 → Pv j W_121 v1 → ¬ ((W_121 297 ((2 : Int32)).toNatClampNeg) ≤ (nI j)) → j < 8) (q1 : ∀ (j : Nat) (W_121 : fM) (v1 : Int32), j ≤ 8 → Pv j W_121 v1 → ¬ ((W_121 297 ((2 : Int32)).toNatClampNeg) ≤ (nI j)) → N_X12_apart W_121 (nI j)) (q2 : ∀ (j : Nat) (W_121 : fM) (v1 : Int32), j ≤ 8 → Pv j W_121 v1 → ¬ ((W_121 297 ((2 : Int32)).toNatClampNeg) ≤ (nI j)) → N_X12_apart (m_X12_apart W_121 (nI j)) v1) (q3 : ∀ (j : Nat) (W_121 : fM) (v1 : Int32), j ≤ 8 → Pv j W_121 v1 → ¬ ((W_121 297 ((2 : Int32)).toNatClampNeg) ≤ (nI j)) → ((r_X12_apart (m_X12_apart W_121 (nI j)) v1) ≤ (r_X12_apart W_121 (nI j))) → Pv (j + 1) (m_X12_apart (m_X12_apart W_121 (nI j)) v1) v1) (q4 : ∀ (j : Nat) (W_121 : fM) (v1 : Int32), j ≤ 8 → Pv j W_121 v1 → ¬ ((W_121 297 ((2 : Int32)).toNatClampNeg) ≤ (nI j)) → ¬ ((r_X12_apart (m_X12_apart W_121 (nI j)) v1) ≤ (r_X12_apart W_121 (nI j))) → Pv (j + 1) (m_X12_apart (m_X12_apart W_121 (nI j)) v1) (nI j)) {Q : fR → fS → Prop} {kc ks : Nat} : ∀ (m j : Nat) (M : fM) (v1 : Int32), j ≤ 8 → 8 + 1 ≤ j + m → Pv j M v1 → fV G z_X12_scan d Q 71 [some (.ref 296), some (.int ((l_X12_scanL M m j v1).1)), none] [] (sS ((l_X12_scanL M m j v1).2) dv) kc ks → fV G z_X12_scan d Q 40 [some (.ref 296), some (.int v1), some (.int (nI j))] [] (sS M dv) kc ks := by
  intro m
  induction m with
  | zero => intros; omega
  | succ m ih =>
    intro j M v1 hj hm hI kk
    refine f_iload_n dX12_scan_40 rfl rfl ?_
    refine f_aload_n dX12_scan_41 rfl rfl ?_
    refine s_getr hG fl_X12_7 dX12_scan_42 rfl rfl ?_
    refine f_iconst (v := 2) dX12_scan_45 rfl ?_
    refine s_iaload hG dX12_scan_46 rfl ((show ¬ ((2 : Int32) < 0 ∨ 127 ≤ (2 : Int32).toNatClampNeg) by decide)) ?_
    refine f_icmp_ge (tgt := 71) dX12_scan_47 (by decide) (fun c_47 => ?_) (fun c_47 => ?_)
    · have e9 : l_X12_scanL M (m + 1) j v1 = (v1, M) := by rw [l_X12_scanL, if_pos c_47]
      rw [e9] at kk
      refine f_drop 2 ?_
      exact kk
    · have hlt : j < 8 := (q0 j M v1 hj hI c_47)
      refine f_aload_n dX12_scan_50 rfl rfl ?_
      refine f_iload_n dX12_scan_51 rfl rfl ?_
      refine f_cV hG (As := [_]) dX12_scan_52 rfl k_X12_apart rfl rfl ml_X12_100 im_X12_apart se_X12_apart rfl rfl (c_X12_apart hG (d := 1) (Nat.le_refl _) _ _ _ (q1 j M v1 hj hI c_47)) (by omega) (Nat.le_of_ble_eq_true rfl) (Nat.zero_le _) (Nat.zero_le _) ?_
      refine f_aload_n dX12_scan_55 rfl rfl ?_
      refine f_iload_n dX12_scan_56 rfl rfl ?_
      refine f_cV hG (As := [_]) dX12_scan_57 rfl k_X12_apart rfl rfl ml_X12_100 im_X12_apart se_X12_apart rfl rfl (c_X12_apart hG (d := 1) (Nat.le_refl _) _ _ _ (q2 j M v1 hj hI c_47)) (by omega) (Nat.le_of_ble_eq_true rfl) (Nat.zero_le _) (Nat.zero_le _) ?_
      refine f_icmp_ge (tgt := 65) dX12_scan_60 (by decide) (fun c_60 => ?_) (fun c_60 => ?_)
      · refine f_iinc (v := nI (j + 1)) (ls' := [_, _, _]) dX12_scan_65 rfl (nI_1 j) (Nat.le_of_ble_eq_true rfl) rfl rfl ?_
        refine f_goto (tgt := 40) dX12_scan_68 (by decide) ?_
        have e9 : l_X12_scanL M (m + 1) j v1 = l_X12_scanL (m_X12_apart (m_X12_apart M (nI j)) v1) m (j + 1) v1 := by rw [l_X12_scanL, if_neg c_47, if_pos c_60]
        exact ih (j + 1) (m_X12_apart (m_X12_apart M (nI j)) v1) v1 (by omega) (by omega) (q3 j M v1 hj hI c_47 c_60) (by rw [e9] at kk; exact kk)
      · refine f_iload_n dX12_scan_63 rfl rfl ?_
        refine f_istore_n (ls' := [_, _, _]) dX12_scan_64 rfl (Nat.le_of_ble_eq_true rfl) rfl rfl ?_
        refine f_iinc (v := nI (j + 1)) (ls' := [_, _, _]) dX12_scan_65 rfl (nI_1 j) (Nat.le_of_ble_eq_true rfl) rfl rfl ?_
        refine f_goto (tgt := 40) dX12_scan_68 (by decide) ?_
        have e9 : l_X12_scanL M (m + 1) j v1 = l_X12_scanL (m_X12_apart (m_X12_apart M (nI j)) v1) m (j + 1) (nI j) := by rw [l_X12_scanL, if_neg c_47, if_neg c_60]
        exact ih (j + 1) (m_X12_apart (m_X12_apart M (nI j)) v1) (nI j) (by omega) (by omega) (q4 j M v1 hj hI c_47 c_60) (by rw [e9] at kk; exact kk)

def r_X12_scan (M : fM) : Int32 := (if (r_X12_isWritten M (12 : Int32)) = 0 then (0 : Int32) else (if (M 297 ((2 : Int32)).toNatClampNeg) = 0 then (0 : Int32) else (l_X12_scanL (fst1 M 296 7 (0 : Int32)) 9 1 (0 : Int32)).1))
def m_X12_scan (M : fM) : fM := (if (r_X12_isWritten M (12 : Int32)) = 0 then (fst1 M 296 7 (1 : Int32)) else (if (M 297 ((2 : Int32)).toNatClampNeg) = 0 then (fst1 M 296 7 (2 : Int32)) else (l_X12_scanL (fst1 M 296 7 (0 : Int32)) 9 1 (0 : Int32)).2))
def N_X12_scan (M : fM) : Prop := (N_X12_isWritten M (12 : Int32)) ∧ (¬ ((r_X12_isWritten M (12 : Int32)) = 0) → ¬ ((M 297 ((2 : Int32)).toNatClampNeg) = 0) → ∃ Pv : Nat → fM → Int32 → Prop, Pv 1 (fst1 M 296 7 (0 : Int32)) (0 : Int32) ∧ (∀ (j_129 : Nat) (W_121 : fM) (v1_129 : Int32), j_129 ≤ 8 → Pv j_129 W_121 v1_129 → ¬ ((W_121 297 ((2 : Int32)).toNatClampNeg) ≤ (nI j_129)) → j_129 < 8) ∧ (∀ (j_130 : Nat) (W_121 : fM) (v1_130 : Int32), j_130 ≤ 8 → Pv j_130 W_121 v1_130 → ¬ ((W_121 297 ((2 : Int32)).toNatClampNeg) ≤ (nI j_130)) → N_X12_apart W_121 (nI j_130)) ∧ (∀ (j_131 : Nat) (W_121 : fM) (v1_131 : Int32), j_131 ≤ 8 → Pv j_131 W_121 v1_131 → ¬ ((W_121 297 ((2 : Int32)).toNatClampNeg) ≤ (nI j_131)) → N_X12_apart (m_X12_apart W_121 (nI j_131)) v1_131) ∧ (∀ (j_132 : Nat) (W_121 : fM) (v1_132 : Int32), j_132 ≤ 8 → Pv j_132 W_121 v1_132 → ¬ ((W_121 297 ((2 : Int32)).toNatClampNeg) ≤ (nI j_132)) → ((r_X12_apart (m_X12_apart W_121 (nI j_132)) v1_132) ≤ (r_X12_apart W_121 (nI j_132))) → Pv (j_132 + 1) (m_X12_apart (m_X12_apart W_121 (nI j_132)) v1_132) v1_132) ∧ (∀ (j_133 : Nat) (W_121 : fM) (v1_133 : Int32), j_133 ≤ 8 → Pv j_133 W_121 v1_133 → ¬ ((W_121 297 ((2 : Int32)).toNatClampNeg) ≤ (nI j_133)) → ¬ ((r_X12_apart (m_X12_apart W_121 (nI j_133)) v1_133) ≤ (r_X12_apart W_121 (nI j_133))) → Pv (j_133 + 1) (m_X12_apart (m_X12_apart W_121 (nI j_133)) v1_133) (nI j_133)))
set_option maxRecDepth 100000 in
set_option maxHeartbeats 4000000 in
theorem c_X12_scan {G : fG} (hG : fOK G) {d : Nat} (hd : 2 ≤ d) (M : fM) (dv : UInt64) (hN : N_X12_scan M) : fCt G z_X12_scan d [.ref 296] (sS M dv) 0 0 (fD (some (.int (r_X12_scan M))) (sS (m_X12_scan M) dv)) := by
  refine fCt_to [some (.ref 296), none, none] k_X12_scan rfl (Nat.le_of_ble_eq_true rfl) rfl ?_
  obtain ⟨q0, q1⟩ := hN
  refine f_aload_n dX12_scan_0 rfl rfl ?_
  refine f_aload_n dX12_scan_1 rfl rfl ?_
  refine f_bipush (v := 12) dX12_scan_2 (by decide) ?_
  refine f_cV hG (As := [_]) dX12_scan_4 rfl k_X12_isWritten rfl rfl ml_X12_87 im_X12_isWritten se_X12_isWritten rfl rfl (c_X12_isWritten hG (d := 1) (Nat.le_refl _) _ _ _ q0) (by omega) (Nat.le_of_ble_eq_true rfl) (Nat.zero_le _) (Nat.zero_le _) ?_
  refine f_if_ne (tgt := 14) dX12_scan_7 (by decide) (fun c_7 => ?_) (fun c_7 => ?_)
  · refine f_aload_n dX12_scan_14 rfl rfl ?_
    refine s_getr hG fl_X12_7 dX12_scan_15 rfl rfl ?_
    refine f_iconst (v := 2) dX12_scan_18 rfl ?_
    refine s_iaload hG dX12_scan_19 rfl ((show ¬ ((2 : Int32) < 0 ∨ 127 ≤ (2 : Int32).toNatClampNeg) by decide)) ?_
    refine f_if_ne (tgt := 27) dX12_scan_20 (by decide) (fun c_20 => ?_) (fun c_20 => ?_)
    · refine f_iconst (v := 0) dX12_scan_27 rfl ?_
      refine f_cV hG (As := [_]) dX12_scan_28 rfl k_X12_fails rfl rfl ml_X12_63 im_X12_fails se_X12_fails rfl rfl (c_X12_failsF hG (d := 0) (Nat.le_refl _) _ _ _ (by decide)) (by omega) (Nat.le_of_ble_eq_true rfl) (Nat.zero_le _) (Nat.zero_le _) ?_
      refine f_if_eq (tgt := 36) dX12_scan_31 (by decide) (fun c_31 => ?_) (fun c_31 => absurd c_31 (by decide))
      refine f_iconst (v := 0) dX12_scan_36 rfl ?_
      refine f_istore_n (ls' := [_, _, _]) dX12_scan_37 rfl (Nat.le_of_ble_eq_true rfl) rfl rfl ?_
      refine f_iconst (v := 1) dX12_scan_38 rfl ?_
      refine f_istore_n (ls' := [_, _, _]) dX12_scan_39 rfl (Nat.le_of_ble_eq_true rfl) rfl rfl ?_
      obtain ⟨Pv128, hI128, w128_0, w128_1, w128_2, w128_3, w128_4⟩ := (q1 c_7 c_20)
      refine lc_X12_scanL hG (by omega) dv Pv128 w128_0 w128_1 w128_2 w128_3 w128_4 9 1 _ _ (by omega) (by omega) hI128 ?_
      refine f_iload_n dX12_scan_71 rfl rfl ?_
      refine f_ireturn dX12_scan_72 rfl rfl ?_
      exact ⟨by rw [r_X12_scan, if_neg c_7, if_neg c_20], by rw [m_X12_scan, if_neg c_7, if_neg c_20]⟩
    · refine f_iconst (v := 2) dX12_scan_23 rfl ?_
      refine f_goto (tgt := 28) dX12_scan_24 (by decide) ?_
      refine f_cV hG (As := [_]) dX12_scan_28 rfl k_X12_fails rfl rfl ml_X12_63 im_X12_fails se_X12_fails rfl rfl (c_X12_failsT hG (d := 0) (Nat.le_refl _) _ _ _ (by decide)) (by omega) (Nat.le_of_ble_eq_true rfl) (Nat.zero_le _) (Nat.zero_le _) ?_
      refine f_if_eq (tgt := 36) dX12_scan_31 (by decide) (fun c_31 => absurd c_31 (by decide)) (fun c_31 => ?_)
      refine f_iconst (v := 0) dX12_scan_34 rfl ?_
      refine f_ireturn dX12_scan_35 rfl rfl ?_
      exact ⟨by rw [r_X12_scan, if_neg c_7, if_pos c_20], by rw [m_X12_scan, if_neg c_7, if_pos c_20]⟩
  · refine f_iconst (v := 1) dX12_scan_10 rfl ?_
    refine f_goto (tgt := 28) dX12_scan_11 (by decide) ?_
    refine f_cV hG (As := [_]) dX12_scan_28 rfl k_X12_fails rfl rfl ml_X12_63 im_X12_fails se_X12_fails rfl rfl (c_X12_failsT hG (d := 0) (Nat.le_refl _) _ _ _ (by decide)) (by omega) (Nat.le_of_ble_eq_true rfl) (Nat.zero_le _) (Nat.zero_le _) ?_
    refine f_if_eq (tgt := 36) dX12_scan_31 (by decide) (fun c_31 => absurd c_31 (by decide)) (fun c_31 => ?_)
    refine f_iconst (v := 0) dX12_scan_34 rfl ?_
    refine f_ireturn dX12_scan_35 rfl rfl ?_
    exact ⟨by rw [r_X12_scan, if_pos c_7], by rw [m_X12_scan, if_pos c_7]⟩

def r_X12_distance (M : fM) (a : Int32) : Int32 := (if (r_X12_isLabel M a) = 0 then (0 : Int32) else (if (r_X12_isWritten M (12 : Int32)) = 0 then (0 : Int32) else (r_X12_apart (fst1 M 296 7 (0 : Int32)) a)))
def m_X12_distance (M : fM) (a : Int32) : fM := (if (r_X12_isLabel M a) = 0 then (fst1 M 296 7 (1 : Int32)) else (if (r_X12_isWritten M (12 : Int32)) = 0 then (fst1 M 296 7 (2 : Int32)) else (m_X12_apart (fst1 M 296 7 (0 : Int32)) a)))
def N_X12_distance (M : fM) (a : Int32) : Prop := (¬ ((r_X12_isLabel M a) = 0) → N_X12_isWritten M (12 : Int32)) ∧ (¬ ((r_X12_isLabel M a) = 0) → ¬ ((r_X12_isWritten M (12 : Int32)) = 0) → N_X12_apart (fst1 M 296 7 (0 : Int32)) a)
set_option maxRecDepth 100000 in
set_option maxHeartbeats 4000000 in
theorem c_X12_distance {G : fG} (hG : fOK G) {d : Nat} (hd : 2 ≤ d) (M : fM) (dv : UInt64) (a : Int32) (hN : N_X12_distance M a) : fCt G z_X12_distance d [.ref 296, .int a] (sS M dv) 0 0 (fD (some (.int (r_X12_distance M a))) (sS (m_X12_distance M a) dv)) := by
  refine fCt_to [some (.ref 296), some (.int a)] k_X12_distance rfl (Nat.le_of_ble_eq_true rfl) rfl ?_
  obtain ⟨q0, q1⟩ := hN
  refine f_aload_n dX12_distance_0 rfl rfl ?_
  refine f_aload_n dX12_distance_1 rfl rfl ?_
  refine f_iload_n dX12_distance_2 rfl rfl ?_
  refine f_cV hG (As := [_]) dX12_distance_3 rfl k_X12_isLabel rfl rfl ml_X12_94 im_X12_isLabel se_X12_isLabel rfl rfl (c_X12_isLabel hG (d := 1) (Nat.le_refl _) _ _ _) (by omega) (Nat.le_of_ble_eq_true rfl) (Nat.zero_le _) (Nat.zero_le _) ?_
  refine f_if_ne (tgt := 13) dX12_distance_6 (by decide) (fun c_6 => ?_) (fun c_6 => ?_)
  · refine f_aload_n dX12_distance_13 rfl rfl ?_
    refine f_bipush (v := 12) dX12_distance_14 (by decide) ?_
    refine f_cV hG (As := [_]) dX12_distance_16 rfl k_X12_isWritten rfl rfl ml_X12_87 im_X12_isWritten se_X12_isWritten rfl rfl (c_X12_isWritten hG (d := 1) (Nat.le_refl _) _ _ _ (q0 c_6)) (by omega) (Nat.le_of_ble_eq_true rfl) (Nat.zero_le _) (Nat.zero_le _) ?_
    refine f_if_eq (tgt := 26) dX12_distance_19 (by decide) (fun c_19 => ?_) (fun c_19 => ?_)
    · refine f_iconst (v := 2) dX12_distance_26 rfl ?_
      refine f_cV hG (As := [_]) dX12_distance_27 rfl k_X12_fails rfl rfl ml_X12_63 im_X12_fails se_X12_fails rfl rfl (c_X12_failsT hG (d := 0) (Nat.le_refl _) _ _ _ (by decide)) (by omega) (Nat.le_of_ble_eq_true rfl) (Nat.zero_le _) (Nat.zero_le _) ?_
      refine f_if_eq (tgt := 37) dX12_distance_30 (by decide) (fun c_30 => absurd c_30 (by decide)) (fun c_30 => ?_)
      refine f_iconst (v := 0) dX12_distance_33 rfl ?_
      refine f_goto (tgt := 42) dX12_distance_34 (by decide) ?_
      refine f_ireturn dX12_distance_42 rfl rfl ?_
      exact ⟨by rw [r_X12_distance, if_neg c_6, if_pos c_19], by rw [m_X12_distance, if_neg c_6, if_pos c_19]⟩
    · refine f_iconst (v := 0) dX12_distance_22 rfl ?_
      refine f_goto (tgt := 27) dX12_distance_23 (by decide) ?_
      refine f_cV hG (As := [_]) dX12_distance_27 rfl k_X12_fails rfl rfl ml_X12_63 im_X12_fails se_X12_fails rfl rfl (c_X12_failsF hG (d := 0) (Nat.le_refl _) _ _ _ (by decide)) (by omega) (Nat.le_of_ble_eq_true rfl) (Nat.zero_le _) (Nat.zero_le _) ?_
      refine f_if_eq (tgt := 37) dX12_distance_30 (by decide) (fun c_30 => ?_) (fun c_30 => absurd c_30 (by decide))
      refine f_aload_n dX12_distance_37 rfl rfl ?_
      refine f_iload_n dX12_distance_38 rfl rfl ?_
      refine f_cV hG (As := [_]) dX12_distance_39 rfl k_X12_apart rfl rfl ml_X12_100 im_X12_apart se_X12_apart rfl rfl (c_X12_apart hG (d := 1) (Nat.le_refl _) _ _ _ (q1 c_6 c_19)) (by omega) (Nat.le_of_ble_eq_true rfl) (Nat.zero_le _) (Nat.zero_le _) ?_
      refine f_ireturn dX12_distance_42 rfl rfl ?_
      exact ⟨by rw [r_X12_distance, if_neg c_6, if_neg c_19], by rw [m_X12_distance, if_neg c_6, if_neg c_19]⟩
  · refine f_iconst (v := 1) dX12_distance_9 rfl ?_
    refine f_goto (tgt := 27) dX12_distance_10 (by decide) ?_
    refine f_cV hG (As := [_]) dX12_distance_27 rfl k_X12_fails rfl rfl ml_X12_63 im_X12_fails se_X12_fails rfl rfl (c_X12_failsT hG (d := 0) (Nat.le_refl _) _ _ _ (by decide)) (by omega) (Nat.le_of_ble_eq_true rfl) (Nat.zero_le _) (Nat.zero_le _) ?_
    refine f_if_eq (tgt := 37) dX12_distance_30 (by decide) (fun c_30 => absurd c_30 (by decide)) (fun c_30 => ?_)
    refine f_iconst (v := 0) dX12_distance_33 rfl ?_
    refine f_goto (tgt := 42) dX12_distance_34 (by decide) ?_
    refine f_ireturn dX12_distance_42 rfl rfl ?_
    exact ⟨by rw [r_X12_distance, if_pos c_6], by rw [m_X12_distance, if_pos c_6]⟩

def r_X12_distanceTo (M : fM) (a : Int32) : Int32 := (r_X12_distance M a)
def m_X12_distanceTo (M : fM) (a : Int32) : fM := (m_X12_distance M a)
def N_X12_distanceTo (M : fM) (a : Int32) : Prop := (N_X12_distance M a)
set_option maxRecDepth 100000 in
set_option maxHeartbeats 4000000 in
theorem c_X12_distanceTo {G : fG} (hG : fOK G) {d : Nat} (hd : 3 ≤ d) (M : fM) (dv : UInt64) (a : Int32) (hN : N_X12_distanceTo M a) : fCt G z_X12_distanceTo d [.ref 296, .int a] (sS M dv) 0 0 (fD (some (.int (r_X12_distanceTo M a))) (sS (m_X12_distanceTo M a) dv)) := by
  refine fCt_to [some (.ref 296), some (.int a)] k_X12_distanceTo rfl (Nat.le_of_ble_eq_true rfl) rfl ?_
  have q0 : N_X12_distance M a := hN
  refine f_aload_n dX12_distanceTo_0 rfl rfl ?_
  refine f_iload_n dX12_distanceTo_1 rfl rfl ?_
  refine f_cV hG (As := [_]) dX12_distanceTo_2 rfl k_X12_distance rfl rfl ml_X12_104 im_X12_distance se_X12_distance rfl rfl (c_X12_distance hG (d := 2) (Nat.le_refl _) _ _ _ q0) (by omega) (Nat.le_of_ble_eq_true rfl) (Nat.zero_le _) (Nat.zero_le _) ?_
  refine f_ireturn dX12_distanceTo_5 rfl rfl ?_
  exact ⟨by rw [r_X12_distanceTo], by rw [m_X12_distanceTo]⟩

def r_X12_distanceByLetters (M : fM) (a : Int32) : Int32 := (r_X12_distance M a)
def m_X12_distanceByLetters (M : fM) (a : Int32) : fM := (m_X12_distance M a)
def N_X12_distanceByLetters (M : fM) (a : Int32) : Prop := (N_X12_distance M a)
set_option maxRecDepth 100000 in
set_option maxHeartbeats 4000000 in
theorem c_X12_distanceByLetters {G : fG} (hG : fOK G) {d : Nat} (hd : 3 ≤ d) (M : fM) (dv : UInt64) (a : Int32) (hN : N_X12_distanceByLetters M a) : fCt G z_X12_distanceByLetters d [.ref 296, .int a] (sS M dv) 0 0 (fD (some (.int (r_X12_distanceByLetters M a))) (sS (m_X12_distanceByLetters M a) dv)) := by
  refine fCt_to [some (.ref 296), some (.int a)] k_X12_distanceByLetters rfl (Nat.le_of_ble_eq_true rfl) rfl ?_
  have q0 : N_X12_distance M a := hN
  refine f_aload_n dX12_distanceByLetters_0 rfl rfl ?_
  refine f_iload_n dX12_distanceByLetters_1 rfl rfl ?_
  refine f_cV hG (As := [_]) dX12_distanceByLetters_2 rfl k_X12_distance rfl rfl ml_X12_104 im_X12_distance se_X12_distance rfl rfl (c_X12_distance hG (d := 2) (Nat.le_refl _) _ _ _ q0) (by omega) (Nat.le_of_ble_eq_true rfl) (Nat.zero_le _) (Nat.zero_le _) ?_
  refine f_ireturn dX12_distanceByLetters_5 rfl rfl ?_
  exact ⟨by rw [r_X12_distanceByLetters], by rw [m_X12_distanceByLetters]⟩

def r_X12_by (M : fM) (a : Int32) (b : Int32) : Int32 := (M 297 ((((79 : Int32) + ((6 : Int32) * a)) + b)).toNatClampNeg)
def N_X12_by (M : fM) (a : Int32) (b : Int32) : Prop := (vp_in (((79 : Int32) + ((6 : Int32) * a)) + b) 127)
set_option maxRecDepth 100000 in
set_option maxHeartbeats 4000000 in
theorem c_X12_by {G : fG} (hG : fOK G) {d : Nat} (hd : 0 ≤ d) (M : fM) (dv : UInt64) (a : Int32) (b : Int32) (hN : N_X12_by M a b) : fCt G z_X12_by d [.ref 296, .int a, .int b] (sS M dv) 0 0 (fD (some (.int (r_X12_by M a b))) (sS M dv)) := by
  refine fCt_to [some (.ref 296), some (.int a), some (.int b)] k_X12_by rfl (Nat.le_of_ble_eq_true rfl) rfl ?_
  have q0 : vp_in (((79 : Int32) + ((6 : Int32) * a)) + b) 127 := hN
  refine f_aload_n dX12_by_0 rfl rfl ?_
  refine s_getr hG fl_X12_7 dX12_by_1 rfl rfl ?_
  refine f_bipush (v := 79) dX12_by_4 (by decide) ?_
  refine f_bipush (v := 6) dX12_by_6 (by decide) ?_
  refine f_iload_n dX12_by_8 rfl rfl ?_
  refine f_imul dX12_by_9 ?_
  refine f_iadd dX12_by_10 ?_
  refine f_iload_n dX12_by_11 rfl rfl ?_
  refine f_iadd dX12_by_12 ?_
  refine s_iaload hG dX12_by_13 rfl (q0) ?_
  refine f_ireturn dX12_by_14 rfl rfl ?_
  exact ⟨by rw [r_X12_by], rfl⟩

def l_X12_placeOf (a : Int32) (M : fM) : Nat → Nat → Int32
  | 0, _ => 0
  | m + 1, j => (if (M 297 ((3 : Int32)).toNatClampNeg) ≤ (nI j) then (-1 : Int32) else (if (r_X12_by M (nI j) (0 : Int32)) = a then (nI j) else (l_X12_placeOf a M m (j + 1))))
set_option maxRecDepth 100000 in
set_option maxHeartbeats 4000000 in
theorem lp_X12_placeOf {G : fG} (hG : fOK G) {d : Nat} (hd : 1 ≤ d) (M : fM) (dv : UInt64) (a : Int32) (q0 : ∀ (j : Nat), j ≤ 8 → ¬ ((M 297 ((3 : Int32)).toNatClampNeg) ≤ (nI j)) → j < 8) (q1 : ∀ (j : Nat), j ≤ 8 → ¬ ((M 297 ((3 : Int32)).toNatClampNeg) ≤ (nI j)) → N_X12_by M (nI j) (0 : Int32)) : ∀ (m j : Nat), j ≤ 8 → 8 + 1 ≤ j + m → fV G z_X12_placeOf d (fD (some (.int (l_X12_placeOf a M m j))) (sS M dv)) 2 [some (.ref 296), some (.int a), some (.int (nI j))] [] (sS M dv) 0 0 := by
  intro m
  induction m with
  | zero => intros; omega
  | succ m ih =>
    intro j hj hm
    refine f_iload_n dX12_placeOf_2 rfl rfl ?_
    refine f_aload_n dX12_placeOf_3 rfl rfl ?_
    refine s_getr hG fl_X12_7 dX12_placeOf_4 rfl rfl ?_
    refine f_iconst (v := 3) dX12_placeOf_7 rfl ?_
    refine s_iaload hG dX12_placeOf_8 rfl ((show ¬ ((3 : Int32) < 0 ∨ 127 ≤ (3 : Int32).toNatClampNeg) by decide)) ?_
    refine f_icmp_ge (tgt := 30) dX12_placeOf_9 (by decide) (fun c_9 => ?_) (fun c_9 => ?_)
    · refine f_iconst (v := (-1)) dX12_placeOf_30 rfl ?_
      refine f_ireturn dX12_placeOf_31 rfl rfl ?_
      exact ⟨by rw [l_X12_placeOf, if_pos c_9], rfl⟩
    · have hlt : j < 8 := (q0 j hj c_9)
      refine f_aload_n dX12_placeOf_12 rfl rfl ?_
      refine f_iload_n dX12_placeOf_13 rfl rfl ?_
      refine f_iconst (v := 0) dX12_placeOf_14 rfl ?_
      refine f_cV hG (As := [_, _]) dX12_placeOf_15 rfl k_X12_by rfl rfl ml_X12_107 im_X12_by se_X12_by rfl rfl (c_X12_by hG (d := 0) (Nat.le_refl _) _ _ _ _ (q1 j hj c_9)) (by omega) (Nat.le_of_ble_eq_true rfl) (Nat.zero_le _) (Nat.zero_le _) ?_
      refine f_iload_n dX12_placeOf_18 rfl rfl ?_
      refine f_icmp_ne (tgt := 24) dX12_placeOf_19 (by decide) (fun c_19 => ?_) (fun c_19 => ?_)
      · refine f_iinc (v := nI (j + 1)) (ls' := [_, _, _]) dX12_placeOf_24 rfl (nI_1 j) (Nat.le_of_ble_eq_true rfl) rfl rfl ?_
        refine f_goto (tgt := 2) dX12_placeOf_27 (by decide) ?_
        have e9 : l_X12_placeOf a M (m + 1) j = l_X12_placeOf a M m (j + 1) := by rw [l_X12_placeOf, if_neg c_9, if_neg c_19]
        rw [e9]
        exact ih (j + 1) (by omega) (by omega)
      · refine f_iload_n dX12_placeOf_22 rfl rfl ?_
        refine f_ireturn dX12_placeOf_23 rfl rfl ?_
        exact ⟨by rw [l_X12_placeOf, if_neg c_9, if_pos c_19], rfl⟩
def r_X12_placeOf (M : fM) (a : Int32) : Int32 := (l_X12_placeOf a M 9 0)
def N_X12_placeOf (M : fM) (a : Int32) : Prop := (∀ (j : Nat), j ≤ 8 → ¬ ((M 297 ((3 : Int32)).toNatClampNeg) ≤ (nI j)) → j < 8) ∧ (∀ (j : Nat), j ≤ 8 → ¬ ((M 297 ((3 : Int32)).toNatClampNeg) ≤ (nI j)) → N_X12_by M (nI j) (0 : Int32))
set_option maxRecDepth 100000 in
set_option maxHeartbeats 4000000 in
theorem c_X12_placeOf {G : fG} (hG : fOK G) {d : Nat} (hd : 1 ≤ d) (M : fM) (dv : UInt64) (a : Int32) (hN : N_X12_placeOf M a) : fCt G z_X12_placeOf d [.ref 296, .int a] (sS M dv) 0 0 (fD (some (.int (r_X12_placeOf M a))) (sS M dv)) := by
  refine fCt_to [some (.ref 296), some (.int a), none] k_X12_placeOf rfl (Nat.le_of_ble_eq_true rfl) rfl ?_
  obtain ⟨q0, q1⟩ := hN
  refine f_iconst (v := 0) dX12_placeOf_0 rfl ?_
  refine f_istore_n (ls' := [_, _, _]) dX12_placeOf_1 rfl (Nat.le_of_ble_eq_true rfl) rfl rfl ?_
  exact lp_X12_placeOf hG hd _ dv a q0 q1 9 0 (by omega) (by omega)

def r_X12_inside (M : fM) (a : Int32) : Int32 := ((r_X12_of M (r_X12_by M a (3 : Int32)) (1 : Int32)) ||| (r_X12_of M (r_X12_by M a (4 : Int32)) (1 : Int32)))
def N_X12_inside (M : fM) (a : Int32) : Prop := (N_X12_by M a (3 : Int32)) ∧ (N_X12_of M (r_X12_by M a (3 : Int32)) (1 : Int32)) ∧ (N_X12_by M a (4 : Int32)) ∧ (N_X12_of M (r_X12_by M a (4 : Int32)) (1 : Int32))
set_option maxRecDepth 100000 in
set_option maxHeartbeats 4000000 in
theorem c_X12_inside {G : fG} (hG : fOK G) {d : Nat} (hd : 1 ≤ d) (M : fM) (dv : UInt64) (a : Int32) (hN : N_X12_inside M a) : fCt G z_X12_inside d [.ref 296, .int a] (sS M dv) 0 0 (fD (some (.int (r_X12_inside M a))) (sS M dv)) := by
  refine fCt_to [some (.ref 296), some (.int a)] k_X12_inside rfl (Nat.le_of_ble_eq_true rfl) rfl ?_
  obtain ⟨q0, q1, q2, q3⟩ := hN
  refine f_aload_n dX12_inside_0 rfl rfl ?_
  refine f_aload_n dX12_inside_1 rfl rfl ?_
  refine f_iload_n dX12_inside_2 rfl rfl ?_
  refine f_iconst (v := 3) dX12_inside_3 rfl ?_
  refine f_cV hG (As := [_, _]) dX12_inside_4 rfl k_X12_by rfl rfl ml_X12_107 im_X12_by se_X12_by rfl rfl (c_X12_by hG (d := 0) (Nat.le_refl _) _ _ _ _ q0) (by omega) (Nat.le_of_ble_eq_true rfl) (Nat.zero_le _) (Nat.zero_le _) ?_
  refine f_iconst (v := 1) dX12_inside_7 rfl ?_
  refine f_cV hG (As := [_, _]) dX12_inside_8 rfl k_X12_of rfl rfl ml_X12_77 im_X12_of se_X12_of rfl rfl (c_X12_of hG (d := 0) (Nat.le_refl _) _ _ _ _ q1) (by omega) (Nat.le_of_ble_eq_true rfl) (Nat.zero_le _) (Nat.zero_le _) ?_
  refine f_aload_n dX12_inside_11 rfl rfl ?_
  refine f_aload_n dX12_inside_12 rfl rfl ?_
  refine f_iload_n dX12_inside_13 rfl rfl ?_
  refine f_iconst (v := 4) dX12_inside_14 rfl ?_
  refine f_cV hG (As := [_, _]) dX12_inside_15 rfl k_X12_by rfl rfl ml_X12_107 im_X12_by se_X12_by rfl rfl (c_X12_by hG (d := 0) (Nat.le_refl _) _ _ _ _ q2) (by omega) (Nat.le_of_ble_eq_true rfl) (Nat.zero_le _) (Nat.zero_le _) ?_
  refine f_iconst (v := 1) dX12_inside_18 rfl ?_
  refine f_cV hG (As := [_, _]) dX12_inside_19 rfl k_X12_of rfl rfl ml_X12_77 im_X12_of se_X12_of rfl rfl (c_X12_of hG (d := 0) (Nat.le_refl _) _ _ _ _ q3) (by omega) (Nat.le_of_ble_eq_true rfl) (Nat.zero_le _) (Nat.zero_le _) ?_
  refine f_ior dX12_inside_22 ?_
  refine f_ireturn dX12_inside_23 rfl rfl ?_
  exact ⟨by rw [r_X12_inside], rfl⟩

def r_X12_strong (M : fM) (a : Int32) : Int32 := (((r_X12_of M (r_X12_by M a (3 : Int32)) (0 : Int32)) + (r_X12_of M (r_X12_by M a (4 : Int32)) (0 : Int32))) / (2 : Int32))
def N_X12_strong (M : fM) (a : Int32) : Prop := (N_X12_by M a (3 : Int32)) ∧ (N_X12_of M (r_X12_by M a (3 : Int32)) (0 : Int32)) ∧ (N_X12_by M a (4 : Int32)) ∧ (N_X12_of M (r_X12_by M a (4 : Int32)) (0 : Int32))
set_option maxRecDepth 100000 in
set_option maxHeartbeats 4000000 in
theorem c_X12_strong {G : fG} (hG : fOK G) {d : Nat} (hd : 1 ≤ d) (M : fM) (dv : UInt64) (a : Int32) (hN : N_X12_strong M a) : fCt G z_X12_strong d [.ref 296, .int a] (sS M dv) 0 0 (fD (some (.int (r_X12_strong M a))) (sS M dv)) := by
  refine fCt_to [some (.ref 296), some (.int a)] k_X12_strong rfl (Nat.le_of_ble_eq_true rfl) rfl ?_
  obtain ⟨q0, q1, q2, q3⟩ := hN
  refine f_aload_n dX12_strong_0 rfl rfl ?_
  refine f_aload_n dX12_strong_1 rfl rfl ?_
  refine f_iload_n dX12_strong_2 rfl rfl ?_
  refine f_iconst (v := 3) dX12_strong_3 rfl ?_
  refine f_cV hG (As := [_, _]) dX12_strong_4 rfl k_X12_by rfl rfl ml_X12_107 im_X12_by se_X12_by rfl rfl (c_X12_by hG (d := 0) (Nat.le_refl _) _ _ _ _ q0) (by omega) (Nat.le_of_ble_eq_true rfl) (Nat.zero_le _) (Nat.zero_le _) ?_
  refine f_iconst (v := 0) dX12_strong_7 rfl ?_
  refine f_cV hG (As := [_, _]) dX12_strong_8 rfl k_X12_of rfl rfl ml_X12_77 im_X12_of se_X12_of rfl rfl (c_X12_of hG (d := 0) (Nat.le_refl _) _ _ _ _ q1) (by omega) (Nat.le_of_ble_eq_true rfl) (Nat.zero_le _) (Nat.zero_le _) ?_
  refine f_aload_n dX12_strong_11 rfl rfl ?_
  refine f_aload_n dX12_strong_12 rfl rfl ?_
  refine f_iload_n dX12_strong_13 rfl rfl ?_
  refine f_iconst (v := 4) dX12_strong_14 rfl ?_
  refine f_cV hG (As := [_, _]) dX12_strong_15 rfl k_X12_by rfl rfl ml_X12_107 im_X12_by se_X12_by rfl rfl (c_X12_by hG (d := 0) (Nat.le_refl _) _ _ _ _ q2) (by omega) (Nat.le_of_ble_eq_true rfl) (Nat.zero_le _) (Nat.zero_le _) ?_
  refine f_iconst (v := 0) dX12_strong_18 rfl ?_
  refine f_cV hG (As := [_, _]) dX12_strong_19 rfl k_X12_of rfl rfl ml_X12_77 im_X12_of se_X12_of rfl rfl (c_X12_of hG (d := 0) (Nat.le_refl _) _ _ _ _ q3) (by omega) (Nat.le_of_ble_eq_true rfl) (Nat.zero_le _) (Nat.zero_le _) ?_
  refine f_iadd dX12_strong_22 ?_
  refine f_iconst (v := 2) dX12_strong_23 rfl ?_
  refine f_idiv dX12_strong_24 (by decide) ?_
  refine f_ireturn dX12_strong_25 rfl rfl ?_
  exact ⟨by rw [r_X12_strong], rfl⟩

def r_X12_grows (M : fM) (a : Int32) : Int32 := ((21 : Int32) - (r_X12_strong M a))
def N_X12_grows (M : fM) (a : Int32) : Prop := (N_X12_strong M a)
set_option maxRecDepth 100000 in
set_option maxHeartbeats 4000000 in
theorem c_X12_grows {G : fG} (hG : fOK G) {d : Nat} (hd : 2 ≤ d) (M : fM) (dv : UInt64) (a : Int32) (hN : N_X12_grows M a) : fCt G z_X12_grows d [.ref 296, .int a] (sS M dv) 0 0 (fD (some (.int (r_X12_grows M a))) (sS M dv)) := by
  refine fCt_to [some (.ref 296), some (.int a)] k_X12_grows rfl (Nat.le_of_ble_eq_true rfl) rfl ?_
  have q0 : N_X12_strong M a := hN
  refine f_bipush (v := 21) dX12_grows_0 (by decide) ?_
  refine f_aload_n dX12_grows_2 rfl rfl ?_
  refine f_iload_n dX12_grows_3 rfl rfl ?_
  refine f_cV hG (As := [_]) dX12_grows_4 rfl k_X12_strong rfl rfl ml_X12_110 im_X12_strong se_X12_strong rfl rfl (c_X12_strong hG (d := 1) (Nat.le_refl _) _ _ _ q0) (by omega) (Nat.le_of_ble_eq_true rfl) (Nat.zero_le _) (Nat.zero_le _) ?_
  refine f_isub dX12_grows_7 ?_
  refine f_ireturn dX12_grows_8 rfl rfl ?_
  exact ⟨by rw [r_X12_grows], rfl⟩

def l_X12_goesA (a : Int32) (jv : Int32) : fM → Nat → Nat → Int32 → Int32 × fM
  | M, 0, _, v3 => (v3, M)
  | M, m + 1, j, v3 => (if ((79 : Int32) + ((6 : Int32) * (M 297 ((3 : Int32)).toNatClampNeg))) ≤ v3 then (v3, M) else (l_X12_goesA a jv (fst1 M 297 (v3).toNatClampNeg (M 297 ((v3 + (6 : Int32))).toNatClampNeg)) m (j + 1) (v3 + 1)))
set_option maxRecDepth 100000 in
set_option maxHeartbeats 4000000 in
theorem lc_X12_goesA {G : fG} (hG : fOK G) {d : Nat} (hd : 0 ≤ d) (dv : UInt64) (a : Int32) (jv : Int32) (Pv : Nat → fM → Int32 → Prop) (q0 : ∀ (j : Nat) (W_135 : fM) (v3 : Int32), j ≤ 48 → Pv j W_135 v3 → ¬ (((79 : Int32) + ((6 : Int32) * (W_135 297 ((3 : Int32)).toNatClampNeg))) ≤ v3) → j < 48) (q1 : ∀ (j : Nat) (W_135 : fM) (v3 : Int32), j ≤ 48 → Pv j W_135 v3 → ¬ (((79 : Int32) + ((6 : Int32) * (W_135 297 ((3 : Int32)).toNatClampNeg))) ≤ v3) → vp_in (v3 + (6 : Int32)) 127) (q2 : ∀ (j : Nat) (W_135 : fM) (v3 : Int32), j ≤ 48 → Pv j W_135 v3 → ¬ (((79 : Int32) + ((6 : Int32) * (W_135 297 ((3 : Int32)).toNatClampNeg))) ≤ v3) → vp_in v3 127) (q3 : ∀ (j : Nat) (W_135 : fM) (v3 : Int32), j ≤ 48 → Pv j W_135 v3 → ¬ (((79 : Int32) + ((6 : Int32) * (W_135 297 ((3 : Int32)).toNatClampNeg))) ≤ v3) → Pv (j + 1) (fst1 W_135 297 (v3).toNatClampNeg (W_135 297 ((v3 + (6 : Int32))).toNatClampNeg)) (v3 + 1)) {Q : fR → fS → Prop} {kc ks : Nat} : ∀ (m j : Nat) (M : fM) (v3 : Int32), j ≤ 48 → 48 + 1 ≤ j + m → Pv j M v3 → fV G z_X12_goes d Q 62 [some (.ref 296), some (.int a), some (.int jv), some (.int ((l_X12_goesA a jv M m j v3).1))] [] (sS ((l_X12_goesA a jv M m j v3).2) dv) kc ks → fV G z_X12_goes d Q 25 [some (.ref 296), some (.int a), some (.int jv), some (.int v3)] [] (sS M dv) kc ks := by
  intro m
  induction m with
  | zero => intros; omega
  | succ m ih =>
    intro j M v3 hj hm hI kk
    refine f_iload_n dX12_goes_25 rfl rfl ?_
    refine f_bipush (v := 79) dX12_goes_26 (by decide) ?_
    refine f_bipush (v := 6) dX12_goes_28 (by decide) ?_
    refine f_aload_n dX12_goes_30 rfl rfl ?_
    refine s_getr hG fl_X12_7 dX12_goes_31 rfl rfl ?_
    refine f_iconst (v := 3) dX12_goes_34 rfl ?_
    refine s_iaload hG dX12_goes_35 rfl ((show ¬ ((3 : Int32) < 0 ∨ 127 ≤ (3 : Int32).toNatClampNeg) by decide)) ?_
    refine f_imul dX12_goes_36 ?_
    refine f_iadd dX12_goes_37 ?_
    refine f_icmp_ge (tgt := 62) dX12_goes_38 (by decide) (fun c_38 => ?_) (fun c_38 => ?_)
    · have e9 : l_X12_goesA a jv M (m + 1) j v3 = (v3, M) := by rw [l_X12_goesA, if_pos c_38]
      rw [e9] at kk
      exact kk
    · have hlt : j < 48 := (q0 j M v3 hj hI c_38)
      refine f_aload_n dX12_goes_41 rfl rfl ?_
      refine s_getr hG fl_X12_7 dX12_goes_42 rfl rfl ?_
      refine f_iload_n dX12_goes_45 rfl rfl ?_
      refine f_aload_n dX12_goes_46 rfl rfl ?_
      refine s_getr hG fl_X12_7 dX12_goes_47 rfl rfl ?_
      refine f_iload_n dX12_goes_50 rfl rfl ?_
      refine f_bipush (v := 6) dX12_goes_51 (by decide) ?_
      refine f_iadd dX12_goes_53 ?_
      refine s_iaload hG dX12_goes_54 rfl ((q1 j M v3 hj hI c_38)) ?_
      refine s_iastore hG dX12_goes_55 rfl ((q2 j M v3 hj hI c_38)) ?_
      refine f_iinc (v := v3 + 1) (ls' := [_, _, _, _]) dX12_goes_56 rfl rfl (Nat.le_of_ble_eq_true rfl) rfl rfl ?_
      refine f_goto (tgt := 25) dX12_goes_59 (by decide) ?_
      have e9 : l_X12_goesA a jv M (m + 1) j v3 = l_X12_goesA a jv (fst1 M 297 (v3).toNatClampNeg (M 297 ((v3 + (6 : Int32))).toNatClampNeg)) m (j + 1) (v3 + 1) := by rw [l_X12_goesA, if_neg c_38]
      exact ih (j + 1) (fst1 M 297 (v3).toNatClampNeg (M 297 ((v3 + (6 : Int32))).toNatClampNeg)) (v3 + 1) (by omega) (by omega) (q3 j M v3 hj hI c_38) (by rw [e9] at kk; exact kk)

def a0_X12_goes (M : fM) (j : Nat) : fM := (fst1 M 297 ((((79 : Int32) + ((6 : Int32) * (M 297 ((3 : Int32)).toNatClampNeg))) + (nI j))).toNatClampNeg (0 : Int32))
def l_X12_goesB (a : Int32) (jv : Int32) : fM → Nat → Nat → fM
  | M, 0, _ => M
  | M, m + 1, j => (if (6 : Int32) ≤ (nI j) then M else (l_X12_goesB a jv (a0_X12_goes M j) m (j + 1)))
set_option maxRecDepth 100000 in
set_option maxHeartbeats 4000000 in
theorem lc_X12_goesB {G : fG} (hG : fOK G) {d : Nat} (hd : 0 ≤ d) (dv : UInt64) (a : Int32) (jv : Int32) (Pv : Nat → fM → Prop) (q0 : ∀ (j : Nat) (W_136 : fM), j ≤ 6 → Pv j W_136 → ¬ ((6 : Int32) ≤ (nI j)) → vp_in (((79 : Int32) + ((6 : Int32) * (W_136 297 ((3 : Int32)).toNatClampNeg))) + (nI j)) 127) (q1 : ∀ (j : Nat) (W_136 : fM), j ≤ 6 → Pv j W_136 → ¬ ((6 : Int32) ≤ (nI j)) → Pv (j + 1) (a0_X12_goes W_136 j)) {Q : fR → fS → Prop} {kc ks : Nat} : ∀ (m j : Nat) (M : fM), j ≤ 6 → 6 + 1 ≤ j + m → Pv j M → fV G z_X12_goes d Q 96 [some (.ref 296), some (.int a), some (.int jv), none] [] (sS (l_X12_goesB a jv M m j) dv) kc ks → fV G z_X12_goes d Q 64 [some (.ref 296), some (.int a), some (.int jv), some (.int (nI j))] [] (sS M dv) kc ks := by
  intro m
  induction m with
  | zero => intros; omega
  | succ m ih =>
    intro j M hj hm hI kk
    refine f_iload_n dX12_goes_64 rfl rfl ?_
    refine f_bipush (v := 6) dX12_goes_65 (by decide) ?_
    refine f_icmp_ge (tgt := 96) dX12_goes_67 (by decide) (fun c_67 => ?_) (fun c_67 => ?_)
    · have e9 : l_X12_goesB a jv M (m + 1) j = M := by rw [l_X12_goesB, if_pos c_67]
      rw [e9] at kk
      refine f_drop 3 ?_
      exact kk
    · have hlt : j < 6 := (nlt (N := 6) rfl c_67 (by omega) (by omega))
      refine f_aload_n dX12_goes_70 rfl rfl ?_
      refine s_getr hG fl_X12_7 dX12_goes_71 rfl rfl ?_
      refine f_bipush (v := 79) dX12_goes_74 (by decide) ?_
      refine f_bipush (v := 6) dX12_goes_76 (by decide) ?_
      refine f_aload_n dX12_goes_78 rfl rfl ?_
      refine s_getr hG fl_X12_7 dX12_goes_79 rfl rfl ?_
      refine f_iconst (v := 3) dX12_goes_82 rfl ?_
      refine s_iaload hG dX12_goes_83 rfl ((show ¬ ((3 : Int32) < 0 ∨ 127 ≤ (3 : Int32).toNatClampNeg) by decide)) ?_
      refine f_imul dX12_goes_84 ?_
      refine f_iadd dX12_goes_85 ?_
      refine f_iload_n dX12_goes_86 rfl rfl ?_
      refine f_iadd dX12_goes_87 ?_
      refine f_iconst (v := 0) dX12_goes_88 rfl ?_
      refine s_iastore hG dX12_goes_89 rfl ((q0 j M hj hI c_67)) ?_
      refine f_mem (M := (fst1 M 297 ((((79 : Int32) + ((6 : Int32) * (M 297 ((3 : Int32)).toNatClampNeg))) + (nI j))).toNatClampNeg (0 : Int32))) (M' := (a0_X12_goes M j)) (by rw [a0_X12_goes]) ?_
      refine f_iinc (v := nI (j + 1)) (ls' := [_, _, _, _]) dX12_goes_90 rfl (nI_1 j) (Nat.le_of_ble_eq_true rfl) rfl rfl ?_
      refine f_goto (tgt := 64) dX12_goes_93 (by decide) ?_
      have e9 : l_X12_goesB a jv M (m + 1) j = l_X12_goesB a jv (a0_X12_goes M j) m (j + 1) := by rw [l_X12_goesB, if_neg c_67]
      exact ih (j + 1) (a0_X12_goes M j) (by omega) (by omega) (q1 j M hj hI c_67) (by rw [e9] at kk; exact kk)

def a1_X12_goes (M : fM) (a : Int32) : fM := (l_X12_goesA a (r_X12_by M a (1 : Int32)) (fst1 M 297 ((3 : Int32)).toNatClampNeg ((M 297 ((3 : Int32)).toNatClampNeg) - (1 : Int32))) 49 0 ((79 : Int32) + ((6 : Int32) * a))).2
def r_X12_goes (M : fM) (a : Int32) : Int32 := (r_X12_by M a (1 : Int32))
def m_X12_goes (M : fM) (a : Int32) : fM := (l_X12_goesB a (r_X12_by M a (1 : Int32)) (a1_X12_goes M a) 7 0)
def N_X12_goes (M : fM) (a : Int32) : Prop := (N_X12_by M a (1 : Int32)) ∧ (∃ Pv : Nat → fM → Int32 → Prop, Pv 0 (fst1 M 297 ((3 : Int32)).toNatClampNeg ((M 297 ((3 : Int32)).toNatClampNeg) - (1 : Int32))) ((79 : Int32) + ((6 : Int32) * a)) ∧ (∀ (j_146 : Nat) (W_135 : fM) (v3_146 : Int32), j_146 ≤ 48 → Pv j_146 W_135 v3_146 → ¬ (((79 : Int32) + ((6 : Int32) * (W_135 297 ((3 : Int32)).toNatClampNeg))) ≤ v3_146) → j_146 < 48) ∧ (∀ (j_147 : Nat) (W_135 : fM) (v3_147 : Int32), j_147 ≤ 48 → Pv j_147 W_135 v3_147 → ¬ (((79 : Int32) + ((6 : Int32) * (W_135 297 ((3 : Int32)).toNatClampNeg))) ≤ v3_147) → vp_in (v3_147 + (6 : Int32)) 127) ∧ (∀ (j_148 : Nat) (W_135 : fM) (v3_148 : Int32), j_148 ≤ 48 → Pv j_148 W_135 v3_148 → ¬ (((79 : Int32) + ((6 : Int32) * (W_135 297 ((3 : Int32)).toNatClampNeg))) ≤ v3_148) → vp_in v3_148 127) ∧ (∀ (j_149 : Nat) (W_135 : fM) (v3_149 : Int32), j_149 ≤ 48 → Pv j_149 W_135 v3_149 → ¬ (((79 : Int32) + ((6 : Int32) * (W_135 297 ((3 : Int32)).toNatClampNeg))) ≤ v3_149) → Pv (j_149 + 1) (fst1 W_135 297 (v3_149).toNatClampNeg (W_135 297 ((v3_149 + (6 : Int32))).toNatClampNeg)) (v3_149 + 1))) ∧ (∃ Pv : Nat → fM → Prop, Pv 0 (a1_X12_goes M a) ∧ (∀ (j_151 : Nat) (W_136 : fM), j_151 ≤ 6 → Pv j_151 W_136 → ¬ ((6 : Int32) ≤ (nI j_151)) → vp_in (((79 : Int32) + ((6 : Int32) * (W_136 297 ((3 : Int32)).toNatClampNeg))) + (nI j_151)) 127) ∧ (∀ (j_152 : Nat) (W_136 : fM), j_152 ≤ 6 → Pv j_152 W_136 → ¬ ((6 : Int32) ≤ (nI j_152)) → Pv (j_152 + 1) (a0_X12_goes W_136 j_152)))
set_option maxRecDepth 100000 in
set_option maxHeartbeats 4000000 in
theorem c_X12_goes {G : fG} (hG : fOK G) {d : Nat} (hd : 1 ≤ d) (M : fM) (dv : UInt64) (a : Int32) (hN : N_X12_goes M a) : fCt G z_X12_goes d [.ref 296, .int a] (sS M dv) 0 0 (fD (some (.int (r_X12_goes M a))) (sS (m_X12_goes M a) dv)) := by
  refine fCt_to [some (.ref 296), some (.int a), none, none] k_X12_goes rfl (Nat.le_of_ble_eq_true rfl) rfl ?_
  obtain ⟨q0, q1, q2⟩ := hN
  refine f_aload_n dX12_goes_0 rfl rfl ?_
  refine f_iload_n dX12_goes_1 rfl rfl ?_
  refine f_iconst (v := 1) dX12_goes_2 rfl ?_
  refine f_cV hG (As := [_, _]) dX12_goes_3 rfl k_X12_by rfl rfl ml_X12_107 im_X12_by se_X12_by rfl rfl (c_X12_by hG (d := 0) (Nat.le_refl _) _ _ _ _ q0) (by omega) (Nat.le_of_ble_eq_true rfl) (Nat.zero_le _) (Nat.zero_le _) ?_
  refine f_istore_n (ls' := [_, _, _, _]) dX12_goes_6 rfl (Nat.le_of_ble_eq_true rfl) rfl rfl ?_
  refine f_aload_n dX12_goes_7 rfl rfl ?_
  refine s_getr hG fl_X12_7 dX12_goes_8 rfl rfl ?_
  refine f_iconst (v := 3) dX12_goes_11 rfl ?_
  refine f_dup2 dX12_goes_12 rfl rfl ?_
  refine s_iaload hG dX12_goes_13 rfl ((show ¬ ((3 : Int32) < 0 ∨ 127 ≤ (3 : Int32).toNatClampNeg) by decide)) ?_
  refine f_iconst (v := 1) dX12_goes_14 rfl ?_
  refine f_isub dX12_goes_15 ?_
  refine s_iastore hG dX12_goes_16 rfl ((show ¬ ((3 : Int32) < 0 ∨ 127 ≤ (3 : Int32).toNatClampNeg) by decide)) ?_
  refine f_bipush (v := 79) dX12_goes_17 (by decide) ?_
  refine f_bipush (v := 6) dX12_goes_19 (by decide) ?_
  refine f_iload_n dX12_goes_21 rfl rfl ?_
  refine f_imul dX12_goes_22 ?_
  refine f_iadd dX12_goes_23 ?_
  refine f_istore_n (ls' := [_, _, _, _]) dX12_goes_24 rfl (Nat.le_of_ble_eq_true rfl) rfl rfl ?_
  obtain ⟨Pv145, hI145, w145_0, w145_1, w145_2, w145_3⟩ := q1
  refine lc_X12_goesA hG (by omega) dv _ _ Pv145 w145_0 w145_1 w145_2 w145_3 49 0 _ _ (by omega) (by omega) hI145 ?_
  refine f_mem (M := (l_X12_goesA a (r_X12_by M a (1 : Int32)) (fst1 M 297 ((3 : Int32)).toNatClampNeg ((M 297 ((3 : Int32)).toNatClampNeg) - (1 : Int32))) 49 0 ((79 : Int32) + ((6 : Int32) * a))).2) (M' := (a1_X12_goes M a)) (by rw [a1_X12_goes]) ?_
  refine f_iconst (v := 0) dX12_goes_62 rfl ?_
  refine f_istore_n (ls' := [_, _, _, _]) dX12_goes_63 rfl (Nat.le_of_ble_eq_true rfl) rfl rfl ?_
  obtain ⟨Pv150, hI150, w150_0, w150_1⟩ := q2
  refine lc_X12_goesB hG (by omega) dv _ _ Pv150 w150_0 w150_1 7 0 _ (by omega) (by omega) hI150 ?_
  refine f_iload_n dX12_goes_96 rfl rfl ?_
  refine f_ireturn dX12_goes_97 rfl rfl ?_
  exact ⟨by rw [r_X12_goes], by rw [m_X12_goes]⟩

def a0_X12_fill (M : fM) : fM := (fst1 (m_X12_keeps (fst1 (fst1 M 296 7 (0 : Int32)) 296 7 (0 : Int32)) 297 127) 297 ((((79 : Int32) + ((6 : Int32) * ((m_X12_keeps (fst1 (fst1 M 296 7 (0 : Int32)) 296 7 (0 : Int32)) 297 127) 297 ((3 : Int32)).toNatClampNeg))) + (0 : Int32))).toNatClampNeg ((m_X12_keeps (fst1 (fst1 M 296 7 (0 : Int32)) 296 7 (0 : Int32)) 297 127) 297 ((4 : Int32)).toNatClampNeg))
def a1_X12_fill (M : fM) (e : Int32) : fM := (fst1 (a0_X12_fill M) 297 ((((79 : Int32) + ((6 : Int32) * ((m_X12_keeps (fst1 (fst1 M 296 7 (0 : Int32)) 296 7 (0 : Int32)) 297 127) 297 ((3 : Int32)).toNatClampNeg))) + (1 : Int32))).toNatClampNeg e)
def a2_X12_fill (M : fM) (e : Int32) (c : Int32) : fM := (fst1 (a1_X12_fill M e) 297 ((((79 : Int32) + ((6 : Int32) * ((m_X12_keeps (fst1 (fst1 M 296 7 (0 : Int32)) 296 7 (0 : Int32)) 297 127) 297 ((3 : Int32)).toNatClampNeg))) + (2 : Int32))).toNatClampNeg c)
def a3_X12_fill (M : fM) (e : Int32) (c : Int32) (a : Int32) : fM := (fst1 (a2_X12_fill M e c) 297 ((((79 : Int32) + ((6 : Int32) * ((m_X12_keeps (fst1 (fst1 M 296 7 (0 : Int32)) 296 7 (0 : Int32)) 297 127) 297 ((3 : Int32)).toNatClampNeg))) + (3 : Int32))).toNatClampNeg a)
def a4_X12_fill (M : fM) (e : Int32) (c : Int32) (a : Int32) (b : Int32) : fM := (fst1 (a3_X12_fill M e c a) 297 ((((79 : Int32) + ((6 : Int32) * ((m_X12_keeps (fst1 (fst1 M 296 7 (0 : Int32)) 296 7 (0 : Int32)) 297 127) 297 ((3 : Int32)).toNatClampNeg))) + (4 : Int32))).toNatClampNeg b)
def a5_X12_fill (M : fM) (e : Int32) (c : Int32) (a : Int32) (b : Int32) : fM := (fst1 (a4_X12_fill M e c a b) 297 ((((79 : Int32) + ((6 : Int32) * ((m_X12_keeps (fst1 (fst1 M 296 7 (0 : Int32)) 296 7 (0 : Int32)) 297 127) 297 ((3 : Int32)).toNatClampNeg))) + (5 : Int32))).toNatClampNeg (0 : Int32))
def a6_X12_fill (M : fM) (e : Int32) (c : Int32) (a : Int32) (b : Int32) : fM := (fst1 (a5_X12_fill M e c a b) 297 ((3 : Int32)).toNatClampNeg (((a5_X12_fill M e c a b) 297 ((3 : Int32)).toNatClampNeg) + (1 : Int32)))
def a7_X12_fill (M : fM) (e : Int32) (c : Int32) (a : Int32) (b : Int32) : fM := (fst1 (a6_X12_fill M e c a b) 297 ((4 : Int32)).toNatClampNeg (((a6_X12_fill M e c a b) 297 ((4 : Int32)).toNatClampNeg) + (1 : Int32)))
def a8_X12_fill (M : fM) (e : Int32) (c : Int32) (a : Int32) (b : Int32) : fM := (fst1 (a7_X12_fill M e c a b) 297 ((7 : Int32)).toNatClampNeg (((a7_X12_fill M e c a b) 297 ((7 : Int32)).toNatClampNeg) + e))
def r_X12_fill (M : fM) (a : Int32) (b : Int32) (c : Int32) (e : Int32) : Int32 := (if (r_X12_isBatch M a) = 0 then (0 : Int32) else (if (r_X12_isBatch M b) = 0 then (0 : Int32) else (if (r_X12_isLabel M c) = 0 then (0 : Int32) else (if (r_X12_in M e (1 : Int32) (9 : Int32)) = 0 then (0 : Int32) else (if (M 297 ((3 : Int32)).toNatClampNeg) = (8 : Int32) then (0 : Int32) else (if (((r_X12_of (fst1 M 296 7 (0 : Int32)) a (1 : Int32)) ||| (r_X12_of (fst1 M 296 7 (0 : Int32)) b (1 : Int32))) &&& ((fst1 M 296 7 (0 : Int32)) 297 ((6 : Int32)).toNatClampNeg)) = 0 then (((a8_X12_fill M e c a b) 297 ((4 : Int32)).toNatClampNeg) - (1 : Int32)) else (0 : Int32)))))))
def m_X12_fill (M : fM) (a : Int32) (b : Int32) (c : Int32) (e : Int32) : fM := (if (r_X12_isBatch M a) = 0 then (fst1 M 296 7 (1 : Int32)) else (if (r_X12_isBatch M b) = 0 then (fst1 M 296 7 (1 : Int32)) else (if (r_X12_isLabel M c) = 0 then (fst1 M 296 7 (1 : Int32)) else (if (r_X12_in M e (1 : Int32) (9 : Int32)) = 0 then (fst1 M 296 7 (2 : Int32)) else (if (M 297 ((3 : Int32)).toNatClampNeg) = (8 : Int32) then (fst1 M 296 7 (3 : Int32)) else (if (((r_X12_of (fst1 M 296 7 (0 : Int32)) a (1 : Int32)) ||| (r_X12_of (fst1 M 296 7 (0 : Int32)) b (1 : Int32))) &&& ((fst1 M 296 7 (0 : Int32)) 297 ((6 : Int32)).toNatClampNeg)) = 0 then (a8_X12_fill M e c a b) else (fst1 (fst1 M 296 7 (0 : Int32)) 296 7 (4 : Int32))))))))
def N_X12_fill (M : fM) (a : Int32) (b : Int32) (c : Int32) (e : Int32) : Prop := (¬ ((r_X12_isBatch M a) = 0) → ¬ ((r_X12_isBatch M b) = 0) → ¬ ((r_X12_isLabel M c) = 0) → ¬ ((r_X12_in M e (1 : Int32) (9 : Int32)) = 0) → ¬ ((M 297 ((3 : Int32)).toNatClampNeg) = (8 : Int32)) → N_X12_of (fst1 M 296 7 (0 : Int32)) a (1 : Int32)) ∧ (¬ ((r_X12_isBatch M a) = 0) → ¬ ((r_X12_isBatch M b) = 0) → ¬ ((r_X12_isLabel M c) = 0) → ¬ ((r_X12_in M e (1 : Int32) (9 : Int32)) = 0) → ¬ ((M 297 ((3 : Int32)).toNatClampNeg) = (8 : Int32)) → N_X12_of (fst1 M 296 7 (0 : Int32)) b (1 : Int32)) ∧ (¬ ((r_X12_isBatch M a) = 0) → ¬ ((r_X12_isBatch M b) = 0) → ¬ ((r_X12_isLabel M c) = 0) → ¬ ((r_X12_in M e (1 : Int32) (9 : Int32)) = 0) → ¬ ((M 297 ((3 : Int32)).toNatClampNeg) = (8 : Int32)) → ((((r_X12_of (fst1 M 296 7 (0 : Int32)) a (1 : Int32)) ||| (r_X12_of (fst1 M 296 7 (0 : Int32)) b (1 : Int32))) &&& ((fst1 M 296 7 (0 : Int32)) 297 ((6 : Int32)).toNatClampNeg)) = 0) → N_X12_keeps (fst1 (fst1 M 296 7 (0 : Int32)) 296 7 (0 : Int32)) 297 127) ∧ (¬ ((r_X12_isBatch M a) = 0) → ¬ ((r_X12_isBatch M b) = 0) → ¬ ((r_X12_isLabel M c) = 0) → ¬ ((r_X12_in M e (1 : Int32) (9 : Int32)) = 0) → ¬ ((M 297 ((3 : Int32)).toNatClampNeg) = (8 : Int32)) → ((((r_X12_of (fst1 M 296 7 (0 : Int32)) a (1 : Int32)) ||| (r_X12_of (fst1 M 296 7 (0 : Int32)) b (1 : Int32))) &&& ((fst1 M 296 7 (0 : Int32)) 297 ((6 : Int32)).toNatClampNeg)) = 0) → vp_in (((79 : Int32) + ((6 : Int32) * ((m_X12_keeps (fst1 (fst1 M 296 7 (0 : Int32)) 296 7 (0 : Int32)) 297 127) 297 ((3 : Int32)).toNatClampNeg))) + (0 : Int32)) 127) ∧ (¬ ((r_X12_isBatch M a) = 0) → ¬ ((r_X12_isBatch M b) = 0) → ¬ ((r_X12_isLabel M c) = 0) → ¬ ((r_X12_in M e (1 : Int32) (9 : Int32)) = 0) → ¬ ((M 297 ((3 : Int32)).toNatClampNeg) = (8 : Int32)) → ((((r_X12_of (fst1 M 296 7 (0 : Int32)) a (1 : Int32)) ||| (r_X12_of (fst1 M 296 7 (0 : Int32)) b (1 : Int32))) &&& ((fst1 M 296 7 (0 : Int32)) 297 ((6 : Int32)).toNatClampNeg)) = 0) → vp_in (((79 : Int32) + ((6 : Int32) * ((m_X12_keeps (fst1 (fst1 M 296 7 (0 : Int32)) 296 7 (0 : Int32)) 297 127) 297 ((3 : Int32)).toNatClampNeg))) + (1 : Int32)) 127) ∧ (¬ ((r_X12_isBatch M a) = 0) → ¬ ((r_X12_isBatch M b) = 0) → ¬ ((r_X12_isLabel M c) = 0) → ¬ ((r_X12_in M e (1 : Int32) (9 : Int32)) = 0) → ¬ ((M 297 ((3 : Int32)).toNatClampNeg) = (8 : Int32)) → ((((r_X12_of (fst1 M 296 7 (0 : Int32)) a (1 : Int32)) ||| (r_X12_of (fst1 M 296 7 (0 : Int32)) b (1 : Int32))) &&& ((fst1 M 296 7 (0 : Int32)) 297 ((6 : Int32)).toNatClampNeg)) = 0) → vp_in (((79 : Int32) + ((6 : Int32) * ((m_X12_keeps (fst1 (fst1 M 296 7 (0 : Int32)) 296 7 (0 : Int32)) 297 127) 297 ((3 : Int32)).toNatClampNeg))) + (2 : Int32)) 127) ∧ (¬ ((r_X12_isBatch M a) = 0) → ¬ ((r_X12_isBatch M b) = 0) → ¬ ((r_X12_isLabel M c) = 0) → ¬ ((r_X12_in M e (1 : Int32) (9 : Int32)) = 0) → ¬ ((M 297 ((3 : Int32)).toNatClampNeg) = (8 : Int32)) → ((((r_X12_of (fst1 M 296 7 (0 : Int32)) a (1 : Int32)) ||| (r_X12_of (fst1 M 296 7 (0 : Int32)) b (1 : Int32))) &&& ((fst1 M 296 7 (0 : Int32)) 297 ((6 : Int32)).toNatClampNeg)) = 0) → vp_in (((79 : Int32) + ((6 : Int32) * ((m_X12_keeps (fst1 (fst1 M 296 7 (0 : Int32)) 296 7 (0 : Int32)) 297 127) 297 ((3 : Int32)).toNatClampNeg))) + (3 : Int32)) 127) ∧ (¬ ((r_X12_isBatch M a) = 0) → ¬ ((r_X12_isBatch M b) = 0) → ¬ ((r_X12_isLabel M c) = 0) → ¬ ((r_X12_in M e (1 : Int32) (9 : Int32)) = 0) → ¬ ((M 297 ((3 : Int32)).toNatClampNeg) = (8 : Int32)) → ((((r_X12_of (fst1 M 296 7 (0 : Int32)) a (1 : Int32)) ||| (r_X12_of (fst1 M 296 7 (0 : Int32)) b (1 : Int32))) &&& ((fst1 M 296 7 (0 : Int32)) 297 ((6 : Int32)).toNatClampNeg)) = 0) → vp_in (((79 : Int32) + ((6 : Int32) * ((m_X12_keeps (fst1 (fst1 M 296 7 (0 : Int32)) 296 7 (0 : Int32)) 297 127) 297 ((3 : Int32)).toNatClampNeg))) + (4 : Int32)) 127) ∧ (¬ ((r_X12_isBatch M a) = 0) → ¬ ((r_X12_isBatch M b) = 0) → ¬ ((r_X12_isLabel M c) = 0) → ¬ ((r_X12_in M e (1 : Int32) (9 : Int32)) = 0) → ¬ ((M 297 ((3 : Int32)).toNatClampNeg) = (8 : Int32)) → ((((r_X12_of (fst1 M 296 7 (0 : Int32)) a (1 : Int32)) ||| (r_X12_of (fst1 M 296 7 (0 : Int32)) b (1 : Int32))) &&& ((fst1 M 296 7 (0 : Int32)) 297 ((6 : Int32)).toNatClampNeg)) = 0) → vp_in (((79 : Int32) + ((6 : Int32) * ((m_X12_keeps (fst1 (fst1 M 296 7 (0 : Int32)) 296 7 (0 : Int32)) 297 127) 297 ((3 : Int32)).toNatClampNeg))) + (5 : Int32)) 127)
set_option maxRecDepth 100000 in
set_option maxHeartbeats 4000000 in
theorem c_X12_fill {G : fG} (hG : fOK G) {d : Nat} (hd : 2 ≤ d) (M : fM) (dv : UInt64) (a : Int32) (b : Int32) (c : Int32) (e : Int32) (hN : N_X12_fill M a b c e) : fCt G z_X12_fill d [.ref 296, .int a, .int b, .int c, .int e] (sS M dv) 0 0 (fD (some (.int (r_X12_fill M a b c e))) (sS (m_X12_fill M a b c e) dv)) := by
  refine fCt_to [some (.ref 296), some (.int a), some (.int b), some (.int c), some (.int e), none] k_X12_fill rfl (Nat.le_of_ble_eq_true rfl) rfl ?_
  obtain ⟨q0, q1, q2, q3, q4, q5, q6, q7, q8⟩ := hN
  refine f_aload_n dX12_fill_0 rfl rfl ?_
  refine f_aload_n dX12_fill_1 rfl rfl ?_
  refine f_iload_n dX12_fill_2 rfl rfl ?_
  refine f_cV hG (As := [_]) dX12_fill_3 rfl k_X12_isBatch rfl rfl ml_X12_74 im_X12_isBatch se_X12_isBatch rfl rfl (c_X12_isBatch hG (d := 1) (Nat.le_refl _) _ _ _) (by omega) (Nat.le_of_ble_eq_true rfl) (Nat.zero_le _) (Nat.zero_le _) ?_
  refine f_if_eq (tgt := 25) dX12_fill_6 (by decide) (fun c_6 => ?_) (fun c_6 => ?_)
  · refine f_iconst (v := 1) dX12_fill_25 rfl ?_
    refine f_goto (tgt := 60) dX12_fill_26 (by decide) ?_
    refine f_cV hG (As := [_]) dX12_fill_60 rfl k_X12_fails rfl rfl ml_X12_63 im_X12_fails se_X12_fails rfl rfl (c_X12_failsT hG (d := 0) (Nat.le_refl _) _ _ _ (by decide)) (by omega) (Nat.le_of_ble_eq_true rfl) (Nat.zero_le _) (Nat.zero_le _) ?_
    refine f_if_eq (tgt := 68) dX12_fill_63 (by decide) (fun c_63 => absurd c_63 (by decide)) (fun c_63 => ?_)
    refine f_iconst (v := 0) dX12_fill_66 rfl ?_
    refine f_ireturn dX12_fill_67 rfl rfl ?_
    exact ⟨by rw [r_X12_fill, if_pos c_6], by rw [m_X12_fill, if_pos c_6]⟩
  · refine f_aload_n dX12_fill_9 rfl rfl ?_
    refine f_iload_n dX12_fill_10 rfl rfl ?_
    refine f_cV hG (As := [_]) dX12_fill_11 rfl k_X12_isBatch rfl rfl ml_X12_74 im_X12_isBatch se_X12_isBatch rfl rfl (c_X12_isBatch hG (d := 1) (Nat.le_refl _) _ _ _) (by omega) (Nat.le_of_ble_eq_true rfl) (Nat.zero_le _) (Nat.zero_le _) ?_
    refine f_if_eq (tgt := 25) dX12_fill_14 (by decide) (fun c_14 => ?_) (fun c_14 => ?_)
    · refine f_iconst (v := 1) dX12_fill_25 rfl ?_
      refine f_goto (tgt := 60) dX12_fill_26 (by decide) ?_
      refine f_cV hG (As := [_]) dX12_fill_60 rfl k_X12_fails rfl rfl ml_X12_63 im_X12_fails se_X12_fails rfl rfl (c_X12_failsT hG (d := 0) (Nat.le_refl _) _ _ _ (by decide)) (by omega) (Nat.le_of_ble_eq_true rfl) (Nat.zero_le _) (Nat.zero_le _) ?_
      refine f_if_eq (tgt := 68) dX12_fill_63 (by decide) (fun c_63 => absurd c_63 (by decide)) (fun c_63 => ?_)
      refine f_iconst (v := 0) dX12_fill_66 rfl ?_
      refine f_ireturn dX12_fill_67 rfl rfl ?_
      exact ⟨by rw [r_X12_fill, if_neg c_6, if_pos c_14], by rw [m_X12_fill, if_neg c_6, if_pos c_14]⟩
    · refine f_aload_n dX12_fill_17 rfl rfl ?_
      refine f_iload_n dX12_fill_18 rfl rfl ?_
      refine f_cV hG (As := [_]) dX12_fill_19 rfl k_X12_isLabel rfl rfl ml_X12_94 im_X12_isLabel se_X12_isLabel rfl rfl (c_X12_isLabel hG (d := 1) (Nat.le_refl _) _ _ _) (by omega) (Nat.le_of_ble_eq_true rfl) (Nat.zero_le _) (Nat.zero_le _) ?_
      refine f_if_ne (tgt := 29) dX12_fill_22 (by decide) (fun c_22 => ?_) (fun c_22 => ?_)
      · refine f_iload dX12_fill_29 rfl ?_
        refine f_iconst (v := 1) dX12_fill_31 rfl ?_
        refine f_bipush (v := 9) dX12_fill_32 (by decide) ?_
        refine f_cS hG (As := [_, _, _]) dX12_fill_34 rfl k_X12_in rfl rfl ml_X12_59 sm_X12_in (c_X12_in hG (d := 0) (Nat.le_refl _) _ _ _ _ _) (by omega) (Nat.le_of_ble_eq_true rfl) (Nat.zero_le _) (Nat.zero_le _) ?_
        refine f_if_ne (tgt := 44) dX12_fill_37 (by decide) (fun c_37 => ?_) (fun c_37 => ?_)
        · refine f_aload_n dX12_fill_44 rfl rfl ?_
          refine s_getr hG fl_X12_7 dX12_fill_45 rfl rfl ?_
          refine f_iconst (v := 3) dX12_fill_48 rfl ?_
          refine s_iaload hG dX12_fill_49 rfl ((show ¬ ((3 : Int32) < 0 ∨ 127 ≤ (3 : Int32).toNatClampNeg) by decide)) ?_
          refine f_bipush (v := 8) dX12_fill_50 (by decide) ?_
          refine f_icmp_ne (tgt := 59) dX12_fill_52 (by decide) (fun c_52 => ?_) (fun c_52 => ?_)
          · refine f_iconst (v := 0) dX12_fill_59 rfl ?_
            refine f_cV hG (As := [_]) dX12_fill_60 rfl k_X12_fails rfl rfl ml_X12_63 im_X12_fails se_X12_fails rfl rfl (c_X12_failsF hG (d := 0) (Nat.le_refl _) _ _ _ (by decide)) (by omega) (Nat.le_of_ble_eq_true rfl) (Nat.zero_le _) (Nat.zero_le _) ?_
            refine f_if_eq (tgt := 68) dX12_fill_63 (by decide) (fun c_63 => ?_) (fun c_63 => absurd c_63 (by decide))
            refine f_aload_n dX12_fill_68 rfl rfl ?_
            refine f_aload_n dX12_fill_69 rfl rfl ?_
            refine f_iload_n dX12_fill_70 rfl rfl ?_
            refine f_iconst (v := 1) dX12_fill_71 rfl ?_
            refine f_cV hG (As := [_, _]) dX12_fill_72 rfl k_X12_of rfl rfl ml_X12_77 im_X12_of se_X12_of rfl rfl (c_X12_of hG (d := 0) (Nat.le_refl _) _ _ _ _ (q0 c_6 c_14 c_22 c_37 c_52)) (by omega) (Nat.le_of_ble_eq_true rfl) (Nat.zero_le _) (Nat.zero_le _) ?_
            refine f_aload_n dX12_fill_75 rfl rfl ?_
            refine f_iload_n dX12_fill_76 rfl rfl ?_
            refine f_iconst (v := 1) dX12_fill_77 rfl ?_
            refine f_cV hG (As := [_, _]) dX12_fill_78 rfl k_X12_of rfl rfl ml_X12_77 im_X12_of se_X12_of rfl rfl (c_X12_of hG (d := 0) (Nat.le_refl _) _ _ _ _ (q1 c_6 c_14 c_22 c_37 c_52)) (by omega) (Nat.le_of_ble_eq_true rfl) (Nat.zero_le _) (Nat.zero_le _) ?_
            refine f_ior dX12_fill_81 ?_
            refine f_aload_n dX12_fill_82 rfl rfl ?_
            refine s_getr hG fl_X12_7 dX12_fill_83 rfl rfl ?_
            refine f_bipush (v := 6) dX12_fill_86 (by decide) ?_
            refine s_iaload hG dX12_fill_88 rfl ((show ¬ ((6 : Int32) < 0 ∨ 127 ≤ (6 : Int32).toNatClampNeg) by decide)) ?_
            refine f_iand dX12_fill_89 ?_
            refine f_if_eq (tgt := 97) dX12_fill_90 (by decide) (fun c_90 => ?_) (fun c_90 => ?_)
            · refine f_iconst (v := 0) dX12_fill_97 rfl ?_
              refine f_cV hG (As := [_]) dX12_fill_98 rfl k_X12_fails rfl rfl ml_X12_63 im_X12_fails se_X12_fails rfl rfl (c_X12_failsF hG (d := 0) (Nat.le_refl _) _ _ _ (by decide)) (by omega) (Nat.le_of_ble_eq_true rfl) (Nat.zero_le _) (Nat.zero_le _) ?_
              refine f_if_eq (tgt := 106) dX12_fill_101 (by decide) (fun c_101 => ?_) (fun c_101 => absurd c_101 (by decide))
              refine f_aload_n dX12_fill_106 rfl rfl ?_
              refine f_aload_n dX12_fill_107 rfl rfl ?_
              refine s_getr hG fl_X12_7 dX12_fill_108 rfl rfl ?_
              refine f_cV hG (As := [_]) dX12_fill_111 rfl k_X12_keeps rfl rfl ml_X12_67 im_X12_keeps se_X12_keeps rfl rfl (c_X12_keeps hG (d := 1) (Nat.le_refl _) _ _ _ _ rfl (by decide) (q2 c_6 c_14 c_22 c_37 c_52 c_90)) (by omega) (Nat.le_of_ble_eq_true rfl) (Nat.zero_le _) (Nat.zero_le _) ?_
              refine f_bipush (v := 79) dX12_fill_114 (by decide) ?_
              refine f_bipush (v := 6) dX12_fill_116 (by decide) ?_
              refine f_aload_n dX12_fill_118 rfl rfl ?_
              refine s_getr hG fl_X12_7 dX12_fill_119 rfl rfl ?_
              refine f_iconst (v := 3) dX12_fill_122 rfl ?_
              refine s_iaload hG dX12_fill_123 rfl ((show ¬ ((3 : Int32) < 0 ∨ 127 ≤ (3 : Int32).toNatClampNeg) by decide)) ?_
              refine f_imul dX12_fill_124 ?_
              refine f_iadd dX12_fill_125 ?_
              refine f_istore (ls' := [_, _, _, _, _, _]) dX12_fill_126 (Nat.le_of_ble_eq_true rfl) rfl rfl ?_
              refine f_aload_n dX12_fill_128 rfl rfl ?_
              refine s_getr hG fl_X12_7 dX12_fill_129 rfl rfl ?_
              refine f_iload dX12_fill_132 rfl ?_
              refine f_iconst (v := 0) dX12_fill_134 rfl ?_
              refine f_iadd dX12_fill_135 ?_
              refine f_aload_n dX12_fill_136 rfl rfl ?_
              refine s_getr hG fl_X12_7 dX12_fill_137 rfl rfl ?_
              refine f_iconst (v := 4) dX12_fill_140 rfl ?_
              refine s_iaload hG dX12_fill_141 rfl ((show ¬ ((4 : Int32) < 0 ∨ 127 ≤ (4 : Int32).toNatClampNeg) by decide)) ?_
              refine s_iastore hG dX12_fill_142 rfl ((q3 c_6 c_14 c_22 c_37 c_52 c_90)) ?_
              refine f_mem (M := (fst1 (m_X12_keeps (fst1 (fst1 M 296 7 (0 : Int32)) 296 7 (0 : Int32)) 297 127) 297 ((((79 : Int32) + ((6 : Int32) * ((m_X12_keeps (fst1 (fst1 M 296 7 (0 : Int32)) 296 7 (0 : Int32)) 297 127) 297 ((3 : Int32)).toNatClampNeg))) + (0 : Int32))).toNatClampNeg ((m_X12_keeps (fst1 (fst1 M 296 7 (0 : Int32)) 296 7 (0 : Int32)) 297 127) 297 ((4 : Int32)).toNatClampNeg))) (M' := (a0_X12_fill M)) (by rw [a0_X12_fill]) ?_
              refine f_aload_n dX12_fill_143 rfl rfl ?_
              refine s_getr hG fl_X12_7 dX12_fill_144 rfl rfl ?_
              refine f_iload dX12_fill_147 rfl ?_
              refine f_iconst (v := 1) dX12_fill_149 rfl ?_
              refine f_iadd dX12_fill_150 ?_
              refine f_iload dX12_fill_151 rfl ?_
              refine s_iastore hG dX12_fill_153 rfl ((q4 c_6 c_14 c_22 c_37 c_52 c_90)) ?_
              refine f_mem (M := (fst1 (a0_X12_fill M) 297 ((((79 : Int32) + ((6 : Int32) * ((m_X12_keeps (fst1 (fst1 M 296 7 (0 : Int32)) 296 7 (0 : Int32)) 297 127) 297 ((3 : Int32)).toNatClampNeg))) + (1 : Int32))).toNatClampNeg e)) (M' := (a1_X12_fill M e)) (by rw [a1_X12_fill]) ?_
              refine f_aload_n dX12_fill_154 rfl rfl ?_
              refine s_getr hG fl_X12_7 dX12_fill_155 rfl rfl ?_
              refine f_iload dX12_fill_158 rfl ?_
              refine f_iconst (v := 2) dX12_fill_160 rfl ?_
              refine f_iadd dX12_fill_161 ?_
              refine f_iload_n dX12_fill_162 rfl rfl ?_
              refine s_iastore hG dX12_fill_163 rfl ((q5 c_6 c_14 c_22 c_37 c_52 c_90)) ?_
              refine f_mem (M := (fst1 (a1_X12_fill M e) 297 ((((79 : Int32) + ((6 : Int32) * ((m_X12_keeps (fst1 (fst1 M 296 7 (0 : Int32)) 296 7 (0 : Int32)) 297 127) 297 ((3 : Int32)).toNatClampNeg))) + (2 : Int32))).toNatClampNeg c)) (M' := (a2_X12_fill M e c)) (by rw [a2_X12_fill]) ?_
              refine f_aload_n dX12_fill_164 rfl rfl ?_
              refine s_getr hG fl_X12_7 dX12_fill_165 rfl rfl ?_
              refine f_iload dX12_fill_168 rfl ?_
              refine f_iconst (v := 3) dX12_fill_170 rfl ?_
              refine f_iadd dX12_fill_171 ?_
              refine f_iload_n dX12_fill_172 rfl rfl ?_
              refine s_iastore hG dX12_fill_173 rfl ((q6 c_6 c_14 c_22 c_37 c_52 c_90)) ?_
              refine f_mem (M := (fst1 (a2_X12_fill M e c) 297 ((((79 : Int32) + ((6 : Int32) * ((m_X12_keeps (fst1 (fst1 M 296 7 (0 : Int32)) 296 7 (0 : Int32)) 297 127) 297 ((3 : Int32)).toNatClampNeg))) + (3 : Int32))).toNatClampNeg a)) (M' := (a3_X12_fill M e c a)) (by rw [a3_X12_fill]) ?_
              refine f_aload_n dX12_fill_174 rfl rfl ?_
              refine s_getr hG fl_X12_7 dX12_fill_175 rfl rfl ?_
              refine f_iload dX12_fill_178 rfl ?_
              refine f_iconst (v := 4) dX12_fill_180 rfl ?_
              refine f_iadd dX12_fill_181 ?_
              refine f_iload_n dX12_fill_182 rfl rfl ?_
              refine s_iastore hG dX12_fill_183 rfl ((q7 c_6 c_14 c_22 c_37 c_52 c_90)) ?_
              refine f_mem (M := (fst1 (a3_X12_fill M e c a) 297 ((((79 : Int32) + ((6 : Int32) * ((m_X12_keeps (fst1 (fst1 M 296 7 (0 : Int32)) 296 7 (0 : Int32)) 297 127) 297 ((3 : Int32)).toNatClampNeg))) + (4 : Int32))).toNatClampNeg b)) (M' := (a4_X12_fill M e c a b)) (by rw [a4_X12_fill]) ?_
              refine f_aload_n dX12_fill_184 rfl rfl ?_
              refine s_getr hG fl_X12_7 dX12_fill_185 rfl rfl ?_
              refine f_iload dX12_fill_188 rfl ?_
              refine f_iconst (v := 5) dX12_fill_190 rfl ?_
              refine f_iadd dX12_fill_191 ?_
              refine f_iconst (v := 0) dX12_fill_192 rfl ?_
              refine s_iastore hG dX12_fill_193 rfl ((q8 c_6 c_14 c_22 c_37 c_52 c_90)) ?_
              refine f_mem (M := (fst1 (a4_X12_fill M e c a b) 297 ((((79 : Int32) + ((6 : Int32) * ((m_X12_keeps (fst1 (fst1 M 296 7 (0 : Int32)) 296 7 (0 : Int32)) 297 127) 297 ((3 : Int32)).toNatClampNeg))) + (5 : Int32))).toNatClampNeg (0 : Int32))) (M' := (a5_X12_fill M e c a b)) (by rw [a5_X12_fill]) ?_
              refine f_aload_n dX12_fill_194 rfl rfl ?_
              refine s_getr hG fl_X12_7 dX12_fill_195 rfl rfl ?_
              refine f_iconst (v := 3) dX12_fill_198 rfl ?_
              refine f_dup2 dX12_fill_199 rfl rfl ?_
              refine s_iaload hG dX12_fill_200 rfl ((show ¬ ((3 : Int32) < 0 ∨ 127 ≤ (3 : Int32).toNatClampNeg) by decide)) ?_
              refine f_iconst (v := 1) dX12_fill_201 rfl ?_
              refine f_iadd dX12_fill_202 ?_
              refine s_iastore hG dX12_fill_203 rfl ((show ¬ ((3 : Int32) < 0 ∨ 127 ≤ (3 : Int32).toNatClampNeg) by decide)) ?_
              refine f_mem (M := (fst1 (a5_X12_fill M e c a b) 297 ((3 : Int32)).toNatClampNeg (((a5_X12_fill M e c a b) 297 ((3 : Int32)).toNatClampNeg) + (1 : Int32)))) (M' := (a6_X12_fill M e c a b)) (by rw [a6_X12_fill]) ?_
              refine f_aload_n dX12_fill_204 rfl rfl ?_
              refine s_getr hG fl_X12_7 dX12_fill_205 rfl rfl ?_
              refine f_iconst (v := 4) dX12_fill_208 rfl ?_
              refine f_dup2 dX12_fill_209 rfl rfl ?_
              refine s_iaload hG dX12_fill_210 rfl ((show ¬ ((4 : Int32) < 0 ∨ 127 ≤ (4 : Int32).toNatClampNeg) by decide)) ?_
              refine f_iconst (v := 1) dX12_fill_211 rfl ?_
              refine f_iadd dX12_fill_212 ?_
              refine s_iastore hG dX12_fill_213 rfl ((show ¬ ((4 : Int32) < 0 ∨ 127 ≤ (4 : Int32).toNatClampNeg) by decide)) ?_
              refine f_mem (M := (fst1 (a6_X12_fill M e c a b) 297 ((4 : Int32)).toNatClampNeg (((a6_X12_fill M e c a b) 297 ((4 : Int32)).toNatClampNeg) + (1 : Int32)))) (M' := (a7_X12_fill M e c a b)) (by rw [a7_X12_fill]) ?_
              refine f_aload_n dX12_fill_214 rfl rfl ?_
              refine s_getr hG fl_X12_7 dX12_fill_215 rfl rfl ?_
              refine f_bipush (v := 7) dX12_fill_218 (by decide) ?_
              refine f_dup2 dX12_fill_220 rfl rfl ?_
              refine s_iaload hG dX12_fill_221 rfl ((show ¬ ((7 : Int32) < 0 ∨ 127 ≤ (7 : Int32).toNatClampNeg) by decide)) ?_
              refine f_iload dX12_fill_222 rfl ?_
              refine f_iadd dX12_fill_224 ?_
              refine s_iastore hG dX12_fill_225 rfl ((show ¬ ((7 : Int32) < 0 ∨ 127 ≤ (7 : Int32).toNatClampNeg) by decide)) ?_
              refine f_mem (M := (fst1 (a7_X12_fill M e c a b) 297 ((7 : Int32)).toNatClampNeg (((a7_X12_fill M e c a b) 297 ((7 : Int32)).toNatClampNeg) + e))) (M' := (a8_X12_fill M e c a b)) (by rw [a8_X12_fill]) ?_
              refine f_aload_n dX12_fill_226 rfl rfl ?_
              refine s_getr hG fl_X12_7 dX12_fill_227 rfl rfl ?_
              refine f_iconst (v := 4) dX12_fill_230 rfl ?_
              refine s_iaload hG dX12_fill_231 rfl ((show ¬ ((4 : Int32) < 0 ∨ 127 ≤ (4 : Int32).toNatClampNeg) by decide)) ?_
              refine f_iconst (v := 1) dX12_fill_232 rfl ?_
              refine f_isub dX12_fill_233 ?_
              refine f_ireturn dX12_fill_234 rfl rfl ?_
              exact ⟨by rw [r_X12_fill, if_neg c_6, if_neg c_14, if_neg c_22, if_neg c_37, if_neg c_52, if_pos c_90], by rw [m_X12_fill, if_neg c_6, if_neg c_14, if_neg c_22, if_neg c_37, if_neg c_52, if_pos c_90]⟩
            · refine f_iconst (v := 4) dX12_fill_93 rfl ?_
              refine f_goto (tgt := 98) dX12_fill_94 (by decide) ?_
              refine f_cV hG (As := [_]) dX12_fill_98 rfl k_X12_fails rfl rfl ml_X12_63 im_X12_fails se_X12_fails rfl rfl (c_X12_failsT hG (d := 0) (Nat.le_refl _) _ _ _ (by decide)) (by omega) (Nat.le_of_ble_eq_true rfl) (Nat.zero_le _) (Nat.zero_le _) ?_
              refine f_if_eq (tgt := 106) dX12_fill_101 (by decide) (fun c_101 => absurd c_101 (by decide)) (fun c_101 => ?_)
              refine f_iconst (v := 0) dX12_fill_104 rfl ?_
              refine f_ireturn dX12_fill_105 rfl rfl ?_
              exact ⟨by rw [r_X12_fill, if_neg c_6, if_neg c_14, if_neg c_22, if_neg c_37, if_neg c_52, if_neg c_90], by rw [m_X12_fill, if_neg c_6, if_neg c_14, if_neg c_22, if_neg c_37, if_neg c_52, if_neg c_90]⟩
          · refine f_iconst (v := 3) dX12_fill_55 rfl ?_
            refine f_goto (tgt := 60) dX12_fill_56 (by decide) ?_
            refine f_cV hG (As := [_]) dX12_fill_60 rfl k_X12_fails rfl rfl ml_X12_63 im_X12_fails se_X12_fails rfl rfl (c_X12_failsT hG (d := 0) (Nat.le_refl _) _ _ _ (by decide)) (by omega) (Nat.le_of_ble_eq_true rfl) (Nat.zero_le _) (Nat.zero_le _) ?_
            refine f_if_eq (tgt := 68) dX12_fill_63 (by decide) (fun c_63 => absurd c_63 (by decide)) (fun c_63 => ?_)
            refine f_iconst (v := 0) dX12_fill_66 rfl ?_
            refine f_ireturn dX12_fill_67 rfl rfl ?_
            exact ⟨by rw [r_X12_fill, if_neg c_6, if_neg c_14, if_neg c_22, if_neg c_37, if_pos c_52], by rw [m_X12_fill, if_neg c_6, if_neg c_14, if_neg c_22, if_neg c_37, if_pos c_52]⟩
        · refine f_iconst (v := 2) dX12_fill_40 rfl ?_
          refine f_goto (tgt := 60) dX12_fill_41 (by decide) ?_
          refine f_cV hG (As := [_]) dX12_fill_60 rfl k_X12_fails rfl rfl ml_X12_63 im_X12_fails se_X12_fails rfl rfl (c_X12_failsT hG (d := 0) (Nat.le_refl _) _ _ _ (by decide)) (by omega) (Nat.le_of_ble_eq_true rfl) (Nat.zero_le _) (Nat.zero_le _) ?_
          refine f_if_eq (tgt := 68) dX12_fill_63 (by decide) (fun c_63 => absurd c_63 (by decide)) (fun c_63 => ?_)
          refine f_iconst (v := 0) dX12_fill_66 rfl ?_
          refine f_ireturn dX12_fill_67 rfl rfl ?_
          exact ⟨by rw [r_X12_fill, if_neg c_6, if_neg c_14, if_neg c_22, if_pos c_37], by rw [m_X12_fill, if_neg c_6, if_neg c_14, if_neg c_22, if_pos c_37]⟩
      · refine f_iconst (v := 1) dX12_fill_25 rfl ?_
        refine f_goto (tgt := 60) dX12_fill_26 (by decide) ?_
        refine f_cV hG (As := [_]) dX12_fill_60 rfl k_X12_fails rfl rfl ml_X12_63 im_X12_fails se_X12_fails rfl rfl (c_X12_failsT hG (d := 0) (Nat.le_refl _) _ _ _ (by decide)) (by omega) (Nat.le_of_ble_eq_true rfl) (Nat.zero_le _) (Nat.zero_le _) ?_
        refine f_if_eq (tgt := 68) dX12_fill_63 (by decide) (fun c_63 => absurd c_63 (by decide)) (fun c_63 => ?_)
        refine f_iconst (v := 0) dX12_fill_66 rfl ?_
        refine f_ireturn dX12_fill_67 rfl rfl ?_
        exact ⟨by rw [r_X12_fill, if_neg c_6, if_neg c_14, if_pos c_22], by rw [m_X12_fill, if_neg c_6, if_neg c_14, if_pos c_22]⟩

def a0_X12_ship (M : fM) (a : Int32) : fM := (fst1 (m_X12_goes (m_X12_keeps (fst1 M 296 7 (0 : Int32)) 297 127) (r_X12_placeOf M a)) 297 ((8 : Int32)).toNatClampNeg (((m_X12_goes (m_X12_keeps (fst1 M 296 7 (0 : Int32)) 297 127) (r_X12_placeOf M a)) 297 ((8 : Int32)).toNatClampNeg) + (r_X12_goes (m_X12_keeps (fst1 M 296 7 (0 : Int32)) 297 127) (r_X12_placeOf M a))))
def r_X12_ship (M : fM) (a : Int32) : Int32 := (if 0 ≤ (r_X12_placeOf M a) then (r_X12_goes (m_X12_keeps (fst1 M 296 7 (0 : Int32)) 297 127) (r_X12_placeOf M a)) else (0 : Int32))
def m_X12_ship (M : fM) (a : Int32) : fM := (if 0 ≤ (r_X12_placeOf M a) then (a0_X12_ship M a) else (fst1 M 296 7 (1 : Int32)))
def N_X12_ship (M : fM) (a : Int32) : Prop := (N_X12_placeOf M a) ∧ ((0 ≤ (r_X12_placeOf M a)) → N_X12_keeps (fst1 M 296 7 (0 : Int32)) 297 127) ∧ ((0 ≤ (r_X12_placeOf M a)) → N_X12_goes (m_X12_keeps (fst1 M 296 7 (0 : Int32)) 297 127) (r_X12_placeOf M a))
set_option maxRecDepth 100000 in
set_option maxHeartbeats 4000000 in
theorem c_X12_ship {G : fG} (hG : fOK G) {d : Nat} (hd : 2 ≤ d) (M : fM) (dv : UInt64) (a : Int32) (hN : N_X12_ship M a) : fCt G z_X12_ship d [.ref 296, .int a] (sS M dv) 0 0 (fD (some (.int (r_X12_ship M a))) (sS (m_X12_ship M a) dv)) := by
  refine fCt_to [some (.ref 296), some (.int a), none, none] k_X12_ship rfl (Nat.le_of_ble_eq_true rfl) rfl ?_
  obtain ⟨q0, q1, q2⟩ := hN
  refine f_aload_n dX12_ship_0 rfl rfl ?_
  refine f_iload_n dX12_ship_1 rfl rfl ?_
  refine f_cV hG (As := [_]) dX12_ship_2 rfl k_X12_placeOf rfl rfl ml_X12_113 im_X12_placeOf se_X12_placeOf rfl rfl (c_X12_placeOf hG (d := 1) (Nat.le_refl _) _ _ _ q0) (by omega) (Nat.le_of_ble_eq_true rfl) (Nat.zero_le _) (Nat.zero_le _) ?_
  refine f_istore_n (ls' := [_, _, _, _]) dX12_ship_5 rfl (Nat.le_of_ble_eq_true rfl) rfl rfl ?_
  refine f_aload_n dX12_ship_6 rfl rfl ?_
  refine f_iload_n dX12_ship_7 rfl rfl ?_
  refine f_if_ge (tgt := 15) dX12_ship_8 (by decide) (fun c_8 => ?_) (fun c_8 => ?_)
  · refine f_iconst (v := 0) dX12_ship_15 rfl ?_
    refine f_cV hG (As := [_]) dX12_ship_16 rfl k_X12_fails rfl rfl ml_X12_63 im_X12_fails se_X12_fails rfl rfl (c_X12_failsF hG (d := 0) (Nat.le_refl _) _ _ _ (by decide)) (by omega) (Nat.le_of_ble_eq_true rfl) (Nat.zero_le _) (Nat.zero_le _) ?_
    refine f_if_eq (tgt := 24) dX12_ship_19 (by decide) (fun c_19 => ?_) (fun c_19 => absurd c_19 (by decide))
    refine f_aload_n dX12_ship_24 rfl rfl ?_
    refine f_aload_n dX12_ship_25 rfl rfl ?_
    refine s_getr hG fl_X12_7 dX12_ship_26 rfl rfl ?_
    refine f_cV hG (As := [_]) dX12_ship_29 rfl k_X12_keeps rfl rfl ml_X12_67 im_X12_keeps se_X12_keeps rfl rfl (c_X12_keeps hG (d := 1) (Nat.le_refl _) _ _ _ _ rfl (by decide) (q1 c_8)) (by omega) (Nat.le_of_ble_eq_true rfl) (Nat.zero_le _) (Nat.zero_le _) ?_
    refine f_aload_n dX12_ship_32 rfl rfl ?_
    refine f_iload_n dX12_ship_33 rfl rfl ?_
    refine f_cV hG (As := [_]) dX12_ship_34 rfl k_X12_goes rfl rfl ml_X12_116 im_X12_goes se_X12_goes rfl rfl (c_X12_goes hG (d := 1) (Nat.le_refl _) _ _ _ (q2 c_8)) (by omega) (Nat.le_of_ble_eq_true rfl) (Nat.zero_le _) (Nat.zero_le _) ?_
    refine f_istore_n (ls' := [_, _, _, _]) dX12_ship_37 rfl (Nat.le_of_ble_eq_true rfl) rfl rfl ?_
    refine f_aload_n dX12_ship_38 rfl rfl ?_
    refine s_getr hG fl_X12_7 dX12_ship_39 rfl rfl ?_
    refine f_bipush (v := 8) dX12_ship_42 (by decide) ?_
    refine f_dup2 dX12_ship_44 rfl rfl ?_
    refine s_iaload hG dX12_ship_45 rfl ((show ¬ ((8 : Int32) < 0 ∨ 127 ≤ (8 : Int32).toNatClampNeg) by decide)) ?_
    refine f_iload_n dX12_ship_46 rfl rfl ?_
    refine f_iadd dX12_ship_47 ?_
    refine s_iastore hG dX12_ship_48 rfl ((show ¬ ((8 : Int32) < 0 ∨ 127 ≤ (8 : Int32).toNatClampNeg) by decide)) ?_
    refine f_mem (M := (fst1 (m_X12_goes (m_X12_keeps (fst1 M 296 7 (0 : Int32)) 297 127) (r_X12_placeOf M a)) 297 ((8 : Int32)).toNatClampNeg (((m_X12_goes (m_X12_keeps (fst1 M 296 7 (0 : Int32)) 297 127) (r_X12_placeOf M a)) 297 ((8 : Int32)).toNatClampNeg) + (r_X12_goes (m_X12_keeps (fst1 M 296 7 (0 : Int32)) 297 127) (r_X12_placeOf M a))))) (M' := (a0_X12_ship M a)) (by rw [a0_X12_ship]) ?_
    refine f_iload_n dX12_ship_49 rfl rfl ?_
    refine f_ireturn dX12_ship_50 rfl rfl ?_
    exact ⟨by rw [r_X12_ship, if_pos c_8], by rw [m_X12_ship, if_pos c_8]⟩
  · refine f_iconst (v := 1) dX12_ship_11 rfl ?_
    refine f_goto (tgt := 16) dX12_ship_12 (by decide) ?_
    refine f_cV hG (As := [_]) dX12_ship_16 rfl k_X12_fails rfl rfl ml_X12_63 im_X12_fails se_X12_fails rfl rfl (c_X12_failsT hG (d := 0) (Nat.le_refl _) _ _ _ (by decide)) (by omega) (Nat.le_of_ble_eq_true rfl) (Nat.zero_le _) (Nat.zero_le _) ?_
    refine f_if_eq (tgt := 24) dX12_ship_19 (by decide) (fun c_19 => absurd c_19 (by decide)) (fun c_19 => ?_)
    refine f_iconst (v := 0) dX12_ship_22 rfl ?_
    refine f_ireturn dX12_ship_23 rfl rfl ?_
    exact ⟨by rw [r_X12_ship, if_neg c_8], by rw [m_X12_ship, if_neg c_8]⟩

def a0_X12_dawns (M : fM) (i : Nat) : fM := (fst1 M 297 ((((79 : Int32) + ((6 : Int32) * (nI i))) + (5 : Int32))).toNatClampNeg ((r_X12_by M (nI i) (5 : Int32)) + (r_X12_grows M (nI i))))
def a1_X12_dawns (M : fM) (i : Nat) : fM := (fst1 (m_X12_goes (a0_X12_dawns M i) (nI i)) 297 ((10 : Int32)).toNatClampNeg (((a0_X12_dawns M i) 297 ((10 : Int32)).toNatClampNeg) + (r_X12_goes (a0_X12_dawns M i) (nI i))))
def l_X12_dawnsL : fM → Nat → Int32 → Int32 × fM
  | M, 0, v1 => (v1, M)
  | M, i + 1, v1 => (if (60 : Int32) ≤ ((r_X12_by M (nI i) (5 : Int32)) + (r_X12_grows M (nI i))) then (l_X12_dawnsL (a1_X12_dawns M i) i (v1 + 1)) else (l_X12_dawnsL (a0_X12_dawns M i) i v1))
set_option maxRecDepth 100000 in
set_option maxHeartbeats 4000000 in
theorem lc_X12_dawnsL {G : fG} (hG : fOK G) {d : Nat} (hd : 3 ≤ d) (dv : UInt64) (Pv : Nat → fM → Int32 → Prop) (q0 : ∀ (i : Nat) (W_153 : fM) (v1 : Int32), i < 8 → Pv (i + 1) W_153 v1 → N_X12_by W_153 (nI i) (5 : Int32)) (q1 : ∀ (i : Nat) (W_153 : fM) (v1 : Int32), i < 8 → Pv (i + 1) W_153 v1 → N_X12_grows W_153 (nI i)) (q2 : ∀ (i : Nat) (W_153 : fM) (v1 : Int32), i < 8 → Pv (i + 1) W_153 v1 → vp_in (((79 : Int32) + ((6 : Int32) * (nI i))) + (5 : Int32)) 127) (q3 : ∀ (i : Nat) (W_153 : fM) (v1 : Int32), i < 8 → Pv (i + 1) W_153 v1 → ((60 : Int32) ≤ ((r_X12_by W_153 (nI i) (5 : Int32)) + (r_X12_grows W_153 (nI i)))) → N_X12_goes (a0_X12_dawns W_153 i) (nI i)) (q4 : ∀ (i : Nat) (W_153 : fM) (v1 : Int32), i < 8 → Pv (i + 1) W_153 v1 → ((60 : Int32) ≤ ((r_X12_by W_153 (nI i) (5 : Int32)) + (r_X12_grows W_153 (nI i)))) → Pv i (a1_X12_dawns W_153 i) (v1 + 1)) (q5 : ∀ (i : Nat) (W_153 : fM) (v1 : Int32), i < 8 → Pv (i + 1) W_153 v1 → ¬ ((60 : Int32) ≤ ((r_X12_by W_153 (nI i) (5 : Int32)) + (r_X12_grows W_153 (nI i)))) → Pv i (a0_X12_dawns W_153 i) v1) {Q : fR → fS → Prop} {kc ks : Nat} : ∀ (j : Nat) (M : fM) (v1 : Int32), j ≤ 8 → Pv j M v1 → fV G z_X12_dawns d Q 86 [some (.ref 296), some (.int ((l_X12_dawnsL M j v1).1)), none, none] [] (sS ((l_X12_dawnsL M j v1).2) dv) kc ks → fV G z_X12_dawns d Q 21 [some (.ref 296), some (.int v1), some (.int (nI j - 1)), none] [] (sS M dv) kc ks := by
  intro j
  induction j with
  | zero =>
    intro M v1 hj hI kk
    refine f_iload_n dX12_dawns_21 rfl rfl ?_
    refine f_if_lt (tgt := 86) dX12_dawns_22 (by decide) (fun c_22 => ?_) (fun c_22 => absurd (show (nI 0 - 1 : Int32) < 0 by decide) c_22)
    have e9 : l_X12_dawnsL M 0 v1 = (v1, M) := by rw [l_X12_dawnsL]
    rw [e9] at kk
    refine f_drop 2 ?_
    refine f_drop 3 ?_
    exact kk
  | succ i ih =>
    intro M v1 hj hI kk
    refine f_cg (ls' := [some (.ref 296), some (.int v1), some (.int (nI i)), none]) (by rw [nI_pred]) rfl rfl ?_
    refine f_iload_n dX12_dawns_21 rfl rfl ?_
    refine f_if_lt (tgt := 86) dX12_dawns_22 (by decide) (fun c_22 => absurd c_22 (nI_pos (by omega))) (fun c_22 => ?_)
    refine f_aload_n dX12_dawns_25 rfl rfl ?_
    refine f_iload_n dX12_dawns_26 rfl rfl ?_
    refine f_iconst (v := 5) dX12_dawns_27 rfl ?_
    refine f_cV hG (As := [_, _]) dX12_dawns_28 rfl k_X12_by rfl rfl ml_X12_107 im_X12_by se_X12_by rfl rfl (c_X12_by hG (d := 0) (Nat.le_refl _) _ _ _ _ (q0 i M v1 (by omega) hI)) (by omega) (Nat.le_of_ble_eq_true rfl) (Nat.zero_le _) (Nat.zero_le _) ?_
    refine f_aload_n dX12_dawns_31 rfl rfl ?_
    refine f_iload_n dX12_dawns_32 rfl rfl ?_
    refine f_cV hG (As := [_]) dX12_dawns_33 rfl k_X12_grows rfl rfl ml_X12_119 im_X12_grows se_X12_grows rfl rfl (c_X12_grows hG (d := 2) (Nat.le_refl _) _ _ _ (q1 i M v1 (by omega) hI)) (by omega) (Nat.le_of_ble_eq_true rfl) (Nat.zero_le _) (Nat.zero_le _) ?_
    refine f_iadd dX12_dawns_36 ?_
    refine f_istore_n (ls' := [_, _, _, _]) dX12_dawns_37 rfl (Nat.le_of_ble_eq_true rfl) rfl rfl ?_
    refine f_aload_n dX12_dawns_38 rfl rfl ?_
    refine s_getr hG fl_X12_7 dX12_dawns_39 rfl rfl ?_
    refine f_bipush (v := 79) dX12_dawns_42 (by decide) ?_
    refine f_bipush (v := 6) dX12_dawns_44 (by decide) ?_
    refine f_iload_n dX12_dawns_46 rfl rfl ?_
    refine f_imul dX12_dawns_47 ?_
    refine f_iadd dX12_dawns_48 ?_
    refine f_iconst (v := 5) dX12_dawns_49 rfl ?_
    refine f_iadd dX12_dawns_50 ?_
    refine f_iload_n dX12_dawns_51 rfl rfl ?_
    refine s_iastore hG dX12_dawns_52 rfl ((q2 i M v1 (by omega) hI)) ?_
    refine f_mem (M := (fst1 M 297 ((((79 : Int32) + ((6 : Int32) * (nI i))) + (5 : Int32))).toNatClampNeg ((r_X12_by M (nI i) (5 : Int32)) + (r_X12_grows M (nI i))))) (M' := (a0_X12_dawns M i)) (by rw [a0_X12_dawns]) ?_
    refine f_iload_n dX12_dawns_53 rfl rfl ?_
    refine f_bipush (v := 60) dX12_dawns_54 (by decide) ?_
    refine f_icmp_ge (tgt := 62) dX12_dawns_56 (by decide) (fun c_56 => ?_) (fun c_56 => ?_)
    · refine f_aload_n dX12_dawns_62 rfl rfl ?_
      refine s_getr hG fl_X12_7 dX12_dawns_63 rfl rfl ?_
      refine f_bipush (v := 10) dX12_dawns_66 (by decide) ?_
      refine f_dup2 dX12_dawns_68 rfl rfl ?_
      refine s_iaload hG dX12_dawns_69 rfl ((show ¬ ((10 : Int32) < 0 ∨ 127 ≤ (10 : Int32).toNatClampNeg) by decide)) ?_
      refine f_aload_n dX12_dawns_70 rfl rfl ?_
      refine f_iload_n dX12_dawns_71 rfl rfl ?_
      refine f_cV hG (As := [_]) dX12_dawns_72 rfl k_X12_goes rfl rfl ml_X12_116 im_X12_goes se_X12_goes rfl rfl (c_X12_goes hG (d := 1) (Nat.le_refl _) _ _ _ (q3 i M v1 (by omega) hI c_56)) (by omega) (Nat.le_of_ble_eq_true rfl) (Nat.zero_le _) (Nat.zero_le _) ?_
      refine f_iadd dX12_dawns_75 ?_
      refine s_iastore hG dX12_dawns_76 rfl ((show ¬ ((10 : Int32) < 0 ∨ 127 ≤ (10 : Int32).toNatClampNeg) by decide)) ?_
      refine f_mem (M := (fst1 (m_X12_goes (a0_X12_dawns M i) (nI i)) 297 ((10 : Int32)).toNatClampNeg (((a0_X12_dawns M i) 297 ((10 : Int32)).toNatClampNeg) + (r_X12_goes (a0_X12_dawns M i) (nI i))))) (M' := (a1_X12_dawns M i)) (by rw [a1_X12_dawns]) ?_
      refine f_iinc (v := v1 + 1) (ls' := [_, _, _, _]) dX12_dawns_77 rfl rfl (Nat.le_of_ble_eq_true rfl) rfl rfl ?_
      refine f_iinc (v := nI i - 1) (ls' := [_, _, _, _]) dX12_dawns_80 rfl (dec1 _) (Nat.le_of_ble_eq_true rfl) rfl rfl ?_
      refine f_goto (tgt := 21) dX12_dawns_83 (by decide) ?_
      have e9 : l_X12_dawnsL M (i + 1) v1 = l_X12_dawnsL (a1_X12_dawns M i) i (v1 + 1) := by rw [l_X12_dawnsL, if_pos c_56]
      refine f_drop 3 ?_
      exact ih (a1_X12_dawns M i) (v1 + 1) (by omega) (q4 i M v1 (by omega) hI c_56) (by rw [e9] at kk; exact kk)
    · refine f_goto (tgt := 80) dX12_dawns_59 (by decide) ?_
      refine f_iinc (v := nI i - 1) (ls' := [_, _, _, _]) dX12_dawns_80 rfl (dec1 _) (Nat.le_of_ble_eq_true rfl) rfl rfl ?_
      refine f_goto (tgt := 21) dX12_dawns_83 (by decide) ?_
      have e9 : l_X12_dawnsL M (i + 1) v1 = l_X12_dawnsL (a0_X12_dawns M i) i v1 := by rw [l_X12_dawnsL, if_neg c_56]
      refine f_drop 3 ?_
      exact ih (a0_X12_dawns M i) v1 (by omega) (q5 i M v1 (by omega) hI c_56) (by rw [e9] at kk; exact kk)

def a2_X12_dawns (M : fM) : fM := (l_X12_dawnsL (fst1 M 297 ((5 : Int32)).toNatClampNeg ((M 297 ((5 : Int32)).toNatClampNeg) + (1 : Int32))) (((fst1 M 297 ((5 : Int32)).toNatClampNeg ((M 297 ((5 : Int32)).toNatClampNeg) + (1 : Int32))) 297 ((3 : Int32)).toNatClampNeg)).toNatClampNeg (0 : Int32)).2
def r_X12_dawns (M : fM) : Int32 := (l_X12_dawnsL (fst1 M 297 ((5 : Int32)).toNatClampNeg ((M 297 ((5 : Int32)).toNatClampNeg) + (1 : Int32))) (((fst1 M 297 ((5 : Int32)).toNatClampNeg ((M 297 ((5 : Int32)).toNatClampNeg) + (1 : Int32))) 297 ((3 : Int32)).toNatClampNeg)).toNatClampNeg (0 : Int32)).1
def m_X12_dawns (M : fM) : fM := (a2_X12_dawns M)
def N_X12_dawns (M : fM) : Prop := (sm ((fst1 M 297 ((5 : Int32)).toNatClampNeg ((M 297 ((5 : Int32)).toNatClampNeg) + (1 : Int32))) 297 ((3 : Int32)).toNatClampNeg) 9) ∧ (∃ Pv : Nat → fM → Int32 → Prop, Pv (((fst1 M 297 ((5 : Int32)).toNatClampNeg ((M 297 ((5 : Int32)).toNatClampNeg) + (1 : Int32))) 297 ((3 : Int32)).toNatClampNeg)).toNatClampNeg (fst1 M 297 ((5 : Int32)).toNatClampNeg ((M 297 ((5 : Int32)).toNatClampNeg) + (1 : Int32))) (0 : Int32) ∧ (∀ (i_162 : Nat) (W_153 : fM) (v1_162 : Int32), i_162 < 8 → Pv (i_162 + 1) W_153 v1_162 → N_X12_by W_153 (nI i_162) (5 : Int32)) ∧ (∀ (i_163 : Nat) (W_153 : fM) (v1_163 : Int32), i_163 < 8 → Pv (i_163 + 1) W_153 v1_163 → N_X12_grows W_153 (nI i_163)) ∧ (∀ (i_164 : Nat) (W_153 : fM) (v1_164 : Int32), i_164 < 8 → Pv (i_164 + 1) W_153 v1_164 → vp_in (((79 : Int32) + ((6 : Int32) * (nI i_164))) + (5 : Int32)) 127) ∧ (∀ (i_165 : Nat) (W_153 : fM) (v1_165 : Int32), i_165 < 8 → Pv (i_165 + 1) W_153 v1_165 → ((60 : Int32) ≤ ((r_X12_by W_153 (nI i_165) (5 : Int32)) + (r_X12_grows W_153 (nI i_165)))) → N_X12_goes (a0_X12_dawns W_153 i_165) (nI i_165)) ∧ (∀ (i_166 : Nat) (W_153 : fM) (v1_166 : Int32), i_166 < 8 → Pv (i_166 + 1) W_153 v1_166 → ((60 : Int32) ≤ ((r_X12_by W_153 (nI i_166) (5 : Int32)) + (r_X12_grows W_153 (nI i_166)))) → Pv i_166 (a1_X12_dawns W_153 i_166) (v1_166 + 1)) ∧ (∀ (i_167 : Nat) (W_153 : fM) (v1_167 : Int32), i_167 < 8 → Pv (i_167 + 1) W_153 v1_167 → ¬ ((60 : Int32) ≤ ((r_X12_by W_153 (nI i_167) (5 : Int32)) + (r_X12_grows W_153 (nI i_167)))) → Pv i_167 (a0_X12_dawns W_153 i_167) v1_167))
set_option maxRecDepth 100000 in
set_option maxHeartbeats 4000000 in
theorem c_X12_dawns {G : fG} (hG : fOK G) {d : Nat} (hd : 3 ≤ d) (M : fM) (dv : UInt64) (hN : N_X12_dawns M) : fCt G z_X12_dawns d [.ref 296] (sS M dv) 0 0 (fD (some (.int (r_X12_dawns M))) (sS (m_X12_dawns M) dv)) := by
  refine fCt_to [some (.ref 296), none, none, none] k_X12_dawns rfl (Nat.le_of_ble_eq_true rfl) rfl ?_
  obtain ⟨q0, q1⟩ := hN
  refine f_iconst (v := 0) dX12_dawns_0 rfl ?_
  refine f_istore_n (ls' := [_, _, _, _]) dX12_dawns_1 rfl (Nat.le_of_ble_eq_true rfl) rfl rfl ?_
  refine f_aload_n dX12_dawns_2 rfl rfl ?_
  refine s_getr hG fl_X12_7 dX12_dawns_3 rfl rfl ?_
  refine f_iconst (v := 5) dX12_dawns_6 rfl ?_
  refine f_dup2 dX12_dawns_7 rfl rfl ?_
  refine s_iaload hG dX12_dawns_8 rfl ((show ¬ ((5 : Int32) < 0 ∨ 127 ≤ (5 : Int32).toNatClampNeg) by decide)) ?_
  refine f_iconst (v := 1) dX12_dawns_9 rfl ?_
  refine f_iadd dX12_dawns_10 ?_
  refine s_iastore hG dX12_dawns_11 rfl ((show ¬ ((5 : Int32) < 0 ∨ 127 ≤ (5 : Int32).toNatClampNeg) by decide)) ?_
  refine f_aload_n dX12_dawns_12 rfl rfl ?_
  refine s_getr hG fl_X12_7 dX12_dawns_13 rfl rfl ?_
  refine f_iconst (v := 3) dX12_dawns_16 rfl ?_
  refine s_iaload hG dX12_dawns_17 rfl ((show ¬ ((3 : Int32) < 0 ∨ 127 ≤ (3 : Int32).toNatClampNeg) by decide)) ?_
  refine f_iconst (v := 1) dX12_dawns_18 rfl ?_
  refine f_isub dX12_dawns_19 ?_
  refine f_istore_n (ls' := [_, _, _, _]) dX12_dawns_20 rfl (Nat.le_of_ble_eq_true rfl) rfl rfl ?_
  refine f_cg (ls' := [some (.ref 296), some (.int (0 : Int32)), some (.int (nI (((fst1 M 297 ((5 : Int32)).toNatClampNeg ((M 297 ((5 : Int32)).toNatClampNeg) + (1 : Int32))) 297 ((3 : Int32)).toNatClampNeg)).toNatClampNeg - 1)), none]) (by rw [show (((fst1 M 297 ((5 : Int32)).toNatClampNeg ((M 297 ((5 : Int32)).toNatClampNeg) + (1 : Int32))) 297 ((3 : Int32)).toNatClampNeg) - (1 : Int32)) = nI (((fst1 M 297 ((5 : Int32)).toNatClampNeg ((M 297 ((5 : Int32)).toNatClampNeg) + (1 : Int32))) 297 ((3 : Int32)).toNatClampNeg)).toNatClampNeg - 1 from congrArg (fun q => q - 1) (q0).1]) rfl rfl ?_
  obtain ⟨Pv161, hI161, w161_0, w161_1, w161_2, w161_3, w161_4, w161_5⟩ := q1
  refine lc_X12_dawnsL hG (by omega) dv Pv161 w161_0 w161_1 w161_2 w161_3 w161_4 w161_5 (((fst1 M 297 ((5 : Int32)).toNatClampNeg ((M 297 ((5 : Int32)).toNatClampNeg) + (1 : Int32))) 297 ((3 : Int32)).toNatClampNeg)).toNatClampNeg _ _ (Nat.le_of_lt_succ (q0).2) hI161 ?_
  refine f_mem (M := (l_X12_dawnsL (fst1 M 297 ((5 : Int32)).toNatClampNeg ((M 297 ((5 : Int32)).toNatClampNeg) + (1 : Int32))) (((fst1 M 297 ((5 : Int32)).toNatClampNeg ((M 297 ((5 : Int32)).toNatClampNeg) + (1 : Int32))) 297 ((3 : Int32)).toNatClampNeg)).toNatClampNeg (0 : Int32)).2) (M' := (a2_X12_dawns M)) (by rw [a2_X12_dawns]) ?_
  refine f_iload_n dX12_dawns_86 rfl rfl ?_
  refine f_ireturn dX12_dawns_87 rfl rfl ?_
  exact ⟨by rw [r_X12_dawns], by rw [m_X12_dawns]⟩

def l_X12_passL (a : Int32) : fM → Nat → Nat → Int32 → Int32 × fM
  | M, 0, _, v2 => (v2, M)
  | M, m + 1, j, v2 => (if a ≤ (nI j) then (v2, M) else (l_X12_passL a (m_X12_dawns M) m (j + 1) (v2 + (r_X12_dawns M))))
set_option maxRecDepth 100000 in
set_option maxHeartbeats 4000000 in
theorem lc_X12_passL {G : fG} (hG : fOK G) {d : Nat} (hd : 4 ≤ d) (dv : UInt64) (a : Int32) (Pv : Nat → fM → Int32 → Prop) (q0 : ∀ (j : Nat) (W_168 : fM) (v2 : Int32), j ≤ 30 → Pv j W_168 v2 → ¬ (a ≤ (nI j)) → j < 30) (q1 : ∀ (j : Nat) (W_168 : fM) (v2 : Int32), j ≤ 30 → Pv j W_168 v2 → ¬ (a ≤ (nI j)) → N_X12_dawns W_168) (q2 : ∀ (j : Nat) (W_168 : fM) (v2 : Int32), j ≤ 30 → Pv j W_168 v2 → ¬ (a ≤ (nI j)) → Pv (j + 1) (m_X12_dawns W_168) (v2 + (r_X12_dawns W_168))) {Q : fR → fS → Prop} {kc ks : Nat} : ∀ (m j : Nat) (M : fM) (v2 : Int32), j ≤ 30 → 30 + 1 ≤ j + m → Pv j M v2 → fV G z_X12_pass d Q 54 [some (.ref 296), some (.int a), some (.int ((l_X12_passL a M m j v2).1)), none] [] (sS ((l_X12_passL a M m j v2).2) dv) kc ks → fV G z_X12_pass d Q 36 [some (.ref 296), some (.int a), some (.int v2), some (.int (nI j))] [] (sS M dv) kc ks := by
  intro m
  induction m with
  | zero => intros; omega
  | succ m ih =>
    intro j M v2 hj hm hI kk
    refine f_iload_n dX12_pass_36 rfl rfl ?_
    refine f_iload_n dX12_pass_37 rfl rfl ?_
    refine f_icmp_ge (tgt := 54) dX12_pass_38 (by decide) (fun c_38 => ?_) (fun c_38 => ?_)
    · have e9 : l_X12_passL a M (m + 1) j v2 = (v2, M) := by rw [l_X12_passL, if_pos c_38]
      rw [e9] at kk
      refine f_drop 3 ?_
      exact kk
    · have hlt : j < 30 := (q0 j M v2 hj hI c_38)
      refine f_iload_n dX12_pass_41 rfl rfl ?_
      refine f_aload_n dX12_pass_42 rfl rfl ?_
      refine f_cV hG (As := []) dX12_pass_43 rfl k_X12_dawns rfl rfl ml_X12_122 im_X12_dawns se_X12_dawns rfl rfl (c_X12_dawns hG (d := 3) (Nat.le_refl _) _ _ (q1 j M v2 hj hI c_38)) (by omega) (Nat.le_of_ble_eq_true rfl) (Nat.zero_le _) (Nat.zero_le _) ?_
      refine f_iadd dX12_pass_46 ?_
      refine f_istore_n (ls' := [_, _, _, _]) dX12_pass_47 rfl (Nat.le_of_ble_eq_true rfl) rfl rfl ?_
      refine f_iinc (v := nI (j + 1)) (ls' := [_, _, _, _]) dX12_pass_48 rfl (nI_1 j) (Nat.le_of_ble_eq_true rfl) rfl rfl ?_
      refine f_goto (tgt := 36) dX12_pass_51 (by decide) ?_
      have e9 : l_X12_passL a M (m + 1) j v2 = l_X12_passL a (m_X12_dawns M) m (j + 1) (v2 + (r_X12_dawns M)) := by rw [l_X12_passL, if_neg c_38]
      exact ih (j + 1) (m_X12_dawns M) (v2 + (r_X12_dawns M)) (by omega) (by omega) (q2 j M v2 hj hI c_38) (by rw [e9] at kk; exact kk)

def r_X12_pass (M : fM) (a : Int32) : Int32 := (if (r_X12_in M a (1 : Int32) (30 : Int32)) = 0 then (0 : Int32) else (l_X12_passL a (m_X12_keeps (fst1 M 296 7 (0 : Int32)) 297 127) 31 0 (0 : Int32)).1)
def m_X12_pass (M : fM) (a : Int32) : fM := (if (r_X12_in M a (1 : Int32) (30 : Int32)) = 0 then (fst1 M 296 7 (1 : Int32)) else (l_X12_passL a (m_X12_keeps (fst1 M 296 7 (0 : Int32)) 297 127) 31 0 (0 : Int32)).2)
def N_X12_pass (M : fM) (a : Int32) : Prop := (¬ ((r_X12_in M a (1 : Int32) (30 : Int32)) = 0) → N_X12_keeps (fst1 M 296 7 (0 : Int32)) 297 127) ∧ (¬ ((r_X12_in M a (1 : Int32) (30 : Int32)) = 0) → ∃ Pv : Nat → fM → Int32 → Prop, Pv 0 (m_X12_keeps (fst1 M 296 7 (0 : Int32)) 297 127) (0 : Int32) ∧ (∀ (j_174 : Nat) (W_168 : fM) (v2_174 : Int32), j_174 ≤ 30 → Pv j_174 W_168 v2_174 → ¬ (a ≤ (nI j_174)) → j_174 < 30) ∧ (∀ (j_175 : Nat) (W_168 : fM) (v2_175 : Int32), j_175 ≤ 30 → Pv j_175 W_168 v2_175 → ¬ (a ≤ (nI j_175)) → N_X12_dawns W_168) ∧ (∀ (j_176 : Nat) (W_168 : fM) (v2_176 : Int32), j_176 ≤ 30 → Pv j_176 W_168 v2_176 → ¬ (a ≤ (nI j_176)) → Pv (j_176 + 1) (m_X12_dawns W_168) (v2_176 + (r_X12_dawns W_168))))
set_option maxRecDepth 100000 in
set_option maxHeartbeats 4000000 in
theorem c_X12_pass {G : fG} (hG : fOK G) {d : Nat} (hd : 4 ≤ d) (M : fM) (dv : UInt64) (a : Int32) (hN : N_X12_pass M a) : fCt G z_X12_pass d [.ref 296, .int a] (sS M dv) 0 0 (fD (some (.int (r_X12_pass M a))) (sS (m_X12_pass M a) dv)) := by
  refine fCt_to [some (.ref 296), some (.int a), none, none] k_X12_pass rfl (Nat.le_of_ble_eq_true rfl) rfl ?_
  obtain ⟨q0, q1⟩ := hN
  refine f_aload_n dX12_pass_0 rfl rfl ?_
  refine f_iload_n dX12_pass_1 rfl rfl ?_
  refine f_iconst (v := 1) dX12_pass_2 rfl ?_
  refine f_bipush (v := 30) dX12_pass_3 (by decide) ?_
  refine f_cS hG (As := [_, _, _]) dX12_pass_5 rfl k_X12_in rfl rfl ml_X12_59 sm_X12_in (c_X12_in hG (d := 0) (Nat.le_refl _) _ _ _ _ _) (by omega) (Nat.le_of_ble_eq_true rfl) (Nat.zero_le _) (Nat.zero_le _) ?_
  refine f_if_eq (tgt := 15) dX12_pass_8 (by decide) (fun c_8 => ?_) (fun c_8 => ?_)
  · refine f_iconst (v := 1) dX12_pass_15 rfl ?_
    refine f_cV hG (As := [_]) dX12_pass_16 rfl k_X12_fails rfl rfl ml_X12_63 im_X12_fails se_X12_fails rfl rfl (c_X12_failsT hG (d := 0) (Nat.le_refl _) _ _ _ (by decide)) (by omega) (Nat.le_of_ble_eq_true rfl) (Nat.zero_le _) (Nat.zero_le _) ?_
    refine f_if_eq (tgt := 24) dX12_pass_19 (by decide) (fun c_19 => absurd c_19 (by decide)) (fun c_19 => ?_)
    refine f_iconst (v := 0) dX12_pass_22 rfl ?_
    refine f_ireturn dX12_pass_23 rfl rfl ?_
    exact ⟨by rw [r_X12_pass, if_pos c_8], by rw [m_X12_pass, if_pos c_8]⟩
  · refine f_iconst (v := 0) dX12_pass_11 rfl ?_
    refine f_goto (tgt := 16) dX12_pass_12 (by decide) ?_
    refine f_cV hG (As := [_]) dX12_pass_16 rfl k_X12_fails rfl rfl ml_X12_63 im_X12_fails se_X12_fails rfl rfl (c_X12_failsF hG (d := 0) (Nat.le_refl _) _ _ _ (by decide)) (by omega) (Nat.le_of_ble_eq_true rfl) (Nat.zero_le _) (Nat.zero_le _) ?_
    refine f_if_eq (tgt := 24) dX12_pass_19 (by decide) (fun c_19 => ?_) (fun c_19 => absurd c_19 (by decide))
    refine f_aload_n dX12_pass_24 rfl rfl ?_
    refine f_aload_n dX12_pass_25 rfl rfl ?_
    refine s_getr hG fl_X12_7 dX12_pass_26 rfl rfl ?_
    refine f_cV hG (As := [_]) dX12_pass_29 rfl k_X12_keeps rfl rfl ml_X12_67 im_X12_keeps se_X12_keeps rfl rfl (c_X12_keeps hG (d := 1) (Nat.le_refl _) _ _ _ _ rfl (by decide) (q0 c_8)) (by omega) (Nat.le_of_ble_eq_true rfl) (Nat.zero_le _) (Nat.zero_le _) ?_
    refine f_iconst (v := 0) dX12_pass_32 rfl ?_
    refine f_istore_n (ls' := [_, _, _, _]) dX12_pass_33 rfl (Nat.le_of_ble_eq_true rfl) rfl rfl ?_
    refine f_iconst (v := 0) dX12_pass_34 rfl ?_
    refine f_istore_n (ls' := [_, _, _, _]) dX12_pass_35 rfl (Nat.le_of_ble_eq_true rfl) rfl rfl ?_
    obtain ⟨Pv173, hI173, w173_0, w173_1, w173_2⟩ := (q1 c_8)
    refine lc_X12_passL hG (by omega) dv _ Pv173 w173_0 w173_1 w173_2 31 0 _ _ (by omega) (by omega) hI173 ?_
    refine f_iload_n dX12_pass_54 rfl rfl ?_
    refine f_ireturn dX12_pass_55 rfl rfl ?_
    exact ⟨by rw [r_X12_pass, if_neg c_8], by rw [m_X12_pass, if_neg c_8]⟩

def a0_X12_recall (M : fM) (i : Nat) : fM := (fst1 (m_X12_goes M (nI i)) 297 ((9 : Int32)).toNatClampNeg ((M 297 ((9 : Int32)).toNatClampNeg) + (r_X12_goes M (nI i))))
def l_X12_recallL (a : Int32) : fM → Nat → Int32 → Int32 × fM
  | M, 0, v2 => (v2, M)
  | M, i + 1, v2 => (if (((r_X12_inside M (nI i)) >>> (a &&& 31)) &&& (1 : Int32)) = 0 then (l_X12_recallL a M i v2) else (l_X12_recallL a (a0_X12_recall M i) i (v2 + 1)))
set_option maxRecDepth 100000 in
set_option maxHeartbeats 4000000 in
theorem lc_X12_recallL {G : fG} (hG : fOK G) {d : Nat} (hd : 2 ≤ d) (dv : UInt64) (a : Int32) (Pv : Nat → fM → Int32 → Prop) (q0 : ∀ (i : Nat) (W_177 : fM) (v2 : Int32), i < 8 → Pv (i + 1) W_177 v2 → N_X12_inside W_177 (nI i)) (q1 : ∀ (i : Nat) (W_177 : fM) (v2 : Int32), i < 8 → Pv (i + 1) W_177 v2 → ¬ ((((r_X12_inside W_177 (nI i)) >>> (a &&& 31)) &&& (1 : Int32)) = 0) → N_X12_goes W_177 (nI i)) (q2 : ∀ (i : Nat) (W_177 : fM) (v2 : Int32), i < 8 → Pv (i + 1) W_177 v2 → ¬ ((((r_X12_inside W_177 (nI i)) >>> (a &&& 31)) &&& (1 : Int32)) = 0) → Pv i (a0_X12_recall W_177 i) (v2 + 1)) (q3 : ∀ (i : Nat) (W_177 : fM) (v2 : Int32), i < 8 → Pv (i + 1) W_177 v2 → ((((r_X12_inside W_177 (nI i)) >>> (a &&& 31)) &&& (1 : Int32)) = 0) → Pv i W_177 v2) {Q : fR → fS → Prop} {kc ks : Nat} : ∀ (j : Nat) (M : fM) (v2 : Int32), j ≤ 8 → Pv j M v2 → fV G z_X12_recall d Q 116 [some (.ref 296), some (.int a), some (.int ((l_X12_recallL a M j v2).1)), none] [] (sS ((l_X12_recallL a M j v2).2) dv) kc ks → fV G z_X12_recall d Q 73 [some (.ref 296), some (.int a), some (.int v2), some (.int (nI j - 1))] [] (sS M dv) kc ks := by
  intro j
  induction j with
  | zero =>
    intro M v2 hj hI kk
    refine f_iload_n dX12_recall_73 rfl rfl ?_
    refine f_if_lt (tgt := 116) dX12_recall_74 (by decide) (fun c_74 => ?_) (fun c_74 => absurd (show (nI 0 - 1 : Int32) < 0 by decide) c_74)
    have e9 : l_X12_recallL a M 0 v2 = (v2, M) := by rw [l_X12_recallL]
    rw [e9] at kk
    refine f_drop 3 ?_
    exact kk
  | succ i ih =>
    intro M v2 hj hI kk
    refine f_cg (ls' := [some (.ref 296), some (.int a), some (.int v2), some (.int (nI i))]) (by rw [nI_pred]) rfl rfl ?_
    refine f_iload_n dX12_recall_73 rfl rfl ?_
    refine f_if_lt (tgt := 116) dX12_recall_74 (by decide) (fun c_74 => absurd c_74 (nI_pos (by omega))) (fun c_74 => ?_)
    refine f_aload_n dX12_recall_77 rfl rfl ?_
    refine f_iload_n dX12_recall_78 rfl rfl ?_
    refine f_cV hG (As := [_]) dX12_recall_79 rfl k_X12_inside rfl rfl ml_X12_126 im_X12_inside se_X12_inside rfl rfl (c_X12_inside hG (d := 1) (Nat.le_refl _) _ _ _ (q0 i M v2 (by omega) hI)) (by omega) (Nat.le_of_ble_eq_true rfl) (Nat.zero_le _) (Nat.zero_le _) ?_
    refine f_iload_n dX12_recall_82 rfl rfl ?_
    refine f_ishr dX12_recall_83 ?_
    refine f_iconst (v := 1) dX12_recall_84 rfl ?_
    refine f_iand dX12_recall_85 ?_
    refine f_if_ne (tgt := 92) dX12_recall_86 (by decide) (fun c_86 => ?_) (fun c_86 => ?_)
    · refine f_aload_n dX12_recall_92 rfl rfl ?_
      refine s_getr hG fl_X12_7 dX12_recall_93 rfl rfl ?_
      refine f_bipush (v := 9) dX12_recall_96 (by decide) ?_
      refine f_dup2 dX12_recall_98 rfl rfl ?_
      refine s_iaload hG dX12_recall_99 rfl ((show ¬ ((9 : Int32) < 0 ∨ 127 ≤ (9 : Int32).toNatClampNeg) by decide)) ?_
      refine f_aload_n dX12_recall_100 rfl rfl ?_
      refine f_iload_n dX12_recall_101 rfl rfl ?_
      refine f_cV hG (As := [_]) dX12_recall_102 rfl k_X12_goes rfl rfl ml_X12_116 im_X12_goes se_X12_goes rfl rfl (c_X12_goes hG (d := 1) (Nat.le_refl _) _ _ _ (q1 i M v2 (by omega) hI c_86)) (by omega) (Nat.le_of_ble_eq_true rfl) (Nat.zero_le _) (Nat.zero_le _) ?_
      refine f_iadd dX12_recall_105 ?_
      refine s_iastore hG dX12_recall_106 rfl ((show ¬ ((9 : Int32) < 0 ∨ 127 ≤ (9 : Int32).toNatClampNeg) by decide)) ?_
      refine f_mem (M := (fst1 (m_X12_goes M (nI i)) 297 ((9 : Int32)).toNatClampNeg ((M 297 ((9 : Int32)).toNatClampNeg) + (r_X12_goes M (nI i))))) (M' := (a0_X12_recall M i)) (by rw [a0_X12_recall]) ?_
      refine f_iinc (v := v2 + 1) (ls' := [_, _, _, _]) dX12_recall_107 rfl rfl (Nat.le_of_ble_eq_true rfl) rfl rfl ?_
      refine f_iinc (v := nI i - 1) (ls' := [_, _, _, _]) dX12_recall_110 rfl (dec1 _) (Nat.le_of_ble_eq_true rfl) rfl rfl ?_
      refine f_goto (tgt := 73) dX12_recall_113 (by decide) ?_
      have e9 : l_X12_recallL a M (i + 1) v2 = l_X12_recallL a (a0_X12_recall M i) i (v2 + 1) := by rw [l_X12_recallL, if_neg c_86]
      exact ih (a0_X12_recall M i) (v2 + 1) (by omega) (q2 i M v2 (by omega) hI c_86) (by rw [e9] at kk; exact kk)
    · refine f_goto (tgt := 110) dX12_recall_89 (by decide) ?_
      refine f_iinc (v := nI i - 1) (ls' := [_, _, _, _]) dX12_recall_110 rfl (dec1 _) (Nat.le_of_ble_eq_true rfl) rfl rfl ?_
      refine f_goto (tgt := 73) dX12_recall_113 (by decide) ?_
      have e9 : l_X12_recallL a M (i + 1) v2 = l_X12_recallL a M i v2 := by rw [l_X12_recallL, if_pos c_86]
      exact ih M v2 (by omega) (q3 i M v2 (by omega) hI c_86) (by rw [e9] at kk; exact kk)

def a1_X12_recall (M : fM) (a : Int32) : fM := (fst1 (m_X12_keeps (fst1 M 296 7 (0 : Int32)) 297 127) 297 ((6 : Int32)).toNatClampNeg (((m_X12_keeps (fst1 M 296 7 (0 : Int32)) 297 127) 297 ((6 : Int32)).toNatClampNeg) ||| ((1 : Int32) <<< (a &&& 31))))
def a2_X12_recall (M : fM) (a : Int32) : fM := (l_X12_recallL a (a1_X12_recall M a) (((a1_X12_recall M a) 297 ((3 : Int32)).toNatClampNeg)).toNatClampNeg (0 : Int32)).2
def r_X12_recall (M : fM) (a : Int32) : Int32 := (if (r_X12_isRaw M a) = 0 then (0 : Int32) else (if (((M 297 ((6 : Int32)).toNatClampNeg) >>> (a &&& 31)) &&& (1 : Int32)) = (1 : Int32) then (0 : Int32) else (l_X12_recallL a (a1_X12_recall M a) (((a1_X12_recall M a) 297 ((3 : Int32)).toNatClampNeg)).toNatClampNeg (0 : Int32)).1))
def m_X12_recall (M : fM) (a : Int32) : fM := (if (r_X12_isRaw M a) = 0 then (fst1 M 296 7 (1 : Int32)) else (if (((M 297 ((6 : Int32)).toNatClampNeg) >>> (a &&& 31)) &&& (1 : Int32)) = (1 : Int32) then (fst1 M 296 7 (2 : Int32)) else (a2_X12_recall M a)))
def N_X12_recall (M : fM) (a : Int32) : Prop := (¬ ((r_X12_isRaw M a) = 0) → ¬ ((((M 297 ((6 : Int32)).toNatClampNeg) >>> (a &&& 31)) &&& (1 : Int32)) = (1 : Int32)) → N_X12_keeps (fst1 M 296 7 (0 : Int32)) 297 127) ∧ (¬ ((r_X12_isRaw M a) = 0) → ¬ ((((M 297 ((6 : Int32)).toNatClampNeg) >>> (a &&& 31)) &&& (1 : Int32)) = (1 : Int32)) → sm ((a1_X12_recall M a) 297 ((3 : Int32)).toNatClampNeg) 9) ∧ (¬ ((r_X12_isRaw M a) = 0) → ¬ ((((M 297 ((6 : Int32)).toNatClampNeg) >>> (a &&& 31)) &&& (1 : Int32)) = (1 : Int32)) → ∃ Pv : Nat → fM → Int32 → Prop, Pv (((a1_X12_recall M a) 297 ((3 : Int32)).toNatClampNeg)).toNatClampNeg (a1_X12_recall M a) (0 : Int32) ∧ (∀ (i_184 : Nat) (W_177 : fM) (v2_184 : Int32), i_184 < 8 → Pv (i_184 + 1) W_177 v2_184 → N_X12_inside W_177 (nI i_184)) ∧ (∀ (i_185 : Nat) (W_177 : fM) (v2_185 : Int32), i_185 < 8 → Pv (i_185 + 1) W_177 v2_185 → ¬ ((((r_X12_inside W_177 (nI i_185)) >>> (a &&& 31)) &&& (1 : Int32)) = 0) → N_X12_goes W_177 (nI i_185)) ∧ (∀ (i_186 : Nat) (W_177 : fM) (v2_186 : Int32), i_186 < 8 → Pv (i_186 + 1) W_177 v2_186 → ¬ ((((r_X12_inside W_177 (nI i_186)) >>> (a &&& 31)) &&& (1 : Int32)) = 0) → Pv i_186 (a0_X12_recall W_177 i_186) (v2_186 + 1)) ∧ (∀ (i_187 : Nat) (W_177 : fM) (v2_187 : Int32), i_187 < 8 → Pv (i_187 + 1) W_177 v2_187 → ((((r_X12_inside W_177 (nI i_187)) >>> (a &&& 31)) &&& (1 : Int32)) = 0) → Pv i_187 W_177 v2_187))
set_option maxRecDepth 100000 in
set_option maxHeartbeats 4000000 in
theorem c_X12_recall {G : fG} (hG : fOK G) {d : Nat} (hd : 2 ≤ d) (M : fM) (dv : UInt64) (a : Int32) (hN : N_X12_recall M a) : fCt G z_X12_recall d [.ref 296, .int a] (sS M dv) 0 0 (fD (some (.int (r_X12_recall M a))) (sS (m_X12_recall M a) dv)) := by
  refine fCt_to [some (.ref 296), some (.int a), none, none] k_X12_recall rfl (Nat.le_of_ble_eq_true rfl) rfl ?_
  obtain ⟨q0, q1, q2⟩ := hN
  refine f_aload_n dX12_recall_0 rfl rfl ?_
  refine f_aload_n dX12_recall_1 rfl rfl ?_
  refine f_iload_n dX12_recall_2 rfl rfl ?_
  refine f_cV hG (As := [_]) dX12_recall_3 rfl k_X12_isRaw rfl rfl ml_X12_71 im_X12_isRaw se_X12_isRaw rfl rfl (c_X12_isRaw hG (d := 1) (Nat.le_refl _) _ _ _) (by omega) (Nat.le_of_ble_eq_true rfl) (Nat.zero_le _) (Nat.zero_le _) ?_
  refine f_if_ne (tgt := 13) dX12_recall_6 (by decide) (fun c_6 => ?_) (fun c_6 => ?_)
  · refine f_aload_n dX12_recall_13 rfl rfl ?_
    refine s_getr hG fl_X12_7 dX12_recall_14 rfl rfl ?_
    refine f_bipush (v := 6) dX12_recall_17 (by decide) ?_
    refine s_iaload hG dX12_recall_19 rfl ((show ¬ ((6 : Int32) < 0 ∨ 127 ≤ (6 : Int32).toNatClampNeg) by decide)) ?_
    refine f_iload_n dX12_recall_20 rfl rfl ?_
    refine f_ishr dX12_recall_21 ?_
    refine f_iconst (v := 1) dX12_recall_22 rfl ?_
    refine f_iand dX12_recall_23 ?_
    refine f_iconst (v := 1) dX12_recall_24 rfl ?_
    refine f_icmp_ne (tgt := 32) dX12_recall_25 (by decide) (fun c_25 => ?_) (fun c_25 => ?_)
    · refine f_iconst (v := 0) dX12_recall_32 rfl ?_
      refine f_cV hG (As := [_]) dX12_recall_33 rfl k_X12_fails rfl rfl ml_X12_63 im_X12_fails se_X12_fails rfl rfl (c_X12_failsF hG (d := 0) (Nat.le_refl _) _ _ _ (by decide)) (by omega) (Nat.le_of_ble_eq_true rfl) (Nat.zero_le _) (Nat.zero_le _) ?_
      refine f_if_eq (tgt := 41) dX12_recall_36 (by decide) (fun c_36 => ?_) (fun c_36 => absurd c_36 (by decide))
      refine f_aload_n dX12_recall_41 rfl rfl ?_
      refine f_aload_n dX12_recall_42 rfl rfl ?_
      refine s_getr hG fl_X12_7 dX12_recall_43 rfl rfl ?_
      refine f_cV hG (As := [_]) dX12_recall_46 rfl k_X12_keeps rfl rfl ml_X12_67 im_X12_keeps se_X12_keeps rfl rfl (c_X12_keeps hG (d := 1) (Nat.le_refl _) _ _ _ _ rfl (by decide) (q0 c_6 c_25)) (by omega) (Nat.le_of_ble_eq_true rfl) (Nat.zero_le _) (Nat.zero_le _) ?_
      refine f_iconst (v := 0) dX12_recall_49 rfl ?_
      refine f_istore_n (ls' := [_, _, _, _]) dX12_recall_50 rfl (Nat.le_of_ble_eq_true rfl) rfl rfl ?_
      refine f_aload_n dX12_recall_51 rfl rfl ?_
      refine s_getr hG fl_X12_7 dX12_recall_52 rfl rfl ?_
      refine f_bipush (v := 6) dX12_recall_55 (by decide) ?_
      refine f_dup2 dX12_recall_57 rfl rfl ?_
      refine s_iaload hG dX12_recall_58 rfl ((show ¬ ((6 : Int32) < 0 ∨ 127 ≤ (6 : Int32).toNatClampNeg) by decide)) ?_
      refine f_iconst (v := 1) dX12_recall_59 rfl ?_
      refine f_iload_n dX12_recall_60 rfl rfl ?_
      refine f_ishl dX12_recall_61 ?_
      refine f_ior dX12_recall_62 ?_
      refine s_iastore hG dX12_recall_63 rfl ((show ¬ ((6 : Int32) < 0 ∨ 127 ≤ (6 : Int32).toNatClampNeg) by decide)) ?_
      refine f_mem (M := (fst1 (m_X12_keeps (fst1 M 296 7 (0 : Int32)) 297 127) 297 ((6 : Int32)).toNatClampNeg (((m_X12_keeps (fst1 M 296 7 (0 : Int32)) 297 127) 297 ((6 : Int32)).toNatClampNeg) ||| ((1 : Int32) <<< (a &&& 31))))) (M' := (a1_X12_recall M a)) (by rw [a1_X12_recall]) ?_
      refine f_aload_n dX12_recall_64 rfl rfl ?_
      refine s_getr hG fl_X12_7 dX12_recall_65 rfl rfl ?_
      refine f_iconst (v := 3) dX12_recall_68 rfl ?_
      refine s_iaload hG dX12_recall_69 rfl ((show ¬ ((3 : Int32) < 0 ∨ 127 ≤ (3 : Int32).toNatClampNeg) by decide)) ?_
      refine f_iconst (v := 1) dX12_recall_70 rfl ?_
      refine f_isub dX12_recall_71 ?_
      refine f_istore_n (ls' := [_, _, _, _]) dX12_recall_72 rfl (Nat.le_of_ble_eq_true rfl) rfl rfl ?_
      refine f_cg (ls' := [some (.ref 296), some (.int a), some (.int (0 : Int32)), some (.int (nI (((a1_X12_recall M a) 297 ((3 : Int32)).toNatClampNeg)).toNatClampNeg - 1))]) (by rw [show (((a1_X12_recall M a) 297 ((3 : Int32)).toNatClampNeg) - (1 : Int32)) = nI (((a1_X12_recall M a) 297 ((3 : Int32)).toNatClampNeg)).toNatClampNeg - 1 from congrArg (fun q => q - 1) ((q1 c_6 c_25)).1]) rfl rfl ?_
      obtain ⟨Pv183, hI183, w183_0, w183_1, w183_2, w183_3⟩ := (q2 c_6 c_25)
      refine lc_X12_recallL hG (by omega) dv _ Pv183 w183_0 w183_1 w183_2 w183_3 (((a1_X12_recall M a) 297 ((3 : Int32)).toNatClampNeg)).toNatClampNeg _ _ (Nat.le_of_lt_succ ((q1 c_6 c_25)).2) hI183 ?_
      refine f_mem (M := (l_X12_recallL a (a1_X12_recall M a) (((a1_X12_recall M a) 297 ((3 : Int32)).toNatClampNeg)).toNatClampNeg (0 : Int32)).2) (M' := (a2_X12_recall M a)) (by rw [a2_X12_recall]) ?_
      refine f_iload_n dX12_recall_116 rfl rfl ?_
      refine f_ireturn dX12_recall_117 rfl rfl ?_
      exact ⟨by rw [r_X12_recall, if_neg c_6, if_neg c_25], by rw [m_X12_recall, if_neg c_6, if_neg c_25]⟩
    · refine f_iconst (v := 2) dX12_recall_28 rfl ?_
      refine f_goto (tgt := 33) dX12_recall_29 (by decide) ?_
      refine f_cV hG (As := [_]) dX12_recall_33 rfl k_X12_fails rfl rfl ml_X12_63 im_X12_fails se_X12_fails rfl rfl (c_X12_failsT hG (d := 0) (Nat.le_refl _) _ _ _ (by decide)) (by omega) (Nat.le_of_ble_eq_true rfl) (Nat.zero_le _) (Nat.zero_le _) ?_
      refine f_if_eq (tgt := 41) dX12_recall_36 (by decide) (fun c_36 => absurd c_36 (by decide)) (fun c_36 => ?_)
      refine f_iconst (v := 0) dX12_recall_39 rfl ?_
      refine f_ireturn dX12_recall_40 rfl rfl ?_
      exact ⟨by rw [r_X12_recall, if_neg c_6, if_pos c_25], by rw [m_X12_recall, if_neg c_6, if_pos c_25]⟩
  · refine f_iconst (v := 1) dX12_recall_9 rfl ?_
    refine f_goto (tgt := 33) dX12_recall_10 (by decide) ?_
    refine f_cV hG (As := [_]) dX12_recall_33 rfl k_X12_fails rfl rfl ml_X12_63 im_X12_fails se_X12_fails rfl rfl (c_X12_failsT hG (d := 0) (Nat.le_refl _) _ _ _ (by decide)) (by omega) (Nat.le_of_ble_eq_true rfl) (Nat.zero_le _) (Nat.zero_le _) ?_
    refine f_if_eq (tgt := 41) dX12_recall_36 (by decide) (fun c_36 => absurd c_36 (by decide)) (fun c_36 => ?_)
    refine f_iconst (v := 0) dX12_recall_39 rfl ?_
    refine f_ireturn dX12_recall_40 rfl rfl ?_
    exact ⟨by rw [r_X12_recall, if_pos c_6], by rw [m_X12_recall, if_pos c_6]⟩
