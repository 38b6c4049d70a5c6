/-! ===== Distances ===== -/
theorem nle {x : Int32} {N j : Nat} (h : x = nI N) (c : ¬ x < nI j) (hj : j ≤ N + 1) (hN : N < 1000) : j ≤ N := by
  rcases Nat.lt_or_ge N j with q | q
  · exact absurd (by rw [h]; exact nI_lt q (by omega)) c
  · exact q
theorem mx_nI {a b : Nat} (ha : a < 2 ^ 31) (hb : b < 2 ^ 31) : (if nI a < nI b then nI b else nI a) = nI (max a b) := by
  by_cases h : a < b
  · rw [if_pos (nI_lt h hb), Nat.max_eq_right (by omega)]
  · rw [if_neg (nI_nlt (by omega) ha), Nat.max_eq_left (by omega)]

def r_X3_cell (M : fM) (t : Nat) (n : Nat) (w : Nat) (q : Nat) (a : Int32) (b : Int32) : Int32 := (if a = 0 then (a + b) else (if b = 0 then (a + b) else (if (r_X10_at M t n (a - (1 : Int32))) = (r_X10_at M w q (b - (1 : Int32))) then (if ((if (rget M 285 91 (((a * (7 : Int32)) + b) - (1 : Int32))) < (rget M 285 91 (((a - (1 : Int32)) * (7 : Int32)) + b)) then (rget M 285 91 (((a * (7 : Int32)) + b) - (1 : Int32))) else (rget M 285 91 (((a - (1 : Int32)) * (7 : Int32)) + b))) + (1 : Int32)) < ((rget M 285 91 ((((a - (1 : Int32)) * (7 : Int32)) + b) - (1 : Int32))) + (0 : Int32)) then ((if (rget M 285 91 (((a * (7 : Int32)) + b) - (1 : Int32))) < (rget M 285 91 (((a - (1 : Int32)) * (7 : Int32)) + b)) then (rget M 285 91 (((a * (7 : Int32)) + b) - (1 : Int32))) else (rget M 285 91 (((a - (1 : Int32)) * (7 : Int32)) + b))) + (1 : Int32)) else ((rget M 285 91 ((((a - (1 : Int32)) * (7 : Int32)) + b) - (1 : Int32))) + (0 : Int32))) else (if ((if (rget M 285 91 (((a * (7 : Int32)) + b) - (1 : Int32))) < (rget M 285 91 (((a - (1 : Int32)) * (7 : Int32)) + b)) then (rget M 285 91 (((a * (7 : Int32)) + b) - (1 : Int32))) else (rget M 285 91 (((a - (1 : Int32)) * (7 : Int32)) + b))) + (1 : Int32)) < ((rget M 285 91 ((((a - (1 : Int32)) * (7 : Int32)) + b) - (1 : Int32))) + (1 : Int32)) then ((if (rget M 285 91 (((a * (7 : Int32)) + b) - (1 : Int32))) < (rget M 285 91 (((a - (1 : Int32)) * (7 : Int32)) + b)) then (rget M 285 91 (((a * (7 : Int32)) + b) - (1 : Int32))) else (rget M 285 91 (((a - (1 : Int32)) * (7 : Int32)) + b))) + (1 : Int32)) else ((rget M 285 91 ((((a - (1 : Int32)) * (7 : Int32)) + b) - (1 : Int32))) + (1 : Int32))))))
set_option maxRecDepth 100000 in
set_option maxHeartbeats 4000000 in
theorem c_X3_cell {G : fG} (hG : fOK G) {d : Nat} (hd : 2 ≤ d) (M : fM) (dv : UInt64) (t : Nat) (n : Nat) (w : Nat) (q : Nat) (a : Int32) (b : Int32) (ht : rText t n) (hnt : n < 2147483648) (hw : rText w q) (hnw : q < 2147483648) : fCt G z_X3_cell d [.ref 284, .ref t, .ref w, .int a, .int b] (sS M dv) 0 0 (fD (some (.int (r_X3_cell M t n w q a b))) (sS M dv)) := by
  refine fCt_to [some (.ref 284), some (.ref t), some (.ref w), some (.int a), some (.int b), none, none, none] k_X3_cell rfl (Nat.le_of_ble_eq_true rfl) rfl ?_
  refine f_iload_n dX3_cell_0 rfl rfl ?_
  refine f_if_eq (tgt := 9) dX3_cell_1 (by decide) (fun c_1 => ?_) (fun c_1 => ?_)
  · refine f_iload_n dX3_cell_9 rfl rfl ?_
    refine f_iload dX3_cell_10 rfl ?_
    refine f_iadd dX3_cell_12 ?_
    refine f_ireturn dX3_cell_13 rfl rfl ?_
    exact ⟨by rw [r_X3_cell, if_pos c_1], rfl⟩
  · refine f_iload dX3_cell_4 rfl ?_
    refine f_if_ne (tgt := 14) dX3_cell_6 (by decide) (fun c_6 => ?_) (fun c_6 => ?_)
    · refine f_iload_n dX3_cell_14 rfl rfl ?_
      refine f_iconst (v := 1) dX3_cell_15 rfl ?_
      refine f_isub dX3_cell_16 ?_
      refine f_bipush (v := 7) dX3_cell_17 (by decide) ?_
      refine f_imul dX3_cell_19 ?_
      refine f_iload dX3_cell_20 rfl ?_
      refine f_iadd dX3_cell_22 ?_
      refine f_istore (ls' := [_, _, _, _, _, _, _, _]) dX3_cell_23 (Nat.le_of_ble_eq_true rfl) rfl rfl ?_
      refine f_iload_n dX3_cell_25 rfl rfl ?_
      refine f_bipush (v := 7) dX3_cell_26 (by decide) ?_
      refine f_imul dX3_cell_28 ?_
      refine f_iload dX3_cell_29 rfl ?_
      refine f_iadd dX3_cell_31 ?_
      refine f_iconst (v := 1) dX3_cell_32 rfl ?_
      refine f_isub dX3_cell_33 ?_
      refine f_istore (ls' := [_, _, _, _, _, _, _, _]) dX3_cell_34 (Nat.le_of_ble_eq_true rfl) rfl rfl ?_
      refine f_aload_n dX3_cell_36 rfl rfl ?_
      refine s_getr hG fl_X3_16 dX3_cell_37 rfl rfl ?_
      refine f_iload dX3_cell_40 rfl ?_
      refine f_iconst (v := 1) dX3_cell_42 rfl ?_
      refine f_isub dX3_cell_43 ?_
      refine f_cV hG (As := [_]) dX3_cell_44 rfl k_X7_get rfl rfl ml_X3_37 im_X7_get se_X7_get rR_285.1 rfl (c_X7_get hG (Nat.le_refl _) _ _ _ _ rR_285 (by decide) _) (by omega) (Nat.le_of_ble_eq_true rfl) (Nat.zero_le _) (Nat.zero_le _) ?_
      refine f_aload_n dX3_cell_47 rfl rfl ?_
      refine f_iload_n dX3_cell_48 rfl rfl ?_
      refine f_iconst (v := 1) dX3_cell_49 rfl ?_
      refine f_isub dX3_cell_50 ?_
      refine f_cV hG (As := [_]) dX3_cell_51 rfl k_X10_at rfl rfl ml_X3_41 im_X10_at se_X10_at ht.1 rfl (c_X10_at hG (d := 1) (Nat.le_refl _) _ _ _ _ _ ht hnt) (by omega) (Nat.le_of_ble_eq_true rfl) (Nat.zero_le _) (Nat.zero_le _) ?_
      refine f_aload_n dX3_cell_54 rfl rfl ?_
      refine f_iload dX3_cell_55 rfl ?_
      refine f_iconst (v := 1) dX3_cell_57 rfl ?_
      refine f_isub dX3_cell_58 ?_
      refine f_cV hG (As := [_]) dX3_cell_59 rfl k_X10_at rfl rfl ml_X3_41 im_X10_at se_X10_at hw.1 rfl (c_X10_at hG (d := 1) (Nat.le_refl _) _ _ _ _ _ hw hnw) (by omega) (Nat.le_of_ble_eq_true rfl) (Nat.zero_le _) (Nat.zero_le _) ?_
      refine f_icmp_ne (tgt := 69) dX3_cell_62 (by decide) (fun c_62 => ?_) (fun c_62 => ?_)
      · refine f_iconst (v := 1) dX3_cell_69 rfl ?_
        refine f_iadd dX3_cell_70 ?_
        refine f_istore (ls' := [_, _, _, _, _, _, _, _]) dX3_cell_71 (Nat.le_of_ble_eq_true rfl) rfl rfl ?_
        refine f_iload dX3_cell_73 rfl ?_
        refine f_aload_n dX3_cell_75 rfl rfl ?_
        refine s_getr hG fl_X3_16 dX3_cell_76 rfl rfl ?_
        refine f_iload dX3_cell_79 rfl ?_
        refine f_cV hG (As := [_]) dX3_cell_81 rfl k_X7_get rfl rfl ml_X3_37 im_X7_get se_X7_get rR_285.1 rfl (c_X7_get hG (Nat.le_refl _) _ _ _ _ rR_285 (by decide) _) (by omega) (Nat.le_of_ble_eq_true rfl) (Nat.zero_le _) (Nat.zero_le _) ?_
        refine f_aload_n dX3_cell_84 rfl rfl ?_
        refine s_getr hG fl_X3_16 dX3_cell_85 rfl rfl ?_
        refine f_iload dX3_cell_88 rfl ?_
        refine f_cV hG (As := [_]) dX3_cell_90 rfl k_X7_get rfl rfl ml_X3_37 im_X7_get se_X7_get rR_285.1 rfl (c_X7_get hG (Nat.le_refl _) _ _ _ _ rR_285 (by decide) _) (by omega) (Nat.le_of_ble_eq_true rfl) (Nat.zero_le _) (Nat.zero_le _) ?_
        refine f_mmin hG dX3_cell_93 mj_X3_45 mj_min (Nat.le_of_ble_eq_true rfl) ?_
        refine f_iconst (v := 1) dX3_cell_96 rfl ?_
        refine f_iadd dX3_cell_97 ?_
        refine f_mmin hG dX3_cell_98 mj_X3_45 mj_min (Nat.le_of_ble_eq_true rfl) ?_
        refine f_ireturn dX3_cell_101 rfl rfl ?_
        exact ⟨by rw [r_X3_cell, if_neg c_1, if_neg c_6, if_neg c_62], rfl⟩
      · refine f_iconst (v := 0) dX3_cell_65 rfl ?_
        refine f_goto (tgt := 70) dX3_cell_66 (by decide) ?_
        refine f_iadd dX3_cell_70 ?_
        refine f_istore (ls' := [_, _, _, _, _, _, _, _]) dX3_cell_71 (Nat.le_of_ble_eq_true rfl) rfl rfl ?_
        refine f_iload dX3_cell_73 rfl ?_
        refine f_aload_n dX3_cell_75 rfl rfl ?_
        refine s_getr hG fl_X3_16 dX3_cell_76 rfl rfl ?_
        refine f_iload dX3_cell_79 rfl ?_
        refine f_cV hG (As := [_]) dX3_cell_81 rfl k_X7_get rfl rfl ml_X3_37 im_X7_get se_X7_get rR_285.1 rfl (c_X7_get hG (Nat.le_refl _) _ _ _ _ rR_285 (by decide) _) (by omega) (Nat.le_of_ble_eq_true rfl) (Nat.zero_le _) (Nat.zero_le _) ?_
        refine f_aload_n dX3_cell_84 rfl rfl ?_
        refine s_getr hG fl_X3_16 dX3_cell_85 rfl rfl ?_
        refine f_iload dX3_cell_88 rfl ?_
        refine f_cV hG (As := [_]) dX3_cell_90 rfl k_X7_get rfl rfl ml_X3_37 im_X7_get se_X7_get rR_285.1 rfl (c_X7_get hG (Nat.le_refl _) _ _ _ _ rR_285 (by decide) _) (by omega) (Nat.le_of_ble_eq_true rfl) (Nat.zero_le _) (Nat.zero_le _) ?_
        refine f_mmin hG dX3_cell_93 mj_X3_45 mj_min (Nat.le_of_ble_eq_true rfl) ?_
        refine f_iconst (v := 1) dX3_cell_96 rfl ?_
        refine f_iadd dX3_cell_97 ?_
        refine f_mmin hG dX3_cell_98 mj_X3_45 mj_min (Nat.le_of_ble_eq_true rfl) ?_
        refine f_ireturn dX3_cell_101 rfl rfl ?_
        exact ⟨by rw [r_X3_cell, if_neg c_1, if_neg c_6, if_pos c_62], rfl⟩
    · refine f_iload_n dX3_cell_9 rfl rfl ?_
      refine f_iload dX3_cell_10 rfl ?_
      refine f_iadd dX3_cell_12 ?_
      refine f_ireturn dX3_cell_13 rfl rfl ?_
      exact ⟨by rw [r_X3_cell, if_neg c_1, if_pos c_6], rfl⟩

def l_X3_byTableI (t : Nat) (n : Nat) (w : Nat) (q : Nat) (i : Nat) : fM → Nat → Nat → fM
  | M, 0, _ => M
  | M, m + 1, j => (if (M w 2) < (nI j) then M else (l_X3_byTableI t n w q i (rset M 285 91 (((nI i) * (7 : Int32)) + (nI j)) (r_X3_cell M t n w q (nI i) (nI j))) m (j + 1)))
set_option maxRecDepth 100000 in
set_option maxHeartbeats 4000000 in
theorem lc_X3_byTableI {G : fG} (hG : fOK G) {d : Nat} (hd : 3 ≤ d) (dv : UInt64) (t : Nat) (n : Nat) (w : Nat) (q : Nat) (i : Nat) (ht : rText t n) (hnt : n < 2147483648) (hw : rText w q) (hnw : q < 2147483648) (W : Nat) (hW2 : W < 300) (hwx : w ≠ 286) {Q : fR → fS → Prop} {kc ks : Nat} : ∀ (m j : Nat) (M : fM), j ≤ (W + 1) → (W + 1) + 1 ≤ j + m → M w 2 = nI W → fV G z_X3_byTable d Q 51 [some (.ref 284), some (.ref t), some (.ref w), some (.int (nI i)), none] [] (sS (l_X3_byTableI t n w q i M m j) dv) kc ks → fV G z_X3_byTable d Q 13 [some (.ref 284), some (.ref t), some (.ref w), some (.int (nI i)), some (.int (nI j))] [] (sS M dv) kc ks := by
  intro m
  induction m with
  | zero => intros; omega
  | succ m ih =>
    intro j M hj hm hw9 kk
    refine f_iload dX3_byTable_13 rfl ?_
    refine f_aload_n dX3_byTable_15 rfl rfl ?_
    refine s_geti hG fl_X3_23 dX3_byTable_16 hw.1 rfl ?_
    refine f_icmp_gt (tgt := 51) dX3_byTable_19 (by decide) (fun c_19 => ?_) (fun c_19 => ?_)
    · have e9 : l_X3_byTableI t n w q i M (m + 1) j = M := by rw [l_X3_byTableI, if_pos c_19]
      rw [e9] at kk
      refine f_drop 4 ?_
      exact kk
    · have hlt : j ≤ W := nle hw9 c_19 hj (by omega)
      refine f_aload_n dX3_byTable_22 rfl rfl ?_
      refine s_getr hG fl_X3_16 dX3_byTable_23 rfl rfl ?_
      refine f_iload_n dX3_byTable_26 rfl rfl ?_
      refine f_bipush (v := 7) dX3_byTable_27 (by decide) ?_
      refine f_imul dX3_byTable_29 ?_
      refine f_iload dX3_byTable_30 rfl ?_
      refine f_iadd dX3_byTable_32 ?_
      refine f_aload_n dX3_byTable_33 rfl rfl ?_
      refine f_aload_n dX3_byTable_34 rfl rfl ?_
      refine f_aload_n dX3_byTable_35 rfl rfl ?_
      refine f_iload_n dX3_byTable_36 rfl rfl ?_
      refine f_iload dX3_byTable_37 rfl ?_
      refine f_cV hG (As := [_, _, _, _]) dX3_byTable_39 rfl k_X3_cell rfl rfl ml_X3_29 im_X3_cell se_X3_cell rfl rfl (c_X3_cell hG (d := 2) (Nat.le_refl _) _ _ _ _ _ _ _ _ ht hnt hw hnw) (by omega) (Nat.le_of_ble_eq_true rfl) (Nat.zero_le _) (Nat.zero_le _) ?_
      refine f_cV hG (As := [_, _]) dX3_byTable_42 rfl k_X7_set rfl rfl ml_X3_33 im_X7_set se_X7_set rR_285.1 rfl (c_X7_set hG (Nat.le_refl _) _ _ _ _ rR_285 (by decide) _ _) (by omega) (Nat.le_of_ble_eq_true rfl) (Nat.zero_le _) (Nat.zero_le _) ?_
      refine f_iinc (v := nI (j + 1)) (ls' := [_, _, _, _, _]) dX3_byTable_45 rfl (nI_1 j) (Nat.le_of_ble_eq_true rfl) rfl rfl ?_
      refine f_goto (tgt := 13) dX3_byTable_48 (by decide) ?_
      have e9 : l_X3_byTableI t n w q i M (m + 1) j = l_X3_byTableI t n w q i (rset M 285 91 (((nI i) * (7 : Int32)) + (nI j)) (r_X3_cell M t n w q (nI i) (nI j))) m (j + 1) := by rw [l_X3_byTableI, if_neg c_19]
      exact ih (j + 1) (rset M 285 91 (((nI i) * (7 : Int32)) + (nI j)) (r_X3_cell M t n w q (nI i) (nI j))) (by omega) (by omega) (by rw [rset_ne (by omega)]; exact hw9) (by rw [e9] at kk; exact kk)

theorem ne_X3_byTableI {t n w q i : Nat} {a : Nat} (ha : a ≠ 286) : ∀ (m j : Nat) (M : fM), l_X3_byTableI t n w q i M m j a = M a := by
  intro m
  induction m with
  | zero => intros; rfl
  | succ m ih =>
    intro j M
    rw [l_X3_byTableI]
    split
    · rfl
    · rw [ih, rset_ne ha]
def l_X3_byTable (t : Nat) (n : Nat) (w : Nat) (q : Nat) : fM → Nat → Nat → Int32 × fM
  | M, 0, _ => (0, M)
  | M, m + 1, j => (if (M t 2) < (nI j) then ((rget M 285 91 (((M t 2) * (7 : Int32)) + (M w 2))), M) else (l_X3_byTable t n w q (l_X3_byTableI t n w q j M 301 0) m (j + 1)))
set_option maxRecDepth 100000 in
set_option maxHeartbeats 4000000 in
theorem lp_X3_byTable {G : fG} (hG : fOK G) {d : Nat} (hd : 3 ≤ d) (dv : UInt64) (t : Nat) (n : Nat) (w : Nat) (q : Nat) (ht : rText t n) (hnt : n < 2147483648) (hw : rText w q) (hnw : q < 2147483648) (T : Nat) (hT2 : T < 300) (W : Nat) (hW2 : W < 300) (htx : t ≠ 286) (hwx : w ≠ 286) : ∀ (m j : Nat) (M : fM), j ≤ (T + 1) → (T + 1) + 1 ≤ j + m → M t 2 = nI T → M w 2 = nI W → fV G z_X3_byTable d (fD (some (.int (l_X3_byTable t n w q M m j).1)) (sS (l_X3_byTable t n w q M m j).2 dv)) 2 [some (.ref 284), some (.ref t), some (.ref w), some (.int (nI j)), none] [] (sS M dv) 0 0 := by
  intro m
  induction m with
  | zero => intros; omega
  | succ m ih =>
    intro j M hj hm ht0 hw0
    refine f_iload_n dX3_byTable_2 rfl rfl ?_
    refine f_aload_n dX3_byTable_3 rfl rfl ?_
    refine s_geti hG fl_X3_23 dX3_byTable_4 ht.1 rfl ?_
    refine f_icmp_gt (tgt := 57) dX3_byTable_7 (by decide) (fun c_7 => ?_) (fun c_7 => ?_)
    · refine f_aload_n dX3_byTable_57 rfl rfl ?_
      refine s_getr hG fl_X3_16 dX3_byTable_58 rfl rfl ?_
      refine f_aload_n dX3_byTable_61 rfl rfl ?_
      refine s_geti hG fl_X3_23 dX3_byTable_62 ht.1 rfl ?_
      refine f_bipush (v := 7) dX3_byTable_65 (by decide) ?_
      refine f_imul dX3_byTable_67 ?_
      refine f_aload_n dX3_byTable_68 rfl rfl ?_
      refine s_geti hG fl_X3_23 dX3_byTable_69 hw.1 rfl ?_
      refine f_iadd dX3_byTable_72 ?_
      refine f_cV hG (As := [_]) dX3_byTable_73 rfl k_X7_get rfl rfl ml_X3_37 im_X7_get se_X7_get rR_285.1 rfl (c_X7_get hG (Nat.le_refl _) _ _ _ _ rR_285 (by decide) _) (by omega) (Nat.le_of_ble_eq_true rfl) (Nat.zero_le _) (Nat.zero_le _) ?_
      refine f_ireturn dX3_byTable_76 rfl rfl ?_
      exact ⟨by rw [l_X3_byTable, if_pos c_7], by rw [l_X3_byTable, if_pos c_7]⟩
    · have hlt : j ≤ T := nle ht0 c_7 hj (by omega)
      refine f_iconst (v := 0) dX3_byTable_10 rfl ?_
      refine f_istore (ls' := [_, _, _, _, _]) dX3_byTable_11 (Nat.le_of_ble_eq_true rfl) rfl rfl ?_
      refine lc_X3_byTableI hG (by omega) dv _ _ _ _ _ ht hnt hw hnw _ (by omega) (by omega) 301 0 _ (by omega) (by omega) (by assumption) ?_
      refine f_iinc (v := nI (j + 1)) (ls' := [_, _, _, _, _]) dX3_byTable_51 rfl (nI_1 j) (Nat.le_of_ble_eq_true rfl) rfl rfl ?_
      refine f_goto (tgt := 2) dX3_byTable_54 (by decide) ?_
      have e9 : l_X3_byTable t n w q M (m + 1) j = l_X3_byTable t n w q (l_X3_byTableI t n w q j M 301 0) m (j + 1) := by rw [l_X3_byTable, if_neg c_7]
      rw [e9]
      refine f_drop 4 ?_
      exact ih (j + 1) (l_X3_byTableI t n w q j M 301 0) (by omega) (by omega) (by rw [ne_X3_byTableI (by omega)]; exact ht0) (by rw [ne_X3_byTableI (by omega)]; exact hw0)
def r_X3_byTable (M : fM) (t : Nat) (n : Nat) (w : Nat) (q : Nat) : Int32 := (l_X3_byTable t n w q M 301 0).1
def m_X3_byTable (M : fM) (t : Nat) (n : Nat) (w : Nat) (q : Nat) : fM := (l_X3_byTable t n w q M 301 0).2
set_option maxRecDepth 100000 in
set_option maxHeartbeats 4000000 in
theorem c_X3_byTable {G : fG} (hG : fOK G) {d : Nat} (hd : 3 ≤ d) (M : fM) (dv : UInt64) (t : Nat) (n : Nat) (w : Nat) (q : Nat) (ht : rText t n) (hnt : n < 2147483648) (hw : rText w q) (hnw : q < 2147483648) (T : Nat) (hT : M t 2 = nI T) (hT2 : T < 300) (W : Nat) (hW : M w 2 = nI W) (hW2 : W < 300) (htx : t ≠ 286) (hwx : w ≠ 286) : fCt G z_X3_byTable d [.ref 284, .ref t, .ref w] (sS M dv) 0 0 (fD (some (.int (r_X3_byTable M t n w q))) (sS (m_X3_byTable M t n w q) dv)) := by
  refine fCt_to [some (.ref 284), some (.ref t), some (.ref w), none, none] k_X3_byTable rfl (Nat.le_of_ble_eq_true rfl) rfl ?_
  refine f_iconst (v := 0) dX3_byTable_0 rfl ?_
  refine f_istore_n (ls' := [_, _, _, _, _]) dX3_byTable_1 rfl (Nat.le_of_ble_eq_true rfl) rfl rfl ?_
  exact lp_X3_byTable hG hd dv t n w q ht hnt hw hnw T hT2 W hW2 htx hwx 301 0 _ (by omega) (by omega) hT hW

def sp_X3_goOn (f : Nat) (z : Nat) (t : Nat) (n : Nat) (w : Nat) (q : Nat) : Nat → fM → Int32 → Int32 → Nat → Int32 × fM
  | 0, M, _, _, _ => (0, M)
  | m + 1, M, a, b, c => (if ((M t 2) - a) ≤ 0 then (((if ((M t 2) - a) < (0 : Int32) then (0 : Int32) else ((M t 2) - a)) + (if ((M w 2) - b) < (0 : Int32) then (0 : Int32) else ((M w 2) - b))), M) else (if ((M w 2) - b) ≤ 0 then (((if ((M t 2) - a) < (0 : Int32) then (0 : Int32) else ((M t 2) - a)) + (if ((M w 2) - b) < (0 : Int32) then (0 : Int32) else ((M w 2) - b))), M) else (if (nI c) ≤ (18 : Int32) then (if (rget M f z ((a * (7 : Int32)) + b)) = (-1 : Int32) then (if (r_X10_at (sp_X3_goOn f z t n w q m M (a + (1 : Int32)) (b + (1 : Int32)) (c + 1)).2 t n a) = (r_X10_at (sp_X3_goOn f z t n w q m M (a + (1 : Int32)) (b + (1 : Int32)) (c + 1)).2 w q b) then ((sp_X3_goOn f z t n w q m M (a + (1 : Int32)) (b + (1 : Int32)) (c + 1)).1, (rset (sp_X3_goOn f z t n w q m M (a + (1 : Int32)) (b + (1 : Int32)) (c + 1)).2 f z ((a * (7 : Int32)) + b) (sp_X3_goOn f z t n w q m M (a + (1 : Int32)) (b + (1 : Int32)) (c + 1)).1)) else (((if (if (sp_X3_goOn f z t n w q m ((sp_X3_goOn f z t n w q m ((sp_X3_goOn f z t n w q m M (a + (1 : Int32)) (b + (1 : Int32)) (c + 1)).2) (a + (1 : Int32)) b (c + 1)).2) a (b + (1 : Int32)) (c + 1)).1 < (sp_X3_goOn f z t n w q m ((sp_X3_goOn f z t n w q m M (a + (1 : Int32)) (b + (1 : Int32)) (c + 1)).2) (a + (1 : Int32)) b (c + 1)).1 then (sp_X3_goOn f z t n w q m ((sp_X3_goOn f z t n w q m ((sp_X3_goOn f z t n w q m M (a + (1 : Int32)) (b + (1 : Int32)) (c + 1)).2) (a + (1 : Int32)) b (c + 1)).2) a (b + (1 : Int32)) (c + 1)).1 else (sp_X3_goOn f z t n w q m ((sp_X3_goOn f z t n w q m M (a + (1 : Int32)) (b + (1 : Int32)) (c + 1)).2) (a + (1 : Int32)) b (c + 1)).1) < (sp_X3_goOn f z t n w q m M (a + (1 : Int32)) (b + (1 : Int32)) (c + 1)).1 then (if (sp_X3_goOn f z t n w q m ((sp_X3_goOn f z t n w q m ((sp_X3_goOn f z t n w q m M (a + (1 : Int32)) (b + (1 : Int32)) (c + 1)).2) (a + (1 : Int32)) b (c + 1)).2) a (b + (1 : Int32)) (c + 1)).1 < (sp_X3_goOn f z t n w q m ((sp_X3_goOn f z t n w q m M (a + (1 : Int32)) (b + (1 : Int32)) (c + 1)).2) (a + (1 : Int32)) b (c + 1)).1 then (sp_X3_goOn f z t n w q m ((sp_X3_goOn f z t n w q m ((sp_X3_goOn f z t n w q m M (a + (1 : Int32)) (b + (1 : Int32)) (c + 1)).2) (a + (1 : Int32)) b (c + 1)).2) a (b + (1 : Int32)) (c + 1)).1 else (sp_X3_goOn f z t n w q m ((sp_X3_goOn f z t n w q m M (a + (1 : Int32)) (b + (1 : Int32)) (c + 1)).2) (a + (1 : Int32)) b (c + 1)).1) else (sp_X3_goOn f z t n w q m M (a + (1 : Int32)) (b + (1 : Int32)) (c + 1)).1) + (1 : Int32)), (rset (sp_X3_goOn f z t n w q m ((sp_X3_goOn f z t n w q m ((sp_X3_goOn f z t n w q m M (a + (1 : Int32)) (b + (1 : Int32)) (c + 1)).2) (a + (1 : Int32)) b (c + 1)).2) a (b + (1 : Int32)) (c + 1)).2 f z ((a * (7 : Int32)) + b) ((if (if (sp_X3_goOn f z t n w q m ((sp_X3_goOn f z t n w q m ((sp_X3_goOn f z t n w q m M (a + (1 : Int32)) (b + (1 : Int32)) (c + 1)).2) (a + (1 : Int32)) b (c + 1)).2) a (b + (1 : Int32)) (c + 1)).1 < (sp_X3_goOn f z t n w q m ((sp_X3_goOn f z t n w q m M (a + (1 : Int32)) (b + (1 : Int32)) (c + 1)).2) (a + (1 : Int32)) b (c + 1)).1 then (sp_X3_goOn f z t n w q m ((sp_X3_goOn f z t n w q m ((sp_X3_goOn f z t n w q m M (a + (1 : Int32)) (b + (1 : Int32)) (c + 1)).2) (a + (1 : Int32)) b (c + 1)).2) a (b + (1 : Int32)) (c + 1)).1 else (sp_X3_goOn f z t n w q m ((sp_X3_goOn f z t n w q m M (a + (1 : Int32)) (b + (1 : Int32)) (c + 1)).2) (a + (1 : Int32)) b (c + 1)).1) < (sp_X3_goOn f z t n w q m M (a + (1 : Int32)) (b + (1 : Int32)) (c + 1)).1 then (if (sp_X3_goOn f z t n w q m ((sp_X3_goOn f z t n w q m ((sp_X3_goOn f z t n w q m M (a + (1 : Int32)) (b + (1 : Int32)) (c + 1)).2) (a + (1 : Int32)) b (c + 1)).2) a (b + (1 : Int32)) (c + 1)).1 < (sp_X3_goOn f z t n w q m ((sp_X3_goOn f z t n w q m M (a + (1 : Int32)) (b + (1 : Int32)) (c + 1)).2) (a + (1 : Int32)) b (c + 1)).1 then (sp_X3_goOn f z t n w q m ((sp_X3_goOn f z t n w q m ((sp_X3_goOn f z t n w q m M (a + (1 : Int32)) (b + (1 : Int32)) (c + 1)).2) (a + (1 : Int32)) b (c + 1)).2) a (b + (1 : Int32)) (c + 1)).1 else (sp_X3_goOn f z t n w q m ((sp_X3_goOn f z t n w q m M (a + (1 : Int32)) (b + (1 : Int32)) (c + 1)).2) (a + (1 : Int32)) b (c + 1)).1) else (sp_X3_goOn f z t n w q m M (a + (1 : Int32)) (b + (1 : Int32)) (c + 1)).1) + (1 : Int32))))) else ((rget M f z ((a * (7 : Int32)) + b)), M)) else (((if ((M t 2) - a) < (0 : Int32) then (0 : Int32) else ((M t 2) - a)) + (if ((M w 2) - b) < (0 : Int32) then (0 : Int32) else ((M w 2) - b))), M))))
set_option maxRecDepth 100000 in
set_option maxHeartbeats 4000000 in
theorem c_X3_goOn {G : fG} (hG : fOK G) (dv : UInt64) (f : Nat) (z : Nat) (t : Nat) (n : Nat) (w : Nat) (q : Nat) (hf : rRow f z) (hnf : z < 2147483648) (ht : rText t n) (hnt : n < 2147483648) (hw : rText w q) (hnw : q < 2147483648) : ∀ (m : Nat) {d : Nat} (hd : 2 + m ≤ d) (M : fM) (a : Int32) (b : Int32) (c : Nat), c + m = 20 → c ≤ 19 → fCt G z_X3_goOn d [.ref f, .ref t, .ref w, .int a, .int b, .int (nI c)] (sS M dv) 0 0 (fD (some (.int (sp_X3_goOn f z t n w q m M a b c).1)) (sS (sp_X3_goOn f z t n w q m M a b c).2 dv)) := by
  intro m
  induction m with
  | zero =>
    intros
    omega
  | succ m ih =>
    intro d hd M a b c hc hc2
    refine fCt_to [some (.ref f), some (.ref t), some (.ref w), some (.int a), some (.int b), some (.int (nI c)), none, none, none, none, none, none] k_X3_goOn rfl (Nat.le_of_ble_eq_true rfl) rfl ?_
    refine f_aload_n dX3_goOn_0 rfl rfl ?_
    refine s_geti hG fl_X3_23 dX3_goOn_1 ht.1 rfl ?_
    refine f_iload_n dX3_goOn_4 rfl rfl ?_
    refine f_isub dX3_goOn_5 ?_
    refine f_istore (ls' := [_, _, _, _, _, _, _, _, _, _, _, _]) dX3_goOn_6 (Nat.le_of_ble_eq_true rfl) rfl rfl ?_
    refine f_aload_n dX3_goOn_8 rfl rfl ?_
    refine s_geti hG fl_X3_23 dX3_goOn_9 hw.1 rfl ?_
    refine f_iload dX3_goOn_12 rfl ?_
    refine f_isub dX3_goOn_14 ?_
    refine f_istore (ls' := [_, _, _, _, _, _, _, _, _, _, _, _]) dX3_goOn_15 (Nat.le_of_ble_eq_true rfl) rfl rfl ?_
    refine f_iload dX3_goOn_17 rfl ?_
    refine f_if_le (tgt := 34) dX3_goOn_19 (by decide) (fun c_19 => ?_) (fun c_19 => ?_)
    · refine f_iload dX3_goOn_34 rfl ?_
      refine f_iconst (v := 0) dX3_goOn_36 rfl ?_
      refine f_mmax hG dX3_goOn_37 mj_X3_58 mj_max (Nat.le_of_ble_eq_true rfl) ?_
      refine f_iload dX3_goOn_40 rfl ?_
      refine f_iconst (v := 0) dX3_goOn_42 rfl ?_
      refine f_mmax hG dX3_goOn_43 mj_X3_58 mj_max (Nat.le_of_ble_eq_true rfl) ?_
      refine f_iadd dX3_goOn_46 ?_
      refine f_ireturn dX3_goOn_47 rfl rfl ?_
      exact ⟨by rw [sp_X3_goOn, if_pos c_19], by rw [sp_X3_goOn, if_pos c_19]⟩
    · refine f_iload dX3_goOn_22 rfl ?_
      refine f_if_le (tgt := 34) dX3_goOn_24 (by decide) (fun c_24 => ?_) (fun c_24 => ?_)
      · refine f_iload dX3_goOn_34 rfl ?_
        refine f_iconst (v := 0) dX3_goOn_36 rfl ?_
        refine f_mmax hG dX3_goOn_37 mj_X3_58 mj_max (Nat.le_of_ble_eq_true rfl) ?_
        refine f_iload dX3_goOn_40 rfl ?_
        refine f_iconst (v := 0) dX3_goOn_42 rfl ?_
        refine f_mmax hG dX3_goOn_43 mj_X3_58 mj_max (Nat.le_of_ble_eq_true rfl) ?_
        refine f_iadd dX3_goOn_46 ?_
        refine f_ireturn dX3_goOn_47 rfl rfl ?_
        exact ⟨by rw [sp_X3_goOn, if_neg c_19, if_pos c_24], by rw [sp_X3_goOn, if_neg c_19, if_pos c_24]⟩
      · refine f_iload dX3_goOn_27 rfl ?_
        refine f_bipush (v := 18) dX3_goOn_29 (by decide) ?_
        refine f_icmp_le (tgt := 48) dX3_goOn_31 (by decide) (fun c_31 => ?_) (fun c_31 => ?_)
        · have hc3 : c ≤ 18 := (nI_leI (b := 18) (by omega) (by decide)).mp c_31
          refine f_iload_n dX3_goOn_48 rfl rfl ?_
          refine f_bipush (v := 7) dX3_goOn_49 (by decide) ?_
          refine f_imul dX3_goOn_51 ?_
          refine f_iload dX3_goOn_52 rfl ?_
          refine f_iadd dX3_goOn_54 ?_
          refine f_istore (ls' := [_, _, _, _, _, _, _, _, _, _, _, _]) dX3_goOn_55 (Nat.le_of_ble_eq_true rfl) rfl rfl ?_
          refine f_aload_n dX3_goOn_57 rfl rfl ?_
          refine f_iload dX3_goOn_58 rfl ?_
          refine f_cV hG (As := [_]) dX3_goOn_60 rfl k_X7_get rfl rfl ml_X3_37 im_X7_get se_X7_get hf.1 rfl (c_X7_get hG (Nat.le_refl _) _ _ _ _ hf hnf _) (by omega) (Nat.le_of_ble_eq_true rfl) (Nat.zero_le _) (Nat.zero_le _) ?_
          refine f_iconst (v := (-1)) dX3_goOn_63 rfl ?_
          refine f_icmp_eq (tgt := 74) dX3_goOn_64 (by decide) (fun c_64 => ?_) (fun c_64 => ?_)
          · refine f_aload_n dX3_goOn_74 rfl rfl ?_
            refine f_aload_n dX3_goOn_75 rfl rfl ?_
            refine f_aload_n dX3_goOn_76 rfl rfl ?_
            refine f_iload_n dX3_goOn_77 rfl rfl ?_
            refine f_iconst (v := 1) dX3_goOn_78 rfl ?_
            refine f_iadd dX3_goOn_79 ?_
            refine f_iload dX3_goOn_80 rfl ?_
            refine f_iconst (v := 1) dX3_goOn_82 rfl ?_
            refine f_iadd dX3_goOn_83 ?_
            refine f_iload dX3_goOn_84 rfl ?_
            refine f_iconst (v := 1) dX3_goOn_86 rfl ?_
            refine f_iadd dX3_goOn_87 ?_
            rw [nI_1]
            refine f_cS hG (As := [_, _, _, _, _, _]) dX3_goOn_88 rfl k_X3_goOn rfl rfl ml_X3_54 sm_X3_goOn ((ih (d := 2 + m) (by omega) _ _ _ _ (by omega) (by omega))) (by omega) (Nat.le_of_ble_eq_true rfl) (Nat.zero_le _) (Nat.zero_le _) ?_
            refine f_istore (ls' := [_, _, _, _, _, _, _, _, _, _, _, _]) dX3_goOn_91 (Nat.le_of_ble_eq_true rfl) rfl rfl ?_
            refine f_aload_n dX3_goOn_93 rfl rfl ?_
            refine f_iload_n dX3_goOn_94 rfl rfl ?_
            refine f_cV hG (As := [_]) dX3_goOn_95 rfl k_X10_at rfl rfl ml_X3_41 im_X10_at se_X10_at ht.1 rfl (c_X10_at hG (d := 1) (Nat.le_refl _) _ _ _ _ _ ht hnt) (by omega) (Nat.le_of_ble_eq_true rfl) (Nat.zero_le _) (Nat.zero_le _) ?_
            refine f_aload_n dX3_goOn_98 rfl rfl ?_
            refine f_iload dX3_goOn_99 rfl ?_
            refine f_cV hG (As := [_]) dX3_goOn_101 rfl k_X10_at rfl rfl ml_X3_41 im_X10_at se_X10_at hw.1 rfl (c_X10_at hG (d := 1) (Nat.le_refl _) _ _ _ _ _ hw hnw) (by omega) (Nat.le_of_ble_eq_true rfl) (Nat.zero_le _) (Nat.zero_le _) ?_
            refine f_icmp_eq (tgt := 157) dX3_goOn_104 (by decide) (fun c_104 => ?_) (fun c_104 => ?_)
            · refine f_aload_n dX3_goOn_157 rfl rfl ?_
              refine f_iload dX3_goOn_158 rfl ?_
              refine f_iload dX3_goOn_160 rfl ?_
              refine f_cV hG (As := [_, _]) dX3_goOn_162 rfl k_X7_set rfl rfl ml_X3_33 im_X7_set se_X7_set hf.1 rfl (c_X7_set hG (Nat.le_refl _) _ _ _ _ hf hnf _ _) (by omega) (Nat.le_of_ble_eq_true rfl) (Nat.zero_le _) (Nat.zero_le _) ?_
              refine f_iload dX3_goOn_165 rfl ?_
              refine f_ireturn dX3_goOn_167 rfl rfl ?_
              exact ⟨by rw [sp_X3_goOn, if_neg c_19, if_neg c_24, if_pos c_31, if_pos c_64, if_pos c_104], by rw [sp_X3_goOn, if_neg c_19, if_neg c_24, if_pos c_31, if_pos c_64, if_pos c_104]⟩
            · refine f_aload_n dX3_goOn_107 rfl rfl ?_
              refine f_aload_n dX3_goOn_108 rfl rfl ?_
              refine f_aload_n dX3_goOn_109 rfl rfl ?_
              refine f_iload_n dX3_goOn_110 rfl rfl ?_
              refine f_iconst (v := 1) dX3_goOn_111 rfl ?_
              refine f_iadd dX3_goOn_112 ?_
              refine f_iload dX3_goOn_113 rfl ?_
              refine f_iload dX3_goOn_115 rfl ?_
              refine f_iconst (v := 1) dX3_goOn_117 rfl ?_
              refine f_iadd dX3_goOn_118 ?_
              rw [nI_1]
              refine f_cS hG (As := [_, _, _, _, _, _]) dX3_goOn_119 rfl k_X3_goOn rfl rfl ml_X3_54 sm_X3_goOn ((ih (d := 2 + m) (by omega) _ _ _ _ (by omega) (by omega))) (by omega) (Nat.le_of_ble_eq_true rfl) (Nat.zero_le _) (Nat.zero_le _) ?_
              refine f_istore (ls' := [_, _, _, _, _, _, _, _, _, _, _, _]) dX3_goOn_122 (Nat.le_of_ble_eq_true rfl) rfl rfl ?_
              refine f_aload_n dX3_goOn_124 rfl rfl ?_
              refine f_aload_n dX3_goOn_125 rfl rfl ?_
              refine f_aload_n dX3_goOn_126 rfl rfl ?_
              refine f_iload_n dX3_goOn_127 rfl rfl ?_
              refine f_iload dX3_goOn_128 rfl ?_
              refine f_iconst (v := 1) dX3_goOn_130 rfl ?_
              refine f_iadd dX3_goOn_131 ?_
              refine f_iload dX3_goOn_132 rfl ?_
              refine f_iconst (v := 1) dX3_goOn_134 rfl ?_
              refine f_iadd dX3_goOn_135 ?_
              rw [nI_1]
              refine f_cS hG (As := [_, _, _, _, _, _]) dX3_goOn_136 rfl k_X3_goOn rfl rfl ml_X3_54 sm_X3_goOn ((ih (d := 2 + m) (by omega) _ _ _ _ (by omega) (by omega))) (by omega) (Nat.le_of_ble_eq_true rfl) (Nat.zero_le _) (Nat.zero_le _) ?_
              refine f_istore (ls' := [_, _, _, _, _, _, _, _, _, _, _, _]) dX3_goOn_139 (Nat.le_of_ble_eq_true rfl) rfl rfl ?_
              refine f_iload dX3_goOn_141 rfl ?_
              refine f_iload dX3_goOn_143 rfl ?_
              refine f_iload dX3_goOn_145 rfl ?_
              refine f_mmin hG dX3_goOn_147 mj_X3_45 mj_min (Nat.le_of_ble_eq_true rfl) ?_
              refine f_mmin hG dX3_goOn_150 mj_X3_45 mj_min (Nat.le_of_ble_eq_true rfl) ?_
              refine f_iconst (v := 1) dX3_goOn_153 rfl ?_
              refine f_iadd dX3_goOn_154 ?_
              refine f_istore (ls' := [_, _, _, _, _, _, _, _, _, _, _, _]) dX3_goOn_155 (Nat.le_of_ble_eq_true rfl) rfl rfl ?_
              refine f_aload_n dX3_goOn_157 rfl rfl ?_
              refine f_iload dX3_goOn_158 rfl ?_
              refine f_iload dX3_goOn_160 rfl ?_
              refine f_cV hG (As := [_, _]) dX3_goOn_162 rfl k_X7_set rfl rfl ml_X3_33 im_X7_set se_X7_set hf.1 rfl (c_X7_set hG (Nat.le_refl _) _ _ _ _ hf hnf _ _) (by omega) (Nat.le_of_ble_eq_true rfl) (Nat.zero_le _) (Nat.zero_le _) ?_
              refine f_iload dX3_goOn_165 rfl ?_
              refine f_ireturn dX3_goOn_167 rfl rfl ?_
              exact ⟨by rw [sp_X3_goOn, if_neg c_19, if_neg c_24, if_pos c_31, if_pos c_64, if_neg c_104], by rw [sp_X3_goOn, if_neg c_19, if_neg c_24, if_pos c_31, if_pos c_64, if_neg c_104]⟩
          · refine f_aload_n dX3_goOn_67 rfl rfl ?_
            refine f_iload dX3_goOn_68 rfl ?_
            refine f_cV hG (As := [_]) dX3_goOn_70 rfl k_X7_get rfl rfl ml_X3_37 im_X7_get se_X7_get hf.1 rfl (c_X7_get hG (Nat.le_refl _) _ _ _ _ hf hnf _) (by omega) (Nat.le_of_ble_eq_true rfl) (Nat.zero_le _) (Nat.zero_le _) ?_
            refine f_ireturn dX3_goOn_73 rfl rfl ?_
            exact ⟨by rw [sp_X3_goOn, if_neg c_19, if_neg c_24, if_pos c_31, if_neg c_64], by rw [sp_X3_goOn, if_neg c_19, if_neg c_24, if_pos c_31, if_neg c_64]⟩
        · refine f_iload dX3_goOn_34 rfl ?_
          refine f_iconst (v := 0) dX3_goOn_36 rfl ?_
          refine f_mmax hG dX3_goOn_37 mj_X3_58 mj_max (Nat.le_of_ble_eq_true rfl) ?_
          refine f_iload dX3_goOn_40 rfl ?_
          refine f_iconst (v := 0) dX3_goOn_42 rfl ?_
          refine f_mmax hG dX3_goOn_43 mj_X3_58 mj_max (Nat.le_of_ble_eq_true rfl) ?_
          refine f_iadd dX3_goOn_46 ?_
          refine f_ireturn dX3_goOn_47 rfl rfl ?_
          exact ⟨by rw [sp_X3_goOn, if_neg c_19, if_neg c_24, if_neg c_31], by rw [sp_X3_goOn, if_neg c_19, if_neg c_24, if_neg c_31]⟩

def r_X3_byLetters (M : fM) (t : Nat) (n : Nat) (w : Nat) (q : Nat) : Int32 := (sp_X3_goOn 287 91 t n w q 20 (rall M 287 91 (-1 : Int32)) (0 : Int32) (0 : Int32) 0).1
def m_X3_byLetters (M : fM) (t : Nat) (n : Nat) (w : Nat) (q : Nat) : fM := (sp_X3_goOn 287 91 t n w q 20 (rall M 287 91 (-1 : Int32)) (0 : Int32) (0 : Int32) 0).2
set_option maxRecDepth 100000 in
set_option maxHeartbeats 4000000 in
theorem c_X3_byLetters {G : fG} (hG : fOK G) {d : Nat} (hd : 23 ≤ d) (M : fM) (dv : UInt64) (t : Nat) (n : Nat) (w : Nat) (q : Nat) (ht : rText t n) (hnt : n < 2147483648) (hw : rText w q) (hnw : q < 2147483648) : fCt G z_X3_byLetters d [.ref 284, .ref t, .ref w] (sS M dv) 0 0 (fD (some (.int (r_X3_byLetters M t n w q))) (sS (m_X3_byLetters M t n w q) dv)) := by
  refine fCt_to [some (.ref 284), some (.ref t), some (.ref w)] k_X3_byLetters rfl (Nat.le_of_ble_eq_true rfl) rfl ?_
  refine f_aload_n dX3_byLetters_0 rfl rfl ?_
  refine s_getr hG fl_X3_20 dX3_byLetters_1 rfl rfl ?_
  refine f_iconst (v := (-1)) dX3_byLetters_4 rfl ?_
  refine f_cV hG (As := [_]) dX3_byLetters_5 rfl k_X7_setAll rfl rfl ml_X3_51 im_X7_setAll se_X7_setAll rR_287.1 rfl (c_X7_setAll hG (Nat.le_refl _) _ _ _ _ rR_287 (by decide) _) (by omega) (Nat.le_of_ble_eq_true rfl) (Nat.zero_le _) (Nat.zero_le _) ?_
  refine f_aload_n dX3_byLetters_8 rfl rfl ?_
  refine s_getr hG fl_X3_20 dX3_byLetters_9 rfl rfl ?_
  refine f_aload_n dX3_byLetters_12 rfl rfl ?_
  refine f_aload_n dX3_byLetters_13 rfl rfl ?_
  refine f_iconst (v := 0) dX3_byLetters_14 rfl ?_
  refine f_iconst (v := 0) dX3_byLetters_15 rfl ?_
  refine f_iconst (v := 0) dX3_byLetters_16 rfl ?_
  refine f_cS hG (As := [_, _, _, _, _, _]) dX3_byLetters_17 rfl k_X3_goOn rfl rfl ml_X3_54 sm_X3_goOn (c_X3_goOn hG _ _ _ _ _ _ _ rR_287 (by decide) ht hnt hw hnw 20 (d := 22) (by omega) _ _ _ 0 (by omega) (by omega)) (by omega) (Nat.le_of_ble_eq_true rfl) (Nat.zero_le _) (Nat.zero_le _) ?_
  refine f_ireturn dX3_byLetters_20 rfl rfl ?_
  exact ⟨by rw [r_X3_byLetters], by rw [m_X3_byLetters]⟩
