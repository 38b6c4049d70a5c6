/-! ===== Crates ===== -/
def l_X2_findFor (a : Int32) (k : Nat) (c : Int32) (M : fM) : Nat → Nat → Int32 → Int32 → fM
  | 0, _, _, _ => M
  | m + 1, j, v4, v5 => (if (M k 6) ≤ (nI j) then (rset (rset M 290 256 a v4) 292 256 a v5) else (if (r_X11_setHas M a (nI j)) = 0 then (l_X2_findFor a k c M m (j + 1) v4 v5) else (if c < ((rget M 292 256 (a - ((1 : Int32) <<< ((nI j) &&& 31)))) + (rget M (k + 9) 8 (nI j))) then (if ((rget M 290 256 (a - ((1 : Int32) <<< ((nI j) &&& 31)))) + (1 : Int32)) < v4 then (l_X2_findFor a k c M m (j + 1) ((rget M 290 256 (a - ((1 : Int32) <<< ((nI j) &&& 31)))) + (1 : Int32)) (rget M (k + 9) 8 (nI j))) else (if ((rget M 290 256 (a - ((1 : Int32) <<< ((nI j) &&& 31)))) + (1 : Int32)) = v4 then (if v5 ≤ (rget M (k + 9) 8 (nI j)) then (l_X2_findFor a k c M m (j + 1) v4 v5) else (l_X2_findFor a k c M m (j + 1) ((rget M 290 256 (a - ((1 : Int32) <<< ((nI j) &&& 31)))) + (1 : Int32)) (rget M (k + 9) 8 (nI j)))) else (l_X2_findFor a k c M m (j + 1) v4 v5))) else (if (rget M 290 256 (a - ((1 : Int32) <<< ((nI j) &&& 31)))) < v4 then (l_X2_findFor a k c M m (j + 1) (rget M 290 256 (a - ((1 : Int32) <<< ((nI j) &&& 31)))) ((rget M 292 256 (a - ((1 : Int32) <<< ((nI j) &&& 31)))) + (rget M (k + 9) 8 (nI j)))) else (if (rget M 290 256 (a - ((1 : Int32) <<< ((nI j) &&& 31)))) = v4 then (if v5 ≤ ((rget M 292 256 (a - ((1 : Int32) <<< ((nI j) &&& 31)))) + (rget M (k + 9) 8 (nI j))) then (l_X2_findFor a k c M m (j + 1) v4 v5) else (l_X2_findFor a k c M m (j + 1) (rget M 290 256 (a - ((1 : Int32) <<< ((nI j) &&& 31)))) ((rget M 292 256 (a - ((1 : Int32) <<< ((nI j) &&& 31)))) + (rget M (k + 9) 8 (nI j))))) else (l_X2_findFor a k c M m (j + 1) v4 v5))))))
set_option maxRecDepth 100000 in
set_option maxHeartbeats 4000000 in
theorem lp_X2_findFor {G : fG} (hG : fOK G) {d : Nat} (hd : 1 ≤ d) (M : fM) (dv : UInt64) (a : Int32) (k : Nat) (c : Int32) (hk : rLots k) (N : Nat) (hN : (M k 6) = nI N) (hN2 : N < 300) : ∀ (m j : Nat) (v4 : Int32) (v5 : Int32), j ≤ N → N + 1 ≤ j + m → fV G z_X2_findFor d (fD none (sS (l_X2_findFor a k c M m j v4 v5) dv)) 10 [some (.ref 289), some (.int a), some (.ref k), some (.int c), some (.int v4), some (.int v5), some (.int (nI j)), none, none, none, none, none] [] (sS M dv) 0 0 := by
  intro m
  induction m with
  | zero => intros; omega
  | succ m ih =>
    intro j v4 v5 hj hm
    refine f_iload dX2_findFor_10 rfl ?_
    refine f_aload_n dX2_findFor_12 rfl rfl ?_
    refine s_geti hG fl_X2_26 dX2_findFor_13 hk.1 rfl ?_
    refine f_icmp_ge (tgt := 159) dX2_findFor_16 (by decide) (fun c_16 => ?_) (fun c_16 => ?_)
    · refine f_aload_n dX2_findFor_159 rfl rfl ?_
      refine s_getr hG fl_X2_14 dX2_findFor_160 rfl rfl ?_
      refine f_iload_n dX2_findFor_163 rfl rfl ?_
      refine f_iload dX2_findFor_164 rfl ?_
      refine f_cV hG (As := [_, _]) dX2_findFor_166 rfl k_X7_set rfl rfl ml_X2_32 im_X7_set se_X7_set rR_290.1 rfl (c_X7_set hG (Nat.le_refl _) _ _ _ _ rR_290 (by decide) _ _) (by omega) (Nat.le_of_ble_eq_true rfl) (Nat.zero_le _) (Nat.zero_le _) ?_
      refine f_aload_n dX2_findFor_169 rfl rfl ?_
      refine s_getr hG fl_X2_20 dX2_findFor_170 rfl rfl ?_
      refine f_iload_n dX2_findFor_173 rfl rfl ?_
      refine f_iload dX2_findFor_174 rfl ?_
      refine f_cV hG (As := [_, _]) dX2_findFor_176 rfl k_X7_set rfl rfl ml_X2_32 im_X7_set se_X7_set rR_292.1 rfl (c_X7_set hG (Nat.le_refl _) _ _ _ _ rR_292 (by decide) _ _) (by omega) (Nat.le_of_ble_eq_true rfl) (Nat.zero_le _) (Nat.zero_le _) ?_
      refine f_return dX2_findFor_179 rfl ?_
      exact ⟨rfl, by rw [l_X2_findFor, if_pos c_16]⟩
    · have hlt : j < N := nlt hN c_16 hj (by omega)
      refine f_iload_n dX2_findFor_19 rfl rfl ?_
      refine f_iload dX2_findFor_20 rfl ?_
      refine f_cSN hG (As := [_, _]) dX2_findFor_22 rfl k_X11_setHas rfl rfl ml_X2_44 sm_X11_setHas (c_X11_setHas hG (d := 0) (Nat.le_refl _) _ _ _ _) (by omega) (Nat.le_of_ble_eq_true rfl) (Nat.zero_le _) (Nat.zero_le _) ?_
      refine f_if_eq (tgt := 153) dX2_findFor_25 (by decide) (fun c_25 => ?_) (fun c_25 => ?_)
      · refine f_iinc (v := nI (j + 1)) (ls' := [_, _, _, _, _, _, _, _, _, _, _, _]) dX2_findFor_153 rfl (nI_1 j) (Nat.le_of_ble_eq_true rfl) rfl rfl ?_
        refine f_goto (tgt := 10) dX2_findFor_156 (by decide) ?_
        have e9 : l_X2_findFor a k c M (m + 1) j v4 v5 = l_X2_findFor a k c M m (j + 1) v4 v5 := by rw [l_X2_findFor, if_neg c_16, if_pos c_25]
        rw [e9]
        refine f_drop 7 ?_
        refine f_drop 8 ?_
        refine f_drop 9 ?_
        refine f_drop 10 ?_
        refine f_drop 11 ?_
        exact ih (j + 1) v4 v5 (by omega) (by omega)
      · refine f_iload_n dX2_findFor_28 rfl rfl ?_
        refine f_iconst (v := 1) dX2_findFor_29 rfl ?_
        refine f_iload dX2_findFor_30 rfl ?_
        refine f_ishl dX2_findFor_32 ?_
        refine f_isub dX2_findFor_33 ?_
        refine f_istore (ls' := [_, _, _, _, _, _, _, _, _, _, _, _]) dX2_findFor_34 (Nat.le_of_ble_eq_true rfl) rfl rfl ?_
        refine f_aload_n dX2_findFor_36 rfl rfl ?_
        refine s_getr hG fl_X2_48 dX2_findFor_37 hk.1 rfl ?_
        refine f_iload dX2_findFor_40 rfl ?_
        refine f_cV hG (As := [_]) dX2_findFor_42 rfl k_X7_get rfl rfl ml_X2_40 im_X7_get se_X7_get hk.2.2.2.2.2.1.1 rfl (c_X7_get hG (Nat.le_refl _) _ _ _ _ hk.2.2.2.2.2.1 (by decide) _) (by omega) (Nat.le_of_ble_eq_true rfl) (Nat.zero_le _) (Nat.zero_le _) ?_
        refine f_istore (ls' := [_, _, _, _, _, _, _, _, _, _, _, _]) dX2_findFor_45 (Nat.le_of_ble_eq_true rfl) rfl rfl ?_
        refine f_aload_n dX2_findFor_47 rfl rfl ?_
        refine s_getr hG fl_X2_20 dX2_findFor_48 rfl rfl ?_
        refine f_iload dX2_findFor_51 rfl ?_
        refine f_cV hG (As := [_]) dX2_findFor_53 rfl k_X7_get rfl rfl ml_X2_40 im_X7_get se_X7_get rR_292.1 rfl (c_X7_get hG (Nat.le_refl _) _ _ _ _ rR_292 (by decide) _) (by omega) (Nat.le_of_ble_eq_true rfl) (Nat.zero_le _) (Nat.zero_le _) ?_
        refine f_iload dX2_findFor_56 rfl ?_
        refine f_iadd dX2_findFor_58 ?_
        refine f_iload_n dX2_findFor_59 rfl rfl ?_
        refine f_icmp_gt (tgt := 67) dX2_findFor_60 (by decide) (fun c_60 => ?_) (fun c_60 => ?_)
        · refine f_iconst (v := 0) dX2_findFor_67 rfl ?_
          refine f_istore (ls' := [_, _, _, _, _, _, _, _, _, _, _, _]) dX2_findFor_68 (Nat.le_of_ble_eq_true rfl) rfl rfl ?_
          refine f_iload dX2_findFor_70 rfl ?_
          refine f_if_eq (tgt := 87) dX2_findFor_72 (by decide) (fun c_72 => ?_) (fun c_72 => absurd c_72 (by decide))
          refine f_aload_n dX2_findFor_87 rfl rfl ?_
          refine s_getr hG fl_X2_14 dX2_findFor_88 rfl rfl ?_
          refine f_iload dX2_findFor_91 rfl ?_
          refine f_cV hG (As := [_]) dX2_findFor_93 rfl k_X7_get rfl rfl ml_X2_40 im_X7_get se_X7_get rR_290.1 rfl (c_X7_get hG (Nat.le_refl _) _ _ _ _ rR_290 (by decide) _) (by omega) (Nat.le_of_ble_eq_true rfl) (Nat.zero_le _) (Nat.zero_le _) ?_
          refine f_iconst (v := 1) dX2_findFor_96 rfl ?_
          refine f_iadd dX2_findFor_97 ?_
          refine f_istore (ls' := [_, _, _, _, _, _, _, _, _, _, _, _]) dX2_findFor_98 (Nat.le_of_ble_eq_true rfl) rfl rfl ?_
          refine f_iload dX2_findFor_100 rfl ?_
          refine f_if_eq (tgt := 120) dX2_findFor_102 (by decide) (fun c_102 => ?_) (fun c_102 => absurd c_102 (by decide))
          refine f_iload dX2_findFor_120 rfl ?_
          refine f_istore (ls' := [_, _, _, _, _, _, _, _, _, _, _, _]) dX2_findFor_122 (Nat.le_of_ble_eq_true rfl) rfl rfl ?_
          refine f_iload dX2_findFor_124 rfl ?_
          refine f_iload dX2_findFor_126 rfl ?_
          refine f_icmp_lt (tgt := 145) dX2_findFor_128 (by decide) (fun c_128 => ?_) (fun c_128 => ?_)
          · refine f_iload dX2_findFor_145 rfl ?_
            refine f_istore (ls' := [_, _, _, _, _, _, _, _, _, _, _, _]) dX2_findFor_147 (Nat.le_of_ble_eq_true rfl) rfl rfl ?_
            refine f_iload dX2_findFor_149 rfl ?_
            refine f_istore (ls' := [_, _, _, _, _, _, _, _, _, _, _, _]) dX2_findFor_151 (Nat.le_of_ble_eq_true rfl) rfl rfl ?_
            refine f_iinc (v := nI (j + 1)) (ls' := [_, _, _, _, _, _, _, _, _, _, _, _]) dX2_findFor_153 rfl (nI_1 j) (Nat.le_of_ble_eq_true rfl) rfl rfl ?_
            refine f_goto (tgt := 10) dX2_findFor_156 (by decide) ?_
            have e9 : l_X2_findFor a k c M (m + 1) j v4 v5 = l_X2_findFor a k c M m (j + 1) ((rget M 290 256 (a - ((1 : Int32) <<< ((nI j) &&& 31)))) + (1 : Int32)) (rget M (k + 9) 8 (nI j)) := by rw [l_X2_findFor, if_neg c_16, if_neg c_25, if_pos c_60, if_pos c_128]
            rw [e9]
            refine f_drop 7 ?_
            refine f_drop 8 ?_
            refine f_drop 9 ?_
            refine f_drop 10 ?_
            refine f_drop 11 ?_
            exact ih (j + 1) ((rget M 290 256 (a - ((1 : Int32) <<< ((nI j) &&& 31)))) + (1 : Int32)) (rget M (k + 9) 8 (nI j)) (by omega) (by omega)
          · refine f_iload dX2_findFor_131 rfl ?_
            refine f_iload dX2_findFor_133 rfl ?_
            refine f_icmp_ne (tgt := 153) dX2_findFor_135 (by decide) (fun c_135 => ?_) (fun c_135 => ?_)
            · refine f_iinc (v := nI (j + 1)) (ls' := [_, _, _, _, _, _, _, _, _, _, _, _]) dX2_findFor_153 rfl (nI_1 j) (Nat.le_of_ble_eq_true rfl) rfl rfl ?_
              refine f_goto (tgt := 10) dX2_findFor_156 (by decide) ?_
              have e9 : l_X2_findFor a k c M (m + 1) j v4 v5 = l_X2_findFor a k c M m (j + 1) v4 v5 := by rw [l_X2_findFor, if_neg c_16, if_neg c_25, if_pos c_60, if_neg c_128, if_neg c_135]
              rw [e9]
              refine f_drop 7 ?_
              refine f_drop 8 ?_
              refine f_drop 9 ?_
              refine f_drop 10 ?_
              refine f_drop 11 ?_
              exact ih (j + 1) v4 v5 (by omega) (by omega)
            · refine f_iload dX2_findFor_138 rfl ?_
              refine f_iload dX2_findFor_140 rfl ?_
              refine f_icmp_ge (tgt := 153) dX2_findFor_142 (by decide) (fun c_142 => ?_) (fun c_142 => ?_)
              · refine f_iinc (v := nI (j + 1)) (ls' := [_, _, _, _, _, _, _, _, _, _, _, _]) dX2_findFor_153 rfl (nI_1 j) (Nat.le_of_ble_eq_true rfl) rfl rfl ?_
                refine f_goto (tgt := 10) dX2_findFor_156 (by decide) ?_
                have e9 : l_X2_findFor a k c M (m + 1) j v4 v5 = l_X2_findFor a k c M m (j + 1) v4 v5 := by rw [l_X2_findFor, if_neg c_16, if_neg c_25, if_pos c_60, if_neg c_128, if_pos c_135, if_pos c_142]
                rw [e9]
                refine f_drop 7 ?_
                refine f_drop 8 ?_
                refine f_drop 9 ?_
                refine f_drop 10 ?_
                refine f_drop 11 ?_
                exact ih (j + 1) v4 v5 (by omega) (by omega)
              · refine f_iload dX2_findFor_145 rfl ?_
                refine f_istore (ls' := [_, _, _, _, _, _, _, _, _, _, _, _]) dX2_findFor_147 (Nat.le_of_ble_eq_true rfl) rfl rfl ?_
                refine f_iload dX2_findFor_149 rfl ?_
                refine f_istore (ls' := [_, _, _, _, _, _, _, _, _, _, _, _]) dX2_findFor_151 (Nat.le_of_ble_eq_true rfl) rfl rfl ?_
                refine f_iinc (v := nI (j + 1)) (ls' := [_, _, _, _, _, _, _, _, _, _, _, _]) dX2_findFor_153 rfl (nI_1 j) (Nat.le_of_ble_eq_true rfl) rfl rfl ?_
                refine f_goto (tgt := 10) dX2_findFor_156 (by decide) ?_
                have e9 : l_X2_findFor a k c M (m + 1) j v4 v5 = l_X2_findFor a k c M m (j + 1) ((rget M 290 256 (a - ((1 : Int32) <<< ((nI j) &&& 31)))) + (1 : Int32)) (rget M (k + 9) 8 (nI j)) := by rw [l_X2_findFor, if_neg c_16, if_neg c_25, if_pos c_60, if_neg c_128, if_pos c_135, if_neg c_142]
                rw [e9]
                refine f_drop 7 ?_
                refine f_drop 8 ?_
                refine f_drop 9 ?_
                refine f_drop 10 ?_
                refine f_drop 11 ?_
                exact ih (j + 1) ((rget M 290 256 (a - ((1 : Int32) <<< ((nI j) &&& 31)))) + (1 : Int32)) (rget M (k + 9) 8 (nI j)) (by omega) (by omega)
        · refine f_iconst (v := 1) dX2_findFor_63 rfl ?_
          refine f_goto (tgt := 68) dX2_findFor_64 (by decide) ?_
          refine f_istore (ls' := [_, _, _, _, _, _, _, _, _, _, _, _]) dX2_findFor_68 (Nat.le_of_ble_eq_true rfl) rfl rfl ?_
          refine f_iload dX2_findFor_70 rfl ?_
          refine f_if_eq (tgt := 87) dX2_findFor_72 (by decide) (fun c_72 => absurd c_72 (by decide)) (fun c_72 => ?_)
          refine f_aload_n dX2_findFor_75 rfl rfl ?_
          refine s_getr hG fl_X2_14 dX2_findFor_76 rfl rfl ?_
          refine f_iload dX2_findFor_79 rfl ?_
          refine f_cV hG (As := [_]) dX2_findFor_81 rfl k_X7_get rfl rfl ml_X2_40 im_X7_get se_X7_get rR_290.1 rfl (c_X7_get hG (Nat.le_refl _) _ _ _ _ rR_290 (by decide) _) (by omega) (Nat.le_of_ble_eq_true rfl) (Nat.zero_le _) (Nat.zero_le _) ?_
          refine f_goto (tgt := 98) dX2_findFor_84 (by decide) ?_
          refine f_istore (ls' := [_, _, _, _, _, _, _, _, _, _, _, _]) dX2_findFor_98 (Nat.le_of_ble_eq_true rfl) rfl rfl ?_
          refine f_iload dX2_findFor_100 rfl ?_
          refine f_if_eq (tgt := 120) dX2_findFor_102 (by decide) (fun c_102 => absurd c_102 (by decide)) (fun c_102 => ?_)
          refine f_aload_n dX2_findFor_105 rfl rfl ?_
          refine s_getr hG fl_X2_20 dX2_findFor_106 rfl rfl ?_
          refine f_iload dX2_findFor_109 rfl ?_
          refine f_cV hG (As := [_]) dX2_findFor_111 rfl k_X7_get rfl rfl ml_X2_40 im_X7_get se_X7_get rR_292.1 rfl (c_X7_get hG (Nat.le_refl _) _ _ _ _ rR_292 (by decide) _) (by omega) (Nat.le_of_ble_eq_true rfl) (Nat.zero_le _) (Nat.zero_le _) ?_
          refine f_iload dX2_findFor_114 rfl ?_
          refine f_iadd dX2_findFor_116 ?_
          refine f_goto (tgt := 122) dX2_findFor_117 (by decide) ?_
          refine f_istore (ls' := [_, _, _, _, _, _, _, _, _, _, _, _]) dX2_findFor_122 (Nat.le_of_ble_eq_true rfl) rfl rfl ?_
          refine f_iload dX2_findFor_124 rfl ?_
          refine f_iload dX2_findFor_126 rfl ?_
          refine f_icmp_lt (tgt := 145) dX2_findFor_128 (by decide) (fun c_128 => ?_) (fun c_128 => ?_)
          · refine f_iload dX2_findFor_145 rfl ?_
            refine f_istore (ls' := [_, _, _, _, _, _, _, _, _, _, _, _]) dX2_findFor_147 (Nat.le_of_ble_eq_true rfl) rfl rfl ?_
            refine f_iload dX2_findFor_149 rfl ?_
            refine f_istore (ls' := [_, _, _, _, _, _, _, _, _, _, _, _]) dX2_findFor_151 (Nat.le_of_ble_eq_true rfl) rfl rfl ?_
            refine f_iinc (v := nI (j + 1)) (ls' := [_, _, _, _, _, _, _, _, _, _, _, _]) dX2_findFor_153 rfl (nI_1 j) (Nat.le_of_ble_eq_true rfl) rfl rfl ?_
            refine f_goto (tgt := 10) dX2_findFor_156 (by decide) ?_
            have e9 : l_X2_findFor a k c M (m + 1) j v4 v5 = l_X2_findFor a k c M m (j + 1) (rget M 290 256 (a - ((1 : Int32) <<< ((nI j) &&& 31)))) ((rget M 292 256 (a - ((1 : Int32) <<< ((nI j) &&& 31)))) + (rget M (k + 9) 8 (nI j))) := by rw [l_X2_findFor, if_neg c_16, if_neg c_25, if_neg c_60, if_pos c_128]
            rw [e9]
            refine f_drop 7 ?_
            refine f_drop 8 ?_
            refine f_drop 9 ?_
            refine f_drop 10 ?_
            refine f_drop 11 ?_
            exact ih (j + 1) (rget M 290 256 (a - ((1 : Int32) <<< ((nI j) &&& 31)))) ((rget M 292 256 (a - ((1 : Int32) <<< ((nI j) &&& 31)))) + (rget M (k + 9) 8 (nI j))) (by omega) (by omega)
          · refine f_iload dX2_findFor_131 rfl ?_
            refine f_iload dX2_findFor_133 rfl ?_
            refine f_icmp_ne (tgt := 153) dX2_findFor_135 (by decide) (fun c_135 => ?_) (fun c_135 => ?_)
            · refine f_iinc (v := nI (j + 1)) (ls' := [_, _, _, _, _, _, _, _, _, _, _, _]) dX2_findFor_153 rfl (nI_1 j) (Nat.le_of_ble_eq_true rfl) rfl rfl ?_
              refine f_goto (tgt := 10) dX2_findFor_156 (by decide) ?_
              have e9 : l_X2_findFor a k c M (m + 1) j v4 v5 = l_X2_findFor a k c M m (j + 1) v4 v5 := by rw [l_X2_findFor, if_neg c_16, if_neg c_25, if_neg c_60, if_neg c_128, if_neg c_135]
              rw [e9]
              refine f_drop 7 ?_
              refine f_drop 8 ?_
              refine f_drop 9 ?_
              refine f_drop 10 ?_
              refine f_drop 11 ?_
              exact ih (j + 1) v4 v5 (by omega) (by omega)
            · refine f_iload dX2_findFor_138 rfl ?_
              refine f_iload dX2_findFor_140 rfl ?_
              refine f_icmp_ge (tgt := 153) dX2_findFor_142 (by decide) (fun c_142 => ?_) (fun c_142 => ?_)
              · refine f_iinc (v := nI (j + 1)) (ls' := [_, _, _, _, _, _, _, _, _, _, _, _]) dX2_findFor_153 rfl (nI_1 j) (Nat.le_of_ble_eq_true rfl) rfl rfl ?_
                refine f_goto (tgt := 10) dX2_findFor_156 (by decide) ?_
                have e9 : l_X2_findFor a k c M (m + 1) j v4 v5 = l_X2_findFor a k c M m (j + 1) v4 v5 := by rw [l_X2_findFor, if_neg c_16, if_neg c_25, if_neg c_60, if_neg c_128, if_pos c_135, if_pos c_142]
                rw [e9]
                refine f_drop 7 ?_
                refine f_drop 8 ?_
                refine f_drop 9 ?_
                refine f_drop 10 ?_
                refine f_drop 11 ?_
                exact ih (j + 1) v4 v5 (by omega) (by omega)
              · refine f_iload dX2_findFor_145 rfl ?_
                refine f_istore (ls' := [_, _, _, _, _, _, _, _, _, _, _, _]) dX2_findFor_147 (Nat.le_of_ble_eq_true rfl) rfl rfl ?_
                refine f_iload dX2_findFor_149 rfl ?_
                refine f_istore (ls' := [_, _, _, _, _, _, _, _, _, _, _, _]) dX2_findFor_151 (Nat.le_of_ble_eq_true rfl) rfl rfl ?_
                refine f_iinc (v := nI (j + 1)) (ls' := [_, _, _, _, _, _, _, _, _, _, _, _]) dX2_findFor_153 rfl (nI_1 j) (Nat.le_of_ble_eq_true rfl) rfl rfl ?_
                refine f_goto (tgt := 10) dX2_findFor_156 (by decide) ?_
                have e9 : l_X2_findFor a k c M (m + 1) j v4 v5 = l_X2_findFor a k c M m (j + 1) (rget M 290 256 (a - ((1 : Int32) <<< ((nI j) &&& 31)))) ((rget M 292 256 (a - ((1 : Int32) <<< ((nI j) &&& 31)))) + (rget M (k + 9) 8 (nI j))) := by rw [l_X2_findFor, if_neg c_16, if_neg c_25, if_neg c_60, if_neg c_128, if_pos c_135, if_neg c_142]
                rw [e9]
                refine f_drop 7 ?_
                refine f_drop 8 ?_
                refine f_drop 9 ?_
                refine f_drop 10 ?_
                refine f_drop 11 ?_
                exact ih (j + 1) (rget M 290 256 (a - ((1 : Int32) <<< ((nI j) &&& 31)))) ((rget M 292 256 (a - ((1 : Int32) <<< ((nI j) &&& 31)))) + (rget M (k + 9) 8 (nI j))) (by omega) (by omega)
def m_X2_findFor (M : fM) (a : Int32) (k : Nat) (c : Int32) : fM := (l_X2_findFor a k c M 301 0 (9 : Int32) (0 : Int32))
set_option maxRecDepth 100000 in
set_option maxHeartbeats 4000000 in
theorem c_X2_findFor {G : fG} (hG : fOK G) {d : Nat} (hd : 1 ≤ d) (M : fM) (dv : UInt64) (a : Int32) (k : Nat) (c : Int32) (hk : rLots k) (N : Nat) (hN : (M k 6) = nI N) (hN2 : N < 300) : fCt G z_X2_findFor d [.ref 289, .int a, .ref k, .int c] (sS M dv) 0 0 (fD none (sS (m_X2_findFor M a k c) dv)) := by
  refine fCt_to [some (.ref 289), some (.int a), some (.ref k), some (.int c), none, none, none, none, none, none, none, none] k_X2_findFor rfl (Nat.le_of_ble_eq_true rfl) rfl ?_
  refine f_bipush (v := 9) dX2_findFor_0 (by decide) ?_
  refine f_istore (ls' := [_, _, _, _, _, _, _, _, _, _, _, _]) dX2_findFor_2 (Nat.le_of_ble_eq_true rfl) rfl rfl ?_
  refine f_iconst (v := 0) dX2_findFor_4 rfl ?_
  refine f_istore (ls' := [_, _, _, _, _, _, _, _, _, _, _, _]) dX2_findFor_5 (Nat.le_of_ble_eq_true rfl) rfl rfl ?_
  refine f_iconst (v := 0) dX2_findFor_7 rfl ?_
  refine f_istore (ls' := [_, _, _, _, _, _, _, _, _, _, _, _]) dX2_findFor_8 (Nat.le_of_ble_eq_true rfl) rfl rfl ?_
  exact lp_X2_findFor hG hd _ dv a k c hk N hN hN2 301 0 _ _ (by omega) (by omega)

theorem m_X2_findFor_ne {M : fM} {a c : Int32} {k x : Nat} (h1 : x ≠ 291) (h2 : x ≠ 293) : m_X2_findFor M a k c x = M x := by
  have hl : ∀ (m j : Nat) (v4 v5 : Int32), (l_X2_findFor a k c M m j v4 v5) x = M x := by
    intro m
    induction m with
    | zero => intros; rfl
    | succ m ih =>
      intro j v4 v5
      rw [l_X2_findFor]
      repeat' split
      all_goals first | exact ih _ _ _ | (rw [rset_ne h2, rset_ne h1])
  exact hl _ _ _ _
def l_X2_leastBySets (k : Nat) (c : Int32) : fM → Nat → Nat → Int32 → Int32 × fM
  | M, 0, _, _ => (0, M)
  | M, m + 1, j, v3 => (if v3 < (nI j) then ((rget M 290 256 v3), M) else (l_X2_leastBySets k c (m_X2_findFor M (nI j) k c) m (j + 1) v3))
set_option maxRecDepth 100000 in
set_option maxHeartbeats 4000000 in
theorem lp_X2_leastBySets {G : fG} (hG : fOK G) {d : Nat} (hd : 2 ≤ d) (dv : UInt64) (k : Nat) (c : Int32) (hk : rLots k) (N : Nat) (hN2 : N < 300) (A : Nat) (hA2 : A < 300) (hk1 : k ≠ 291) (hk3 : k ≠ 293) : ∀ (m j : Nat) (M : fM) (v3 : Int32), j ≤ (A + 1) → (A + 1) + 1 ≤ j + m → M k 6 = nI N → v3 = nI A → fV G z_X2_leastBySets d (fD (some (.int (l_X2_leastBySets k c M m j v3).1)) (sS (l_X2_leastBySets k c M m j v3).2 dv)) 30 [some (.ref 289), some (.ref k), some (.int c), some (.int v3), some (.int (nI j))] [] (sS M dv) 0 0 := by
  intro m
  induction m with
  | zero => intros; omega
  | succ m ih =>
    intro j M v3 hj hm hn0 ha0
    refine f_iload dX2_leastBySets_30 rfl ?_
    refine f_iload_n dX2_leastBySets_32 rfl rfl ?_
    refine f_icmp_gt (tgt := 50) dX2_leastBySets_33 (by decide) (fun c_33 => ?_) (fun c_33 => ?_)
    · refine f_aload_n dX2_leastBySets_50 rfl rfl ?_
      refine s_getr hG fl_X2_14 dX2_leastBySets_51 rfl rfl ?_
      refine f_iload_n dX2_leastBySets_54 rfl rfl ?_
      refine f_cV hG (As := [_]) dX2_leastBySets_55 rfl k_X7_get rfl rfl ml_X2_40 im_X7_get se_X7_get rR_290.1 rfl (c_X7_get hG (Nat.le_refl _) _ _ _ _ rR_290 (by decide) _) (by omega) (Nat.le_of_ble_eq_true rfl) (Nat.zero_le _) (Nat.zero_le _) ?_
      refine f_ireturn dX2_leastBySets_58 rfl rfl ?_
      exact ⟨by rw [l_X2_leastBySets, if_pos c_33], by rw [l_X2_leastBySets, if_pos c_33]⟩
    · have hlt : j ≤ A := nle ha0 c_33 hj (by omega)
      refine f_aload_n dX2_leastBySets_36 rfl rfl ?_
      refine f_iload dX2_leastBySets_37 rfl ?_
      refine f_aload_n dX2_leastBySets_39 rfl rfl ?_
      refine f_iload_n dX2_leastBySets_40 rfl rfl ?_
      refine f_cV hG (As := [_, _, _]) dX2_leastBySets_41 rfl k_X2_findFor rfl rfl ml_X2_36 im_X2_findFor se_X2_findFor rfl rfl (c_X2_findFor hG (d := 1) (Nat.le_refl _) _ _ _ _ _ hk _ (by assumption) (by omega)) (by omega) (Nat.le_of_ble_eq_true rfl) (Nat.zero_le _) (Nat.zero_le _) ?_
      refine f_iinc (v := nI (j + 1)) (ls' := [_, _, _, _, _]) dX2_leastBySets_44 rfl (nI_1 j) (Nat.le_of_ble_eq_true rfl) rfl rfl ?_
      refine f_goto (tgt := 30) dX2_leastBySets_47 (by decide) ?_
      have e9 : l_X2_leastBySets k c M (m + 1) j v3 = l_X2_leastBySets k c (m_X2_findFor M (nI j) k c) m (j + 1) v3 := by rw [l_X2_leastBySets, if_neg c_33]
      rw [e9]
      exact ih (j + 1) (m_X2_findFor M (nI j) k c) v3 (by omega) (by omega) (by rw [m_X2_findFor_ne (by omega) (by omega)]; exact hn0) ha0
def r_X2_leastBySets (M : fM) (k : Nat) (c : Int32) : Int32 := (l_X2_leastBySets k c (rset (rset M 290 256 (0 : Int32) (0 : Int32)) 292 256 (0 : Int32) c) 301 1 (((1 : Int32) <<< ((M k 6) &&& 31)) - (1 : Int32))).1
def m_X2_leastBySets (M : fM) (k : Nat) (c : Int32) : fM := (l_X2_leastBySets k c (rset (rset M 290 256 (0 : Int32) (0 : Int32)) 292 256 (0 : Int32) c) 301 1 (((1 : Int32) <<< ((M k 6) &&& 31)) - (1 : Int32))).2
set_option maxRecDepth 100000 in
set_option maxHeartbeats 4000000 in
theorem c_X2_leastBySets {G : fG} (hG : fOK G) {d : Nat} (hd : 2 ≤ d) (M : fM) (dv : UInt64) (k : Nat) (c : Int32) (hk : rLots k) (N : Nat) (hN : (M k 6) = nI N) (hN2 : N < 300) (A : Nat) (hA : ((1 : Int32) <<< ((M k 6) &&& 31)) - (1 : Int32) = nI A) (hA2 : A < 300) (hk1 : k ≠ 291) (hk3 : k ≠ 293) : fCt G z_X2_leastBySets d [.ref 289, .ref k, .int c] (sS M dv) 0 0 (fD (some (.int (r_X2_leastBySets M k c))) (sS (m_X2_leastBySets M k c) dv)) := by
  refine fCt_to [some (.ref 289), some (.ref k), some (.int c), none, none] k_X2_leastBySets rfl (Nat.le_of_ble_eq_true rfl) rfl ?_
  refine f_iconst (v := 1) dX2_leastBySets_0 rfl ?_
  refine f_aload_n dX2_leastBySets_1 rfl rfl ?_
  refine s_geti hG fl_X2_26 dX2_leastBySets_2 hk.1 rfl ?_
  refine f_ishl dX2_leastBySets_5 ?_
  refine f_iconst (v := 1) dX2_leastBySets_6 rfl ?_
  refine f_isub dX2_leastBySets_7 ?_
  refine f_istore_n (ls' := [_, _, _, _, _]) dX2_leastBySets_8 rfl (Nat.le_of_ble_eq_true rfl) rfl rfl ?_
  refine f_aload_n dX2_leastBySets_9 rfl rfl ?_
  refine s_getr hG fl_X2_14 dX2_leastBySets_10 rfl rfl ?_
  refine f_iconst (v := 0) dX2_leastBySets_13 rfl ?_
  refine f_iconst (v := 0) dX2_leastBySets_14 rfl ?_
  refine f_cV hG (As := [_, _]) dX2_leastBySets_15 rfl k_X7_set rfl rfl ml_X2_32 im_X7_set se_X7_set rR_290.1 rfl (c_X7_set hG (Nat.le_refl _) _ _ _ _ rR_290 (by decide) _ _) (by omega) (Nat.le_of_ble_eq_true rfl) (Nat.zero_le _) (Nat.zero_le _) ?_
  refine f_aload_n dX2_leastBySets_18 rfl rfl ?_
  refine s_getr hG fl_X2_20 dX2_leastBySets_19 rfl rfl ?_
  refine f_iconst (v := 0) dX2_leastBySets_22 rfl ?_
  refine f_iload_n dX2_leastBySets_23 rfl rfl ?_
  refine f_cV hG (As := [_, _]) dX2_leastBySets_24 rfl k_X7_set rfl rfl ml_X2_32 im_X7_set se_X7_set rR_292.1 rfl (c_X7_set hG (Nat.le_refl _) _ _ _ _ rR_292 (by decide) _ _) (by omega) (Nat.le_of_ble_eq_true rfl) (Nat.zero_le _) (Nat.zero_le _) ?_
  refine f_iconst (v := 1) dX2_leastBySets_27 rfl ?_
  refine f_istore (ls' := [_, _, _, _, _]) dX2_leastBySets_28 (Nat.le_of_ble_eq_true rfl) rfl rfl ?_
  exact lp_X2_leastBySets hG hd dv k c hk N hN2 A hA2 hk1 hk3 301 1 _ _ (by omega) (by omega) (by rw [rset_ne (by omega), rset_ne (by omega)]; exact hN) hA

def l_X2_putI (l : Nat) (z : Nat) (k : Nat) (c : Int32) (p : Nat) (u : Nat) (b : Int32) (jv : Int32) (F : fM → Nat → Nat → Int32 → Int32 × fM) : fM → Nat → Nat → Int32 → Int32 × fM
  | M, 0, _, v7 => (v7, M)
  | M, m + 1, j, v7 => (if (nI u) < (nI j) then (v7, M) else (if (nI u) ≤ (nI j) then (if c < ((0 : Int32) + jv) then (l_X2_putI l z k c p u b jv F M m (j + 1) v7) else (l_X2_putI l z k c p u b jv F (rset (F (rset M l z (nI j) ((0 : Int32) + jv)) (p + 1) (max u (j + 1)) v7).2 l z (nI j) (0 : Int32)) m (j + 1) ((F (rset M l z (nI j) ((0 : Int32) + jv)) (p + 1) (max u (j + 1)) v7).1))) else (if c < ((rget M l z (nI j)) + jv) then (l_X2_putI l z k c p u b jv F M m (j + 1) v7) else (l_X2_putI l z k c p u b jv F (rset (F (rset M l z (nI j) ((rget M l z (nI j)) + jv)) (p + 1) (max u (j + 1)) v7).2 l z (nI j) (rget M l z (nI j))) m (j + 1) ((F (rset M l z (nI j) ((rget M l z (nI j)) + jv)) (p + 1) (max u (j + 1)) v7).1)))))
set_option maxRecDepth 100000 in
set_option maxHeartbeats 4000000 in
theorem lc_X2_putI {G : fG} (hG : fOK G) {d : Nat} (hd : 1 ≤ d) (dv : UInt64) (l : Nat) (z : Nat) (k : Nat) (c : Int32) (p : Nat) (u : Nat) (b : Int32) (jv : Int32) (F : fM → Nat → Nat → Int32 → Int32 × fM) (hl : rRow l z) (hnl : z < 2147483648) (hk : rLots k) (hp : p < 8) (hu : u ≤ p) (hh : Nat) (hhd : hh < d) (hrec : ∀ (M : fM) (p' u' : Nat) (b' : Int32), p' = p + 1 → u' ≤ p' → fCt G z_X2_put hh [.ref l, .ref k, .int c, .int (nI p'), .int (nI u'), .int b'] (sS M dv) 0 0 (fD (some (.int (F M p' u' b').1)) (sS (F M p' u' b').2 dv))) {Q : fR → fS → Prop} {kc ks : Nat} : ∀ (m j : Nat) (M : fM) (v7 : Int32), j ≤ (u + 1) → (u + 1) + 1 ≤ j + m → fV G z_X2_put d Q 126 [some (.ref l), some (.ref k), some (.int c), some (.int (nI p)), some (.int (nI u)), some (.int b), some (.int jv), some (.int ((l_X2_putI l z k c p u b jv F M m j v7).1)), none, none] [] (sS ((l_X2_putI l z k c p u b jv F M m j v7).2) dv) kc ks → fV G z_X2_put d Q 44 [some (.ref l), some (.ref k), some (.int c), some (.int (nI p)), some (.int (nI u)), some (.int b), some (.int jv), some (.int v7), some (.int (nI j)), none] [] (sS M dv) kc ks := by
  intro m
  induction m with
  | zero => intros; omega
  | succ m ih =>
    intro j M v7 hj hm kk
    refine f_iload dX2_put_44 rfl ?_
    refine f_iload dX2_put_46 rfl ?_
    refine f_icmp_gt (tgt := 126) dX2_put_48 (by decide) (fun c_48 => ?_) (fun c_48 => ?_)
    · have e9 : l_X2_putI l z k c p u b jv F M (m + 1) j v7 = (v7, M) := by rw [l_X2_putI, if_pos c_48]
      rw [e9] at kk
      refine f_drop 8 ?_
      refine f_drop 9 ?_
      exact kk
    · have hlt : j ≤ u := nle (N := u) rfl c_48 hj (by omega)
      refine f_iload dX2_put_51 rfl ?_
      refine f_iload dX2_put_53 rfl ?_
      refine f_icmp_ge (tgt := 67) dX2_put_55 (by decide) (fun c_55 => ?_) (fun c_55 => ?_)
      · refine f_iconst (v := 0) dX2_put_67 rfl ?_
        refine f_istore (ls' := [_, _, _, _, _, _, _, _, _, _]) dX2_put_68 (Nat.le_of_ble_eq_true rfl) rfl rfl ?_
        refine f_iload dX2_put_70 rfl ?_
        refine f_iload dX2_put_72 rfl ?_
        refine f_iadd dX2_put_74 ?_
        refine f_iload_n dX2_put_75 rfl rfl ?_
        refine f_icmp_gt (tgt := 120) dX2_put_76 (by decide) (fun c_76 => ?_) (fun c_76 => ?_)
        · refine f_iinc (v := nI (j + 1)) (ls' := [_, _, _, _, _, _, _, _, _, _]) dX2_put_120 rfl (nI_1 j) (Nat.le_of_ble_eq_true rfl) rfl rfl ?_
          refine f_goto (tgt := 44) dX2_put_123 (by decide) ?_
          have e9 : l_X2_putI l z k c p u b jv F M (m + 1) j v7 = l_X2_putI l z k c p u b jv F M m (j + 1) v7 := by rw [l_X2_putI, if_neg c_48, if_pos c_55, if_pos c_76]
          refine f_drop 9 ?_
          exact ih (j + 1) M v7 (by omega) (by omega) (by rw [e9] at kk; exact kk)
        · refine f_aload_n dX2_put_79 rfl rfl ?_
          refine f_iload dX2_put_80 rfl ?_
          refine f_iload dX2_put_82 rfl ?_
          refine f_iload dX2_put_84 rfl ?_
          refine f_iadd dX2_put_86 ?_
          refine f_cV hG (As := [_, _]) dX2_put_87 rfl k_X7_set rfl rfl ml_X2_32 im_X7_set se_X7_set hl.1 rfl (c_X7_set hG (Nat.le_refl _) _ _ _ _ hl hnl _ _) (by omega) (Nat.le_of_ble_eq_true rfl) (Nat.zero_le _) (Nat.zero_le _) ?_
          refine f_aload_n dX2_put_90 rfl rfl ?_
          refine f_aload_n dX2_put_91 rfl rfl ?_
          refine f_iload_n dX2_put_92 rfl rfl ?_
          refine f_iload_n dX2_put_93 rfl rfl ?_
          refine f_iconst (v := 1) dX2_put_94 rfl ?_
          refine f_iadd dX2_put_95 ?_
          rw [nI_1]
          refine f_iload dX2_put_96 rfl ?_
          refine f_iload dX2_put_98 rfl ?_
          refine f_iconst (v := 1) dX2_put_100 rfl ?_
          refine f_iadd dX2_put_101 ?_
          rw [nI_1]
          refine f_mmax hG dX2_put_102 mj_X2_55 mj_max (Nat.le_of_ble_eq_true rfl) ?_
          rw [mx_nI (by omega) (by omega)]
          refine f_iload dX2_put_105 rfl ?_
          refine f_cS hG (As := [_, _, _, _, _, _]) dX2_put_107 rfl k_X2_put rfl rfl ml_X2_51 sm_X2_put ((hrec _ _ _ _ (by omega) (by omega))) (by omega) (Nat.le_of_ble_eq_true rfl) (Nat.zero_le _) (Nat.zero_le _) ?_
          refine f_istore (ls' := [_, _, _, _, _, _, _, _, _, _]) dX2_put_110 (Nat.le_of_ble_eq_true rfl) rfl rfl ?_
          refine f_aload_n dX2_put_112 rfl rfl ?_
          refine f_iload dX2_put_113 rfl ?_
          refine f_iload dX2_put_115 rfl ?_
          refine f_cV hG (As := [_, _]) dX2_put_117 rfl k_X7_set rfl rfl ml_X2_32 im_X7_set se_X7_set hl.1 rfl (c_X7_set hG (Nat.le_refl _) _ _ _ _ hl hnl _ _) (by omega) (Nat.le_of_ble_eq_true rfl) (Nat.zero_le _) (Nat.zero_le _) ?_
          refine f_iinc (v := nI (j + 1)) (ls' := [_, _, _, _, _, _, _, _, _, _]) dX2_put_120 rfl (nI_1 j) (Nat.le_of_ble_eq_true rfl) rfl rfl ?_
          refine f_goto (tgt := 44) dX2_put_123 (by decide) ?_
          have e9 : l_X2_putI l z k c p u b jv F M (m + 1) j v7 = l_X2_putI l z k c p u b jv F (rset (F (rset M l z (nI j) ((0 : Int32) + jv)) (p + 1) (max u (j + 1)) v7).2 l z (nI j) (0 : Int32)) m (j + 1) ((F (rset M l z (nI j) ((0 : Int32) + jv)) (p + 1) (max u (j + 1)) v7).1) := by rw [l_X2_putI, if_neg c_48, if_pos c_55, if_neg c_76]
          refine f_drop 9 ?_
          exact ih (j + 1) (rset (F (rset M l z (nI j) ((0 : Int32) + jv)) (p + 1) (max u (j + 1)) v7).2 l z (nI j) (0 : Int32)) ((F (rset M l z (nI j) ((0 : Int32) + jv)) (p + 1) (max u (j + 1)) v7).1) (by omega) (by omega) (by rw [e9] at kk; exact kk)
      · refine f_aload_n dX2_put_58 rfl rfl ?_
        refine f_iload dX2_put_59 rfl ?_
        refine f_cV hG (As := [_]) dX2_put_61 rfl k_X7_get rfl rfl ml_X2_40 im_X7_get se_X7_get hl.1 rfl (c_X7_get hG (Nat.le_refl _) _ _ _ _ hl hnl _) (by omega) (Nat.le_of_ble_eq_true rfl) (Nat.zero_le _) (Nat.zero_le _) ?_
        refine f_goto (tgt := 68) dX2_put_64 (by decide) ?_
        refine f_istore (ls' := [_, _, _, _, _, _, _, _, _, _]) dX2_put_68 (Nat.le_of_ble_eq_true rfl) rfl rfl ?_
        refine f_iload dX2_put_70 rfl ?_
        refine f_iload dX2_put_72 rfl ?_
        refine f_iadd dX2_put_74 ?_
        refine f_iload_n dX2_put_75 rfl rfl ?_
        refine f_icmp_gt (tgt := 120) dX2_put_76 (by decide) (fun c_76 => ?_) (fun c_76 => ?_)
        · refine f_iinc (v := nI (j + 1)) (ls' := [_, _, _, _, _, _, _, _, _, _]) dX2_put_120 rfl (nI_1 j) (Nat.le_of_ble_eq_true rfl) rfl rfl ?_
          refine f_goto (tgt := 44) dX2_put_123 (by decide) ?_
          have e9 : l_X2_putI l z k c p u b jv F M (m + 1) j v7 = l_X2_putI l z k c p u b jv F M m (j + 1) v7 := by rw [l_X2_putI, if_neg c_48, if_neg c_55, if_pos c_76]
          refine f_drop 9 ?_
          exact ih (j + 1) M v7 (by omega) (by omega) (by rw [e9] at kk; exact kk)
        · refine f_aload_n dX2_put_79 rfl rfl ?_
          refine f_iload dX2_put_80 rfl ?_
          refine f_iload dX2_put_82 rfl ?_
          refine f_iload dX2_put_84 rfl ?_
          refine f_iadd dX2_put_86 ?_
          refine f_cV hG (As := [_, _]) dX2_put_87 rfl k_X7_set rfl rfl ml_X2_32 im_X7_set se_X7_set hl.1 rfl (c_X7_set hG (Nat.le_refl _) _ _ _ _ hl hnl _ _) (by omega) (Nat.le_of_ble_eq_true rfl) (Nat.zero_le _) (Nat.zero_le _) ?_
          refine f_aload_n dX2_put_90 rfl rfl ?_
          refine f_aload_n dX2_put_91 rfl rfl ?_
          refine f_iload_n dX2_put_92 rfl rfl ?_
          refine f_iload_n dX2_put_93 rfl rfl ?_
          refine f_iconst (v := 1) dX2_put_94 rfl ?_
          refine f_iadd dX2_put_95 ?_
          rw [nI_1]
          refine f_iload dX2_put_96 rfl ?_
          refine f_iload dX2_put_98 rfl ?_
          refine f_iconst (v := 1) dX2_put_100 rfl ?_
          refine f_iadd dX2_put_101 ?_
          rw [nI_1]
          refine f_mmax hG dX2_put_102 mj_X2_55 mj_max (Nat.le_of_ble_eq_true rfl) ?_
          rw [mx_nI (by omega) (by omega)]
          refine f_iload dX2_put_105 rfl ?_
          refine f_cS hG (As := [_, _, _, _, _, _]) dX2_put_107 rfl k_X2_put rfl rfl ml_X2_51 sm_X2_put ((hrec _ _ _ _ (by omega) (by omega))) (by omega) (Nat.le_of_ble_eq_true rfl) (Nat.zero_le _) (Nat.zero_le _) ?_
          refine f_istore (ls' := [_, _, _, _, _, _, _, _, _, _]) dX2_put_110 (Nat.le_of_ble_eq_true rfl) rfl rfl ?_
          refine f_aload_n dX2_put_112 rfl rfl ?_
          refine f_iload dX2_put_113 rfl ?_
          refine f_iload dX2_put_115 rfl ?_
          refine f_cV hG (As := [_, _]) dX2_put_117 rfl k_X7_set rfl rfl ml_X2_32 im_X7_set se_X7_set hl.1 rfl (c_X7_set hG (Nat.le_refl _) _ _ _ _ hl hnl _ _) (by omega) (Nat.le_of_ble_eq_true rfl) (Nat.zero_le _) (Nat.zero_le _) ?_
          refine f_iinc (v := nI (j + 1)) (ls' := [_, _, _, _, _, _, _, _, _, _]) dX2_put_120 rfl (nI_1 j) (Nat.le_of_ble_eq_true rfl) rfl rfl ?_
          refine f_goto (tgt := 44) dX2_put_123 (by decide) ?_
          have e9 : l_X2_putI l z k c p u b jv F M (m + 1) j v7 = l_X2_putI l z k c p u b jv F (rset (F (rset M l z (nI j) ((rget M l z (nI j)) + jv)) (p + 1) (max u (j + 1)) v7).2 l z (nI j) (rget M l z (nI j))) m (j + 1) ((F (rset M l z (nI j) ((rget M l z (nI j)) + jv)) (p + 1) (max u (j + 1)) v7).1) := by rw [l_X2_putI, if_neg c_48, if_neg c_55, if_neg c_76]
          refine f_drop 9 ?_
          exact ih (j + 1) (rset (F (rset M l z (nI j) ((rget M l z (nI j)) + jv)) (p + 1) (max u (j + 1)) v7).2 l z (nI j) (rget M l z (nI j))) ((F (rset M l z (nI j) ((rget M l z (nI j)) + jv)) (p + 1) (max u (j + 1)) v7).1) (by omega) (by omega) (by rw [e9] at kk; exact kk)

def sp_X2_put (l : Nat) (z : Nat) (k : Nat) (c : Int32) : Nat → fM → Nat → Nat → Int32 → Int32 × fM
  | 0, M, _, _, _ => (0, M)
  | m + 1, M, p, u, b => (if (nI u) < b then (if (M k 6) ≤ (nI p) then ((nI u), M) else (if (nI p) < (8 : Int32) then ((l_X2_putI l z k c p u b (rget M (k + 9) 8 (nI p)) (sp_X2_put l z k c m) M 12 0 b).1, (l_X2_putI l z k c p u b (rget M (k + 9) 8 (nI p)) (sp_X2_put l z k c m) M 12 0 b).2) else ((nI u), M))) else (b, M))
set_option maxRecDepth 100000 in
set_option maxHeartbeats 4000000 in
theorem c_X2_put {G : fG} (hG : fOK G) (dv : UInt64) (l : Nat) (z : Nat) (k : Nat) (c : Int32) (hl : rRow l z) (hnl : z < 2147483648) (hk : rLots k) : ∀ (m : Nat) {d : Nat} (hd : 1 + m ≤ d) (M : fM) (p : Nat) (u : Nat) (b : Int32), p + m = 9 → p ≤ 8 → u ≤ p → fCt G z_X2_put d [.ref l, .ref k, .int c, .int (nI p), .int (nI u), .int b] (sS M dv) 0 0 (fD (some (.int (sp_X2_put l z k c m M p u b).1)) (sS (sp_X2_put l z k c m M p u b).2 dv)) := by
  intro m
  induction m with
  | zero =>
    intros
    omega
  | succ m ih =>
    intro d hd M p u b hp1 hp2 hp3
    refine fCt_to [some (.ref l), some (.ref k), some (.int c), some (.int (nI p)), some (.int (nI u)), some (.int b), none, none, none, none] k_X2_put rfl (Nat.le_of_ble_eq_true rfl) rfl ?_
    refine f_iload dX2_put_0 rfl ?_
    refine f_iload dX2_put_2 rfl ?_
    refine f_icmp_lt (tgt := 10) dX2_put_4 (by decide) (fun c_4 => ?_) (fun c_4 => ?_)
    · refine f_iload_n dX2_put_10 rfl rfl ?_
      refine f_aload_n dX2_put_11 rfl rfl ?_
      refine s_geti hG fl_X2_26 dX2_put_12 hk.1 rfl ?_
      refine f_icmp_ge (tgt := 24) dX2_put_15 (by decide) (fun c_15 => ?_) (fun c_15 => ?_)
      · refine f_iload dX2_put_24 rfl ?_
        refine f_ireturn dX2_put_26 rfl rfl ?_
        exact ⟨by rw [sp_X2_put, if_pos c_4, if_pos c_15], by rw [sp_X2_put, if_pos c_4, if_pos c_15]⟩
      · refine f_iload_n dX2_put_18 rfl rfl ?_
        refine f_bipush (v := 8) dX2_put_19 (by decide) ?_
        refine f_icmp_lt (tgt := 27) dX2_put_21 (by decide) (fun c_21 => ?_) (fun c_21 => ?_)
        · have hp : p < 8 := (nI_ltI (b := 8) (by omega) (by decide)).mp c_21
          refine f_aload_n dX2_put_27 rfl rfl ?_
          refine s_getr hG fl_X2_48 dX2_put_28 hk.1 rfl ?_
          refine f_iload_n dX2_put_31 rfl rfl ?_
          refine f_cV hG (As := [_]) dX2_put_32 rfl k_X7_get rfl rfl ml_X2_40 im_X7_get se_X7_get hk.2.2.2.2.2.1.1 rfl (c_X7_get hG (Nat.le_refl _) _ _ _ _ hk.2.2.2.2.2.1 (by decide) _) (by omega) (Nat.le_of_ble_eq_true rfl) (Nat.zero_le _) (Nat.zero_le _) ?_
          refine f_istore (ls' := [_, _, _, _, _, _, _, _, _, _]) dX2_put_35 (Nat.le_of_ble_eq_true rfl) rfl rfl ?_
          refine f_iload dX2_put_37 rfl ?_
          refine f_istore (ls' := [_, _, _, _, _, _, _, _, _, _]) dX2_put_39 (Nat.le_of_ble_eq_true rfl) rfl rfl ?_
          refine f_iconst (v := 0) dX2_put_41 rfl ?_
          refine f_istore (ls' := [_, _, _, _, _, _, _, _, _, _]) dX2_put_42 (Nat.le_of_ble_eq_true rfl) rfl rfl ?_
          refine lc_X2_putI hG (by omega) dv _ _ _ _ _ _ _ _ _ hl hnl hk (by omega) (by omega) (1 + m) (by omega) (fun M p' u' b' q1 q2 => ih (d := 1 + m) (by omega) M p' u' b' (by omega) (by omega) (by omega)) 12 0 _ _ (by omega) (by omega) ?_
          refine f_iload dX2_put_126 rfl ?_
          refine f_ireturn dX2_put_128 rfl rfl ?_
          exact ⟨by rw [sp_X2_put, if_pos c_4, if_neg c_15, if_pos c_21], by rw [sp_X2_put, if_pos c_4, if_neg c_15, if_pos c_21]⟩
        · refine f_iload dX2_put_24 rfl ?_
          refine f_ireturn dX2_put_26 rfl rfl ?_
          exact ⟨by rw [sp_X2_put, if_pos c_4, if_neg c_15, if_neg c_21], by rw [sp_X2_put, if_pos c_4, if_neg c_15, if_neg c_21]⟩
    · refine f_iload dX2_put_7 rfl ?_
      refine f_ireturn dX2_put_9 rfl rfl ?_
      exact ⟨by rw [sp_X2_put, if_neg c_4], by rw [sp_X2_put, if_neg c_4]⟩

def r_X2_leastByTrial (M : fM) (k : Nat) (c : Int32) : Int32 := (sp_X2_put 294 8 k c 9 M 0 0 (9 : Int32)).1
def m_X2_leastByTrial (M : fM) (k : Nat) (c : Int32) : fM := (sp_X2_put 294 8 k c 9 M 0 0 (9 : Int32)).2
set_option maxRecDepth 100000 in
set_option maxHeartbeats 4000000 in
theorem c_X2_leastByTrial {G : fG} (hG : fOK G) {d : Nat} (hd : 11 ≤ d) (M : fM) (dv : UInt64) (k : Nat) (c : Int32) (hk : rLots k) : fCt G z_X2_leastByTrial d [.ref 289, .ref k, .int c] (sS M dv) 0 0 (fD (some (.int (r_X2_leastByTrial M k c))) (sS (m_X2_leastByTrial M k c) dv)) := by
  refine fCt_to [some (.ref 289), some (.ref k), some (.int c)] k_X2_leastByTrial rfl (Nat.le_of_ble_eq_true rfl) rfl ?_
  refine f_aload_n dX2_leastByTrial_0 rfl rfl ?_
  refine s_getr hG fl_X2_23 dX2_leastByTrial_1 rfl rfl ?_
  refine f_aload_n dX2_leastByTrial_4 rfl rfl ?_
  refine f_iload_n dX2_leastByTrial_5 rfl rfl ?_
  refine f_iconst (v := 0) dX2_leastByTrial_6 rfl ?_
  refine f_iconst (v := 0) dX2_leastByTrial_7 rfl ?_
  refine f_bipush (v := 9) dX2_leastByTrial_8 (by decide) ?_
  refine f_cS hG (As := [_, _, _, _, _, _]) dX2_leastByTrial_10 rfl k_X2_put rfl rfl ml_X2_51 sm_X2_put (c_X2_put hG _ _ _ _ _ rR_294 (by decide) hk 9 (d := 10) (by omega) _ 0 0 _ (by omega) (by omega) (by omega)) (by omega) (Nat.le_of_ble_eq_true rfl) (Nat.zero_le _) (Nat.zero_le _) ?_
  refine f_ireturn dX2_leastByTrial_13 rfl rfl ?_
  exact ⟨by rw [r_X2_leastByTrial], by rw [m_X2_leastByTrial]⟩

/-! ===== TestSets ===== -/
def l_X9_firstUntested (k : Nat) (a : Int32) (M : fM) : Nat → Nat → Int32
  | 0, _ => 0
  | m + 1, j => (if (M (k + 11) 6) ≤ (nI j) then (-1 : Int32) else (if ((r_X8_rawsAt M k (nI j)) &&& a) = 0 then (nI j) else (l_X9_firstUntested k a M m (j + 1))))
set_option maxRecDepth 100000 in
set_option maxHeartbeats 4000000 in
theorem lp_X9_firstUntested {G : fG} (hG : fOK G) {d : Nat} (hd : 2 ≤ d) (M : fM) (dv : UInt64) (k : Nat) (a : Int32) (hk : rState k) (N : Nat) (hN : (M (k + 11) 6) = nI N) (hN2 : N < 300) : ∀ (m j : Nat), j ≤ N → N + 1 ≤ j + m → fV G z_X9_firstUntested d (fD (some (.int (l_X9_firstUntested k a M m j))) (sS M dv)) 2 [some (.ref k), some (.int a), some (.int (nI j))] [] (sS M dv) 0 0 := by
  intro m
  induction m with
  | zero => intros; omega
  | succ m ih =>
    intro j hj hm
    refine f_iload_n dX9_firstUntested_2 rfl rfl ?_
    refine f_aload_n dX9_firstUntested_3 rfl rfl ?_
    refine s_getr hG fl_X9_33 dX9_firstUntested_4 hk.1 rfl ?_
    refine s_geti hG fl_X9_37 dX9_firstUntested_7 hk.2.2.2.1 rfl ?_
    refine f_icmp_ge (tgt := 31) dX9_firstUntested_10 (by decide) (fun c_10 => ?_) (fun c_10 => ?_)
    · refine f_iconst (v := (-1)) dX9_firstUntested_31 rfl ?_
      refine f_ireturn dX9_firstUntested_32 rfl rfl ?_
      exact ⟨by rw [l_X9_firstUntested, if_pos c_10], rfl⟩
    · have hlt : j < N := nlt hN c_10 hj (by omega)
      refine f_aload_n dX9_firstUntested_13 rfl rfl ?_
      refine f_iload_n dX9_firstUntested_14 rfl rfl ?_
      refine f_cV hG (As := [_]) dX9_firstUntested_15 rfl k_X8_rawsAt rfl rfl ml_X9_42 im_X8_rawsAt se_X8_rawsAt hk.1 rfl (c_X8_rawsAt hG (d := 1) (Nat.le_refl _) _ _ _ _ hk) (by omega) (Nat.le_of_ble_eq_true rfl) (Nat.zero_le _) (Nat.zero_le _) ?_
      refine f_iload_n dX9_firstUntested_18 rfl rfl ?_
      refine f_iand dX9_firstUntested_19 ?_
      refine f_if_ne (tgt := 25) dX9_firstUntested_20 (by decide) (fun c_20 => ?_) (fun c_20 => ?_)
      · refine f_iinc (v := nI (j + 1)) (ls' := [_, _, _]) dX9_firstUntested_25 rfl (nI_1 j) (Nat.le_of_ble_eq_true rfl) rfl rfl ?_
        refine f_goto (tgt := 2) dX9_firstUntested_28 (by decide) ?_
        have e9 : l_X9_firstUntested k a M (m + 1) j = l_X9_firstUntested k a M m (j + 1) := by rw [l_X9_firstUntested, if_neg c_10, if_neg c_20]
        rw [e9]
        exact ih (j + 1) (by omega) (by omega)
      · refine f_iload_n dX9_firstUntested_23 rfl rfl ?_
        refine f_ireturn dX9_firstUntested_24 rfl rfl ?_
        exact ⟨by rw [l_X9_firstUntested, if_neg c_10, if_pos c_20], rfl⟩
def r_X9_firstUntested (M : fM) (k : Nat) (a : Int32) : Int32 := (l_X9_firstUntested k a M 301 0)
set_option maxRecDepth 100000 in
set_option maxHeartbeats 4000000 in
theorem c_X9_firstUntested {G : fG} (hG : fOK G) {d : Nat} (hd : 2 ≤ d) (M : fM) (dv : UInt64) (k : Nat) (a : Int32) (hk : rState k) (N : Nat) (hN : (M (k + 11) 6) = nI N) (hN2 : N < 300) : fCt G z_X9_firstUntested d [.ref k, .int a] (sS M dv) 0 0 (fD (some (.int (r_X9_firstUntested M k a))) (sS M dv)) := by
  refine fCt_to [some (.ref k), some (.int a), none] k_X9_firstUntested rfl (Nat.le_of_ble_eq_true rfl) rfl ?_
  refine f_iconst (v := 0) dX9_firstUntested_0 rfl ?_
  refine f_istore_n (ls' := [_, _, _]) dX9_firstUntested_1 rfl (Nat.le_of_ble_eq_true rfl) rfl rfl ?_
  exact lp_X9_firstUntested hG hd _ dv k a hk N hN hN2 301 0 (by omega) (by omega)

def l_X9_best (k : Nat) (M : fM) : Nat → Nat → Int32 → Int32
  | 0, _, _ => 0
  | m + 1, j, v2 => (if (((1 : Int32) <<< ((M (k + 1) 2) &&& 31)) - (1 : Int32)) ≤ (nI j) then v2 else (if (r_J6_bitCount_0f7a4 M v2) ≤ (r_J6_bitCount_0f7a4 M (nI j)) then (l_X9_best k M m (j + 1) v2) else (if (r_X9_firstUntested M k (nI j)) = (-1 : Int32) then (l_X9_best k M m (j + 1) (nI j)) else (l_X9_best k M m (j + 1) v2))))
set_option maxRecDepth 100000 in
set_option maxHeartbeats 4000000 in
theorem lp_X9_best {G : fG} (hG : fOK G) {d : Nat} (hd : 3 ≤ d) (M : fM) (dv : UInt64) (k : Nat) (hk : rState k) (N : Nat) (hN : (M (k + 11) 6) = nI N) (hN2 : N < 300) (A : Nat) (hA : ((1 : Int32) <<< ((M (k + 1) 2) &&& 31)) - (1 : Int32) = nI A) (hA2 : A < 300) : ∀ (m j : Nat) (v2 : Int32), j ≤ A → A + 1 ≤ j + m → fV G z_X9_best d (fD (some (.int (l_X9_best k M m j v2))) (sS M dv)) 16 [some (.ref k), some (.int (((1 : Int32) <<< ((M (k + 1) 2) &&& 31)) - (1 : Int32))), some (.int v2), some (.int (nI j))] [] (sS M dv) 0 0 := by
  intro m
  induction m with
  | zero => intros; omega
  | succ m ih =>
    intro j v2 hj hm
    refine f_iload_n dX9_best_16 rfl rfl ?_
    refine f_iload_n dX9_best_17 rfl rfl ?_
    refine f_icmp_ge (tgt := 49) dX9_best_18 (by decide) (fun c_18 => ?_) (fun c_18 => ?_)
    · refine f_iload_n dX9_best_49 rfl rfl ?_
      refine f_ireturn dX9_best_50 rfl rfl ?_
      exact ⟨by rw [l_X9_best, if_pos c_18], rfl⟩
    · have hlt : j < A := nlt hA c_18 hj (by omega)
      refine f_iload_n dX9_best_21 rfl rfl ?_
      refine f_cS hG (As := [_]) dX9_best_22 rfl k_J6_bitCount_0f7a4 rfl rfl ml_X9_21 sm_J6_bitCount_0f7a4 (c_J6_bitCount_0f7a4 hG (d := 0) (Nat.le_refl _) _ _ _) (by omega) (Nat.le_of_ble_eq_true rfl) (Nat.zero_le _) (Nat.zero_le _) ?_
      refine f_iload_n dX9_best_25 rfl rfl ?_
      refine f_cS hG (As := [_]) dX9_best_26 rfl k_J6_bitCount_0f7a4 rfl rfl ml_X9_21 sm_J6_bitCount_0f7a4 (c_J6_bitCount_0f7a4 hG (d := 0) (Nat.le_refl _) _ _ _) (by omega) (Nat.le_of_ble_eq_true rfl) (Nat.zero_le _) (Nat.zero_le _) ?_
      refine f_icmp_ge (tgt := 43) dX9_best_29 (by decide) (fun c_29 => ?_) (fun c_29 => ?_)
      · refine f_iinc (v := nI (j + 1)) (ls' := [_, _, _, _]) dX9_best_43 rfl (nI_1 j) (Nat.le_of_ble_eq_true rfl) rfl rfl ?_
        refine f_goto (tgt := 16) dX9_best_46 (by decide) ?_
        have e9 : l_X9_best k M (m + 1) j v2 = l_X9_best k M m (j + 1) v2 := by rw [l_X9_best, if_neg c_18, if_pos c_29]
        rw [e9]
        exact ih (j + 1) v2 (by omega) (by omega)
      · refine f_aload_n dX9_best_32 rfl rfl ?_
        refine f_iload_n dX9_best_33 rfl rfl ?_
        refine f_cS hG (As := [_, _]) dX9_best_34 rfl k_X9_firstUntested rfl rfl ml_X9_27 sm_X9_firstUntested (c_X9_firstUntested hG (d := 2) (Nat.le_refl _) _ _ _ _ hk _ (by assumption) (by omega)) (by omega) (Nat.le_of_ble_eq_true rfl) (Nat.zero_le _) (Nat.zero_le _) ?_
        refine f_iconst (v := (-1)) dX9_best_37 rfl ?_
        refine f_icmp_ne (tgt := 43) dX9_best_38 (by decide) (fun c_38 => ?_) (fun c_38 => ?_)
        · refine f_iinc (v := nI (j + 1)) (ls' := [_, _, _, _]) dX9_best_43 rfl (nI_1 j) (Nat.le_of_ble_eq_true rfl) rfl rfl ?_
          refine f_goto (tgt := 16) dX9_best_46 (by decide) ?_
          have e9 : l_X9_best k M (m + 1) j v2 = l_X9_best k M m (j + 1) v2 := by rw [l_X9_best, if_neg c_18, if_neg c_29, if_neg c_38]
          rw [e9]
          exact ih (j + 1) v2 (by omega) (by omega)
        · refine f_iload_n dX9_best_41 rfl rfl ?_
          refine f_istore_n (ls' := [_, _, _, _]) dX9_best_42 rfl (Nat.le_of_ble_eq_true rfl) rfl rfl ?_
          refine f_iinc (v := nI (j + 1)) (ls' := [_, _, _, _]) dX9_best_43 rfl (nI_1 j) (Nat.le_of_ble_eq_true rfl) rfl rfl ?_
          refine f_goto (tgt := 16) dX9_best_46 (by decide) ?_
          have e9 : l_X9_best k M (m + 1) j v2 = l_X9_best k M m (j + 1) (nI j) := by rw [l_X9_best, if_neg c_18, if_neg c_29, if_pos c_38]
          rw [e9]
          exact ih (j + 1) (nI j) (by omega) (by omega)
def r_X9_best (M : fM) (k : Nat) : Int32 := (l_X9_best k M 301 0 (((1 : Int32) <<< ((M (k + 1) 2) &&& 31)) - (1 : Int32)))
set_option maxRecDepth 100000 in
set_option maxHeartbeats 4000000 in
theorem c_X9_best {G : fG} (hG : fOK G) {d : Nat} (hd : 3 ≤ d) (M : fM) (dv : UInt64) (k : Nat) (hk : rState k) (N : Nat) (hN : (M (k + 11) 6) = nI N) (hN2 : N < 300) (A : Nat) (hA : ((1 : Int32) <<< ((M (k + 1) 2) &&& 31)) - (1 : Int32) = nI A) (hA2 : A < 300) : fCt G z_X9_best d [.ref k] (sS M dv) 0 0 (fD (some (.int (r_X9_best M k))) (sS M dv)) := by
  refine fCt_to [some (.ref k), none, none, none] k_X9_best rfl (Nat.le_of_ble_eq_true rfl) rfl ?_
  refine f_iconst (v := 1) dX9_best_0 rfl ?_
  refine f_aload_n dX9_best_1 rfl rfl ?_
  refine s_getr hG fl_X9_9 dX9_best_2 hk.1 rfl ?_
  refine s_geti hG fl_X9_15 dX9_best_5 hk.2.1.1 rfl ?_
  refine f_ishl dX9_best_8 ?_
  refine f_iconst (v := 1) dX9_best_9 rfl ?_
  refine f_isub dX9_best_10 ?_
  refine f_istore_n (ls' := [_, _, _, _]) dX9_best_11 rfl (Nat.le_of_ble_eq_true rfl) rfl rfl ?_
  refine f_iload_n dX9_best_12 rfl rfl ?_
  refine f_istore_n (ls' := [_, _, _, _]) dX9_best_13 rfl (Nat.le_of_ble_eq_true rfl) rfl rfl ?_
  refine f_iconst (v := 0) dX9_best_14 rfl ?_
  refine f_istore_n (ls' := [_, _, _, _]) dX9_best_15 rfl (Nat.le_of_ble_eq_true rfl) rfl rfl ?_
  exact lp_X9_best hG hd _ dv k hk N hN hN2 A hA hA2 301 0 _ (by omega) (by omega)

def l_X9_branchI (k : Nat) (b : Int32) (p : Nat) (cv : Int32) (F : Int32 → Nat → Int32) (M : fM) : Nat → Nat → Int32 → Int32
  | 0, _, v5 => v5
  | m + 1, j, v5 => (if (6 : Int32) ≤ (nI j) then v5 else (if (r_X11_setHas M cv (nI j)) = 0 then (l_X9_branchI k b p cv F M m (j + 1) v5) else (l_X9_branchI k b p cv F M m (j + 1) (if (F (b ||| ((1 : Int32) <<< ((nI j) &&& 31))) (p + 1)) < v5 then (F (b ||| ((1 : Int32) <<< ((nI j) &&& 31))) (p + 1)) else v5))))
set_option maxRecDepth 100000 in
set_option maxHeartbeats 4000000 in
theorem lc_X9_branchI {G : fG} (hG : fOK G) {d : Nat} (hd : 1 ≤ d) (M : fM) (dv : UInt64) (k : Nat) (b : Int32) (p : Nat) (cv : Int32) (F : Int32 → Nat → Int32) (hk : rState k) (hh : Nat) (hhd : hh < d) (hrec : ∀ (b' : Int32) (p' : Nat), p' = p + 1 → fCt G z_X9_branch hh [.ref k, .int b', .int (nI p')] (sS M dv) 0 0 (fD (some (.int (F b' p'))) (sS M dv))) {Q : fR → fS → Prop} {kc ks : Nat} : ∀ (m j : Nat) (v5 : Int32), j ≤ 6 → 6 + 1 ≤ j + m → fV G z_X9_branch d Q 79 [some (.ref k), some (.int b), some (.int (nI p)), none, some (.int cv), some (.int (l_X9_branchI k b p cv F M m j v5)), none] [] (sS M dv) kc ks → fV G z_X9_branch d Q 36 [some (.ref k), some (.int b), some (.int (nI p)), none, some (.int cv), some (.int v5), some (.int (nI j))] [] (sS M dv) kc ks := by
  intro m
  induction m with
  | zero => intros; omega
  | succ m ih =>
    intro j v5 hj hm kk
    refine f_iload dX9_branch_36 rfl ?_
    refine f_bipush (v := 6) dX9_branch_38 (by decide) ?_
    refine f_icmp_ge (tgt := 79) dX9_branch_40 (by decide) (fun c_40 => ?_) (fun c_40 => ?_)
    · have e9 : l_X9_branchI k b p cv F M (m + 1) j v5 = v5 := by rw [l_X9_branchI, if_pos c_40]
      rw [e9] at kk
      refine f_drop 6 ?_
      exact kk
    · have hlt : j < 6 := nlt (N := 6) rfl c_40 hj (by omega)
      refine f_iload dX9_branch_43 rfl ?_
      refine f_iload dX9_branch_45 rfl ?_
      refine f_cSN hG (As := [_, _]) dX9_branch_47 rfl k_X11_setHas rfl rfl ml_X9_49 sm_X11_setHas (c_X11_setHas hG (d := 0) (Nat.le_refl _) _ _ _ _) (by omega) (Nat.le_of_ble_eq_true rfl) (Nat.zero_le _) (Nat.zero_le _) ?_
      refine f_if_eq (tgt := 73) dX9_branch_50 (by decide) (fun c_50 => ?_) (fun c_50 => ?_)
      · refine f_iinc (v := nI (j + 1)) (ls' := [_, _, _, _, _, _, _]) dX9_branch_73 rfl (nI_1 j) (Nat.le_of_ble_eq_true rfl) rfl rfl ?_
        refine f_goto (tgt := 36) dX9_branch_76 (by decide) ?_
        have e9 : l_X9_branchI k b p cv F M (m + 1) j v5 = l_X9_branchI k b p cv F M m (j + 1) v5 := by rw [l_X9_branchI, if_neg c_40, if_pos c_50]
        exact ih (j + 1) v5 (by omega) (by omega) (by rw [e9] at kk; exact kk)
      · refine f_iload dX9_branch_53 rfl ?_
        refine f_aload_n dX9_branch_55 rfl rfl ?_
        refine f_iload_n dX9_branch_56 rfl rfl ?_
        refine f_iconst (v := 1) dX9_branch_57 rfl ?_
        refine f_iload dX9_branch_58 rfl ?_
        refine f_ishl dX9_branch_60 ?_
        refine f_ior dX9_branch_61 ?_
        refine f_iload_n dX9_branch_62 rfl rfl ?_
        refine f_iconst (v := 1) dX9_branch_63 rfl ?_
        refine f_iadd dX9_branch_64 ?_
        rw [nI_1]
        refine f_cS hG (As := [_, _, _]) dX9_branch_65 rfl k_X9_branch rfl rfl ml_X9_45 sm_X9_branch ((hrec _ _ (by omega))) (by omega) (Nat.le_of_ble_eq_true rfl) (Nat.zero_le _) (Nat.zero_le _) ?_
        refine f_mmin hG dX9_branch_68 mj_X9_53 mj_min (Nat.le_of_ble_eq_true rfl) ?_
        refine f_istore (ls' := [_, _, _, _, _, _, _]) dX9_branch_71 (Nat.le_of_ble_eq_true rfl) rfl rfl ?_
        refine f_iinc (v := nI (j + 1)) (ls' := [_, _, _, _, _, _, _]) dX9_branch_73 rfl (nI_1 j) (Nat.le_of_ble_eq_true rfl) rfl rfl ?_
        refine f_goto (tgt := 36) dX9_branch_76 (by decide) ?_
        have e9 : l_X9_branchI k b p cv F M (m + 1) j v5 = l_X9_branchI k b p cv F M m (j + 1) (if (F (b ||| ((1 : Int32) <<< ((nI j) &&& 31))) (p + 1)) < v5 then (F (b ||| ((1 : Int32) <<< ((nI j) &&& 31))) (p + 1)) else v5) := by rw [l_X9_branchI, if_neg c_40, if_neg c_50]
        exact ih (j + 1) (if (F (b ||| ((1 : Int32) <<< ((nI j) &&& 31))) (p + 1)) < v5 then (F (b ||| ((1 : Int32) <<< ((nI j) &&& 31))) (p + 1)) else v5) (by omega) (by omega) (by rw [e9] at kk; exact kk)

def sp_X9_branch (k : Nat) : Nat → fM → Int32 → Nat → Int32
  | 0, _, _, _ => 0
  | m + 1, M, b, p => (if (r_X9_firstUntested M k b) = (-1 : Int32) then (r_J6_bitCount_0f7a4 M b) else (if (nI p) < (6 : Int32) then (l_X9_branchI k b p (r_X8_rawsAt M k (r_X9_firstUntested M k b)) (sp_X9_branch k m M) M 7 0 (6 : Int32)) else (r_J6_bitCount_0f7a4 M b)))
set_option maxRecDepth 100000 in
set_option maxHeartbeats 4000000 in
theorem c_X9_branch {G : fG} (hG : fOK G) (M : fM) (dv : UInt64) (k : Nat) (hk : rState k) (N : Nat) (hN : (M (k + 11) 6) = nI N) (hN2 : N < 300) : ∀ (m : Nat) {d : Nat} (hd : 3 + m ≤ d) (b : Int32) (p : Nat), p + m = 7 → p ≤ 6 → fCt G z_X9_branch d [.ref k, .int b, .int (nI p)] (sS M dv) 0 0 (fD (some (.int (sp_X9_branch k m M b p))) (sS M dv)) := by
  intro m
  induction m with
  | zero =>
    intros
    omega
  | succ m ih =>
    intro d hd b p hp1 hp2
    refine fCt_to [some (.ref k), some (.int b), some (.int (nI p)), none, none, none, none] k_X9_branch rfl (Nat.le_of_ble_eq_true rfl) rfl ?_
    refine f_aload_n dX9_branch_0 rfl rfl ?_
    refine f_iload_n dX9_branch_1 rfl rfl ?_
    refine f_cS hG (As := [_, _]) dX9_branch_2 rfl k_X9_firstUntested rfl rfl ml_X9_27 sm_X9_firstUntested (c_X9_firstUntested hG (d := 2) (Nat.le_refl _) _ _ _ _ hk _ (by assumption) (by omega)) (by omega) (Nat.le_of_ble_eq_true rfl) (Nat.zero_le _) (Nat.zero_le _) ?_
    refine f_istore_n (ls' := [_, _, _, _, _, _, _]) dX9_branch_5 rfl (Nat.le_of_ble_eq_true rfl) rfl rfl ?_
    refine f_iload_n dX9_branch_6 rfl rfl ?_
    refine f_iconst (v := (-1)) dX9_branch_7 rfl ?_
    refine f_icmp_eq (tgt := 17) dX9_branch_8 (by decide) (fun c_8 => ?_) (fun c_8 => ?_)
    · refine f_iload_n dX9_branch_17 rfl rfl ?_
      refine f_cS hG (As := [_]) dX9_branch_18 rfl k_J6_bitCount_0f7a4 rfl rfl ml_X9_21 sm_J6_bitCount_0f7a4 (c_J6_bitCount_0f7a4 hG (d := 0) (Nat.le_refl _) _ _ _) (by omega) (Nat.le_of_ble_eq_true rfl) (Nat.zero_le _) (Nat.zero_le _) ?_
      refine f_ireturn dX9_branch_21 rfl rfl ?_
      exact ⟨by rw [sp_X9_branch, if_pos c_8], rfl⟩
    · refine f_iload_n dX9_branch_11 rfl rfl ?_
      refine f_bipush (v := 6) dX9_branch_12 (by decide) ?_
      refine f_icmp_lt (tgt := 22) dX9_branch_14 (by decide) (fun c_14 => ?_) (fun c_14 => ?_)
      · have hp : p < 6 := (nI_ltI (b := 6) (by omega) (by decide)).mp c_14
        refine f_aload_n dX9_branch_22 rfl rfl ?_
        refine f_iload_n dX9_branch_23 rfl rfl ?_
        refine f_cV hG (As := [_]) dX9_branch_24 rfl k_X8_rawsAt rfl rfl ml_X9_42 im_X8_rawsAt se_X8_rawsAt hk.1 rfl (c_X8_rawsAt hG (d := 1) (Nat.le_refl _) _ _ _ _ hk) (by omega) (Nat.le_of_ble_eq_true rfl) (Nat.zero_le _) (Nat.zero_le _) ?_
        refine f_istore (ls' := [_, _, _, _, _, _, _]) dX9_branch_27 (Nat.le_of_ble_eq_true rfl) rfl rfl ?_
        refine f_bipush (v := 6) dX9_branch_29 (by decide) ?_
        refine f_istore (ls' := [_, _, _, _, _, _, _]) dX9_branch_31 (Nat.le_of_ble_eq_true rfl) rfl rfl ?_
        refine f_iconst (v := 0) dX9_branch_33 rfl ?_
        refine f_istore (ls' := [_, _, _, _, _, _, _]) dX9_branch_34 (Nat.le_of_ble_eq_true rfl) rfl rfl ?_
        refine f_drop 3 ?_
        refine lc_X9_branchI hG (by omega) _ dv _ _ _ _ _ hk (3 + m) (by omega) (fun b' p' q1 => ih (d := 3 + m) (by omega) b' p' (by omega) (by omega)) 7 0 _ (by omega) (by omega) ?_
        refine f_iload dX9_branch_79 rfl ?_
        refine f_ireturn dX9_branch_81 rfl rfl ?_
        exact ⟨by rw [sp_X9_branch, if_neg c_8, if_pos c_14], rfl⟩
      · refine f_iload_n dX9_branch_17 rfl rfl ?_
        refine f_cS hG (As := [_]) dX9_branch_18 rfl k_J6_bitCount_0f7a4 rfl rfl ml_X9_21 sm_J6_bitCount_0f7a4 (c_J6_bitCount_0f7a4 hG (d := 0) (Nat.le_refl _) _ _ _) (by omega) (Nat.le_of_ble_eq_true rfl) (Nat.zero_le _) (Nat.zero_le _) ?_
        refine f_ireturn dX9_branch_21 rfl rfl ?_
        exact ⟨by rw [sp_X9_branch, if_neg c_8, if_neg c_14], rfl⟩

def r_X9_fewestByBranching (M : fM) (k : Nat) : Int32 := (sp_X9_branch k 7 M (0 : Int32) 0)
set_option maxRecDepth 100000 in
set_option maxHeartbeats 4000000 in
theorem c_X9_fewestByBranching {G : fG} (hG : fOK G) {d : Nat} (hd : 11 ≤ d) (M : fM) (dv : UInt64) (k : Nat) (hk : rState k) (N : Nat) (hN : (M (k + 11) 6) = nI N) (hN2 : N < 300) : fCt G z_X9_fewestByBranching d [.ref k] (sS M dv) 0 0 (fD (some (.int (r_X9_fewestByBranching M k))) (sS M dv)) := by
  refine fCt_to [some (.ref k)] k_X9_fewestByBranching rfl (Nat.le_of_ble_eq_true rfl) rfl ?_
  refine f_aload_n dX9_fewestByBranching_0 rfl rfl ?_
  refine f_iconst (v := 0) dX9_fewestByBranching_1 rfl ?_
  refine f_iconst (v := 0) dX9_fewestByBranching_2 rfl ?_
  refine f_cS hG (As := [_, _, _]) dX9_fewestByBranching_3 rfl k_X9_branch rfl rfl ml_X9_45 sm_X9_branch (c_X9_branch hG _ _ _ hk _ (by assumption) (by omega) 7 (d := 10) (by omega) _ 0 (by omega) (by omega)) (by omega) (Nat.le_of_ble_eq_true rfl) (Nat.zero_le _) (Nat.zero_le _) ?_
  refine f_ireturn dX9_fewestByBranching_6 rfl rfl ?_
  exact ⟨by rw [r_X9_fewestByBranching], rfl⟩
