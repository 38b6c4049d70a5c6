set_option maxRecDepth 100000 in
set_option maxHeartbeats 4000000 in
theorem c_X4_init {G : fG} (hG : fOK G) {d : Nat} (hd : 3 ≤ d) (k : Nat) (M : fM) (hM : zz M k) (hk : k + 194 ≤ 4000) : mkC G z_X4_init d k [] (.inl (4, bl_X4)) (bX4 (k)) M M 193 1208 := by
  intro P hP
  refine fCt_to [some (.ref k), none] k_X4_init rfl (Nat.le_of_ble_eq_true rfl) rfl ?_
  refine f_aload_n dX4_init_0 rfl rfl ?_
  refine f_objInit hG dX4_init_1 mj_X4_3 mj_obj (Nat.le_of_ble_eq_true rfl) ?_
  refine f_aload_n dX4_init_4 rfl rfl ?_
  refine f_bipush (v := 8) dX4_init_5 (by decide) ?_
  refine m_anew hG (N := 8) (n := 1) ([.inl (4, [some none, none, none])] ++ [.inr (4, 8, List.replicate 8 none)]) rfl hP rfl (hM.up (by omega)) dX4_init_7 cl_X4_9 ao_S (by decide) rfl (by decide) (by omega) (by omega) (by omega) ?_
  refine m_putr hG (sl := [some none, none, none]) (j := 0) ([.inl (4, [some (some (k + 1)), none, none])] ++ [.inr (4, 8, List.replicate 8 none)]) rfl hP rfl fl_X4_11 (Or.inr ⟨rfl, rfl, rfl⟩) dX4_init_10 rfl (Nat.le_of_ble_eq_true rfl) (fun _ => rfl) (fun _ => rfl) ?_
  refine f_aload_n dX4_init_13 rfl rfl ?_
  refine f_iconst (v := 0) dX4_init_14 rfl ?_
  refine m_put0 hG (sl := [some (some (k + 1)), none, none]) (j := 0) hP rfl (by exact hM _ (by omega) _) fl_X4_17 (Or.inl rfl) dX4_init_15 rfl rfl rfl rfl ?_
  refine f_aload_n dX4_init_18 rfl rfl ?_
  refine f_iconst (v := 0) dX4_init_19 rfl ?_
  refine m_put0 hG (sl := [some (some (k + 1)), none, none]) (j := 0) hP rfl (by exact hM _ (by omega) _) fl_X4_21 (Or.inl rfl) dX4_init_20 rfl rfl rfl rfl ?_
  refine f_iconst (v := 0) dX4_init_23 rfl ?_
  refine f_istore_n (ls' := [_, _]) dX4_init_24 rfl (Nat.le_of_ble_eq_true rfl) rfl rfl ?_
  refine f_iload_n dX4_init_25 rfl rfl ?_
  refine f_aload_n dX4_init_26 rfl rfl ?_
  refine f_getr hG fl_X4_11 dX4_init_27 (mk_get (j := 0) hP rfl) rfl ?_
  refine f_alen hG dX4_init_30 (mk_get (j := 1) hP rfl) (by decide) rfl ?_
  refine f_icmp_ge (tgt := 53) dX4_init_31 (by decide) (fun c9 => absurd c9 (by decide)) (fun c9 => ?_)
  refine f_aload_n dX4_init_34 rfl rfl ?_
  refine f_getr hG fl_X4_11 dX4_init_35 (mk_get (j := 0) hP rfl) rfl ?_
  refine f_iload_n dX4_init_38 rfl rfl ?_
  refine m_new hG (n := 2) ([.inl (4, [some (some (k + 1)), none, none])] ++ [.inr (4, 8, List.replicate 8 none)] ++ [.inl (8, bl_X8)]) rfl hP rfl (hM.up (by omega)) rfl nw_X8 dX4_init_39 cl_X4_9 in_X8 ini_X8 (by omega) (by omega) (by omega) ?_
  refine f_dup dX4_init_42 rfl ?_
  refine m_initN hG (kc := 191) (ks := 1192) (st := [.ref (k + 2), .int (0 : Int32), .ref (k + 1)]) (n := 2) (B := [.inl (4, [some (some (k + 1)), none, none])] ++ [.inr (4, 8, List.replicate 8 none)]) (as := []) (blk := bX8 (k + 2)) (M' := M) ([.inl (4, [some (some (k + 1)), none, none])] ++ [.inr (4, 8, List.replicate 8 none)] ++ bX8 (k + 2)) rfl rfl hP rfl rfl dX4_init_43 k_X8_init rfl rfl rfl ml_X4_24 im_X8_init rfl (c_X8_init hG (d := 2) (Nat.le_refl _) _ _ (hM.up (by omega)) (by omega)) (Nat.lt_of_lt_of_le (by decide) hd) rfl (Nat.le_of_ble_eq_true rfl) (by first | omega | (show _ ≤ _; omega)) (by first | omega | (show _ ≤ _; omega)) ?_
  refine m_aastore hG (rs := List.replicate 8 none) (j := 1) (r := 2) ([.inl (4, [some (some (k + 1)), none, none])] ++ [.inr (4, 8, [some (k + 2), none, none, none, none, none, none, none])] ++ bX8 (k + 2)) rfl hP rfl rfl dX4_init_46 rfl rfl (show ¬ (((0 : Int32)) < 0 ∨ 8 ≤ (0 : Int32).toNatClampNeg) by decide) rfl ?_
  refine f_iinc (v := 1) (ls' := [_, _]) dX4_init_47 rfl (by decide) (Nat.le_of_ble_eq_true rfl) rfl rfl ?_
  refine f_goto (tgt := 25) dX4_init_50 (by decide) ?_
  refine f_iload_n dX4_init_25 rfl rfl ?_
  refine f_aload_n dX4_init_26 rfl rfl ?_
  refine f_getr hG fl_X4_11 dX4_init_27 (mk_get (j := 0) hP rfl) rfl ?_
  refine f_alen hG dX4_init_30 (mk_get (j := 1) hP rfl) (by decide) rfl ?_
  refine f_icmp_ge (tgt := 53) dX4_init_31 (by decide) (fun c9 => absurd c9 (by decide)) (fun c9 => ?_)
  refine f_aload_n dX4_init_34 rfl rfl ?_
  refine f_getr hG fl_X4_11 dX4_init_35 (mk_get (j := 0) hP rfl) rfl ?_
  refine f_iload_n dX4_init_38 rfl rfl ?_
  refine m_new hG (n := 26) ([.inl (4, [some (some (k + 1)), none, none])] ++ [.inr (4, 8, [some (k + 2), none, none, none, none, none, none, none])] ++ bX8 (k + 2) ++ [.inl (8, bl_X8)]) rfl hP rfl (hM.up (by omega)) rfl nw_X8 dX4_init_39 cl_X4_9 in_X8 ini_X8 (by omega) (by omega) (by omega) ?_
  refine f_dup dX4_init_42 rfl ?_
  refine m_initN hG (kc := 167) (ks := 1042) (st := [.ref (k + 26), .int (1 : Int32), .ref (k + 1)]) (n := 26) (B := [.inl (4, [some (some (k + 1)), none, none])] ++ [.inr (4, 8, [some (k + 2), none, none, none, none, none, none, none])] ++ bX8 (k + 2)) (as := []) (blk := bX8 (k + 26)) (M' := M) ([.inl (4, [some (some (k + 1)), none, none])] ++ [.inr (4, 8, [some (k + 2), none, none, none, none, none, none, none])] ++ bX8 (k + 2) ++ bX8 (k + 26)) rfl rfl hP rfl rfl dX4_init_43 k_X8_init rfl rfl rfl ml_X4_24 im_X8_init rfl (c_X8_init hG (d := 2) (Nat.le_refl _) _ _ (hM.up (by omega)) (by omega)) (Nat.lt_of_lt_of_le (by decide) hd) rfl (Nat.le_of_ble_eq_true rfl) (by first | omega | (show _ ≤ _; omega)) (by first | omega | (show _ ≤ _; omega)) ?_
  refine m_aastore hG (rs := [some (k + 2), none, none, none, none, none, none, none]) (j := 1) (r := 26) ([.inl (4, [some (some (k + 1)), none, none])] ++ [.inr (4, 8, [some (k + 2), some (k + 26), none, none, none, none, none, none])] ++ bX8 (k + 2) ++ bX8 (k + 26)) rfl hP rfl rfl dX4_init_46 rfl rfl (show ¬ (((1 : Int32)) < 0 ∨ 8 ≤ (1 : Int32).toNatClampNeg) by decide) rfl ?_
  refine f_iinc (v := 2) (ls' := [_, _]) dX4_init_47 rfl (by decide) (Nat.le_of_ble_eq_true rfl) rfl rfl ?_
  refine f_goto (tgt := 25) dX4_init_50 (by decide) ?_
  refine f_iload_n dX4_init_25 rfl rfl ?_
  refine f_aload_n dX4_init_26 rfl rfl ?_
  refine f_getr hG fl_X4_11 dX4_init_27 (mk_get (j := 0) hP rfl) rfl ?_
  refine f_alen hG dX4_init_30 (mk_get (j := 1) hP rfl) (by decide) rfl ?_
  refine f_icmp_ge (tgt := 53) dX4_init_31 (by decide) (fun c9 => absurd c9 (by decide)) (fun c9 => ?_)
  refine f_aload_n dX4_init_34 rfl rfl ?_
  refine f_getr hG fl_X4_11 dX4_init_35 (mk_get (j := 0) hP rfl) rfl ?_
  refine f_iload_n dX4_init_38 rfl rfl ?_
  refine m_new hG (n := 50) ([.inl (4, [some (some (k + 1)), none, none])] ++ [.inr (4, 8, [some (k + 2), some (k + 26), none, none, none, none, none, none])] ++ bX8 (k + 2) ++ bX8 (k + 26) ++ [.inl (8, bl_X8)]) rfl hP rfl (hM.up (by omega)) rfl nw_X8 dX4_init_39 cl_X4_9 in_X8 ini_X8 (by omega) (by omega) (by omega) ?_
  refine f_dup dX4_init_42 rfl ?_
  refine m_initN hG (kc := 143) (ks := 892) (st := [.ref (k + 50), .int (2 : Int32), .ref (k + 1)]) (n := 50) (B := [.inl (4, [some (some (k + 1)), none, none])] ++ [.inr (4, 8, [some (k + 2), some (k + 26), none, none, none, none, none, none])] ++ bX8 (k + 2) ++ bX8 (k + 26)) (as := []) (blk := bX8 (k + 50)) (M' := M) ([.inl (4, [some (some (k + 1)), none, none])] ++ [.inr (4, 8, [some (k + 2), some (k + 26), none, none, none, none, none, none])] ++ bX8 (k + 2) ++ bX8 (k + 26) ++ bX8 (k + 50)) rfl rfl hP rfl rfl dX4_init_43 k_X8_init rfl rfl rfl ml_X4_24 im_X8_init rfl (c_X8_init hG (d := 2) (Nat.le_refl _) _ _ (hM.up (by omega)) (by omega)) (Nat.lt_of_lt_of_le (by decide) hd) rfl (Nat.le_of_ble_eq_true rfl) (by first | omega | (show _ ≤ _; omega)) (by first | omega | (show _ ≤ _; omega)) ?_
  refine m_aastore hG (rs := [some (k + 2), some (k + 26), none, none, none, none, none, none]) (j := 1) (r := 50) ([.inl (4, [some (some (k + 1)), none, none])] ++ [.inr (4, 8, [some (k + 2), some (k + 26), some (k + 50), none, none, none, none, none])] ++ bX8 (k + 2) ++ bX8 (k + 26) ++ bX8 (k + 50)) rfl hP rfl rfl dX4_init_46 rfl rfl (show ¬ (((2 : Int32)) < 0 ∨ 8 ≤ (2 : Int32).toNatClampNeg) by decide) rfl ?_
  refine f_iinc (v := 3) (ls' := [_, _]) dX4_init_47 rfl (by decide) (Nat.le_of_ble_eq_true rfl) rfl rfl ?_
  refine f_goto (tgt := 25) dX4_init_50 (by decide) ?_
  refine f_iload_n dX4_init_25 rfl rfl ?_
  refine f_aload_n dX4_init_26 rfl rfl ?_
  refine f_getr hG fl_X4_11 dX4_init_27 (mk_get (j := 0) hP rfl) rfl ?_
  refine f_alen hG dX4_init_30 (mk_get (j := 1) hP rfl) (by decide) rfl ?_
  refine f_icmp_ge (tgt := 53) dX4_init_31 (by decide) (fun c9 => absurd c9 (by decide)) (fun c9 => ?_)
  refine f_aload_n dX4_init_34 rfl rfl ?_
  refine f_getr hG fl_X4_11 dX4_init_35 (mk_get (j := 0) hP rfl) rfl ?_
  refine f_iload_n dX4_init_38 rfl rfl ?_
  refine m_new hG (n := 74) ([.inl (4, [some (some (k + 1)), none, none])] ++ [.inr (4, 8, [some (k + 2), some (k + 26), some (k + 50), none, none, none, none, none])] ++ bX8 (k + 2) ++ bX8 (k + 26) ++ bX8 (k + 50) ++ [.inl (8, bl_X8)]) rfl hP rfl (hM.up (by omega)) rfl nw_X8 dX4_init_39 cl_X4_9 in_X8 ini_X8 (by omega) (by omega) (by omega) ?_
  refine f_dup dX4_init_42 rfl ?_
  refine m_initN hG (kc := 119) (ks := 742) (st := [.ref (k + 74), .int (3 : Int32), .ref (k + 1)]) (n := 74) (B := [.inl (4, [some (some (k + 1)), none, none])] ++ [.inr (4, 8, [some (k + 2), some (k + 26), some (k + 50), none, none, none, none, none])] ++ bX8 (k + 2) ++ bX8 (k + 26) ++ bX8 (k + 50)) (as := []) (blk := bX8 (k + 74)) (M' := M) ([.inl (4, [some (some (k + 1)), none, none])] ++ [.inr (4, 8, [some (k + 2), some (k + 26), some (k + 50), none, none, none, none, none])] ++ bX8 (k + 2) ++ bX8 (k + 26) ++ bX8 (k + 50) ++ bX8 (k + 74)) rfl rfl hP rfl rfl dX4_init_43 k_X8_init rfl rfl rfl ml_X4_24 im_X8_init rfl (c_X8_init hG (d := 2) (Nat.le_refl _) _ _ (hM.up (by omega)) (by omega)) (Nat.lt_of_lt_of_le (by decide) hd) rfl (Nat.le_of_ble_eq_true rfl) (by first | omega | (show _ ≤ _; omega)) (by first | omega | (show _ ≤ _; omega)) ?_
  refine m_aastore hG (rs := [some (k + 2), some (k + 26), some (k + 50), none, none, none, none, none]) (j := 1) (r := 74) ([.inl (4, [some (some (k + 1)), none, none])] ++ [.inr (4, 8, [some (k + 2), some (k + 26), some (k + 50), some (k + 74), none, none, none, none])] ++ bX8 (k + 2) ++ bX8 (k + 26) ++ bX8 (k + 50) ++ bX8 (k + 74)) rfl hP rfl rfl dX4_init_46 rfl rfl (show ¬ (((3 : Int32)) < 0 ∨ 8 ≤ (3 : Int32).toNatClampNeg) by decide) rfl ?_
  refine f_iinc (v := 4) (ls' := [_, _]) dX4_init_47 rfl (by decide) (Nat.le_of_ble_eq_true rfl) rfl rfl ?_
  refine f_goto (tgt := 25) dX4_init_50 (by decide) ?_
  refine f_iload_n dX4_init_25 rfl rfl ?_
  refine f_aload_n dX4_init_26 rfl rfl ?_
  refine f_getr hG fl_X4_11 dX4_init_27 (mk_get (j := 0) hP rfl) rfl ?_
  refine f_alen hG dX4_init_30 (mk_get (j := 1) hP rfl) (by decide) rfl ?_
  refine f_icmp_ge (tgt := 53) dX4_init_31 (by decide) (fun c9 => absurd c9 (by decide)) (fun c9 => ?_)
  refine f_aload_n dX4_init_34 rfl rfl ?_
  refine f_getr hG fl_X4_11 dX4_init_35 (mk_get (j := 0) hP rfl) rfl ?_
  refine f_iload_n dX4_init_38 rfl rfl ?_
  refine m_new hG (n := 98) ([.inl (4, [some (some (k + 1)), none, none])] ++ [.inr (4, 8, [some (k + 2), some (k + 26), some (k + 50), some (k + 74), none, none, none, none])] ++ bX8 (k + 2) ++ bX8 (k + 26) ++ bX8 (k + 50) ++ bX8 (k + 74) ++ [.inl (8, bl_X8)]) rfl hP rfl (hM.up (by omega)) rfl nw_X8 dX4_init_39 cl_X4_9 in_X8 ini_X8 (by omega) (by omega) (by omega) ?_
  refine f_dup dX4_init_42 rfl ?_
  refine m_initN hG (kc := 95) (ks := 592) (st := [.ref (k + 98), .int (4 : Int32), .ref (k + 1)]) (n := 98) (B := [.inl (4, [some (some (k + 1)), none, none])] ++ [.inr (4, 8, [some (k + 2), some (k + 26), some (k + 50), some (k + 74), none, none, none, none])] ++ bX8 (k + 2) ++ bX8 (k + 26) ++ bX8 (k + 50) ++ bX8 (k + 74)) (as := []) (blk := bX8 (k + 98)) (M' := M) ([.inl (4, [some (some (k + 1)), none, none])] ++ [.inr (4, 8, [some (k + 2), some (k + 26), some (k + 50), some (k + 74), none, none, none, none])] ++ bX8 (k + 2) ++ bX8 (k + 26) ++ bX8 (k + 50) ++ bX8 (k + 74) ++ bX8 (k + 98)) rfl rfl hP rfl rfl dX4_init_43 k_X8_init rfl rfl rfl ml_X4_24 im_X8_init rfl (c_X8_init hG (d := 2) (Nat.le_refl _) _ _ (hM.up (by omega)) (by omega)) (Nat.lt_of_lt_of_le (by decide) hd) rfl (Nat.le_of_ble_eq_true rfl) (by first | omega | (show _ ≤ _; omega)) (by first | omega | (show _ ≤ _; omega)) ?_
  refine m_aastore hG (rs := [some (k + 2), some (k + 26), some (k + 50), some (k + 74), none, none, none, none]) (j := 1) (r := 98) ([.inl (4, [some (some (k + 1)), none, none])] ++ [.inr (4, 8, [some (k + 2), some (k + 26), some (k + 50), some (k + 74), some (k + 98), none, none, none])] ++ bX8 (k + 2) ++ bX8 (k + 26) ++ bX8 (k + 50) ++ bX8 (k + 74) ++ bX8 (k + 98)) rfl hP rfl rfl dX4_init_46 rfl rfl (show ¬ (((4 : Int32)) < 0 ∨ 8 ≤ (4 : Int32).toNatClampNeg) by decide) rfl ?_
  refine f_iinc (v := 5) (ls' := [_, _]) dX4_init_47 rfl (by decide) (Nat.le_of_ble_eq_true rfl) rfl rfl ?_
  refine f_goto (tgt := 25) dX4_init_50 (by decide) ?_
  refine f_iload_n dX4_init_25 rfl rfl ?_
  refine f_aload_n dX4_init_26 rfl rfl ?_
  refine f_getr hG fl_X4_11 dX4_init_27 (mk_get (j := 0) hP rfl) rfl ?_
  refine f_alen hG dX4_init_30 (mk_get (j := 1) hP rfl) (by decide) rfl ?_
  refine f_icmp_ge (tgt := 53) dX4_init_31 (by decide) (fun c9 => absurd c9 (by decide)) (fun c9 => ?_)
  refine f_aload_n dX4_init_34 rfl rfl ?_
  refine f_getr hG fl_X4_11 dX4_init_35 (mk_get (j := 0) hP rfl) rfl ?_
  refine f_iload_n dX4_init_38 rfl rfl ?_
  refine m_new hG (n := 122) ([.inl (4, [some (some (k + 1)), none, none])] ++ [.inr (4, 8, [some (k + 2), some (k + 26), some (k + 50), some (k + 74), some (k + 98), none, none, none])] ++ bX8 (k + 2) ++ bX8 (k + 26) ++ bX8 (k + 50) ++ bX8 (k + 74) ++ bX8 (k + 98) ++ [.inl (8, bl_X8)]) rfl hP rfl (hM.up (by omega)) rfl nw_X8 dX4_init_39 cl_X4_9 in_X8 ini_X8 (by omega) (by omega) (by omega) ?_
  refine f_dup dX4_init_42 rfl ?_
  refine m_initN hG (kc := 71) (ks := 442) (st := [.ref (k + 122), .int (5 : Int32), .ref (k + 1)]) (n := 122) (B := [.inl (4, [some (some (k + 1)), none, none])] ++ [.inr (4, 8, [some (k + 2), some (k + 26), some (k + 50), some (k + 74), some (k + 98), none, none, none])] ++ bX8 (k + 2) ++ bX8 (k + 26) ++ bX8 (k + 50) ++ bX8 (k + 74) ++ bX8 (k + 98)) (as := []) (blk := bX8 (k + 122)) (M' := M) ([.inl (4, [some (some (k + 1)), none, none])] ++ [.inr (4, 8, [some (k + 2), some (k + 26), some (k + 50), some (k + 74), some (k + 98), none, none, none])] ++ bX8 (k + 2) ++ bX8 (k + 26) ++ bX8 (k + 50) ++ bX8 (k + 74) ++ bX8 (k + 98) ++ bX8 (k + 122)) rfl rfl hP rfl rfl dX4_init_43 k_X8_init rfl rfl rfl ml_X4_24 im_X8_init rfl (c_X8_init hG (d := 2) (Nat.le_refl _) _ _ (hM.up (by omega)) (by omega)) (Nat.lt_of_lt_of_le (by decide) hd) rfl (Nat.le_of_ble_eq_true rfl) (by first | omega | (show _ ≤ _; omega)) (by first | omega | (show _ ≤ _; omega)) ?_
  refine m_aastore hG (rs := [some (k + 2), some (k + 26), some (k + 50), some (k + 74), some (k + 98), none, none, none]) (j := 1) (r := 122) ([.inl (4, [some (some (k + 1)), none, none])] ++ [.inr (4, 8, [some (k + 2), some (k + 26), some (k + 50), some (k + 74), some (k + 98), some (k + 122), none, none])] ++ bX8 (k + 2) ++ bX8 (k + 26) ++ bX8 (k + 50) ++ bX8 (k + 74) ++ bX8 (k + 98) ++ bX8 (k + 122)) rfl hP rfl rfl dX4_init_46 rfl rfl (show ¬ (((5 : Int32)) < 0 ∨ 8 ≤ (5 : Int32).toNatClampNeg) by decide) rfl ?_
  refine f_iinc (v := 6) (ls' := [_, _]) dX4_init_47 rfl (by decide) (Nat.le_of_ble_eq_true rfl) rfl rfl ?_
  refine f_goto (tgt := 25) dX4_init_50 (by decide) ?_
  refine f_iload_n dX4_init_25 rfl rfl ?_
  refine f_aload_n dX4_init_26 rfl rfl ?_
  refine f_getr hG fl_X4_11 dX4_init_27 (mk_get (j := 0) hP rfl) rfl ?_
  refine f_alen hG dX4_init_30 (mk_get (j := 1) hP rfl) (by decide) rfl ?_
  refine f_icmp_ge (tgt := 53) dX4_init_31 (by decide) (fun c9 => absurd c9 (by decide)) (fun c9 => ?_)
  refine f_aload_n dX4_init_34 rfl rfl ?_
  refine f_getr hG fl_X4_11 dX4_init_35 (mk_get (j := 0) hP rfl) rfl ?_
  refine f_iload_n dX4_init_38 rfl rfl ?_
  refine m_new hG (n := 146) ([.inl (4, [some (some (k + 1)), none, none])] ++ [.inr (4, 8, [some (k + 2), some (k + 26), some (k + 50), some (k + 74), some (k + 98), some (k + 122), none, none])] ++ bX8 (k + 2) ++ bX8 (k + 26) ++ bX8 (k + 50) ++ bX8 (k + 74) ++ bX8 (k + 98) ++ bX8 (k + 122) ++ [.inl (8, bl_X8)]) rfl hP rfl (hM.up (by omega)) rfl nw_X8 dX4_init_39 cl_X4_9 in_X8 ini_X8 (by omega) (by omega) (by omega) ?_
  refine f_dup dX4_init_42 rfl ?_
  refine m_initN hG (kc := 47) (ks := 292) (st := [.ref (k + 146), .int (6 : Int32), .ref (k + 1)]) (n := 146) (B := [.inl (4, [some (some (k + 1)), none, none])] ++ [.inr (4, 8, [some (k + 2), some (k + 26), some (k + 50), some (k + 74), some (k + 98), some (k + 122), none, none])] ++ bX8 (k + 2) ++ bX8 (k + 26) ++ bX8 (k + 50) ++ bX8 (k + 74) ++ bX8 (k + 98) ++ bX8 (k + 122)) (as := []) (blk := bX8 (k + 146)) (M' := M) ([.inl (4, [some (some (k + 1)), none, none])] ++ [.inr (4, 8, [some (k + 2), some (k + 26), some (k + 50), some (k + 74), some (k + 98), some (k + 122), none, none])] ++ bX8 (k + 2) ++ bX8 (k + 26) ++ bX8 (k + 50) ++ bX8 (k + 74) ++ bX8 (k + 98) ++ bX8 (k + 122) ++ bX8 (k + 146)) rfl rfl hP rfl rfl dX4_init_43 k_X8_init rfl rfl rfl ml_X4_24 im_X8_init rfl (c_X8_init hG (d := 2) (Nat.le_refl _) _ _ (hM.up (by omega)) (by omega)) (Nat.lt_of_lt_of_le (by decide) hd) rfl (Nat.le_of_ble_eq_true rfl) (by first | omega | (show _ ≤ _; omega)) (by first | omega | (show _ ≤ _; omega)) ?_
  refine m_aastore hG (rs := [some (k + 2), some (k + 26), some (k + 50), some (k + 74), some (k + 98), some (k + 122), none, none]) (j := 1) (r := 146) ([.inl (4, [some (some (k + 1)), none, none])] ++ [.inr (4, 8, [some (k + 2), some (k + 26), some (k + 50), some (k + 74), some (k + 98), some (k + 122), some (k + 146), none])] ++ bX8 (k + 2) ++ bX8 (k + 26) ++ bX8 (k + 50) ++ bX8 (k + 74) ++ bX8 (k + 98) ++ bX8 (k + 122) ++ bX8 (k + 146)) rfl hP rfl rfl dX4_init_46 rfl rfl (show ¬ (((6 : Int32)) < 0 ∨ 8 ≤ (6 : Int32).toNatClampNeg) by decide) rfl ?_
  refine f_iinc (v := 7) (ls' := [_, _]) dX4_init_47 rfl (by decide) (Nat.le_of_ble_eq_true rfl) rfl rfl ?_
  refine f_goto (tgt := 25) dX4_init_50 (by decide) ?_
  refine f_iload_n dX4_init_25 rfl rfl ?_
  refine f_aload_n dX4_init_26 rfl rfl ?_
  refine f_getr hG fl_X4_11 dX4_init_27 (mk_get (j := 0) hP rfl) rfl ?_
  refine f_alen hG dX4_init_30 (mk_get (j := 1) hP rfl) (by decide) rfl ?_
  refine f_icmp_ge (tgt := 53) dX4_init_31 (by decide) (fun c9 => absurd c9 (by decide)) (fun c9 => ?_)
  refine f_aload_n dX4_init_34 rfl rfl ?_
  refine f_getr hG fl_X4_11 dX4_init_35 (mk_get (j := 0) hP rfl) rfl ?_
  refine f_iload_n dX4_init_38 rfl rfl ?_
  refine m_new hG (n := 170) ([.inl (4, [some (some (k + 1)), none, none])] ++ [.inr (4, 8, [some (k + 2), some (k + 26), some (k + 50), some (k + 74), some (k + 98), some (k + 122), some (k + 146), none])] ++ bX8 (k + 2) ++ bX8 (k + 26) ++ bX8 (k + 50) ++ bX8 (k + 74) ++ bX8 (k + 98) ++ bX8 (k + 122) ++ bX8 (k + 146) ++ [.inl (8, bl_X8)]) rfl hP rfl (hM.up (by omega)) rfl nw_X8 dX4_init_39 cl_X4_9 in_X8 ini_X8 (by omega) (by omega) (by omega) ?_
  refine f_dup dX4_init_42 rfl ?_
  refine m_initN hG (kc := 23) (ks := 142) (st := [.ref (k + 170), .int (7 : Int32), .ref (k + 1)]) (n := 170) (B := [.inl (4, [some (some (k + 1)), none, none])] ++ [.inr (4, 8, [some (k + 2), some (k + 26), some (k + 50), some (k + 74), some (k + 98), some (k + 122), some (k + 146), none])] ++ bX8 (k + 2) ++ bX8 (k + 26) ++ bX8 (k + 50) ++ bX8 (k + 74) ++ bX8 (k + 98) ++ bX8 (k + 122) ++ bX8 (k + 146)) (as := []) (blk := bX8 (k + 170)) (M' := M) ([.inl (4, [some (some (k + 1)), none, none])] ++ [.inr (4, 8, [some (k + 2), some (k + 26), some (k + 50), some (k + 74), some (k + 98), some (k + 122), some (k + 146), none])] ++ bX8 (k + 2) ++ bX8 (k + 26) ++ bX8 (k + 50) ++ bX8 (k + 74) ++ bX8 (k + 98) ++ bX8 (k + 122) ++ bX8 (k + 146) ++ bX8 (k + 170)) rfl rfl hP rfl rfl dX4_init_43 k_X8_init rfl rfl rfl ml_X4_24 im_X8_init rfl (c_X8_init hG (d := 2) (Nat.le_refl _) _ _ (hM.up (by omega)) (by omega)) (Nat.lt_of_lt_of_le (by decide) hd) rfl (Nat.le_of_ble_eq_true rfl) (by first | omega | (show _ ≤ _; omega)) (by first | omega | (show _ ≤ _; omega)) ?_
  refine m_aastore hG (rs := [some (k + 2), some (k + 26), some (k + 50), some (k + 74), some (k + 98), some (k + 122), some (k + 146), none]) (j := 1) (r := 170) ([.inl (4, [some (some (k + 1)), none, none])] ++ [.inr (4, 8, [some (k + 2), some (k + 26), some (k + 50), some (k + 74), some (k + 98), some (k + 122), some (k + 146), some (k + 170)])] ++ bX8 (k + 2) ++ bX8 (k + 26) ++ bX8 (k + 50) ++ bX8 (k + 74) ++ bX8 (k + 98) ++ bX8 (k + 122) ++ bX8 (k + 146) ++ bX8 (k + 170)) rfl hP rfl rfl dX4_init_46 rfl rfl (show ¬ (((7 : Int32)) < 0 ∨ 8 ≤ (7 : Int32).toNatClampNeg) by decide) rfl ?_
  refine f_iinc (v := 8) (ls' := [_, _]) dX4_init_47 rfl (by decide) (Nat.le_of_ble_eq_true rfl) rfl rfl ?_
  refine f_goto (tgt := 25) dX4_init_50 (by decide) ?_
  refine f_iload_n dX4_init_25 rfl rfl ?_
  refine f_aload_n dX4_init_26 rfl rfl ?_
  refine f_getr hG fl_X4_11 dX4_init_27 (mk_get (j := 0) hP rfl) rfl ?_
  refine f_alen hG dX4_init_30 (mk_get (j := 1) hP rfl) (by decide) rfl ?_
  refine f_icmp_ge (tgt := 53) dX4_init_31 (by decide) (fun c9 => ?_) (fun c9 => absurd (by decide) c9)
  refine f_return dX4_init_53 rfl ?_
  exact ⟨rfl, rfl⟩
