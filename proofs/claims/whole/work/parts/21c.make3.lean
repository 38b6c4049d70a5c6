/-! ===== constructors: the contracts ===== -/
noncomputable def bX7 (k : Nat) (n : Nat) : List fE := [.inl (7, [some (some (k + 1))]), .inr (0, n, [])]
noncomputable def bX10 (k : Nat) (n : Nat) : List fE := [.inl (9, [none, some (some (k + 1)), none])] ++ bX7 (k + 1) n
noncomputable def bX0 (k : Nat) : List fE := [.inl (0, [some (some (k + 1)), some (some (k + 3)), none, none, none])] ++ bX7 (k + 1) 6 ++ bX7 (k + 3) 6
noncomputable def bX6 (k : Nat) : List fE := [.inl (6, [some (some (k + 1)), some (some (k + 3)), none])] ++ bX7 (k + 1) 8 ++ bX7 (k + 3) 48
noncomputable def bX5 (k : Nat) : List fE := [.inl (5, [some (some (k + 1)), some (some (k + 3)), some (some (k + 5)), some (some (k + 7)), some (some (k + 9)), some (some (k + 11)), none, none])] ++ bX7 (k + 1) 8 ++ bX7 (k + 3) 8 ++ bX7 (k + 5) 8 ++ bX7 (k + 7) 8 ++ bX7 (k + 9) 8 ++ bX7 (k + 11) 8
noncomputable def bX8 (k : Nat) : List fE := [.inl (8, [some (some (k + 1)), some (some (k + 6)), some (some (k + 11)), none, none, none, none, none])] ++ bX0 (k + 1) ++ bX6 (k + 6) ++ bX5 (k + 11)
noncomputable def bX4 (k : Nat) : List fE := [.inl (4, [some (some (k + 1)), none, none]), .inr (4, 8, [some (k + 2), some (k + 26), some (k + 50), some (k + 74), some (k + 98), some (k + 122), some (k + 146), some (k + 170)])] ++ bX8 (k + 2) ++ bX8 (k + 26) ++ bX8 (k + 50) ++ bX8 (k + 74) ++ bX8 (k + 98) ++ bX8 (k + 122) ++ bX8 (k + 146) ++ bX8 (k + 170)
noncomputable def bX1 (k : Nat) : List fE := [.inl (1, [some (some (k + 1)), some (some (k + 4)), some (some (k + 6)), none, none, none])] ++ bX10 (k + 1) 60 ++ bX7 (k + 4) 20 ++ bX7 (k + 6) 80
noncomputable def bX3 (k : Nat) : List fE := [.inl (3, [some (some (k + 1)), some (some (k + 3))])] ++ bX7 (k + 1) 91 ++ bX7 (k + 3) 91
noncomputable def bX2 (k : Nat) : List fE := [.inl (2, [some (some (k + 1)), some (some (k + 3)), some (some (k + 5))])] ++ bX7 (k + 1) 256 ++ bX7 (k + 3) 256 ++ bX7 (k + 5) 8
set_option maxRecDepth 100000 in
set_option maxHeartbeats 4000000 in
theorem c_X7_init {G : fG} (hG : fOK G) {d : Nat} (hd : 0 ≤ d) (k : Nat) (n : Nat) (hn : n ≤ 1000) (M : fM) (hM : zz M k) (hk : k + 2 ≤ 4000) : mkC G z_X7_init d k [.int (nI n)] (.inl (7, bl_X7)) (bX7 (k) n) M M 1 n := by
  intro P hP
  refine fCt_to [some (.ref k), some (.int (nI n))] k_X7_init rfl (Nat.le_of_ble_eq_true rfl) rfl ?_
  refine f_aload_n dX7_init_0 rfl rfl ?_
  refine f_objInit hG dX7_init_1 mj_X7_1 mj_obj (Nat.le_of_ble_eq_true rfl) ?_
  refine f_aload_n dX7_init_4 rfl rfl ?_
  refine f_iload_n dX7_init_5 rfl rfl ?_
  refine f_iconst (v := 0) dX7_init_6 rfl ?_
  refine f_mmax hG dX7_init_7 mj_X7_7 mj_max (Nat.le_of_ble_eq_true rfl) ?_
  rw [show (if nI n < (0 : Int32) then (0 : Int32) else nI n) = nI n from if_neg (nI_pos (by omega))]
  refine m_newarr hG (N := n) (n := 1) ([.inl (7, [some none])] ++ [.inr (0, n, [])]) rfl hP rfl (hM.up (by omega)) dX7_init_10 rfl (by decide) ac_int (nI_pos (by omega)) (nI_clamp (by omega)) (show n * 4 ≤ _ by omega) (by omega) (by omega) (by omega) ?_
  refine m_putr hG (sl := [some none]) (j := 0) ([.inl (7, [some (some (k + 1))])] ++ [.inr (0, n, [])]) rfl hP rfl fl_X7_13 (Or.inr ⟨rfl, rfl, rfl⟩) dX7_init_12 rfl (Nat.le_of_ble_eq_true rfl) (fun _ => rfl) (fun _ => rfl) ?_
  refine f_return dX7_init_15 rfl ?_
  exact ⟨rfl, rfl⟩
set_option maxRecDepth 100000 in
set_option maxHeartbeats 4000000 in
theorem c_X10_init {G : fG} (hG : fOK G) {d : Nat} (hd : 1 ≤ d) (k : Nat) (n : Nat) (hn : n ≤ 1000) (M : fM) (hM : zz M k) (hk : k + 3 ≤ 4000) : mkC G z_X10_init d k [.int (nI n)] (.inl (9, bl_X10)) (bX10 (k) n) M (fst1 M (k) 0 (nI n)) 2 (1 + n) := by
  intro P hP
  refine fCt_to [some (.ref k), some (.int (nI n))] k_X10_init rfl (Nat.le_of_ble_eq_true rfl) rfl ?_
  refine f_aload_n dX10_init_0 rfl rfl ?_
  refine f_objInit hG dX10_init_1 mj_X10_1 mj_obj (Nat.le_of_ble_eq_true rfl) ?_
  refine f_aload_n dX10_init_4 rfl rfl ?_
  refine f_iconst (v := 0) dX10_init_5 rfl ?_
  refine m_put0 hG (sl := [none, some none, none]) (j := 0) hP rfl (by exact hM _ (by omega) _) fl_X10_7 (Or.inl rfl) dX10_init_6 rfl rfl rfl rfl ?_
  refine f_aload_n dX10_init_9 rfl rfl ?_
  refine f_iload_n dX10_init_10 rfl rfl ?_
  refine m_puti hG (sl := [none, some none, none]) (j := 0) hP rfl fl_X10_13 (Or.inr ⟨rfl, rfl, rfl⟩) dX10_init_11 rfl rfl rfl rfl ?_
  refine f_aload_n dX10_init_14 rfl rfl ?_
  refine m_new hG (n := 1) ([.inl (9, [none, some none, none])] ++ [.inl (7, bl_X7)]) rfl hP rfl (zz.put (hM.up (by omega)) (by omega)) rfl nw_X7 dX10_init_15 cl_X10_16 in_X7 ini_X7 (by omega) (by omega) (by omega) ?_
  refine f_dup dX10_init_18 rfl ?_
  refine f_iload_n dX10_init_19 rfl rfl ?_
  refine m_init hG (kc := 1) (ks := (1 + n) - 1) (st := [.ref (k + 1), .ref (k)]) (n := 1) (B := [.inl (9, [none, some none, none])]) (as := [.int (nI n)]) (blk := bX7 (k + 1) n) (M' := (fst1 M (k) 0 (nI n))) ([.inl (9, [none, some none, none])] ++ bX7 (k + 1) n) rfl rfl hP rfl rfl dX10_init_20 k_X7_init rfl rfl rfl ml_X10_18 im_X7_init rfl (c_X7_init hG (d := 0) (Nat.le_refl _) _ n (by omega) _ (zz.put (hM.up (by omega)) (by omega)) (by omega)) (Nat.lt_of_lt_of_le (by decide) hd) rfl (Nat.le_of_ble_eq_true rfl) (by first | omega | (show _ ≤ _; omega)) (by first | omega | (show _ ≤ _; omega)) ?_
  refine m_putr hG (sl := [none, some none, none]) (j := 0) ([.inl (9, [none, some (some (k + 1)), none])] ++ bX7 (k + 1) n) rfl hP rfl fl_X10_21 (Or.inr ⟨rfl, rfl, rfl⟩) dX10_init_23 rfl (Nat.le_of_ble_eq_true rfl) (fun _ => rfl) (fun _ => rfl) ?_
  refine f_return dX10_init_26 rfl ?_
  exact ⟨rfl, rfl⟩
set_option maxRecDepth 100000 in
set_option maxHeartbeats 4000000 in
theorem c_X0_init {G : fG} (hG : fOK G) {d : Nat} (hd : 1 ≤ d) (k : Nat) (M : fM) (hM : zz M k) (hk : k + 5 ≤ 4000) : mkC G z_X0_init d k [] (.inl (0, bl_X0)) (bX0 (k)) M M 4 14 := by
  intro P hP
  refine fCt_to [some (.ref k)] k_X0_init rfl (Nat.le_of_ble_eq_true rfl) rfl ?_
  refine f_aload_n dX0_init_0 rfl rfl ?_
  refine f_objInit hG dX0_init_1 mj_X0_3 mj_obj (Nat.le_of_ble_eq_true rfl) ?_
  refine f_aload_n dX0_init_4 rfl rfl ?_
  refine m_new hG (n := 1) ([.inl (0, [some none, some none, none, none, none])] ++ [.inl (7, bl_X7)]) rfl hP rfl (hM.up (by omega)) rfl nw_X7 dX0_init_5 cl_X0_9 in_X7 ini_X7 (by omega) (by omega) (by omega) ?_
  refine f_dup dX0_init_8 rfl ?_
  refine f_bipush (v := 6) dX0_init_9 (by decide) ?_
  refine f_cg (st' := .int (nI 6) :: .ref (k + 1) :: [.ref (k + 1), .ref (k)]) rfl (congrArg (fun q => Value.int q :: .ref (k + 1) :: [.ref (k + 1), .ref (k)]) (show (6 : Int32) = nI 6 from rfl)) rfl ?_
  refine m_init hG (kc := 3) (ks := 13) (st := [.ref (k + 1), .ref (k)]) (n := 1) (B := [.inl (0, [some none, some none, none, none, none])]) (as := [.int (nI 6)]) (blk := bX7 (k + 1) 6) (M' := M) ([.inl (0, [some none, some none, none, none, none])] ++ bX7 (k + 1) 6) rfl rfl hP rfl rfl dX0_init_11 k_X7_init rfl rfl rfl ml_X0_11 im_X7_init rfl (c_X7_init hG (d := 0) (Nat.le_refl _) _ 6 (by omega) _ (hM.up (by omega)) (by omega)) (Nat.lt_of_lt_of_le (by decide) hd) rfl (Nat.le_of_ble_eq_true rfl) (by first | omega | (show _ ≤ _; omega)) (by first | omega | (show _ ≤ _; omega)) ?_
  refine m_putr hG (sl := [some none, some none, none, none, none]) (j := 0) ([.inl (0, [some (some (k + 1)), some none, none, none, none])] ++ bX7 (k + 1) 6) rfl hP rfl fl_X0_14 (Or.inr ⟨rfl, rfl, rfl⟩) dX0_init_14 rfl (Nat.le_of_ble_eq_true rfl) (fun _ => rfl) (fun _ => rfl) ?_
  refine f_aload_n dX0_init_17 rfl rfl ?_
  refine m_new hG (n := 3) ([.inl (0, [some (some (k + 1)), some none, none, none, none])] ++ bX7 (k + 1) 6 ++ [.inl (7, bl_X7)]) rfl hP rfl (hM.up (by omega)) rfl nw_X7 dX0_init_18 cl_X0_9 in_X7 ini_X7 (by omega) (by omega) (by omega) ?_
  refine f_dup dX0_init_21 rfl ?_
  refine f_bipush (v := 6) dX0_init_22 (by decide) ?_
  refine f_cg (st' := .int (nI 6) :: .ref (k + 3) :: [.ref (k + 3), .ref (k)]) rfl (congrArg (fun q => Value.int q :: .ref (k + 3) :: [.ref (k + 3), .ref (k)]) (show (6 : Int32) = nI 6 from rfl)) rfl ?_
  refine m_init hG (kc := 1) (ks := 6) (st := [.ref (k + 3), .ref (k)]) (n := 3) (B := [.inl (0, [some (some (k + 1)), some none, none, none, none])] ++ bX7 (k + 1) 6) (as := [.int (nI 6)]) (blk := bX7 (k + 3) 6) (M' := M) ([.inl (0, [some (some (k + 1)), some none, none, none, none])] ++ bX7 (k + 1) 6 ++ bX7 (k + 3) 6) rfl rfl hP rfl rfl dX0_init_24 k_X7_init rfl rfl rfl ml_X0_11 im_X7_init rfl (c_X7_init hG (d := 0) (Nat.le_refl _) _ 6 (by omega) _ (hM.up (by omega)) (by omega)) (Nat.lt_of_lt_of_le (by decide) hd) rfl (Nat.le_of_ble_eq_true rfl) (by first | omega | (show _ ≤ _; omega)) (by first | omega | (show _ ≤ _; omega)) ?_
  refine m_putr hG (sl := [some (some (k + 1)), some none, none, none, none]) (j := 0) ([.inl (0, [some (some (k + 1)), some (some (k + 3)), none, none, none])] ++ bX7 (k + 1) 6 ++ bX7 (k + 3) 6) rfl hP rfl fl_X0_20 (Or.inr ⟨rfl, rfl, rfl⟩) dX0_init_27 rfl (Nat.le_of_ble_eq_true rfl) (fun _ => rfl) (fun _ => rfl) ?_
  refine f_aload_n dX0_init_30 rfl rfl ?_
  refine f_iconst (v := 0) dX0_init_31 rfl ?_
  refine m_put0 hG (sl := [some (some (k + 1)), some (some (k + 3)), none, none, none]) (j := 0) hP rfl (by exact hM _ (by omega) _) fl_X0_23 (Or.inl rfl) dX0_init_32 rfl rfl rfl rfl ?_
  refine f_aload_n dX0_init_35 rfl rfl ?_
  refine f_iconst (v := 0) dX0_init_36 rfl ?_
  refine m_put0 hG (sl := [some (some (k + 1)), some (some (k + 3)), none, none, none]) (j := 0) hP rfl (by exact hM _ (by omega) _) fl_X0_27 (Or.inl rfl) dX0_init_37 rfl rfl rfl rfl ?_
  refine f_aload_n dX0_init_40 rfl rfl ?_
  refine f_iconst (v := 0) dX0_init_41 rfl ?_
  refine m_put0 hG (sl := [some (some (k + 1)), some (some (k + 3)), none, none, none]) (j := 0) hP rfl (by exact hM _ (by omega) _) fl_X0_30 (Or.inl rfl) dX0_init_42 rfl rfl rfl rfl ?_
  refine f_return dX0_init_45 rfl ?_
  exact ⟨rfl, rfl⟩
set_option maxRecDepth 100000 in
set_option maxHeartbeats 4000000 in
theorem c_X6_init {G : fG} (hG : fOK G) {d : Nat} (hd : 1 ≤ d) (k : Nat) (M : fM) (hM : zz M k) (hk : k + 5 ≤ 4000) : mkC G z_X6_init d k [] (.inl (6, bl_X6)) (bX6 (k)) M M 4 58 := by
  intro P hP
  refine fCt_to [some (.ref k)] k_X6_init rfl (Nat.le_of_ble_eq_true rfl) rfl ?_
  refine f_aload_n dX6_init_0 rfl rfl ?_
  refine f_objInit hG dX6_init_1 mj_X6_3 mj_obj (Nat.le_of_ble_eq_true rfl) ?_
  refine f_aload_n dX6_init_4 rfl rfl ?_
  refine m_new hG (n := 1) ([.inl (6, [some none, some none, none])] ++ [.inl (7, bl_X7)]) rfl hP rfl (hM.up (by omega)) rfl nw_X7 dX6_init_5 cl_X6_9 in_X7 ini_X7 (by omega) (by omega) (by omega) ?_
  refine f_dup dX6_init_8 rfl ?_
  refine f_bipush (v := 8) dX6_init_9 (by decide) ?_
  refine f_cg (st' := .int (nI 8) :: .ref (k + 1) :: [.ref (k + 1), .ref (k)]) rfl (congrArg (fun q => Value.int q :: .ref (k + 1) :: [.ref (k + 1), .ref (k)]) (show (8 : Int32) = nI 8 from rfl)) rfl ?_
  refine m_init hG (kc := 3) (ks := 57) (st := [.ref (k + 1), .ref (k)]) (n := 1) (B := [.inl (6, [some none, some none, none])]) (as := [.int (nI 8)]) (blk := bX7 (k + 1) 8) (M' := M) ([.inl (6, [some none, some none, none])] ++ bX7 (k + 1) 8) rfl rfl hP rfl rfl dX6_init_11 k_X7_init rfl rfl rfl ml_X6_11 im_X7_init rfl (c_X7_init hG (d := 0) (Nat.le_refl _) _ 8 (by omega) _ (hM.up (by omega)) (by omega)) (Nat.lt_of_lt_of_le (by decide) hd) rfl (Nat.le_of_ble_eq_true rfl) (by first | omega | (show _ ≤ _; omega)) (by first | omega | (show _ ≤ _; omega)) ?_
  refine m_putr hG (sl := [some none, some none, none]) (j := 0) ([.inl (6, [some (some (k + 1)), some none, none])] ++ bX7 (k + 1) 8) rfl hP rfl fl_X6_14 (Or.inr ⟨rfl, rfl, rfl⟩) dX6_init_14 rfl (Nat.le_of_ble_eq_true rfl) (fun _ => rfl) (fun _ => rfl) ?_
  refine f_aload_n dX6_init_17 rfl rfl ?_
  refine m_new hG (n := 3) ([.inl (6, [some (some (k + 1)), some none, none])] ++ bX7 (k + 1) 8 ++ [.inl (7, bl_X7)]) rfl hP rfl (hM.up (by omega)) rfl nw_X7 dX6_init_18 cl_X6_9 in_X7 ini_X7 (by omega) (by omega) (by omega) ?_
  refine f_dup dX6_init_21 rfl ?_
  refine f_bipush (v := 48) dX6_init_22 (by decide) ?_
  refine f_cg (st' := .int (nI 48) :: .ref (k + 3) :: [.ref (k + 3), .ref (k)]) rfl (congrArg (fun q => Value.int q :: .ref (k + 3) :: [.ref (k + 3), .ref (k)]) (show (48 : Int32) = nI 48 from rfl)) rfl ?_
  refine m_init hG (kc := 1) (ks := 48) (st := [.ref (k + 3), .ref (k)]) (n := 3) (B := [.inl (6, [some (some (k + 1)), some none, none])] ++ bX7 (k + 1) 8) (as := [.int (nI 48)]) (blk := bX7 (k + 3) 48) (M' := M) ([.inl (6, [some (some (k + 1)), some none, none])] ++ bX7 (k + 1) 8 ++ bX7 (k + 3) 48) rfl rfl hP rfl rfl dX6_init_24 k_X7_init rfl rfl rfl ml_X6_11 im_X7_init rfl (c_X7_init hG (d := 0) (Nat.le_refl _) _ 48 (by omega) _ (hM.up (by omega)) (by omega)) (Nat.lt_of_lt_of_le (by decide) hd) rfl (Nat.le_of_ble_eq_true rfl) (by first | omega | (show _ ≤ _; omega)) (by first | omega | (show _ ≤ _; omega)) ?_
  refine m_putr hG (sl := [some (some (k + 1)), some none, none]) (j := 0) ([.inl (6, [some (some (k + 1)), some (some (k + 3)), none])] ++ bX7 (k + 1) 8 ++ bX7 (k + 3) 48) rfl hP rfl fl_X6_20 (Or.inr ⟨rfl, rfl, rfl⟩) dX6_init_27 rfl (Nat.le_of_ble_eq_true rfl) (fun _ => rfl) (fun _ => rfl) ?_
  refine f_aload_n dX6_init_30 rfl rfl ?_
  refine f_iconst (v := 0) dX6_init_31 rfl ?_
  refine m_put0 hG (sl := [some (some (k + 1)), some (some (k + 3)), none]) (j := 0) hP rfl (by exact hM _ (by omega) _) fl_X6_23 (Or.inl rfl) dX6_init_32 rfl rfl rfl rfl ?_
  refine f_return dX6_init_35 rfl ?_
  exact ⟨rfl, rfl⟩
set_option maxRecDepth 100000 in
set_option maxHeartbeats 4000000 in
theorem c_X5_init {G : fG} (hG : fOK G) {d : Nat} (hd : 1 ≤ d) (k : Nat) (M : fM) (hM : zz M k) (hk : k + 13 ≤ 4000) : mkC G z_X5_init d k [] (.inl (5, bl_X5)) (bX5 (k)) M M 12 54 := by
  intro P hP
  refine fCt_to [some (.ref k)] k_X5_init rfl (Nat.le_of_ble_eq_true rfl) rfl ?_
  refine f_aload_n dX5_init_0 rfl rfl ?_
  refine f_objInit hG dX5_init_1 mj_X5_3 mj_obj (Nat.le_of_ble_eq_true rfl) ?_
  refine f_aload_n dX5_init_4 rfl rfl ?_
  refine m_new hG (n := 1) ([.inl (5, [some none, some none, some none, some none, some none, some none, none, none])] ++ [.inl (7, bl_X7)]) rfl hP rfl (hM.up (by omega)) rfl nw_X7 dX5_init_5 cl_X5_9 in_X7 ini_X7 (by omega) (by omega) (by omega) ?_
  refine f_dup dX5_init_8 rfl ?_
  refine f_bipush (v := 8) dX5_init_9 (by decide) ?_
  refine f_cg (st' := .int (nI 8) :: .ref (k + 1) :: [.ref (k + 1), .ref (k)]) rfl (congrArg (fun q => Value.int q :: .ref (k + 1) :: [.ref (k + 1), .ref (k)]) (show (8 : Int32) = nI 8 from rfl)) rfl ?_
  refine m_init hG (kc := 11) (ks := 53) (st := [.ref (k + 1), .ref (k)]) (n := 1) (B := [.inl (5, [some none, some none, some none, some none, some none, some none, none, none])]) (as := [.int (nI 8)]) (blk := bX7 (k + 1) 8) (M' := M) ([.inl (5, [some none, some none, some none, some none, some none, some none, none, none])] ++ bX7 (k + 1) 8) rfl rfl hP rfl rfl dX5_init_11 k_X7_init rfl rfl rfl ml_X5_11 im_X7_init rfl (c_X7_init hG (d := 0) (Nat.le_refl _) _ 8 (by omega) _ (hM.up (by omega)) (by omega)) (Nat.lt_of_lt_of_le (by decide) hd) rfl (Nat.le_of_ble_eq_true rfl) (by first | omega | (show _ ≤ _; omega)) (by first | omega | (show _ ≤ _; omega)) ?_
  refine m_putr hG (sl := [some none, some none, some none, some none, some none, some none, none, none]) (j := 0) ([.inl (5, [some (some (k + 1)), some none, some none, some none, some none, some none, none, none])] ++ bX7 (k + 1) 8) rfl hP rfl fl_X5_14 (Or.inr ⟨rfl, rfl, rfl⟩) dX5_init_14 rfl (Nat.le_of_ble_eq_true rfl) (fun _ => rfl) (fun _ => rfl) ?_
  refine f_aload_n dX5_init_17 rfl rfl ?_
  refine m_new hG (n := 3) ([.inl (5, [some (some (k + 1)), some none, some none, some none, some none, some none, none, none])] ++ bX7 (k + 1) 8 ++ [.inl (7, bl_X7)]) rfl hP rfl (hM.up (by omega)) rfl nw_X7 dX5_init_18 cl_X5_9 in_X7 ini_X7 (by omega) (by omega) (by omega) ?_
  refine f_dup dX5_init_21 rfl ?_
  refine f_bipush (v := 8) dX5_init_22 (by decide) ?_
  refine f_cg (st' := .int (nI 8) :: .ref (k + 3) :: [.ref (k + 3), .ref (k)]) rfl (congrArg (fun q => Value.int q :: .ref (k + 3) :: [.ref (k + 3), .ref (k)]) (show (8 : Int32) = nI 8 from rfl)) rfl ?_
  refine m_init hG (kc := 9) (ks := 44) (st := [.ref (k + 3), .ref (k)]) (n := 3) (B := [.inl (5, [some (some (k + 1)), some none, some none, some none, some none, some none, none, none])] ++ bX7 (k + 1) 8) (as := [.int (nI 8)]) (blk := bX7 (k + 3) 8) (M' := M) ([.inl (5, [some (some (k + 1)), some none, some none, some none, some none, some none, none, none])] ++ bX7 (k + 1) 8 ++ bX7 (k + 3) 8) rfl rfl hP rfl rfl dX5_init_24 k_X7_init rfl rfl rfl ml_X5_11 im_X7_init rfl (c_X7_init hG (d := 0) (Nat.le_refl _) _ 8 (by omega) _ (hM.up (by omega)) (by omega)) (Nat.lt_of_lt_of_le (by decide) hd) rfl (Nat.le_of_ble_eq_true rfl) (by first | omega | (show _ ≤ _; omega)) (by first | omega | (show _ ≤ _; omega)) ?_
  refine m_putr hG (sl := [some (some (k + 1)), some none, some none, some none, some none, some none, none, none]) (j := 0) ([.inl (5, [some (some (k + 1)), some (some (k + 3)), some none, some none, some none, some none, none, none])] ++ bX7 (k + 1) 8 ++ bX7 (k + 3) 8) rfl hP rfl fl_X5_20 (Or.inr ⟨rfl, rfl, rfl⟩) dX5_init_27 rfl (Nat.le_of_ble_eq_true rfl) (fun _ => rfl) (fun _ => rfl) ?_
  refine f_aload_n dX5_init_30 rfl rfl ?_
  refine m_new hG (n := 5) ([.inl (5, [some (some (k + 1)), some (some (k + 3)), some none, some none, some none, some none, none, none])] ++ bX7 (k + 1) 8 ++ bX7 (k + 3) 8 ++ [.inl (7, bl_X7)]) rfl hP rfl (hM.up (by omega)) rfl nw_X7 dX5_init_31 cl_X5_9 in_X7 ini_X7 (by omega) (by omega) (by omega) ?_
  refine f_dup dX5_init_34 rfl ?_
  refine f_bipush (v := 8) dX5_init_35 (by decide) ?_
  refine f_cg (st' := .int (nI 8) :: .ref (k + 5) :: [.ref (k + 5), .ref (k)]) rfl (congrArg (fun q => Value.int q :: .ref (k + 5) :: [.ref (k + 5), .ref (k)]) (show (8 : Int32) = nI 8 from rfl)) rfl ?_
  refine m_init hG (kc := 7) (ks := 35) (st := [.ref (k + 5), .ref (k)]) (n := 5) (B := [.inl (5, [some (some (k + 1)), some (some (k + 3)), some none, some none, some none, some none, none, none])] ++ bX7 (k + 1) 8 ++ bX7 (k + 3) 8) (as := [.int (nI 8)]) (blk := bX7 (k + 5) 8) (M' := M) ([.inl (5, [some (some (k + 1)), some (some (k + 3)), some none, some none, some none, some none, none, none])] ++ bX7 (k + 1) 8 ++ bX7 (k + 3) 8 ++ bX7 (k + 5) 8) rfl rfl hP rfl rfl dX5_init_37 k_X7_init rfl rfl rfl ml_X5_11 im_X7_init rfl (c_X7_init hG (d := 0) (Nat.le_refl _) _ 8 (by omega) _ (hM.up (by omega)) (by omega)) (Nat.lt_of_lt_of_le (by decide) hd) rfl (Nat.le_of_ble_eq_true rfl) (by first | omega | (show _ ≤ _; omega)) (by first | omega | (show _ ≤ _; omega)) ?_
  refine m_putr hG (sl := [some (some (k + 1)), some (some (k + 3)), some none, some none, some none, some none, none, none]) (j := 0) ([.inl (5, [some (some (k + 1)), some (some (k + 3)), some (some (k + 5)), some none, some none, some none, none, none])] ++ bX7 (k + 1) 8 ++ bX7 (k + 3) 8 ++ bX7 (k + 5) 8) rfl hP rfl fl_X5_23 (Or.inr ⟨rfl, rfl, rfl⟩) dX5_init_40 rfl (Nat.le_of_ble_eq_true rfl) (fun _ => rfl) (fun _ => rfl) ?_
  refine f_aload_n dX5_init_43 rfl rfl ?_
  refine m_new hG (n := 7) ([.inl (5, [some (some (k + 1)), some (some (k + 3)), some (some (k + 5)), some none, some none, some none, none, none])] ++ bX7 (k + 1) 8 ++ bX7 (k + 3) 8 ++ bX7 (k + 5) 8 ++ [.inl (7, bl_X7)]) rfl hP rfl (hM.up (by omega)) rfl nw_X7 dX5_init_44 cl_X5_9 in_X7 ini_X7 (by omega) (by omega) (by omega) ?_
  refine f_dup dX5_init_47 rfl ?_
  refine f_bipush (v := 8) dX5_init_48 (by decide) ?_
  refine f_cg (st' := .int (nI 8) :: .ref (k + 7) :: [.ref (k + 7), .ref (k)]) rfl (congrArg (fun q => Value.int q :: .ref (k + 7) :: [.ref (k + 7), .ref (k)]) (show (8 : Int32) = nI 8 from rfl)) rfl ?_
  refine m_init hG (kc := 5) (ks := 26) (st := [.ref (k + 7), .ref (k)]) (n := 7) (B := [.inl (5, [some (some (k + 1)), some (some (k + 3)), some (some (k + 5)), some none, some none, some none, none, none])] ++ bX7 (k + 1) 8 ++ bX7 (k + 3) 8 ++ bX7 (k + 5) 8) (as := [.int (nI 8)]) (blk := bX7 (k + 7) 8) (M' := M) ([.inl (5, [some (some (k + 1)), some (some (k + 3)), some (some (k + 5)), some none, some none, some none, none, none])] ++ bX7 (k + 1) 8 ++ bX7 (k + 3) 8 ++ bX7 (k + 5) 8 ++ bX7 (k + 7) 8) rfl rfl hP rfl rfl dX5_init_50 k_X7_init rfl rfl rfl ml_X5_11 im_X7_init rfl (c_X7_init hG (d := 0) (Nat.le_refl _) _ 8 (by omega) _ (hM.up (by omega)) (by omega)) (Nat.lt_of_lt_of_le (by decide) hd) rfl (Nat.le_of_ble_eq_true rfl) (by first | omega | (show _ ≤ _; omega)) (by first | omega | (show _ ≤ _; omega)) ?_
  refine m_putr hG (sl := [some (some (k + 1)), some (some (k + 3)), some (some (k + 5)), some none, some none, some none, none, none]) (j := 0) ([.inl (5, [some (some (k + 1)), some (some (k + 3)), some (some (k + 5)), some (some (k + 7)), some none, some none, none, none])] ++ bX7 (k + 1) 8 ++ bX7 (k + 3) 8 ++ bX7 (k + 5) 8 ++ bX7 (k + 7) 8) rfl hP rfl fl_X5_26 (Or.inr ⟨rfl, rfl, rfl⟩) dX5_init_53 rfl (Nat.le_of_ble_eq_true rfl) (fun _ => rfl) (fun _ => rfl) ?_
  refine f_aload_n dX5_init_56 rfl rfl ?_
  refine m_new hG (n := 9) ([.inl (5, [some (some (k + 1)), some (some (k + 3)), some (some (k + 5)), some (some (k + 7)), some none, some none, none, none])] ++ bX7 (k + 1) 8 ++ bX7 (k + 3) 8 ++ bX7 (k + 5) 8 ++ bX7 (k + 7) 8 ++ [.inl (7, bl_X7)]) rfl hP rfl (hM.up (by omega)) rfl nw_X7 dX5_init_57 cl_X5_9 in_X7 ini_X7 (by omega) (by omega) (by omega) ?_
  refine f_dup dX5_init_60 rfl ?_
  refine f_bipush (v := 8) dX5_init_61 (by decide) ?_
  refine f_cg (st' := .int (nI 8) :: .ref (k + 9) :: [.ref (k + 9), .ref (k)]) rfl (congrArg (fun q => Value.int q :: .ref (k + 9) :: [.ref (k + 9), .ref (k)]) (show (8 : Int32) = nI 8 from rfl)) rfl ?_
  refine m_init hG (kc := 3) (ks := 17) (st := [.ref (k + 9), .ref (k)]) (n := 9) (B := [.inl (5, [some (some (k + 1)), some (some (k + 3)), some (some (k + 5)), some (some (k + 7)), some none, some none, none, none])] ++ bX7 (k + 1) 8 ++ bX7 (k + 3) 8 ++ bX7 (k + 5) 8 ++ bX7 (k + 7) 8) (as := [.int (nI 8)]) (blk := bX7 (k + 9) 8) (M' := M) ([.inl (5, [some (some (k + 1)), some (some (k + 3)), some (some (k + 5)), some (some (k + 7)), some none, some none, none, none])] ++ bX7 (k + 1) 8 ++ bX7 (k + 3) 8 ++ bX7 (k + 5) 8 ++ bX7 (k + 7) 8 ++ bX7 (k + 9) 8) rfl rfl hP rfl rfl dX5_init_63 k_X7_init rfl rfl rfl ml_X5_11 im_X7_init rfl (c_X7_init hG (d := 0) (Nat.le_refl _) _ 8 (by omega) _ (hM.up (by omega)) (by omega)) (Nat.lt_of_lt_of_le (by decide) hd) rfl (Nat.le_of_ble_eq_true rfl) (by first | omega | (show _ ≤ _; omega)) (by first | omega | (show _ ≤ _; omega)) ?_
  refine m_putr hG (sl := [some (some (k + 1)), some (some (k + 3)), some (some (k + 5)), some (some (k + 7)), some none, some none, none, none]) (j := 0) ([.inl (5, [some (some (k + 1)), some (some (k + 3)), some (some (k + 5)), some (some (k + 7)), some (some (k + 9)), some none, none, none])] ++ bX7 (k + 1) 8 ++ bX7 (k + 3) 8 ++ bX7 (k + 5) 8 ++ bX7 (k + 7) 8 ++ bX7 (k + 9) 8) rfl hP rfl fl_X5_29 (Or.inr ⟨rfl, rfl, rfl⟩) dX5_init_66 rfl (Nat.le_of_ble_eq_true rfl) (fun _ => rfl) (fun _ => rfl) ?_
  refine f_aload_n dX5_init_69 rfl rfl ?_
  refine m_new hG (n := 11) ([.inl (5, [some (some (k + 1)), some (some (k + 3)), some (some (k + 5)), some (some (k + 7)), some (some (k + 9)), some none, none, none])] ++ bX7 (k + 1) 8 ++ bX7 (k + 3) 8 ++ bX7 (k + 5) 8 ++ bX7 (k + 7) 8 ++ bX7 (k + 9) 8 ++ [.inl (7, bl_X7)]) rfl hP rfl (hM.up (by omega)) rfl nw_X7 dX5_init_70 cl_X5_9 in_X7 ini_X7 (by omega) (by omega) (by omega) ?_
  refine f_dup dX5_init_73 rfl ?_
  refine f_bipush (v := 8) dX5_init_74 (by decide) ?_
  refine f_cg (st' := .int (nI 8) :: .ref (k + 11) :: [.ref (k + 11), .ref (k)]) rfl (congrArg (fun q => Value.int q :: .ref (k + 11) :: [.ref (k + 11), .ref (k)]) (show (8 : Int32) = nI 8 from rfl)) rfl ?_
  refine m_init hG (kc := 1) (ks := 8) (st := [.ref (k + 11), .ref (k)]) (n := 11) (B := [.inl (5, [some (some (k + 1)), some (some (k + 3)), some (some (k + 5)), some (some (k + 7)), some (some (k + 9)), some none, none, none])] ++ bX7 (k + 1) 8 ++ bX7 (k + 3) 8 ++ bX7 (k + 5) 8 ++ bX7 (k + 7) 8 ++ bX7 (k + 9) 8) (as := [.int (nI 8)]) (blk := bX7 (k + 11) 8) (M' := M) ([.inl (5, [some (some (k + 1)), some (some (k + 3)), some (some (k + 5)), some (some (k + 7)), some (some (k + 9)), some none, none, none])] ++ bX7 (k + 1) 8 ++ bX7 (k + 3) 8 ++ bX7 (k + 5) 8 ++ bX7 (k + 7) 8 ++ bX7 (k + 9) 8 ++ bX7 (k + 11) 8) rfl rfl hP rfl rfl dX5_init_76 k_X7_init rfl rfl rfl ml_X5_11 im_X7_init rfl (c_X7_init hG (d := 0) (Nat.le_refl _) _ 8 (by omega) _ (hM.up (by omega)) (by omega)) (Nat.lt_of_lt_of_le (by decide) hd) rfl (Nat.le_of_ble_eq_true rfl) (by first | omega | (show _ ≤ _; omega)) (by first | omega | (show _ ≤ _; omega)) ?_
  refine m_putr hG (sl := [some (some (k + 1)), some (some (k + 3)), some (some (k + 5)), some (some (k + 7)), some (some (k + 9)), some none, none, none]) (j := 0) ([.inl (5, [some (some (k + 1)), some (some (k + 3)), some (some (k + 5)), some (some (k + 7)), some (some (k + 9)), some (some (k + 11)), none, none])] ++ bX7 (k + 1) 8 ++ bX7 (k + 3) 8 ++ bX7 (k + 5) 8 ++ bX7 (k + 7) 8 ++ bX7 (k + 9) 8 ++ bX7 (k + 11) 8) rfl hP rfl fl_X5_32 (Or.inr ⟨rfl, rfl, rfl⟩) dX5_init_79 rfl (Nat.le_of_ble_eq_true rfl) (fun _ => rfl) (fun _ => rfl) ?_
  refine f_aload_n dX5_init_82 rfl rfl ?_
  refine f_iconst (v := 0) dX5_init_83 rfl ?_
  refine m_put0 hG (sl := [some (some (k + 1)), some (some (k + 3)), some (some (k + 5)), some (some (k + 7)), some (some (k + 9)), some (some (k + 11)), none, none]) (j := 0) hP rfl (by exact hM _ (by omega) _) fl_X5_35 (Or.inl rfl) dX5_init_84 rfl rfl rfl rfl ?_
  refine f_aload_n dX5_init_87 rfl rfl ?_
  refine f_iconst (v := 0) dX5_init_88 rfl ?_
  refine m_put0 hG (sl := [some (some (k + 1)), some (some (k + 3)), some (some (k + 5)), some (some (k + 7)), some (some (k + 9)), some (some (k + 11)), none, none]) (j := 0) hP rfl (by exact hM _ (by omega) _) fl_X5_39 (Or.inl rfl) dX5_init_89 rfl rfl rfl rfl ?_
  refine f_return dX5_init_92 rfl ?_
  exact ⟨rfl, rfl⟩
set_option maxRecDepth 100000 in
set_option maxHeartbeats 4000000 in
theorem c_X8_init {G : fG} (hG : fOK G) {d : Nat} (hd : 2 ≤ d) (k : Nat) (M : fM) (hM : zz M k) (hk : k + 24 ≤ 4000) : mkC G z_X8_init d k [] (.inl (8, bl_X8)) (bX8 (k)) M M 23 142 := by
  intro P hP
  refine fCt_to [some (.ref k)] k_X8_init rfl (Nat.le_of_ble_eq_true rfl) rfl ?_
  refine f_aload_n dX8_init_0 rfl rfl ?_
  refine f_objInit hG dX8_init_1 mj_X8_3 mj_obj (Nat.le_of_ble_eq_true rfl) ?_
  refine f_aload_n dX8_init_4 rfl rfl ?_
  refine m_new hG (n := 1) ([.inl (8, [some none, some none, some none, none, none, none, none, none])] ++ [.inl (0, bl_X0)]) rfl hP rfl (hM.up (by omega)) rfl nw_X0 dX8_init_5 cl_X8_9 in_X0 ini_X0 (by omega) (by omega) (by omega) ?_
  refine f_dup dX8_init_8 rfl ?_
  refine m_initN hG (kc := 22) (ks := 137) (st := [.ref (k + 1), .ref (k)]) (n := 1) (B := [.inl (8, [some none, some none, some none, none, none, none, none, none])]) (as := []) (blk := bX0 (k + 1)) (M' := M) ([.inl (8, [some none, some none, some none, none, none, none, none, none])] ++ bX0 (k + 1)) rfl rfl hP rfl rfl dX8_init_9 k_X0_init rfl rfl rfl ml_X8_11 im_X0_init rfl (c_X0_init hG (d := 1) (Nat.le_refl _) _ _ (hM.up (by omega)) (by omega)) (Nat.lt_of_lt_of_le (by decide) hd) rfl (Nat.le_of_ble_eq_true rfl) (by first | omega | (show _ ≤ _; omega)) (by first | omega | (show _ ≤ _; omega)) ?_
  refine m_putr hG (sl := [some none, some none, some none, none, none, none, none, none]) (j := 0) ([.inl (8, [some (some (k + 1)), some none, some none, none, none, none, none, none])] ++ bX0 (k + 1)) rfl hP rfl fl_X8_12 (Or.inr ⟨rfl, rfl, rfl⟩) dX8_init_12 rfl (Nat.le_of_ble_eq_true rfl) (fun _ => rfl) (fun _ => rfl) ?_
  refine f_aload_n dX8_init_15 rfl rfl ?_
  refine m_new hG (n := 6) ([.inl (8, [some (some (k + 1)), some none, some none, none, none, none, none, none])] ++ bX0 (k + 1) ++ [.inl (6, bl_X6)]) rfl hP rfl (hM.up (by omega)) rfl nw_X6 dX8_init_16 cl_X8_18 in_X6 ini_X6 (by omega) (by omega) (by omega) ?_
  refine f_dup dX8_init_19 rfl ?_
  refine m_initN hG (kc := 17) (ks := 120) (st := [.ref (k + 6), .ref (k)]) (n := 6) (B := [.inl (8, [some (some (k + 1)), some none, some none, none, none, none, none, none])] ++ bX0 (k + 1)) (as := []) (blk := bX6 (k + 6)) (M' := M) ([.inl (8, [some (some (k + 1)), some none, some none, none, none, none, none, none])] ++ bX0 (k + 1) ++ bX6 (k + 6)) rfl rfl hP rfl rfl dX8_init_20 k_X6_init rfl rfl rfl ml_X8_20 im_X6_init rfl (c_X6_init hG (d := 1) (Nat.le_refl _) _ _ (hM.up (by omega)) (by omega)) (Nat.lt_of_lt_of_le (by decide) hd) rfl (Nat.le_of_ble_eq_true rfl) (by first | omega | (show _ ≤ _; omega)) (by first | omega | (show _ ≤ _; omega)) ?_
  refine m_putr hG (sl := [some (some (k + 1)), some none, some none, none, none, none, none, none]) (j := 0) ([.inl (8, [some (some (k + 1)), some (some (k + 6)), some none, none, none, none, none, none])] ++ bX0 (k + 1) ++ bX6 (k + 6)) rfl hP rfl fl_X8_21 (Or.inr ⟨rfl, rfl, rfl⟩) dX8_init_23 rfl (Nat.le_of_ble_eq_true rfl) (fun _ => rfl) (fun _ => rfl) ?_
  refine f_aload_n dX8_init_26 rfl rfl ?_
  refine m_new hG (n := 11) ([.inl (8, [some (some (k + 1)), some (some (k + 6)), some none, none, none, none, none, none])] ++ bX0 (k + 1) ++ bX6 (k + 6) ++ [.inl (5, bl_X5)]) rfl hP rfl (hM.up (by omega)) rfl nw_X5 dX8_init_27 cl_X8_25 in_X5 ini_X5 (by omega) (by omega) (by omega) ?_
  refine f_dup dX8_init_30 rfl ?_
  refine m_initN hG (kc := 12) (ks := 54) (st := [.ref (k + 11), .ref (k)]) (n := 11) (B := [.inl (8, [some (some (k + 1)), some (some (k + 6)), some none, none, none, none, none, none])] ++ bX0 (k + 1) ++ bX6 (k + 6)) (as := []) (blk := bX5 (k + 11)) (M' := M) ([.inl (8, [some (some (k + 1)), some (some (k + 6)), some none, none, none, none, none, none])] ++ bX0 (k + 1) ++ bX6 (k + 6) ++ bX5 (k + 11)) rfl rfl hP rfl rfl dX8_init_31 k_X5_init rfl rfl rfl ml_X8_27 im_X5_init rfl (c_X5_init hG (d := 1) (Nat.le_refl _) _ _ (hM.up (by omega)) (by omega)) (Nat.lt_of_lt_of_le (by decide) hd) rfl (Nat.le_of_ble_eq_true rfl) (by first | omega | (show _ ≤ _; omega)) (by first | omega | (show _ ≤ _; omega)) ?_
  refine m_putr hG (sl := [some (some (k + 1)), some (some (k + 6)), some none, none, none, none, none, none]) (j := 0) ([.inl (8, [some (some (k + 1)), some (some (k + 6)), some (some (k + 11)), none, none, none, none, none])] ++ bX0 (k + 1) ++ bX6 (k + 6) ++ bX5 (k + 11)) rfl hP rfl fl_X8_28 (Or.inr ⟨rfl, rfl, rfl⟩) dX8_init_34 rfl (Nat.le_of_ble_eq_true rfl) (fun _ => rfl) (fun _ => rfl) ?_
  refine f_aload_n dX8_init_37 rfl rfl ?_
  refine f_iconst (v := 0) dX8_init_38 rfl ?_
  refine m_put0 hG (sl := [some (some (k + 1)), some (some (k + 6)), some (some (k + 11)), none, none, none, none, none]) (j := 0) hP rfl (by exact hM _ (by omega) _) fl_X8_32 (Or.inl rfl) dX8_init_39 rfl rfl rfl rfl ?_
  refine f_aload_n dX8_init_42 rfl rfl ?_
  refine f_iconst (v := 0) dX8_init_43 rfl ?_
  refine m_put0 hG (sl := [some (some (k + 1)), some (some (k + 6)), some (some (k + 11)), none, none, none, none, none]) (j := 0) hP rfl (by exact hM _ (by omega) _) fl_X8_36 (Or.inl rfl) dX8_init_44 rfl rfl rfl rfl ?_
  refine f_aload_n dX8_init_47 rfl rfl ?_
  refine f_iconst (v := 0) dX8_init_48 rfl ?_
  refine m_put0 hG (sl := [some (some (k + 1)), some (some (k + 6)), some (some (k + 11)), none, none, none, none, none]) (j := 0) hP rfl (by exact hM _ (by omega) _) fl_X8_39 (Or.inl rfl) dX8_init_49 rfl rfl rfl rfl ?_
  refine f_aload_n dX8_init_52 rfl rfl ?_
  refine f_iconst (v := 0) dX8_init_53 rfl ?_
  refine m_put0 hG (sl := [some (some (k + 1)), some (some (k + 6)), some (some (k + 11)), none, none, none, none, none]) (j := 0) hP rfl (by exact hM _ (by omega) _) fl_X8_42 (Or.inl rfl) dX8_init_54 rfl rfl rfl rfl ?_
  refine f_aload_n dX8_init_57 rfl rfl ?_
  refine f_iconst (v := 0) dX8_init_58 rfl ?_
  refine m_put0 hG (sl := [some (some (k + 1)), some (some (k + 6)), some (some (k + 11)), none, none, none, none, none]) (j := 0) hP rfl (by exact hM _ (by omega) _) fl_X8_45 (Or.inl rfl) dX8_init_59 rfl rfl rfl rfl ?_
  refine f_return dX8_init_62 rfl ?_
  exact ⟨rfl, rfl⟩
set_option maxRecDepth 100000 in
set_option maxHeartbeats 4000000 in
theorem c_X1_init {G : fG} (hG : fOK G) {d : Nat} (hd : 2 ≤ d) (k : Nat) (M : fM) (hM : zz M k) (hk : k + 8 ≤ 4000) : mkC G z_X1_init d k [] (.inl (1, bl_X1)) (bX1 (k)) M (fst1 M (k + 1) 0 (nI 60)) 7 166 := by
  intro P hP
  refine fCt_to [some (.ref k)] k_X1_init rfl (Nat.le_of_ble_eq_true rfl) rfl ?_
  refine f_aload_n dX1_init_0 rfl rfl ?_
  refine f_objInit hG dX1_init_1 mj_X1_5 mj_obj (Nat.le_of_ble_eq_true rfl) ?_
  refine f_aload_n dX1_init_4 rfl rfl ?_
  refine m_new hG (n := 1) ([.inl (1, [some none, some none, some none, none, none, none])] ++ [.inl (9, bl_X10)]) rfl hP rfl (hM.up (by omega)) rfl nw_X10 dX1_init_5 cl_X1_11 in_X10 ini_X10 (by omega) (by omega) (by omega) ?_
  refine f_dup dX1_init_8 rfl ?_
  refine f_bipush (v := 60) dX1_init_9 (by decide) ?_
  refine f_cg (st' := .int (nI 60) :: .ref (k + 1) :: [.ref (k + 1), .ref (k)]) rfl (congrArg (fun q => Value.int q :: .ref (k + 1) :: [.ref (k + 1), .ref (k)]) (show (60 : Int32) = nI 60 from rfl)) rfl ?_
  refine m_init hG (kc := 6) (ks := 163) (st := [.ref (k + 1), .ref (k)]) (n := 1) (B := [.inl (1, [some none, some none, some none, none, none, none])]) (as := [.int (nI 60)]) (blk := bX10 (k + 1) 60) (M' := (fst1 M (k + 1) 0 (nI 60))) ([.inl (1, [some none, some none, some none, none, none, none])] ++ bX10 (k + 1) 60) rfl rfl hP rfl rfl dX1_init_11 k_X10_init rfl rfl rfl ml_X1_13 im_X10_init rfl (c_X10_init hG (d := 1) (Nat.le_refl _) _ 60 (by omega) _ (hM.up (by omega)) (by omega)) (Nat.lt_of_lt_of_le (by decide) hd) rfl (Nat.le_of_ble_eq_true rfl) (by first | omega | (show _ ≤ _; omega)) (by first | omega | (show _ ≤ _; omega)) ?_
  refine m_putr hG (sl := [some none, some none, some none, none, none, none]) (j := 0) ([.inl (1, [some (some (k + 1)), some none, some none, none, none, none])] ++ bX10 (k + 1) 60) rfl hP rfl fl_X1_16 (Or.inr ⟨rfl, rfl, rfl⟩) dX1_init_14 rfl (Nat.le_of_ble_eq_true rfl) (fun _ => rfl) (fun _ => rfl) ?_
  refine f_aload_n dX1_init_17 rfl rfl ?_
  refine m_new hG (n := 4) ([.inl (1, [some (some (k + 1)), some none, some none, none, none, none])] ++ bX10 (k + 1) 60 ++ [.inl (7, bl_X7)]) rfl hP rfl (zz.put (hM.up (by omega)) (by omega)) rfl nw_X7 dX1_init_18 cl_X1_20 in_X7 ini_X7 (by omega) (by omega) (by omega) ?_
  refine f_dup dX1_init_21 rfl ?_
  refine f_bipush (v := 20) dX1_init_22 (by decide) ?_
  refine f_cg (st' := .int (nI 20) :: .ref (k + 4) :: [.ref (k + 4), .ref (k)]) rfl (congrArg (fun q => Value.int q :: .ref (k + 4) :: [.ref (k + 4), .ref (k)]) (show (20 : Int32) = nI 20 from rfl)) rfl ?_
  refine m_init hG (kc := 3) (ks := 101) (st := [.ref (k + 4), .ref (k)]) (n := 4) (B := [.inl (1, [some (some (k + 1)), some none, some none, none, none, none])] ++ bX10 (k + 1) 60) (as := [.int (nI 20)]) (blk := bX7 (k + 4) 20) (M' := (fst1 M (k + 1) 0 (nI 60))) ([.inl (1, [some (some (k + 1)), some none, some none, none, none, none])] ++ bX10 (k + 1) 60 ++ bX7 (k + 4) 20) rfl rfl hP rfl rfl dX1_init_24 k_X7_init rfl rfl rfl ml_X1_22 im_X7_init rfl (c_X7_init hG (d := 0) (Nat.le_refl _) _ 20 (by omega) _ (zz.put (hM.up (by omega)) (by omega)) (by omega)) (Nat.lt_of_lt_of_le (by decide) hd) rfl (Nat.le_of_ble_eq_true rfl) (by first | omega | (show _ ≤ _; omega)) (by first | omega | (show _ ≤ _; omega)) ?_
  refine m_putr hG (sl := [some (some (k + 1)), some none, some none, none, none, none]) (j := 0) ([.inl (1, [some (some (k + 1)), some (some (k + 4)), some none, none, none, none])] ++ bX10 (k + 1) 60 ++ bX7 (k + 4) 20) rfl hP rfl fl_X1_23 (Or.inr ⟨rfl, rfl, rfl⟩) dX1_init_27 rfl (Nat.le_of_ble_eq_true rfl) (fun _ => rfl) (fun _ => rfl) ?_
  refine f_aload_n dX1_init_30 rfl rfl ?_
  refine m_new hG (n := 6) ([.inl (1, [some (some (k + 1)), some (some (k + 4)), some none, none, none, none])] ++ bX10 (k + 1) 60 ++ bX7 (k + 4) 20 ++ [.inl (7, bl_X7)]) rfl hP rfl (zz.put (hM.up (by omega)) (by omega)) rfl nw_X7 dX1_init_31 cl_X1_20 in_X7 ini_X7 (by omega) (by omega) (by omega) ?_
  refine f_dup dX1_init_34 rfl ?_
  refine f_bipush (v := 80) dX1_init_35 (by decide) ?_
  refine f_cg (st' := .int (nI 80) :: .ref (k + 6) :: [.ref (k + 6), .ref (k)]) rfl (congrArg (fun q => Value.int q :: .ref (k + 6) :: [.ref (k + 6), .ref (k)]) (show (80 : Int32) = nI 80 from rfl)) rfl ?_
  refine m_init hG (kc := 1) (ks := 80) (st := [.ref (k + 6), .ref (k)]) (n := 6) (B := [.inl (1, [some (some (k + 1)), some (some (k + 4)), some none, none, none, none])] ++ bX10 (k + 1) 60 ++ bX7 (k + 4) 20) (as := [.int (nI 80)]) (blk := bX7 (k + 6) 80) (M' := (fst1 M (k + 1) 0 (nI 60))) ([.inl (1, [some (some (k + 1)), some (some (k + 4)), some none, none, none, none])] ++ bX10 (k + 1) 60 ++ bX7 (k + 4) 20 ++ bX7 (k + 6) 80) rfl rfl hP rfl rfl dX1_init_37 k_X7_init rfl rfl rfl ml_X1_22 im_X7_init rfl (c_X7_init hG (d := 0) (Nat.le_refl _) _ 80 (by omega) _ (zz.put (hM.up (by omega)) (by omega)) (by omega)) (Nat.lt_of_lt_of_le (by decide) hd) rfl (Nat.le_of_ble_eq_true rfl) (by first | omega | (show _ ≤ _; omega)) (by first | omega | (show _ ≤ _; omega)) ?_
  refine m_putr hG (sl := [some (some (k + 1)), some (some (k + 4)), some none, none, none, none]) (j := 0) ([.inl (1, [some (some (k + 1)), some (some (k + 4)), some (some (k + 6)), none, none, none])] ++ bX10 (k + 1) 60 ++ bX7 (k + 4) 20 ++ bX7 (k + 6) 80) rfl hP rfl fl_X1_27 (Or.inr ⟨rfl, rfl, rfl⟩) dX1_init_40 rfl (Nat.le_of_ble_eq_true rfl) (fun _ => rfl) (fun _ => rfl) ?_
  refine f_aload_n dX1_init_43 rfl rfl ?_
  refine f_iconst (v := 0) dX1_init_44 rfl ?_
  refine m_put0 hG (sl := [some (some (k + 1)), some (some (k + 4)), some (some (k + 6)), none, none, none]) (j := 0) hP rfl (by rw [fst1_ne (by omega)]; exact hM _ (by omega) _) fl_X1_30 (Or.inl rfl) dX1_init_45 rfl rfl rfl rfl ?_
  refine f_aload_n dX1_init_48 rfl rfl ?_
  refine f_iconst (v := 0) dX1_init_49 rfl ?_
  refine m_put0 hG (sl := [some (some (k + 1)), some (some (k + 4)), some (some (k + 6)), none, none, none]) (j := 0) hP rfl (by rw [fst1_ne (by omega)]; exact hM _ (by omega) _) fl_X1_34 (Or.inl rfl) dX1_init_50 rfl rfl rfl rfl ?_
  refine f_aload_n dX1_init_53 rfl rfl ?_
  refine f_iconst (v := 0) dX1_init_54 rfl ?_
  refine m_put0 hG (sl := [some (some (k + 1)), some (some (k + 4)), some (some (k + 6)), none, none, none]) (j := 0) hP rfl (by rw [fst1_ne (by omega)]; exact hM _ (by omega) _) fl_X1_37 (Or.inl rfl) dX1_init_55 rfl rfl rfl rfl ?_
  refine f_return dX1_init_58 rfl ?_
  exact ⟨rfl, rfl⟩
set_option maxRecDepth 100000 in
set_option maxHeartbeats 4000000 in
theorem c_X3_init {G : fG} (hG : fOK G) {d : Nat} (hd : 1 ≤ d) (k : Nat) (M : fM) (hM : zz M k) (hk : k + 5 ≤ 4000) : mkC G z_X3_init d k [] (.inl (3, bl_X3)) (bX3 (k)) M M 4 184 := by
  intro P hP
  refine fCt_to [some (.ref k)] k_X3_init rfl (Nat.le_of_ble_eq_true rfl) rfl ?_
  refine f_aload_n dX3_init_0 rfl rfl ?_
  refine f_objInit hG dX3_init_1 mj_X3_3 mj_obj (Nat.le_of_ble_eq_true rfl) ?_
  refine f_aload_n dX3_init_4 rfl rfl ?_
  refine m_new hG (n := 1) ([.inl (3, [some none, some none])] ++ [.inl (7, bl_X7)]) rfl hP rfl (hM.up (by omega)) rfl nw_X7 dX3_init_5 cl_X3_9 in_X7 ini_X7 (by omega) (by omega) (by omega) ?_
  refine f_dup dX3_init_8 rfl ?_
  refine f_bipush (v := 91) dX3_init_9 (by decide) ?_
  refine f_cg (st' := .int (nI 91) :: .ref (k + 1) :: [.ref (k + 1), .ref (k)]) rfl (congrArg (fun q => Value.int q :: .ref (k + 1) :: [.ref (k + 1), .ref (k)]) (show (91 : Int32) = nI 91 from rfl)) rfl ?_
  refine m_init hG (kc := 3) (ks := 183) (st := [.ref (k + 1), .ref (k)]) (n := 1) (B := [.inl (3, [some none, some none])]) (as := [.int (nI 91)]) (blk := bX7 (k + 1) 91) (M' := M) ([.inl (3, [some none, some none])] ++ bX7 (k + 1) 91) rfl rfl hP rfl rfl dX3_init_11 k_X7_init rfl rfl rfl ml_X3_13 im_X7_init rfl (c_X7_init hG (d := 0) (Nat.le_refl _) _ 91 (by omega) _ (hM.up (by omega)) (by omega)) (Nat.lt_of_lt_of_le (by decide) hd) rfl (Nat.le_of_ble_eq_true rfl) (by first | omega | (show _ ≤ _; omega)) (by first | omega | (show _ ≤ _; omega)) ?_
  refine m_putr hG (sl := [some none, some none]) (j := 0) ([.inl (3, [some (some (k + 1)), some none])] ++ bX7 (k + 1) 91) rfl hP rfl fl_X3_16 (Or.inr ⟨rfl, rfl, rfl⟩) dX3_init_14 rfl (Nat.le_of_ble_eq_true rfl) (fun _ => rfl) (fun _ => rfl) ?_
  refine f_aload_n dX3_init_17 rfl rfl ?_
  refine m_new hG (n := 3) ([.inl (3, [some (some (k + 1)), some none])] ++ bX7 (k + 1) 91 ++ [.inl (7, bl_X7)]) rfl hP rfl (hM.up (by omega)) rfl nw_X7 dX3_init_18 cl_X3_9 in_X7 ini_X7 (by omega) (by omega) (by omega) ?_
  refine f_dup dX3_init_21 rfl ?_
  refine f_bipush (v := 91) dX3_init_22 (by decide) ?_
  refine f_cg (st' := .int (nI 91) :: .ref (k + 3) :: [.ref (k + 3), .ref (k)]) rfl (congrArg (fun q => Value.int q :: .ref (k + 3) :: [.ref (k + 3), .ref (k)]) (show (91 : Int32) = nI 91 from rfl)) rfl ?_
  refine m_init hG (kc := 1) (ks := 91) (st := [.ref (k + 3), .ref (k)]) (n := 3) (B := [.inl (3, [some (some (k + 1)), some none])] ++ bX7 (k + 1) 91) (as := [.int (nI 91)]) (blk := bX7 (k + 3) 91) (M' := M) ([.inl (3, [some (some (k + 1)), some none])] ++ bX7 (k + 1) 91 ++ bX7 (k + 3) 91) rfl rfl hP rfl rfl dX3_init_24 k_X7_init rfl rfl rfl ml_X3_13 im_X7_init rfl (c_X7_init hG (d := 0) (Nat.le_refl _) _ 91 (by omega) _ (hM.up (by omega)) (by omega)) (Nat.lt_of_lt_of_le (by decide) hd) rfl (Nat.le_of_ble_eq_true rfl) (by first | omega | (show _ ≤ _; omega)) (by first | omega | (show _ ≤ _; omega)) ?_
  refine m_putr hG (sl := [some (some (k + 1)), some none]) (j := 0) ([.inl (3, [some (some (k + 1)), some (some (k + 3))])] ++ bX7 (k + 1) 91 ++ bX7 (k + 3) 91) rfl hP rfl fl_X3_20 (Or.inr ⟨rfl, rfl, rfl⟩) dX3_init_27 rfl (Nat.le_of_ble_eq_true rfl) (fun _ => rfl) (fun _ => rfl) ?_
  refine f_return dX3_init_30 rfl ?_
  exact ⟨rfl, rfl⟩
set_option maxRecDepth 100000 in
set_option maxHeartbeats 4000000 in
theorem c_X2_init {G : fG} (hG : fOK G) {d : Nat} (hd : 1 ≤ d) (k : Nat) (M : fM) (hM : zz M k) (hk : k + 7 ≤ 4000) : mkC G z_X2_init d k [] (.inl (2, bl_X2)) (bX2 (k)) M M 6 523 := by
  intro P hP
  refine fCt_to [some (.ref k)] k_X2_init rfl (Nat.le_of_ble_eq_true rfl) rfl ?_
  refine f_aload_n dX2_init_0 rfl rfl ?_
  refine f_objInit hG dX2_init_1 mj_X2_3 mj_obj (Nat.le_of_ble_eq_true rfl) ?_
  refine f_aload_n dX2_init_4 rfl rfl ?_
  refine m_new hG (n := 1) ([.inl (2, [some none, some none, some none])] ++ [.inl (7, bl_X7)]) rfl hP rfl (hM.up (by omega)) rfl nw_X7 dX2_init_5 cl_X2_9 in_X7 ini_X7 (by omega) (by omega) (by omega) ?_
  refine f_dup dX2_init_8 rfl ?_
  refine f_sipush (v := 256) dX2_init_9 (by decide) ?_
  refine f_cg (st' := .int (nI 256) :: .ref (k + 1) :: [.ref (k + 1), .ref (k)]) rfl (congrArg (fun q => Value.int q :: .ref (k + 1) :: [.ref (k + 1), .ref (k)]) (show (256 : Int32) = nI 256 from rfl)) rfl ?_
  refine m_init hG (kc := 5) (ks := 522) (st := [.ref (k + 1), .ref (k)]) (n := 1) (B := [.inl (2, [some none, some none, some none])]) (as := [.int (nI 256)]) (blk := bX7 (k + 1) 256) (M' := M) ([.inl (2, [some none, some none, some none])] ++ bX7 (k + 1) 256) rfl rfl hP rfl rfl dX2_init_12 k_X7_init rfl rfl rfl ml_X2_11 im_X7_init rfl (c_X7_init hG (d := 0) (Nat.le_refl _) _ 256 (by omega) _ (hM.up (by omega)) (by omega)) (Nat.lt_of_lt_of_le (by decide) hd) rfl (Nat.le_of_ble_eq_true rfl) (by first | omega | (show _ ≤ _; omega)) (by first | omega | (show _ ≤ _; omega)) ?_
  refine m_putr hG (sl := [some none, some none, some none]) (j := 0) ([.inl (2, [some (some (k + 1)), some none, some none])] ++ bX7 (k + 1) 256) rfl hP rfl fl_X2_14 (Or.inr ⟨rfl, rfl, rfl⟩) dX2_init_15 rfl (Nat.le_of_ble_eq_true rfl) (fun _ => rfl) (fun _ => rfl) ?_
  refine f_aload_n dX2_init_18 rfl rfl ?_
  refine m_new hG (n := 3) ([.inl (2, [some (some (k + 1)), some none, some none])] ++ bX7 (k + 1) 256 ++ [.inl (7, bl_X7)]) rfl hP rfl (hM.up (by omega)) rfl nw_X7 dX2_init_19 cl_X2_9 in_X7 ini_X7 (by omega) (by omega) (by omega) ?_
  refine f_dup dX2_init_22 rfl ?_
  refine f_sipush (v := 256) dX2_init_23 (by decide) ?_
  refine f_cg (st' := .int (nI 256) :: .ref (k + 3) :: [.ref (k + 3), .ref (k)]) rfl (congrArg (fun q => Value.int q :: .ref (k + 3) :: [.ref (k + 3), .ref (k)]) (show (256 : Int32) = nI 256 from rfl)) rfl ?_
  refine m_init hG (kc := 3) (ks := 265) (st := [.ref (k + 3), .ref (k)]) (n := 3) (B := [.inl (2, [some (some (k + 1)), some none, some none])] ++ bX7 (k + 1) 256) (as := [.int (nI 256)]) (blk := bX7 (k + 3) 256) (M' := M) ([.inl (2, [some (some (k + 1)), some none, some none])] ++ bX7 (k + 1) 256 ++ bX7 (k + 3) 256) rfl rfl hP rfl rfl dX2_init_26 k_X7_init rfl rfl rfl ml_X2_11 im_X7_init rfl (c_X7_init hG (d := 0) (Nat.le_refl _) _ 256 (by omega) _ (hM.up (by omega)) (by omega)) (Nat.lt_of_lt_of_le (by decide) hd) rfl (Nat.le_of_ble_eq_true rfl) (by first | omega | (show _ ≤ _; omega)) (by first | omega | (show _ ≤ _; omega)) ?_
  refine m_putr hG (sl := [some (some (k + 1)), some none, some none]) (j := 0) ([.inl (2, [some (some (k + 1)), some (some (k + 3)), some none])] ++ bX7 (k + 1) 256 ++ bX7 (k + 3) 256) rfl hP rfl fl_X2_20 (Or.inr ⟨rfl, rfl, rfl⟩) dX2_init_29 rfl (Nat.le_of_ble_eq_true rfl) (fun _ => rfl) (fun _ => rfl) ?_
  refine f_aload_n dX2_init_32 rfl rfl ?_
  refine m_new hG (n := 5) ([.inl (2, [some (some (k + 1)), some (some (k + 3)), some none])] ++ bX7 (k + 1) 256 ++ bX7 (k + 3) 256 ++ [.inl (7, bl_X7)]) rfl hP rfl (hM.up (by omega)) rfl nw_X7 dX2_init_33 cl_X2_9 in_X7 ini_X7 (by omega) (by omega) (by omega) ?_
  refine f_dup dX2_init_36 rfl ?_
  refine f_bipush (v := 8) dX2_init_37 (by decide) ?_
  refine f_cg (st' := .int (nI 8) :: .ref (k + 5) :: [.ref (k + 5), .ref (k)]) rfl (congrArg (fun q => Value.int q :: .ref (k + 5) :: [.ref (k + 5), .ref (k)]) (show (8 : Int32) = nI 8 from rfl)) rfl ?_
  refine m_init hG (kc := 1) (ks := 8) (st := [.ref (k + 5), .ref (k)]) (n := 5) (B := [.inl (2, [some (some (k + 1)), some (some (k + 3)), some none])] ++ bX7 (k + 1) 256 ++ bX7 (k + 3) 256) (as := [.int (nI 8)]) (blk := bX7 (k + 5) 8) (M' := M) ([.inl (2, [some (some (k + 1)), some (some (k + 3)), some none])] ++ bX7 (k + 1) 256 ++ bX7 (k + 3) 256 ++ bX7 (k + 5) 8) rfl rfl hP rfl rfl dX2_init_39 k_X7_init rfl rfl rfl ml_X2_11 im_X7_init rfl (c_X7_init hG (d := 0) (Nat.le_refl _) _ 8 (by omega) _ (hM.up (by omega)) (by omega)) (Nat.lt_of_lt_of_le (by decide) hd) rfl (Nat.le_of_ble_eq_true rfl) (by first | omega | (show _ ≤ _; omega)) (by first | omega | (show _ ≤ _; omega)) ?_
  refine m_putr hG (sl := [some (some (k + 1)), some (some (k + 3)), some none]) (j := 0) ([.inl (2, [some (some (k + 1)), some (some (k + 3)), some (some (k + 5))])] ++ bX7 (k + 1) 256 ++ bX7 (k + 3) 256 ++ bX7 (k + 5) 8) rfl hP rfl fl_X2_23 (Or.inr ⟨rfl, rfl, rfl⟩) dX2_init_42 rfl (Nat.le_of_ble_eq_true rfl) (fun _ => rfl) (fun _ => rfl) ?_
  refine f_return dX2_init_45 rfl ?_
  exact ⟨rfl, rfl⟩
noncomputable def bX12 (k : Nat) : List fE := [.inl (11, [some (some (k + 1)), some (some (k + 2)), some (some (k + 3)), some (some (k + 4)), none, none, none, none, some (some (k + 5)), none, none, none, some (some (k + 6)), none, some (some (k + 7)), some (some (k + 8)), none, some (some (k + 9)), none])] ++ [.inr (0, 127, [])] ++ [.inr (0, 1016, [])] ++ [.inr (0, 127, [])] ++ [.inr (0, 127, [])] ++ [.inr (0, 60, [])] ++ [.inr (1, 60, [])] ++ [.inr (0, 13, [])] ++ [.inr (0, 256, [])] ++ [.inr (0, 155, [])]
set_option maxRecDepth 100000 in
set_option maxHeartbeats 4000000 in
theorem c_X12_init {G : fG} (hG : fOK G) {d : Nat} (hd : 0 ≤ d) (k : Nat) (M : fM) (hM : zz M k) (hk : k + 10 ≤ 4000) : mkC G z_X12_init d k [] (.inl (11, bl_X12)) (bX12 k) M (fst1 (fst1 M (k) 10 (-1 : Int32)) (k) 11 (-1 : Int32)) 9 1941 := by
  intro P hP
  refine fCt_to [some (.ref k)] k_X12_init rfl (Nat.le_of_ble_eq_true rfl) rfl ?_
  refine f_aload_n dX12_init_0 rfl rfl ?_
  refine f_objInit hG dX12_init_1 mj_X12_1 mj_obj (Nat.le_of_ble_eq_true rfl) ?_
  refine f_aload_n dX12_init_4 rfl rfl ?_
  refine f_bipush (v := 127) dX12_init_5 (by decide) ?_
  refine m_newarr hG (N := 127) (n := 1) ([.inl (11, [some none, some none, some none, some none, none, none, none, none, some none, none, none, none, some none, none, some none, some none, none, some none, none])] ++ [.inr (0, 127, [])]) rfl hP rfl (hM.up (by omega)) dX12_init_7 rfl (by decide) ac_int (by decide) rfl (by decide) (by omega) (by omega) (by omega) ?_
  refine m_putr hG (sl := [some none, some none, some none, some none, none, none, none, none, some none, none, none, none, some none, none, some none, some none, none, some none, none]) (j := 0) ([.inl (11, [some (some (k + 1)), some none, some none, some none, none, none, none, none, some none, none, none, none, some none, none, some none, some none, none, some none, none])] ++ [.inr (0, 127, [])]) rfl hP rfl fl_X12_7 (Or.inr ⟨rfl, rfl, rfl⟩) dX12_init_9 rfl (Nat.le_of_ble_eq_true rfl) (fun _ => rfl) (fun _ => rfl) ?_
  refine f_aload_n dX12_init_12 rfl rfl ?_
  refine f_sipush (v := 1016) dX12_init_13 (by decide) ?_
  refine m_newarr hG (N := 1016) (n := 2) ([.inl (11, [some (some (k + 1)), some none, some none, some none, none, none, none, none, some none, none, none, none, some none, none, some none, some none, none, some none, none])] ++ [.inr (0, 127, [])] ++ [.inr (0, 1016, [])]) rfl hP rfl (hM.up (by omega)) dX12_init_16 rfl (by decide) ac_int (by decide) rfl (by decide) (by omega) (by omega) (by omega) ?_
  refine m_putr hG (sl := [some (some (k + 1)), some none, some none, some none, none, none, none, none, some none, none, none, none, some none, none, some none, some none, none, some none, none]) (j := 0) ([.inl (11, [some (some (k + 1)), some (some (k + 2)), some none, some none, none, none, none, none, some none, none, none, none, some none, none, some none, some none, none, some none, none])] ++ [.inr (0, 127, [])] ++ [.inr (0, 1016, [])]) rfl hP rfl fl_X12_13 (Or.inr ⟨rfl, rfl, rfl⟩) dX12_init_18 rfl (Nat.le_of_ble_eq_true rfl) (fun _ => rfl) (fun _ => rfl) ?_
  refine f_aload_n dX12_init_21 rfl rfl ?_
  refine f_bipush (v := 127) dX12_init_22 (by decide) ?_
  refine m_newarr hG (N := 127) (n := 3) ([.inl (11, [some (some (k + 1)), some (some (k + 2)), some none, some none, none, none, none, none, some none, none, none, none, some none, none, some none, some none, none, some none, none])] ++ [.inr (0, 127, [])] ++ [.inr (0, 1016, [])] ++ [.inr (0, 127, [])]) rfl hP rfl (hM.up (by omega)) dX12_init_24 rfl (by decide) ac_int (by decide) rfl (by decide) (by omega) (by omega) (by omega) ?_
  refine m_putr hG (sl := [some (some (k + 1)), some (some (k + 2)), some none, some none, none, none, none, none, some none, none, none, none, some none, none, some none, some none, none, some none, none]) (j := 0) ([.inl (11, [some (some (k + 1)), some (some (k + 2)), some (some (k + 3)), some none, none, none, none, none, some none, none, none, none, some none, none, some none, some none, none, some none, none])] ++ [.inr (0, 127, [])] ++ [.inr (0, 1016, [])] ++ [.inr (0, 127, [])]) rfl hP rfl fl_X12_16 (Or.inr ⟨rfl, rfl, rfl⟩) dX12_init_26 rfl (Nat.le_of_ble_eq_true rfl) (fun _ => rfl) (fun _ => rfl) ?_
  refine f_aload_n dX12_init_29 rfl rfl ?_
  refine f_bipush (v := 127) dX12_init_30 (by decide) ?_
  refine m_newarr hG (N := 127) (n := 4) ([.inl (11, [some (some (k + 1)), some (some (k + 2)), some (some (k + 3)), some none, none, none, none, none, some none, none, none, none, some none, none, some none, some none, none, some none, none])] ++ [.inr (0, 127, [])] ++ [.inr (0, 1016, [])] ++ [.inr (0, 127, [])] ++ [.inr (0, 127, [])]) rfl hP rfl (hM.up (by omega)) dX12_init_32 rfl (by decide) ac_int (by decide) rfl (by decide) (by omega) (by omega) (by omega) ?_
  refine m_putr hG (sl := [some (some (k + 1)), some (some (k + 2)), some (some (k + 3)), some none, none, none, none, none, some none, none, none, none, some none, none, some none, some none, none, some none, none]) (j := 0) ([.inl (11, [some (some (k + 1)), some (some (k + 2)), some (some (k + 3)), some (some (k + 4)), none, none, none, none, some none, none, none, none, some none, none, some none, some none, none, some none, none])] ++ [.inr (0, 127, [])] ++ [.inr (0, 1016, [])] ++ [.inr (0, 127, [])] ++ [.inr (0, 127, [])]) rfl hP rfl fl_X12_19 (Or.inr ⟨rfl, rfl, rfl⟩) dX12_init_34 rfl (Nat.le_of_ble_eq_true rfl) (fun _ => rfl) (fun _ => rfl) ?_
  refine f_aload_n dX12_init_37 rfl rfl ?_
  refine f_bipush (v := 60) dX12_init_38 (by decide) ?_
  refine m_newarr hG (N := 60) (n := 5) ([.inl (11, [some (some (k + 1)), some (some (k + 2)), some (some (k + 3)), some (some (k + 4)), none, none, none, none, some none, none, none, none, some none, none, some none, some none, none, some none, none])] ++ [.inr (0, 127, [])] ++ [.inr (0, 1016, [])] ++ [.inr (0, 127, [])] ++ [.inr (0, 127, [])] ++ [.inr (0, 60, [])]) rfl hP rfl (hM.up (by omega)) dX12_init_40 rfl (by decide) ac_int (by decide) rfl (by decide) (by omega) (by omega) (by omega) ?_
  refine m_putr hG (sl := [some (some (k + 1)), some (some (k + 2)), some (some (k + 3)), some (some (k + 4)), none, none, none, none, some none, none, none, none, some none, none, some none, some none, none, some none, none]) (j := 0) ([.inl (11, [some (some (k + 1)), some (some (k + 2)), some (some (k + 3)), some (some (k + 4)), none, none, none, none, some (some (k + 5)), none, none, none, some none, none, some none, some none, none, some none, none])] ++ [.inr (0, 127, [])] ++ [.inr (0, 1016, [])] ++ [.inr (0, 127, [])] ++ [.inr (0, 127, [])] ++ [.inr (0, 60, [])]) rfl hP rfl fl_X12_22 (Or.inr ⟨rfl, rfl, rfl⟩) dX12_init_42 rfl (Nat.le_of_ble_eq_true rfl) (fun _ => rfl) (fun _ => rfl) ?_
  refine f_aload_n dX12_init_45 rfl rfl ?_
  refine f_iconst (v := (-1)) dX12_init_46 rfl ?_
  refine m_puti hG (sl := [some (some (k + 1)), some (some (k + 2)), some (some (k + 3)), some (some (k + 4)), none, none, none, none, some (some (k + 5)), none, none, none, some none, none, some none, some none, none, some none, none]) (j := 0) hP rfl fl_X12_25 (Or.inl rfl) dX12_init_47 rfl rfl rfl rfl ?_
  refine f_aload_n dX12_init_50 rfl rfl ?_
  refine f_iconst (v := (-1)) dX12_init_51 rfl ?_
  refine m_puti hG (sl := [some (some (k + 1)), some (some (k + 2)), some (some (k + 3)), some (some (k + 4)), none, none, none, none, some (some (k + 5)), none, none, none, some none, none, some none, some none, none, some none, none]) (j := 0) hP rfl fl_X12_29 (Or.inl rfl) dX12_init_52 rfl rfl rfl rfl ?_
  refine f_aload_n dX12_init_55 rfl rfl ?_
  refine f_bipush (v := 60) dX12_init_56 (by decide) ?_
  refine m_newarr hG (N := 60) (n := 6) ([.inl (11, [some (some (k + 1)), some (some (k + 2)), some (some (k + 3)), some (some (k + 4)), none, none, none, none, some (some (k + 5)), none, none, none, some none, none, some none, some none, none, some none, none])] ++ [.inr (0, 127, [])] ++ [.inr (0, 1016, [])] ++ [.inr (0, 127, [])] ++ [.inr (0, 127, [])] ++ [.inr (0, 60, [])] ++ [.inr (1, 60, [])]) rfl hP rfl (zz.put (zz.put (hM.up (by omega)) (by omega)) (by omega)) dX12_init_58 rfl (by decide) ac_char (by decide) rfl (by decide) (by omega) (by omega) (by omega) ?_
  refine m_putr hG (sl := [some (some (k + 1)), some (some (k + 2)), some (some (k + 3)), some (some (k + 4)), none, none, none, none, some (some (k + 5)), none, none, none, some none, none, some none, some none, none, some none, none]) (j := 0) ([.inl (11, [some (some (k + 1)), some (some (k + 2)), some (some (k + 3)), some (some (k + 4)), none, none, none, none, some (some (k + 5)), none, none, none, some (some (k + 6)), none, some none, some none, none, some none, none])] ++ [.inr (0, 127, [])] ++ [.inr (0, 1016, [])] ++ [.inr (0, 127, [])] ++ [.inr (0, 127, [])] ++ [.inr (0, 60, [])] ++ [.inr (1, 60, [])]) rfl hP rfl fl_X12_32 (Or.inr ⟨rfl, rfl, rfl⟩) dX12_init_60 rfl (Nat.le_of_ble_eq_true rfl) (fun _ => rfl) (fun _ => rfl) ?_
  refine f_aload_n dX12_init_63 rfl rfl ?_
  refine f_bipush (v := 13) dX12_init_64 (by decide) ?_
  refine m_newarr hG (N := 13) (n := 7) ([.inl (11, [some (some (k + 1)), some (some (k + 2)), some (some (k + 3)), some (some (k + 4)), none, none, none, none, some (some (k + 5)), none, none, none, some (some (k + 6)), none, some none, some none, none, some none, none])] ++ [.inr (0, 127, [])] ++ [.inr (0, 1016, [])] ++ [.inr (0, 127, [])] ++ [.inr (0, 127, [])] ++ [.inr (0, 60, [])] ++ [.inr (1, 60, [])] ++ [.inr (0, 13, [])]) rfl hP rfl (zz.put (zz.put (hM.up (by omega)) (by omega)) (by omega)) dX12_init_66 rfl (by decide) ac_int (by decide) rfl (by decide) (by omega) (by omega) (by omega) ?_
  refine m_putr hG (sl := [some (some (k + 1)), some (some (k + 2)), some (some (k + 3)), some (some (k + 4)), none, none, none, none, some (some (k + 5)), none, none, none, some (some (k + 6)), none, some none, some none, none, some none, none]) (j := 0) ([.inl (11, [some (some (k + 1)), some (some (k + 2)), some (some (k + 3)), some (some (k + 4)), none, none, none, none, some (some (k + 5)), none, none, none, some (some (k + 6)), none, some (some (k + 7)), some none, none, some none, none])] ++ [.inr (0, 127, [])] ++ [.inr (0, 1016, [])] ++ [.inr (0, 127, [])] ++ [.inr (0, 127, [])] ++ [.inr (0, 60, [])] ++ [.inr (1, 60, [])] ++ [.inr (0, 13, [])]) rfl hP rfl fl_X12_36 (Or.inr ⟨rfl, rfl, rfl⟩) dX12_init_68 rfl (Nat.le_of_ble_eq_true rfl) (fun _ => rfl) (fun _ => rfl) ?_
  refine f_aload_n dX12_init_71 rfl rfl ?_
  refine f_sipush (v := 256) dX12_init_72 (by decide) ?_
  refine m_newarr hG (N := 256) (n := 8) ([.inl (11, [some (some (k + 1)), some (some (k + 2)), some (some (k + 3)), some (some (k + 4)), none, none, none, none, some (some (k + 5)), none, none, none, some (some (k + 6)), none, some (some (k + 7)), some none, none, some none, none])] ++ [.inr (0, 127, [])] ++ [.inr (0, 1016, [])] ++ [.inr (0, 127, [])] ++ [.inr (0, 127, [])] ++ [.inr (0, 60, [])] ++ [.inr (1, 60, [])] ++ [.inr (0, 13, [])] ++ [.inr (0, 256, [])]) rfl hP rfl (zz.put (zz.put (hM.up (by omega)) (by omega)) (by omega)) dX12_init_75 rfl (by decide) ac_int (by decide) rfl (by decide) (by omega) (by omega) (by omega) ?_
  refine m_putr hG (sl := [some (some (k + 1)), some (some (k + 2)), some (some (k + 3)), some (some (k + 4)), none, none, none, none, some (some (k + 5)), none, none, none, some (some (k + 6)), none, some (some (k + 7)), some none, none, some none, none]) (j := 0) ([.inl (11, [some (some (k + 1)), some (some (k + 2)), some (some (k + 3)), some (some (k + 4)), none, none, none, none, some (some (k + 5)), none, none, none, some (some (k + 6)), none, some (some (k + 7)), some (some (k + 8)), none, some none, none])] ++ [.inr (0, 127, [])] ++ [.inr (0, 1016, [])] ++ [.inr (0, 127, [])] ++ [.inr (0, 127, [])] ++ [.inr (0, 60, [])] ++ [.inr (1, 60, [])] ++ [.inr (0, 13, [])] ++ [.inr (0, 256, [])]) rfl hP rfl fl_X12_39 (Or.inr ⟨rfl, rfl, rfl⟩) dX12_init_77 rfl (Nat.le_of_ble_eq_true rfl) (fun _ => rfl) (fun _ => rfl) ?_
  refine f_aload_n dX12_init_80 rfl rfl ?_
  refine f_sipush (v := 155) dX12_init_81 (by decide) ?_
  refine m_newarr hG (N := 155) (n := 9) ([.inl (11, [some (some (k + 1)), some (some (k + 2)), some (some (k + 3)), some (some (k + 4)), none, none, none, none, some (some (k + 5)), none, none, none, some (some (k + 6)), none, some (some (k + 7)), some (some (k + 8)), none, some none, none])] ++ [.inr (0, 127, [])] ++ [.inr (0, 1016, [])] ++ [.inr (0, 127, [])] ++ [.inr (0, 127, [])] ++ [.inr (0, 60, [])] ++ [.inr (1, 60, [])] ++ [.inr (0, 13, [])] ++ [.inr (0, 256, [])] ++ [.inr (0, 155, [])]) rfl hP rfl (zz.put (zz.put (hM.up (by omega)) (by omega)) (by omega)) dX12_init_84 rfl (by decide) ac_int (by decide) rfl (by decide) (by omega) (by omega) (by omega) ?_
  refine m_putr hG (sl := [some (some (k + 1)), some (some (k + 2)), some (some (k + 3)), some (some (k + 4)), none, none, none, none, some (some (k + 5)), none, none, none, some (some (k + 6)), none, some (some (k + 7)), some (some (k + 8)), none, some none, none]) (j := 0) ([.inl (11, [some (some (k + 1)), some (some (k + 2)), some (some (k + 3)), some (some (k + 4)), none, none, none, none, some (some (k + 5)), none, none, none, some (some (k + 6)), none, some (some (k + 7)), some (some (k + 8)), none, some (some (k + 9)), none])] ++ [.inr (0, 127, [])] ++ [.inr (0, 1016, [])] ++ [.inr (0, 127, [])] ++ [.inr (0, 127, [])] ++ [.inr (0, 60, [])] ++ [.inr (1, 60, [])] ++ [.inr (0, 13, [])] ++ [.inr (0, 256, [])] ++ [.inr (0, 155, [])]) rfl hP rfl fl_X12_42 (Or.inr ⟨rfl, rfl, rfl⟩) dX12_init_86 rfl (Nat.le_of_ble_eq_true rfl) (fun _ => rfl) (fun _ => rfl) ?_
  refine f_return dX12_init_89 rfl ?_
  exact ⟨rfl, rfl⟩
