/-! ===== constructors: the contracts ===== -/
noncomputable def bX7 (k : Nat) (n : Nat) : List fE := [.inl (7, [some (some (k + 1))]), .inr (0, n, [])]
noncomputable def bX10 (k : Nat) (n : Nat) : List fE := [.inl (9, [none, some (some (k + 1)), none])] ++ bX7 (k + 1) n
noncomputable def bX0 (k : Nat) : List fE := [.inl (0, [some (some (k + 1)), some (some (k + 3)), none, none, none])] ++ bX7 (k + 1) 6 ++ bX7 (k + 3) 6
noncomputable def bX6 (k : Nat) : List fE := [.inl (6, [some (some (k + 1)), some (some (k + 3)), none])] ++ bX7 (k + 1) 8 ++ bX7 (k + 3) 48
noncomputable def bX5 (k : Nat) : List fE := [.inl (5, [some (some (k + 1)), some (some (k + 3)), some (some (k + 5)), some (some (k + 7)), some (some (k + 9)), some (some (k + 11)), none, none])] ++ bX7 (k + 1) 8 ++ bX7 (k + 3) 8 ++ bX7 (k + 5) 8 ++ bX7 (k + 7) 8 ++ bX7 (k + 9) 8 ++ bX7 (k + 11) 8
noncomputable def bX8 (k : Nat) : List fE := [.inl (8, [some (some (k + 1)), some (some (k + 6)), some (some (k + 11)), none, none, none, none, none])] ++ bX0 (k + 1) ++ bX6 (k + 6) ++ bX5 (k + 11)
noncomputable def bX4 (k : Nat) : List fE := [.inl (4, [some (some (k + 1)), none, none]), .inr (4, 8, [some (k + 2), some (k + 26), some (k + 50), some (k + 74), some (k + 98), some (k + 122), some (k + 146), some (k + 170)])] ++ bX8 (k + 2) ++ bX8 (k + 26) ++ bX8 (k + 50) ++ bX8 (k + 74) ++ bX8 (k + 98) ++ bX8 (k + 122) ++ bX8 (k + 146) ++ bX8 (k + 170)
noncomputable def bX1 (k : Nat) : List fE := [.inl (1, [some (some (k + 1)), some (some (k + 4)), some (some (k + 6)), none, none, none])] ++ bX10 (k + 1) 60 ++ bX7 (k + 4) 20 ++ bX7 (k + 6) 80
noncomputable def bX3 (k : Nat) : List fE := [.inl (3, [some (some (k + 1)), some (some (k + 3))])] ++ bX7 (k + 1) 91 ++ bX7 (k + 3) 91
noncomputable def bX2 (k : Nat) : List fE := [.inl (2, [some (some (k + 1)), some (some (k + 3)), some (some (k + 5))])] ++ bX7 (k + 1) 256 ++ bX7 (k + 3) 256 ++ bX7 (k + 5) 8
set_option maxRecDepth 100000 in
set_option maxHeartbeats 4000000 in
theorem c_X7_init {G : fG} (hG : fOK G) {d : Nat} (hd : 0 ≤ d) (k : Nat) (n : Nat) (hn : n ≤ 1000) (M : fM) (hM : zz M k) (hk : k + 2 ≤ 4000) : mkC G z_X7_init d k [.int (nI n)] (.inl (7, bl_X7)) (bX7 (k) n) M M 1 n := by
  intro P hP
  refine fCt_to [some (.ref k), some (.int (nI n))] k_X7_init rfl (Nat.le_of_ble_eq_true rfl) rfl ?_
  refine f_aload_n dX7_init_0 rfl rfl ?_
  refine f_objInit hG dX7_init_1 mj_X7_1 mj_obj (Nat.le_of_ble_eq_true rfl) ?_
  refine f_aload_n dX7_init_4 rfl rfl ?_
  refine f_iload_n dX7_init_5 rfl rfl ?_
  refine f_iconst (v := 0) dX7_init_6 rfl ?_
  refine f_mmax hG dX7_init_7 mj_X7_7 mj_max (Nat.le_of_ble_eq_true rfl) ?_
  rw [show (if nI n < (0 : Int32) then (0 : Int32) else nI n) = nI n from if_neg (nI_pos (by omega))]
  refine m_newarr hG (N := n) (n := 1) ([.inl (7, [some none])] ++ [.inr (0, n, [])]) rfl hP rfl (hM.up (by omega)) dX7_init_10 rfl (by decide) ac_int (nI_pos (by omega)) (nI_clamp (by omega)) (show n * 4 ≤ _ by omega) (by omega) (by omega) (by omega) ?_
  refine m_putr hG (sl := [some none]) (j := 0) ([.inl (7, [some (some (k + 1))])] ++ [.inr (0, n, [])]) rfl hP rfl fl_X7_13 (Or.inr ⟨rfl, rfl, rfl⟩) dX7_init_12 rfl (by decide) (fun _ => rfl) (fun _ => rfl) ?_
  refine f_return dX7_init_15 rfl ?_
  exact ⟨rfl, rfl⟩
set_option maxRecDepth 100000 in
set_option maxHeartbeats 4000000 in
theorem c_X10_init {G : fG} (hG : fOK G) {d : Nat} (hd : 1 ≤ d) (k : Nat) (n : Nat) (hn : n ≤ 1000) (M : fM) (hM : zz M k) (hk : k + 3 ≤ 4000) : mkC G z_X10_init d k [.int (nI n)] (.inl (9, bl_X10)) (bX10 (k) n) M (fst1 M (k) 0 (nI n)) 2 (1 + n) := by
  intro P hP
  refine fCt_to [some (.ref k), some (.int (nI n))] k_X10_init rfl (Nat.le_of_ble_eq_true rfl) rfl ?_
  refine f_aload_n dX10_init_0 rfl rfl ?_
  refine f_objInit hG dX10_init_1 mj_X10_1 mj_obj (Nat.le_of_ble_eq_true rfl) ?_
  refine f_aload_n dX10_init_4 rfl rfl ?_
  refine f_iconst (v := 0) dX10_init_5 rfl ?_
  refine m_put0 hG (sl := [none, some none, none]) (j := 0) hP rfl (by exact hM _ (by omega) _) fl_X10_7 (Or.inl rfl) dX10_init_6 rfl rfl rfl rfl ?_
  refine f_aload_n dX10_init_9 rfl rfl ?_
  refine f_iload_n dX10_init_10 rfl rfl ?_
  refine m_puti hG (sl := [none, some none, none]) (j := 0) hP rfl fl_X10_13 (Or.inr ⟨rfl, rfl, rfl⟩) dX10_init_11 rfl rfl rfl rfl ?_
  refine f_aload_n dX10_init_14 rfl rfl ?_
  refine m_new hG (n := 1) ([.inl (9, [none, some none, none])] ++ [.inl (7, bl_X7)]) rfl hP rfl (zz.put (hM.up (by omega)) (by omega)) rfl nw_X7 dX10_init_15 cl_X10_16 in_X7 ini_X7 (by omega) (by omega) (by omega) ?_
  refine f_dup dX10_init_18 rfl ?_
  refine f_iload_n dX10_init_19 rfl rfl ?_
  refine m_init hG (kc := 1) (ks := (1 + n) - 1) (st := [.ref (k + 1), .ref (k)]) (n := 1) (B := [.inl (9, [none, some none, none])]) (as := [.int (nI n)]) (blk := bX7 (k + 1) n) (M' := (fst1 M (k) 0 (nI n))) ([.inl (9, [none, some none, none])] ++ bX7 (k + 1) n) rfl ([.inl (9, [none, some none, none])] ++ [.inl (7, bl_X7)]) rfl hP rfl rfl dX10_init_20 k_X7_init rfl rfl rfl ml_X10_18 im_X7_init rfl (c_X7_init hG (d := 0) (Nat.le_refl _) _ n (by omega) _ (zz.put (hM.up (by omega)) (by omega)) (by omega)) (by omega) rfl (Nat.le_of_ble_eq_true rfl) (by omega) (by omega) ?_
  refine m_putr hG (sl := [none, some none, none]) (j := 0) ([.inl (9, [none, some (some (k + 1)), none])] ++ bX7 (k + 1) n) rfl hP rfl fl_X10_21 (Or.inr ⟨rfl, rfl, rfl⟩) dX10_init_23 rfl (by decide) (fun _ => rfl) (fun _ => rfl) ?_
  refine f_return dX10_init_26 rfl ?_
  exact ⟨rfl, rfl⟩
set_option maxRecDepth 100000 in
set_option maxHeartbeats 4000000 in
theorem c_X0_init {G : fG} (hG : fOK G) {d : Nat} (hd : 1 ≤ d) (k : Nat) (M : fM) (hM : zz M k) (hk : k + 5 ≤ 4000) : mkC G z_X0_init d k [] (.inl (0, bl_X0)) (bX0 (k)) M M 4 14 := by
  intro P hP
  refine fCt_to [some (.ref k)] k_X0_init rfl (Nat.le_of_ble_eq_true rfl) rfl ?_
  refine f_aload_n dX0_init_0 rfl rfl ?_
  refine f_objInit hG dX0_init_1 mj_X0_3 mj_obj (Nat.le_of_ble_eq_true rfl) ?_
  refine f_aload_n dX0_init_4 rfl rfl ?_
  refine m_new hG (n := 1) ([.inl (0, [some none, some none, none, none, none])] ++ [.inl (7, bl_X7)]) rfl hP rfl (hM.up (by omega)) rfl nw_X7 dX0_init_5 cl_X0_9 in_X7 ini_X7 (by omega) (by omega) (by omega) ?_
  refine f_dup dX0_init_8 rfl ?_
  refine f_bipush (v := 6) dX0_init_9 (by decide) ?_
  refine f_cg (st' := [.int (nI 6), .ref (k + 1), .ref (k + 1), .ref (k)]) (congrArg (fun q => Value.int q :: [.ref (k + 1), .ref (k)]) (show (6 : Int32) = nI 6 from rfl)) rfl rfl ?_
  refine m_init hG (kc := 3) (ks := 13) (st := [.ref (k + 1), .ref (k)]) (n := 1) (B := [.inl (0, [some none, some none, none, none, none])]) (as := [.int (nI 6)]) (blk := bX7 (k + 1) 6) (M' := M) ([.inl (0, [some none, some none, none, none, none])] ++ bX7 (k + 1) 6) rfl ([.inl (0, [some none, some none, none, none, none])] ++ [.inl (7, bl_X7)]) rfl hP rfl rfl dX0_init_11 k_X7_init rfl rfl rfl ml_X0_11 im_X7_init rfl (c_X7_init hG (d := 0) (Nat.le_refl _) _ 6 (by omega) _ (hM.up (by omega)) (by omega)) (by omega) rfl (Nat.le_of_ble_eq_true rfl) (by omega) (by omega) ?_
  refine m_putr hG (sl := [some none, some none, none, none, none]) (j := 0) ([.inl (0, [some (some (k + 1)), some none, none, none, none])] ++ bX7 (k + 1) 6) rfl hP rfl fl_X0_14 (Or.inr ⟨rfl, rfl, rfl⟩) dX0_init_14 rfl (by decide) (fun _ => rfl) (fun _ => rfl) ?_
  refine f_aload_n dX0_init_17 rfl rfl ?_
  refine m_new hG (n := 3) ([.inl (0, [some (some (k + 1)), some none, none, none, none])] ++ bX7 (k + 1) 6 ++ [.inl (7, bl_X7)]) rfl hP rfl (hM.up (by omega)) rfl nw_X7 dX0_init_18 cl_X0_9 in_X7 ini_X7 (by omega) (by omega) (by omega) ?_
  refine f_dup dX0_init_21 rfl ?_
  refine f_bipush (v := 6) dX0_init_22 (by decide) ?_
  refine f_cg (st' := [.int (nI 6), .ref (k + 3), .ref (k + 3), .ref (k)]) (congrArg (fun q => Value.int q :: [.ref (k + 3), .ref (k)]) (show (6 : Int32) = nI 6 from rfl)) rfl rfl ?_
  refine m_init hG (kc := 1) (ks := 6) (st := [.ref (k + 3), .ref (k)]) (n := 3) (B := [.inl (0, [some (some (k + 1)), some none, none, none, none])] ++ bX7 (k + 1) 6) (as := [.int (nI 6)]) (blk := bX7 (k + 3) 6) (M' := M) ([.inl (0, [some (some (k + 1)), some none, none, none, none])] ++ bX7 (k + 1) 6 ++ bX7 (k + 3) 6) rfl ([.inl (0, [some (some (k + 1)), some none, none, none, none])] ++ bX7 (k + 1) 6 ++ [.inl (7, bl_X7)]) rfl hP rfl rfl dX0_init_24 k_X7_init rfl rfl rfl ml_X0_11 im_X7_init rfl (c_X7_init hG (d := 0) (Nat.le_refl _) _ 6 (by omega) _ (hM.up (by omega)) (by omega)) (by omega) rfl (Nat.le_of_ble_eq_true rfl) (by omega) (by omega) ?_
  refine m_putr hG (sl := [some (some (k + 1)), some none, none, none, none]) (j := 0) ([.inl (0, [some (some (k + 1)), some (some (k + 3)), none, none, none])] ++ bX7 (k + 1) 6 ++ bX7 (k + 3) 6) rfl hP rfl fl_X0_20 (Or.inr ⟨rfl, rfl, rfl⟩) dX0_init_27 rfl (by decide) (fun _ => rfl) (fun _ => rfl) ?_
  refine f_aload_n dX0_init_30 rfl rfl ?_
  refine f_iconst (v := 0) dX0_init_31 rfl ?_
  refine m_put0 hG (sl := [some (some (k + 1)), some (some (k + 3)), none, none, none]) (j := 0) hP rfl (by exact hM _ (by omega) _) fl_X0_23 (Or.inl rfl) dX0_init_32 rfl rfl rfl rfl ?_
  refine f_aload_n dX0_init_35 rfl rfl ?_
  refine f_iconst (v := 0) dX0_init_36 rfl ?_
  refine m_put0 hG (sl := [some (some (k + 1)), some (some (k + 3)), none, none, none]) (j := 0) hP rfl (by exact hM _ (by omega) _) fl_X0_27 (Or.inl rfl) dX0_init_37 rfl rfl rfl rfl ?_
  refine f_aload_n dX0_init_40 rfl rfl ?_
  refine f_iconst (v := 0) dX0_init_41 rfl ?_
  refine m_put0 hG (sl := [some (some (k + 1)), some (some (k + 3)), none, none, none]) (j := 0) hP rfl (by exact hM _ (by omega) _) fl_X0_30 (Or.inl rfl) dX0_init_42 rfl rfl rfl rfl ?_
  refine f_return dX0_init_45 rfl ?_
  exact ⟨rfl, rfl⟩
