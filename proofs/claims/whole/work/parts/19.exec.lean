def o_X11_execute (M : fM) : fR × fM := (if (r_X1_read M 267) = 0 then (.inr "java/lang/IllegalArgumentException", (fst1 (m_X10_clear (m_X1_read M 267) 267 60) 0 11 ((m_X10_clear (m_X1_read M 267) 267 60) 276 5))) else (if (r_X11_performAll (m_X10_clear (m_X1_read M 267) 267 60)) = (-1 : Int32) then (.inl (some (.int ((m_X11_performAll (m_X10_clear (m_X1_read M 267) 267 60)) 276 3))), (m_X11_performAll (m_X10_clear (m_X1_read M 267) 267 60))) else (.inr "java/lang/IllegalStateException", (fst1 (m_X11_performAll (m_X10_clear (m_X1_read M 267) 267 60)) 0 12 (r_X11_performAll (m_X10_clear (m_X1_read M 267) 267 60))))))
set_option maxRecDepth 100000 in
set_option maxHeartbeats 4000000 in
theorem c_X11_execute {G : fG} (hG : fOK G) {d : Nat} (hd : 8 ≤ d) (M : fM) (dv : UInt64) (q0 : ¬ ((r_X1_read M 267) = 0) → ∃ Pv : Nat → fM → Prop, Pv 0 (m_X8_copyFrom (m_X10_clear (m_X1_read M 267) 267 60) 25 1) ∧ (∀ (j_61 : Nat) (W_59 : fM), j_61 ≤ 300 → Pv j_61 W_59 → ((W_59 276 3) ≤ (nI j_61)) → sm (W_59 73 1) 8) ∧ (∀ (j_61 : Nat) (W_59 : fM), j_61 ≤ 300 → Pv j_61 W_59 → ¬ ((W_59 276 3) ≤ (nI j_61)) → j_61 < 300) ∧ (∀ (j_61 : Nat) (W_59 : fM), j_61 ≤ 300 → Pv j_61 W_59 → ¬ ((W_59 276 3) ≤ (nI j_61)) → ¬ ((rget W_59 280 20 (nI j_61)) = (0 : Int32)) → ¬ ((rget W_59 280 20 (nI j_61)) = (1 : Int32)) → ¬ ((rget W_59 280 20 (nI j_61)) = (2 : Int32)) → ((rget W_59 280 20 (nI j_61)) = (3 : Int32)) → sm (W_59 (1 + 11) 6) 300) ∧ (∀ (j_61 : Nat) (W_59 : fM), j_61 ≤ 300 → Pv j_61 W_59 → ¬ ((W_59 276 3) ≤ (nI j_61)) → ((r_X11_refusalOf W_59 (nI j_61)) = 0) → ¬ ((rget W_59 280 20 (nI j_61)) = (0 : Int32)) → ¬ ((rget W_59 280 20 (nI j_61)) = (1 : Int32)) → ¬ ((rget W_59 280 20 (nI j_61)) = (2 : Int32)) → ((rget W_59 280 20 (nI j_61)) = (3 : Int32)) → sm (W_59 (1 + 11) 6) 300) ∧ (∀ (j_61 : Nat) (W_59 : fM), j_61 ≤ 300 → Pv j_61 W_59 → ¬ ((W_59 276 3) ≤ (nI j_61)) → ((r_X11_refusalOf W_59 (nI j_61)) = 0) → ¬ ((rget W_59 280 20 (nI j_61)) = (0 : Int32)) → ¬ ((rget W_59 280 20 (nI j_61)) = (1 : Int32)) → ¬ ((rget W_59 280 20 (nI j_61)) = (2 : Int32)) → ((rget W_59 280 20 (nI j_61)) = (3 : Int32)) → sm (r_X5_positionOf W_59 (1 + 11) (r_X1_argument W_59 (nI j_61) (0 : Int32))) 8) ∧ (∀ (j_61 : Nat) (W_59 : fM), j_61 ≤ 300 → Pv j_61 W_59 → ¬ ((W_59 276 3) ≤ (nI j_61)) → ((r_X11_refusalOf W_59 (nI j_61)) = 0) → ¬ ((rget W_59 280 20 (nI j_61)) = (0 : Int32)) → ¬ ((rget W_59 280 20 (nI j_61)) = (1 : Int32)) → ¬ ((rget W_59 280 20 (nI j_61)) = (2 : Int32)) → ¬ ((rget W_59 280 20 (nI j_61)) = (3 : Int32)) → ((rget W_59 280 20 (nI j_61)) = (4 : Int32)) → sm (r_X1_argument W_59 (nI j_61) (0 : Int32)) 300) ∧ (∀ (j_61 : Nat) (W_59 : fM), j_61 ≤ 300 → Pv j_61 W_59 → ¬ ((W_59 276 3) ≤ (nI j_61)) → ((r_X11_refusalOf W_59 (nI j_61)) = 0) → ¬ ((rget W_59 280 20 (nI j_61)) = (0 : Int32)) → ¬ ((rget W_59 280 20 (nI j_61)) = (1 : Int32)) → ¬ ((rget W_59 280 20 (nI j_61)) = (2 : Int32)) → ¬ ((rget W_59 280 20 (nI j_61)) = (3 : Int32)) → ((rget W_59 280 20 (nI j_61)) = (4 : Int32)) → cOK W_59 1) ∧ (∀ (j_61 : Nat) (W_59 : fM), j_61 ≤ 300 → Pv j_61 W_59 → ¬ ((W_59 276 3) ≤ (nI j_61)) → ((r_X11_refusalOf W_59 (nI j_61)) = 0) → ¬ ((rget W_59 280 20 (nI j_61)) = (0 : Int32)) → ¬ ((rget W_59 280 20 (nI j_61)) = (1 : Int32)) → ¬ ((rget W_59 280 20 (nI j_61)) = (2 : Int32)) → ¬ ((rget W_59 280 20 (nI j_61)) = (3 : Int32)) → ¬ ((rget W_59 280 20 (nI j_61)) = (4 : Int32)) → sm (W_59 (1 + 11) 6) 9) ∧ (∀ (j_61 : Nat) (W_59 : fM), j_61 ≤ 300 → Pv j_61 W_59 → ¬ ((W_59 276 3) ≤ (nI j_61)) → ((r_X11_refusalOf W_59 (nI j_61)) = 0) → Pv (j_61 + 1) (m_X11_perform W_59 (nI j_61)))) : fCt G z_X11_execute d [.ref 0] (sS M dv) 1 6 (fO dv (o_X11_execute M)) := by
  refine fCt_to [some (.ref 0), none, none] k_X11_execute rfl (Nat.le_of_ble_eq_true rfl) rfl ?_
  refine f_aload_n dX11_execute_0 rfl rfl ?_
  refine s_getr hG fl_X11_47 dX11_execute_1 rfl rfl ?_
  refine f_aload_n dX11_execute_4 rfl rfl ?_
  refine s_getr hG fl_X11_34 dX11_execute_5 rfl rfl ?_
  refine f_cV hG (As := [_]) dX11_execute_8 rfl k_X1_read rfl rfl ml_X11_358 im_X1_read se_X1_read rfl rfl (c_X1_read hG (d := 7) (Nat.le_refl _) _ _ _ rT_267) (by omega) (Nat.le_of_ble_eq_true rfl) (Nat.zero_le _) (Nat.zero_le _) ?_
  refine f_istore_n (ls' := [_, _, _]) dX11_execute_11 rfl (Nat.le_of_ble_eq_true rfl) rfl rfl ?_
  refine f_aload_n dX11_execute_12 rfl rfl ?_
  refine s_getr hG fl_X11_34 dX11_execute_13 rfl rfl ?_
  refine f_cV hG (As := []) dX11_execute_16 rfl k_X10_clear rfl rfl ml_X11_150 im_X10_clear se_X10_clear rT_267.1 rfl (c_X10_clear hG (d := 0) (Nat.le_refl _) _ _ _ _ rT_267 (by decide)) (by omega) (Nat.le_of_ble_eq_true rfl) (Nat.zero_le _) (Nat.zero_le _) ?_
  refine f_iload_n dX11_execute_19 rfl rfl ?_
  refine f_if_ne (tgt := 45) dX11_execute_20 (by decide) (fun c_20 => ?_) (fun c_20 => ?_)
  · refine f_aload_n dX11_execute_45 rfl rfl ?_
    refine f_cV hG (As := []) dX11_execute_46 rfl k_X11_performAll rfl rfl ml_X11_367 im_X11_performAll se_X11_performAll rfl rfl (c_X11_performAll hG (d := 6) (Nat.le_refl _) _ _ (q0 c_20)) (by omega) (Nat.le_of_ble_eq_true rfl) (Nat.zero_le _) (Nat.zero_le _) ?_
    refine f_istore_n (ls' := [_, _, _]) dX11_execute_49 rfl (Nat.le_of_ble_eq_true rfl) rfl rfl ?_
    refine f_iload_n dX11_execute_50 rfl rfl ?_
    refine f_iconst (v := (-1)) dX11_execute_51 rfl ?_
    refine f_icmp_eq (tgt := 71) dX11_execute_52 (by decide) (fun c_52 => ?_) (fun c_52 => ?_)
    · refine f_aload_n dX11_execute_71 rfl rfl ?_
      refine s_getr hG fl_X11_47 dX11_execute_72 rfl rfl ?_
      refine s_geti hG fl_X11_372 dX11_execute_75 rfl rfl ?_
      refine f_ireturn dX11_execute_78 rfl rfl ?_
      rw [o_X11_execute, if_neg c_20, if_pos c_52]
      first | ((refine ⟨?_, ?_⟩ <;> dsimp only); done) | exact ⟨rfl, rfl⟩
    · refine f_aload_n dX11_execute_55 rfl rfl ?_
      refine f_iload_n dX11_execute_56 rfl rfl ?_
      refine s_puti hG fl_X11_73 (Or.inl rfl) dX11_execute_57 rfl rfl rfl rfl ?_
      refine f_throwW hG th_X11_353_357 (st_X11_370) rfl (by decide +kernel) dX11_execute_60 dX11_execute_63 dX11_execute_64 dX11_execute_67 dX11_execute_70 (by decide) (by decide) ?_
      rw [o_X11_execute, if_neg c_20, if_neg c_52]
      first | ((refine ⟨?_, ?_⟩ <;> dsimp only); done) | exact ⟨rfl, rfl⟩
  · refine f_aload_n dX11_execute_23 rfl rfl ?_
    refine f_aload_n dX11_execute_24 rfl rfl ?_
    refine s_getr hG fl_X11_47 dX11_execute_25 rfl rfl ?_
    refine s_geti hG fl_X11_362 dX11_execute_28 rfl rfl ?_
    refine s_puti hG fl_X11_69 (Or.inl rfl) dX11_execute_31 rfl rfl rfl rfl ?_
    refine f_throwW hG th_X11_348_352 (st_X11_365) rfl (by decide +kernel) dX11_execute_34 dX11_execute_37 dX11_execute_38 dX11_execute_41 dX11_execute_44 (by decide) (by decide) ?_
    rw [o_X11_execute, if_pos c_20]
    first | ((refine ⟨?_, ?_⟩ <;> dsimp only); done) | exact ⟨rfl, rfl⟩
