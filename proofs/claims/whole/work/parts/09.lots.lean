/-! ===== loops over what is counted ===== -/
theorem nlt {x : Int32} {N j : Nat} (h : x = nI N) (c : ¬ x ≤ nI j) (hj : j ≤ N) (hN : N < 1000) : j < N := by
  rcases Nat.lt_or_ge j N with q | q
  · exact q
  · exact absurd (by rw [h]; exact nI_le q (by omega)) c

def l_X10_isLetters (k : Nat) (n : Nat) (most : Int32) (M : fM) : Nat → Nat → Int32
  | 0, _ => 0
  | m + 1, j => (if (M k 2) ≤ (nI j) then (if (M k 2) < (1 : Int32) then (0 : Int32) else (if most < (M k 2) then (0 : Int32) else (1 : Int32))) else (if (r_X10_at M k n (nI j)) < (97 : Int32) then (0 : Int32) else (if (r_X10_at M k n (nI j)) ≤ (104 : Int32) then (l_X10_isLetters k n most M m (j + 1)) else (0 : Int32))))
set_option maxRecDepth 100000 in
set_option maxHeartbeats 4000000 in
theorem lp_X10_isLetters {G : fG} (hG : fOK G) {d : Nat} (hd : 2 ≤ d) (M : fM) (dv : UInt64) (k : Nat) (n : Nat) (most : Int32) (hk : rText k n) (hnk : n < 2147483648) (N : Nat) (hN : (M k 2) = nI N) (hN2 : N < 300) : ∀ (m j : Nat), j ≤ N → N + 1 ≤ j + m → fV G z_X10_isLetters d (fD (some (.int (l_X10_isLetters k n most M m j))) (sS M dv)) 2 [some (.ref k), some (.int most), some (.int (nI j))] [] (sS M dv) 0 0 := by
  intro m
  induction m with
  | zero => intros; omega
  | succ m ih =>
    intro j hj hm
    refine f_iload_n dX10_isLetters_2 rfl rfl ?_
    refine f_aload_n dX10_isLetters_3 rfl rfl ?_
    refine s_geti hG fl_X10_7 dX10_isLetters_4 hk.1 rfl ?_
    refine f_icmp_ge (tgt := 38) dX10_isLetters_7 (by decide) (fun c_7 => ?_) (fun c_7 => ?_)
    · refine f_aload_n dX10_isLetters_38 rfl rfl ?_
      refine s_geti hG fl_X10_7 dX10_isLetters_39 hk.1 rfl ?_
      refine f_iconst (v := 1) dX10_isLetters_42 rfl ?_
      refine f_icmp_lt (tgt := 58) dX10_isLetters_43 (by decide) (fun c_43 => ?_) (fun c_43 => ?_)
      · refine f_iconst (v := 0) dX10_isLetters_58 rfl ?_
        refine f_ireturn dX10_isLetters_59 rfl rfl ?_
        exact ⟨by rw [l_X10_isLetters, if_pos c_7, if_pos c_43], rfl⟩
      · refine f_aload_n dX10_isLetters_46 rfl rfl ?_
        refine s_geti hG fl_X10_7 dX10_isLetters_47 hk.1 rfl ?_
        refine f_iload_n dX10_isLetters_50 rfl rfl ?_
        refine f_icmp_gt (tgt := 58) dX10_isLetters_51 (by decide) (fun c_51 => ?_) (fun c_51 => ?_)
        · refine f_iconst (v := 0) dX10_isLetters_58 rfl ?_
          refine f_ireturn dX10_isLetters_59 rfl rfl ?_
          exact ⟨by rw [l_X10_isLetters, if_pos c_7, if_neg c_43, if_pos c_51], rfl⟩
        · refine f_iconst (v := 1) dX10_isLetters_54 rfl ?_
          refine f_goto (tgt := 59) dX10_isLetters_55 (by decide) ?_
          refine f_ireturn dX10_isLetters_59 rfl rfl ?_
          exact ⟨by rw [l_X10_isLetters, if_pos c_7, if_neg c_43, if_neg c_51], rfl⟩
    · have hlt : j < N := nlt hN c_7 hj (by omega)
      refine f_aload_n dX10_isLetters_10 rfl rfl ?_
      refine f_iload_n dX10_isLetters_11 rfl rfl ?_
      refine f_cV hG (As := [_]) dX10_isLetters_12 rfl k_X10_at rfl rfl ml_X10_48 im_X10_at se_X10_at hk.1 rfl (c_X10_at hG (d := 1) (Nat.le_refl _) _ _ _ _ _ hk hnk) (by omega) (Nat.le_of_ble_eq_true rfl) (Nat.zero_le _) (Nat.zero_le _) ?_
      refine f_bipush (v := 97) dX10_isLetters_15 (by decide) ?_
      refine f_icmp_lt (tgt := 30) dX10_isLetters_17 (by decide) (fun c_17 => ?_) (fun c_17 => ?_)
      · refine f_iconst (v := 0) dX10_isLetters_30 rfl ?_
        refine f_ireturn dX10_isLetters_31 rfl rfl ?_
        exact ⟨by rw [l_X10_isLetters, if_neg c_7, if_pos c_17], rfl⟩
      · refine f_aload_n dX10_isLetters_20 rfl rfl ?_
        refine f_iload_n dX10_isLetters_21 rfl rfl ?_
        refine f_cV hG (As := [_]) dX10_isLetters_22 rfl k_X10_at rfl rfl ml_X10_48 im_X10_at se_X10_at hk.1 rfl (c_X10_at hG (d := 1) (Nat.le_refl _) _ _ _ _ _ hk hnk) (by omega) (Nat.le_of_ble_eq_true rfl) (Nat.zero_le _) (Nat.zero_le _) ?_
        refine f_bipush (v := 104) dX10_isLetters_25 (by decide) ?_
        refine f_icmp_le (tgt := 32) dX10_isLetters_27 (by decide) (fun c_27 => ?_) (fun c_27 => ?_)
        · refine f_iinc (v := nI (j + 1)) (ls' := [_, _, _]) dX10_isLetters_32 rfl (nI_1 j) (Nat.le_of_ble_eq_true rfl) rfl rfl ?_
          refine f_goto (tgt := 2) dX10_isLetters_35 (by decide) ?_
          have e9 : l_X10_isLetters k n most M (m + 1) j = l_X10_isLetters k n most M m (j + 1) := by rw [l_X10_isLetters, if_neg c_7, if_neg c_17, if_pos c_27]
          rw [e9]
          exact ih (j + 1) (by omega) (by omega)
        · refine f_iconst (v := 0) dX10_isLetters_30 rfl ?_
          refine f_ireturn dX10_isLetters_31 rfl rfl ?_
          exact ⟨by rw [l_X10_isLetters, if_neg c_7, if_neg c_17, if_neg c_27], rfl⟩
def r_X10_isLetters (M : fM) (k : Nat) (n : Nat) (most : Int32) : Int32 := (l_X10_isLetters k n most M 301 0)
theorem n_l_X10_isLetters (k : Nat) (n : Nat) (most : Int32) : ∀ (m j : Nat) (M : fM), narrow .boolean (.int (l_X10_isLetters k n most M m j)) = .int (l_X10_isLetters k n most M m j) := by
  intro m
  induction m with
  | zero => intros; unfold l_X10_isLetters; rfl
  | succ m ih =>
    intro j M
    unfold l_X10_isLetters
    repeat' split
    all_goals first | rfl | exact pk_nc _ | exact ih _ _ ..
theorem n_X10_isLetters (M : fM) (k : Nat) (n : Nat) (most : Int32) : narrow .boolean (.int (r_X10_isLetters M k n most)) = .int (r_X10_isLetters M k n most) := n_l_X10_isLetters ..
set_option maxRecDepth 100000 in
set_option maxHeartbeats 4000000 in
theorem c_X10_isLetters {G : fG} (hG : fOK G) {d : Nat} (hd : 2 ≤ d) (M : fM) (dv : UInt64) (k : Nat) (n : Nat) (most : Int32) (hk : rText k n) (hnk : n < 2147483648) (N : Nat) (hN : (M k 2) = nI N) (hN2 : N < 300) : fCt G z_X10_isLetters d [.ref k, .int most] (sS M dv) 0 0 (fD (some (.int (r_X10_isLetters M k n most))) (sS M dv)) := by
  refine fCt_to [some (.ref k), some (.int most), none] k_X10_isLetters rfl (Nat.le_of_ble_eq_true rfl) rfl ?_
  refine f_iconst (v := 0) dX10_isLetters_0 rfl ?_
  refine f_istore_n (ls' := [_, _, _]) dX10_isLetters_1 rfl (Nat.le_of_ble_eq_true rfl) rfl rfl ?_
  exact lp_X10_isLetters hG hd _ dv k n most hk hnk N hN hN2 301 0 (by omega) (by omega)

def r_X6_has (M : fM) (k : Nat) (i : Int32) : Int32 := (if i < 0 then (0 : Int32) else (if (M k 2) ≤ i then (0 : Int32) else (1 : Int32)))
theorem n_X6_has (M : fM) (k : Nat) (i : Int32) : narrow .boolean (.int (r_X6_has M k i)) = .int (r_X6_has M k i) := by
  unfold r_X6_has
  repeat' split
  all_goals first | rfl | exact pk_nc _
set_option maxRecDepth 100000 in
set_option maxHeartbeats 4000000 in
theorem c_X6_has {G : fG} (hG : fOK G) {d : Nat} (hd : 0 ≤ d) (M : fM) (dv : UInt64) (k : Nat) (i : Int32) (hk : rLabels k) : fCt G z_X6_has d [.ref k, .int i] (sS M dv) 0 0 (fD (some (.int (r_X6_has M k i))) (sS M dv)) := by
  refine fCt_to [some (.ref k), some (.int i)] k_X6_has rfl (Nat.le_of_ble_eq_true rfl) rfl ?_
  refine f_iload_n dX6_has_0 rfl rfl ?_
  refine f_if_lt (tgt := 16) dX6_has_1 (by decide) (fun c_1 => ?_) (fun c_1 => ?_)
  · refine f_iconst (v := 0) dX6_has_16 rfl ?_
    refine f_ireturn dX6_has_17 rfl rfl ?_
    exact ⟨by rw [r_X6_has, if_pos c_1], rfl⟩
  · refine f_iload_n dX6_has_4 rfl rfl ?_
    refine f_aload_n dX6_has_5 rfl rfl ?_
    refine s_geti hG fl_X6_23 dX6_has_6 hk.1 rfl ?_
    refine f_icmp_ge (tgt := 16) dX6_has_9 (by decide) (fun c_9 => ?_) (fun c_9 => ?_)
    · refine f_iconst (v := 0) dX6_has_16 rfl ?_
      refine f_ireturn dX6_has_17 rfl rfl ?_
      exact ⟨by rw [r_X6_has, if_neg c_1, if_pos c_9], rfl⟩
    · refine f_iconst (v := 1) dX6_has_12 rfl ?_
      refine f_goto (tgt := 17) dX6_has_13 (by decide) ?_
      refine f_ireturn dX6_has_17 rfl rfl ?_
      exact ⟨by rw [r_X6_has, if_neg c_1, if_neg c_9], rfl⟩

def r_X6_letter (M : fM) (k : Nat) (i : Int32) (q : Int32) : Int32 := (((rget M (k + 3) 48 ((i * (6 : Int32)) + q))).toUInt32 % 65536).toInt32
theorem n_X6_letter (M : fM) (k : Nat) (i : Int32) (q : Int32) : narrow .char (.int (r_X6_letter M k i q)) = .int (r_X6_letter M k i q) := by
  unfold r_X6_letter
  repeat' split
  all_goals first | rfl | exact pk_nc _
set_option maxRecDepth 100000 in
set_option maxHeartbeats 4000000 in
theorem c_X6_letter {G : fG} (hG : fOK G) {d : Nat} (hd : 1 ≤ d) (M : fM) (dv : UInt64) (k : Nat) (i : Int32) (q : Int32) (hk : rLabels k) : fCt G z_X6_letter d [.ref k, .int i, .int q] (sS M dv) 0 0 (fD (some (.int (r_X6_letter M k i q))) (sS M dv)) := by
  refine fCt_to [some (.ref k), some (.int i), some (.int q)] k_X6_letter rfl (Nat.le_of_ble_eq_true rfl) rfl ?_
  refine f_aload_n dX6_letter_0 rfl rfl ?_
  refine s_getr hG fl_X6_20 dX6_letter_1 hk.1 rfl ?_
  refine f_iload_n dX6_letter_4 rfl rfl ?_
  refine f_bipush (v := 6) dX6_letter_5 (by decide) ?_
  refine f_imul dX6_letter_7 ?_
  refine f_iload_n dX6_letter_8 rfl rfl ?_
  refine f_iadd dX6_letter_9 ?_
  refine f_cV hG (As := [_]) dX6_letter_10 rfl k_X7_get rfl rfl ml_X6_27 im_X7_get se_X7_get hk.2.2.1 rfl (c_X7_get hG (Nat.le_refl _) _ _ _ _ hk.2.2 (by decide) _) (by omega) (Nat.le_of_ble_eq_true rfl) (Nat.zero_le _) (Nat.zero_le _) ?_
  refine f_i2c dX6_letter_13 ?_
  refine f_ireturn dX6_letter_14 rfl (pk_nc _) ?_
  exact ⟨by rw [r_X6_letter], rfl⟩

theorem rget_of {M M' : fM} {k n : Nat} {i : Int32} (h : M' (k + 1) = M (k + 1)) : rget M' k n i = rget M k n i := by simp only [rget, h]
theorem rset_ne {M : fM} {k n a : Nat} {i x : Int32} (h : a ≠ k + 1) : rset M k n i x a = M a := by
  unfold rset
  repeat' split
  all_goals first | rfl | exact fst1_ne h
theorem m_X10_add_ne {M : fM} {t n a : Nat} {c : Int32} (h1 : a ≠ t) (h2 : a ≠ t + 1 + 1) : m_X10_add M t n c a = M a := by
  unfold m_X10_add
  split
  · rfl
  · rw [fst1_ne h1, rset_ne h2]
def l_X6_isSame (k : Nat) (i : Int32) (t : Nat) (n : Nat) (M : fM) : Nat → Nat → Int32
  | 0, _ => 0
  | m + 1, j => (if (rget M (k + 1) 8 i) ≤ (nI j) then (if (rget M (k + 1) 8 i) = (M t 2) then (1 : Int32) else (0 : Int32)) else (if (r_X6_letter M k i (nI j)) = (r_X10_at M t n (nI j)) then (l_X6_isSame k i t n M m (j + 1)) else (0 : Int32)))
set_option maxRecDepth 100000 in
set_option maxHeartbeats 4000000 in
theorem lp_X6_isSame {G : fG} (hG : fOK G) {d : Nat} (hd : 2 ≤ d) (M : fM) (dv : UInt64) (k : Nat) (i : Int32) (t : Nat) (n : Nat) (hk : rLabels k) (ht : rText t n) (hnt : n < 2147483648) (N : Nat) (hN : (rget M (k + 1) 8 i) = nI N) (hN2 : N < 300) : ∀ (m j : Nat), j ≤ N → N + 1 ≤ j + m → fV G z_X6_isSame d (fD (some (.int (l_X6_isSame k i t n M m j))) (sS M dv)) 2 [some (.ref k), some (.int i), some (.ref t), some (.int (nI j))] [] (sS M dv) 0 0 := by
  intro m
  induction m with
  | zero => intros; omega
  | succ m ih =>
    intro j hj hm
    refine f_iload_n dX6_isSame_2 rfl rfl ?_
    refine f_aload_n dX6_isSame_3 rfl rfl ?_
    refine s_getr hG fl_X6_14 dX6_isSame_4 hk.1 rfl ?_
    refine f_iload_n dX6_isSame_7 rfl rfl ?_
    refine f_cV hG (As := [_]) dX6_isSame_8 rfl k_X7_get rfl rfl ml_X6_27 im_X7_get se_X7_get hk.2.1.1 rfl (c_X7_get hG (Nat.le_refl _) _ _ _ _ hk.2.1 (by decide) _) (by omega) (Nat.le_of_ble_eq_true rfl) (Nat.zero_le _) (Nat.zero_le _) ?_
    refine f_icmp_ge (tgt := 36) dX6_isSame_11 (by decide) (fun c_11 => ?_) (fun c_11 => ?_)
    · refine f_aload_n dX6_isSame_36 rfl rfl ?_
      refine s_getr hG fl_X6_14 dX6_isSame_37 hk.1 rfl ?_
      refine f_iload_n dX6_isSame_40 rfl rfl ?_
      refine f_cV hG (As := [_]) dX6_isSame_41 rfl k_X7_get rfl rfl ml_X6_27 im_X7_get se_X7_get hk.2.1.1 rfl (c_X7_get hG (Nat.le_refl _) _ _ _ _ hk.2.1 (by decide) _) (by omega) (Nat.le_of_ble_eq_true rfl) (Nat.zero_le _) (Nat.zero_le _) ?_
      refine f_aload_n dX6_isSame_44 rfl rfl ?_
      refine s_geti hG fl_X6_45 dX6_isSame_45 ht.1 rfl ?_
      refine f_icmp_ne (tgt := 55) dX6_isSame_48 (by decide) (fun c_48 => ?_) (fun c_48 => ?_)
      · refine f_iconst (v := 0) dX6_isSame_55 rfl ?_
        refine f_ireturn dX6_isSame_56 rfl rfl ?_
        exact ⟨by rw [l_X6_isSame, if_pos c_11, if_neg c_48], rfl⟩
      · refine f_iconst (v := 1) dX6_isSame_51 rfl ?_
        refine f_goto (tgt := 56) dX6_isSame_52 (by decide) ?_
        refine f_ireturn dX6_isSame_56 rfl rfl ?_
        exact ⟨by rw [l_X6_isSame, if_pos c_11, if_pos c_48], rfl⟩
    · have hlt : j < N := nlt hN c_11 hj (by omega)
      refine f_aload_n dX6_isSame_14 rfl rfl ?_
      refine f_iload_n dX6_isSame_15 rfl rfl ?_
      refine f_iload_n dX6_isSame_16 rfl rfl ?_
      refine f_cV hG (As := [_, _]) dX6_isSame_17 rfl k_X6_letter rfl rfl ml_X6_35 im_X6_letter se_X6_letter hk.1 rfl (c_X6_letter hG (d := 1) (Nat.le_refl _) _ _ _ _ _ hk) (by omega) (Nat.le_of_ble_eq_true rfl) (Nat.zero_le _) (Nat.zero_le _) ?_
      refine f_aload_n dX6_isSame_20 rfl rfl ?_
      refine f_iload_n dX6_isSame_21 rfl rfl ?_
      refine f_cV hG (As := [_]) dX6_isSame_22 rfl k_X10_at rfl rfl ml_X6_39 im_X10_at se_X10_at ht.1 rfl (c_X10_at hG (d := 1) (Nat.le_refl _) _ _ _ _ _ ht hnt) (by omega) (Nat.le_of_ble_eq_true rfl) (Nat.zero_le _) (Nat.zero_le _) ?_
      refine f_icmp_eq (tgt := 30) dX6_isSame_25 (by decide) (fun c_25 => ?_) (fun c_25 => ?_)
      · refine f_iinc (v := nI (j + 1)) (ls' := [_, _, _, _]) dX6_isSame_30 rfl (nI_1 j) (Nat.le_of_ble_eq_true rfl) rfl rfl ?_
        refine f_goto (tgt := 2) dX6_isSame_33 (by decide) ?_
        have e9 : l_X6_isSame k i t n M (m + 1) j = l_X6_isSame k i t n M m (j + 1) := by rw [l_X6_isSame, if_neg c_11, if_pos c_25]
        rw [e9]
        exact ih (j + 1) (by omega) (by omega)
      · refine f_iconst (v := 0) dX6_isSame_28 rfl ?_
        refine f_ireturn dX6_isSame_29 rfl rfl ?_
        exact ⟨by rw [l_X6_isSame, if_neg c_11, if_neg c_25], rfl⟩
def r_X6_isSame (M : fM) (k : Nat) (i : Int32) (t : Nat) (n : Nat) : Int32 := (l_X6_isSame k i t n M 301 0)
theorem n_l_X6_isSame (k : Nat) (i : Int32) (t : Nat) (n : Nat) : ∀ (m j : Nat) (M : fM), narrow .boolean (.int (l_X6_isSame k i t n M m j)) = .int (l_X6_isSame k i t n M m j) := by
  intro m
  induction m with
  | zero => intros; unfold l_X6_isSame; rfl
  | succ m ih =>
    intro j M
    unfold l_X6_isSame
    repeat' split
    all_goals first | rfl | exact pk_nc _ | exact ih _ _ ..
theorem n_X6_isSame (M : fM) (k : Nat) (i : Int32) (t : Nat) (n : Nat) : narrow .boolean (.int (r_X6_isSame M k i t n)) = .int (r_X6_isSame M k i t n) := n_l_X6_isSame ..
set_option maxRecDepth 100000 in
set_option maxHeartbeats 4000000 in
theorem c_X6_isSame {G : fG} (hG : fOK G) {d : Nat} (hd : 2 ≤ d) (M : fM) (dv : UInt64) (k : Nat) (i : Int32) (t : Nat) (n : Nat) (hk : rLabels k) (ht : rText t n) (hnt : n < 2147483648) (N : Nat) (hN : (rget M (k + 1) 8 i) = nI N) (hN2 : N < 300) : fCt G z_X6_isSame d [.ref k, .int i, .ref t] (sS M dv) 0 0 (fD (some (.int (r_X6_isSame M k i t n))) (sS M dv)) := by
  refine fCt_to [some (.ref k), some (.int i), some (.ref t), none] k_X6_isSame rfl (Nat.le_of_ble_eq_true rfl) rfl ?_
  refine f_iconst (v := 0) dX6_isSame_0 rfl ?_
  refine f_istore_n (ls' := [_, _, _, _]) dX6_isSame_1 rfl (Nat.le_of_ble_eq_true rfl) rfl rfl ?_
  exact lp_X6_isSame hG hd _ dv k i t n hk ht hnt N hN hN2 301 0 (by omega) (by omega)

def l_X6_holds (k : Nat) (t : Nat) (n : Nat) (M : fM) : Nat → Nat → Int32
  | 0, _ => 0
  | m + 1, j => (if (M k 2) ≤ (nI j) then (0 : Int32) else (if (r_X6_isSame M k (nI j) t n) = 0 then (l_X6_holds k t n M m (j + 1)) else (1 : Int32)))
set_option maxRecDepth 100000 in
set_option maxHeartbeats 4000000 in
theorem lp_X6_holds {G : fG} (hG : fOK G) {d : Nat} (hd : 3 ≤ d) (M : fM) (dv : UInt64) (k : Nat) (t : Nat) (n : Nat) (hk : rLabels k) (ht : rText t n) (hnt : n < 2147483648) (N : Nat) (hN : (M k 2) = nI N) (hN2 : N < 300) (hl : ∀ j, j < N → ∃ L, rget M (k + 1) 8 (nI j) = nI L ∧ L < 300) : ∀ (m j : Nat), j ≤ N → N + 1 ≤ j + m → fV G z_X6_holds d (fD (some (.int (l_X6_holds k t n M m j))) (sS M dv)) 2 [some (.ref k), some (.ref t), some (.int (nI j))] [] (sS M dv) 0 0 := by
  intro m
  induction m with
  | zero => intros; omega
  | succ m ih =>
    intro j hj hm
    refine f_iload_n dX6_holds_2 rfl rfl ?_
    refine f_aload_n dX6_holds_3 rfl rfl ?_
    refine s_geti hG fl_X6_23 dX6_holds_4 hk.1 rfl ?_
    refine f_icmp_ge (tgt := 27) dX6_holds_7 (by decide) (fun c_7 => ?_) (fun c_7 => ?_)
    · refine f_iconst (v := 0) dX6_holds_27 rfl ?_
      refine f_ireturn dX6_holds_28 rfl rfl ?_
      exact ⟨by rw [l_X6_holds, if_pos c_7], rfl⟩
    · have hlt : j < N := nlt hN c_7 hj (by omega)
      obtain ⟨L, hL1, hL2⟩ := hl j hlt
      refine f_aload_n dX6_holds_10 rfl rfl ?_
      refine f_iload_n dX6_holds_11 rfl rfl ?_
      refine f_aload_n dX6_holds_12 rfl rfl ?_
      refine f_cV hG (As := [_, _]) dX6_holds_13 rfl k_X6_isSame rfl rfl ml_X6_31 im_X6_isSame se_X6_isSame hk.1 rfl (c_X6_isSame hG (d := 2) (Nat.le_refl _) _ _ _ _ _ _ hk ht hnt _ (by assumption) (by omega)) (by omega) (Nat.le_of_ble_eq_true rfl) (Nat.zero_le _) (Nat.zero_le _) ?_
      refine f_if_eq (tgt := 21) dX6_holds_16 (by decide) (fun c_16 => ?_) (fun c_16 => ?_)
      · refine f_iinc (v := nI (j + 1)) (ls' := [_, _, _]) dX6_holds_21 rfl (nI_1 j) (Nat.le_of_ble_eq_true rfl) rfl rfl ?_
        refine f_goto (tgt := 2) dX6_holds_24 (by decide) ?_
        have e9 : l_X6_holds k t n M (m + 1) j = l_X6_holds k t n M m (j + 1) := by rw [l_X6_holds, if_neg c_7, if_pos c_16]
        rw [e9]
        exact ih (j + 1) (by omega) (by omega)
      · refine f_iconst (v := 1) dX6_holds_19 rfl ?_
        refine f_ireturn dX6_holds_20 rfl rfl ?_
        exact ⟨by rw [l_X6_holds, if_neg c_7, if_neg c_16], rfl⟩
def r_X6_holds (M : fM) (k : Nat) (t : Nat) (n : Nat) : Int32 := (l_X6_holds k t n M 301 0)
theorem n_l_X6_holds (k : Nat) (t : Nat) (n : Nat) : ∀ (m j : Nat) (M : fM), narrow .boolean (.int (l_X6_holds k t n M m j)) = .int (l_X6_holds k t n M m j) := by
  intro m
  induction m with
  | zero => intros; unfold l_X6_holds; rfl
  | succ m ih =>
    intro j M
    unfold l_X6_holds
    repeat' split
    all_goals first | rfl | exact pk_nc _ | exact ih _ _ ..
theorem n_X6_holds (M : fM) (k : Nat) (t : Nat) (n : Nat) : narrow .boolean (.int (r_X6_holds M k t n)) = .int (r_X6_holds M k t n) := n_l_X6_holds ..
set_option maxRecDepth 100000 in
set_option maxHeartbeats 4000000 in
theorem c_X6_holds {G : fG} (hG : fOK G) {d : Nat} (hd : 3 ≤ d) (M : fM) (dv : UInt64) (k : Nat) (t : Nat) (n : Nat) (hk : rLabels k) (ht : rText t n) (hnt : n < 2147483648) (N : Nat) (hN : (M k 2) = nI N) (hN2 : N < 300) (hl : ∀ j, j < N → ∃ L, rget M (k + 1) 8 (nI j) = nI L ∧ L < 300) : fCt G z_X6_holds d [.ref k, .ref t] (sS M dv) 0 0 (fD (some (.int (r_X6_holds M k t n))) (sS M dv)) := by
  refine fCt_to [some (.ref k), some (.ref t), none] k_X6_holds rfl (Nat.le_of_ble_eq_true rfl) rfl ?_
  refine f_iconst (v := 0) dX6_holds_0 rfl ?_
  refine f_istore_n (ls' := [_, _, _]) dX6_holds_1 rfl (Nat.le_of_ble_eq_true rfl) rfl rfl ?_
  exact lp_X6_holds hG hd _ dv k t n hk ht hnt N hN hN2 hl 301 0 (by omega) (by omega)

def l_X6_appendTo (k : Nat) (i : Int32) (t : Nat) (n : Nat) : fM → Nat → Nat → fM
  | M, 0, _ => M
  | M, m + 1, j => (if (rget M (k + 1) 8 i) ≤ (nI j) then M else (l_X6_appendTo k i t n (m_X10_add M t n (r_X6_letter M k i (nI j))) m (j + 1)))
set_option maxRecDepth 100000 in
set_option maxHeartbeats 4000000 in
theorem lp_X6_appendTo {G : fG} (hG : fOK G) {d : Nat} (hd : 2 ≤ d) (dv : UInt64) (k : Nat) (i : Int32) (t : Nat) (n : Nat) (hk : rLabels k) (ht : rText t n) (hnt : n < 2147483648) (N : Nat) (hN2 : N < 300) (hs1 : k + 1 + 1 ≠ t) (hs2 : k + 1 + 1 ≠ t + 1 + 1) : ∀ (m j : Nat) (M : fM), j ≤ N → N + 1 ≤ j + m → (rget M (k + 1) 8 i) = nI N → fV G z_X6_appendTo d (fD none (sS (l_X6_appendTo k i t n M m j) dv)) 2 [some (.ref k), some (.int i), some (.ref t), some (.int (nI j))] [] (sS M dv) 0 0 := by
  intro m
  induction m with
  | zero => intros; omega
  | succ m ih =>
    intro j M hj hm hN
    refine f_iload_n dX6_appendTo_2 rfl rfl ?_
    refine f_aload_n dX6_appendTo_3 rfl rfl ?_
    refine s_getr hG fl_X6_14 dX6_appendTo_4 hk.1 rfl ?_
    refine f_iload_n dX6_appendTo_7 rfl rfl ?_
    refine f_cV hG (As := [_]) dX6_appendTo_8 rfl k_X7_get rfl rfl ml_X6_27 im_X7_get se_X7_get hk.2.1.1 rfl (c_X7_get hG (Nat.le_refl _) _ _ _ _ hk.2.1 (by decide) _) (by omega) (Nat.le_of_ble_eq_true rfl) (Nat.zero_le _) (Nat.zero_le _) ?_
    refine f_icmp_ge (tgt := 30) dX6_appendTo_11 (by decide) (fun c_11 => ?_) (fun c_11 => ?_)
    · refine f_return dX6_appendTo_30 rfl ?_
      exact ⟨rfl, by rw [l_X6_appendTo, if_pos c_11]⟩
    · have hlt : j < N := nlt hN c_11 hj (by omega)
      refine f_aload_n dX6_appendTo_14 rfl rfl ?_
      refine f_aload_n dX6_appendTo_15 rfl rfl ?_
      refine f_iload_n dX6_appendTo_16 rfl rfl ?_
      refine f_iload_n dX6_appendTo_17 rfl rfl ?_
      refine f_cV hG (As := [_, _]) dX6_appendTo_18 rfl k_X6_letter rfl rfl ml_X6_35 im_X6_letter se_X6_letter hk.1 rfl (c_X6_letter hG (d := 1) (Nat.le_refl _) _ _ _ _ _ hk) (by omega) (Nat.le_of_ble_eq_true rfl) (Nat.zero_le _) (Nat.zero_le _) ?_
      refine f_cV hG (As := [_]) dX6_appendTo_21 rfl k_X10_add rfl rfl ml_X6_52 im_X10_add se_X10_add ht.1 rfl (c_X10_add hG (d := 1) (Nat.le_refl _) _ _ _ _ _ ht hnt) (by omega) (Nat.le_of_ble_eq_true rfl) (Nat.zero_le _) (Nat.zero_le _) ?_
      refine f_iinc (v := nI (j + 1)) (ls' := [_, _, _, _]) dX6_appendTo_24 rfl (nI_1 j) (Nat.le_of_ble_eq_true rfl) rfl rfl ?_
      refine f_goto (tgt := 2) dX6_appendTo_27 (by decide) ?_
      have e9 : l_X6_appendTo k i t n M (m + 1) j = l_X6_appendTo k i t n (m_X10_add M t n (r_X6_letter M k i (nI j))) m (j + 1) := by rw [l_X6_appendTo, if_neg c_11]
      rw [e9]
      exact ih (j + 1) (m_X10_add M t n (r_X6_letter M k i (nI j))) (by omega) (by omega) (by rw [rget_of (m_X10_add_ne hs1 hs2)]; exact hN)
def m_X6_appendTo (M : fM) (k : Nat) (i : Int32) (t : Nat) (n : Nat) : fM := (l_X6_appendTo k i t n M 301 0)
set_option maxRecDepth 100000 in
set_option maxHeartbeats 4000000 in
theorem c_X6_appendTo {G : fG} (hG : fOK G) {d : Nat} (hd : 2 ≤ d) (M : fM) (dv : UInt64) (k : Nat) (i : Int32) (t : Nat) (n : Nat) (hk : rLabels k) (ht : rText t n) (hnt : n < 2147483648) (N : Nat) (hN : (rget M (k + 1) 8 i) = nI N) (hN2 : N < 300) (hs1 : k + 1 + 1 ≠ t) (hs2 : k + 1 + 1 ≠ t + 1 + 1) : fCt G z_X6_appendTo d [.ref k, .int i, .ref t] (sS M dv) 0 0 (fD none (sS (m_X6_appendTo M k i t n) dv)) := by
  refine fCt_to [some (.ref k), some (.int i), some (.ref t), none] k_X6_appendTo rfl (Nat.le_of_ble_eq_true rfl) rfl ?_
  refine f_iconst (v := 0) dX6_appendTo_0 rfl ?_
  refine f_istore_n (ls' := [_, _, _, _]) dX6_appendTo_1 rfl (Nat.le_of_ble_eq_true rfl) rfl rfl ?_
  exact lp_X6_appendTo hG hd dv k i t n hk ht hnt N hN2 hs1 hs2 301 0 _ (by omega) (by omega) hN

def l_X6_addFrom (k : Nat) (t : Nat) (n : Nat) : fM → Nat → Nat → fM
  | M, 0, _ => M
  | M, m + 1, j => (if (6 : Int32) ≤ (nI j) then (fst1 M k 2 ((M k 2) + (1 : Int32))) else (l_X6_addFrom k t n (rset M (k + 3) 48 (((M k 2) * (6 : Int32)) + (nI j)) (r_X10_at M t n (nI j))) m (j + 1)))
set_option maxRecDepth 100000 in
set_option maxHeartbeats 4000000 in
theorem lp_X6_addFrom {G : fG} (hG : fOK G) {d : Nat} (hd : 2 ≤ d) (dv : UInt64) (k : Nat) (t : Nat) (n : Nat) (hk : rLabels k) (ht : rText t n) (hnt : n < 2147483648) : ∀ (m j : Nat) (M : fM), j ≤ 6 → 6 + 1 ≤ j + m → fV G z_X6_addFrom d (fD none (sS (l_X6_addFrom k t n M m j) dv)) 17 [some (.ref k), some (.ref t), some (.int (nI j))] [] (sS M dv) 0 0 := by
  intro m
  induction m with
  | zero => intros; omega
  | succ m ih =>
    intro j M hj hm
    refine f_iload_n dX6_addFrom_17 rfl rfl ?_
    refine f_bipush (v := 6) dX6_addFrom_18 (by decide) ?_
    refine f_icmp_ge (tgt := 50) dX6_addFrom_20 (by decide) (fun c_20 => ?_) (fun c_20 => ?_)
    · refine f_aload_n dX6_addFrom_50 rfl rfl ?_
      refine f_dup dX6_addFrom_51 rfl ?_
      refine s_geti hG fl_X6_23 dX6_addFrom_52 hk.1 rfl ?_
      refine f_iconst (v := 1) dX6_addFrom_55 rfl ?_
      refine f_iadd dX6_addFrom_56 ?_
      refine s_puti hG fl_X6_23 (Or.inl rfl) dX6_addFrom_57 hk.1 rfl rfl rfl ?_
      refine f_return dX6_addFrom_60 rfl ?_
      exact ⟨rfl, by rw [l_X6_addFrom, if_pos c_20]⟩
    · have hlt : j < 6 := nlt (N := 6) rfl c_20 hj (by omega)
      refine f_aload_n dX6_addFrom_23 rfl rfl ?_
      refine s_getr hG fl_X6_20 dX6_addFrom_24 hk.1 rfl ?_
      refine f_aload_n dX6_addFrom_27 rfl rfl ?_
      refine s_geti hG fl_X6_23 dX6_addFrom_28 hk.1 rfl ?_
      refine f_bipush (v := 6) dX6_addFrom_31 (by decide) ?_
      refine f_imul dX6_addFrom_33 ?_
      refine f_iload_n dX6_addFrom_34 rfl rfl ?_
      refine f_iadd dX6_addFrom_35 ?_
      refine f_aload_n dX6_addFrom_36 rfl rfl ?_
      refine f_iload_n dX6_addFrom_37 rfl rfl ?_
      refine f_cV hG (As := [_]) dX6_addFrom_38 rfl k_X10_at rfl rfl ml_X6_39 im_X10_at se_X10_at ht.1 rfl (c_X10_at hG (d := 1) (Nat.le_refl _) _ _ _ _ _ ht hnt) (by omega) (Nat.le_of_ble_eq_true rfl) (Nat.zero_le _) (Nat.zero_le _) ?_
      refine f_cV hG (As := [_, _]) dX6_addFrom_41 rfl k_X7_set rfl rfl ml_X6_48 im_X7_set se_X7_set hk.2.2.1 rfl (c_X7_set hG (Nat.le_refl _) _ _ _ _ hk.2.2 (by decide) _ _) (by omega) (Nat.le_of_ble_eq_true rfl) (Nat.zero_le _) (Nat.zero_le _) ?_
      refine f_iinc (v := nI (j + 1)) (ls' := [_, _, _]) dX6_addFrom_44 rfl (nI_1 j) (Nat.le_of_ble_eq_true rfl) rfl rfl ?_
      refine f_goto (tgt := 17) dX6_addFrom_47 (by decide) ?_
      have e9 : l_X6_addFrom k t n M (m + 1) j = l_X6_addFrom k t n (rset M (k + 3) 48 (((M k 2) * (6 : Int32)) + (nI j)) (r_X10_at M t n (nI j))) m (j + 1) := by rw [l_X6_addFrom, if_neg c_20]
      rw [e9]
      exact ih (j + 1) (rset M (k + 3) 48 (((M k 2) * (6 : Int32)) + (nI j)) (r_X10_at M t n (nI j))) (by omega) (by omega)
def m_X6_addFrom (M : fM) (k : Nat) (t : Nat) (n : Nat) : fM := (l_X6_addFrom k t n (rset M (k + 1) 8 (M k 2) (M t 2)) 7 0)
set_option maxRecDepth 100000 in
set_option maxHeartbeats 4000000 in
theorem c_X6_addFrom {G : fG} (hG : fOK G) {d : Nat} (hd : 2 ≤ d) (M : fM) (dv : UInt64) (k : Nat) (t : Nat) (n : Nat) (hk : rLabels k) (ht : rText t n) (hnt : n < 2147483648) : fCt G z_X6_addFrom d [.ref k, .ref t] (sS M dv) 0 0 (fD none (sS (m_X6_addFrom M k t n) dv)) := by
  refine fCt_to [some (.ref k), some (.ref t), none] k_X6_addFrom rfl (Nat.le_of_ble_eq_true rfl) rfl ?_
  refine f_aload_n dX6_addFrom_0 rfl rfl ?_
  refine s_getr hG fl_X6_14 dX6_addFrom_1 hk.1 rfl ?_
  refine f_aload_n dX6_addFrom_4 rfl rfl ?_
  refine s_geti hG fl_X6_23 dX6_addFrom_5 hk.1 rfl ?_
  refine f_aload_n dX6_addFrom_8 rfl rfl ?_
  refine s_geti hG fl_X6_45 dX6_addFrom_9 ht.1 rfl ?_
  refine f_cV hG (As := [_, _]) dX6_addFrom_12 rfl k_X7_set rfl rfl ml_X6_48 im_X7_set se_X7_set hk.2.1.1 rfl (c_X7_set hG (Nat.le_refl _) _ _ _ _ hk.2.1 (by decide) _ _) (by omega) (Nat.le_of_ble_eq_true rfl) (Nat.zero_le _) (Nat.zero_le _) ?_
  refine f_iconst (v := 0) dX6_addFrom_15 rfl ?_
  refine f_istore_n (ls' := [_, _, _]) dX6_addFrom_16 rfl (Nat.le_of_ble_eq_true rfl) rfl rfl ?_
  exact lp_X6_addFrom hG hd dv k t n hk ht hnt 7 0 _ (by omega) (by omega)

def m_X6_copyFrom (M : fM) (k : Nat) (k2 : Nat) : fM := (fst1 (rcpy (rcpy M (k + 1) (k2 + 1) 8) (k + 3) (k2 + 3) 48) k 2 ((rcpy (rcpy M (k + 1) (k2 + 1) 8) (k + 3) (k2 + 3) 48) k2 2))
set_option maxRecDepth 100000 in
set_option maxHeartbeats 4000000 in
theorem c_X6_copyFrom {G : fG} (hG : fOK G) {d : Nat} (hd : 1 ≤ d) (M : fM) (dv : UInt64) (k : Nat) (k2 : Nat) (hk : rLabels k) (hk2 : rLabels k2) : fCt G z_X6_copyFrom d [.ref k, .ref k2] (sS M dv) 0 0 (fD none (sS (m_X6_copyFrom M k k2) dv)) := by
  refine fCt_to [some (.ref k), some (.ref k2)] k_X6_copyFrom rfl (Nat.le_of_ble_eq_true rfl) rfl ?_
  refine f_aload_n dX6_copyFrom_0 rfl rfl ?_
  refine s_getr hG fl_X6_14 dX6_copyFrom_1 hk.1 rfl ?_
  refine f_aload_n dX6_copyFrom_4 rfl rfl ?_
  refine s_getr hG fl_X6_14 dX6_copyFrom_5 hk2.1 rfl ?_
  refine f_cV hG (As := [_]) dX6_copyFrom_8 rfl k_X7_copyFrom rfl rfl ml_X6_56 im_X7_copyFrom se_X7_copyFrom hk.2.1.1 rfl (c_X7_copyFrom hG (Nat.le_refl _) _ _ _ _ hk.2.1 (by decide) _ hk2.2.1) (by omega) (Nat.le_of_ble_eq_true rfl) (Nat.zero_le _) (Nat.zero_le _) ?_
  refine f_aload_n dX6_copyFrom_11 rfl rfl ?_
  refine s_getr hG fl_X6_20 dX6_copyFrom_12 hk.1 rfl ?_
  refine f_aload_n dX6_copyFrom_15 rfl rfl ?_
  refine s_getr hG fl_X6_20 dX6_copyFrom_16 hk2.1 rfl ?_
  refine f_cV hG (As := [_]) dX6_copyFrom_19 rfl k_X7_copyFrom rfl rfl ml_X6_56 im_X7_copyFrom se_X7_copyFrom hk.2.2.1 rfl (c_X7_copyFrom hG (Nat.le_refl _) _ _ _ _ hk.2.2 (by decide) _ hk2.2.2) (by omega) (Nat.le_of_ble_eq_true rfl) (Nat.zero_le _) (Nat.zero_le _) ?_
  refine f_aload_n dX6_copyFrom_22 rfl rfl ?_
  refine f_aload_n dX6_copyFrom_23 rfl rfl ?_
  refine s_geti hG fl_X6_23 dX6_copyFrom_24 hk2.1 rfl ?_
  refine s_puti hG fl_X6_23 (Or.inl rfl) dX6_copyFrom_27 hk.1 rfl rfl rfl ?_
  refine f_return dX6_copyFrom_30 rfl ?_
  exact ⟨rfl, by rw [m_X6_copyFrom]⟩

def l_X5_positionOf (k : Nat) (i : Int32) (M : fM) : Nat → Nat → Int32
  | 0, _ => 0
  | m + 1, j => (if (M k 6) ≤ (nI j) then (-1 : Int32) else (if (rget M (k + 1) 8 (nI j)) = i then (nI j) else (l_X5_positionOf k i M m (j + 1))))
set_option maxRecDepth 100000 in
set_option maxHeartbeats 4000000 in
theorem lp_X5_positionOf {G : fG} (hG : fOK G) {d : Nat} (hd : 1 ≤ d) (M : fM) (dv : UInt64) (k : Nat) (i : Int32) (hk : rLots k) (N : Nat) (hN : (M k 6) = nI N) (hN2 : N < 300) : ∀ (m j : Nat), j ≤ N → N + 1 ≤ j + m → fV G z_X5_positionOf d (fD (some (.int (l_X5_positionOf k i M m j))) (sS M dv)) 2 [some (.ref k), some (.int i), some (.int (nI j))] [] (sS M dv) 0 0 := by
  intro m
  induction m with
  | zero => intros; omega
  | succ m ih =>
    intro j hj hm
    refine f_iload_n dX5_positionOf_2 rfl rfl ?_
    refine f_aload_n dX5_positionOf_3 rfl rfl ?_
    refine s_geti hG fl_X5_35 dX5_positionOf_4 hk.1 rfl ?_
    refine f_icmp_ge (tgt := 30) dX5_positionOf_7 (by decide) (fun c_7 => ?_) (fun c_7 => ?_)
    · refine f_iconst (v := (-1)) dX5_positionOf_30 rfl ?_
      refine f_ireturn dX5_positionOf_31 rfl rfl ?_
      exact ⟨by rw [l_X5_positionOf, if_pos c_7], rfl⟩
    · have hlt : j < N := nlt hN c_7 hj (by omega)
      refine f_aload_n dX5_positionOf_10 rfl rfl ?_
      refine s_getr hG fl_X5_14 dX5_positionOf_11 hk.1 rfl ?_
      refine f_iload_n dX5_positionOf_14 rfl rfl ?_
      refine f_cV hG (As := [_]) dX5_positionOf_15 rfl k_X7_get rfl rfl ml_X5_42 im_X7_get se_X7_get hk.2.1.1 rfl (c_X7_get hG (Nat.le_refl _) _ _ _ _ hk.2.1 (by decide) _) (by omega) (Nat.le_of_ble_eq_true rfl) (Nat.zero_le _) (Nat.zero_le _) ?_
      refine f_iload_n dX5_positionOf_18 rfl rfl ?_
      refine f_icmp_ne (tgt := 24) dX5_positionOf_19 (by decide) (fun c_19 => ?_) (fun c_19 => ?_)
      · refine f_iinc (v := nI (j + 1)) (ls' := [_, _, _]) dX5_positionOf_24 rfl (nI_1 j) (Nat.le_of_ble_eq_true rfl) rfl rfl ?_
        refine f_goto (tgt := 2) dX5_positionOf_27 (by decide) ?_
        have e9 : l_X5_positionOf k i M (m + 1) j = l_X5_positionOf k i M m (j + 1) := by rw [l_X5_positionOf, if_neg c_7, if_neg c_19]
        rw [e9]
        exact ih (j + 1) (by omega) (by omega)
      · refine f_iload_n dX5_positionOf_22 rfl rfl ?_
        refine f_ireturn dX5_positionOf_23 rfl rfl ?_
        exact ⟨by rw [l_X5_positionOf, if_neg c_7, if_pos c_19], rfl⟩
def r_X5_positionOf (M : fM) (k : Nat) (i : Int32) : Int32 := (l_X5_positionOf k i M 301 0)
set_option maxRecDepth 100000 in
set_option maxHeartbeats 4000000 in
theorem c_X5_positionOf {G : fG} (hG : fOK G) {d : Nat} (hd : 1 ≤ d) (M : fM) (dv : UInt64) (k : Nat) (i : Int32) (hk : rLots k) (N : Nat) (hN : (M k 6) = nI N) (hN2 : N < 300) : fCt G z_X5_positionOf d [.ref k, .int i] (sS M dv) 0 0 (fD (some (.int (r_X5_positionOf M k i))) (sS M dv)) := by
  refine fCt_to [some (.ref k), some (.int i), none] k_X5_positionOf rfl (Nat.le_of_ble_eq_true rfl) rfl ?_
  refine f_iconst (v := 0) dX5_positionOf_0 rfl ?_
  refine f_istore_n (ls' := [_, _, _]) dX5_positionOf_1 rfl (Nat.le_of_ble_eq_true rfl) rfl rfl ?_
  exact lp_X5_positionOf hG hd _ dv k i hk N hN hN2 301 0 (by omega) (by omega)

def l_X5_rankOf (k : Nat) (i : Int32) (M : fM) : Nat → Nat → Int32 → Int32
  | 0, _, _ => 0
  | m + 1, j, v3 => (if (M k 6) ≤ (nI j) then v3 else (if 0 < ((rget M (k + 11) 8 (nI j)) - (rget M (k + 11) 8 i)) then (l_X5_rankOf k i M m (j + 1) (v3 + 1)) else (if ((rget M (k + 11) 8 (nI j)) - (rget M (k + 11) 8 i)) = 0 then (if i ≤ (nI j) then (l_X5_rankOf k i M m (j + 1) v3) else (l_X5_rankOf k i M m (j + 1) (v3 + 1))) else (l_X5_rankOf k i M m (j + 1) v3))))
set_option maxRecDepth 100000 in
set_option maxHeartbeats 4000000 in
theorem lp_X5_rankOf {G : fG} (hG : fOK G) {d : Nat} (hd : 1 ≤ d) (M : fM) (dv : UInt64) (k : Nat) (i : Int32) (hk : rLots k) (N : Nat) (hN : (M k 6) = nI N) (hN2 : N < 300) : ∀ (m j : Nat) (v3 : Int32), j ≤ N → N + 1 ≤ j + m → fV G z_X5_rankOf d (fD (some (.int (l_X5_rankOf k i M m j v3))) (sS M dv)) 14 [some (.ref k), some (.int i), some (.int (rget M (k + 11) 8 i)), some (.int v3), some (.int (nI j)), none] [] (sS M dv) 0 0 := by
  intro m
  induction m with
  | zero => intros; omega
  | succ m ih =>
    intro j v3 hj hm
    refine f_iload dX5_rankOf_14 rfl ?_
    refine f_aload_n dX5_rankOf_16 rfl rfl ?_
    refine s_geti hG fl_X5_35 dX5_rankOf_17 hk.1 rfl ?_
    refine f_icmp_ge (tgt := 61) dX5_rankOf_20 (by decide) (fun c_20 => ?_) (fun c_20 => ?_)
    · refine f_iload_n dX5_rankOf_61 rfl rfl ?_
      refine f_ireturn dX5_rankOf_62 rfl rfl ?_
      exact ⟨by rw [l_X5_rankOf, if_pos c_20], rfl⟩
    · have hlt : j < N := nlt hN c_20 hj (by omega)
      refine f_aload_n dX5_rankOf_23 rfl rfl ?_
      refine s_getr hG fl_X5_32 dX5_rankOf_24 hk.1 rfl ?_
      refine f_iload dX5_rankOf_27 rfl ?_
      refine f_cV hG (As := [_]) dX5_rankOf_29 rfl k_X7_get rfl rfl ml_X5_42 im_X7_get se_X7_get hk.2.2.2.2.2.2.1 rfl (c_X7_get hG (Nat.le_refl _) _ _ _ _ hk.2.2.2.2.2.2 (by decide) _) (by omega) (Nat.le_of_ble_eq_true rfl) (Nat.zero_le _) (Nat.zero_le _) ?_
      refine f_iload_n dX5_rankOf_32 rfl rfl ?_
      refine f_isub dX5_rankOf_33 ?_
      refine f_istore (ls' := [_, _, _, _, _, _]) dX5_rankOf_34 (Nat.le_of_ble_eq_true rfl) rfl rfl ?_
      refine f_iload dX5_rankOf_36 rfl ?_
      refine f_if_gt (tgt := 52) dX5_rankOf_38 (by decide) (fun c_38 => ?_) (fun c_38 => ?_)
      · refine f_iinc (v := v3 + 1) (ls' := [_, _, _, _, _, _]) dX5_rankOf_52 rfl rfl (Nat.le_of_ble_eq_true rfl) rfl rfl ?_
        refine f_iinc (v := nI (j + 1)) (ls' := [_, _, _, _, _, _]) dX5_rankOf_55 rfl (nI_1 j) (Nat.le_of_ble_eq_true rfl) rfl rfl ?_
        refine f_goto (tgt := 14) dX5_rankOf_58 (by decide) ?_
        have e9 : l_X5_rankOf k i M (m + 1) j v3 = l_X5_rankOf k i M m (j + 1) (v3 + 1) := by rw [l_X5_rankOf, if_neg c_20, if_pos c_38]
        rw [e9]
        refine f_drop 5 ?_
        exact ih (j + 1) (v3 + 1) (by omega) (by omega)
      · refine f_iload dX5_rankOf_41 rfl ?_
        refine f_if_ne (tgt := 55) dX5_rankOf_43 (by decide) (fun c_43 => ?_) (fun c_43 => ?_)
        · refine f_iinc (v := nI (j + 1)) (ls' := [_, _, _, _, _, _]) dX5_rankOf_55 rfl (nI_1 j) (Nat.le_of_ble_eq_true rfl) rfl rfl ?_
          refine f_goto (tgt := 14) dX5_rankOf_58 (by decide) ?_
          have e9 : l_X5_rankOf k i M (m + 1) j v3 = l_X5_rankOf k i M m (j + 1) v3 := by rw [l_X5_rankOf, if_neg c_20, if_neg c_38, if_neg c_43]
          rw [e9]
          refine f_drop 5 ?_
          exact ih (j + 1) v3 (by omega) (by omega)
        · refine f_iload dX5_rankOf_46 rfl ?_
          refine f_iload_n dX5_rankOf_48 rfl rfl ?_
          refine f_icmp_ge (tgt := 55) dX5_rankOf_49 (by decide) (fun c_49 => ?_) (fun c_49 => ?_)
          · refine f_iinc (v := nI (j + 1)) (ls' := [_, _, _, _, _, _]) dX5_rankOf_55 rfl (nI_1 j) (Nat.le_of_ble_eq_true rfl) rfl rfl ?_
            refine f_goto (tgt := 14) dX5_rankOf_58 (by decide) ?_
            have e9 : l_X5_rankOf k i M (m + 1) j v3 = l_X5_rankOf k i M m (j + 1) v3 := by rw [l_X5_rankOf, if_neg c_20, if_neg c_38, if_pos c_43, if_pos c_49]
            rw [e9]
            refine f_drop 5 ?_
            exact ih (j + 1) v3 (by omega) (by omega)
          · refine f_iinc (v := v3 + 1) (ls' := [_, _, _, _, _, _]) dX5_rankOf_52 rfl rfl (Nat.le_of_ble_eq_true rfl) rfl rfl ?_
            refine f_iinc (v := nI (j + 1)) (ls' := [_, _, _, _, _, _]) dX5_rankOf_55 rfl (nI_1 j) (Nat.le_of_ble_eq_true rfl) rfl rfl ?_
            refine f_goto (tgt := 14) dX5_rankOf_58 (by decide) ?_
            have e9 : l_X5_rankOf k i M (m + 1) j v3 = l_X5_rankOf k i M m (j + 1) (v3 + 1) := by rw [l_X5_rankOf, if_neg c_20, if_neg c_38, if_pos c_43, if_neg c_49]
            rw [e9]
            refine f_drop 5 ?_
            exact ih (j + 1) (v3 + 1) (by omega) (by omega)
def r_X5_rankOf (M : fM) (k : Nat) (i : Int32) : Int32 := (l_X5_rankOf k i M 301 0 (0 : Int32))
set_option maxRecDepth 100000 in
set_option maxHeartbeats 4000000 in
theorem c_X5_rankOf {G : fG} (hG : fOK G) {d : Nat} (hd : 1 ≤ d) (M : fM) (dv : UInt64) (k : Nat) (i : Int32) (hk : rLots k) (N : Nat) (hN : (M k 6) = nI N) (hN2 : N < 300) : fCt G z_X5_rankOf d [.ref k, .int i] (sS M dv) 0 0 (fD (some (.int (r_X5_rankOf M k i))) (sS M dv)) := by
  refine fCt_to [some (.ref k), some (.int i), none, none, none, none] k_X5_rankOf rfl (Nat.le_of_ble_eq_true rfl) rfl ?_
  refine f_aload_n dX5_rankOf_0 rfl rfl ?_
  refine s_getr hG fl_X5_32 dX5_rankOf_1 hk.1 rfl ?_
  refine f_iload_n dX5_rankOf_4 rfl rfl ?_
  refine f_cV hG (As := [_]) dX5_rankOf_5 rfl k_X7_get rfl rfl ml_X5_42 im_X7_get se_X7_get hk.2.2.2.2.2.2.1 rfl (c_X7_get hG (Nat.le_refl _) _ _ _ _ hk.2.2.2.2.2.2 (by decide) _) (by omega) (Nat.le_of_ble_eq_true rfl) (Nat.zero_le _) (Nat.zero_le _) ?_
  refine f_istore_n (ls' := [_, _, _, _, _, _]) dX5_rankOf_8 rfl (Nat.le_of_ble_eq_true rfl) rfl rfl ?_
  refine f_iconst (v := 0) dX5_rankOf_9 rfl ?_
  refine f_istore_n (ls' := [_, _, _, _, _, _]) dX5_rankOf_10 rfl (Nat.le_of_ble_eq_true rfl) rfl rfl ?_
  refine f_iconst (v := 0) dX5_rankOf_11 rfl ?_
  refine f_istore (ls' := [_, _, _, _, _, _]) dX5_rankOf_12 (Nat.le_of_ble_eq_true rfl) rfl rfl ?_
  exact lp_X5_rankOf hG hd _ dv k i hk N hN hN2 301 0 _ (by omega) (by omega)

def l_X5_positionOfRank (k : Nat) (i : Int32) (M : fM) : Nat → Nat → Int32
  | 0, _ => 0
  | m + 1, j => (if (M k 6) ≤ (nI j) then (-1 : Int32) else (if (r_X5_rankOf M k (nI j)) = i then (nI j) else (l_X5_positionOfRank k i M m (j + 1))))
set_option maxRecDepth 100000 in
set_option maxHeartbeats 4000000 in
theorem lp_X5_positionOfRank {G : fG} (hG : fOK G) {d : Nat} (hd : 2 ≤ d) (M : fM) (dv : UInt64) (k : Nat) (i : Int32) (hk : rLots k) (N : Nat) (hN : (M k 6) = nI N) (hN2 : N < 300) : ∀ (m j : Nat), j ≤ N → N + 1 ≤ j + m → fV G z_X5_positionOfRank d (fD (some (.int (l_X5_positionOfRank k i M m j))) (sS M dv)) 2 [some (.ref k), some (.int i), some (.int (nI j))] [] (sS M dv) 0 0 := by
  intro m
  induction m with
  | zero => intros; omega
  | succ m ih =>
    intro j hj hm
    refine f_iload_n dX5_positionOfRank_2 rfl rfl ?_
    refine f_aload_n dX5_positionOfRank_3 rfl rfl ?_
    refine s_geti hG fl_X5_35 dX5_positionOfRank_4 hk.1 rfl ?_
    refine f_icmp_ge (tgt := 27) dX5_positionOfRank_7 (by decide) (fun c_7 => ?_) (fun c_7 => ?_)
    · refine f_iconst (v := (-1)) dX5_positionOfRank_27 rfl ?_
      refine f_ireturn dX5_positionOfRank_28 rfl rfl ?_
      exact ⟨by rw [l_X5_positionOfRank, if_pos c_7], rfl⟩
    · have hlt : j < N := nlt hN c_7 hj (by omega)
      refine f_aload_n dX5_positionOfRank_10 rfl rfl ?_
      refine f_iload_n dX5_positionOfRank_11 rfl rfl ?_
      refine f_cV hG (As := [_]) dX5_positionOfRank_12 rfl k_X5_rankOf rfl rfl ml_X5_46 im_X5_rankOf se_X5_rankOf hk.1 rfl (c_X5_rankOf hG (d := 1) (Nat.le_refl _) _ _ _ _ hk _ (by assumption) (by omega)) (by omega) (Nat.le_of_ble_eq_true rfl) (Nat.zero_le _) (Nat.zero_le _) ?_
      refine f_iload_n dX5_positionOfRank_15 rfl rfl ?_
      refine f_icmp_ne (tgt := 21) dX5_positionOfRank_16 (by decide) (fun c_16 => ?_) (fun c_16 => ?_)
      · refine f_iinc (v := nI (j + 1)) (ls' := [_, _, _]) dX5_positionOfRank_21 rfl (nI_1 j) (Nat.le_of_ble_eq_true rfl) rfl rfl ?_
        refine f_goto (tgt := 2) dX5_positionOfRank_24 (by decide) ?_
        have e9 : l_X5_positionOfRank k i M (m + 1) j = l_X5_positionOfRank k i M m (j + 1) := by rw [l_X5_positionOfRank, if_neg c_7, if_neg c_16]
        rw [e9]
        exact ih (j + 1) (by omega) (by omega)
      · refine f_iload_n dX5_positionOfRank_19 rfl rfl ?_
        refine f_ireturn dX5_positionOfRank_20 rfl rfl ?_
        exact ⟨by rw [l_X5_positionOfRank, if_neg c_7, if_pos c_16], rfl⟩
def r_X5_positionOfRank (M : fM) (k : Nat) (i : Int32) : Int32 := (l_X5_positionOfRank k i M 301 0)
set_option maxRecDepth 100000 in
set_option maxHeartbeats 4000000 in
theorem c_X5_positionOfRank {G : fG} (hG : fOK G) {d : Nat} (hd : 2 ≤ d) (M : fM) (dv : UInt64) (k : Nat) (i : Int32) (hk : rLots k) (N : Nat) (hN : (M k 6) = nI N) (hN2 : N < 300) : fCt G z_X5_positionOfRank d [.ref k, .int i] (sS M dv) 0 0 (fD (some (.int (r_X5_positionOfRank M k i))) (sS M dv)) := by
  refine fCt_to [some (.ref k), some (.int i), none] k_X5_positionOfRank rfl (Nat.le_of_ble_eq_true rfl) rfl ?_
  refine f_iconst (v := 0) dX5_positionOfRank_0 rfl ?_
  refine f_istore_n (ls' := [_, _, _]) dX5_positionOfRank_1 rfl (Nat.le_of_ble_eq_true rfl) rfl rfl ?_
  exact lp_X5_positionOfRank hG hd _ dv k i hk N hN hN2 301 0 (by omega) (by omega)

def l_X5_sumOf (k : Nat) (r : Nat) (M : fM) : Nat → Nat → Int32 → Int32
  | 0, _, _ => 0
  | m + 1, j, v2 => (if (M k 6) ≤ (nI j) then v2 else (l_X5_sumOf k r M m (j + 1) (v2 + (rget M r 8 (nI j)))))
set_option maxRecDepth 100000 in
set_option maxHeartbeats 4000000 in
theorem lp_X5_sumOf {G : fG} (hG : fOK G) {d : Nat} (hd : 1 ≤ d) (M : fM) (dv : UInt64) (k : Nat) (r : Nat) (hk : rLots k) (hr : rRow r 8) (N : Nat) (hN : (M k 6) = nI N) (hN2 : N < 300) : ∀ (m j : Nat) (v2 : Int32), j ≤ N → N + 1 ≤ j + m → fV G z_X5_sumOf d (fD (some (.int (l_X5_sumOf k r M m j v2))) (sS M dv)) 4 [some (.ref k), some (.ref r), some (.int v2), some (.int (nI j))] [] (sS M dv) 0 0 := by
  intro m
  induction m with
  | zero => intros; omega
  | succ m ih =>
    intro j v2 hj hm
    refine f_iload_n dX5_sumOf_4 rfl rfl ?_
    refine f_aload_n dX5_sumOf_5 rfl rfl ?_
    refine s_geti hG fl_X5_35 dX5_sumOf_6 hk.1 rfl ?_
    refine f_icmp_ge (tgt := 26) dX5_sumOf_9 (by decide) (fun c_9 => ?_) (fun c_9 => ?_)
    · refine f_iload_n dX5_sumOf_26 rfl rfl ?_
      refine f_ireturn dX5_sumOf_27 rfl rfl ?_
      exact ⟨by rw [l_X5_sumOf, if_pos c_9], rfl⟩
    · have hlt : j < N := nlt hN c_9 hj (by omega)
      refine f_iload_n dX5_sumOf_12 rfl rfl ?_
      refine f_aload_n dX5_sumOf_13 rfl rfl ?_
      refine f_iload_n dX5_sumOf_14 rfl rfl ?_
      refine f_cV hG (As := [_]) dX5_sumOf_15 rfl k_X7_get rfl rfl ml_X5_42 im_X7_get se_X7_get hr.1 rfl (c_X7_get hG (Nat.le_refl _) _ _ _ _ hr (by decide) _) (by omega) (Nat.le_of_ble_eq_true rfl) (Nat.zero_le _) (Nat.zero_le _) ?_
      refine f_iadd dX5_sumOf_18 ?_
      refine f_istore_n (ls' := [_, _, _, _]) dX5_sumOf_19 rfl (Nat.le_of_ble_eq_true rfl) rfl rfl ?_
      refine f_iinc (v := nI (j + 1)) (ls' := [_, _, _, _]) dX5_sumOf_20 rfl (nI_1 j) (Nat.le_of_ble_eq_true rfl) rfl rfl ?_
      refine f_goto (tgt := 4) dX5_sumOf_23 (by decide) ?_
      have e9 : l_X5_sumOf k r M (m + 1) j v2 = l_X5_sumOf k r M m (j + 1) (v2 + (rget M r 8 (nI j))) := by rw [l_X5_sumOf, if_neg c_9]
      rw [e9]
      exact ih (j + 1) (v2 + (rget M r 8 (nI j))) (by omega) (by omega)
def r_X5_sumOf (M : fM) (k : Nat) (r : Nat) : Int32 := (l_X5_sumOf k r M 301 0 (0 : Int32))
set_option maxRecDepth 100000 in
set_option maxHeartbeats 4000000 in
theorem c_X5_sumOf {G : fG} (hG : fOK G) {d : Nat} (hd : 1 ≤ d) (M : fM) (dv : UInt64) (k : Nat) (r : Nat) (hk : rLots k) (hr : rRow r 8) (N : Nat) (hN : (M k 6) = nI N) (hN2 : N < 300) : fCt G z_X5_sumOf d [.ref k, .ref r] (sS M dv) 0 0 (fD (some (.int (r_X5_sumOf M k r))) (sS M dv)) := by
  refine fCt_to [some (.ref k), some (.ref r), none, none] k_X5_sumOf rfl (Nat.le_of_ble_eq_true rfl) rfl ?_
  refine f_iconst (v := 0) dX5_sumOf_0 rfl ?_
  refine f_istore_n (ls' := [_, _, _, _]) dX5_sumOf_1 rfl (Nat.le_of_ble_eq_true rfl) rfl rfl ?_
  refine f_iconst (v := 0) dX5_sumOf_2 rfl ?_
  refine f_istore_n (ls' := [_, _, _, _]) dX5_sumOf_3 rfl (Nat.le_of_ble_eq_true rfl) rfl rfl ?_
  exact lp_X5_sumOf hG hd _ dv k r hk hr N hN hN2 301 0 _ (by omega) (by omega)

def r_X5_add (M : fM) (k : Nat) (a : Int32) (b : Int32) (c : Int32) (e : Int32) : Int32 := (((fst1 (fst1 (rset (rset (rset (rset (rset (rset M (k + 1) 8 (M k 6) (M k 7)) (k + 3) 8 ((rset M (k + 1) 8 (M k 6) (M k 7)) k 6) a) (k + 5) 8 ((rset (rset M (k + 1) 8 (M k 6) (M k 7)) (k + 3) 8 ((rset M (k + 1) 8 (M k 6) (M k 7)) k 6) a) k 6) b) (k + 7) 8 ((rset (rset (rset M (k + 1) 8 (M k 6) (M k 7)) (k + 3) 8 ((rset M (k + 1) 8 (M k 6) (M k 7)) k 6) a) (k + 5) 8 ((rset (rset M (k + 1) 8 (M k 6) (M k 7)) (k + 3) 8 ((rset M (k + 1) 8 (M k 6) (M k 7)) k 6) a) k 6) b) k 6) c) (k + 9) 8 ((rset (rset (rset (rset M (k + 1) 8 (M k 6) (M k 7)) (k + 3) 8 ((rset M (k + 1) 8 (M k 6) (M k 7)) k 6) a) (k + 5) 8 ((rset (rset M (k + 1) 8 (M k 6) (M k 7)) (k + 3) 8 ((rset M (k + 1) 8 (M k 6) (M k 7)) k 6) a) k 6) b) (k + 7) 8 ((rset (rset (rset M (k + 1) 8 (M k 6) (M k 7)) (k + 3) 8 ((rset M (k + 1) 8 (M k 6) (M k 7)) k 6) a) (k + 5) 8 ((rset (rset M (k + 1) 8 (M k 6) (M k 7)) (k + 3) 8 ((rset M (k + 1) 8 (M k 6) (M k 7)) k 6) a) k 6) b) k 6) c) k 6) e) (k + 11) 8 ((rset (rset (rset (rset (rset M (k + 1) 8 (M k 6) (M k 7)) (k + 3) 8 ((rset M (k + 1) 8 (M k 6) (M k 7)) k 6) a) (k + 5) 8 ((rset (rset M (k + 1) 8 (M k 6) (M k 7)) (k + 3) 8 ((rset M (k + 1) 8 (M k 6) (M k 7)) k 6) a) k 6) b) (k + 7) 8 ((rset (rset (rset M (k + 1) 8 (M k 6) (M k 7)) (k + 3) 8 ((rset M (k + 1) 8 (M k 6) (M k 7)) k 6) a) (k + 5) 8 ((rset (rset M (k + 1) 8 (M k 6) (M k 7)) (k + 3) 8 ((rset M (k + 1) 8 (M k 6) (M k 7)) k 6) a) k 6) b) k 6) c) (k + 9) 8 ((rset (rset (rset (rset M (k + 1) 8 (M k 6) (M k 7)) (k + 3) 8 ((rset M (k + 1) 8 (M k 6) (M k 7)) k 6) a) (k + 5) 8 ((rset (rset M (k + 1) 8 (M k 6) (M k 7)) (k + 3) 8 ((rset M (k + 1) 8 (M k 6) (M k 7)) k 6) a) k 6) b) (k + 7) 8 ((rset (rset (rset M (k + 1) 8 (M k 6) (M k 7)) (k + 3) 8 ((rset M (k + 1) 8 (M k 6) (M k 7)) k 6) a) (k + 5) 8 ((rset (rset M (k + 1) 8 (M k 6) (M k 7)) (k + 3) 8 ((rset M (k + 1) 8 (M k 6) (M k 7)) k 6) a) k 6) b) k 6) c) k 6) e) k 6) (0 : Int32)) k 6 (((rset (rset (rset (rset (rset (rset M (k + 1) 8 (M k 6) (M k 7)) (k + 3) 8 ((rset M (k + 1) 8 (M k 6) (M k 7)) k 6) a) (k + 5) 8 ((rset (rset M (k + 1) 8 (M k 6) (M k 7)) (k + 3) 8 ((rset M (k + 1) 8 (M k 6) (M k 7)) k 6) a) k 6) b) (k + 7) 8 ((rset (rset (rset M (k + 1) 8 (M k 6) (M k 7)) (k + 3) 8 ((rset M (k + 1) 8 (M k 6) (M k 7)) k 6) a) (k + 5) 8 ((rset (rset M (k + 1) 8 (M k 6) (M k 7)) (k + 3) 8 ((rset M (k + 1) 8 (M k 6) (M k 7)) k 6) a) k 6) b) k 6) c) (k + 9) 8 ((rset (rset (rset (rset M (k + 1) 8 (M k 6) (M k 7)) (k + 3) 8 ((rset M (k + 1) 8 (M k 6) (M k 7)) k 6) a) (k + 5) 8 ((rset (rset M (k + 1) 8 (M k 6) (M k 7)) (k + 3) 8 ((rset M (k + 1) 8 (M k 6) (M k 7)) k 6) a) k 6) b) (k + 7) 8 ((rset (rset (rset M (k + 1) 8 (M k 6) (M k 7)) (k + 3) 8 ((rset M (k + 1) 8 (M k 6) (M k 7)) k 6) a) (k + 5) 8 ((rset (rset M (k + 1) 8 (M k 6) (M k 7)) (k + 3) 8 ((rset M (k + 1) 8 (M k 6) (M k 7)) k 6) a) k 6) b) k 6) c) k 6) e) (k + 11) 8 ((rset (rset (rset (rset (rset M (k + 1) 8 (M k 6) (M k 7)) (k + 3) 8 ((rset M (k + 1) 8 (M k 6) (M k 7)) k 6) a) (k + 5) 8 ((rset (rset M (k + 1) 8 (M k 6) (M k 7)) (k + 3) 8 ((rset M (k + 1) 8 (M k 6) (M k 7)) k 6) a) k 6) b) (k + 7) 8 ((rset (rset (rset M (k + 1) 8 (M k 6) (M k 7)) (k + 3) 8 ((rset M (k + 1) 8 (M k 6) (M k 7)) k 6) a) (k + 5) 8 ((rset (rset M (k + 1) 8 (M k 6) (M k 7)) (k + 3) 8 ((rset M (k + 1) 8 (M k 6) (M k 7)) k 6) a) k 6) b) k 6) c) (k + 9) 8 ((rset (rset (rset (rset M (k + 1) 8 (M k 6) (M k 7)) (k + 3) 8 ((rset M (k + 1) 8 (M k 6) (M k 7)) k 6) a) (k + 5) 8 ((rset (rset M (k + 1) 8 (M k 6) (M k 7)) (k + 3) 8 ((rset M (k + 1) 8 (M k 6) (M k 7)) k 6) a) k 6) b) (k + 7) 8 ((rset (rset (rset M (k + 1) 8 (M k 6) (M k 7)) (k + 3) 8 ((rset M (k + 1) 8 (M k 6) (M k 7)) k 6) a) (k + 5) 8 ((rset (rset M (k + 1) 8 (M k 6) (M k 7)) (k + 3) 8 ((rset M (k + 1) 8 (M k 6) (M k 7)) k 6) a) k 6) b) k 6) c) k 6) e) k 6) (0 : Int32)) k 6) + (1 : Int32))) k 7 (((fst1 (rset (rset (rset (rset (rset (rset M (k + 1) 8 (M k 6) (M k 7)) (k + 3) 8 ((rset M (k + 1) 8 (M k 6) (M k 7)) k 6) a) (k + 5) 8 ((rset (rset M (k + 1) 8 (M k 6) (M k 7)) (k + 3) 8 ((rset M (k + 1) 8 (M k 6) (M k 7)) k 6) a) k 6) b) (k + 7) 8 ((rset (rset (rset M (k + 1) 8 (M k 6) (M k 7)) (k + 3) 8 ((rset M (k + 1) 8 (M k 6) (M k 7)) k 6) a) (k + 5) 8 ((rset (rset M (k + 1) 8 (M k 6) (M k 7)) (k + 3) 8 ((rset M (k + 1) 8 (M k 6) (M k 7)) k 6) a) k 6) b) k 6) c) (k + 9) 8 ((rset (rset (rset (rset M (k + 1) 8 (M k 6) (M k 7)) (k + 3) 8 ((rset M (k + 1) 8 (M k 6) (M k 7)) k 6) a) (k + 5) 8 ((rset (rset M (k + 1) 8 (M k 6) (M k 7)) (k + 3) 8 ((rset M (k + 1) 8 (M k 6) (M k 7)) k 6) a) k 6) b) (k + 7) 8 ((rset (rset (rset M (k + 1) 8 (M k 6) (M k 7)) (k + 3) 8 ((rset M (k + 1) 8 (M k 6) (M k 7)) k 6) a) (k + 5) 8 ((rset (rset M (k + 1) 8 (M k 6) (M k 7)) (k + 3) 8 ((rset M (k + 1) 8 (M k 6) (M k 7)) k 6) a) k 6) b) k 6) c) k 6) e) (k + 11) 8 ((rset (rset (rset (rset (rset M (k + 1) 8 (M k 6) (M k 7)) (k + 3) 8 ((rset M (k + 1) 8 (M k 6) (M k 7)) k 6) a) (k + 5) 8 ((rset (rset M (k + 1) 8 (M k 6) (M k 7)) (k + 3) 8 ((rset M (k + 1) 8 (M k 6) (M k 7)) k 6) a) k 6) b) (k + 7) 8 ((rset (rset (rset M (k + 1) 8 (M k 6) (M k 7)) (k + 3) 8 ((rset M (k + 1) 8 (M k 6) (M k 7)) k 6) a) (k + 5) 8 ((rset (rset M (k + 1) 8 (M k 6) (M k 7)) (k + 3) 8 ((rset M (k + 1) 8 (M k 6) (M k 7)) k 6) a) k 6) b) k 6) c) (k + 9) 8 ((rset (rset (rset (rset M (k + 1) 8 (M k 6) (M k 7)) (k + 3) 8 ((rset M (k + 1) 8 (M k 6) (M k 7)) k 6) a) (k + 5) 8 ((rset (rset M (k + 1) 8 (M k 6) (M k 7)) (k + 3) 8 ((rset M (k + 1) 8 (M k 6) (M k 7)) k 6) a) k 6) b) (k + 7) 8 ((rset (rset (rset M (k + 1) 8 (M k 6) (M k 7)) (k + 3) 8 ((rset M (k + 1) 8 (M k 6) (M k 7)) k 6) a) (k + 5) 8 ((rset (rset M (k + 1) 8 (M k 6) (M k 7)) (k + 3) 8 ((rset M (k + 1) 8 (M k 6) (M k 7)) k 6) a) k 6) b) k 6) c) k 6) e) k 6) (0 : Int32)) k 6 (((rset (rset (rset (rset (rset (rset M (k + 1) 8 (M k 6) (M k 7)) (k + 3) 8 ((rset M (k + 1) 8 (M k 6) (M k 7)) k 6) a) (k + 5) 8 ((rset (rset M (k + 1) 8 (M k 6) (M k 7)) (k + 3) 8 ((rset M (k + 1) 8 (M k 6) (M k 7)) k 6) a) k 6) b) (k + 7) 8 ((rset (rset (rset M (k + 1) 8 (M k 6) (M k 7)) (k + 3) 8 ((rset M (k + 1) 8 (M k 6) (M k 7)) k 6) a) (k + 5) 8 ((rset (rset M (k + 1) 8 (M k 6) (M k 7)) (k + 3) 8 ((rset M (k + 1) 8 (M k 6) (M k 7)) k 6) a) k 6) b) k 6) c) (k + 9) 8 ((rset (rset (rset (rset M (k + 1) 8 (M k 6) (M k 7)) (k + 3) 8 ((rset M (k + 1) 8 (M k 6) (M k 7)) k 6) a) (k + 5) 8 ((rset (rset M (k + 1) 8 (M k 6) (M k 7)) (k + 3) 8 ((rset M (k + 1) 8 (M k 6) (M k 7)) k 6) a) k 6) b) (k + 7) 8 ((rset (rset (rset M (k + 1) 8 (M k 6) (M k 7)) (k + 3) 8 ((rset M (k + 1) 8 (M k 6) (M k 7)) k 6) a) (k + 5) 8 ((rset (rset M (k + 1) 8 (M k 6) (M k 7)) (k + 3) 8 ((rset M (k + 1) 8 (M k 6) (M k 7)) k 6) a) k 6) b) k 6) c) k 6) e) (k + 11) 8 ((rset (rset (rset (rset (rset M (k + 1) 8 (M k 6) (M k 7)) (k + 3) 8 ((rset M (k + 1) 8 (M k 6) (M k 7)) k 6) a) (k + 5) 8 ((rset (rset M (k + 1) 8 (M k 6) (M k 7)) (k + 3) 8 ((rset M (k + 1) 8 (M k 6) (M k 7)) k 6) a) k 6) b) (k + 7) 8 ((rset (rset (rset M (k + 1) 8 (M k 6) (M k 7)) (k + 3) 8 ((rset M (k + 1) 8 (M k 6) (M k 7)) k 6) a) (k + 5) 8 ((rset (rset M (k + 1) 8 (M k 6) (M k 7)) (k + 3) 8 ((rset M (k + 1) 8 (M k 6) (M k 7)) k 6) a) k 6) b) k 6) c) (k + 9) 8 ((rset (rset (rset (rset M (k + 1) 8 (M k 6) (M k 7)) (k + 3) 8 ((rset M (k + 1) 8 (M k 6) (M k 7)) k 6) a) (k + 5) 8 ((rset (rset M (k + 1) 8 (M k 6) (M k 7)) (k + 3) 8 ((rset M (k + 1) 8 (M k 6) (M k 7)) k 6) a) k 6) b) (k + 7) 8 ((rset (rset (rset M (k + 1) 8 (M k 6) (M k 7)) (k + 3) 8 ((rset M (k + 1) 8 (M k 6) (M k 7)) k 6) a) (k + 5) 8 ((rset (rset M (k + 1) 8 (M k 6) (M k 7)) (k + 3) 8 ((rset M (k + 1) 8 (M k 6) (M k 7)) k 6) a) k 6) b) k 6) c) k 6) e) k 6) (0 : Int32)) k 6) + (1 : Int32))) k 7) + (1 : Int32))) k 7) - (1 : Int32))
def m_X5_add (M : fM) (k : Nat) (a : Int32) (b : Int32) (c : Int32) (e : Int32) : fM := (fst1 (fst1 (rset (rset (rset (rset (rset (rset M (k + 1) 8 (M k 6) (M k 7)) (k + 3) 8 ((rset M (k + 1) 8 (M k 6) (M k 7)) k 6) a) (k + 5) 8 ((rset (rset M (k + 1) 8 (M k 6) (M k 7)) (k + 3) 8 ((rset M (k + 1) 8 (M k 6) (M k 7)) k 6) a) k 6) b) (k + 7) 8 ((rset (rset (rset M (k + 1) 8 (M k 6) (M k 7)) (k + 3) 8 ((rset M (k + 1) 8 (M k 6) (M k 7)) k 6) a) (k + 5) 8 ((rset (rset M (k + 1) 8 (M k 6) (M k 7)) (k + 3) 8 ((rset M (k + 1) 8 (M k 6) (M k 7)) k 6) a) k 6) b) k 6) c) (k + 9) 8 ((rset (rset (rset (rset M (k + 1) 8 (M k 6) (M k 7)) (k + 3) 8 ((rset M (k + 1) 8 (M k 6) (M k 7)) k 6) a) (k + 5) 8 ((rset (rset M (k + 1) 8 (M k 6) (M k 7)) (k + 3) 8 ((rset M (k + 1) 8 (M k 6) (M k 7)) k 6) a) k 6) b) (k + 7) 8 ((rset (rset (rset M (k + 1) 8 (M k 6) (M k 7)) (k + 3) 8 ((rset M (k + 1) 8 (M k 6) (M k 7)) k 6) a) (k + 5) 8 ((rset (rset M (k + 1) 8 (M k 6) (M k 7)) (k + 3) 8 ((rset M (k + 1) 8 (M k 6) (M k 7)) k 6) a) k 6) b) k 6) c) k 6) e) (k + 11) 8 ((rset (rset (rset (rset (rset M (k + 1) 8 (M k 6) (M k 7)) (k + 3) 8 ((rset M (k + 1) 8 (M k 6) (M k 7)) k 6) a) (k + 5) 8 ((rset (rset M (k + 1) 8 (M k 6) (M k 7)) (k + 3) 8 ((rset M (k + 1) 8 (M k 6) (M k 7)) k 6) a) k 6) b) (k + 7) 8 ((rset (rset (rset M (k + 1) 8 (M k 6) (M k 7)) (k + 3) 8 ((rset M (k + 1) 8 (M k 6) (M k 7)) k 6) a) (k + 5) 8 ((rset (rset M (k + 1) 8 (M k 6) (M k 7)) (k + 3) 8 ((rset M (k + 1) 8 (M k 6) (M k 7)) k 6) a) k 6) b) k 6) c) (k + 9) 8 ((rset (rset (rset (rset M (k + 1) 8 (M k 6) (M k 7)) (k + 3) 8 ((rset M (k + 1) 8 (M k 6) (M k 7)) k 6) a) (k + 5) 8 ((rset (rset M (k + 1) 8 (M k 6) (M k 7)) (k + 3) 8 ((rset M (k + 1) 8 (M k 6) (M k 7)) k 6) a) k 6) b) (k + 7) 8 ((rset (rset (rset M (k + 1) 8 (M k 6) (M k 7)) (k + 3) 8 ((rset M (k + 1) 8 (M k 6) (M k 7)) k 6) a) (k + 5) 8 ((rset (rset M (k + 1) 8 (M k 6) (M k 7)) (k + 3) 8 ((rset M (k + 1) 8 (M k 6) (M k 7)) k 6) a) k 6) b) k 6) c) k 6) e) k 6) (0 : Int32)) k 6 (((rset (rset (rset (rset (rset (rset M (k + 1) 8 (M k 6) (M k 7)) (k + 3) 8 ((rset M (k + 1) 8 (M k 6) (M k 7)) k 6) a) (k + 5) 8 ((rset (rset M (k + 1) 8 (M k 6) (M k 7)) (k + 3) 8 ((rset M (k + 1) 8 (M k 6) (M k 7)) k 6) a) k 6) b) (k + 7) 8 ((rset (rset (rset M (k + 1) 8 (M k 6) (M k 7)) (k + 3) 8 ((rset M (k + 1) 8 (M k 6) (M k 7)) k 6) a) (k + 5) 8 ((rset (rset M (k + 1) 8 (M k 6) (M k 7)) (k + 3) 8 ((rset M (k + 1) 8 (M k 6) (M k 7)) k 6) a) k 6) b) k 6) c) (k + 9) 8 ((rset (rset (rset (rset M (k + 1) 8 (M k 6) (M k 7)) (k + 3) 8 ((rset M (k + 1) 8 (M k 6) (M k 7)) k 6) a) (k + 5) 8 ((rset (rset M (k + 1) 8 (M k 6) (M k 7)) (k + 3) 8 ((rset M (k + 1) 8 (M k 6) (M k 7)) k 6) a) k 6) b) (k + 7) 8 ((rset (rset (rset M (k + 1) 8 (M k 6) (M k 7)) (k + 3) 8 ((rset M (k + 1) 8 (M k 6) (M k 7)) k 6) a) (k + 5) 8 ((rset (rset M (k + 1) 8 (M k 6) (M k 7)) (k + 3) 8 ((rset M (k + 1) 8 (M k 6) (M k 7)) k 6) a) k 6) b) k 6) c) k 6) e) (k + 11) 8 ((rset (rset (rset (rset (rset M (k + 1) 8 (M k 6) (M k 7)) (k + 3) 8 ((rset M (k + 1) 8 (M k 6) (M k 7)) k 6) a) (k + 5) 8 ((rset (rset M (k + 1) 8 (M k 6) (M k 7)) (k + 3) 8 ((rset M (k + 1) 8 (M k 6) (M k 7)) k 6) a) k 6) b) (k + 7) 8 ((rset (rset (rset M (k + 1) 8 (M k 6) (M k 7)) (k + 3) 8 ((rset M (k + 1) 8 (M k 6) (M k 7)) k 6) a) (k + 5) 8 ((rset (rset M (k + 1) 8 (M k 6) (M k 7)) (k + 3) 8 ((rset M (k + 1) 8 (M k 6) (M k 7)) k 6) a) k 6) b) k 6) c) (k + 9) 8 ((rset (rset (rset (rset M (k + 1) 8 (M k 6) (M k 7)) (k + 3) 8 ((rset M (k + 1) 8 (M k 6) (M k 7)) k 6) a) (k + 5) 8 ((rset (rset M (k + 1) 8 (M k 6) (M k 7)) (k + 3) 8 ((rset M (k + 1) 8 (M k 6) (M k 7)) k 6) a) k 6) b) (k + 7) 8 ((rset (rset (rset M (k + 1) 8 (M k 6) (M k 7)) (k + 3) 8 ((rset M (k + 1) 8 (M k 6) (M k 7)) k 6) a) (k + 5) 8 ((rset (rset M (k + 1) 8 (M k 6) (M k 7)) (k + 3) 8 ((rset M (k + 1) 8 (M k 6) (M k 7)) k 6) a) k 6) b) k 6) c) k 6) e) k 6) (0 : Int32)) k 6) + (1 : Int32))) k 7 (((fst1 (rset (rset (rset (rset (rset (rset M (k + 1) 8 (M k 6) (M k 7)) (k + 3) 8 ((rset M (k + 1) 8 (M k 6) (M k 7)) k 6) a) (k + 5) 8 ((rset (rset M (k + 1) 8 (M k 6) (M k 7)) (k + 3) 8 ((rset M (k + 1) 8 (M k 6) (M k 7)) k 6) a) k 6) b) (k + 7) 8 ((rset (rset (rset M (k + 1) 8 (M k 6) (M k 7)) (k + 3) 8 ((rset M (k + 1) 8 (M k 6) (M k 7)) k 6) a) (k + 5) 8 ((rset (rset M (k + 1) 8 (M k 6) (M k 7)) (k + 3) 8 ((rset M (k + 1) 8 (M k 6) (M k 7)) k 6) a) k 6) b) k 6) c) (k + 9) 8 ((rset (rset (rset (rset M (k + 1) 8 (M k 6) (M k 7)) (k + 3) 8 ((rset M (k + 1) 8 (M k 6) (M k 7)) k 6) a) (k + 5) 8 ((rset (rset M (k + 1) 8 (M k 6) (M k 7)) (k + 3) 8 ((rset M (k + 1) 8 (M k 6) (M k 7)) k 6) a) k 6) b) (k + 7) 8 ((rset (rset (rset M (k + 1) 8 (M k 6) (M k 7)) (k + 3) 8 ((rset M (k + 1) 8 (M k 6) (M k 7)) k 6) a) (k + 5) 8 ((rset (rset M (k + 1) 8 (M k 6) (M k 7)) (k + 3) 8 ((rset M (k + 1) 8 (M k 6) (M k 7)) k 6) a) k 6) b) k 6) c) k 6) e) (k + 11) 8 ((rset (rset (rset (rset (rset M (k + 1) 8 (M k 6) (M k 7)) (k + 3) 8 ((rset M (k + 1) 8 (M k 6) (M k 7)) k 6) a) (k + 5) 8 ((rset (rset M (k + 1) 8 (M k 6) (M k 7)) (k + 3) 8 ((rset M (k + 1) 8 (M k 6) (M k 7)) k 6) a) k 6) b) (k + 7) 8 ((rset (rset (rset M (k + 1) 8 (M k 6) (M k 7)) (k + 3) 8 ((rset M (k + 1) 8 (M k 6) (M k 7)) k 6) a) (k + 5) 8 ((rset (rset M (k + 1) 8 (M k 6) (M k 7)) (k + 3) 8 ((rset M (k + 1) 8 (M k 6) (M k 7)) k 6) a) k 6) b) k 6) c) (k + 9) 8 ((rset (rset (rset (rset M (k + 1) 8 (M k 6) (M k 7)) (k + 3) 8 ((rset M (k + 1) 8 (M k 6) (M k 7)) k 6) a) (k + 5) 8 ((rset (rset M (k + 1) 8 (M k 6) (M k 7)) (k + 3) 8 ((rset M (k + 1) 8 (M k 6) (M k 7)) k 6) a) k 6) b) (k + 7) 8 ((rset (rset (rset M (k + 1) 8 (M k 6) (M k 7)) (k + 3) 8 ((rset M (k + 1) 8 (M k 6) (M k 7)) k 6) a) (k + 5) 8 ((rset (rset M (k + 1) 8 (M k 6) (M k 7)) (k + 3) 8 ((rset M (k + 1) 8 (M k 6) (M k 7)) k 6) a) k 6) b) k 6) c) k 6) e) k 6) (0 : Int32)) k 6 (((rset (rset (rset (rset (rset (rset M (k + 1) 8 (M k 6) (M k 7)) (k + 3) 8 ((rset M (k + 1) 8 (M k 6) (M k 7)) k 6) a) (k + 5) 8 ((rset (rset M (k + 1) 8 (M k 6) (M k 7)) (k + 3) 8 ((rset M (k + 1) 8 (M k 6) (M k 7)) k 6) a) k 6) b) (k + 7) 8 ((rset (rset (rset M (k + 1) 8 (M k 6) (M k 7)) (k + 3) 8 ((rset M (k + 1) 8 (M k 6) (M k 7)) k 6) a) (k + 5) 8 ((rset (rset M (k + 1) 8 (M k 6) (M k 7)) (k + 3) 8 ((rset M (k + 1) 8 (M k 6) (M k 7)) k 6) a) k 6) b) k 6) c) (k + 9) 8 ((rset (rset (rset (rset M (k + 1) 8 (M k 6) (M k 7)) (k + 3) 8 ((rset M (k + 1) 8 (M k 6) (M k 7)) k 6) a) (k + 5) 8 ((rset (rset M (k + 1) 8 (M k 6) (M k 7)) (k + 3) 8 ((rset M (k + 1) 8 (M k 6) (M k 7)) k 6) a) k 6) b) (k + 7) 8 ((rset (rset (rset M (k + 1) 8 (M k 6) (M k 7)) (k + 3) 8 ((rset M (k + 1) 8 (M k 6) (M k 7)) k 6) a) (k + 5) 8 ((rset (rset M (k + 1) 8 (M k 6) (M k 7)) (k + 3) 8 ((rset M (k + 1) 8 (M k 6) (M k 7)) k 6) a) k 6) b) k 6) c) k 6) e) (k + 11) 8 ((rset (rset (rset (rset (rset M (k + 1) 8 (M k 6) (M k 7)) (k + 3) 8 ((rset M (k + 1) 8 (M k 6) (M k 7)) k 6) a) (k + 5) 8 ((rset (rset M (k + 1) 8 (M k 6) (M k 7)) (k + 3) 8 ((rset M (k + 1) 8 (M k 6) (M k 7)) k 6) a) k 6) b) (k + 7) 8 ((rset (rset (rset M (k + 1) 8 (M k 6) (M k 7)) (k + 3) 8 ((rset M (k + 1) 8 (M k 6) (M k 7)) k 6) a) (k + 5) 8 ((rset (rset M (k + 1) 8 (M k 6) (M k 7)) (k + 3) 8 ((rset M (k + 1) 8 (M k 6) (M k 7)) k 6) a) k 6) b) k 6) c) (k + 9) 8 ((rset (rset (rset (rset M (k + 1) 8 (M k 6) (M k 7)) (k + 3) 8 ((rset M (k + 1) 8 (M k 6) (M k 7)) k 6) a) (k + 5) 8 ((rset (rset M (k + 1) 8 (M k 6) (M k 7)) (k + 3) 8 ((rset M (k + 1) 8 (M k 6) (M k 7)) k 6) a) k 6) b) (k + 7) 8 ((rset (rset (rset M (k + 1) 8 (M k 6) (M k 7)) (k + 3) 8 ((rset M (k + 1) 8 (M k 6) (M k 7)) k 6) a) (k + 5) 8 ((rset (rset M (k + 1) 8 (M k 6) (M k 7)) (k + 3) 8 ((rset M (k + 1) 8 (M k 6) (M k 7)) k 6) a) k 6) b) k 6) c) k 6) e) k 6) (0 : Int32)) k 6) + (1 : Int32))) k 7) + (1 : Int32)))
set_option maxRecDepth 100000 in
set_option maxHeartbeats 4000000 in
theorem c_X5_add {G : fG} (hG : fOK G) {d : Nat} (hd : 1 ≤ d) (M : fM) (dv : UInt64) (k : Nat) (a : Int32) (b : Int32) (c : Int32) (e : Int32) (hk : rLots k) : fCt G z_X5_add d [.ref k, .int a, .int b, .int c, .int e] (sS M dv) 0 0 (fD (some (.int (r_X5_add M k a b c e))) (sS (m_X5_add M k a b c e) dv)) := by
  refine fCt_to [some (.ref k), some (.int a), some (.int b), some (.int c), some (.int e)] k_X5_add rfl (Nat.le_of_ble_eq_true rfl) rfl ?_
  refine f_aload_n dX5_add_0 rfl rfl ?_
  refine s_getr hG fl_X5_14 dX5_add_1 hk.1 rfl ?_
  refine f_aload_n dX5_add_4 rfl rfl ?_
  refine s_geti hG fl_X5_35 dX5_add_5 hk.1 rfl ?_
  refine f_aload_n dX5_add_8 rfl rfl ?_
  refine s_geti hG fl_X5_39 dX5_add_9 hk.1 rfl ?_
  refine f_cV hG (As := [_, _]) dX5_add_12 rfl k_X7_set rfl rfl ml_X5_49 im_X7_set se_X7_set hk.2.1.1 rfl (c_X7_set hG (Nat.le_refl _) _ _ _ _ hk.2.1 (by decide) _ _) (by omega) (Nat.le_of_ble_eq_true rfl) (Nat.zero_le _) (Nat.zero_le _) ?_
  refine f_aload_n dX5_add_15 rfl rfl ?_
  refine s_getr hG fl_X5_20 dX5_add_16 hk.1 rfl ?_
  refine f_aload_n dX5_add_19 rfl rfl ?_
  refine s_geti hG fl_X5_35 dX5_add_20 hk.1 rfl ?_
  refine f_iload_n dX5_add_23 rfl rfl ?_
  refine f_cV hG (As := [_, _]) dX5_add_24 rfl k_X7_set rfl rfl ml_X5_49 im_X7_set se_X7_set hk.2.2.1.1 rfl (c_X7_set hG (Nat.le_refl _) _ _ _ _ hk.2.2.1 (by decide) _ _) (by omega) (Nat.le_of_ble_eq_true rfl) (Nat.zero_le _) (Nat.zero_le _) ?_
  refine f_aload_n dX5_add_27 rfl rfl ?_
  refine s_getr hG fl_X5_23 dX5_add_28 hk.1 rfl ?_
  refine f_aload_n dX5_add_31 rfl rfl ?_
  refine s_geti hG fl_X5_35 dX5_add_32 hk.1 rfl ?_
  refine f_iload_n dX5_add_35 rfl rfl ?_
  refine f_cV hG (As := [_, _]) dX5_add_36 rfl k_X7_set rfl rfl ml_X5_49 im_X7_set se_X7_set hk.2.2.2.1.1 rfl (c_X7_set hG (Nat.le_refl _) _ _ _ _ hk.2.2.2.1 (by decide) _ _) (by omega) (Nat.le_of_ble_eq_true rfl) (Nat.zero_le _) (Nat.zero_le _) ?_
  refine f_aload_n dX5_add_39 rfl rfl ?_
  refine s_getr hG fl_X5_26 dX5_add_40 hk.1 rfl ?_
  refine f_aload_n dX5_add_43 rfl rfl ?_
  refine s_geti hG fl_X5_35 dX5_add_44 hk.1 rfl ?_
  refine f_iload_n dX5_add_47 rfl rfl ?_
  refine f_cV hG (As := [_, _]) dX5_add_48 rfl k_X7_set rfl rfl ml_X5_49 im_X7_set se_X7_set hk.2.2.2.2.1.1 rfl (c_X7_set hG (Nat.le_refl _) _ _ _ _ hk.2.2.2.2.1 (by decide) _ _) (by omega) (Nat.le_of_ble_eq_true rfl) (Nat.zero_le _) (Nat.zero_le _) ?_
  refine f_aload_n dX5_add_51 rfl rfl ?_
  refine s_getr hG fl_X5_29 dX5_add_52 hk.1 rfl ?_
  refine f_aload_n dX5_add_55 rfl rfl ?_
  refine s_geti hG fl_X5_35 dX5_add_56 hk.1 rfl ?_
  refine f_iload dX5_add_59 rfl ?_
  refine f_cV hG (As := [_, _]) dX5_add_61 rfl k_X7_set rfl rfl ml_X5_49 im_X7_set se_X7_set hk.2.2.2.2.2.1.1 rfl (c_X7_set hG (Nat.le_refl _) _ _ _ _ hk.2.2.2.2.2.1 (by decide) _ _) (by omega) (Nat.le_of_ble_eq_true rfl) (Nat.zero_le _) (Nat.zero_le _) ?_
  refine f_aload_n dX5_add_64 rfl rfl ?_
  refine s_getr hG fl_X5_32 dX5_add_65 hk.1 rfl ?_
  refine f_aload_n dX5_add_68 rfl rfl ?_
  refine s_geti hG fl_X5_35 dX5_add_69 hk.1 rfl ?_
  refine f_iconst (v := 0) dX5_add_72 rfl ?_
  refine f_cV hG (As := [_, _]) dX5_add_73 rfl k_X7_set rfl rfl ml_X5_49 im_X7_set se_X7_set hk.2.2.2.2.2.2.1 rfl (c_X7_set hG (Nat.le_refl _) _ _ _ _ hk.2.2.2.2.2.2 (by decide) _ _) (by omega) (Nat.le_of_ble_eq_true rfl) (Nat.zero_le _) (Nat.zero_le _) ?_
  refine f_aload_n dX5_add_76 rfl rfl ?_
  refine f_dup dX5_add_77 rfl ?_
  refine s_geti hG fl_X5_35 dX5_add_78 hk.1 rfl ?_
  refine f_iconst (v := 1) dX5_add_81 rfl ?_
  refine f_iadd dX5_add_82 ?_
  refine s_puti hG fl_X5_35 (Or.inl rfl) dX5_add_83 hk.1 rfl rfl rfl ?_
  refine f_aload_n dX5_add_86 rfl rfl ?_
  refine f_dup dX5_add_87 rfl ?_
  refine s_geti hG fl_X5_39 dX5_add_88 hk.1 rfl ?_
  refine f_iconst (v := 1) dX5_add_91 rfl ?_
  refine f_iadd dX5_add_92 ?_
  refine s_puti hG fl_X5_39 (Or.inl rfl) dX5_add_93 hk.1 rfl rfl rfl ?_
  refine f_aload_n dX5_add_96 rfl rfl ?_
  refine s_geti hG fl_X5_39 dX5_add_97 hk.1 rfl ?_
  refine f_iconst (v := 1) dX5_add_100 rfl ?_
  refine f_isub dX5_add_101 ?_
  refine f_ireturn dX5_add_102 rfl rfl ?_
  exact ⟨by rw [r_X5_add], by rw [m_X5_add]⟩

def r_X5_remove (M : fM) (k : Nat) (g : Nat) : Int32 := (rget M (k + 9) 8 (nI g))
def m_X5_remove (M : fM) (k : Nat) (g : Nat) : fM := (fst1 (rgap (rgap (rgap (rgap (rgap (rgap M (k + 1) 8 g) (k + 3) 8 g) (k + 5) 8 g) (k + 7) 8 g) (k + 9) 8 g) (k + 11) 8 g) k 6 (((rgap (rgap (rgap (rgap (rgap (rgap M (k + 1) 8 g) (k + 3) 8 g) (k + 5) 8 g) (k + 7) 8 g) (k + 9) 8 g) (k + 11) 8 g) k 6) - (1 : Int32)))
set_option maxRecDepth 100000 in
set_option maxHeartbeats 4000000 in
theorem c_X5_remove {G : fG} (hG : fOK G) {d : Nat} (hd : 1 ≤ d) (M : fM) (dv : UInt64) (k : Nat) (g : Nat) (hk : rLots k) (hg : g < 8) : fCt G z_X5_remove d [.ref k, .int (nI g)] (sS M dv) 0 0 (fD (some (.int (r_X5_remove M k g))) (sS (m_X5_remove M k g) dv)) := by
  refine fCt_to [some (.ref k), some (.int (nI g)), none] k_X5_remove rfl (Nat.le_of_ble_eq_true rfl) rfl ?_
  refine f_aload_n dX5_remove_0 rfl rfl ?_
  refine s_getr hG fl_X5_29 dX5_remove_1 hk.1 rfl ?_
  refine f_iload_n dX5_remove_4 rfl rfl ?_
  refine f_cV hG (As := [_]) dX5_remove_5 rfl k_X7_get rfl rfl ml_X5_42 im_X7_get se_X7_get hk.2.2.2.2.2.1.1 rfl (c_X7_get hG (Nat.le_refl _) _ _ _ _ hk.2.2.2.2.2.1 (by decide) _) (by omega) (Nat.le_of_ble_eq_true rfl) (Nat.zero_le _) (Nat.zero_le _) ?_
  refine f_istore_n (ls' := [_, _, _]) dX5_remove_8 rfl (Nat.le_of_ble_eq_true rfl) rfl rfl ?_
  refine f_aload_n dX5_remove_9 rfl rfl ?_
  refine s_getr hG fl_X5_14 dX5_remove_10 hk.1 rfl ?_
  refine f_iload_n dX5_remove_13 rfl rfl ?_
  refine f_cV hG (As := [_]) dX5_remove_14 rfl k_X7_closeGap rfl rfl ml_X5_53 im_X7_closeGap se_X7_closeGap hk.2.1.1 rfl (c_X7_closeGap hG (Nat.le_refl _) _ _ _ _ hk.2.1 (by decide) _ (by omega)) (by omega) (Nat.le_of_ble_eq_true rfl) (Nat.zero_le _) (Nat.zero_le _) ?_
  refine f_aload_n dX5_remove_17 rfl rfl ?_
  refine s_getr hG fl_X5_20 dX5_remove_18 hk.1 rfl ?_
  refine f_iload_n dX5_remove_21 rfl rfl ?_
  refine f_cV hG (As := [_]) dX5_remove_22 rfl k_X7_closeGap rfl rfl ml_X5_53 im_X7_closeGap se_X7_closeGap hk.2.2.1.1 rfl (c_X7_closeGap hG (Nat.le_refl _) _ _ _ _ hk.2.2.1 (by decide) _ (by omega)) (by omega) (Nat.le_of_ble_eq_true rfl) (Nat.zero_le _) (Nat.zero_le _) ?_
  refine f_aload_n dX5_remove_25 rfl rfl ?_
  refine s_getr hG fl_X5_23 dX5_remove_26 hk.1 rfl ?_
  refine f_iload_n dX5_remove_29 rfl rfl ?_
  refine f_cV hG (As := [_]) dX5_remove_30 rfl k_X7_closeGap rfl rfl ml_X5_53 im_X7_closeGap se_X7_closeGap hk.2.2.2.1.1 rfl (c_X7_closeGap hG (Nat.le_refl _) _ _ _ _ hk.2.2.2.1 (by decide) _ (by omega)) (by omega) (Nat.le_of_ble_eq_true rfl) (Nat.zero_le _) (Nat.zero_le _) ?_
  refine f_aload_n dX5_remove_33 rfl rfl ?_
  refine s_getr hG fl_X5_26 dX5_remove_34 hk.1 rfl ?_
  refine f_iload_n dX5_remove_37 rfl rfl ?_
  refine f_cV hG (As := [_]) dX5_remove_38 rfl k_X7_closeGap rfl rfl ml_X5_53 im_X7_closeGap se_X7_closeGap hk.2.2.2.2.1.1 rfl (c_X7_closeGap hG (Nat.le_refl _) _ _ _ _ hk.2.2.2.2.1 (by decide) _ (by omega)) (by omega) (Nat.le_of_ble_eq_true rfl) (Nat.zero_le _) (Nat.zero_le _) ?_
  refine f_aload_n dX5_remove_41 rfl rfl ?_
  refine s_getr hG fl_X5_29 dX5_remove_42 hk.1 rfl ?_
  refine f_iload_n dX5_remove_45 rfl rfl ?_
  refine f_cV hG (As := [_]) dX5_remove_46 rfl k_X7_closeGap rfl rfl ml_X5_53 im_X7_closeGap se_X7_closeGap hk.2.2.2.2.2.1.1 rfl (c_X7_closeGap hG (Nat.le_refl _) _ _ _ _ hk.2.2.2.2.2.1 (by decide) _ (by omega)) (by omega) (Nat.le_of_ble_eq_true rfl) (Nat.zero_le _) (Nat.zero_le _) ?_
  refine f_aload_n dX5_remove_49 rfl rfl ?_
  refine s_getr hG fl_X5_32 dX5_remove_50 hk.1 rfl ?_
  refine f_iload_n dX5_remove_53 rfl rfl ?_
  refine f_cV hG (As := [_]) dX5_remove_54 rfl k_X7_closeGap rfl rfl ml_X5_53 im_X7_closeGap se_X7_closeGap hk.2.2.2.2.2.2.1 rfl (c_X7_closeGap hG (Nat.le_refl _) _ _ _ _ hk.2.2.2.2.2.2 (by decide) _ (by omega)) (by omega) (Nat.le_of_ble_eq_true rfl) (Nat.zero_le _) (Nat.zero_le _) ?_
  refine f_aload_n dX5_remove_57 rfl rfl ?_
  refine f_dup dX5_remove_58 rfl ?_
  refine s_geti hG fl_X5_35 dX5_remove_59 hk.1 rfl ?_
  refine f_iconst (v := 1) dX5_remove_62 rfl ?_
  refine f_isub dX5_remove_63 ?_
  refine s_puti hG fl_X5_35 (Or.inl rfl) dX5_remove_64 hk.1 rfl rfl rfl ?_
  refine f_iload_n dX5_remove_67 rfl rfl ?_
  refine f_ireturn dX5_remove_68 rfl rfl ?_
  exact ⟨by rw [r_X5_remove], by rw [m_X5_remove]⟩

def m_X5_copyFrom (M : fM) (k : Nat) (k2 : Nat) : fM := (fst1 (fst1 (rcpy (rcpy (rcpy (rcpy (rcpy (rcpy M (k + 1) (k2 + 1) 8) (k + 3) (k2 + 3) 8) (k + 5) (k2 + 5) 8) (k + 7) (k2 + 7) 8) (k + 9) (k2 + 9) 8) (k + 11) (k2 + 11) 8) k 6 ((rcpy (rcpy (rcpy (rcpy (rcpy (rcpy M (k + 1) (k2 + 1) 8) (k + 3) (k2 + 3) 8) (k + 5) (k2 + 5) 8) (k + 7) (k2 + 7) 8) (k + 9) (k2 + 9) 8) (k + 11) (k2 + 11) 8) k2 6)) k 7 ((fst1 (rcpy (rcpy (rcpy (rcpy (rcpy (rcpy M (k + 1) (k2 + 1) 8) (k + 3) (k2 + 3) 8) (k + 5) (k2 + 5) 8) (k + 7) (k2 + 7) 8) (k + 9) (k2 + 9) 8) (k + 11) (k2 + 11) 8) k 6 ((rcpy (rcpy (rcpy (rcpy (rcpy (rcpy M (k + 1) (k2 + 1) 8) (k + 3) (k2 + 3) 8) (k + 5) (k2 + 5) 8) (k + 7) (k2 + 7) 8) (k + 9) (k2 + 9) 8) (k + 11) (k2 + 11) 8) k2 6)) k2 7))
set_option maxRecDepth 100000 in
set_option maxHeartbeats 4000000 in
theorem c_X5_copyFrom {G : fG} (hG : fOK G) {d : Nat} (hd : 1 ≤ d) (M : fM) (dv : UInt64) (k : Nat) (k2 : Nat) (hk : rLots k) (hk2 : rLots k2) : fCt G z_X5_copyFrom d [.ref k, .ref k2] (sS M dv) 0 0 (fD none (sS (m_X5_copyFrom M k k2) dv)) := by
  refine fCt_to [some (.ref k), some (.ref k2)] k_X5_copyFrom rfl (Nat.le_of_ble_eq_true rfl) rfl ?_
  refine f_aload_n dX5_copyFrom_0 rfl rfl ?_
  refine s_getr hG fl_X5_14 dX5_copyFrom_1 hk.1 rfl ?_
  refine f_aload_n dX5_copyFrom_4 rfl rfl ?_
  refine s_getr hG fl_X5_14 dX5_copyFrom_5 hk2.1 rfl ?_
  refine f_cV hG (As := [_]) dX5_copyFrom_8 rfl k_X7_copyFrom rfl rfl ml_X5_56 im_X7_copyFrom se_X7_copyFrom hk.2.1.1 rfl (c_X7_copyFrom hG (Nat.le_refl _) _ _ _ _ hk.2.1 (by decide) _ hk2.2.1) (by omega) (Nat.le_of_ble_eq_true rfl) (Nat.zero_le _) (Nat.zero_le _) ?_
  refine f_aload_n dX5_copyFrom_11 rfl rfl ?_
  refine s_getr hG fl_X5_20 dX5_copyFrom_12 hk.1 rfl ?_
  refine f_aload_n dX5_copyFrom_15 rfl rfl ?_
  refine s_getr hG fl_X5_20 dX5_copyFrom_16 hk2.1 rfl ?_
  refine f_cV hG (As := [_]) dX5_copyFrom_19 rfl k_X7_copyFrom rfl rfl ml_X5_56 im_X7_copyFrom se_X7_copyFrom hk.2.2.1.1 rfl (c_X7_copyFrom hG (Nat.le_refl _) _ _ _ _ hk.2.2.1 (by decide) _ hk2.2.2.1) (by omega) (Nat.le_of_ble_eq_true rfl) (Nat.zero_le _) (Nat.zero_le _) ?_
  refine f_aload_n dX5_copyFrom_22 rfl rfl ?_
  refine s_getr hG fl_X5_23 dX5_copyFrom_23 hk.1 rfl ?_
  refine f_aload_n dX5_copyFrom_26 rfl rfl ?_
  refine s_getr hG fl_X5_23 dX5_copyFrom_27 hk2.1 rfl ?_
  refine f_cV hG (As := [_]) dX5_copyFrom_30 rfl k_X7_copyFrom rfl rfl ml_X5_56 im_X7_copyFrom se_X7_copyFrom hk.2.2.2.1.1 rfl (c_X7_copyFrom hG (Nat.le_refl _) _ _ _ _ hk.2.2.2.1 (by decide) _ hk2.2.2.2.1) (by omega) (Nat.le_of_ble_eq_true rfl) (Nat.zero_le _) (Nat.zero_le _) ?_
  refine f_aload_n dX5_copyFrom_33 rfl rfl ?_
  refine s_getr hG fl_X5_26 dX5_copyFrom_34 hk.1 rfl ?_
  refine f_aload_n dX5_copyFrom_37 rfl rfl ?_
  refine s_getr hG fl_X5_26 dX5_copyFrom_38 hk2.1 rfl ?_
  refine f_cV hG (As := [_]) dX5_copyFrom_41 rfl k_X7_copyFrom rfl rfl ml_X5_56 im_X7_copyFrom se_X7_copyFrom hk.2.2.2.2.1.1 rfl (c_X7_copyFrom hG (Nat.le_refl _) _ _ _ _ hk.2.2.2.2.1 (by decide) _ hk2.2.2.2.2.1) (by omega) (Nat.le_of_ble_eq_true rfl) (Nat.zero_le _) (Nat.zero_le _) ?_
  refine f_aload_n dX5_copyFrom_44 rfl rfl ?_
  refine s_getr hG fl_X5_29 dX5_copyFrom_45 hk.1 rfl ?_
  refine f_aload_n dX5_copyFrom_48 rfl rfl ?_
  refine s_getr hG fl_X5_29 dX5_copyFrom_49 hk2.1 rfl ?_
  refine f_cV hG (As := [_]) dX5_copyFrom_52 rfl k_X7_copyFrom rfl rfl ml_X5_56 im_X7_copyFrom se_X7_copyFrom hk.2.2.2.2.2.1.1 rfl (c_X7_copyFrom hG (Nat.le_refl _) _ _ _ _ hk.2.2.2.2.2.1 (by decide) _ hk2.2.2.2.2.2.1) (by omega) (Nat.le_of_ble_eq_true rfl) (Nat.zero_le _) (Nat.zero_le _) ?_
  refine f_aload_n dX5_copyFrom_55 rfl rfl ?_
  refine s_getr hG fl_X5_32 dX5_copyFrom_56 hk.1 rfl ?_
  refine f_aload_n dX5_copyFrom_59 rfl rfl ?_
  refine s_getr hG fl_X5_32 dX5_copyFrom_60 hk2.1 rfl ?_
  refine f_cV hG (As := [_]) dX5_copyFrom_63 rfl k_X7_copyFrom rfl rfl ml_X5_56 im_X7_copyFrom se_X7_copyFrom hk.2.2.2.2.2.2.1 rfl (c_X7_copyFrom hG (Nat.le_refl _) _ _ _ _ hk.2.2.2.2.2.2 (by decide) _ hk2.2.2.2.2.2.2) (by omega) (Nat.le_of_ble_eq_true rfl) (Nat.zero_le _) (Nat.zero_le _) ?_
  refine f_aload_n dX5_copyFrom_66 rfl rfl ?_
  refine f_aload_n dX5_copyFrom_67 rfl rfl ?_
  refine s_geti hG fl_X5_35 dX5_copyFrom_68 hk2.1 rfl ?_
  refine s_puti hG fl_X5_35 (Or.inl rfl) dX5_copyFrom_71 hk.1 rfl rfl rfl ?_
  refine f_aload_n dX5_copyFrom_74 rfl rfl ?_
  refine f_aload_n dX5_copyFrom_75 rfl rfl ?_
  refine s_geti hG fl_X5_39 dX5_copyFrom_76 hk2.1 rfl ?_
  refine s_puti hG fl_X5_39 (Or.inl rfl) dX5_copyFrom_79 hk.1 rfl rfl rfl ?_
  refine f_return dX5_copyFrom_82 rfl ?_
  exact ⟨rfl, by rw [m_X5_copyFrom]⟩
