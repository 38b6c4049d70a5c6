/-! ===== Row ===== -/
theorem rin {i : Int32} {n : Nat} (h1 : ¬ i < 0) (h2 : ¬ nI n ≤ i) (hn : n < 2147483648) : vp_in i n := by
  rcases pk_ix i (n := n) hn with h | h | ⟨j, hj, rfl⟩
  · exact absurd h h1
  · exact absurd h h2
  · exact vp_in_nI hj hn
def rget (M : fM) (k n : Nat) (i : Int32) : Int32 := if i < 0 then 0 else if nI n ≤ i then 0 else M (k + 1) i.toNatClampNeg
def rset (M : fM) (k n : Nat) (i x : Int32) : fM := if i < 0 then M else if nI n ≤ i then M else fst1 M (k + 1) i.toNatClampNeg x
theorem rget_nI {M : fM} {k n j : Nat} (h : j < n) (hn : n < 2147483648) : rget M k n (nI j) = M (k + 1) j := by
  rw [rget, if_neg (nI_pos (by omega)), if_neg (nI_ge h hn), nI_clamp (by omega)]
theorem rset_nI {M : fM} {k n j : Nat} {x : Int32} (h : j < n) (hn : n < 2147483648) : rset M k n (nI j) x = fst1 M (k + 1) j x := by
  rw [rset, if_neg (nI_pos (by omega)), if_neg (nI_ge h hn), nI_clamp (by omega)]

set_option maxRecDepth 100000 in
set_option maxHeartbeats 4000000 in
theorem c_X7_get {G : fG} (hG : fOK G) {d : Nat} (hd : 0 ≤ d) (M : fM) (dv : UInt64) (k n : Nat) (hk : rRow k n) (hn : n < 2147483648) (i : Int32) : fCt G z_X7_get d [.ref k, .int i] (sS M dv) 0 0 (fD (some (.int (rget M k n i))) (sS M dv)) := by
  refine fCt_to [some (.ref k), some (.int i)] k_X7_get rfl (Nat.le_of_ble_eq_true rfl) rfl ?_
  obtain ⟨hk1, hk2⟩ := hk
  refine f_iload_n dX7_get_0 rfl rfl ?_
  refine f_if_lt (tgt := 22) dX7_get_1 (by decide) (fun c_1 => ?_) (fun c_1 => ?_)
  · refine f_iconst (v := 0) dX7_get_22 rfl ?_
    refine f_ireturn dX7_get_23 rfl rfl ?_
    simp only [fD, rget, *, if_true, if_false]; try simp
  · refine f_iload_n dX7_get_4 rfl rfl ?_
    refine f_aload_n dX7_get_5 rfl rfl ?_
    refine s_getr hG fl_X7_13 dX7_get_6 (by first | exact hk1 | exact hk2) rfl ?_
    refine s_alen hG dX7_get_9 (by first | exact hk1 | exact hk2) (by decide) ?_
    refine f_icmp_ge (tgt := 22) dX7_get_10 (by decide) (fun c_10 => ?_) (fun c_10 => ?_)
    · refine f_iconst (v := 0) dX7_get_22 rfl ?_
      refine f_ireturn dX7_get_23 rfl rfl ?_
      simp only [fD, rget, *, if_true, if_false]; try simp
    · refine f_aload_n dX7_get_13 rfl rfl ?_
      refine s_getr hG fl_X7_13 dX7_get_14 (by first | exact hk1 | exact hk2) rfl ?_
      refine f_iload_n dX7_get_17 rfl rfl ?_
      refine s_iaload hG dX7_get_18 (by first | exact hk1 | exact hk2) (rin c_1 c_10 hn) ?_
      refine f_goto (tgt := 23) dX7_get_19 (by decide) ?_
      refine f_ireturn dX7_get_23 rfl rfl ?_
      simp only [fD, rget, *, if_true, if_false]; try simp

set_option maxRecDepth 100000 in
set_option maxHeartbeats 4000000 in
theorem c_X7_set {G : fG} (hG : fOK G) {d : Nat} (hd : 0 ≤ d) (M : fM) (dv : UInt64) (k n : Nat) (hk : rRow k n) (hn : n < 2147483648) (i x : Int32) : fCt G z_X7_set d [.ref k, .int i, .int x] (sS M dv) 0 0 (fD none (sS (rset M k n i x) dv)) := by
  refine fCt_to [some (.ref k), some (.int i), some (.int x)] k_X7_set rfl (Nat.le_of_ble_eq_true rfl) rfl ?_
  obtain ⟨hk1, hk2⟩ := hk
  refine f_iload_n dX7_set_0 rfl rfl ?_
  refine f_if_lt (tgt := 20) dX7_set_1 (by decide) (fun c_1 => ?_) (fun c_1 => ?_)
  · refine f_return dX7_set_20 rfl ?_
    simp [fD, rset, *]
  · refine f_iload_n dX7_set_4 rfl rfl ?_
    refine f_aload_n dX7_set_5 rfl rfl ?_
    refine s_getr hG fl_X7_13 dX7_set_6 (by first | exact hk1 | exact hk2) rfl ?_
    refine s_alen hG dX7_set_9 (by first | exact hk1 | exact hk2) (by decide) ?_
    refine f_icmp_ge (tgt := 20) dX7_set_10 (by decide) (fun c_10 => ?_) (fun c_10 => ?_)
    · refine f_return dX7_set_20 rfl ?_
      simp [fD, rset, *]
    · refine f_aload_n dX7_set_13 rfl rfl ?_
      refine s_getr hG fl_X7_13 dX7_set_14 (by first | exact hk1 | exact hk2) rfl ?_
      refine f_iload_n dX7_set_17 rfl rfl ?_
      refine f_iload_n dX7_set_18 rfl rfl ?_
      refine s_iastore hG dX7_set_19 (by first | exact hk1 | exact hk2) (rin c_1 c_10 hn) ?_
      refine f_return dX7_set_20 rfl ?_
      simp [fD, rset, *]

def rall (M : fM) (k n : Nat) (v : Int32) : fM := fsr M (k + 1) (fun b => if b < n then v else M (k + 1) b)
def rgap (M : fM) (k n g : Nat) : fM := fsr M (k + 1) (fun b => if g ≤ b ∧ b < n - 1 then M (k + 1) (b + 1) else M (k + 1) b)
def rcpy (M : fM) (k k2 n : Nat) : fM := fsr M (k + 1) (fun b => if b < n then M (k2 + 1) b else M (k + 1) b)
set_option maxRecDepth 100000 in
set_option maxHeartbeats 4000000 in
theorem lp_X7_setAll {G : fG} (hG : fOK G) {d : Nat} (hd : 0 ≤ d) (M : fM) (dv : UInt64) (k n : Nat) (hk : rRow k n) (hn : n < 2147483648) (v : Int32) : ∀ (m j : Nat), j ≤ n → n + 1 ≤ j + m → fV G z_X7_setAll d (fD none (sS (rall M k n v) dv)) 2 [some (.ref k), some (.int v), some (.int (nI j))] [] (sS (fsr M (k + 1) (fun b => if b < j then v else M (k + 1) b)) dv) 0 0 := by
  intro m
  induction m with
  | zero => intros; omega
  | succ m ih =>
    intro j hj hm
    obtain ⟨hk1, hk2⟩ := hk
    refine f_iload_n dX7_setAll_2 rfl rfl ?_
    refine f_aload_n dX7_setAll_3 rfl rfl ?_
    refine s_getr hG fl_X7_13 dX7_setAll_4 (by first | exact hk1 | exact hk2) rfl ?_
    refine s_alen hG dX7_setAll_7 (by first | exact hk1 | exact hk2) (by decide) ?_
    refine f_icmp_ge (tgt := 24) dX7_setAll_8 (by decide) (fun c_8 => ?_) (fun c_8 => ?_)
    · have c : nI n ≤ nI j := c_8
      have he : j = n := by have := (nI_leI (by omega) (by omega)).mp c; omega
      subst he
      refine f_return dX7_setAll_24 rfl ?_
      exact ⟨rfl, rfl⟩
    · have c : ¬ nI n ≤ nI j := c_8
      have hlt : j < n := Nat.lt_of_not_le fun h => c (nI_le h (by omega))
      refine f_aload_n dX7_setAll_11 rfl rfl ?_
      refine s_getr hG fl_X7_13 dX7_setAll_12 (by first | exact hk1 | exact hk2) rfl ?_
      refine f_iload_n dX7_setAll_15 rfl rfl ?_
      refine f_iload_n dX7_setAll_16 rfl rfl ?_
      refine s_iastore hG dX7_setAll_17 (by first | exact hk1 | exact hk2) (vp_in_nI hlt (by omega)) ?_
      refine f_iinc (v := nI (j + 1)) (ls' := [_, _, _]) dX7_setAll_18 rfl (nI_1 j) (Nat.le_of_ble_eq_true rfl) rfl rfl ?_
      refine f_goto (tgt := 2) dX7_setAll_21 (by decide) ?_
      refine f_cg rfl rfl ?_ (ih (j + 1) (by omega) (by omega))
      show (L1, fst1 _ _ _ _, dv, false) = _
      rw [nI_clamp (by omega), fst1_fsr]
      congr 2
      refine fsr_congr fun b => ?_
      by_cases h1 : b = j
      · subst h1; simp
      · by_cases h2 : b < j
        · rw [if_neg h1, if_pos h2, if_pos (by omega)]
        · rw [if_neg h1, if_neg h2, if_neg (by omega)]

set_option maxRecDepth 100000 in
set_option maxHeartbeats 4000000 in
theorem c_X7_setAll {G : fG} (hG : fOK G) {d : Nat} (hd : 0 ≤ d) (M : fM) (dv : UInt64) (k n : Nat) (hk : rRow k n) (hn : n < 2147483648) (v : Int32) : fCt G z_X7_setAll d [.ref k, .int v] (sS M dv) 0 0 (fD none (sS (rall M k n v) dv)) := by
  refine fCt_to [some (.ref k), some (.int v), none] k_X7_setAll rfl (Nat.le_of_ble_eq_true rfl) rfl ?_
  obtain ⟨hk1, hk2⟩ := hk
  refine f_iconst (v := 0) dX7_setAll_0 rfl ?_
  refine f_istore_n (ls' := [_, _, _]) dX7_setAll_1 rfl (Nat.le_of_ble_eq_true rfl) rfl rfl ?_
  have e0 : sS M dv = sS (fsr M (k + 1) (fun b => if b < 0 then v else M (k + 1) b)) dv := by
    rw [show (fun b => if b < 0 then v else M (k + 1) b) = M (k + 1) from funext fun b => by simp, fsr_self]
  exact f_cg rfl rfl e0 (lp_X7_setAll hG hd M dv k n ⟨hk1, hk2⟩ hn v (n + 1) 0 (by omega) (by omega))

set_option maxRecDepth 100000 in
set_option maxHeartbeats 4000000 in
theorem lp_X7_closeGap {G : fG} (hG : fOK G) {d : Nat} (hd : 0 ≤ d) (M : fM) (dv : UInt64) (k n : Nat) (hk : rRow k n) (hn : n < 2147483648) (g : Nat) (hg : g < n) : ∀ (m j : Nat), j ≤ (n - 1) → (n - 1) + 1 ≤ j + m → g ≤ j → fV G z_X7_closeGap d (fD none (sS (rgap M k n g) dv)) 6 [some (.ref k), some (.int (nI g)), some (.int (nI j))] [] (sS (fsr M (k + 1) (fun b => if g ≤ b ∧ b < j then M (k + 1) (b + 1) else M (k + 1) b)) dv) 0 0 := by
  intro m
  induction m with
  | zero => intros; omega
  | succ m ih =>
    intro j hj hm hgj
    obtain ⟨hk1, hk2⟩ := hk
    refine f_iload_n dX7_closeGap_6 rfl rfl ?_
    refine f_aload_n dX7_closeGap_7 rfl rfl ?_
    refine s_getr hG fl_X7_13 dX7_closeGap_8 (by first | exact hk1 | exact hk2) rfl ?_
    refine s_alen hG dX7_closeGap_11 (by first | exact hk1 | exact hk2) (by decide) ?_
    refine f_iconst (v := 1) dX7_closeGap_12 rfl ?_
    refine f_isub dX7_closeGap_13 ?_
    have e13 : nI n - 1 = nI (n - 1) := by rw [show nI n = nI (n - 1 + 1) from by rw [show n - 1 + 1 = n by omega], nI_pred]
    refine f_icmp_ge (tgt := 37) dX7_closeGap_14 (by decide) (fun c_14 => ?_) (fun c_14 => ?_)
    · have c : nI (n - 1) ≤ nI j := by rw [← e13]; exact c_14
      have he : j = n - 1 := by have := (nI_leI (by omega) (by omega)).mp c; omega
      subst he
      refine f_return dX7_closeGap_37 rfl ?_
      exact ⟨rfl, rfl⟩
    · have c : ¬ nI (n - 1) ≤ nI j := by rw [← e13]; exact c_14
      have hlt : j < n - 1 := Nat.lt_of_not_le fun h => c (nI_le h (by omega))
      refine f_aload_n dX7_closeGap_17 rfl rfl ?_
      refine s_getr hG fl_X7_13 dX7_closeGap_18 (by first | exact hk1 | exact hk2) rfl ?_
      refine f_iload_n dX7_closeGap_21 rfl rfl ?_
      refine f_aload_n dX7_closeGap_22 rfl rfl ?_
      refine s_getr hG fl_X7_13 dX7_closeGap_23 (by first | exact hk1 | exact hk2) rfl ?_
      refine f_iload_n dX7_closeGap_26 rfl rfl ?_
      refine f_iconst (v := 1) dX7_closeGap_27 rfl ?_
      refine f_iadd dX7_closeGap_28 ?_
      refine s_iaload hG dX7_closeGap_29 (by first | exact hk1 | exact hk2) ((show vp_in (nI j + 1) n by rw [nI_1]; exact vp_in_nI (by omega) (by omega))) ?_
      refine s_iastore hG dX7_closeGap_30 (by first | exact hk1 | exact hk2) (vp_in_nI (by omega) (by omega)) ?_
      refine f_iinc (v := nI (j + 1)) (ls' := [_, _, _]) dX7_closeGap_31 rfl (nI_1 j) (Nat.le_of_ble_eq_true rfl) rfl rfl ?_
      refine f_goto (tgt := 6) dX7_closeGap_34 (by decide) ?_
      refine f_cg rfl rfl ?_ (ih (j + 1) (by omega) (by omega) (by omega))
      show (L1, fst1 _ _ _ _, dv, false) = _
      rw [show (nI j + 1 : Int32) = nI (j + 1) from nI_1 j, nI_clamp (by omega), nI_clamp (by omega), fst1_fsr, fsr_at]
      congr 2
      refine fsr_congr fun b => ?_
      by_cases h1 : b = j
      · subst h1
        rw [if_pos rfl, if_neg (by omega), if_pos (by omega)]
      · by_cases h2 : g ≤ b ∧ b < j
        · rw [if_neg h1, if_pos h2, if_pos (by omega)]
        · rw [if_neg h1, if_neg h2, if_neg (by omega)]

set_option maxRecDepth 100000 in
set_option maxHeartbeats 4000000 in
theorem c_X7_closeGap {G : fG} (hG : fOK G) {d : Nat} (hd : 0 ≤ d) (M : fM) (dv : UInt64) (k n : Nat) (hk : rRow k n) (hn : n < 2147483648) (g : Nat) (hg : g < n) : fCt G z_X7_closeGap d [.ref k, .int (nI g)] (sS M dv) 0 0 (fD none (sS (rgap M k n g) dv)) := by
  refine fCt_to [some (.ref k), some (.int (nI g)), none] k_X7_closeGap rfl (Nat.le_of_ble_eq_true rfl) rfl ?_
  obtain ⟨hk1, hk2⟩ := hk
  refine f_iload_n dX7_closeGap_0 rfl rfl ?_
  refine f_iconst (v := 0) dX7_closeGap_1 rfl ?_
  refine f_mmax hG dX7_closeGap_2 mj_X7_7 mj_max (Nat.le_of_ble_eq_true rfl) ?_
  rw [show (if nI g < (0 : Int32) then (0 : Int32) else nI g) = nI g from if_neg (nI_pos (by omega))]
  refine f_istore_n (ls' := [_, _, _]) dX7_closeGap_5 rfl (Nat.le_of_ble_eq_true rfl) rfl rfl ?_
  have e0 : sS M dv = sS (fsr M (k + 1) (fun b => if g ≤ b ∧ b < g then M (k + 1) (b + 1) else M (k + 1) b)) dv := by
    rw [show (fun b => if g ≤ b ∧ b < g then M (k + 1) (b + 1) else M (k + 1) b) = M (k + 1) from funext fun b => if_neg (by omega), fsr_self]
  exact f_cg rfl rfl e0 (lp_X7_closeGap hG hd M dv k n ⟨hk1, hk2⟩ hn g hg (n + 1) g (by omega) (by omega) (Nat.le_refl _))

set_option maxRecDepth 100000 in
set_option maxHeartbeats 4000000 in
theorem c_X7_copyFrom {G : fG} (hG : fOK G) {d : Nat} (hd : 0 ≤ d) (M : fM) (dv : UInt64) (k n : Nat) (hk : rRow k n) (hn : n < 2147483648) (k2 : Nat) (hk2' : rRow k2 n) : fCt G z_X7_copyFrom d [.ref k, .ref k2] (sS M dv) 0 0 (fD none (sS (rcpy M k k2 n) dv)) := by
  refine fCt_to [some (.ref k), some (.ref k2)] k_X7_copyFrom rfl (Nat.le_of_ble_eq_true rfl) rfl ?_
  obtain ⟨hk1, hk2⟩ := hk
  obtain ⟨hk3, hk4⟩ := hk2'
  refine f_aload_n dX7_copyFrom_0 rfl rfl ?_
  refine s_getr hG fl_X7_13 dX7_copyFrom_1 (by first | exact hk1 | exact hk2 | exact hk3 | exact hk4) rfl ?_
  refine f_iconst (v := 0) dX7_copyFrom_4 rfl ?_
  refine f_aload_n dX7_copyFrom_5 rfl rfl ?_
  refine s_getr hG fl_X7_13 dX7_copyFrom_6 (by first | exact hk1 | exact hk2 | exact hk3 | exact hk4) rfl ?_
  refine f_iconst (v := 0) dX7_copyFrom_9 rfl ?_
  refine f_aload_n dX7_copyFrom_10 rfl rfl ?_
  refine s_getr hG fl_X7_13 dX7_copyFrom_11 (by first | exact hk1 | exact hk2 | exact hk3 | exact hk4) rfl ?_
  refine s_alen hG dX7_copyFrom_14 (by first | exact hk1 | exact hk2 | exact hk3 | exact hk4) (by decide) ?_
  refine f_aload_n dX7_copyFrom_15 rfl rfl ?_
  refine s_getr hG fl_X7_13 dX7_copyFrom_16 (by first | exact hk1 | exact hk2 | exact hk3 | exact hk4) rfl ?_
  refine s_alen hG dX7_copyFrom_19 (by first | exact hk1 | exact hk2 | exact hk3 | exact hk4) (by decide) ?_
  refine f_mmin hG dX7_copyFrom_20 mj_X7_19 mj_min (Nat.le_of_ble_eq_true rfl) ?_
  rw [show (if nI n < nI n then nI n else nI n) = nI n from if_neg (show ¬ nI n < nI n from nI_nlt (Nat.le_refl _) (by omega))]
  refine s_copy hG dX7_copyFrom_23 mj_X7_22 mj_copy hk4 hk2 (nI_pos (by omega)) (by rw [nI_clamp (by omega)]; exact Nat.le_refl _) (by rw [nI_clamp (by omega)]; exact Nat.le_refl _) (Nat.le_of_ble_eq_true rfl) ?_
  refine f_return dX7_copyFrom_26 rfl ?_
  refine ⟨rfl, ?_⟩
  show (L1, fsr _ _ _, dv, false) = (L1, fsr _ _ _, dv, false)
  rw [nI_clamp (by omega)]
  congr 2
  refine fsr_congr fun b => ?_
  simp [va_cpy]
