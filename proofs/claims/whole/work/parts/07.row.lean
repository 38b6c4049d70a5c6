/-! ===== Row ===== -/
theorem rin {i : Int32} {n : Nat} (h1 : ¬ i < 0) (h2 : ¬ Int32.ofNat n ≤ i) (hn : n < 2147483648) : vp_in i n := by
  rcases pk_ix i (n := n) hn with h | h | ⟨j, hj, rfl⟩
  · exact absurd h h1
  · exact absurd h h2
  · exact vp_in_nI hj hn
def rget (M : fM) (k n : Nat) (i : Int32) : Int32 := if i < 0 then 0 else if Int32.ofNat n ≤ i then 0 else M (k + 1) i.toNatClampNeg
def rset (M : fM) (k n : Nat) (i x : Int32) : fM := if i < 0 then M else if Int32.ofNat n ≤ i then M else fst1 M (k + 1) i.toNatClampNeg x
theorem rget_nI {M : fM} {k n j : Nat} (h : j < n) (hn : n < 2147483648) : rget M k n (nI j) = M (k + 1) j := by
  rw [rget, if_neg (nI_pos (by omega)), if_neg (show ¬ Int32.ofNat n ≤ nI j from nI_ge h hn), nI_clamp (by omega)]
theorem rset_nI {M : fM} {k n j : Nat} {x : Int32} (h : j < n) (hn : n < 2147483648) : rset M k n (nI j) x = fst1 M (k + 1) j x := by
  rw [rset, if_neg (nI_pos (by omega)), if_neg (show ¬ Int32.ofNat n ≤ nI j from nI_ge h hn), nI_clamp (by omega)]

set_option maxRecDepth 100000 in
set_option maxHeartbeats 4000000 in
theorem c_X7_get {G : fG} (hG : fOK G) {d : Nat} (hd : 0 ≤ d) (M : fM) (dv : UInt64) (k n : Nat) (hk : rRow k n) (hn : n < 2147483648) (i : Int32) : fCt G z_X7_get d [.ref k, .int i] (sS M dv) 0 0 (fD (some (.int (rget M k n i))) (sS M dv)) := by
  refine fCt_to [some (.ref k), some (.int i)] k_X7_get rfl (Nat.le_of_ble_eq_true rfl) rfl ?_
  obtain ⟨hk1, hk2⟩ := hk
  refine f_iload_n dX7_get_0 rfl rfl ?_
  refine f_if_lt (tgt := 22) dX7_get_1 (by decide) (fun c_1 => ?_) (fun c_1 => ?_)
  · refine f_iconst (v := 0) dX7_get_22 rfl ?_
    refine f_ireturn dX7_get_23 rfl rfl ?_
    simp only [fD, rget, *, if_true, if_false]; try simp
  · refine f_iload_n dX7_get_4 rfl rfl ?_
    refine f_aload_n dX7_get_5 rfl rfl ?_
    refine f_getr hG fl_X7_13 dX7_get_6 (by first | exact hk1 | exact hk2) rfl ?_
    refine f_alen hG dX7_get_9 (by first | exact hk1 | exact hk2) (by decide) rfl ?_
    refine f_icmp_ge (tgt := 22) dX7_get_10 (by decide) (fun c_10 => ?_) (fun c_10 => ?_)
    · refine f_iconst (v := 0) dX7_get_22 rfl ?_
      refine f_ireturn dX7_get_23 rfl rfl ?_
      simp only [fD, rget, *, if_true, if_false]; try simp
    · refine f_aload_n dX7_get_13 rfl rfl ?_
      refine f_getr hG fl_X7_13 dX7_get_14 (by first | exact hk1 | exact hk2) rfl ?_
      refine f_iload_n dX7_get_17 rfl rfl ?_
      refine f_iaload hG dX7_get_18 (by first | exact hk1 | exact hk2) (rin c_1 c_10 hn) ?_
      refine f_goto (tgt := 23) dX7_get_19 (by decide) ?_
      refine f_ireturn dX7_get_23 rfl rfl ?_
      simp only [fD, rget, *, if_true, if_false]; try simp

set_option maxRecDepth 100000 in
set_option maxHeartbeats 4000000 in
theorem c_X7_set {G : fG} (hG : fOK G) {d : Nat} (hd : 0 ≤ d) (M : fM) (dv : UInt64) (k n : Nat) (hk : rRow k n) (hn : n < 2147483648) (i x : Int32) : fCt G z_X7_set d [.ref k, .int i, .int x] (sS M dv) 0 0 (fD none (sS (rset M k n i x) dv)) := by
  refine fCt_to [some (.ref k), some (.int i), some (.int x)] k_X7_set rfl (Nat.le_of_ble_eq_true rfl) rfl ?_
  obtain ⟨hk1, hk2⟩ := hk
  refine f_iload_n dX7_set_0 rfl rfl ?_
  refine f_if_lt (tgt := 20) dX7_set_1 (by decide) (fun c_1 => ?_) (fun c_1 => ?_)
  · refine f_return dX7_set_20 rfl ?_
    simp [fD, rset, fput, *]
  · refine f_iload_n dX7_set_4 rfl rfl ?_
    refine f_aload_n dX7_set_5 rfl rfl ?_
    refine f_getr hG fl_X7_13 dX7_set_6 (by first | exact hk1 | exact hk2) rfl ?_
    refine f_alen hG dX7_set_9 (by first | exact hk1 | exact hk2) (by decide) rfl ?_
    refine f_icmp_ge (tgt := 20) dX7_set_10 (by decide) (fun c_10 => ?_) (fun c_10 => ?_)
    · refine f_return dX7_set_20 rfl ?_
      simp [fD, rset, fput, *]
    · refine f_aload_n dX7_set_13 rfl rfl ?_
      refine f_getr hG fl_X7_13 dX7_set_14 (by first | exact hk1 | exact hk2) rfl ?_
      refine f_iload_n dX7_set_17 rfl rfl ?_
      refine f_iload_n dX7_set_18 rfl rfl ?_
      refine f_iastore hG dX7_set_19 (by first | exact hk1 | exact hk2) (rin c_1 c_10 hn) ?_
      refine f_return dX7_set_20 rfl ?_
      simp [fD, rset, fput, *]
