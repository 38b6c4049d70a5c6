/-! ===== Strings whose contents count ===== -/
def fsb (e : Nat) : List Int32 := (fsvs.map (fun q => q.2.2.2.2)).getD (e - 4096) []
def fStr (e : Nat) : Prop := 4096 ≤ e ∧ e < 4108
theorem fsv_at {e : Nat} (h : fStr e) : ∃ q ∈ fsvs, q.2.2.2.1 = e - 4096 ∧ q.2.2.2.2 = fsb e := by
  have : ∀ i, i < 12 → ∃ q ∈ fsvs, q.2.2.2.1 = i ∧ q.2.2.2.2 = (fsvs.map (fun q => q.2.2.2.2)).getD i [] := by decide +kernel
  exact this (e - 4096) (by have := h.1; have := h.2; omega)
theorem fsb_lt {e : Nat} (h : fStr e) : (fsb e).length < 7 := by
  have : ∀ i, i < 12 → ((fsvs.map (fun q => q.2.2.2.2)).getD i []).length < 7 := by decide +kernel
  exact this (e - 4096) (by have := h.1; have := h.2; omega)
theorem fsb_asc {e : Nat} (h : fStr e) {j : Nat} : ((((fsb e).getD j 0) &&& 255).toUInt32 % 65536).toInt32 = (fsb e).getD j 0 := by
  have h2 : ∀ i, i < 12 → ∀ j, j < 7 → (((((fsvs.map (fun q => q.2.2.2.2)).getD i []).getD j 0) &&& 255).toUInt32 % 65536).toInt32 = ((fsvs.map (fun q => q.2.2.2.2)).getD i []).getD j 0 := by decide +kernel
  by_cases hj : j < 7
  · exact h2 (e - 4096) (by have := h.1; have := h.2; omega) j hj
  · have := fsb_lt h
    rw [List.getD_eq_getElem?_getD, List.getElem?_eq_none (by omega)]
    decide
theorem fad_out {G : fG} {e : Nat} (h : 4096 ≤ e) : fad G e = gsa G (e - 4096) := by rw [fad, if_neg (by omega)]
theorem vk_S1 {len : Nat} {byt : List Int32} {k v : Nat} {A : Nat → Prop} {U : State} {H : Heap} (h : vk_S 1 [len] [byt] (fun _ => k) (fun _ => v) A U H) : va_T .byte v len (fun j => .int (byt.getD j 0)) A U H := (h.1 0 (by decide)).2.2.2
theorem f_strS {G : fG} {s : State} (hG : fOK G) (hB : fB G s) {e : Nat} (h : fStr e) : vk_S 1 [(fsb e).length] [fsb e] (fun _ => fad G e) (fun _ => fad G (e + 12)) (fA G) s s.heap := by
  obtain ⟨q, h1, h2, h3⟩ := fsv_at h
  have h4 := (hG.2.2.2.2.2.2.2.1 q h1).2
  rw [h2, h3] at h4
  rw [fad_out h.1, fad_out (show 4096 ≤ e + 12 by have := h.1; omega), show e + 12 - 4096 = 12 + (e - 4096) by have := h.1; omega]
  exact vk_S.moved hB.1.alike (h4.kept fun a h1 _ => hB.2.1 a h1)
theorem f_ldcS {G : fG} {z : fMi} {d pc : Nat} {Q : fR → fS → Prop} {ls : List (Option Value)} {st : List Value} {S : fS} {kc ks : Nat} (hG : fOK G) {i e : Nat} {tx : String} (hq : ∃ b, (z.1.cls, i, tx, e - 4096, b) ∈ fsvs) (he : 4096 ≤ e) (hd : decode z.2.1 pc = .ok (.ldc i, 2)) (kk : fV G z d Q (pc + 2) ls (.ref e :: st) S kc ks) : fV G z d Q pc ls st S kc ks := by
  intro p e9 s m args below meth c R Z H locs cells slots lsr hC hE h1 h2 h3 h4 hW hS hl
  obtain ⟨hx, hb, hml, hr, hown, hlocks, ht, hnm, hB⟩ := id hC
  obtain ⟨b, hq⟩ := hq
  have h9 := vk_R.warm hB.1 (hG.2.2.2.2.2.2.2.1 _ hq).1
  have k9 := (kk p e9 s m args below meth c R Z H locs cells slots lsr hC hE h1 h2 h3 h4 hW hS hl)
  rw [List.map_cons, show frl G (.ref e) = .ref (gsa G (e - 4096)) by rw [← fad_out he]; rfl] at k9
  exact va_ldcS hx hb hown h9 hd k9
theorem f_compact {G : fG} {z : fMi} {d pc : Nat} {Q : fR → fS → Prop} {ls : List (Option Value)} {st : List Value} {S : fS} {kc ks : Nat} (hG : fOK G) (hcls : z.1.cls = "java/lang/String") (hd : decode z.2.1 pc = .ok (.getstatic 38, 3)) (kk : fV G z d Q (pc + 3) ls (.int 1 :: st) S kc ks) : fV G z d Q pc ls st S kc ks := by
  intro p e9 s m args below meth c R Z H locs cells slots lsr hC hE h1 h2 h3 h4 hW hS hl
  obtain ⟨hx, hb, hml, hr, hown, hlocks, ht, hnm, hB⟩ := id hC
  rw [hcls] at hown
  exact va_gets hx hb (va_Z.moved hB.1.alike (hG.2.2.2.2.2.2.2.2.1.kept fun a h1 _ => hB.2.1 a h1)) hS hown (f_word hG hB (w := .fieldLink "java/lang/String" 38 "java/lang/String" "COMPACT_STRINGS" "Z") (List.mem_of_getElem? (i := 1321) (by decide +kernel)) rfl args) (fun _ h => h) hd (kk p e9 s m args below meth c R Z H locs cells slots lsr hC hE h1 h2 h3 h4 hW hS hl)
theorem f_sioobe {G : fG} {z : fMi} {d pc : Nat} {Q : fR → fS → Prop} {ls : List (Option Value)} {st : List Value} {S : fS} {kc ks : Nat} (hG : fOK G) (hcls : z.1.cls = "java/lang/String") (hd : decode z.2.1 pc = .ok (.getstatic 1053, 3)) (kr : fV G z d Q (pc + 3) ls (.ref 4120 :: st) S kc ks) (kn : fV G z d Q (pc + 3) ls (.null :: st) S kc ks) : fV G z d Q pc ls st S kc ks := by
  intro p e9 s m args below meth c R Z H locs cells slots lsr hC hE h1 h2 h3 h4 hW hS hl
  obtain ⟨hx, hb, hml, hr, hown, hlocks, ht, hnm, hB⟩ := id hC
  rw [hcls] at hown
  have hlk := f_word hG hB (w := .fieldLink "java/lang/String" 1053 "jdk/internal/util/Preconditions" "SIOOBE_FORMATTER" "Ljava/util/function/BiFunction;") (List.mem_of_getElem? (i := 1338) (by decide +kernel)) rfl args
  rcases hG.2.2.2.2.2.2.2.2.2 with hz | hz
  · have k9 := (kr p e9 s m args below meth c R Z H locs cells slots lsr hC hE h1 h2 h3 h4 hW hS hl)
    rw [List.map_cons, show frl G (.ref 4120) = .ref (gsa G 24) from by show Value.ref (fad G 4120) = _; rw [fad_out (by decide)]] at k9
    exact va_gets hx hb (va_Z.moved hB.1.alike (hz.kept fun a h1 _ => hB.2.1 a h1)) hS hown hlk (fun _ h => h) hd k9
  · have k9 := (kn p e9 s m args below meth c R Z H locs cells slots lsr hC hE h1 h2 h3 h4 hW hS hl)
    rw [List.map_cons, show frl G .null = .null from rfl] at k9
    exact va_gets hx hb (va_Z.moved hB.1.alike (hz.kept fun a h1 _ => hB.2.1 a h1)) hS hown hlk (fun _ h => h) hd k9
theorem f_svalue {G : fG} {z : fMi} {d pc : Nat} {Q : fR → fS → Prop} {ls : List (Option Value)} {st : List Value} {S : fS} {kc ks : Nat} (hG : fOK G) {e : Nat} (h : fStr e) (hcls : z.1.cls = "java/lang/String") (hd : decode z.2.1 pc = .ok (.getfield 9, 3)) (kk : fV G z d Q (pc + 3) ls (.ref (e + 12) :: st) S kc ks) : fV G z d Q pc ls (.ref e :: st) S kc ks := by
  intro p e9 s m args below meth c R Z H locs cells slots lsr hC hE h1 h2 h3 h4 hW hS hl
  obtain ⟨hx, hb, hml, hr, hown, hlocks, ht, hnm, hB⟩ := id hC
  rw [hcls] at hown
  exact vk_getf hx hb ((f_strS hG hB h).1 0 (by decide)).2.2.1 hS hown (f_word hG hB (w := .fieldLink "java/lang/String" 9 "java/lang/String" "value" "[B") (List.mem_of_getElem? (i := 1920) (by decide +kernel)) rfl args) (fun _ h => h) hd (kk p e9 s m args below meth c R Z H locs cells slots lsr hC hE h1 h2 h3 h4 hW hS hl)
theorem f_scoder {G : fG} {z : fMi} {d pc : Nat} {Q : fR → fS → Prop} {ls : List (Option Value)} {st : List Value} {S : fS} {kc ks : Nat} (hG : fOK G) {e : Nat} (h : fStr e) (hcls : z.1.cls = "java/lang/String") (hd : decode z.2.1 pc = .ok (.getfield 15, 3)) (kk : fV G z d Q (pc + 3) ls (.int 0 :: st) S kc ks) : fV G z d Q pc ls (.ref e :: st) S kc ks := by
  intro p e9 s m args below meth c R Z H locs cells slots lsr hC hE h1 h2 h3 h4 hW hS hl
  obtain ⟨hx, hb, hml, hr, hown, hlocks, ht, hnm, hB⟩ := id hC
  rw [hcls] at hown
  exact vk_getf hx hb ((f_strS hG hB h).1 0 (by decide)).2.1 hS hown (f_word hG hB (w := .fieldLink "java/lang/String" 15 "java/lang/String" "coder" "B") (List.mem_of_getElem? (i := 1921) (by decide +kernel)) rfl args) (fun _ h => h) hd (kk p e9 s m args below meth c R Z H locs cells slots lsr hC hE h1 h2 h3 h4 hW hS hl)
theorem f_balen {G : fG} {z : fMi} {d pc : Nat} {Q : fR → fS → Prop} {ls : List (Option Value)} {st : List Value} {S : fS} {kc ks : Nat} (hG : fOK G) {e : Nat} (h : fStr e) (hd : decode z.2.1 pc = .ok (.arraylength, 1)) (kk : fV G z d Q (pc + 1) ls (.int (nI (fsb e).length) :: st) S kc ks) : fV G z d Q pc ls (.ref (e + 12) :: st) S kc ks := by
  intro p e9 s m args below meth c R Z H locs cells slots lsr hC hE h1 h2 h3 h4 hW hS hl
  obtain ⟨hx, hb, hml, hr, hown, hlocks, ht, hnm, hB⟩ := id hC
  have h5 : va_T .byte (fad G (e + 12)) (fsb e).length (fun j => .int ((fsb e).getD j 0)) (fA G) s s.heap := vk_S1 (f_strS hG hB h)
  show W p (gl G) e9 R s m args below meth c H locs cells slots Z (F0 m pc lsr (.ref (fad G (e + 12)) :: st.map (frl G)))
  exact va_tlen hx hb h5 hS rfl hd (kk p e9 s m args below meth c R Z H locs cells slots lsr hC hE h1 h2 h3 h4 hW hS hl)
theorem f_baload {G : fG} {z : fMi} {d pc : Nat} {Q : fR → fS → Prop} {ls : List (Option Value)} {st : List Value} {S : fS} {kc ks : Nat} (hG : fOK G) {e : Nat} {i : Int32} (h : fStr e) (hin : vp_in i (fsb e).length) (hd : decode z.2.1 pc = .ok (.baload, 1)) (kk : fV G z d Q (pc + 1) ls (.int ((fsb e).getD i.toNatClampNeg 0) :: st) S kc ks) : fV G z d Q pc ls (.int i :: .ref (e + 12) :: st) S kc ks := by
  intro p e9 s m args below meth c R Z H locs cells slots lsr hC hE h1 h2 h3 h4 hW hS hl
  obtain ⟨hx, hb, hml, hr, hown, hlocks, ht, hnm, hB⟩ := id hC
  have h5 : va_T .byte (fad G (e + 12)) (fsb e).length (fun j => .int ((fsb e).getD j 0)) (fA G) s s.heap := vk_S1 (f_strS hG hB h)
  show W p (gl G) e9 R s m args below meth c H locs cells slots Z (F0 m pc lsr (.int i :: .ref (fad G (e + 12)) :: st.map (frl G)))
  exact va_tb hx hb h5 hS hin rfl hd (kk p e9 s m args below meth c R Z H locs cells slots lsr hC hE h1 h2 h3 h4 hW hS hl)
theorem f_cVQ {G : fG} {z : fMi} {d pc : Nat} {Q : fR → fS → Prop} {ls : List (Option Value)} {st : List Value} {S : fS} {kc ks : Nat} (hG : fOK G) {z2 : fMi} {d2 idx n mc ms k : Nat} {As rest : List Value} {v : Option Value} {S2 : fS} (hd : decode z.2.1 pc = .ok (.invokevirtual idx, 3)) (hst : st = As.reverse ++ .ref k :: rest) (hk : fMk z2 n) (hn : As.length = n) (hh : z2.2.2.2.2 = []) (hm : Cond.methodLink z.1.cls idx z2.1 ∈ lw_tbl) (hi : Cond.instanceMethod z2.1 ∈ lw_tbl) (hs : Cond.selects z2.1.cls z2.1 z2.1 ∈ lw_tbl) (hstr : fStr k) (hcl : z2.1.cls = "java/lang/String")
    (hc : fCt G z2 d2 (.ref k :: As) S mc ms (fD v S2)) (hdd : d2 < d) (hcat : (rest.map (fun v => v.category)).sum ≤ 8) (hmc : mc ≤ kc) (hms : ms ≤ ks) (kk : fV G z d Q (pc + 3) ls (v.toList ++ rest) S2 (kc - mc) (ks - ms)) : fV G z d Q pc ls st S kc ks := by
  intro p e s m args below meth c R Z H locs cells slots lsr hC hE h1 h2 h3 h4 hW hS hl
  obtain ⟨hx, hb, hml, hr, hown, hlocks, ht, hnm, hB⟩ := id hC
  subst hst
  have hrc := vk_recv (f_strS hG hB hstr) (i := 0) (by decide) hS
  rw [← hcl] at hrc
  have hpp := f_preS (As := .ref k :: As) hB hW hS
  exact f_after hC hE h1 h2 h3 h4 hS hl hmc hms (vx_runV (nL := z.2.2.1) (Ts := []) (n := n) (own := z.1.cls) (As := As.map (frl G)) (rest := rest.map (frl G)) ⟨hx, hb, hml, hown, fun _ h => nomatch h⟩ hc ⟨f_callB hG hB hk hh (f_word hG hB hm rfl args) hdd h1 h2, f_word hG hB hi rfl args, f_word hG hB hs rfl args⟩ ⟨hpp.1, hrc, hpp.2⟩ rfl (by simpa using hn) hl.1 (by rw [List.map_append, List.map_reverse]; rfl) (lv_room (by rw [f_cat]; exact hcat)) hd ⟨by omega, by omega⟩) (fun v' S' h => by obtain ⟨h1, rfl⟩ := h; cases h1; exact kk) (fun E S' h => absurd h (fD_no E S'))
theorem c_J0_coder_7d493 {G : fG} (hG : fOK G) {d : Nat} (hd : 0 ≤ d) (S : fS) (e : Nat) (he : fStr e) : fCt G z_J0_coder_7d493 d [.ref e] S 0 0 (fD (some (.int 0)) S) := by
  refine fCt_to [some (.ref e)] k_J0_coder_7d493 rfl (Nat.le_of_ble_eq_true rfl) rfl ?_
  refine f_compact hG rfl dJ0_coder_7d493_0 ?_
  refine f_if_eq (tgt := 13) dJ0_coder_7d493_3 (by decide) (fun h => absurd h (by decide)) (fun _ => ?_)
  refine f_aload_n dJ0_coder_7d493_6 rfl rfl ?_
  refine f_scoder hG he rfl dJ0_coder_7d493_7 ?_
  refine f_goto (tgt := 14) dJ0_coder_7d493_10 (by decide) ?_
  refine f_ireturn dJ0_coder_7d493_14 rfl rfl ?_
  exact ⟨rfl, rfl⟩
theorem c_J0_isLatin1_aae02 {G : fG} (hG : fOK G) {d : Nat} (hd : 0 ≤ d) (S : fS) (e : Nat) (he : fStr e) : fCt G z_J0_isLatin1_aae02 d [.ref e] S 0 0 (fD (some (.int 1)) S) := by
  refine fCt_to [some (.ref e)] k_J0_isLatin1_aae02 rfl (Nat.le_of_ble_eq_true rfl) rfl ?_
  refine f_compact hG rfl dJ0_isLatin1_aae02_0 ?_
  refine f_if_eq (tgt := 17) dJ0_isLatin1_aae02_3 (by decide) (fun h => absurd h (by decide)) (fun _ => ?_)
  refine f_aload_n dJ0_isLatin1_aae02_6 rfl rfl ?_
  refine f_scoder hG he rfl dJ0_isLatin1_aae02_7 ?_
  refine f_if_ne (tgt := 17) dJ0_isLatin1_aae02_10 (by decide) (fun h => absurd rfl h) (fun _ => ?_)
  refine f_iconst (v := 1) dJ0_isLatin1_aae02_13 rfl ?_
  refine f_goto (tgt := 18) dJ0_isLatin1_aae02_14 (by decide) ?_
  refine f_ireturn dJ0_isLatin1_aae02_18 rfl rfl ?_
  exact ⟨rfl, rfl⟩
theorem shr0 (x : Int32) : x >>> ((0 : Int32) &&& 31) = x := by
  rw [show ((0 : Int32) &&& 31) = 0 by decide]
  exact Int32.toBitVec_inj.mp (by simp)
theorem c_J0_length_8abf5 {G : fG} (hG : fOK G) {d : Nat} (hd : 1 ≤ d) (S : fS) (e : Nat) (he : fStr e) : fCt G z_J0_length_8abf5 d [.ref e] S 0 0 (fD (some (.int (nI (fsb e).length))) S) := by
  refine fCt_to [some (.ref e)] k_J0_length_8abf5 rfl (Nat.le_of_ble_eq_true rfl) rfl ?_
  refine f_aload_n dJ0_length_8abf5_0 rfl rfl ?_
  refine f_svalue hG he rfl dJ0_length_8abf5_1 ?_
  refine f_balen hG he dJ0_length_8abf5_4 ?_
  refine f_aload_n dJ0_length_8abf5_5 rfl rfl ?_
  refine f_cVQ hG (As := []) dJ0_length_8abf5_6 rfl k_J0_coder_7d493 rfl rfl ml_J0_335 im_J0_coder_7d493 se_J0_coder_7d493 he rfl (c_J0_coder_7d493 hG (d := 0) (Nat.le_refl _) _ _ he) (by omega) (Nat.le_of_ble_eq_true rfl) (Nat.zero_le _) (Nat.zero_le _) ?_
  refine f_ishr dJ0_length_8abf5_9 ?_
  rw [shr0]
  refine f_ireturn dJ0_length_8abf5_10 rfl rfl ?_
  exact ⟨rfl, rfl⟩
theorem c_J3_checkIndex_8e157 {G : fG} (hG : fOK G) {d : Nat} (hd : 0 ≤ d) (S : fS) (i n : Int32) (e : Nat) (h1 : ¬ i < 0) (h2 : i < n) : fCt G z_J3_checkIndex_8e157 d [.int i, .int n, .ref e] S 0 0 (fD (some (.int i)) S) := by
  refine fCt_to [some (.int i), some (.int n), some (.ref e)] k_J3_checkIndex_8e157 rfl (Nat.le_of_ble_eq_true rfl) rfl ?_
  refine f_iload_n dJ3_checkIndex_8e157_0 rfl rfl ?_
  refine f_if_lt (tgt := 9) dJ3_checkIndex_8e157_1 (by decide) (fun h => absurd h h1) (fun _ => ?_)
  refine f_iload_n dJ3_checkIndex_8e157_4 rfl rfl ?_
  refine f_iload_n dJ3_checkIndex_8e157_5 rfl rfl ?_
  refine f_icmp_lt (tgt := 16) dJ3_checkIndex_8e157_6 (by decide) (fun _ => ?_) (fun h => absurd h2 h)
  refine f_iload_n dJ3_checkIndex_8e157_16 rfl rfl ?_
  refine f_ireturn dJ3_checkIndex_8e157_17 rfl rfl ?_
  exact ⟨rfl, rfl⟩
theorem c_J3_checkIndexN {G : fG} (hG : fOK G) {d : Nat} (hd : 0 ≤ d) (S : fS) (i n : Int32) (h1 : ¬ i < 0) (h2 : i < n) : fCt G z_J3_checkIndex_8e157 d [.int i, .int n, .null] S 0 0 (fD (some (.int i)) S) := by
  refine fCt_to [some (.int i), some (.int n), some (.null)] k_J3_checkIndex_8e157 rfl (Nat.le_of_ble_eq_true rfl) rfl ?_
  refine f_iload_n dJ3_checkIndex_8e157_0 rfl rfl ?_
  refine f_if_lt (tgt := 9) dJ3_checkIndex_8e157_1 (by decide) (fun h => absurd h h1) (fun _ => ?_)
  refine f_iload_n dJ3_checkIndex_8e157_4 rfl rfl ?_
  refine f_iload_n dJ3_checkIndex_8e157_5 rfl rfl ?_
  refine f_icmp_lt (tgt := 16) dJ3_checkIndex_8e157_6 (by decide) (fun _ => ?_) (fun h => absurd h2 h)
  refine f_iload_n dJ3_checkIndex_8e157_16 rfl rfl ?_
  refine f_ireturn dJ3_checkIndex_8e157_17 rfl rfl ?_
  exact ⟨rfl, rfl⟩
theorem c_J0_checkIndex_df160 {G : fG} (hG : fOK G) {d : Nat} (hd : 1 ≤ d) (S : fS) (i n : Int32) (h1 : ¬ i < 0) (h2 : i < n) : fCt G z_J0_checkIndex_df160 d [.int i, .int n] S 0 0 (fD none S) := by
  refine fCt_to [some (.int i), some (.int n)] k_J0_checkIndex_df160 rfl (Nat.le_of_ble_eq_true rfl) rfl ?_
  refine f_iload_n dJ0_checkIndex_df160_0 rfl rfl ?_
  refine f_iload_n dJ0_checkIndex_df160_1 rfl rfl ?_
  refine f_sioobe hG rfl dJ0_checkIndex_df160_2 ?_ ?_
  · refine f_cS hG (As := [_, _, _]) dJ0_checkIndex_df160_5 rfl k_J3_checkIndex_8e157 rfl rfl ml_J0_1059 sm_J3_checkIndex_8e157 (c_J3_checkIndex_8e157 hG (d := 0) (Nat.le_refl _) _ _ _ _ h1 h2) (by omega) (Nat.le_of_ble_eq_true rfl) (Nat.zero_le _) (Nat.zero_le _) ?_
    refine f_pop dJ0_checkIndex_df160_8 rfl ?_
    refine f_return dJ0_checkIndex_df160_9 rfl ?_
    exact ⟨rfl, rfl⟩
  · refine f_cS hG (As := [_, _, _]) dJ0_checkIndex_df160_5 rfl k_J3_checkIndex_8e157 rfl rfl ml_J0_1059 sm_J3_checkIndex_8e157 (c_J3_checkIndexN hG (d := 0) (Nat.le_refl _) _ _ _ h1 h2) (by omega) (Nat.le_of_ble_eq_true rfl) (Nat.zero_le _) (Nat.zero_le _) ?_
    refine f_pop dJ0_checkIndex_df160_8 rfl ?_
    refine f_return dJ0_checkIndex_df160_9 rfl ?_
    exact ⟨rfl, rfl⟩
theorem vin_lt {i : Int32} {n : Nat} (h : vp_in i n) (hn : n < 2 ^ 31) : ¬ i < 0 ∧ i < nI n := by
  obtain ⟨j, hj, rfl⟩ := vp_in_of h hn
  exact ⟨nI_pos (by omega), nI_lt hj hn⟩
theorem c_J1_charAt_3b067 {G : fG} (hG : fOK G) {d : Nat} (hd : 2 ≤ d) (S : fS) (e : Nat) (i : Int32) (he : fStr e) (hi : vp_in i (fsb e).length) : fCt G z_J1_charAt_3b067 d [.ref (e + 12), .int i] S 0 0 (fD (some (.int ((fsb e).getD i.toNatClampNeg 0))) S) := by
  refine fCt_to [some (.ref (e + 12)), some (.int i)] k_J1_charAt_3b067 rfl (Nat.le_of_ble_eq_true rfl) rfl ?_
  have hlt := fsb_lt he
  have hv := vin_lt hi (by omega)
  refine f_iload_n dJ1_charAt_3b067_0 rfl rfl ?_
  refine f_aload_n dJ1_charAt_3b067_1 rfl rfl ?_
  refine f_balen hG he dJ1_charAt_3b067_2 ?_
  refine f_cS hG (As := [_, _]) dJ1_charAt_3b067_3 rfl k_J0_checkIndex_df160 rfl rfl ml_J1_9 sm_J0_checkIndex_df160 (c_J0_checkIndex_df160 hG (d := 1) (Nat.le_refl _) _ _ _ hv.1 hv.2) (by omega) (Nat.le_of_ble_eq_true rfl) (Nat.zero_le _) (Nat.zero_le _) ?_
  refine f_aload_n dJ1_charAt_3b067_6 rfl rfl ?_
  refine f_iload_n dJ1_charAt_3b067_7 rfl rfl ?_
  refine f_baload hG he hi dJ1_charAt_3b067_8 ?_
  refine f_sipush (v := 255) dJ1_charAt_3b067_9 (by decide) ?_
  refine f_iand dJ1_charAt_3b067_12 ?_
  refine f_i2c dJ1_charAt_3b067_13 ?_
  rw [fsb_asc he]
  refine f_ireturn dJ1_charAt_3b067_14 rfl (by rw [← fsb_asc he]; exact pk_nc _) ?_
  exact ⟨rfl, rfl⟩
theorem c_J0_charAt_5068e {G : fG} (hG : fOK G) {d : Nat} (hd : 3 ≤ d) (S : fS) (e : Nat) (i : Int32) (he : fStr e) (hi : vp_in i (fsb e).length) : fCt G z_J0_charAt_5068e d [.ref e, .int i] S 0 0 (fD (some (.int ((fsb e).getD i.toNatClampNeg 0))) S) := by
  refine fCt_to [some (.ref e), some (.int i)] k_J0_charAt_5068e rfl (Nat.le_of_ble_eq_true rfl) rfl ?_
  refine f_aload_n dJ0_charAt_5068e_0 rfl rfl ?_
  refine f_cVQ hG (As := []) dJ0_charAt_5068e_1 rfl k_J0_isLatin1_aae02 rfl rfl ml_J0_492 im_J0_isLatin1_aae02 se_J0_isLatin1_aae02 he rfl (c_J0_isLatin1_aae02 hG (d := 0) (Nat.le_refl _) _ _ he) (by omega) (Nat.le_of_ble_eq_true rfl) (Nat.zero_le _) (Nat.zero_le _) ?_
  refine f_if_eq (tgt := 16) dJ0_charAt_5068e_4 (by decide) (fun h => absurd h (by decide)) (fun _ => ?_)
  refine f_aload_n dJ0_charAt_5068e_7 rfl rfl ?_
  refine f_svalue hG he rfl dJ0_charAt_5068e_8 ?_
  refine f_iload_n dJ0_charAt_5068e_11 rfl rfl ?_
  refine f_cS hG (As := [_, _]) dJ0_charAt_5068e_12 rfl k_J1_charAt_3b067 rfl rfl ml_J0_495 sm_J1_charAt_3b067 (c_J1_charAt_3b067 hG (d := 2) (Nat.le_refl _) _ _ _ he hi) (by omega) (Nat.le_of_ble_eq_true rfl) (Nat.zero_le _) (Nat.zero_le _) ?_
  refine f_ireturn dJ0_charAt_5068e_15 rfl (by rw [← fsb_asc he]; exact pk_nc _) ?_
  exact ⟨rfl, rfl⟩
theorem n_str {e j : Nat} (he : fStr e) : narrow .char (.int ((fsb e).getD j 0)) = .int ((fsb e).getD j 0) := by rw [← fsb_asc he]; exact pk_nc _
