/-! ===== the distance of two texts, by a table from the front; the same from the back ===== -/
def lvR (e : Nat → Nat) (r : Nat) (prev : Nat → Nat) : Nat → Nat
  | 0 => r + 1
  | c + 1 => min (prev c + e c) (min (prev (c + 1)) (lvR e r prev c) + 1)
def lv (s w : Nat → Int32) : Nat → Nat → Nat
  | 0 => fun c => c
  | r + 1 => lvR (fun c => if s r = w c then 0 else 1) r (lv s w r)
def lsh (s : Nat → Int32) : Nat → Int32 := fun i => s (i + 1)
section LV
theorem lv_0 (s w : Nat → Int32) (c : Nat) : lv s w 0 c = c := rfl
theorem lv_s0 (s w : Nat → Int32) (r : Nat) : lv s w (r + 1) 0 = r + 1 := rfl
theorem lv_r0 (s w : Nat → Int32) (r : Nat) : lv s w r 0 = r := by cases r <;> rfl
theorem lv_ss (s w : Nat → Int32) (r c : Nat) : lv s w (r + 1) (c + 1) = min (lv s w r c + (if s r = w c then 0 else 1)) (min (lv s w r (c + 1)) (lv s w (r + 1) c) + 1) := rfl
theorem lv_cg {s s' w w' : Nat → Int32} : ∀ (r c : Nat), (∀ i, i < r → s i = s' i) → (∀ j, j < c → w j = w' j) → lv s w r c = lv s' w' r c
  | 0, c, _, _ => rfl
  | r + 1, 0, _, _ => rfl
  | r + 1, c + 1, h1, h2 => by
    rw [lv_ss, lv_ss, h1 r (by omega), h2 c (by omega), lv_cg r c (fun i h => h1 i (by omega)) (fun j h => h2 j (by omega)), lv_cg r (c + 1) (fun i h => h1 i (by omega)) h2, lv_cg (r + 1) c h1 (fun j h => h2 j (by omega))]
theorem lv_le (s w : Nat → Int32) : ∀ (r c : Nat), lv s w r c ≤ r + c
  | 0, c => by rw [lv_0]; omega
  | r + 1, 0 => by rw [lv_s0]; omega
  | r + 1, c + 1 => by
    have h1 := lv_le s w r (c + 1)
    rw [lv_ss]
    omega
theorem m3_le {x a b c e : Nat} (h : x = min (a + e) (min b c + 1)) : x ≤ a + e ∧ x ≤ b + 1 ∧ x ≤ c + 1 ∧ (x = a + e ∨ x = b + 1 ∨ x = c + 1) := by omega
theorem lv_front (s w : Nat → Int32) : ∀ (n r c : Nat), r + c ≤ n → lv s w (r + 1) (c + 1) = min (lv (lsh s) (lsh w) r c + (if s 0 = w 0 then 0 else 1)) (min (lv (lsh s) w r (c + 1)) (lv s (lsh w) (r + 1) c) + 1) := by
  intro n
  induction n with
  | zero =>
    intro r c h
    have h1 : r = 0 := by omega
    have h2 : c = 0 := by omega
    subst h1; subst h2
    rw [lv_ss, lv_0, lv_0, lv_s0, lv_0, lv_0, lv_s0]
  | succ n ih =>
    intro r c h
    match r, c, h with
    | 0, 0, _ => rw [lv_ss, lv_0, lv_0, lv_s0, lv_0, lv_0, lv_s0]
    | 0, c + 1, h =>
      have i1 := ih 0 c (by omega)
      have a1 := lv_ss s w 0 (c + 1)
      have a2 := lv_ss s (lsh w) 0 c
      rw [lv_0, lv_0] at i1 a1 a2
      rw [lv_0, lv_0, a1, i1, a2]
      rw [show (lsh w) c = w (c + 1) from rfl]
      generalize (if s 0 = w 0 then 0 else 1 : Nat) = e0
      generalize (if s 0 = w (c + 1) then 0 else 1 : Nat) = e1
      generalize lv s (lsh w) (0 + 1) c = D
      omega
    | r + 1, 0, h =>
      have i1 := ih r 0 (by omega)
      have a1 := lv_ss s w (r + 1) 0
      have a2 := lv_ss (lsh s) w r 0
      rw [lv_r0, lv_r0] at i1 a1 a2
      rw [lv_r0, lv_r0, a1, i1, a2]
      rw [show (lsh s) r = s (r + 1) from rfl]
      generalize (if s 0 = w 0 then 0 else 1 : Nat) = e0
      generalize (if s (r + 1) = w 0 then 0 else 1 : Nat) = e1
      generalize lv (lsh s) w r (0 + 1) = D
      omega
    | r + 1, c + 1, h =>
      have i1 := m3_le (ih r c (by omega))
      have i2 := m3_le (ih r (c + 1) (by omega))
      have i3 := m3_le (ih (r + 1) c (by omega))
      have a1 := m3_le (lv_ss s w (r + 1) (c + 1))
      have b1 := m3_le (lv_ss (lsh s) (lsh w) r c)
      have b2 := m3_le (lv_ss (lsh s) w r (c + 1))
      have b3 := m3_le (lv_ss s (lsh w) (r + 1) c)
      rw [show (lsh s) r = s (r + 1) from rfl, show (lsh w) c = w (c + 1) from rfl] at b1
      rw [show (lsh s) r = s (r + 1) from rfl] at b2
      rw [show (lsh w) c = w (c + 1) from rfl] at b3
      have q := m3_le (x := min (lv (lsh s) (lsh w) (r + 1) (c + 1) + (if s 0 = w 0 then 0 else 1)) (min (lv (lsh s) w (r + 1) (c + 1 + 1)) (lv s (lsh w) (r + 1 + 1) (c + 1)) + 1)) rfl
      generalize (if s 0 = w 0 then 0 else 1 : Nat) = e0 at *
      generalize (if s (r + 1) = w (c + 1) then 0 else 1 : Nat) = e1 at *
      generalize min (lv (lsh s) (lsh w) (r + 1) (c + 1) + e0) (min (lv (lsh s) w (r + 1) (c + 1 + 1)) (lv s (lsh w) (r + 1 + 1) (c + 1)) + 1) = R at *
      generalize lv s w (r + 1 + 1) (c + 1 + 1) = L at *
      obtain ⟨i11, i12, i13, i14⟩ := i1
      obtain ⟨i21, i22, i23, i24⟩ := i2
      obtain ⟨i31, i32, i33, i34⟩ := i3
      obtain ⟨a11, a12, a13, a14⟩ := a1
      obtain ⟨b11, b12, b13, b14⟩ := b1
      obtain ⟨b21, b22, b23, b24⟩ := b2
      obtain ⟨b31, b32, b33, b34⟩ := b3
      obtain ⟨q1, q2, q3, q4⟩ := q
      refine Nat.le_antisymm ?_ ?_
      · clear i14 i24 i34 a14
        rcases q4 with q4 | q4 | q4
        · clear b24 b34
          rcases b14 with b14 | b14 | b14 <;> omega
        · clear b14 b34
          rcases b24 with b24 | b24 | b24 <;> omega
        · clear b14 b24
          rcases b34 with b34 | b34 | b34 <;> omega
      · clear b14 b24 b34 q4
        rcases a14 with a14 | a14 | a14
        · clear i24 i34
          rcases i14 with i14 | i14 | i14 <;> omega
        · clear i14 i34
          rcases i24 with i24 | i24 | i24 <;> omega
        · clear i14 i24
          rcases i34 with i34 | i34 | i34 <;> omega
theorem lv_lw (s w : Nat → Int32) : ∀ (r c : Nat), lv s (lsh w) r c ≤ lv s w r (c + 1) + 1
  | 0, c => by rw [lv_0, lv_0]; omega
  | r + 1, 0 => by
    have h1 := lv_lw s w r 0
    have h2 := m3_le (lv_ss s w r 0)
    rw [lv_r0] at h1 h2
    rw [lv_s0] at h2 ⊢
    omega
  | r + 1, c + 1 => by
    have h1 := lv_lw s w r c
    have h2 := lv_lw s w r (c + 1)
    have h3 := lv_lw s w (r + 1) c
    have a1 := m3_le (lv_ss s w r (c + 1))
    have a2 := m3_le (lv_ss s (lsh w) r c)
    rw [show (lsh w) c = w (c + 1) from rfl] at a2
    generalize (if s r = w (c + 1) then 0 else 1 : Nat) = e1 at *
    omega
theorem lv_ls (s w : Nat → Int32) : ∀ (r c : Nat), lv (lsh s) w r c ≤ lv s w (r + 1) c + 1
  | r, 0 => by rw [lv_r0, lv_r0]; omega
  | 0, c + 1 => by
    have h1 := lv_ls s w 0 c
    have h2 := m3_le (lv_ss s w 0 c)
    rw [lv_0] at h1 ⊢
    rw [lv_0, lv_0] at h2
    omega
  | r + 1, c + 1 => by
    have h1 := lv_ls s w r c
    have h2 := lv_ls s w r (c + 1)
    have h3 := lv_ls s w (r + 1) c
    have a1 := m3_le (lv_ss s w (r + 1) c)
    have a2 := m3_le (lv_ss (lsh s) w r c)
    rw [show (lsh s) r = s (r + 1) from rfl] at a2
    generalize (if s (r + 1) = w c then 0 else 1 : Nat) = e1 at *
    omega
theorem lv_same {s w : Nat → Int32} (h : s 0 = w 0) (r c : Nat) : lv s w (r + 1) (c + 1) = lv (lsh s) (lsh w) r c := by
  have h1 := lv_front s w _ r c (Nat.le_refl _)
  have h2 := lv_lw (lsh s) w r c
  have h3 := lv_ls s (lsh w) r c
  rw [if_pos h] at h1
  omega
/-- what lies behind i and j -/
def lvE (s w : Nat → Int32) (T W i j : Nat) : Nat := lv (fun x => s (x + i)) (fun x => w (x + j)) (T - i) (W - j)
theorem lsh_at (s : Nat → Int32) (i : Nat) : lsh (fun x => s (x + i)) = fun x => s (x + (i + 1)) := by
  funext x
  show s (x + 1 + i) = s (x + (i + 1))
  rw [show x + 1 + i = x + (i + 1) by omega]
theorem lvE_T (s w : Nat → Int32) {T W i j : Nat} (h : T ≤ i) : lvE s w T W i j = W - j := by
  rw [lvE, show T - i = 0 by omega, lv_0]
theorem lvE_W (s w : Nat → Int32) {T W i j : Nat} (h : W ≤ j) : lvE s w T W i j = T - i := by
  rw [lvE, show W - j = 0 by omega, lv_r0]
theorem lvE_same {s w : Nat → Int32} {T W i j : Nat} (hi : i < T) (hj : j < W) (h : s i = w j) : lvE s w T W i j = lvE s w T W (i + 1) (j + 1) := by
  have h1 := lv_same (s := fun x => s (x + i)) (w := fun x => w (x + j)) (by simpa using h) (T - (i + 1)) (W - (j + 1))
  rw [lsh_at, lsh_at] at h1
  rw [lvE, lvE, ← h1, show T - i = T - (i + 1) + 1 by omega, show W - j = W - (j + 1) + 1 by omega]
theorem lvE_diff {s w : Nat → Int32} {T W i j : Nat} (hi : i < T) (hj : j < W) (h : ¬ s i = w j) : lvE s w T W i j = min (lvE s w T W (i + 1) (j + 1)) (min (lvE s w T W (i + 1) j) (lvE s w T W i (j + 1))) + 1 := by
  have h1 := lv_front (fun x => s (x + i)) (fun x => w (x + j)) _ (T - (i + 1)) (W - (j + 1)) (Nat.le_refl _)
  rw [lsh_at, lsh_at, if_neg (by simpa using h)] at h1
  rw [lvE, lvE, lvE, lvE, show T - i = T - (i + 1) + 1 by omega, show W - j = W - (j + 1) + 1 by omega, h1]
  omega
theorem lvE_0 (s w : Nat → Int32) (T W : Nat) : lvE s w T W 0 0 = lv s w T W := rfl
theorem lvE_le (s w : Nat → Int32) (T W i j : Nat) : lvE s w T W i j ≤ T + W := by
  have := lv_le (fun x => s (x + i)) (fun x => w (x + j)) (T - i) (W - j)
  rw [lvE]
  omega
end LV
/-! ===== lots into crates: the least number, by sets ===== -/
/-- the load of crate q: lots below n of the set S that g puts there -/
def pld (J : Nat → Nat) (S : Nat) (g : Nat → Nat) (q : Nat) : Nat → Nat
  | 0 => 0
  | n + 1 => pld J S g q n + (if S.testBit n = true ∧ g n = q then J n else 0)
def pst (cap j : Nat) (x : Nat × Nat) : Nat × Nat := if x.2 + j ≤ cap then (x.1, x.2 + j) else (x.1 + 1, j)
def plx (a b : Nat × Nat) : Prop := a.1 < b.1 ∨ (a.1 = b.1 ∧ a.2 ≤ b.2)
/-- a table of the best ends of sets: how many crates, how full the last is -/
def pDP (J : Nat → Nat) (n cap : Nat) (D : Nat → Nat × Nat) : Prop :=
  D 0 = (0, cap) ∧ ∀ S, 0 < S → S < 2 ^ n → (∀ k, k < n → S.testBit k = true → plx (D S) (pst cap (J k) (D (S - 2 ^ k)))) ∧ ∃ k, k < n ∧ S.testBit k = true ∧ D S = pst cap (J k) (D (S - 2 ^ k))
theorem bt_take1 : ∀ S, S < 256 → ∀ k, k < 8 → S.testBit k = true → S - 2 ^ k < S := by decide +kernel
theorem bt_take2 : ∀ S, S < 256 → ∀ k, k < 8 → S.testBit k = true → (S - 2 ^ k).testBit k = false := by decide +kernel
theorem bt_take3 : ∀ S, S < 256 → ∀ k, k < 8 → ∀ i, i < 8 → S.testBit k = true → (i = k ∨ (S - 2 ^ k).testBit i = S.testBit i) := by decide +kernel
theorem bt_take (S : Nat) (hS : S < 256) (k : Nat) (hk : k < 8) (hb : S.testBit k = true) : S - 2 ^ k < S ∧ (S - 2 ^ k).testBit k = false ∧ ∀ i, i < 8 → i ≠ k → (S - 2 ^ k).testBit i = S.testBit i :=
  ⟨bt_take1 S hS k hk hb, bt_take2 S hS k hk hb, fun i hi hne => (bt_take3 S hS k hk i hi hb).resolve_left hne⟩
theorem bt_some : ∀ n, n ≤ 8 → ∀ S, S < 2 ^ n → 0 < S → ∃ k, k < n ∧ S.testBit k = true := by decide +kernel
theorem bt_all : ∀ n, n ≤ 8 → ∀ k, k < n → (2 ^ n - 1).testBit k = true := by decide +kernel
theorem plx_tr {a b c : Nat × Nat} (h : plx a b) (k : plx b c) : plx a c := by unfold plx at *; omega
theorem pst_mono {cap j : Nat} {a b : Nat × Nat} (h : plx a b) : plx (pst cap j a) (pst cap j b) := by
  unfold plx at *
  unfold pst
  by_cases h1 : a.2 + j ≤ cap
  · rw [if_pos h1]
    by_cases h2 : b.2 + j ≤ cap
    · rw [if_pos h2]; show a.1 < b.1 ∨ (a.1 = b.1 ∧ a.2 + j ≤ b.2 + j); omega
    · rw [if_neg h2]; show a.1 < b.1 + 1 ∨ (a.1 = b.1 + 1 ∧ a.2 + j ≤ j); omega
  · rw [if_neg h1]
    by_cases h2 : b.2 + j ≤ cap
    · rw [if_pos h2]; show a.1 + 1 < b.1 ∨ (a.1 + 1 = b.1 ∧ j ≤ b.2 + j); omega
    · rw [if_neg h2]; show a.1 + 1 < b.1 + 1 ∨ (a.1 + 1 = b.1 + 1 ∧ j ≤ j); omega
section PL
variable {J : Nat → Nat} {g : Nat → Nat}
theorem pld_cg {J' : Nat → Nat} {g' : Nat → Nat} {S S' q q' : Nat} : ∀ (n : Nat), (∀ p, p < n → S.testBit p = S'.testBit p ∧ (S.testBit p = true → (g p = q ↔ g' p = q') ∧ J p = J' p)) → pld J S g q n = pld J' S' g' q' n
  | 0, _ => rfl
  | n + 1, h => by
    obtain ⟨h1, h2⟩ := h n (by omega)
    rw [pld, pld, pld_cg n (fun p hp => h p (by omega))]
    congr 1
    by_cases hb : S.testBit n = true
    · obtain ⟨h3, h4⟩ := h2 hb
      have hb' : S'.testBit n = true := by rw [← h1]; exact hb
      by_cases h5 : g n = q
      · rw [if_pos ⟨hb, h5⟩, if_pos ⟨hb', h3.mp h5⟩, h4]
      · rw [if_neg (fun h => h5 h.2), if_neg (fun h => h5 (h3.mpr h.2))]
    · have hb' : ¬ S'.testBit n = true := by rw [← h1]; exact hb
      rw [if_neg (fun h => hb h.1), if_neg (fun h => hb' h.1)]
theorem pld_zero {S q : Nat} : ∀ (n : Nat), (∀ p, p < n → S.testBit p = true → g p ≠ q) → pld J S g q n = 0
  | 0, _ => rfl
  | n + 1, h => by
    rw [pld, pld_zero n (fun p hp => h p (by omega)), if_neg (fun k => h n (by omega) k.1 k.2)]
theorem pld_take {S q k : Nat} (hS : S < 256) (hk : k < 8) (hb : S.testBit k = true) : ∀ (n : Nat), n ≤ 8 → pld J S g q n = pld J (S - 2 ^ k) g q n + (if k < n ∧ g k = q then J k else 0)
  | 0, _ => by rw [pld, pld, if_neg (by omega)]
  | n + 1, hn => by
    obtain ⟨h1, h2, h3⟩ := bt_take S hS k hk hb
    rw [pld, pld, pld_take hS hk hb n (by omega)]
    by_cases e : n = k
    · subst e
      rw [if_neg (show ¬ (n < n ∧ g n = q) by omega), if_neg (show ¬ ((S - 2 ^ n).testBit n = true ∧ g n = q) by rw [h2]; exact fun h => by cases h.1)]
      by_cases e2 : g n = q
      · rw [if_pos ⟨hb, e2⟩, if_pos ⟨by omega, e2⟩]
      · rw [if_neg (fun h => e2 h.2), if_neg (fun h => e2 h.2)]
    · rw [h3 n (by omega) e]
      have e3 : (k < n ∧ g k = q) ↔ (k < n + 1 ∧ g k = q) := ⟨fun h => ⟨by omega, h.2⟩, fun h => ⟨by omega, h.2⟩⟩
      by_cases e4 : k < n ∧ g k = q
      · rw [if_pos e4, if_pos (e3.mp e4)]; omega
      · rw [if_neg e4, if_neg (fun h => e4 (e3.mpr h))]; omega
theorem pld_put {S q k x : Nat} : ∀ (n : Nat), S.testBit k = false → pld J S (fun p => if p = k then x else g p) q n = pld J S g q n := fun n h => pld_cg n fun p _ => ⟨rfl, fun hb => ⟨by
  have : p ≠ k := fun e => by rw [e, h] at hb; cases hb
  rw [if_neg this], rfl⟩⟩
end PL
section DP
variable {J : Nat → Nat} {n cap : Nat} {D : Nat → Nat × Nat}
theorem pow_le8 {n : Nat} (h : n ≤ 8) : 2 ^ n ≤ 256 := by
  have : 2 ^ n ≤ 2 ^ 8 := Nat.pow_le_pow_right (by decide) h
  exact this
/-- what the table says can be had -/
theorem pDP_has (hD : pDP J n cap D) (hn : n ≤ 8) (hJ : ∀ p, p < n → 0 < J p ∧ J p ≤ cap) : ∀ (N S : Nat), S ≤ N → 0 < S → S < 2 ^ n → 0 < (D S).1 ∧ ∃ g : Nat → Nat, (∀ p, p < n → S.testBit p = true → g p < (D S).1) ∧ (∀ q, pld J S g q n ≤ cap) ∧ pld J S g ((D S).1 - 1) n = (D S).2 := by
  intro N
  induction N with
  | zero => intro S h1 h2; omega
  | succ N ih =>
    intro S h1 h2 h3
    have hS : S < 256 := Nat.lt_of_lt_of_le h3 (pow_le8 hn)
    obtain ⟨-, k, hk, hb, hE⟩ := hD.2 S h2 h3
    obtain ⟨t1, t2, t3⟩ := bt_take S hS k (by omega) hb
    obtain ⟨j0, j1⟩ := hJ k hk
    have hP := fun (g : Nat → Nat) (q : Nat) => pld_take (J := J) (g := g) (q := q) hS (show k < 8 by omega) hb n hn
    by_cases h0 : S - 2 ^ k = 0
    · rw [h0, hD.1, pst, if_neg (show ¬ (cap + J k ≤ cap) by omega)] at hE
      rw [hE]
      have hz : ∀ q, pld J (S - 2 ^ k) (fun _ => 0) q n = 0 := fun q => pld_zero n fun p hp hb' => by rw [h0, Nat.zero_testBit] at hb'; cases hb'
      refine ⟨by show 0 < 0 + 1; omega, fun _ => 0, fun _ _ _ => by show 0 < 0 + 1; omega, fun q => ?_, ?_⟩
      · rw [hP, hz]; split <;> omega
      · rw [hP, hz, if_pos ⟨hk, rfl⟩]; show 0 + J k = J k; omega
    · obtain ⟨i0, g, i1, i2, i3⟩ := ih (S - 2 ^ k) (by omega) (by omega) (by omega)
      have hg : ∀ p, p < n → S.testBit p = true → p ≠ k → g p < (D (S - 2 ^ k)).1 := fun p hp hb' hne => i1 p hp (by rw [t3 p (by omega) hne]; exact hb')
      rw [pst] at hE
      by_cases h4 : (D (S - 2 ^ k)).2 + J k ≤ cap
      · rw [if_pos h4] at hE
        rw [hE]
        refine ⟨i0, fun p => if p = k then (D (S - 2 ^ k)).1 - 1 else g p, fun p hp hb' => ?_, fun q => ?_, ?_⟩
        · show (if p = k then (D (S - 2 ^ k)).1 - 1 else g p) < (D (S - 2 ^ k)).1
          by_cases e : p = k
          · rw [if_pos e]; omega
          · rw [if_neg e]; exact hg p hp hb' e
        · rw [hP, pld_put n t2]
          show pld J (S - 2 ^ k) g q n + (if k < n ∧ (if k = k then (D (S - 2 ^ k)).1 - 1 else g k) = q then J k else 0) ≤ cap
          rw [if_pos rfl]
          by_cases e : (D (S - 2 ^ k)).1 - 1 = q
          · rw [if_pos ⟨hk, e⟩, ← e, i3]; exact h4
          · rw [if_neg (fun h => e h.2)]; have := i2 q; omega
        · rw [hP, pld_put n t2]
          show pld J (S - 2 ^ k) g ((D (S - 2 ^ k)).1 - 1) n + (if k < n ∧ (if k = k then (D (S - 2 ^ k)).1 - 1 else g k) = (D (S - 2 ^ k)).1 - 1 then J k else 0) = (D (S - 2 ^ k)).2 + J k
          rw [if_pos rfl, if_pos ⟨hk, rfl⟩, i3]
      · rw [if_neg h4] at hE
        rw [hE]
        have hz : pld J (S - 2 ^ k) g (D (S - 2 ^ k)).1 n = 0 := pld_zero n fun p hp hb' => by have := i1 p hp hb'; omega
        refine ⟨by show 0 < (D (S - 2 ^ k)).1 + 1; omega, fun p => if p = k then (D (S - 2 ^ k)).1 else g p, fun p hp hb' => ?_, fun q => ?_, ?_⟩
        · show (if p = k then (D (S - 2 ^ k)).1 else g p) < (D (S - 2 ^ k)).1 + 1
          by_cases e : p = k
          · rw [if_pos e]; omega
          · rw [if_neg e]; have := hg p hp hb' e; omega
        · rw [hP, pld_put n t2]
          show pld J (S - 2 ^ k) g q n + (if k < n ∧ (if k = k then (D (S - 2 ^ k)).1 else g k) = q then J k else 0) ≤ cap
          rw [if_pos rfl]
          by_cases e : (D (S - 2 ^ k)).1 = q
          · rw [if_pos ⟨hk, e⟩, ← e, hz]; omega
          · rw [if_neg (fun h => e h.2)]; have := i2 q; omega
        · rw [hP, pld_put n t2]
          show pld J (S - 2 ^ k) g ((D (S - 2 ^ k)).1 + 1 - 1) n + (if k < n ∧ (if k = k then (D (S - 2 ^ k)).1 else g k) = (D (S - 2 ^ k)).1 + 1 - 1 then J k else 0) = J k
          rw [if_pos rfl, show (D (S - 2 ^ k)).1 + 1 - 1 = (D (S - 2 ^ k)).1 by omega, if_pos ⟨hk, rfl⟩, hz]
          omega
/-- nothing better can be had -/
theorem pDP_best (hD : pDP J n cap D) (hn : n ≤ 8) (hJ : ∀ p, p < n → 0 < J p ∧ J p ≤ cap) : ∀ (N S : Nat), S ≤ N → 0 < S → S < 2 ^ n → ∀ (m : Nat) (g : Nat → Nat), (∀ p, p < n → S.testBit p = true → g p < m) → (∀ q, q < m → pld J S g q n ≤ cap) → plx (D S) (m, pld J S g (m - 1) n) := by
  intro N
  induction N with
  | zero => intro S h1 h2; omega
  | succ N ih =>
    intro S h1 h2 h3 m
    have hS : S < 256 := Nat.lt_of_lt_of_le h3 (pow_le8 hn)
    induction m with
    | zero =>
      intro g hg
      obtain ⟨k, hk, hb⟩ := bt_some n hn S h3 h2
      have := hg k hk hb
      omega
    | succ m ihm =>
      intro g hg hl
      show plx (D S) (m + 1, pld J S g m n)
      by_cases hex : ∃ k, k < n ∧ S.testBit k = true ∧ g k = m
      · obtain ⟨k, hk, hb, hgk⟩ := hex
        obtain ⟨j0, j1⟩ := hJ k hk
        obtain ⟨t1, t2, t3⟩ := bt_take S hS k (by omega) hb
        have hP := pld_take (J := J) (g := g) (q := m) hS (show k < 8 by omega) hb n hn
        rw [if_pos ⟨hk, hgk⟩] at hP
        have hc := hl m (by omega)
        have hA := (hD.2 S h2 h3).1 k hk hb
        by_cases h0 : S - 2 ^ k = 0
        · rw [h0, hD.1, pst, if_neg (show ¬ (cap + J k ≤ cap) by omega)] at hA
          refine plx_tr hA ?_
          show 0 + 1 < m + 1 ∨ (0 + 1 = m + 1 ∧ J k ≤ pld J S g m n)
          omega
        · have hi := ih (S - 2 ^ k) (by omega) (by omega) (by omega) (m + 1) g (fun p hp hb' => hg p hp (by
            have hne : p ≠ k := fun e => by rw [e, t2] at hb'; cases hb'
            rw [← t3 p (by omega) hne]; exact hb')) (fun q hq => by
            have h5 := pld_take (J := J) (g := g) (q := q) hS (show k < 8 by omega) hb n hn
            have h6 := hl q hq
            omega)
          have hi : plx (D (S - 2 ^ k)) (m + 1, pld J (S - 2 ^ k) g m n) := hi
          refine plx_tr hA (plx_tr (pst_mono hi) ?_)
          rw [pst, if_pos (show pld J (S - 2 ^ k) g m n + J k ≤ cap by omega)]
          show m + 1 < m + 1 ∨ (m + 1 = m + 1 ∧ pld J (S - 2 ^ k) g m n + J k ≤ pld J S g m n)
          omega
      · have hlt : ∀ p, p < n → S.testBit p = true → g p < m := fun p hp hb => by
          have h5 := hg p hp hb
          have h6 : g p ≠ m := fun e => hex ⟨p, hp, hb, e⟩
          omega
        have h7 := ihm g hlt (fun q hq => hl q (by omega))
        refine plx_tr h7 ?_
        show m < m + 1 ∨ _
        omega
end DP
/-! ===== bits ===== -/
theorem z_sl : ∀ n, n < 32 → ((nI n &&& 31).toBitVec.smod 32).toNat = n := by decide +kernel
theorem z_and (a b : Nat) : nI a &&& nI b = nI (a &&& b) := by
  apply Int32.toBitVec_inj.1
  show BitVec.ofNat 32 a &&& BitVec.ofNat 32 b = BitVec.ofNat 32 (a &&& b)
  apply BitVec.eq_of_getLsbD_eq
  intro i hi
  simp [hi]
theorem z_or (a b : Nat) : nI a ||| nI b = nI (a ||| b) := by
  apply Int32.toBitVec_inj.1
  show BitVec.ofNat 32 a ||| BitVec.ofNat 32 b = BitVec.ofNat 32 (a ||| b)
  apply BitVec.eq_of_getLsbD_eq
  intro i hi
  simp [hi]
theorem z_xor (a b : Nat) : nI a ^^^ nI b = nI (a ^^^ b) := by
  apply Int32.toBitVec_inj.1
  show BitVec.ofNat 32 a ^^^ BitVec.ofNat 32 b = BitVec.ofNat 32 (a ^^^ b)
  apply BitVec.eq_of_getLsbD_eq
  intro i hi
  simp [hi]
theorem z_one {k : Nat} (hk : k < 31) : (1 : Int32) <<< (nI k &&& 31) = nI (2 ^ k) := by
  have h : 1 * 2 ^ k < 2 ^ 32 := by
    have : 2 ^ k < 2 ^ 32 := Nat.pow_lt_pow_right (by decide) (by omega)
    omega
  have h2 := pk_shlN (n := 1) (nI k &&& 31) k (z_sl k (by omega)) h
  rw [Nat.one_mul] at h2
  exact h2
theorem z_shr {x k : Nat} (hx : x < 2 ^ 31) (hk : k < 32) : nI x >>> (nI k &&& 31) = nI (x / 2 ^ k) := pk_shrN hx _ k (z_sl k hk)
theorem z_bit {x k : Nat} (hx : x < 2 ^ 31) (hk : k < 32) : (nI x >>> (nI k &&& 31)) &&& (1 : Int32) = nI (x / 2 ^ k % 2) := by
  rw [z_shr hx hk]
  have h : x / 2 ^ k < 2 ^ 32 := Nat.lt_of_le_of_lt (Nat.div_le_self _ _) (by omega)
  exact pk_andN h 1 (by decide)
theorem z_01 (y : Int32) : y &&& (1 : Int32) = 0 ∨ y &&& (1 : Int32) = 1 := by
  obtain ⟨j, hj, h⟩ := pk_andE y (m := 1) 1 (by decide)
  have h2 : j = 0 ∨ j = 1 := by omega
  rcases h2 with rfl | rfl
  · exact Or.inl h
  · exact Or.inr h
theorem z_n0 : ¬ (0 : Int32) = 1 := by decide
theorem z_n1 : ¬ (1 : Int32) = 0 := by decide
theorem z_has (M : fM) (s i : Int32) : r_X11_setHas M s i = ((s >>> (i &&& 31)) &&& (1 : Int32)) := by
  rw [r_X11_setHas]
  rcases z_01 (s >>> (i &&& 31)) with h | h
  · rw [h, if_neg z_n0]
  · rw [h, if_pos rfl]
theorem z_hasN (M : fM) {x k : Nat} (hx : x < 2 ^ 31) (hk : k < 32) : r_X11_setHas M (nI x) (nI k) = nI (x / 2 ^ k % 2) := by rw [z_has, z_bit hx hk]
theorem z_tb (x k : Nat) : x.testBit k = true ↔ x / 2 ^ k % 2 = 1 := by rw [Nat.testBit_eq_decide_div_mod_eq, decide_eq_true_iff]
theorem z_tbf (x k : Nat) : x.testBit k = false ↔ x / 2 ^ k % 2 = 0 := by
  rw [Nat.testBit_eq_decide_div_mod_eq, decide_eq_false_iff_not]
  generalize x / 2 ^ k = z
  omega
theorem z_hasI (M : fM) {x k : Nat} (hx : x < 2 ^ 31) (hk : k < 32) : r_X11_setHas M (nI x) (nI k) = 0 ↔ x.testBit k = false := by
  rw [z_hasN M hx hk, z_tbf, ← nI_0, nI_eq (by omega) (by decide)]
/-! ===== how many bits ===== -/
def pc (x : Nat) : Nat := x % 2 + x / 2 % 2 + x / 4 % 2 + x / 8 % 2 + x / 16 % 2 + x / 32 % 2 + x / 64 % 2 + x / 128 % 2
theorem pc_Ja : ∀ x, x < 256 → r_J6_bitCount_0f7a4 (fun _ _ => 0) (nI x) = nI (pc x) := by decide +kernel
theorem pc_J (M : fM) {x : Nat} (h : x < 256) : r_J6_bitCount_0f7a4 M (nI x) = nI (pc x) := pc_Ja x h
theorem bits_M (a : Int32) (M M' : fM) : ∀ (m j : Nat) (v : Int32), l_X12_bits a M m j v = l_X12_bits a M' m j v
  | 0, _, _ => rfl
  | m + 1, j, v => by rw [l_X12_bits, l_X12_bits, bits_M a M M' m (j + 1)]
theorem pc_Ba : ∀ x, x < 64 → r_X12_bits (fun _ _ => 0) (nI x) = nI (pc x) := by decide +kernel
theorem pc_B (M : fM) {x : Nat} (h : x < 64) : r_X12_bits M (nI x) = nI (pc x) := by
  rw [← pc_Ba x h, r_X12_bits, r_X12_bits, bits_M]
theorem pc_le8 (x : Nat) : pc x ≤ 8 := by unfold pc; omega
theorem pc_le6 : ∀ x, x < 64 → pc x ≤ 6 := by decide +kernel
theorem pc_top : ∀ n, n ≤ 6 → ∀ x, x < 2 ^ n - 1 → pc x < pc (2 ^ n - 1) := by decide +kernel
theorem pc_sub : ∀ x, x < 64 → ∀ y, y < 64 → x &&& y = x → pc x ≤ pc y := by decide +kernel
theorem pc_put : ∀ x, x < 64 → ∀ i, i < 6 → x.testBit i = false → pc (x ||| 2 ^ i) = pc x + 1 ∧ x ||| 2 ^ i < 64 := by decide +kernel
theorem pc_in : ∀ n, n ≤ 6 → ∀ x, x < 2 ^ n → x &&& (2 ^ n - 1) = x := by decide +kernel
theorem or_in : ∀ n, n ≤ 6 → ∀ x, x < 2 ^ n → ∀ y, y < 2 ^ n → x ||| y < 2 ^ n := by decide +kernel
theorem pw_in : ∀ n, n ≤ 6 → ∀ x, x < 2 ^ n → ∀ i, i < 6 → x.testBit i = true → 2 ^ i < 2 ^ n := by decide +kernel
/-- a set that meets another has a number of it -/
theorem and_some : ∀ x, x < 64 → ∀ y, y < 64 → x &&& y ≠ 0 → ∃ i, i < 6 ∧ x.testBit i = true ∧ y.testBit i = true := by decide +kernel
theorem and_none : ∀ x, x < 64 → ∀ y, y < 64 → x &&& y = 0 → ∀ i, i < 6 → x.testBit i = true → y.testBit i = false := by decide +kernel
theorem and_more : ∀ x, x < 64 → ∀ y, y < 64 → x &&& y = x → ∀ i, i < 6 → y.testBit i = true → (x ||| 2 ^ i) &&& y = x ||| 2 ^ i := by decide +kernel
theorem pw_le6 : ∀ n, n ≤ 6 → 2 ^ n ≤ 64 ∧ 0 < 2 ^ n := by decide +kernel
/-! ===== test sets ===== -/
section TS
variable {A : Nat → Nat} {n a : Nat}
def isT (A : Nat → Nat) (n s : Nat) : Prop := ∀ p, p < n → A p &&& s ≠ 0
def bst (A : Nat → Nat) (n a r : Nat) : Prop := r ≤ a ∧ isT A n r ∧ ∀ s, s ≤ a → isT A n s → pc r < pc s ∨ (pc r = pc s ∧ r ≤ s)
theorem bst_one {r r' : Nat} (h : bst A n a r) (h' : bst A n a r') : r = r' := by
  have h1 := h.2.2 r' h'.1 h'.2.1
  have h2 := h'.2.2 r h.1 h.2.1
  omega
end TS
/-! ===== the model's toPop, over an invariant of its loop ===== -/
set_option maxRecDepth 100000 in
set_option maxHeartbeats 4000000 in
theorem lc_X12_toPopP {G : fG} (hG : fOK G) {d : Nat} (hd : 3 ≤ d) (M : fM) (dv : UInt64) (a : Int32) (pv : Int32) (Pv : Nat → Int32 → Prop) (q0 : ∀ (j : Nat) (v4 : Int32), j ≤ 60 → Pv j v4 → ¬ ((60 : Int32) ≤ v4) → j < 60) (q1 : N_X12_grows M pv) (q2 : ∀ (j : Nat) (v4 : Int32), j ≤ 60 → Pv j v4 → ¬ ((60 : Int32) ≤ v4) → Pv (j + 1) (v4 + (r_X12_grows M pv))) {Q : fR → fS → Prop} {kc ks : Nat} : ∀ (m j : Nat) (v3 : Int32) (v4 : Int32), j ≤ 60 → 60 + 1 ≤ j + m → Pv j v4 → fV G z_X12_toPop d Q 49 [some (.ref 296), some (.int a), some (.int pv), some (.int ((l_X12_toPopL a pv M m j v3 v4).1)), some (.int ((l_X12_toPopL a pv M m j v3 v4).2))] [] (sS M dv) kc ks → fV G z_X12_toPop d Q 26 [some (.ref 296), some (.int a), some (.int pv), some (.int v3), some (.int v4)] [] (sS M dv) kc ks := by
  intro m
  induction m with
  | zero => intros; omega
  | succ m ih =>
    intro j v3 v4 hj hm hP kk
    refine f_iload dX12_toPop_26 rfl ?_
    refine f_bipush (v := 60) dX12_toPop_28 (by decide) ?_
    refine f_icmp_ge (tgt := 49) dX12_toPop_30 (by decide) (fun c_30 => ?_) (fun c_30 => ?_)
    · have e9 : l_X12_toPopL a pv M (m + 1) j v3 v4 = (v3, v4) := by rw [l_X12_toPopL, if_pos c_30]
      rw [e9] at kk
      exact kk
    · have hlt : j < 60 := (q0 j v4 hj hP c_30)
      refine f_iinc (v := v3 + 1) (ls' := [_, _, _, _, _]) dX12_toPop_33 rfl rfl (Nat.le_of_ble_eq_true rfl) rfl rfl ?_
      refine f_iload dX12_toPop_36 rfl ?_
      refine f_aload_n dX12_toPop_38 rfl rfl ?_
      refine f_iload_n dX12_toPop_39 rfl rfl ?_
      refine f_cV hG (As := [_]) dX12_toPop_40 rfl k_X12_grows rfl rfl ml_X12_119 im_X12_grows se_X12_grows rfl rfl (c_X12_grows hG (d := 2) (Nat.le_refl _) _ _ _ q1) (by omega) (Nat.le_of_ble_eq_true rfl) (Nat.zero_le _) (Nat.zero_le _) ?_
      refine f_iadd dX12_toPop_43 ?_
      refine f_istore (ls' := [_, _, _, _, _]) dX12_toPop_44 (Nat.le_of_ble_eq_true rfl) rfl rfl ?_
      refine f_goto (tgt := 26) dX12_toPop_46 (by decide) ?_
      have e9 : l_X12_toPopL a pv M (m + 1) j v3 v4 = l_X12_toPopL a pv M m (j + 1) (v3 + 1) (v4 + (r_X12_grows M pv)) := by rw [l_X12_toPopL, if_neg c_30]
      exact ih (j + 1) (v3 + 1) (v4 + (r_X12_grows M pv)) (by omega) (by omega) (q2 j v4 hj hP c_30) (by rw [e9] at kk; exact kk)
def P_X12_toPop (M : fM) (a : Int32) : Prop := (N_X12_isLost M a) ∧ (((r_X12_isLost M a) = 0) → N_X12_placeOf (m_X12_isLost M a) a) ∧ (((r_X12_isLost M a) = 0) → N_X12_by (m_X12_isLost M a) (r_X12_placeOf (m_X12_isLost M a) a) (5 : Int32)) ∧ (((r_X12_isLost M a) = 0) → ∃ Pv : Nat → Int32 → Prop, Pv 0 (r_X12_by (m_X12_isLost M a) (r_X12_placeOf (m_X12_isLost M a) a) (5 : Int32)) ∧ (∀ (j : Nat) (v4 : Int32), j ≤ 60 → Pv j v4 → ¬ ((60 : Int32) ≤ v4) → j < 60) ∧ N_X12_grows (m_X12_isLost M a) (r_X12_placeOf (m_X12_isLost M a) a) ∧ (∀ (j : Nat) (v4 : Int32), j ≤ 60 → Pv j v4 → ¬ ((60 : Int32) ≤ v4) → Pv (j + 1) (v4 + (r_X12_grows (m_X12_isLost M a) (r_X12_placeOf (m_X12_isLost M a) a)))))
set_option maxRecDepth 100000 in
set_option maxHeartbeats 4000000 in
theorem c_X12_toPopP {G : fG} (hG : fOK G) {d : Nat} (hd : 3 ≤ d) (M : fM) (dv : UInt64) (a : Int32) (hN : P_X12_toPop M a) : fCt G z_X12_toPop d [.ref 296, .int a] (sS M dv) 0 0 (fD (some (.int (r_X12_toPop M a))) (sS (m_X12_toPop M a) dv)) := by
  refine fCt_to [some (.ref 296), some (.int a), none, none, none] k_X12_toPop rfl (Nat.le_of_ble_eq_true rfl) rfl ?_
  obtain ⟨q0, q1, q2, q3⟩ := hN
  refine f_aload_n dX12_toPop_0 rfl rfl ?_
  refine f_iload_n dX12_toPop_1 rfl rfl ?_
  refine f_cV hG (As := [_]) dX12_toPop_2 rfl k_X12_isLost rfl rfl ml_X12_129 im_X12_isLost se_X12_isLost rfl rfl (c_X12_isLost hG (d := 2) (Nat.le_refl _) _ _ _ q0) (by omega) (Nat.le_of_ble_eq_true rfl) (Nat.zero_le _) (Nat.zero_le _) ?_
  refine f_if_eq (tgt := 10) dX12_toPop_5 (by decide) (fun c_5 => ?_) (fun c_5 => ?_)
  · refine f_aload_n dX12_toPop_10 rfl rfl ?_
    refine f_iload_n dX12_toPop_11 rfl rfl ?_
    refine f_cV hG (As := [_]) dX12_toPop_12 rfl k_X12_placeOf rfl rfl ml_X12_113 im_X12_placeOf se_X12_placeOf rfl rfl (c_X12_placeOf hG (d := 1) (Nat.le_refl _) _ _ _ (q1 c_5)) (by omega) (Nat.le_of_ble_eq_true rfl) (Nat.zero_le _) (Nat.zero_le _) ?_
    refine f_istore_n (ls' := [_, _, _, _, _]) dX12_toPop_15 rfl (Nat.le_of_ble_eq_true rfl) rfl rfl ?_
    refine f_iconst (v := 0) dX12_toPop_16 rfl ?_
    refine f_istore_n (ls' := [_, _, _, _, _]) dX12_toPop_17 rfl (Nat.le_of_ble_eq_true rfl) rfl rfl ?_
    refine f_aload_n dX12_toPop_18 rfl rfl ?_
    refine f_iload_n dX12_toPop_19 rfl rfl ?_
    refine f_iconst (v := 5) dX12_toPop_20 rfl ?_
    refine f_cV hG (As := [_, _]) dX12_toPop_21 rfl k_X12_by rfl rfl ml_X12_107 im_X12_by se_X12_by rfl rfl (c_X12_by hG (d := 0) (Nat.le_refl _) _ _ _ _ (q2 c_5)) (by omega) (Nat.le_of_ble_eq_true rfl) (Nat.zero_le _) (Nat.zero_le _) ?_
    refine f_istore (ls' := [_, _, _, _, _]) dX12_toPop_24 (Nat.le_of_ble_eq_true rfl) rfl rfl ?_
    obtain ⟨Pv, p0, p1, p2, p3⟩ := q3 c_5
    refine lc_X12_toPopP hG (by omega) _ dv _ _ Pv p1 p2 p3 61 0 _ _ (by omega) (by omega) p0 ?_
    refine f_iload_n dX12_toPop_49 rfl rfl ?_
    refine f_ireturn dX12_toPop_50 rfl rfl ?_
    exact ⟨by rw [r_X12_toPop, if_pos c_5], by rw [m_X12_toPop, if_pos c_5]⟩
  · refine f_iconst (v := 0) dX12_toPop_8 rfl ?_
    refine f_ireturn dX12_toPop_9 rfl rfl ?_
    exact ⟨by rw [r_X12_toPop, if_neg c_5], by rw [m_X12_toPop, if_neg c_5]⟩
set_option maxRecDepth 100000 in
set_option maxHeartbeats 4000000 in
theorem c_X12_daysUntilPopP {G : fG} (hG : fOK G) {d : Nat} (hd : 4 ≤ d) (M : fM) (dv : UInt64) (a : Int32) (hN : P_X12_toPop M a) : fCt G z_X12_daysUntilPop d [.ref 296, .int a] (sS M dv) 0 0 (fD (some (.int (r_X12_daysUntilPop M a))) (sS (m_X12_daysUntilPop M a) dv)) := by
  refine fCt_to [some (.ref 296), some (.int a)] k_X12_daysUntilPop rfl (Nat.le_of_ble_eq_true rfl) rfl ?_
  have q0 := hN
  refine f_aload_n dX12_daysUntilPop_0 rfl rfl ?_
  refine f_iload_n dX12_daysUntilPop_1 rfl rfl ?_
  refine f_cV hG (As := [_]) dX12_daysUntilPop_2 rfl k_X12_toPop rfl rfl ml_X12_132 im_X12_toPop se_X12_toPop rfl rfl (c_X12_toPopP hG (d := 3) (Nat.le_refl _) _ _ _ q0) (by omega) (Nat.le_of_ble_eq_true rfl) (Nat.zero_le _) (Nat.zero_le _) ?_
  refine f_ireturn dX12_daysUntilPop_5 rfl rfl ?_
  exact ⟨by rw [r_X12_daysUntilPop], by rw [m_X12_daysUntilPop]⟩
set_option maxRecDepth 100000 in
set_option maxHeartbeats 4000000 in
theorem c_X12_daysByDivisionP {G : fG} (hG : fOK G) {d : Nat} (hd : 4 ≤ d) (M : fM) (dv : UInt64) (a : Int32) (hN : P_X12_toPop M a) : fCt G z_X12_daysByDivision d [.ref 296, .int a] (sS M dv) 0 0 (fD (some (.int (r_X12_daysByDivision M a))) (sS (m_X12_daysByDivision M a) dv)) := by
  refine fCt_to [some (.ref 296), some (.int a)] k_X12_daysByDivision rfl (Nat.le_of_ble_eq_true rfl) rfl ?_
  have q0 := hN
  refine f_aload_n dX12_daysByDivision_0 rfl rfl ?_
  refine f_iload_n dX12_daysByDivision_1 rfl rfl ?_
  refine f_cV hG (As := [_]) dX12_daysByDivision_2 rfl k_X12_toPop rfl rfl ml_X12_132 im_X12_toPop se_X12_toPop rfl rfl (c_X12_toPopP hG (d := 3) (Nat.le_refl _) _ _ _ q0) (by omega) (Nat.le_of_ble_eq_true rfl) (Nat.zero_le _) (Nat.zero_le _) ?_
  refine f_ireturn dX12_daysByDivision_5 rfl rfl ?_
  exact ⟨by rw [r_X12_daysByDivision], by rw [m_X12_daysByDivision]⟩
