/-! pure rows: fractions in lowest terms -/
theorem q_cmp_eq (x y : Int64) : lg_cmp x y = 0 ↔ x = y := by
  unfold lg_cmp
  by_cases h : x > y
  · have : ¬ x = y := fun e => by
      rw [e] at h
      exact lg_lt_not h h
    simp [h, this]
  · by_cases h2 : x = y
    · subst h2; simp
    · simp [h, h2]
theorem q_lz {n : Nat} (h : n < 2 ^ 63) : lN n = 0 ↔ n = 0 := pk_lEQ (b := 0) h (by decide)
theorem q_half {x y : Nat} (h0 : 0 < y) (h : y ≤ x) : 2 * (x % y) < x + 1 ∧ x % y < y := by
  have h1 := Nat.mod_lt x h0
  have h2 := Nat.div_add_mod x y
  have h3 : 1 ≤ x / y := (Nat.one_le_div_iff h0).mpr h
  have h4 : y * 1 ≤ y * (x / y) := Nat.mul_le_mul_left _ h3
  omega
theorem gd_loop : ∀ (k x y i f : Nat), x < 2 ^ k → y ≤ x → k ≤ 62 → i + 2 * k ≤ 128 → 2 * k < f → fX4_greatestDivisor_b9 FU f (lN x) (lN y) (nI i) = some (lN (Nat.gcd x y)) := by
  have zero : ∀ (x i f : Nat), i ≤ 128 → 0 < f → fX4_greatestDivisor_b9 FU f (lN x) (lN 0) (nI i) = some (lN (Nat.gcd x 0)) := by
    intro x i f hi hf
    obtain ⟨f, rfl, -⟩ := q_suc hf
    rw [fX4_greatestDivisor_b9, Nat.gcd_zero_right]
    split
    · rfl
    · rw [if_pos (show lg_cmp (lN 0) 0 = 0 from (q_cmp_eq _ _).mpr rfl)]
  intro k
  induction k with
  | zero =>
    intro x y i f hx hy hk hi hf
    have e : y = 0 := by omega
    subst e
    exact zero x i f (by omega) (by omega)
  | succ k ih =>
    intro x y i f hx hy hk hi hf
    by_cases h0 : y = 0
    · subst h0
      exact zero x i f (by omega) (by omega)
    · have p63 : 2 ^ (k + 1) ≤ 2 ^ 63 := Nat.pow_le_pow_right (by decide) (by omega)
      have pk : 2 ^ (k + 1) = 2 ^ k * 2 := rfl
      have ny : ¬ lN y = 0 := fun e => h0 ((q_lz (by omega)).mp e)
      obtain ⟨hh, hm⟩ := q_half (show 0 < y by omega) hy
      obtain ⟨f, rfl, -⟩ := q_suc hf
      rw [fX4_greatestDivisor_b9, if_neg (show ¬ (128 : Int32) ≤ nI i from nI_ge (b := 128) (by omega) (by omega)), if_neg (fun e => ny ((q_cmp_eq _ _).mp e)), if_neg ny, pk_lRem (by omega) (by omega) (by omega), nI_1, Nat.gcd_comm x y, Nat.gcd_rec y x, Nat.gcd_comm]
      by_cases h1 : x % y = 0
      · rw [h1]
        exact zero y (i + 1) f (by omega) (by omega)
      · have nz : ¬ lN (x % y) = 0 := fun e => h1 ((q_lz (by omega)).mp e)
        obtain ⟨f, rfl, -⟩ := q_suc (show 0 < f by omega)
        rw [fX4_greatestDivisor_b9, if_neg (show ¬ (128 : Int32) ≤ nI (i + 1) from nI_ge (b := 128) (by omega) (by omega)), if_neg (fun e => nz ((q_cmp_eq _ _).mp e)), if_neg nz, pk_lRem (by omega) (by omega) (by omega), nI_1, Nat.gcd_comm y, Nat.gcd_rec (x % y) y, Nat.gcd_comm]
        exact ih (x % y) (y % (x % y)) (i + 1 + 1) f (by omega) (Nat.le_of_lt (Nat.mod_lt _ (by omega))) (by omega) (by omega) (by omega)
theorem gd_all {x y : Nat} (hx : x < 2 ^ 62) (hy : y < 2 ^ 62) : fX4_greatestDivisor FU (lN x) (lN y) = some (lN (Nat.gcd x y)) := by
  have hF := FU_e
  unfold fX4_greatestDivisor
  by_cases h : y ≤ x
  · exact gd_loop 62 x y 0 FU hx h (by omega) (by omega) (by omega)
  · have ny : ¬ lN y = 0 := fun e => by have := (q_lz (by omega)).mp e; omega
    rw [hF, fX4_greatestDivisor_b9, if_neg (by decide), if_neg (fun e => ny ((q_cmp_eq _ _).mp e)), if_neg ny, pk_lRem (by omega) (by omega) (by omega), Nat.mod_eq_of_lt (by omega), show (0 : Int32) + 1 = nI 1 from rfl, Nat.gcd_comm]
    exact gd_loop 62 y x 1 511 hy (by omega) (by omega) (by omega) (by omega)
theorem pt_loop (up down : Int64) (p : Int32) : ∀ (k x y f : Nat), x < 2 ^ k → y ≤ x → k ≤ 62 → 2 * k < f → fX5_partOf_b6 FU f up down p (lN x) (lN y) = fX5_partOf_b31 FU up down p (lN (Nat.gcd x y)) := by
  have zero : ∀ (x f : Nat), 0 < f → fX5_partOf_b6 FU f up down p (lN x) (lN 0) = fX5_partOf_b31 FU up down p (lN (Nat.gcd x 0)) := by
    intro x f hf
    obtain ⟨f, rfl, -⟩ := q_suc hf
    rw [fX5_partOf_b6, Nat.gcd_zero_right, if_pos (show lg_cmp (lN 0) 0 = 0 from (q_cmp_eq _ _).mpr rfl)]
  intro k
  induction k with
  | zero =>
    intro x y f hx hy hk hf
    have e : y = 0 := by omega
    subst e
    exact zero x f (by omega)
  | succ k ih =>
    intro x y f hx hy hk hf
    by_cases h0 : y = 0
    · subst h0
      exact zero x f (by omega)
    · have p63 : 2 ^ (k + 1) ≤ 2 ^ 63 := Nat.pow_le_pow_right (by decide) (by omega)
      have pk : 2 ^ (k + 1) = 2 ^ k * 2 := rfl
      have ny : ¬ lN y = 0 := fun e => h0 ((q_lz (by omega)).mp e)
      obtain ⟨hh, hm⟩ := q_half (show 0 < y by omega) hy
      obtain ⟨f, rfl, -⟩ := q_suc hf
      rw [fX5_partOf_b6, if_neg (fun e => ny ((q_cmp_eq _ _).mp e)), if_neg ny, pk_lRem (by omega) (by omega) (by omega), Nat.gcd_comm x y, Nat.gcd_rec y x, Nat.gcd_comm]
      by_cases h1 : x % y = 0
      · rw [h1]
        exact zero y f (by omega)
      · have nz : ¬ lN (x % y) = 0 := fun e => h1 ((q_lz (by omega)).mp e)
        obtain ⟨f, rfl, -⟩ := q_suc (show 0 < f by omega)
        rw [fX5_partOf_b6, if_neg (fun e => nz ((q_cmp_eq _ _).mp e)), if_neg nz, pk_lRem (by omega) (by omega) (by omega), Nat.gcd_comm y, Nat.gcd_rec (x % y) y, Nat.gcd_comm]
        exact ih (x % y) (y % (x % y)) f (by omega) (Nat.le_of_lt (Nat.mod_lt _ (by omega))) (by omega) (by omega)
theorem pt_all (p : Int32) {x y : Nat} (hx : x < 2 ^ 62) (hy : y < 2 ^ 62) : fX5_partOf FU (lN x) (lN y) p = fX5_partOf_b31 FU (lN x) (lN y) p (lN (Nat.gcd x y)) := by
  have hF := FU_e
  unfold fX5_partOf
  by_cases h : y ≤ x
  · exact pt_loop _ _ p 62 x y FU hx h (by omega) (by omega)
  · have ny : ¬ lN y = 0 := fun e => by have := (q_lz (by omega)).mp e; omega
    have hl := pt_loop (lN x) (lN y) p 62 y x 511 hy (by omega) (by omega) (by omega)
    rw [show fX5_partOf_b6 FU FU (lN x) (lN y) p (lN x) (lN y) = fX5_partOf_b6 FU 512 (lN x) (lN y) p (lN x) (lN y) from rfl, fX5_partOf_b6, if_neg (fun e => ny ((q_cmp_eq _ _).mp e)), if_neg ny, pk_lRem (by omega) (by omega) (by omega), Nat.mod_eq_of_lt (by omega), Nat.gcd_comm]
    exact hl
/-- both name the same fraction -/
theorem q_part {A B k : Nat} (hB : 0 < B) (hB2 : B < 2 ^ 60) (hA : A < 2 ^ 60) (hk : k = 1 ∨ k = 3) (p : Int32) : ∃ r, fX4_partOf FU (lN A) (lN B) p = some r ∧ fX5_partOf FU (lN (k * A)) (lN (k * B)) p = some r := by
  have g1 : 0 < Nat.gcd A B := Nat.gcd_pos_of_pos_right _ hB
  have g2 : Nat.gcd A B ≤ B := Nat.gcd_le_right _ hB
  have hk0 : 0 < k := by omega
  have ng : ¬ lN (Nat.gcd A B) = 0 := fun e => by have := (q_lz (by omega)).mp e; omega
  have ngk : ¬ lN (k * Nat.gcd A B) = 0 := fun e => by
    have := (q_lz (by rcases hk with rfl | rfl <;> omega)).mp e
    rcases hk with rfl | rfl <;> omega
  have n1 : ¬ lN (Nat.gcd A B) < 1 := fun e => by have := (pk_lLT (b := 1) (by omega) (by decide)).mp e; omega
  rw [pt_all p (by rcases hk with rfl | rfl <;> omega) (by rcases hk with rfl | rfl <;> omega), Nat.gcd_mul_left]
  unfold fX4_partOf fX4_partOf_b21 fX5_partOf_b31
  rw [gd_all (by omega) (by omega), Option.bind_some, if_neg n1, if_neg ng, if_neg ngk, pk_lDiv (by omega) g1 (by omega), pk_lDiv (by omega) g1 (by omega)]
  have d1 : lN (k * A) / lN (k * Nat.gcd A B) = lN (A / Nat.gcd A B) := by
    rw [pk_lDiv (by rcases hk with rfl | rfl <;> omega) (Nat.mul_pos hk0 g1) (by rcases hk with rfl | rfl <;> omega), Nat.mul_div_mul_left _ _ hk0]
  have d2 : lN (k * B) / lN (k * Nat.gcd A B) = lN (B / Nat.gcd A B) := by
    rw [pk_lDiv (by rcases hk with rfl | rfl <;> omega) (Nat.mul_pos hk0 g1) (by rcases hk with rfl | rfl <;> omega), Nat.mul_div_mul_left _ _ hk0]
  rw [d1, d2]
  by_cases h : p = 0
  · rw [if_pos h, if_pos h]; exact ⟨_, rfl, rfl⟩
  · rw [if_neg h, if_neg h, if_neg ngk, if_neg ng]; exact ⟨_, rfl, rfl⟩
