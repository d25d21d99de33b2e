/-! pure rows: gates -/
theorem q_nIof {p : Int32} {n : Nat} (h1 : 0 ≤ p.toInt) (h2 : p.toInt < n) (hn : n < 2 ^ 31) : ∃ j, j < n ∧ p = nI j := vp_in_of (vp_in_iff.mpr ⟨h1, h2⟩) hn
theorem q_in2 (p lo hi : Int32) : fX5_in FU p lo hi = some (if lo.toInt ≤ p.toInt ∧ p.toInt ≤ hi.toInt then 1 else 0) := by
  rw [q_in]
  congr 1
  by_cases h1 : p < lo
  · rw [if_pos h1, if_neg]
    rw [fa_lt] at h1
    omega
  · rw [if_neg h1]
    rw [fa_lt] at h1
    by_cases h2 : hi < p
    · rw [if_pos h2, if_neg]
      rw [fa_lt] at h2
      omega
    · rw [if_neg h2, if_pos]
      rw [fa_lt] at h2
      omega
theorem q_b01 (c : Prop) [Decidable c] : ¬ ¬ ((if c then (1 : Int32) else 0) = 0 ∨ (if c then (1 : Int32) else 0) = 1) := by
  by_cases h : c
  · rw [if_pos h]; decide
  · rw [if_neg h]; decide
theorem q_1n {n : Nat} (hn : n < 2 ^ 30) : (nI n - 1).toInt = (n : Int) - 1 := by
  have := pk_sub_toInt (a := n) (b := 1) hn (by omega)
  exact this
theorem q_shl8 : ∀ c, c < 9 → (1 : Int32) <<< (nI c &&& 31) = nI (2 ^ c) := by decide +kernel
theorem q_2n {n : Nat} (hn : n ≤ 8) : 2 ^ n ≤ 256 ∧ 1 ≤ 2 ^ n := ⟨q_pn hn, Nat.pos_of_ne_zero (by simp)⟩
theorem g_law (p : Int32) : (∃ l, l < 4 ∧ p = nI l ∧ fX4_isLaw FU p = some 1 ∧ fX5_isLaw FU p = some 1) ∨ (fX4_isLaw FU p = some 0 ∧ fX5_isLaw FU p = some 0) := by
  unfold fX4_isLaw fX5_isLaw
  rw [q_in2, Option.bind_some, if_neg (q_b01 _)]
  by_cases h : (0 : Int32).toInt ≤ p.toInt ∧ p.toInt ≤ (3 : Int32).toInt
  · have h0 : (0 : Int32).toInt = 0 := rfl
    have h3 : (3 : Int32).toInt = 3 := rfl
    obtain ⟨l, hl, rfl⟩ := q_nIof (p := p) (n := 4) (by omega) (by omega) (by omega)
    refine Or.inl ⟨l, hl, rfl, ?_, by rw [if_pos h]⟩
    rw [if_neg (nI_pos (by omega)), if_neg (show ¬ (4 : Int32) ≤ nI l from nI_ge (b := 4) hl (by omega))]
  · refine Or.inr ⟨?_, by rw [if_neg h]⟩
    have h0 : (0 : Int32).toInt = 0 := rfl
    have h3 : (3 : Int32).toInt = 3 := rfl
    have h4 : (4 : Int32).toInt = 4 := rfl
    by_cases h1 : p < 0
    · rw [if_pos h1]
    · rw [if_neg h1]
      rw [fa_lt] at h1
      rw [if_pos]
      rw [fa_le]
      omega
theorem g_part (p : Int32) : ((p = 0 ∨ p = 1) ∧ fX4_isPart FU p = some 1 ∧ fX5_isPart FU p = some 1) ∨ (fX4_isPart FU p = some 0 ∧ fX5_isPart FU p = some 0) := by
  have h0 : (0 : Int32).toInt = 0 := rfl
  have h1 : (1 : Int32).toInt = 1 := rfl
  unfold fX4_isPart fX5_isPart fX4_isPart_b9
  rw [q_in2, Option.bind_some, if_neg (q_b01 _)]
  by_cases z : p = 0
  · subst z
    exact Or.inl ⟨Or.inl rfl, by rw [if_pos rfl], by decide⟩
  · by_cases z2 : p = 1
    · subst z2
      exact Or.inl ⟨Or.inr rfl, by rw [if_neg z, if_pos rfl], by decide⟩
    · refine Or.inr ⟨by rw [if_neg z, if_neg z2], by rw [if_neg]; rw [fa_eq] at z z2; omega⟩
theorem g_cand (p : Int32) {n : Nat} (h1 : 1 ≤ n) (h8 : n ≤ 8) {T : Nat → Int32} (t0 : T 0 = nI n) : (∃ c, c < n ∧ p = nI c ∧ fX4_isCandidate FU p (nI n) = some 1 ∧ fX5_isCandidate FU p T = some 1) ∨ (fX4_isCandidate FU p (nI n) = some 0 ∧ fX5_isCandidate FU p T = some 0) := by
  have h0 : (0 : Int32).toInt = 0 := rfl
  have hn : (nI n).toInt = n := nI_toInt (by omega)
  have h1n := q_1n (n := n) (by omega)
  unfold fX4_isCandidate fX5_isCandidate
  rw [q_in2, Option.bind_some, if_neg (q_b01 _), t0]
  by_cases h : (0 : Int32).toInt ≤ p.toInt ∧ p.toInt ≤ (nI n - 1).toInt
  · obtain ⟨l, hl, rfl⟩ := q_nIof (p := p) (n := n) (by omega) (by omega) (by omega)
    refine Or.inl ⟨l, hl, rfl, ?_, by rw [if_pos h]⟩
    rw [if_neg (nI_pos (by omega)), if_neg (nI_ge hl (by omega))]
  · refine Or.inr ⟨?_, by rw [if_neg h]⟩
    by_cases h1 : p < 0
    · rw [if_pos h1]
    · rw [if_neg h1]
      rw [fa_lt] at h1
      rw [if_pos]
      rw [fa_le]
      omega
theorem g_bal (p : Int32) {b : Nat} (h8 : b ≤ 10) {T : Nat → Int32} (t1 : T 1 = nI b) : (∃ c, c < b ∧ p = nI c ∧ fX4_isBallot FU p (nI b) = some 1 ∧ fX5_isBallot FU p T = some 1) ∨ (fX4_isBallot FU p (nI b) = some 0 ∧ fX5_isBallot FU p T = some 0) := by
  have h0 : (0 : Int32).toInt = 0 := rfl
  have hn : (nI b).toInt = b := nI_toInt (by omega)
  have h1n := q_1n (n := b) (by omega)
  unfold fX4_isBallot fX5_isBallot
  rw [q_in2, Option.bind_some, if_neg (q_b01 _), t1]
  by_cases h : (0 : Int32).toInt ≤ p.toInt ∧ p.toInt ≤ (nI b - 1).toInt
  · obtain ⟨l, hl, rfl⟩ := q_nIof (p := p) (n := b) (by omega) (by omega) (by omega)
    refine Or.inl ⟨l, hl, rfl, ?_, by rw [if_pos h]⟩
    rw [if_neg (nI_pos (by omega)), if_neg (nI_ge hl (by omega))]
  · refine Or.inr ⟨?_, by rw [if_neg h]⟩
    by_cases h1 : p < 0
    · rw [if_pos h1]
    · rw [if_neg h1]
      rw [fa_lt] at h1
      rw [if_pos]
      rw [fa_le]
      omega
theorem g_set (p : Int32) {n : Nat} (h1 : 1 ≤ n) (h8 : n ≤ 8) {T : Nat → Int32} (t0 : T 0 = nI n) : (∃ q, 1 ≤ q ∧ q < 2 ^ n ∧ p = nI q ∧ fX4_isSet FU p (nI n) = some 1 ∧ fX5_isSet FU p T = some 1) ∨ (fX4_isSet FU p (nI n) = some 0 ∧ fX5_isSet FU p T = some 0) := by
  have h0 : (1 : Int32).toInt = 1 := rfl
  obtain ⟨h2, h3⟩ := q_2n h8
  have hn : (nI (2 ^ n)).toInt = ((2 ^ n : Nat) : Int) := nI_toInt (by omega)
  have h1n := q_1n (n := 2 ^ n) (by omega)
  unfold fX4_isSet fX5_isSet
  rw [q_in2, Option.bind_some, if_neg (q_b01 _), t0, q_shl8 n (by omega)]
  by_cases h : (1 : Int32).toInt ≤ p.toInt ∧ p.toInt ≤ (nI (2 ^ n) - 1).toInt
  · obtain ⟨l, hl, rfl⟩ := q_nIof (p := p) (n := 2 ^ n) (by omega) (by omega) (by omega)
    have hp : (nI l).toInt = l := nI_toInt (by omega)
    refine Or.inl ⟨l, by omega, hl, rfl, ?_, by rw [if_pos h]⟩
    rw [if_neg (show ¬ nI l < (1 : Int32) by rw [fa_lt]; omega), if_neg (nI_ge hl (by omega))]
  · refine Or.inr ⟨?_, by rw [if_neg h]⟩
    by_cases h1 : p < 1
    · rw [if_pos h1]
    · rw [if_neg h1]
      rw [fa_lt] at h1
      rw [if_pos]
      rw [fa_le]
      omega
theorem g_vot (p : Int32) : (∃ q, 1 ≤ q ∧ q ≤ 20 ∧ p = nI q ∧ fX4_isVoters FU p = some 1 ∧ fX5_in FU p 1 20 = some 1) ∨ (fX4_isVoters FU p = some 0 ∧ fX5_in FU p 1 20 = some 0) := by
  have h0 : (1 : Int32).toInt = 1 := rfl
  have h2 : (20 : Int32).toInt = 20 := rfl
  unfold fX4_isVoters
  rw [q_in2]
  by_cases h : (1 : Int32).toInt ≤ p.toInt ∧ p.toInt ≤ (20 : Int32).toInt
  · obtain ⟨l, hl, rfl⟩ := q_nIof (p := p) (n := 21) (by omega) (by omega) (by omega)
    have hp : (nI l).toInt = l := nI_toInt (by omega)
    refine Or.inl ⟨l, by omega, by omega, rfl, ?_, by rw [if_pos h]⟩
    rw [if_neg (show ¬ nI l < (1 : Int32) by rw [fa_lt]; omega), if_neg (show ¬ (20 : Int32) < nI l by rw [fa_lt]; omega)]
  · refine Or.inr ⟨?_, by rw [if_neg h]⟩
    by_cases h1 : p < 1
    · rw [if_pos h1]
    · rw [if_neg h1]
      rw [fa_lt] at h1
      rw [if_pos]
      rw [fa_lt]
      omega
theorem g_int (p lo hi : Int32) : (lo.toInt ≤ p.toInt ∧ p.toInt ≤ hi.toInt ∧ fX5_in FU p lo hi = some 1) ∨ (¬ (lo.toInt ≤ p.toInt ∧ p.toInt ≤ hi.toInt) ∧ fX5_in FU p lo hi = some 0) := by
  rw [q_in2]
  by_cases h : lo.toInt ≤ p.toInt ∧ p.toInt ≤ hi.toInt
  · exact Or.inl ⟨h.1, h.2, by rw [if_pos h]⟩
  · exact Or.inr ⟨h, by rw [if_neg h]⟩
