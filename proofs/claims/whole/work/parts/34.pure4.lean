/-! pure rows: an election, step by step, by both -/
theorem q_bc7 : ∀ x, x < 256 → ∀ c, c < 8 → x.testBit c = false → bcN x ≤ 7 := by decide +kernel
theorem q_shl1 : ∀ c, c < 8 → (1 : Int32) <<< (nI c &&& 31) = nI (2 ^ c) := by decide +kernel
theorem q_bc1 : ∀ m, m < 256 → ∀ c, c < 8 → m.testBit c = false → bcN (m ||| 2 ^ c) = bcN m + 1 := by decide +kernel
theorem q_p2lt : ∀ c, c < 8 → 2 ^ c < 256 := by decide +kernel
theorem q_h7 {b : Nat} {V S : Nat → Int32} {v s : Nat → Nat} (h : EB b V S v s) (m : Nat) : ∀ j, j < b → ∀ c, c < 8 → m.testBit c = false → (s j).testBit c = true → bcN (s j &&& m) ≤ 7 := by
  intro j hj c hc hm _
  refine q_bc7 _ (q_and256 (h.2.1 j hj).2.2.2) c hc ?_
  rw [Nat.testBit_and, hm, Bool.and_false]
/-- rows filled up to a place -/
def fl (b : Nat) (f L : Nat → Int64) : Nat → Int64 := fun j => if j < b then f j else L j
theorem fl_0 (f L : Nat → Int64) : fl 0 f L = L := by funext j; simp [fl]
theorem fl_s (i : Nat) (f L : Nat → Int64) : vp_updL (fl i f L) i (f i) = fl (i + 1) f L := by
  funext j
  unfold vp_updL fl
  by_cases h : j = i
  · subst h; simp
  · rw [if_neg h]
    by_cases h2 : j < i
    · rw [if_pos h2, if_pos (by omega)]
    · rw [if_neg h2, if_neg (by omega)]
theorem fl_at (i : Nat) (f L : Nat → Int64) : fl i f L i = L i := by simp [fl]
/-- what a voter's load becomes -/
def nw (s : Nat → Nat) (L : Nat → Int64) (x y : Int64) (c j : Nat) : Int64 := if (s j).testBit c then x else L j * y
theorem q_spr {b : Nat} {V S : Nat → Int32} {v s : Nat → Nat} (h : EB b V S v s) {c : Nat} (hc : c < 8) {P : Nat → Int32} {Wo L : Nat → Int64} {u x : Int64} (hP : P c = nI (supN v s b c)) (hW : Wo c = x) : ∀ (k n i : Nat), i + k = b → k < n →
    fX1_spreadLoad_b2 FU n (nI c) (nI i) P Wo (fl i (nw s L x (lN (supN v s b c)) c) L) u (nI b) S = some (fl b (nw s L x (lN (supN v s b c)) c) L, u * lN (supN v s b c)) := by
  have hb := h.1
  have sl := supN_le h c
  have kc : ¬ (nI c < 0 ∨ 8 ≤ (nI c).toNatClampNeg) := nI_in hc (by omega)
  have ec : (nI c).toNatClampNeg = c := nI_clamp (by omega)
  intro k
  induction k with
  | zero =>
    intro n i hi hn
    obtain ⟨n, rfl, -⟩ := q_suc hn
    rw [fX1_spreadLoad_b2, if_pos (nI_le (by omega) (by omega)), fX1_spreadLoad_b58, if_neg kc, ec, hP, nI_l (by omega), show i = b by omega]
  | succ k ih =>
    intro n i hi hn
    obtain ⟨n, rfl, hn⟩ := q_suc hn
    have hh := ih n (i + 1) (by omega) (by omega)
    rw [← fl_s] at hh
    have ki : ¬ (nI i < 0 ∨ 11 ≤ (nI i).toNatClampNeg) := nI_in (by omega) (by omega)
    have ei : (nI i).toNatClampNeg = i := nI_clamp (by omega)
    rw [fX1_spreadLoad_b2, if_neg (nI_ge (by omega) (by omega)), if_neg ki, ei, q_hasBit, Option.bind_some]
    by_cases q : (s i).testBit c = true
    · have e : nw s L x (lN (supN v s b c)) c i = x := by unfold nw; rw [if_pos q]
      rw [e] at hh
      rw [if_pos ((q_bt h hc (by omega)).mpr q), if_neg q_10, if_neg kc, ec, hW, fX1_spreadLoad_b51, if_neg ki, ei, nI_1]
      exact hh
    · have e : nw s L x (lN (supN v s b c)) c i = L i * lN (supN v s b c) := by unfold nw; rw [if_neg q]
      rw [e] at hh
      rw [if_neg (fun z => q ((q_bt h hc (by omega)).mp z)), if_pos rfl, if_neg kc, ec, hP, nI_l (by omega), fl_at, fX1_spreadLoad_b51, if_neg ki, ei, nI_1]
      exact hh
theorem q_cmb {b : Nat} {V S : Nat → Int32} {v s : Nat → Nat} (h : EB b V S v s) {c : Nat} (hc : c < 8) {L A B : Nat → Int64} {u x : Int64} : ∀ (k n i : Nat), i + k = b → k < n →
    fX5_comesBy_b101 FU n (nI c) (nI (supN v s b c)) x (nI i) S (nI b) (fl i (nw s L x (lN (supN v s b c)) c) L) u A B = some (fl b (nw s L x (lN (supN v s b c)) c) L, u * lN (supN v s b c), A, B) := by
  have hb := h.1
  have sl := supN_le h c
  intro k
  induction k with
  | zero =>
    intro n i hi hn
    obtain ⟨n, rfl, -⟩ := q_suc hn
    rw [fX5_comesBy_b101, if_pos (nI_le (by omega) (by omega)), fX5_comesBy_b152, nI_l (by omega), show i = b by omega]
  | succ k ih =>
    intro n i hi hn
    obtain ⟨n, rfl, hn⟩ := q_suc hn
    have hh := ih n (i + 1) (by omega) (by omega)
    rw [← fl_s] at hh
    have ki : ¬ (nI i < 0 ∨ 11 ≤ (nI i).toNatClampNeg) := nI_in (by omega) (by omega)
    have ei : (nI i).toNatClampNeg = i := nI_clamp (by omega)
    rw [fX5_comesBy_b101, if_neg (nI_ge (by omega) (by omega)), if_neg ki, ei, q_has, Option.bind_some]
    by_cases q : (s i).testBit c = true
    · have e : nw s L x (lN (supN v s b c)) c i = x := by unfold nw; rw [if_pos q]
      rw [e] at hh
      rw [if_pos ((q_bt h hc (by omega)).mpr q), if_neg q_10, fX5_comesBy_b145, if_neg ki, ei, nI_1]
      exact hh
    · have e : nw s L x (lN (supN v s b c)) c i = L i * lN (supN v s b c) := by unfold nw; rw [if_neg q]
      rw [e] at hh
      rw [if_neg (fun z => q ((q_bt h hc (by omega)).mp z)), if_pos rfl, nI_l (by omega), fl_at, fX5_comesBy_b145, if_neg ki, ei, nI_1]
      exact hh
/-- where a ballot has no voter it counts nothing -/
theorem supN_ext {v s : Nat → Nat} {c : Nat} {b : Nat} : ∀ d, (∀ j, b ≤ j → j < b + d → v j = 0) → supN v s (b + d) c = supN v s b c
  | 0, _ => rfl
  | d + 1, h => by
    have e : supN v s (b + (d + 1)) c = supN v s (b + d) c + (if (s (b + d)).testBit c then v (b + d) else 0) := rfl
    rw [e, supN_ext d (fun j h1 h2 => h j h1 (by omega)), h (b + d) (by omega) (by omega)]
    simp
theorem wtN_ext {W : Nat} {v s : Nat → Nat} {m c : Nat} {b : Nat} : ∀ d, (∀ j, b ≤ j → j < b + d → v j = 0) → wtN W v s (b + d) m c = wtN W v s b m c
  | 0, _ => rfl
  | d + 1, h => by
    have e : wtN W v s (b + (d + 1)) m c = wtN W v s (b + d) m c + (if (s (b + d)).testBit c then v (b + d) * (W / (1 + bcN (s (b + d) &&& m))) else 0) := rfl
    rw [e, wtN_ext d (fun j h1 h2 => h j h1 (by omega)), h (b + d) (by omega) (by omega)]
    simp
theorem ldL_ext {v s : Nat → Nat} {L : Nat → Int64} {u : Int64} {c : Nat} {b : Nat} : ∀ d, (∀ j, b ≤ j → j < b + d → v j = 0) → ldL v s L u (b + d) c = ldL v s L u b c
  | 0, _ => rfl
  | d + 1, h => by
    have e : ldL v s L u (b + (d + 1)) c = ldL v s L u (b + d) c + (if (s (b + d)).testBit c then lN (v (b + d)) * L (b + d) else 0) := rfl
    rw [e, ldL_ext d (fun j h1 h2 => h j h1 (by omega)), h (b + d) (by omega) (by omega)]
    have z : lN 0 * L (b + d) = 0 := by show (0 : Int64) * _ = 0; exact Int64.zero_mul
    rw [z]
    split <;> exact Int64.add_zero _
theorem ldL_cong {v s : Nat → Nat} {L L2 : Nat → Int64} {u : Int64} {c b : Nat} (h : ∀ j, j < b → L j = L2 j) : ldL v s L u b c = ldL v s L2 u b c := smL_cong (fun j hj => by rw [h j hj])
theorem scT_cong {law : Nat} {v s : Nat → Nat} {L L2 : Nat → Int64} {u : Int64} {b b2 w m : Nat} {r : Nat → Nat} (h1 : ∀ c, supN v s b c = supN v s b2 c) (h2 : ∀ c, wtN 840 v s b m c = wtN 840 v s b2 m c) (h3 : ∀ c, ldL v s L u b c = ldL v s L2 u b2 c) : ∀ i, scT law v s L u b w m r i = scT law v s L2 u b2 w m r i
  | 0 => rfl
  | i + 1 => by
    rw [scT, scT, scT_cong h1 h2 h3 i]
    unfold ahd
    simp only [h1, h2, h3]
theorem scF_cong {v s : Nat → Nat} {b b2 w m : Nat} {r : Nat → Nat} (h1 : ∀ c, supN v s b c = supN v s b2 c) : ∀ i, scF v s b w m r i = scF v s b2 w m r i
  | 0 => rfl
  | i + 1 => by
    rw [scF, scF, scF_cong h1 i]
    simp only [h1]
/-- what a member came by: the class's fraction and the reference's -/
def CB (a b a5 b5 : Int64) : Prop := (b = 0 ∧ b5 = 0) ∨ ∃ A B k : Nat, 0 < B ∧ B < 2 ^ 58 ∧ A < 2 ^ 60 ∧ (k = 1 ∨ k = 3) ∧ a = lN A ∧ b = lN B ∧ a5 = lN (k * A) ∧ b5 = lN (k * B)
/-- loads, as numbers, and how large they may be -/
def LB (e b : Nat) (L : Nat → Int64) (u : Int64) : Prop := ∃ (U : Nat) (l : Nat → Nat), u = lN U ∧ 0 < U ∧ U ≤ 60 ^ e ∧ ∀ j, j < b → L j = lN (l j) ∧ l j ≤ e * U
theorem ld_bd {v s l : Nat → Nat} {c E : Nat} : ∀ b, (∀ j, j < b → l j ≤ E) → fb_sm (fun j => if (s j).testBit c then v j * l j else 0) b ≤ E * supN v s b c
  | 0, _ => Nat.zero_le _
  | b + 1, h => by
    have e : supN v s (b + 1) c = supN v s b c + (if (s b).testBit c then v b else 0) := rfl
    have ih := ld_bd (v := v) (s := s) (c := c) b (fun j hj => h j (by omega))
    have h1 : v b * l b ≤ v b * E := Nat.mul_le_mul_left _ (h b (by omega))
    rw [fb_sm_succ, e, Nat.mul_add]
    have h2 := Nat.mul_comm (v b) E
    split <;> omega
theorem ld_nat {v s l : Nat → Nat} {L : Nat → Int64} {u : Int64} {U b c : Nat} (hu : u = lN U) (h : ∀ j, j < b → L j = lN (l j)) : ldL v s L u b c = lN (U + fb_sm (fun j => if (s j).testBit c then v j * l j else 0) b) := by
  refine smL_lN hu (fun j hj => ?_)
  rw [h j hj]
  split
  · exact lN_mul _ _
  · rfl
theorem q_60 {e : Nat} (h : e ≤ 8) : 60 ^ e ≤ 167961600000000 := Nat.le_trans (Nat.pow_le_pow_right (by decide) h) (by decide)
theorem LB_step {e b : Nat} {L : Nat → Int64} {u : Int64} {V S : Nat → Int32} {v s : Nat → Nat} (h : EB b V S v s) (hL : LB e b L u) (he : e < 8) {c : Nat} (hs : 0 < supN v s b c) :
    LB (e + 1) b (fl b (nw s L (ldL v s L u b c) (lN (supN v s b c)) c) L) (u * lN (supN v s b c)) ∧ ∃ A B, 0 < B ∧ B < 2 ^ 58 ∧ A < 2 ^ 60 ∧ ldL v s L u b c = lN A ∧ u * lN (supN v s b c) = lN B := by
  obtain ⟨U, l, hu, hU, hU2, hl⟩ := hL
  have sl := supN_le h c
  have p60 := q_60 (show e ≤ 8 by omega)
  have hp : U * supN v s b c ≤ 60 ^ e * 60 := Nat.mul_le_mul hU2 sl
  have p61 : 60 ^ (e + 1) ≤ 167961600000000 := q_60 (by omega)
  have pe : 60 ^ (e + 1) = 60 ^ e * 60 := rfl
  have hb := ld_bd (v := v) (s := s) (c := c) (E := e * U) b (fun j hj => (hl j hj).2)
  have ld := ld_nat (v := v) (s := s) (c := c) hu (fun j hj => (hl j hj).1)
  generalize hX : fb_sm (fun j => if (s j).testBit c then v j * l j else 0) b = X at hb ld
  have hm1 : U ≤ U * supN v s b c := Nat.le_mul_of_pos_right _ hs
  have hm2 : e * U * supN v s b c = e * (U * supN v s b c) := Nat.mul_assoc _ _ _
  have hm3 : e * (U * supN v s b c) ≤ 7 * (U * supN v s b c) := Nat.mul_le_mul_right _ (by omega)
  have hm4 : (e + 1) * (U * supN v s b c) = e * (U * supN v s b c) + U * supN v s b c := Nat.succ_mul _ _
  refine ⟨⟨U * supN v s b c, fun j => if (s j).testBit c then U + X else l j * supN v s b c, by rw [hu, lN_mul], Nat.mul_pos hU hs, by omega, fun j hj => ?_⟩, U + X, U * supN v s b c, Nat.mul_pos hU hs, by omega, by omega, ld, by rw [hu, lN_mul]⟩
  obtain ⟨l1, l2⟩ := hl j hj
  unfold fl nw
  rw [if_pos hj]
  dsimp only
  by_cases q : (s j).testBit c = true
  · rw [if_pos q, if_pos q]
    exact ⟨ld, by omega⟩
  · rw [if_neg q, if_neg q, l1, lN_mul]
    have h5 : l j * supN v s b c ≤ e * U * supN v s b c := Nat.mul_le_mul_right _ l2
    exact ⟨rfl, by omega⟩
theorem LB_more {e b : Nat} {L : Nat → Int64} {u : Int64} (h : LB e b L u) : LB (e + 1) b L u := by
  obtain ⟨U, l, h1, h2, h3, h4⟩ := h
  have pe : 60 ^ (e + 1) = 60 ^ e * 60 := rfl
  have hm : (e + 1) * U = e * U + U := Nat.succ_mul _ _
  exact ⟨U, l, h1, h2, by omega, fun j hj => ⟨(h4 j hj).1, by have := (h4 j hj).2; omega⟩⟩
