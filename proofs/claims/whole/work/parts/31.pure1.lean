/-! pure rows: the sums of an election as numbers -/
theorem q_cmp_le (x y : Int64) : lg_cmp x y ≤ 0 ↔ ¬ y < x := by
  unfold lg_cmp
  by_cases h : y < x
  · simp [h]
  · by_cases h2 : x = y
    · simp [h, h2]
    · simp [h, h2]
theorem q_cmp_ge (x y : Int64) : 0 ≤ lg_cmp x y ↔ ¬ x < y := by
  unfold lg_cmp
  by_cases h : y < x
  · have : ¬ x < y := lg_lt_not h
    simp [h, this]
  · by_cases h2 : x = y
    · subst h2
      simp [h]
    · have h3 : x < y := by
        rw [Int64.lt_iff_toInt_lt] at h ⊢
        have : x.toInt ≠ y.toInt := fun e => h2 (Int64.toInt_inj.mp e)
        omega
      simp [h, h2, h3]
theorem smI_nI {g : Nat → Int32} {f : Nat → Nat} : ∀ {n : Nat}, (∀ j, j < n → g j = nI (f j)) → smI g n = nI (fb_sm f n)
  | 0, _ => rfl
  | n + 1, e => by rw [smI_s, smI_nI (fun j hj => e j (by omega)), e n (by omega), nI_add]; rfl
theorem smL_lN {u : Int64} {w : Nat} {g : Nat → Int64} {f : Nat → Nat} (hu : u = lN w) : ∀ {n : Nat}, (∀ j, j < n → g j = lN (f j)) → smL u g n = lN (w + fb_sm f n)
  | 0, _ => by rw [hu]; rfl
  | n + 1, e => by rw [smL_s, smL_lN hu (fun j hj => e j (by omega)), e n (by omega), lN_add, Nat.add_assoc]; rfl
/-- ballots as numbers -/
def EB (b : Nat) (V S : Nat → Int32) (v s : Nat → Nat) : Prop := b ≤ 11 ∧ (∀ j, j < b → V j = nI (v j) ∧ v j ≤ 20 ∧ S j = nI (s j) ∧ s j < 256) ∧ fb_sm v b ≤ 60
def supN (v s : Nat → Nat) (b c : Nat) : Nat := fb_sm (fun j => if (s j).testBit c then v j else 0) b
def wtN (W : Nat) (v s : Nat → Nat) (b m c : Nat) : Nat := fb_sm (fun j => if (s j).testBit c then v j * (W / (1 + bcN (s j &&& m))) else 0) b
theorem supN_le {b : Nat} {V S : Nat → Int32} {v s : Nat → Nat} (h : EB b V S v s) (c : Nat) : supN v s b c ≤ 60 := by
  refine Nat.le_trans (fb_sm_le (fun j _ => ?_)) h.2.2
  split <;> omega
theorem q_bt {b : Nat} {V S : Nat → Int32} {v s : Nat → Nat} (h : EB b V S v s) {c j : Nat} (hc : c < 8) (hj : j < b) : bt S (nI c) j ↔ (s j).testBit c = true := by
  obtain ⟨-, -, e, hs⟩ := h.2.1 j hj
  unfold bt
  rw [e]
  exact q_bits _ hs c hc
theorem q_supN {b : Nat} {V S : Nat → Int32} {v s : Nat → Nat} (h : EB b V S v s) {c : Nat} (hc : c < 8) : smI (fun j => if bt S (nI c) j then V j else 0) b = nI (supN v s b c) := by
  refine smI_nI (fun j hj => ?_)
  have e := (h.2.1 j hj).1
  by_cases q : (s j).testBit c = true
  · rw [if_pos ((q_bt h hc hj).mpr q), if_pos q, e]
  · rw [if_neg (fun z => q ((q_bt h hc hj).mp z)), if_neg q]; rfl
theorem q_sup {b : Nat} {V S : Nat → Int32} {v s : Nat → Nat} (h : EB b V S v s) {c : Nat} (hc : c < 8) : fX5_supportOf FU (nI c) V S (nI b) = some (nI (supN v s b c)) := by
  rw [q_sup5 _ h.1, q_supN h hc]
theorem q_sup0 {b : Nat} {V S : Nat → Int32} {v s : Nat → Nat} (h : EB b V S v s) {c : Nat} (hc : c < 8) : fX0_supportOf FU (nI c) (nI b) V S = some (nI (supN v s b c)) := by
  unfold fX0_supportOf
  rw [q_vwa _ h.1, Option.bind_some]
  congr 1
  refine smI_nI (fun j hj => ?_)
  obtain ⟨e, -, e2, hs⟩ := h.2.1 j hj
  by_cases q : (s j).testBit c = true
  · rw [if_pos (by rw [e2]; exact (q_agr _ hs c hc).mpr q), if_pos q, e]
  · rw [if_neg (by rw [e2]; exact fun z => q ((q_agr _ hs c hc).mp z)), if_neg q]; rfl
theorem q_and256 {a m : Nat} (h : a < 256) : a &&& m < 256 := Nat.lt_of_le_of_lt Nat.and_le_left h
theorem q_div (W k : Nat) (hW : W < 2 ^ 31) (hk : k < 2 ^ 30) : nI W / ((1 : Int32) + nI k) = nI (W / (1 + k)) := by
  rw [show (1 : Int32) + nI k = nI (1 + k) from nI_add 1 k]
  exact pk_div hW (by omega) (by omega)
theorem q_ne1 (k : Nat) (hk : k < 2 ^ 30) : ¬ ((1 : Int32) + nI k) = 0 := by
  rw [show (1 : Int32) + nI k = nI (1 + k) from nI_add 1 k]
  exact nI_ne0 (by omega) (by omega)
theorem q_wt5_loop {b : Nat} {V S : Nat → Int32} {v s : Nat → Nat} (h : EB b V S v s) {c : Nat} (hc : c < 8) (m : Nat) : ∀ (k n i : Nat), i + k = b → k < n → fX5_weightOf_b4 FU n (nI c) (nI (wtN 2520 v s i m c)) (nI i) V S (nI b) (nI m) = some (nI (wtN 2520 v s b m c)) := by
  have hb := h.1
  intro k
  induction k with
  | zero =>
    intro n i hi hn
    obtain ⟨n, rfl, -⟩ := q_suc hn
    rw [fX5_weightOf_b4, if_pos (nI_le (by omega) (by omega)), show i = b by omega]
  | succ k ih =>
    intro n i hi hn
    obtain ⟨n, rfl, hn⟩ := q_suc hn
    have hh := ih n (i + 1) (by omega) (by omega)
    obtain ⟨e, hv, e2, hs⟩ := h.2.1 i (by omega)
    have h8 := q_bc8 _ (q_and256 (m := m) hs)
    rw [fX5_weightOf_b4, if_neg (nI_ge (by omega) (by omega)), if_neg (nI_in (by omega) (by omega)), nI_clamp (by omega), e, e2, fa_and, q_ones _ (q_and256 hs), Option.bind_some, q_has, Option.bind_some]
    have hw : wtN 2520 v s (i + 1) m c = wtN 2520 v s i m c + (if (s i).testBit c then v i * (2520 / (1 + bcN (s i &&& m))) else 0) := rfl
    by_cases q : (s i).testBit c = true
    · rw [if_pos ((q_bits _ hs c hc).mpr q), if_neg q_10, if_neg (q_ne1 _ (by omega)), fX5_weightOf_b61, nI_1, show (2520 : Int32) = nI 2520 from rfl, q_div _ _ (by omega) (by omega), pk_mul, nI_add]
      rw [hw, if_pos q] at hh
      exact hh
    · rw [if_neg (fun z => q ((q_bits _ hs c hc).mp z)), if_pos rfl, fX5_weightOf_b61, nI_1]
      rw [hw, if_neg q] at hh
      rw [Int32.add_zero]
      exact hh
theorem q_wt5 {b : Nat} {V S : Nat → Int32} {v s : Nat → Nat} (h : EB b V S v s) {c : Nat} (hc : c < 8) (m : Nat) : fX5_weightOf FU (nI c) V S (nI b) (nI m) = some (nI (wtN 2520 v s b m c)) := by
  unfold fX5_weightOf
  exact q_wt5_loop h hc m b FU 0 (by omega) (by have := FU_e; have := h.1; omega)
theorem wtN_3 (v s : Nat → Nat) (m c : Nat) (hs : ∀ j, s j < 256 → True) : ∀ b, (∀ j, j < b → bcN (s j &&& m) ≤ 7 ∨ ¬ (s j).testBit c = true) → wtN 2520 v s b m c = 3 * wtN 840 v s b m c
  | 0, _ => rfl
  | b + 1, h => by
    have e1 : wtN 2520 v s (b + 1) m c = wtN 2520 v s b m c + (if (s b).testBit c then v b * (2520 / (1 + bcN (s b &&& m))) else 0) := rfl
    have e2 : wtN 840 v s (b + 1) m c = wtN 840 v s b m c + (if (s b).testBit c then v b * (840 / (1 + bcN (s b &&& m))) else 0) := rfl
    rw [e1, e2, wtN_3 v s m c hs b (fun j hj => h j (by omega))]
    rcases h b (by omega) with q | q
    · have k7 : ∀ k, k ≤ 7 → 2520 / (1 + k) = 3 * (840 / (1 + k)) := by decide
      rw [k7 _ q]
      split
      · rw [Nat.mul_add, Nat.mul_left_comm]
      · omega
    · rw [if_neg q, if_neg q]; omega
theorem wtN_le (W : Nat) (v s : Nat → Nat) (m c : Nat) : ∀ b, wtN W v s b m c ≤ W * fb_sm v b
  | 0 => Nat.zero_le _
  | b + 1 => by
    have e1 : wtN W v s (b + 1) m c = wtN W v s b m c + (if (s b).testBit c then v b * (W / (1 + bcN (s b &&& m))) else 0) := rfl
    have e2 : fb_sm v (b + 1) = fb_sm v b + v b := rfl
    have ih := wtN_le W v s m c b
    have hd : W / (1 + bcN (s b &&& m)) ≤ W := Nat.div_le_self _ _
    have hm : v b * (W / (1 + bcN (s b &&& m))) ≤ v b * W := Nat.mul_le_mul_left _ hd
    rw [e1, e2, Nat.mul_add]
    have hc := Nat.mul_comm (v b) W
    split <;> omega
/-- the load that a candidate would come by -/
def ldL (v s : Nat → Nat) (L : Nat → Int64) (u : Int64) (b c : Nat) : Int64 := smL u (fun j => if (s j).testBit c then lN (v j) * L j else 0) b
theorem q_ld5 {b : Nat} {V S : Nat → Int32} {v s : Nat → Nat} (h : EB b V S v s) (L : Nat → Int64) (u : Int64) {c : Nat} (hc : c < 8) : fX5_loadOf FU (nI c) V S (nI b) L u = some (ldL v s L u b c) := by
  rw [q_load5 _ _ h.1]
  congr 1
  refine smL_cong (fun j hj => ?_)
  obtain ⟨e, hv, -, -⟩ := h.2.1 j hj
  by_cases q : (s j).testBit c = true
  · rw [if_pos ((q_bt h hc hj).mpr q), if_pos q, e, nI_l (by omega)]
  · rw [if_neg (fun z => q ((q_bt h hc hj).mp z)), if_neg q]
/-- class: worthOf, by loads -/
theorem q_wo0_loop {law : Int32} (hl : ¬ law = 2) {b : Nat} {V S : Nat → Int32} {v s : Nat → Nat} (h : EB b V S v s) {c : Nat} (hc : c < 8) (m : Nat) (u : Int64) (L : Nat → Int64) : ∀ (k n i : Nat), i + k = b → k < n → fX1_worthOf_b31 FU n law (nI c) (ldL v s L u i c) (nI i) (nI m) L (nI b) V S = some (ldL v s L u b c) := by
  have hb := h.1
  intro k
  induction k with
  | zero =>
    intro n i hi hn
    obtain ⟨n, rfl, -⟩ := q_suc hn
    rw [fX1_worthOf_b31, if_pos (nI_le (by omega) (by omega)), show i = b by omega]
  | succ k ih =>
    intro n i hi hn
    obtain ⟨n, rfl, hn⟩ := q_suc hn
    have hh := ih n (i + 1) (by omega) (by omega)
    obtain ⟨e, hv, -, -⟩ := h.2.1 i (by omega)
    have hw : ldL v s L u (i + 1) c = ldL v s L u i c + (if (s i).testBit c then lN (v i) * L i else 0) := rfl
    rw [fX1_worthOf_b31, if_neg (nI_ge (by omega) (by omega)), if_neg (nI_in (by omega) (by omega)), nI_clamp (by omega), q_hasBit, Option.bind_some]
    by_cases q : (s i).testBit c = true
    · rw [hw, if_pos q] at hh
      rw [if_pos ((q_bt h hc (by omega)).mpr q), if_neg q_10, if_neg hl, fX1_worthOf_b86, fX1_worthOf_b90, nI_1, e, nI_l (by omega)]
      exact hh
    · rw [hw, if_neg q, Int64.add_zero] at hh
      rw [if_neg (fun z => q ((q_bt h hc (by omega)).mp z)), if_pos rfl, fX1_worthOf_b90, nI_1]
      exact hh
theorem q_wo2_loop {b : Nat} {V S : Nat → Int32} {v s : Nat → Nat} (h : EB b V S v s) {c : Nat} (hc : c < 8) (m : Nat) (L : Nat → Int64) : ∀ (k n i : Nat), i + k = b → k < n → fX1_worthOf_b31 FU n 2 (nI c) (lN (wtN 840 v s i m c)) (nI i) (nI m) L (nI b) V S = some (lN (wtN 840 v s b m c)) := by
  have hb := h.1
  intro k
  induction k with
  | zero =>
    intro n i hi hn
    obtain ⟨n, rfl, -⟩ := q_suc hn
    rw [fX1_worthOf_b31, if_pos (nI_le (by omega) (by omega)), show i = b by omega]
  | succ k ih =>
    intro n i hi hn
    obtain ⟨n, rfl, hn⟩ := q_suc hn
    have hh := ih n (i + 1) (by omega) (by omega)
    obtain ⟨e, hv, e2, hs⟩ := h.2.1 i (by omega)
    have h8 := q_bc8 _ (q_and256 (m := m) hs)
    have hw : wtN 840 v s (i + 1) m c = wtN 840 v s i m c + (if (s i).testBit c then v i * (840 / (1 + bcN (s i &&& m))) else 0) := rfl
    have hd : 840 / (1 + bcN (s i &&& m)) ≤ 840 := Nat.div_le_self _ _
    rw [fX1_worthOf_b31, if_neg (nI_ge (by omega) (by omega)), if_neg (nI_in (by omega) (by omega)), nI_clamp (by omega), q_hasBit, Option.bind_some]
    by_cases q : (s i).testBit c = true
    · rw [if_pos ((q_bt h hc (by omega)).mpr q), if_neg q_10, if_pos rfl, fX1_weightOf, if_neg (nI_in (by omega) (by omega)), nI_clamp (by omega), e2, fa_and, q_bc _ (q_and256 hs), Option.bind_some, if_neg (q_ne1 _ (by omega)), Option.bind_some, show (840 : Int32) = nI 840 from rfl, q_div _ _ (by omega) (by omega), e, nI_l (by omega), nI_l (by omega), fX1_worthOf_b86, fX1_worthOf_b90, lN_mul, lN_add, nI_1]
      rw [hw, if_pos q] at hh
      exact hh
    · rw [if_neg (fun z => q ((q_bt h hc (by omega)).mp z)), if_pos rfl, fX1_worthOf_b90, nI_1]
      rw [hw, if_neg q] at hh
      exact hh
/-- what a candidate is worth by a law -/
def woL (law : Nat) (v s : Nat → Nat) (L : Nat → Int64) (u : Int64) (b m c : Nat) : Int64 := if law = 1 then lN (supN v s b c) else if law = 2 then lN (wtN 840 v s b m c) else ldL v s L u b c
theorem q_wo {law : Nat} (hl : law < 4) {b : Nat} {V S : Nat → Int32} {v s : Nat → Nat} (h : EB b V S v s) {c : Nat} (hc : c < 8) (m : Nat) (L : Nat → Int64) (u : Int64) {P : Nat → Int32} (hP : P c = nI (supN v s b c)) : fX1_worthOf FU (nI law) (nI c) (nI m) P L u (nI b) V S = some (woL law v s L u b m c) := by
  have := supN_le h c
  have hb := h.1
  have hF := FU_e
  unfold fX1_worthOf woL
  by_cases h1 : law = 1
  · subst h1
    rw [if_pos (show nI 1 = (1 : Int32) from rfl), if_pos rfl, if_neg (nI_in hc (by omega)), nI_clamp (by omega), hP, nI_l (by omega)]
  · have n1 : ¬ nI law = 1 := fun e => h1 ((nI_eq (by omega) (by omega)).mp (show nI law = nI 1 from e))
    rw [if_neg n1, if_neg h1]
    by_cases h2 : law = 2
    · subst h2
      rw [if_pos (show nI 2 = (2 : Int32) from rfl), if_pos rfl, fX1_worthOf_b26]
      exact q_wo2_loop h hc m L b FU 0 (by omega) (by omega)
    · have n2 : ¬ nI law = 2 := fun e => h2 ((nI_eq (by omega) (by omega)).mp (show nI law = nI 2 from e))
      rw [if_neg n2, if_neg h2, fX1_worthOf_b26]
      exact q_wo0_loop n2 h hc m u L b FU 0 (by omega) (by omega)
