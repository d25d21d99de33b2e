/-! pure rows: the next member -/
/-- c is ahead of o, both with support -/
def ahd (law : Nat) (v s : Nat → Nat) (L : Nat → Int64) (u : Int64) (b m c o : Nat) : Bool :=
  if law = 1 then decide (supN v s b o < supN v s b c) else if law = 2 then decide (wtN 840 v s b m o < wtN 840 v s b m c)
  else decide (ldL v s L u b c * lN (supN v s b o) < ldL v s L u b o * lN (supN v s b c))
def elg (w m c : Nat) : Bool := !((w ||| m).testBit c)
def scT (law : Nat) (v s : Nat → Nat) (L : Nat → Int64) (u : Int64) (b w m : Nat) (r : Nat → Nat) : Nat → Option Nat
  | 0 => none
  | i + 1 => if elg w m (r i) = true ∧ 0 < supN v s b (r i) then
      (match scT law v s L u b w m r i with
        | none => some (r i)
        | some t => if ahd law v s L u b m (r i) t = true then some (r i) else some t)
    else scT law v s L u b w m r i
def scF (v s : Nat → Nat) (b w m : Nat) (r : Nat → Nat) : Nat → Option Nat
  | 0 => none
  | i + 1 => if elg w m (r i) = true ∧ ¬ 0 < supN v s b (r i) then
      (match scF v s b w m r i with
        | none => some (r i)
        | some t => some t)
    else scF v s b w m r i
def enc : Option Nat → Int32
  | none => -4
  | some c => nI c
theorem enc_none : enc none = -4 := rfl
theorem enc_some (c : Nat) : enc (some c) = nI c := rfl
theorem q_nm4 {c : Nat} (h : c < 2 ^ 31) : ¬ nI c = -4 := by
  intro e
  have h2 := congrArg Int32.toInt e
  rw [nI_toInt h, show (-4 : Int32).toInt = -4 from rfl] at h2
  omega
/-- the place of an election: ballots, rank, what is gone -/
def EP (n b w : Nat) (V S R : Nat → Int32) (v s r : Nat → Nat) : Prop := EB b V S v s ∧ n ≤ 8 ∧ w < 256 ∧ (∀ i, i < n → R i = nI (r i) ∧ r i < n)
theorem scT_lt {law : Nat} {v s : Nat → Nat} {L : Nat → Int64} {u : Int64} {b w m : Nat} {r : Nat → Nat} {n : Nat} : ∀ i, (∀ j, j < i → r j < n) → ∀ c, scT law v s L u b w m r i = some c → c < n ∧ elg w m c = true ∧ 0 < supN v s b c
  | 0, _, c, h => by cases h
  | i + 1, hr, c, h => by
    have ih := scT_lt (law := law) (v := v) (s := s) (L := L) (u := u) (b := b) (w := w) (m := m) i (fun j hj => hr j (by omega))
    rw [scT] at h
    by_cases q : elg w m (r i) = true ∧ 0 < supN v s b (r i)
    · rw [if_pos q] at h
      cases hs : scT law v s L u b w m r i with
      | none => rw [hs] at h; cases h; exact ⟨hr i (by omega), q⟩
      | some t =>
        rw [hs] at h
        dsimp only at h
        split at h
        · cases h; exact ⟨hr i (by omega), q⟩
        · cases h; exact ih _ hs
    · rw [if_neg q] at h; exact ih c h
theorem scF_lt {v s : Nat → Nat} {b w m : Nat} {r : Nat → Nat} {n : Nat} : ∀ i, (∀ j, j < i → r j < n) → ∀ c, scF v s b w m r i = some c → c < n ∧ elg w m c = true ∧ ¬ 0 < supN v s b c
  | 0, _, c, h => by cases h
  | i + 1, hr, c, h => by
    have ih := scF_lt (v := v) (s := s) (b := b) (w := w) (m := m) i (fun j hj => hr j (by omega))
    rw [scF] at h
    by_cases q : elg w m (r i) = true ∧ ¬ 0 < supN v s b (r i)
    · rw [if_pos q] at h
      cases hs : scF v s b w m r i with
      | none => rw [hs] at h; cases h; exact ⟨hr i (by omega), q⟩
      | some t => rw [hs] at h; cases h; exact ih _ hs
    · rw [if_neg q] at h; exact ih c h
/-- the reference's isAhead -/
theorem q_ah5 {law : Nat} (hl : law < 4) {b : Nat} {V S : Nat → Int32} {v s : Nat → Nat} (h : EB b V S v s) {m : Nat} (L : Nat → Int64) (u : Int64) {c o : Nat} (hc : c < 8) (ho : o < 8) (h7 : ∀ j, j < b → ∀ c, c < 8 → m.testBit c = false → (s j).testBit c = true → bcN (s j &&& m) ≤ 7) (hmc : m.testBit c = false) (hmo : m.testBit o = false) :
    fX5_isAhead FU (nI law) (nI c) (nI o) V S (nI b) L u (nI m) = some (if ahd law v s L u b m c o = true then 1 else 0) := by
  have sc := supN_le h c
  have so := supN_le h o
  unfold fX5_isAhead ahd
  by_cases h1 : law = 1
  · subst h1
    rw [if_pos (show nI 1 = (1 : Int32) from rfl), if_pos rfl, q_sup h hc, Option.bind_some, q_sup h ho, Option.bind_some]
    by_cases z : supN v s b o < supN v s b c
    · rw [if_neg (nI_ge z (by omega)), if_pos (by simpa using z)]
    · rw [if_pos (nI_le (by omega) (by omega)), if_neg (by simpa using z)]
  · have n1 : ¬ nI law = 1 := fun e => h1 ((nI_eq (by omega) (by omega)).mp (show nI law = nI 1 from e))
    rw [if_neg n1, if_neg h1]
    by_cases h2 : law = 2
    · subst h2
      have e3 : ∀ c, c < 8 → m.testBit c = false → wtN 2520 v s b m c = 3 * wtN 840 v s b m c := fun c hc hm => wtN_3 v s m c (fun _ _ => trivial) b (fun j hj => by
        by_cases q : (s j).testBit c = true
        · exact Or.inl (h7 j hj c hc hm q)
        · exact Or.inr q)
      have b1 := wtN_le 840 v s m c b
      have b2 := wtN_le 840 v s m o b
      have b3 := h.2.2
      rw [if_pos (show nI 2 = (2 : Int32) from rfl), if_pos rfl, q_wt5 h hc, Option.bind_some, q_wt5 h ho, Option.bind_some, e3 c hc hmc, e3 o ho hmo]
      by_cases z : wtN 840 v s b m o < wtN 840 v s b m c
      · rw [if_neg (nI_ge (by omega) (by omega)), if_pos (by simpa using z)]
      · rw [if_pos (nI_le (by omega) (by omega)), if_neg (by simpa using z)]
    · have n2 : ¬ nI law = 2 := fun e => h2 ((nI_eq (by omega) (by omega)).mp (show nI law = nI 2 from e))
      rw [if_neg n2, if_neg h2, q_ld5 h L u hc, Option.bind_some, q_sup h ho, Option.bind_some, q_ld5 h L u ho, Option.bind_some, q_sup h hc, Option.bind_some, nI_l (by omega), nI_l (by omega)]
      by_cases z : ldL v s L u b c * lN (supN v s b o) < ldL v s L u b o * lN (supN v s b c)
      · rw [if_neg (fun q => (q_cmp_ge _ _).mp q z), if_pos (by simpa using z)]
      · rw [if_pos ((q_cmp_ge _ _).mpr z), if_neg (by simpa using z)]
/-- the class's isAhead -/
theorem q_ah1 {law : Nat} (hl : law < 4) {b : Nat} {V S : Nat → Int32} {v s : Nat → Nat} (h : EB b V S v s) {m : Nat} (L : Nat → Int64) (u : Int64) {c o : Nat} (hc : c < 8) (ho : o < 8) {P : Nat → Int32} {Wo : Nat → Int64} (pc : P c = nI (supN v s b c)) (po : P o = nI (supN v s b o)) (wc : Wo c = woL law v s L u b m c) (wo : Wo o = woL law v s L u b m o) :
    fX1_isAhead FU (nI law) (nI c) (nI o) P Wo = some (if supN v s b c = 0 ∨ supN v s b o = 0 then (if supN v s b o < supN v s b c then 1 else 0) else if ahd law v s L u b m c o = true then 1 else 0) := by
  have sc := supN_le h c
  have so := supN_le h o
  have kc : ¬ (nI c < 0 ∨ 8 ≤ (nI c).toNatClampNeg) := nI_in hc (by omega)
  have ko : ¬ (nI o < 0 ∨ 8 ≤ (nI o).toNatClampNeg) := nI_in ho (by omega)
  have ec : (nI c).toNatClampNeg = c := nI_clamp (by omega)
  have eo : (nI o).toNatClampNeg = o := nI_clamp (by omega)
  have low : fX1_isAhead_b18 FU (nI c) (nI o) P = some (if supN v s b o < supN v s b c then 1 else 0) := by
    unfold fX1_isAhead_b18
    rw [if_neg kc, if_neg ko, ec, eo, pc, po]
    by_cases z : supN v s b o < supN v s b c
    · rw [if_neg (nI_ge z (by omega)), if_pos z]
    · rw [if_pos (nI_le (by omega) (by omega)), if_neg z]
  have hi : fX1_isAhead_b49 FU (nI c) (nI o) Wo = some (if woL law v s L u b m o < woL law v s L u b m c then 1 else 0) := by
    unfold fX1_isAhead_b49
    rw [if_neg kc, if_neg ko, ec, eo, wc, wo]
    by_cases z : woL law v s L u b m o < woL law v s L u b m c
    · rw [if_neg (fun q => (q_cmp_le _ _).mp q z), if_pos z]
    · rw [if_pos ((q_cmp_le _ _).mpr z), if_neg z]
  unfold fX1_isAhead
  rw [if_neg kc, if_neg ko, low, hi, ec, eo, pc, po, wc, wo]
  by_cases z1 : supN v s b c = 0
  · rw [if_pos (by rw [z1]; rfl), if_pos (Or.inl z1)]
  · rw [if_neg (nI_ne0 (by omega) (by omega))]
    by_cases z2 : supN v s b o = 0
    · rw [if_pos (by rw [z2]; rfl), if_pos (Or.inr z2)]
    · rw [if_neg (nI_ne0 (by omega) (by omega)), if_neg (show ¬ (supN v s b c = 0 ∨ supN v s b o = 0) by omega)]
      unfold ahd woL
      by_cases h1 : law = 1
      · subst h1
        rw [if_pos (show nI 1 = (1 : Int32) from rfl), if_pos rfl, if_pos rfl, if_pos rfl]
        congr 1
        by_cases z : supN v s b o < supN v s b c
        · rw [if_pos ((lN_lt (by omega) (by omega)).mpr z), if_pos (by simpa using z)]
        · rw [if_neg (fun q => z ((lN_lt (by omega) (by omega)).mp q)), if_neg (by simpa using z)]
      · have n1 : ¬ nI law = 1 := fun e => h1 ((nI_eq (by omega) (by omega)).mp (show nI law = nI 1 from e))
        rw [if_neg n1, if_neg h1, if_neg h1, if_neg h1]
        by_cases h2 : law = 2
        · subst h2
          have b1 := wtN_le 840 v s m c b
          have b2 := wtN_le 840 v s m o b
          have b3 := h.2.2
          rw [if_pos (show nI 2 = (2 : Int32) from rfl), if_pos rfl, if_pos rfl, if_pos rfl]
          congr 1
          by_cases z : wtN 840 v s b m o < wtN 840 v s b m c
          · rw [if_pos ((lN_lt (by omega) (by omega)).mpr z), if_pos (by simpa using z)]
          · rw [if_neg (fun q => z ((lN_lt (by omega) (by omega)).mp q)), if_neg (by simpa using z)]
        · have n2 : ¬ nI law = 2 := fun e => h2 ((nI_eq (by omega) (by omega)).mp (show nI law = nI 2 from e))
          rw [if_neg n2, if_neg h2, if_neg h2, if_neg h2, nI_l (by omega), nI_l (by omega)]
          by_cases z : ldL v s L u b c * lN (supN v s b o) < ldL v s L u b o * lN (supN v s b c)
          · rw [if_neg (fun q => (q_cmp_ge _ _).mp q z), if_pos (by simpa using z)]
          · rw [if_pos ((q_cmp_ge _ _).mpr z), if_neg (by simpa using z)]
