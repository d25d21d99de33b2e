/-! pure rows: the next member, by both -/
theorem q_b75 (k : Int32 → Int32 → Int32 → Int32 → (Nat → Int32) → (Nat → Int32) → (Nat → Int32) → Int32 → (Nat → Int32) → (Nat → Int64) → Int64 → Int32 → Option (Int32)) (x1 x2 x3 x4 x5 : Int32) (T V S : Nat → Int32) (b : Int32) (R : Nat → Int32) (L : Nat → Int64) (u : Int64) (m : Int32) : fX5_nextOf_b75 FU k x1 x2 x3 x4 x5 T V S b R L u m = k x1 x2 x3 (x4 + 1) T V S b R L u m := by
  unfold fX5_nextOf_b75 fX5_nextOf_b76
  rw [if_pos rfl]
  unfold fX5_nextOf_b108 fX5_nextOf_b109
  rw [if_pos rfl]
  rfl
theorem q_b104 (k : Int32 → Int32 → Int32 → Int32 → (Nat → Int32) → (Nat → Int32) → (Nat → Int32) → Int32 → (Nat → Int32) → (Nat → Int64) → Int64 → Int32 → Option (Int32)) (x1 x2 x3 x4 x5 : Int32) (T V S : Nat → Int32) (b : Int32) (R : Nat → Int32) (L : Nat → Int64) (u : Int64) (m : Int32) : fX5_nextOf_b104 FU k x1 x2 x3 x4 x5 T V S b R L u m = k x1 x2 x5 (x4 + 1) T V S b R L u m := by
  unfold fX5_nextOf_b104 fX5_nextOf_b109
  rw [if_neg q_10]
  rfl
theorem q_b108 (k : Int32 → Int32 → Int32 → Int32 → (Nat → Int32) → (Nat → Int32) → (Nat → Int32) → Int32 → (Nat → Int32) → (Nat → Int64) → Int64 → Int32 → Option (Int32)) (x1 x2 x3 x4 x5 : Int32) (T V S : Nat → Int32) (b : Int32) (R : Nat → Int32) (L : Nat → Int64) (u : Int64) (m : Int32) : fX5_nextOf_b108 FU k x1 x2 x3 x4 x5 T V S b R L u m = k x1 x2 x3 (x4 + 1) T V S b R L u m := by
  unfold fX5_nextOf_b108 fX5_nextOf_b109
  rw [if_pos rfl]
  rfl
theorem q_b67n (k : Int32 → Int32 → Int32 → Int32 → (Nat → Int32) → (Nat → Int32) → (Nat → Int32) → Int32 → (Nat → Int32) → (Nat → Int64) → Int64 → Int32 → Option (Int32)) (x1 x2 x3 x4 x5 : Int32) (T V S : Nat → Int32) (b : Int32) (R : Nat → Int32) (L : Nat → Int64) (u : Int64) (m : Int32) {t : Int32} (h : ¬ t = x2) : fX5_nextOf_b67 FU k x1 x2 x3 x4 x5 t T V S b R L u m = k x1 x2 x3 (x4 + 1) T V S b R L u m := by
  unfold fX5_nextOf_b67
  rw [if_neg h, q_b75]
theorem q_b67y (k : Int32 → Int32 → Int32 → Int32 → (Nat → Int32) → (Nat → Int32) → (Nat → Int32) → Int32 → (Nat → Int32) → (Nat → Int64) → Int64 → Int32 → Option (Int32)) (x1 x2 x3 x4 x5 : Int32) (T V S : Nat → Int32) (b : Int32) (R : Nat → Int32) (L : Nat → Int64) (u : Int64) (m : Int32) : fX5_nextOf_b67 FU k x1 x2 x3 x4 x5 x2 T V S b R L u m = (if x3 = (-4 : Int32) then k x1 x2 x5 (x4 + 1) T V S b R L u m else if x2 = 0 then k x1 x2 x3 (x4 + 1) T V S b R L u m else (fX5_isAhead FU x1 x5 x3 V S b L u m).bind fun z => if z = 0 then k x1 x2 x3 (x4 + 1) T V S b R L u m else k x1 x2 x5 (x4 + 1) T V S b R L u m) := by
  unfold fX5_nextOf_b67 fX5_nextOf_b76
  rw [if_pos rfl, if_neg q_10]
  simp only [q_b104, q_b108]
theorem q_elg {w m c : Nat} (hw : w < 256) (hm : m < 256) (hc : c < 8) : elg w m c = true ↔ (¬ (((nI w >>> (nI c &&& 31)) &&& (1 : Int32)) = (1 : Int32)) ∧ ¬ (((nI m >>> (nI c &&& 31)) &&& (1 : Int32)) = (1 : Int32))) := by
  rw [q_bits w hw c hc, q_bits m hm c hc]
  unfold elg
  rw [Nat.testBit_or]
  cases w.testBit c <;> cases m.testBit c <;> simp
theorem q_elgm {w m c : Nat} (h : elg w m c = true) : m.testBit c = false := by
  unfold elg at h
  rw [Nat.testBit_or] at h
  cases hm : m.testBit c
  · rfl
  · rw [hm] at h; simp at h
section NX
variable {law n b w m : Nat} {V S R : Nat → Int32} {v s r : Nat → Nat} {L : Nat → Int64} {u : Int64} {T : Nat → Int32}
theorem q_nxT_loop (hl : law < 4) (h : EP n b w V S R v s r) (hm : m < 256) (h7 : ∀ j, j < b → ∀ c, c < 8 → m.testBit c = false → (s j).testBit c = true → bcN (s j &&& m) ≤ 7) (t0 : T 0 = nI n) (t23 : T 23 = nI w) : ∀ (k f i : Nat), i + k = n → k < f → fX5_nextOf_b6 FU f (nI law) 1 (enc (scT law v s L u b w m r i)) (nI i) T V S (nI b) R L u (nI m) = some (enc (scT law v s L u b w m r n)) := by
  obtain ⟨hE, hn, hw, hr⟩ := h
  intro k
  induction k with
  | zero =>
    intro f i hi hf
    obtain ⟨f, rfl, -⟩ := q_suc hf
    rw [fX5_nextOf_b6, t0, if_pos (nI_le (by omega) (by omega)), show i = n by omega]
  | succ k ih =>
    intro f i hi hf
    obtain ⟨f, rfl, hf⟩ := q_suc hf
    have hh := ih f (i + 1) (by omega) (by omega)
    obtain ⟨e1, e2⟩ := hr i (by omega)
    have sl := supN_le hE (r i)
    rw [scT] at hh
    rw [fX5_nextOf_b6, t0, if_neg (nI_ge (by omega) (by omega)), if_neg (nI_in (by omega) (by omega)), nI_clamp (by omega), e1, t23, q_has, Option.bind_some]
    have he := q_elg hw hm (show r i < 8 by omega)
    by_cases z1 : (((nI w >>> (nI (r i) &&& 31)) &&& (1 : Int32)) = (1 : Int32))
    · rw [if_pos z1, if_neg q_10, q_b75, nI_1]
      rw [if_neg (fun q => (he.mp q.1).1 z1)] at hh
      exact hh
    · rw [if_neg z1, if_pos rfl, q_has, Option.bind_some]
      by_cases z2 : (((nI m >>> (nI (r i) &&& 31)) &&& (1 : Int32)) = (1 : Int32))
      · rw [if_pos z2, if_neg q_10, q_b75, nI_1]
        rw [if_neg (fun q => (he.mp q.1).2 z2)] at hh
        exact hh
      · have hel := he.mpr ⟨z1, z2⟩
        rw [if_neg z2, if_pos rfl, q_sup hE (by omega), Option.bind_some]
        by_cases z3 : 0 < supN v s b (r i)
        · rw [if_neg (nI_nle z3 (by omega)), q_b67y]
          rw [if_pos ⟨hel, z3⟩] at hh
          cases hs : scT law v s L u b w m r i with
          | none =>
            rw [hs] at hh
            rw [enc_none, if_pos rfl, nI_1]
            exact hh
          | some t =>
            rw [hs] at hh
            obtain ⟨g1, g2, g3⟩ := scT_lt (n := n) i (fun j hj => (hr j (by omega)).2) t hs
            rw [enc_some, if_neg (q_nm4 (by omega)), if_neg q_10, q_ah5 hl hE L u (by omega) (by omega) h7 (q_elgm hel) (q_elgm g2), Option.bind_some]
            dsimp only at hh
            by_cases z4 : ahd law v s L u b m (r i) t = true
            · rw [if_pos z4] at hh ⊢
              rw [if_neg q_10, nI_1]
              exact hh
            · rw [if_neg z4] at hh ⊢
              rw [if_pos rfl, nI_1]
              exact hh
        · rw [if_pos (show nI (supN v s b (r i)) ≤ 0 from nI_le (b := 0) (by omega) (by omega)), q_b67n _ _ _ _ _ _ _ _ _ _ _ _ _ _ (by decide), nI_1]
          rw [if_neg (fun q => z3 q.2)] at hh
          exact hh
theorem q_nxF_loop (h : EP n b w V S R v s r) (hm : m < 256) (t0 : T 0 = nI n) (t23 : T 23 = nI w) (la : Int32) : ∀ (k f i : Nat), i + k = n → k < f → fX5_nextOf_b6 FU f la 0 (enc (scF v s b w m r i)) (nI i) T V S (nI b) R L u (nI m) = some (enc (scF v s b w m r n)) := by
  obtain ⟨hE, hn, hw, hr⟩ := h
  intro k
  induction k with
  | zero =>
    intro f i hi hf
    obtain ⟨f, rfl, -⟩ := q_suc hf
    rw [fX5_nextOf_b6, t0, if_pos (nI_le (by omega) (by omega)), show i = n by omega]
  | succ k ih =>
    intro f i hi hf
    obtain ⟨f, rfl, hf⟩ := q_suc hf
    have hh := ih f (i + 1) (by omega) (by omega)
    obtain ⟨e1, e2⟩ := hr i (by omega)
    have sl := supN_le hE (r i)
    rw [scF] at hh
    rw [fX5_nextOf_b6, t0, if_neg (nI_ge (by omega) (by omega)), if_neg (nI_in (by omega) (by omega)), nI_clamp (by omega), e1, t23, q_has, Option.bind_some]
    have he := q_elg hw hm (show r i < 8 by omega)
    by_cases z1 : (((nI w >>> (nI (r i) &&& 31)) &&& (1 : Int32)) = (1 : Int32))
    · rw [if_pos z1, if_neg q_10, q_b75, nI_1]
      rw [if_neg (fun q => (he.mp q.1).1 z1)] at hh
      exact hh
    · rw [if_neg z1, if_pos rfl, q_has, Option.bind_some]
      by_cases z2 : (((nI m >>> (nI (r i) &&& 31)) &&& (1 : Int32)) = (1 : Int32))
      · rw [if_pos z2, if_neg q_10, q_b75, nI_1]
        rw [if_neg (fun q => (he.mp q.1).2 z2)] at hh
        exact hh
      · have hel := he.mpr ⟨z1, z2⟩
        rw [if_neg z2, if_pos rfl, q_sup hE (by omega), Option.bind_some]
        by_cases z3 : 0 < supN v s b (r i)
        · rw [if_neg (nI_nle z3 (by omega)), q_b67n _ _ _ _ _ _ _ _ _ _ _ _ _ _ (by decide), nI_1]
          rw [if_neg (fun q => q.2 z3)] at hh
          exact hh
        · rw [if_pos (show nI (supN v s b (r i)) ≤ 0 from nI_le (b := 0) (by omega) (by omega)), q_b67y]
          rw [if_pos ⟨hel, z3⟩] at hh
          cases hs : scF v s b w m r i with
          | none =>
            rw [hs] at hh
            rw [enc_none, if_pos rfl, nI_1]
            exact hh
          | some t =>
            rw [hs] at hh
            obtain ⟨g1, g2, g3⟩ := scF_lt (n := n) i (fun j hj => (hr j (by omega)).2) t hs
            rw [enc_some, if_neg (q_nm4 (by omega)), if_pos rfl, nI_1]
            exact hh
/-- the best so far, by the class -/
def bst (law : Nat) (v s : Nat → Nat) (L : Nat → Int64) (u : Int64) (b w m : Nat) (r : Nat → Nat) (i : Nat) : Option Nat := match scT law v s L u b w m r i with
  | some c => some c
  | none => scF v s b w m r i
theorem bst_lt {i : Nat} (hr : ∀ j, j < i → r j < n) {c : Nat} (h : bst law v s L u b w m r i = some c) : c < n ∧ elg w m c = true := by
  unfold bst at h
  cases hs : scT law v s L u b w m r i with
  | some t => rw [hs] at h; cases h; exact ⟨(scT_lt i hr _ hs).1, (scT_lt i hr _ hs).2.1⟩
  | none => rw [hs] at h; exact ⟨(scF_lt i hr _ h).1, (scF_lt i hr _ h).2.1⟩
/-- one step of the class's scan -/
theorem bst_s (i : Nat) (hr : ∀ j, j < i → r j < n) : bst law v s L u b w m r (i + 1) = if elg w m (r i) = true then (match bst law v s L u b w m r i with
    | none => some (r i)
    | some o => if (if supN v s b (r i) = 0 ∨ supN v s b o = 0 then decide (supN v s b o < supN v s b (r i)) else ahd law v s L u b m (r i) o) = true then some (r i) else some o) else bst law v s L u b w m r i := by
  unfold bst
  rw [scT, scF]
  by_cases z : elg w m (r i) = true
  · rw [if_pos z]
    cases hT : scT law v s L u b w m r i with
    | some t =>
      have g := (scT_lt (n := n) i hr t hT).2.2
      dsimp only
      by_cases z3 : 0 < supN v s b (r i)
      · rw [if_pos ⟨z, z3⟩, if_neg (show ¬ (supN v s b (r i) = 0 ∨ supN v s b t = 0) by omega)]
        by_cases z5 : ahd law v s L u b m (r i) t = true
        · rw [if_pos z5]
        · rw [if_neg z5]
      · rw [if_neg (fun q => z3 q.2), if_pos (show (supN v s b (r i) = 0 ∨ supN v s b t = 0) by omega), if_neg (show ¬ decide (supN v s b t < supN v s b (r i)) = true by simp; omega)]
    | none =>
      dsimp only
      by_cases z3 : 0 < supN v s b (r i)
      · rw [if_pos ⟨z, z3⟩, if_neg (fun q => q.2 z3)]
        dsimp only
        cases hF : scF v s b w m r i with
        | none => rfl
        | some o =>
          have g := (scF_lt (n := n) i hr o hF).2.2
          dsimp only
          rw [if_pos (show (supN v s b (r i) = 0 ∨ supN v s b o = 0) by omega), if_pos (by simp; omega)]
      · rw [if_neg (fun q => z3 q.2), if_pos ⟨z, z3⟩]
        dsimp only
        cases hF : scF v s b w m r i with
        | none => rfl
        | some o =>
          dsimp only
          rw [if_pos (show (supN v s b (r i) = 0 ∨ supN v s b o = 0) by omega), if_neg (by simp; omega)]
  · rw [if_neg z, if_neg (fun q => z q.1), if_neg (fun q => z q.1)]
theorem q_nx1_loop (hl : law < 4) (h : EP n b w V S R v s r) (hm : m < 256) {P : Nat → Int32} (hP : ∀ c, c < n → P c = nI (supN v s b c)) : ∀ (k f i : Nat) (Wo : Nat → Int64), i + k = n → k < f → (∀ c, bst law v s L u b w m r i = some c → Wo c = woL law v s L u b m c) →
    ∃ W2 : Nat → Int64, fX1_nextMember_b6 FU f (nI law) (enc (bst law v s L u b w m r i)) (nI i) (nI m) P Wo L u (nI n) (nI b) (nI w) V S R = some (enc (bst law v s L u b w m r n), W2) ∧ (∀ c, bst law v s L u b w m r n = some c → W2 c = woL law v s L u b m c) := by
  obtain ⟨hE, hn, hw, hr⟩ := h
  intro k
  induction k with
  | zero =>
    intro f i Wo hi hf hW
    obtain ⟨f, rfl, -⟩ := q_suc hf
    have e : i = n := by omega
    subst e
    exact ⟨Wo, by rw [fX1_nextMember_b6, if_pos (nI_le (by omega) (by omega))], hW⟩
  | succ k ih =>
    intro f i Wo hi hf hW
    obtain ⟨f, rfl, hf⟩ := q_suc hf
    obtain ⟨e1, e2⟩ := hr i (by omega)
    have hs := bst_s (law := law) (v := v) (s := s) (L := L) (u := u) (b := b) (w := w) (m := m) (n := n) i (fun j hj => (hr j (by omega)).2)
    have he := q_elg hw hm (show r i < 8 by omega)
    have hor : nI w ||| nI m = nI (w ||| m) := fa_or w m
    have hwm : w ||| m < 256 := Nat.or_lt_two_pow (n := 8) hw hm
    have hbit := q_bits (w ||| m) hwm (r i) (by omega)
    have kr : ¬ (nI (r i) < 0 ∨ 8 ≤ (nI (r i)).toNatClampNeg) := nI_in (by omega) (by omega)
    have er : (nI (r i)).toNatClampNeg = r i := nI_clamp (by omega)
    rw [fX1_nextMember_b6, if_neg (nI_ge (by omega) (by omega)), if_neg (nI_in (by omega) (by omega)), nI_clamp (show i < 2 ^ 31 by omega), e1, hor, q_hasBit, Option.bind_some]
    by_cases z : elg w m (r i) = true
    · have zb : ¬ (w ||| m).testBit (r i) = true := by
        unfold elg at z
        simpa using z
      rw [if_neg (fun q => zb (hbit.mp q)), if_pos rfl, q_wo hl hE (by omega) m L u (hP (r i) e2), Option.bind_some, if_neg kr, er]
      rw [if_pos z] at hs
      cases hB : bst law v s L u b w m r i with
      | none =>
        rw [hB] at hs
        rw [enc_none, if_pos rfl, fX1_nextMember_b73, fX1_nextMember_b76, nI_1]
        have hh := ih f (i + 1) (vp_updL Wo (r i) (woL law v s L u b m (r i))) (by omega) (by omega) (fun c hc => by
          rw [hs] at hc
          cases hc
          exact pk_uLs)
        rw [hs] at hh
        exact hh
      | some o =>
        rw [hB] at hs
        have ho := bst_lt (n := n) (fun j hj => (hr j (by omega)).2) hB
        have wo : vp_updL Wo (r i) (woL law v s L u b m (r i)) o = woL law v s L u b m o := by
          by_cases q : o = r i
          · rw [q]; exact pk_uLs
          · rw [pk_uLn q]; exact hW o hB
        rw [enc_some, if_neg (q_nm4 (by omega)), q_ah1 hl hE (m := m) L u (by omega) (by omega) (hP _ e2) (hP _ ho.1) pk_uLs wo, Option.bind_some]
        dsimp only at hs
        by_cases z4 : (if supN v s b (r i) = 0 ∨ supN v s b o = 0 then decide (supN v s b o < supN v s b (r i)) else ahd law v s L u b m (r i) o) = true
        · have e4 : (if supN v s b (r i) = 0 ∨ supN v s b o = 0 then (if supN v s b o < supN v s b (r i) then (1 : Int32) else 0) else if ahd law v s L u b m (r i) o = true then 1 else 0) = 1 := by
            split at z4
            · rename_i q; rw [if_pos q, if_pos (by simpa using z4)]
            · rename_i q; rw [if_neg q, if_pos z4]
          rw [if_pos z4] at hs
          rw [e4, if_neg q_10, fX1_nextMember_b73, fX1_nextMember_b76, nI_1]
          have hh := ih f (i + 1) (vp_updL Wo (r i) (woL law v s L u b m (r i))) (by omega) (by omega) (fun c hc => by
            rw [hs] at hc
            cases hc
            exact pk_uLs)
          rw [hs] at hh
          exact hh
        · have e4 : (if supN v s b (r i) = 0 ∨ supN v s b o = 0 then (if supN v s b o < supN v s b (r i) then (1 : Int32) else 0) else if ahd law v s L u b m (r i) o = true then 1 else 0) = 0 := by
            split at z4
            · rename_i q; rw [if_pos q, if_neg (by simpa using z4)]
            · rename_i q; rw [if_neg q, if_neg z4]
          rw [if_neg z4] at hs
          rw [e4, if_pos rfl, fX1_nextMember_b76, nI_1]
          have hh := ih f (i + 1) (vp_updL Wo (r i) (woL law v s L u b m (r i))) (by omega) (by omega) (fun c hc => by
            rw [hs] at hc
            cases hc
            exact wo)
          rw [hs] at hh
          exact hh
    · have zb : (w ||| m).testBit (r i) = true := by
        unfold elg at z
        cases q : (w ||| m).testBit (r i)
        · rw [q] at z; exact absurd rfl z
        · rfl
      rw [if_pos (hbit.mpr zb), if_neg q_10, fX1_nextMember_b76, nI_1]
      rw [if_neg z] at hs
      have hh := ih f (i + 1) Wo (by omega) (by omega) (fun c hc => by rw [hs] at hc; exact hW c hc)
      rw [hs] at hh
      exact hh
end NX
