/-! pure rows: sets and ranks read by both -/
section TF
variable {ln : Nat} {X Y : Nat → Int32} {x : Nat → Nat}
theorem t_nm (h : TX ln X Y x) {n i : Nat} (hn : n ≤ 8) {M : Nat → Int32} (hM : M 0 = nI n) (hi : i < 1000) [Decidable (nm n ln x i)] : fX5_isName FU M Y (nI ln) (nI i) = some (if nm n ln x i then 1 else 0) := by
  unfold fX5_isName
  have e1 : ((97 : Int32) + M 0 - 1).toInt = ((96 + n : Nat) : Int) := by
    rw [hM, show (97 : Int32) + nI n = nI (97 + n) from nI_add 97 n, q_1n (by omega)]; omega
  rw [t_at h hi, Option.bind_some, t_in h i 97 (96 + n) (by omega) (by omega) 97 _ rfl e1, Option.bind_some]
  by_cases z : nm n ln x i
  · rw [if_pos (show (i < ln ∧ 97 ≤ x i ∧ x i ≤ 96 + n) from ⟨z.1, z.2.1, by have := z.2.2; omega⟩), if_pos z, if_neg (by decide)]
  · rw [if_neg (show ¬ (i < ln ∧ 97 ≤ x i ∧ x i ≤ 96 + n) from fun q => z ⟨q.1, q.2.1, by omega⟩), if_neg z, if_neg (by decide)]
theorem t_68 (sp : Int32) (val : Int32) : ∃ t, fX5_takesSet_b68 FU sp val = some (t, sp, val) ∧ (t = 0 ∨ t = 1) := by
  unfold fX5_takesSet_b68
  by_cases z : val ≤ 0
  · rw [if_pos z]; exact ⟨_, rfl, Or.inl rfl⟩
  · rw [if_neg z]; exact ⟨_, rfl, Or.inr rfl⟩
theorem j_set (h : TX ln X Y x) {n e : Nat} (hn : n ≤ 8) {M : Nat → Int32} (hM : M 0 = nI n) (he : e ≤ ln) (hne : ¬ nm n ln x e) : ∀ (kk f g i q l : Nat), i + kk = e → kk < f → kk < g → l ≤ n → q < 2 ^ l →
    (∃ q', q' < 2 ^ n ∧ fX3_risingSet_b9 FU f (nI n) (nI e) (nI q) (nI l) (nI i) X = some (nI q') ∧ fX5_takesSet_b7 FU g (nI l - 1) M Y (nI ln) (nI i) (nI q) = some (if q' = 0 then 0 else 1, nI e, nI q')) ∨
    (fX3_risingSet_b9 FU f (nI n) (nI e) (nI q) (nI l) (nI i) X = some 0 ∧ ∃ (t : Int32) (sp : Nat) (val : Int32), fX5_takesSet_b7 FU g (nI l - 1) M Y (nI ln) (nI i) (nI q) = some (t, nI sp, val) ∧ (t = 0 ∨ t = 1) ∧ i ≤ sp ∧ sp < e) := by
  have hln := h.1
  have hp := q_pn hn
  intro kk
  induction kk with
  | zero =>
    intro f g i q l e1 e2 e3 e4 e5
    obtain ⟨f, rfl, -⟩ := q_suc e2
    obtain ⟨g, rfl, -⟩ := q_suc e3
    have ei : i = e := by omega
    have hq : q < 2 ^ n := Nat.lt_of_lt_of_le e5 (Nat.pow_le_pow_right (n := 2) (by decide) e4)
    haveI := Classical.propDecidable (nm n ln x i)
    rw [fX3_risingSet_b9, if_pos (nI_le (by omega) (by omega)), fX5_takesSet_b7, t_nm h hn hM (by omega), Option.bind_some, if_neg (show ¬ nm n ln x i by rw [ei]; exact hne), if_pos rfl, fX5_takesSet_b68, ei]
    refine Or.inl ⟨q, hq, rfl, ?_⟩
    by_cases z : q = 0
    · rw [if_pos z, if_pos (by rw [z]; decide)]
    · rw [if_neg z, if_neg (nI_nle (by omega) (by omega))]
  | succ kk ih =>
    intro f g i q l e1 e2 e3 e4 e5
    obtain ⟨f, rfl, -⟩ := q_suc e2
    obtain ⟨g, rfl, -⟩ := q_suc e3
    obtain ⟨a1, a2, a3, a4⟩ := h.2 i (by omega)
    haveI := Classical.propDecidable (nm n ln x i)
    have m := q_m97 a4
    rw [fX3_risingSet_b9, if_neg (nI_ge (by omega) (by omega)), if_neg (nI_in (by omega) (by omega)), nI_clamp (by omega), a1, fX5_takesSet_b7, t_nm h hn hM (by omega), Option.bind_some]
    by_cases z : nm n ln x i
    · have z2 := z.2
      rw [if_pos z, if_neg q_10, if_neg (nI_in (by omega) (by omega)), nI_clamp (by omega), a2]
      by_cases y : x i - 97 < l
      · rw [if_pos (show nI (x i) - 97 < nI l by rw [fa_lt, m, nI_toInt (by omega)]; omega), if_pos (show nI (x i) - 97 ≤ nI l - 1 by rw [fa_le, m, q_1n (by omega)]; omega)]
        obtain ⟨t, t1, t2⟩ := t_68 (nI i) (nI q)
        exact Or.inr ⟨rfl, t, i, nI q, t1, t2, by omega, by omega⟩
      · rw [if_neg (show ¬ nI (x i) - 97 < nI l by rw [fa_lt, m, nI_toInt (by omega)]; omega), if_pos (show nI (x i) - 97 < nI n by rw [fa_lt, m, nI_toInt (by omega)]; omega), if_neg (show ¬ nI (x i) - 97 ≤ nI l - 1 by rw [fa_le, m, q_1n (by omega)]; omega), q_s97 z2.1, q_shl1 _ (by omega), fa_or, nI_1, nI_1]
        have hq : q ||| 2 ^ (x i - 97) < 2 ^ (x i - 97 + 1) := Nat.or_lt_two_pow (Nat.lt_of_lt_of_le e5 (Nat.pow_le_pow_right (n := 2) (by decide) (by omega))) (Nat.pow_lt_pow_right (by decide) (by omega))
        have hh := ih f g (i + 1) (q ||| 2 ^ (x i - 97)) (x i - 97 + 1) (by omega) (by omega) (by omega) (by omega) hq
        rw [nI_pred] at hh
        rcases hh with hh | ⟨h1, t, sp, val, h2, h3, h4, h5⟩
        · exact Or.inl hh
        · exact Or.inr ⟨h1, t, sp, val, h2, h3, by omega, h5⟩
    · rw [if_neg z, if_pos rfl]
      obtain ⟨t, t1, t2⟩ := t_68 (nI i) (nI q)
      refine Or.inr ⟨?_, t, i, nI q, t1, t2, by omega, by omega⟩
      by_cases y : x i < 97
      · rw [if_pos (show nI (x i) - 97 < nI l by rw [fa_lt, m, nI_toInt (by omega)]; omega)]
      · have : ¬ x i < 97 + n := fun q => z ⟨by omega, by omega, q⟩
        rw [if_neg (show ¬ nI (x i) - 97 < nI l by rw [fa_lt, m, nI_toInt (by omega)]; omega), if_neg (show ¬ nI (x i) - 97 < nI n by rw [fa_lt, m, nI_toInt (by omega)]; omega)]
/-- ranks -/
theorem r_rank (h : TX ln X Y x) {n e p : Nat} (hn : n ≤ 8) (he : e ≤ ln) (hne : ¬ nm n ln x e) : ∀ (kk g i : Nat) (m : Int32) (M : Nat → Int32), i + kk = n → kk < g → p + i ≤ e → M 0 = nI n → ∃ (t : Int32) (M' : Nat → Int32) (sp : Nat), fX5_takesRank_b4 FU g m (nI i) M Y (nI ln) (nI (p + i)) = some (t, M', nI sp) ∧ (t = 0 ∨ (t = 1 ∧ sp = p + n ∧ p + n ≤ e)) := by
  have hln := h.1
  intro kk
  induction kk with
  | zero =>
    intro g i m M e1 e2 e3 hM
    obtain ⟨g, rfl, -⟩ := q_suc e2
    rw [fX5_takesRank_b4, hM, if_pos (nI_le (by omega) (by omega))]
    exact ⟨_, _, _, rfl, Or.inr ⟨rfl, by omega, by omega⟩⟩
  | succ kk ih =>
    intro g i m M e1 e2 e3 hM
    obtain ⟨g, rfl, -⟩ := q_suc e2
    haveI := Classical.propDecidable (nm n ln x (p + i))
    rw [fX5_takesRank_b4, hM, if_neg (nI_ge (by omega) (by omega)), t_nm h hn hM (by omega), Option.bind_some]
    by_cases z : nm n ln x (p + i)
    · have z1 := z.1
      have ne : ¬ p + i = e := fun q => hne (q ▸ z)
      rw [if_pos z, if_neg q_10, if_neg (nI_in (by omega) (by omega)), nI_clamp (by omega), q_has, Option.bind_some]
      by_cases y : ((m >>> ((Y (p + i) - 97) &&& 31)) &&& (1 : Int32)) = (1 : Int32)
      · rw [if_pos y, if_neg q_10]; exact ⟨_, _, _, rfl, Or.inl rfl⟩
      · rw [if_neg y, if_pos rfl, q_add24, if_neg (nI_in (by omega) (by omega)), nI_clamp (by omega), nI_1, nI_1]
        exact ih g (i + 1) _ _ (by omega) (by omega) (by omega) (by rw [q_upn _ _ (by omega)]; exact hM)
    · rw [if_neg z, if_pos rfl]; exact ⟨_, _, _, rfl, Or.inl rfl⟩
theorem j_rank (h : TX ln X Y x) {n e p : Nat} (hn : n ≤ 8) (he : e ≤ ln) (hep : e = p + n) : ∀ (kk f g i m : Nat) (R M : Nat → Int32) (rr : Nat → Nat), i + kk = n → kk < f → kk < g → M 0 = nI n → m < 2 ^ n → (∀ j, j < i → R j = nI (rr j) ∧ M (24 + j) = nI (rr j) ∧ rr j < n ∧ m.testBit (rr j) = true) → (∀ j l, j < i → l < i → rr j = rr l → j = l) →
    (∃ (R' M' : Nat → Int32) (rr' : Nat → Nat), fX3_readRank_b18 FU f (nI p) (nI m) (nI i) X (nI n) R = some (1, R') ∧ fX5_takesRank_b4 FU g (nI m) (nI i) M Y (nI ln) (nI (p + i)) = some (1, M', nI e) ∧ (∀ j, j < n → R' j = nI (rr' j) ∧ M' (24 + j) = nI (rr' j) ∧ rr' j < n) ∧ (∀ j l, j < n → l < n → rr' j = rr' l → j = l) ∧ (∀ j, j < 24 → M' j = M j)) ∨
    (∃ (R' M' : Nat → Int32) (sp : Int32), fX3_readRank_b18 FU f (nI p) (nI m) (nI i) X (nI n) R = some (0, R') ∧ fX5_takesRank_b4 FU g (nI m) (nI i) M Y (nI ln) (nI (p + i)) = some (0, M', sp)) := by
  have hln := h.1
  have hpn := q_pn hn
  intro kk
  induction kk with
  | zero =>
    intro f g i m R M rr e1 e2 e3 hM hm hr inj
    obtain ⟨f, rfl, -⟩ := q_suc e2
    obtain ⟨g, rfl, -⟩ := q_suc e3
    have ei : i = n := by omega
    rw [fX3_readRank_b18, fX5_takesRank_b4, hM, if_pos (nI_le (by omega) (by omega)), if_pos (nI_le (by omega) (by omega)), ei, hep]
    exact Or.inl ⟨R, M, rr, rfl, rfl, fun j hj => ⟨(hr j (by omega)).1, (hr j (by omega)).2.1, (hr j (by omega)).2.2.1⟩, fun j l hj hl => inj j l (by omega) (by omega), fun _ _ => rfl⟩
  | succ kk ih =>
    intro f g i m R M rr e1 e2 e3 hM hm hr inj
    obtain ⟨f, rfl, -⟩ := q_suc e2
    obtain ⟨g, rfl, -⟩ := q_suc e3
    obtain ⟨a1, a2, a3, a4⟩ := h.2 (p + i) (by omega)
    haveI := Classical.propDecidable (nm n ln x (p + i))
    have mm := q_m97 a4
    have z0 : (0 : Int32).toInt = 0 := rfl
    rw [fX3_readRank_b18, if_neg (nI_ge (by omega) (by omega)), nI_add, if_neg (nI_in (by omega) (by omega)), nI_clamp (by omega), a1, fX5_takesRank_b4, hM, if_neg (nI_ge (by omega) (by omega)), t_nm h hn hM (by omega), Option.bind_some]
    by_cases z : nm n ln x (p + i)
    · have z2 := z.2
      rw [if_pos z, if_neg q_10, if_neg (nI_in (c := p + i) (N := 200) (by omega) (by omega)), nI_clamp (n := p + i) (by omega), a2, if_neg (show ¬ nI (x (p + i)) - 97 < 0 by rw [fa_lt, mm, z0]; omega), if_neg (show ¬ nI n ≤ nI (x (p + i)) - 97 by rw [fa_le, mm, nI_toInt (by omega)]; omega), q_hasBit, q_has, Option.bind_some, Option.bind_some, q_s97 z2.1]
      by_cases y : ((nI m >>> (nI (x (p + i) - 97) &&& 31)) &&& (1 : Int32)) = (1 : Int32)
      · rw [if_pos y, if_neg q_10, if_neg q_10]; exact Or.inr ⟨_, _, _, rfl, rfl⟩
      · have ny : ¬ m.testBit (x (p + i) - 97) = true := fun q => y ((q_bits m (by omega) _ (by omega)).mpr q)
        rw [if_neg y, if_pos rfl, if_pos rfl, if_neg (nI_in (by omega) (by omega)), nI_clamp (show i < 2 ^ 31 by omega), q_add24, if_neg (nI_in (by omega) (by omega)), nI_clamp (by omega), q_upi, q_shl1 _ (by omega), fa_or, nI_1, nI_1]
        have hh := ih f g (i + 1) (m ||| 2 ^ (x (p + i) - 97)) (upd R i (nI (x (p + i) - 97))) (upd M (24 + i) (nI (x (p + i) - 97))) (fun j => if j = i then x (p + i) - 97 else rr j) (by omega) (by omega) (by omega) (by rw [q_upn _ _ (by omega)]; exact hM)
          (Nat.or_lt_two_pow hm (Nat.pow_lt_pow_right (by decide) (by omega)))
          (fun j hj => by
            by_cases q : j = i
            · rw [q, q_upi, q_upi, if_pos rfl, Nat.testBit_or, Nat.testBit_two_pow_self, Bool.or_true]; exact ⟨rfl, rfl, by omega, rfl⟩
            · have := hr j (by omega)
              rw [q_upn _ _ q, q_upn _ _ (by omega), if_neg q, Nat.testBit_or, this.2.2.2, Bool.true_or]; exact ⟨this.1, this.2.1, this.2.2.1, rfl⟩)
          (fun j l hj hl e => by
            by_cases q : j = i
            · by_cases q2 : l = i
              · omega
              · simp only [if_pos q, if_neg q2] at e
                exact absurd (e ▸ (hr l (by omega)).2.2.2) ny
            · by_cases q2 : l = i
              · simp only [if_pos q2, if_neg q] at e
                exact absurd (e ▸ (hr j (by omega)).2.2.2) ny
              · simp only [if_neg q2, if_neg q] at e
                exact inj j l (by omega) (by omega) e)
        rcases hh with ⟨R', M', rr', h1, h2, h3, h4, h5⟩ | hh
        · exact Or.inl ⟨R', M', rr', h1, h2, h3, h4, fun j hj => by rw [h5 j hj, q_upn _ _ (by omega)]⟩
        · exact Or.inr hh
    · rw [if_neg z, if_pos rfl]
      by_cases y : x (p + i) < 97
      · rw [if_pos (show nI (x (p + i)) - 97 < 0 by rw [fa_lt, mm, z0]; omega)]
        exact Or.inr ⟨_, _, _, rfl, rfl⟩
      · have : ¬ x (p + i) < 97 + n := fun q => z ⟨by omega, by omega, q⟩
        rw [if_neg (show ¬ nI (x (p + i)) - 97 < 0 by rw [fa_lt, mm, z0]; omega), if_pos (show nI n ≤ nI (x (p + i)) - 97 by rw [fa_le, mm, nI_toInt (by omega)]; omega)]
        exact Or.inr ⟨_, _, _, rfl, rfl⟩
/-- a fresh council -/
theorem q_bw {cd bl st wd : Int32} {n : Int32} {R : Nat → Int32} : ∀ (kk f i : Nat), i + kk = 8 → kk < f → fX0_beginWith_b22 FU f (nI i) cd bl st wd (fa_fill nI R i) = some (cd, bl, st, wd, fa_fill nI R 8) := by
  intro kk
  induction kk with
  | zero =>
    intro f i h1 h2
    obtain ⟨f, rfl, -⟩ := q_suc h2
    rw [fX0_beginWith_b22, if_pos (show (8 : Int32) ≤ nI i from nI_le (a := 8) (by omega) (by omega)), show i = 8 by omega]
  | succ kk ih =>
    intro f i h1 h2
    obtain ⟨f, rfl, -⟩ := q_suc h2
    have hh := ih f (i + 1) (by omega) (by omega)
    rw [← fa_fill_succ] at hh
    rw [fX0_beginWith_b22, if_neg (show ¬ (8 : Int32) ≤ nI i from nI_ge (b := 8) (by omega) (by omega)), if_neg (nI_in (by omega) (by omega)), nI_clamp (by omega), nI_1]
    exact hh
theorem q_begW (n cd bl st wd : Int32) (R : Nat → Int32) : fX0_beginWith FU n cd bl st wd R = some (n, 0, 3, 0, fa_fill nI R 8) := by
  have := q_bw (cd := n) (bl := 0) (st := 3) (wd := 0) (n := n) (R := R) 8 FU 0 (by omega) (by have := FU_e; omega)
  rw [fa_fill_0] at this
  exact this
def rkM (q i : Nat) (M : Nat → Int32) : Nat → Int32 := fun k => if 24 ≤ k ∧ k < 24 + i then nI (k - 24) else M k
theorem q_33 {q : Nat} (hq : q ≤ 8) {M : Nat → Int32} {sp : Int32} : ∀ (kk f i : Nat), i + kk = q → kk < f → fX5_takesCandidates_b33 FU f (nI i) (rkM q i M) sp (nI q) = some (1, rkM q q M, sp, nI q) := by
  intro kk
  induction kk with
  | zero =>
    intro f i h1 h2
    obtain ⟨f, rfl, -⟩ := q_suc h2
    rw [fX5_takesCandidates_b33, if_pos (nI_le (by omega) (by omega)), show i = q by omega]
  | succ kk ih =>
    intro f i h1 h2
    obtain ⟨f, rfl, -⟩ := q_suc h2
    have hh := ih f (i + 1) (by omega) (by omega)
    have e : upd (rkM q i M) (24 + i) (nI i) = rkM q (i + 1) M := by
      funext k
      by_cases z : k = 24 + i
      · rw [z, q_upi]; unfold rkM; rw [if_pos (by omega)]; congr 1; omega
      · rw [q_upn _ _ z]; unfold rkM
        by_cases y : 24 ≤ k ∧ k < 24 + i
        · rw [if_pos y, if_pos (by omega)]
        · rw [if_neg y, if_neg (by omega)]
    rw [fX5_takesCandidates_b33, if_neg (nI_ge (by omega) (by omega)), q_add24, if_neg (nI_in (by omega) (by omega)), nI_clamp (by omega), nI_1, e]
    exact hh
theorem q_t33 {q : Nat} (hq : q ≤ 8) (M : Nat → Int32) (sp : Int32) : fX5_takesCandidates_b33 FU FU 0 M sp (nI q) = some (1, rkM q q M, sp, nI q) := by
  have := q_33 hq (M := M) (sp := sp) q FU 0 (by omega) (by have := FU_e; omega)
  rw [show rkM q 0 M = M from by funext k; unfold rkM; rw [if_neg (by omega)]] at this
  exact this
end TF
