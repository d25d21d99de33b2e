/-! pure rows: the calls that ask -/
def SAME {α β γ : Type} (f : Option (α × β)) (g : Option (α × γ)) : Prop := ∃ (r : α) (a : β) (b : γ), f = some (r, a) ∧ g = some (r, b)
section OP
variable {n b k w : Nat} {V S R T : Nat → Int32} {v s r : Nat → Nat}
theorem q_hn {law : Nat} (hl : law < 4) (h : CR (nI n) (nI b) (nI k) (nI w) V S R T n b k w v s r) (O : Nat → Int32) (A B : Nat → Int64) (ee es : Int32) (P : Nat → Int32) (Wo L : Nat → Int64) (u : Int64) (H5 S5 R5 : Nat → Int32) (L5 : Nat → Int64) (u5 : Int64) (O5 : Nat → Int32) (e5 m5 : Int32) (A5 B5 : Nat → Int64) :
    ∃ (e2 m2 : Nat) (O2 : Nat → Int32) (A2 B2 L2 : Nat → Int64) (u2 : Int64) (O52 : Nat → Int32) (A52 B52 L52 : Nat → Int64) (u52 : Int64) (W2 : Nat → Int64) (P2 : Nat → Int32),
      fX1_hold FU (nI law) O A B ee es P Wo L u (nI n) (nI b) (nI k) (nI w) V S R = some (nI m2, O2, A2, B2, nI e2, nI m2, P2, W2, L2, u2) ∧
      fX5_elects FU (nI law) T (fa_fill (fun j => T (2 + j)) H5 b) (fa_fill (fun j => T (12 + j)) S5 b) (nI b) (fa_fill (fun j => T (24 + j)) R5 n) L5 u5 O5 e5 m5 A5 B5 = some (L52, u52, O52, nI e2, nI m2, A52, B52) ∧ ER b b e2 m2 O2 A2 B2 L2 u2 O52 A52 B52 L52 u52 :=
  q_hold hl h.ep (h.ep5 H5 S5 R5) (Nat.le_refl b) (fun j h1 h2 => absurd h2 (by omega)) h.2.2.1.1 h.2.2.1.2.2.2 h.2.2.1.2.2.1 h.1.2.2.2.2.1 O A B ee es P Wo L u O5 A5 B5 L5 u5 e5 m5
theorem q_mb {law : Nat} (hl : law < 4) (h : CR (nI n) (nI b) (nI k) (nI w) V S R T n b k w v s r) (O : Nat → Int32) (A B : Nat → Int64) (ee es : Int32) (P : Nat → Int32) (Wo L : Nat → Int64) (u : Int64) (H5 S5 : Nat → Int32) (x5 : Int32) (R5 : Nat → Int32) (L5 : Nat → Int64) (u5 : Int64) (O5 : Nat → Int32) (e5 m5 : Int32) (A5 B5 : Nat → Int64) :
    ∃ (e2 m2 : Nat) (O2 : Nat → Int32) (A2 B2 L2 : Nat → Int64) (u2 : Int64) (O52 : Nat → Int32) (A52 B52 L52 : Nat → Int64) (u52 : Int64) (W2 : Nat → Int64) (P2 : Nat → Int32),
      fX1_hold FU (nI law) O A B ee es P Wo L u (nI n) (nI b) (nI k) (nI w) V S R = some (nI m2, O2, A2, B2, nI e2, nI m2, P2, W2, L2, u2) ∧
      fX5_membersBy FU (nI law) T H5 S5 x5 R5 L5 u5 O5 e5 m5 A5 B5 = some (nI m2, fa_fill (fun j => T (2 + j)) H5 b, fa_fill (fun j => T (12 + j)) S5 b, nI b, fa_fill (fun j => T (24 + j)) R5 n, L52, u52, O52, nI e2, nI m2, A52, B52) ∧ ER b b e2 m2 O2 A2 B2 L2 u2 O52 A52 B52 L52 u52 := by
  obtain ⟨e2, m2, O2, A2, B2, L2, u2, O52, A52, B52, L52, u52, W2, P2, g1, g2, g3⟩ := q_hn hl h O A B ee es P Wo L u H5 S5 R5 L5 u5 O5 e5 m5 A5 B5
  refine ⟨e2, m2, O2, A2, B2, L2, u2, O52, A52, B52, L52, u52, W2, P2, g1, ?_, g3⟩
  unfold fX5_membersBy
  rw [q_lays h.1.2.1 h.1.2.2.1 h.2.2.1.1 h.2.2.1.2.1, Option.bind_some, g2, Option.bind_some]
variable (O : Nat → Int32) (A B : Nat → Int64) (ee es : Int32) (P : Nat → Int32) (Wo L : Nat → Int64) (u : Int64) (H5 S5 : Nat → Int32) (x5 : Int32) (R5 : Nat → Int32) (L5 : Nat → Int64) (u5 : Int64) (O5 : Nat → Int32) (e5 m5 : Int32) (A5 B5 : Nat → Int64)
theorem o_members (h : CR (nI n) (nI b) (nI k) (nI w) V S R T n b k w v s r) (p : Int32) : SAME (fX4_members FU p O A B ee es P Wo L u (nI n) (nI b) (nI k) (nI w) V S R) (fX5_members FU p T H5 S5 x5 R5 L5 u5 O5 e5 m5 A5 B5) := by
  unfold fX4_members fX5_members
  rcases g_law p with ⟨l, hl, rfl, e1, e2⟩ | ⟨e1, e2⟩
  · obtain ⟨e2', m2, O2, A2, B2, L2, u2, O52, A52, B52, L52, u52, W2, P2, g1, g2, g3⟩ := q_mb hl h O A B ee es P Wo L u H5 S5 x5 R5 L5 u5 O5 e5 m5 A5 B5
    rw [e1, e2, Option.bind_some, Option.bind_some, if_neg q_10, if_neg q_10, g1, g2, Option.bind_some, Option.bind_some]
    exact ⟨_, _, _, rfl, rfl⟩
  · rw [e1, e2, Option.bind_some, Option.bind_some, if_pos rfl, if_pos rfl]
    exact ⟨_, _, _, rfl, rfl⟩
theorem o_member (h : CR (nI n) (nI b) (nI k) (nI w) V S R T n b k w v s r) (p i : Int32) : SAME (fX4_member FU p i O A B ee es P Wo L u (nI n) (nI b) (nI k) (nI w) V S R) (fX5_member FU p i T H5 S5 x5 R5 L5 u5 O5 e5 m5 A5 B5) := by
  unfold fX4_member fX5_member
  rcases g_law p with ⟨l, hl, rfl, e1, e2⟩ | ⟨e1, e2⟩
  · rw [e1, e2, Option.bind_some, Option.bind_some, if_neg q_10, if_neg q_10]
    by_cases z : (-1 : Int32) ≤ i
    · obtain ⟨e2', m2, O2, A2, B2, L2, u2, O52, A52, B52, L52, u52, W2, P2, g1, g2, g3⟩ := q_mb hl h O A B ee es P Wo L u H5 S5 x5 R5 L5 u5 O5 e5 m5 A5 B5
      obtain ⟨c1, c2, c3, c4, -⟩ := g3
      rw [if_pos z, if_pos z, g1, g2, Option.bind_some, Option.bind_some]
      dsimp only
      by_cases z1 : i = -1
      · rw [if_pos z1, if_pos z1, q_ones m2 c2, Option.bind_some, c3]
        exact ⟨_, _, _, rfl, rfl⟩
      · rw [if_neg z1, if_neg z1]
        by_cases z2 : nI e2' ≤ i
        · rw [if_pos z2, if_pos z2]
          exact ⟨_, _, _, rfl, rfl⟩
        · rw [if_neg z2, if_neg z2]
          have he : (nI e2').toInt = e2' := nI_toInt (by omega)
          obtain ⟨j, hj, rfl⟩ := q_nIof (p := i) (n := e2') (by rw [fa_le] at z; rw [fa_eq] at z1; have q1 : (-1 : Int32).toInt = -1 := rfl; omega) (by rw [fa_le] at z2; omega) (by omega)
          rw [if_neg (nI_in (by omega) (by omega)), if_neg (nI_in (by omega) (by omega)), nI_clamp (by omega), c4 j hj]
          exact ⟨_, _, _, rfl, rfl⟩
    · rw [if_neg z, if_neg z]
      exact ⟨_, _, _, rfl, rfl⟩
  · rw [e1, e2, Option.bind_some, Option.bind_some, if_pos rfl, if_pos rfl]
    exact ⟨_, _, _, rfl, rfl⟩
theorem o_both (h : CR (nI n) (nI b) (nI k) (nI w) V S R T n b k w v s r) (p q : Int32) : SAME (fX4_both FU p q O A B ee es P Wo L u (nI n) (nI b) (nI k) (nI w) V S R) (fX5_both FU p q T H5 S5 x5 R5 L5 u5 O5 e5 m5 A5 B5) := by
  unfold fX4_both fX5_both
  rcases g_law p with ⟨l, hl, rfl, e1, e2⟩ | ⟨e1, e2⟩
  · rw [e1, e2, Option.bind_some, Option.bind_some, if_neg q_10, if_neg q_10]
    rcases g_law q with ⟨l2, hl2, rfl, e1, e2⟩ | ⟨e1, e2⟩
    · rw [e1, e2, Option.bind_some, Option.bind_some, if_neg q_10, if_neg q_10]
      obtain ⟨e2', m2, O2, A2, B2, L2, u2, O52, A52, B52, L52, u52, W2, P2, g1, g2, g3⟩ := q_mb hl h O A B ee es P Wo L u H5 S5 x5 R5 L5 u5 O5 e5 m5 A5 B5
      rw [g1, g2, Option.bind_some, Option.bind_some]
      dsimp only
      obtain ⟨e3', m3, O3, A3, B3, L3, u3, O53, A53, B53, L53, u53, W3, P3, k1, k2, k3⟩ := q_mb hl2 h O2 A2 B2 (nI e2') (nI m2) P2 W2 L2 u2 (fa_fill (fun j => T (2 + j)) H5 b) (fa_fill (fun j => T (12 + j)) S5 b) (nI b) (fa_fill (fun j => T (24 + j)) R5 n) L52 u52 O52 (nI e2') (nI m2) A52 B52
      rw [k1, k2, Option.bind_some, Option.bind_some]
      dsimp only
      have hm : m2 &&& m3 < 256 := q_and256 g3.2.1
      rw [fa_and, q_bc _ hm, q_ones _ hm, Option.bind_some, Option.bind_some]
      exact ⟨_, _, _, rfl, rfl⟩
    · rw [e1, e2, Option.bind_some, Option.bind_some, if_pos rfl, if_pos rfl]
      exact ⟨_, _, _, rfl, rfl⟩
  · rw [e1, e2, Option.bind_some, Option.bind_some, if_pos rfl, if_pos rfl]
    exact ⟨_, _, _, rfl, rfl⟩
theorem q_sub2 {l : Nat} (hl : l < 4) : nI (l + 2) - 2 = nI l := by
  have := pk_sub (a := l + 2) (b := 2) (by omega)
  exact this
/-- a number from 0 to 5: 0, 1, or a law and 2 -/
theorem g_05 (p : Int32) : (p < 0 ∧ fX5_in FU p 0 5 = some 0) ∨ (¬ p < 0 ∧ ¬ p ≤ 5 ∧ fX5_in FU p 0 5 = some 0) ∨ (¬ p < 0 ∧ p ≤ 5 ∧ fX5_in FU p 0 5 = some 1 ∧ (p = 0 ∨ p = 1 ∨ ∃ l, l < 4 ∧ p = nI (l + 2))) := by
  have h0 : (0 : Int32).toInt = 0 := rfl
  have h5 : (5 : Int32).toInt = 5 := rfl
  rw [fa_lt, fa_le]
  rcases g_int p 0 5 with ⟨q1, q2, q3⟩ | ⟨q1, q3⟩
  · refine Or.inr (Or.inr ⟨by omega, by omega, q3, ?_⟩)
    obtain ⟨j, hj, rfl⟩ := q_nIof (p := p) (n := 6) (by omega) (by omega) (by omega)
    rcases (show j = 0 ∨ j = 1 ∨ 2 ≤ j by omega) with rfl | rfl | hj2
    · exact Or.inl rfl
    · exact Or.inr (Or.inl rfl)
    · exact Or.inr (Or.inr ⟨j - 2, by omega, by rw [Nat.sub_add_cancel hj2]⟩)
  · by_cases z : p.toInt < 0
    · exact Or.inl ⟨by omega, q3⟩
    · exact Or.inr (Or.inl ⟨by omega, by omega, q3⟩)
theorem q_l2 {l : Nat} (hl : l < 4) : ¬ nI (l + 2) = 0 ∧ ¬ nI (l + 2) = 1 := ⟨nI_ne0 (by omega) (by omega), fun e => by have := (nI_eq (a := l + 2) (b := 1) (by omega) (by omega)).mp e; omega⟩
theorem o_vote (h : CR (nI n) (nI b) (nI k) (nI w) V S R T n b k w v s r) (p q : Int32) : SAME (fX4_vote FU p q O A B ee es P Wo L u (nI n) (nI b) (nI k) (nI w) V S R) (fX5_vote FU p q T H5 S5 x5 R5 L5 u5 O5 e5 m5 A5 B5) := by
  have hb := h.1.2.2.1
  have h8 := q_pn h.1.2.1
  unfold fX4_vote fX5_vote
  rcases g_bal p hb h.2.2.1.2.1 with ⟨c, hc, rfl, e1, e2⟩ | ⟨e1, e2⟩
  · rw [e1, e2, Option.bind_some, Option.bind_some, if_neg q_10, if_neg q_10]
    obtain ⟨v1, v2, v3, v4⟩ := h.2.2.2.1 c hc
    obtain ⟨s1, s2, s3, s4⟩ := h.2.2.2.2.1 c hc
    have kc : ¬ (nI c < 0 ∨ 11 ≤ (nI c).toNatClampNeg) := nI_in (by omega) (by omega)
    have k2 : ¬ (nI (2 + c) < 0 ∨ 32 ≤ (nI (2 + c)).toNatClampNeg) := nI_in (by omega) (by omega)
    have k12 : ¬ (nI (12 + c) < 0 ∨ 32 ≤ (nI (12 + c)).toNatClampNeg) := nI_in (by omega) (by omega)
    have ec : (nI c).toNatClampNeg = c := nI_clamp (by omega)
    have ec2 : (nI (2 + c)).toNatClampNeg = 2 + c := nI_clamp (by omega)
    have ec12 : (nI (12 + c)).toNatClampNeg = 12 + c := nI_clamp (by omega)
    rcases g_05 q with ⟨z1, z2⟩ | ⟨z1, z2, z3⟩ | ⟨z1, z2, z3, z4⟩
    · rw [if_pos z1, z2, Option.bind_some, if_pos rfl]
      exact ⟨_, _, _, rfl, rfl⟩
    · rw [if_neg z1, if_neg z2, z3, Option.bind_some, if_pos rfl]
      exact ⟨_, _, _, rfl, rfl⟩
    · rw [if_neg z1, if_pos z2, z3, Option.bind_some, if_neg q_10, q_add2, q_add12]
      rcases z4 with rfl | rfl | ⟨l, hl, rfl⟩
      · rw [if_pos rfl, if_pos rfl, if_neg kc, if_neg k2, ec, ec2, v1, v2]
        exact ⟨_, _, _, rfl, rfl⟩
      · rw [if_neg q_10, if_neg q_10, if_pos rfl, if_pos rfl, if_neg kc, if_neg k12, ec, ec12, s1, s2]
        exact ⟨_, _, _, rfl, rfl⟩
      · obtain ⟨e2', m2, O2, A2, B2, L2, u2, O52, A52, B52, L52, u52, W2, P2, g1, g2, g3⟩ := q_mb hl h O A B ee es P Wo L u H5 S5 x5 R5 L5 u5 O5 e5 m5 A5 B5
        rw [if_neg (q_l2 hl).1, if_neg (q_l2 hl).1, if_neg (q_l2 hl).2, if_neg (q_l2 hl).2, if_neg k12, q_sub2 hl, g1, g2, Option.bind_some, Option.bind_some, if_neg kc, ec, ec12, s1, s2]
        dsimp only
        have hm : m2 &&& s c < 256 := q_and256 g3.2.1
        have hm2 : s c &&& m2 < 256 := q_and256 (by omega)
        rw [fa_and, fa_and, q_bc _ hm, q_ones _ hm2, Option.bind_some, Option.bind_some, Nat.and_comm]
        exact ⟨_, _, _, rfl, rfl⟩
  · rw [e1, e2, Option.bind_some, Option.bind_some, if_pos rfl, if_pos rfl]
    exact ⟨_, _, _, rfl, rfl⟩
theorem o_came (h : CR (nI n) (nI b) (nI k) (nI w) V S R T n b k w v s r) (p i q : Int32) : SAME (fX4_came FU p i q O A B ee es P Wo L u (nI n) (nI b) (nI k) (nI w) V S R) (fX5_came FU p i q T H5 S5 x5 R5 L5 u5 O5 e5 m5 A5 B5) := by
  unfold fX4_came fX5_came
  rcases g_law p with ⟨l, hl, rfl, e1, e2⟩ | ⟨e1, e2⟩
  · rw [e1, e2, Option.bind_some, Option.bind_some, if_neg q_10, if_neg q_10]
    by_cases z : i < 0
    · rw [if_pos z, if_pos z]; exact ⟨_, _, _, rfl, rfl⟩
    · rw [if_neg z, if_neg z]
      rcases g_part q with ⟨hq, e1, e2⟩ | ⟨e1, e2⟩
      · rw [e1, e2, Option.bind_some, Option.bind_some, if_neg q_10, if_neg q_10]
        obtain ⟨e2', m2, O2, A2, B2, L2, u2, O52, A52, B52, L52, u52, W2, P2, g1, g2, g3⟩ := q_hn hl h O A B ee es P Wo L u H5 S5 R5 L5 u5 O5 e5 m5 A5 B5
        obtain ⟨c1, c2, c3, c4, c5, -⟩ := g3
        rw [g1, q_lays h.1.2.1 h.1.2.2.1 h.2.2.1.1 h.2.2.1.2.1, Option.bind_some, Option.bind_some, g2, Option.bind_some]
        dsimp only
        by_cases z2 : nI e2' ≤ i
        · rw [if_pos z2, if_pos z2]; exact ⟨_, _, _, rfl, rfl⟩
        · have he : (nI e2').toInt = e2' := nI_toInt (by omega)
          obtain ⟨j, hj, rfl⟩ := q_nIof (p := i) (n := e2') (by rw [fa_lt] at z; have q1 : (0 : Int32).toInt = 0 := rfl; omega) (by rw [fa_le] at z2; omega) (by omega)
          rw [if_neg z2, if_neg z2, if_neg (nI_in (by omega) (by omega)), if_neg (nI_in (by omega) (by omega)), nI_clamp (by omega)]
          rcases c5 j hj with ⟨b1, b2⟩ | ⟨X, Y, kk, y1, y2, y3, y4, y5, y6, y7, y8⟩
          · have f1 : lg_cmp (B2 j) 0 = 0 := by rw [b1]; exact (q_cmp_eq _ _).mpr rfl
            have f2 : lg_cmp (B52 j) 0 ≤ 0 := by rw [b2]; decide
            rw [if_pos f1, if_pos f2]
            exact ⟨_, _, _, rfl, rfl⟩
          · obtain ⟨rr, r1, r2⟩ := q_part y1 (by omega) y3 y4 q
            have ky : kk * Y < 2 ^ 63 := by rcases y4 with rfl | rfl <;> omega
            have ky0 : 0 < kk * Y := Nat.mul_pos (by rcases y4 with rfl | rfl <;> omega) y1
            have f1 : ¬ lg_cmp (B2 j) 0 = 0 := by
              rw [y6]
              intro e
              have := (q_lz (by omega)).mp ((q_cmp_eq _ _).mp e)
              omega
            have f2 : ¬ lg_cmp (B52 j) 0 ≤ 0 := by
              rw [y8]
              exact fun e => (q_cmp_le _ _).mp e ((pk_lLT (a := 0) (by omega) ky).mpr ky0)
            rw [if_neg f1, if_neg f2, y5, y6, y7, y8, r1, r2, Option.bind_some, Option.bind_some]
            exact ⟨_, _, _, rfl, rfl⟩
      · rw [e1, e2, Option.bind_some, Option.bind_some, if_pos rfl, if_pos rfl]
        exact ⟨_, _, _, rfl, rfl⟩
  · rw [e1, e2, Option.bind_some, Option.bind_some, if_pos rfl, if_pos rfl]
    exact ⟨_, _, _, rfl, rfl⟩
end OP
