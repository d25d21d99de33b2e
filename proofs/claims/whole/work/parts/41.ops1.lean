/-! pure rows: more calls that ask -/
section OQ
variable {n b k w : Nat} {V S R T : Nat → Int32} {v s r : Nat → Nat}
variable (O : Nat → Int32) (A B : Nat → Int64) (ee es : Int32) (P : Nat → Int32) (Wo L : Nat → Int64) (u : Int64) (H5 S5 : Nat → Int32) (x5 : Int32) (R5 : Nat → Int32) (L5 : Nat → Int64) (u5 : Int64) (O5 : Nat → Int32) (e5 m5 : Int32) (A5 B5 : Nat → Int64)
theorem LB_bd {e b : Nat} {L : Nat → Int64} {u : Int64} (h : LB e b L u) (he : e ≤ 8) : ∃ (U : Nat) (l : Nat → Nat), u = lN U ∧ 0 < U ∧ U < 2 ^ 58 ∧ ∀ j, j < b → L j = lN (l j) ∧ l j < 2 ^ 58 := by
  obtain ⟨U, l, h1, h2, h3, h4⟩ := h
  have p := q_60 he
  have h5 : e * U ≤ 8 * U := Nat.mul_le_mul_right _ he
  exact ⟨U, l, h1, h2, by omega, fun j hj => ⟨(h4 j hj).1, by have := (h4 j hj).2; omega⟩⟩
theorem o_load (h : CR (nI n) (nI b) (nI k) (nI w) V S R T n b k w v s r) (p q : Int32) : SAME (fX4_load FU p q O A B ee es P Wo L u (nI n) (nI b) (nI k) (nI w) V S R) (fX5_load FU p q T H5 S5 x5 R5 L5 u5 O5 e5 m5 A5 B5) := by
  have hb := h.1.2.2.1
  unfold fX4_load fX5_load
  rcases g_bal p hb h.2.2.1.2.1 with ⟨c, hc, rfl, e1, e2⟩ | ⟨e1, e2⟩
  · rw [e1, e2, Option.bind_some, Option.bind_some, if_neg q_10, if_neg q_10]
    rcases g_part q with ⟨hq, e1, e2⟩ | ⟨e1, e2⟩
    · rw [e1, e2, Option.bind_some, Option.bind_some, if_neg q_10, if_neg q_10]
      obtain ⟨e2', m2, O2, A2, B2, L2, u2, O52, A52, B52, L52, u52, W2, P2, g1, g2, g3⟩ := q_hn (law := 0) (by decide) h O A B ee es P Wo L u H5 S5 R5 L5 u5 O5 e5 m5 A5 B5
      obtain ⟨c1, c2, c3, c4, c5, c6, c7, c8⟩ := g3
      obtain ⟨U, l, y1, y2, y3, y4⟩ := LB_bd c8 c1
      obtain ⟨z1, z2⟩ := y4 c hc
      obtain ⟨rr, r1, r2⟩ := q_part (k := 1) y2 (by omega) (show l c < 2 ^ 60 by omega) (Or.inl rfl) q
      rw [Nat.one_mul, Nat.one_mul] at r2
      rw [show (0 : Int32) = nI 0 from rfl, g1, q_lays h.1.2.1 h.1.2.2.1 h.2.2.1.1 h.2.2.1.2.1, Option.bind_some, Option.bind_some, g2, Option.bind_some]
      dsimp only
      rw [if_neg (show ¬ (nI c < nI 0 ∨ 11 ≤ (nI c).toNatClampNeg) from nI_in (by omega) (by omega)), if_neg (show ¬ (nI c < nI 0 ∨ 11 ≤ (nI c).toNatClampNeg) from nI_in (by omega) (by omega)), nI_clamp (by omega), ← c6 c hc, ← c7, z1, y1, r1, r2, Option.bind_some, Option.bind_some]
      exact ⟨_, _, _, rfl, rfl⟩
    · rw [e1, e2, Option.bind_some, Option.bind_some, if_pos rfl, if_pos rfl]
      exact ⟨_, _, _, rfl, rfl⟩
  · rw [e1, e2, Option.bind_some, Option.bind_some, if_pos rfl, if_pos rfl]
    exact ⟨_, _, _, rfl, rfl⟩
theorem q_gr {U : Nat} {l : Nat → Nat} {u2 u52 : Int64} {L2 L52 : Nat → Int64} (hb : b ≤ 10) (y1 : u2 = lN U) (y2 : 0 < U) (y3 : U < 2 ^ 58) (y4 : ∀ j, j < b → L2 j = lN (l j) ∧ l j < 2 ^ 58) (c6 : ∀ j, j < b → L2 j = L52 j) (c7 : u2 = u52) (p : Int32) (O2 : Nat → Int32) (A2 B2 : Nat → Int64) (e2 m2 : Int32) (P2 : Nat → Int32) (W2 : Nat → Int64) (H5 S5 R5 O5 : Nat → Int32) (e5 m5 : Int32) (A5 B5 : Nat → Int64) :
    ∀ (kk fC fR i X : Nat), i + kk = b → kk < fC → kk < fR → X < 2 ^ 58 → SAME (fX4_greatest_b29 FU fC p (lN X) (nI i) O2 A2 B2 e2 m2 P2 W2 L2 u2 (nI b)) (fX5_greatest_b25 FU fR p (lN X) (nI i) H5 S5 (nI b) R5 L52 u52 O5 e5 m5 A5 B5) := by
  intro kk
  induction kk with
  | zero =>
    intro fC fR i X hi h1 h2 hX
    obtain ⟨fC, rfl, -⟩ := q_suc h1
    obtain ⟨fR, rfl, -⟩ := q_suc h2
    obtain ⟨rr, r1, r2⟩ := q_part (k := 1) y2 (by omega) (show X < 2 ^ 60 by omega) (Or.inl rfl) p
    rw [Nat.one_mul, Nat.one_mul] at r2
    rw [fX4_greatest_b29, fX5_greatest_b25, if_pos (nI_le (by omega) (by omega)), if_pos (nI_le (by omega) (by omega)), fX4_greatest_b62, fX5_greatest_b64, ← c7, y1, r1, r2, Option.bind_some, Option.bind_some]
    exact ⟨_, _, _, rfl, rfl⟩
  | succ kk ih =>
    intro fC fR i X hi h1 h2 hX
    obtain ⟨fC, rfl, -⟩ := q_suc h1
    obtain ⟨fR, rfl, -⟩ := q_suc h2
    obtain ⟨z1, z2⟩ := y4 i (by omega)
    rw [fX4_greatest_b29, fX5_greatest_b25, if_neg (nI_ge (by omega) (by omega)), if_neg (nI_ge (by omega) (by omega)), if_neg (nI_in (by omega) (by omega)), if_neg (nI_in (by omega) (by omega)), nI_clamp (by omega), fX5_greatest_b57, fX5_greatest_b57, nI_1]
    have zz := c6 i (by omega)
    by_cases q : lN X < lN (l i)
    · have f2 : ¬ lg_cmp (L52 i) (lN X) ≤ 0 := by rw [← zz, z1]; exact fun e => (q_cmp_le _ _).mp e q
      have f1 : ¬ L2 i < lN X := by rw [z1]; exact lg_lt_not q
      rw [if_neg f1, if_neg f2, ← zz, z1]
      exact ih fC fR (i + 1) (l i) (by omega) (by omega) (by omega) z2
    · have f2 : lg_cmp (L52 i) (lN X) ≤ 0 := by rw [← zz, z1]; exact (q_cmp_le _ _).mpr q
      rw [if_pos f2]
      by_cases q2 : L2 i < lN X
      · rw [if_pos q2]
        exact ih fC fR (i + 1) X (by omega) (by omega) (by omega) hX
      · rw [if_neg q2]
        have e : L2 i = lN X := by
          rw [z1] at q2 ⊢
          rw [pk_lLT (by omega) (by omega)] at q q2
          rw [show l i = X by omega]
        rw [e]
        exact ih fC fR (i + 1) X (by omega) (by omega) (by omega) hX
theorem o_greatest (h : CR (nI n) (nI b) (nI k) (nI w) V S R T n b k w v s r) (p : Int32) : SAME (fX4_greatest FU p O A B ee es P Wo L u (nI n) (nI b) (nI k) (nI w) V S R) (fX5_greatest FU p T H5 S5 x5 R5 L5 u5 O5 e5 m5 A5 B5) := by
  have hF := FU_e
  have hb := h.1.2.2.1
  unfold fX4_greatest fX5_greatest
  rcases g_part p with ⟨hq, e1, e2⟩ | ⟨e1, e2⟩
  · rw [e1, e2, Option.bind_some, Option.bind_some, if_neg q_10, if_neg q_10]
    obtain ⟨e2', m2, O2, A2, B2, L2, u2, O52, A52, B52, L52, u52, W2, P2, g1, g2, g3⟩ := q_hn (law := 0) (by decide) h O A B ee es P Wo L u H5 S5 R5 L5 u5 O5 e5 m5 A5 B5
    obtain ⟨c1, c2, c3, c4, c5, c6, c7, c8⟩ := g3
    obtain ⟨U, l, y1, y2, y3, y4⟩ := LB_bd c8 c1
    rw [show (0 : Int32) = nI 0 from rfl, g1, q_lays h.1.2.1 h.1.2.2.1 h.2.2.1.1 h.2.2.1.2.1, Option.bind_some, Option.bind_some, g2, Option.bind_some]
    dsimp only
    exact q_gr hb y1 y2 y3 y4 c6 c7 p O2 A2 B2 (nI e2') (nI m2) P2 W2 _ _ _ _ _ _ _ _ b FU FU 0 0 (by omega) (by omega) (by omega) (by decide)
  · rw [e1, e2, Option.bind_some, Option.bind_some, if_pos rfl, if_pos rfl]
    exact ⟨_, _, _, rfl, rfl⟩
/-- groups -/
theorem q_agr2 (h : CR (nI n) (nI b) (nI k) (nI w) V S R T n b k w v s r) (p : Int32) : ∃ x : Int32, fX0_votersWhoAgree FU p (nI b) V S = some x ∧ fX5_agreed FU p T = some x := by
  have hb := h.1.2.2.1
  refine ⟨_, q_vwa p (by omega) V S, ?_⟩
  rw [q_agd p (by omega) h.2.2.1.2.1]
  congr 1
  exact smI_cong (fun j hj => by rw [(h.2.2.2.1 j hj).1, (h.2.2.2.1 j hj).2.1, (h.2.2.2.2.1 j hj).1, (h.2.2.2.2.1 j hj).2.1])
theorem q_all2 (h : CR (nI n) (nI b) (nI k) (nI w) V S R T n b k w v s r) : fX0_allVoters FU (nI b) V S = some (nI (fb_sm v b)) ∧ fX5_allVoters FU T = some (nI (fb_sm v b)) := by
  have hb := h.1.2.2.1
  rw [q_all0 (by omega), q_all5 (by omega) h.2.2.1.2.1]
  exact ⟨by rw [smI_nI (fun j hj => (h.2.2.2.1 j hj).1)], by rw [smI_nI (fun j hj => (h.2.2.2.1 j hj).2.1)]⟩
theorem q_uni2 (h : CR (nI n) (nI b) (nI k) (nI w) V S R T n b k w v s r) (p : Int32) : ∃ x : Nat, x < 256 ∧ fX0_approvedByThoseWhoAgree FU p (nI b) S = some (nI x) ∧ fX5_unionOf FU p T = some (nI x) := by
  have hb := h.1.2.2.1
  have h8 := q_pn h.1.2.1
  have hs := h.2.2.2.2.1
  have key : ∀ i, i ≤ b → ∃ x : Nat, x < 256 ∧ orI (fun j => if S j &&& p = p then S j else 0) i = nI x := by
    intro i
    induction i with
    | zero => exact fun _ => ⟨0, by decide, rfl⟩
    | succ i ih =>
      intro hi
      obtain ⟨x, hx, e⟩ := ih (by omega)
      have s1 := (hs i (by omega)).1
      have s2 := (hs i (by omega)).2.2.2
      rw [orI_s, e]
      by_cases q : S i &&& p = p
      · rw [if_pos q, s1, fa_or]
        exact ⟨_, Nat.or_lt_two_pow (n := 8) hx (by omega), rfl⟩
      · rw [if_neg q, Int32.or_zero]
        exact ⟨x, hx, rfl⟩
  obtain ⟨x, hx, e⟩ := key b (Nat.le_refl b)
  refine ⟨x, hx, by rw [q_abt p (by omega), e], ?_⟩
  rw [q_uni p (by omega) h.2.2.1.2.1, ← e]
  congr 1
  exact orI_cong (fun j hj => by rw [(hs j hj).1, (hs j hj).2.1])
theorem q_owed (h : CR (nI n) (nI b) (nI k) (nI w) V S R T n b k w v s r) {q : Nat} (hq : q < 256) : fX0_isOwed FU (nI q) (nI b) (nI k) V S = fX5_isOwed FU (nI q) T := by
  obtain ⟨x, e1, e2⟩ := q_agr2 h (nI q)
  obtain ⟨a1, a2⟩ := q_all2 h
  unfold fX0_isOwed fX5_isOwed
  rw [e1, e2, a1, a2, q_bc q hq, q_ones q hq, h.2.2.1.2.2.1]
theorem q_owed01 (q : Int32) (T : Nat → Int32) {z : Int32} (h : fX5_isOwed FU q T = some z) : z = 0 ∨ z = 1 := by
  unfold fX5_isOwed at h
  obtain ⟨u1, -, h⟩ := zk_bd h
  split at h
  · cases h; exact Or.inl rfl
  · obtain ⟨u2, -, h⟩ := zk_bd h
    obtain ⟨u3, -, h⟩ := zk_bd h
    split at h
    · cases h; exact Or.inl rfl
    · cases h; exact Or.inr rfl
theorem q_owedS (h : CR (nI n) (nI b) (nI k) (nI w) V S R T n b k w v s r) {q : Nat} (hq : q < 256) : ∃ z, (z = 0 ∨ z = 1) ∧ fX0_isOwed FU (nI q) (nI b) (nI k) V S = some z ∧ fX5_isOwed FU (nI q) T = some z := by
  have e := q_owed h hq
  obtain ⟨x, -, e2⟩ := q_agr2 h (nI q)
  obtain ⟨a1, a2⟩ := q_all2 h
  have hz : ∃ z, fX5_isOwed FU (nI q) T = some z := by
    unfold fX5_isOwed
    rw [e2, Option.bind_some, a2, q_ones q hq]
    split
    · exact ⟨_, rfl⟩
    · rw [Option.bind_some, Option.bind_some]
      split
      · exact ⟨_, rfl⟩
      · exact ⟨_, rfl⟩
  obtain ⟨z, hz⟩ := hz
  exact ⟨z, q_owed01 _ _ hz, by rw [e, hz], hz⟩
theorem o_agrees (h : CR (nI n) (nI b) (nI k) (nI w) V S R T n b k w v s r) (p q : Int32) : SAME (fX4_agrees FU p q O A B ee es P Wo L u (nI n) (nI b) (nI k) (nI w) V S R) (fX5_agrees FU p q T H5 S5 x5 R5 L5 u5 O5 e5 m5 A5 B5) := by
  have h8 := q_pn h.1.2.1
  unfold fX4_agrees fX5_agrees
  rcases g_set p h.1.1 h.1.2.1 h.2.2.1.1 with ⟨c, hc1, hc, rfl, e1, e2⟩ | ⟨e1, e2⟩
  · rw [e1, e2, Option.bind_some, Option.bind_some, if_neg q_10, if_neg q_10]
    rcases g_05 q with ⟨z1, z2⟩ | ⟨z1, z2, z3⟩ | ⟨z1, z2, z3, z4⟩
    · rw [if_pos z1, z2, Option.bind_some, if_pos rfl]
      exact ⟨_, _, _, rfl, rfl⟩
    · rw [if_neg z1, if_neg z2, z3, Option.bind_some, if_pos rfl]
      exact ⟨_, _, _, rfl, rfl⟩
    · rw [if_neg z1, if_pos z2, z3, Option.bind_some, if_neg q_10]
      rcases z4 with rfl | rfl | ⟨l, hl, rfl⟩
      · obtain ⟨x, k1, k2⟩ := q_agr2 h (nI c)
        rw [if_pos rfl, if_pos rfl, k1, k2, Option.bind_some, Option.bind_some]
        exact ⟨_, _, _, rfl, rfl⟩
      · obtain ⟨z, hz, k1, k2⟩ := q_owedS h (show c < 256 by omega)
        rw [if_neg q_10, if_neg q_10, if_pos rfl, if_pos rfl, k1, k2, Option.bind_some, Option.bind_some]
        rcases hz with rfl | rfl
        · rw [if_pos rfl, if_pos rfl]; exact ⟨_, _, _, rfl, rfl⟩
        · rw [if_neg q_10, if_neg q_10]; exact ⟨_, _, _, rfl, rfl⟩
      · obtain ⟨e2', m2, O2, A2, B2, L2, u2, O52, A52, B52, L52, u52, W2, P2, g1, g2, g3⟩ := q_mb hl h O A B ee es P Wo L u H5 S5 x5 R5 L5 u5 O5 e5 m5 A5 B5
        obtain ⟨x, hx, k1, k2⟩ := q_uni2 h (nI c)
        rw [if_neg (q_l2 hl).1, if_neg (q_l2 hl).1, if_neg (q_l2 hl).2, if_neg (q_l2 hl).2, q_sub2 hl, g1, k1, k2, Option.bind_some, Option.bind_some, Option.bind_some, g2, Option.bind_some]
        dsimp only
        rw [fa_and, fa_and, q_bc _ (q_and256 g3.2.1), q_ones _ (q_and256 hx), Option.bind_some, Option.bind_some, Nat.and_comm]
        exact ⟨_, _, _, rfl, rfl⟩
  · rw [e1, e2, Option.bind_some, Option.bind_some, if_pos rfl, if_pos rfl]
    exact ⟨_, _, _, rfl, rfl⟩
end OQ
