/-! pure rows: shorts, candidate, count -/
section OS
variable {n b k w : Nat} {V S R T : Nat → Int32} {v s r : Nat → Nat}
variable (O : Nat → Int32) (A B : Nat → Int64) (ee es : Int32) (P : Nat → Int32) (Wo L : Nat → Int64) (u : Int64) (H5 S5 : Nat → Int32) (x5 : Int32) (R5 : Nat → Int32) (L5 : Nat → Int64) (u5 : Int64) (O5 : Nat → Int32) (e5 m5 : Int32) (A5 B5 : Nat → Int64)
/-- one set: short or not, by both -/
theorem q_short (h : CR (nI n) (nI b) (nI k) (nI w) V S R T n b k w v s r) {q m : Nat} (hq : q < 256) (hm : m < 256) : (fX0_isShort FU (nI q) (nI m) (nI b) (nI k) V S = some 0 ∧ (fX5_isOwed FU (nI q) T = some 0 ∨ ∃ x y : Int32, fX5_isOwed FU (nI q) T = some 1 ∧ ∃ z, fX5_unionOf FU (nI q) T = some z ∧ fX5_ones FU (z &&& nI m) = some x ∧ fX5_ones FU (nI q) = some y ∧ y ≤ x)) ∨
    (fX0_isShort FU (nI q) (nI m) (nI b) (nI k) V S = some 1 ∧ ∃ x y : Int32, fX5_isOwed FU (nI q) T = some 1 ∧ ∃ z, fX5_unionOf FU (nI q) T = some z ∧ fX5_ones FU (z &&& nI m) = some x ∧ fX5_ones FU (nI q) = some y ∧ ¬ y ≤ x) := by
  obtain ⟨z, hz, k1, k2⟩ := q_owedS h hq
  obtain ⟨x, hx, u1, u2⟩ := q_uni2 h (nI q)
  unfold fX0_isShort
  rw [k1, Option.bind_some]
  rcases hz with rfl | rfl
  · rw [if_pos rfl]
    exact Or.inl ⟨rfl, Or.inl k2⟩
  · have hc : m &&& x = x &&& m := Nat.and_comm _ _
    rw [if_neg q_10, u1, Option.bind_some, fa_and, q_bc _ (q_and256 hm), q_bc q hq, Option.bind_some, Option.bind_some, hc]
    by_cases hle : nI (bcN q) ≤ nI (bcN (x &&& m))
    · rw [if_pos hle]
      exact Or.inl ⟨rfl, Or.inr ⟨_, _, k2, nI x, u2, by rw [fa_and]; exact q_ones _ (q_and256 hx), q_ones q hq, hle⟩⟩
    · rw [if_neg hle]
      exact Or.inr ⟨rfl, _, _, k2, nI x, u2, by rw [fa_and]; exact q_ones _ (q_and256 hx), q_ones q hq, hle⟩
/-- the reference goes on to the end, though it has found its set -/
theorem q_shA (h : CR (nI n) (nI b) (nI k) (nI w) V S R T n b k w v s r) {m : Nat} (hm : m < 256) {j : Nat} (hj : j < 256) (F : Int32) : ∀ (kk f q c : Nat), q + kk = 2 ^ n → kk < f → c ≤ q → j < c → ∃ uu, fX5_shorts_b30 FU f (nI j) (nI m) (nI c) F (nI q) T H5 S5 x5 R5 L5 u5 O5 e5 m5 A5 B5 = some (F, uu) := by
  obtain ⟨h2, h3⟩ := q_2n h.1.2.1
  have h8 := h.1.2.1
  have nj : ¬ nI j = (-1 : Int32) := fun e => by
    have := congrArg Int32.toInt e
    rw [nI_toInt (by omega), show (-1 : Int32).toInt = -1 from rfl] at this
    omega
  intro kk
  induction kk with
  | zero =>
    intro f q c hq hf hc hjc
    obtain ⟨f, rfl, -⟩ := q_suc hf
    rw [fX5_shorts_b30, h.2.2.1.1, q_shl8 n (by omega), if_pos (nI_le (by omega) (by omega)), fX5_shorts_b95, if_neg nj]
    exact ⟨_, rfl⟩
  | succ kk ih =>
    intro f q c hq hf hc hjc
    obtain ⟨f, rfl, -⟩ := q_suc hf
    rw [fX5_shorts_b30, h.2.2.1.1, q_shl8 n (by omega), if_neg (nI_ge (by omega) (by omega))]
    rcases q_short h (show q < 256 by omega) hm with ⟨-, q1 | ⟨x, y, q1, z, q2, q3, q4, q5⟩⟩ | ⟨-, x, y, q1, z, q2, q3, q4, q5⟩
    · rw [q1, Option.bind_some, if_pos rfl, fX5_shorts_b89, nI_1]
      exact ih f (q + 1) c (by omega) (by omega) (by omega) hjc
    · rw [q1, Option.bind_some, if_neg q_10, q2, Option.bind_some, q3, Option.bind_some, q4, Option.bind_some, if_pos q5, fX5_shorts_b89, nI_1]
      exact ih f (q + 1) c (by omega) (by omega) (by omega) hjc
    · have nc : ¬ nI c = nI j := fun e => by have := (nI_eq (by omega) (by omega)).mp e; omega
      rw [q1, Option.bind_some, if_neg q_10, q2, Option.bind_some, q3, Option.bind_some, q4, Option.bind_some, if_neg q5, if_neg nc, fX5_shorts_b84, fX5_shorts_b89, nI_1, nI_1]
      exact ih f (q + 1) (c + 1) (by omega) (by omega) (by omega) (by omega)
theorem q_shL (h : CR (nI n) (nI b) (nI k) (nI w) V S R T n b k w v s r) {m : Nat} (hm : m < 256) (i : Int32) : ∀ (kk fC fR q c : Nat), q + kk = 2 ^ n → kk < fC → kk < fR → c ≤ q → SAME (fX4_shorts_b33 FU fC i (nI m) (nI c) (nI q) O A B ee es P Wo L u (nI n) (nI b) (nI k) V S) (fX5_shorts_b30 FU fR i (nI m) (nI c) (-4) (nI q) T H5 S5 x5 R5 L5 u5 O5 e5 m5 A5 B5) := by
  obtain ⟨h2, h3⟩ := q_2n h.1.2.1
  have h8 := h.1.2.1
  intro kk
  induction kk with
  | zero =>
    intro fC fR q c hq h1 h4 hc
    obtain ⟨fC, rfl, -⟩ := q_suc h1
    obtain ⟨fR, rfl, -⟩ := q_suc h4
    rw [fX4_shorts_b33, fX5_shorts_b30, h.2.2.1.1, q_shl8 n (by omega), if_pos (nI_le (by omega) (by omega)), if_pos (nI_le (by omega) (by omega)), fX4_shorts_b78, fX5_shorts_b95]
    by_cases z : i = -1
    · rw [if_pos z, if_pos z]; exact ⟨_, _, _, rfl, rfl⟩
    · rw [if_neg z, if_neg z]; exact ⟨_, _, _, rfl, rfl⟩
  | succ kk ih =>
    intro fC fR q c hq h1 h4 hc
    obtain ⟨fC, rfl, -⟩ := q_suc h1
    obtain ⟨fR, rfl, -⟩ := q_suc h4
    rw [fX4_shorts_b33, fX5_shorts_b30, h.2.2.1.1, q_shl8 n (by omega), if_neg (nI_ge (by omega) (by omega)), if_neg (nI_ge (by omega) (by omega))]
    rcases q_short h (show q < 256 by omega) hm with ⟨q0, q1 | ⟨x, y, q1, z, q2, q3, q4, q5⟩⟩ | ⟨q0, x, y, q1, z, q2, q3, q4, q5⟩
    · rw [q0, Option.bind_some, if_pos rfl, fX4_shorts_b72, q1, Option.bind_some, if_pos rfl, fX5_shorts_b89, nI_1]
      exact ih fC fR (q + 1) c (by omega) (by omega) (by omega) (by omega)
    · rw [q0, Option.bind_some, if_pos rfl, fX4_shorts_b72, q1, Option.bind_some, if_neg q_10, q2, Option.bind_some, q3, Option.bind_some, q4, Option.bind_some, if_pos q5, fX5_shorts_b89, nI_1]
      exact ih fC fR (q + 1) c (by omega) (by omega) (by omega) (by omega)
    · rw [q0, Option.bind_some, if_neg q_10, q1, Option.bind_some, if_neg q_10, q2, Option.bind_some, q3, Option.bind_some, q4, Option.bind_some, if_neg q5]
      by_cases z : nI c = i
      · subst z
        rw [if_pos rfl, if_pos rfl, fX5_shorts_b84, fX5_shorts_b89, nI_1, nI_1]
        obtain ⟨uu, hu⟩ := q_shA H5 S5 x5 R5 L5 u5 O5 e5 m5 A5 B5 h hm (show c < 256 by omega) (nI q) kk fR (q + 1) (c + 1) (by omega) (by omega) (by omega) (by omega)
        exact ⟨_, _, uu, rfl, hu⟩
      · rw [if_neg z, if_neg z, fX5_shorts_b84, fX5_shorts_b89, fX4_shorts_b72, nI_1, nI_1]
        exact ih fC fR (q + 1) (c + 1) (by omega) (by omega) (by omega) (by omega)
theorem o_shorts (h : CR (nI n) (nI b) (nI k) (nI w) V S R T n b k w v s r) (p i : Int32) : SAME (fX4_shorts FU p i O A B ee es P Wo L u (nI n) (nI b) (nI k) (nI w) V S R) (fX5_shorts FU p i T H5 S5 x5 R5 L5 u5 O5 e5 m5 A5 B5) := by
  have hF := FU_e
  obtain ⟨h2, h3⟩ := q_2n h.1.2.1
  unfold fX4_shorts fX5_shorts
  rcases g_law p with ⟨l, hl, rfl, e1, e2⟩ | ⟨e1, e2⟩
  · rw [e1, e2, Option.bind_some, Option.bind_some, if_neg q_10, if_neg q_10]
    by_cases z : (-1 : Int32) ≤ i
    · obtain ⟨e2', m2, O2, A2, B2, L2, u2, O52, A52, B52, L52, u52, W2, P2, g1, g2, g3⟩ := q_mb hl h O A B ee es P Wo L u H5 S5 x5 R5 L5 u5 O5 e5 m5 A5 B5
      rw [if_pos z, if_pos z, g1, g2, Option.bind_some, Option.bind_some]
      dsimp only
      exact q_shL O2 A2 B2 (nI e2') (nI m2) P2 W2 L2 u2 _ _ _ _ _ _ _ _ _ _ _ h g3.2.1 i (2 ^ n - 1) FU FU 1 0 (by omega) (by omega) (by omega) (by omega)
    · rw [if_neg z, if_neg z]; exact ⟨_, _, _, rfl, rfl⟩
  · rw [e1, e2, Option.bind_some, Option.bind_some, if_pos rfl, if_pos rfl]
    exact ⟨_, _, _, rfl, rfl⟩
/-- places in the rank -/
theorem q_pl0 {c i0 : Nat} (hn : n ≤ 8) (hR : ∀ i, i < n → R i = nI (r i) ∧ r i < n) (hi : i0 < n) (e0 : r i0 = c) (inj : ∀ i j, i < n → j < n → r i = r j → i = j) : ∀ (kk f i : Nat) (x : Int32), i + kk = n → kk < f → (i0 < i → x = nI i0) → fX0_placeOf_b4 FU f (nI c) x (nI i) (nI n) R = some (nI i0) := by
  intro kk
  induction kk with
  | zero =>
    intro f i x h1 h2 h3
    obtain ⟨f, rfl, -⟩ := q_suc h2
    rw [fX0_placeOf_b4, if_pos (nI_le (by omega) (by omega)), h3 (by omega)]
  | succ kk ih =>
    intro f i x h1 h2 h3
    obtain ⟨f, rfl, -⟩ := q_suc h2
    obtain ⟨e1, e2⟩ := hR i (by omega)
    have hr0 := (hR i0 hi).2
    rw [fX0_placeOf_b4, if_neg (nI_ge (by omega) (by omega)), if_neg (nI_in (by omega) (by omega)), nI_clamp (by omega), e1]
    by_cases z : i = i0
    · rw [if_pos (by rw [z, e0]), fX0_placeOf_b24, nI_1]
      exact ih f (i + 1) (nI i) (by omega) (by omega) (fun _ => by rw [z])
    · rw [if_neg (fun e => z (inj i i0 (by omega) hi (by rw [e0]; exact (nI_eq (by omega) (by omega)).mp e))), fX0_placeOf_b24, nI_1]
      exact ih f (i + 1) x (by omega) (by omega) (fun q => h3 (by omega))
theorem q_pl5 {c i0 : Nat} (hn : n ≤ 8) (hR : ∀ i, i < n → T (24 + i) = nI (r i) ∧ r i < n) (hi : i0 < n) (e0 : r i0 = c) (inj : ∀ i j, i < n → j < n → r i = r j → i = j) : ∀ (kk f i : Nat), i + kk = i0 → kk < f → fX5_placeOf_b2 FU f (nI c) (nI i) T = some (nI i0) := by
  intro kk
  induction kk with
  | zero =>
    intro f i h1 h2
    obtain ⟨f, rfl, -⟩ := q_suc h2
    have e : i = i0 := by omega
    rw [fX5_placeOf_b2, q_add24, if_neg (nI_in (by omega) (by omega)), nI_clamp (by omega), (hR i (by omega)).1, if_pos (by rw [e, e0]), e]
  | succ kk ih =>
    intro f i h1 h2
    obtain ⟨f, rfl, -⟩ := q_suc h2
    obtain ⟨e1, e2⟩ := hR i (by omega)
    have hr0 := (hR i0 hi).2
    rw [fX5_placeOf_b2, q_add24, if_neg (nI_in (by omega) (by omega)), nI_clamp (by omega), e1, if_neg (fun e => by
      have := inj i i0 (by omega) hi (by rw [e0]; exact (nI_eq (by omega) (by omega)).mp e)
      omega), nI_1]
    exact ih f (i + 1) (by omega) (by omega)
theorem q_place (h : CR (nI n) (nI b) (nI k) (nI w) V S R T n b k w v s r) {c : Nat} (hc : c < n) : ∃ i0, i0 < n ∧ r i0 = c ∧ fX0_placeOf FU (nI c) (nI n) R = some (nI i0) ∧ fX5_placeOf FU (nI c) T = some (nI i0) := by
  have hF := FU_e
  obtain ⟨⟨h1, h2, -⟩, -, -, -, -, -, hR, inj⟩ := h
  obtain ⟨i0, hi, e0⟩ := fb_onto (n := n) (f := r) (fun i hi => (hR i hi).2.2) (fun i j h1 h2 e => by have := inj i j (by omega) h2 e; omega) hc
  refine ⟨i0, hi, e0, ?_, ?_⟩
  · unfold fX0_placeOf
    exact q_pl0 h2 (fun i hi => ⟨(hR i hi).1, (hR i hi).2.2⟩) hi e0 inj n FU 0 0 (by omega) (by omega) (fun q => absurd q (by omega))
  · unfold fX5_placeOf
    exact q_pl5 h2 (fun i hi => ⟨(hR i hi).2.1, (hR i hi).2.2⟩) hi e0 inj i0 FU 0 (by omega) (by omega)
theorem q_bitv : ∀ w, w < 256 → ∀ c, c < 8 → ((nI w >>> (nI c &&& 31)) &&& (1 : Int32)) = (if ((nI w >>> (nI c &&& 31)) &&& (1 : Int32)) = (1 : Int32) then 1 else 0) := by decide +kernel
theorem q_laws (h : CR (nI n) (nI b) (nI k) (nI w) V S R T n b k w v s r) (c : Int32) : ∀ (kk fC fR l : Nat) (x : Int32) (O : Nat → Int32) (A B : Nat → Int64) (ee es : Int32) (P : Nat → Int32) (Wo L : Nat → Int64) (u : Int64) (H5 S5 : Nat → Int32) (x5 : Int32) (R5 : Nat → Int32) (L5 : Nat → Int64) (u5 : Int64) (O5 : Nat → Int32) (e5 m5 : Int32) (A5 B5 : Nat → Int64), l + kk = 4 → kk < fC → kk < fR →
    SAME (fX4_lawsThatElect_b4 FU fC c x (nI l) O A B ee es P Wo L u (nI n) (nI b) (nI k) (nI w) V S R) (fX5_lawsOf_b4 FU fR c x (nI l) T H5 S5 x5 R5 L5 u5 O5 e5 m5 A5 B5) := by
  intro kk
  induction kk with
  | zero =>
    intro fC fR l x O A B ee es P Wo L u H5 S5 x5 R5 L5 u5 O5 e5 m5 A5 B5 h1 h2 h3
    obtain ⟨fC, rfl, -⟩ := q_suc h2
    obtain ⟨fR, rfl, -⟩ := q_suc h3
    rw [fX4_lawsThatElect_b4, fX5_lawsOf_b4, if_pos (show (4 : Int32) ≤ nI l from nI_le (a := 4) (by omega) (by omega)), if_pos (show (4 : Int32) ≤ nI l from nI_le (a := 4) (by omega) (by omega))]
    exact ⟨_, _, _, rfl, rfl⟩
  | succ kk ih =>
    intro fC fR l x O A B ee es P Wo L u H5 S5 x5 R5 L5 u5 O5 e5 m5 A5 B5 h1 h2 h3
    obtain ⟨fC, rfl, -⟩ := q_suc h2
    obtain ⟨fR, rfl, -⟩ := q_suc h3
    obtain ⟨e2', m2, O2, A2, B2, L2, u2, O52, A52, B52, L52, u52, W2, P2, g1, g2, g3⟩ := q_mb (show l < 4 by omega) h O A B ee es P Wo L u H5 S5 x5 R5 L5 u5 O5 e5 m5 A5 B5
    rw [fX4_lawsThatElect_b4, fX5_lawsOf_b4, if_neg (show ¬ (4 : Int32) ≤ nI l from nI_ge (b := 4) (by omega) (by omega)), if_neg (show ¬ (4 : Int32) ≤ nI l from nI_ge (b := 4) (by omega) (by omega)), g1, g2, Option.bind_some, Option.bind_some, q_hasBit, q_has, Option.bind_some, Option.bind_some]
    dsimp only
    by_cases z : ((nI m2 >>> (c &&& 31)) &&& (1 : Int32)) = (1 : Int32)
    · rw [if_pos z, if_neg q_10, if_neg q_10, fX4_lawsThatElect_b34, fX5_lawsOf_b29, nI_1]
      exact ih fC fR (l + 1) _ _ _ _ _ _ _ _ _ _ _ _ _ _ _ _ _ _ _ _ _ (by omega) (by omega) (by omega)
    · rw [if_neg z, if_pos rfl, if_pos rfl, fX4_lawsThatElect_b34, fX5_lawsOf_b29, nI_1, Int32.or_zero]
      exact ih fC fR (l + 1) _ _ _ _ _ _ _ _ _ _ _ _ _ _ _ _ _ _ _ _ _ (by omega) (by omega) (by omega)
theorem o_candidate (h : CR (nI n) (nI b) (nI k) (nI w) V S R T n b k w v s r) (p q : Int32) : SAME (fX4_candidate FU p q O A B ee es P Wo L u (nI n) (nI b) (nI k) (nI w) V S R) (fX5_candidate FU p q T H5 S5 x5 R5 L5 u5 O5 e5 m5 A5 B5) := by
  have hF := FU_e
  have h8 := q_pn h.1.2.1
  have hn := h.1.2.1
  have hw := h.1.2.2.2.2.2
  unfold fX4_candidate fX5_candidate
  rcases g_cand p h.1.1 h.1.2.1 h.2.2.1.1 with ⟨c, hc, rfl, e1, e2⟩ | ⟨e1, e2⟩
  · rw [e1, e2, Option.bind_some, Option.bind_some, if_neg q_10, if_neg q_10]
    have h0 : (0 : Int32).toInt = 0 := rfl
    have h3 : (3 : Int32).toInt = 3 := rfl
    rcases g_int q 0 3 with ⟨q1, q2, q3⟩ | ⟨q1, q3⟩
    · rw [q3, Option.bind_some, if_neg q_10]
      unfold fX5_aboutCandidate
      rw [q_lays h.1.2.1 h.1.2.2.1 h.2.2.1.1 h.2.2.1.2.1, Option.bind_some]
      dsimp only
      obtain ⟨j, hj, rfl⟩ := q_nIof (p := q) (n := 4) (by omega) (by omega) (by omega)
      rcases (show j = 0 ∨ j = 1 ∨ j = 2 ∨ j = 3 by omega) with rfl | rfl | rfl | rfl
      · rw [if_pos (show nI 0 = 0 from rfl), if_pos (show nI 0 = 0 from rfl), q_sup0 h.ep.1 (by omega), q_sup (h.ep5 H5 S5 R5).1 (by omega), Option.bind_some, Option.bind_some, Option.bind_some]
        exact ⟨_, _, _, rfl, rfl⟩
      · obtain ⟨i0, i1, i2, i3, i4⟩ := q_place h hc
        rw [if_neg (show ¬ nI 1 = (0 : Int32) by decide), if_neg (show ¬ nI 1 = (0 : Int32) by decide), if_pos (show nI 1 = 1 from rfl), if_pos (show nI 1 = 1 from rfl), i3, i4, Option.bind_some, Option.bind_some, Option.bind_some]
        exact ⟨_, _, _, rfl, rfl⟩
      · rw [if_neg (show ¬ nI 2 = (0 : Int32) by decide), if_neg (show ¬ nI 2 = (0 : Int32) by decide), if_neg (show ¬ nI 2 = (1 : Int32) by decide), if_neg (show ¬ nI 2 = (1 : Int32) by decide), if_pos (show nI 2 = 2 from rfl), if_pos (show nI 2 = 2 from rfl), h.2.2.1.2.2.2, Option.bind_some, q_bitv w (by omega) c (by omega)]
        unfold fX0_isWithdrawn
        rw [q_hasBit, Option.bind_some, if_neg (q_b01 _), Option.bind_some]
        by_cases z : ((nI w >>> (nI c &&& 31)) &&& (1 : Int32)) = (1 : Int32)
        · rw [if_pos z, if_neg q_10]; exact ⟨_, _, _, rfl, rfl⟩
        · rw [if_neg z, if_pos rfl]; exact ⟨_, _, _, rfl, rfl⟩
      · rw [if_neg (show ¬ nI 3 = (0 : Int32) by decide), if_neg (show ¬ nI 3 = (0 : Int32) by decide), if_neg (show ¬ nI 3 = (1 : Int32) by decide), if_neg (show ¬ nI 3 = (1 : Int32) by decide), if_neg (show ¬ nI 3 = (2 : Int32) by decide), if_neg (show ¬ nI 3 = (2 : Int32) by decide), if_pos (show nI 3 = 3 from rfl)]
        obtain ⟨x, a, a2, y1, y2⟩ := q_laws h (nI c) 4 FU FU 0 0 O A B ee es P Wo L u (fa_fill (fun j => T (2 + j)) H5 b) (fa_fill (fun j => T (12 + j)) S5 b) (nI b) (fa_fill (fun j => T (24 + j)) R5 n) L5 u5 O5 e5 m5 A5 B5 (by omega) (by omega) (by omega)
        unfold fX4_lawsThatElect fX5_lawsOf
        rw [show (0 : Int32) = nI 0 from rfl] at y1 y2 ⊢
        rw [y1, y2, Option.bind_some, Option.bind_some, Option.bind_some]
        exact ⟨_, _, _, rfl, rfl⟩
    · rw [q3, Option.bind_some, if_pos rfl]
      have ne : ∀ a : Nat, a < 4 → ¬ q = nI a := fun a ha e => q1 (by rw [e, nI_toInt (by omega)]; omega)
      rw [if_neg (show ¬ q = (0 : Int32) from ne 0 (by omega)), if_neg (show ¬ q = (1 : Int32) from ne 1 (by omega)), if_neg (show ¬ q = (2 : Int32) from ne 2 (by omega)), if_neg (show ¬ q = (3 : Int32) from ne 3 (by omega))]
      exact ⟨_, _, _, rfl, rfl⟩
  · rw [e1, e2, Option.bind_some, Option.bind_some, if_pos rfl, if_pos rfl]
    exact ⟨_, _, _, rfl, rfl⟩
end OS
