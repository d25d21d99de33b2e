/-! pure rows: the calls that change -/
section PB
variable {tp sz ch cd bl st wd : Int32} {V S R now past : Nat → Int32} {Qc Qb Qk Qw : Nat → Int32} {Qv Qs Qr : Nat → Nat → Int32}
/-- the past after a call -/
def PQ (tp0 tp sz : Int32) (Qc Qb Qk Qw : Nat → Int32) (Qv Qs Qr : Nat → Nat → Int32) (c b k w : Int32) (v s r : Nat → Int32) (past : Nat → Int32) (ch : Int32) : Prop :=
  PR tp sz (uq Qc tp0.toNatClampNeg c) (uq Qb tp0.toNatClampNeg b) (uq Qk tp0.toNatClampNeg k) (uq Qw tp0.toNatClampNeg w) (uq Qv tp0.toNatClampNeg v) (uq Qs tp0.toNatClampNeg s) (uq Qr tp0.toNatClampNeg r) past ch
theorem o_ballot (hp : PR tp sz Qc Qb Qk Qw Qv Qs Qr past ch) (hc : CRx cd bl st wd V S R now) (p q : Int32) :
    ∃ (x tp' sz' bl' : Int32) (V' S' : Nat → Int32) (c1 c2 c3 c4 : Int32) (v1 s1 r1 now' past' : Nat → Int32) (ch' : Int32),
      fX4_ballot FU p q tp sz cd bl st wd V S R (Qc tp.toNatClampNeg) (Qb tp.toNatClampNeg) (Qk tp.toNatClampNeg) (Qw tp.toNatClampNeg) (Qv tp.toNatClampNeg) (Qs tp.toNatClampNeg) (Qr tp.toNatClampNeg) = some (x, tp', sz', bl', V', S', c1, c2, c3, c4, v1, s1, r1) ∧
      fX5_ballot FU p q now past ch = some (x, now', past', ch') ∧ CRx cd bl' st wd V' S' R now' ∧ PQ tp tp' sz' Qc Qb Qk Qw Qv Qs Qr c1 c2 c3 c4 v1 s1 r1 past' ch' := by
  obtain ⟨tp', sz', past', ch', k1, k2, k3⟩ := q_keep hp hc
  obtain ⟨n, b, k, w, v, s, r, h⟩ := hc
  have ho : CRx cd bl st wd V S R now := ⟨n, b, k, w, v, s, r, h⟩
  obtain ⟨rfl, rfl, rfl, rfl⟩ := h.2.1
  have hb := h.1.2.2.1
  unfold fX4_ballot fX5_ballot
  rcases g_vot p with ⟨p, p1, p2, rfl, e1, e2⟩ | ⟨e1, e2⟩
  · rw [e1, e2, Option.bind_some, Option.bind_some, if_neg q_10, if_neg q_10]
    rcases g_set q h.1.1 h.1.2.1 h.2.2.1.1 with ⟨q, q1, q2, rfl, d1, d2⟩ | ⟨d1, d2⟩
    · rw [d1, d2, Option.bind_some, Option.bind_some, if_neg q_10, if_neg q_10]
      by_cases z : b = 10
      · rw [if_pos (show (10 : Int32) ≤ nI b by rw [z]; decide), if_pos (show now 1 = 10 by rw [h.2.2.1.2.1, z]; rfl)]
        exact ⟨_, _, _, _, _, _, _, _, _, _, _, _, _, _, _, _, rfl, rfl, ho, PR_s hp _⟩
      · rw [if_neg (show ¬ (10 : Int32) ≤ nI b from nI_ge (b := 10) (by omega) (by omega)), if_neg (show ¬ now 1 = 10 by rw [h.2.2.1.2.1]; exact fun q => z ((nI_eq (b := 10) (by omega) (by omega)).mp q)), q_all0 (by omega), q_all5 (by omega) h.2.2.1.2.1, Option.bind_some, Option.bind_some, h.sum0, h.sum5, nI_add]
        have h40 := h.2.2.2.2.2.1
        by_cases f40 : fb_sm v b + p ≤ 40
        · rw [if_pos (show nI (fb_sm v b + p) ≤ 40 from nI_le (b := 40) (by omega) (by omega)), if_pos (show nI (fb_sm v b + p) ≤ 40 from nI_le (b := 40) (by omega) (by omega)), k1, k2, Option.bind_some, Option.bind_some]
          unfold fX0_addBallot fX5_adds
          rw [if_neg (show ¬ (11 : Int32) ≤ nI b from nI_ge (b := 11) (by omega) (by omega)), h.2.2.1.2.1, q_add2, if_neg (nI_in (c := b) (N := 11) (by omega) (by omega)), nI_clamp (n := b) (by omega), if_neg (nI_in (c := 2 + b) (N := 32) (by omega) (by omega)), nI_clamp (n := 2 + b) (by omega), q_upn _ _ (show ¬ 1 = 2 + b by omega), h.2.2.1.2.1, q_add12, if_neg (nI_in (c := 12 + b) (N := 32) (by omega) (by omega)), nI_clamp (n := 12 + b) (by omega), q_upn _ _ (show ¬ 1 = 12 + b by omega), q_upn _ _ (show ¬ 1 = 2 + b by omega), h.2.2.1.2.1, nI_1, Option.bind_some, Option.bind_some]
          dsimp only
          rw [q_upi]
          exact ⟨_, _, _, _, _, _, _, _, _, _, _, _, _, _, _, _, rfl, rfl, ⟨n, b + 1, k, w, _, _, r, CR_add h (by omega) p1 p2 q1 q2 f40⟩, k3⟩
        · rw [if_neg (show ¬ nI (fb_sm v b + p) ≤ 40 from nI_ge (a := 40) (by omega) (by omega)), if_neg (show ¬ nI (fb_sm v b + p) ≤ 40 from nI_ge (a := 40) (by omega) (by omega))]
          exact ⟨_, _, _, _, _, _, _, _, _, _, _, _, _, _, _, _, rfl, rfl, ho, PR_s hp _⟩
    · rw [d1, d2, Option.bind_some, Option.bind_some, if_pos rfl, if_pos rfl]
      exact ⟨_, _, _, _, _, _, _, _, _, _, _, _, _, _, _, _, rfl, rfl, ho, PR_s hp _⟩
  · rw [e1, e2, Option.bind_some, Option.bind_some, if_pos rfl, if_pos rfl]
    exact ⟨_, _, _, _, _, _, _, _, _, _, _, _, _, _, _, _, rfl, rfl, ho, PR_s hp _⟩
theorem q_exc {p q : Int32} {i : Nat} (hi : i < 32) (e : p = nI i) {past' : Nat → Int32} {ch' : Int32} (k2 : fX5_remembers FU now past ch = some (past', ch')) : fX5_exchanges FU p q now past ch = some (now i, upd now i q, past', ch') := by
  unfold fX5_exchanges
  rw [k2, Option.bind_some, e, if_neg (nI_in (by omega) (by omega)), nI_clamp (by omega)]
theorem o_voters (hp : PR tp sz Qc Qb Qk Qw Qv Qs Qr past ch) (hc : CRx cd bl st wd V S R now) (p q : Int32) :
    ∃ (x tp' sz' : Int32) (V' : Nat → Int32) (c1 c2 c3 c4 : Int32) (v1 s1 r1 now' past' : Nat → Int32) (ch' : Int32),
      fX4_voters FU p q tp sz cd bl st wd V S R (Qc tp.toNatClampNeg) (Qb tp.toNatClampNeg) (Qk tp.toNatClampNeg) (Qw tp.toNatClampNeg) (Qv tp.toNatClampNeg) (Qs tp.toNatClampNeg) (Qr tp.toNatClampNeg) = some (x, tp', sz', V', c1, c2, c3, c4, v1, s1, r1) ∧
      fX5_voters FU p q now past ch = some (x, now', past', ch') ∧ CRx cd bl st wd V' S R now' ∧ PQ tp tp' sz' Qc Qb Qk Qw Qv Qs Qr c1 c2 c3 c4 v1 s1 r1 past' ch' := by
  obtain ⟨tp', sz', past', ch', k1, k2, k3⟩ := q_keep hp hc
  obtain ⟨n, b, k, w, v, s, r, h⟩ := hc
  have ho : CRx cd bl st wd V S R now := ⟨n, b, k, w, v, s, r, h⟩
  obtain ⟨rfl, rfl, rfl, rfl⟩ := h.2.1
  have hb := h.1.2.2.1
  unfold fX4_voters fX5_voters
  rcases g_bal p hb h.2.2.1.2.1 with ⟨i, hi, rfl, e1, e2⟩ | ⟨e1, e2⟩
  · rw [e1, e2, Option.bind_some, Option.bind_some, if_neg q_10, if_neg q_10]
    rcases g_vot q with ⟨q, q1, q2, rfl, d1, d2⟩ | ⟨d1, d2⟩
    · obtain ⟨a1, a2, a3, a4⟩ := h.2.2.2.1 i hi
      have sle := fb_sm_part v hi
      rw [d1, d2, Option.bind_some, Option.bind_some, if_neg q_10, if_neg q_10, q_add2, if_neg (nI_in (c := i) (N := 11) (by omega) (by omega)), nI_clamp (n := i) (by omega), if_neg (nI_in (c := 2 + i) (N := 32) (by omega) (by omega)), nI_clamp (n := 2 + i) (by omega), a1, a2]
      by_cases z : nI (v i) = nI q
      · rw [if_pos z, if_pos z]
        exact ⟨_, _, _, _, _, _, _, _, _, _, _, _, _, _, rfl, rfl, ho, PR_s hp _⟩
      · have h40 := h.2.2.2.2.2.1
        rw [if_neg z, if_neg z, q_all0 (by omega), q_all5 (by omega) h.2.2.1.2.1, Option.bind_some, Option.bind_some, h.sum0, h.sum5, q_subn (show v i ≤ fb_sm v b by omega), nI_add]
        by_cases f40 : fb_sm v b - v i + q ≤ 40
        · rw [if_pos (show nI (fb_sm v b - v i + q) ≤ 40 from nI_le (b := 40) (by omega) (by omega)), if_pos (show nI (fb_sm v b - v i + q) ≤ 40 from nI_le (b := 40) (by omega) (by omega)), k1, q_exc (i := 2 + i) (by omega) rfl k2, Option.bind_some, Option.bind_some, a2]
          exact ⟨_, _, _, _, _, _, _, _, _, _, _, _, _, _, rfl, rfl, ⟨n, b, k, w, _, s, r, CR_vot h hi q1 q2 (by omega)⟩, k3⟩
        · rw [if_neg (show ¬ nI (fb_sm v b - v i + q) ≤ 40 from nI_ge (a := 40) (by omega) (by omega)), if_neg (show ¬ nI (fb_sm v b - v i + q) ≤ 40 from nI_ge (a := 40) (by omega) (by omega))]
          exact ⟨_, _, _, _, _, _, _, _, _, _, _, _, _, _, rfl, rfl, ho, PR_s hp _⟩
    · rw [d1, d2, Option.bind_some, Option.bind_some, if_pos rfl, if_pos rfl]
      exact ⟨_, _, _, _, _, _, _, _, _, _, _, _, _, _, rfl, rfl, ho, PR_s hp _⟩
  · rw [e1, e2, Option.bind_some, Option.bind_some, if_pos rfl, if_pos rfl]
    exact ⟨_, _, _, _, _, _, _, _, _, _, _, _, _, _, rfl, rfl, ho, PR_s hp _⟩
theorem o_approve (hp : PR tp sz Qc Qb Qk Qw Qv Qs Qr past ch) (hc : CRx cd bl st wd V S R now) (p q : Int32) :
    ∃ (x tp' sz' : Int32) (S' : Nat → Int32) (c1 c2 c3 c4 : Int32) (v1 s1 r1 now' past' : Nat → Int32) (ch' : Int32),
      fX4_approve FU p q tp sz cd bl st wd V S R (Qc tp.toNatClampNeg) (Qb tp.toNatClampNeg) (Qk tp.toNatClampNeg) (Qw tp.toNatClampNeg) (Qv tp.toNatClampNeg) (Qs tp.toNatClampNeg) (Qr tp.toNatClampNeg) = some (x, tp', sz', S', c1, c2, c3, c4, v1, s1, r1) ∧
      fX5_approve FU p q now past ch = some (x, now', past', ch') ∧ CRx cd bl st wd V S' R now' ∧ PQ tp tp' sz' Qc Qb Qk Qw Qv Qs Qr c1 c2 c3 c4 v1 s1 r1 past' ch' := by
  obtain ⟨tp', sz', past', ch', k1, k2, k3⟩ := q_keep hp hc
  obtain ⟨n, b, k, w, v, s, r, h⟩ := hc
  have ho : CRx cd bl st wd V S R now := ⟨n, b, k, w, v, s, r, h⟩
  obtain ⟨rfl, rfl, rfl, rfl⟩ := h.2.1
  have hb := h.1.2.2.1
  unfold fX4_approve fX5_approve
  rcases g_bal p hb h.2.2.1.2.1 with ⟨i, hi, rfl, e1, e2⟩ | ⟨e1, e2⟩
  · rw [e1, e2, Option.bind_some, Option.bind_some, if_neg q_10, if_neg q_10]
    rcases g_set q h.1.1 h.1.2.1 h.2.2.1.1 with ⟨q, q1, q2, rfl, d1, d2⟩ | ⟨d1, d2⟩
    · obtain ⟨a1, a2, a3, a4⟩ := h.2.2.2.2.1 i hi
      rw [d1, d2, Option.bind_some, Option.bind_some, if_neg q_10, if_neg q_10, q_add12, if_neg (nI_in (c := i) (N := 11) (by omega) (by omega)), nI_clamp (n := i) (by omega), if_neg (nI_in (c := 12 + i) (N := 32) (by omega) (by omega)), nI_clamp (n := 12 + i) (by omega), a1, a2]
      by_cases z : nI (s i) = nI q
      · rw [if_pos z, if_pos z]
        exact ⟨_, _, _, _, _, _, _, _, _, _, _, _, _, _, rfl, rfl, ho, PR_s hp _⟩
      · rw [if_neg z, if_neg z, k1, q_exc (i := 12 + i) (by omega) rfl k2, Option.bind_some, Option.bind_some, a2]
        exact ⟨_, _, _, _, _, _, _, _, _, _, _, _, _, _, rfl, rfl, ⟨n, b, k, w, v, _, r, CR_set h hi q1 q2⟩, k3⟩
    · rw [d1, d2, Option.bind_some, Option.bind_some, if_pos rfl, if_pos rfl]
      exact ⟨_, _, _, _, _, _, _, _, _, _, _, _, _, _, rfl, rfl, ho, PR_s hp _⟩
  · rw [e1, e2, Option.bind_some, Option.bind_some, if_pos rfl, if_pos rfl]
    exact ⟨_, _, _, _, _, _, _, _, _, _, _, _, _, _, rfl, rfl, ho, PR_s hp _⟩
theorem o_seats (hp : PR tp sz Qc Qb Qk Qw Qv Qs Qr past ch) (hc : CRx cd bl st wd V S R now) (p : Int32) :
    ∃ (x tp' sz' st' : Int32) (c1 c2 c3 c4 : Int32) (v1 s1 r1 now' past' : Nat → Int32) (ch' : Int32),
      fX4_seats FU p tp sz cd bl st wd V S R (Qc tp.toNatClampNeg) (Qb tp.toNatClampNeg) (Qk tp.toNatClampNeg) (Qw tp.toNatClampNeg) (Qv tp.toNatClampNeg) (Qs tp.toNatClampNeg) (Qr tp.toNatClampNeg) = some (x, tp', sz', st', c1, c2, c3, c4, v1, s1, r1) ∧
      fX5_seats FU p now past ch = some (x, now', past', ch') ∧ CRx cd bl st' wd V S R now' ∧ PQ tp tp' sz' Qc Qb Qk Qw Qv Qs Qr c1 c2 c3 c4 v1 s1 r1 past' ch' := by
  obtain ⟨tp', sz', past', ch', k1, k2, k3⟩ := q_keep hp hc
  obtain ⟨n, b, k, w, v, s, r, h⟩ := hc
  have ho : CRx cd bl st wd V S R now := ⟨n, b, k, w, v, s, r, h⟩
  obtain ⟨rfl, rfl, rfl, rfl⟩ := h.2.1
  have h0 : (1 : Int32).toInt = 1 := rfl
  have h8 : (8 : Int32).toInt = 8 := rfl
  unfold fX4_seats fX5_seats
  rcases g_int p 1 8 with ⟨q1, q2, q3⟩ | ⟨q1, q3⟩
  · obtain ⟨q, hq, rfl⟩ := q_nIof (p := p) (n := 9) (by omega) (by omega) (by omega)
    rw [nI_toInt (by omega)] at q1 q2
    rw [q3, Option.bind_some, if_neg q_10, if_neg (show ¬ nI q < 1 from nI_nlt (b := 1) (by omega) (by omega)), if_pos (show nI q ≤ 8 from nI_le (b := 8) (by omega) (by omega)), h.2.2.1.2.2.1]
    by_cases z : nI k = nI q
    · rw [if_pos z, if_pos z]
      exact ⟨_, _, _, _, _, _, _, _, _, _, _, _, _, _, rfl, rfl, ho, PR_s hp _⟩
    · rw [if_neg z, if_neg z, k1, q_exc (p := 22) (i := 22) (by omega) rfl k2, Option.bind_some, Option.bind_some, h.2.2.1.2.2.1]
      exact ⟨_, _, _, _, _, _, _, _, _, _, _, _, _, _, rfl, rfl, ⟨n, b, q, w, v, s, r, CR_seats h (by omega) (by omega)⟩, k3⟩
  · rw [q3, Option.bind_some, if_pos rfl]
    by_cases z : p < 1
    · rw [if_pos z]
      exact ⟨_, _, _, _, _, _, _, _, _, _, _, _, _, _, rfl, rfl, ho, PR_s hp _⟩
    · rw [if_neg z, if_neg (show ¬ p ≤ 8 from fun e => by rw [fa_le] at e; rw [fa_lt] at z; omega)]
      exact ⟨_, _, _, _, _, _, _, _, _, _, _, _, _, _, rfl, rfl, ho, PR_s hp _⟩
theorem q_xor : ∀ w, w < 256 → ∀ c, c < 8 → nI w ^^^ ((1 : Int32) <<< (nI c &&& 31)) = nI (w ^^^ 2 ^ c) := by decide +kernel
theorem o_withdraw (hp : PR tp sz Qc Qb Qk Qw Qv Qs Qr past ch) (hc : CRx cd bl st wd V S R now) (p q : Int32) :
    ∃ (x tp' sz' wd' : Int32) (c1 c2 c3 c4 : Int32) (v1 s1 r1 now' past' : Nat → Int32) (ch' : Int32),
      fX4_withdraw FU p q tp sz cd bl st wd V S R (Qc tp.toNatClampNeg) (Qb tp.toNatClampNeg) (Qk tp.toNatClampNeg) (Qw tp.toNatClampNeg) (Qv tp.toNatClampNeg) (Qs tp.toNatClampNeg) (Qr tp.toNatClampNeg) = some (x, tp', sz', wd', c1, c2, c3, c4, v1, s1, r1) ∧
      fX5_withdraw FU p q now past ch = some (x, now', past', ch') ∧ CRx cd bl st wd' V S R now' ∧ PQ tp tp' sz' Qc Qb Qk Qw Qv Qs Qr c1 c2 c3 c4 v1 s1 r1 past' ch' := by
  obtain ⟨tp', sz', past', ch', k1, k2, k3⟩ := q_keep hp hc
  obtain ⟨n, b, k, w, v, s, r, h⟩ := hc
  have ho : CRx cd bl st wd V S R now := ⟨n, b, k, w, v, s, r, h⟩
  obtain ⟨rfl, rfl, rfl, rfl⟩ := h.2.1
  have hn := h.1.2.1
  have hw := h.1.2.2.2.2.2
  have hpn := q_pn hn
  have h0 : (0 : Int32).toInt = 0 := rfl
  have h1 : (1 : Int32).toInt = 1 := rfl
  unfold fX4_withdraw fX5_withdraw
  rcases g_cand p h.1.1 hn h.2.2.1.1 with ⟨c, hc, rfl, e1, e2⟩ | ⟨e1, e2⟩
  · rw [e1, e2, Option.bind_some, Option.bind_some, if_neg q_10, if_neg q_10]
    rcases g_int q 0 1 with ⟨q1, q2, q3⟩ | ⟨q1, q3⟩
    · rw [q3, Option.bind_some, if_neg q_10, if_neg (show ¬ q < 0 by rw [fa_lt]; omega), if_pos (show q ≤ 1 by rw [fa_le]; omega), h.2.2.1.2.2.2]
      unfold fX0_isWithdrawn
      rw [q_hasBit, Option.bind_some, if_neg (q_b01 _), Option.bind_some, q_has, Option.bind_some]
      have fin : ∀ a a2 : Int32, ∃ (x tp' sz' wd' : Int32) (c1 c2 c3 c4 : Int32) (v1 s1 r1 now' past' : Nat → Int32) (ch' : Int32),
          fX4_withdraw_b37 FU (nI c) a a2 tp sz (nI n) (nI b) (nI k) (nI w) V S R (Qc tp.toNatClampNeg) (Qb tp.toNatClampNeg) (Qk tp.toNatClampNeg) (Qw tp.toNatClampNeg) (Qv tp.toNatClampNeg) (Qs tp.toNatClampNeg) (Qr tp.toNatClampNeg) = some (x, tp', sz', wd', c1, c2, c3, c4, v1, s1, r1) ∧
          fX5_withdraw_b40 FU (nI c) a a2 now past ch = some (x, now', past', ch') ∧ CRx (nI n) (nI b) (nI k) wd' V S R now' ∧ PQ tp tp' sz' Qc Qb Qk Qw Qv Qs Qr c1 c2 c3 c4 v1 s1 r1 past' ch' := fun a a2 => by
        unfold fX4_withdraw_b37 fX5_withdraw_b40
        by_cases z : a = a2
        · rw [if_pos z, if_pos z]
          exact ⟨_, _, _, _, _, _, _, _, _, _, _, _, _, _, rfl, rfl, ho, PR_s hp _⟩
        · have hx : w ^^^ 2 ^ c < 2 ^ n := Nat.xor_lt_two_pow hw (Nat.pow_lt_pow_right (by decide) (by omega))
          rw [if_neg z, if_neg z, k1, h.2.2.1.2.2.2, q_xor w (by omega) c (by omega), q_exc (p := 23) (i := 23) (by omega) rfl k2, Option.bind_some, Option.bind_some, q_bc _ (by omega), Option.bind_some]
          dsimp only
          rw [h.2.2.1.2.2.2, if_pos (nI_pos' (by omega)), q_upi, q_ones _ (by omega), Option.bind_some]
          exact ⟨_, _, _, _, _, _, _, _, _, _, _, _, _, _, rfl, rfl, ⟨n, b, k, _, v, s, r, CR_gone h hx⟩, k3⟩
      by_cases z : q = 1
      · rw [if_pos z, if_pos z]; exact fin _ _
      · rw [if_neg z, if_neg z]; exact fin _ _
    · rw [q3, Option.bind_some, if_pos rfl]
      by_cases z : q < 0
      · rw [if_pos z]
        exact ⟨_, _, _, _, _, _, _, _, _, _, _, _, _, _, rfl, rfl, ho, PR_s hp _⟩
      · rw [if_neg z, if_neg (show ¬ q ≤ 1 from fun e => by rw [fa_le] at e; rw [fa_lt] at z; omega)]
        exact ⟨_, _, _, _, _, _, _, _, _, _, _, _, _, _, rfl, rfl, ho, PR_s hp _⟩
  · rw [e1, e2, Option.bind_some, Option.bind_some, if_pos rfl, if_pos rfl]
    exact ⟨_, _, _, _, _, _, _, _, _, _, _, _, _, _, rfl, rfl, ho, PR_s hp _⟩
/-- prefer -/
def bfr (F : Nat → Int32) (o p i : Nat) : Nat → Int32 := fun j => if o + i < j ∧ j ≤ o + p then F (j - 1) else F j
theorem q_bfr (F : Nat → Int32) {o p i : Nat} (h : i + 1 ≤ p) : upd (bfr F o p (i + 1)) (o + (i + 1)) (bfr F o p (i + 1) (o + i)) = bfr F o p i := by
  funext j
  by_cases z : j = o + (i + 1)
  · rw [z, q_upi]; unfold bfr; rw [if_neg (by omega), if_pos (by omega), show o + (i + 1) - 1 = o + i by omega]
  · rw [q_upn _ _ z]; unfold bfr
    by_cases y : o + (i + 1) < j ∧ j ≤ o + p
    · rw [if_pos y, if_pos (by omega)]
    · rw [if_neg y, if_neg (by omega)]
theorem bfr_p (F : Nat → Int32) (o p : Nat) : bfr F o p p = F := by
  funext j; unfold bfr; rw [if_neg (by omega)]
theorem q_m1 (i : Nat) : nI (i + 1) + (-1) = nI i := by
  have := nI_pred i
  rw [Int32.sub_eq_add_neg] at this
  exact this
theorem q_bf0 {p : Nat} (hp : p < 8) {c : Int32} {F : Nat → Int32} : ∀ (i f : Nat), i ≤ p → i < f → fX0_bringToFront_b9 FU f c (nI i) (bfr F 0 p i) = some (upd (bfr F 0 p 0) 0 c) := by
  intro i
  induction i with
  | zero =>
    intro f h1 h2
    obtain ⟨f, rfl, -⟩ := q_suc h2
    rw [fX0_bringToFront_b9, if_pos (show nI 0 ≤ 0 by decide), fX0_bringToFront_b33]
  | succ i ih =>
    intro f h1 h2
    obtain ⟨f, rfl, -⟩ := q_suc h2
    have hh := ih f (by omega) (by omega)
    have e := q_bfr F (o := 0) (p := p) (i := i) (by omega)
    rw [Nat.zero_add, Nat.zero_add] at e
    rw [fX0_bringToFront_b9, if_neg (nI_nle (by omega) (by omega)), nI_pred, if_neg (nI_in (c := i) (N := 8) (by omega) (by omega)), if_neg (nI_in (c := i + 1) (N := 8) (by omega) (by omega)), nI_clamp (n := i) (by omega), nI_clamp (n := i + 1) (by omega), q_m1, e]
    exact hh
theorem q_bf5 {p : Nat} (hp : p < 8) {c y ch : Int32} {F past : Nat → Int32} : ∀ (i f : Nat), i ≤ p → i < f → fX5_prefer_b29 FU f c y (nI i) (bfr F 24 p i) past ch = some (y, upd (bfr F 24 p 0) 24 c, past, ch) := by
  intro i
  induction i with
  | zero =>
    intro f h1 h2
    obtain ⟨f, rfl, -⟩ := q_suc h2
    rw [fX5_prefer_b29, if_pos (show nI 0 ≤ 0 by decide), fX5_prefer_b59]
  | succ i ih =>
    intro f h1 h2
    obtain ⟨f, rfl, -⟩ := q_suc h2
    have hh := ih f (by omega) (by omega)
    have e := q_bfr F (o := 24) (p := p) (i := i) (by omega)
    rw [fX5_prefer_b29, if_neg (nI_nle (by omega) (by omega)), q_add24, show 24 + (i + 1) = (24 + i) + 1 from rfl, nI_pred, if_neg (nI_in (c := 24 + i) (N := 32) (by omega) (by omega)), if_neg (nI_in (c := 24 + i + 1) (N := 32) (by omega) (by omega)), nI_clamp (n := 24 + i) (by omega), nI_clamp (n := 24 + i + 1) (by omega), q_m1, show 24 + i + 1 = 24 + (i + 1) from rfl, e]
    exact hh
theorem o_prefer (hp : PR tp sz Qc Qb Qk Qw Qv Qs Qr past ch) (hc : CRx cd bl st wd V S R now) (p : Int32) :
    ∃ (x tp' sz' : Int32) (R' : Nat → Int32) (c1 c2 c3 c4 : Int32) (v1 s1 r1 now' past' : Nat → Int32) (ch' : Int32),
      fX4_prefer FU p tp sz cd bl st wd V S R (Qc tp.toNatClampNeg) (Qb tp.toNatClampNeg) (Qk tp.toNatClampNeg) (Qw tp.toNatClampNeg) (Qv tp.toNatClampNeg) (Qs tp.toNatClampNeg) (Qr tp.toNatClampNeg) = some (x, tp', sz', R', c1, c2, c3, c4, v1, s1, r1) ∧
      fX5_prefer FU p now past ch = some (x, now', past', ch') ∧ CRx cd bl st wd V S R' now' ∧ PQ tp tp' sz' Qc Qb Qk Qw Qv Qs Qr c1 c2 c3 c4 v1 s1 r1 past' ch' := by
  obtain ⟨tp', sz', past', ch', k1, k2, k3⟩ := q_keep hp hc
  obtain ⟨n, b, k, w, v, s, r, h⟩ := hc
  have ho : CRx cd bl st wd V S R now := ⟨n, b, k, w, v, s, r, h⟩
  obtain ⟨rfl, rfl, rfl, rfl⟩ := h.2.1
  have hF := FU_e
  have hn := h.1.2.1
  unfold fX4_prefer fX5_prefer
  rcases g_cand p h.1.1 hn h.2.2.1.1 with ⟨c, hc, rfl, e1, e2⟩ | ⟨e1, e2⟩
  · obtain ⟨i0, i1, i2, i3, i4⟩ := q_place h hc
    rw [e1, e2, Option.bind_some, Option.bind_some, if_neg q_10, if_neg q_10, i3, i4, Option.bind_some, Option.bind_some]
    by_cases z : i0 = 0
    · rw [if_pos (show nI i0 = 0 by rw [z]; rfl), if_pos (show nI i0 = 0 by rw [z]; rfl)]
      exact ⟨_, _, _, _, _, _, _, _, _, _, _, _, _, _, rfl, rfl, ho, PR_s hp _⟩
    · rw [if_neg (nI_ne0 (by omega) (by omega)), if_neg (nI_ne0 (by omega) (by omega)), k1, k2, Option.bind_some, Option.bind_some]
      unfold fX0_bringToFront
      rw [if_neg (nI_in (by omega) (by omega)), nI_clamp (by omega), (h.2.2.2.2.2.2.1 i0 i1).1, i2]
      have b0 := q_bf0 (p := i0) (by omega) (c := nI c) (F := R) i0 FU (Nat.le_refl _) (by omega)
      have b5 := q_bf5 (p := i0) (by omega) (c := nI c) (y := nI i0) (ch := ch') (F := now) (past := past') i0 FU (Nat.le_refl _) (by omega)
      rw [bfr_p] at b0 b5
      rw [b0, b5, Option.bind_some]
      refine ⟨_, _, _, _, _, _, _, _, _, _, _, _, _, _, rfl, rfl, ⟨n, b, k, w, v, s, fun j => if j = 0 then c else if j ≤ i0 then r (j - 1) else r j, CR_rank h (fun j hj => ?_) (fun j hj => ?_) (fun i j hi hj e => ?_)⟩, k3⟩
      · rw [q_upn _ _ (by omega)]; unfold bfr; rw [if_neg (by omega)]
      · have hr := h.2.2.2.2.2.2.1
        by_cases y : j = 0
        · rw [y, q_upi, q_upi]; simp only [if_true]; exact ⟨trivial, trivial, hc⟩
        · rw [q_upn _ _ y, q_upn _ _ (by omega)]
          simp only [if_neg y]
          unfold bfr
          by_cases u : j ≤ i0
          · rw [if_pos (show 0 + 0 < j ∧ j ≤ 0 + i0 by omega), if_pos (show 24 + 0 < 24 + j ∧ 24 + j ≤ 24 + i0 by omega), if_pos u, show 24 + j - 1 = 24 + (j - 1) by omega]; exact hr (j - 1) (by omega)
          · rw [if_neg (show ¬ (0 + 0 < j ∧ j ≤ 0 + i0) by omega), if_neg (show ¬ (24 + 0 < 24 + j ∧ 24 + j ≤ 24 + i0) by omega), if_neg u]; exact hr j hj
      · have inj := h.2.2.2.2.2.2.2
        by_cases y : i = 0
        · by_cases y2 : j = 0
          · omega
          · simp only [if_pos y, if_neg y2] at e
            by_cases u : j ≤ i0
            · simp only [if_pos u] at e
              have := inj i0 (j - 1) (by omega) (by omega) (by rw [i2]; exact e)
              omega
            · simp only [if_neg u] at e
              have := inj i0 j (by omega) (by omega) (by rw [i2]; exact e)
              omega
        · by_cases y2 : j = 0
          · simp only [if_pos y2, if_neg y] at e
            by_cases u : i ≤ i0
            · simp only [if_pos u] at e
              have := inj (i - 1) i0 (by omega) (by omega) (by rw [i2]; exact e)
              omega
            · simp only [if_neg u] at e
              have := inj i i0 (by omega) (by omega) (by rw [i2]; exact e)
              omega
          · simp only [if_neg y, if_neg y2] at e
            by_cases u : i ≤ i0
            · by_cases u2 : j ≤ i0
              · simp only [if_pos u, if_pos u2] at e
                have := inj (i - 1) (j - 1) (by omega) (by omega) e
                omega
              · simp only [if_pos u, if_neg u2] at e
                have := inj (i - 1) j (by omega) (by omega) e
                omega
            · by_cases u2 : j ≤ i0
              · simp only [if_neg u, if_pos u2] at e
                have := inj i (j - 1) (by omega) (by omega) e
                omega
              · simp only [if_neg u, if_neg u2] at e
                exact inj i j (by omega) (by omega) e
  · rw [e1, e2, Option.bind_some, Option.bind_some, if_pos rfl, if_pos rfl]
    exact ⟨_, _, _, _, _, _, _, _, _, _, _, _, _, _, rfl, rfl, ho, PR_s hp _⟩
end PB
