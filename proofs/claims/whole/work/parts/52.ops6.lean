/-! pure rows: undo, lay, write, wipe -/
section PC
variable {tp sz ch cd bl st wd : Int32} {V S R now past : Nat → Int32} {Qc Qb Qk Qw : Nat → Int32} {Qv Qs Qr : Nat → Nat → Int32}
theorem q_un {z : Nat} (hz : z < 6) : ∀ (kk f i : Nat), i + kk = 32 → kk < f → fX5_undo_b22 FU f (nI i) (fa_fill (fun j => past (32 * z + j)) now i) past (nI z) = some (nI z, fa_fill (fun j => past (32 * z + j)) now 32, nI z) := by
  intro kk
  induction kk with
  | zero =>
    intro f i h1 h2
    obtain ⟨f, rfl, -⟩ := q_suc h2
    rw [fX5_undo_b22, if_pos (show (32 : Int32) ≤ nI i from nI_le (a := 32) (by omega) (by omega)), show i = 32 by omega]
  | succ kk ih =>
    intro f i h1 h2
    obtain ⟨f, rfl, -⟩ := q_suc h2
    have hh := ih f (i + 1) (by omega) (by omega)
    rw [← fa_fill_succ] at hh
    rw [fX5_undo_b22, if_neg (show ¬ (32 : Int32) ≤ nI i from nI_ge (b := 32) (by omega) (by omega)), show (32 : Int32) * nI z = nI (32 * z) from pk_mul 32 z, nI_add, if_neg (nI_in (c := 32 * z + i) (N := 192) (by omega) (by omega)), if_neg (nI_in (c := i) (N := 32) (by omega) (by omega)), nI_clamp (n := i) (by omega), nI_clamp (n := 32 * z + i) (by omega), nI_1]
    exact hh
theorem o_undo (hp : PR tp sz Qc Qb Qk Qw Qv Qs Qr past ch) (hc : CRx cd bl st wd V S R now) :
    ∃ (x tp' sz' cd' bl' st' wd' : Int32) (V' S' R' now' : Nat → Int32) (ch' : Int32),
      fX4_undo FU tp sz cd bl st wd V S R (Qc (((tp + 6) - 1) - ((tp + 6) - 1) / 6 * 6).toNatClampNeg) (Qb (((tp + 6) - 1) - ((tp + 6) - 1) / 6 * 6).toNatClampNeg) (Qk (((tp + 6) - 1) - ((tp + 6) - 1) / 6 * 6).toNatClampNeg) (Qw (((tp + 6) - 1) - ((tp + 6) - 1) / 6 * 6).toNatClampNeg) (Qv (((tp + 6) - 1) - ((tp + 6) - 1) / 6 * 6).toNatClampNeg) (Qs (((tp + 6) - 1) - ((tp + 6) - 1) / 6 * 6).toNatClampNeg) (Qr (((tp + 6) - 1) - ((tp + 6) - 1) / 6 * 6).toNatClampNeg) = some (x, tp', sz', cd', bl', st', wd', V', S', R') ∧
      fX5_undo FU now past ch = some (x, now', ch') ∧ CRx cd' bl' st' wd' V' S' R' now' ∧ PR tp' sz' Qc Qb Qk Qw Qv Qs Qr past ch' := by
  have hF := FU_e
  have hp0 := hp
  obtain ⟨t, z, ht, hz, rfl, rfl, rfl, hq⟩ := hp
  unfold fX4_undo fX5_undo
  by_cases y : z = 0
  · rw [if_pos (show nI z = 0 by rw [y]; rfl), if_pos (show nI z = 0 by rw [y]; rfl)]
    exact ⟨_, _, _, _, _, _, _, _, _, _, _, _, rfl, rfl, hc, hp0⟩
  · rw [if_neg (nI_ne0 (by omega) (by omega)), if_neg (nI_ne0 (by omega) (by omega))]
    unfold fX2_bringBack fX0_copyFrom
    have hu := q_un (z := z - 1) (by omega) (now := now) (past := past) 32 FU 0 (by omega) (by omega)
    rw [fa_fill_0] at hu
    rw [q_bot t ht, if_neg (nI_in (by omega) (by omega)), Option.bind_some, Option.bind_some, q_dn (by omega), show fX5_undo_b22 FU FU 0 now past (nI (z - 1)) = _ from hu]
    refine ⟨_, _, _, _, _, _, _, _, _, _, _, _, rfl, rfl, ?_, ⟨(t + 5) % 6, z - 1, by omega, by omega, rfl, rfl, rfl, fun i hi => ?_⟩⟩
    · rw [nI_clamp (by omega)]
      have hh := hq (z - 1) (by omega)
      rw [show (t + 6 - z + (z - 1)) % 6 = (t + 5) % 6 by omega] at hh
      obtain ⟨n, b, k, w, v, s, r, h⟩ := hh
      exact ⟨n, b, k, w, v, s, r, CR_copy h (fun j hj => sb_cpy0 hj) (fun j hj => sb_cpy0 hj) (fun j hj => sb_cpy0 hj) (fun j hj => by rw [fa_fill_in hj])⟩
    · rw [show ((t + 5) % 6 + 6 - (z - 1) + i) % 6 = (t + 6 - z + i) % 6 by omega]
      exact hq i (by omega)
theorem PR_0 (hp : PR tp sz Qc Qb Qk Qw Qv Qs Qr past ch) : PR tp 0 Qc Qb Qk Qw Qv Qs Qr past 0 := by
  obtain ⟨t, z, ht, hz, rfl, rfl, rfl, hq⟩ := hp
  exact ⟨t, 0, ht, by omega, rfl, rfl, rfl, fun i hi => absurd hi (by omega)⟩
variable {ln : Nat} {X Y : Nat → Int32} {x : Nat → Nat}
theorem o_lay (ht : TX ln X Y x) (hp : PR tp sz Qc Qb Qk Qw Qv Qs Qr past ch) (hc : CRx cd bl st wd V S R now) (rc rb rk rw' : Int32) (rv rs rr read : Nat → Int32) (sp val : Int32) :
    ∃ (x sz' cd' bl' st' wd' : Int32) (V' S' R' : Nat → Int32) (rc1 rb1 rk1 rw1 : Int32) (rv1 rs1 rr1 now' read' : Nat → Int32) (ch' sp' val' : Int32),
      fX4_lay FU X (nI ln) sz cd bl st wd V S R rc rb rk rw' rv rs rr = some (x, sz', cd', bl', st', wd', V', S', R', rc1, rb1, rk1, rw1, rv1, rs1, rr1) ∧
      fX5_lay FU now read ch Y (nI ln) sp val = some (x, now', read', ch', sp', val') ∧ CRx cd' bl' st' wd' V' S' R' now' ∧ PR tp sz' Qc Qb Qk Qw Qv Qs Qr past ch' := by
  have hF := FU_e
  obtain ⟨u, c1, b1, k1, w1, v1, s1, r1, M1, sp1, val1, e1, e2, e3⟩ := j_read ht rc rb rk rw' rv rs rr read sp val
  unfold fX4_lay fX5_lay
  rw [e1, e2, Option.bind_some, Option.bind_some]
  dsimp only
  by_cases y : u = -4
  · rw [if_pos y, if_pos y]
    rcases e3 y with ⟨q1, q2, q3, q4, q5, q6, q7, q8⟩ | ⟨n, b, k, v, s, r, h⟩
    · rw [if_pos q1, if_pos q5]
      exact ⟨_, _, _, _, _, _, _, _, _, _, _, _, _, _, _, _, _, _, _, _, _, rfl, rfl, hc, hp⟩
    · have hn := h.1
      rw [if_neg (show ¬ c1 = 0 by rw [h.2.1.1]; exact nI_ne0 (by omega) (by omega)), if_neg (show ¬ M1 0 = 0 by rw [h.2.2.1.1]; exact nI_ne0 (by omega) (by omega))]
      unfold fX0_copyFrom fX2_forget
      have hl := q_ly23 (M := M1) (sp := sp1) (val := val1) (ch := ch) (T := now) 32 FU 0 (by omega) (by omega)
      rw [fa_fill_0] at hl
      rw [Option.bind_some, Option.bind_some, show fX5_lay_b23 FU FU 0 now M1 ch sp1 val1 = _ from hl, fa_fill_in (by omega), h.2.2.1.1]
      dsimp only
      rw [h.2.1.1]
      refine ⟨_, _, _, _, _, _, _, _, _, _, _, _, _, _, _, _, _, _, _, _, _, rfl, rfl, ⟨n, b, k, 0, v, s, r, ?_⟩, PR_0 hp⟩
      have := CR_copy h (V' := va_cpy v1 V 0 0 11) (S' := va_cpy s1 S 0 0 11) (R' := va_cpy r1 R 0 0 8) (T' := fa_fill M1 now 32) (fun j hj => sb_cpy0 hj) (fun j hj => sb_cpy0 hj) (fun j hj => sb_cpy0 hj) (fun j hj => by rw [fa_fill_in hj])
      rw [h.2.1.1] at this
      exact this
  · rw [if_neg y, if_neg y]
    exact ⟨_, _, _, _, _, _, _, _, _, _, _, _, _, _, _, _, _, _, _, _, _, rfl, rfl, hc, hp⟩
theorem o_write (ht : TX ln X Y x) (p : Int32) : ∃ (ans : Int32) (X' Y' : Nat → Int32) (ln' : Nat) (x' : Nat → Nat), fX4_write FU p X (nI ln) = some (ans, X', nI ln') ∧ fX5_write FU p Y (nI ln) = some (ans, Y', nI ln') ∧ TX ln' X' Y' x' := by
  have hln := ht.1
  have h0 : (32 : Int32).toInt = 32 := rfl
  have h1 : (126 : Int32).toInt = 126 := rfl
  unfold fX4_write fX5_write
  rcases g_int p 32 126 with ⟨q1, q2, q3⟩ | ⟨q1, q3⟩
  · obtain ⟨q, hq, rfl⟩ := q_nIof (p := p) (n := 127) (by omega) (by omega) (by omega)
    rw [nI_toInt (by omega)] at q1 q2
    rw [q3, Option.bind_some, if_neg q_10, if_neg (show ¬ nI q < 32 from nI_nlt (b := 32) (by omega) (by omega)), if_pos (show nI q ≤ 126 from nI_le (b := 126) (by omega) (by omega))]
    unfold fX3_add
    by_cases z : ln = 200
    · rw [if_pos (show nI ln = 200 by rw [z]; rfl), if_neg (show ¬ nI ln < 200 by rw [z]; decide), Option.bind_some, if_pos rfl]
      exact ⟨_, _, _, ln, x, rfl, rfl, ht⟩
    · rw [if_neg (show ¬ nI ln = 200 from fun q => z ((nI_eq (b := 200) (by omega) (by omega)).mp q)), if_pos (show nI ln < 200 from nI_lt (b := 200) (by omega) (by omega)), if_neg (nI_in (by omega) (by omega)), if_neg (nI_in (by omega) (by omega)), nI_clamp (by omega), Option.bind_some, nI_1, if_neg q_10]
      dsimp only
      refine ⟨_, _, _, ln + 1, fun j => if j = ln then q else x j, rfl, rfl, by omega, fun i hi => ?_⟩
      by_cases y : i = ln
      · rw [y, q_upi, q_upi]; simp only [if_true]; exact ⟨trivial, trivial, by omega, by omega⟩
      · rw [q_upn _ _ y, q_upn _ _ y]; simp only [if_neg y]; exact ht.2 i (by omega)
  · rw [q3, Option.bind_some, if_pos rfl]
    by_cases z : p < 32
    · rw [if_pos z]; exact ⟨_, _, _, ln, x, rfl, rfl, ht⟩
    · rw [if_neg z, if_neg (show ¬ p ≤ 126 from fun e => by rw [fa_le] at e; rw [fa_lt] at z; omega)]
      exact ⟨_, _, _, ln, x, rfl, rfl, ht⟩
theorem o_wipe (ht : TX ln X Y x) : ∃ (ans : Int32), fX4_wipe FU (nI ln) = some (ans, nI 0) ∧ fX5_wipe FU (nI ln) = some (ans, nI 0) ∧ TX 0 X Y x := by
  unfold fX4_wipe fX5_wipe fX3_clear
  rw [Option.bind_some]
  exact ⟨_, rfl, rfl, by omega, fun i hi => absurd hi (by omega)⟩
end PC
