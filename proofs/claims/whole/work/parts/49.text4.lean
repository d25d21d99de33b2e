/-! pure rows: the whole text by both; write, wipe, fault, lay -/
section TI
variable {ln : Nat} {X Y : Nat → Int32} {x : Nat → Nat}
theorem i_item (ht : TX ln X Y x) {st e : Nat} (h : AN ln x st e) (hs : st < ln) {cd bl ss wd : Int32} {R V S M : Nat → Int32} (hr : RD cd bl ss wd V S R M) (val : Int32) :
    IO e ln (fX3_readItem FU (nI st) (nI e) X cd bl ss wd V S R) (fX5_takesItem FU M Y (nI ln) (nI st) val) := by
  have hln := ht.1
  obtain ⟨a1, a2, a3, a4⟩ := ht.2 st hs
  have he := h.2.1
  have ne : ∀ (a : Nat), a < 1000 → ¬ x st = a → ¬ nI (x st) = nI a := fun a ha z q => z ((nI_eq (by omega) (by omega)).mp q)
  unfold fX3_readItem fX5_takesItem
  rw [t_at ht (by omega), Option.bind_some, if_pos hs]
  by_cases y : st < e
  · rw [if_pos (nI_lt y (by omega)), if_neg (nI_in (by omega) (by omega)), nI_clamp (by omega), a1]
    by_cases z : x st = 110
    · rw [if_pos (show nI (x st) = 110 by rw [z]; rfl), if_pos (show nI (x st) = 110 by rw [z]; rfl), fX5_takesItem_b34, fX5_takesItem_b39, z, if_neg (show ¬ nI 110 = 98 by decide), if_neg (show ¬ nI 110 = 107 by decide), if_pos (show nI 110 = 110 from rfl), nI_1]
      rcases hr with ⟨r1, r2, r3, r4, r5, r6, r7, r8⟩ | ⟨n, b, k, v, s, r, hc⟩
      · subst r1 r2 r3 r4
        exact i_cand0 ht h y r5 r6 r7 r8 val
      · have hn := hc.1
        unfold fX3_readCandidates fX5_takesCandidates
        rw [if_pos (show (0 : Int32) < M 0 by rw [hc.2.2.1.1]; exact nI_lt (a := 0) (by omega) (by omega)), Option.bind_some]
        obtain ⟨w, hw, -⟩ := c_num ht (show st + 1 ≤ e by omega) he
        rw [hw, Option.bind_some, if_neg (show ¬ cd = 0 by rw [hc.2.1.1]; exact nI_ne0 (by omega) (by omega)), Option.bind_some, if_neg b01_0]
        dsimp only
        rw [if_pos rfl]; exact IO_no
    · rw [if_neg (show ¬ nI (x st) = 110 from ne 110 (by omega) z), if_neg (show ¬ nI (x st) = 110 from ne 110 (by omega) z)]
      rcases hr with ⟨r1, r2, r3, r4, r5, r6, r7, r8⟩ | ⟨n, b, k, v, s, r, hc⟩
      · rw [if_pos r1, if_pos (show M 0 ≤ 0 by rw [r5]; decide), fX5_takesItem_b39, if_pos rfl, if_pos rfl, if_neg (show ¬ nI (x st) = 110 from ne 110 (by omega) z), if_pos rfl]
        split
        · exact IO_no
        · split
          · exact IO_no
          · split
            · exact IO_no
            · exact IO_no
      · have hn := hc.1
        rw [if_neg (show ¬ cd = 0 by rw [hc.2.1.1]; exact nI_ne0 (by omega) (by omega)), if_neg (show ¬ M 0 ≤ 0 by rw [hc.2.2.1.1]; exact nI_nle (by omega) (by omega)), fX5_takesItem_b34, fX5_takesItem_b39, if_neg q_10, if_neg q_10, if_neg q_10, nI_1]
        by_cases z1 : x st = 98
        · rw [if_pos (show nI (x st) = 98 by rw [z1]; rfl), if_pos (show nI (x st) = 98 by rw [z1]; rfl)]
          exact i_ballot ht h y hc val
        · rw [if_neg (show ¬ nI (x st) = 98 from ne 98 (by omega) z1), if_neg (show ¬ nI (x st) = 98 from ne 98 (by omega) z1)]
          by_cases z2 : x st = 107
          · rw [if_pos (show nI (x st) = 107 by rw [z2]; rfl), if_pos (show nI (x st) = 107 by rw [z2]; rfl)]
            exact i_seats ht h y hc val
          · rw [if_neg (show ¬ nI (x st) = 107 from ne 107 (by omega) z2), if_neg (show ¬ nI (x st) = 107 from ne 107 (by omega) z2), if_neg (show ¬ nI (x st) = 110 from ne 110 (by omega) z)]
            by_cases z3 : x st = 111
            · rw [if_pos (show nI (x st) = 111 by rw [z3]; rfl), if_pos (show nI (x st) = 111 by rw [z3]; rfl)]
              exact i_rank ht h y hc val
            · rw [if_neg (show ¬ nI (x st) = 111 from ne 111 (by omega) z3), if_neg (show ¬ nI (x st) = 111 from ne 111 (by omega) z3)]
              exact IO_no
  · have z := h.2.2.2 (by have := h.1; omega)
    have es : e = st := by have := h.1; omega
    rw [es] at z
    rw [if_neg (show ¬ nI st < nI e from nI_nlt (by omega) (by omega)), z, if_neg (show ¬ nI 59 = 110 by decide), fX5_takesItem_b34, fX5_takesItem_b39, fX5_takesItem_b39, if_neg (show ¬ nI 59 = 98 by decide), if_neg (show ¬ nI 59 = 107 by decide), if_neg (show ¬ nI 59 = 110 by decide), if_neg (show ¬ nI 59 = 111 by decide), if_neg (show ¬ nI 59 = 98 by decide), if_neg (show ¬ nI 59 = 107 by decide), if_neg (show ¬ nI 59 = 110 by decide), if_neg (show ¬ nI 59 = 111 by decide)]
    split
    · exact IO_no
    · exact IO_no
/-- the class's loop goes to the end of an item -/
theorem c_walk (ht : TX ln X Y x) {st : Nat} {cd bl ss wd : Int32} {V S R : Nat → Int32} : ∀ (kk f i : Nat), i + kk = ln → kk < f → (∀ j, st ≤ j → j < i → ¬ x j = 59) → st ≤ i → ∃ e f', i ≤ e ∧ AN ln x st e ∧ ln - e < f' ∧ fX3_readInto_b9 FU f (nI st) (nI i) X (nI ln) cd bl ss wd V S R = fX3_readInto_b9 FU f' (nI st) (nI e) X (nI ln) cd bl ss wd V S R := by
  have hln := ht.1
  intro kk
  induction kk with
  | zero =>
    intro f i h1 h2 h3 h4
    exact ⟨i, f, Nat.le_refl _, ⟨h4, by omega, h3, fun q => by omega⟩, by omega, rfl⟩
  | succ kk ih =>
    intro f i h1 h2 h3 h4
    by_cases z : x i = 59
    · exact ⟨i, f, Nat.le_refl _, ⟨h4, by omega, h3, fun _ => z⟩, by omega, rfl⟩
    · obtain ⟨f, rfl, -⟩ := q_suc h2
      obtain ⟨a1, a2, a3, a4⟩ := ht.2 i (by omega)
      obtain ⟨e, f', k1, k2, k3, k4⟩ := ih f (i + 1) (by omega) (by omega) (fun j q1 q2 => by
        by_cases q : j = i
        · rw [q]; exact z
        · exact h3 j q1 (by omega)) (by omega)
      refine ⟨e, f', by omega, k2, k3, ?_⟩
      rw [fX3_readInto_b9, if_neg (nI_ge (by omega) (by omega)), if_neg (nI_in (by omega) (by omega)), nI_clamp (by omega), a1, if_neg (show ¬ nI (x i) = 59 from fun q => z ((nI_eq (b := 59) (by omega) (by omega)).mp q)), fX3_readInto_b44, nI_1]
      exact k4
def TO (ln : Nat) (cl : Option (Int32 × Int32 × Int32 × Int32 × Int32 × (Nat → Int32) × (Nat → Int32) × (Nat → Int32))) (rf : Option (Int32 × (Nat → Int32) × Int32 × Int32)) : Prop :=
  ∃ (u cd bl st wd : Int32) (V S R : Nat → Int32) (M : Nat → Int32) (sp val : Int32), cl = some (u, cd, bl, st, wd, V, S, R) ∧ rf = some (u, M, sp, val) ∧ (u = -4 → RD cd bl st wd V S R M)
theorem j_text (ht : TX ln X Y x) : ∀ (kk st f g : Nat) (cd bl ss wd : Int32) (V S R M : Nat → Int32) (val : Int32), st + kk = ln → ∀ mm, kk ≤ mm → kk < f → kk < g → RD cd bl ss wd V S R M → TO ln (fX3_readInto_b9 FU f (nI st) (nI st) X (nI ln) cd bl ss wd V S R) (fX5_faultOf_b34 FU g M Y (nI ln) (nI st) val) := by
  have hln := ht.1
  intro kk
  induction kk using Nat.strongRecOn with
  | ind kk ih =>
    intro st f g cd bl ss wd V S R M val h1 mm h2 h3 h4 hr
    obtain ⟨g, rfl, -⟩ := q_suc h4
    by_cases z : st = ln
    · obtain ⟨f, rfl, -⟩ := q_suc h3
      rw [fX3_readInto_b9, if_pos (nI_le (by omega) (by omega)), fX3_readInto_b50, if_pos (nI_le (by omega) (by omega)), fX5_faultOf_b34, if_pos (nI_le (by omega) (by omega))]
      exact ⟨_, _, _, _, _, _, _, _, _, _, _, rfl, rfl, fun _ => hr⟩
    · have n4 : ∀ a : Nat, a < 1000 → ¬ nI a = (-4 : Int32) := fun a ha q => by
        have := congrArg Int32.toInt q
        rw [nI_toInt (by omega), show (-4 : Int32).toInt = -4 from rfl] at this
        omega
      obtain ⟨e, f', k1, k2, k3, k4⟩ := c_walk ht (st := st) (cd := cd) (bl := bl) (ss := ss) (wd := wd) (V := V) (S := S) (R := R) kk f st h1 h3 (fun j q1 q2 => by omega) (Nat.le_refl _)
      obtain ⟨u, cd', bl', ss', wd', V', S', R', t, M', sp, val', r1, r2, r3⟩ := i_item ht k2 (by omega) hr val
      have he := k2.2.1
      rw [k4, fX5_faultOf_b34, if_neg (nI_ge (by omega) (by omega)), r2, Option.bind_some]
      dsimp only
      obtain ⟨f', rfl, -⟩ := q_suc k3
      rw [fX3_readInto_b9]
      by_cases w : e = ln
      · rcases r3 with ⟨t0, -⟩ | ⟨-, -, q, -⟩
        · rw [if_pos (nI_le (by omega) (by omega)), fX3_readInto_b50, if_neg (nI_ge (by omega) (by omega)), if_pos t0]
          exact ⟨_, _, _, _, _, _, _, _, _, _, _, rfl, rfl, fun q => absurd q (n4 st (by omega))⟩
        · omega
      · obtain ⟨a1, a2, a3, a4⟩ := ht.2 e (by omega)
        rw [if_neg (nI_ge (by omega) (by omega)), if_neg (nI_in (by omega) (by omega)), nI_clamp (by omega), a1, if_pos (show nI (x e) = 59 by rw [k2.2.2.2 (by omega)]; rfl), r1, Option.bind_some]
        dsimp only
        rcases r3 with ⟨t0, u0⟩ | ⟨t1, u1, q, sp1, hr'⟩
        · have u0' := u0.resolve_right w
          rw [if_pos t0, if_pos u0']
          exact ⟨_, _, _, _, _, _, _, _, _, _, _, rfl, rfl, fun q => absurd q (n4 st (by omega))⟩
        · rw [t1, u1, if_neg q_10, if_neg q_10, fX3_readInto_b44, nI_1, sp1]
          exact ih (ln - (e + 1)) (by omega) (e + 1) f' g cd' bl' ss' wd' V' S' R' M' val' (by omega) _ (Nat.le_refl _) (by omega) (by omega) hr'
theorem q_fo2 {M : Nat → Int32} {ln' sp val : Int32} : ∀ (kk f i : Nat), i + kk = 32 → kk < f → fX5_faultOf_b2 FU f (nI i) (fa_fill (fun _ => 0) M i) Y ln' sp val = fX5_faultOf_b21 FU (fa_fill (fun _ => 0) M 32) Y ln' sp val := by
  intro kk
  induction kk with
  | zero =>
    intro f i h1 h2
    obtain ⟨f, rfl, -⟩ := q_suc h2
    rw [fX5_faultOf_b2, if_pos (show (32 : Int32) ≤ nI i from nI_le (a := 32) (by omega) (by omega)), show i = 32 by omega]
  | succ kk ih =>
    intro f i h1 h2
    obtain ⟨f, rfl, -⟩ := q_suc h2
    have hh := ih f (i + 1) (by omega) (by omega)
    rw [← fa_fill_succ] at hh
    rw [fX5_faultOf_b2, if_neg (show ¬ (32 : Int32) ≤ nI i from nI_ge (b := 32) (by omega) (by omega)), if_neg (nI_in (by omega) (by omega)), nI_clamp (by omega), nI_1]
    exact hh
theorem j_read (ht : TX ln X Y x) (cd bl ss wd : Int32) (V S R M : Nat → Int32) (sp val : Int32) : TO ln (fX3_readInto FU X (nI ln) cd bl ss wd V S R) (fX5_faultOf FU M Y (nI ln) sp val) := by
  have hF := FU_e
  have hln := ht.1
  unfold fX3_readInto fX5_faultOf
  have h1 := q_fo2 (Y := Y) (M := M) (ln' := nI ln) (sp := sp) (val := val) 32 FU 0 (by omega) (by omega)
  rw [fa_fill_0] at h1
  rw [q_begW, Option.bind_some, show fX5_faultOf_b2 FU FU 0 M Y (nI ln) sp val = _ from h1, fX5_faultOf_b21]
  refine j_text ht ln 0 FU FU _ _ _ _ _ _ _ _ _ (by omega) ln (Nat.le_refl _) (by omega) (by omega) (Or.inl ⟨rfl, rfl, rfl, rfl, ?_, ?_, ?_, ?_⟩)
  · rw [q_upn _ _ (by omega), fa_fill_in (by omega)]
  · rw [q_upn _ _ (by omega), fa_fill_in (by omega)]
  · rw [q_upi]
  · rw [q_upn _ _ (by omega), fa_fill_in (by omega)]
theorem o_fault (ht : TX ln X Y x) (cd bl ss wd : Int32) (V S R M : Nat → Int32) (sp val : Int32) : SAME (fX4_fault FU X (nI ln) cd bl ss wd V S R) (fX5_fault FU M Y (nI ln) sp val) := by
  obtain ⟨u, cd', bl', ss', wd', V', S', R', M', sp', val', r1, r2, r3⟩ := j_read ht cd bl ss wd V S R M sp val
  unfold fX4_fault fX5_fault
  rw [r1, r2, Option.bind_some, Option.bind_some]
  exact ⟨_, _, _, rfl, rfl⟩
theorem q_ly23 {M : Nat → Int32} {sp val ch : Int32} {T : Nat → Int32} : ∀ (kk f i : Nat), i + kk = 32 → kk < f → fX5_lay_b23 FU f (nI i) (fa_fill M T i) M ch sp val = some (fa_fill M T 32 0, fa_fill M T 32, M, 0, sp, val) := by
  intro kk
  induction kk with
  | zero =>
    intro f i h1 h2
    obtain ⟨f, rfl, -⟩ := q_suc h2
    rw [fX5_lay_b23, if_pos (show (32 : Int32) ≤ nI i from nI_le (a := 32) (by omega) (by omega)), show i = 32 by omega, fX5_lay_b47]
  | succ kk ih =>
    intro f i h1 h2
    obtain ⟨f, rfl, -⟩ := q_suc h2
    have hh := ih f (i + 1) (by omega) (by omega)
    rw [← fa_fill_succ] at hh
    rw [fX5_lay_b23, if_neg (show ¬ (32 : Int32) ≤ nI i from nI_ge (b := 32) (by omega) (by omega)), if_neg (nI_in (by omega) (by omega)), nI_clamp (by omega), nI_1]
    exact hh
/-- a council that is copied stays what it is -/
theorem CR_copy {cd bl st wd : Int32} {V S R T : Nat → Int32} {n b k w : Nat} {v s r : Nat → Nat} (h : CR cd bl st wd V S R T n b k w v s r) {V' S' R' T' : Nat → Int32} (hv : ∀ j, j < 11 → V' j = V j) (hs : ∀ j, j < 11 → S' j = S j) (hr : ∀ j, j < 8 → R' j = R j) (ht : ∀ j, j < 32 → T' j = T j) : CR cd bl st wd V' S' R' T' n b k w v s r := by
  obtain ⟨⟨a1, a2, a3, a4, a5, a6⟩, ⟨c1, c2, c3, c4⟩, ⟨t0, t1, t22, t23⟩, hV, hS, hs', hR, inj⟩ := h
  exact ⟨⟨a1, a2, by omega, a4, a5, a6⟩, ⟨c1, c2, c3, c4⟩, ⟨by rw [ht 0 (by omega)]; exact t0, by rw [ht 1 (by omega)]; exact t1, by rw [ht 22 (by omega)]; exact t22, by rw [ht 23 (by omega)]; exact t23⟩, fun j hj => by rw [ht (2 + j) (by omega), hv j (by omega)]; exact hV j hj, fun j hj => by rw [ht (12 + j) (by omega), hs j (by omega)]; exact hS j hj, hs', fun i hi => by rw [ht (24 + i) (by omega), hr i (by omega)]; exact hR i hi, inj⟩
end TI
