/-! pure rows: joins, matters, rather, decided, count -/
theorem q_upi (f : Nat → Int32) (i : Nat) (x : Int32) : upd f i x i = x := by unfold upd; rw [if_pos rfl]
theorem q_upn (f : Nat → Int32) {i j : Nat} (x : Int32) (h : ¬ j = i) : upd f i x j = f j := by unfold upd; rw [if_neg h]
theorem EP_of {n b w : Nat} {V S R : Nat → Int32} {v s r : Nat → Nat} (hb : b ≤ 11) (hn : n ≤ 8) (hw : w < 256) (hv : ∀ j, j < b → V j = nI (v j) ∧ v j ≤ 20) (hs : ∀ j, j < b → S j = nI (s j) ∧ s j < 256) (hsum : fb_sm v b ≤ 60) (hr : ∀ i, i < n → R i = nI (r i) ∧ r i < n) : EP n b w V S R v s r :=
  ⟨⟨hb, fun j hj => ⟨(hv j hj).1, (hv j hj).2, (hs j hj).1, (hs j hj).2⟩, hsum⟩, hn, hw, hr⟩
section OT
variable {n b k w : Nat} {V S R T : Nat → Int32} {v s r : Nat → Nat}
theorem q_joL {law c : Nat} (hl : law < 4) (hc : c < n) (h : CR (nI n) (nI b) (nI k) (nI w) V S R T n b k w v s r) {Rs Rr R5 : Nat → Int32} (hRs : ∀ j, j < b → Rs j = nI (s j)) (hRb : Rs b = nI (2 ^ c)) (hRr : ∀ i, i < n → Rr i = nI (r i)) (hR5 : ∀ i, i < n → R5 i = nI (r i)) : ∀ (kk fC fR x : Nat) (Rv : Nat → Int32) (O : Nat → Int32) (A B : Nat → Int64) (ee es : Int32) (P : Nat → Int32) (Wo L : Nat → Int64) (u : Int64) (H5 S5 : Nat → Int32) (x5 : Int32) (L5 : Nat → Int64) (u5 : Int64) (O5 : Nat → Int32) (e5 m5 : Int32) (A5 B5 : Nat → Int64), x + kk = 21 → kk < fC → kk < fR → (∀ j, j < b → Rv j = nI (v j)) → (∀ j, j < b → H5 j = nI (v j)) → (∀ j, j < b → S5 j = nI (s j)) →
    SAME (fX4_joins_b55 FU fC (nI law) (nI c) (nI x) O A B ee es P Wo L u (nI b) (nI n) (nI (b + 1)) (nI k) (nI w) Rv Rs Rr) (fX5_joins_b46 FU fR (nI law) (nI c) (nI b) (nI x) T H5 S5 x5 R5 L5 u5 O5 e5 m5 A5 B5) := by
  obtain ⟨⟨h1, h2, h3, h4, h5, h6⟩, -, ⟨t0, t1, t22, t23⟩, hV, hS, hs, hR, -⟩ := h
  have hp := q_pn h2
  have hcc : 2 ^ c < 256 := by
    have := Nat.pow_le_pow_right (n := 2) (by decide) (show c ≤ 7 by omega)
    omega
  intro kk
  induction kk with
  | zero =>
    intro fC fR x Rv O A B ee es P Wo L u H5 S5 x5 L5 u5 O5 e5 m5 A5 B5 e1 e2 e3 e4 e5' e6
    obtain ⟨fC, rfl, -⟩ := q_suc e2
    obtain ⟨fR, rfl, -⟩ := q_suc e3
    rw [fX4_joins_b55, fX5_joins_b46, if_pos (show (20 : Int32) < nI x from nI_lt (a := 20) (by omega) (by omega)), if_pos (show (20 : Int32) < nI x from nI_lt (a := 20) (by omega) (by omega))]
    exact ⟨_, _, _, rfl, rfl⟩
  | succ kk ih =>
    intro fC fR x Rv O A B ee es P Wo L u H5 S5 x5 L5 u5 O5 e5 m5 A5 B5 e1 e2 e3 e4 e5' e6
    obtain ⟨fC, rfl, -⟩ := q_suc e2
    obtain ⟨fR, rfl, -⟩ := q_suc e3
    have nx : ¬ (20 : Int32) < nI x := fun e => by
      rw [fa_lt, nI_toInt (by omega), show (20 : Int32).toInt = 20 from rfl] at e
      omega
    have sm : fb_sm (fun j => if j = b then x else v j) (b + 1) ≤ 60 := by
      rw [fb_sm_succ, fb_sm_out v x (Nat.le_refl b), if_pos rfl]
      omega
    have sm0 : fb_sm (fun j => if j = b then x else v j) b ≤ 60 := by
      rw [fb_sm_out v x (Nat.le_refl b)]
      omega
    have epC : EP n (b + 1) w (upd Rv b (nI x)) Rs Rr (fun j => if j = b then x else v j) (fun j => if j = b then 2 ^ c else s j) r := by
      refine EP_of (by omega) h2 (by omega) (fun j hj => ?_) (fun j hj => ?_) sm (fun i hi => ⟨hRr i hi, (hR i hi).2.2⟩)
      · by_cases z : j = b
        · rw [z, q_upi]; simp only [if_true]; exact ⟨trivial, by omega⟩
        · rw [q_upn _ _ z]; simp only [if_neg z]; exact ⟨e4 j (by omega), (hV j (by omega)).2.2.2⟩
      · by_cases z : j = b
        · simp only [z, if_true]; exact ⟨hRb, hcc⟩
        · simp only [if_neg z]; exact ⟨hRs j (by omega), by have := (hS j (by omega)).2.2.2; omega⟩
    have epR : ∀ bR, bR ≤ b + 1 → fb_sm (fun j => if j = b then x else v j) bR ≤ 60 → EP n bR w (upd H5 b (nI x)) (upd S5 b (nI (2 ^ c))) R5 (fun j => if j = b then x else v j) (fun j => if j = b then 2 ^ c else s j) r := fun bR hbR hsm => by
      refine EP_of (by omega) h2 (by omega) (fun j hj => ?_) (fun j hj => ?_) hsm (fun i hi => ⟨hR5 i hi, (hR i hi).2.2⟩)
      · by_cases z : j = b
        · rw [z, q_upi]; simp only [if_true]; exact ⟨trivial, by omega⟩
        · rw [q_upn _ _ z]; simp only [if_neg z]; exact ⟨e5' j (by omega), (hV j (by omega)).2.2.2⟩
      · by_cases z : j = b
        · rw [z, q_upi]; simp only [if_true]; exact ⟨trivial, hcc⟩
        · rw [q_upn _ _ z]; simp only [if_neg z]; exact ⟨e6 j (by omega), by have := (hS j (by omega)).2.2.2; omega⟩
    have kV : ∀ j, j < b → upd Rv b (nI x) j = nI (v j) := fun j hj => by rw [q_upn _ _ (by omega)]; exact e4 j hj
    have kH : ∀ j, j < b → upd H5 b (nI x) j = nI (v j) := fun j hj => by rw [q_upn _ _ (by omega)]; exact e5' j hj
    have kS : ∀ j, j < b → upd S5 b (nI (2 ^ c)) j = nI (s j) := fun j hj => by rw [q_upn _ _ (by omega)]; exact e6 j hj
    rw [fX4_joins_b55, fX5_joins_b46, if_neg nx, if_neg nx, if_neg (nI_in (by omega) (by omega)), if_neg (nI_in (by omega) (by omega)), nI_clamp (by omega), q_shl1 c (by omega), show nI b + 1 = nI (b + 1) from nI_1 b]
    by_cases z : x = 0
    · rw [if_pos (show nI x = (0 : Int32) by rw [z]; rfl), fX5_joins_b83]
      obtain ⟨e2', m2, O2, A2, B2, L2, u2, O52, A52, B52, L52, u52, W2, P2, g1, g2, g3⟩ := q_hold hl epC (epR b (by omega) sm0) (by omega) (fun j q1 q2 => by rw [if_pos (by omega)]; exact z) t0 t23 t22 h5 O A B ee es P Wo L u O5 A5 B5 L5 u5 e5 m5
      rw [g1, g2, Option.bind_some, Option.bind_some, q_hasBit, q_has, Option.bind_some, Option.bind_some]
      dsimp only
      by_cases y : ((nI m2 >>> (nI c &&& 31)) &&& (1 : Int32)) = (1 : Int32)
      · rw [if_pos y, if_neg q_10, if_neg q_10]
        exact ⟨_, _, _, rfl, rfl⟩
      · rw [if_neg y, if_pos rfl, if_pos rfl, nI_1]
        exact ih fC fR (x + 1) _ _ _ _ _ _ _ _ _ _ _ _ _ _ _ _ _ _ _ _ (by omega) (by omega) (by omega) kV kH kS
    · rw [if_neg (show ¬ nI x = (0 : Int32) from fun e => z ((nI_eq (a := x) (b := 0) (by omega) (by omega)).mp e)), fX5_joins_b83]
      obtain ⟨e2', m2, O2, A2, B2, L2, u2, O52, A52, B52, L52, u52, W2, P2, g1, g2, g3⟩ := q_hold hl epC (epR (b + 1) (by omega) sm) (by omega) (fun j q1 q2 => absurd q2 (by omega)) t0 t23 t22 h5 O A B ee es P Wo L u O5 A5 B5 L5 u5 e5 m5
      rw [g1, g2, Option.bind_some, Option.bind_some, q_hasBit, q_has, Option.bind_some, Option.bind_some]
      dsimp only
      by_cases y : ((nI m2 >>> (nI c &&& 31)) &&& (1 : Int32)) = (1 : Int32)
      · rw [if_pos y, if_neg q_10, if_neg q_10]
        exact ⟨_, _, _, rfl, rfl⟩
      · rw [if_neg y, if_pos rfl, if_pos rfl, nI_1]
        exact ih fC fR (x + 1) _ _ _ _ _ _ _ _ _ _ _ _ _ _ _ _ _ _ _ _ (by omega) (by omega) (by omega) kV kH kS
variable (O : Nat → Int32) (A B : Nat → Int64) (ee es : Int32) (P : Nat → Int32) (Wo L : Nat → Int64) (u : Int64) (H5 S5 : Nat → Int32) (x5 : Int32) (R5 : Nat → Int32) (L5 : Nat → Int64) (u5 : Int64) (O5 : Nat → Int32) (e5 m5 : Int32) (A5 B5 : Nat → Int64) (Rc Rb Rk Rw : Int32) (Rv Rs Rr : Nat → Int32)
theorem o_joins (h : CR (nI n) (nI b) (nI k) (nI w) V S R T n b k w v s r) (p c : Int32) : SAME (fX4_joins FU p c O A B ee es P Wo L u (nI n) (nI b) (nI k) (nI w) V S R Rc Rb Rk Rw Rv Rs Rr) (fX5_joins FU p c T H5 S5 x5 R5 L5 u5 O5 e5 m5 A5 B5) := by
  have hF := FU_e
  have hb := h.1.2.2.1
  unfold fX4_joins fX5_joins
  rcases g_law p with ⟨l, hl, rfl, e1, e2⟩ | ⟨e1, e2⟩
  · rw [e1, e2, Option.bind_some, Option.bind_some, if_neg q_10, if_neg q_10]
    rcases g_cand c h.1.1 h.1.2.1 h.2.2.1.1 with ⟨c, hc, rfl, d1, d2⟩ | ⟨d1, d2⟩
    · rw [d1, d2, Option.bind_some, Option.bind_some, if_neg q_10, if_neg q_10]
      unfold fX0_isWithdrawn
      rw [q_hasBit, Option.bind_some, h.2.2.1.2.2.2, q_has, if_neg (q_b01 _), Option.bind_some, Option.bind_some]
      by_cases y : ((nI w >>> (nI c &&& 31)) &&& (1 : Int32)) = (1 : Int32)
      · rw [if_pos y, if_neg q_10, if_neg q_10]
        exact ⟨_, _, _, rfl, rfl⟩
      · rw [if_neg y, if_pos rfl, if_pos rfl, q_lays h.1.2.1 h.1.2.2.1 h.2.2.1.1 h.2.2.1.2.1]
        unfold fX0_copyFrom
        rw [Option.bind_some, Option.bind_some]
        unfold fX0_addBallot
        dsimp only
        rw [if_neg (show ¬ (11 : Int32) ≤ nI b from nI_ge (b := 11) (by omega) (by omega)), if_neg (nI_in (by omega) (by omega)), nI_clamp (by omega), Option.bind_some, nI_1, q_shl1 c (by have := h.1.2.1; omega)]
        dsimp only
        refine q_joL hl hc h (fun j hj => ?_) (q_upi _ _ _) (fun i hi => ?_) (fun i hi => ?_) 21 FU FU 0 _ _ _ _ _ _ _ _ _ _ _ _ _ _ _ _ _ _ _ _ (by omega) (by omega) (by omega) (fun j hj => ?_) (fun j hj => ?_) (fun j hj => ?_)
        · rw [q_upn _ _ (by omega), sb_cpy0 (by omega)]; exact (h.2.2.2.2.1 j hj).1
        · rw [sb_cpy0 (by have := h.1.2.1; omega)]; exact (h.2.2.2.2.2.2.1 i hi).1
        · rw [fa_fill_in hi]; exact (h.2.2.2.2.2.2.1 i hi).2.1
        · rw [q_upn _ _ (by omega), sb_cpy0 (by omega)]; exact (h.2.2.2.1 j hj).1
        · rw [fa_fill_in hj]; exact (h.2.2.2.1 j hj).2.1
        · rw [fa_fill_in hj]; exact (h.2.2.2.2.1 j hj).2.1
    · rw [d1, d2, Option.bind_some, Option.bind_some, if_pos rfl, if_pos rfl]
      exact ⟨_, _, _, rfl, rfl⟩
  · rw [e1, e2, Option.bind_some, Option.bind_some, if_pos rfl, if_pos rfl]
    exact ⟨_, _, _, rfl, rfl⟩
end OT
