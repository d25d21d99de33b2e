/-! pure rows: matters, rather, decided, count -/
section OU
variable {n b k w : Nat} {V S R T : Nat → Int32} {v s r : Nat → Nat}
theorem q_dn {a : Nat} (h : 1 ≤ a) : nI a - 1 = nI (a - 1) := by
  obtain ⟨a, rfl⟩ : ∃ q, a = q + 1 := ⟨a - 1, by omega⟩
  rw [← nI_1]
  exact Int32.add_sub_cancel _ _
theorem q_maL {law : Nat} (hl : law < 4) (m : Int32) (h : CR (nI n) (nI b) (nI k) (nI w) V S R T n b k w v s r) {Rs Rr R5 S5 : Nat → Int32} (hRs : ∀ j, j < b → Rs j = nI (s j)) (hS5 : ∀ j, j < b → S5 j = nI (s j)) (hRr : ∀ i, i < n → Rr i = nI (r i)) (hR5 : ∀ i, i < n → R5 i = nI (r i)) : ∀ (kk fC fR x : Nat) (t : Int32) (Rv : Nat → Int32) (O : Nat → Int32) (A B : Nat → Int64) (ee es : Int32) (P : Nat → Int32) (Wo L : Nat → Int64) (u : Int64) (H5 : Nat → Int32) (L5 : Nat → Int64) (u5 : Int64) (O5 : Nat → Int32) (e5 m5 : Int32) (A5 B5 : Nat → Int64), x + kk = b → kk < fC → kk < fR → (∀ j, j < b → Rv j = nI (v j)) → (∀ j, j < b → H5 j = nI (v j)) →
    SAME (fX4_matters_b38 FU fC (nI law) m t (nI x) O A B ee es P Wo L u (nI b) V (nI n) (nI b) (nI k) (nI w) Rv Rs Rr) (fX5_matters_b20 FU fR (nI law) m t (nI x) T H5 S5 (nI b) R5 L5 u5 O5 e5 m5 A5 B5) := by
  obtain ⟨⟨h1, h2, h3, h4, h5, h6⟩, -, ⟨t0, t1, t22, t23⟩, hV, hS, hs, hR, -⟩ := h
  have hp := q_pn h2
  intro kk
  induction kk with
  | zero =>
    intro fC fR x t Rv O A B ee es P Wo L u H5 L5 u5 O5 e5 m5 A5 B5 e1 e2 e3 e4 e5'
    obtain ⟨fC, rfl, -⟩ := q_suc e2
    obtain ⟨fR, rfl, -⟩ := q_suc e3
    rw [fX4_matters_b38, fX5_matters_b20, if_pos (nI_le (by omega) (by omega)), if_pos (nI_le (by omega) (by omega))]
    exact ⟨_, _, _, rfl, rfl⟩
  | succ kk ih =>
    intro fC fR x t Rv O A B ee es P Wo L u H5 L5 u5 O5 e5 m5 A5 B5 e1 e2 e3 e4 e5'
    obtain ⟨fC, rfl, -⟩ := q_suc e2
    obtain ⟨fR, rfl, -⟩ := q_suc e3
    have hx := hV x (by omega)
    have sm : fb_sm (fun j => if j = x then v x - 1 else v j) b ≤ 60 := by
      have := fb_sm_upd v (v x - 1) (i := x) (n := b) (by omega)
      omega
    have up : ∀ F : Nat → Int32, (∀ j, j < b → F j = nI (v j)) → ∀ j, j < b → upd F x (nI (v x - 1)) j = nI (if j = x then v x - 1 else v j) ∧ (if j = x then v x - 1 else v j) ≤ 20 := fun F hF j hj => by
      have := (hV j hj).2.2.2
      by_cases z : j = x
      · rw [z, q_upi, if_pos rfl]; exact ⟨rfl, by omega⟩
      · rw [q_upn _ _ z, if_neg z]; exact ⟨hF j hj, by omega⟩
    have epC : EP n b w (upd Rv x (nI (v x - 1))) Rs Rr (fun j => if j = x then v x - 1 else v j) s r :=
      EP_of (by omega) h2 (by omega) (up Rv e4) (fun j hj => ⟨hRs j hj, by have := (hS j (by omega)).2.2.2; omega⟩) sm (fun i hi => ⟨hRr i hi, (hR i hi).2.2⟩)
    have epR : EP n b w (upd H5 x (nI (v x - 1))) S5 R5 (fun j => if j = x then v x - 1 else v j) s r :=
      EP_of (by omega) h2 (by omega) (up H5 e5') (fun j hj => ⟨hS5 j hj, by have := (hS j (by omega)).2.2.2; omega⟩) sm (fun i hi => ⟨hR5 i hi, (hR i hi).2.2⟩)
    obtain ⟨e2', m2, O2, A2, B2, L2, u2, O52, A52, B52, L52, u52, W2, P2, g1, g2, g3⟩ := q_hold hl epC epR (by omega) (fun j q1 q2 => absurd q2 (by omega)) t0 t23 t22 h5 O A B ee es P Wo L u O5 A5 B5 L5 u5 e5 m5
    have kV : ∀ j, j < b → upd (upd Rv x (nI (v x - 1))) x (nI (v x)) j = nI (v j) := fun j hj => by
      by_cases z : j = x
      · rw [z, q_upi]
      · rw [q_upn _ _ z, q_upn _ _ z]; exact e4 j hj
    have kH : ∀ j, j < b → upd (upd H5 x (nI (v x - 1))) x (nI (v x)) j = nI (v j) := fun j hj => by
      by_cases z : j = x
      · rw [z, q_upi]
      · rw [q_upn _ _ z, q_upn _ _ z]; exact e5' j hj
    rw [fX4_matters_b38, fX5_matters_b20, if_neg (nI_ge (by omega) (by omega)), if_neg (nI_ge (by omega) (by omega)), if_neg (nI_in (by omega) (by omega)), if_neg (nI_in (by omega) (by omega)), nI_clamp (by omega), hx.1, e5' x (by omega), q_dn hx.2.2.1, g1, g2, Option.bind_some, Option.bind_some, q_upi, nI_1, show v x - 1 + 1 = v x by omega]
    dsimp only
    by_cases y : nI m2 = m
    · rw [if_pos y, if_pos y, fX4_matters_b95, fX5_matters_b73, if_neg (nI_in (by omega) (by omega)), nI_clamp (by omega), hx.1, nI_1, Int32.or_zero]
      exact ih fC fR (x + 1) _ _ _ _ _ _ _ _ _ _ _ _ _ _ _ _ _ _ _ (by omega) (by omega) (by omega) kV kH
    · rw [if_neg y, if_neg y, fX4_matters_b95, fX5_matters_b73, if_neg (nI_in (by omega) (by omega)), nI_clamp (by omega), hx.1, nI_1]
      exact ih fC fR (x + 1) _ _ _ _ _ _ _ _ _ _ _ _ _ _ _ _ _ _ _ (by omega) (by omega) (by omega) kV kH
theorem q_raL {law i : Nat} (hl : law < 4) (hi : i < b) (x3 : Int32) (h : CR (nI n) (nI b) (nI k) (nI w) V S R T n b k w v s r) {Rv H5 Rr R5 : Nat → Int32} (hRv : ∀ j, j < b → Rv j = nI (v j)) (hH5 : ∀ j, j < b → H5 j = nI (v j)) (hRr : ∀ i, i < n → Rr i = nI (r i)) (hR5 : ∀ i, i < n → R5 i = nI (r i)) : ∀ (kk fC fR x : Nat) (t y : Int32) (Rs : Nat → Int32) (O : Nat → Int32) (A B : Nat → Int64) (ee es : Int32) (P : Nat → Int32) (Wo L : Nat → Int64) (u : Int64) (S5 : Nat → Int32) (L5 : Nat → Int64) (u5 : Int64) (O5 : Nat → Int32) (e5 m5 : Int32) (A5 B5 : Nat → Int64), x + kk = 2 ^ n → kk < fC → kk < fR → (∀ j, j < b → ¬ j = i → Rs j = nI (s j)) → (∀ j, j < b → ¬ j = i → S5 j = nI (s j)) →
    SAME (fX4_rather_b75 FU fC (nI law) (nI i) x3 (nI (s i)) t y (nI x) O A B ee es P Wo L u (nI n) (nI n) (nI b) (nI k) (nI w) Rv Rs Rr) (fX5_rather_b57 FU fR (nI law) (nI i) x3 (nI (s i)) t y (nI x) T H5 S5 (nI b) R5 L5 u5 O5 e5 m5 A5 B5) := by
  obtain ⟨⟨h1, h2, h3, h4, h5, h6⟩, -, ⟨t0, t1, t22, t23⟩, hV, hS, hs, hR, -⟩ := h
  have hp := q_pn h2
  intro kk
  induction kk with
  | zero =>
    intro fC fR x t y Rs O A B ee es P Wo L u S5 L5 u5 O5 e5 m5 A5 B5 e1 e2 e3 e4 e5'
    obtain ⟨fC, rfl, -⟩ := q_suc e2
    obtain ⟨fR, rfl, -⟩ := q_suc e3
    rw [fX4_rather_b75, fX5_rather_b57, t0, q_shl8 n (by omega), if_pos (nI_le (by omega) (by omega)), if_pos (nI_le (by omega) (by omega)), fX4_rather_b141, fX5_rather_b133]
    by_cases z : y = -4
    · rw [if_pos z, if_pos z]; exact ⟨_, _, _, rfl, rfl⟩
    · rw [if_neg z, if_neg z]
      by_cases z2 : x3 = 0
      · rw [if_pos z2, if_pos z2]; exact ⟨_, _, _, rfl, rfl⟩
      · rw [if_neg z2, if_neg z2]; exact ⟨_, _, _, rfl, rfl⟩
  | succ kk ih =>
    intro fC fR x t y Rs O A B ee es P Wo L u S5 L5 u5 O5 e5 m5 A5 B5 e1 e2 e3 e4 e5'
    obtain ⟨fC, rfl, -⟩ := q_suc e2
    obtain ⟨fR, rfl, -⟩ := q_suc e3
    have up : ∀ F : Nat → Int32, (∀ j, j < b → ¬ j = i → F j = nI (s j)) → ∀ j, j < b → upd F i (nI x) j = nI (if j = i then x else s j) ∧ (if j = i then x else s j) < 256 := fun F hF j hj => by
      have := (hS j hj).2.2.2
      by_cases z : j = i
      · rw [z, q_upi, if_pos rfl]; exact ⟨rfl, by omega⟩
      · rw [q_upn _ _ z, if_neg z]; exact ⟨hF j hj z, by omega⟩
    have epC : EP n b w Rv (upd Rs i (nI x)) Rr v (fun j => if j = i then x else s j) r :=
      EP_of (by omega) h2 (by omega) (fun j hj => ⟨hRv j hj, (hV j hj).2.2.2⟩) (up Rs e4) (by omega) (fun i hi => ⟨hRr i hi, (hR i hi).2.2⟩)
    have epR : EP n b w H5 (upd S5 i (nI x)) R5 v (fun j => if j = i then x else s j) r :=
      EP_of (by omega) h2 (by omega) (fun j hj => ⟨hH5 j hj, (hV j hj).2.2.2⟩) (up S5 e5') (by omega) (fun i hi => ⟨hR5 i hi, (hR i hi).2.2⟩)
    obtain ⟨e2', m2, O2, A2, B2, L2, u2, O52, A52, B52, L52, u52, W2, P2, g1, g2, g3⟩ := q_hold hl epC epR (by omega) (fun j q1 q2 => absurd q2 (by omega)) t0 t23 t22 h5 O A B ee es P Wo L u O5 A5 B5 L5 u5 e5 m5
    have kV : ∀ F : Nat → Int32, (∀ j, j < b → ¬ j = i → F j = nI (s j)) → ∀ j, j < b → ¬ j = i → upd F i (nI x) j = nI (s j) := fun F hF j hj z => by
      rw [q_upn _ _ z]; exact hF j hj z
    have hm : m2 &&& s i < 256 := q_and256 g3.2.1
    rw [fX4_rather_b75, fX5_rather_b57, t0, q_shl8 n (by omega), if_neg (nI_ge (by omega) (by omega)), if_neg (nI_ge (by omega) (by omega)), if_neg (nI_in (by omega) (by omega)), if_neg (nI_in (by omega) (by omega)), nI_clamp (by omega), g1, g2, Option.bind_some, Option.bind_some]
    dsimp only
    rw [fa_and, q_bc _ hm, q_ones _ hm, Option.bind_some, Option.bind_some]
    by_cases z : nI (bcN (m2 &&& s i)) ≤ t
    · rw [if_pos z, if_pos z, fX4_rather_b135, fX5_rather_b109, if_pos z, fX5_rather_b125, nI_1]
      exact ih fC fR (x + 1) _ _ _ _ _ _ _ _ _ _ _ _ _ _ _ _ _ _ _ _ (by omega) (by omega) (by omega) (kV _ e4) (kV _ e5')
    · rw [if_neg z, if_neg z, fX4_rather_b135, fX5_rather_b109, if_neg z, fX5_rather_b125, nI_1]
      exact ih fC fR (x + 1) _ _ _ _ _ _ _ _ _ _ _ _ _ _ _ _ _ _ _ _ (by omega) (by omega) (by omega) (kV _ e4) (kV _ e5')
variable (O : Nat → Int32) (A B : Nat → Int64) (ee es : Int32) (P : Nat → Int32) (Wo L : Nat → Int64) (u : Int64) (H5 S5 : Nat → Int32) (x5 : Int32) (R5 : Nat → Int32) (L5 : Nat → Int64) (u5 : Int64) (O5 : Nat → Int32) (e5 m5 : Int32) (A5 B5 : Nat → Int64) (Rc Rb Rk Rw : Int32) (Rv Rs Rr : Nat → Int32)
theorem o_matters (h : CR (nI n) (nI b) (nI k) (nI w) V S R T n b k w v s r) (p : Int32) : SAME (fX4_matters FU p O A B ee es P Wo L u (nI n) (nI b) (nI k) (nI w) V S R Rc Rb Rk Rw Rv Rs Rr) (fX5_matters FU p T H5 S5 x5 R5 L5 u5 O5 e5 m5 A5 B5) := by
  have hF := FU_e
  have hb := h.1.2.2.1
  unfold fX4_matters fX5_matters
  rcases g_law p with ⟨l, hl, rfl, e1, e2⟩ | ⟨e1, e2⟩
  · rw [e1, e2, Option.bind_some, Option.bind_some, if_neg q_10, if_neg q_10]
    obtain ⟨e2', m2, O2, A2, B2, L2, u2, O52, A52, B52, L52, u52, W2, P2, g1, g2, g3⟩ := q_mb hl h O A B ee es P Wo L u H5 S5 x5 R5 L5 u5 O5 e5 m5 A5 B5
    unfold fX0_copyFrom
    rw [g1, g2, Option.bind_some, Option.bind_some, Option.bind_some]
    dsimp only
    refine q_maL hl _ h (fun j hj => ?_) (fun j hj => ?_) (fun i hi => ?_) (fun i hi => ?_) b FU FU 0 _ _ _ _ _ _ _ _ _ _ _ _ _ _ _ _ _ _ _ (by omega) (by omega) (by omega) (fun j hj => ?_) (fun j hj => ?_)
    · rw [sb_cpy0 (by omega)]; exact (h.2.2.2.2.1 j hj).1
    · rw [fa_fill_in hj]; exact (h.2.2.2.2.1 j hj).2.1
    · rw [sb_cpy0 (by have := h.1.2.1; omega)]; exact (h.2.2.2.2.2.2.1 i hi).1
    · rw [fa_fill_in hi]; exact (h.2.2.2.2.2.2.1 i hi).2.1
    · rw [sb_cpy0 (by omega)]; exact (h.2.2.2.1 j hj).1
    · rw [fa_fill_in hj]; exact (h.2.2.2.1 j hj).2.1
  · rw [e1, e2, Option.bind_some, Option.bind_some, if_pos rfl, if_pos rfl]
    exact ⟨_, _, _, rfl, rfl⟩
theorem o_rather (h : CR (nI n) (nI b) (nI k) (nI w) V S R T n b k w v s r) (p q x : Int32) : SAME (fX4_rather FU p q x O A B ee es P Wo L u (nI n) (nI b) (nI k) (nI w) V S R Rc Rb Rk Rw Rv Rs Rr) (fX5_rather FU p q x T H5 S5 x5 R5 L5 u5 O5 e5 m5 A5 B5) := by
  have hF := FU_e
  have hb := h.1.2.2.1
  have hp := q_pn h.1.2.1
  have hp1 := (q_2n h.1.2.1).2
  unfold fX4_rather fX5_rather
  rcases g_law p with ⟨l, hl, rfl, e1, e2⟩ | ⟨e1, e2⟩
  · rw [e1, e2, Option.bind_some, Option.bind_some, if_neg q_10, if_neg q_10]
    rcases g_bal q h.1.2.2.1 h.2.2.1.2.1 with ⟨c, hc, rfl, d1, d2⟩ | ⟨d1, d2⟩
    · rw [d1, d2, Option.bind_some, Option.bind_some, if_neg q_10, if_neg q_10]
      have h0 : (0 : Int32).toInt = 0 := rfl
      have h3 : (1 : Int32).toInt = 1 := rfl
      rcases g_int x 0 1 with ⟨q1, q2, q3⟩ | ⟨q1, q3⟩
      · rw [q3, Option.bind_some, if_neg q_10, if_neg (show ¬ x < 0 by rw [fa_lt]; omega), if_pos (show x ≤ 1 by rw [fa_le]; omega), q_add12, if_neg (nI_in (by omega) (by omega)), if_neg (nI_in (by omega) (by omega)), nI_clamp (show c < 2 ^ 31 by omega), nI_clamp (show 12 + c < 2 ^ 31 by omega)]
        obtain ⟨e2', m2, O2, A2, B2, L2, u2, O52, A52, B52, L52, u52, W2, P2, g1, g2, g3⟩ := q_mb hl h O A B ee es P Wo L u H5 S5 x5 R5 L5 u5 O5 e5 m5 A5 B5
        have hm : m2 &&& s c < 256 := q_and256 g3.2.1
        unfold fX0_copyFrom
        rw [g1, g2, Option.bind_some, Option.bind_some]
        dsimp only
        rw [(h.2.2.2.2.1 c hc).1, (h.2.2.2.2.1 c hc).2.1, fa_and, q_bc _ hm, q_ones _ hm, Option.bind_some, Option.bind_some, Option.bind_some]
        dsimp only
        refine q_raL hl hc x h (fun j hj => ?_) (fun j hj => ?_) (fun i hi => ?_) (fun i hi => ?_) (2 ^ n - 1) FU FU 1 _ _ _ _ _ _ _ _ _ _ _ _ _ _ _ _ _ _ _ _ (by omega) (by omega) (by omega) (fun j hj _ => ?_) (fun j hj _ => ?_)
        · rw [sb_cpy0 (by omega)]; exact (h.2.2.2.1 j hj).1
        · rw [fa_fill_in hj]; exact (h.2.2.2.1 j hj).2.1
        · rw [sb_cpy0 (by have := h.1.2.1; omega)]; exact (h.2.2.2.2.2.2.1 i hi).1
        · rw [fa_fill_in hi]; exact (h.2.2.2.2.2.2.1 i hi).2.1
        · rw [sb_cpy0 (by omega)]; exact (h.2.2.2.2.1 j hj).1
        · rw [fa_fill_in hj]; exact (h.2.2.2.2.1 j hj).2.1
      · rw [q3, Option.bind_some, if_pos rfl]
        by_cases z : x < 0
        · rw [if_pos z]; exact ⟨_, _, _, rfl, rfl⟩
        · rw [if_neg z, if_neg (show ¬ x ≤ 1 from fun e => by rw [fa_le] at e; rw [fa_lt] at z; omega)]
          exact ⟨_, _, _, rfl, rfl⟩
    · rw [d1, d2, Option.bind_some, Option.bind_some, if_pos rfl, if_pos rfl]
      exact ⟨_, _, _, rfl, rfl⟩
  · rw [e1, e2, Option.bind_some, Option.bind_some, if_pos rfl, if_pos rfl]
    exact ⟨_, _, _, rfl, rfl⟩
/-- the rank turned round -/
def trn (n i : Nat) (F : Nat → Int32) : Nat → Int32 := fun j => if j < i ∨ (n ≤ j + i ∧ j < n) then F (n - 1 - j) else F j
theorem q_trn {n i : Nat} (hi : i < n / 2) (F : Nat → Int32) : upd (upd (trn n i F) i (trn n i F (n - 1 - i))) (n - 1 - i) (trn n i F i) = trn n (i + 1) F := by
  funext j
  by_cases z : j = n - 1 - i
  · rw [z, q_upi]
    unfold trn
    rw [if_neg (by omega), if_pos (by omega), show n - 1 - (n - 1 - i) = i by omega]
  · rw [q_upn _ _ z]
    by_cases y : j = i
    · rw [y, q_upi]
      unfold trn
      rw [if_neg (by omega), if_pos (by omega)]
    · rw [q_upn _ _ y]
      unfold trn
      by_cases x : j < i ∨ (n ≤ j + i ∧ j < n)
      · rw [if_pos x, if_pos (by omega)]
      · rw [if_neg x, if_neg (by omega)]
theorem q_hf {n : Nat} (hn : n ≤ 8) : nI n / 2 = nI (n / 2) := by
  rcases (show n = 0 ∨ n = 1 ∨ n = 2 ∨ n = 3 ∨ n = 4 ∨ n = 5 ∨ n = 6 ∨ n = 7 ∨ n = 8 by omega) with rfl | rfl | rfl | rfl | rfl | rfl | rfl | rfl | rfl <;> decide
theorem q_sb {n i : Nat} (h : i < n) : nI n - 1 - nI i = nI (n - 1 - i) := by
  obtain ⟨a, rfl⟩ : ∃ a, n = a + i + 1 := ⟨n - 1 - i, by omega⟩
  rw [← nI_1, Int32.add_sub_cancel, ← nI_add, Int32.add_sub_cancel]
  congr 1
  omega
theorem q_tr0 (hn : n ≤ 8) {F : Nat → Int32} : ∀ (kk f i : Nat), i + kk = n / 2 → kk < f → fX0_turnRankRound_b2 FU f (nI i) (nI n) (trn n i F) = some (trn n (n / 2) F) := by
  intro kk
  induction kk with
  | zero =>
    intro f i h1 h2
    obtain ⟨f, rfl, -⟩ := q_suc h2
    rw [fX0_turnRankRound_b2, q_hf hn, if_pos (nI_le (by omega) (by omega)), show i = n / 2 by omega]
  | succ kk ih =>
    intro f i h1 h2
    obtain ⟨f, rfl, -⟩ := q_suc h2
    rw [fX0_turnRankRound_b2, q_hf hn, if_neg (nI_ge (by omega) (by omega)), q_sb (show i < n by omega), if_neg (nI_in (by omega) (by omega)), if_neg (nI_in (by omega) (by omega)), nI_clamp (show i < 2 ^ 31 by omega), nI_clamp (show n - 1 - i < 2 ^ 31 by omega), q_trn (by omega), nI_1]
    exact ih f (i + 1) (by omega) (by omega)
theorem q_tr (hn : n ≤ 8) (F : Nat → Int32) : ∃ G : Nat → Int32, fX0_turnRankRound FU (nI n) F = some G ∧ ∀ i, i < n → G i = F (n - 1 - i) := by
  refine ⟨trn n (n / 2) F, ?_, fun i hi => ?_⟩
  · have := q_tr0 hn (F := F) (n / 2) FU 0 (by omega) (by have := FU_e; omega)
    rw [show trn n 0 F = F from by funext j; unfold trn; rw [if_neg (by omega)]] at this
    exact this
  · unfold trn
    by_cases z : i < n / 2 ∨ (n ≤ i + n / 2 ∧ i < n)
    · rw [if_pos z]
    · rw [if_neg z]; congr 1; omega
theorem q_de5 (hn : n ≤ 8) {l : Nat} {m : Int32} {b5 : Int32} : ∀ (kk f i : Nat) (R5 : Nat → Int32), i + kk = n → kk < f → fX5_decided_b25 FU f (nI l) m (nI n) (nI i) T H5 S5 b5 (fa_fill (fun j => T (24 + (n - 1 - j))) R5 i) L5 u5 O5 e5 m5 A5 B5 = fX5_decided_b58 FU (nI l) m T H5 S5 b5 (fa_fill (fun j => T (24 + (n - 1 - j))) R5 n) L5 u5 O5 e5 m5 A5 B5 := by
  intro kk
  induction kk with
  | zero =>
    intro f i R5 h1 h2
    obtain ⟨f, rfl, -⟩ := q_suc h2
    rw [fX5_decided_b25, if_pos (nI_le (by omega) (by omega)), show i = n by omega]
  | succ kk ih =>
    intro f i R5 h1 h2
    obtain ⟨f, rfl, -⟩ := q_suc h2
    have hh := ih f (i + 1) R5 (by omega) (by omega)
    rw [← fa_fill_succ] at hh
    rw [fX5_decided_b25, if_neg (nI_ge (by omega) (by omega)), q_add24, q_sb (show i < 24 + n by omega), if_neg (nI_in (by omega) (by omega)), if_neg (nI_in (by omega) (by omega)), nI_clamp (show i < 2 ^ 31 by omega), nI_clamp (show 24 + n - 1 - i < 2 ^ 31 by omega), nI_1, show 24 + n - 1 - i = 24 + (n - 1 - i) by omega]
    exact hh
theorem o_decided (h : CR (nI n) (nI b) (nI k) (nI w) V S R T n b k w v s r) (p : Int32) : SAME (fX4_decided FU p O A B ee es P Wo L u (nI n) (nI b) (nI k) (nI w) V S R Rc Rb Rk Rw Rv Rs Rr) (fX5_decided FU p T H5 S5 x5 R5 L5 u5 O5 e5 m5 A5 B5) := by
  have hF := FU_e
  have hb := h.1.2.2.1
  have hn := h.1.2.1
  unfold fX4_decided fX5_decided
  rcases g_law p with ⟨l, hl, rfl, e1, e2⟩ | ⟨e1, e2⟩
  · rw [e1, e2, Option.bind_some, Option.bind_some, if_neg q_10, if_neg q_10]
    obtain ⟨e2', m2, O2, A2, B2, L2, u2, O52, A52, B52, L52, u52, W2, P2, g1, g2, g3⟩ := q_mb hl h O A B ee es P Wo L u H5 S5 x5 R5 L5 u5 O5 e5 m5 A5 B5
    obtain ⟨G, hG, hG2⟩ := q_tr hn (va_cpy R Rr 0 0 8)
    unfold fX0_copyFrom
    rw [g1, g2, Option.bind_some, Option.bind_some, Option.bind_some]
    dsimp only
    rw [hG, Option.bind_some, h.2.2.1.1]
    have hd := q_de5 (T := T) (fa_fill (fun j => T (2 + j)) H5 b) (fa_fill (fun j => T (12 + j)) S5 b) L52 u52 O52 (nI e2') (nI m2) A52 B52 hn (l := l) (m := nI m2) (b5 := nI b) n FU 0 (fa_fill (fun j => T (24 + j)) R5 n) (by omega) (by omega)
    rw [fa_fill_0] at hd
    rw [show fX5_decided_b25 FU FU (nI l) (nI m2) (nI n) (0 : Int32) T _ _ _ _ _ _ _ _ _ _ _ = _ from hd, fX5_decided_b58]
    have hr := h.2.2.2.2.2.2.1
    have epC : EP n b w (va_cpy V Rv 0 0 11) (va_cpy S Rs 0 0 11) G v s (fun i => r (n - 1 - i)) :=
      EP_of (by omega) hn (by have := h.1.2.2.2.2.2; have := q_pn hn; omega) (fun j hj => ⟨by rw [sb_cpy0 (by omega)]; exact (h.2.2.2.1 j hj).1, (h.2.2.2.1 j hj).2.2.2⟩) (fun j hj => ⟨by rw [sb_cpy0 (by omega)]; exact (h.2.2.2.2.1 j hj).1, by have := (h.2.2.2.2.1 j hj).2.2.2; have := q_pn hn; omega⟩) (by have := h.2.2.2.2.2.1; omega) (fun i hi => ⟨by rw [hG2 i hi, sb_cpy0 (by omega)]; exact (hr (n - 1 - i) (by omega)).1, (hr (n - 1 - i) (by omega)).2.2⟩)
    have epR : EP n b w (fa_fill (fun j => T (2 + j)) H5 b) (fa_fill (fun j => T (12 + j)) S5 b) (fa_fill (fun j => T (24 + (n - 1 - j))) (fa_fill (fun j => T (24 + j)) R5 n) n) v s (fun i => r (n - 1 - i)) :=
      EP_of (by omega) hn (by have := h.1.2.2.2.2.2; have := q_pn hn; omega) (fun j hj => ⟨by rw [fa_fill_in hj]; exact (h.2.2.2.1 j hj).2.1, (h.2.2.2.1 j hj).2.2.2⟩) (fun j hj => ⟨by rw [fa_fill_in hj]; exact (h.2.2.2.2.1 j hj).2.1, by have := (h.2.2.2.2.1 j hj).2.2.2; have := q_pn hn; omega⟩) (by have := h.2.2.2.2.2.1; omega) (fun i hi => ⟨by rw [fa_fill_in hi]; exact (hr (n - 1 - i) (by omega)).2.1, (hr (n - 1 - i) (by omega)).2.2⟩)
    obtain ⟨e3', m3, O3, A3, B3, L3, u3, O53, A53, B53, L53, u53, W3, P3, k1, k2, k3⟩ := q_hold hl epC epR (by omega) (fun j q1 q2 => absurd q2 (by omega)) h.2.2.1.1 h.2.2.1.2.2.2 h.2.2.1.2.2.1 h.1.2.2.2.2.1 O2 A2 B2 (nI e2') (nI m2) P2 W2 L2 u2 O52 A52 B52 L52 u52 (nI e2') (nI m2)
    rw [k1, k2, Option.bind_some, Option.bind_some]
    dsimp only
    by_cases z : nI m3 = nI m2
    · rw [if_pos z, if_pos z]; exact ⟨_, _, _, rfl, rfl⟩
    · rw [if_neg z, if_neg z]; exact ⟨_, _, _, rfl, rfl⟩
  · rw [e1, e2, Option.bind_some, Option.bind_some, if_pos rfl, if_pos rfl]
    exact ⟨_, _, _, rfl, rfl⟩
theorem o_count (h : CR (nI n) (nI b) (nI k) (nI w) V S R T n b k w v s r) (p ln sz : Int32) : ∃ x, fX4_count FU p ln sz (nI n) (nI b) (nI k) (nI w) V S = some x ∧ fX5_count FU p T sz ln = some x := by
  have hb := h.1.2.2.1
  have hw := h.1.2.2.2.2.2
  have hp := q_pn h.1.2.1
  unfold fX4_count fX5_count
  rw [q_all0 (by omega), q_all5 (by omega) h.2.2.1.2.1, h.2.2.1.1, h.2.2.1.2.1, h.2.2.1.2.2.1, h.2.2.1.2.2.2, q_bc w (by omega), q_ones w (by omega), show smI V b = smI (fun j => T (2 + j)) b from smI_cong (fun j hj => by rw [(h.2.2.2.1 j hj).1]; exact (h.2.2.2.1 j hj).2.1.symm)]
  simp only [Option.bind_some]
  by_cases z0 : p = 0
  · rw [if_pos z0]; exact ⟨_, rfl, rfl⟩
  rw [if_neg z0]
  by_cases z1 : p = 1
  · rw [if_pos z1]; exact ⟨_, rfl, rfl⟩
  rw [if_neg z1]
  by_cases z2 : p = 2
  · rw [if_pos z2]; exact ⟨_, rfl, rfl⟩
  rw [if_neg z2]
  by_cases z3 : p = 3
  · rw [if_pos z3]; exact ⟨_, rfl, rfl⟩
  rw [if_neg z3]
  by_cases z4 : p = 4
  · rw [if_pos z4]; exact ⟨_, rfl, rfl⟩
  rw [if_neg z4]
  by_cases z5 : p = 5
  · rw [if_pos z5]; exact ⟨_, rfl, rfl⟩
  rw [if_neg z5]
  by_cases z6 : p = 6
  · rw [if_pos z6]; exact ⟨_, rfl, rfl⟩
  rw [if_neg z6]; exact ⟨_, rfl, rfl⟩
end OU
