/-! pure rows: hold and elects from their beginning; lays -/
theorem q_bg17 {cd : Int32} {bl : Int32} {V S P : Nat → Int32} {L : Nat → Int64} {ee es : Int32} {u : Int64} : ∀ (k f i : Nat), i + k = 11 → k < f → fX1_begin_b17 FU f (nI i) ee es P (fl i (fun _ => 0) L) u cd bl V S = fX1_begin_b36 FU ee es P (fl 11 (fun _ => 0) L) u cd bl V S := by
  intro k
  induction k with
  | zero =>
    intro f i hi hf
    obtain ⟨f, rfl, -⟩ := q_suc hf
    rw [fX1_begin_b17, if_pos (show (11 : Int32) ≤ nI i from nI_le (a := 11) (by omega) (by omega)), show i = 11 by omega]
  | succ k ih =>
    intro f i hi hf
    obtain ⟨f, rfl, hf⟩ := q_suc hf
    have hh := ih f (i + 1) (by omega) (by omega)
    rw [← fl_s] at hh
    rw [fX1_begin_b17, if_neg (show ¬ (11 : Int32) ≤ nI i from nI_ge (b := 11) (by omega) (by omega)), if_neg (nI_in (by omega) (by omega)), nI_clamp (by omega), nI_1]
    exact hh
theorem q_bg38 {n b : Nat} (hn : n ≤ 8) {V S P : Nat → Int32} {v s : Nat → Nat} (h : EB b V S v s) {L : Nat → Int64} {ee es : Int32} {u : Int64} : ∀ (k f i : Nat), i + k = n → k < f → fX1_begin_b38 FU f (nI i) ee es (fa_fill (fun c => nI (supN v s b c)) P i) L u (nI n) (nI b) V S = some (ee, es, fa_fill (fun c => nI (supN v s b c)) P n, L, u) := by
  intro k
  induction k with
  | zero =>
    intro f i hi hf
    obtain ⟨f, rfl, -⟩ := q_suc hf
    rw [fX1_begin_b38, if_pos (nI_le (by omega) (by omega)), show i = n by omega]
  | succ k ih =>
    intro f i hi hf
    obtain ⟨f, rfl, hf⟩ := q_suc hf
    have hh := ih f (i + 1) (by omega) (by omega)
    rw [← fa_fill_succ] at hh
    rw [fX1_begin_b38, if_neg (nI_ge (by omega) (by omega)), q_sup0 h (by omega), Option.bind_some, if_neg (nI_in (by omega) (by omega)), nI_clamp (by omega), nI_1]
    exact hh
theorem q_begin {n b : Nat} (hn : n ≤ 8) {V S P : Nat → Int32} {v s : Nat → Nat} (h : EB b V S v s) {L : Nat → Int64} {ee es : Int32} {u : Int64} : fX1_begin FU ee es P L u (nI n) (nI b) V S = some (0, 0, fa_fill (fun c => nI (supN v s b c)) P n, fl 11 (fun _ => 0) L, 1) := by
  have hF := FU_e
  unfold fX1_begin
  have h1 := q_bg17 (cd := nI n) (bl := nI b) (V := V) (S := S) (P := P) (L := L) (ee := 0) (es := 0) (u := 1) 11 FU 0 (by omega) (by omega)
  rw [fl_0] at h1
  rw [show (0 : Int32) = nI 0 from rfl] at h1 ⊢
  rw [h1, fX1_begin_b36]
  have h2 := q_bg38 hn h (P := P) (L := fl 11 (fun _ => 0) L) (ee := nI 0) (es := nI 0) (u := 1) n FU 0 (by omega) (by omega)
  rw [fa_fill_0] at h2
  exact h2
theorem q_e17 {bR : Nat} (hb : bR ≤ 11) {law : Int32} {T V5 S5 R5 O5 : Nat → Int32} {A5 B5 L5 : Nat → Int64} {u5 : Int64} {e5 m5 : Int32} : ∀ (k f i : Nat), i + k = bR → k < f → fX5_elects_b17 FU f law (nI i) T V5 S5 (nI bR) R5 (fl i (fun _ => 0) L5) u5 O5 e5 m5 A5 B5 = fX5_elects_b38 FU law T V5 S5 (nI bR) R5 (fl bR (fun _ => 0) L5) u5 O5 e5 m5 A5 B5 := by
  intro k
  induction k with
  | zero =>
    intro f i hi hf
    obtain ⟨f, rfl, -⟩ := q_suc hf
    rw [fX5_elects_b17, if_pos (nI_le (by omega) (by omega)), show i = bR by omega]
  | succ k ih =>
    intro f i hi hf
    obtain ⟨f, rfl, hf⟩ := q_suc hf
    have hh := ih f (i + 1) (by omega) (by omega)
    rw [← fl_s] at hh
    rw [fX5_elects_b17, if_neg (nI_ge (by omega) (by omega)), if_neg (nI_in (by omega) (by omega)), nI_clamp (by omega), nI_1]
    exact hh
section HL
variable {law n bC bR w k0 : Nat} {V S R V5 S5 R5 : Nat → Int32} {v s r : Nat → Nat} {T P : Nat → Int32}
/-- the two elections, beside each other -/
theorem q_hold (hl : law < 4) (hC : EP n bC w V S R v s r) (hR : EP n bR w V5 S5 R5 v s r) (hle : bR ≤ bC) (hz : ∀ j, bR ≤ j → j < bC → v j = 0) (t0 : T 0 = nI n) (t23 : T 23 = nI w) (t22 : T 22 = nI k0) (hk0 : k0 ≤ 8)
    (O : Nat → Int32) (A B : Nat → Int64) (ee es : Int32) (P : Nat → Int32) (Wo L : Nat → Int64) (u : Int64) (O5 : Nat → Int32) (A5 B5 L5 : Nat → Int64) (u5 : Int64) (e5 m5 : Int32) :
    ∃ (e2 m2 : Nat) (O2 : Nat → Int32) (A2 B2 L2 : Nat → Int64) (u2 : Int64) (O52 : Nat → Int32) (A52 B52 L52 : Nat → Int64) (u52 : Int64) (W2 : Nat → Int64) (P2 : Nat → Int32),
      fX1_hold FU (nI law) O A B ee es P Wo L u (nI n) (nI bC) (nI k0) (nI w) V S R = some (nI m2, O2, A2, B2, nI e2, nI m2, P2, W2, L2, u2) ∧
      fX5_elects FU (nI law) T V5 S5 (nI bR) R5 L5 u5 O5 e5 m5 A5 B5 = some (L52, u52, O52, nI e2, nI m2, A52, B52) ∧ ER bC bR e2 m2 O2 A2 B2 L2 u2 O52 A52 B52 L52 u52 := by
  have hF := FU_e
  have hn := hC.2.1
  have hb := hC.1.1
  have h1 := q_begin hn hC.1 (P := P) (L := L) (ee := ee) (es := es) (u := u)
  have h2 := q_e17 (bR := bR) hR.1.1 (law := nI law) (T := T) (V5 := V5) (S5 := S5) (R5 := R5) (O5 := O5) (A5 := A5) (B5 := B5) (L5 := L5) (u5 := 1) (e5 := 0) (m5 := 0) bR FU 0 (by omega) (by omega)
  rw [fl_0] at h2
  obtain ⟨e2, m2, O2, A2, B2, L2, u2, O52, A52, B52, L52, u52, W2, g1, g2, g3⟩ := q_sim (P := fa_fill (fun c => nI (supN v s bC c)) P n) hl hC hR hle hz (fun c hc => fa_fill_in hc) t0 t23 t22 hk0 k0 FU FU 0 0 O A B (fl 11 (fun _ => 0) L) 1 O5 A5 B5 (fl bR (fun _ => 0) L5) 1 Wo (by omega) (by omega) (by omega)
    ⟨by omega, by omega, by decide, fun i hi => absurd hi (by omega), fun i hi => absurd hi (by omega), fun j hj => by unfold fl; rw [if_pos (by omega), if_pos hj], rfl, 1, fun _ => 0, rfl, by decide, by decide, fun j hj => ⟨by unfold fl; rw [if_pos (by omega)]; rfl, Nat.zero_le _⟩⟩
  refine ⟨e2, m2, O2, A2, B2, L2, u2, O52, A52, B52, L52, u52, W2, fa_fill (fun c => nI (supN v s bC c)) P n, ?_, ?_, g3⟩
  · unfold fX1_hold
    rw [h1, Option.bind_some]
    exact g1
  · unfold fX5_elects
    rw [show fX5_elects_b17 FU FU (nI law) (0 : Int32) T V5 S5 (nI bR) R5 L5 1 O5 0 0 A5 B5 = _ from h2, fX5_elects_b38]
    exact g2
end HL
/-- lays -/
theorem q_ly57 {n : Nat} (hn : n ≤ 8) {T H S R : Nat → Int32} {b : Int32} (t0 : T 0 = nI n) : ∀ (k f i : Nat), i + k = n → k < f → fX5_lays_b57 FU f (nI i) T H S b (fa_fill (fun j => T (24 + j)) R i) = some (H, S, b, fa_fill (fun j => T (24 + j)) R n) := by
  intro k
  induction k with
  | zero =>
    intro f i hi hf
    obtain ⟨f, rfl, -⟩ := q_suc hf
    rw [fX5_lays_b57, t0, if_pos (nI_le (by omega) (by omega)), show i = n by omega]
  | succ k ih =>
    intro f i hi hf
    obtain ⟨f, rfl, hf⟩ := q_suc hf
    have hh := ih f (i + 1) (by omega) (by omega)
    rw [← fa_fill_succ] at hh
    rw [fX5_lays_b57, t0, if_neg (nI_ge (by omega) (by omega)), q_add24, if_neg (nI_in (by omega) (by omega)), if_neg (nI_in (by omega) (by omega)), nI_clamp (show 24 + i < 2 ^ 31 by omega), nI_clamp (show i < 2 ^ 31 by omega), nI_1]
    exact hh
theorem q_ly12 {b : Nat} (hb : b ≤ 10) {T H S R : Nat → Int32} : ∀ (k f i : Nat), i + k = b → k < f → fX5_lays_b12 FU f (nI i) T (fa_fill (fun j => T (2 + j)) H i) (fa_fill (fun j => T (12 + j)) S i) (nI b) R = fX5_lays_b55 FU T (fa_fill (fun j => T (2 + j)) H b) (fa_fill (fun j => T (12 + j)) S b) (nI b) R := by
  intro k
  induction k with
  | zero =>
    intro f i hi hf
    obtain ⟨f, rfl, -⟩ := q_suc hf
    rw [fX5_lays_b12, if_pos (nI_le (by omega) (by omega)), show i = b by omega]
  | succ k ih =>
    intro f i hi hf
    obtain ⟨f, rfl, hf⟩ := q_suc hf
    have hh := ih f (i + 1) (by omega) (by omega)
    rw [← fa_fill_succ, ← fa_fill_succ] at hh
    rw [fX5_lays_b12, if_neg (nI_ge (by omega) (by omega)), q_add2, q_add12, if_neg (nI_in (by omega) (by omega)), if_neg (nI_in (by omega) (by omega)), if_neg (nI_in (by omega) (by omega)), nI_clamp (show 2 + i < 2 ^ 31 by omega), nI_clamp (show 12 + i < 2 ^ 31 by omega), nI_clamp (show i < 2 ^ 31 by omega), nI_1]
    exact hh
theorem q_lays {n b : Nat} (hn : n ≤ 8) (hb : b ≤ 10) {T : Nat → Int32} (t0 : T 0 = nI n) (t1 : T 1 = nI b) (H S : Nat → Int32) (x : Int32) (R : Nat → Int32) : fX5_lays FU T H S x R = some (fa_fill (fun j => T (2 + j)) H b, fa_fill (fun j => T (12 + j)) S b, nI b, fa_fill (fun j => T (24 + j)) R n) := by
  have hF := FU_e
  unfold fX5_lays
  have h1 := q_ly12 hb (T := T) (H := H) (S := S) (R := R) b FU 0 (by omega) (by omega)
  rw [fa_fill_0, fa_fill_0] at h1
  have h2 := q_ly57 hn (T := T) (H := fa_fill (fun j => T (2 + j)) H b) (S := fa_fill (fun j => T (12 + j)) S b) (R := R) (b := nI b) t0 n FU 0 (by omega) (by omega)
  rw [fa_fill_0] at h2
  rw [t1, show fX5_lays_b12 FU FU (0 : Int32) T H S (nI b) R = _ from h1, fX5_lays_b55]
  exact h2
/-- a council of the class and a row of the reference -/
def CR (cd bl st wd : Int32) (V S R T : Nat → Int32) (n b k w : Nat) (v s r : Nat → Nat) : Prop :=
  (1 ≤ n ∧ n ≤ 8 ∧ b ≤ 10 ∧ 1 ≤ k ∧ k ≤ 8 ∧ w < 2 ^ n) ∧ (cd = nI n ∧ bl = nI b ∧ st = nI k ∧ wd = nI w) ∧ (T 0 = nI n ∧ T 1 = nI b ∧ T 22 = nI k ∧ T 23 = nI w) ∧
  (∀ j, j < b → V j = nI (v j) ∧ T (2 + j) = nI (v j) ∧ 1 ≤ v j ∧ v j ≤ 20) ∧ (∀ j, j < b → S j = nI (s j) ∧ T (12 + j) = nI (s j) ∧ 1 ≤ s j ∧ s j < 2 ^ n) ∧ fb_sm v b ≤ 40 ∧
  (∀ i, i < n → R i = nI (r i) ∧ T (24 + i) = nI (r i) ∧ r i < n) ∧ (∀ i j, i < n → j < n → r i = r j → i = j)
theorem q_pn {n : Nat} (hn : n ≤ 8) : 2 ^ n ≤ 256 := Nat.pow_le_pow_right (n := 2) (by decide) hn
theorem CR.ep {cd bl st wd : Int32} {V S R T : Nat → Int32} {n b k w : Nat} {v s r : Nat → Nat} (h : CR cd bl st wd V S R T n b k w v s r) : EP n b w V S R v s r := by
  obtain ⟨⟨h1, h2, h3, h4, h5, h6⟩, -, -, hV, hS, hs, hR, -⟩ := h
  have := q_pn h2
  exact ⟨⟨by omega, fun j hj => ⟨(hV j hj).1, (hV j hj).2.2.2, (hS j hj).1, by have := (hS j hj).2.2.2; omega⟩, by omega⟩, h2, by omega, fun i hi => ⟨(hR i hi).1, (hR i hi).2.2⟩⟩
theorem CR.ep5 {cd bl st wd : Int32} {V S R T : Nat → Int32} {n b k w : Nat} {v s r : Nat → Nat} (h : CR cd bl st wd V S R T n b k w v s r) (H5 S5 R5 : Nat → Int32) : EP n b w (fa_fill (fun j => T (2 + j)) H5 b) (fa_fill (fun j => T (12 + j)) S5 b) (fa_fill (fun j => T (24 + j)) R5 n) v s r := by
  obtain ⟨⟨h1, h2, h3, h4, h5, h6⟩, -, -, hV, hS, hs, hR, -⟩ := h
  have := q_pn h2
  exact ⟨⟨by omega, fun j hj => ⟨by rw [fa_fill_in hj]; exact (hV j hj).2.1, (hV j hj).2.2.2, by rw [fa_fill_in hj]; exact (hS j hj).2.1, by have := (hS j hj).2.2.2; omega⟩, by omega⟩, h2, by omega, fun i hi => ⟨by rw [fa_fill_in hi]; exact (hR i hi).2.1, (hR i hi).2.2⟩⟩
