/-! pure rows: a whole election, by both -/
/-- how the two stand beside each other with e members elected: class (order, above, below, loads, unit), reference (order, above, under, loads, below) -/
def ER (bC bR e m : Nat) (O : Nat → Int32) (A B L : Nat → Int64) (u : Int64) (O5 : Nat → Int32) (A5 B5 L5 : Nat → Int64) (u5 : Int64) : Prop :=
  e ≤ 8 ∧ m < 256 ∧ bcN m = e ∧ (∀ i, i < e → O i = O5 i) ∧ (∀ i, i < e → CB (A i) (B i) (A5 i) (B5 i)) ∧ (∀ j, j < bR → L j = L5 j) ∧ u = u5 ∧ LB e bC L u
section EL
variable {law n bC bR w : Nat} {V S R V5 S5 R5 : Nat → Int32} {v s r : Nat → Nat} {T P : Nat → Int32}
theorem q_upd {α : Type} (f : Nat → α) (up : (Nat → α) → Nat → α → Nat → α) (hup : ∀ (f : Nat → α) k x j, up f k x j = if j = k then x else f j) {g : Nat → α} {Rl : α → α → Prop} {e : Nat} {x y : α} (h : ∀ i, i < e → Rl (f i) (g i)) (hx : Rl x y) : ∀ i, i < e + 1 → Rl (up f e x i) (up g e y i) := by
  intro i hi
  rw [hup, hup]
  by_cases q : i = e
  · rw [if_pos q, if_pos q]; exact hx
  · rw [if_neg q, if_neg q]; exact h i (by omega)
theorem q_upd4 {A B A5 B5 : Nat → Int64} {e : Nat} {a b a5 b5 : Int64} (h : ∀ i, i < e → CB (A i) (B i) (A5 i) (B5 i)) (hx : CB a b a5 b5) : ∀ i, i < e + 1 → CB (vp_updL A e a i) (vp_updL B e b i) (vp_updL A5 e a5 i) (vp_updL B5 e b5 i) := by
  intro i hi
  unfold vp_updL
  by_cases q : i = e
  · rw [if_pos q, if_pos q, if_pos q, if_pos q]; exact hx
  · rw [if_neg q, if_neg q, if_neg q, if_neg q]; exact h i (by omega)
/-- the class elects c -/
theorem q_el1 (hl : law < 4) (h : EP n bC w V S R v s r) {m e c : Nat} (he : e < 8) (hc : c < n) (hP : P c = nI (supN v s bC c)) {O : Nat → Int32} {A B L Wo : Nat → Int64} {u : Int64} (hW : Wo c = woL law v s L u bC m c) :
    fX1_elect FU (nI law) (nI c) O A B (nI e) (nI m) P Wo L u (nI bC) S = some (upd O e (nI c), vp_updL A e (woL law v s L u bC m c),
      vp_updL B e (if supN v s bC c = 0 then 0 else if law = 1 then 1 else if law = 2 then 840 else u * lN (supN v s bC c)), nI (e + 1), nI (m ||| 2 ^ c),
      (if supN v s bC c = 0 ∨ law = 1 ∨ law = 2 then L else fl bC (nw s L (ldL v s L u bC c) (lN (supN v s bC c)) c) L), (if supN v s bC c = 0 ∨ law = 1 ∨ law = 2 then u else u * lN (supN v s bC c))) := by
  obtain ⟨hE, hn, hw, hr⟩ := h
  have sl := supN_le hE c
  have hF := FU_e
  have hb := hE.1
  have kc : ¬ (nI c < 0 ∨ 8 ≤ (nI c).toNatClampNeg) := nI_in (by omega) (by omega)
  have ec : (nI c).toNatClampNeg = c := nI_clamp (by omega)
  have ke : ¬ (nI e < 0 ∨ 8 ≤ (nI e).toNatClampNeg) := nI_in (by omega) (by omega)
  have ee : (nI e).toNatClampNeg = e := nI_clamp (by omega)
  have sh : nI m ||| ((1 : Int32) <<< (nI c &&& 31)) = nI (m ||| 2 ^ c) := by rw [q_shl1 c (by omega), fa_or]
  unfold fX1_elect fX1_elect_b114
  rw [if_pos (show nI e < (8 : Int32) from nI_lt (b := 8) (by omega) (by omega)), if_neg ke, if_neg kc, ec, ee, hP, hW, sh, nI_1]
  by_cases z : supN v s bC c = 0
  · rw [if_pos (show nI (supN v s bC c) = 0 by rw [z]; rfl), if_pos z, if_pos (Or.inl z), if_pos (Or.inl z)]
  · rw [if_neg (nI_ne0 (by omega) (by omega)), if_neg z]
    by_cases h1 : law = 1
    · subst h1
      rw [if_pos (show nI 1 = (1 : Int32) from rfl), if_pos rfl, if_pos (by simp), if_pos (by simp)]
    · have n1 : ¬ nI law = 1 := fun q => h1 ((nI_eq (by omega) (by omega)).mp (show nI law = nI 1 from q))
      rw [if_neg n1, if_neg h1]
      by_cases h2 : law = 2
      · subst h2
        rw [if_pos (show nI 2 = (2 : Int32) from rfl), if_pos rfl, if_pos (by simp), if_pos (by simp)]
      · have n2 : ¬ nI law = 2 := fun q => h2 ((nI_eq (by omega) (by omega)).mp (show nI law = nI 2 from q))
        have wl : woL law v s L u bC m c = ldL v s L u bC c := by unfold woL; rw [if_neg h1, if_neg h2]
        have sp := q_spr hE (c := c) (by omega) (P := P) (Wo := Wo) (L := L) (u := u) (x := ldL v s L u bC c) hP (hW.trans wl) bC FU 0 (by omega) (by omega)
        rw [fl_0] at sp
        rw [if_neg n2, if_neg h2, if_neg (by omega), if_neg (by omega)]
        unfold fX1_spreadLoad
        rw [show (0 : Int32) = nI 0 from rfl, sp, Option.bind_some]
/-- the reference: comesBy -/
theorem q_cb5 (hl : law < 4) (h : EP n bR w V5 S5 R5 v s r) {m e c : Nat} (he : e < 8) (hc : c < n) (hs : 0 < supN v s bR c) {A5 B5 L5 : Nat → Int64} {u5 : Int64} :
    fX5_comesBy FU (nI law) (nI c) V5 S5 (nI bR) L5 u5 (nI e) (nI m) A5 B5 = some ((if law = 1 ∨ law = 2 then L5 else fl bR (nw s L5 (ldL v s L5 u5 bR c) (lN (supN v s bR c)) c) L5), (if law = 1 ∨ law = 2 then u5 else u5 * lN (supN v s bR c)),
      vp_updL A5 e (if law = 1 then lN (supN v s bR c) else if law = 2 then lN (wtN 2520 v s bR m c) else ldL v s L5 u5 bR c), vp_updL B5 e (if law = 1 then 1 else if law = 2 then 2520 else u5 * lN (supN v s bR c))) := by
  obtain ⟨hE, hn, hw, hr⟩ := h
  have sl := supN_le hE c
  have hF := FU_e
  have hb := hE.1
  have b1 := wtN_le 2520 v s m c bR
  have b3 := hE.2.2
  have ke : ¬ (nI e < 0 ∨ 8 ≤ (nI e).toNatClampNeg) := nI_in (by omega) (by omega)
  have ee : (nI e).toNatClampNeg = e := nI_clamp (by omega)
  unfold fX5_comesBy
  rw [q_sup hE (by omega), Option.bind_some]
  by_cases h1 : law = 1
  · subst h1
    rw [if_pos (show nI 1 = (1 : Int32) from rfl)]
    unfold fX5_comesBy_b43 fX5_comesBy_b79
    rw [if_neg ke, if_pos (show nI 1 = (1 : Int32) from rfl), if_neg ke, if_pos (show nI 1 = (1 : Int32) from rfl), ee, nI_l (by omega)]
    simp
  · have n1 : ¬ nI law = 1 := fun q => h1 ((nI_eq (by omega) (by omega)).mp (show nI law = nI 1 from q))
    rw [if_neg n1]
    by_cases h2 : law = 2
    · subst h2
      rw [if_pos (show nI 2 = (2 : Int32) from rfl), q_wt5 hE (by omega), Option.bind_some]
      unfold fX5_comesBy_b43 fX5_comesBy_b79
      rw [if_neg ke, if_neg n1, if_pos (show nI 2 = (2 : Int32) from rfl), if_neg ke, if_neg n1, if_pos (show nI 2 = (2 : Int32) from rfl), ee, nI_l (by omega)]
      simp
    · have n2 : ¬ nI law = 2 := fun q => h2 ((nI_eq (by omega) (by omega)).mp (show nI law = nI 2 from q))
      have cm := q_cmb hE (c := c) (by omega) (L := L5) (u := u5) (x := ldL v s L5 u5 bR c) (A := vp_updL A5 e (ldL v s L5 u5 bR c)) (B := vp_updL B5 e (u5 * lN (supN v s bR c))) bR FU 0 (by omega) (by omega)
      rw [fl_0] at cm
      rw [if_neg n2, q_ld5 hE L5 u5 (by omega), Option.bind_some]
      unfold fX5_comesBy_b43 fX5_comesBy_b79
      rw [if_neg ke, if_neg n1, if_neg n2, if_neg ke, if_neg n1, if_neg n2, ee, nI_l (by omega), q_ld5 hE L5 u5 (by omega), Option.bind_some, show (0 : Int32) = nI 0 from rfl, cm, if_neg (by omega), if_neg (by omega), if_neg h1, if_neg h2, if_neg h1, if_neg h2]
end EL
