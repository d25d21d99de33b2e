/-! pure rows: the loops of an election beside each other -/
section SM
variable {law n bC bR w k0 : Nat} {V S R V5 S5 R5 : Nat → Int32} {v s r : Nat → Nat} {T P : Nat → Int32}
theorem q_ext (hle : bR ≤ bC) (hz : ∀ j, bR ≤ j → j < bC → v j = 0) : (∀ c, supN v s bC c = supN v s bR c) ∧ (∀ W m c, wtN W v s bC m c = wtN W v s bR m c) ∧ (∀ (L : Nat → Int64) (u : Int64) c, ldL v s L u bC c = ldL v s L u bR c) := by
  have e : bC = bR + (bC - bR) := by omega
  refine ⟨fun c => ?_, fun W m c => ?_, fun L u c => ?_⟩
  · rw [e]; exact supN_ext _ (fun j h1 h2 => hz j h1 (by omega))
  · rw [e]; exact wtN_ext _ (fun j h1 h2 => hz j h1 (by omega))
  · rw [e]; exact ldL_ext _ (fun j h1 h2 => hz j h1 (by omega))
theorem q_cb (hl : law < 4) (hC : EB bC V S v s) {e m c : Nat} {L : Nat → Int64} {u : Int64} (he : e < 8) (hL : LB e bC L u) (hc : c < 8) (hm : m.testBit c = false) (hs : 0 < supN v s bC c) :
    CB (woL law v s L u bC m c) (if supN v s bC c = 0 then 0 else if law = 1 then 1 else if law = 2 then 840 else u * lN (supN v s bC c))
      (if law = 1 then lN (supN v s bC c) else if law = 2 then lN (wtN 2520 v s bC m c) else ldL v s L u bC c) (if law = 1 then 1 else if law = 2 then 2520 else u * lN (supN v s bC c)) := by
  have sl := supN_le hC c
  rw [if_neg (show ¬ supN v s bC c = 0 by omega)]
  unfold woL
  by_cases h1 : law = 1
  · rw [if_pos h1, if_pos h1, if_pos h1, if_pos h1]
    exact Or.inr ⟨supN v s bC c, 1, 1, by decide, by decide, by omega, Or.inl rfl, rfl, rfl, by rw [Nat.one_mul], rfl⟩
  · rw [if_neg h1, if_neg h1, if_neg h1, if_neg h1]
    by_cases h2 : law = 2
    · rw [if_pos h2, if_pos h2, if_pos h2, if_pos h2]
      have b1 := wtN_le 840 v s m c bC
      have b3 := hC.2.2
      refine Or.inr ⟨wtN 840 v s bC m c, 840, 3, by decide, by decide, by omega, Or.inr rfl, rfl, rfl, ?_, rfl⟩
      rw [wtN_3 v s m c (fun _ _ => trivial) bC (fun j hj => by
        by_cases q : (s j).testBit c = true
        · exact Or.inl (q_h7 hC m j hj c hc hm q)
        · exact Or.inr q)]
    · rw [if_neg h2, if_neg h2, if_neg h2, if_neg h2]
      obtain ⟨A, B, hB, hB2, hA, e1, e2⟩ := (LB_step hC hL he hs).2
      exact Or.inr ⟨A, B, 1, hB, hB2, hA, Or.inl rfl, e1, e2, by rw [Nat.one_mul, e1], by rw [Nat.one_mul, e2]⟩
theorem q_sim (hl : law < 4) (hC : EP n bC w V S R v s r) (hR : EP n bR w V5 S5 R5 v s r) (hle : bR ≤ bC) (hz : ∀ j, bR ≤ j → j < bC → v j = 0) (hP : ∀ c, c < n → P c = nI (supN v s bC c)) (t0 : T 0 = nI n) (t23 : T 23 = nI w) (t22 : T 22 = nI k0) (hk0 : k0 ≤ 8) :
    ∀ (k fC fR e m : Nat) (O : Nat → Int32) (A B L : Nat → Int64) (u : Int64) (O5 : Nat → Int32) (A5 B5 L5 : Nat → Int64) (u5 : Int64) (Wo : Nat → Int64), e + k = k0 → k < fC → k + 1 < fR → ER bC bR e m O A B L u O5 A5 B5 L5 u5 →
    ∃ (e2 m2 : Nat) (O2 : Nat → Int32) (A2 B2 L2 : Nat → Int64) (u2 : Int64) (O52 : Nat → Int32) (A52 B52 L52 : Nat → Int64) (u52 : Int64) (W2 : Nat → Int64),
      fX1_hold_b7 FU fC (nI law) (nI e) O A B (nI e) (nI m) P Wo L u (nI n) (nI bC) (nI k0) (nI w) V S R = some (nI m2, O2, A2, B2, nI e2, nI m2, P, W2, L2, u2) ∧
      fX5_elects_b40 FU fR (nI law) 1 T V5 S5 (nI bR) R5 L5 u5 O5 (nI e) (nI m) A5 B5 = some (L52, u52, O52, nI e2, nI m2, A52, B52) ∧ ER bC bR e2 m2 O2 A2 B2 L2 u2 O52 A52 B52 L52 u52 := by
  have hF := FU_e
  obtain ⟨x1, x2, x3⟩ := q_ext (s := s) hle hz
  have hn := hC.2.1
  intro k
  induction k with
  | zero =>
    intro fC fR e m O A B L u O5 A5 B5 L5 u5 Wo hk h1 h2 hE
    obtain ⟨fC, rfl, -⟩ := q_suc h1
    obtain ⟨fR, rfl, -⟩ := q_suc h2
    refine ⟨e, m, O, A, B, L, u, O5, A5, B5, L5, u5, Wo, ?_, ?_, hE⟩
    · rw [fX1_hold_b7, if_pos (nI_le (by omega) (by omega))]
    · rw [fX5_elects_b40, if_neg q_10, t22, if_pos (nI_le (by omega) (by omega))]
  | succ k ih =>
    intro fC fR e m O A B L u O5 A5 B5 L5 u5 Wo hk h1 h2 hE
    obtain ⟨fC, rfl, h1⟩ := q_suc h1
    obtain ⟨fR, rfl, h2⟩ := q_suc h2
    obtain ⟨g1, g2, gb, g3, g4, g5, g6, g7⟩ := hE
    have hl5 : ∀ c, ldL v s L u bC c = ldL v s L5 u5 bR c := fun c => by rw [x3, g6]; exact ldL_cong g5
    have eT : scT law v s L u bC w m r n = scT law v s L5 u5 bR w m r n := by
      rw [g6]
      rw [g6] at hl5
      exact scT_cong x1 (fun c => x2 840 m c) hl5 n
    have eF : scF v s bC w m r n = scF v s bR w m r n := scF_cong x1 n
    obtain ⟨W2, hN, hW⟩ := q_nx1_loop (L := L) (u := u) hl hC g2 hP n FU 0 Wo (by omega) (by omega) (fun c h => by cases h)
    have nT := q_nxT_loop (L := L5) (u := u5) hl hR g2 (q_h7 hR.1 m) t0 t23 n FU 0 (by omega) (by omega)
    have nF := q_nxF_loop (L := L5) (u := u5) hR g2 t0 t23 (nI law) n FU 0 (by omega) (by omega)
    have hN : fX1_nextMember FU (nI law) (nI m) P Wo L u (nI n) (nI bC) (nI w) V S R = some (enc (bst law v s L u bC w m r n), W2) := hN
    have nT : fX5_nextOf FU (nI law) 1 T V5 S5 (nI bR) R5 L5 u5 (nI m) = some (enc (scT law v s L5 u5 bR w m r n)) := nT
    have nF : fX5_nextOf FU (nI law) 0 T V5 S5 (nI bR) R5 L5 u5 (nI m) = some (enc (scF v s bR w m r n)) := nF
    have ke : ¬ (nI e < 0 ∨ 8 ≤ (nI e).toNatClampNeg) := nI_in (by omega) (by omega)
    have ee : (nI e).toNatClampNeg = e := nI_clamp (by omega)
    rw [fX1_hold_b7, if_neg (nI_ge (by omega) (by omega)), hN, Option.bind_some]
    rw [fX5_elects_b40, if_neg q_10, t22, if_neg (nI_ge (by omega) (by omega)), nT, Option.bind_some]
    dsimp only
    cases hB : bst law v s L u bC w m r n with
    | none =>
      have hT0 : scT law v s L5 u5 bR w m r n = none := by
        unfold bst at hB
        rw [eT] at hB
        cases q : scT law v s L5 u5 bR w m r n with
        | none => rfl
        | some t => rw [q] at hB; cases hB
      have hF0 : scF v s bR w m r n = none := by
        unfold bst at hB
        rw [eT, hT0, eF] at hB
        exact hB
      obtain ⟨fR, rfl, -⟩ := q_suc (show k < fR by omega)
      refine ⟨e, m, O, A, B, L, u, O5, vp_updL A5 e 0, vp_updL B5 e 0, L5, u5, W2, ?_, ?_, g1, g2, gb, g3, fun i hi => ?_, g5, g6, g7⟩
      · rw [enc_none, if_pos rfl]
      · rw [hT0, enc_none, if_pos rfl, nF, hF0, enc_none, Option.bind_some, if_neg ke, ee]
        unfold fX5_elects_b107 fX5_elects_b118 fX5_elects_b155
        rw [if_pos rfl, if_pos rfl]
        dsimp only
        rw [fX5_elects_b40, if_pos rfl]
      · rw [pk_uLn (by omega), pk_uLn (by omega)]
        exact g4 i hi
    | some c =>
      have hcl := bst_lt (n := n) (fun j hj => (hC.2.2.2 j hj).2) hB
      have hmc := q_elgm hcl.2
      have hbm : bcN (m ||| 2 ^ c) = e + 1 := by rw [q_bc1 m g2 c (by omega) hmc, gb]
      have hm2 : m ||| 2 ^ c < 256 := Nat.or_lt_two_pow (n := 8) g2 (q_p2lt c (by omega))
      have el := q_el1 (P := P) (O := O) (A := A) (B := B) (Wo := W2) (m := m) (e := e) hl hC (by omega) hcl.1 (hP c hcl.1) (hW c hB)
      have sh : nI m ||| ((1 : Int32) <<< (nI c &&& 31)) = nI (m ||| 2 ^ c) := by rw [q_shl1 c (by omega), fa_or]
      rw [enc_some, if_neg (q_nm4 (by omega)), el, Option.bind_some]
      dsimp only
      rw [nI_1]
      have hb107 : ∀ (kk : Int32 → Int32 → (Nat → Int32) → (Nat → Int32) → (Nat → Int32) → Int32 → (Nat → Int32) → (Nat → Int64) → Int64 → (Nat → Int32) → Int32 → Int32 → (Nat → Int64) → (Nat → Int64) → Option ((Nat → Int64) × (Int64) × (Nat → Int32) × (Int32) × (Int32) × (Nat → Int64) × (Nat → Int64))) (L6 : Nat → Int64) (u6 : Int64) (A6 B6 : Nat → Int64), fX5_elects_b107 FU kk (nI law) (nI c) T V5 S5 (nI bR) R5 L6 u6 O5 (nI e) (nI m) A6 B6 = kk (nI law) 1 T V5 S5 (nI bR) R5 L6 u6 (upd O5 e (nI c)) (nI (e + 1)) (nI (m ||| 2 ^ c)) A6 B6 := by
        intro kk L6 u6 A6 B6
        unfold fX5_elects_b107 fX5_elects_b118 fX5_elects_b155
        rw [if_neg (q_nm4 (by omega)), if_neg q_10, if_neg ke, ee, nI_1, sh]
      have hO : ∀ i, i < e + 1 → upd O e (nI c) i = upd O5 e (nI c) i := by
        intro i hi
        by_cases q : i = e
        · rw [q, pk_us, pk_us]
        · rw [pk_un q, pk_un q]; exact g3 i (by omega)
      by_cases hs : 0 < supN v s bC c
      · have hTc : scT law v s L5 u5 bR w m r n = some c := by
          unfold bst at hB
          rw [eT] at hB
          cases q : scT law v s L5 u5 bR w m r n with
          | none =>
            rw [q] at hB
            exact absurd hs (scF_lt (n := n) n (fun j hj => (hC.2.2.2 j hj).2) c hB).2.2
          | some t => rw [q] at hB; exact hB
        have hs5 : 0 < supN v s bR c := by rw [← x1]; exact hs
        have cb := q_cb5 (A5 := A5) (B5 := B5) (L5 := L5) (u5 := u5) (m := m) (e := e) hl hR (by omega) hcl.1 hs5
        rw [hTc, enc_some, if_neg (q_nm4 (by omega)), cb, Option.bind_some]
        dsimp only
        rw [hb107]
        refine ih fC fR (e + 1) (m ||| 2 ^ c) _ _ _ _ _ _ _ _ _ _ W2 (by omega) (by omega) (by omega) ⟨by omega, hm2, hbm, hO, ?_, ?_, ?_, ?_⟩
        · have hc4 := q_cb (law := law) (m := m) hl hC.1 (by omega) g7 (show c < 8 by omega) hmc hs
          have hq := q_upd4 g4 hc4
          rw [x1, x2, hl5, g6] at hq
          rw [x1, g6]
          exact hq
        · intro j hj
          by_cases q : law = 1 ∨ law = 2
          · rw [if_pos (Or.inr q), if_pos q]; exact g5 j hj
          · rw [if_neg (by omega), if_neg q]
            unfold fl nw
            rw [if_pos (by omega), if_pos hj, hl5, x1, g5 j hj]
        · by_cases q : law = 1 ∨ law = 2
          · rw [if_pos (Or.inr q), if_pos q]; exact g6
          · rw [if_neg (by omega), if_neg q, x1, g6]
        · by_cases q : law = 1 ∨ law = 2
          · rw [if_pos (Or.inr q), if_pos (Or.inr q)]; exact LB_more g7
          · rw [if_neg (by omega), if_neg (by omega)]
            exact (LB_step hC.1 g7 (by omega) hs).1
      · have hTn : scT law v s L5 u5 bR w m r n = none := by
          unfold bst at hB
          rw [eT] at hB
          cases q : scT law v s L5 u5 bR w m r n with
          | none => rfl
          | some t =>
            rw [q] at hB
            cases hB
            have := (scT_lt (n := n) n (fun j hj => (hC.2.2.2 j hj).2) c q).2.2
            rw [← x1] at this
            exact absurd this hs
        have hFc : scF v s bR w m r n = some c := by
          unfold bst at hB
          rw [eT, hTn, eF] at hB
          exact hB
        rw [hTn, enc_none, if_pos rfl, nF, hFc, Option.bind_some, if_neg ke, ee, enc_some, hb107]
        refine ih fC fR (e + 1) (m ||| 2 ^ c) _ _ _ _ _ _ _ _ _ _ W2 (by omega) (by omega) (by omega) ⟨by omega, hm2, hbm, hO, ?_, ?_, ?_, ?_⟩
        · refine q_upd4 g4 (Or.inl ⟨?_, rfl⟩)
          rw [if_pos (by omega)]
        · intro j hj
          rw [if_pos (Or.inl (by omega))]; exact g5 j hj
        · rw [if_pos (Or.inl (by omega))]; exact g6
        · rw [if_pos (Or.inl (by omega)), if_pos (Or.inl (by omega))]; exact LB_more g7
end SM
