/-! pure rows: a ballot read by both; the whole text -/
section TH
variable {ln : Nat} {X Y : Nat → Int32} {x : Nat → Nat}
theorem c_comma (ht : TX ln X Y x) {p e : Nat} (he : e ≤ ln) {cd bl : Int32} {V S : Nat → Int32} : ∀ (kk f i : Nat), i + kk = e → kk < f → ∃ c0, i ≤ c0 ∧ c0 ≤ e ∧ (∀ j, i ≤ j → j < c0 → ¬ x j = 44) ∧ (c0 < e → x c0 = 44) ∧ fX3_readBallot_b3 FU f (nI p) (nI e) (nI i) X cd bl V S = fX3_readBallot_b27 FU (nI p) (nI e) (nI c0) X cd bl V S := by
  have hln := ht.1
  intro kk
  induction kk with
  | zero =>
    intro f i h1 h2
    obtain ⟨f, rfl, -⟩ := q_suc h2
    rw [fX3_readBallot_b3, if_pos (nI_le (by omega) (by omega))]
    exact ⟨i, by omega, by omega, fun j q1 q2 => by omega, fun q => by omega, rfl⟩
  | succ kk ih =>
    intro f i h1 h2
    obtain ⟨f, rfl, -⟩ := q_suc h2
    obtain ⟨a1, a2, a3, a4⟩ := ht.2 i (by omega)
    rw [fX3_readBallot_b3, if_neg (nI_ge (by omega) (by omega)), if_neg (nI_in (by omega) (by omega)), nI_clamp (by omega), a1]
    by_cases z : x i = 44
    · rw [if_pos (show nI (x i) = 44 by rw [z]; rfl)]
      exact ⟨i, by omega, by omega, fun j q1 q2 => by omega, fun _ => z, rfl⟩
    · rw [if_neg (show ¬ nI (x i) = 44 from fun q => z ((nI_eq (b := 44) (by omega) (by omega)).mp q)), nI_1]
      obtain ⟨c0, k1, k2, k3, k4, k5⟩ := ih f (i + 1) (by omega) (by omega)
      exact ⟨c0, by omega, k2, fun j q1 q2 => by
        by_cases q : j = i
        · rw [q]; exact z
        · exact k3 j (by omega) q2, k4, k5⟩
theorem q_vt {v : Nat} : fX4_isVoters FU (nI v) = some (if v < 2 ^ 31 ∧ 1 ≤ v ∧ v ≤ 20 then 1 else 0) ∨ 2 ^ 31 ≤ v := by
  by_cases hv : v < 2 ^ 31
  · refine Or.inl ?_
    rcases g_vot (nI v) with ⟨q, h1, h2, h3, h4, h5⟩ | ⟨h4, h5⟩
    · have := (nI_eq hv (by omega)).mp h3
      rw [h4, if_pos (by omega)]
    · rw [q_in2, show (1 : Int32).toInt = 1 from rfl, show (20 : Int32).toInt = 20 from rfl, nI_toInt hv] at h5
      rw [h4, if_neg (fun q => by rw [if_pos (by omega)] at h5; exact absurd h5 (by decide))]
  · exact Or.inr (by omega)
theorem q_vt1 {v : Nat} (h : 1 ≤ v ∧ v ≤ 20) : fX4_isVoters FU (nI v) = some 1 := by
  rcases q_vt (v := v) with q | q
  · rw [q, if_pos (by omega)]
  · omega
theorem q_vt0 {v : Nat} (hv : v < 100) (h : ¬ (1 ≤ v ∧ v ≤ 20)) : fX4_isVoters FU (nI v) = some 0 := by
  rcases q_vt (v := v) with q | q
  · rw [q, if_neg (by omega)]
  · omega
theorem q_vtm : fX4_isVoters FU (-1) = some 0 := by decide +kernel
theorem CR.sum0 {cd bl st wd : Int32} {V S R T : Nat → Int32} {n b k w : Nat} {v s r : Nat → Nat} (h : CR cd bl st wd V S R T n b k w v s r) : smI V b = nI (fb_sm v b) := smI_nI (fun j hj => (h.2.2.2.1 j hj).1)
theorem CR.sum5 {cd bl st wd : Int32} {V S R T : Nat → Int32} {n b k w : Nat} {v s r : Nat → Nat} (h : CR cd bl st wd V S R T n b k w v s r) : smI (fun j => T (2 + j)) b = nI (fb_sm v b) := smI_nI (fun j hj => (h.2.2.2.1 j hj).2.1)
/-- b: a ballot -/
theorem i_ballot (ht : TX ln X Y x) {st e : Nat} (h : AN ln x st e) (hs : st < e) {cd bl ss wd : Int32} {R V S M : Nat → Int32} {n b k : Nat} {v s r : Nat → Nat} (hc : CR cd bl ss wd V S R M n b k 0 v s r) (val : Int32) :
    IO e ln ((fX3_readBallot FU (nI (st + 1)) (nI e) X cd bl V S).bind fun u6 => if ¬ (u6.1 = 0 ∨ u6.1 = 1) then none else some (u6.1, cd, u6.2.1, ss, wd, u6.2.2.1, u6.2.2.2, R))
      ((fX5_takesBallot FU M Y (nI ln) (nI (st + 1)) val).bind fun u3 => (if u3.1 = 0 then some (0, u3.2.1, u3.2.2.1, u3.2.2.2) else (fX5_takes FU 59 Y (nI ln) u3.2.2.1).bind fun u6 => (if u6.1 = 0 then some (0, u3.2.1, u6.2, u3.2.2.2) else some (1, u3.2.1, u6.2, u3.2.2.2)))) := by
  have hF := FU_e
  have hln := ht.1
  have hn := hc.1.2.1
  have hb := hc.1.2.2.1
  have he := h.2.1
  obtain ⟨q1, q2, -, -⟩ := hc.2.1
  subst q1 q2
  have tk44 : ∀ sp, sp < 1000 → ¬ (sp < ln ∧ x sp = 44) → fX5_takes FU 44 Y (nI ln) (nI sp) = some (0, nI sp) := fun sp hsp q => by
    rw [show (44 : Int32) = nI 44 from rfl, t_tk ht hsp (by omega), if_neg q]
  unfold fX3_readBallot
  obtain ⟨c0, k1, k2, k3, k4, k5⟩ := c_comma ht he (p := st + 1) (cd := nI n) (bl := nI b) (V := V) (S := S) (e - (st + 1)) FU (st + 1) (by omega) (by omega)
  rw [k5]
  unfold fX3_readBallot_b27 fX5_takesBallot
  -- what the class answers where a number or a set is wrong
  have cN : ∀ (u1 u3 : Int32), fX3_number FU (nI (st + 1)) (nI c0) X = some u1 → fX3_risingSet FU (nI n) (nI c0 + 1) (nI e) X = some u3 → (fX4_isVoters FU u1 = some 0 ∨ u3 = 0 ∨ b = 10) → ((fX3_number FU (nI (st + 1)) (nI c0) X).bind fun u1 => (fX3_risingSet FU (nI n) (nI c0 + 1) (nI e) X).bind fun u3 => (fX4_isVoters FU u1).bind fun u5 => (if u5 = 0 then some (0, nI b, V, S) else (if u3 = 0 then some (0, nI b, V, S) else (if 10 ≤ nI b then some (0, nI b, V, S) else (fX0_allVoters FU (nI b) V S).bind fun u10 => (if (u10 + u1) ≤ 40 then (fX0_addBallot FU u1 u3 (nI b) V S).bind fun u13 => some (1, u13.1, u13.2.1, u13.2.2) else some (0, nI b, V, S)))))) = some ((0 : Int32), nI b, V, S) := fun u1 u3 a1 a2 a3 => by
    rw [a1, a2, Option.bind_some, Option.bind_some]
    have b01 : fX4_isVoters FU u1 = some 0 ∨ fX4_isVoters FU u1 = some 1 := by
      rcases g_vot u1 with ⟨q, -, -, -, h4, -⟩ | ⟨h4, -⟩
      · exact Or.inr h4
      · exact Or.inl h4
    rcases b01 with z | z
    · rw [z, Option.bind_some, if_pos rfl]
    · rw [z, Option.bind_some, if_neg q_10]
      rcases a3 with y | y | y
      · rw [z] at y; exact absurd y (by decide)
      · rw [if_pos y]
      · by_cases w : u3 = 0
        · rw [if_pos w]
        · rw [if_neg w, if_pos (show (10 : Int32) ≤ nI b by rw [y]; decide)]
  by_cases z : c0 < e
  · -- a comma
    have x0 := k4 z
    have nd : ¬ dg ln x c0 := fun q => by have := q.2; omega
    have hset := j_set ht hn hc.2.2.1.1 he h.nn (e - (c0 + 1)) FU FU (c0 + 1) 0 0 (by omega) (by omega) (by omega) (by omega) (by decide)
    have hset' : ∃ u3, fX3_risingSet FU (nI n) (nI c0 + 1) (nI e) X = some u3 := by
      unfold fX3_risingSet
      rw [nI_1]
      rcases hset with ⟨q', -, w, -⟩ | ⟨w, -⟩
      · exact ⟨_, w⟩
      · exact ⟨_, w⟩
    obtain ⟨u3, hu3⟩ := hset'
    rcases j_num ht (lo := 1) (hi := 20) (by omega) (by omega) (show st + 1 ≤ c0 by omega) (by omega) nd val with ⟨q, hq, e1, e2⟩ | ⟨e1, t, sp, v', e2, e3, e4, e5, e6, e7, e8⟩
    · rw [show fX5_takesNumber FU 1 20 Y (nI ln) (nI (st + 1)) val = _ from e2, Option.bind_some]
      dsimp only
      by_cases y : 1 ≤ q ∧ q ≤ 20
      · rw [nmb_1 y, if_neg q_10]
        by_cases w : b = 10
        · rw [cN _ _ e1 hu3 (Or.inr (Or.inr w)), Option.bind_some, if_neg b01_0, if_pos (show M 1 = 10 by rw [hc.2.2.1.2.1, w]; rfl), Option.bind_some]
          dsimp only
          rw [if_pos rfl]; exact IO_no
        · rw [if_neg (show ¬ M 1 = 10 by rw [hc.2.2.1.2.1]; exact fun q => w ((nI_eq (b := 10) (by omega) (by omega)).mp q)), show fX5_takes FU 44 Y (nI ln) (nI c0) = some (1, nI (c0 + 1)) from by rw [show (44 : Int32) = nI 44 from rfl, t_tk ht (by omega) (by omega), if_pos ⟨by omega, x0⟩], Option.bind_some]
          dsimp only
          rw [if_neg q_10]
          unfold fX5_takesSet
          rcases hset with ⟨q', r1, r2, r3⟩ | ⟨r2, t, sp, va, r3, r4, r5, r6⟩
          · rw [show fX5_takesSet_b7 FU FU (-1) M Y (nI ln) (nI (c0 + 1)) 0 = _ from r3, Option.bind_some]
            have r2' : fX3_risingSet FU (nI n) (nI c0 + 1) (nI e) X = some (nI q') := by unfold fX3_risingSet; rw [nI_1]; exact r2
            have hp := q_pn hn
            dsimp only
            by_cases g : q' = 0
            · rw [cN _ _ e1 r2' (Or.inr (Or.inl (by rw [g]; rfl))), if_pos g, if_pos rfl, Option.bind_some, Option.bind_some, if_neg b01_0]
              dsimp only
              rw [if_pos rfl]; exact IO_no
            · rw [if_neg g, if_neg q_10, e1, Option.bind_some, r2', Option.bind_some, q_vt1 y, Option.bind_some, if_neg q_10, if_neg (nI_ne0 (by omega) (by omega)), if_neg (show ¬ (10 : Int32) ≤ nI b from nI_ge (b := 10) (by omega) (by omega)), q_all0 (by omega), q_rdv (by omega) hc.2.2.1.2.1, Option.bind_some, Option.bind_some, hc.sum0, hc.sum5, nI_add, hc.2.2.1.2.1]
              have h40 := hc.2.2.2.2.2.1
              by_cases f40 : fb_sm v b + q ≤ 40
              · rw [if_pos (show nI (fb_sm v b + q) ≤ 40 from nI_le (b := 40) (by omega) (by omega)), if_pos (show nI (fb_sm v b + q) ≤ 40 from nI_le (b := 40) (by omega) (by omega)), q_add2, if_neg (nI_in (by omega) (by omega)), nI_clamp (by omega), q_upn _ _ (show ¬ 1 = 2 + b by omega), hc.2.2.1.2.1, q_add12, if_neg (nI_in (by omega) (by omega)), nI_clamp (by omega), q_upn _ _ (show ¬ 1 = 12 + b by omega), q_upn _ _ (show ¬ 1 = 2 + b by omega), hc.2.2.1.2.1, nI_1, Option.bind_some]
                unfold fX0_addBallot
                rw [if_neg (show ¬ (11 : Int32) ≤ nI b from nI_ge (b := 11) (by omega) (by omega)), if_neg (nI_in (by omega) (by omega)), nI_clamp (by omega), Option.bind_some, Option.bind_some, nI_1, if_neg b01_1]
                dsimp only
                rw [if_neg q_10]
                by_cases w3 : e < ln
                · rw [h.t1 ht w3, Option.bind_some, if_neg q_10]
                  exact IO_yes w3 (Or.inr ⟨n, b + 1, k, _, _, r, CR_add hc (by omega) y.1 y.2 (by omega) r1 f40⟩)
                · have we : e = ln := by omega
                  rw [h.t0 ht we, Option.bind_some, if_pos rfl]
                  exact IO_e we
              · rw [if_neg (show ¬ nI (fb_sm v b + q) ≤ 40 from nI_ge (a := 40) (by omega) (by omega)), if_neg (show ¬ nI (fb_sm v b + q) ≤ 40 from nI_ge (a := 40) (by omega) (by omega)), Option.bind_some, Option.bind_some, if_neg b01_0]
                dsimp only
                rw [if_pos rfl]; exact IO_no
          · have r2' : fX3_risingSet FU (nI n) (nI c0 + 1) (nI e) X = some 0 := by unfold fX3_risingSet; rw [nI_1]; exact r2
            rw [cN _ _ e1 r2' (Or.inr (Or.inl rfl)), Option.bind_some, if_neg b01_0, show fX5_takesSet_b7 FU FU (-1) M Y (nI ln) (nI (c0 + 1)) 0 = _ from r3, Option.bind_some]
            dsimp only
            rcases r4 with rfl | rfl
            · rw [if_pos rfl, Option.bind_some]
              dsimp only
              rw [if_pos rfl]; exact IO_no
            · rw [if_neg q_10, q_rdv (by omega) hc.2.2.1.2.1, Option.bind_some, hc.sum5, nI_add, hc.2.2.1.2.1]
              have h40 := hc.2.2.2.2.2.1
              by_cases f40 : fb_sm v b + q ≤ 40
              · rw [if_pos (show nI (fb_sm v b + q) ≤ 40 from nI_le (b := 40) (by omega) (by omega)), q_add2, if_neg (nI_in (by omega) (by omega)), nI_clamp (by omega), q_upn _ _ (show ¬ 1 = 2 + b by omega), hc.2.2.1.2.1, q_add12, if_neg (nI_in (by omega) (by omega)), Option.bind_some]
                dsimp only
                rw [if_neg q_10, h.ti ht (by omega) r6, Option.bind_some, if_pos rfl]; exact IO_no
              · rw [if_neg (show ¬ nI (fb_sm v b + q) ≤ 40 from nI_ge (a := 40) (by omega) (by omega)), Option.bind_some]
                dsimp only
                rw [if_pos rfl]; exact IO_no
      · rw [nmb_0 y, if_pos rfl, cN _ _ e1 hu3 (Or.inl (q_vt0 hq y)), Option.bind_some, if_neg b01_0, Option.bind_some]
        dsimp only
        rw [if_pos rfl]; exact IO_no
    · rw [cN _ _ e1 hu3 (Or.inl q_vtm), Option.bind_some, if_neg b01_0, show fX5_takesNumber FU 1 20 Y (nI ln) (nI (st + 1)) val = _ from e2, Option.bind_some]
      dsimp only
      rcases e3 with rfl | rfl
      · rw [if_pos rfl, Option.bind_some]
        dsimp only
        rw [if_pos rfl]; exact IO_no
      · have w := e5.resolve_left (by decide)
        rw [if_neg q_10]
        by_cases g : M 1 = 10
        · rw [if_pos g, Option.bind_some]
          dsimp only
          rw [if_pos rfl]; exact IO_no
        · rw [if_neg g, tk44 sp (by omega) (fun q => k3 sp e4 w q.2), Option.bind_some]
          dsimp only
          rw [if_pos rfl, Option.bind_some]
          dsimp only
          rw [if_pos rfl]; exact IO_no
  · -- no comma
    have ce : c0 = e := by omega
    have hu3 : fX3_risingSet FU (nI n) (nI c0 + 1) (nI e) X = some 0 := by
      unfold fX3_risingSet
      have hb : ∀ N : Nat, FU = N → fX3_risingSet_b9 FU N (nI n) (nI e) 0 0 (nI c0 + 1) X = fX3_risingSet_b9 FU FU (nI n) (nI e) 0 0 (nI c0 + 1) X := fun N e => by rw [e]
      rw [← hb (511 + 1) rfl, fX3_risingSet_b9, nI_1, if_pos (nI_le (by omega) (by omega))]
    have nc : ∀ j, st + 1 ≤ j → j < ln → j ≤ e → ¬ x j = 44 := fun j q1 q2 q3 => by
      by_cases w : j = e
      · rw [w]; have := h.2.2.2 (by omega); omega
      · exact k3 j q1 (by omega)
    have fin : ∀ (t : Int32) (sp v' : Nat), fX5_takesNumber FU (nI 1) (nI 20) Y (nI ln) (nI (st + 1)) val = some (t, nI sp, nI v') → (t = 0 ∨ t = 1) → st + 1 ≤ sp → sp ≤ e → IO e ln (some (0, nI n, nI b, ss, wd, V, S, R)) ((fX5_takesBallot FU M Y (nI ln) (nI (st + 1)) val).bind fun u3 => (if u3.1 = 0 then some (0, u3.2.1, u3.2.2.1, u3.2.2.2) else (fX5_takes FU 59 Y (nI ln) u3.2.2.1).bind fun u6 => (if u6.1 = 0 then some (0, u3.2.1, u6.2, u3.2.2.2) else some (1, u3.2.1, u6.2, u3.2.2.2)))) := fun t sp v' a1 a2 a3 a4 => by
      unfold fX5_takesBallot
      rw [show fX5_takesNumber FU 1 20 Y (nI ln) (nI (st + 1)) val = _ from a1, Option.bind_some]
      dsimp only
      rcases a2 with rfl | rfl
      · rw [if_pos rfl, Option.bind_some]
        dsimp only
        rw [if_pos rfl]; exact IO_no
      · rw [if_neg q_10]
        by_cases g : M 1 = 10
        · rw [if_pos g, Option.bind_some]
          dsimp only
          rw [if_pos rfl]; exact IO_no
        · rw [if_neg g, tk44 sp (by omega) (fun q => nc sp a3 q.1 a4 q.2), Option.bind_some]
          dsimp only
          rw [if_pos rfl, Option.bind_some]
          dsimp only
          rw [if_pos rfl]; exact IO_no
    rcases j_num ht (lo := 1) (hi := 20) (by omega) (by omega) (show st + 1 ≤ e by omega) he h.nd val with ⟨q, hq, e1, e2⟩ | ⟨e1, t, sp, v', e2, e3, e4, e5, e6, e7, e8⟩
    · rw [cN _ _ (ce ▸ e1) hu3 (Or.inr (Or.inl rfl)), Option.bind_some, if_neg b01_0]
      refine fin _ _ _ e2 ?_ (by omega) (by omega)
      by_cases y : 1 ≤ q ∧ q ≤ 20
      · exact Or.inr (nmb_1 y)
      · exact Or.inl (nmb_0 y)
    · rw [cN _ _ (ce ▸ e1) hu3 (Or.inr (Or.inl rfl)), Option.bind_some, if_neg b01_0]
      exact fin _ _ _ e2 e3 e4 e6
end TH
