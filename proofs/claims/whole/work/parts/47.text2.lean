/-! pure rows: one item read by both -/
def RD (cd bl st wd : Int32) (V S R T : Nat → Int32) : Prop := (cd = 0 ∧ bl = 0 ∧ st = 3 ∧ wd = 0 ∧ T 0 = 0 ∧ T 1 = 0 ∧ T 22 = 3 ∧ T 23 = 0) ∨ ∃ (n b k : Nat) (v s r : Nat → Nat), CR cd bl st wd V S R T n b k 0 v s r
def IO (e ln : Nat) (cl : Option (Int32 × Int32 × Int32 × Int32 × Int32 × (Nat → Int32) × (Nat → Int32) × (Nat → Int32))) (rf : Option (Int32 × (Nat → Int32) × Int32 × Int32)) : Prop :=
  ∃ (u cd bl st wd : Int32) (V S R : Nat → Int32) (t : Int32) (M : Nat → Int32) (sp val : Int32), cl = some (u, cd, bl, st, wd, V, S, R) ∧ rf = some (t, M, sp, val) ∧ ((t = 0 ∧ (u = 0 ∨ e = ln)) ∨ (t = 1 ∧ u = 1 ∧ e < ln ∧ sp = nI (e + 1) ∧ RD cd bl st wd V S R M))
theorem IO_no {e ln : Nat} {cd bl st wd : Int32} {V S R M : Nat → Int32} {sp val : Int32} : IO e ln (some (0, cd, bl, st, wd, V, S, R)) (some (0, M, sp, val)) := ⟨_, _, _, _, _, _, _, _, _, _, _, _, rfl, rfl, Or.inl ⟨rfl, Or.inl rfl⟩⟩
theorem IO_e {e ln : Nat} (h : e = ln) {u cd bl st wd : Int32} {V S R M : Nat → Int32} {sp val : Int32} : IO e ln (some (u, cd, bl, st, wd, V, S, R)) (some (0, M, sp, val)) := ⟨_, _, _, _, _, _, _, _, _, _, _, _, rfl, rfl, Or.inl ⟨rfl, Or.inr h⟩⟩
theorem IO_yes {e ln : Nat} (h : e < ln) {cd bl st wd : Int32} {V S R M : Nat → Int32} {val : Int32} (hr : RD cd bl st wd V S R M) : IO e ln (some (1, cd, bl, st, wd, V, S, R)) (some (1, M, nI (e + 1), val)) := ⟨_, _, _, _, _, _, _, _, _, _, _, _, rfl, rfl, Or.inr ⟨rfl, rfl, h, rfl, hr⟩⟩
/-- changes of a council -/
def adM (M : Nat → Int32) (b : Nat) (p q : Int32) : Nat → Int32 := upd (upd (upd M (2 + b) p) (12 + b) q) 1 (nI (b + 1))
theorem CR_add {cd bl st wd : Int32} {V S R T : Nat → Int32} {n b k w : Nat} {v s r : Nat → Nat} (h : CR cd bl st wd V S R T n b k w v s r) {p q : Nat} (hb : b < 10) (h1 : 1 ≤ p) (h2 : p ≤ 20) (h3 : 1 ≤ q) (h4 : q < 2 ^ n) (h5 : fb_sm v b + p ≤ 40) : CR cd (nI (b + 1)) st wd (upd V b (nI p)) (upd S b (nI q)) R (adM T b (nI p) (nI q)) n (b + 1) k w (fun j => if j = b then p else v j) (fun j => if j = b then q else s j) r := by
  obtain ⟨⟨a1, a2, a3, a4, a5, a6⟩, ⟨c1, c2, c3, c4⟩, ⟨t0, t1, t22, t23⟩, hV, hS, hs, hR, inj⟩ := h
  have ad : ∀ j, ¬ j = 2 + b → ¬ j = 12 + b → ¬ j = 1 → adM T b (nI p) (nI q) j = T j := fun j z1 z2 z3 => by
    unfold adM; rw [q_upn _ _ z3, q_upn _ _ z2, q_upn _ _ z1]
  refine ⟨⟨a1, a2, by omega, a4, a5, a6⟩, ⟨c1, rfl, c3, c4⟩, ⟨by rw [ad 0 (by omega) (by omega) (by omega)]; exact t0, by unfold adM; rw [q_upi], by rw [ad 22 (by omega) (by omega) (by omega)]; exact t22, by rw [ad 23 (by omega) (by omega) (by omega)]; exact t23⟩, fun j hj => ?_, fun j hj => ?_, ?_, fun i hi => ?_, inj⟩
  · by_cases z : j = b
    · rw [z]; unfold adM
      rw [q_upi, q_upn _ _ (show ¬ 2 + b = 1 by omega), q_upn _ _ (show ¬ 2 + b = 12 + b by omega), q_upi]; simp only [if_true]; exact ⟨trivial, trivial, h1, h2⟩
    · rw [q_upn _ _ z, ad (2 + j) (by omega) (by omega) (by omega)]; simp only [if_neg z]; exact hV j (by omega)
  · by_cases z : j = b
    · rw [z]; unfold adM
      rw [q_upi, q_upn _ _ (show ¬ 12 + b = 1 by omega), q_upi]; simp only [if_true]; exact ⟨trivial, trivial, h3, h4⟩
    · rw [q_upn _ _ z, ad (12 + j) (by omega) (by omega) (by omega)]; simp only [if_neg z]; exact hS j (by omega)
  · rw [fb_sm_succ, fb_sm_out v p (Nat.le_refl b), if_pos rfl]; exact h5
  · rw [ad (24 + i) (by omega) (by omega) (by omega)]; exact hR i hi
theorem CR_seats {cd bl st wd : Int32} {V S R T : Nat → Int32} {n b k w : Nat} {v s r : Nat → Nat} (h : CR cd bl st wd V S R T n b k w v s r) {q : Nat} (h1 : 1 ≤ q) (h2 : q ≤ 8) : CR cd bl (nI q) wd V S R (upd T 22 (nI q)) n b q w v s r := by
  obtain ⟨⟨a1, a2, a3, a4, a5, a6⟩, ⟨c1, c2, c3, c4⟩, ⟨t0, t1, t22, t23⟩, hV, hS, hs, hR, inj⟩ := h
  have ad : ∀ j, ¬ j = 22 → upd T 22 (nI q) j = T j := fun j z => q_upn _ _ z
  exact ⟨⟨a1, a2, by omega, h1, h2, a6⟩, ⟨c1, c2, rfl, c4⟩, ⟨by rw [ad 0 (by omega)]; exact t0, by rw [ad 1 (by omega)]; exact t1, q_upi _ _ _, by rw [ad 23 (by omega)]; exact t23⟩, fun j hj => by rw [ad (2 + j) (by omega)]; exact hV j hj, fun j hj => by rw [ad (12 + j) (by omega)]; exact hS j hj, hs, fun i hi => by rw [ad (24 + i) (by omega)]; exact hR i hi, inj⟩
theorem CR_rank {cd bl st wd : Int32} {V S R T : Nat → Int32} {n b k w : Nat} {v s r : Nat → Nat} (h : CR cd bl st wd V S R T n b k w v s r) {R' T' : Nat → Int32} {r' : Nat → Nat} (ht : ∀ j, j < 24 → T' j = T j) (hr : ∀ j, j < n → R' j = nI (r' j) ∧ T' (24 + j) = nI (r' j) ∧ r' j < n) (hi : ∀ i j, i < n → j < n → r' i = r' j → i = j) : CR cd bl st wd V S R' T' n b k w v s r' := by
  obtain ⟨⟨a1, a2, a3, a4, a5, a6⟩, ⟨c1, c2, c3, c4⟩, ⟨t0, t1, t22, t23⟩, hV, hS, hs, hR, inj⟩ := h
  exact ⟨⟨a1, a2, by omega, a4, a5, a6⟩, ⟨c1, c2, c3, c4⟩, ⟨by rw [ht 0 (by omega)]; exact t0, by rw [ht 1 (by omega)]; exact t1, by rw [ht 22 (by omega)]; exact t22, by rw [ht 23 (by omega)]; exact t23⟩, fun j hj => by rw [ht (2 + j) (by omega)]; exact hV j hj, fun j hj => by rw [ht (12 + j) (by omega)]; exact hS j hj, hs, hr, hi⟩
section TG
variable {ln : Nat} {X Y : Nat → Int32} {x : Nat → Nat}
/-- an item lies from st to e -/
def AN (ln : Nat) (x : Nat → Nat) (st e : Nat) : Prop := st ≤ e ∧ e ≤ ln ∧ (∀ i, st ≤ i → i < e → ¬ x i = 59) ∧ (e < ln → x e = 59)
theorem AN.nd {st e : Nat} (h : AN ln x st e) : ¬ dg ln x e := fun z => by have := h.2.2.2 z.1; have := z.2; omega
theorem AN.nn {st e n : Nat} (h : AN ln x st e) : ¬ nm n ln x e := fun z => by have := h.2.2.2 z.1; have := z.2; omega
theorem AN.ti (ht : TX ln X Y x) {st e sp : Nat} (h : AN ln x st e) (h1 : st ≤ sp) (h2 : sp < e) : fX5_takes FU 59 Y (nI ln) (nI sp) = some (0, nI sp) := by
  have := ht.1
  have h3 := h.2.1
  rw [show (59 : Int32) = nI 59 from rfl, t_tk ht (by omega) (by omega), if_neg (fun q => h.2.2.1 sp h1 h2 q.2)]
theorem AN.t1 (ht : TX ln X Y x) {st e : Nat} (h : AN ln x st e) (h2 : e < ln) : fX5_takes FU 59 Y (nI ln) (nI e) = some (1, nI (e + 1)) := by
  have := ht.1
  rw [show (59 : Int32) = nI 59 from rfl, t_tk ht (by omega) (by omega), if_pos ⟨h2, h.2.2.2 h2⟩]
theorem AN.t0 (ht : TX ln X Y x) {st e : Nat} (h : AN ln x st e) (h2 : e = ln) : fX5_takes FU 59 Y (nI ln) (nI e) = some (0, nI e) := by
  have := ht.1
  rw [show (59 : Int32) = nI 59 from rfl, t_tk ht (by omega) (by omega), if_neg (fun q => by omega)]
theorem nmb_1 {lo hi q : Nat} (h : lo ≤ q ∧ q ≤ hi) : nmb lo hi q = 1 := by unfold nmb; rw [if_pos h]
theorem nmb_0 {lo hi q : Nat} (h : ¬ (lo ≤ q ∧ q ≤ hi)) : nmb lo hi q = 0 := by unfold nmb; rw [if_neg h]
theorem b01_0 : ¬ ¬ ((0 : Int32) = 0 ∨ (0 : Int32) = 1) := by decide
theorem b01_1 : ¬ ¬ ((1 : Int32) = 0 ∨ (1 : Int32) = 1) := by decide
/-- n: the first candidates -/
theorem i_cand0 (ht : TX ln X Y x) {st e : Nat} (h : AN ln x st e) (hs : st < e) {R V S M : Nat → Int32} (t0 : M 0 = 0) (t1 : M 1 = 0) (t22 : M 22 = 3) (t23 : M 23 = 0) (val : Int32) :
    IO e ln ((fX3_readCandidates FU (nI (st + 1)) (nI e) X 0 0 3 0 R).bind fun u17 => if ¬ (u17.1 = 0 ∨ u17.1 = 1) then none else some (u17.1, u17.2.1, u17.2.2.1, u17.2.2.2.1, u17.2.2.2.2.1, V, S, u17.2.2.2.2.2))
      ((fX5_takesCandidates FU M Y (nI ln) (nI (st + 1)) val).bind fun u18 => (if u18.1 = 0 then some (0, u18.2.1, u18.2.2.1, u18.2.2.2) else (fX5_takes FU 59 Y (nI ln) u18.2.2.1).bind fun u21 => (if u21.1 = 0 then some (0, u18.2.1, u21.2, u18.2.2.2) else some (1, u18.2.1, u21.2, u18.2.2.2)))) := by
  unfold fX3_readCandidates fX5_takesCandidates
  have z1 : (1 : Int32).toInt = 1 := rfl
  rw [if_neg (show ¬ (0 : Int32) < M 0 by rw [t0]; decide)]
  rcases j_num ht (lo := 1) (hi := 8) (by omega) (by omega) (show st + 1 ≤ e by omega) h.2.1 h.nd val with ⟨q, hq, e1, e2⟩ | ⟨e1, t, sp, v, e2, e3, e4, e5, e6, e7, e8⟩
  · rw [e1, Option.bind_some, if_pos rfl, show fX5_takesNumber FU 1 8 Y (nI ln) (nI (st + 1)) val = _ from e2, Option.bind_some]
    dsimp only
    by_cases y : 1 ≤ q ∧ q ≤ 8
    · rw [nmb_1 y, if_neg (show ¬ nI q < 1 from nI_nlt (b := 1) (by omega) (by omega)), if_pos (show nI q ≤ 8 from nI_le (b := 8) y.2 (by omega)), q_begW, Option.bind_some, Option.bind_some, if_neg q_10, q_t33 y.2, Option.bind_some, if_neg b01_1]
      dsimp only
      rw [if_neg q_10]
      by_cases w : e < ln
      · rw [h.t1 ht w, Option.bind_some, if_neg q_10]
        refine IO_yes w (Or.inr ⟨q, 0, 3, fun _ => 0, fun _ => 0, fun i => i, ?_⟩)
        have rk : ∀ j, ¬ (24 ≤ j ∧ j < 24 + q) → rkM q q (upd M 0 (nI q)) j = upd M 0 (nI q) j := fun j hj => by unfold rkM; rw [if_neg hj]
        refine ⟨⟨y.1, y.2, by omega, by omega, by omega, Nat.pos_of_ne_zero (by simp)⟩, ⟨rfl, rfl, rfl, rfl⟩, ⟨by rw [rk 0 (by omega), q_upi], by rw [rk 1 (by omega), q_upn _ _ (by omega)]; exact t1, by rw [rk 22 (by omega), q_upn _ _ (by omega)]; exact t22, by rw [rk 23 (by omega), q_upn _ _ (by omega)]; exact t23⟩, fun j hj => absurd hj (by omega), fun j hj => absurd hj (by omega), Nat.zero_le _, fun i hi => ⟨fa_fill_in (by omega), ?_, hi⟩, fun i j _ _ e => e⟩
        unfold rkM
        rw [if_pos (by omega), show 24 + i - 24 = i by omega]
      · have we : e = ln := by have := h.2.1; omega
        rw [h.t0 ht we, Option.bind_some, if_pos rfl]
        exact IO_e we
    · rw [nmb_0 y, if_pos rfl, Option.bind_some]
      dsimp only
      rw [if_pos rfl]
      by_cases w : q < 1
      · rw [if_pos (show nI q < 1 from nI_lt (b := 1) w (by omega)), Option.bind_some, if_neg b01_0]; exact IO_no
      · rw [if_neg (show ¬ nI q < 1 from nI_nlt (b := 1) (by omega) (by omega)), if_neg (show ¬ nI q ≤ 8 from nI_ge (a := 8) (by omega) (by omega)), Option.bind_some, if_neg b01_0]; exact IO_no
  · rw [e1, Option.bind_some, if_pos rfl, if_pos (show (-1 : Int32) < 1 by decide), Option.bind_some, if_neg b01_0, show fX5_takesNumber FU 1 8 Y (nI ln) (nI (st + 1)) val = _ from e2, Option.bind_some]
    dsimp only
    rcases e3 with rfl | rfl
    · rw [if_pos rfl, Option.bind_some]
      dsimp only
      rw [if_pos rfl]; exact IO_no
    · have w := e5.resolve_left (by decide)
      rw [if_neg q_10, q_t33 (e8 rfl).2, Option.bind_some]
      dsimp only
      rw [if_neg q_10, h.ti ht (by omega) w, Option.bind_some, if_pos rfl]; exact IO_no
/-- k: seats -/
theorem i_seats (ht : TX ln X Y x) {st e : Nat} (h : AN ln x st e) (hs : st < e) {cd bl ss wd : Int32} {R V S M : Nat → Int32} {n b k : Nat} {v s r : Nat → Nat} (hc : CR cd bl ss wd V S R M n b k 0 v s r) (val : Int32) :
    IO e ln ((fX3_readSeats FU (nI (st + 1)) (nI e) X ss).bind fun u10 => if ¬ (u10.1 = 0 ∨ u10.1 = 1) then none else some (u10.1, cd, bl, u10.2, wd, V, S, R))
      ((fX5_takesSeats FU M Y (nI ln) (nI (st + 1)) val).bind fun u11 => (if u11.1 = 0 then some (0, u11.2.1, u11.2.2.1, u11.2.2.2) else (fX5_takes FU 59 Y (nI ln) u11.2.2.1).bind fun u14 => (if u14.1 = 0 then some (0, u11.2.1, u14.2, u11.2.2.2) else some (1, u11.2.1, u14.2, u11.2.2.2)))) := by
  unfold fX3_readSeats fX5_takesSeats
  rcases j_num ht (lo := 1) (hi := 8) (by omega) (by omega) (show st + 1 ≤ e by omega) h.2.1 h.nd val with ⟨q, hq, e1, e2⟩ | ⟨e1, t, sp, v', e2, e3, e4, e5, e6, e7, e8⟩
  · rw [e1, Option.bind_some, show fX5_takesNumber FU 1 8 Y (nI ln) (nI (st + 1)) val = _ from e2, Option.bind_some]
    dsimp only
    by_cases y : 1 ≤ q ∧ q ≤ 8
    · rw [nmb_1 y, if_neg (show ¬ nI q < 1 from nI_nlt (b := 1) (by omega) (by omega)), if_pos (show nI q ≤ 8 from nI_le (b := 8) y.2 (by omega)), if_neg b01_1, Option.bind_some, Option.bind_some, if_neg b01_1]
      dsimp only
      rw [if_neg q_10]
      by_cases w : e < ln
      · rw [h.t1 ht w, Option.bind_some, if_neg q_10]
        exact IO_yes w (Or.inr ⟨n, b, q, v, s, r, CR_seats hc y.1 y.2⟩)
      · have we : e = ln := by have := h.2.1; omega
        rw [h.t0 ht we, Option.bind_some, if_pos rfl]
        exact IO_e we
    · rw [nmb_0 y, if_neg b01_0, Option.bind_some]
      dsimp only
      rw [if_pos rfl]
      by_cases w : q < 1
      · rw [if_pos (show nI q < 1 from nI_lt (b := 1) w (by omega)), Option.bind_some, if_neg b01_0]; exact IO_no
      · rw [if_neg (show ¬ nI q < 1 from nI_nlt (b := 1) (by omega) (by omega)), if_neg (show ¬ nI q ≤ 8 from nI_ge (a := 8) (by omega) (by omega)), Option.bind_some, if_neg b01_0]; exact IO_no
  · rw [e1, Option.bind_some, if_pos (show (-1 : Int32) < 1 by decide), Option.bind_some, if_neg b01_0, show fX5_takesNumber FU 1 8 Y (nI ln) (nI (st + 1)) val = _ from e2, Option.bind_some]
    dsimp only
    rcases e3 with rfl | rfl
    · rw [if_neg b01_0, Option.bind_some]
      dsimp only
      rw [if_pos rfl]; exact IO_no
    · have w := e5.resolve_left (by decide)
      rw [if_neg b01_1, Option.bind_some]
      dsimp only
      rw [if_neg q_10, h.ti ht (by omega) w, Option.bind_some, if_pos rfl]; exact IO_no
/-- o: the rank -/
theorem i_rank (ht : TX ln X Y x) {st e : Nat} (h : AN ln x st e) (hs : st < e) {cd bl ss wd : Int32} {R V S M : Nat → Int32} {n b k : Nat} {v s r : Nat → Nat} (hc : CR cd bl ss wd V S R M n b k 0 v s r) (val : Int32) :
    IO e ln ((fX3_readRank FU (nI (st + 1)) (nI e) X cd R).bind fun u14 => if ¬ (u14.1 = 0 ∨ u14.1 = 1) then none else some (u14.1, cd, bl, ss, wd, V, S, u14.2))
      ((fX5_takesRank FU M Y (nI ln) (nI (st + 1))).bind fun u26 => (if u26.1 = 0 then some (0, u26.2.1, u26.2.2, val) else (fX5_takes FU 59 Y (nI ln) u26.2.2).bind fun u29 => (if u29.1 = 0 then some (0, u26.2.1, u29.2, val) else some (1, u26.2.1, u29.2, val)))) := by
  have hF := FU_e
  have hln := ht.1
  have hn := hc.1.2.1
  have he := h.2.1
  unfold fX3_readRank fX5_takesRank
  rw [hc.2.1.1, q_subn (show st + 1 ≤ e by omega)]
  by_cases y : e = st + 1 + n
  · rw [if_pos (show nI (e - (st + 1)) = nI n by congr 1; omega)]
    rcases j_rank ht hn h.2.1 y n FU FU 0 0 R M (fun _ => 0) (by omega) (by omega) (by omega) hc.2.2.1.1 (Nat.pos_of_ne_zero (by simp)) (fun j hj => absurd hj (by omega)) (fun j l hj => absurd hj (by omega)) with ⟨R', M', rr, h1, h2, h3, h4, h5⟩ | ⟨R', M', sp, h1, h2⟩
    · rw [show fX3_readRank_b18 FU FU (nI (st + 1)) 0 0 X (nI n) R = _ from h1, show fX5_takesRank_b4 FU FU 0 0 M Y (nI ln) (nI (st + 1)) = _ from h2, Option.bind_some, Option.bind_some, if_neg b01_1]
      dsimp only
      rw [if_neg q_10]
      by_cases w : e < ln
      · rw [h.t1 ht w, Option.bind_some, if_neg q_10]
        have := CR_rank hc h5 h3 h4
        rw [hc.2.1.1] at this
        exact IO_yes w (Or.inr ⟨n, b, k, v, s, rr, this⟩)
      · have we : e = ln := by omega
        rw [h.t0 ht we, Option.bind_some, if_pos rfl]
        exact IO_e we
    · rw [show fX3_readRank_b18 FU FU (nI (st + 1)) 0 0 X (nI n) R = _ from h1, show fX5_takesRank_b4 FU FU 0 0 M Y (nI ln) (nI (st + 1)) = _ from h2, Option.bind_some, Option.bind_some, if_neg b01_0]
      dsimp only
      rw [if_pos rfl]; exact IO_no
  · rw [if_neg (show ¬ nI (e - (st + 1)) = nI n from fun q => by have := (nI_eq (by omega) (by omega)).mp q; omega), Option.bind_some, if_neg b01_0]
    obtain ⟨t, M', sp, h1, h2⟩ := r_rank ht hn h.2.1 h.nn (p := st + 1) n FU 0 0 M (by omega) (by omega) (by omega) hc.2.2.1.1
    rw [show fX5_takesRank_b4 FU FU 0 0 M Y (nI ln) (nI (st + 1)) = _ from h1, Option.bind_some]
    dsimp only
    rcases h2 with rfl | ⟨rfl, rfl, w⟩
    · rw [if_pos rfl]; exact IO_no
    · rw [if_neg q_10, h.ti ht (by omega) (by omega), Option.bind_some, if_pos rfl]; exact IO_no
end TG
