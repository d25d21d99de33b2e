/-! pure rows: what can be undone -/
def CRx (cd bl st wd : Int32) (V S R T : Nat → Int32) : Prop := ∃ (n b k w : Nat) (v s r : Nat → Nat), CR cd bl st wd V S R T n b k w v s r
def uq {α : Type} (Q : Nat → α) (t : Nat) (x : α) : Nat → α := fun j => if j = t then x else Q j
theorem uq_i {α : Type} (Q : Nat → α) (t : Nat) (x : α) : uq Q t x t = x := by unfold uq; rw [if_pos rfl]
theorem uq_n {α : Type} (Q : Nat → α) {t j : Nat} (x : α) (h : ¬ j = t) : uq Q t x j = Q j := by unfold uq; rw [if_neg h]
theorem uq_s {α : Type} (Q : Nat → α) (t : Nat) : uq Q t (Q t) = Q := by
  funext j
  unfold uq
  by_cases z : j = t
  · rw [if_pos z, z]
  · rw [if_neg z]
def PR (tp sz : Int32) (Qc Qb Qk Qw : Nat → Int32) (Qv Qs Qr : Nat → Nat → Int32) (past : Nat → Int32) (ch : Int32) : Prop :=
  ∃ t z : Nat, t < 6 ∧ z ≤ 6 ∧ tp = nI t ∧ sz = nI z ∧ ch = nI z ∧ ∀ i, i < z → CRx (Qc ((t + 6 - z + i) % 6)) (Qb ((t + 6 - z + i) % 6)) (Qk ((t + 6 - z + i) % 6)) (Qw ((t + 6 - z + i) % 6)) (Qv ((t + 6 - z + i) % 6)) (Qs ((t + 6 - z + i) % 6)) (Qr ((t + 6 - z + i) % 6)) (fun j => past (32 * i + j))
theorem CRx_T {cd bl st wd : Int32} {V S R T T' : Nat → Int32} (h : CRx cd bl st wd V S R T) (e : ∀ j, j < 32 → T' j = T j) : CRx cd bl st wd V S R T' := by
  obtain ⟨n, b, k, w, v, s, r, h⟩ := h
  exact ⟨n, b, k, w, v, s, r, CR_copy h (fun _ _ => rfl) (fun _ _ => rfl) (fun _ _ => rfl) e⟩
/-- remembers -/
def pfl (past now : Nat → Int32) (z i : Nat) : Nat → Int32 := fun k => if 32 * z ≤ k ∧ k < 32 * z + i then now (k - 32 * z) else past k
theorem q_51 {z : Nat} (hz : z < 6) {now past : Nat → Int32} : ∀ (kk f i : Nat), i + kk = 32 → kk < f → fX5_remembers_b51 FU f (nI i) now (pfl past now z i) (nI z) = some (pfl past now z 32, nI (z + 1)) := by
  intro kk
  induction kk with
  | zero =>
    intro f i h1 h2
    obtain ⟨f, rfl, -⟩ := q_suc h2
    rw [fX5_remembers_b51, if_pos (show (32 : Int32) ≤ nI i from nI_le (a := 32) (by omega) (by omega)), show i = 32 by omega, fX5_remembers_b83, nI_1]
  | succ kk ih =>
    intro f i h1 h2
    obtain ⟨f, rfl, -⟩ := q_suc h2
    have hh := ih f (i + 1) (by omega) (by omega)
    have e : upd (pfl past now z i) (32 * z + i) (now i) = pfl past now z (i + 1) := by
      funext k
      by_cases y : k = 32 * z + i
      · rw [y, q_upi]; unfold pfl; rw [if_pos (by omega), show 32 * z + i - 32 * z = i by omega]
      · rw [q_upn _ _ y]; unfold pfl
        by_cases w : 32 * z ≤ k ∧ k < 32 * z + i
        · rw [if_pos w, if_pos (by omega)]
        · rw [if_neg w, if_neg (by omega)]
    rw [fX5_remembers_b51, if_neg (show ¬ (32 : Int32) ≤ nI i from nI_ge (b := 32) (by omega) (by omega)), if_neg (nI_in (by omega) (by omega)), show (32 : Int32) * nI z = nI (32 * z) from pk_mul 32 z, nI_add, if_neg (nI_in (by omega) (by omega)), nI_clamp (show i < 2 ^ 31 by omega), nI_clamp (by omega), nI_1, e]
    exact hh
def psh (past : Nat → Int32) (i : Nat) : Nat → Int32 := fun k => if k < i then past (k + 32) else past k
theorem q_b11 {now past : Nat → Int32} {ch : Int32} : ∀ (kk f i : Nat), i + kk = 160 → kk < f → fX5_remembers_b11 FU f (nI i) now (psh past i) ch = fX5_remembers_b49 FU now (psh past 160) (ch - 1) := by
  intro kk
  induction kk with
  | zero =>
    intro f i h1 h2
    obtain ⟨f, rfl, -⟩ := q_suc h2
    rw [fX5_remembers_b11, if_pos (show (160 : Int32) ≤ nI i from nI_le (a := 160) (by omega) (by omega)), show i = 160 by omega, fX5_remembers_b39]
  | succ kk ih =>
    intro f i h1 h2
    obtain ⟨f, rfl, -⟩ := q_suc h2
    have hh := ih f (i + 1) (by omega) (by omega)
    have e : upd (psh past i) i (psh past i (i + 32)) = psh past (i + 1) := by
      funext k
      by_cases y : k = i
      · rw [y, q_upi]; unfold psh; rw [if_neg (by omega), if_pos (by omega)]
      · rw [q_upn _ _ y]; unfold psh
        by_cases w : k < i
        · rw [if_pos w, if_pos (by omega)]
        · rw [if_neg w, if_neg (by omega)]
    rw [fX5_remembers_b11, if_neg (show ¬ (160 : Int32) ≤ nI i from nI_ge (b := 160) (by omega) (by omega)), show nI i + 32 = nI (i + 32) from nI_add i 32, if_neg (nI_in (by omega) (by omega)), if_neg (nI_in (by omega) (by omega)), nI_clamp (show i < 2 ^ 31 by omega), nI_clamp (by omega), nI_1, e]
    exact hh
theorem q_rem {z : Nat} (hz : z ≤ 6) (now past : Nat → Int32) : fX5_remembers FU now past (nI z) = some (if z = 6 then pfl (psh past 160) now 5 32 else pfl past now z 32, nI (if z = 6 then 6 else z + 1)) := by
  have hF := FU_e
  unfold fX5_remembers
  by_cases y : z = 6
  · rw [if_pos (show nI z = 6 by rw [y]; rfl), if_pos y, if_pos y, y]
    have h1 := q_b11 (now := now) (past := past) (ch := nI 6) 160 FU 0 (by omega) (by omega)
    rw [show psh past 0 = past from by funext k; unfold psh; rw [if_neg (by omega)]] at h1
    rw [show fX5_remembers_b11 FU FU 0 now past (nI 6) = _ from h1, fX5_remembers_b49]
    have h2 := q_51 (z := 5) (by omega) (now := now) (past := psh past 160) 32 FU 0 (by omega) (by omega)
    rw [show pfl (psh past 160) now 5 0 = psh past 160 from by funext k; unfold pfl; rw [if_neg (by omega)]] at h2
    exact h2
  · rw [if_neg (show ¬ nI z = 6 from fun q => y ((nI_eq (b := 6) (by omega) (by omega)).mp q)), if_neg y, if_neg y, fX5_remembers_b49]
    have h2 := q_51 (z := z) (by omega) (now := now) (past := past) 32 FU 0 (by omega) (by omega)
    rw [show pfl past now z 0 = past from by funext k; unfold pfl; rw [if_neg (by omega)]] at h2
    exact h2
theorem q_top : ∀ t, t < 6 → nI t + 1 - (nI t + 1) / 6 * 6 = nI ((t + 1) % 6) := by decide +kernel
theorem q_bot : ∀ t, t < 6 → nI t + 6 - 1 - (nI t + 6 - 1) / 6 * 6 = nI ((t + 5) % 6) := by decide +kernel
theorem q_siz : ∀ z, z < 7 → (if (6 : Int32) < nI z + 1 then (6 : Int32) else nI z + 1) = nI (if z = 6 then 6 else z + 1) := by decide +kernel
section PA
variable {tp sz ch cd bl st wd : Int32} {V S R now past : Nat → Int32} {Qc Qb Qk Qw : Nat → Int32} {Qv Qs Qr : Nat → Nat → Int32}
/-- what is kept, by both -/
theorem q_keep (hp : PR tp sz Qc Qb Qk Qw Qv Qs Qr past ch) (hc : CRx cd bl st wd V S R now) :
    ∃ (tp' sz' : Int32) (past' : Nat → Int32) (ch' : Int32), fX2_keep FU tp sz cd bl st wd V S R (Qc tp.toNatClampNeg) (Qb tp.toNatClampNeg) (Qk tp.toNatClampNeg) (Qw tp.toNatClampNeg) (Qv tp.toNatClampNeg) (Qs tp.toNatClampNeg) (Qr tp.toNatClampNeg) = some (tp', sz', cd, bl, st, wd, va_cpy V (Qv tp.toNatClampNeg) 0 0 11, va_cpy S (Qs tp.toNatClampNeg) 0 0 11, va_cpy R (Qr tp.toNatClampNeg) 0 0 8) ∧
      fX5_remembers FU now past ch = some (past', ch') ∧
      PR tp' sz' (uq Qc tp.toNatClampNeg cd) (uq Qb tp.toNatClampNeg bl) (uq Qk tp.toNatClampNeg st) (uq Qw tp.toNatClampNeg wd) (uq Qv tp.toNatClampNeg (va_cpy V (Qv tp.toNatClampNeg) 0 0 11)) (uq Qs tp.toNatClampNeg (va_cpy S (Qs tp.toNatClampNeg) 0 0 11)) (uq Qr tp.toNatClampNeg (va_cpy R (Qr tp.toNatClampNeg) 0 0 8)) past' ch' := by
  obtain ⟨t, z, ht, hz, rfl, rfl, rfl, hq⟩ := hp
  refine ⟨nI ((t + 1) % 6), nI (if z = 6 then 6 else z + 1), _, _, ?_, q_rem hz now past, ?_⟩
  · unfold fX2_keep fX0_copyFrom
    rw [if_neg (nI_in (by omega) (by omega)), Option.bind_some, q_top t ht, q_siz z (by omega)]
  · rw [nI_clamp (by omega)]
    have hc' : ∀ T', (∀ j, j < 32 → T' j = now j) → CRx cd bl st wd (va_cpy V (Qv t) 0 0 11) (va_cpy S (Qs t) 0 0 11) (va_cpy R (Qr t) 0 0 8) T' := fun T' e => by
      obtain ⟨n, b, k, w, v, s, r, h⟩ := hc
      exact ⟨n, b, k, w, v, s, r, CR_copy h (fun j hj => sb_cpy0 hj) (fun j hj => sb_cpy0 hj) (fun j hj => sb_cpy0 hj) e⟩
    by_cases y : z = 6
    · rw [if_pos y, if_pos y]
      refine ⟨(t + 1) % 6, 6, by omega, by omega, rfl, rfl, rfl, fun i hi => ?_⟩
      by_cases w : i = 5
      · rw [w, show ((t + 1) % 6 + 6 - 6 + 5) % 6 = t by omega, uq_i, uq_i, uq_i, uq_i, uq_i, uq_i, uq_i]
        refine hc' _ (fun j hj => ?_)
        unfold pfl
        rw [if_pos (by omega), show 32 * 5 + j - 32 * 5 = j by omega]
      · have ne : ¬ ((t + 1) % 6 + 6 - 6 + i) % 6 = t := by omega
        rw [uq_n _ _ ne, uq_n _ _ ne, uq_n _ _ ne, uq_n _ _ ne, uq_n _ _ ne, uq_n _ _ ne, uq_n _ _ ne, show ((t + 1) % 6 + 6 - 6 + i) % 6 = (t + 6 - z + (i + 1)) % 6 by omega]
        refine CRx_T (hq (i + 1) (by omega)) (fun j hj => ?_)
        unfold pfl psh
        rw [if_neg (by omega), if_pos (by omega), show 32 * i + j + 32 = 32 * (i + 1) + j by omega]
    · rw [if_neg y, if_neg y]
      refine ⟨(t + 1) % 6, z + 1, by omega, by omega, rfl, rfl, rfl, fun i hi => ?_⟩
      by_cases w : i = z
      · rw [w, show ((t + 1) % 6 + 6 - (z + 1) + z) % 6 = t by omega, uq_i, uq_i, uq_i, uq_i, uq_i, uq_i, uq_i]
        refine hc' _ (fun j hj => ?_)
        unfold pfl
        rw [if_pos (by omega), show 32 * z + j - 32 * z = j by omega]
      · have ne : ¬ ((t + 1) % 6 + 6 - (z + 1) + i) % 6 = t := by omega
        rw [uq_n _ _ ne, uq_n _ _ ne, uq_n _ _ ne, uq_n _ _ ne, uq_n _ _ ne, uq_n _ _ ne, uq_n _ _ ne, show ((t + 1) % 6 + 6 - (z + 1) + i) % 6 = (t + 6 - z + i) % 6 by omega]
        refine CRx_T (hq i (by omega)) (fun j hj => ?_)
        unfold pfl
        rw [if_neg (by omega)]
theorem PR_s (hp : PR tp sz Qc Qb Qk Qw Qv Qs Qr past ch) (t : Nat) : PR tp sz (uq Qc t (Qc t)) (uq Qb t (Qb t)) (uq Qk t (Qk t)) (uq Qw t (Qw t)) (uq Qv t (Qv t)) (uq Qs t (Qs t)) (uq Qr t (Qr t)) past ch := by
  rw [uq_s, uq_s, uq_s, uq_s, uq_s, uq_s, uq_s]; exact hp
end PA
/-- changes -/
theorem CR_vot {cd bl st wd : Int32} {V S R T : Nat → Int32} {n b k w : Nat} {v s r : Nat → Nat} (h : CR cd bl st wd V S R T n b k w v s r) {i q : Nat} (hi : i < b) (h1 : 1 ≤ q) (h2 : q ≤ 20) (h3 : fb_sm v b + q ≤ 40 + v i) : CR cd bl st wd (upd V i (nI q)) S R (upd T (2 + i) (nI q)) n b k w (fun j => if j = i then q else v j) s r := by
  obtain ⟨⟨a1, a2, a3, a4, a5, a6⟩, ⟨c1, c2, c3, c4⟩, ⟨t0, t1, t22, t23⟩, hV, hS, hs, hR, inj⟩ := h
  have ad : ∀ j, ¬ j = 2 + i → upd T (2 + i) (nI q) j = T j := fun j z => q_upn _ _ z
  refine ⟨⟨a1, a2, by omega, a4, a5, a6⟩, ⟨c1, c2, c3, c4⟩, ⟨by rw [ad 0 (by omega)]; exact t0, by rw [ad 1 (by omega)]; exact t1, by rw [ad 22 (by omega)]; exact t22, by rw [ad 23 (by omega)]; exact t23⟩, fun j hj => ?_, fun j hj => by rw [ad (12 + j) (by omega)]; exact hS j hj, ?_, fun i hi => by rw [ad (24 + i) (by omega)]; exact hR i hi, inj⟩
  · by_cases z : j = i
    · rw [z, q_upi, q_upi]; simp only [if_true]; exact ⟨trivial, trivial, h1, h2⟩
    · rw [q_upn _ _ z, ad (2 + j) (by omega)]; simp only [if_neg z]; exact hV j hj
  · have := fb_sm_upd v q (i := i) (n := b) hi
    omega
theorem CR_set {cd bl st wd : Int32} {V S R T : Nat → Int32} {n b k w : Nat} {v s r : Nat → Nat} (h : CR cd bl st wd V S R T n b k w v s r) {i q : Nat} (hi : i < b) (h1 : 1 ≤ q) (h2 : q < 2 ^ n) : CR cd bl st wd V (upd S i (nI q)) R (upd T (12 + i) (nI q)) n b k w v (fun j => if j = i then q else s j) r := by
  obtain ⟨⟨a1, a2, a3, a4, a5, a6⟩, ⟨c1, c2, c3, c4⟩, ⟨t0, t1, t22, t23⟩, hV, hS, hs, hR, inj⟩ := h
  have ad : ∀ j, ¬ j = 12 + i → upd T (12 + i) (nI q) j = T j := fun j z => q_upn _ _ z
  refine ⟨⟨a1, a2, by omega, a4, a5, a6⟩, ⟨c1, c2, c3, c4⟩, ⟨by rw [ad 0 (by omega)]; exact t0, by rw [ad 1 (by omega)]; exact t1, by rw [ad 22 (by omega)]; exact t22, by rw [ad 23 (by omega)]; exact t23⟩, fun j hj => by rw [ad (2 + j) (by omega)]; exact hV j hj, fun j hj => ?_, hs, fun i hi => by rw [ad (24 + i) (by omega)]; exact hR i hi, inj⟩
  by_cases z : j = i
  · rw [z, q_upi, q_upi]; simp only [if_true]; exact ⟨trivial, trivial, h1, h2⟩
  · rw [q_upn _ _ z, ad (12 + j) (by omega)]; simp only [if_neg z]; exact hS j hj
theorem CR_gone {cd bl st wd : Int32} {V S R T : Nat → Int32} {n b k w : Nat} {v s r : Nat → Nat} (h : CR cd bl st wd V S R T n b k w v s r) {q : Nat} (h2 : q < 2 ^ n) : CR cd bl st (nI q) V S R (upd T 23 (nI q)) n b k q v s r := by
  obtain ⟨⟨a1, a2, a3, a4, a5, a6⟩, ⟨c1, c2, c3, c4⟩, ⟨t0, t1, t22, t23⟩, hV, hS, hs, hR, inj⟩ := h
  have ad : ∀ j, ¬ j = 23 → upd T 23 (nI q) j = T j := fun j z => q_upn _ _ z
  exact ⟨⟨a1, a2, by omega, a4, a5, h2⟩, ⟨c1, c2, c3, rfl⟩, ⟨by rw [ad 0 (by omega)]; exact t0, by rw [ad 1 (by omega)]; exact t1, by rw [ad 22 (by omega)]; exact t22, q_upi _ _ _⟩, fun j hj => by rw [ad (2 + j) (by omega)]; exact hV j hj, fun j hj => by rw [ad (12 + j) (by omega)]; exact hS j hj, hs, fun i hi => by rw [ad (24 + i) (by omega)]; exact hR i hi, inj⟩
