/-! pure rows: the text, read by both -/
def TX (ln : Nat) (X Y : Nat → Int32) (x : Nat → Nat) : Prop := ln ≤ 200 ∧ ∀ i, i < ln → X i = nI (x i) ∧ Y i = nI (x i) ∧ 32 ≤ x i ∧ x i ≤ 126
def dg (ln : Nat) (x : Nat → Nat) (i : Nat) : Prop := i < ln ∧ 48 ≤ x i ∧ x i ≤ 57
def nm (n ln : Nat) (x : Nat → Nat) (i : Nat) : Prop := i < ln ∧ 97 ≤ x i ∧ x i < 97 + n
theorem q_subn {a b : Nat} (h : b ≤ a) : nI a - nI b = nI (a - b) := by
  obtain ⟨c, rfl⟩ : ∃ c, a = c + b := ⟨a - b, by omega⟩
  rw [← nI_add, Int32.add_sub_cancel]
  congr 1
  omega
theorem q_m97 {a : Nat} (h : a ≤ 126) : (nI a - 97).toInt = (a : Int) - 97 := by
  rw [show (97 : Int32) = nI 97 from rfl]
  rcases (show 97 ≤ a ∨ a < 97 by omega) with z | z
  · rw [q_subn z, nI_toInt (by omega)]; omega
  · have e : nI a - nI 97 = -(nI (97 - a)) := by
      rw [← q_subn (show a ≤ 97 by omega), Int32.neg_sub]
    rw [e, Int32.toInt_neg, nI_toInt (by omega)]
    have : Int.bmod (-((97 - a : Nat) : Int)) (2 ^ 32) = -((97 - a : Nat) : Int) := by
      apply Int.bmod_eq_of_le <;> omega
    rw [this]; omega
theorem q_s97 {a : Nat} (h : 97 ≤ a) : nI a - 97 = nI (a - 97) := q_subn (b := 97) h
theorem q_m48 {a : Nat} (h : a ≤ 126) : (nI a - 48).toInt = (a : Int) - 48 := by
  rw [show (48 : Int32) = nI 48 from rfl]
  rcases (show 48 ≤ a ∨ a < 48 by omega) with z | z
  · rw [q_subn z, nI_toInt (by omega)]; omega
  · have e : nI a - nI 48 = -(nI (48 - a)) := by
      rw [← q_subn (show a ≤ 48 by omega), Int32.neg_sub]
    rw [e, Int32.toInt_neg, nI_toInt (by omega)]
    have : Int.bmod (-((48 - a : Nat) : Int)) (2 ^ 32) = -((48 - a : Nat) : Int) := by
      apply Int.bmod_eq_of_le <;> omega
    rw [this]; omega
section TE
variable {ln : Nat} {X Y : Nat → Int32} {x : Nat → Nat}
theorem t_at (h : TX ln X Y x) {i : Nat} (hi : i < 1000) : fX5_letterAt FU (nI i) Y (nI ln) = some (if i < ln then nI (x i) else -4) := by
  have := h.1
  unfold fX5_letterAt
  by_cases z : i < ln
  · rw [if_neg (nI_ge z (by omega)), if_neg (nI_in (by omega) (by omega)), nI_clamp (by omega), if_pos z, (h.2 i z).2.1]
  · rw [if_pos (nI_le (by omega) (by omega)), if_neg z]
theorem t_in (h : TX ln X Y x) (i : Nat) (lo hi : Nat) (h1 : lo < 2 ^ 31) (h2 : hi < 2 ^ 31) (a b : Int32) (ea : a.toInt = lo) (eb : b.toInt = hi) : fX5_in FU (if i < ln then nI (x i) else -4) a b = some (if i < ln ∧ lo ≤ x i ∧ x i ≤ hi then 1 else 0) := by
  rw [q_in2, ea, eb]
  by_cases z : i < ln
  · have := (h.2 i z).2.2
    rw [if_pos z, nI_toInt (by omega)]
    by_cases y : lo ≤ x i ∧ x i ≤ hi
    · rw [if_pos (by omega), if_pos ⟨z, y⟩]
    · rw [if_neg (by omega), if_neg (fun e => y e.2)]
  · rw [if_neg z, if_neg (fun e => by rw [show (-4 : Int32).toInt = -4 from rfl] at e; omega), if_neg (fun e => z e.1)]
theorem t_tk (h : TX ln X Y x) {i z : Nat} (hi : i < 1000) (hz : z < 2 ^ 31) : fX5_takes FU (nI z) Y (nI ln) (nI i) = some (if i < ln ∧ x i = z then (1, nI (i + 1)) else (0, nI i)) := by
  unfold fX5_takes
  rw [t_at h hi, Option.bind_some]
  by_cases y : i < ln ∧ x i = z
  · rw [if_pos y.1, if_pos (by rw [y.2]), if_pos y, fX5_takes_b17, if_neg q_10, if_neg (by decide), nI_1]
  · rw [if_neg y]
    have : ¬ (if i < ln then nI (x i) else (-4 : Int32)) = nI z := fun e => by
      by_cases q : i < ln
      · have := (h.2 i q).2.2
        rw [if_pos q] at e
        exact y ⟨q, (nI_eq (by omega) hz).mp e⟩
      · rw [if_neg q] at e
        have := congrArg Int32.toInt e
        rw [nI_toInt hz, show (-4 : Int32).toInt = -4 from rfl] at this
        omega
    rw [if_neg this, fX5_takes_b17, if_pos rfl, if_neg (by decide), show nI i + 0 = nI i from nI_add i 0]
/-- numbers -/
theorem q_v10 {a c : Nat} (h : 48 ≤ c) : (10 : Int32) * nI a + nI c - 48 = nI (10 * a + (c - 48)) := by
  rw [show (10 : Int32) * nI a = nI (10 * a) from (pk_mul 10 a), nI_add, show (48 : Int32) = nI 48 from rfl, q_subn (by omega)]
  congr 1; omega
def nmb (lo hi q : Nat) : Int32 := if lo ≤ q ∧ q ≤ hi then 1 else 0
theorem t_75 {lo hi p q v : Nat} (hl : lo < 1000) (hh : hi < 1000) (hp : p < q) (hq : q < 1000) (hv : v < 1000) : fX5_takesNumber_b75 FU (nI lo) (nI hi) (nI p) (nI q) (nI v) = some (nmb lo hi v, nI q, nI v) := by
  unfold fX5_takesNumber_b75 nmb
  rw [if_neg (nI_ge hp (by omega)), q_in2, nI_toInt (by omega), nI_toInt (by omega), nI_toInt (by omega), Option.bind_some]
  by_cases z : lo ≤ v ∧ v ≤ hi
  · rw [if_pos z, if_pos (show (lo : Int) ≤ (v : Int) ∧ (v : Int) ≤ (hi : Int) by omega), if_neg q_10]
  · rw [if_neg z, if_neg (show ¬ ((lo : Int) ≤ (v : Int) ∧ (v : Int) ≤ (hi : Int)) by omega), if_pos rfl]
theorem t_num (h : TX ln X Y x) {lo hi p : Nat} (hl : lo < 1000) (hh : hi < 1000) (hp : p ≤ ln) (val : Int32) :
    (¬ dg ln x p ∧ fX5_takesNumber FU (nI lo) (nI hi) Y (nI ln) (nI p) val = some (0, nI p, nI 0)) ∨
    (dg ln x p ∧ ¬ dg ln x (p + 1) ∧ fX5_takesNumber FU (nI lo) (nI hi) Y (nI ln) (nI p) val = some (nmb lo hi (x p - 48), nI (p + 1), nI (x p - 48))) ∨
    (dg ln x p ∧ dg ln x (p + 1) ∧ fX5_takesNumber FU (nI lo) (nI hi) Y (nI ln) (nI p) val = some (nmb lo hi (10 * (x p - 48) + (x (p + 1) - 48)), nI (p + 2), nI (10 * (x p - 48) + (x (p + 1) - 48)))) := by
  have hln := h.1
  unfold fX5_takesNumber
  have hF : FU = 509 + 1 + 1 + 1 := rfl
  have hb : ∀ N f : Nat, FU = N → fX5_takesNumber_b10 FU N (nI lo) (nI hi) (nI p) Y (nI ln) (nI p) 0 = fX5_takesNumber_b10 FU FU (nI lo) (nI hi) (nI p) Y (nI ln) (nI p) 0 := fun N _ e => by rw [e]
  rw [← hb (509 + 1 + 1 + 1) 0 hF]
  have st : ∀ (i f v : Nat), i < 1000 → (¬ dg ln x i → fX5_takesNumber_b10 FU (f + 1) (nI lo) (nI hi) (nI p) Y (nI ln) (nI i) (nI v) = fX5_takesNumber_b75 FU (nI lo) (nI hi) (nI p) (nI i) (nI v)) := fun i f v hi z => by
    rw [fX5_takesNumber_b10, t_at h hi, Option.bind_some, t_in h i 48 57 (by omega) (by omega) 48 57 rfl rfl, Option.bind_some, if_neg (show ¬ (i < ln ∧ 48 ≤ x i ∧ x i ≤ 57) from z), if_pos rfl]
  have sp : ∀ (i f v : Nat), dg ln x i → i < p + 2 → fX5_takesNumber_b10 FU (f + 1) (nI lo) (nI hi) (nI p) Y (nI ln) (nI i) (nI v) = fX5_takesNumber_b10 FU f (nI lo) (nI hi) (nI p) Y (nI ln) (nI (i + 1)) (nI (10 * v + (x i - 48))) := fun i f v z hi => by
    have := z.1
    rw [fX5_takesNumber_b10, t_at h (by omega), Option.bind_some, t_in h i 48 57 (by omega) (by omega) 48 57 rfl rfl, Option.bind_some, if_pos (show (i < ln ∧ 48 ≤ x i ∧ x i ≤ 57) from z), if_neg q_10, show nI p + 2 = nI (p + 2) from nI_add p 2, if_neg (nI_ge (by omega) (by omega)), if_neg (nI_in (by omega) (by omega)), nI_clamp (by omega), (h.2 i this).2.1, q_v10 z.2.1, nI_1]
  have sx : ∀ (f v : Nat), p + 2 < 1000 → fX5_takesNumber_b10 FU (f + 1) (nI lo) (nI hi) (nI p) Y (nI ln) (nI (p + 2)) (nI v) = fX5_takesNumber_b75 FU (nI lo) (nI hi) (nI p) (nI (p + 2)) (nI v) := fun f v hi => by
    by_cases z : dg ln x (p + 2)
    · rw [fX5_takesNumber_b10, t_at h (by omega), Option.bind_some, t_in h (p + 2) 48 57 (by omega) (by omega) 48 57 rfl rfl, Option.bind_some, if_pos (show (p + 2 < ln ∧ 48 ≤ x (p + 2) ∧ x (p + 2) ≤ 57) from z), if_neg q_10, show nI p + 2 = nI (p + 2) from nI_add p 2, if_pos (nI_le (by omega) (by omega))]
    · exact st (p + 2) f v hi z
  rw [show (0 : Int32) = nI 0 from rfl]
  by_cases z1 : dg ln x p
  · rw [sp p _ 0 z1 (by omega)]
    have hx := z1.2
    by_cases z2 : dg ln x (p + 1)
    · have hx2 := z2.2
      rw [sp (p + 1) _ _ z2 (by omega), sx _ _ (by omega), t_75 hl hh (by omega) (by omega) (by omega)]
      refine Or.inr (Or.inr ⟨z1, z2, ?_⟩)
      rw [show 10 * 0 + (x p - 48) = x p - 48 by omega]
    · rw [st (p + 1) _ _ (by omega) z2, t_75 hl hh (by omega) (by omega) (by omega)]
      refine Or.inr (Or.inl ⟨z1, z2, ?_⟩)
      rw [show 10 * 0 + (x p - 48) = x p - 48 by omega]
  · refine Or.inl ⟨z1, ?_⟩
    rw [st p _ 0 (by omega) z1, fX5_takesNumber_b75, if_pos (nI_le (by omega) (by omega))]
    rfl
theorem c_num (h : TX ln X Y x) {p e : Nat} (hpe : p ≤ e) (he : e ≤ ln) : ∃ z, fX3_number FU (nI p) (nI e) X = some z ∧ (e = p + 1 → dg ln x p → z = nI (x p - 48)) ∧ (e = p + 2 → dg ln x p → dg ln x (p + 1) → z = nI (10 * (x p - 48) + (x (p + 1) - 48))) ∧ (¬ (e = p + 1 ∧ dg ln x p) → ¬ (e = p + 2 ∧ dg ln x p ∧ dg ln x (p + 1)) → z = -1) := by
  have hln := h.1
  unfold fX3_number
  rw [q_subn hpe]
  have hF : FU = 509 + 1 + 1 + 1 := rfl
  have hb : ∀ N : Nat, FU = N → fX3_number_b21 FU N (nI e) 0 (nI p) X = fX3_number_b21 FU FU (nI e) 0 (nI p) X := fun N e => by rw [e]
  rw [← hb (509 + 1 + 1 + 1) hF]
  have sn : ∀ (i f : Nat) (v : Int32), i < e → ¬ dg ln x i → fX3_number_b21 FU (f + 1) (nI e) v (nI i) X = some (-1) := fun i f v hi z => by
    have hx := h.2 i (by omega)
    rw [fX3_number_b21, if_neg (nI_ge (by omega) (by omega)), if_neg (nI_in (by omega) (by omega)), nI_clamp (by omega), hx.1]
    have m := q_m48 hx.2.2.2
    by_cases y : x i < 48
    · rw [if_pos (by rw [fa_lt, m, show (0 : Int32).toInt = 0 from rfl]; omega)]
    · rw [if_neg (by rw [fa_lt, m, show (0 : Int32).toInt = 0 from rfl]; omega), if_neg (fun q => by rw [fa_le, m, show (9 : Int32).toInt = 9 from rfl] at q; exact z ⟨by omega, by omega, by omega⟩)]
  have sp : ∀ (i f v : Nat), i < e → dg ln x i → fX3_number_b21 FU (f + 1) (nI e) (nI v) (nI i) X = fX3_number_b21 FU f (nI e) (nI (10 * v + (x i - 48))) (nI (i + 1)) X := fun i f v hi z => by
    have hx := h.2 i (by omega)
    have m := q_m48 hx.2.2.2
    have := z.2
    rw [fX3_number_b21, if_neg (nI_ge (by omega) (by omega)), if_neg (nI_in (by omega) (by omega)), nI_clamp (by omega), hx.1, if_neg (by rw [fa_lt, m, show (0 : Int32).toInt = 0 from rfl]; omega), if_pos (by rw [fa_le, m, show (9 : Int32).toInt = 9 from rfl]; omega), nI_1, show nI v * 10 = nI (v * 10) from pk_mul v 10, show nI (x i) - 48 = nI (x i - 48) from q_subn (b := 48) this.1, nI_add, Nat.mul_comm v 10]
  have s0 : ∀ (f : Nat) (v : Int32), fX3_number_b21 FU (f + 1) (nI e) v (nI e) X = some v := fun f v => by
    rw [fX3_number_b21, if_pos (nI_le (by omega) (by omega))]
  rcases (show e = p ∨ e = p + 1 ∨ e = p + 2 ∨ p + 2 < e by omega) with z | z | z | z
  · rw [if_pos (show nI (e - p) < 1 from nI_lt (b := 1) (by omega) (by omega))]
    exact ⟨_, rfl, fun q => by omega, fun q => by omega, fun _ _ => rfl⟩
  · rw [if_neg (show ¬ nI (e - p) < 1 from nI_nlt (b := 1) (by omega) (by omega)), if_pos (show nI (e - p) ≤ 2 from nI_le (b := 2) (by omega) (by omega)), show (0 : Int32) = nI 0 from rfl]
    by_cases y : dg ln x p
    · rw [sp p _ 0 (by omega) y, ← z, s0]
      exact ⟨_, rfl, fun _ _ => by congr 1; omega, fun q => by omega, fun q _ => absurd ⟨rfl, y⟩ q⟩
    · rw [sn p _ _ (by omega) y]
      exact ⟨_, rfl, fun _ q => absurd q y, fun q => by omega, fun _ _ => rfl⟩
  · rw [if_neg (show ¬ nI (e - p) < 1 from nI_nlt (b := 1) (by omega) (by omega)), if_pos (show nI (e - p) ≤ 2 from nI_le (b := 2) (by omega) (by omega)), show (0 : Int32) = nI 0 from rfl]
    by_cases y : dg ln x p
    · rw [sp p _ 0 (by omega) y]
      by_cases w : dg ln x (p + 1)
      · rw [sp (p + 1) _ _ (by omega) w, show p + 1 + 1 = e by omega, s0]
        exact ⟨_, rfl, fun q => by omega, fun _ _ _ => by congr 1; omega, fun _ q => absurd ⟨rfl, y, w⟩ q⟩
      · rw [sn (p + 1) _ _ (by omega) w]
        exact ⟨_, rfl, fun q => by omega, fun _ _ q => absurd q w, fun _ _ => rfl⟩
    · rw [sn p _ _ (by omega) y]
      exact ⟨_, rfl, fun _ q => absurd q y, fun _ q => absurd q y, fun _ _ => rfl⟩
  · rw [if_neg (show ¬ nI (e - p) < 1 from nI_nlt (b := 1) (by omega) (by omega)), if_neg (show ¬ nI (e - p) ≤ 2 from nI_ge (a := 2) (by omega) (by omega))]
    exact ⟨_, rfl, fun q => by omega, fun q => by omega, fun _ _ => rfl⟩
/-- a number, by both -/
theorem j_num (h : TX ln X Y x) {lo hi p e : Nat} (hl : lo < 1000) (hh : hi < 1000) (hpe : p ≤ e) (he : e ≤ ln) (hd : ¬ dg ln x e) (val : Int32) :
    (∃ q, q < 100 ∧ fX3_number FU (nI p) (nI e) X = some (nI q) ∧ fX5_takesNumber FU (nI lo) (nI hi) Y (nI ln) (nI p) val = some (nmb lo hi q, nI e, nI q)) ∨
    (fX3_number FU (nI p) (nI e) X = some (-1) ∧ ∃ (t : Int32) (sp v : Nat), fX5_takesNumber FU (nI lo) (nI hi) Y (nI ln) (nI p) val = some (t, nI sp, nI v) ∧ (t = 0 ∨ t = 1) ∧ p ≤ sp ∧ (t = 0 ∨ sp < e) ∧ sp ≤ e ∧ v < 100 ∧ (t = 1 → lo ≤ v ∧ v ≤ hi)) := by
  obtain ⟨z, hz, z1, z2, z3⟩ := c_num h hpe he
  have b01 : ∀ a b c, nmb a b c = 0 ∨ nmb a b c = 1 := fun a b c => by unfold nmb; by_cases q : a ≤ b ∧ b ≤ c <;> simp only [ite_eq_left_iff, ite_eq_right_iff] <;> by_cases q : a ≤ c ∧ c ≤ b <;> simp [q]
  have b1 : ∀ a b c, nmb a b c = 1 → a ≤ c ∧ c ≤ b := fun a b c => by
    unfold nmb
    by_cases q : a ≤ c ∧ c ≤ b
    · exact fun _ => q
    · rw [if_neg q]; exact fun e => absurd e (by decide)
  rcases t_num h hl hh (show p ≤ ln by omega) val with ⟨n1, t1⟩ | ⟨y1, n2, t1⟩ | ⟨y1, y2, t1⟩
  · rw [hz, t1, z3 (fun q => n1 q.2) (fun q => n1 q.2.1)]
    exact Or.inr ⟨rfl, 0, p, 0, rfl, Or.inl rfl, Nat.le_refl _, Or.inl rfl, hpe, by omega, fun e => absurd e (by decide)⟩
  · have pe : ¬ p = e := fun q => hd (q ▸ y1)
    have := y1.2
    by_cases q : e = p + 1
    · rw [hz, t1, z1 q y1, q]
      exact Or.inl ⟨x p - 48, by omega, rfl, rfl⟩
    · rw [hz, t1, z3 (fun k => q k.1) (fun k => n2 k.2.2)]
      exact Or.inr ⟨rfl, _, p + 1, x p - 48, rfl, b01 _ _ _, by omega, Or.inr (by omega), by omega, by omega, b1 _ _ _⟩
  · have pe : ¬ p = e := fun q => hd (q ▸ y1)
    have pe2 : ¬ p + 1 = e := fun q => hd (q ▸ y2)
    have := y1.2
    have := y2.2
    by_cases q : e = p + 2
    · rw [hz, t1, z2 q y1 y2, q]
      exact Or.inl ⟨_, by omega, rfl, rfl⟩
    · rw [hz, t1, z3 (fun k => by omega) (fun k => q k.1)]
      exact Or.inr ⟨rfl, _, p + 2, _, rfl, b01 _ _ _, by omega, Or.inr (by omega), by omega, by omega, b1 _ _ _⟩
end TE
