/-! pure rows: fuel, sums, bits -/
def FU : Nat := 512
theorem FU_e : FU = 512 := rfl
theorem q_suc {n k : Nat} (h : k < n) : ∃ q, n = q + 1 ∧ k ≤ q := ⟨n - 1, by omega, by omega⟩
theorem q_ck {i K : Nat} (h : i < K) (hi : i < 2 ^ 31) : ¬ (nI i < 0 ∨ K ≤ i) := by
  rintro (q | q)
  · exact nI_pos hi q
  · omega
theorem q_add2 (i : Nat) : (2 : Int32) + nI i = nI (2 + i) := nI_add 2 i
theorem q_add12 (i : Nat) : (12 : Int32) + nI i = nI (12 + i) := nI_add 12 i
theorem q_add24 (i : Nat) : (24 : Int32) + nI i = nI (24 + i) := nI_add 24 i
/-- a sum of Int32 -/
def smI (g : Nat → Int32) : Nat → Int32
  | 0 => 0
  | n + 1 => smI g n + g n
theorem smI_s (g : Nat → Int32) (n : Nat) : smI g (n + 1) = smI g n + g n := rfl
theorem smI_cong {g h : Nat → Int32} : ∀ {n : Nat}, (∀ j, j < n → g j = h j) → smI g n = smI h n
  | 0, _ => rfl
  | n + 1, e => by rw [smI_s, smI_s, smI_cong (fun j hj => e j (by omega)), e n (by omega)]
/-- a sum of Int64 over a start -/
def smL (u : Int64) (g : Nat → Int64) : Nat → Int64
  | 0 => u
  | n + 1 => smL u g n + g n
theorem smL_s (u : Int64) (g : Nat → Int64) (n : Nat) : smL u g (n + 1) = smL u g n + g n := rfl
theorem smL_cong {u : Int64} {g h : Nat → Int64} : ∀ {n : Nat}, (∀ j, j < n → g j = h j) → smL u g n = smL u h n
  | 0, _ => rfl
  | n + 1, e => by rw [smL_s, smL_s, smL_cong (fun j hj => e j (by omega)), e n (by omega)]
/-- a union of Int32 -/
def orI (g : Nat → Int32) : Nat → Int32
  | 0 => 0
  | n + 1 => orI g n ||| g n
theorem orI_s (g : Nat → Int32) (n : Nat) : orI g (n + 1) = orI g n ||| g n := rfl
theorem orI_cong {g h : Nat → Int32} : ∀ {n : Nat}, (∀ j, j < n → g j = h j) → orI g n = orI h n
  | 0, _ => rfl
  | n + 1, e => by rw [orI_s, orI_s, orI_cong (fun j hj => e j (by omega)), e n (by omega)]
/-- has a bit -/
def hb (x i : Int32) : Prop := ((x >>> (i &&& 31)) &&& (1 : Int32)) = (1 : Int32)
theorem q_hasBit (N : Nat) (x i : Int32) : fX4_hasBit N x i = some (if ((x >>> (i &&& 31)) &&& (1 : Int32)) = (1 : Int32) then 1 else 0) := by
  unfold fX4_hasBit
  split <;> rfl
theorem q_has (N : Nat) (x i : Int32) : fX5_has N x i = some (if ((x >>> (i &&& 31)) &&& (1 : Int32)) = (1 : Int32) then 1 else 0) := by
  unfold fX5_has
  split <;> simp_all
theorem q_in (N : Nat) (v a b : Int32) : fX5_in N v a b = some (if v < a then 0 else if b < v then 0 else 1) := by
  unfold fX5_in
  split
  · rfl
  · split <;> rfl
theorem q_10 : ¬ (1 : Int32) = 0 := by decide
/-- bits of small numbers -/
theorem q_bits : ∀ s, s < 256 → ∀ c, c < 8 → ((((nI s >>> (nI c &&& 31)) &&& (1 : Int32)) = (1 : Int32)) ↔ s.testBit c = true) := by decide +kernel
theorem q_agr : ∀ s, s < 256 → ∀ c, c < 8 → ((nI s &&& ((1 : Int32) <<< (nI c &&& 31)) = ((1 : Int32) <<< (nI c &&& 31))) ↔ s.testBit c = true) := by decide +kernel
/-- how many bits -/
def bcN (s : Nat) : Nat := (List.range 8).countP (fun i => s.testBit i)
theorem q_bc : ∀ s, s < 256 → fJ6_bitCount_0f7a4 FU (nI s) = some (nI (bcN s)) := by decide +kernel
theorem q_ones : ∀ s, s < 256 → fX5_ones FU (nI s) = some (nI (bcN s)) := by decide +kernel
theorem q_bc8 : ∀ s, s < 256 → bcN s ≤ 8 := by decide +kernel
/-- class: votersWhoAgree -/
theorem q_vwa_loop (set : Int32) (b : Nat) (hb : b ≤ 11) (V S : Nat → Int32) : ∀ (k n i : Nat), i + k = b → k < n → fX0_votersWhoAgree_b4 FU n set (smI (fun j => if S j &&& set = set then V j else 0) i) (nI i) (nI b) V S = some (smI (fun j => if S j &&& set = set then V j else 0) b) := by
  intro k
  induction k with
  | zero =>
    intro n i hi hn
    obtain ⟨n, rfl, -⟩ := q_suc hn
    rw [fX0_votersWhoAgree_b4, if_pos (nI_le (by omega) (by omega)), show i = b by omega]
  | succ k ih =>
    intro n i hi hn
    obtain ⟨n, rfl, hn⟩ := q_suc hn
    have h := ih n (i + 1) (by omega) (by omega)
    rw [smI_s] at h
    rw [fX0_votersWhoAgree_b4, if_neg (nI_ge (by omega) (by omega)), fX0_agreesTo, if_neg (nI_in (by omega) (by omega)), nI_clamp (by omega)]
    by_cases hs : S i &&& set = set
    · rw [if_pos hs] at h ⊢
      rw [Option.bind_some, if_neg q_10, if_neg (q_ck (by omega) (by omega)), fX0_votersWhoAgree_b30, nI_1]
      exact h
    · rw [if_neg hs] at h ⊢
      rw [Option.bind_some, if_pos rfl, fX0_votersWhoAgree_b30, nI_1]
      rw [Int32.add_zero] at h
      exact h
theorem q_vwa (set : Int32) {b : Nat} (hb : b ≤ 11) (V S : Nat → Int32) : fX0_votersWhoAgree FU set (nI b) V S = some (smI (fun j => if S j &&& set = set then V j else 0) b) := by
  unfold fX0_votersWhoAgree
  exact q_vwa_loop set b hb V S b FU 0 (by omega) (by have := FU_e; omega)
theorem q_abt_loop (set : Int32) (b : Nat) (hb : b ≤ 11) (S : Nat → Int32) : ∀ (k n i : Nat), i + k = b → k < n → fX0_approvedByThoseWhoAgree_b4 FU n set (orI (fun j => if S j &&& set = set then S j else 0) i) (nI i) (nI b) S = some (orI (fun j => if S j &&& set = set then S j else 0) b) := by
  intro k
  induction k with
  | zero =>
    intro n i hi hn
    obtain ⟨n, rfl, -⟩ := q_suc hn
    rw [fX0_approvedByThoseWhoAgree_b4, if_pos (nI_le (by omega) (by omega)), show i = b by omega]
  | succ k ih =>
    intro n i hi hn
    obtain ⟨n, rfl, hn⟩ := q_suc hn
    have h := ih n (i + 1) (by omega) (by omega)
    rw [orI_s] at h
    rw [fX0_approvedByThoseWhoAgree_b4, if_neg (nI_ge (by omega) (by omega)), fX0_agreesTo, if_neg (nI_in (by omega) (by omega)), nI_clamp (by omega)]
    by_cases hs : S i &&& set = set
    · rw [if_pos hs] at h ⊢
      rw [Option.bind_some, if_neg q_10, if_neg (q_ck (by omega) (by omega)), fX0_approvedByThoseWhoAgree_b30, nI_1]
      exact h
    · rw [if_neg hs] at h ⊢
      rw [Option.bind_some, if_pos rfl, fX0_approvedByThoseWhoAgree_b30, nI_1]
      rw [Int32.or_zero] at h
      exact h
theorem q_abt (set : Int32) {b : Nat} (hb : b ≤ 11) (S : Nat → Int32) : fX0_approvedByThoseWhoAgree FU set (nI b) S = some (orI (fun j => if S j &&& set = set then S j else 0) b) := by
  unfold fX0_approvedByThoseWhoAgree
  exact q_abt_loop set b hb S b FU 0 (by omega) (by have := FU_e; omega)
theorem q_all0 {b : Nat} (hb : b ≤ 11) (V S : Nat → Int32) : fX0_allVoters FU (nI b) V S = some (smI V b) := by
  unfold fX0_allVoters
  rw [q_vwa 0 hb, Option.bind_some]
  congr 1
  exact smI_cong (fun j _ => by rw [if_pos (Int32.and_zero)])
/-- the reference's own sums over its row -/
theorem q_all5_loop (b : Nat) (hb : b ≤ 11) (T : Nat → Int32) (h1 : T 1 = nI b) : ∀ (k n i : Nat), i + k = b → k < n → fX5_allVoters_b4 FU n (smI (fun j => T (2 + j)) i) (nI i) T = some (smI (fun j => T (2 + j)) b) := by
  intro k
  induction k with
  | zero =>
    intro n i hi hn
    obtain ⟨n, rfl, -⟩ := q_suc hn
    rw [fX5_allVoters_b4, h1, if_pos (nI_le (by omega) (by omega)), show i = b by omega]
  | succ k ih =>
    intro n i hi hn
    obtain ⟨n, rfl, hn⟩ := q_suc hn
    have h := ih n (i + 1) (by omega) (by omega)
    rw [smI_s] at h
    rw [fX5_allVoters_b4, h1, if_neg (nI_ge (by omega) (by omega)), q_add2, if_neg (nI_in (by omega) (by omega)), nI_clamp (by omega), nI_1]
    exact h
theorem q_all5 {b : Nat} (hb : b ≤ 11) {T : Nat → Int32} (h1 : T 1 = nI b) : fX5_allVoters FU T = some (smI (fun j => T (2 + j)) b) := by
  unfold fX5_allVoters
  exact q_all5_loop b hb T h1 b FU 0 (by omega) (by have := FU_e; omega)
theorem q_rdv_loop (b : Nat) (hb : b ≤ 11) (T : Nat → Int32) (h1 : T 1 = nI b) : ∀ (k n i : Nat), i + k = b → k < n → fX5_readVoters_b4 FU n (smI (fun j => T (2 + j)) i) (nI i) T = some (smI (fun j => T (2 + j)) b) := by
  intro k
  induction k with
  | zero =>
    intro n i hi hn
    obtain ⟨n, rfl, -⟩ := q_suc hn
    rw [fX5_readVoters_b4, h1, if_pos (nI_le (by omega) (by omega)), show i = b by omega]
  | succ k ih =>
    intro n i hi hn
    obtain ⟨n, rfl, hn⟩ := q_suc hn
    have h := ih n (i + 1) (by omega) (by omega)
    rw [smI_s] at h
    rw [fX5_readVoters_b4, h1, if_neg (nI_ge (by omega) (by omega)), q_add2, if_neg (nI_in (by omega) (by omega)), nI_clamp (by omega), nI_1]
    exact h
theorem q_rdv {b : Nat} (hb : b ≤ 11) {T : Nat → Int32} (h1 : T 1 = nI b) : fX5_readVoters FU T = some (smI (fun j => T (2 + j)) b) := by
  unfold fX5_readVoters
  exact q_rdv_loop b hb T h1 b FU 0 (by omega) (by have := FU_e; omega)
theorem q_agd_loop (set : Int32) (b : Nat) (hb : b ≤ 11) (T : Nat → Int32) (h1 : T 1 = nI b) : ∀ (k n i : Nat), i + k = b → k < n → fX5_agreed_b4 FU n set (smI (fun j => if T (12 + j) &&& set = set then T (2 + j) else 0) i) (nI i) T = some (smI (fun j => if T (12 + j) &&& set = set then T (2 + j) else 0) b) := by
  intro k
  induction k with
  | zero =>
    intro n i hi hn
    obtain ⟨n, rfl, -⟩ := q_suc hn
    rw [fX5_agreed_b4, h1, if_pos (nI_le (by omega) (by omega)), show i = b by omega]
  | succ k ih =>
    intro n i hi hn
    obtain ⟨n, rfl, hn⟩ := q_suc hn
    have h := ih n (i + 1) (by omega) (by omega)
    rw [smI_s] at h
    rw [fX5_agreed_b4, h1, if_neg (nI_ge (by omega) (by omega)), q_add12, if_neg (nI_in (by omega) (by omega)), nI_clamp (by omega)]
    by_cases hs : T (12 + i) &&& set = set
    · rw [if_pos hs] at h ⊢
      rw [q_add2, if_neg (nI_in (by omega) (by omega)), nI_clamp (by omega), fX5_agreed_b42, nI_1]
      exact h
    · rw [if_neg hs] at h ⊢
      rw [fX5_agreed_b42, nI_1]
      exact h
theorem q_agd (set : Int32) {b : Nat} (hb : b ≤ 11) {T : Nat → Int32} (h1 : T 1 = nI b) : fX5_agreed FU set T = some (smI (fun j => if T (12 + j) &&& set = set then T (2 + j) else 0) b) := by
  unfold fX5_agreed
  exact q_agd_loop set b hb T h1 b FU 0 (by omega) (by have := FU_e; omega)
theorem q_uni_loop (set : Int32) (b : Nat) (hb : b ≤ 11) (T : Nat → Int32) (h1 : T 1 = nI b) : ∀ (k n i : Nat), i + k = b → k < n → fX5_unionOf_b4 FU n set (orI (fun j => if T (12 + j) &&& set = set then T (12 + j) else 0) i) (nI i) T = some (orI (fun j => if T (12 + j) &&& set = set then T (12 + j) else 0) b) := by
  intro k
  induction k with
  | zero =>
    intro n i hi hn
    obtain ⟨n, rfl, -⟩ := q_suc hn
    rw [fX5_unionOf_b4, h1, if_pos (nI_le (by omega) (by omega)), show i = b by omega]
  | succ k ih =>
    intro n i hi hn
    obtain ⟨n, rfl, hn⟩ := q_suc hn
    have h := ih n (i + 1) (by omega) (by omega)
    rw [orI_s] at h
    rw [fX5_unionOf_b4, h1, if_neg (nI_ge (by omega) (by omega)), q_add12, if_neg (nI_in (by omega) (by omega)), nI_clamp (by omega)]
    by_cases hs : T (12 + i) &&& set = set
    · rw [if_pos hs] at h ⊢
      rw [fX5_unionOf_b43, nI_1]
      exact h
    · rw [if_neg hs] at h ⊢
      rw [fX5_unionOf_b43, nI_1]
      exact h
theorem q_uni (set : Int32) {b : Nat} (hb : b ≤ 11) {T : Nat → Int32} (h1 : T 1 = nI b) : fX5_unionOf FU set T = some (orI (fun j => if T (12 + j) &&& set = set then T (12 + j) else 0) b) := by
  unfold fX5_unionOf
  exact q_uni_loop set b hb T h1 b FU 0 (by omega) (by have := FU_e; omega)
/-- the sums of an election -/
abbrev bt (S : Nat → Int32) (c : Int32) (j : Nat) : Prop := ((S j >>> (c &&& 31)) &&& (1 : Int32)) = (1 : Int32)
theorem q_sup5_loop (c : Int32) (b : Nat) (hb : b ≤ 11) (V S : Nat → Int32) : ∀ (k n i : Nat), i + k = b → k < n → fX5_supportOf_b4 FU n c (smI (fun j => if bt S c j then V j else 0) i) (nI i) V S (nI b) = some (smI (fun j => if bt S c j then V j else 0) b) := by
  intro k
  induction k with
  | zero =>
    intro n i hi hn
    obtain ⟨n, rfl, -⟩ := q_suc hn
    rw [fX5_supportOf_b4, if_pos (nI_le (by omega) (by omega)), show i = b by omega]
  | succ k ih =>
    intro n i hi hn
    obtain ⟨n, rfl, hn⟩ := q_suc hn
    have h := ih n (i + 1) (by omega) (by omega)
    rw [smI_s] at h
    rw [fX5_supportOf_b4, if_neg (nI_ge (by omega) (by omega)), if_neg (nI_in (by omega) (by omega)), nI_clamp (by omega), q_has, Option.bind_some]
    by_cases hs : bt S c i
    · rw [if_pos hs] at h ⊢
      rw [if_neg q_10, fX5_supportOf_b36, nI_1]
      exact h
    · rw [if_neg hs] at h ⊢
      rw [if_pos rfl, fX5_supportOf_b36, nI_1]
      exact h
theorem q_sup5 (c : Int32) {b : Nat} (hb : b ≤ 11) (V S : Nat → Int32) : fX5_supportOf FU c V S (nI b) = some (smI (fun j => if bt S c j then V j else 0) b) := by
  unfold fX5_supportOf
  exact q_sup5_loop c b hb V S b FU 0 (by omega) (by have := FU_e; omega)
theorem q_load5_loop (c : Int32) (u : Int64) (b : Nat) (hb : b ≤ 11) (V S : Nat → Int32) (L : Nat → Int64) : ∀ (k n i : Nat), i + k = b → k < n → fX5_loadOf_b8 FU n c (smL u (fun j => if bt S c j then (V j).toInt64 * L j else 0) i) (nI i) V S (nI b) L = some (smL u (fun j => if bt S c j then (V j).toInt64 * L j else 0) b) := by
  intro k
  induction k with
  | zero =>
    intro n i hi hn
    obtain ⟨n, rfl, -⟩ := q_suc hn
    rw [fX5_loadOf_b8, if_pos (nI_le (by omega) (by omega)), show i = b by omega]
  | succ k ih =>
    intro n i hi hn
    obtain ⟨n, rfl, hn⟩ := q_suc hn
    have h := ih n (i + 1) (by omega) (by omega)
    rw [smL_s] at h
    rw [fX5_loadOf_b8, if_neg (nI_ge (by omega) (by omega)), if_neg (nI_in (by omega) (by omega)), nI_clamp (by omega), q_has, Option.bind_some]
    by_cases hs : bt S c i
    · rw [if_pos hs] at h ⊢
      rw [if_neg q_10, fX5_loadOf_b52, nI_1]
      exact h
    · rw [if_neg hs] at h ⊢
      rw [if_pos rfl, fX5_loadOf_b52, nI_1]
      exact h
theorem q_load5 (c : Int32) (u : Int64) {b : Nat} (hb : b ≤ 11) (V S : Nat → Int32) (L : Nat → Int64) : fX5_loadOf FU c V S (nI b) L u = some (smL u (fun j => if bt S c j then (V j).toInt64 * L j else 0) b) := by
  unfold fX5_loadOf
  exact q_load5_loop c u b hb V S L b FU 0 (by omega) (by have := FU_e; omega)
