def nwF : List (String × Nat × String × String × String) := [(RX4, 63, RX3, "length", "I"), (RX1, 59, RX0, "candidates", "I"), (RX4, 66, RX0, "candidates", "I"), (RX3, 32, RX0, "candidates", "I"), (RX1, 84, RX0, "ballots", "I"), (RX4, 82, RX0, "ballots", "I"), (RX3, 56, RX0, "ballots", "I"), (RX1, 35, RX0, "seats", "I"), (RX3, 67, RX0, "seats", "I"), (RX4, 105, RX0, "seats", "I"), (RX1, 69, RX0, "withdrawn", "I"), (RX4, 114, RX0, "withdrawn", "I"), (RX1, 90, RX0, "voters", "[I"), (RX4, 98, RX0, "voters", "[I"), (RX1, 87, RX0, "sets", "[I"), (RX4, 102, RX0, "sets", "[I"), (RX1, 66, RX0, "rank", "[I"), (RX3, 74, RX0, "rank", "[I"), (RX4, 130, RX2, "size", "I"), (RX4, 152, RX1, "order", "[I"), (RX4, 166, RX1, "above", "[J"), (RX4, 160, RX1, "below", "[J"), (RX4, 149, RX1, "elected", "I"), (RX4, 173, RX1, "loads", "[J"), (RX4, 176, RX1, "unit", "J")]
def nwM : List (String × Nat × MethodName) := [(RX4, 11, yX3_init), (RX4, 18, yX0_init), (RX4, 28, yX2_init), (RX2, 17, yX0_init), (RX4, 35, yX1_init), (RX4, 52, yX3_add), (RX4, 56, yX3_readInto), (RX3, 19, yX0_beginWith), (RX3, 52, yX4_isVoters), (RX3, 59, yX0_allVoters), (RX3, 63, yX0_addBallot), (RX3, 70, yX4_hasBit), (RX4, 60, yX3_clear), (RX4, 69, yX0_copyFrom), (RX4, 73, yX2_forget), (RX4, 85, yX0_allVoters), (RX4, 88, yX2_keep), (RX2, 25, yX0_copyFrom), (RX4, 91, yX0_addBallot), (RX4, 111, yX0_isWithdrawn), (RX0, 64, yX4_hasBit), (RX4, 123, yX0_placeOf), (RX4, 126, yX0_bringToFront), (RX4, 133, yX2_bringBack), (RX4, 136, yX0_supportOf), (RX4, 142, yX1_hold), (RX1, 62, yX0_supportOf), (RX1, 72, yX4_hasBit), (RX4, 186, yX0_votersWhoAgree), (RX4, 189, yX0_isOwed), (RX4, 192, yX0_approvedByThoseWhoAgree), (RX4, 195, yX0_isShort), (RX4, 202, yX0_turnRankRound)]
/-! my kit: the nest words, the world as one predicate, calls and ends over it -/
def NW (U : State) : Prop := (∀ q ∈ nwF, va_Nw (.fieldLinkNest q.1 q.2.1 q.2.2.1 q.2.2.2.1 q.2.2.2.2 "LoadCouncil") U) ∧ (∀ q ∈ nwM, va_Nw (.methodLinkNest q.1 q.2.1 q.2.2 "LoadCouncil") U)
theorem NW.warm {s U : State} (hW : s.WarmedH U.vm) (h : NW s) : NW U := ⟨fun q hq => va_Nw.warmF hW (h.1 q hq), fun q hq => va_Nw.warmM hW (h.2 q hq)⟩
abbrev tyL (cI cJ cO : ClassId) : List (ClassId × FieldType) := [(cI, .int), (cJ, .long), (cO, .object "LoadCouncil$Council")]
/-- the world: cells, apart, and what has changed since H0 -/
def Wd (D : va_G) (A : Nat → Prop) (H0 : Heap) (ws : va_W) (H : Heap) (locs : List Loc) : Prop := va_P D vwCl ws H ∧ va_D A ws ∧ va_S A H0 H locs
abbrev PcW (D : va_G) (cI cJ cO : ClassId) (av : List Value) (w : va_W) (sz : Nat) : Array Value → State → Prop := va_Pc av (fun U => U.heap.size = sz ∧ NW U ∧ va_K D vwCl (tyL cI cJ cO) U ∧ va_P D vwCl w U.heap ∧ va_D (fun _ => True) w)
abbrev QwI (D : va_G) (w' : va_W) (r : Int32) (A : Nat → Prop) : Array Value → State → Outcome → State → Prop := va_Qi (fun (x : Int32) (_ : Unit) => x = r) (fun _ t => va_P D vwCl w' t.heap ∧ va_D A w') A
abbrev QwL (D : va_G) (w' : va_W) (r : Int64) (A : Nat → Prop) : Array Value → State → Outcome → State → Prop := va_Ql (fun (x : Int64) (_ : Unit) => x = r) (fun _ t => va_P D vwCl w' t.heap ∧ va_D A w') A
abbrev QwV (D : va_G) (w' : va_W) (A : Nat → Prop) : Array Value → State → Outcome → State → Prop := va_Qv (fun (_ : Unit) => True) (fun _ t => va_P D vwCl w' t.heap ∧ va_D A w') A
abbrev CtI (l : Launch) (y : MethodName) (wc : List Cond) (rm : Room) (D : va_G) (cI cJ cO : ClassId) (av : List Value) (w w' : va_W) (r : Int32) : Prop := ∀ sz : Nat, Met l y wc rm (PcW D cI cJ cO av w sz) (QwI D w' r (va_A w sz)) 0 0 (va_A w sz)
abbrev CtL (l : Launch) (y : MethodName) (wc : List Cond) (rm : Room) (D : va_G) (cI cJ cO : ClassId) (av : List Value) (w w' : va_W) (r : Int64) : Prop := ∀ sz : Nat, Met l y wc rm (PcW D cI cJ cO av w sz) (QwL D w' r (va_A w sz)) 0 0 (va_A w sz)
abbrev CtV (l : Launch) (y : MethodName) (wc : List Cond) (rm : Room) (D : va_G) (cI cJ cO : ClassId) (av : List Value) (w w' : va_W) : Prop := ∀ sz : Nat, Met l y wc rm (PcW D cI cJ cO av w sz) (QwV D w' (va_A w sz)) 0 0 (va_A w sz)
abbrev zk_rm (f L : Nat) : Room := { frames := f, cells := 0, slots := 0, locals := L }
theorem pcw_blind {D : va_G} {cI cJ cO : ClassId} {av : List Value} {w : va_W} {sz : Nat} : FrameBlind (PcW D cI cJ cO av w sz) := fun a U g mk q => by
  obtain ⟨q0, q1, qN, qK, qP, qD⟩ := q
  exact ⟨q0, q1, ⟨fun z hz => va_Nw.same rfl rfl (qN.1 z hz), fun z hz => va_Nw.same rfl rfl (qN.2 z hz)⟩, va_K.moved (u := U) (U := U.calling g mk a) (Vm.Alike.refl U.vm) qK, qP, qD⟩
theorem P_map {D : va_G} {cl : List vw_C} {ws wc : va_W} {H : Heap} (h : va_P D cl ws H) (is : List Nat) (hs : is.map (fun i => ws[i]?) = wc.map some) : va_P D cl wc H := by
  intro k q hq
  have h1 : (is.map (fun i => ws[i]?))[k]? = some (some q) := by rw [hs, List.getElem?_map, hq]; rfl
  rw [List.getElem?_map] at h1
  cases hi : is[k]? with
  | none => rw [hi] at h1; cases h1
  | some i => rw [hi] at h1; exact h i q (Option.some.inj h1)
theorem zk_none {α : Type} {u : α} {P : Prop} (h : (none : Option α) = some u) : P := by cases h
theorem zk_ck {α : Type} {c : Prop} [Decidable c] {E : Option α} {r : α} (h : (if c then none else E) = some r) : ¬ c ∧ E = some r := by
  by_cases hc : c
  · rw [if_pos hc] at h; cases h
  · rw [if_neg hc] at h; exact ⟨hc, h⟩
theorem zk_t {α : Type} {c : Prop} [Decidable c] {E F : Option α} {r : α} (hc : c) (h : (if c then E else F) = some r) : E = some r := by rwa [if_pos hc] at h
theorem zk_f {α : Type} {c : Prop} [Decidable c] {E F : Option α} {r : α} (hc : ¬ c) (h : (if c then E else F) = some r) : F = some r := by rwa [if_neg hc] at h
theorem zk_bd {α β : Type} {f : Option α} {g : α → Option β} {r : β} (h : f.bind g = some r) : ∃ u, f = some u ∧ g u = some r := by
  cases f with
  | none => cases h
  | some u => exact ⟨u, rfl, h⟩
theorem zk_nb {v : Int32} (h : ¬ ¬ (v = 0 ∨ v = 1)) : narrow .boolean (.int v) = .int v := by
  rcases Decidable.not_not.mp h with rfl | rfl <;> rfl
theorem zk_in {i : Int32} {n : Nat} (h : ¬ (i < 0 ∨ n ≤ i.toNatClampNeg)) : vp_in i n := h
section ZKA
variable {p : Program} {l : Launch} {e : Env} {R : Room} {s : State} {m : MethodId} {args : Array Value} {below : List Frame} {meth : Method} {c : Code} {H : Heap} {locs : List Loc} {cells slots : Nat} {Q : State → Prop}
variable {cc : ByteArray} {pc : Nat} {ls : Array Slot} {rest st0 : List Value} {D : va_G} {A : Nat → Prop} {a : Nat} {cI cJ cO : ClassId} {ws wc wr w1 : va_W} {H0 : Heap} {As : List Value} {b : Nat} {av : Array Value}
theorem zk_preS (hN : NW s) (hK : va_K D vwCl (tyL cI cJ cO) s) (hw : Wd D A H0 ws H locs) (isC : List Nat) (hC : isC.map (fun i => ws[i]?) = wc.map some) (hnd : va_nd isC = true) : PreS s H (PcW D cI cJ cO As wc H.size) As :=
  ⟨pcw_blind, fun U hU hW => ⟨rfl, by rw [hU], hN.warm hW, va_K.moved hW.alike hK, by rw [hU]; exact P_map hw.1 isC hC, (hw.2.1.sub isC hnd hC).weaken (fun _ _ _ _ => trivial)⟩⟩
theorem zk_preV (hN : NW s) (hK : va_K D vwCl (tyL cI cJ cO) s) (hw : Wd D A H0 ws H locs) (isC : List Nat) (hC : isC.map (fun i => ws[i]?) = wc.map some) (hnd : va_nd isC = true) (q0 ci : Nat) {q : vw_C} {fs : List Value} (hc : vwCl[ci]? = some q) (he : ws[q0]? = some (b, .inr (ci, fs))) : PreV s H q.1 b (PcW D cI cJ cO (.ref b :: As) wc H.size) As :=
  ⟨pcw_blind, va_recv hK hw.1 hc he, fun U hU hW => ⟨rfl, by rw [hU], hN.warm hW, va_K.moved hW.alike hK, by rw [hU]; exact P_map hw.1 isC hC, (hw.2.1.sub isC hnd hC).weaken (fun _ _ _ _ => trivial)⟩⟩
theorem zk_calli {r : Int32} (hw : Wd D A H0 ws H locs) (hA : ∀ q, H0.size ≤ q → A q) (isC isR : List Nat) (hC : isC.map (fun i => ws[i]?) = wc.map some) (hR : isR.map (fun i => ws[i]?) = wr.map some) (hn : va_nd isR = true) (hdis : ∀ i ∈ isR, i ∉ isC)
    (hr : va_Run p l e R s m args below meth c H locs cells slots 0 0 (F0 m pc ls st0) rest (QwI D w1 r (va_A wc H.size) av) (va_A wc H.size))
    (kk : ∀ (H1 : Heap) (locs1 : List Loc), Wd D A H0 (wr ++ w1) H1 locs1 → W p l e R s m args below meth c H1 locs1 cells slots Q (F0 m (pc + 3) ls (.int r :: rest))) : W p l e R s m args below meth c H locs cells slots Q (F0 m pc ls st0) := by
  have hFc := va_free (wc := wc) hw.2.1 hw.2.2 hA isC hC
  refine va_calli hr hw.2.2 (fun q _ h => hFc q h) hFc (fun x u t H1 locs1 ht hvm hx hB hz1 hk1 hS => ?_)
  have hx : x = r := hx
  subst hx
  have hB : va_P D vwCl w1 t.heap ∧ va_D (va_A wc H.size) w1 := hB
  rw [ht] at hB
  obtain ⟨hP, hD⟩ := va_join hw.1 hw.2.1 isC isR hC hR hn hdis hk1 hFc hB.1 hB.2
  exact kk H1 locs1 ⟨hP, hD, hS⟩
theorem zk_calll {r : Int64} (hw : Wd D A H0 ws H locs) (hA : ∀ q, H0.size ≤ q → A q) (isC isR : List Nat) (hC : isC.map (fun i => ws[i]?) = wc.map some) (hR : isR.map (fun i => ws[i]?) = wr.map some) (hn : va_nd isR = true) (hdis : ∀ i ∈ isR, i ∉ isC)
    (hr : va_Run p l e R s m args below meth c H locs cells slots 0 0 (F0 m pc ls st0) rest (QwL D w1 r (va_A wc H.size) av) (va_A wc H.size))
    (kk : ∀ (H1 : Heap) (locs1 : List Loc), Wd D A H0 (wr ++ w1) H1 locs1 → W p l e R s m args below meth c H1 locs1 cells slots Q (F0 m (pc + 3) ls (.long r :: rest))) : W p l e R s m args below meth c H locs cells slots Q (F0 m pc ls st0) := by
  have hFc := va_free (wc := wc) hw.2.1 hw.2.2 hA isC hC
  refine va_calll hr hw.2.2 (fun q _ h => hFc q h) hFc (fun x u t H1 locs1 ht hvm hx hB hz1 hk1 hS => ?_)
  have hx : x = r := hx
  subst hx
  have hB : va_P D vwCl w1 t.heap ∧ va_D (va_A wc H.size) w1 := hB
  rw [ht] at hB
  obtain ⟨hP, hD⟩ := va_join hw.1 hw.2.1 isC isR hC hR hn hdis hk1 hFc hB.1 hB.2
  exact kk H1 locs1 ⟨hP, hD, hS⟩
theorem zk_callv (hw : Wd D A H0 ws H locs) (hA : ∀ q, H0.size ≤ q → A q) (isC isR : List Nat) (hC : isC.map (fun i => ws[i]?) = wc.map some) (hR : isR.map (fun i => ws[i]?) = wr.map some) (hn : va_nd isR = true) (hdis : ∀ i ∈ isR, i ∉ isC)
    (hr : va_Run p l e R s m args below meth c H locs cells slots 0 0 (F0 m pc ls st0) rest (QwV D w1 (va_A wc H.size) av) (va_A wc H.size))
    (kk : ∀ (H1 : Heap) (locs1 : List Loc), Wd D A H0 (wr ++ w1) H1 locs1 → W p l e R s m args below meth c H1 locs1 cells slots Q (F0 m (pc + 3) ls rest)) : W p l e R s m args below meth c H locs cells slots Q (F0 m pc ls st0) := by
  have hFc := va_free (wc := wc) hw.2.1 hw.2.2 hA isC hC
  refine va_callv hr hw.2.2 (fun q _ h => hFc q h) hFc (fun u t H1 locs1 ht hvm hx hB hz1 hk1 hS => ?_)
  have hB : va_P D vwCl w1 t.heap ∧ va_D (va_A wc H.size) w1 := hB
  rw [ht] at hB
  obtain ⟨hP, hD⟩ := va_join hw.1 hw.2.1 isC isR hC hR hn hdis hk1 hFc hB.1 hB.2
  exact kk H1 locs1 ⟨hP, hD, hS⟩
/-- ends -/
theorem zk_iret {w' : va_W} {v : Int32} {ty : FieldType} (hx : p.tables.exec = Jvm.exec) (hb : c.code = cc) (hr : meth.sig.returnType = some ty) (hlocks : meth.locks = false) (hn : narrow ty (.int v) = .int v) (hQ : Q = MQ below (QwI D w' v A) args s cells slots A) (hw : Wd D A s.heap ws H locs) (is : List Nat) (hs : is.map (fun i => ws[i]?) = w'.map some) (hnd : va_nd is = true) (hd : decode cc pc = .ok (.ireturn, 1)) : W p l e R s m args below meth c H locs cells slots Q (F0 m pc ls [.int v]) := by
  rw [hQ]
  exact W.zret hx hb hr hn (fun t ht hW => ⟨⟨v, (), rfl, rfl, by rw [ht]; exact P_map hw.1 is hs, hw.2.1.sub is hnd hs⟩, hw.2.2.F ht⟩) hw.2.2.2.2 hd hlocks
theorem zk_lret {w' : va_W} {v : Int64} (hx : p.tables.exec = Jvm.exec) (hb : c.code = cc) (hr : meth.sig.returnType = some .long) (hlocks : meth.locks = false) (hQ : Q = MQ below (QwL D w' v A) args s cells slots A) (hw : Wd D A s.heap ws H locs) (is : List Nat) (hs : is.map (fun i => ws[i]?) = w'.map some) (hnd : va_nd is = true) (hd : decode cc pc = .ok (.lreturn, 1)) : W p l e R s m args below meth c H locs cells slots Q (F0 m pc ls [.long v]) := by
  rw [hQ]
  exact W.lret hx hb hr (fun t ht hW => ⟨⟨v, (), rfl, rfl, by rw [ht]; exact P_map hw.1 is hs, hw.2.1.sub is hnd hs⟩, hw.2.2.F ht⟩) hw.2.2.2.2 hd hlocks
theorem zk_vret {w' : va_W} (hx : p.tables.exec = Jvm.exec) (hb : c.code = cc) (hr : meth.sig.returnType = none) (hlocks : meth.locks = false) (hQ : Q = MQ below (QwV D w' A) args s cells slots A) (hw : Wd D A s.heap ws H locs) (is : List Nat) (hs : is.map (fun i => ws[i]?) = w'.map some) (hnd : va_nd is = true) (hd : decode cc pc = .ok (.return_, 1)) : W p l e R s m args below meth c H locs cells slots Q (F0 m pc ls []) := by
  rw [hQ]
  exact W.vret hx hb hr (fun t ht hW => ⟨⟨(), rfl, trivial, by rw [ht]; exact P_map hw.1 is hs, hw.2.1.sub is hnd hs⟩, hw.2.2.F ht⟩) hw.2.2.2.2 hd hlocks
/-- arrays -/
theorem zk_iald (hx : p.tables.exec = Jvm.exec) (hb : c.code = cc) (hK : va_K D vwCl (tyL cI cJ cO) s) (hw : Wd D A H0 ws H locs) (q0 : Nat) {n : Nat} {f : Nat → Int32} (ha : ws[q0]? = some (a, .inl (cI, n, .inl f))) {i : Int32} (hin : vp_in i n) {j : Nat} (hj : i.toNatClampNeg = j) (hdg : decode cc pc = .ok (.iaload, 1))
    (kk : W p l e R s m args below meth c H locs cells slots Q (F0 m (pc + 1) ls (.int (f j) :: rest))) : W p l e R s m args below meth c H locs cells slots Q (F0 m pc ls (.int i :: .ref a :: rest)) := by
  subst hj
  exact va_iald hx hb hK hw.1 q0 0 ha rfl hin hdg kk
theorem zk_lald (hx : p.tables.exec = Jvm.exec) (hb : c.code = cc) (hK : va_K D vwCl (tyL cI cJ cO) s) (hw : Wd D A H0 ws H locs) (q0 : Nat) {n : Nat} {f : Nat → Int64} (ha : ws[q0]? = some (a, .inl (cJ, n, .inr (.inl f)))) {i : Int32} (hin : vp_in i n) {j : Nat} (hj : i.toNatClampNeg = j) (hdg : decode cc pc = .ok (.laload, 1))
    (kk : W p l e R s m args below meth c H locs cells slots Q (F0 m (pc + 1) ls (.long (f j) :: rest))) : W p l e R s m args below meth c H locs cells slots Q (F0 m pc ls (.int i :: .ref a :: rest)) := by
  subst hj
  exact va_lald hx hb hK hw.1 q0 1 ha rfl hin hdg kk
theorem zk_aald (hx : p.tables.exec = Jvm.exec) (hb : c.code = cc) (hK : va_K D vwCl (tyL cI cJ cO) s) (hw : Wd D A H0 ws H locs) (q0 : Nat) {n : Nat} {f : Nat → Option Nat} (ha : ws[q0]? = some (a, .inl (cO, n, .inr (.inr (.inr (.inr f)))))) {i : Int32} (hin : vp_in i n) {y : Nat} (hy : f i.toNatClampNeg = some y) (hdg : decode cc pc = .ok (.aaload, 1))
    (kk : W p l e R s m args below meth c H locs cells slots Q (F0 m (pc + 1) ls (.ref y :: rest))) : W p l e R s m args below meth c H locs cells slots Q (F0 m pc ls (.int i :: .ref a :: rest)) := by
  refine va_aldq hx hb hK hw.1 q0 2 ha rfl hin hdg ?_
  rw [hy]
  exact kk
theorem zk_iast (hx : p.tables.exec = Jvm.exec) (hb : c.code = cc) (hK : va_K D vwCl (tyL cI cJ cO) s) (hw : Wd D A H0 ws H locs) (q0 : Nat) {n : Nat} {f : Nat → Int32} (ha : ws[q0]? = some (a, .inl (cI, n, .inl f))) {i x : Int32} (hin : vp_in i n) {j : Nat} (hj : i.toNatClampNeg = j) (hdg : decode cc pc = .ok (.iastore, 1))
    (kk : ∀ (H1 : Heap) (locs1 : List Loc), Wd D A H0 (ws.set q0 (a, .inl (cI, n, .inl (upd f j x)))) H1 locs1 → W p l e R s m args below meth c H1 locs1 cells slots Q (F0 m (pc + 1) ls rest)) : W p l e R s m args below meth c H locs cells slots Q (F0 m pc ls (.int x :: .int i :: .ref a :: rest)) := by
  subst hj
  exact va_iast hx hb hK hw.1 hw.2.1 hw.2.2 q0 0 ha rfl hin hdg (fun H1 locs1 hP hD hS => kk H1 locs1 ⟨hP, hD, hS⟩)
theorem zk_last (hx : p.tables.exec = Jvm.exec) (hb : c.code = cc) (hK : va_K D vwCl (tyL cI cJ cO) s) (hw : Wd D A H0 ws H locs) (q0 : Nat) {n : Nat} {f : Nat → Int64} (ha : ws[q0]? = some (a, .inl (cJ, n, .inr (.inl f)))) {i : Int32} {x : Int64} (hin : vp_in i n) {j : Nat} (hj : i.toNatClampNeg = j) (hdg : decode cc pc = .ok (.lastore, 1))
    (kk : ∀ (H1 : Heap) (locs1 : List Loc), Wd D A H0 (ws.set q0 (a, .inl (cJ, n, .inr (.inl (vp_updL f j x))))) H1 locs1 → W p l e R s m args below meth c H1 locs1 cells slots Q (F0 m (pc + 1) ls rest)) : W p l e R s m args below meth c H locs cells slots Q (F0 m pc ls (.long x :: .int i :: .ref a :: rest)) := by
  subst hj
  exact va_last hx hb hK hw.1 hw.2.1 hw.2.2 q0 1 ha rfl hin hdg (fun H1 locs1 hP hD hS => kk H1 locs1 ⟨hP, hD, hS⟩)
theorem zk_copy {own : String} {index : Nat} (hx : p.tables.exec = Jvm.exec) (hb : c.code = cc) (hml : c.maxLocals = ls.size) (hown : s.vm.findClass own = some m.cls) (hlink : (Cond.methodLink own index arraycopyName).before args s = true) (hnat : (Cond.native arraycopyName).before args s = true) (hstat : (Cond.static arraycopyName).before args s = true) (hini : (Cond.initialized "java/lang/System").before args s = true)
    (hK : va_K D vwCl (tyL cI cJ cO) s) (hw : Wd D A H0 ws H locs) (q0 q1 : Nat) {a0 : Nat} {n0 n1 : Nat} {f g : Nat → Int32} (ha0 : ws[q0]? = some (a0, .inl (cI, n0, .inl f))) (ha1 : ws[q1]? = some (a, .inl (cI, n1, .inl g))) {n : Int32} {k : Nat} (h3 : ¬ n < 0) (hk : n.toNatClampNeg = k) (h4 : k ≤ n0) (h5 : k ≤ n1)
    (hframes : 1 ≤ R.frames) (hlocals : (rest.map fun v => v.category).sum + (nativeFrameWords "java/lang/System" "arraycopy" 5 + 11) ≤ R.locals) (hdg : decode cc pc = .ok (.invokestatic index, 3))
    (kk : ∀ (H1 : Heap) (locs1 : List Loc), Wd D A H0 (ws.set q1 (a, .inl (cI, n1, .inl (va_cpy f g 0 0 k)))) H1 locs1 → W p l e R s m args below meth c H1 locs1 cells slots Q (F0 m (pc + 3) ls rest)) : W p l e R s m args below meth c H locs cells slots Q (F0 m pc ls (.int n :: .int 0 :: .ref a :: .int 0 :: .ref a0 :: rest)) := by
  subst hk
  exact va_copyi hx hb hml hown hlink hnat hstat hini hK hw.1 hw.2.1 hw.2.2 q0 q1 0 0 (ty := .int) ha0 ha1 rfl rfl rfl (by decide) (by decide) h3 (by show 0 + _ ≤ _; omega) (by show 0 + _ ≤ _; omega) (fun i _ => rfl) hframes hlocals hdg (fun H1 locs1 hP hD hS => kk H1 locs1 ⟨hP, hD, hS⟩)
end ZKA
/-- what a method's body knows -/
def Cx (p : Program) (s : State) (m : MethodId) (meth : Method) (c : Code) (cc : ByteArray) (maxL : Nat) (ret : Option FieldType) (own : String) (wc : List Cond) (args : Array Value) (D : va_G) (cI cJ cO : ClassId) (A : Nat → Prop) : Prop :=
  p.tables.exec = Jvm.exec ∧ c.code = cc ∧ c.maxLocals = maxL ∧ meth.sig.returnType = ret ∧ (∀ w ∈ wc, w.before args s = true) ∧ s.vm.findClass own = some m.cls ∧ meth.locks = false ∧ NW s ∧ va_K D vwCl (tyL cI cJ cO) s ∧ (∀ q, s.heap.size ≤ q → A q)
theorem zk_enter {l : Launch} {y : MethodName} {wc wc' : List Cond} {rm : Room} {D : va_G} {cI cJ cO : ClassId} {av : List Value} {w : va_W} {cc : ByteArray} {maxL : Nat} {ret : Option FieldType} {own : String} {Qf : (Nat → Prop) → Array Value → State → Outcome → State → Prop} (hy : plainName y.cls = true) (hwc : wc = Cond.code y cc maxL ret :: wc') (ho : y.cls = own) (hlen : (lg_sl av).length ≤ maxL)
    (body : ∀ (p : Program) (e : Env) (s : State) (m : MethodId) (args : Array Value) (below : List Frame) (meth : Method) (c : Code) (A : Nat → Prop) (Q : State → Prop) (H : Heap) (locs : List Loc) (ls : Array Slot), Cx p s m meth c cc maxL ret own wc args D cI cJ cO A → Q = MQ below (Qf A) args s 0 0 A → Wd D A s.heap w H locs → lv_has ls maxL (lv_args 0 av) → W p l e rm s m args below meth c H locs 0 0 Q (F0 m 0 ls []))
    (sz : Nat) : Met l y wc rm (PcW D cI cJ cO av w sz) (Qf (va_A w sz)) 0 0 (va_A w sz) := by
  refine Met.ofW (cc := cc) (maxL := maxL) (ret := ret) hy hwc ?_
  intro p e s m args below meth c s₁ B hml hv
  obtain ⟨rfl, hsz, hN, hK, hP, hD0⟩ := hv
  subst hsz
  subst ho
  rw [lg_entry_eq]
  exact body p e s m _ below meth c _ _ _ _ _ ⟨B.exec, B.bytes, hml, B.returns, atoms_spec (ws := wc) B.pre, findClass_of_methodNamed B.named, B.notSynchronized, hN, hK, fun q h => Or.inr h⟩ rfl ⟨hP, hD0.self, va_S.rf⟩ (lv_entry av hlen)
theorem nwF_X4_63 {s : State} (h : NW s) : va_Nw (.fieldLinkNest RX4 63 RX3 "length" "I" "LoadCouncil") s := h.1 (RX4, 63, RX3, "length", "I") (List.mem_of_getElem? (i := 0) rfl)
theorem nwF_X1_59 {s : State} (h : NW s) : va_Nw (.fieldLinkNest RX1 59 RX0 "candidates" "I" "LoadCouncil") s := h.1 (RX1, 59, RX0, "candidates", "I") (List.mem_of_getElem? (i := 1) rfl)
theorem nwF_X4_66 {s : State} (h : NW s) : va_Nw (.fieldLinkNest RX4 66 RX0 "candidates" "I" "LoadCouncil") s := h.1 (RX4, 66, RX0, "candidates", "I") (List.mem_of_getElem? (i := 2) rfl)
theorem nwF_X3_32 {s : State} (h : NW s) : va_Nw (.fieldLinkNest RX3 32 RX0 "candidates" "I" "LoadCouncil") s := h.1 (RX3, 32, RX0, "candidates", "I") (List.mem_of_getElem? (i := 3) rfl)
theorem nwF_X1_84 {s : State} (h : NW s) : va_Nw (.fieldLinkNest RX1 84 RX0 "ballots" "I" "LoadCouncil") s := h.1 (RX1, 84, RX0, "ballots", "I") (List.mem_of_getElem? (i := 4) rfl)
theorem nwF_X4_82 {s : State} (h : NW s) : va_Nw (.fieldLinkNest RX4 82 RX0 "ballots" "I" "LoadCouncil") s := h.1 (RX4, 82, RX0, "ballots", "I") (List.mem_of_getElem? (i := 5) rfl)
theorem nwF_X3_56 {s : State} (h : NW s) : va_Nw (.fieldLinkNest RX3 56 RX0 "ballots" "I" "LoadCouncil") s := h.1 (RX3, 56, RX0, "ballots", "I") (List.mem_of_getElem? (i := 6) rfl)
theorem nwF_X1_35 {s : State} (h : NW s) : va_Nw (.fieldLinkNest RX1 35 RX0 "seats" "I" "LoadCouncil") s := h.1 (RX1, 35, RX0, "seats", "I") (List.mem_of_getElem? (i := 7) rfl)
theorem nwF_X3_67 {s : State} (h : NW s) : va_Nw (.fieldLinkNest RX3 67 RX0 "seats" "I" "LoadCouncil") s := h.1 (RX3, 67, RX0, "seats", "I") (List.mem_of_getElem? (i := 8) rfl)
theorem nwF_X4_105 {s : State} (h : NW s) : va_Nw (.fieldLinkNest RX4 105 RX0 "seats" "I" "LoadCouncil") s := h.1 (RX4, 105, RX0, "seats", "I") (List.mem_of_getElem? (i := 9) rfl)
theorem nwF_X1_69 {s : State} (h : NW s) : va_Nw (.fieldLinkNest RX1 69 RX0 "withdrawn" "I" "LoadCouncil") s := h.1 (RX1, 69, RX0, "withdrawn", "I") (List.mem_of_getElem? (i := 10) rfl)
theorem nwF_X4_114 {s : State} (h : NW s) : va_Nw (.fieldLinkNest RX4 114 RX0 "withdrawn" "I" "LoadCouncil") s := h.1 (RX4, 114, RX0, "withdrawn", "I") (List.mem_of_getElem? (i := 11) rfl)
theorem nwF_X1_90 {s : State} (h : NW s) : va_Nw (.fieldLinkNest RX1 90 RX0 "voters" "[I" "LoadCouncil") s := h.1 (RX1, 90, RX0, "voters", "[I") (List.mem_of_getElem? (i := 12) rfl)
theorem nwF_X4_98 {s : State} (h : NW s) : va_Nw (.fieldLinkNest RX4 98 RX0 "voters" "[I" "LoadCouncil") s := h.1 (RX4, 98, RX0, "voters", "[I") (List.mem_of_getElem? (i := 13) rfl)
theorem nwF_X1_87 {s : State} (h : NW s) : va_Nw (.fieldLinkNest RX1 87 RX0 "sets" "[I" "LoadCouncil") s := h.1 (RX1, 87, RX0, "sets", "[I") (List.mem_of_getElem? (i := 14) rfl)
theorem nwF_X4_102 {s : State} (h : NW s) : va_Nw (.fieldLinkNest RX4 102 RX0 "sets" "[I" "LoadCouncil") s := h.1 (RX4, 102, RX0, "sets", "[I") (List.mem_of_getElem? (i := 15) rfl)
theorem nwF_X1_66 {s : State} (h : NW s) : va_Nw (.fieldLinkNest RX1 66 RX0 "rank" "[I" "LoadCouncil") s := h.1 (RX1, 66, RX0, "rank", "[I") (List.mem_of_getElem? (i := 16) rfl)
theorem nwF_X3_74 {s : State} (h : NW s) : va_Nw (.fieldLinkNest RX3 74 RX0 "rank" "[I" "LoadCouncil") s := h.1 (RX3, 74, RX0, "rank", "[I") (List.mem_of_getElem? (i := 17) rfl)
theorem nwF_X4_130 {s : State} (h : NW s) : va_Nw (.fieldLinkNest RX4 130 RX2 "size" "I" "LoadCouncil") s := h.1 (RX4, 130, RX2, "size", "I") (List.mem_of_getElem? (i := 18) rfl)
theorem nwF_X4_152 {s : State} (h : NW s) : va_Nw (.fieldLinkNest RX4 152 RX1 "order" "[I" "LoadCouncil") s := h.1 (RX4, 152, RX1, "order", "[I") (List.mem_of_getElem? (i := 19) rfl)
theorem nwF_X4_166 {s : State} (h : NW s) : va_Nw (.fieldLinkNest RX4 166 RX1 "above" "[J" "LoadCouncil") s := h.1 (RX4, 166, RX1, "above", "[J") (List.mem_of_getElem? (i := 20) rfl)
theorem nwF_X4_160 {s : State} (h : NW s) : va_Nw (.fieldLinkNest RX4 160 RX1 "below" "[J" "LoadCouncil") s := h.1 (RX4, 160, RX1, "below", "[J") (List.mem_of_getElem? (i := 21) rfl)
theorem nwF_X4_149 {s : State} (h : NW s) : va_Nw (.fieldLinkNest RX4 149 RX1 "elected" "I" "LoadCouncil") s := h.1 (RX4, 149, RX1, "elected", "I") (List.mem_of_getElem? (i := 22) rfl)
theorem nwF_X4_173 {s : State} (h : NW s) : va_Nw (.fieldLinkNest RX4 173 RX1 "loads" "[J" "LoadCouncil") s := h.1 (RX4, 173, RX1, "loads", "[J") (List.mem_of_getElem? (i := 23) rfl)
theorem nwF_X4_176 {s : State} (h : NW s) : va_Nw (.fieldLinkNest RX4 176 RX1 "unit" "J" "LoadCouncil") s := h.1 (RX4, 176, RX1, "unit", "J") (List.mem_of_getElem? (i := 24) rfl)
theorem nwM_X4_11 {s : State} (h : NW s) : va_Nw (.methodLinkNest RX4 11 yX3_init "LoadCouncil") s := h.2 (RX4, 11, yX3_init) (List.mem_of_getElem? (i := 0) rfl)
theorem nwM_X4_18 {s : State} (h : NW s) : va_Nw (.methodLinkNest RX4 18 yX0_init "LoadCouncil") s := h.2 (RX4, 18, yX0_init) (List.mem_of_getElem? (i := 1) rfl)
theorem nwM_X4_28 {s : State} (h : NW s) : va_Nw (.methodLinkNest RX4 28 yX2_init "LoadCouncil") s := h.2 (RX4, 28, yX2_init) (List.mem_of_getElem? (i := 2) rfl)
theorem nwM_X2_17 {s : State} (h : NW s) : va_Nw (.methodLinkNest RX2 17 yX0_init "LoadCouncil") s := h.2 (RX2, 17, yX0_init) (List.mem_of_getElem? (i := 3) rfl)
theorem nwM_X4_35 {s : State} (h : NW s) : va_Nw (.methodLinkNest RX4 35 yX1_init "LoadCouncil") s := h.2 (RX4, 35, yX1_init) (List.mem_of_getElem? (i := 4) rfl)
theorem nwM_X4_52 {s : State} (h : NW s) : va_Nw (.methodLinkNest RX4 52 yX3_add "LoadCouncil") s := h.2 (RX4, 52, yX3_add) (List.mem_of_getElem? (i := 5) rfl)
theorem nwM_X4_56 {s : State} (h : NW s) : va_Nw (.methodLinkNest RX4 56 yX3_readInto "LoadCouncil") s := h.2 (RX4, 56, yX3_readInto) (List.mem_of_getElem? (i := 6) rfl)
theorem nwM_X3_19 {s : State} (h : NW s) : va_Nw (.methodLinkNest RX3 19 yX0_beginWith "LoadCouncil") s := h.2 (RX3, 19, yX0_beginWith) (List.mem_of_getElem? (i := 7) rfl)
theorem nwM_X3_52 {s : State} (h : NW s) : va_Nw (.methodLinkNest RX3 52 yX4_isVoters "LoadCouncil") s := h.2 (RX3, 52, yX4_isVoters) (List.mem_of_getElem? (i := 8) rfl)
theorem nwM_X3_59 {s : State} (h : NW s) : va_Nw (.methodLinkNest RX3 59 yX0_allVoters "LoadCouncil") s := h.2 (RX3, 59, yX0_allVoters) (List.mem_of_getElem? (i := 9) rfl)
theorem nwM_X3_63 {s : State} (h : NW s) : va_Nw (.methodLinkNest RX3 63 yX0_addBallot "LoadCouncil") s := h.2 (RX3, 63, yX0_addBallot) (List.mem_of_getElem? (i := 10) rfl)
theorem nwM_X3_70 {s : State} (h : NW s) : va_Nw (.methodLinkNest RX3 70 yX4_hasBit "LoadCouncil") s := h.2 (RX3, 70, yX4_hasBit) (List.mem_of_getElem? (i := 11) rfl)
theorem nwM_X4_60 {s : State} (h : NW s) : va_Nw (.methodLinkNest RX4 60 yX3_clear "LoadCouncil") s := h.2 (RX4, 60, yX3_clear) (List.mem_of_getElem? (i := 12) rfl)
theorem nwM_X4_69 {s : State} (h : NW s) : va_Nw (.methodLinkNest RX4 69 yX0_copyFrom "LoadCouncil") s := h.2 (RX4, 69, yX0_copyFrom) (List.mem_of_getElem? (i := 13) rfl)
theorem nwM_X4_73 {s : State} (h : NW s) : va_Nw (.methodLinkNest RX4 73 yX2_forget "LoadCouncil") s := h.2 (RX4, 73, yX2_forget) (List.mem_of_getElem? (i := 14) rfl)
theorem nwM_X4_85 {s : State} (h : NW s) : va_Nw (.methodLinkNest RX4 85 yX0_allVoters "LoadCouncil") s := h.2 (RX4, 85, yX0_allVoters) (List.mem_of_getElem? (i := 15) rfl)
theorem nwM_X4_88 {s : State} (h : NW s) : va_Nw (.methodLinkNest RX4 88 yX2_keep "LoadCouncil") s := h.2 (RX4, 88, yX2_keep) (List.mem_of_getElem? (i := 16) rfl)
theorem nwM_X2_25 {s : State} (h : NW s) : va_Nw (.methodLinkNest RX2 25 yX0_copyFrom "LoadCouncil") s := h.2 (RX2, 25, yX0_copyFrom) (List.mem_of_getElem? (i := 17) rfl)
theorem nwM_X4_91 {s : State} (h : NW s) : va_Nw (.methodLinkNest RX4 91 yX0_addBallot "LoadCouncil") s := h.2 (RX4, 91, yX0_addBallot) (List.mem_of_getElem? (i := 18) rfl)
theorem nwM_X4_111 {s : State} (h : NW s) : va_Nw (.methodLinkNest RX4 111 yX0_isWithdrawn "LoadCouncil") s := h.2 (RX4, 111, yX0_isWithdrawn) (List.mem_of_getElem? (i := 19) rfl)
theorem nwM_X0_64 {s : State} (h : NW s) : va_Nw (.methodLinkNest RX0 64 yX4_hasBit "LoadCouncil") s := h.2 (RX0, 64, yX4_hasBit) (List.mem_of_getElem? (i := 20) rfl)
theorem nwM_X4_123 {s : State} (h : NW s) : va_Nw (.methodLinkNest RX4 123 yX0_placeOf "LoadCouncil") s := h.2 (RX4, 123, yX0_placeOf) (List.mem_of_getElem? (i := 21) rfl)
theorem nwM_X4_126 {s : State} (h : NW s) : va_Nw (.methodLinkNest RX4 126 yX0_bringToFront "LoadCouncil") s := h.2 (RX4, 126, yX0_bringToFront) (List.mem_of_getElem? (i := 22) rfl)
theorem nwM_X4_133 {s : State} (h : NW s) : va_Nw (.methodLinkNest RX4 133 yX2_bringBack "LoadCouncil") s := h.2 (RX4, 133, yX2_bringBack) (List.mem_of_getElem? (i := 23) rfl)
theorem nwM_X4_136 {s : State} (h : NW s) : va_Nw (.methodLinkNest RX4 136 yX0_supportOf "LoadCouncil") s := h.2 (RX4, 136, yX0_supportOf) (List.mem_of_getElem? (i := 24) rfl)
theorem nwM_X4_142 {s : State} (h : NW s) : va_Nw (.methodLinkNest RX4 142 yX1_hold "LoadCouncil") s := h.2 (RX4, 142, yX1_hold) (List.mem_of_getElem? (i := 25) rfl)
theorem nwM_X1_62 {s : State} (h : NW s) : va_Nw (.methodLinkNest RX1 62 yX0_supportOf "LoadCouncil") s := h.2 (RX1, 62, yX0_supportOf) (List.mem_of_getElem? (i := 26) rfl)
theorem nwM_X1_72 {s : State} (h : NW s) : va_Nw (.methodLinkNest RX1 72 yX4_hasBit "LoadCouncil") s := h.2 (RX1, 72, yX4_hasBit) (List.mem_of_getElem? (i := 27) rfl)
theorem nwM_X4_186 {s : State} (h : NW s) : va_Nw (.methodLinkNest RX4 186 yX0_votersWhoAgree "LoadCouncil") s := h.2 (RX4, 186, yX0_votersWhoAgree) (List.mem_of_getElem? (i := 28) rfl)
theorem nwM_X4_189 {s : State} (h : NW s) : va_Nw (.methodLinkNest RX4 189 yX0_isOwed "LoadCouncil") s := h.2 (RX4, 189, yX0_isOwed) (List.mem_of_getElem? (i := 29) rfl)
theorem nwM_X4_192 {s : State} (h : NW s) : va_Nw (.methodLinkNest RX4 192 yX0_approvedByThoseWhoAgree "LoadCouncil") s := h.2 (RX4, 192, yX0_approvedByThoseWhoAgree) (List.mem_of_getElem? (i := 30) rfl)
theorem nwM_X4_195 {s : State} (h : NW s) : va_Nw (.methodLinkNest RX4 195 yX0_isShort "LoadCouncil") s := h.2 (RX4, 195, yX0_isShort) (List.mem_of_getElem? (i := 31) rfl)
theorem nwM_X4_202 {s : State} (h : NW s) : va_Nw (.methodLinkNest RX4 202 yX0_turnRankRound "LoadCouncil") s := h.2 (RX4, 202, yX0_turnRankRound) (List.mem_of_getElem? (i := 32) rfl)
abbrev zwC (cI : ClassId) (a : Nat → Nat) (vcandidates : Int32) (vballots : Int32) (vseats : Int32) (vwithdrawn : Int32) (vvoters : Nat → Int32) (vsets : Nat → Int32) (vrank : Nat → Int32) : va_W := [(a 0, .inr (0, [.int vcandidates, .int vballots, .int vseats, .int vwithdrawn, .ref (a 1), .ref (a 2), .ref (a 3)])), (a 1, .inl (cI, 11, .inl vvoters)), (a 2, .inl (cI, 11, .inl vsets)), (a 3, .inl (cI, 8, .inl vrank))]
abbrev zwE (cI cJ : ClassId) (a : Nat → Nat) (vorder : Nat → Int32) (vabove : Nat → Int64) (vbelow : Nat → Int64) (velected : Int32) (vset : Int32) (vsupport : Nat → Int32) (vworth : Nat → Int64) (vloads : Nat → Int64) (vunit : Int64) : va_W := [(a 0, .inr (1, [.ref (a 1), .ref (a 2), .ref (a 3), .int velected, .int vset, .ref (a 4), .ref (a 5), .ref (a 6), .long vunit])), (a 1, .inl (cI, 8, .inl vorder)), (a 2, .inl (cJ, 8, .inr (.inl vabove))), (a 3, .inl (cJ, 8, .inr (.inl vbelow))), (a 4, .inl (cI, 8, .inl vsupport)), (a 5, .inl (cJ, 8, .inr (.inl vworth))), (a 6, .inl (cJ, 11, .inr (.inl vloads)))]
abbrev zwP (cO : ClassId) (a : Nat → Nat) (vring : Nat → Option Nat) (vtop : Int32) (vsize : Int32) : va_W := [(a 0, .inr (2, [.ref (a 1), .int vtop, .int vsize])), (a 1, .inl (cO, 6, .inr (.inr (.inr (.inr vring)))))]
abbrev zwT (cI : ClassId) (a : Nat → Nat) (vletters : Nat → Int32) (vlength : Int32) : va_W := [(a 0, .inr (3, [.ref (a 1), .int vlength])), (a 1, .inl (cI, 200, .inl vletters))]
abbrev zwM (cI cJ : ClassId) (a : Nat → Nat) (vnow : Nat → Int32) (vread : Nat → Int32) (vpast : Nat → Int32) (vchanges : Int32) (vtext : Nat → Int32) (vletters : Int32) (vheads : Nat → Int32) (vsets : Nat → Int32) (vballots : Int32) (vranks : Nat → Int32) (vloads : Nat → Int64) (vbelow : Int64) (vorder : Nat → Int32) (velected : Int32) (vmembers : Int32) (vabove : Nat → Int64) (vunder : Nat → Int64) (vspot : Int32) (vvalue : Int32) : va_W := [(a 0, .inr (5, [.ref (a 1), .ref (a 2), .ref (a 3), .int vchanges, .ref (a 4), .int vletters, .ref (a 5), .ref (a 6), .int vballots, .ref (a 7), .ref (a 8), .long vbelow, .ref (a 9), .int velected, .int vmembers, .ref (a 10), .ref (a 11), .int vspot, .int vvalue])), (a 1, .inl (cI, 32, .inl vnow)), (a 2, .inl (cI, 32, .inl vread)), (a 3, .inl (cI, 192, .inl vpast)), (a 4, .inl (cI, 200, .inl vtext)), (a 5, .inl (cI, 11, .inl vheads)), (a 6, .inl (cI, 11, .inl vsets)), (a 7, .inl (cI, 8, .inl vranks)), (a 8, .inl (cJ, 11, .inr (.inl vloads))), (a 9, .inl (cI, 8, .inl vorder)), (a 10, .inl (cJ, 8, .inr (.inl vabove))), (a 11, .inl (cJ, 8, .inr (.inl vunder)))]
abbrev zwL (a : Nat → Nat) (xT xN xR xP xE : Nat) : va_W := [(a 0, .inr (4, [.ref xT, .ref xN, .ref xR, .ref xP, .ref xE]))]
