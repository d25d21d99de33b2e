/-! constructors: my kit -/
abbrev zi_rm (f mc ms L : Nat) : Room := { frames := f, cells := mc, slots := ms, locals := L }
abbrev PcN (D : va_G) (cI cJ cO : ClassId) (X : State → Prop) (av : List Value) (w : va_W) (sz : Nat) : Array Value → State → Prop := va_Pc av (fun U => U.heap.size = sz ∧ NW U ∧ va_K D vwCl (tyL cI cJ cO) U ∧ X U ∧ va_P D vwCl w U.heap ∧ va_D (fun _ => True) w)
abbrev QwN {S : Type} (D : va_G) (post : S → Prop) (w' : S → va_W) (A : Nat → Prop) : Array Value → State → Outcome → State → Prop := va_Qv post (fun u t => va_P D vwCl (w' u) t.heap ∧ va_D A (w' u)) A
theorem pcn_blind {D : va_G} {cI cJ cO : ClassId} {X : State → Prop} {av : List Value} {w : va_W} {sz : Nat} (hX : ∀ (U : State) (g : JFrame) (mk : MethodId) (a : Array Value), X U → X (U.calling g mk a)) : FrameBlind (PcN D cI cJ cO X av w sz) := fun a U g mk q => by
  obtain ⟨q0, q1, qN, qK, qX, qP, qD⟩ := q
  exact ⟨q0, q1, ⟨fun z hz => va_Nw.same rfl rfl (qN.1 z hz), fun z hz => va_Nw.same rfl rfl (qN.2 z hz)⟩, va_K.moved (u := U) (U := U.calling g mk a) (Vm.Alike.refl U.vm) qK, hX U g mk a qX, qP, qD⟩
theorem zi_enter {l : Launch} {y : MethodName} {wc wc' : List Cond} {rm : Room} {D : va_G} {cI cJ cO : ClassId} {X : State → Prop} {av : List Value} {w : va_W} {cc : ByteArray} {maxL mc ms : Nat} {ret : Option FieldType} {own : String} {Qf : (Nat → Prop) → Array Value → State → Outcome → State → Prop} (hy : plainName y.cls = true) (hwc : wc = Cond.code y cc maxL ret :: wc') (ho : y.cls = own) (hnm : y.name = "<init>") (hlen : (lg_sl av).length ≤ maxL)
    (body : ∀ (p : Program) (e : Env) (s : State) (m : MethodId) (args : Array Value) (below : List Frame) (meth : Method) (c : Code) (A : Nat → Prop) (Q : State → Prop) (H : Heap) (locs : List Loc) (ls : Array Slot), Cx p s m meth c cc maxL ret own wc args D cI cJ cO A → meth.name = "<init>" → X s → A = va_A w s.heap.size → Q = MQ below (Qf A) args s mc ms A → Wd D A s.heap w H locs → lv_has ls maxL (lv_args 0 av) → W p l e rm s m args below meth c H locs 0 0 Q (F0 m 0 ls []))
    (sz : Nat) : Met l y wc rm (PcN D cI cJ cO X av w sz) (Qf (va_A w sz)) mc ms (va_A w sz) := by
  refine Met.ofW (cc := cc) (maxL := maxL) (ret := ret) hy hwc ?_
  intro p e s m args below meth c s₁ B hml hv
  obtain ⟨rfl, hsz, hN, hK, hX, hP, hD0⟩ := hv
  subst hsz
  subst ho
  rw [lg_entry_eq]
  exact body p e s m _ below meth c _ _ _ _ _ ⟨B.exec, B.bytes, hml, B.returns, atoms_spec (ws := wc) B.pre, findClass_of_methodNamed B.named, B.notSynchronized, hN, hK, fun q h => Or.inr h⟩ ((name_of_methodNamed B.named B.method).1.trans hnm) hX rfl rfl ⟨hP, hD0.self, va_S.rf⟩ (lv_entry av hlen)
section ZI
variable {p : Program} {l : Launch} {e : Env} {R : Room} {s : State} {m : MethodId} {args : Array Value} {below : List Frame} {meth : Method} {c : Code} {H : Heap} {locs : List Loc} {cells slots : Nat} {Q : State → Prop}
variable {cc : ByteArray} {pc : Nat} {ls : Array Slot} {rest st0 : List Value} {D : va_G} {A : Nat → Prop} {a : Nat} {cI cJ cO : ClassId} {ws wc wr : va_W} {H0 : Heap} {As : List Value} {b : Nat} {av : Array Value}
theorem zi_cls {cA cB : ClassId} {ty : FieldType} (hn : ∀ C, ty ≠ .object C) (h1 : va_RA s cA ty) (h2 : va_RA s cB ty) : cA = cB := by
  cases ty with
  | object C => exact absurd rfl (hn C)
  | _ => exact Option.some.inj (h1.symm.trans h2)
theorem zi_newI (hx : p.tables.exec = Jvm.exec) (hb : c.code = cc) (harr : (Cond.arrayClass .int).before args s = true) (hK : va_K D vwCl (tyL cI cJ cO) s) (hw : Wd D A H0 ws H locs) (hA : ∀ q, H0.size ≤ q → A q) {n : Int32} {N' : Nat} (hn : ¬ n < 0) (hN : n.toNatClampNeg = N') (hbytes : N' * componentBytes .int ≤ 536870912) (hcells : cells + 1 ≤ R.cells) (hslots : slots + N' ≤ R.slots) (hdg : decode cc pc = .ok (.newarray .int, 2))
    (kk : ∀ (q : Nat) (H1 : Heap), Wd D A H0 (ws ++ [(q, .inl (cI, N', .inl (fun _ => 0)))]) H1 locs → W p l e R s m args below meth c H1 locs (cells + 1) (slots + N') Q (F0 m (pc + 2) ls (.ref q :: rest))) : W p l e R s m args below meth c H locs cells slots Q (F0 m pc ls (.int n :: rest)) := by
  refine va_newa (atype := .int) (ty := .int) (a0 := (N', .inl (fun _ => 0))) hx hb harr rfl hK hw.1 hw.2.1 hw.2.2 hA (fun _ => rfl) hn hN hbytes hcells hslots hdg (fun q cA H1 hK1 hP hD hS => ?_)
  have e : cA = cI := zi_cls (ty := .int) (fun C h => by cases h) (hK1.2 3 (cA, .int) rfl).2 (hK.2 0 (cI, .int) rfl).2
  subst e
  exact kk q H1 ⟨hP, hD, hS⟩
theorem zi_newJ (hx : p.tables.exec = Jvm.exec) (hb : c.code = cc) (harr : (Cond.arrayClass .long).before args s = true) (hK : va_K D vwCl (tyL cI cJ cO) s) (hw : Wd D A H0 ws H locs) (hA : ∀ q, H0.size ≤ q → A q) {n : Int32} {N' : Nat} (hn : ¬ n < 0) (hN : n.toNatClampNeg = N') (hbytes : N' * componentBytes .long ≤ 536870912) (hcells : cells + 1 ≤ R.cells) (hslots : slots + N' ≤ R.slots) (hdg : decode cc pc = .ok (.newarray .long, 2))
    (kk : ∀ (q : Nat) (H1 : Heap), Wd D A H0 (ws ++ [(q, .inl (cJ, N', .inr (.inl (fun _ => 0))))]) H1 locs → W p l e R s m args below meth c H1 locs (cells + 1) (slots + N') Q (F0 m (pc + 2) ls (.ref q :: rest))) : W p l e R s m args below meth c H locs cells slots Q (F0 m pc ls (.int n :: rest)) := by
  refine va_newa (atype := .long) (ty := .long) (a0 := (N', .inr (.inl (fun _ => 0)))) hx hb harr rfl hK hw.1 hw.2.1 hw.2.2 hA (fun _ => rfl) hn hN hbytes hcells hslots hdg (fun q cA H1 hK1 hP hD hS => ?_)
  have e : cA = cJ := zi_cls (ty := .long) (fun C h => by cases h) (hK1.2 3 (cA, .long) rfl).2 (hK.2 1 (cJ, .long) rfl).2
  subst e
  exact kk q H1 ⟨hP, hD, hS⟩
theorem zi_newQ (hx : p.tables.exec = Jvm.exec) (hb : c.code = cc) {own : String} {index : Nat} (hown : s.vm.findClass own = some m.cls) (hcl : (Cond.classLink own index "LoadCouncil$Council").before args s = true) (ho : va_AO "LoadCouncil$Council" s) (hK : va_K D vwCl (tyL cI cJ cO) s) (hw : Wd D A H0 ws H locs) (hA : ∀ q, H0.size ≤ q → A q) {n : Int32} {N' : Nat} (hn : ¬ n < 0) (hN : n.toNatClampNeg = N') (hbytes : N' * 4 ≤ 536870912) (hcells : cells + 1 ≤ R.cells) (hslots : slots + N' ≤ R.slots) (hdg : decode cc pc = .ok (.anewarray index, 3))
    (kk : ∀ (q : Nat) (H1 : Heap), Wd D A H0 (ws ++ [(q, .inl (cO, N', .inr (.inr (.inr (.inr (fun _ => none))))))]) H1 locs → W p l e R s m args below meth c H1 locs (cells + 1) (slots + N') Q (F0 m (pc + 3) ls (.ref q :: rest))) : W p l e R s m args below meth c H locs cells slots Q (F0 m pc ls (.int n :: rest)) := by
  refine va_newq hx hb hown hcl ho hK hw.1 hw.2.1 hw.2.2 hA hn hN hbytes hcells hslots hdg (fun q cA H1 hK1 hP hD hS => ?_)
  obtain ⟨k1, p1, -, -, -, r1⟩ := (hK1.2 3 (cA, .object "LoadCouncil$Council") rfl).2
  obtain ⟨k2, p2, -, -, -, r2⟩ := (hK.2 2 (cO, .object "LoadCouncil$Council") rfl).2
  have e : cA = cO := Option.some.inj (r1.symm.trans r2)
  subst e
  exact kk q H1 ⟨hP, hD, hS⟩
theorem zi_callv {S : Type} {post : S → Prop} {w1 : S → va_W} {mc ms : Nat} (hw : Wd D A H0 ws H locs) (hA : ∀ q, H0.size ≤ q → A q) (isC isR : List Nat) (hC : isC.map (fun i => ws[i]?) = wc.map some) (hR : isR.map (fun i => ws[i]?) = wr.map some) (hn : va_nd isR = true) (hdis : ∀ i ∈ isR, i ∉ isC)
    (hr : va_Run p l e R s m args below meth c H locs cells slots mc ms (F0 m pc ls st0) rest (QwN D post w1 (va_A wc H.size) av) (va_A wc H.size))
    (kk : ∀ (u : S) (H1 : Heap) (locs1 : List Loc), post u → Wd D A H0 (wr ++ w1 u) H1 locs1 → W p l e R s m args below meth c H1 locs1 (cells + mc) (slots + ms) Q (F0 m (pc + 3) ls rest)) : W p l e R s m args below meth c H locs cells slots Q (F0 m pc ls st0) := by
  have hFc := va_free (wc := wc) hw.2.1 hw.2.2 hA isC hC
  refine va_callv hr hw.2.2 (fun q _ h => hFc q h) hFc (fun u t H1 locs1 ht hvm hx hB hz1 hk1 hS => ?_)
  have hB : va_P D vwCl (w1 u) t.heap ∧ va_D (va_A wc H.size) (w1 u) := hB
  rw [ht] at hB
  obtain ⟨hP, hD⟩ := va_join hw.1 hw.2.1 isC isR hC hR hn hdis hk1 hFc hB.1 hB.2
  exact kk u H1 locs1 hx ⟨hP, hD, hS⟩
theorem zi_pre {X : State → Prop} (hXb : ∀ (U : State) (g : JFrame) (mk : MethodId) (a : Array Value), X U → X (U.calling g mk a)) (hX : ∀ U : State, U.heap = H → s.WarmedH U.vm → X U) (hN : NW s) (hK : va_K D vwCl (tyL cI cJ cO) s) (hw : Wd D A H0 ws H locs) (isC : List Nat) (hC : isC.map (fun i => ws[i]?) = wc.map some) (hnd : va_nd isC = true) : PreS s H (PcN D cI cJ cO X As wc H.size) As :=
  ⟨pcn_blind hXb, fun U hU hW => ⟨rfl, by rw [hU], hN.warm hW, va_K.moved hW.alike hK, hX U hU hW, by rw [hU]; exact P_map hw.1 isC hC, (hw.2.1.sub isC hnd hC).weaken (fun _ _ _ _ => trivial)⟩⟩
theorem zi_vret {S : Type} {post : S → Prop} {w1 : S → va_W} (u : S) (hu : post u) (hx : p.tables.exec = Jvm.exec) (hb : c.code = cc) (hr : meth.sig.returnType = none) (hlocks : meth.locks = false) (hQ : Q = MQ below (QwN D post w1 A) args s cells slots A) (hw : Wd D A s.heap ws H locs) (is : List Nat) (hs : is.map (fun i => ws[i]?) = (w1 u).map some) (hnd : va_nd is = true) (hd : decode cc pc = .ok (.return_, 1)) : W p l e R s m args below meth c H locs cells slots Q (F0 m pc ls []) := by
  rw [hQ]
  exact W.vret hx hb hr (fun t ht hW => ⟨⟨u, rfl, hu, by rw [ht]; exact P_map hw.1 is hs, hw.2.1.sub is hnd hs⟩, hw.2.2.F ht⟩) hw.2.2.2.2 hd hlocks
end ZI
def adf (L : List Nat) (j : Nat) : Nat := L.getD j 0
set_option maxHeartbeats 4000000 in
set_option maxRecDepth 100000 in
theorem kX0_init (l : Launch) (D : va_G) (cI cJ cO : ClassId) (a : Nat) (sz : Nat) : Met l yX0_init wsX0_init (zi_rm 1 3 30 12) (PcN D cI cJ cO (fun _ => True) [.ref a] [(a, .inr (0, [.int 0, .int 0, .int 0, .int 0, .null, .null, .null]))] sz) (QwN D (fun u : Nat → Nat => u 0 = a) (fun u => zwC cI u 0 0 0 0 (fun _ => 0) (fun _ => 0) (fun _ => 0)) (va_A [(a, .inr (0, [.int 0, .int 0, .int 0, .int 0, .null, .null, .null]))] sz)) 3 30 (va_A [(a, .inr (0, [.int 0, .int 0, .int 0, .int 0, .null, .null, .null]))] sz) := by
  refine zi_enter (cc := cX0_init) (maxL := 1) (ret := none) (own := RX0) (Qf := fun A => QwN D (fun u : Nat → Nat => u 0 = a) (fun u => zwC cI u 0 0 0 0 (fun _ => 0) (fun _ => 0) (fun _ => 0)) A) (by decide) rfl rfl rfl (Nat.le_of_ble_eq_true rfl) ?_ sz
  intro p e s m args below meth c A Q H locs ls hC hin hX hAe hQ hw hl
  obtain ⟨hx, hb, hml, hr, hts, hown, hlocks, hN, hK, hA⟩ := hC
  have hl : lv_has ls 1 [(0, .ref a)] := hl
  have hiX : ∀ w ∈ u_ws RX0 TX0 7, w ∈ wsX0_init := by decide +kernel
  refine lv_aload_n hx hb dX0_init_0 rfl (lv_at hl 0 rfl) ?_
  refine W.objInit hx hb hown (hts (.methodLink RX0 3 objectInit) (by decide +kernel)) (hts (.instanceMethod objectInit) (by decide +kernel)) (hts _ (List.mem_cons_of_mem _ (List.mem_append_left _ (List.mem_of_getElem? (i := 2) rfl)))) rfl (by rw [hml]; exact hl.1) rfl dX0_init_1 (Nat.le_of_ble_eq_true rfl) (Nat.le_of_ble_eq_true rfl) ?_
  refine W.eq (g2 := F0 m 4 ls []) rfl ?_
  refine lv_aload_n hx hb dX0_init_4 rfl (lv_at hl 0 rfl) ?_
  refine lv_bipush (v := 11) hx hb dX0_init_5 (by decide) ?_
  refine zi_newI (N' := 11) hx hb (hts (.arrayClass .int) (by decide +kernel)) hK hw hA (by decide) rfl (Nat.le_of_ble_eq_true rfl) (Nat.le_of_ble_eq_true rfl) (Nat.le_of_ble_eq_true rfl) dX0_init_7 (fun q1 H hw => ?_)
  have hw : Wd D A s.heap [(a, .inr (0, [.int 0, .int 0, .int 0, .int 0, .null, .null, .null])), (q1, .inl (cI, 11, .inl (fun _ => 0)))] H locs := hw
  refine va_putF (D := D) (ci := 0) (v := .ref q1) (ty := tyX0 4) (C := RX0) (T := TX0) (N := 7) hx hb hts hiX tyX0 tyX0_ok nmX0 hown hK hw.1 hw.2.1 hw.2.2 0 rfl rfl 4 (by decide) (hts (.fieldLink RX0 9 "LoadCouncil$Council" "voters" "[I") (by decide +kernel)) (fun _ h9 => h9) rfl hin rfl (by decide +kernel) rfl rfl (Nat.le_of_ble_eq_true rfl) dX0_init_9 (fun H locs hP hD hS => ?_)
  have hw : Wd D A s.heap [(a, .inr (0, [.int 0, .int 0, .int 0, .int 0, .ref q1, .null, .null])), (q1, .inl (cI, 11, .inl (fun _ => 0)))] H locs := ⟨hP, hD, hS⟩
  refine lv_aload_n hx hb dX0_init_12 rfl (lv_at hl 0 rfl) ?_
  refine lv_bipush (v := 11) hx hb dX0_init_13 (by decide) ?_
  refine zi_newI (N' := 11) hx hb (hts (.arrayClass .int) (by decide +kernel)) hK hw hA (by decide) rfl (Nat.le_of_ble_eq_true rfl) (Nat.le_of_ble_eq_true rfl) (Nat.le_of_ble_eq_true rfl) dX0_init_15 (fun q2 H hw => ?_)
  have hw : Wd D A s.heap [(a, .inr (0, [.int 0, .int 0, .int 0, .int 0, .ref q1, .null, .null])), (q1, .inl (cI, 11, .inl (fun _ => 0))), (q2, .inl (cI, 11, .inl (fun _ => 0)))] H locs := hw
  refine va_putF (D := D) (ci := 0) (v := .ref q2) (ty := tyX0 5) (C := RX0) (T := TX0) (N := 7) hx hb hts hiX tyX0 tyX0_ok nmX0 hown hK hw.1 hw.2.1 hw.2.2 0 rfl rfl 5 (by decide) (hts (.fieldLink RX0 15 "LoadCouncil$Council" "sets" "[I") (by decide +kernel)) (fun _ h9 => h9) rfl hin rfl (by decide +kernel) rfl rfl (Nat.le_of_ble_eq_true rfl) dX0_init_17 (fun H locs hP hD hS => ?_)
  have hw : Wd D A s.heap [(a, .inr (0, [.int 0, .int 0, .int 0, .int 0, .ref q1, .ref q2, .null])), (q1, .inl (cI, 11, .inl (fun _ => 0))), (q2, .inl (cI, 11, .inl (fun _ => 0)))] H locs := ⟨hP, hD, hS⟩
  refine lv_aload_n hx hb dX0_init_20 rfl (lv_at hl 0 rfl) ?_
  refine lv_bipush (v := 8) hx hb dX0_init_21 (by decide) ?_
  refine zi_newI (N' := 8) hx hb (hts (.arrayClass .int) (by decide +kernel)) hK hw hA (by decide) rfl (Nat.le_of_ble_eq_true rfl) (Nat.le_of_ble_eq_true rfl) (Nat.le_of_ble_eq_true rfl) dX0_init_23 (fun q3 H hw => ?_)
  have hw : Wd D A s.heap [(a, .inr (0, [.int 0, .int 0, .int 0, .int 0, .ref q1, .ref q2, .null])), (q1, .inl (cI, 11, .inl (fun _ => 0))), (q2, .inl (cI, 11, .inl (fun _ => 0))), (q3, .inl (cI, 8, .inl (fun _ => 0)))] H locs := hw
  refine va_putF (D := D) (ci := 0) (v := .ref q3) (ty := tyX0 6) (C := RX0) (T := TX0) (N := 7) hx hb hts hiX tyX0 tyX0_ok nmX0 hown hK hw.1 hw.2.1 hw.2.2 0 rfl rfl 6 (by decide) (hts (.fieldLink RX0 18 "LoadCouncil$Council" "rank" "[I") (by decide +kernel)) (fun _ h9 => h9) rfl hin rfl (by decide +kernel) rfl rfl (Nat.le_of_ble_eq_true rfl) dX0_init_25 (fun H locs hP hD hS => ?_)
  have hw : Wd D A s.heap [(a, .inr (0, [.int 0, .int 0, .int 0, .int 0, .ref q1, .ref q2, .ref q3])), (q1, .inl (cI, 11, .inl (fun _ => 0))), (q2, .inl (cI, 11, .inl (fun _ => 0))), (q3, .inl (cI, 8, .inl (fun _ => 0)))] H locs := ⟨hP, hD, hS⟩
  exact zi_vret (post := fun u : Nat → Nat => u 0 = a) (w1 := fun u => zwC cI u 0 0 0 0 (fun _ => 0) (fun _ => 0) (fun _ => 0)) (adf [a, q1, q2, q3]) rfl hx hb hr hlocks hQ hw [0, 1, 2, 3] rfl (by decide) dX0_init_28
set_option maxHeartbeats 4000000 in
set_option maxRecDepth 100000 in
theorem kX3_init (l : Launch) (D : va_G) (cI cJ cO : ClassId) (a : Nat) (sz : Nat) : Met l yX3_init wsX3_init (zi_rm 1 1 200 12) (PcN D cI cJ cO (fun _ => True) [.ref a] [(a, .inr (3, [.null, .int 0]))] sz) (QwN D (fun u : Nat → Nat => u 0 = a) (fun u => zwT cI u (fun _ => 0) 0) (va_A [(a, .inr (3, [.null, .int 0]))] sz)) 1 200 (va_A [(a, .inr (3, [.null, .int 0]))] sz) := by
  refine zi_enter (cc := cX3_init) (maxL := 1) (ret := none) (own := RX3) (Qf := fun A => QwN D (fun u : Nat → Nat => u 0 = a) (fun u => zwT cI u (fun _ => 0) 0) A) (by decide) rfl rfl rfl (Nat.le_of_ble_eq_true rfl) ?_ sz
  intro p e s m args below meth c A Q H locs ls hC hin hX hAe hQ hw hl
  obtain ⟨hx, hb, hml, hr, hts, hown, hlocks, hN, hK, hA⟩ := hC
  have hl : lv_has ls 1 [(0, .ref a)] := hl
  have hiX : ∀ w ∈ u_ws RX3 TX3 2, w ∈ wsX3_init := by decide +kernel
  refine lv_aload_n hx hb dX3_init_0 rfl (lv_at hl 0 rfl) ?_
  refine W.objInit hx hb hown (hts (.methodLink RX3 3 objectInit) (by decide +kernel)) (hts (.instanceMethod objectInit) (by decide +kernel)) (hts _ (List.mem_cons_of_mem _ (List.mem_append_left _ (List.mem_of_getElem? (i := 2) rfl)))) rfl (by rw [hml]; exact hl.1) rfl dX3_init_1 (Nat.le_of_ble_eq_true rfl) (Nat.le_of_ble_eq_true rfl) ?_
  refine W.eq (g2 := F0 m 4 ls []) rfl ?_
  refine lv_aload_n hx hb dX3_init_4 rfl (lv_at hl 0 rfl) ?_
  refine lv_sipush (v := 200) hx hb dX3_init_5 (by decide) ?_
  refine zi_newI (N' := 200) hx hb (hts (.arrayClass .int) (by decide +kernel)) hK hw hA (by decide) rfl (Nat.le_of_ble_eq_true rfl) (Nat.le_of_ble_eq_true rfl) (Nat.le_of_ble_eq_true rfl) dX3_init_8 (fun q1 H hw => ?_)
  have hw : Wd D A s.heap [(a, .inr (3, [.null, .int 0])), (q1, .inl (cI, 200, .inl (fun _ => 0)))] H locs := hw
  refine va_putF (D := D) (ci := 3) (v := .ref q1) (ty := tyX3 0) (C := RX3) (T := TX3) (N := 2) hx hb hts hiX tyX3 tyX3_ok nmX3 hown hK hw.1 hw.2.1 hw.2.2 0 rfl rfl 0 (by decide) (hts (.fieldLink RX3 9 "LoadCouncil$Text" "letters" "[I") (by decide +kernel)) (fun _ h9 => h9) rfl hin rfl (by decide +kernel) rfl rfl (Nat.le_of_ble_eq_true rfl) dX3_init_10 (fun H locs hP hD hS => ?_)
  have hw : Wd D A s.heap [(a, .inr (3, [.ref q1, .int 0])), (q1, .inl (cI, 200, .inl (fun _ => 0)))] H locs := ⟨hP, hD, hS⟩
  exact zi_vret (post := fun u : Nat → Nat => u 0 = a) (w1 := fun u => zwT cI u (fun _ => 0) 0) (adf [a, q1]) rfl hx hb hr hlocks hQ hw [0, 1] rfl (by decide) dX3_init_13
set_option maxHeartbeats 4000000 in
set_option maxRecDepth 100000 in
theorem kX1_init (l : Launch) (D : va_G) (cI cJ cO : ClassId) (a : Nat) (sz : Nat) : Met l yX1_init wsX1_init (zi_rm 1 6 51 12) (PcN D cI cJ cO (fun _ => True) [.ref a] [(a, .inr (1, [.null, .null, .null, .int 0, .int 0, .null, .null, .null, .long 0]))] sz) (QwN D (fun u : Nat → Nat => u 0 = a) (fun u => zwE cI cJ u (fun _ => 0) (fun _ => 0) (fun _ => 0) 0 0 (fun _ => 0) (fun _ => 0) (fun _ => 0) 0) (va_A [(a, .inr (1, [.null, .null, .null, .int 0, .int 0, .null, .null, .null, .long 0]))] sz)) 6 51 (va_A [(a, .inr (1, [.null, .null, .null, .int 0, .int 0, .null, .null, .null, .long 0]))] sz) := by
  refine zi_enter (cc := cX1_init) (maxL := 1) (ret := none) (own := RX1) (Qf := fun A => QwN D (fun u : Nat → Nat => u 0 = a) (fun u => zwE cI cJ u (fun _ => 0) (fun _ => 0) (fun _ => 0) 0 0 (fun _ => 0) (fun _ => 0) (fun _ => 0) 0) A) (by decide) rfl rfl rfl (Nat.le_of_ble_eq_true rfl) ?_ sz
  intro p e s m args below meth c A Q H locs ls hC hin hX hAe hQ hw hl
  obtain ⟨hx, hb, hml, hr, hts, hown, hlocks, hN, hK, hA⟩ := hC
  have hl : lv_has ls 1 [(0, .ref a)] := hl
  have hiX : ∀ w ∈ u_ws RX1 TX1 9, w ∈ wsX1_init := by decide +kernel
  refine lv_aload_n hx hb dX1_init_0 rfl (lv_at hl 0 rfl) ?_
  refine W.objInit hx hb hown (hts (.methodLink RX1 3 objectInit) (by decide +kernel)) (hts (.instanceMethod objectInit) (by decide +kernel)) (hts _ (List.mem_cons_of_mem _ (List.mem_append_left _ (List.mem_of_getElem? (i := 2) rfl)))) rfl (by rw [hml]; exact hl.1) rfl dX1_init_1 (Nat.le_of_ble_eq_true rfl) (Nat.le_of_ble_eq_true rfl) ?_
  refine W.eq (g2 := F0 m 4 ls []) rfl ?_
  refine lv_aload_n hx hb dX1_init_4 rfl (lv_at hl 0 rfl) ?_
  refine lv_bipush (v := 8) hx hb dX1_init_5 (by decide) ?_
  refine zi_newI (N' := 8) hx hb (hts (.arrayClass .int) (by decide +kernel)) hK hw hA (by decide) rfl (Nat.le_of_ble_eq_true rfl) (Nat.le_of_ble_eq_true rfl) (Nat.le_of_ble_eq_true rfl) dX1_init_7 (fun q1 H hw => ?_)
  have hw : Wd D A s.heap [(a, .inr (1, [.null, .null, .null, .int 0, .int 0, .null, .null, .null, .long 0])), (q1, .inl (cI, 8, .inl (fun _ => 0)))] H locs := hw
  refine va_putF (D := D) (ci := 1) (v := .ref q1) (ty := tyX1 0) (C := RX1) (T := TX1) (N := 9) hx hb hts hiX tyX1 tyX1_ok nmX1 hown hK hw.1 hw.2.1 hw.2.2 0 rfl rfl 0 (by decide) (hts (.fieldLink RX1 9 "LoadCouncil$Election" "order" "[I") (by decide +kernel)) (fun _ h9 => h9) rfl hin rfl (by decide +kernel) rfl rfl (Nat.le_of_ble_eq_true rfl) dX1_init_9 (fun H locs hP hD hS => ?_)
  have hw : Wd D A s.heap [(a, .inr (1, [.ref q1, .null, .null, .int 0, .int 0, .null, .null, .null, .long 0])), (q1, .inl (cI, 8, .inl (fun _ => 0)))] H locs := ⟨hP, hD, hS⟩
  refine lv_aload_n hx hb dX1_init_12 rfl (lv_at hl 0 rfl) ?_
  refine lv_bipush (v := 8) hx hb dX1_init_13 (by decide) ?_
  refine zi_newJ (N' := 8) hx hb (hts (.arrayClass .long) (by decide +kernel)) hK hw hA (by decide) rfl (Nat.le_of_ble_eq_true rfl) (Nat.le_of_ble_eq_true rfl) (Nat.le_of_ble_eq_true rfl) dX1_init_15 (fun q2 H hw => ?_)
  have hw : Wd D A s.heap [(a, .inr (1, [.ref q1, .null, .null, .int 0, .int 0, .null, .null, .null, .long 0])), (q1, .inl (cI, 8, .inl (fun _ => 0))), (q2, .inl (cJ, 8, .inr (.inl (fun _ => 0))))] H locs := hw
  refine va_putF (D := D) (ci := 1) (v := .ref q2) (ty := tyX1 1) (C := RX1) (T := TX1) (N := 9) hx hb hts hiX tyX1 tyX1_ok nmX1 hown hK hw.1 hw.2.1 hw.2.2 0 rfl rfl 1 (by decide) (hts (.fieldLink RX1 15 "LoadCouncil$Election" "above" "[J") (by decide +kernel)) (fun _ h9 => h9) rfl hin rfl (by decide +kernel) rfl rfl (Nat.le_of_ble_eq_true rfl) dX1_init_17 (fun H locs hP hD hS => ?_)
  have hw : Wd D A s.heap [(a, .inr (1, [.ref q1, .ref q2, .null, .int 0, .int 0, .null, .null, .null, .long 0])), (q1, .inl (cI, 8, .inl (fun _ => 0))), (q2, .inl (cJ, 8, .inr (.inl (fun _ => 0))))] H locs := ⟨hP, hD, hS⟩
  refine lv_aload_n hx hb dX1_init_20 rfl (lv_at hl 0 rfl) ?_
  refine lv_bipush (v := 8) hx hb dX1_init_21 (by decide) ?_
  refine zi_newJ (N' := 8) hx hb (hts (.arrayClass .long) (by decide +kernel)) hK hw hA (by decide) rfl (Nat.le_of_ble_eq_true rfl) (Nat.le_of_ble_eq_true rfl) (Nat.le_of_ble_eq_true rfl) dX1_init_23 (fun q3 H hw => ?_)
  have hw : Wd D A s.heap [(a, .inr (1, [.ref q1, .ref q2, .null, .int 0, .int 0, .null, .null, .null, .long 0])), (q1, .inl (cI, 8, .inl (fun _ => 0))), (q2, .inl (cJ, 8, .inr (.inl (fun _ => 0)))), (q3, .inl (cJ, 8, .inr (.inl (fun _ => 0))))] H locs := hw
  refine va_putF (D := D) (ci := 1) (v := .ref q3) (ty := tyX1 2) (C := RX1) (T := TX1) (N := 9) hx hb hts hiX tyX1 tyX1_ok nmX1 hown hK hw.1 hw.2.1 hw.2.2 0 rfl rfl 2 (by decide) (hts (.fieldLink RX1 19 "LoadCouncil$Election" "below" "[J") (by decide +kernel)) (fun _ h9 => h9) rfl hin rfl (by decide +kernel) rfl rfl (Nat.le_of_ble_eq_true rfl) dX1_init_25 (fun H locs hP hD hS => ?_)
  have hw : Wd D A s.heap [(a, .inr (1, [.ref q1, .ref q2, .ref q3, .int 0, .int 0, .null, .null, .null, .long 0])), (q1, .inl (cI, 8, .inl (fun _ => 0))), (q2, .inl (cJ, 8, .inr (.inl (fun _ => 0)))), (q3, .inl (cJ, 8, .inr (.inl (fun _ => 0))))] H locs := ⟨hP, hD, hS⟩
  refine lv_aload_n hx hb dX1_init_28 rfl (lv_at hl 0 rfl) ?_
  refine lv_bipush (v := 8) hx hb dX1_init_29 (by decide) ?_
  refine zi_newI (N' := 8) hx hb (hts (.arrayClass .int) (by decide +kernel)) hK hw hA (by decide) rfl (Nat.le_of_ble_eq_true rfl) (Nat.le_of_ble_eq_true rfl) (Nat.le_of_ble_eq_true rfl) dX1_init_31 (fun q4 H hw => ?_)
  have hw : Wd D A s.heap [(a, .inr (1, [.ref q1, .ref q2, .ref q3, .int 0, .int 0, .null, .null, .null, .long 0])), (q1, .inl (cI, 8, .inl (fun _ => 0))), (q2, .inl (cJ, 8, .inr (.inl (fun _ => 0)))), (q3, .inl (cJ, 8, .inr (.inl (fun _ => 0)))), (q4, .inl (cI, 8, .inl (fun _ => 0)))] H locs := hw
  refine va_putF (D := D) (ci := 1) (v := .ref q4) (ty := tyX1 5) (C := RX1) (T := TX1) (N := 9) hx hb hts hiX tyX1 tyX1_ok nmX1 hown hK hw.1 hw.2.1 hw.2.2 0 rfl rfl 5 (by decide) (hts (.fieldLink RX1 22 "LoadCouncil$Election" "support" "[I") (by decide +kernel)) (fun _ h9 => h9) rfl hin rfl (by decide +kernel) rfl rfl (Nat.le_of_ble_eq_true rfl) dX1_init_33 (fun H locs hP hD hS => ?_)
  have hw : Wd D A s.heap [(a, .inr (1, [.ref q1, .ref q2, .ref q3, .int 0, .int 0, .ref q4, .null, .null, .long 0])), (q1, .inl (cI, 8, .inl (fun _ => 0))), (q2, .inl (cJ, 8, .inr (.inl (fun _ => 0)))), (q3, .inl (cJ, 8, .inr (.inl (fun _ => 0)))), (q4, .inl (cI, 8, .inl (fun _ => 0)))] H locs := ⟨hP, hD, hS⟩
  refine lv_aload_n hx hb dX1_init_36 rfl (lv_at hl 0 rfl) ?_
  refine lv_bipush (v := 8) hx hb dX1_init_37 (by decide) ?_
  refine zi_newJ (N' := 8) hx hb (hts (.arrayClass .long) (by decide +kernel)) hK hw hA (by decide) rfl (Nat.le_of_ble_eq_true rfl) (Nat.le_of_ble_eq_true rfl) (Nat.le_of_ble_eq_true rfl) dX1_init_39 (fun q5 H hw => ?_)
  have hw : Wd D A s.heap [(a, .inr (1, [.ref q1, .ref q2, .ref q3, .int 0, .int 0, .ref q4, .null, .null, .long 0])), (q1, .inl (cI, 8, .inl (fun _ => 0))), (q2, .inl (cJ, 8, .inr (.inl (fun _ => 0)))), (q3, .inl (cJ, 8, .inr (.inl (fun _ => 0)))), (q4, .inl (cI, 8, .inl (fun _ => 0))), (q5, .inl (cJ, 8, .inr (.inl (fun _ => 0))))] H locs := hw
  refine va_putF (D := D) (ci := 1) (v := .ref q5) (ty := tyX1 6) (C := RX1) (T := TX1) (N := 9) hx hb hts hiX tyX1 tyX1_ok nmX1 hown hK hw.1 hw.2.1 hw.2.2 0 rfl rfl 6 (by decide) (hts (.fieldLink RX1 25 "LoadCouncil$Election" "worth" "[J") (by decide +kernel)) (fun _ h9 => h9) rfl hin rfl (by decide +kernel) rfl rfl (Nat.le_of_ble_eq_true rfl) dX1_init_41 (fun H locs hP hD hS => ?_)
  have hw : Wd D A s.heap [(a, .inr (1, [.ref q1, .ref q2, .ref q3, .int 0, .int 0, .ref q4, .ref q5, .null, .long 0])), (q1, .inl (cI, 8, .inl (fun _ => 0))), (q2, .inl (cJ, 8, .inr (.inl (fun _ => 0)))), (q3, .inl (cJ, 8, .inr (.inl (fun _ => 0)))), (q4, .inl (cI, 8, .inl (fun _ => 0))), (q5, .inl (cJ, 8, .inr (.inl (fun _ => 0))))] H locs := ⟨hP, hD, hS⟩
  refine lv_aload_n hx hb dX1_init_44 rfl (lv_at hl 0 rfl) ?_
  refine lv_bipush (v := 11) hx hb dX1_init_45 (by decide) ?_
  refine zi_newJ (N' := 11) hx hb (hts (.arrayClass .long) (by decide +kernel)) hK hw hA (by decide) rfl (Nat.le_of_ble_eq_true rfl) (Nat.le_of_ble_eq_true rfl) (Nat.le_of_ble_eq_true rfl) dX1_init_47 (fun q6 H hw => ?_)
  have hw : Wd D A s.heap [(a, .inr (1, [.ref q1, .ref q2, .ref q3, .int 0, .int 0, .ref q4, .ref q5, .null, .long 0])), (q1, .inl (cI, 8, .inl (fun _ => 0))), (q2, .inl (cJ, 8, .inr (.inl (fun _ => 0)))), (q3, .inl (cJ, 8, .inr (.inl (fun _ => 0)))), (q4, .inl (cI, 8, .inl (fun _ => 0))), (q5, .inl (cJ, 8, .inr (.inl (fun _ => 0)))), (q6, .inl (cJ, 11, .inr (.inl (fun _ => 0))))] H locs := hw
  refine va_putF (D := D) (ci := 1) (v := .ref q6) (ty := tyX1 7) (C := RX1) (T := TX1) (N := 9) hx hb hts hiX tyX1 tyX1_ok nmX1 hown hK hw.1 hw.2.1 hw.2.2 0 rfl rfl 7 (by decide) (hts (.fieldLink RX1 28 "LoadCouncil$Election" "loads" "[J") (by decide +kernel)) (fun _ h9 => h9) rfl hin rfl (by decide +kernel) rfl rfl (Nat.le_of_ble_eq_true rfl) dX1_init_49 (fun H locs hP hD hS => ?_)
  have hw : Wd D A s.heap [(a, .inr (1, [.ref q1, .ref q2, .ref q3, .int 0, .int 0, .ref q4, .ref q5, .ref q6, .long 0])), (q1, .inl (cI, 8, .inl (fun _ => 0))), (q2, .inl (cJ, 8, .inr (.inl (fun _ => 0)))), (q3, .inl (cJ, 8, .inr (.inl (fun _ => 0)))), (q4, .inl (cI, 8, .inl (fun _ => 0))), (q5, .inl (cJ, 8, .inr (.inl (fun _ => 0)))), (q6, .inl (cJ, 11, .inr (.inl (fun _ => 0))))] H locs := ⟨hP, hD, hS⟩
  exact zi_vret (post := fun u : Nat → Nat => u 0 = a) (w1 := fun u => zwE cI cJ u (fun _ => 0) (fun _ => 0) (fun _ => 0) 0 0 (fun _ => 0) (fun _ => 0) (fun _ => 0) 0) (adf [a, q1, q2, q3, q4, q5, q6]) rfl hx hb hr hlocks hQ hw [0, 1, 2, 3, 4, 5, 6] rfl (by decide) dX1_init_52
