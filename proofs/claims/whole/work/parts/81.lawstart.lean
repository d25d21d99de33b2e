/-! the law: its beginning -/
theorem nwF_in : ∀ q ∈ nwF, Cond.fieldLinkNest q.1 q.2.1 q.2.2.1 q.2.2.2.1 q.2.2.2.2 "LoadCouncil" ∈ lw_tbl := by decide +kernel
theorem nwM_in : ∀ q ∈ nwM, Cond.methodLinkNest q.1 q.2.1 q.2.2 "LoadCouncil" ∈ lw_tbl := by decide +kernel
theorem tx_in : ∀ j, j < 42 → Cond.eq (.elem (.field (.string "LoadCouncil" 40) "java/lang/String" "value" "[B") (.int (Int32.ofNat j))) (.int (([txB].getD 0 []).getD j 0)) ∈ flatC (Jvm.Cond.and given_1 narrow_1) := by decide +kernel
set_option maxHeartbeats 4000000 in
set_option maxRecDepth 100000 in
theorem law_ctx {p : Program} {s : State} {m : MethodId} {meth : Method} {c : Code} {b L : Nat} {xs : Nat → Int32} (hL : L ≤ 2048) (C0 : lw_At p s m meth c b L xs) : ∃ (D : va_G) (cI cJ cO : ClassId) (k v : Nat), LC p s m c b L xs D cI cJ cO ∧ SG k v (fun q : Nat => s.heap.size ≤ q) s s.heap ∧ vk_R "LoadCouncil" 40 txS k s ∧ va_AO "LoadCouncil$Council" s := by
  obtain ⟨hx, hb, hr, hml, hown, hts, hX, hbl, hlocks, hgv⟩ := C0
  have hN : NW s := ⟨fun q hq => va_Nw.of rfl (hts _ (nwF_in q hq)), fun q hq => va_Nw.of rfl (hts _ (nwM_in q hq))⟩
  have hts2 : ∀ w ∈ wsL_law, w.before #[Value.ref b] s = true := fun w h => hts w (wsL_law_in w h)
  obtain ⟨d0, j0, k0⟩ := u_known (C := RX0) (T := TX0) (N := 7) (n := 7) hts inX0 (hts2 (.instantiable RX0 7) (by decide +kernel))
  obtain ⟨d1, j1, k1⟩ := u_known (C := RX1) (T := TX1) (N := 9) (n := 9) hts inX1 (hts2 (.instantiable RX1 9) (by decide +kernel))
  obtain ⟨d2, j2, k2⟩ := u_known (C := RX2) (T := TX2) (N := 3) (n := 3) hts inX2 (hts2 (.instantiable RX2 3) (by decide +kernel))
  obtain ⟨d3, j3, k3⟩ := u_known (C := RX3) (T := TX3) (N := 2) (n := 2) hts inX3 (hts2 (.instantiable RX3 2) (by decide +kernel))
  obtain ⟨d4, j4, k4⟩ := u_known (C := RX4) (T := TX4) (N := 5) (n := 5) hts inX4 (hts2 (.instantiable RX4 5) (by decide +kernel))
  obtain ⟨d5, j5, k5⟩ := u_known (C := RX5) (T := TX5) (N := 19) (n := 19) hts inX5 (hts2 (.instantiable RX5 19) (by decide +kernel))
  obtain ⟨cI, kI, pI, i1, i2, i3⟩ := Cond.arrayClass_spec (hts2 (.arrayClass .int) (by decide +kernel))
  obtain ⟨cJ, kJ, pJ, l1, l2, l3⟩ := Cond.arrayClass_spec (hts2 (.arrayClass .long) (by decide +kernel))
  have hO : (Cond.arrayOver (.object "LoadCouncil$Council")).before #[Value.ref b] s = true := hts _ (by decide +kernel)
  obtain ⟨pO, cO, kO, o1, -, o2, o3, o4⟩ := Cond.arrayOver_spec hO
  have hA : ∀ a : Nat, a < s.heap.size → ¬ (fun q : Nat => s.heap.size ≤ q) a := fun a h h2 => absurd h (Nat.not_lt.mpr h2)
  have hf := flat_of_before _ hgv
  have hcs : (Cond.eq (.static "java/lang/String" "COMPACT_STRINGS" "Z") (.int 1)).before #[Value.ref b] s = true := hf _ (by decide +kernel)
  have hpf : (Cond.isRef (.static "jdk/internal/util/Preconditions" "SIOOBE_FORMATTER" "Ljava/util/function/BiFunction;")).before #[Value.ref b] s = true := hf _ (by decide +kernel)
  have hex : (Cond.exactly (.string "LoadCouncil" 40) "java/lang/String").before #[Value.ref b] s = true := hf _ (by decide +kernel)
  have hco : (Cond.eq (.field (.string "LoadCouncil" 40) "java/lang/String" "coder" "B") (.int 0)).before #[Value.ref b] s = true := hf _ (by decide +kernel)
  have har : (Cond.arrayOf (.field (.string "LoadCouncil" 40) "java/lang/String" "value" "[B") .byte).before #[Value.ref b] s = true := hf _ (by decide +kernel)
  have hle : (Cond.eq (.length (.field (.string "LoadCouncil" 40) "java/lang/String" "value" "[B")) (.int 42)).before #[Value.ref b] s = true := hf _ (by decide +kernel)
  obtain ⟨adK, adV, hSs, hev⟩ := vk_Sof (args := #[Value.ref b]) (s := s) (N := 1) (tm := fun _ => .string "LoadCouncil" 40) (len := [42]) (byt := [txB]) (A := fun q : Nat => s.heap.size ≤ q) (fun i hi => by rw [show i = 0 by omega]; decide) (fun _ _ => hex) (fun _ _ => hco) (fun _ _ => har) (fun i hi => by rw [show i = 0 by omega]; exact hle) (fun i hi j hj => by rw [show i = 0 by omega] at hj ⊢; exact hf _ (tx_in j hj)) (fun i j hi hj hne => absurd (show i = j by omega) hne) hA
  have hs0 := hSs.1 0 (by decide)
  refine ⟨(fun c => match c with | 0 => d0 | 1 => d1 | 2 => d2 | 3 => d3 | 4 => d4 | _ => d5, fun c => match c with | 0 => j0 | 1 => j1 | 2 => j2 | 3 => j3 | 4 => j4 | _ => j5), cI, cJ, cO, adK 0, adV 0, ⟨hx, hb, hml, hown, hts2, hN, ⟨fun c q hc => ?_, fun c q hc => ?_⟩, hX, hbl, hL⟩, ⟨va_Zof (hts _ (by decide +kernel)) (hts _ (by decide +kernel)) (va_eqt hcs) hA, va_Zqof (hts _ (by decide +kernel)) (hts _ (by decide +kernel)) hpf hA, hs0.1, hs0.2.1, hs0.2.2.1, hs0.2.2.2⟩, vk_R.of (hts (.stringRef "LoadCouncil" 40 txS) (by decide +kernel)) (hev 0 (by decide)), va_AO.of hO⟩
  · match c, hc with
    | 0, hc => cases hc; exact k0
    | 1, hc => cases hc; exact k1
    | 2, hc => cases hc; exact k2
    | 3, hc => cases hc; exact k3
    | 4, hc => cases hc; exact k4
    | 5, hc => cases hc; exact k5
    | c + 6, hc => cases hc
  · match c, hc with
    | 0, hc => cases hc; exact ⟨fun n z => ⟨fun k h => (by cases h), kI, i2, pI, i3⟩, i1⟩
    | 1, hc => cases hc; exact ⟨fun n z => ⟨fun k h => (by cases h), kJ, l2, pJ, l3⟩, l1⟩
    | 2, hc => cases hc; exact ⟨fun n z => ⟨fun k h => (by cases h), kO, o2, pO, o3⟩, kO, pO, o2, o3, o1, o4⟩
    | c + 3, hc => cases hc
set_option maxHeartbeats 4000000 in
set_option maxRecDepth 100000 in
theorem whole_start {p : Program} {e : Env} {s : State} {m : MethodId} {below : List Frame} {meth : Method} {c : Code} (l : Launch) (hflags : l.flags = flags0) {b L : Nat} {xs : Nat → Int32} (hL : L ≤ 2048) (C0 : lw_At p s m meth c b L xs) : W p l e room_1 s m #[Value.ref b] below meth c s.heap [] 0 0 (lw_Z below #[Value.ref b] s) (entryFrame m ([Value.ref b] : List Value).toArray 4) := by
  obtain ⟨D, cI, cJ, cO, k, v, C, hG, hZ, hAO⟩ := law_ctx hL C0
  have C1 := C
  obtain ⟨-, -, hr, -, -, -, -, -, hlocks, -⟩ := C0
  obtain ⟨hx, hb, hml, hown, hts, hN, hK, hX, hbl, -⟩ := C
  have hA : ∀ q : Nat, s.heap.size ≤ q → (fun q : Nat => s.heap.size ≤ q) q := fun _ h => h
  have hw : Wd D (fun q : Nat => s.heap.size ≤ q) s.heap [] s.heap [] := Wd_nil va_S.rf
  rw [lg_entry_eq]
  have hl := lv_entry [Value.ref b] (n := 4) (Nat.le_of_ble_eq_true rfl)
  generalize (lg_sl [Value.ref b] ++ List.replicate (4 - (lg_sl [Value.ref b]).length) Slot.unset).toArray = ls at hl ⊢
  have hl : lv_has ls 4 [(0, .ref b)] := hl
  refine va_new (ci := 4) (fs := [.null, .null, .null, .null, .null]) (C := RX4) (T := TX4) (N := 5) hx hb hts inlX4 tyX4 tyX4_ok hown (hts (.classLink RL 7 RX4) (by decide +kernel)) (hts (.instantiable RX4 5) (by decide +kernel)) (hts (.initialized RX4) (by decide +kernel)) hK hw.1 hw.2.1 hw.2.2 hA rfl (fun j hj => by rcases (show j = 0 ∨ j = 1 ∨ j = 2 ∨ j = 3 ∨ j = 4 by omega) with rfl | rfl | rfl | rfl | rfl <;> rfl) (Nat.le_of_ble_eq_true rfl) (Nat.le_of_ble_eq_true rfl) dL_law_0 (fun q1 H hP hD hS => ?_)
  have hw : Wd D (fun q : Nat => s.heap.size ≤ q) s.heap [(q1, .inr (4, [.null, .null, .null, .null, .null]))] H [] := ⟨hP, hD, hS⟩
  refine lv_dup hx hb dL_law_3 rfl ?_
  have hFc := va_free (wc := [(q1, .inr (4, [.null, .null, .null, .null, .null]))]) hw.2.1 hw.2.2 hA [0] rfl
  refine zi_callv (wc := [(q1, .inr (4, [.null, .null, .null, .null, .null]))]) (wr := []) hw hA [0] [] rfl rfl (by decide +kernel) (by decide +kernel) (va_runI (As := []) (rest := [.ref q1]) ⟨hx, hb, hml, hown, hts⟩ (kX4_init l D cI cJ cO k v q1 H.size) (cwI 0 hts gL_law_X4_init rfl rfl rfl (hts (.initialized RX4) (by decide +kernel)) (hts (.methodLink RL 9 yX4_init) (by decide +kernel)) (hts (.instanceMethod yX4_init) (by decide +kernel)) rfl (by decide +kernel) ⟨Nat.le_of_ble_eq_true rfl, Nat.le_of_ble_eq_true rfl⟩) (zi_pre (fun U g mk a h => ⟨SG.moved (u := U) (U := U.calling g mk a) (Vm.Alike.refl U.vm) h.1, vk_R.same (u := U) (U := U.calling g mk a) rfl h.2.1, va_AO.moved (u := U) (U := U.calling g mk a) (Vm.Alike.refl U.vm) h.2.2⟩) (fun U hU hW => ⟨by rw [hU]; exact ((hG.kept hw.2.2.2.1).narrow hFc).moved hW.alike, hZ.warm hW, va_AO.moved hW.alike hAO⟩) hN hK hw [0] rfl (by decide)) rfl rfl hl.1 rfl (lv_room (Nat.le_of_ble_eq_true rfl)) dL_law_4 ⟨Nat.le_of_ble_eq_true rfl, Nat.le_of_ble_eq_true rfl⟩) (fun u H locs hu hw => ?_)
  have hw : Wd D (fun q : Nat => s.heap.size ≤ q) s.heap (WLL cI cJ cO (fun _ => q1) u.1 u.2.1 u.2.2.1 u.2.2.2.1 u.2.2.2.2.1 (tx42 42) 0 u.2.2.2.2.2.2.1 u.2.2.2.2.2.2.2.1 u.2.2.2.2.2.2.2.2.1 u.2.2.2.2.2.2.2.2.2.1 u.2.2.2.2.2.2.2.2.2.2.1 u.2.2.2.2.2.2.2.2.2.2.2.1 u.2.2.2.2.2.2.2.2.2.2.2.2 0 0 0 0 (fun _ => 0) (fun _ => 0) (fun _ => 0) 0 0 (fun _ => 0) (fun _ => 0) (fun _ => 0) (fun _ => 0) (fun _ _ => 0) (fun _ _ => 0) (fun _ _ => 0) (fun _ => 0) (fun _ => 0) (fun _ => 0) 0 0 (fun _ => 0) (fun _ => 0) (fun _ => 0) 0) H locs := hw
  refine lv_astore_n (lv' := [(1, .ref q1), (0, .ref b)]) hx hb dL_law_7 rfl hl (by decide) rfl (fun ls hl => ?_)
  refine va_new (ci := 5) (fs := [.null, .null, .null, .int 0, .null, .int 0, .null, .null, .int 0, .null, .null, .long 0, .null, .int 0, .int 0, .null, .null, .int 0, .int 0]) (C := RX5) (T := TX5) (N := 19) hx hb hts inlX5 tyX5 tyX5_ok hown (hts (.classLink RL 10 RX5) (by decide +kernel)) (hts (.instantiable RX5 19) (by decide +kernel)) (hts (.initialized RX5) (by decide +kernel)) hK hw.1 hw.2.1 hw.2.2 hA rfl (fun j hj => by rcases (show j = 0 ∨ j = 1 ∨ j = 2 ∨ j = 3 ∨ j = 4 ∨ j = 5 ∨ j = 6 ∨ j = 7 ∨ j = 8 ∨ j = 9 ∨ j = 10 ∨ j = 11 ∨ j = 12 ∨ j = 13 ∨ j = 14 ∨ j = 15 ∨ j = 16 ∨ j = 17 ∨ j = 18 by omega) with rfl | rfl | rfl | rfl | rfl | rfl | rfl | rfl | rfl | rfl | rfl | rfl | rfl | rfl | rfl | rfl | rfl | rfl | rfl <;> rfl) (Nat.le_of_ble_eq_true rfl) (Nat.le_of_ble_eq_true rfl) dL_law_8 (fun q2 H hP hD hS => ?_)
  have hw : Wd D (fun q : Nat => s.heap.size ≤ q) s.heap (WLL cI cJ cO (fun _ => q1) u.1 u.2.1 u.2.2.1 u.2.2.2.1 u.2.2.2.2.1 (tx42 42) 0 u.2.2.2.2.2.2.1 u.2.2.2.2.2.2.2.1 u.2.2.2.2.2.2.2.2.1 u.2.2.2.2.2.2.2.2.2.1 u.2.2.2.2.2.2.2.2.2.2.1 u.2.2.2.2.2.2.2.2.2.2.2.1 u.2.2.2.2.2.2.2.2.2.2.2.2 0 0 0 0 (fun _ => 0) (fun _ => 0) (fun _ => 0) 0 0 (fun _ => 0) (fun _ => 0) (fun _ => 0) (fun _ => 0) (fun _ _ => 0) (fun _ _ => 0) (fun _ _ => 0) (fun _ => 0) (fun _ => 0) (fun _ => 0) 0 0 (fun _ => 0) (fun _ => 0) (fun _ => 0) 0 ++ [(q2, .inr (5, [.null, .null, .null, .int 0, .null, .int 0, .null, .null, .int 0, .null, .null, .long 0, .null, .int 0, .int 0, .null, .null, .int 0, .int 0]))]) H locs := ⟨hP, hD, hS⟩
  refine lv_dup hx hb dL_law_11 rfl ?_
  refine zi_callv (wc := [(q2, .inr (5, [.null, .null, .null, .int 0, .null, .int 0, .null, .null, .int 0, .null, .null, .long 0, .null, .int 0, .int 0, .null, .null, .int 0, .int 0]))]) (wr := WLL cI cJ cO (fun _ => q1) u.1 u.2.1 u.2.2.1 u.2.2.2.1 u.2.2.2.2.1 (tx42 42) 0 u.2.2.2.2.2.2.1 u.2.2.2.2.2.2.2.1 u.2.2.2.2.2.2.2.2.1 u.2.2.2.2.2.2.2.2.2.1 u.2.2.2.2.2.2.2.2.2.2.1 u.2.2.2.2.2.2.2.2.2.2.2.1 u.2.2.2.2.2.2.2.2.2.2.2.2 0 0 0 0 (fun _ => 0) (fun _ => 0) (fun _ => 0) 0 0 (fun _ => 0) (fun _ => 0) (fun _ => 0) (fun _ => 0) (fun _ _ => 0) (fun _ _ => 0) (fun _ _ => 0) (fun _ => 0) (fun _ => 0) (fun _ => 0) 0 0 (fun _ => 0) (fun _ => 0) (fun _ => 0) 0) hw hA [44] [0, 1, 2, 3, 4, 5, 6, 7, 8, 9, 10, 11, 12, 13, 14, 15, 16, 17, 18, 19, 20, 21, 22, 23, 24, 25, 26, 27, 28, 29, 30, 31, 32, 33, 34, 35, 36, 37, 38, 39, 40, 41, 42, 43] rfl rfl (by decide +kernel) (by decide +kernel) (va_runI (As := []) (rest := [.ref q2]) ⟨hx, hb, hml, hown, hts⟩ (kX5_init l D cI cJ cO q2 H.size) (cwI 0 hts gL_law_X5_init rfl rfl rfl (hts (.initialized RX5) (by decide +kernel)) (hts (.methodLink RL 12 yX5_init) (by decide +kernel)) (hts (.instanceMethod yX5_init) (by decide +kernel)) rfl (by decide +kernel) ⟨Nat.le_of_ble_eq_true rfl, Nat.le_of_ble_eq_true rfl⟩) (zi_pre (fun _ _ _ _ h => h) (fun _ _ _ => trivial) hN hK hw [44] rfl (by decide)) rfl rfl hl.1 rfl (lv_room (Nat.le_of_ble_eq_true rfl)) dL_law_12 ⟨Nat.le_of_ble_eq_true rfl, Nat.le_of_ble_eq_true rfl⟩) (fun aM H locs hu2 hw => ?_)
  refine lv_astore_n (lv' := [(2, .ref q2), (1, .ref q1), (0, .ref b)]) hx hb dL_law_15 rfl hl (by decide) rfl (fun ls hl => ?_)
  refine lv_iconst (v := 0) hx hb dL_law_16 (by decide) ?_
  refine lv_istore_n (lv' := [(3, .int 0), (2, .ref q2), (1, .ref q1), (0, .ref b)]) hx hb dL_law_17 rfl hl (by decide) rfl (fun ls hl => ?_)
  refine law_loop C1 hr hlocks (L + 1) 0 (Nat.zero_le _) (by omega) H locs ⟨fun _ => q1, u.1, u.2.1, u.2.2.1, u.2.2.2.1, u.2.2.2.2.1, aM, (tx42 42), 0, u.2.2.2.2.2.2.1, u.2.2.2.2.2.2.2.1, u.2.2.2.2.2.2.2.2.1, u.2.2.2.2.2.2.2.2.2.1, u.2.2.2.2.2.2.2.2.2.2.1, u.2.2.2.2.2.2.2.2.2.2.2.1, u.2.2.2.2.2.2.2.2.2.2.2.2, 0, 0, 0, 0, (fun _ => 0), (fun _ => 0), (fun _ => 0), 0, 0, (fun _ => 0), (fun _ => 0), (fun _ => 0), (fun _ => 0), (fun _ _ => 0), (fun _ _ => 0), (fun _ _ => 0), (fun _ => 0), (fun _ => 0), (fun _ => 0), 0, 0, (fun _ => 0), (fun _ => 0), (fun _ => 0), 0, mN8, (fun _ => 0), (fun _ => 0), 0, (fun _ => 0), 0, (fun _ => 0), (fun _ => 0), 0, (fun _ => 0), (fun _ => 0), 0, (fun _ => 0), 0, 0, (fun _ => 0), (fun _ => 0), 0, 0, rfl, hu2, hw, hu, ⟨0, 0, by decide, by decide, rfl, rfl, rfl, fun i hi => absurd hi (by omega)⟩, 0, fun _ => 0, rfl, rfl, by decide, fun i hi => absurd hi (by omega)⟩ ls (lv_sub hl [3, 2, 1, 0] rfl)
