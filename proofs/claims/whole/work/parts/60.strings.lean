/-! the JDK's String over the first text -/
def txB : List Int32 := [110, 54, 59, 98, 57, 44, 97, 98, 59, 98, 54, 44, 97, 98, 99, 59, 98, 53, 44, 99, 100, 59, 98, 52, 44, 100, 101, 59, 98, 51, 44, 102, 59, 98, 50, 44, 101, 102, 59, 107, 52, 59]
def ftx (j : Nat) : Int32 := txB.getD j 0
theorem tx_c : ∀ k, k < 42 → ((ftx k &&& 255).toUInt32 % 65536).toInt32 = ftx k ∧ narrow .char (.int (ftx k)) = .int (ftx k) := by decide +kernel
def SG (k v : Nat) (A : Nat → Prop) (U : State) (H : Heap) : Prop :=
  va_Z "java/lang/String" "COMPACT_STRINGS" "Z" (.int 1) A U H ∧ va_Zq "jdk/internal/util/Preconditions" "SIOOBE_FORMATTER" "Ljava/util/function/BiFunction;" A U H ∧ va_O "java/lang/String" k A U H ∧ va_OF "java/lang/String" "coder" "B" (.int 0) k A U H ∧ va_OF "java/lang/String" "value" "[B" (.ref v) k A U H ∧ va_T .byte v 42 (fun j => .int (ftx j)) A U H
theorem SG.moved {k v : Nat} {A : Nat → Prop} {u U : State} {H : Heap} (hvm : u.vm.Alike U.vm) (h : SG k v A u H) : SG k v A U H := ⟨h.1.moved hvm, h.2.1.moved hvm, h.2.2.1.moved hvm, h.2.2.2.1.moved hvm, h.2.2.2.2.1.moved hvm, h.2.2.2.2.2.moved hvm⟩
theorem SG.kept {k v : Nat} {A : Nat → Prop} {U : State} {H H1 : Heap} (h : SG k v A U H) (hq : ∀ a : Nat, a < H.size → ¬ A a → H1[a]? = H[a]?) : SG k v A U H1 := ⟨h.1.kept hq, h.2.1.kept hq, h.2.2.1.kept hq, h.2.2.2.1.kept hq, h.2.2.2.2.1.kept hq, h.2.2.2.2.2.kept hq⟩
theorem SG.narrow {k v : Nat} {A B : Nat → Prop} {U : State} {H : Heap} (h : SG k v A U H) (hAB : ∀ q, B q → A q) : SG k v B U H := ⟨h.1.narrow hAB, h.2.1.narrow hAB, h.2.2.1.narrow hAB, h.2.2.2.1.narrow hAB, h.2.2.2.2.1.narrow hAB, h.2.2.2.2.2.narrow hAB⟩
abbrev PcS (k v : Nat) (av : List Value) (sz : Nat) : Array Value → State → Prop := va_Pc av (fun U => U.heap.size = sz ∧ SG k v (va_A [] sz) U U.heap)
theorem pcs_blind {k v : Nat} {av : List Value} {sz : Nat} : FrameBlind (PcS k v av sz) := fun a U g mk q => by
  obtain ⟨q0, q1, q2⟩ := q
  exact ⟨q0, q1, SG.moved (u := U) (U := U.calling g mk a) (Vm.Alike.refl U.vm) q2⟩
theorem Wd_nil {D : va_G} {A : Nat → Prop} {H0 H : Heap} {locs : List Loc} (h : va_S A H0 H locs) : Wd D A H0 [] H locs := ⟨fun k q hq => by simp at hq, ⟨fun i j p q hp => by simp at hp, fun k q hq => by simp at hq⟩, h⟩
theorem sg_at {k v : Nat} {A : Nat → Prop} {s U : State} {H : Heap} {locs : List Loc} (h : SG k v A s s.heap) (hS : va_S A s.heap H locs) (hA : ∀ q, s.heap.size ≤ q → A q) (hU : U.heap = H) (hW : s.WarmedH U.vm) : SG k v (va_A [] H.size) U U.heap := by
  rw [hU]
  exact ((h.kept hS.2.1).narrow (fun q hq => by
    rcases hq with ⟨k, e, hk⟩ | hq
    · simp at hk
    · exact hA q (Nat.le_trans hS.1 hq))).moved hW.alike
section ZS
variable {p : Program} {l : Launch} {e : Env} {R : Room} {s : State} {m : MethodId} {args : Array Value} {below : List Frame} {meth : Method} {c : Code} {H : Heap} {locs : List Loc} {D : va_G} {A : Nat → Prop} {k v : Nat} {As : List Value} {b : Nat}
theorem zs_preS (hG : SG k v A s s.heap) (hS : va_S A s.heap H locs) (hA : ∀ q, s.heap.size ≤ q → A q) : PreS s H (PcS k v As H.size) As :=
  ⟨pcs_blind, fun U hU hW => ⟨rfl, by rw [hU], sg_at hG hS hA hU hW⟩⟩
theorem zs_preV (hG : SG k v A s s.heap) (hS : va_S A s.heap H locs) (hA : ∀ q, s.heap.size ≤ q → A q) : PreV s H "java/lang/String" k (PcS k v (.ref k :: As) H.size) As := by
  refine ⟨pcs_blind, ?_, fun U hU hW => ⟨rfl, by rw [hU], sg_at hG hS hA hU hW⟩⟩
  obtain ⟨cell, h1, h2, h3, -⟩ := hG.2.2.1.kept hS.2.1
  exact ⟨cell, h1, h2, h3⟩
end ZS
theorem zs_enter {l : Launch} {y : MethodName} {wc wc' : List Cond} {rm : Room} {D : va_G} {av : List Value} {k v : Nat} {cc : ByteArray} {maxL : Nat} {ret : Option FieldType} {own : String} {Qf : (Nat → Prop) → Array Value → State → Outcome → State → Prop} (hy : plainName y.cls = true) (hwc : wc = Cond.code y cc maxL ret :: wc') (ho : y.cls = own) (hlen : (lg_sl av).length ≤ maxL)
    (body : ∀ (p : Program) (e : Env) (s : State) (m : MethodId) (args : Array Value) (below : List Frame) (meth : Method) (c : Code) (A : Nat → Prop) (Q : State → Prop) (H : Heap) (locs : List Loc) (ls : Array Slot), (p.tables.exec = Jvm.exec ∧ c.code = cc ∧ c.maxLocals = maxL ∧ meth.sig.returnType = ret ∧ (∀ w ∈ wc, w.before args s = true) ∧ s.vm.findClass own = some m.cls ∧ meth.locks = false ∧ (∀ q, s.heap.size ≤ q → A q) ∧ SG k v A s s.heap) → Q = MQ below (Qf A) args s 0 0 A → Wd D A s.heap [] H locs → lv_has ls maxL (lv_args 0 av) → W p l e rm s m args below meth c H locs 0 0 Q (F0 m 0 ls []))
    (sz : Nat) : Met l y wc rm (PcS k v av sz) (Qf (va_A [] sz)) 0 0 (va_A [] sz) := by
  refine Met.ofW (cc := cc) (maxL := maxL) (ret := ret) hy hwc ?_
  intro p e s m args below meth c s₁ B hml hv
  obtain ⟨rfl, hsz, hG⟩ := hv
  subst hsz
  subst ho
  rw [lg_entry_eq]
  exact body p e s m _ below meth c _ _ _ _ _ ⟨B.exec, B.bytes, hml, B.returns, atoms_spec (ws := wc) B.pre, findClass_of_methodNamed B.named, B.notSynchronized, fun q h => Or.inr h, hG⟩ rfl (Wd_nil va_S.rf) (lv_entry av hlen)
section ZT
variable (l : Launch) (D : va_G) (k v : Nat)
set_option maxHeartbeats 4000000 in
set_option maxRecDepth 100000 in
theorem kJ0_coder (sz : Nat) : Met l yJ0_coder_7d493 wsJ0_coder_7d493 (zk_rm 0 0) (PcS k v [.ref k] sz) (QwI D [] 0 (va_A [] sz)) 0 0 (va_A [] sz) := by
  refine zs_enter (D := D) (cc := cJ0_coder_7d493) (maxL := 1) (ret := some .byte) (own := RJ0) (Qf := fun A => QwI D [] 0 A) (by decide) rfl rfl (Nat.le_of_ble_eq_true rfl) ?_ sz
  intro p e s m args below meth c A Q H locs ls hC hQ hw hl
  obtain ⟨hx, hb, hml, hr, hts, hown, hlocks, hA, hG⟩ := hC
  have hl : lv_has ls 1 [(0, .ref k)] := hl
  refine va_gets hx hb hG.1 hw.2.2 hown (hts (.fieldLink RJ0 38 "java/lang/String" "COMPACT_STRINGS" "Z") (by decide +kernel)) (fun _ h => h) dJ0_coder_7d493_0 ?_
  refine lv_if_eq (tgt := 13) hx hb dJ0_coder_7d493_3 (by decide) (fun c1 => absurd c1 (by decide)) (fun _ => ?_)
  refine lv_aload_n hx hb dJ0_coder_7d493_6 rfl (lv_at hl 0 rfl) ?_
  refine vk_getf hx hb hG.2.2.2.1 hw.2.2 hown (hts (.fieldLink RJ0 15 "java/lang/String" "coder" "B") (by decide +kernel)) (fun _ h => h) dJ0_coder_7d493_7 ?_
  refine lv_goto (tgt := 14) hx hb dJ0_coder_7d493_10 (by decide) ?_
  exact zk_iret hx hb hr hlocks rfl hQ hw [] rfl (by decide) dJ0_coder_7d493_14
set_option maxHeartbeats 4000000 in
set_option maxRecDepth 100000 in
theorem kJ0_isLatin1 (sz : Nat) : Met l yJ0_isLatin1_aae02 wsJ0_isLatin1_aae02 (zk_rm 0 0) (PcS k v [.ref k] sz) (QwI D [] 1 (va_A [] sz)) 0 0 (va_A [] sz) := by
  refine zs_enter (D := D) (cc := cJ0_isLatin1_aae02) (maxL := 1) (ret := some .boolean) (own := RJ0) (Qf := fun A => QwI D [] 1 A) (by decide) rfl rfl (Nat.le_of_ble_eq_true rfl) ?_ sz
  intro p e s m args below meth c A Q H locs ls hC hQ hw hl
  obtain ⟨hx, hb, hml, hr, hts, hown, hlocks, hA, hG⟩ := hC
  have hl : lv_has ls 1 [(0, .ref k)] := hl
  refine va_gets hx hb hG.1 hw.2.2 hown (hts (.fieldLink RJ0 38 "java/lang/String" "COMPACT_STRINGS" "Z") (by decide +kernel)) (fun _ h => h) dJ0_isLatin1_aae02_0 ?_
  refine lv_if_eq (tgt := 17) hx hb dJ0_isLatin1_aae02_3 (by decide) (fun c1 => absurd c1 (by decide)) (fun _ => ?_)
  refine lv_aload_n hx hb dJ0_isLatin1_aae02_6 rfl (lv_at hl 0 rfl) ?_
  refine vk_getf hx hb hG.2.2.2.1 hw.2.2 hown (hts (.fieldLink RJ0 15 "java/lang/String" "coder" "B") (by decide +kernel)) (fun _ h => h) dJ0_isLatin1_aae02_7 ?_
  refine lv_if_ne (tgt := 17) hx hb dJ0_isLatin1_aae02_10 (by decide) (fun c1 => absurd rfl c1) (fun _ => ?_)
  refine lv_iconst (v := 1) hx hb dJ0_isLatin1_aae02_13 (by decide) ?_
  refine lv_goto (tgt := 18) hx hb dJ0_isLatin1_aae02_14 (by decide) ?_
  exact zk_iret hx hb hr hlocks rfl hQ hw [] rfl (by decide) dJ0_isLatin1_aae02_18
set_option maxHeartbeats 4000000 in
set_option maxRecDepth 100000 in
theorem kJ0_length (sz : Nat) : Met l yJ0_length_8abf5 wsJ0_length_8abf5 (zk_rm 1 20) (PcS k v [.ref k] sz) (QwI D [] 42 (va_A [] sz)) 0 0 (va_A [] sz) := by
  refine zs_enter (D := D) (cc := cJ0_length_8abf5) (maxL := 1) (ret := some .int) (own := RJ0) (Qf := fun A => QwI D [] 42 A) (by decide) rfl rfl (Nat.le_of_ble_eq_true rfl) ?_ sz
  intro p e s m args below meth c A Q H locs ls hC hQ hw hl
  obtain ⟨hx, hb, hml, hr, hts, hown, hlocks, hA, hG⟩ := hC
  have hl : lv_has ls 1 [(0, .ref k)] := hl
  refine lv_aload_n hx hb dJ0_length_8abf5_0 rfl (lv_at hl 0 rfl) ?_
  refine vk_getf hx hb hG.2.2.2.2.1 hw.2.2 hown (hts (.fieldLink RJ0 9 "java/lang/String" "value" "[B") (by decide +kernel)) (fun _ h => h) dJ0_length_8abf5_1 ?_
  refine va_tlen (v := 42) hx hb hG.2.2.2.2.2 hw.2.2 rfl dJ0_length_8abf5_4 ?_
  refine lv_aload_n hx hb dJ0_length_8abf5_5 rfl (lv_at hl 0 rfl) ?_
  refine zk_calli (wc := []) (wr := []) hw hA [] [] rfl rfl (by decide) (by decide) (va_runV (C := RJ0) (As := []) (rest := [.int 42]) ⟨hx, hb, hml, hown, hts⟩ (kJ0_coder l D k v H.size) (cwV 0 hts gJ0_length_8abf5_J0_coder_7d493 rfl rfl rfl (by decide +kernel) ⟨Nat.le_of_ble_eq_true rfl, Nat.le_of_ble_eq_true rfl⟩) (zs_preV hG hw.2.2 hA) rfl rfl hl.1 rfl (lv_room (Nat.le_of_ble_eq_true rfl)) dJ0_length_8abf5_6 ⟨Nat.zero_le _, Nat.zero_le _⟩) (fun H locs hw => ?_)
  have hw : Wd D A s.heap [] H locs := hw
  refine lv_ishr hx hb dJ0_length_8abf5_9 ?_
  exact zk_iret (v := 42) hx hb hr hlocks rfl hQ hw [] rfl (by decide) dJ0_length_8abf5_10
set_option maxHeartbeats 4000000 in
set_option maxRecDepth 100000 in
theorem kJ3_check (i : Nat) (hi : i < 42) (x : Value) (hxv : x = .null ∨ ∃ t, x = .ref t) (sz : Nat) : Met l yJ3_checkIndex_8e157 wsJ3_checkIndex_8e157 (zk_rm 0 0) (PcS k v [.int (nI i), .int 42, x] sz) (QwI D [] (nI i) (va_A [] sz)) 0 0 (va_A [] sz) := by
  have hq : ∃ w : List (Nat × Value), lv_args 0 [.int (nI i), .int 42, x] = (0, .int (nI i)) :: (1, .int 42) :: w ∧ (lg_sl [.int (nI i), .int 42, x]).length ≤ 3 := by
    rcases hxv with rfl | ⟨t, rfl⟩
    · exact ⟨_, rfl, Nat.le_of_ble_eq_true rfl⟩
    · exact ⟨_, rfl, Nat.le_of_ble_eq_true rfl⟩
  obtain ⟨w, hw1, hw2⟩ := hq
  refine zs_enter (D := D) (cc := cJ3_checkIndex_8e157) (maxL := 3) (ret := some .int) (own := RJ3) (Qf := fun A => QwI D [] (nI i) A) (by decide) rfl rfl hw2 ?_ sz
  intro p e s m args below meth c A Q H locs ls hC hQ hw hl
  obtain ⟨hx, hb, hml, hr, hts, hown, hlocks, hA, hG⟩ := hC
  rw [hw1] at hl
  refine lv_iload_n hx hb dJ3_checkIndex_8e157_0 rfl (lv_at hl 0 rfl) ?_
  refine lv_if_lt (tgt := 9) hx hb dJ3_checkIndex_8e157_1 (by decide) (fun c1 => absurd c1 (nI_pos (by omega))) (fun _ => ?_)
  refine lv_iload_n hx hb dJ3_checkIndex_8e157_4 rfl (lv_at hl 0 rfl) ?_
  refine lv_iload_n hx hb dJ3_checkIndex_8e157_5 rfl (lv_at hl 1 rfl) ?_
  refine lv_icmp_lt (tgt := 16) hx hb dJ3_checkIndex_8e157_6 (by decide) (fun _ => ?_) (fun c1 => absurd (show nI i < 42 from nI_lt (b := 42) hi (by omega)) c1)
  refine lv_iload_n hx hb dJ3_checkIndex_8e157_16 rfl (lv_at hl 0 rfl) ?_
  exact zk_iret hx hb hr hlocks rfl hQ hw [] rfl (by decide) dJ3_checkIndex_8e157_17
set_option maxHeartbeats 4000000 in
set_option maxRecDepth 100000 in
theorem kJ0_check (i : Nat) (hi : i < 42) (sz : Nat) : Met l yJ0_checkIndex_df160 wsJ0_checkIndex_df160 (zk_rm 1 22) (PcS k v [.int (nI i), .int 42] sz) (QwV D [] (va_A [] sz)) 0 0 (va_A [] sz) := by
  refine zs_enter (D := D) (cc := cJ0_checkIndex_df160) (maxL := 2) (ret := none) (own := RJ0) (Qf := fun A => QwV D [] A) (by decide) rfl rfl (Nat.le_of_ble_eq_true rfl) ?_ sz
  intro p e s m args below meth c A Q H locs ls hC hQ hw hl
  obtain ⟨hx, hb, hml, hr, hts, hown, hlocks, hA, hG⟩ := hC
  have hl : lv_has ls 2 [(0, .int (nI i)), (1, .int 42)] := hl
  refine lv_iload_n hx hb dJ0_checkIndex_df160_0 rfl (lv_at hl 0 rfl) ?_
  refine lv_iload_n hx hb dJ0_checkIndex_df160_1 rfl (lv_at hl 1 rfl) ?_
  have fin : ∀ x : Value, (x = .null ∨ ∃ t, x = .ref t) → va_Z "jdk/internal/util/Preconditions" "SIOOBE_FORMATTER" "Ljava/util/function/BiFunction;" x A s s.heap → W p l e (zk_rm 1 22) s m args below meth c H locs 0 0 Q (F0 m 2 ls [.int 42, .int (nI i)]) := fun x hxv hZ => by
    refine va_gets hx hb hZ hw.2.2 hown (hts (.fieldLink RJ0 1053 "jdk/internal/util/Preconditions" "SIOOBE_FORMATTER" "Ljava/util/function/BiFunction;") (by decide +kernel)) (fun _ h => h) dJ0_checkIndex_df160_2 ?_
    refine zk_calli (wc := []) (wr := []) hw hA [] [] rfl rfl (by decide) (by decide) (va_runS (As := [.int (nI i), .int 42, x]) (rest := []) ⟨hx, hb, hml, hown, hts⟩ (kJ3_check l D k v i hi x hxv H.size) (va_cwS 3 hts gJ0_checkIndex_df160_J3_checkIndex_8e157 rfl rfl rfl (by decide +kernel) ⟨Nat.le_of_ble_eq_true rfl, Nat.le_of_ble_eq_true rfl⟩) (zs_preS hG hw.2.2 hA) rfl rfl hl.1 rfl (lv_room (Nat.le_of_ble_eq_true rfl)) dJ0_checkIndex_df160_5 ⟨Nat.zero_le _, Nat.zero_le _⟩) (fun H locs hw => ?_)
    have hw : Wd D A s.heap [] H locs := hw
    refine lv_pop hx hb dJ0_checkIndex_df160_8 rfl ?_
    exact zk_vret hx hb hr hlocks hQ hw [] rfl (by decide) dJ0_checkIndex_df160_9
  rcases hG.2.1 with hZ | ⟨t, hZ⟩
  · exact fin _ (Or.inl rfl) hZ
  · exact fin _ (Or.inr ⟨t, rfl⟩) hZ
set_option maxHeartbeats 4000000 in
set_option maxRecDepth 100000 in
theorem kJ1_charAt (i : Nat) (hi : i < 42) (sz : Nat) : Met l yJ1_charAt_3b067 wsJ1_charAt_3b067 (zk_rm 2 43) (PcS k v [.ref v, .int (nI i)] sz) (QwI D [] (ftx i) (va_A [] sz)) 0 0 (va_A [] sz) := by
  refine zs_enter (D := D) (cc := cJ1_charAt_3b067) (maxL := 2) (ret := some .char) (own := RJ1) (Qf := fun A => QwI D [] (ftx i) A) (by decide) rfl rfl (Nat.le_of_ble_eq_true rfl) ?_ sz
  intro p e s m args below meth c A Q H locs ls hC hQ hw hl
  obtain ⟨hx, hb, hml, hr, hts, hown, hlocks, hA, hG⟩ := hC
  have hl : lv_has ls 2 [(0, .ref v), (1, .int (nI i))] := hl
  refine lv_iload_n hx hb dJ1_charAt_3b067_0 rfl (lv_at hl 1 rfl) ?_
  refine lv_aload_n hx hb dJ1_charAt_3b067_1 rfl (lv_at hl 0 rfl) ?_
  refine va_tlen (v := 42) hx hb hG.2.2.2.2.2 hw.2.2 rfl dJ1_charAt_3b067_2 ?_
  refine zk_callv (wc := []) (wr := []) hw hA [] [] rfl rfl (by decide) (by decide) (va_runS (As := [.int (nI i), .int 42]) (rest := []) ⟨hx, hb, hml, hown, hts⟩ (kJ0_check l D k v i hi H.size) (va_cwS 2 hts gJ1_charAt_3b067_J0_checkIndex_df160 rfl rfl rfl (by decide +kernel) ⟨Nat.le_of_ble_eq_true rfl, Nat.le_of_ble_eq_true rfl⟩) (zs_preS hG hw.2.2 hA) rfl rfl hl.1 rfl (lv_room (Nat.le_of_ble_eq_true rfl)) dJ1_charAt_3b067_3 ⟨Nat.zero_le _, Nat.zero_le _⟩) (fun H locs hw => ?_)
  have hw : Wd D A s.heap [] H locs := hw
  refine lv_aload_n hx hb dJ1_charAt_3b067_6 rfl (lv_at hl 0 rfl) ?_
  refine lv_iload_n hx hb dJ1_charAt_3b067_7 rfl (lv_at hl 1 rfl) ?_
  refine va_tb (v := .int (ftx i)) hx hb hG.2.2.2.2.2 hw.2.2 (vp_in_nI hi (by omega)) (by rw [nI_clamp (by omega)]) dJ1_charAt_3b067_8 ?_
  refine lv_sipush (v := 255) hx hb dJ1_charAt_3b067_9 (by decide) ?_
  refine lv_iand hx hb dJ1_charAt_3b067_12 ?_
  refine lv_i2c (v := ftx i) hx hb dJ1_charAt_3b067_13 (tx_c i hi).1 ?_
  exact zk_iret hx hb hr hlocks (tx_c i hi).2 hQ hw [] rfl (by decide) dJ1_charAt_3b067_14
set_option maxHeartbeats 4000000 in
set_option maxRecDepth 100000 in
theorem kJ0_charAt (i : Nat) (hi : i < 42) (sz : Nat) : Met l yJ0_charAt_5068e wsJ0_charAt_5068e (zk_rm 3 64) (PcS k v [.ref k, .int (nI i)] sz) (QwI D [] (ftx i) (va_A [] sz)) 0 0 (va_A [] sz) := by
  refine zs_enter (D := D) (cc := cJ0_charAt_5068e) (maxL := 2) (ret := some .char) (own := RJ0) (Qf := fun A => QwI D [] (ftx i) A) (by decide) rfl rfl (Nat.le_of_ble_eq_true rfl) ?_ sz
  intro p e s m args below meth c A Q H locs ls hC hQ hw hl
  obtain ⟨hx, hb, hml, hr, hts, hown, hlocks, hA, hG⟩ := hC
  have hl : lv_has ls 2 [(0, .ref k), (1, .int (nI i))] := hl
  refine lv_aload_n hx hb dJ0_charAt_5068e_0 rfl (lv_at hl 0 rfl) ?_
  refine zk_calli (wc := []) (wr := []) hw hA [] [] rfl rfl (by decide) (by decide) (va_runV (C := RJ0) (As := []) (rest := []) ⟨hx, hb, hml, hown, hts⟩ (kJ0_isLatin1 l D k v H.size) (cwV 0 hts gJ0_charAt_5068e_J0_isLatin1_aae02 rfl rfl rfl (by decide +kernel) ⟨Nat.le_of_ble_eq_true rfl, Nat.le_of_ble_eq_true rfl⟩) (zs_preV hG hw.2.2 hA) rfl rfl hl.1 rfl (lv_room (Nat.le_of_ble_eq_true rfl)) dJ0_charAt_5068e_1 ⟨Nat.zero_le _, Nat.zero_le _⟩) (fun H locs hw => ?_)
  have hw : Wd D A s.heap [] H locs := hw
  refine lv_if_eq (tgt := 16) hx hb dJ0_charAt_5068e_4 (by decide) (fun c1 => absurd c1 (by decide)) (fun _ => ?_)
  refine lv_aload_n hx hb dJ0_charAt_5068e_7 rfl (lv_at hl 0 rfl) ?_
  refine vk_getf hx hb hG.2.2.2.2.1 hw.2.2 hown (hts (.fieldLink RJ0 9 "java/lang/String" "value" "[B") (by decide +kernel)) (fun _ h => h) dJ0_charAt_5068e_8 ?_
  refine lv_iload_n hx hb dJ0_charAt_5068e_11 rfl (lv_at hl 1 rfl) ?_
  refine zk_calli (wc := []) (wr := []) hw hA [] [] rfl rfl (by decide) (by decide) (va_runS (As := [.ref v, .int (nI i)]) (rest := []) ⟨hx, hb, hml, hown, hts⟩ (kJ1_charAt l D k v i hi H.size) (va_cwS 2 hts gJ0_charAt_5068e_J1_charAt_3b067 rfl rfl rfl (by decide +kernel) ⟨Nat.le_of_ble_eq_true rfl, Nat.le_of_ble_eq_true rfl⟩) (zs_preS hG hw.2.2 hA) rfl rfl hl.1 rfl (lv_room (Nat.le_of_ble_eq_true rfl)) dJ0_charAt_5068e_12 ⟨Nat.zero_le _, Nat.zero_le _⟩) (fun H locs hw => ?_)
  have hw : Wd D A s.heap [] H locs := hw
  exact zk_iret hx hb hr hlocks (tx_c i hi).2 hQ hw [] rfl (by decide) dJ0_charAt_5068e_15
end ZT
