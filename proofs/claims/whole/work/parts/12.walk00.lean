set_option maxHeartbeats 4000000 in
set_option maxRecDepth 100000 in
theorem kX0_beginWith (l : Launch) (D : va_G) (cI cJ cO : ClassId) (N : Nat) (aC : Nat → Nat) (p0 : Int32) (Ccandidates : Int32) (Cballots : Int32) (Cseats : Int32) (Cwithdrawn : Int32) (Cvoters : Nat → Int32) (Csets : Nat → Int32) (Crank : Nat → Int32) (u : (Int32) × (Int32) × (Int32) × (Int32) × (Nat → Int32)) (hf : fX0_beginWith N p0 Ccandidates Cballots Cseats Cwithdrawn Crank = some u) : CtV l yX0_beginWith wsX0_beginWith (zk_rm 0 0) D cI cJ cO [.ref (aC 0), .int p0] (zwC cI aC Ccandidates Cballots Cseats Cwithdrawn Cvoters Csets Crank) (zwC cI aC u.1 u.2.1 u.2.2.1 u.2.2.2.1 Cvoters Csets u.2.2.2.2) := by
  refine zk_enter (cc := cX0_beginWith) (maxL := 3) (ret := none) (own := RX0) (Qf := fun A => QwV D (zwC cI aC u.1 u.2.1 u.2.2.1 u.2.2.2.1 Cvoters Csets u.2.2.2.2) A) (by decide) rfl rfl (Nat.le_of_ble_eq_true rfl) ?_
  intro p e s m args below meth c A Q H locs ls hC hQ hw hl
  obtain ⟨hx, hb, hml, hr, hts, hown, hlocks, hN, hK, hA⟩ := hC
  have hl : lv_has ls 3 [(0, .ref (aC 0)), (1, .int p0)] := hl
  have hiX0 : ∀ w ∈ u_ws RX0 TX0 7, w ∈ wsX0_beginWith := by decide +kernel
  have hq0 := hts (.fieldLink RX0 18 "LoadCouncil$Council" "rank" "[I") (by decide +kernel)
  have hq1 := hts (.fieldLink RX0 21 "LoadCouncil$Council" "candidates" "I") (by decide +kernel)
  have hq2 := hts (.fieldLink RX0 25 "LoadCouncil$Council" "ballots" "I") (by decide +kernel)
  have hq3 := hts (.fieldLink RX0 28 "LoadCouncil$Council" "seats" "I") (by decide +kernel)
  have hq4 := hts (.fieldLink RX0 31 "LoadCouncil$Council" "withdrawn" "I") (by decide +kernel)
  have b22 : ∀ (n22 : Nat), ∀ (x2 : Int32) (Ccandidates : Int32) (Cballots : Int32) (Cseats : Int32) (Cwithdrawn : Int32) (Crank : Nat → Int32), fX0_beginWith_b22 N n22 x2 Ccandidates Cballots Cseats Cwithdrawn Crank = some u → ∀ (H : Heap) (locs : List Loc) (ls : Array Slot), Wd D A s.heap (zwC cI aC Ccandidates Cballots Cseats Cwithdrawn Cvoters Csets Crank) H locs → lv_has ls 3 [(0, .ref (aC 0)), (2, .int x2)] → W p l e (zk_rm 0 0) s m args below meth c H locs 0 0 Q (F0 m 22 ls []) := by
    intro n22
    induction n22 with
    | zero =>
      intro x2 Ccandidates Cballots Cseats Cwithdrawn Crank hf
      exact zk_none hf
    | succ n22 ih22 =>
      intro x2 Ccandidates Cballots Cseats Cwithdrawn Crank hf H locs ls hw hl
      rw [fX0_beginWith_b22] at hf
      refine lv_iload_n hx hb dX0_beginWith_22 rfl (lv_at hl 1 rfl) ?_
      refine lv_bipush (v := 8) hx hb dX0_beginWith_23 (by decide) ?_
      refine lv_icmp_ge (tgt := 41) hx hb dX0_beginWith_25 (by decide) (fun c1 => ?_) (fun c1 => ?_)
      · replace hf := zk_t c1 hf
        cases hf
        exact zk_vret hx hb hr hlocks hQ hw [0, 1, 2, 3] rfl (by decide) dX0_beginWith_41
      · replace hf := zk_f c1 hf
        refine lv_aload_n hx hb dX0_beginWith_28 rfl (lv_at hl 0 rfl) ?_
        refine va_get (D := D) (ci := 0) (v := .ref (aC 3)) (C := RX0) (T := TX0) (N := 7) hx hb hts hiX0 hown hK hw.1 0 rfl rfl 6 (by decide) hq0 (fun _ h9 => h9) rfl dX0_beginWith_29 ?_
        refine lv_iload_n hx hb dX0_beginWith_32 rfl (lv_at hl 1 rfl) ?_
        refine lv_iload_n hx hb dX0_beginWith_33 rfl (lv_at hl 1 rfl) ?_
        obtain ⟨h2, hf⟩ := zk_ck hf
        refine zk_iast hx hb hK hw 3 rfl h2 (j := x2.toNatClampNeg) rfl dX0_beginWith_34 (fun H locs hw => ?_)
        have hw : Wd D A s.heap (zwC cI aC Ccandidates Cballots Cseats Cwithdrawn Cvoters Csets (upd Crank x2.toNatClampNeg x2)) H locs := hw
        refine lv_iinc (v := (x2 + (1 : Int32))) (lv' := [(2, .int (x2 + (1 : Int32))), (0, .ref (aC 0))]) hx hb dX0_beginWith_35 hl (k := 1) rfl rfl (by decide) rfl (fun ls hl => ?_)
        refine lv_goto (tgt := 22) hx hb dX0_beginWith_38 (by decide) ?_
        exact ih22 (x2 + (1 : Int32)) Ccandidates Cballots Cseats Cwithdrawn (upd Crank x2.toNatClampNeg x2) hf H locs ls hw (lv_sub hl [1, 0] rfl)
  unfold fX0_beginWith at hf
  refine lv_aload_n hx hb dX0_beginWith_0 rfl (lv_at hl 0 rfl) ?_
  refine lv_iload_n hx hb dX0_beginWith_1 rfl (lv_at hl 1 rfl) ?_
  refine va_put (D := D) (ci := 0) (v := .int p0) (C := RX0) (T := TX0) (N := 7) hx hb hts hiX0 tyX0 tyX0_ok nmX0 hown hK hw.1 hw.2.1 hw.2.2 0 rfl rfl 0 (by decide) hq1 (fun _ h9 => h9) rfl (tyX0_ok 0 (by decide)) rfl rfl (Nat.le_of_ble_eq_true rfl) dX0_beginWith_2 (fun H locs hP hD hS => ?_)
  have hw : Wd D A s.heap (zwC cI aC p0 Cballots Cseats Cwithdrawn Cvoters Csets Crank) H locs := ⟨hP, hD, hS⟩
  clear hP hD hS
  refine lv_aload_n hx hb dX0_beginWith_5 rfl (lv_at hl 0 rfl) ?_
  refine lv_iconst (v := 0) hx hb dX0_beginWith_6 (by decide) ?_
  refine va_put (D := D) (ci := 0) (v := .int (0 : Int32)) (C := RX0) (T := TX0) (N := 7) hx hb hts hiX0 tyX0 tyX0_ok nmX0 hown hK hw.1 hw.2.1 hw.2.2 0 rfl rfl 1 (by decide) hq2 (fun _ h9 => h9) rfl (tyX0_ok 1 (by decide)) rfl rfl (Nat.le_of_ble_eq_true rfl) dX0_beginWith_7 (fun H locs hP hD hS => ?_)
  have hw : Wd D A s.heap (zwC cI aC p0 (0 : Int32) Cseats Cwithdrawn Cvoters Csets Crank) H locs := ⟨hP, hD, hS⟩
  clear hP hD hS
  refine lv_aload_n hx hb dX0_beginWith_10 rfl (lv_at hl 0 rfl) ?_
  refine lv_iconst (v := 3) hx hb dX0_beginWith_11 (by decide) ?_
  refine va_put (D := D) (ci := 0) (v := .int (3 : Int32)) (C := RX0) (T := TX0) (N := 7) hx hb hts hiX0 tyX0 tyX0_ok nmX0 hown hK hw.1 hw.2.1 hw.2.2 0 rfl rfl 2 (by decide) hq3 (fun _ h9 => h9) rfl (tyX0_ok 2 (by decide)) rfl rfl (Nat.le_of_ble_eq_true rfl) dX0_beginWith_12 (fun H locs hP hD hS => ?_)
  have hw : Wd D A s.heap (zwC cI aC p0 (0 : Int32) (3 : Int32) Cwithdrawn Cvoters Csets Crank) H locs := ⟨hP, hD, hS⟩
  clear hP hD hS
  refine lv_aload_n hx hb dX0_beginWith_15 rfl (lv_at hl 0 rfl) ?_
  refine lv_iconst (v := 0) hx hb dX0_beginWith_16 (by decide) ?_
  refine va_put (D := D) (ci := 0) (v := .int (0 : Int32)) (C := RX0) (T := TX0) (N := 7) hx hb hts hiX0 tyX0 tyX0_ok nmX0 hown hK hw.1 hw.2.1 hw.2.2 0 rfl rfl 3 (by decide) hq4 (fun _ h9 => h9) rfl (tyX0_ok 3 (by decide)) rfl rfl (Nat.le_of_ble_eq_true rfl) dX0_beginWith_17 (fun H locs hP hD hS => ?_)
  have hw : Wd D A s.heap (zwC cI aC p0 (0 : Int32) (3 : Int32) (0 : Int32) Cvoters Csets Crank) H locs := ⟨hP, hD, hS⟩
  clear hP hD hS
  refine lv_iconst (v := 0) hx hb dX0_beginWith_20 (by decide) ?_
  refine lv_istore_n (lv' := [(2, .int (0 : Int32)), (0, .ref (aC 0)), (1, .int p0)]) hx hb dX0_beginWith_21 rfl hl (by decide) rfl (fun ls hl => ?_)
  exact b22 N (0 : Int32) p0 (0 : Int32) (3 : Int32) (0 : Int32) Crank hf H locs ls hw (lv_sub hl [1, 0] rfl)
set_option maxHeartbeats 4000000 in
set_option maxRecDepth 100000 in
theorem kX0_copyFrom (l : Launch) (D : va_G) (cI cJ cO : ClassId) (N : Nat) (aC aD : Nat → Nat) (Ccandidates : Int32) (Cballots : Int32) (Cseats : Int32) (Cwithdrawn : Int32) (Cvoters : Nat → Int32) (Csets : Nat → Int32) (Crank : Nat → Int32) (Dcandidates : Int32) (Dballots : Int32) (Dseats : Int32) (Dwithdrawn : Int32) (Dvoters : Nat → Int32) (Dsets : Nat → Int32) (Drank : Nat → Int32) (u : (Int32) × (Int32) × (Int32) × (Int32) × (Nat → Int32) × (Nat → Int32) × (Nat → Int32)) (hf : fX0_copyFrom N Ccandidates Cballots Cseats Cwithdrawn Cvoters Csets Crank Dcandidates Dballots Dseats Dwithdrawn Dvoters Dsets Drank = some u) : CtV l yX0_copyFrom wsX0_copyFrom (zk_rm 1 60) D cI cJ cO [.ref (aC 0), .ref (aD 0)] (zwC cI aC Ccandidates Cballots Cseats Cwithdrawn Cvoters Csets Crank ++ (zwC cI aD Dcandidates Dballots Dseats Dwithdrawn Dvoters Dsets Drank)) (zwC cI aC u.1 u.2.1 u.2.2.1 u.2.2.2.1 u.2.2.2.2.1 u.2.2.2.2.2.1 u.2.2.2.2.2.2 ++ (zwC cI aD Dcandidates Dballots Dseats Dwithdrawn Dvoters Dsets Drank)) := by
  refine zk_enter (cc := cX0_copyFrom) (maxL := 2) (ret := none) (own := RX0) (Qf := fun A => QwV D (zwC cI aC u.1 u.2.1 u.2.2.1 u.2.2.2.1 u.2.2.2.2.1 u.2.2.2.2.2.1 u.2.2.2.2.2.2 ++ (zwC cI aD Dcandidates Dballots Dseats Dwithdrawn Dvoters Dsets Drank)) A) (by decide) rfl rfl (Nat.le_of_ble_eq_true rfl) ?_
  intro p e s m args below meth c A Q H locs ls hC hQ hw hl
  obtain ⟨hx, hb, hml, hr, hts, hown, hlocks, hN, hK, hA⟩ := hC
  have hl : lv_has ls 2 [(0, .ref (aC 0)), (1, .ref (aD 0))] := hl
  have hiX0 : ∀ w ∈ u_ws RX0 TX0 7, w ∈ wsX0_copyFrom := by decide +kernel
  have hq0 := hts (.fieldLink RX0 21 "LoadCouncil$Council" "candidates" "I") (by decide +kernel)
  have hq1 := hts (.fieldLink RX0 25 "LoadCouncil$Council" "ballots" "I") (by decide +kernel)
  have hq2 := hts (.fieldLink RX0 28 "LoadCouncil$Council" "seats" "I") (by decide +kernel)
  have hq3 := hts (.fieldLink RX0 31 "LoadCouncil$Council" "withdrawn" "I") (by decide +kernel)
  have hq4 := hts (.fieldLink RX0 9 "LoadCouncil$Council" "voters" "[I") (by decide +kernel)
  have hq5 := hts (.methodLink RX0 34 arraycopyName) (by decide +kernel)
  have hq6 := hts (.native arraycopyName) (by decide +kernel)
  have hq7 := hts (.static arraycopyName) (by decide +kernel)
  have hq8 := hts (.initialized "java/lang/System") (by decide +kernel)
  have hq9 := hts (.fieldLink RX0 15 "LoadCouncil$Council" "sets" "[I") (by decide +kernel)
  have hq10 := hts (.fieldLink RX0 18 "LoadCouncil$Council" "rank" "[I") (by decide +kernel)
  unfold fX0_copyFrom at hf
  refine lv_aload_n hx hb dX0_copyFrom_0 rfl (lv_at hl 0 rfl) ?_
  refine lv_aload_n hx hb dX0_copyFrom_1 rfl (lv_at hl 1 rfl) ?_
  refine va_get (D := D) (ci := 0) (v := .int Dcandidates) (C := RX0) (T := TX0) (N := 7) hx hb hts hiX0 hown hK hw.1 4 rfl rfl 0 (by decide) hq0 (fun _ h9 => h9) rfl dX0_copyFrom_2 ?_
  refine va_put (D := D) (ci := 0) (v := .int Dcandidates) (C := RX0) (T := TX0) (N := 7) hx hb hts hiX0 tyX0 tyX0_ok nmX0 hown hK hw.1 hw.2.1 hw.2.2 0 rfl rfl 0 (by decide) hq0 (fun _ h9 => h9) rfl (tyX0_ok 0 (by decide)) rfl rfl (Nat.le_of_ble_eq_true rfl) dX0_copyFrom_5 (fun H locs hP hD hS => ?_)
  have hw : Wd D A s.heap (zwC cI aC Dcandidates Cballots Cseats Cwithdrawn Cvoters Csets Crank ++ (zwC cI aD Dcandidates Dballots Dseats Dwithdrawn Dvoters Dsets Drank)) H locs := ⟨hP, hD, hS⟩
  clear hP hD hS
  refine lv_aload_n hx hb dX0_copyFrom_8 rfl (lv_at hl 0 rfl) ?_
  refine lv_aload_n hx hb dX0_copyFrom_9 rfl (lv_at hl 1 rfl) ?_
  refine va_get (D := D) (ci := 0) (v := .int Dballots) (C := RX0) (T := TX0) (N := 7) hx hb hts hiX0 hown hK hw.1 4 rfl rfl 1 (by decide) hq1 (fun _ h9 => h9) rfl dX0_copyFrom_10 ?_
  refine va_put (D := D) (ci := 0) (v := .int Dballots) (C := RX0) (T := TX0) (N := 7) hx hb hts hiX0 tyX0 tyX0_ok nmX0 hown hK hw.1 hw.2.1 hw.2.2 0 rfl rfl 1 (by decide) hq1 (fun _ h9 => h9) rfl (tyX0_ok 1 (by decide)) rfl rfl (Nat.le_of_ble_eq_true rfl) dX0_copyFrom_13 (fun H locs hP hD hS => ?_)
  have hw : Wd D A s.heap (zwC cI aC Dcandidates Dballots Cseats Cwithdrawn Cvoters Csets Crank ++ (zwC cI aD Dcandidates Dballots Dseats Dwithdrawn Dvoters Dsets Drank)) H locs := ⟨hP, hD, hS⟩
  clear hP hD hS
  refine lv_aload_n hx hb dX0_copyFrom_16 rfl (lv_at hl 0 rfl) ?_
  refine lv_aload_n hx hb dX0_copyFrom_17 rfl (lv_at hl 1 rfl) ?_
  refine va_get (D := D) (ci := 0) (v := .int Dseats) (C := RX0) (T := TX0) (N := 7) hx hb hts hiX0 hown hK hw.1 4 rfl rfl 2 (by decide) hq2 (fun _ h9 => h9) rfl dX0_copyFrom_18 ?_
  refine va_put (D := D) (ci := 0) (v := .int Dseats) (C := RX0) (T := TX0) (N := 7) hx hb hts hiX0 tyX0 tyX0_ok nmX0 hown hK hw.1 hw.2.1 hw.2.2 0 rfl rfl 2 (by decide) hq2 (fun _ h9 => h9) rfl (tyX0_ok 2 (by decide)) rfl rfl (Nat.le_of_ble_eq_true rfl) dX0_copyFrom_21 (fun H locs hP hD hS => ?_)
  have hw : Wd D A s.heap (zwC cI aC Dcandidates Dballots Dseats Cwithdrawn Cvoters Csets Crank ++ (zwC cI aD Dcandidates Dballots Dseats Dwithdrawn Dvoters Dsets Drank)) H locs := ⟨hP, hD, hS⟩
  clear hP hD hS
  refine lv_aload_n hx hb dX0_copyFrom_24 rfl (lv_at hl 0 rfl) ?_
  refine lv_aload_n hx hb dX0_copyFrom_25 rfl (lv_at hl 1 rfl) ?_
  refine va_get (D := D) (ci := 0) (v := .int Dwithdrawn) (C := RX0) (T := TX0) (N := 7) hx hb hts hiX0 hown hK hw.1 4 rfl rfl 3 (by decide) hq3 (fun _ h9 => h9) rfl dX0_copyFrom_26 ?_
  refine va_put (D := D) (ci := 0) (v := .int Dwithdrawn) (C := RX0) (T := TX0) (N := 7) hx hb hts hiX0 tyX0 tyX0_ok nmX0 hown hK hw.1 hw.2.1 hw.2.2 0 rfl rfl 3 (by decide) hq3 (fun _ h9 => h9) rfl (tyX0_ok 3 (by decide)) rfl rfl (Nat.le_of_ble_eq_true rfl) dX0_copyFrom_29 (fun H locs hP hD hS => ?_)
  have hw : Wd D A s.heap (zwC cI aC Dcandidates Dballots Dseats Dwithdrawn Cvoters Csets Crank ++ (zwC cI aD Dcandidates Dballots Dseats Dwithdrawn Dvoters Dsets Drank)) H locs := ⟨hP, hD, hS⟩
  clear hP hD hS
  refine lv_aload_n hx hb dX0_copyFrom_32 rfl (lv_at hl 1 rfl) ?_
  refine va_get (D := D) (ci := 0) (v := .ref (aD 1)) (C := RX0) (T := TX0) (N := 7) hx hb hts hiX0 hown hK hw.1 4 rfl rfl 4 (by decide) hq4 (fun _ h9 => h9) rfl dX0_copyFrom_33 ?_
  refine lv_iconst (v := 0) hx hb dX0_copyFrom_36 (by decide) ?_
  refine lv_aload_n hx hb dX0_copyFrom_37 rfl (lv_at hl 0 rfl) ?_
  refine va_get (D := D) (ci := 0) (v := .ref (aC 1)) (C := RX0) (T := TX0) (N := 7) hx hb hts hiX0 hown hK hw.1 0 rfl rfl 4 (by decide) hq4 (fun _ h9 => h9) rfl dX0_copyFrom_38 ?_
  refine lv_iconst (v := 0) hx hb dX0_copyFrom_41 (by decide) ?_
  refine lv_bipush (v := 11) hx hb dX0_copyFrom_42 (by decide) ?_
  refine zk_copy hx hb (hml.trans hl.1.symm) hown hq5 hq6 hq7 hq8 hK hw 5 1 rfl rfl (k := 11) (by decide) rfl (by decide) (by decide) (Nat.le_of_ble_eq_true rfl) (by decide) dX0_copyFrom_44 (fun H locs hw => ?_)
  have hw : Wd D A s.heap (zwC cI aC Dcandidates Dballots Dseats Dwithdrawn (va_cpy Dvoters Cvoters 0 0 11) Csets Crank ++ (zwC cI aD Dcandidates Dballots Dseats Dwithdrawn Dvoters Dsets Drank)) H locs := hw
  refine lv_aload_n hx hb dX0_copyFrom_47 rfl (lv_at hl 1 rfl) ?_
  refine va_get (D := D) (ci := 0) (v := .ref (aD 2)) (C := RX0) (T := TX0) (N := 7) hx hb hts hiX0 hown hK hw.1 4 rfl rfl 5 (by decide) hq9 (fun _ h9 => h9) rfl dX0_copyFrom_48 ?_
  refine lv_iconst (v := 0) hx hb dX0_copyFrom_51 (by decide) ?_
  refine lv_aload_n hx hb dX0_copyFrom_52 rfl (lv_at hl 0 rfl) ?_
  refine va_get (D := D) (ci := 0) (v := .ref (aC 2)) (C := RX0) (T := TX0) (N := 7) hx hb hts hiX0 hown hK hw.1 0 rfl rfl 5 (by decide) hq9 (fun _ h9 => h9) rfl dX0_copyFrom_53 ?_
  refine lv_iconst (v := 0) hx hb dX0_copyFrom_56 (by decide) ?_
  refine lv_bipush (v := 11) hx hb dX0_copyFrom_57 (by decide) ?_
  refine zk_copy hx hb (hml.trans hl.1.symm) hown hq5 hq6 hq7 hq8 hK hw 6 2 rfl rfl (k := 11) (by decide) rfl (by decide) (by decide) (Nat.le_of_ble_eq_true rfl) (by decide) dX0_copyFrom_59 (fun H locs hw => ?_)
  have hw : Wd D A s.heap (zwC cI aC Dcandidates Dballots Dseats Dwithdrawn (va_cpy Dvoters Cvoters 0 0 11) (va_cpy Dsets Csets 0 0 11) Crank ++ (zwC cI aD Dcandidates Dballots Dseats Dwithdrawn Dvoters Dsets Drank)) H locs := hw
  refine lv_aload_n hx hb dX0_copyFrom_62 rfl (lv_at hl 1 rfl) ?_
  refine va_get (D := D) (ci := 0) (v := .ref (aD 3)) (C := RX0) (T := TX0) (N := 7) hx hb hts hiX0 hown hK hw.1 4 rfl rfl 6 (by decide) hq10 (fun _ h9 => h9) rfl dX0_copyFrom_63 ?_
  refine lv_iconst (v := 0) hx hb dX0_copyFrom_66 (by decide) ?_
  refine lv_aload_n hx hb dX0_copyFrom_67 rfl (lv_at hl 0 rfl) ?_
  refine va_get (D := D) (ci := 0) (v := .ref (aC 3)) (C := RX0) (T := TX0) (N := 7) hx hb hts hiX0 hown hK hw.1 0 rfl rfl 6 (by decide) hq10 (fun _ h9 => h9) rfl dX0_copyFrom_68 ?_
  refine lv_iconst (v := 0) hx hb dX0_copyFrom_71 (by decide) ?_
  refine lv_bipush (v := 8) hx hb dX0_copyFrom_72 (by decide) ?_
  refine zk_copy hx hb (hml.trans hl.1.symm) hown hq5 hq6 hq7 hq8 hK hw 7 3 rfl rfl (k := 8) (by decide) rfl (by decide) (by decide) (Nat.le_of_ble_eq_true rfl) (by decide) dX0_copyFrom_74 (fun H locs hw => ?_)
  have hw : Wd D A s.heap (zwC cI aC Dcandidates Dballots Dseats Dwithdrawn (va_cpy Dvoters Cvoters 0 0 11) (va_cpy Dsets Csets 0 0 11) (va_cpy Drank Crank 0 0 8) ++ (zwC cI aD Dcandidates Dballots Dseats Dwithdrawn Dvoters Dsets Drank)) H locs := hw
  cases hf
  exact zk_vret hx hb hr hlocks hQ hw [0, 1, 2, 3, 4, 5, 6, 7] rfl (by decide) dX0_copyFrom_77
set_option maxHeartbeats 4000000 in
set_option maxRecDepth 100000 in
theorem kX0_addBallot (l : Launch) (D : va_G) (cI cJ cO : ClassId) (N : Nat) (aC : Nat → Nat) (p0 : Int32) (p1 : Int32) (Ccandidates : Int32) (Cballots : Int32) (Cseats : Int32) (Cwithdrawn : Int32) (Cvoters : Nat → Int32) (Csets : Nat → Int32) (Crank : Nat → Int32) (u : (Int32) × (Nat → Int32) × (Nat → Int32)) (hf : fX0_addBallot N p0 p1 Cballots Cvoters Csets = some u) : CtV l yX0_addBallot wsX0_addBallot (zk_rm 0 0) D cI cJ cO [.ref (aC 0), .int p0, .int p1] (zwC cI aC Ccandidates Cballots Cseats Cwithdrawn Cvoters Csets Crank) (zwC cI aC Ccandidates u.1 Cseats Cwithdrawn u.2.1 u.2.2 Crank) := by
  refine zk_enter (cc := cX0_addBallot) (maxL := 3) (ret := none) (own := RX0) (Qf := fun A => QwV D (zwC cI aC Ccandidates u.1 Cseats Cwithdrawn u.2.1 u.2.2 Crank) A) (by decide) rfl rfl (Nat.le_of_ble_eq_true rfl) ?_
  intro p e s m args below meth c A Q H locs ls hC hQ hw hl
  obtain ⟨hx, hb, hml, hr, hts, hown, hlocks, hN, hK, hA⟩ := hC
  have hl : lv_has ls 3 [(0, .ref (aC 0)), (1, .int p0), (2, .int p1)] := hl
  have hiX0 : ∀ w ∈ u_ws RX0 TX0 7, w ∈ wsX0_addBallot := by decide +kernel
  have hq0 := hts (.fieldLink RX0 25 "LoadCouncil$Council" "ballots" "I") (by decide +kernel)
  have hq1 := hts (.fieldLink RX0 9 "LoadCouncil$Council" "voters" "[I") (by decide +kernel)
  have hq2 := hts (.fieldLink RX0 15 "LoadCouncil$Council" "sets" "[I") (by decide +kernel)
  unfold fX0_addBallot at hf
  refine lv_aload_n hx hb dX0_addBallot_0 rfl (lv_at hl 0 rfl) ?_
  refine va_get (D := D) (ci := 0) (v := .int Cballots) (C := RX0) (T := TX0) (N := 7) hx hb hts hiX0 hown hK hw.1 0 rfl rfl 1 (by decide) hq0 (fun _ h9 => h9) rfl dX0_addBallot_1 ?_
  refine lv_bipush (v := 11) hx hb dX0_addBallot_4 (by decide) ?_
  refine lv_icmp_ge (tgt := 39) hx hb dX0_addBallot_6 (by decide) (fun c1 => ?_) (fun c1 => ?_)
  · replace hf := zk_t c1 hf
    cases hf
    exact zk_vret hx hb hr hlocks hQ hw [0, 1, 2, 3] rfl (by decide) dX0_addBallot_39
  · replace hf := zk_f c1 hf
    refine lv_aload_n hx hb dX0_addBallot_9 rfl (lv_at hl 0 rfl) ?_
    refine va_get (D := D) (ci := 0) (v := .ref (aC 1)) (C := RX0) (T := TX0) (N := 7) hx hb hts hiX0 hown hK hw.1 0 rfl rfl 4 (by decide) hq1 (fun _ h9 => h9) rfl dX0_addBallot_10 ?_
    refine lv_aload_n hx hb dX0_addBallot_13 rfl (lv_at hl 0 rfl) ?_
    refine va_get (D := D) (ci := 0) (v := .int Cballots) (C := RX0) (T := TX0) (N := 7) hx hb hts hiX0 hown hK hw.1 0 rfl rfl 1 (by decide) hq0 (fun _ h9 => h9) rfl dX0_addBallot_14 ?_
    refine lv_iload_n hx hb dX0_addBallot_17 rfl (lv_at hl 1 rfl) ?_
    obtain ⟨h2, hf⟩ := zk_ck hf
    refine zk_iast hx hb hK hw 1 rfl h2 (j := Cballots.toNatClampNeg) rfl dX0_addBallot_18 (fun H locs hw => ?_)
    have hw : Wd D A s.heap (zwC cI aC Ccandidates Cballots Cseats Cwithdrawn (upd Cvoters Cballots.toNatClampNeg p0) Csets Crank) H locs := hw
    refine lv_aload_n hx hb dX0_addBallot_19 rfl (lv_at hl 0 rfl) ?_
    refine va_get (D := D) (ci := 0) (v := .ref (aC 2)) (C := RX0) (T := TX0) (N := 7) hx hb hts hiX0 hown hK hw.1 0 rfl rfl 5 (by decide) hq2 (fun _ h9 => h9) rfl dX0_addBallot_20 ?_
    refine lv_aload_n hx hb dX0_addBallot_23 rfl (lv_at hl 0 rfl) ?_
    refine va_get (D := D) (ci := 0) (v := .int Cballots) (C := RX0) (T := TX0) (N := 7) hx hb hts hiX0 hown hK hw.1 0 rfl rfl 1 (by decide) hq0 (fun _ h9 => h9) rfl dX0_addBallot_24 ?_
    refine lv_iload_n hx hb dX0_addBallot_27 rfl (lv_at hl 2 rfl) ?_
    refine zk_iast hx hb hK hw 2 rfl h2 (j := Cballots.toNatClampNeg) rfl dX0_addBallot_28 (fun H locs hw => ?_)
    have hw : Wd D A s.heap (zwC cI aC Ccandidates Cballots Cseats Cwithdrawn (upd Cvoters Cballots.toNatClampNeg p0) (upd Csets Cballots.toNatClampNeg p1) Crank) H locs := hw
    refine lv_aload_n hx hb dX0_addBallot_29 rfl (lv_at hl 0 rfl) ?_
    refine lv_dup hx hb dX0_addBallot_30 rfl ?_
    refine va_get (D := D) (ci := 0) (v := .int Cballots) (C := RX0) (T := TX0) (N := 7) hx hb hts hiX0 hown hK hw.1 0 rfl rfl 1 (by decide) hq0 (fun _ h9 => h9) rfl dX0_addBallot_31 ?_
    refine lv_iconst (v := 1) hx hb dX0_addBallot_34 (by decide) ?_
    refine lv_iadd hx hb dX0_addBallot_35 ?_
    refine va_put (D := D) (ci := 0) (v := .int (Cballots + (1 : Int32))) (C := RX0) (T := TX0) (N := 7) hx hb hts hiX0 tyX0 tyX0_ok nmX0 hown hK hw.1 hw.2.1 hw.2.2 0 rfl rfl 1 (by decide) hq0 (fun _ h9 => h9) rfl (tyX0_ok 1 (by decide)) rfl rfl (Nat.le_of_ble_eq_true rfl) dX0_addBallot_36 (fun H locs hP hD hS => ?_)
    have hw : Wd D A s.heap (zwC cI aC Ccandidates (Cballots + (1 : Int32)) Cseats Cwithdrawn (upd Cvoters Cballots.toNatClampNeg p0) (upd Csets Cballots.toNatClampNeg p1) Crank) H locs := ⟨hP, hD, hS⟩
    clear hP hD hS
    cases hf
    exact zk_vret hx hb hr hlocks hQ hw [0, 1, 2, 3] rfl (by decide) dX0_addBallot_39
set_option maxHeartbeats 4000000 in
set_option maxRecDepth 100000 in
theorem kX0_agreesTo (l : Launch) (D : va_G) (cI cJ cO : ClassId) (N : Nat) (aC : Nat → Nat) (p0 : Int32) (p1 : Int32) (Ccandidates : Int32) (Cballots : Int32) (Cseats : Int32) (Cwithdrawn : Int32) (Cvoters : Nat → Int32) (Csets : Nat → Int32) (Crank : Nat → Int32) (u : Int32) (hf : fX0_agreesTo N p0 p1 Csets = some u) : CtI l yX0_agreesTo wsX0_agreesTo (zk_rm 0 0) D cI cJ cO [.ref (aC 0), .int p0, .int p1] (zwC cI aC Ccandidates Cballots Cseats Cwithdrawn Cvoters Csets Crank) (zwC cI aC Ccandidates Cballots Cseats Cwithdrawn Cvoters Csets Crank) (u) := by
  refine zk_enter (cc := cX0_agreesTo) (maxL := 3) (ret := some .boolean) (own := RX0) (Qf := fun A => QwI D (zwC cI aC Ccandidates Cballots Cseats Cwithdrawn Cvoters Csets Crank) (u) A) (by decide) rfl rfl (Nat.le_of_ble_eq_true rfl) ?_
  intro p e s m args below meth c A Q H locs ls hC hQ hw hl
  obtain ⟨hx, hb, hml, hr, hts, hown, hlocks, hN, hK, hA⟩ := hC
  have hl : lv_has ls 3 [(0, .ref (aC 0)), (1, .int p0), (2, .int p1)] := hl
  have hiX0 : ∀ w ∈ u_ws RX0 TX0 7, w ∈ wsX0_agreesTo := by decide +kernel
  have hq0 := hts (.fieldLink RX0 15 "LoadCouncil$Council" "sets" "[I") (by decide +kernel)
  unfold fX0_agreesTo at hf
  refine lv_aload_n hx hb dX0_agreesTo_0 rfl (lv_at hl 0 rfl) ?_
  refine va_get (D := D) (ci := 0) (v := .ref (aC 2)) (C := RX0) (T := TX0) (N := 7) hx hb hts hiX0 hown hK hw.1 0 rfl rfl 5 (by decide) hq0 (fun _ h9 => h9) rfl dX0_agreesTo_1 ?_
  refine lv_iload_n hx hb dX0_agreesTo_4 rfl (lv_at hl 1 rfl) ?_
  obtain ⟨h1, hf⟩ := zk_ck hf
  refine zk_iald hx hb hK hw 2 rfl h1 (j := p0.toNatClampNeg) rfl dX0_agreesTo_5 ?_
  refine lv_iload_n hx hb dX0_agreesTo_6 rfl (lv_at hl 2 rfl) ?_
  refine lv_iand hx hb dX0_agreesTo_7 ?_
  refine lv_iload_n hx hb dX0_agreesTo_8 rfl (lv_at hl 2 rfl) ?_
  refine lv_icmp_ne (tgt := 16) hx hb dX0_agreesTo_9 (by decide) (fun c2 => ?_) (fun c2 => ?_)
  · replace hf := zk_f c2 hf
    refine lv_iconst (v := 0) hx hb dX0_agreesTo_16 (by decide) ?_
    cases hf
    exact zk_iret hx hb hr hlocks rfl hQ hw [0, 1, 2, 3] rfl (by decide) dX0_agreesTo_17
  · replace hf := zk_t c2 hf
    refine lv_iconst (v := 1) hx hb dX0_agreesTo_12 (by decide) ?_
    refine lv_goto (tgt := 17) hx hb dX0_agreesTo_13 (by decide) ?_
    cases hf
    exact zk_iret hx hb hr hlocks rfl hQ hw [0, 1, 2, 3] rfl (by decide) dX0_agreesTo_17
set_option maxHeartbeats 4000000 in
set_option maxRecDepth 100000 in
theorem kX0_votersWhoAgree (l : Launch) (D : va_G) (cI cJ cO : ClassId) (N : Nat) (aC : Nat → Nat) (p0 : Int32) (Ccandidates : Int32) (Cballots : Int32) (Cseats : Int32) (Cwithdrawn : Int32) (Cvoters : Nat → Int32) (Csets : Nat → Int32) (Crank : Nat → Int32) (u : Int32) (hf : fX0_votersWhoAgree N p0 Cballots Cvoters Csets = some u) : CtI l yX0_votersWhoAgree wsX0_votersWhoAgree (zk_rm 1 22) D cI cJ cO [.ref (aC 0), .int p0] (zwC cI aC Ccandidates Cballots Cseats Cwithdrawn Cvoters Csets Crank) (zwC cI aC Ccandidates Cballots Cseats Cwithdrawn Cvoters Csets Crank) (u) := by
  refine zk_enter (cc := cX0_votersWhoAgree) (maxL := 4) (ret := some .int) (own := RX0) (Qf := fun A => QwI D (zwC cI aC Ccandidates Cballots Cseats Cwithdrawn Cvoters Csets Crank) (u) A) (by decide) rfl rfl (Nat.le_of_ble_eq_true rfl) ?_
  intro p e s m args below meth c A Q H locs ls hC hQ hw hl
  obtain ⟨hx, hb, hml, hr, hts, hown, hlocks, hN, hK, hA⟩ := hC
  have hl : lv_has ls 4 [(0, .ref (aC 0)), (1, .int p0)] := hl
  have hiX0 : ∀ w ∈ u_ws RX0 TX0 7, w ∈ wsX0_votersWhoAgree := by decide +kernel
  have hq0 := hts (.fieldLink RX0 25 "LoadCouncil$Council" "ballots" "I") (by decide +kernel)
  have hq1 := hts (.fieldLink RX0 9 "LoadCouncil$Council" "voters" "[I") (by decide +kernel)
  have b4 : ∀ (n4 : Nat), ∀ (x1 : Int32) (x2 : Int32) (x3 : Int32), fX0_votersWhoAgree_b4 N n4 x1 x2 x3 Cballots Cvoters Csets = some u → ∀ (H : Heap) (locs : List Loc) (ls : Array Slot), Wd D A s.heap (zwC cI aC Ccandidates Cballots Cseats Cwithdrawn Cvoters Csets Crank) H locs → lv_has ls 4 [(0, .ref (aC 0)), (1, .int x1), (2, .int x2), (3, .int x3)] → W p l e (zk_rm 1 22) s m args below meth c H locs 0 0 Q (F0 m 4 ls []) := by
    intro n4
    induction n4 with
    | zero =>
      intro x1 x2 x3 hf
      exact zk_none hf
    | succ n4 ih4 =>
      have b30 : ∀ (x1 : Int32) (x2 : Int32) (x3 : Int32), fX0_votersWhoAgree_b30 N (fun z0 z1 z2 z3 z4 z5 => fX0_votersWhoAgree_b4 N n4 z0 z1 z2 z3 z4 z5) x1 x2 x3 Cballots Cvoters Csets = some u → ∀ (H : Heap) (locs : List Loc) (ls : Array Slot), Wd D A s.heap (zwC cI aC Ccandidates Cballots Cseats Cwithdrawn Cvoters Csets Crank) H locs → lv_has ls 4 [(0, .ref (aC 0)), (1, .int x1), (2, .int x2), (3, .int x3)] → W p l e (zk_rm 1 22) s m args below meth c H locs 0 0 Q (F0 m 30 ls []) := by
        intro x1 x2 x3 hf H locs ls hw hl
        unfold fX0_votersWhoAgree_b30 at hf
        refine lv_iinc (v := (x3 + (1 : Int32))) (lv' := [(3, .int (x3 + (1 : Int32))), (0, .ref (aC 0)), (1, .int x1), (2, .int x2)]) hx hb dX0_votersWhoAgree_30 hl (k := 3) rfl rfl (by decide) rfl (fun ls hl => ?_)
        refine lv_goto (tgt := 4) hx hb dX0_votersWhoAgree_33 (by decide) ?_
        exact ih4 x1 x2 (x3 + (1 : Int32)) hf H locs ls hw (lv_sub hl [1, 2, 3, 0] rfl)
      intro x1 x2 x3 hf H locs ls hw hl
      rw [fX0_votersWhoAgree_b4] at hf
      refine lv_iload_n hx hb dX0_votersWhoAgree_4 rfl (lv_at hl 3 rfl) ?_
      refine lv_aload_n hx hb dX0_votersWhoAgree_5 rfl (lv_at hl 0 rfl) ?_
      refine va_get (D := D) (ci := 0) (v := .int Cballots) (C := RX0) (T := TX0) (N := 7) hx hb hts hiX0 hown hK hw.1 0 rfl rfl 1 (by decide) hq0 (fun _ h9 => h9) rfl dX0_votersWhoAgree_6 ?_
      refine lv_icmp_ge (tgt := 36) hx hb dX0_votersWhoAgree_9 (by decide) (fun c1 => ?_) (fun c1 => ?_)
      · replace hf := zk_t c1 hf
        refine lv_iload_n hx hb dX0_votersWhoAgree_36 rfl (lv_at hl 2 rfl) ?_
        cases hf
        exact zk_iret hx hb hr hlocks rfl hQ hw [0, 1, 2, 3] rfl (by decide) dX0_votersWhoAgree_37
      · replace hf := zk_f c1 hf
        refine lv_aload_n hx hb dX0_votersWhoAgree_12 rfl (lv_at hl 0 rfl) ?_
        refine lv_iload_n hx hb dX0_votersWhoAgree_13 rfl (lv_at hl 3 rfl) ?_
        refine lv_iload_n hx hb dX0_votersWhoAgree_14 rfl (lv_at hl 1 rfl) ?_
        obtain ⟨u2, e3, hf⟩ := zk_bd hf
        refine zk_calli (wc := zwC cI aC Ccandidates Cballots Cseats Cwithdrawn Cvoters Csets Crank) (wr := []) hw hA [0, 1, 2, 3] [] rfl rfl (by decide) (by decide) (va_runV (C := RX0) (As := [.int x3, .int x1]) (rest := []) ⟨hx, hb, hml, hown, hts⟩ (kX0_agreesTo l D cI cJ cO N aC x3 x1 Ccandidates Cballots Cseats Cwithdrawn Cvoters Csets Crank u2 e3 H.size) (cwV 2 hts gX0_votersWhoAgree_X0_agreesTo rfl rfl rfl (by decide +kernel) ⟨Nat.le_of_ble_eq_true rfl, Nat.le_of_ble_eq_true rfl⟩) (zk_preV (wc := zwC cI aC Ccandidates Cballots Cseats Cwithdrawn Cvoters Csets Crank) hN hK hw [0, 1, 2, 3] rfl (by decide) 0 0 rfl rfl) rfl rfl hl.1 rfl (lv_room (Nat.le_of_ble_eq_true rfl)) dX0_votersWhoAgree_15 ⟨Nat.zero_le _, Nat.zero_le _⟩) (fun H locs hw => ?_)
        have hw : Wd D A s.heap (zwC cI aC Ccandidates Cballots Cseats Cwithdrawn Cvoters Csets Crank) H locs := hw
        refine lv_if_eq (tgt := 30) hx hb dX0_votersWhoAgree_18 (by decide) (fun c4 => ?_) (fun c4 => ?_)
        · replace hf := zk_t c4 hf
          exact b30 x1 x2 x3 hf H locs ls hw (lv_sub hl [0, 1, 2, 3] rfl)
        · replace hf := zk_f c4 hf
          refine lv_iload_n hx hb dX0_votersWhoAgree_21 rfl (lv_at hl 2 rfl) ?_
          refine lv_aload_n hx hb dX0_votersWhoAgree_22 rfl (lv_at hl 0 rfl) ?_
          refine va_get (D := D) (ci := 0) (v := .ref (aC 1)) (C := RX0) (T := TX0) (N := 7) hx hb hts hiX0 hown hK hw.1 0 rfl rfl 4 (by decide) hq1 (fun _ h9 => h9) rfl dX0_votersWhoAgree_23 ?_
          refine lv_iload_n hx hb dX0_votersWhoAgree_26 rfl (lv_at hl 3 rfl) ?_
          obtain ⟨h5, hf⟩ := zk_ck hf
          refine zk_iald hx hb hK hw 1 rfl h5 (j := x3.toNatClampNeg) rfl dX0_votersWhoAgree_27 ?_
          refine lv_iadd hx hb dX0_votersWhoAgree_28 ?_
          refine lv_istore_n (lv' := [(2, .int (x2 + (Cvoters x3.toNatClampNeg))), (0, .ref (aC 0)), (1, .int x1), (3, .int x3)]) hx hb dX0_votersWhoAgree_29 rfl hl (by decide) rfl (fun ls hl => ?_)
          exact b30 x1 (x2 + (Cvoters x3.toNatClampNeg)) x3 hf H locs ls hw (lv_sub hl [1, 2, 0, 3] rfl)
  unfold fX0_votersWhoAgree at hf
  refine lv_iconst (v := 0) hx hb dX0_votersWhoAgree_0 (by decide) ?_
  refine lv_istore_n (lv' := [(2, .int (0 : Int32)), (0, .ref (aC 0)), (1, .int p0)]) hx hb dX0_votersWhoAgree_1 rfl hl (by decide) rfl (fun ls hl => ?_)
  refine lv_iconst (v := 0) hx hb dX0_votersWhoAgree_2 (by decide) ?_
  refine lv_istore_n (lv' := [(3, .int (0 : Int32)), (2, .int (0 : Int32)), (0, .ref (aC 0)), (1, .int p0)]) hx hb dX0_votersWhoAgree_3 rfl hl (by decide) rfl (fun ls hl => ?_)
  exact b4 N p0 (0 : Int32) (0 : Int32) hf H locs ls hw (lv_sub hl [2, 3, 1, 0] rfl)
set_option maxHeartbeats 4000000 in
set_option maxRecDepth 100000 in
theorem kX0_allVoters (l : Launch) (D : va_G) (cI cJ cO : ClassId) (N : Nat) (aC : Nat → Nat) (Ccandidates : Int32) (Cballots : Int32) (Cseats : Int32) (Cwithdrawn : Int32) (Cvoters : Nat → Int32) (Csets : Nat → Int32) (Crank : Nat → Int32) (u : Int32) (hf : fX0_allVoters N Cballots Cvoters Csets = some u) : CtI l yX0_allVoters wsX0_allVoters (zk_rm 2 45) D cI cJ cO [.ref (aC 0)] (zwC cI aC Ccandidates Cballots Cseats Cwithdrawn Cvoters Csets Crank) (zwC cI aC Ccandidates Cballots Cseats Cwithdrawn Cvoters Csets Crank) (u) := by
  refine zk_enter (cc := cX0_allVoters) (maxL := 1) (ret := some .int) (own := RX0) (Qf := fun A => QwI D (zwC cI aC Ccandidates Cballots Cseats Cwithdrawn Cvoters Csets Crank) (u) A) (by decide) rfl rfl (Nat.le_of_ble_eq_true rfl) ?_
  intro p e s m args below meth c A Q H locs ls hC hQ hw hl
  obtain ⟨hx, hb, hml, hr, hts, hown, hlocks, hN, hK, hA⟩ := hC
  have hl : lv_has ls 1 [(0, .ref (aC 0))] := hl
  unfold fX0_allVoters at hf
  refine lv_aload_n hx hb dX0_allVoters_0 rfl (lv_at hl 0 rfl) ?_
  refine lv_iconst (v := 0) hx hb dX0_allVoters_1 (by decide) ?_
  obtain ⟨u1, e2, hf⟩ := zk_bd hf
  refine zk_calli (wc := zwC cI aC Ccandidates Cballots Cseats Cwithdrawn Cvoters Csets Crank) (wr := []) hw hA [0, 1, 2, 3] [] rfl rfl (by decide) (by decide) (va_runV (C := RX0) (As := [.int (0 : Int32)]) (rest := []) ⟨hx, hb, hml, hown, hts⟩ (kX0_votersWhoAgree l D cI cJ cO N aC (0 : Int32) Ccandidates Cballots Cseats Cwithdrawn Cvoters Csets Crank u1 e2 H.size) (cwV 1 hts gX0_allVoters_X0_votersWhoAgree rfl rfl rfl (by decide +kernel) ⟨Nat.le_of_ble_eq_true rfl, Nat.le_of_ble_eq_true rfl⟩) (zk_preV (wc := zwC cI aC Ccandidates Cballots Cseats Cwithdrawn Cvoters Csets Crank) hN hK hw [0, 1, 2, 3] rfl (by decide) 0 0 rfl rfl) rfl rfl hl.1 rfl (lv_room (Nat.le_of_ble_eq_true rfl)) dX0_allVoters_2 ⟨Nat.zero_le _, Nat.zero_le _⟩) (fun H locs hw => ?_)
  have hw : Wd D A s.heap (zwC cI aC Ccandidates Cballots Cseats Cwithdrawn Cvoters Csets Crank) H locs := hw
  cases hf
  exact zk_iret hx hb hr hlocks rfl hQ hw [0, 1, 2, 3] rfl (by decide) dX0_allVoters_5
set_option maxHeartbeats 4000000 in
set_option maxRecDepth 100000 in
theorem kX0_supportOf (l : Launch) (D : va_G) (cI cJ cO : ClassId) (N : Nat) (aC : Nat → Nat) (p0 : Int32) (Ccandidates : Int32) (Cballots : Int32) (Cseats : Int32) (Cwithdrawn : Int32) (Cvoters : Nat → Int32) (Csets : Nat → Int32) (Crank : Nat → Int32) (u : Int32) (hf : fX0_supportOf N p0 Cballots Cvoters Csets = some u) : CtI l yX0_supportOf wsX0_supportOf (zk_rm 2 45) D cI cJ cO [.ref (aC 0), .int p0] (zwC cI aC Ccandidates Cballots Cseats Cwithdrawn Cvoters Csets Crank) (zwC cI aC Ccandidates Cballots Cseats Cwithdrawn Cvoters Csets Crank) (u) := by
  refine zk_enter (cc := cX0_supportOf) (maxL := 2) (ret := some .int) (own := RX0) (Qf := fun A => QwI D (zwC cI aC Ccandidates Cballots Cseats Cwithdrawn Cvoters Csets Crank) (u) A) (by decide) rfl rfl (Nat.le_of_ble_eq_true rfl) ?_
  intro p e s m args below meth c A Q H locs ls hC hQ hw hl
  obtain ⟨hx, hb, hml, hr, hts, hown, hlocks, hN, hK, hA⟩ := hC
  have hl : lv_has ls 2 [(0, .ref (aC 0)), (1, .int p0)] := hl
  unfold fX0_supportOf at hf
  refine lv_aload_n hx hb dX0_supportOf_0 rfl (lv_at hl 0 rfl) ?_
  refine lv_iconst (v := 1) hx hb dX0_supportOf_1 (by decide) ?_
  refine lv_iload_n hx hb dX0_supportOf_2 rfl (lv_at hl 1 rfl) ?_
  refine lv_ishl hx hb dX0_supportOf_3 ?_
  obtain ⟨u1, e2, hf⟩ := zk_bd hf
  refine zk_calli (wc := zwC cI aC Ccandidates Cballots Cseats Cwithdrawn Cvoters Csets Crank) (wr := []) hw hA [0, 1, 2, 3] [] rfl rfl (by decide) (by decide) (va_runV (C := RX0) (As := [.int ((1 : Int32) <<< (p0 &&& 31))]) (rest := []) ⟨hx, hb, hml, hown, hts⟩ (kX0_votersWhoAgree l D cI cJ cO N aC ((1 : Int32) <<< (p0 &&& 31)) Ccandidates Cballots Cseats Cwithdrawn Cvoters Csets Crank u1 e2 H.size) (cwV 1 hts gX0_supportOf_X0_votersWhoAgree rfl rfl rfl (by decide +kernel) ⟨Nat.le_of_ble_eq_true rfl, Nat.le_of_ble_eq_true rfl⟩) (zk_preV (wc := zwC cI aC Ccandidates Cballots Cseats Cwithdrawn Cvoters Csets Crank) hN hK hw [0, 1, 2, 3] rfl (by decide) 0 0 rfl rfl) rfl rfl hl.1 rfl (lv_room (Nat.le_of_ble_eq_true rfl)) dX0_supportOf_4 ⟨Nat.zero_le _, Nat.zero_le _⟩) (fun H locs hw => ?_)
  have hw : Wd D A s.heap (zwC cI aC Ccandidates Cballots Cseats Cwithdrawn Cvoters Csets Crank) H locs := hw
  cases hf
  exact zk_iret hx hb hr hlocks rfl hQ hw [0, 1, 2, 3] rfl (by decide) dX0_supportOf_7
set_option maxHeartbeats 4000000 in
set_option maxRecDepth 100000 in
theorem kX0_approvedByThoseWhoAgree (l : Launch) (D : va_G) (cI cJ cO : ClassId) (N : Nat) (aC : Nat → Nat) (p0 : Int32) (Ccandidates : Int32) (Cballots : Int32) (Cseats : Int32) (Cwithdrawn : Int32) (Cvoters : Nat → Int32) (Csets : Nat → Int32) (Crank : Nat → Int32) (u : Int32) (hf : fX0_approvedByThoseWhoAgree N p0 Cballots Csets = some u) : CtI l yX0_approvedByThoseWhoAgree wsX0_approvedByThoseWhoAgree (zk_rm 1 22) D cI cJ cO [.ref (aC 0), .int p0] (zwC cI aC Ccandidates Cballots Cseats Cwithdrawn Cvoters Csets Crank) (zwC cI aC Ccandidates Cballots Cseats Cwithdrawn Cvoters Csets Crank) (u) := by
  refine zk_enter (cc := cX0_approvedByThoseWhoAgree) (maxL := 4) (ret := some .int) (own := RX0) (Qf := fun A => QwI D (zwC cI aC Ccandidates Cballots Cseats Cwithdrawn Cvoters Csets Crank) (u) A) (by decide) rfl rfl (Nat.le_of_ble_eq_true rfl) ?_
  intro p e s m args below meth c A Q H locs ls hC hQ hw hl
  obtain ⟨hx, hb, hml, hr, hts, hown, hlocks, hN, hK, hA⟩ := hC
  have hl : lv_has ls 4 [(0, .ref (aC 0)), (1, .int p0)] := hl
  have hiX0 : ∀ w ∈ u_ws RX0 TX0 7, w ∈ wsX0_approvedByThoseWhoAgree := by decide +kernel
  have hq0 := hts (.fieldLink RX0 25 "LoadCouncil$Council" "ballots" "I") (by decide +kernel)
  have hq1 := hts (.fieldLink RX0 15 "LoadCouncil$Council" "sets" "[I") (by decide +kernel)
  have b4 : ∀ (n4 : Nat), ∀ (x1 : Int32) (x2 : Int32) (x3 : Int32), fX0_approvedByThoseWhoAgree_b4 N n4 x1 x2 x3 Cballots Csets = some u → ∀ (H : Heap) (locs : List Loc) (ls : Array Slot), Wd D A s.heap (zwC cI aC Ccandidates Cballots Cseats Cwithdrawn Cvoters Csets Crank) H locs → lv_has ls 4 [(0, .ref (aC 0)), (1, .int x1), (2, .int x2), (3, .int x3)] → W p l e (zk_rm 1 22) s m args below meth c H locs 0 0 Q (F0 m 4 ls []) := by
    intro n4
    induction n4 with
    | zero =>
      intro x1 x2 x3 hf
      exact zk_none hf
    | succ n4 ih4 =>
      have b30 : ∀ (x1 : Int32) (x2 : Int32) (x3 : Int32), fX0_approvedByThoseWhoAgree_b30 N (fun z0 z1 z2 z3 z4 => fX0_approvedByThoseWhoAgree_b4 N n4 z0 z1 z2 z3 z4) x1 x2 x3 Cballots Csets = some u → ∀ (H : Heap) (locs : List Loc) (ls : Array Slot), Wd D A s.heap (zwC cI aC Ccandidates Cballots Cseats Cwithdrawn Cvoters Csets Crank) H locs → lv_has ls 4 [(0, .ref (aC 0)), (1, .int x1), (2, .int x2), (3, .int x3)] → W p l e (zk_rm 1 22) s m args below meth c H locs 0 0 Q (F0 m 30 ls []) := by
        intro x1 x2 x3 hf H locs ls hw hl
        unfold fX0_approvedByThoseWhoAgree_b30 at hf
        refine lv_iinc (v := (x3 + (1 : Int32))) (lv' := [(3, .int (x3 + (1 : Int32))), (0, .ref (aC 0)), (1, .int x1), (2, .int x2)]) hx hb dX0_approvedByThoseWhoAgree_30 hl (k := 3) rfl rfl (by decide) rfl (fun ls hl => ?_)
        refine lv_goto (tgt := 4) hx hb dX0_approvedByThoseWhoAgree_33 (by decide) ?_
        exact ih4 x1 x2 (x3 + (1 : Int32)) hf H locs ls hw (lv_sub hl [1, 2, 3, 0] rfl)
      intro x1 x2 x3 hf H locs ls hw hl
      rw [fX0_approvedByThoseWhoAgree_b4] at hf
      refine lv_iload_n hx hb dX0_approvedByThoseWhoAgree_4 rfl (lv_at hl 3 rfl) ?_
      refine lv_aload_n hx hb dX0_approvedByThoseWhoAgree_5 rfl (lv_at hl 0 rfl) ?_
      refine va_get (D := D) (ci := 0) (v := .int Cballots) (C := RX0) (T := TX0) (N := 7) hx hb hts hiX0 hown hK hw.1 0 rfl rfl 1 (by decide) hq0 (fun _ h9 => h9) rfl dX0_approvedByThoseWhoAgree_6 ?_
      refine lv_icmp_ge (tgt := 36) hx hb dX0_approvedByThoseWhoAgree_9 (by decide) (fun c1 => ?_) (fun c1 => ?_)
      · replace hf := zk_t c1 hf
        refine lv_iload_n hx hb dX0_approvedByThoseWhoAgree_36 rfl (lv_at hl 2 rfl) ?_
        cases hf
        exact zk_iret hx hb hr hlocks rfl hQ hw [0, 1, 2, 3] rfl (by decide) dX0_approvedByThoseWhoAgree_37
      · replace hf := zk_f c1 hf
        refine lv_aload_n hx hb dX0_approvedByThoseWhoAgree_12 rfl (lv_at hl 0 rfl) ?_
        refine lv_iload_n hx hb dX0_approvedByThoseWhoAgree_13 rfl (lv_at hl 3 rfl) ?_
        refine lv_iload_n hx hb dX0_approvedByThoseWhoAgree_14 rfl (lv_at hl 1 rfl) ?_
        obtain ⟨u2, e3, hf⟩ := zk_bd hf
        refine zk_calli (wc := zwC cI aC Ccandidates Cballots Cseats Cwithdrawn Cvoters Csets Crank) (wr := []) hw hA [0, 1, 2, 3] [] rfl rfl (by decide) (by decide) (va_runV (C := RX0) (As := [.int x3, .int x1]) (rest := []) ⟨hx, hb, hml, hown, hts⟩ (kX0_agreesTo l D cI cJ cO N aC x3 x1 Ccandidates Cballots Cseats Cwithdrawn Cvoters Csets Crank u2 e3 H.size) (cwV 2 hts gX0_approvedByThoseWhoAgree_X0_agreesTo rfl rfl rfl (by decide +kernel) ⟨Nat.le_of_ble_eq_true rfl, Nat.le_of_ble_eq_true rfl⟩) (zk_preV (wc := zwC cI aC Ccandidates Cballots Cseats Cwithdrawn Cvoters Csets Crank) hN hK hw [0, 1, 2, 3] rfl (by decide) 0 0 rfl rfl) rfl rfl hl.1 rfl (lv_room (Nat.le_of_ble_eq_true rfl)) dX0_approvedByThoseWhoAgree_15 ⟨Nat.zero_le _, Nat.zero_le _⟩) (fun H locs hw => ?_)
        have hw : Wd D A s.heap (zwC cI aC Ccandidates Cballots Cseats Cwithdrawn Cvoters Csets Crank) H locs := hw
        refine lv_if_eq (tgt := 30) hx hb dX0_approvedByThoseWhoAgree_18 (by decide) (fun c4 => ?_) (fun c4 => ?_)
        · replace hf := zk_t c4 hf
          exact b30 x1 x2 x3 hf H locs ls hw (lv_sub hl [0, 1, 2, 3] rfl)
        · replace hf := zk_f c4 hf
          refine lv_iload_n hx hb dX0_approvedByThoseWhoAgree_21 rfl (lv_at hl 2 rfl) ?_
          refine lv_aload_n hx hb dX0_approvedByThoseWhoAgree_22 rfl (lv_at hl 0 rfl) ?_
          refine va_get (D := D) (ci := 0) (v := .ref (aC 2)) (C := RX0) (T := TX0) (N := 7) hx hb hts hiX0 hown hK hw.1 0 rfl rfl 5 (by decide) hq1 (fun _ h9 => h9) rfl dX0_approvedByThoseWhoAgree_23 ?_
          refine lv_iload_n hx hb dX0_approvedByThoseWhoAgree_26 rfl (lv_at hl 3 rfl) ?_
          obtain ⟨h5, hf⟩ := zk_ck hf
          refine zk_iald hx hb hK hw 2 rfl h5 (j := x3.toNatClampNeg) rfl dX0_approvedByThoseWhoAgree_27 ?_
          refine lv_ior hx hb dX0_approvedByThoseWhoAgree_28 ?_
          refine lv_istore_n (lv' := [(2, .int (x2 ||| (Csets x3.toNatClampNeg))), (0, .ref (aC 0)), (1, .int x1), (3, .int x3)]) hx hb dX0_approvedByThoseWhoAgree_29 rfl hl (by decide) rfl (fun ls hl => ?_)
          exact b30 x1 (x2 ||| (Csets x3.toNatClampNeg)) x3 hf H locs ls hw (lv_sub hl [1, 2, 0, 3] rfl)
  unfold fX0_approvedByThoseWhoAgree at hf
  refine lv_iconst (v := 0) hx hb dX0_approvedByThoseWhoAgree_0 (by decide) ?_
  refine lv_istore_n (lv' := [(2, .int (0 : Int32)), (0, .ref (aC 0)), (1, .int p0)]) hx hb dX0_approvedByThoseWhoAgree_1 rfl hl (by decide) rfl (fun ls hl => ?_)
  refine lv_iconst (v := 0) hx hb dX0_approvedByThoseWhoAgree_2 (by decide) ?_
  refine lv_istore_n (lv' := [(3, .int (0 : Int32)), (2, .int (0 : Int32)), (0, .ref (aC 0)), (1, .int p0)]) hx hb dX0_approvedByThoseWhoAgree_3 rfl hl (by decide) rfl (fun ls hl => ?_)
  exact b4 N p0 (0 : Int32) (0 : Int32) hf H locs ls hw (lv_sub hl [2, 3, 1, 0] rfl)
set_option maxHeartbeats 4000000 in
set_option maxRecDepth 100000 in
theorem kJ6_bitCount_0f7a4 (l : Launch) (D : va_G) (cI cJ cO : ClassId) (N : Nat) (p0 : Int32) (u : Int32) (hf : fJ6_bitCount_0f7a4 N p0 = some u) : CtI l yJ6_bitCount_0f7a4 wsJ6_bitCount_0f7a4 (zk_rm 0 0) D cI cJ cO [.int p0] ([]) ([]) (u) := by
  refine zk_enter (cc := cJ6_bitCount_0f7a4) (maxL := 1) (ret := some .int) (own := RJ6) (Qf := fun A => QwI D ([]) (u) A) (by decide) rfl rfl (Nat.le_of_ble_eq_true rfl) ?_
  intro p e s m args below meth c A Q H locs ls hC hQ hw hl
  obtain ⟨hx, hb, hml, hr, hts, hown, hlocks, hN, hK, hA⟩ := hC
  have hl : lv_has ls 1 [(0, .int p0)] := hl
  have hq0 := hts (.constant RJ6 265 (1431655765)) (by decide +kernel)
  have hq1 := hts (.constant RJ6 266 (858993459)) (by decide +kernel)
  have hq2 := hts (.constant RJ6 267 (252645135)) (by decide +kernel)
  unfold fJ6_bitCount_0f7a4 at hf
  refine lv_iload_n hx hb dJ6_bitCount_0f7a4_0 rfl (lv_at hl 0 rfl) ?_
  refine lv_iload_n hx hb dJ6_bitCount_0f7a4_1 rfl (lv_at hl 0 rfl) ?_
  refine lv_iconst (v := 1) hx hb dJ6_bitCount_0f7a4_2 (by decide) ?_
  refine lv_iushr (v := (p0.toUInt32 >>> ((1 : Int32).toUInt32 &&& Int32.toUInt32 31)).toInt32) hx hb dJ6_bitCount_0f7a4_3 rfl ?_
  refine lv_ldcw hx hb hown hq0 dJ6_bitCount_0f7a4_4 ?_
  refine lv_iand hx hb dJ6_bitCount_0f7a4_7 ?_
  refine lv_isub hx hb dJ6_bitCount_0f7a4_8 ?_
  refine lv_istore_n (lv' := [(0, .int (p0 - (((p0.toUInt32 >>> ((1 : Int32).toUInt32 &&& Int32.toUInt32 31)).toInt32) &&& (1431655765 : Int32))))]) hx hb dJ6_bitCount_0f7a4_9 rfl hl (by decide) rfl (fun ls hl => ?_)
  refine lv_iload_n hx hb dJ6_bitCount_0f7a4_10 rfl (lv_at hl 0 rfl) ?_
  refine lv_ldcw hx hb hown hq1 dJ6_bitCount_0f7a4_11 ?_
  refine lv_iand hx hb dJ6_bitCount_0f7a4_14 ?_
  refine lv_iload_n hx hb dJ6_bitCount_0f7a4_15 rfl (lv_at hl 0 rfl) ?_
  refine lv_iconst (v := 2) hx hb dJ6_bitCount_0f7a4_16 (by decide) ?_
  refine lv_iushr (v := ((p0 - (((p0.toUInt32 >>> ((1 : Int32).toUInt32 &&& Int32.toUInt32 31)).toInt32) &&& (1431655765 : Int32))).toUInt32 >>> ((2 : Int32).toUInt32 &&& Int32.toUInt32 31)).toInt32) hx hb dJ6_bitCount_0f7a4_17 rfl ?_
  refine lv_ldcw hx hb hown hq1 dJ6_bitCount_0f7a4_18 ?_
  refine lv_iand hx hb dJ6_bitCount_0f7a4_21 ?_
  refine lv_iadd hx hb dJ6_bitCount_0f7a4_22 ?_
  refine lv_istore_n (lv' := [(0, .int (((p0 - (((p0.toUInt32 >>> ((1 : Int32).toUInt32 &&& Int32.toUInt32 31)).toInt32) &&& (1431655765 : Int32))) &&& (858993459 : Int32)) + ((((p0 - (((p0.toUInt32 >>> ((1 : Int32).toUInt32 &&& Int32.toUInt32 31)).toInt32) &&& (1431655765 : Int32))).toUInt32 >>> ((2 : Int32).toUInt32 &&& Int32.toUInt32 31)).toInt32) &&& (858993459 : Int32))))]) hx hb dJ6_bitCount_0f7a4_23 rfl hl (by decide) rfl (fun ls hl => ?_)
  refine lv_iload_n hx hb dJ6_bitCount_0f7a4_24 rfl (lv_at hl 0 rfl) ?_
  refine lv_iload_n hx hb dJ6_bitCount_0f7a4_25 rfl (lv_at hl 0 rfl) ?_
  refine lv_iconst (v := 4) hx hb dJ6_bitCount_0f7a4_26 (by decide) ?_
  refine lv_iushr (v := ((((p0 - (((p0.toUInt32 >>> ((1 : Int32).toUInt32 &&& Int32.toUInt32 31)).toInt32) &&& (1431655765 : Int32))) &&& (858993459 : Int32)) + ((((p0 - (((p0.toUInt32 >>> ((1 : Int32).toUInt32 &&& Int32.toUInt32 31)).toInt32) &&& (1431655765 : Int32))).toUInt32 >>> ((2 : Int32).toUInt32 &&& Int32.toUInt32 31)).toInt32) &&& (858993459 : Int32))).toUInt32 >>> ((4 : Int32).toUInt32 &&& Int32.toUInt32 31)).toInt32) hx hb dJ6_bitCount_0f7a4_27 rfl ?_
  refine lv_iadd hx hb dJ6_bitCount_0f7a4_28 ?_
  refine lv_ldcw hx hb hown hq2 dJ6_bitCount_0f7a4_29 ?_
  refine lv_iand hx hb dJ6_bitCount_0f7a4_32 ?_
  refine lv_istore_n (lv' := [(0, .int (((((p0 - (((p0.toUInt32 >>> ((1 : Int32).toUInt32 &&& Int32.toUInt32 31)).toInt32) &&& (1431655765 : Int32))) &&& (858993459 : Int32)) + ((((p0 - (((p0.toUInt32 >>> ((1 : Int32).toUInt32 &&& Int32.toUInt32 31)).toInt32) &&& (1431655765 : Int32))).toUInt32 >>> ((2 : Int32).toUInt32 &&& Int32.toUInt32 31)).toInt32) &&& (858993459 : Int32))) + (((((p0 - (((p0.toUInt32 >>> ((1 : Int32).toUInt32 &&& Int32.toUInt32 31)).toInt32) &&& (1431655765 : Int32))) &&& (858993459 : Int32)) + ((((p0 - (((p0.toUInt32 >>> ((1 : Int32).toUInt32 &&& Int32.toUInt32 31)).toInt32) &&& (1431655765 : Int32))).toUInt32 >>> ((2 : Int32).toUInt32 &&& Int32.toUInt32 31)).toInt32) &&& (858993459 : Int32))).toUInt32 >>> ((4 : Int32).toUInt32 &&& Int32.toUInt32 31)).toInt32)) &&& (252645135 : Int32)))]) hx hb dJ6_bitCount_0f7a4_33 rfl hl (by decide) rfl (fun ls hl => ?_)
  refine lv_iload_n hx hb dJ6_bitCount_0f7a4_34 rfl (lv_at hl 0 rfl) ?_
  refine lv_iload_n hx hb dJ6_bitCount_0f7a4_35 rfl (lv_at hl 0 rfl) ?_
  refine lv_bipush (v := 8) hx hb dJ6_bitCount_0f7a4_36 (by decide) ?_
  refine lv_iushr (v := ((((((p0 - (((p0.toUInt32 >>> ((1 : Int32).toUInt32 &&& Int32.toUInt32 31)).toInt32) &&& (1431655765 : Int32))) &&& (858993459 : Int32)) + ((((p0 - (((p0.toUInt32 >>> ((1 : Int32).toUInt32 &&& Int32.toUInt32 31)).toInt32) &&& (1431655765 : Int32))).toUInt32 >>> ((2 : Int32).toUInt32 &&& Int32.toUInt32 31)).toInt32) &&& (858993459 : Int32))) + (((((p0 - (((p0.toUInt32 >>> ((1 : Int32).toUInt32 &&& Int32.toUInt32 31)).toInt32) &&& (1431655765 : Int32))) &&& (858993459 : Int32)) + ((((p0 - (((p0.toUInt32 >>> ((1 : Int32).toUInt32 &&& Int32.toUInt32 31)).toInt32) &&& (1431655765 : Int32))).toUInt32 >>> ((2 : Int32).toUInt32 &&& Int32.toUInt32 31)).toInt32) &&& (858993459 : Int32))).toUInt32 >>> ((4 : Int32).toUInt32 &&& Int32.toUInt32 31)).toInt32)) &&& (252645135 : Int32)).toUInt32 >>> ((8 : Int32).toUInt32 &&& Int32.toUInt32 31)).toInt32) hx hb dJ6_bitCount_0f7a4_38 rfl ?_
  refine lv_iadd hx hb dJ6_bitCount_0f7a4_39 ?_
  refine lv_istore_n (lv' := [(0, .int ((((((p0 - (((p0.toUInt32 >>> ((1 : Int32).toUInt32 &&& Int32.toUInt32 31)).toInt32) &&& (1431655765 : Int32))) &&& (858993459 : Int32)) + ((((p0 - (((p0.toUInt32 >>> ((1 : Int32).toUInt32 &&& Int32.toUInt32 31)).toInt32) &&& (1431655765 : Int32))).toUInt32 >>> ((2 : Int32).toUInt32 &&& Int32.toUInt32 31)).toInt32) &&& (858993459 : Int32))) + (((((p0 - (((p0.toUInt32 >>> ((1 : Int32).toUInt32 &&& Int32.toUInt32 31)).toInt32) &&& (1431655765 : Int32))) &&& (858993459 : Int32)) + ((((p0 - (((p0.toUInt32 >>> ((1 : Int32).toUInt32 &&& Int32.toUInt32 31)).toInt32) &&& (1431655765 : Int32))).toUInt32 >>> ((2 : Int32).toUInt32 &&& Int32.toUInt32 31)).toInt32) &&& (858993459 : Int32))).toUInt32 >>> ((4 : Int32).toUInt32 &&& Int32.toUInt32 31)).toInt32)) &&& (252645135 : Int32)) + (((((((p0 - (((p0.toUInt32 >>> ((1 : Int32).toUInt32 &&& Int32.toUInt32 31)).toInt32) &&& (1431655765 : Int32))) &&& (858993459 : Int32)) + ((((p0 - (((p0.toUInt32 >>> ((1 : Int32).toUInt32 &&& Int32.toUInt32 31)).toInt32) &&& (1431655765 : Int32))).toUInt32 >>> ((2 : Int32).toUInt32 &&& Int32.toUInt32 31)).toInt32) &&& (858993459 : Int32))) + (((((p0 - (((p0.toUInt32 >>> ((1 : Int32).toUInt32 &&& Int32.toUInt32 31)).toInt32) &&& (1431655765 : Int32))) &&& (858993459 : Int32)) + ((((p0 - (((p0.toUInt32 >>> ((1 : Int32).toUInt32 &&& Int32.toUInt32 31)).toInt32) &&& (1431655765 : Int32))).toUInt32 >>> ((2 : Int32).toUInt32 &&& Int32.toUInt32 31)).toInt32) &&& (858993459 : Int32))).toUInt32 >>> ((4 : Int32).toUInt32 &&& Int32.toUInt32 31)).toInt32)) &&& (252645135 : Int32)).toUInt32 >>> ((8 : Int32).toUInt32 &&& Int32.toUInt32 31)).toInt32)))]) hx hb dJ6_bitCount_0f7a4_40 rfl hl (by decide) rfl (fun ls hl => ?_)
  refine lv_iload_n hx hb dJ6_bitCount_0f7a4_41 rfl (lv_at hl 0 rfl) ?_
  refine lv_iload_n hx hb dJ6_bitCount_0f7a4_42 rfl (lv_at hl 0 rfl) ?_
  refine lv_bipush (v := 16) hx hb dJ6_bitCount_0f7a4_43 (by decide) ?_
  refine lv_iushr (v := (((((((p0 - (((p0.toUInt32 >>> ((1 : Int32).toUInt32 &&& Int32.toUInt32 31)).toInt32) &&& (1431655765 : Int32))) &&& (858993459 : Int32)) + ((((p0 - (((p0.toUInt32 >>> ((1 : Int32).toUInt32 &&& Int32.toUInt32 31)).toInt32) &&& (1431655765 : Int32))).toUInt32 >>> ((2 : Int32).toUInt32 &&& Int32.toUInt32 31)).toInt32) &&& (858993459 : Int32))) + (((((p0 - (((p0.toUInt32 >>> ((1 : Int32).toUInt32 &&& Int32.toUInt32 31)).toInt32) &&& (1431655765 : Int32))) &&& (858993459 : Int32)) + ((((p0 - (((p0.toUInt32 >>> ((1 : Int32).toUInt32 &&& Int32.toUInt32 31)).toInt32) &&& (1431655765 : Int32))).toUInt32 >>> ((2 : Int32).toUInt32 &&& Int32.toUInt32 31)).toInt32) &&& (858993459 : Int32))).toUInt32 >>> ((4 : Int32).toUInt32 &&& Int32.toUInt32 31)).toInt32)) &&& (252645135 : Int32)) + (((((((p0 - (((p0.toUInt32 >>> ((1 : Int32).toUInt32 &&& Int32.toUInt32 31)).toInt32) &&& (1431655765 : Int32))) &&& (858993459 : Int32)) + ((((p0 - (((p0.toUInt32 >>> ((1 : Int32).toUInt32 &&& Int32.toUInt32 31)).toInt32) &&& (1431655765 : Int32))).toUInt32 >>> ((2 : Int32).toUInt32 &&& Int32.toUInt32 31)).toInt32) &&& (858993459 : Int32))) + (((((p0 - (((p0.toUInt32 >>> ((1 : Int32).toUInt32 &&& Int32.toUInt32 31)).toInt32) &&& (1431655765 : Int32))) &&& (858993459 : Int32)) + ((((p0 - (((p0.toUInt32 >>> ((1 : Int32).toUInt32 &&& Int32.toUInt32 31)).toInt32) &&& (1431655765 : Int32))).toUInt32 >>> ((2 : Int32).toUInt32 &&& Int32.toUInt32 31)).toInt32) &&& (858993459 : Int32))).toUInt32 >>> ((4 : Int32).toUInt32 &&& Int32.toUInt32 31)).toInt32)) &&& (252645135 : Int32)).toUInt32 >>> ((8 : Int32).toUInt32 &&& Int32.toUInt32 31)).toInt32)).toUInt32 >>> ((16 : Int32).toUInt32 &&& Int32.toUInt32 31)).toInt32) hx hb dJ6_bitCount_0f7a4_45 rfl ?_
  refine lv_iadd hx hb dJ6_bitCount_0f7a4_46 ?_
  refine lv_istore_n (lv' := [(0, .int (((((((p0 - (((p0.toUInt32 >>> ((1 : Int32).toUInt32 &&& Int32.toUInt32 31)).toInt32) &&& (1431655765 : Int32))) &&& (858993459 : Int32)) + ((((p0 - (((p0.toUInt32 >>> ((1 : Int32).toUInt32 &&& Int32.toUInt32 31)).toInt32) &&& (1431655765 : Int32))).toUInt32 >>> ((2 : Int32).toUInt32 &&& Int32.toUInt32 31)).toInt32) &&& (858993459 : Int32))) + (((((p0 - (((p0.toUInt32 >>> ((1 : Int32).toUInt32 &&& Int32.toUInt32 31)).toInt32) &&& (1431655765 : Int32))) &&& (858993459 : Int32)) + ((((p0 - (((p0.toUInt32 >>> ((1 : Int32).toUInt32 &&& Int32.toUInt32 31)).toInt32) &&& (1431655765 : Int32))).toUInt32 >>> ((2 : Int32).toUInt32 &&& Int32.toUInt32 31)).toInt32) &&& (858993459 : Int32))).toUInt32 >>> ((4 : Int32).toUInt32 &&& Int32.toUInt32 31)).toInt32)) &&& (252645135 : Int32)) + (((((((p0 - (((p0.toUInt32 >>> ((1 : Int32).toUInt32 &&& Int32.toUInt32 31)).toInt32) &&& (1431655765 : Int32))) &&& (858993459 : Int32)) + ((((p0 - (((p0.toUInt32 >>> ((1 : Int32).toUInt32 &&& Int32.toUInt32 31)).toInt32) &&& (1431655765 : Int32))).toUInt32 >>> ((2 : Int32).toUInt32 &&& Int32.toUInt32 31)).toInt32) &&& (858993459 : Int32))) + (((((p0 - (((p0.toUInt32 >>> ((1 : Int32).toUInt32 &&& Int32.toUInt32 31)).toInt32) &&& (1431655765 : Int32))) &&& (858993459 : Int32)) + ((((p0 - (((p0.toUInt32 >>> ((1 : Int32).toUInt32 &&& Int32.toUInt32 31)).toInt32) &&& (1431655765 : Int32))).toUInt32 >>> ((2 : Int32).toUInt32 &&& Int32.toUInt32 31)).toInt32) &&& (858993459 : Int32))).toUInt32 >>> ((4 : Int32).toUInt32 &&& Int32.toUInt32 31)).toInt32)) &&& (252645135 : Int32)).toUInt32 >>> ((8 : Int32).toUInt32 &&& Int32.toUInt32 31)).toInt32)) + ((((((((p0 - (((p0.toUInt32 >>> ((1 : Int32).toUInt32 &&& Int32.toUInt32 31)).toInt32) &&& (1431655765 : Int32))) &&& (858993459 : Int32)) + ((((p0 - (((p0.toUInt32 >>> ((1 : Int32).toUInt32 &&& Int32.toUInt32 31)).toInt32) &&& (1431655765 : Int32))).toUInt32 >>> ((2 : Int32).toUInt32 &&& Int32.toUInt32 31)).toInt32) &&& (858993459 : Int32))) + (((((p0 - (((p0.toUInt32 >>> ((1 : Int32).toUInt32 &&& Int32.toUInt32 31)).toInt32) &&& (1431655765 : Int32))) &&& (858993459 : Int32)) + ((((p0 - (((p0.toUInt32 >>> ((1 : Int32).toUInt32 &&& Int32.toUInt32 31)).toInt32) &&& (1431655765 : Int32))).toUInt32 >>> ((2 : Int32).toUInt32 &&& Int32.toUInt32 31)).toInt32) &&& (858993459 : Int32))).toUInt32 >>> ((4 : Int32).toUInt32 &&& Int32.toUInt32 31)).toInt32)) &&& (252645135 : Int32)) + (((((((p0 - (((p0.toUInt32 >>> ((1 : Int32).toUInt32 &&& Int32.toUInt32 31)).toInt32) &&& (1431655765 : Int32))) &&& (858993459 : Int32)) + ((((p0 - (((p0.toUInt32 >>> ((1 : Int32).toUInt32 &&& Int32.toUInt32 31)).toInt32) &&& (1431655765 : Int32))).toUInt32 >>> ((2 : Int32).toUInt32 &&& Int32.toUInt32 31)).toInt32) &&& (858993459 : Int32))) + (((((p0 - (((p0.toUInt32 >>> ((1 : Int32).toUInt32 &&& Int32.toUInt32 31)).toInt32) &&& (1431655765 : Int32))) &&& (858993459 : Int32)) + ((((p0 - (((p0.toUInt32 >>> ((1 : Int32).toUInt32 &&& Int32.toUInt32 31)).toInt32) &&& (1431655765 : Int32))).toUInt32 >>> ((2 : Int32).toUInt32 &&& Int32.toUInt32 31)).toInt32) &&& (858993459 : Int32))).toUInt32 >>> ((4 : Int32).toUInt32 &&& Int32.toUInt32 31)).toInt32)) &&& (252645135 : Int32)).toUInt32 >>> ((8 : Int32).toUInt32 &&& Int32.toUInt32 31)).toInt32)).toUInt32 >>> ((16 : Int32).toUInt32 &&& Int32.toUInt32 31)).toInt32)))]) hx hb dJ6_bitCount_0f7a4_47 rfl hl (by decide) rfl (fun ls hl => ?_)
  refine lv_iload_n hx hb dJ6_bitCount_0f7a4_48 rfl (lv_at hl 0 rfl) ?_
  refine lv_bipush (v := 63) hx hb dJ6_bitCount_0f7a4_49 (by decide) ?_
  refine lv_iand hx hb dJ6_bitCount_0f7a4_51 ?_
  cases hf
  exact zk_iret hx hb hr hlocks rfl hQ hw [] rfl (by decide) dJ6_bitCount_0f7a4_52
set_option maxHeartbeats 4000000 in
set_option maxRecDepth 100000 in
theorem kX0_isOwed (l : Launch) (D : va_G) (cI cJ cO : ClassId) (N : Nat) (aC : Nat → Nat) (p0 : Int32) (Ccandidates : Int32) (Cballots : Int32) (Cseats : Int32) (Cwithdrawn : Int32) (Cvoters : Nat → Int32) (Csets : Nat → Int32) (Crank : Nat → Int32) (u : Int32) (hf : fX0_isOwed N p0 Cballots Cseats Cvoters Csets = some u) : CtI l yX0_isOwed wsX0_isOwed (zk_rm 3 65) D cI cJ cO [.ref (aC 0), .int p0] (zwC cI aC Ccandidates Cballots Cseats Cwithdrawn Cvoters Csets Crank) (zwC cI aC Ccandidates Cballots Cseats Cwithdrawn Cvoters Csets Crank) (u) := by
  refine zk_enter (cc := cX0_isOwed) (maxL := 3) (ret := some .boolean) (own := RX0) (Qf := fun A => QwI D (zwC cI aC Ccandidates Cballots Cseats Cwithdrawn Cvoters Csets Crank) (u) A) (by decide) rfl rfl (Nat.le_of_ble_eq_true rfl) ?_
  intro p e s m args below meth c A Q H locs ls hC hQ hw hl
  obtain ⟨hx, hb, hml, hr, hts, hown, hlocks, hN, hK, hA⟩ := hC
  have hl : lv_has ls 3 [(0, .ref (aC 0)), (1, .int p0)] := hl
  have hiX0 : ∀ w ∈ u_ws RX0 TX0 7, w ∈ wsX0_isOwed := by decide +kernel
  have hq0 := hts (.fieldLink RX0 28 "LoadCouncil$Council" "seats" "I") (by decide +kernel)
  unfold fX0_isOwed at hf
  refine lv_aload_n hx hb dX0_isOwed_0 rfl (lv_at hl 0 rfl) ?_
  refine lv_iload_n hx hb dX0_isOwed_1 rfl (lv_at hl 1 rfl) ?_
  obtain ⟨u1, e2, hf⟩ := zk_bd hf
  refine zk_calli (wc := zwC cI aC Ccandidates Cballots Cseats Cwithdrawn Cvoters Csets Crank) (wr := []) hw hA [0, 1, 2, 3] [] rfl rfl (by decide) (by decide) (va_runV (C := RX0) (As := [.int p0]) (rest := []) ⟨hx, hb, hml, hown, hts⟩ (kX0_votersWhoAgree l D cI cJ cO N aC p0 Ccandidates Cballots Cseats Cwithdrawn Cvoters Csets Crank u1 e2 H.size) (cwV 1 hts gX0_isOwed_X0_votersWhoAgree rfl rfl rfl (by decide +kernel) ⟨Nat.le_of_ble_eq_true rfl, Nat.le_of_ble_eq_true rfl⟩) (zk_preV (wc := zwC cI aC Ccandidates Cballots Cseats Cwithdrawn Cvoters Csets Crank) hN hK hw [0, 1, 2, 3] rfl (by decide) 0 0 rfl rfl) rfl rfl hl.1 rfl (lv_room (Nat.le_of_ble_eq_true rfl)) dX0_isOwed_2 ⟨Nat.zero_le _, Nat.zero_le _⟩) (fun H locs hw => ?_)
  have hw : Wd D A s.heap (zwC cI aC Ccandidates Cballots Cseats Cwithdrawn Cvoters Csets Crank) H locs := hw
  refine lv_istore_n (lv' := [(2, .int u1), (0, .ref (aC 0)), (1, .int p0)]) hx hb dX0_isOwed_5 rfl hl (by decide) rfl (fun ls hl => ?_)
  refine lv_iload_n hx hb dX0_isOwed_6 rfl (lv_at hl 0 rfl) ?_
  refine lv_if_le (tgt := 32) hx hb dX0_isOwed_7 (by decide) (fun c3 => ?_) (fun c3 => ?_)
  · replace hf := zk_t c3 hf
    refine lv_iconst (v := 0) hx hb dX0_isOwed_32 (by decide) ?_
    cases hf
    exact zk_iret hx hb hr hlocks rfl hQ hw [0, 1, 2, 3] rfl (by decide) dX0_isOwed_33
  · replace hf := zk_f c3 hf
    refine lv_iload_n hx hb dX0_isOwed_10 rfl (lv_at hl 0 rfl) ?_
    refine lv_aload_n hx hb dX0_isOwed_11 rfl (lv_at hl 1 rfl) ?_
    refine va_get (D := D) (ci := 0) (v := .int Cseats) (C := RX0) (T := TX0) (N := 7) hx hb hts hiX0 hown hK hw.1 0 rfl rfl 2 (by decide) hq0 (fun _ h9 => h9) rfl dX0_isOwed_12 ?_
    refine lv_imul hx hb dX0_isOwed_15 ?_
    refine lv_iload_n hx hb dX0_isOwed_16 rfl (lv_at hl 2 rfl) ?_
    obtain ⟨u4, e5, hf⟩ := zk_bd hf
    refine zk_calli (wc := []) (wr := zwC cI aC Ccandidates Cballots Cseats Cwithdrawn Cvoters Csets Crank) hw hA [] [0, 1, 2, 3] rfl rfl (by decide) (by decide) (va_runS (As := [.int p0]) (rest := [.int (u1 * Cseats)]) ⟨hx, hb, hml, hown, hts⟩ (kJ6_bitCount_0f7a4 l D cI cJ cO N p0 u4 e5 H.size) (va_cwS 1 hts gX0_isOwed_J6_bitCount_0f7a4 rfl rfl rfl (by decide +kernel) ⟨Nat.le_of_ble_eq_true rfl, Nat.le_of_ble_eq_true rfl⟩) (zk_preS (wc := []) hN hK hw [] rfl (by decide)) rfl rfl hl.1 rfl (lv_room (Nat.le_of_ble_eq_true rfl)) dX0_isOwed_17 ⟨Nat.zero_le _, Nat.zero_le _⟩) (fun H locs hw => ?_)
    have hw : Wd D A s.heap (zwC cI aC Ccandidates Cballots Cseats Cwithdrawn Cvoters Csets Crank) H locs := hw
    refine lv_aload_n hx hb dX0_isOwed_20 rfl (lv_at hl 1 rfl) ?_
    obtain ⟨u6, e7, hf⟩ := zk_bd hf
    refine zk_calli (wc := zwC cI aC Ccandidates Cballots Cseats Cwithdrawn Cvoters Csets Crank) (wr := []) hw hA [0, 1, 2, 3] [] rfl rfl (by decide) (by decide) (va_runV (C := RX0) (As := []) (rest := [.int u4, .int (u1 * Cseats)]) ⟨hx, hb, hml, hown, hts⟩ (kX0_allVoters l D cI cJ cO N aC Ccandidates Cballots Cseats Cwithdrawn Cvoters Csets Crank u6 e7 H.size) (cwV 0 hts gX0_isOwed_X0_allVoters rfl rfl rfl (by decide +kernel) ⟨Nat.le_of_ble_eq_true rfl, Nat.le_of_ble_eq_true rfl⟩) (zk_preV (wc := zwC cI aC Ccandidates Cballots Cseats Cwithdrawn Cvoters Csets Crank) hN hK hw [0, 1, 2, 3] rfl (by decide) 0 0 rfl rfl) rfl rfl hl.1 rfl (lv_room (Nat.le_of_ble_eq_true rfl)) dX0_isOwed_21 ⟨Nat.zero_le _, Nat.zero_le _⟩) (fun H locs hw => ?_)
    have hw : Wd D A s.heap (zwC cI aC Ccandidates Cballots Cseats Cwithdrawn Cvoters Csets Crank) H locs := hw
    refine lv_imul hx hb dX0_isOwed_24 ?_
    refine lv_icmp_lt (tgt := 32) hx hb dX0_isOwed_25 (by decide) (fun c8 => ?_) (fun c8 => ?_)
    · replace hf := zk_t c8 hf
      refine lv_iconst (v := 0) hx hb dX0_isOwed_32 (by decide) ?_
      cases hf
      exact zk_iret hx hb hr hlocks rfl hQ hw [0, 1, 2, 3] rfl (by decide) dX0_isOwed_33
    · replace hf := zk_f c8 hf
      refine lv_iconst (v := 1) hx hb dX0_isOwed_28 (by decide) ?_
      refine lv_goto (tgt := 33) hx hb dX0_isOwed_29 (by decide) ?_
      cases hf
      exact zk_iret hx hb hr hlocks rfl hQ hw [0, 1, 2, 3] rfl (by decide) dX0_isOwed_33
set_option maxHeartbeats 4000000 in
set_option maxRecDepth 100000 in
theorem kX0_isShort (l : Launch) (D : va_G) (cI cJ cO : ClassId) (N : Nat) (aC : Nat → Nat) (p0 : Int32) (p1 : Int32) (Ccandidates : Int32) (Cballots : Int32) (Cseats : Int32) (Cwithdrawn : Int32) (Cvoters : Nat → Int32) (Csets : Nat → Int32) (Crank : Nat → Int32) (u : Int32) (hf : fX0_isShort N p0 p1 Cballots Cseats Cvoters Csets = some u) : CtI l yX0_isShort wsX0_isShort (zk_rm 4 87) D cI cJ cO [.ref (aC 0), .int p0, .int p1] (zwC cI aC Ccandidates Cballots Cseats Cwithdrawn Cvoters Csets Crank) (zwC cI aC Ccandidates Cballots Cseats Cwithdrawn Cvoters Csets Crank) (u) := by
  refine zk_enter (cc := cX0_isShort) (maxL := 3) (ret := some .boolean) (own := RX0) (Qf := fun A => QwI D (zwC cI aC Ccandidates Cballots Cseats Cwithdrawn Cvoters Csets Crank) (u) A) (by decide) rfl rfl (Nat.le_of_ble_eq_true rfl) ?_
  intro p e s m args below meth c A Q H locs ls hC hQ hw hl
  obtain ⟨hx, hb, hml, hr, hts, hown, hlocks, hN, hK, hA⟩ := hC
  have hl : lv_has ls 3 [(0, .ref (aC 0)), (1, .int p0), (2, .int p1)] := hl
  unfold fX0_isShort at hf
  refine lv_aload_n hx hb dX0_isShort_0 rfl (lv_at hl 0 rfl) ?_
  refine lv_iload_n hx hb dX0_isShort_1 rfl (lv_at hl 1 rfl) ?_
  obtain ⟨u1, e2, hf⟩ := zk_bd hf
  refine zk_calli (wc := zwC cI aC Ccandidates Cballots Cseats Cwithdrawn Cvoters Csets Crank) (wr := []) hw hA [0, 1, 2, 3] [] rfl rfl (by decide) (by decide) (va_runV (C := RX0) (As := [.int p0]) (rest := []) ⟨hx, hb, hml, hown, hts⟩ (kX0_isOwed l D cI cJ cO N aC p0 Ccandidates Cballots Cseats Cwithdrawn Cvoters Csets Crank u1 e2 H.size) (cwV 1 hts gX0_isShort_X0_isOwed rfl rfl rfl (by decide +kernel) ⟨Nat.le_of_ble_eq_true rfl, Nat.le_of_ble_eq_true rfl⟩) (zk_preV (wc := zwC cI aC Ccandidates Cballots Cseats Cwithdrawn Cvoters Csets Crank) hN hK hw [0, 1, 2, 3] rfl (by decide) 0 0 rfl rfl) rfl rfl hl.1 rfl (lv_room (Nat.le_of_ble_eq_true rfl)) dX0_isShort_2 ⟨Nat.zero_le _, Nat.zero_le _⟩) (fun H locs hw => ?_)
  have hw : Wd D A s.heap (zwC cI aC Ccandidates Cballots Cseats Cwithdrawn Cvoters Csets Crank) H locs := hw
  refine lv_if_eq (tgt := 29) hx hb dX0_isShort_5 (by decide) (fun c3 => ?_) (fun c3 => ?_)
  · replace hf := zk_t c3 hf
    refine lv_iconst (v := 0) hx hb dX0_isShort_29 (by decide) ?_
    cases hf
    exact zk_iret hx hb hr hlocks rfl hQ hw [0, 1, 2, 3] rfl (by decide) dX0_isShort_30
  · replace hf := zk_f c3 hf
    refine lv_iload_n hx hb dX0_isShort_8 rfl (lv_at hl 2 rfl) ?_
    refine lv_aload_n hx hb dX0_isShort_9 rfl (lv_at hl 0 rfl) ?_
    refine lv_iload_n hx hb dX0_isShort_10 rfl (lv_at hl 1 rfl) ?_
    obtain ⟨u4, e5, hf⟩ := zk_bd hf
    refine zk_calli (wc := zwC cI aC Ccandidates Cballots Cseats Cwithdrawn Cvoters Csets Crank) (wr := []) hw hA [0, 1, 2, 3] [] rfl rfl (by decide) (by decide) (va_runV (C := RX0) (As := [.int p0]) (rest := [.int p1]) ⟨hx, hb, hml, hown, hts⟩ (kX0_approvedByThoseWhoAgree l D cI cJ cO N aC p0 Ccandidates Cballots Cseats Cwithdrawn Cvoters Csets Crank u4 e5 H.size) (cwV 1 hts gX0_isShort_X0_approvedByThoseWhoAgree rfl rfl rfl (by decide +kernel) ⟨Nat.le_of_ble_eq_true rfl, Nat.le_of_ble_eq_true rfl⟩) (zk_preV (wc := zwC cI aC Ccandidates Cballots Cseats Cwithdrawn Cvoters Csets Crank) hN hK hw [0, 1, 2, 3] rfl (by decide) 0 0 rfl rfl) rfl rfl hl.1 rfl (lv_room (Nat.le_of_ble_eq_true rfl)) dX0_isShort_11 ⟨Nat.zero_le _, Nat.zero_le _⟩) (fun H locs hw => ?_)
    have hw : Wd D A s.heap (zwC cI aC Ccandidates Cballots Cseats Cwithdrawn Cvoters Csets Crank) H locs := hw
    refine lv_iand hx hb dX0_isShort_14 ?_
    obtain ⟨u6, e7, hf⟩ := zk_bd hf
    refine zk_calli (wc := []) (wr := zwC cI aC Ccandidates Cballots Cseats Cwithdrawn Cvoters Csets Crank) hw hA [] [0, 1, 2, 3] rfl rfl (by decide) (by decide) (va_runS (As := [.int (p1 &&& u4)]) (rest := []) ⟨hx, hb, hml, hown, hts⟩ (kJ6_bitCount_0f7a4 l D cI cJ cO N (p1 &&& u4) u6 e7 H.size) (va_cwS 1 hts gX0_isShort_J6_bitCount_0f7a4 rfl rfl rfl (by decide +kernel) ⟨Nat.le_of_ble_eq_true rfl, Nat.le_of_ble_eq_true rfl⟩) (zk_preS (wc := []) hN hK hw [] rfl (by decide)) rfl rfl hl.1 rfl (lv_room (Nat.le_of_ble_eq_true rfl)) dX0_isShort_15 ⟨Nat.zero_le _, Nat.zero_le _⟩) (fun H locs hw => ?_)
    have hw : Wd D A s.heap (zwC cI aC Ccandidates Cballots Cseats Cwithdrawn Cvoters Csets Crank) H locs := hw
    refine lv_iload_n hx hb dX0_isShort_18 rfl (lv_at hl 1 rfl) ?_
    obtain ⟨u8, e9, hf⟩ := zk_bd hf
    refine zk_calli (wc := []) (wr := zwC cI aC Ccandidates Cballots Cseats Cwithdrawn Cvoters Csets Crank) hw hA [] [0, 1, 2, 3] rfl rfl (by decide) (by decide) (va_runS (As := [.int p0]) (rest := [.int u6]) ⟨hx, hb, hml, hown, hts⟩ (kJ6_bitCount_0f7a4 l D cI cJ cO N p0 u8 e9 H.size) (va_cwS 1 hts gX0_isShort_J6_bitCount_0f7a4 rfl rfl rfl (by decide +kernel) ⟨Nat.le_of_ble_eq_true rfl, Nat.le_of_ble_eq_true rfl⟩) (zk_preS (wc := []) hN hK hw [] rfl (by decide)) rfl rfl hl.1 rfl (lv_room (Nat.le_of_ble_eq_true rfl)) dX0_isShort_19 ⟨Nat.zero_le _, Nat.zero_le _⟩) (fun H locs hw => ?_)
    have hw : Wd D A s.heap (zwC cI aC Ccandidates Cballots Cseats Cwithdrawn Cvoters Csets Crank) H locs := hw
    refine lv_icmp_ge (tgt := 29) hx hb dX0_isShort_22 (by decide) (fun c10 => ?_) (fun c10 => ?_)
    · replace hf := zk_t c10 hf
      refine lv_iconst (v := 0) hx hb dX0_isShort_29 (by decide) ?_
      cases hf
      exact zk_iret hx hb hr hlocks rfl hQ hw [0, 1, 2, 3] rfl (by decide) dX0_isShort_30
    · replace hf := zk_f c10 hf
      refine lv_iconst (v := 1) hx hb dX0_isShort_25 (by decide) ?_
      refine lv_goto (tgt := 30) hx hb dX0_isShort_26 (by decide) ?_
      cases hf
      exact zk_iret hx hb hr hlocks rfl hQ hw [0, 1, 2, 3] rfl (by decide) dX0_isShort_30
set_option maxHeartbeats 4000000 in
set_option maxRecDepth 100000 in
theorem kX4_hasBit (l : Launch) (D : va_G) (cI cJ cO : ClassId) (N : Nat) (p0 : Int32) (p1 : Int32) (u : Int32) (hf : fX4_hasBit N p0 p1 = some u) : CtI l yX4_hasBit wsX4_hasBit (zk_rm 0 0) D cI cJ cO [.int p0, .int p1] ([]) ([]) (u) := by
  refine zk_enter (cc := cX4_hasBit) (maxL := 2) (ret := some .boolean) (own := RX4) (Qf := fun A => QwI D ([]) (u) A) (by decide) rfl rfl (Nat.le_of_ble_eq_true rfl) ?_
  intro p e s m args below meth c A Q H locs ls hC hQ hw hl
  obtain ⟨hx, hb, hml, hr, hts, hown, hlocks, hN, hK, hA⟩ := hC
  have hl : lv_has ls 2 [(0, .int p0), (1, .int p1)] := hl
  unfold fX4_hasBit at hf
  refine lv_iload_n hx hb dX4_hasBit_0 rfl (lv_at hl 0 rfl) ?_
  refine lv_iload_n hx hb dX4_hasBit_1 rfl (lv_at hl 1 rfl) ?_
  refine lv_ishr hx hb dX4_hasBit_2 ?_
  refine lv_iconst (v := 1) hx hb dX4_hasBit_3 (by decide) ?_
  refine lv_iand hx hb dX4_hasBit_4 ?_
  refine lv_iconst (v := 1) hx hb dX4_hasBit_5 (by decide) ?_
  refine lv_icmp_ne (tgt := 13) hx hb dX4_hasBit_6 (by decide) (fun c1 => ?_) (fun c1 => ?_)
  · replace hf := zk_f c1 hf
    refine lv_iconst (v := 0) hx hb dX4_hasBit_13 (by decide) ?_
    cases hf
    exact zk_iret hx hb hr hlocks rfl hQ hw [] rfl (by decide) dX4_hasBit_14
  · replace hf := zk_t c1 hf
    refine lv_iconst (v := 1) hx hb dX4_hasBit_9 (by decide) ?_
    refine lv_goto (tgt := 14) hx hb dX4_hasBit_10 (by decide) ?_
    cases hf
    exact zk_iret hx hb hr hlocks rfl hQ hw [] rfl (by decide) dX4_hasBit_14
set_option maxHeartbeats 4000000 in
set_option maxRecDepth 100000 in
theorem kX0_isWithdrawn (l : Launch) (D : va_G) (cI cJ cO : ClassId) (N : Nat) (aC : Nat → Nat) (p0 : Int32) (Ccandidates : Int32) (Cballots : Int32) (Cseats : Int32) (Cwithdrawn : Int32) (Cvoters : Nat → Int32) (Csets : Nat → Int32) (Crank : Nat → Int32) (u : Int32) (hf : fX0_isWithdrawn N p0 Cwithdrawn = some u) : CtI l yX0_isWithdrawn wsX0_isWithdrawn (zk_rm 1 21) D cI cJ cO [.ref (aC 0), .int p0] (zwC cI aC Ccandidates Cballots Cseats Cwithdrawn Cvoters Csets Crank) (zwC cI aC Ccandidates Cballots Cseats Cwithdrawn Cvoters Csets Crank) (u) := by
  refine zk_enter (cc := cX0_isWithdrawn) (maxL := 2) (ret := some .boolean) (own := RX0) (Qf := fun A => QwI D (zwC cI aC Ccandidates Cballots Cseats Cwithdrawn Cvoters Csets Crank) (u) A) (by decide) rfl rfl (Nat.le_of_ble_eq_true rfl) ?_
  intro p e s m args below meth c A Q H locs ls hC hQ hw hl
  obtain ⟨hx, hb, hml, hr, hts, hown, hlocks, hN, hK, hA⟩ := hC
  have hl : lv_has ls 2 [(0, .ref (aC 0)), (1, .int p0)] := hl
  have hiX0 : ∀ w ∈ u_ws RX0 TX0 7, w ∈ wsX0_isWithdrawn := by decide +kernel
  have hq0 := hts (.fieldLink RX0 31 "LoadCouncil$Council" "withdrawn" "I") (by decide +kernel)
  have hq1 := hts (.initialized RX4) (by decide +kernel)
  have hq2 := hts (.static yX4_hasBit) (by decide +kernel)
  unfold fX0_isWithdrawn at hf
  refine lv_aload_n hx hb dX0_isWithdrawn_0 rfl (lv_at hl 0 rfl) ?_
  refine va_get (D := D) (ci := 0) (v := .int Cwithdrawn) (C := RX0) (T := TX0) (N := 7) hx hb hts hiX0 hown hK hw.1 0 rfl rfl 3 (by decide) hq0 (fun _ h9 => h9) rfl dX0_isWithdrawn_1 ?_
  refine lv_iload_n hx hb dX0_isWithdrawn_4 rfl (lv_at hl 1 rfl) ?_
  obtain ⟨u1, e2, hf⟩ := zk_bd hf
  refine zk_calli (wc := []) (wr := zwC cI aC Ccandidates Cballots Cseats Cwithdrawn Cvoters Csets Crank) hw hA [] [0, 1, 2, 3] rfl rfl (by decide) (by decide) (va_runSN (As := [.int Cwithdrawn, .int p0]) (rest := []) ⟨hx, hb, hml, hown, hts⟩ (kX4_hasBit l D cI cJ cO N Cwithdrawn p0 u1 e2 H.size) ⟨va_cnB 2 hts ggX0_isWithdrawn_X4_hasBit rfl rfl rfl (nwM_X0_64 hN) hq1 (by decide +kernel) ⟨Nat.le_of_ble_eq_true rfl, Nat.le_of_ble_eq_true rfl⟩, hq2, trivial⟩ (zk_preS (wc := []) hN hK hw [] rfl (by decide)) rfl rfl hl.1 rfl (lv_room (Nat.le_of_ble_eq_true rfl)) dX0_isWithdrawn_5 ⟨Nat.zero_le _, Nat.zero_le _⟩) (fun H locs hw => ?_)
  have hw : Wd D A s.heap (zwC cI aC Ccandidates Cballots Cseats Cwithdrawn Cvoters Csets Crank) H locs := hw
  obtain ⟨h3, hf⟩ := zk_ck hf
  cases hf
  exact zk_iret hx hb hr hlocks (zk_nb h3) hQ hw [0, 1, 2, 3] rfl (by decide) dX0_isWithdrawn_8
set_option maxHeartbeats 4000000 in
set_option maxRecDepth 100000 in
theorem kX0_placeOf (l : Launch) (D : va_G) (cI cJ cO : ClassId) (N : Nat) (aC : Nat → Nat) (p0 : Int32) (Ccandidates : Int32) (Cballots : Int32) (Cseats : Int32) (Cwithdrawn : Int32) (Cvoters : Nat → Int32) (Csets : Nat → Int32) (Crank : Nat → Int32) (u : Int32) (hf : fX0_placeOf N p0 Ccandidates Crank = some u) : CtI l yX0_placeOf wsX0_placeOf (zk_rm 0 0) D cI cJ cO [.ref (aC 0), .int p0] (zwC cI aC Ccandidates Cballots Cseats Cwithdrawn Cvoters Csets Crank) (zwC cI aC Ccandidates Cballots Cseats Cwithdrawn Cvoters Csets Crank) (u) := by
  refine zk_enter (cc := cX0_placeOf) (maxL := 4) (ret := some .int) (own := RX0) (Qf := fun A => QwI D (zwC cI aC Ccandidates Cballots Cseats Cwithdrawn Cvoters Csets Crank) (u) A) (by decide) rfl rfl (Nat.le_of_ble_eq_true rfl) ?_
  intro p e s m args below meth c A Q H locs ls hC hQ hw hl
  obtain ⟨hx, hb, hml, hr, hts, hown, hlocks, hN, hK, hA⟩ := hC
  have hl : lv_has ls 4 [(0, .ref (aC 0)), (1, .int p0)] := hl
  have hiX0 : ∀ w ∈ u_ws RX0 TX0 7, w ∈ wsX0_placeOf := by decide +kernel
  have hq0 := hts (.fieldLink RX0 21 "LoadCouncil$Council" "candidates" "I") (by decide +kernel)
  have hq1 := hts (.fieldLink RX0 18 "LoadCouncil$Council" "rank" "[I") (by decide +kernel)
  have b4 : ∀ (n4 : Nat), ∀ (x1 : Int32) (x2 : Int32) (x3 : Int32), fX0_placeOf_b4 N n4 x1 x2 x3 Ccandidates Crank = some u → ∀ (H : Heap) (locs : List Loc) (ls : Array Slot), Wd D A s.heap (zwC cI aC Ccandidates Cballots Cseats Cwithdrawn Cvoters Csets Crank) H locs → lv_has ls 4 [(0, .ref (aC 0)), (1, .int x1), (2, .int x2), (3, .int x3)] → W p l e (zk_rm 0 0) s m args below meth c H locs 0 0 Q (F0 m 4 ls []) := by
    intro n4
    induction n4 with
    | zero =>
      intro x1 x2 x3 hf
      exact zk_none hf
    | succ n4 ih4 =>
      have b24 : ∀ (x1 : Int32) (x2 : Int32) (x3 : Int32), fX0_placeOf_b24 N (fun z0 z1 z2 z3 z4 => fX0_placeOf_b4 N n4 z0 z1 z2 z3 z4) x1 x2 x3 Ccandidates Crank = some u → ∀ (H : Heap) (locs : List Loc) (ls : Array Slot), Wd D A s.heap (zwC cI aC Ccandidates Cballots Cseats Cwithdrawn Cvoters Csets Crank) H locs → lv_has ls 4 [(0, .ref (aC 0)), (1, .int x1), (2, .int x2), (3, .int x3)] → W p l e (zk_rm 0 0) s m args below meth c H locs 0 0 Q (F0 m 24 ls []) := by
        intro x1 x2 x3 hf H locs ls hw hl
        unfold fX0_placeOf_b24 at hf
        refine lv_iinc (v := (x3 + (1 : Int32))) (lv' := [(3, .int (x3 + (1 : Int32))), (0, .ref (aC 0)), (1, .int x1), (2, .int x2)]) hx hb dX0_placeOf_24 hl (k := 3) rfl rfl (by decide) rfl (fun ls hl => ?_)
        refine lv_goto (tgt := 4) hx hb dX0_placeOf_27 (by decide) ?_
        exact ih4 x1 x2 (x3 + (1 : Int32)) hf H locs ls hw (lv_sub hl [1, 2, 3, 0] rfl)
      intro x1 x2 x3 hf H locs ls hw hl
      rw [fX0_placeOf_b4] at hf
      refine lv_iload_n hx hb dX0_placeOf_4 rfl (lv_at hl 3 rfl) ?_
      refine lv_aload_n hx hb dX0_placeOf_5 rfl (lv_at hl 0 rfl) ?_
      refine va_get (D := D) (ci := 0) (v := .int Ccandidates) (C := RX0) (T := TX0) (N := 7) hx hb hts hiX0 hown hK hw.1 0 rfl rfl 0 (by decide) hq0 (fun _ h9 => h9) rfl dX0_placeOf_6 ?_
      refine lv_icmp_ge (tgt := 30) hx hb dX0_placeOf_9 (by decide) (fun c1 => ?_) (fun c1 => ?_)
      · replace hf := zk_t c1 hf
        refine lv_iload_n hx hb dX0_placeOf_30 rfl (lv_at hl 2 rfl) ?_
        cases hf
        exact zk_iret hx hb hr hlocks rfl hQ hw [0, 1, 2, 3] rfl (by decide) dX0_placeOf_31
      · replace hf := zk_f c1 hf
        refine lv_aload_n hx hb dX0_placeOf_12 rfl (lv_at hl 0 rfl) ?_
        refine va_get (D := D) (ci := 0) (v := .ref (aC 3)) (C := RX0) (T := TX0) (N := 7) hx hb hts hiX0 hown hK hw.1 0 rfl rfl 6 (by decide) hq1 (fun _ h9 => h9) rfl dX0_placeOf_13 ?_
        refine lv_iload_n hx hb dX0_placeOf_16 rfl (lv_at hl 3 rfl) ?_
        obtain ⟨h2, hf⟩ := zk_ck hf
        refine zk_iald hx hb hK hw 3 rfl h2 (j := x3.toNatClampNeg) rfl dX0_placeOf_17 ?_
        refine lv_iload_n hx hb dX0_placeOf_18 rfl (lv_at hl 1 rfl) ?_
        refine lv_icmp_ne (tgt := 24) hx hb dX0_placeOf_19 (by decide) (fun c3 => ?_) (fun c3 => ?_)
        · replace hf := zk_f c3 hf
          exact b24 x1 x2 x3 hf H locs ls hw (lv_sub hl [0, 1, 2, 3] rfl)
        · replace hf := zk_t c3 hf
          refine lv_iload_n hx hb dX0_placeOf_22 rfl (lv_at hl 3 rfl) ?_
          refine lv_istore_n (lv' := [(2, .int x3), (0, .ref (aC 0)), (1, .int x1), (3, .int x3)]) hx hb dX0_placeOf_23 rfl hl (by decide) rfl (fun ls hl => ?_)
          exact b24 x1 x3 x3 hf H locs ls hw (lv_sub hl [1, 2, 0, 3] rfl)
  unfold fX0_placeOf at hf
  refine lv_iconst (v := 0) hx hb dX0_placeOf_0 (by decide) ?_
  refine lv_istore_n (lv' := [(2, .int (0 : Int32)), (0, .ref (aC 0)), (1, .int p0)]) hx hb dX0_placeOf_1 rfl hl (by decide) rfl (fun ls hl => ?_)
  refine lv_iconst (v := 0) hx hb dX0_placeOf_2 (by decide) ?_
  refine lv_istore_n (lv' := [(3, .int (0 : Int32)), (2, .int (0 : Int32)), (0, .ref (aC 0)), (1, .int p0)]) hx hb dX0_placeOf_3 rfl hl (by decide) rfl (fun ls hl => ?_)
  exact b4 N p0 (0 : Int32) (0 : Int32) hf H locs ls hw (lv_sub hl [2, 3, 1, 0] rfl)
set_option maxHeartbeats 4000000 in
set_option maxRecDepth 100000 in
theorem kX0_bringToFront (l : Launch) (D : va_G) (cI cJ cO : ClassId) (N : Nat) (aC : Nat → Nat) (p0 : Int32) (Ccandidates : Int32) (Cballots : Int32) (Cseats : Int32) (Cwithdrawn : Int32) (Cvoters : Nat → Int32) (Csets : Nat → Int32) (Crank : Nat → Int32) (u : (Nat → Int32)) (hf : fX0_bringToFront N p0 Crank = some u) : CtV l yX0_bringToFront wsX0_bringToFront (zk_rm 0 0) D cI cJ cO [.ref (aC 0), .int p0] (zwC cI aC Ccandidates Cballots Cseats Cwithdrawn Cvoters Csets Crank) (zwC cI aC Ccandidates Cballots Cseats Cwithdrawn Cvoters Csets u) := by
  refine zk_enter (cc := cX0_bringToFront) (maxL := 4) (ret := none) (own := RX0) (Qf := fun A => QwV D (zwC cI aC Ccandidates Cballots Cseats Cwithdrawn Cvoters Csets u) A) (by decide) rfl rfl (Nat.le_of_ble_eq_true rfl) ?_
  intro p e s m args below meth c A Q H locs ls hC hQ hw hl
  obtain ⟨hx, hb, hml, hr, hts, hown, hlocks, hN, hK, hA⟩ := hC
  have hl : lv_has ls 4 [(0, .ref (aC 0)), (1, .int p0)] := hl
  have hiX0 : ∀ w ∈ u_ws RX0 TX0 7, w ∈ wsX0_bringToFront := by decide +kernel
  have hq0 := hts (.fieldLink RX0 18 "LoadCouncil$Council" "rank" "[I") (by decide +kernel)
  have b33 : ∀ (x2 : Int32) (Crank : Nat → Int32), fX0_bringToFront_b33 N x2 Crank = some u → ∀ (H : Heap) (locs : List Loc) (ls : Array Slot), Wd D A s.heap (zwC cI aC Ccandidates Cballots Cseats Cwithdrawn Cvoters Csets Crank) H locs → lv_has ls 4 [(0, .ref (aC 0)), (2, .int x2)] → W p l e (zk_rm 0 0) s m args below meth c H locs 0 0 Q (F0 m 33 ls []) := by
    intro x2 Crank hf H locs ls hw hl
    unfold fX0_bringToFront_b33 at hf
    refine lv_aload_n hx hb dX0_bringToFront_33 rfl (lv_at hl 0 rfl) ?_
    refine va_get (D := D) (ci := 0) (v := .ref (aC 3)) (C := RX0) (T := TX0) (N := 7) hx hb hts hiX0 hown hK hw.1 0 rfl rfl 6 (by decide) hq0 (fun _ h9 => h9) rfl dX0_bringToFront_34 ?_
    refine lv_iconst (v := 0) hx hb dX0_bringToFront_37 (by decide) ?_
    refine lv_iload_n hx hb dX0_bringToFront_38 rfl (lv_at hl 1 rfl) ?_
    refine zk_iast hx hb hK hw 3 rfl (zk_in (by decide)) (j := 0) rfl dX0_bringToFront_39 (fun H locs hw => ?_)
    have hw : Wd D A s.heap (zwC cI aC Ccandidates Cballots Cseats Cwithdrawn Cvoters Csets (upd Crank 0 x2)) H locs := hw
    cases hf
    exact zk_vret hx hb hr hlocks hQ hw [0, 1, 2, 3] rfl (by decide) dX0_bringToFront_40
  have b9 : ∀ (n9 : Nat), ∀ (x2 : Int32) (x3 : Int32) (Crank : Nat → Int32), fX0_bringToFront_b9 N n9 x2 x3 Crank = some u → ∀ (H : Heap) (locs : List Loc) (ls : Array Slot), Wd D A s.heap (zwC cI aC Ccandidates Cballots Cseats Cwithdrawn Cvoters Csets Crank) H locs → lv_has ls 4 [(0, .ref (aC 0)), (2, .int x2), (3, .int x3)] → W p l e (zk_rm 0 0) s m args below meth c H locs 0 0 Q (F0 m 9 ls []) := by
    intro n9
    induction n9 with
    | zero =>
      intro x2 x3 Crank hf
      exact zk_none hf
    | succ n9 ih9 =>
      intro x2 x3 Crank hf H locs ls hw hl
      rw [fX0_bringToFront_b9] at hf
      refine lv_iload_n hx hb dX0_bringToFront_9 rfl (lv_at hl 2 rfl) ?_
      refine lv_if_le (tgt := 33) hx hb dX0_bringToFront_10 (by decide) (fun c1 => ?_) (fun c1 => ?_)
      · replace hf := zk_t c1 hf
        exact b33 x2 Crank hf H locs ls hw (lv_sub hl [0, 1] rfl)
      · replace hf := zk_f c1 hf
        refine lv_aload_n hx hb dX0_bringToFront_13 rfl (lv_at hl 0 rfl) ?_
        refine va_get (D := D) (ci := 0) (v := .ref (aC 3)) (C := RX0) (T := TX0) (N := 7) hx hb hts hiX0 hown hK hw.1 0 rfl rfl 6 (by decide) hq0 (fun _ h9 => h9) rfl dX0_bringToFront_14 ?_
        refine lv_iload_n hx hb dX0_bringToFront_17 rfl (lv_at hl 2 rfl) ?_
        refine lv_aload_n hx hb dX0_bringToFront_18 rfl (lv_at hl 0 rfl) ?_
        refine va_get (D := D) (ci := 0) (v := .ref (aC 3)) (C := RX0) (T := TX0) (N := 7) hx hb hts hiX0 hown hK hw.1 0 rfl rfl 6 (by decide) hq0 (fun _ h9 => h9) rfl dX0_bringToFront_19 ?_
        refine lv_iload_n hx hb dX0_bringToFront_22 rfl (lv_at hl 2 rfl) ?_
        refine lv_iconst (v := 1) hx hb dX0_bringToFront_23 (by decide) ?_
        refine lv_isub hx hb dX0_bringToFront_24 ?_
        obtain ⟨h2, hf⟩ := zk_ck hf
        refine zk_iald hx hb hK hw 3 rfl h2 (j := (x3 - (1 : Int32)).toNatClampNeg) rfl dX0_bringToFront_25 ?_
        obtain ⟨h3, hf⟩ := zk_ck hf
        refine zk_iast hx hb hK hw 3 rfl h3 (j := x3.toNatClampNeg) rfl dX0_bringToFront_26 (fun H locs hw => ?_)
        have hw : Wd D A s.heap (zwC cI aC Ccandidates Cballots Cseats Cwithdrawn Cvoters Csets (upd Crank x3.toNatClampNeg (Crank ((x3 - (1 : Int32)).toNatClampNeg)))) H locs := hw
        refine lv_iinc (v := (x3 + (-1 : Int32))) (lv' := [(3, .int (x3 + (-1 : Int32))), (0, .ref (aC 0)), (2, .int x2)]) hx hb dX0_bringToFront_27 hl (k := 2) rfl rfl (by decide) rfl (fun ls hl => ?_)
        refine lv_goto (tgt := 9) hx hb dX0_bringToFront_30 (by decide) ?_
        exact ih9 x2 (x3 + (-1 : Int32)) (upd Crank x3.toNatClampNeg (Crank ((x3 - (1 : Int32)).toNatClampNeg))) hf H locs ls hw (lv_sub hl [1, 2, 0] rfl)
  unfold fX0_bringToFront at hf
  refine lv_aload_n hx hb dX0_bringToFront_0 rfl (lv_at hl 0 rfl) ?_
  refine va_get (D := D) (ci := 0) (v := .ref (aC 3)) (C := RX0) (T := TX0) (N := 7) hx hb hts hiX0 hown hK hw.1 0 rfl rfl 6 (by decide) hq0 (fun _ h9 => h9) rfl dX0_bringToFront_1 ?_
  refine lv_iload_n hx hb dX0_bringToFront_4 rfl (lv_at hl 1 rfl) ?_
  obtain ⟨h4, hf⟩ := zk_ck hf
  refine zk_iald hx hb hK hw 3 rfl h4 (j := p0.toNatClampNeg) rfl dX0_bringToFront_5 ?_
  refine lv_istore_n (lv' := [(2, .int (Crank p0.toNatClampNeg)), (0, .ref (aC 0)), (1, .int p0)]) hx hb dX0_bringToFront_6 rfl hl (by decide) rfl (fun ls hl => ?_)
  refine lv_iload_n hx hb dX0_bringToFront_7 rfl (lv_at hl 2 rfl) ?_
  refine lv_istore_n (lv' := [(3, .int p0), (2, .int (Crank p0.toNatClampNeg)), (0, .ref (aC 0)), (1, .int p0)]) hx hb dX0_bringToFront_8 rfl hl (by decide) rfl (fun ls hl => ?_)
  exact b9 N (Crank p0.toNatClampNeg) p0 Crank hf H locs ls hw (lv_sub hl [2, 1, 0] rfl)
set_option maxHeartbeats 4000000 in
set_option maxRecDepth 100000 in
theorem kX0_turnRankRound (l : Launch) (D : va_G) (cI cJ cO : ClassId) (N : Nat) (aC : Nat → Nat) (Ccandidates : Int32) (Cballots : Int32) (Cseats : Int32) (Cwithdrawn : Int32) (Cvoters : Nat → Int32) (Csets : Nat → Int32) (Crank : Nat → Int32) (u : (Nat → Int32)) (hf : fX0_turnRankRound N Ccandidates Crank = some u) : CtV l yX0_turnRankRound wsX0_turnRankRound (zk_rm 0 0) D cI cJ cO [.ref (aC 0)] (zwC cI aC Ccandidates Cballots Cseats Cwithdrawn Cvoters Csets Crank) (zwC cI aC Ccandidates Cballots Cseats Cwithdrawn Cvoters Csets u) := by
  refine zk_enter (cc := cX0_turnRankRound) (maxL := 3) (ret := none) (own := RX0) (Qf := fun A => QwV D (zwC cI aC Ccandidates Cballots Cseats Cwithdrawn Cvoters Csets u) A) (by decide) rfl rfl (Nat.le_of_ble_eq_true rfl) ?_
  intro p e s m args below meth c A Q H locs ls hC hQ hw hl
  obtain ⟨hx, hb, hml, hr, hts, hown, hlocks, hN, hK, hA⟩ := hC
  have hl : lv_has ls 3 [(0, .ref (aC 0))] := hl
  have hiX0 : ∀ w ∈ u_ws RX0 TX0 7, w ∈ wsX0_turnRankRound := by decide +kernel
  have hq0 := hts (.fieldLink RX0 21 "LoadCouncil$Council" "candidates" "I") (by decide +kernel)
  have hq1 := hts (.fieldLink RX0 18 "LoadCouncil$Council" "rank" "[I") (by decide +kernel)
  have b2 : ∀ (n2 : Nat), ∀ (x1 : Int32) (Crank : Nat → Int32), fX0_turnRankRound_b2 N n2 x1 Ccandidates Crank = some u → ∀ (H : Heap) (locs : List Loc) (ls : Array Slot), Wd D A s.heap (zwC cI aC Ccandidates Cballots Cseats Cwithdrawn Cvoters Csets Crank) H locs → lv_has ls 3 [(0, .ref (aC 0)), (1, .int x1)] → W p l e (zk_rm 0 0) s m args below meth c H locs 0 0 Q (F0 m 2 ls []) := by
    intro n2
    induction n2 with
    | zero =>
      intro x1 Crank hf
      exact zk_none hf
    | succ n2 ih2 =>
      intro x1 Crank hf H locs ls hw hl
      rw [fX0_turnRankRound_b2] at hf
      refine lv_iload_n hx hb dX0_turnRankRound_2 rfl (lv_at hl 1 rfl) ?_
      refine lv_aload_n hx hb dX0_turnRankRound_3 rfl (lv_at hl 0 rfl) ?_
      refine va_get (D := D) (ci := 0) (v := .int Ccandidates) (C := RX0) (T := TX0) (N := 7) hx hb hts hiX0 hown hK hw.1 0 rfl rfl 0 (by decide) hq0 (fun _ h9 => h9) rfl dX0_turnRankRound_4 ?_
      refine lv_iconst (v := 2) hx hb dX0_turnRankRound_7 (by decide) ?_
      refine lv_idiv hx hb dX0_turnRankRound_8 (by decide) ?_
      refine lv_icmp_ge (tgt := 58) hx hb dX0_turnRankRound_9 (by decide) (fun c1 => ?_) (fun c1 => ?_)
      · replace hf := zk_t c1 hf
        cases hf
        exact zk_vret hx hb hr hlocks hQ hw [0, 1, 2, 3] rfl (by decide) dX0_turnRankRound_58
      · replace hf := zk_f c1 hf
        refine lv_aload_n hx hb dX0_turnRankRound_12 rfl (lv_at hl 0 rfl) ?_
        refine va_get (D := D) (ci := 0) (v := .ref (aC 3)) (C := RX0) (T := TX0) (N := 7) hx hb hts hiX0 hown hK hw.1 0 rfl rfl 6 (by decide) hq1 (fun _ h9 => h9) rfl dX0_turnRankRound_13 ?_
        refine lv_iload_n hx hb dX0_turnRankRound_16 rfl (lv_at hl 1 rfl) ?_
        obtain ⟨h2, hf⟩ := zk_ck hf
        refine zk_iald hx hb hK hw 3 rfl h2 (j := x1.toNatClampNeg) rfl dX0_turnRankRound_17 ?_
        refine lv_istore_n (lv' := [(2, .int (Crank x1.toNatClampNeg)), (0, .ref (aC 0)), (1, .int x1)]) hx hb dX0_turnRankRound_18 rfl hl (by decide) rfl (fun ls hl => ?_)
        refine lv_aload_n hx hb dX0_turnRankRound_19 rfl (lv_at hl 1 rfl) ?_
        refine va_get (D := D) (ci := 0) (v := .ref (aC 3)) (C := RX0) (T := TX0) (N := 7) hx hb hts hiX0 hown hK hw.1 0 rfl rfl 6 (by decide) hq1 (fun _ h9 => h9) rfl dX0_turnRankRound_20 ?_
        refine lv_iload_n hx hb dX0_turnRankRound_23 rfl (lv_at hl 2 rfl) ?_
        refine lv_aload_n hx hb dX0_turnRankRound_24 rfl (lv_at hl 1 rfl) ?_
        refine va_get (D := D) (ci := 0) (v := .ref (aC 3)) (C := RX0) (T := TX0) (N := 7) hx hb hts hiX0 hown hK hw.1 0 rfl rfl 6 (by decide) hq1 (fun _ h9 => h9) rfl dX0_turnRankRound_25 ?_
        refine lv_aload_n hx hb dX0_turnRankRound_28 rfl (lv_at hl 1 rfl) ?_
        refine va_get (D := D) (ci := 0) (v := .int Ccandidates) (C := RX0) (T := TX0) (N := 7) hx hb hts hiX0 hown hK hw.1 0 rfl rfl 0 (by decide) hq0 (fun _ h9 => h9) rfl dX0_turnRankRound_29 ?_
        refine lv_iconst (v := 1) hx hb dX0_turnRankRound_32 (by decide) ?_
        refine lv_isub hx hb dX0_turnRankRound_33 ?_
        refine lv_iload_n hx hb dX0_turnRankRound_34 rfl (lv_at hl 2 rfl) ?_
        refine lv_isub hx hb dX0_turnRankRound_35 ?_
        obtain ⟨h3, hf⟩ := zk_ck hf
        refine zk_iald hx hb hK hw 3 rfl h3 (j := ((Ccandidates - (1 : Int32)) - x1).toNatClampNeg) rfl dX0_turnRankRound_36 ?_
        refine zk_iast hx hb hK hw 3 rfl h2 (j := x1.toNatClampNeg) rfl dX0_turnRankRound_37 (fun H locs hw => ?_)
        have hw : Wd D A s.heap (zwC cI aC Ccandidates Cballots Cseats Cwithdrawn Cvoters Csets (upd Crank x1.toNatClampNeg (Crank (((Ccandidates - (1 : Int32)) - x1).toNatClampNeg)))) H locs := hw
        refine lv_aload_n hx hb dX0_turnRankRound_38 rfl (lv_at hl 1 rfl) ?_
        refine va_get (D := D) (ci := 0) (v := .ref (aC 3)) (C := RX0) (T := TX0) (N := 7) hx hb hts hiX0 hown hK hw.1 0 rfl rfl 6 (by decide) hq1 (fun _ h9 => h9) rfl dX0_turnRankRound_39 ?_
        refine lv_aload_n hx hb dX0_turnRankRound_42 rfl (lv_at hl 1 rfl) ?_
        refine va_get (D := D) (ci := 0) (v := .int Ccandidates) (C := RX0) (T := TX0) (N := 7) hx hb hts hiX0 hown hK hw.1 0 rfl rfl 0 (by decide) hq0 (fun _ h9 => h9) rfl dX0_turnRankRound_43 ?_
        refine lv_iconst (v := 1) hx hb dX0_turnRankRound_46 (by decide) ?_
        refine lv_isub hx hb dX0_turnRankRound_47 ?_
        refine lv_iload_n hx hb dX0_turnRankRound_48 rfl (lv_at hl 2 rfl) ?_
        refine lv_isub hx hb dX0_turnRankRound_49 ?_
        refine lv_iload_n hx hb dX0_turnRankRound_50 rfl (lv_at hl 0 rfl) ?_
        refine zk_iast hx hb hK hw 3 rfl h3 (j := ((Ccandidates - (1 : Int32)) - x1).toNatClampNeg) rfl dX0_turnRankRound_51 (fun H locs hw => ?_)
        have hw : Wd D A s.heap (zwC cI aC Ccandidates Cballots Cseats Cwithdrawn Cvoters Csets (upd (upd Crank x1.toNatClampNeg (Crank (((Ccandidates - (1 : Int32)) - x1).toNatClampNeg))) (((Ccandidates - (1 : Int32)) - x1).toNatClampNeg) (Crank x1.toNatClampNeg))) H locs := hw
        refine lv_iinc (v := (x1 + (1 : Int32))) (lv' := [(1, .int (x1 + (1 : Int32))), (2, .int (Crank x1.toNatClampNeg)), (0, .ref (aC 0))]) hx hb dX0_turnRankRound_52 hl (k := 2) rfl rfl (by decide) rfl (fun ls hl => ?_)
        refine lv_goto (tgt := 2) hx hb dX0_turnRankRound_55 (by decide) ?_
        exact ih2 (x1 + (1 : Int32)) (upd (upd Crank x1.toNatClampNeg (Crank (((Ccandidates - (1 : Int32)) - x1).toNatClampNeg))) (((Ccandidates - (1 : Int32)) - x1).toNatClampNeg) (Crank x1.toNatClampNeg)) hf H locs ls hw (lv_sub hl [2, 0] rfl)
  unfold fX0_turnRankRound at hf
  refine lv_iconst (v := 0) hx hb dX0_turnRankRound_0 (by decide) ?_
  refine lv_istore_n (lv' := [(1, .int (0 : Int32)), (0, .ref (aC 0))]) hx hb dX0_turnRankRound_1 rfl hl (by decide) rfl (fun ls hl => ?_)
  exact b2 N (0 : Int32) Crank hf H locs ls hw (lv_sub hl [1, 0] rfl)
set_option maxHeartbeats 4000000 in
set_option maxRecDepth 100000 in
theorem kX1_begin (l : Launch) (D : va_G) (cI cJ cO : ClassId) (N : Nat) (aE aC : Nat → Nat) (Eorder : Nat → Int32) (Eabove : Nat → Int64) (Ebelow : Nat → Int64) (Eelected : Int32) (Eset : Int32) (Esupport : Nat → Int32) (Eworth : Nat → Int64) (Eloads : Nat → Int64) (Eunit : Int64) (Ccandidates : Int32) (Cballots : Int32) (Cseats : Int32) (Cwithdrawn : Int32) (Cvoters : Nat → Int32) (Csets : Nat → Int32) (Crank : Nat → Int32) (u : (Int32) × (Int32) × (Nat → Int32) × (Nat → Int64) × (Int64)) (hf : fX1_begin N Eelected Eset Esupport Eloads Eunit Ccandidates Cballots Cvoters Csets = some u) : CtV l yX1_begin wsX1_begin (zk_rm 3 66) D cI cJ cO [.ref (aE 0), .ref (aC 0)] (zwE cI cJ aE Eorder Eabove Ebelow Eelected Eset Esupport Eworth Eloads Eunit ++ (zwC cI aC Ccandidates Cballots Cseats Cwithdrawn Cvoters Csets Crank)) (zwE cI cJ aE Eorder Eabove Ebelow u.1 u.2.1 u.2.2.1 Eworth u.2.2.2.1 u.2.2.2.2 ++ (zwC cI aC Ccandidates Cballots Cseats Cwithdrawn Cvoters Csets Crank)) := by
  refine zk_enter (cc := cX1_begin) (maxL := 3) (ret := none) (own := RX1) (Qf := fun A => QwV D (zwE cI cJ aE Eorder Eabove Ebelow u.1 u.2.1 u.2.2.1 Eworth u.2.2.2.1 u.2.2.2.2 ++ (zwC cI aC Ccandidates Cballots Cseats Cwithdrawn Cvoters Csets Crank)) A) (by decide) rfl rfl (Nat.le_of_ble_eq_true rfl) ?_
  intro p e s m args below meth c A Q H locs ls hC hQ hw hl
  obtain ⟨hx, hb, hml, hr, hts, hown, hlocks, hN, hK, hA⟩ := hC
  have hl : lv_has ls 3 [(0, .ref (aE 0)), (1, .ref (aC 0))] := hl
  have hiX0 : ∀ w ∈ u_ws RX0 TX0 7, w ∈ wsX1_begin := by decide +kernel
  have hiX1 : ∀ w ∈ u_ws RX1 TX1 9, w ∈ wsX1_begin := by decide +kernel
  have hq0 := hts (.fieldLink RX1 22 "LoadCouncil$Election" "support" "[I") (by decide +kernel)
  have hq1 := hts (.initialized RX0) (by decide +kernel)
  have hq2 := hts (.instanceMethod yX0_supportOf) (by decide +kernel)
  have hq3 := hts (.selects RX0 yX0_supportOf yX0_supportOf) (by decide +kernel)
  have hq4 := hts (.fieldLink RX1 28 "LoadCouncil$Election" "loads" "[J") (by decide +kernel)
  have hq5 := hts (.fieldLink RX1 52 "LoadCouncil$Election" "elected" "I") (by decide +kernel)
  have hq6 := hts (.fieldLink RX1 45 "LoadCouncil$Election" "set" "I") (by decide +kernel)
  have hq7 := hts (.fieldLink RX1 55 "LoadCouncil$Election" "unit" "J") (by decide +kernel)
  have b38 : ∀ (n38 : Nat), ∀ (x2 : Int32) (Eelected : Int32) (Eset : Int32) (Esupport : Nat → Int32) (Eloads : Nat → Int64) (Eunit : Int64), fX1_begin_b38 N n38 x2 Eelected Eset Esupport Eloads Eunit Ccandidates Cballots Cvoters Csets = some u → ∀ (H : Heap) (locs : List Loc) (ls : Array Slot), Wd D A s.heap (zwE cI cJ aE Eorder Eabove Ebelow Eelected Eset Esupport Eworth Eloads Eunit ++ (zwC cI aC Ccandidates Cballots Cseats Cwithdrawn Cvoters Csets Crank)) H locs → lv_has ls 3 [(0, .ref (aE 0)), (1, .ref (aC 0)), (2, .int x2)] → W p l e (zk_rm 3 66) s m args below meth c H locs 0 0 Q (F0 m 38 ls []) := by
    intro n38
    induction n38 with
    | zero =>
      intro x2 Eelected Eset Esupport Eloads Eunit hf
      exact zk_none hf
    | succ n38 ih38 =>
      intro x2 Eelected Eset Esupport Eloads Eunit hf H locs ls hw hl
      rw [fX1_begin_b38] at hf
      refine lv_iload_n hx hb dX1_begin_38 rfl (lv_at hl 2 rfl) ?_
      refine lv_aload_n hx hb dX1_begin_39 rfl (lv_at hl 1 rfl) ?_
      refine va_getN (D := D) (ci := 0) (v := .int Ccandidates) (C := RX0) (T := TX0) (N := 7) hx hb hts hiX0 hown hK hw.1 7 rfl rfl 0 (by decide) (va_Nw.use rfl (nwF_X1_59 hN)) (fun _ h9 => h9) rfl dX1_begin_40 ?_
      refine lv_icmp_ge (tgt := 63) hx hb dX1_begin_43 (by decide) (fun c1 => ?_) (fun c1 => ?_)
      · replace hf := zk_t c1 hf
        cases hf
        exact zk_vret hx hb hr hlocks hQ hw [0, 1, 2, 3, 4, 5, 6, 7, 8, 9, 10] rfl (by decide) dX1_begin_63
      · replace hf := zk_f c1 hf
        refine lv_aload_n hx hb dX1_begin_46 rfl (lv_at hl 0 rfl) ?_
        refine va_get (D := D) (ci := 1) (v := .ref (aE 4)) (C := RX1) (T := TX1) (N := 9) hx hb hts hiX1 hown hK hw.1 0 rfl rfl 5 (by decide) hq0 (fun _ h9 => h9) rfl dX1_begin_47 ?_
        refine lv_iload_n hx hb dX1_begin_50 rfl (lv_at hl 2 rfl) ?_
        refine lv_aload_n hx hb dX1_begin_51 rfl (lv_at hl 1 rfl) ?_
        refine lv_iload_n hx hb dX1_begin_52 rfl (lv_at hl 2 rfl) ?_
        obtain ⟨u2, e3, hf⟩ := zk_bd hf
        refine zk_calli (wc := zwC cI aC Ccandidates Cballots Cseats Cwithdrawn Cvoters Csets Crank) (wr := zwE cI cJ aE Eorder Eabove Ebelow Eelected Eset Esupport Eworth Eloads Eunit) hw hA [7, 8, 9, 10] [0, 1, 2, 3, 4, 5, 6] rfl rfl (by decide) (by decide) (va_runVN (C := RX0) (As := [.int x2]) (rest := [.int x2, .ref (aE 4)]) ⟨hx, hb, hml, hown, hts⟩ (kX0_supportOf l D cI cJ cO N aC x2 Ccandidates Cballots Cseats Cwithdrawn Cvoters Csets Crank u2 e3 H.size) ⟨va_cnB 1 hts ggX1_begin_X0_supportOf rfl rfl rfl (nwM_X1_62 hN) hq1 (by decide +kernel) ⟨Nat.le_of_ble_eq_true rfl, Nat.le_of_ble_eq_true rfl⟩, hq2, hq3⟩ (zk_preV (wc := zwC cI aC Ccandidates Cballots Cseats Cwithdrawn Cvoters Csets Crank) hN hK hw [7, 8, 9, 10] rfl (by decide) 7 0 rfl rfl) rfl rfl hl.1 rfl (lv_room (Nat.le_of_ble_eq_true rfl)) dX1_begin_53 ⟨Nat.zero_le _, Nat.zero_le _⟩) (fun H locs hw => ?_)
        have hw : Wd D A s.heap (zwE cI cJ aE Eorder Eabove Ebelow Eelected Eset Esupport Eworth Eloads Eunit ++ (zwC cI aC Ccandidates Cballots Cseats Cwithdrawn Cvoters Csets Crank)) H locs := hw
        obtain ⟨h4, hf⟩ := zk_ck hf
        refine zk_iast hx hb hK hw 4 rfl h4 (j := x2.toNatClampNeg) rfl dX1_begin_56 (fun H locs hw => ?_)
        have hw : Wd D A s.heap (zwE cI cJ aE Eorder Eabove Ebelow Eelected Eset (upd Esupport x2.toNatClampNeg u2) Eworth Eloads Eunit ++ (zwC cI aC Ccandidates Cballots Cseats Cwithdrawn Cvoters Csets Crank)) H locs := hw
        refine lv_iinc (v := (x2 + (1 : Int32))) (lv' := [(2, .int (x2 + (1 : Int32))), (0, .ref (aE 0)), (1, .ref (aC 0))]) hx hb dX1_begin_57 hl (k := 2) rfl rfl (by decide) rfl (fun ls hl => ?_)
        refine lv_goto (tgt := 38) hx hb dX1_begin_60 (by decide) ?_
        exact ih38 (x2 + (1 : Int32)) Eelected Eset (upd Esupport x2.toNatClampNeg u2) Eloads Eunit hf H locs ls hw (lv_sub hl [1, 2, 0] rfl)
  have b36 : ∀ (Eelected : Int32) (Eset : Int32) (Esupport : Nat → Int32) (Eloads : Nat → Int64) (Eunit : Int64), fX1_begin_b36 N Eelected Eset Esupport Eloads Eunit Ccandidates Cballots Cvoters Csets = some u → ∀ (H : Heap) (locs : List Loc) (ls : Array Slot), Wd D A s.heap (zwE cI cJ aE Eorder Eabove Ebelow Eelected Eset Esupport Eworth Eloads Eunit ++ (zwC cI aC Ccandidates Cballots Cseats Cwithdrawn Cvoters Csets Crank)) H locs → lv_has ls 3 [(0, .ref (aE 0)), (1, .ref (aC 0))] → W p l e (zk_rm 3 66) s m args below meth c H locs 0 0 Q (F0 m 36 ls []) := by
    intro Eelected Eset Esupport Eloads Eunit hf H locs ls hw hl
    unfold fX1_begin_b36 at hf
    refine lv_iconst (v := 0) hx hb dX1_begin_36 (by decide) ?_
    refine lv_istore_n (lv' := [(2, .int (0 : Int32)), (0, .ref (aE 0)), (1, .ref (aC 0))]) hx hb dX1_begin_37 rfl hl (by decide) rfl (fun ls hl => ?_)
    exact b38 N (0 : Int32) Eelected Eset Esupport Eloads Eunit hf H locs ls hw (lv_sub hl [1, 2, 0] rfl)
  have b17 : ∀ (n17 : Nat), ∀ (x2 : Int32) (Eelected : Int32) (Eset : Int32) (Esupport : Nat → Int32) (Eloads : Nat → Int64) (Eunit : Int64), fX1_begin_b17 N n17 x2 Eelected Eset Esupport Eloads Eunit Ccandidates Cballots Cvoters Csets = some u → ∀ (H : Heap) (locs : List Loc) (ls : Array Slot), Wd D A s.heap (zwE cI cJ aE Eorder Eabove Ebelow Eelected Eset Esupport Eworth Eloads Eunit ++ (zwC cI aC Ccandidates Cballots Cseats Cwithdrawn Cvoters Csets Crank)) H locs → lv_has ls 3 [(0, .ref (aE 0)), (1, .ref (aC 0)), (2, .int x2)] → W p l e (zk_rm 3 66) s m args below meth c H locs 0 0 Q (F0 m 17 ls []) := by
    intro n17
    induction n17 with
    | zero =>
      intro x2 Eelected Eset Esupport Eloads Eunit hf
      exact zk_none hf
    | succ n17 ih17 =>
      intro x2 Eelected Eset Esupport Eloads Eunit hf H locs ls hw hl
      rw [fX1_begin_b17] at hf
      refine lv_iload_n hx hb dX1_begin_17 rfl (lv_at hl 2 rfl) ?_
      refine lv_bipush (v := 11) hx hb dX1_begin_18 (by decide) ?_
      refine lv_icmp_ge (tgt := 36) hx hb dX1_begin_20 (by decide) (fun c5 => ?_) (fun c5 => ?_)
      · replace hf := zk_t c5 hf
        exact b36 Eelected Eset Esupport Eloads Eunit hf H locs ls hw (lv_sub hl [0, 1] rfl)
      · replace hf := zk_f c5 hf
        refine lv_aload_n hx hb dX1_begin_23 rfl (lv_at hl 0 rfl) ?_
        refine va_get (D := D) (ci := 1) (v := .ref (aE 6)) (C := RX1) (T := TX1) (N := 9) hx hb hts hiX1 hown hK hw.1 0 rfl rfl 7 (by decide) hq4 (fun _ h9 => h9) rfl dX1_begin_24 ?_
        refine lv_iload_n hx hb dX1_begin_27 rfl (lv_at hl 2 rfl) ?_
        refine lv_lconst (v := 0) hx hb dX1_begin_28 (by decide) ?_
        obtain ⟨h6, hf⟩ := zk_ck hf
        refine zk_last hx hb hK hw 6 rfl h6 (j := x2.toNatClampNeg) rfl dX1_begin_29 (fun H locs hw => ?_)
        have hw : Wd D A s.heap (zwE cI cJ aE Eorder Eabove Ebelow Eelected Eset Esupport Eworth (vp_updL Eloads x2.toNatClampNeg (0 : Int64)) Eunit ++ (zwC cI aC Ccandidates Cballots Cseats Cwithdrawn Cvoters Csets Crank)) H locs := hw
        refine lv_iinc (v := (x2 + (1 : Int32))) (lv' := [(2, .int (x2 + (1 : Int32))), (0, .ref (aE 0)), (1, .ref (aC 0))]) hx hb dX1_begin_30 hl (k := 2) rfl rfl (by decide) rfl (fun ls hl => ?_)
        refine lv_goto (tgt := 17) hx hb dX1_begin_33 (by decide) ?_
        exact ih17 (x2 + (1 : Int32)) Eelected Eset Esupport (vp_updL Eloads x2.toNatClampNeg (0 : Int64)) Eunit hf H locs ls hw (lv_sub hl [1, 2, 0] rfl)
  unfold fX1_begin at hf
  refine lv_aload_n hx hb dX1_begin_0 rfl (lv_at hl 0 rfl) ?_
  refine lv_iconst (v := 0) hx hb dX1_begin_1 (by decide) ?_
  refine va_put (D := D) (ci := 1) (v := .int (0 : Int32)) (C := RX1) (T := TX1) (N := 9) hx hb hts hiX1 tyX1 tyX1_ok nmX1 hown hK hw.1 hw.2.1 hw.2.2 0 rfl rfl 3 (by decide) hq5 (fun _ h9 => h9) rfl (tyX1_ok 3 (by decide)) rfl rfl (Nat.le_of_ble_eq_true rfl) dX1_begin_2 (fun H locs hP hD hS => ?_)
  have hw : Wd D A s.heap (zwE cI cJ aE Eorder Eabove Ebelow (0 : Int32) Eset Esupport Eworth Eloads Eunit ++ (zwC cI aC Ccandidates Cballots Cseats Cwithdrawn Cvoters Csets Crank)) H locs := ⟨hP, hD, hS⟩
  clear hP hD hS
  refine lv_aload_n hx hb dX1_begin_5 rfl (lv_at hl 0 rfl) ?_
  refine lv_iconst (v := 0) hx hb dX1_begin_6 (by decide) ?_
  refine va_put (D := D) (ci := 1) (v := .int (0 : Int32)) (C := RX1) (T := TX1) (N := 9) hx hb hts hiX1 tyX1 tyX1_ok nmX1 hown hK hw.1 hw.2.1 hw.2.2 0 rfl rfl 4 (by decide) hq6 (fun _ h9 => h9) rfl (tyX1_ok 4 (by decide)) rfl rfl (Nat.le_of_ble_eq_true rfl) dX1_begin_7 (fun H locs hP hD hS => ?_)
  have hw : Wd D A s.heap (zwE cI cJ aE Eorder Eabove Ebelow (0 : Int32) (0 : Int32) Esupport Eworth Eloads Eunit ++ (zwC cI aC Ccandidates Cballots Cseats Cwithdrawn Cvoters Csets Crank)) H locs := ⟨hP, hD, hS⟩
  clear hP hD hS
  refine lv_aload_n hx hb dX1_begin_10 rfl (lv_at hl 0 rfl) ?_
  refine lv_lconst (v := 1) hx hb dX1_begin_11 (by decide) ?_
  refine va_put (D := D) (ci := 1) (v := .long (1 : Int64)) (C := RX1) (T := TX1) (N := 9) hx hb hts hiX1 tyX1 tyX1_ok nmX1 hown hK hw.1 hw.2.1 hw.2.2 0 rfl rfl 8 (by decide) hq7 (fun _ h9 => h9) rfl (tyX1_ok 8 (by decide)) rfl rfl (Nat.le_of_ble_eq_true rfl) dX1_begin_12 (fun H locs hP hD hS => ?_)
  have hw : Wd D A s.heap (zwE cI cJ aE Eorder Eabove Ebelow (0 : Int32) (0 : Int32) Esupport Eworth Eloads (1 : Int64) ++ (zwC cI aC Ccandidates Cballots Cseats Cwithdrawn Cvoters Csets Crank)) H locs := ⟨hP, hD, hS⟩
  clear hP hD hS
  refine lv_iconst (v := 0) hx hb dX1_begin_15 (by decide) ?_
  refine lv_istore_n (lv' := [(2, .int (0 : Int32)), (0, .ref (aE 0)), (1, .ref (aC 0))]) hx hb dX1_begin_16 rfl hl (by decide) rfl (fun ls hl => ?_)
  exact b17 N (0 : Int32) (0 : Int32) (0 : Int32) Esupport Eloads (1 : Int64) hf H locs ls hw (lv_sub hl [1, 2, 0] rfl)
set_option maxHeartbeats 4000000 in
set_option maxRecDepth 100000 in
theorem kX1_weightOf (l : Launch) (D : va_G) (cI cJ cO : ClassId) (N : Nat) (aE aC : Nat → Nat) (p1 : Int32) (Eorder : Nat → Int32) (Eabove : Nat → Int64) (Ebelow : Nat → Int64) (Eelected : Int32) (Eset : Int32) (Esupport : Nat → Int32) (Eworth : Nat → Int64) (Eloads : Nat → Int64) (Eunit : Int64) (Ccandidates : Int32) (Cballots : Int32) (Cseats : Int32) (Cwithdrawn : Int32) (Cvoters : Nat → Int32) (Csets : Nat → Int32) (Crank : Nat → Int32) (u : Int64) (hf : fX1_weightOf N p1 Eset Csets = some u) : CtL l yX1_weightOf wsX1_weightOf (zk_rm 1 20) D cI cJ cO [.ref (aE 0), .ref (aC 0), .int p1] (zwE cI cJ aE Eorder Eabove Ebelow Eelected Eset Esupport Eworth Eloads Eunit ++ (zwC cI aC Ccandidates Cballots Cseats Cwithdrawn Cvoters Csets Crank)) (zwE cI cJ aE Eorder Eabove Ebelow Eelected Eset Esupport Eworth Eloads Eunit ++ (zwC cI aC Ccandidates Cballots Cseats Cwithdrawn Cvoters Csets Crank)) (u) := by
  refine zk_enter (cc := cX1_weightOf) (maxL := 3) (ret := some .long) (own := RX1) (Qf := fun A => QwL D (zwE cI cJ aE Eorder Eabove Ebelow Eelected Eset Esupport Eworth Eloads Eunit ++ (zwC cI aC Ccandidates Cballots Cseats Cwithdrawn Cvoters Csets Crank)) (u) A) (by decide) rfl rfl (Nat.le_of_ble_eq_true rfl) ?_
  intro p e s m args below meth c A Q H locs ls hC hQ hw hl
  obtain ⟨hx, hb, hml, hr, hts, hown, hlocks, hN, hK, hA⟩ := hC
  have hl : lv_has ls 3 [(0, .ref (aE 0)), (1, .ref (aC 0)), (2, .int p1)] := hl
  have hiX0 : ∀ w ∈ u_ws RX0 TX0 7, w ∈ wsX1_weightOf := by decide +kernel
  have hiX1 : ∀ w ∈ u_ws RX1 TX1 9, w ∈ wsX1_weightOf := by decide +kernel
  have hq0 := hts (.fieldLink RX1 45 "LoadCouncil$Election" "set" "I") (by decide +kernel)
  unfold fX1_weightOf at hf
  refine lv_sipush (v := 840) hx hb dX1_weightOf_0 (by decide) ?_
  refine lv_iconst (v := 1) hx hb dX1_weightOf_3 (by decide) ?_
  refine lv_aload_n hx hb dX1_weightOf_4 rfl (lv_at hl 1 rfl) ?_
  refine va_getN (D := D) (ci := 0) (v := .ref (aC 2)) (C := RX0) (T := TX0) (N := 7) hx hb hts hiX0 hown hK hw.1 7 rfl rfl 5 (by decide) (va_Nw.use rfl (nwF_X1_87 hN)) (fun _ h9 => h9) rfl dX1_weightOf_5 ?_
  refine lv_iload_n hx hb dX1_weightOf_8 rfl (lv_at hl 2 rfl) ?_
  obtain ⟨h1, hf⟩ := zk_ck hf
  refine zk_iald hx hb hK hw 9 rfl h1 (j := p1.toNatClampNeg) rfl dX1_weightOf_9 ?_
  refine lv_aload_n hx hb dX1_weightOf_10 rfl (lv_at hl 0 rfl) ?_
  refine va_get (D := D) (ci := 1) (v := .int Eset) (C := RX1) (T := TX1) (N := 9) hx hb hts hiX1 hown hK hw.1 0 rfl rfl 4 (by decide) hq0 (fun _ h9 => h9) rfl dX1_weightOf_11 ?_
  refine lv_iand hx hb dX1_weightOf_14 ?_
  obtain ⟨u2, e3, hf⟩ := zk_bd hf
  refine zk_calli (wc := []) (wr := zwE cI cJ aE Eorder Eabove Ebelow Eelected Eset Esupport Eworth Eloads Eunit ++ (zwC cI aC Ccandidates Cballots Cseats Cwithdrawn Cvoters Csets Crank)) hw hA [] [0, 1, 2, 3, 4, 5, 6, 7, 8, 9, 10] rfl rfl (by decide) (by decide) (va_runS (As := [.int ((Csets p1.toNatClampNeg) &&& Eset)]) (rest := [.int (1 : Int32), .int (840 : Int32)]) ⟨hx, hb, hml, hown, hts⟩ (kJ6_bitCount_0f7a4 l D cI cJ cO N ((Csets p1.toNatClampNeg) &&& Eset) u2 e3 H.size) (va_cwS 1 hts gX1_weightOf_J6_bitCount_0f7a4 rfl rfl rfl (by decide +kernel) ⟨Nat.le_of_ble_eq_true rfl, Nat.le_of_ble_eq_true rfl⟩) (zk_preS (wc := []) hN hK hw [] rfl (by decide)) rfl rfl hl.1 rfl (lv_room (Nat.le_of_ble_eq_true rfl)) dX1_weightOf_15 ⟨Nat.zero_le _, Nat.zero_le _⟩) (fun H locs hw => ?_)
  have hw : Wd D A s.heap (zwE cI cJ aE Eorder Eabove Ebelow Eelected Eset Esupport Eworth Eloads Eunit ++ (zwC cI aC Ccandidates Cballots Cseats Cwithdrawn Cvoters Csets Crank)) H locs := hw
  refine lv_iadd hx hb dX1_weightOf_18 ?_
  obtain ⟨h4, hf⟩ := zk_ck hf
  refine lv_idiv hx hb dX1_weightOf_19 h4 ?_
  refine lv_i2l (v := ((840 : Int32) / ((1 : Int32) + u2)).toInt64) hx hb dX1_weightOf_20 rfl ?_
  cases hf
  exact zk_lret hx hb hr hlocks hQ hw [0, 1, 2, 3, 4, 5, 6, 7, 8, 9, 10] rfl (by decide) dX1_weightOf_21
set_option maxHeartbeats 4000000 in
set_option maxRecDepth 100000 in
theorem kX1_worthOf (l : Launch) (D : va_G) (cI cJ cO : ClassId) (N : Nat) (aE aC : Nat → Nat) (p1 : Int32) (p2 : Int32) (Eorder : Nat → Int32) (Eabove : Nat → Int64) (Ebelow : Nat → Int64) (Eelected : Int32) (Eset : Int32) (Esupport : Nat → Int32) (Eworth : Nat → Int64) (Eloads : Nat → Int64) (Eunit : Int64) (Ccandidates : Int32) (Cballots : Int32) (Cseats : Int32) (Cwithdrawn : Int32) (Cvoters : Nat → Int32) (Csets : Nat → Int32) (Crank : Nat → Int32) (u : Int64) (hf : fX1_worthOf N p1 p2 Eset Esupport Eloads Eunit Cballots Cvoters Csets = some u) : CtL l yX1_worthOf wsX1_worthOf (zk_rm 2 42) D cI cJ cO [.ref (aE 0), .ref (aC 0), .int p1, .int p2] (zwE cI cJ aE Eorder Eabove Ebelow Eelected Eset Esupport Eworth Eloads Eunit ++ (zwC cI aC Ccandidates Cballots Cseats Cwithdrawn Cvoters Csets Crank)) (zwE cI cJ aE Eorder Eabove Ebelow Eelected Eset Esupport Eworth Eloads Eunit ++ (zwC cI aC Ccandidates Cballots Cseats Cwithdrawn Cvoters Csets Crank)) (u) := by
  refine zk_enter (cc := cX1_worthOf) (maxL := 7) (ret := some .long) (own := RX1) (Qf := fun A => QwL D (zwE cI cJ aE Eorder Eabove Ebelow Eelected Eset Esupport Eworth Eloads Eunit ++ (zwC cI aC Ccandidates Cballots Cseats Cwithdrawn Cvoters Csets Crank)) (u) A) (by decide) rfl rfl (Nat.le_of_ble_eq_true rfl) ?_
  intro p e s m args below meth c A Q H locs ls hC hQ hw hl
  obtain ⟨hx, hb, hml, hr, hts, hown, hlocks, hN, hK, hA⟩ := hC
  have hl : lv_has ls 7 [(0, .ref (aE 0)), (1, .ref (aC 0)), (2, .int p1), (3, .int p2)] := hl
  have hiX0 : ∀ w ∈ u_ws RX0 TX0 7, w ∈ wsX1_worthOf := by decide +kernel
  have hiX1 : ∀ w ∈ u_ws RX1 TX1 9, w ∈ wsX1_worthOf := by decide +kernel
  have hq0 := hts (.initialized RX4) (by decide +kernel)
  have hq1 := hts (.static yX4_hasBit) (by decide +kernel)
  have hq2 := hts (.fieldLink RX1 28 "LoadCouncil$Election" "loads" "[J") (by decide +kernel)
  have hq3 := hts (.fieldLink RX1 55 "LoadCouncil$Election" "unit" "J") (by decide +kernel)
  have hq4 := hts (.fieldLink RX1 22 "LoadCouncil$Election" "support" "[I") (by decide +kernel)
  have b31 : ∀ (n31 : Nat), ∀ (x2 : Int32) (x3 : Int32) (x4 : Int64) (x6 : Int32), fX1_worthOf_b31 N n31 x2 x3 x4 x6 Eset Eloads Cballots Cvoters Csets = some u → ∀ (H : Heap) (locs : List Loc) (ls : Array Slot), Wd D A s.heap (zwE cI cJ aE Eorder Eabove Ebelow Eelected Eset Esupport Eworth Eloads Eunit ++ (zwC cI aC Ccandidates Cballots Cseats Cwithdrawn Cvoters Csets Crank)) H locs → lv_has ls 7 [(0, .ref (aE 0)), (1, .ref (aC 0)), (2, .int x2), (3, .int x3), (4, .long x4), (6, .int x6)] → W p l e (zk_rm 2 42) s m args below meth c H locs 0 0 Q (F0 m 31 ls []) := by
    intro n31
    induction n31 with
    | zero =>
      intro x2 x3 x4 x6 hf
      exact zk_none hf
    | succ n31 ih31 =>
      have b90 : ∀ (x2 : Int32) (x3 : Int32) (x4 : Int64) (x6 : Int32), fX1_worthOf_b90 N (fun z0 z1 z2 z3 z4 z5 z6 z7 z8 => fX1_worthOf_b31 N n31 z0 z1 z2 z3 z4 z5 z6 z7 z8) x2 x3 x4 x6 Eset Eloads Cballots Cvoters Csets = some u → ∀ (H : Heap) (locs : List Loc) (ls : Array Slot), Wd D A s.heap (zwE cI cJ aE Eorder Eabove Ebelow Eelected Eset Esupport Eworth Eloads Eunit ++ (zwC cI aC Ccandidates Cballots Cseats Cwithdrawn Cvoters Csets Crank)) H locs → lv_has ls 7 [(0, .ref (aE 0)), (1, .ref (aC 0)), (2, .int x2), (3, .int x3), (4, .long x4), (6, .int x6)] → W p l e (zk_rm 2 42) s m args below meth c H locs 0 0 Q (F0 m 90 ls []) := by
        intro x2 x3 x4 x6 hf H locs ls hw hl
        unfold fX1_worthOf_b90 at hf
        refine lv_iinc (v := (x6 + (1 : Int32))) (lv' := [(6, .int (x6 + (1 : Int32))), (0, .ref (aE 0)), (1, .ref (aC 0)), (2, .int x2), (3, .int x3), (4, .long x4)]) hx hb dX1_worthOf_90 hl (k := 5) rfl rfl (by decide) rfl (fun ls hl => ?_)
        refine lv_goto (tgt := 31) hx hb dX1_worthOf_93 (by decide) ?_
        exact ih31 x2 x3 x4 (x6 + (1 : Int32)) hf H locs ls hw (lv_sub hl [1, 2, 3, 4, 5, 0] rfl)
      have b86 : ∀ (x2 : Int32) (x3 : Int32) (x6 : Int32) (t0 : Int64) (t1 : Int64) (t2 : Int64), fX1_worthOf_b86 N (fun z0 z1 z2 z3 z4 z5 z6 z7 z8 => fX1_worthOf_b31 N n31 z0 z1 z2 z3 z4 z5 z6 z7 z8) x2 x3 x6 t0 t1 t2 Eset Eloads Cballots Cvoters Csets = some u → ∀ (H : Heap) (locs : List Loc) (ls : Array Slot), Wd D A s.heap (zwE cI cJ aE Eorder Eabove Ebelow Eelected Eset Esupport Eworth Eloads Eunit ++ (zwC cI aC Ccandidates Cballots Cseats Cwithdrawn Cvoters Csets Crank)) H locs → lv_has ls 7 [(0, .ref (aE 0)), (1, .ref (aC 0)), (2, .int x2), (3, .int x3), (6, .int x6)] → W p l e (zk_rm 2 42) s m args below meth c H locs 0 0 Q (F0 m 86 ls [.long t2, .long t1, .long t0]) := by
        intro x2 x3 x6 t0 t1 t2 hf H locs ls hw hl
        unfold fX1_worthOf_b86 at hf
        refine lv_lmul hx hb dX1_worthOf_86 ?_
        refine lv_ladd hx hb dX1_worthOf_87 ?_
        refine lv_lstore (lv' := [(4, .long (t0 + (t1 * t2))), (0, .ref (aE 0)), (1, .ref (aC 0)), (2, .int x2), (3, .int x3), (6, .int x6)]) hx hb dX1_worthOf_88 hl (by decide) rfl (fun ls hl => ?_)
        exact b90 x2 x3 (t0 + (t1 * t2)) x6 hf H locs ls hw (lv_sub hl [1, 2, 3, 4, 0, 5] rfl)
      intro x2 x3 x4 x6 hf H locs ls hw hl
      rw [fX1_worthOf_b31] at hf
      refine lv_iload hx hb dX1_worthOf_31 (lv_at hl 5 rfl) ?_
      refine lv_aload_n hx hb dX1_worthOf_33 rfl (lv_at hl 1 rfl) ?_
      refine va_getN (D := D) (ci := 0) (v := .int Cballots) (C := RX0) (T := TX0) (N := 7) hx hb hts hiX0 hown hK hw.1 7 rfl rfl 1 (by decide) (va_Nw.use rfl (nwF_X1_84 hN)) (fun _ h9 => h9) rfl dX1_worthOf_34 ?_
      refine lv_icmp_ge (tgt := 96) hx hb dX1_worthOf_37 (by decide) (fun c1 => ?_) (fun c1 => ?_)
      · replace hf := zk_t c1 hf
        refine lv_lload hx hb dX1_worthOf_96 (lv_at hl 4 rfl) ?_
        cases hf
        exact zk_lret hx hb hr hlocks hQ hw [0, 1, 2, 3, 4, 5, 6, 7, 8, 9, 10] rfl (by decide) dX1_worthOf_98
      · replace hf := zk_f c1 hf
        refine lv_aload_n hx hb dX1_worthOf_40 rfl (lv_at hl 1 rfl) ?_
        refine va_getN (D := D) (ci := 0) (v := .ref (aC 2)) (C := RX0) (T := TX0) (N := 7) hx hb hts hiX0 hown hK hw.1 7 rfl rfl 5 (by decide) (va_Nw.use rfl (nwF_X1_87 hN)) (fun _ h9 => h9) rfl dX1_worthOf_41 ?_
        refine lv_iload hx hb dX1_worthOf_44 (lv_at hl 5 rfl) ?_
        obtain ⟨h2, hf⟩ := zk_ck hf
        refine zk_iald hx hb hK hw 9 rfl h2 (j := x6.toNatClampNeg) rfl dX1_worthOf_46 ?_
        refine lv_iload_n hx hb dX1_worthOf_47 rfl (lv_at hl 3 rfl) ?_
        obtain ⟨u3, e4, hf⟩ := zk_bd hf
        refine zk_calli (wc := []) (wr := zwE cI cJ aE Eorder Eabove Ebelow Eelected Eset Esupport Eworth Eloads Eunit ++ (zwC cI aC Ccandidates Cballots Cseats Cwithdrawn Cvoters Csets Crank)) hw hA [] [0, 1, 2, 3, 4, 5, 6, 7, 8, 9, 10] rfl rfl (by decide) (by decide) (va_runSN (As := [.int (Csets x6.toNatClampNeg), .int x3]) (rest := []) ⟨hx, hb, hml, hown, hts⟩ (kX4_hasBit l D cI cJ cO N (Csets x6.toNatClampNeg) x3 u3 e4 H.size) ⟨va_cnB 2 hts ggX1_worthOf_X4_hasBit rfl rfl rfl (nwM_X1_72 hN) hq0 (by decide +kernel) ⟨Nat.le_of_ble_eq_true rfl, Nat.le_of_ble_eq_true rfl⟩, hq1, trivial⟩ (zk_preS (wc := []) hN hK hw [] rfl (by decide)) rfl rfl hl.1 rfl (lv_room (Nat.le_of_ble_eq_true rfl)) dX1_worthOf_48 ⟨Nat.zero_le _, Nat.zero_le _⟩) (fun H locs hw => ?_)
        have hw : Wd D A s.heap (zwE cI cJ aE Eorder Eabove Ebelow Eelected Eset Esupport Eworth Eloads Eunit ++ (zwC cI aC Ccandidates Cballots Cseats Cwithdrawn Cvoters Csets Crank)) H locs := hw
        refine lv_if_eq (tgt := 90) hx hb dX1_worthOf_51 (by decide) (fun c5 => ?_) (fun c5 => ?_)
        · replace hf := zk_t c5 hf
          exact b90 x2 x3 x4 x6 hf H locs ls hw (lv_sub hl [0, 1, 2, 3, 4, 5] rfl)
        · replace hf := zk_f c5 hf
          refine lv_lload hx hb dX1_worthOf_54 (lv_at hl 4 rfl) ?_
          refine lv_aload_n hx hb dX1_worthOf_56 rfl (lv_at hl 1 rfl) ?_
          refine va_getN (D := D) (ci := 0) (v := .ref (aC 1)) (C := RX0) (T := TX0) (N := 7) hx hb hts hiX0 hown hK hw.1 7 rfl rfl 4 (by decide) (va_Nw.use rfl (nwF_X1_90 hN)) (fun _ h9 => h9) rfl dX1_worthOf_57 ?_
          refine lv_iload hx hb dX1_worthOf_60 (lv_at hl 5 rfl) ?_
          refine zk_iald hx hb hK hw 8 rfl h2 (j := x6.toNatClampNeg) rfl dX1_worthOf_62 ?_
          refine lv_i2l (v := (Cvoters x6.toNatClampNeg).toInt64) hx hb dX1_worthOf_63 rfl ?_
          refine lv_iload_n hx hb dX1_worthOf_64 rfl (lv_at hl 2 rfl) ?_
          refine lv_iconst (v := 2) hx hb dX1_worthOf_65 (by decide) ?_
          refine lv_icmp_ne (tgt := 79) hx hb dX1_worthOf_66 (by decide) (fun c6 => ?_) (fun c6 => ?_)
          · replace hf := zk_f c6 hf
            refine lv_aload_n hx hb dX1_worthOf_79 rfl (lv_at hl 0 rfl) ?_
            refine va_get (D := D) (ci := 1) (v := .ref (aE 6)) (C := RX1) (T := TX1) (N := 9) hx hb hts hiX1 hown hK hw.1 0 rfl rfl 7 (by decide) hq2 (fun _ h9 => h9) rfl dX1_worthOf_80 ?_
            refine lv_iload hx hb dX1_worthOf_83 (lv_at hl 5 rfl) ?_
            refine zk_lald hx hb hK hw 6 rfl h2 (j := x6.toNatClampNeg) rfl dX1_worthOf_85 ?_
            exact b86 x2 x3 x6 x4 ((Cvoters x6.toNatClampNeg).toInt64) (Eloads x6.toNatClampNeg) hf H locs ls hw (lv_sub hl [0, 1, 2, 3, 5] rfl)
          · replace hf := zk_t c6 hf
            refine lv_aload_n hx hb dX1_worthOf_69 rfl (lv_at hl 0 rfl) ?_
            refine lv_aload_n hx hb dX1_worthOf_70 rfl (lv_at hl 1 rfl) ?_
            refine lv_iload hx hb dX1_worthOf_71 (lv_at hl 5 rfl) ?_
            obtain ⟨u7, e8, hf⟩ := zk_bd hf
            refine zk_calll (wc := zwE cI cJ aE Eorder Eabove Ebelow Eelected Eset Esupport Eworth Eloads Eunit ++ (zwC cI aC Ccandidates Cballots Cseats Cwithdrawn Cvoters Csets Crank)) (wr := []) hw hA [0, 1, 2, 3, 4, 5, 6, 7, 8, 9, 10] [] rfl rfl (by decide) (by decide) (va_runV (C := RX1) (As := [.ref (aC 0), .int x6]) (rest := [.long ((Cvoters x6.toNatClampNeg).toInt64), .long x4]) ⟨hx, hb, hml, hown, hts⟩ (kX1_weightOf l D cI cJ cO N aE aC x6 Eorder Eabove Ebelow Eelected Eset Esupport Eworth Eloads Eunit Ccandidates Cballots Cseats Cwithdrawn Cvoters Csets Crank u7 e8 H.size) (cwV 2 hts gX1_worthOf_X1_weightOf rfl rfl rfl (by decide +kernel) ⟨Nat.le_of_ble_eq_true rfl, Nat.le_of_ble_eq_true rfl⟩) (zk_preV (wc := zwE cI cJ aE Eorder Eabove Ebelow Eelected Eset Esupport Eworth Eloads Eunit ++ (zwC cI aC Ccandidates Cballots Cseats Cwithdrawn Cvoters Csets Crank)) hN hK hw [0, 1, 2, 3, 4, 5, 6, 7, 8, 9, 10] rfl (by decide) 0 1 rfl rfl) rfl rfl hl.1 rfl (lv_room (Nat.le_of_ble_eq_true rfl)) dX1_worthOf_73 ⟨Nat.zero_le _, Nat.zero_le _⟩) (fun H locs hw => ?_)
            have hw : Wd D A s.heap (zwE cI cJ aE Eorder Eabove Ebelow Eelected Eset Esupport Eworth Eloads Eunit ++ (zwC cI aC Ccandidates Cballots Cseats Cwithdrawn Cvoters Csets Crank)) H locs := hw
            refine lv_goto (tgt := 86) hx hb dX1_worthOf_76 (by decide) ?_
            exact b86 x2 x3 x6 x4 ((Cvoters x6.toNatClampNeg).toInt64) u7 hf H locs ls hw (lv_sub hl [0, 1, 2, 3, 5] rfl)
  have b26 : ∀ (x2 : Int32) (x3 : Int32) (t0 : Int64), fX1_worthOf_b26 N x2 x3 t0 Eset Eloads Cballots Cvoters Csets = some u → ∀ (H : Heap) (locs : List Loc) (ls : Array Slot), Wd D A s.heap (zwE cI cJ aE Eorder Eabove Ebelow Eelected Eset Esupport Eworth Eloads Eunit ++ (zwC cI aC Ccandidates Cballots Cseats Cwithdrawn Cvoters Csets Crank)) H locs → lv_has ls 7 [(0, .ref (aE 0)), (1, .ref (aC 0)), (2, .int x2), (3, .int x3)] → W p l e (zk_rm 2 42) s m args below meth c H locs 0 0 Q (F0 m 26 ls [.long t0]) := by
    intro x2 x3 t0 hf H locs ls hw hl
    unfold fX1_worthOf_b26 at hf
    refine lv_lstore (lv' := [(4, .long t0), (0, .ref (aE 0)), (1, .ref (aC 0)), (2, .int x2), (3, .int x3)]) hx hb dX1_worthOf_26 hl (by decide) rfl (fun ls hl => ?_)
    refine lv_iconst (v := 0) hx hb dX1_worthOf_28 (by decide) ?_
    refine lv_istore (lv' := [(6, .int (0 : Int32)), (4, .long t0), (0, .ref (aE 0)), (1, .ref (aC 0)), (2, .int x2), (3, .int x3)]) hx hb dX1_worthOf_29 hl (by decide) rfl (fun ls hl => ?_)
    exact b31 N x2 x3 t0 (0 : Int32) hf H locs ls hw (lv_sub hl [2, 3, 4, 5, 1, 0] rfl)
  unfold fX1_worthOf at hf
  refine lv_iload_n hx hb dX1_worthOf_0 rfl (lv_at hl 2 rfl) ?_
  refine lv_iconst (v := 1) hx hb dX1_worthOf_1 (by decide) ?_
  refine lv_icmp_ne (tgt := 13) hx hb dX1_worthOf_2 (by decide) (fun c9 => ?_) (fun c9 => ?_)
  · replace hf := zk_f c9 hf
    refine lv_iload_n hx hb dX1_worthOf_13 rfl (lv_at hl 2 rfl) ?_
    refine lv_iconst (v := 2) hx hb dX1_worthOf_14 (by decide) ?_
    refine lv_icmp_ne (tgt := 22) hx hb dX1_worthOf_15 (by decide) (fun c10 => ?_) (fun c10 => ?_)
    · replace hf := zk_f c10 hf
      refine lv_aload_n hx hb dX1_worthOf_22 rfl (lv_at hl 0 rfl) ?_
      refine va_get (D := D) (ci := 1) (v := .long Eunit) (C := RX1) (T := TX1) (N := 9) hx hb hts hiX1 hown hK hw.1 0 rfl rfl 8 (by decide) hq3 (fun _ h9 => h9) rfl dX1_worthOf_23 ?_
      exact b26 p1 p2 Eunit hf H locs ls hw (lv_sub hl [0, 1, 2, 3] rfl)
    · replace hf := zk_t c10 hf
      refine lv_lconst (v := 0) hx hb dX1_worthOf_18 (by decide) ?_
      refine lv_goto (tgt := 26) hx hb dX1_worthOf_19 (by decide) ?_
      exact b26 p1 p2 (0 : Int64) hf H locs ls hw (lv_sub hl [0, 1, 2, 3] rfl)
  · replace hf := zk_t c9 hf
    refine lv_aload_n hx hb dX1_worthOf_5 rfl (lv_at hl 0 rfl) ?_
    refine va_get (D := D) (ci := 1) (v := .ref (aE 4)) (C := RX1) (T := TX1) (N := 9) hx hb hts hiX1 hown hK hw.1 0 rfl rfl 5 (by decide) hq4 (fun _ h9 => h9) rfl dX1_worthOf_6 ?_
    refine lv_iload_n hx hb dX1_worthOf_9 rfl (lv_at hl 3 rfl) ?_
    obtain ⟨h11, hf⟩ := zk_ck hf
    refine zk_iald hx hb hK hw 4 rfl h11 (j := p2.toNatClampNeg) rfl dX1_worthOf_10 ?_
    refine lv_i2l (v := (Esupport p2.toNatClampNeg).toInt64) hx hb dX1_worthOf_11 rfl ?_
    cases hf
    exact zk_lret hx hb hr hlocks hQ hw [0, 1, 2, 3, 4, 5, 6, 7, 8, 9, 10] rfl (by decide) dX1_worthOf_12
