set_option maxHeartbeats 4000000 in
set_option maxRecDepth 100000 in
theorem kX0_copyFrom (l : Launch) (D : va_G) (cI cJ cO : ClassId) (N : Nat) (aC aD : Nat → Nat) (Ccandidates : Int32) (Cballots : Int32) (Cseats : Int32) (Cwithdrawn : Int32) (Cvoters : Nat → Int32) (Csets : Nat → Int32) (Crank : Nat → Int32) (Dcandidates : Int32) (Dballots : Int32) (Dseats : Int32) (Dwithdrawn : Int32) (Dvoters : Nat → Int32) (Dsets : Nat → Int32) (Drank : Nat → Int32) (u : (Int32) × (Int32) × (Int32) × (Int32) × (Nat → Int32) × (Nat → Int32) × (Nat → Int32)) (hf : fX0_copyFrom N Ccandidates Cballots Cseats Cwithdrawn Cvoters Csets Crank Dcandidates Dballots Dseats Dwithdrawn Dvoters Dsets Drank = some u) : CtV l yX0_copyFrom wsX0_copyFrom (zk_rm 1 60) D cI cJ cO [.ref (aC 0), .ref (aD 0)] (zwC cI aC Ccandidates Cballots Cseats Cwithdrawn Cvoters Csets Crank ++ (zwC cI aD Dcandidates Dballots Dseats Dwithdrawn Dvoters Dsets Drank)) (zwC cI aC u.1 u.2.1 u.2.2.1 u.2.2.2.1 u.2.2.2.2.1 u.2.2.2.2.2.1 u.2.2.2.2.2.2 ++ (zwC cI aD Dcandidates Dballots Dseats Dwithdrawn Dvoters Dsets Drank)) := by
  refine zk_enter (cc := cX0_copyFrom) (maxL := 2) (ret := none) (own := RX0) (Qf := fun A => QwV D (zwC cI aC u.1 u.2.1 u.2.2.1 u.2.2.2.1 u.2.2.2.2.1 u.2.2.2.2.2.1 u.2.2.2.2.2.2 ++ (zwC cI aD Dcandidates Dballots Dseats Dwithdrawn Dvoters Dsets Drank)) A) (by decide) rfl rfl (Nat.le_of_ble_eq_true rfl) ?_
  intro p e s m args below meth c A Q H locs ls hC hQ hw hl
  obtain ⟨hx, hb, hml, hr, hts, hown, hlocks, hN, hK, hA⟩ := hC
  have hl : lv_has ls 2 [(0, .ref (aC 0)), (1, .ref (aD 0))] := hl
  have hiX0 : ∀ w ∈ u_ws RX0 TX0 7, w ∈ wsX0_copyFrom := by decide +kernel
  have hq0 := hts (.fieldLink RX0 21 "LoadCouncil$Council" "candidates" "I") (by decide +kernel)
  have hq1 := hts (.fieldLink RX0 25 "LoadCouncil$Council" "ballots" "I") (by decide +kernel)
  have hq2 := hts (.fieldLink RX0 28 "LoadCouncil$Council" "seats" "I") (by decide +kernel)
  have hq3 := hts (.fieldLink RX0 31 "LoadCouncil$Council" "withdrawn" "I") (by decide +kernel)
  have hq4 := hts (.fieldLink RX0 9 "LoadCouncil$Council" "voters" "[I") (by decide +kernel)
  have hq5 := hts (.methodLink RX0 34 arraycopyName) (by decide +kernel)
  have hq6 := hts (.native arraycopyName) (by decide +kernel)
  have hq7 := hts (.static arraycopyName) (by decide +kernel)
  have hq8 := hts (.initialized "java/lang/System") (by decide +kernel)
  have hq9 := hts (.fieldLink RX0 15 "LoadCouncil$Council" "sets" "[I") (by decide +kernel)
  have hq10 := hts (.fieldLink RX0 18 "LoadCouncil$Council" "rank" "[I") (by decide +kernel)
  unfold fX0_copyFrom at hf
  refine lv_aload_n hx hb dX0_copyFrom_0 rfl (lv_at hl 0 rfl) ?_
  refine lv_aload_n hx hb dX0_copyFrom_1 rfl (lv_at hl 1 rfl) ?_
  refine va_get (D := D) (ci := 0) (v := .int Dcandidates) (C := RX0) (T := TX0) (N := 7) hx hb hts hiX0 hown hK hw.1 4 rfl rfl 0 (by decide) hq0 (fun _ h9 => h9) rfl dX0_copyFrom_2 ?_
  refine va_put (D := D) (ci := 0) (v := .int Dcandidates) (C := RX0) (T := TX0) (N := 7) hx hb hts hiX0 tyX0 tyX0_ok nmX0 hown hK hw.1 hw.2.1 hw.2.2 0 rfl rfl 0 (by decide) hq0 (fun _ h9 => h9) rfl (tyX0_ok 0 (by decide)) rfl rfl (Nat.le_of_ble_eq_true rfl) dX0_copyFrom_5 (fun H locs hP hD hS => ?_)
  have hw : Wd D A s.heap (zwC cI aC Dcandidates Cballots Cseats Cwithdrawn Cvoters Csets Crank ++ (zwC cI aD Dcandidates Dballots Dseats Dwithdrawn Dvoters Dsets Drank)) H locs := ⟨hP, hD, hS⟩
  clear hP hD hS
  refine lv_aload_n hx hb dX0_copyFrom_8 rfl (lv_at hl 0 rfl) ?_
  refine lv_aload_n hx hb dX0_copyFrom_9 rfl (lv_at hl 1 rfl) ?_
  refine va_get (D := D) (ci := 0) (v := .int Dballots) (C := RX0) (T := TX0) (N := 7) hx hb hts hiX0 hown hK hw.1 4 rfl rfl 1 (by decide) hq1 (fun _ h9 => h9) rfl dX0_copyFrom_10 ?_
  refine va_put (D := D) (ci := 0) (v := .int Dballots) (C := RX0) (T := TX0) (N := 7) hx hb hts hiX0 tyX0 tyX0_ok nmX0 hown hK hw.1 hw.2.1 hw.2.2 0 rfl rfl 1 (by decide) hq1 (fun _ h9 => h9) rfl (tyX0_ok 1 (by decide)) rfl rfl (Nat.le_of_ble_eq_true rfl) dX0_copyFrom_13 (fun H locs hP hD hS => ?_)
  have hw : Wd D A s.heap (zwC cI aC Dcandidates Dballots Cseats Cwithdrawn Cvoters Csets Crank ++ (zwC cI aD Dcandidates Dballots Dseats Dwithdrawn Dvoters Dsets Drank)) H locs := ⟨hP, hD, hS⟩
  clear hP hD hS
  refine lv_aload_n hx hb dX0_copyFrom_16 rfl (lv_at hl 0 rfl) ?_
  refine lv_aload_n hx hb dX0_copyFrom_17 rfl (lv_at hl 1 rfl) ?_
  refine va_get (D := D) (ci := 0) (v := .int Dseats) (C := RX0) (T := TX0) (N := 7) hx hb hts hiX0 hown hK hw.1 4 rfl rfl 2 (by decide) hq2 (fun _ h9 => h9) rfl dX0_copyFrom_18 ?_
  refine va_put (D := D) (ci := 0) (v := .int Dseats) (C := RX0) (T := TX0) (N := 7) hx hb hts hiX0 tyX0 tyX0_ok nmX0 hown hK hw.1 hw.2.1 hw.2.2 0 rfl rfl 2 (by decide) hq2 (fun _ h9 => h9) rfl (tyX0_ok 2 (by decide)) rfl rfl (Nat.le_of_ble_eq_true rfl) dX0_copyFrom_21 (fun H locs hP hD hS => ?_)
  have hw : Wd D A s.heap (zwC cI aC Dcandidates Dballots Dseats Cwithdrawn Cvoters Csets Crank ++ (zwC cI aD Dcandidates Dballots Dseats Dwithdrawn Dvoters Dsets Drank)) H locs := ⟨hP, hD, hS⟩
  clear hP hD hS
  refine lv_aload_n hx hb dX0_copyFrom_24 rfl (lv_at hl 0 rfl) ?_
  refine lv_aload_n hx hb dX0_copyFrom_25 rfl (lv_at hl 1 rfl) ?_
  refine va_get (D := D) (ci := 0) (v := .int Dwithdrawn) (C := RX0) (T := TX0) (N := 7) hx hb hts hiX0 hown hK hw.1 4 rfl rfl 3 (by decide) hq3 (fun _ h9 => h9) rfl dX0_copyFrom_26 ?_
  refine va_put (D := D) (ci := 0) (v := .int Dwithdrawn) (C := RX0) (T := TX0) (N := 7) hx hb hts hiX0 tyX0 tyX0_ok nmX0 hown hK hw.1 hw.2.1 hw.2.2 0 rfl rfl 3 (by decide) hq3 (fun _ h9 => h9) rfl (tyX0_ok 3 (by decide)) rfl rfl (Nat.le_of_ble_eq_true rfl) dX0_copyFrom_29 (fun H locs hP hD hS => ?_)
  have hw : Wd D A s.heap (zwC cI aC Dcandidates Dballots Dseats Dwithdrawn Cvoters Csets Crank ++ (zwC cI aD Dcandidates Dballots Dseats Dwithdrawn Dvoters Dsets Drank)) H locs := ⟨hP, hD, hS⟩
  clear hP hD hS
  refine lv_aload_n hx hb dX0_copyFrom_32 rfl (lv_at hl 1 rfl) ?_
  refine va_get (D := D) (ci := 0) (v := .ref (aD 1)) (C := RX0) (T := TX0) (N := 7) hx hb hts hiX0 hown hK hw.1 4 rfl rfl 4 (by decide) hq4 (fun _ h9 => h9) rfl dX0_copyFrom_33 ?_
  refine lv_iconst (v := 0) hx hb dX0_copyFrom_36 (by decide) ?_
  refine lv_aload_n hx hb dX0_copyFrom_37 rfl (lv_at hl 0 rfl) ?_
  refine va_get (D := D) (ci := 0) (v := .ref (aC 1)) (C := RX0) (T := TX0) (N := 7) hx hb hts hiX0 hown hK hw.1 0 rfl rfl 4 (by decide) hq4 (fun _ h9 => h9) rfl dX0_copyFrom_38 ?_
  refine lv_iconst (v := 0) hx hb dX0_copyFrom_41 (by decide) ?_
  refine lv_bipush (v := 11) hx hb dX0_copyFrom_42 (by decide) ?_
  refine zk_copy hx hb (hml.trans hl.1.symm) hown hq5 hq6 hq7 hq8 hK hw 5 1 rfl rfl (k := 11) (by decide) rfl (by decide) (by decide) (Nat.le_of_ble_eq_true rfl) (by decide) dX0_copyFrom_44 (fun H locs hw => ?_)
  have hw : Wd D A s.heap (zwC cI aC Dcandidates Dballots Dseats Dwithdrawn (va_cpy Dvoters Cvoters 0 0 11) Csets Crank ++ (zwC cI aD Dcandidates Dballots Dseats Dwithdrawn Dvoters Dsets Drank)) H locs := hw
  refine lv_aload_n hx hb dX0_copyFrom_47 rfl (lv_at hl 1 rfl) ?_
  refine va_get (D := D) (ci := 0) (v := .ref (aD 2)) (C := RX0) (T := TX0) (N := 7) hx hb hts hiX0 hown hK hw.1 4 rfl rfl 5 (by decide) hq9 (fun _ h9 => h9) rfl dX0_copyFrom_48 ?_
  refine lv_iconst (v := 0) hx hb dX0_copyFrom_51 (by decide) ?_
  refine lv_aload_n hx hb dX0_copyFrom_52 rfl (lv_at hl 0 rfl) ?_
  refine va_get (D := D) (ci := 0) (v := .ref (aC 2)) (C := RX0) (T := TX0) (N := 7) hx hb hts hiX0 hown hK hw.1 0 rfl rfl 5 (by decide) hq9 (fun _ h9 => h9) rfl dX0_copyFrom_53 ?_
  refine lv_iconst (v := 0) hx hb dX0_copyFrom_56 (by decide) ?_
  refine lv_bipush (v := 11) hx hb dX0_copyFrom_57 (by decide) ?_
  refine zk_copy hx hb (hml.trans hl.1.symm) hown hq5 hq6 hq7 hq8 hK hw 6 2 rfl rfl (k := 11) (by decide) rfl (by decide) (by decide) (Nat.le_of_ble_eq_true rfl) (by decide) dX0_copyFrom_59 (fun H locs hw => ?_)
  have hw : Wd D A s.heap (zwC cI aC Dcandidates Dballots Dseats Dwithdrawn (va_cpy Dvoters Cvoters 0 0 11) (va_cpy Dsets Csets 0 0 11) Crank ++ (zwC cI aD Dcandidates Dballots Dseats Dwithdrawn Dvoters Dsets Drank)) H locs := hw
  refine lv_aload_n hx hb dX0_copyFrom_62 rfl (lv_at hl 1 rfl) ?_
  refine va_get (D := D) (ci := 0) (v := .ref (aD 3)) (C := RX0) (T := TX0) (N := 7) hx hb hts hiX0 hown hK hw.1 4 rfl rfl 6 (by decide) hq10 (fun _ h9 => h9) rfl dX0_copyFrom_63 ?_
  refine lv_iconst (v := 0) hx hb dX0_copyFrom_66 (by decide) ?_
  refine lv_aload_n hx hb dX0_copyFrom_67 rfl (lv_at hl 0 rfl) ?_
  refine va_get (D := D) (ci := 0) (v := .ref (aC 3)) (C := RX0) (T := TX0) (N := 7) hx hb hts hiX0 hown hK hw.1 0 rfl rfl 6 (by decide) hq10 (fun _ h9 => h9) rfl dX0_copyFrom_68 ?_
  refine lv_iconst (v := 0) hx hb dX0_copyFrom_71 (by decide) ?_
  refine lv_bipush (v := 8) hx hb dX0_copyFrom_72 (by decide) ?_
  refine zk_copy hx hb (hml.trans hl.1.symm) hown hq5 hq6 hq7 hq8 hK hw 7 3 rfl rfl (k := 8) (by decide) rfl (by decide) (by decide) (Nat.le_of_ble_eq_true rfl) (by decide) dX0_copyFrom_74 (fun H locs hw => ?_)
  have hw : Wd D A s.heap (zwC cI aC Dcandidates Dballots Dseats Dwithdrawn (va_cpy Dvoters Cvoters 0 0 11) (va_cpy Dsets Csets 0 0 11) (va_cpy Drank Crank 0 0 8) ++ (zwC cI aD Dcandidates Dballots Dseats Dwithdrawn Dvoters Dsets Drank)) H locs := hw
  cases hf
  exact zk_vret hx hb hr hlocks hQ hw [0, 1, 2, 3, 4, 5, 6, 7] rfl (by decide) dX0_copyFrom_77
set_option maxHeartbeats 4000000 in
set_option maxRecDepth 100000 in
theorem kX0_addBallot (l : Launch) (D : va_G) (cI cJ cO : ClassId) (N : Nat) (aC : Nat → Nat) (p0 : Int32) (p1 : Int32) (Ccandidates : Int32) (Cballots : Int32) (Cseats : Int32) (Cwithdrawn : Int32) (Cvoters : Nat → Int32) (Csets : Nat → Int32) (Crank : Nat → Int32) (u : (Int32) × (Nat → Int32) × (Nat → Int32)) (hf : fX0_addBallot N p0 p1 Cballots Cvoters Csets = some u) : CtV l yX0_addBallot wsX0_addBallot (zk_rm 0 0) D cI cJ cO [.ref (aC 0), .int p0, .int p1] (zwC cI aC Ccandidates Cballots Cseats Cwithdrawn Cvoters Csets Crank) (zwC cI aC Ccandidates u.1 Cseats Cwithdrawn u.2.1 u.2.2 Crank) := by
  refine zk_enter (cc := cX0_addBallot) (maxL := 3) (ret := none) (own := RX0) (Qf := fun A => QwV D (zwC cI aC Ccandidates u.1 Cseats Cwithdrawn u.2.1 u.2.2 Crank) A) (by decide) rfl rfl (Nat.le_of_ble_eq_true rfl) ?_
  intro p e s m args below meth c A Q H locs ls hC hQ hw hl
  obtain ⟨hx, hb, hml, hr, hts, hown, hlocks, hN, hK, hA⟩ := hC
  have hl : lv_has ls 3 [(0, .ref (aC 0)), (1, .int p0), (2, .int p1)] := hl
  have hiX0 : ∀ w ∈ u_ws RX0 TX0 7, w ∈ wsX0_addBallot := by decide +kernel
  have hq0 := hts (.fieldLink RX0 25 "LoadCouncil$Council" "ballots" "I") (by decide +kernel)
  have hq1 := hts (.fieldLink RX0 9 "LoadCouncil$Council" "voters" "[I") (by decide +kernel)
  have hq2 := hts (.fieldLink RX0 15 "LoadCouncil$Council" "sets" "[I") (by decide +kernel)
  unfold fX0_addBallot at hf
  refine lv_aload_n hx hb dX0_addBallot_0 rfl (lv_at hl 0 rfl) ?_
  refine va_get (D := D) (ci := 0) (v := .int Cballots) (C := RX0) (T := TX0) (N := 7) hx hb hts hiX0 hown hK hw.1 0 rfl rfl 1 (by decide) hq0 (fun _ h9 => h9) rfl dX0_addBallot_1 ?_
  refine lv_bipush (v := 11) hx hb dX0_addBallot_4 (by decide) ?_
  refine lv_icmp_ge (tgt := 39) hx hb dX0_addBallot_6 (by decide) (fun c1 => ?_) (fun c1 => ?_)
  · replace hf := zk_t c1 hf
    cases hf
    exact zk_vret hx hb hr hlocks hQ hw [0, 1, 2, 3] rfl (by decide) dX0_addBallot_39
  · replace hf := zk_f c1 hf
    refine lv_aload_n hx hb dX0_addBallot_9 rfl (lv_at hl 0 rfl) ?_
    refine va_get (D := D) (ci := 0) (v := .ref (aC 1)) (C := RX0) (T := TX0) (N := 7) hx hb hts hiX0 hown hK hw.1 0 rfl rfl 4 (by decide) hq1 (fun _ h9 => h9) rfl dX0_addBallot_10 ?_
    refine lv_aload_n hx hb dX0_addBallot_13 rfl (lv_at hl 0 rfl) ?_
    refine va_get (D := D) (ci := 0) (v := .int Cballots) (C := RX0) (T := TX0) (N := 7) hx hb hts hiX0 hown hK hw.1 0 rfl rfl 1 (by decide) hq0 (fun _ h9 => h9) rfl dX0_addBallot_14 ?_
    refine lv_iload_n hx hb dX0_addBallot_17 rfl (lv_at hl 1 rfl) ?_
    obtain ⟨h2, hf⟩ := zk_ck hf
    refine zk_iast hx hb hK hw 1 rfl h2 (j := Cballots.toNatClampNeg) rfl dX0_addBallot_18 (fun H locs hw => ?_)
    have hw : Wd D A s.heap (zwC cI aC Ccandidates Cballots Cseats Cwithdrawn (upd Cvoters Cballots.toNatClampNeg p0) Csets Crank) H locs := hw
    refine lv_aload_n hx hb dX0_addBallot_19 rfl (lv_at hl 0 rfl) ?_
    refine va_get (D := D) (ci := 0) (v := .ref (aC 2)) (C := RX0) (T := TX0) (N := 7) hx hb hts hiX0 hown hK hw.1 0 rfl rfl 5 (by decide) hq2 (fun _ h9 => h9) rfl dX0_addBallot_20 ?_
    refine lv_aload_n hx hb dX0_addBallot_23 rfl (lv_at hl 0 rfl) ?_
    refine va_get (D := D) (ci := 0) (v := .int Cballots) (C := RX0) (T := TX0) (N := 7) hx hb hts hiX0 hown hK hw.1 0 rfl rfl 1 (by decide) hq0 (fun _ h9 => h9) rfl dX0_addBallot_24 ?_
    refine lv_iload_n hx hb dX0_addBallot_27 rfl (lv_at hl 2 rfl) ?_
    refine zk_iast hx hb hK hw 2 rfl h2 (j := Cballots.toNatClampNeg) rfl dX0_addBallot_28 (fun H locs hw => ?_)
    have hw : Wd D A s.heap (zwC cI aC Ccandidates Cballots Cseats Cwithdrawn (upd Cvoters Cballots.toNatClampNeg p0) (upd Csets Cballots.toNatClampNeg p1) Crank) H locs := hw
    refine lv_aload_n hx hb dX0_addBallot_29 rfl (lv_at hl 0 rfl) ?_
    refine lv_dup hx hb dX0_addBallot_30 rfl ?_
    refine va_get (D := D) (ci := 0) (v := .int Cballots) (C := RX0) (T := TX0) (N := 7) hx hb hts hiX0 hown hK hw.1 0 rfl rfl 1 (by decide) hq0 (fun _ h9 => h9) rfl dX0_addBallot_31 ?_
    refine lv_iconst (v := 1) hx hb dX0_addBallot_34 (by decide) ?_
    refine lv_iadd hx hb dX0_addBallot_35 ?_
    refine va_put (D := D) (ci := 0) (v := .int (Cballots + (1 : Int32))) (C := RX0) (T := TX0) (N := 7) hx hb hts hiX0 tyX0 tyX0_ok nmX0 hown hK hw.1 hw.2.1 hw.2.2 0 rfl rfl 1 (by decide) hq0 (fun _ h9 => h9) rfl (tyX0_ok 1 (by decide)) rfl rfl (Nat.le_of_ble_eq_true rfl) dX0_addBallot_36 (fun H locs hP hD hS => ?_)
    have hw : Wd D A s.heap (zwC cI aC Ccandidates (Cballots + (1 : Int32)) Cseats Cwithdrawn (upd Cvoters Cballots.toNatClampNeg p0) (upd Csets Cballots.toNatClampNeg p1) Crank) H locs := ⟨hP, hD, hS⟩
    clear hP hD hS
    cases hf
    exact zk_vret hx hb hr hlocks hQ hw [0, 1, 2, 3] rfl (by decide) dX0_addBallot_39
set_option maxHeartbeats 4000000 in
set_option maxRecDepth 100000 in
theorem kX0_agreesTo (l : Launch) (D : va_G) (cI cJ cO : ClassId) (N : Nat) (aC : Nat → Nat) (p0 : Int32) (p1 : Int32) (Ccandidates : Int32) (Cballots : Int32) (Cseats : Int32) (Cwithdrawn : Int32) (Cvoters : Nat → Int32) (Csets : Nat → Int32) (Crank : Nat → Int32) (u : Int32) (hf : fX0_agreesTo N p0 p1 Csets = some u) : CtI l yX0_agreesTo wsX0_agreesTo (zk_rm 0 0) D cI cJ cO [.ref (aC 0), .int p0, .int p1] (zwC cI aC Ccandidates Cballots Cseats Cwithdrawn Cvoters Csets Crank) (zwC cI aC Ccandidates Cballots Cseats Cwithdrawn Cvoters Csets Crank) (u) := by
  refine zk_enter (cc := cX0_agreesTo) (maxL := 3) (ret := some .boolean) (own := RX0) (Qf := fun A => QwI D (zwC cI aC Ccandidates Cballots Cseats Cwithdrawn Cvoters Csets Crank) (u) A) (by decide) rfl rfl (Nat.le_of_ble_eq_true rfl) ?_
  intro p e s m args below meth c A Q H locs ls hC hQ hw hl
  obtain ⟨hx, hb, hml, hr, hts, hown, hlocks, hN, hK, hA⟩ := hC
  have hl : lv_has ls 3 [(0, .ref (aC 0)), (1, .int p0), (2, .int p1)] := hl
  have hiX0 : ∀ w ∈ u_ws RX0 TX0 7, w ∈ wsX0_agreesTo := by decide +kernel
  have hq0 := hts (.fieldLink RX0 15 "LoadCouncil$Council" "sets" "[I") (by decide +kernel)
  unfold fX0_agreesTo at hf
  refine lv_aload_n hx hb dX0_agreesTo_0 rfl (lv_at hl 0 rfl) ?_
  refine va_get (D := D) (ci := 0) (v := .ref (aC 2)) (C := RX0) (T := TX0) (N := 7) hx hb hts hiX0 hown hK hw.1 0 rfl rfl 5 (by decide) hq0 (fun _ h9 => h9) rfl dX0_agreesTo_1 ?_
  refine lv_iload_n hx hb dX0_agreesTo_4 rfl (lv_at hl 1 rfl) ?_
  obtain ⟨h1, hf⟩ := zk_ck hf
  refine zk_iald hx hb hK hw 2 rfl h1 (j := p0.toNatClampNeg) rfl dX0_agreesTo_5 ?_
  refine lv_iload_n hx hb dX0_agreesTo_6 rfl (lv_at hl 2 rfl) ?_
  refine lv_iand hx hb dX0_agreesTo_7 ?_
  refine lv_iload_n hx hb dX0_agreesTo_8 rfl (lv_at hl 2 rfl) ?_
  refine lv_icmp_ne (tgt := 16) hx hb dX0_agreesTo_9 (by decide) (fun c2 => ?_) (fun c2 => ?_)
  · replace hf := zk_f c2 hf
    refine lv_iconst (v := 0) hx hb dX0_agreesTo_16 (by decide) ?_
    cases hf
    exact zk_iret hx hb hr hlocks rfl hQ hw [0, 1, 2, 3] rfl (by decide) dX0_agreesTo_17
  · replace hf := zk_t c2 hf
    refine lv_iconst (v := 1) hx hb dX0_agreesTo_12 (by decide) ?_
    refine lv_goto (tgt := 17) hx hb dX0_agreesTo_13 (by decide) ?_
    cases hf
    exact zk_iret hx hb hr hlocks rfl hQ hw [0, 1, 2, 3] rfl (by decide) dX0_agreesTo_17
set_option maxHeartbeats 4000000 in
set_option maxRecDepth 100000 in
theorem kX0_votersWhoAgree (l : Launch) (D : va_G) (cI cJ cO : ClassId) (N : Nat) (aC : Nat → Nat) (p0 : Int32) (Ccandidates : Int32) (Cballots : Int32) (Cseats : Int32) (Cwithdrawn : Int32) (Cvoters : Nat → Int32) (Csets : Nat → Int32) (Crank : Nat → Int32) (u : Int32) (hf : fX0_votersWhoAgree N p0 Cballots Cvoters Csets = some u) : CtI l yX0_votersWhoAgree wsX0_votersWhoAgree (zk_rm 1 22) D cI cJ cO [.ref (aC 0), .int p0] (zwC cI aC Ccandidates Cballots Cseats Cwithdrawn Cvoters Csets Crank) (zwC cI aC Ccandidates Cballots Cseats Cwithdrawn Cvoters Csets Crank) (u) := by
  refine zk_enter (cc := cX0_votersWhoAgree) (maxL := 4) (ret := some .int) (own := RX0) (Qf := fun A => QwI D (zwC cI aC Ccandidates Cballots Cseats Cwithdrawn Cvoters Csets Crank) (u) A) (by decide) rfl rfl (Nat.le_of_ble_eq_true rfl) ?_
  intro p e s m args below meth c A Q H locs ls hC hQ hw hl
  obtain ⟨hx, hb, hml, hr, hts, hown, hlocks, hN, hK, hA⟩ := hC
  have hl : lv_has ls 4 [(0, .ref (aC 0)), (1, .int p0)] := hl
  have hiX0 : ∀ w ∈ u_ws RX0 TX0 7, w ∈ wsX0_votersWhoAgree := by decide +kernel
  have hq0 := hts (.fieldLink RX0 25 "LoadCouncil$Council" "ballots" "I") (by decide +kernel)
  have hq1 := hts (.fieldLink RX0 9 "LoadCouncil$Council" "voters" "[I") (by decide +kernel)
  have b4 : ∀ (n4 : Nat), ∀ (x1 : Int32) (x2 : Int32) (x3 : Int32) (Cballots : Int32) (Cvoters : Nat → Int32) (Csets : Nat → Int32), fX0_votersWhoAgree_b4 N n4 x1 x2 x3 Cballots Cvoters Csets = some u → ∀ (H : Heap) (locs : List Loc) (ls : Array Slot), Wd D A s.heap (zwC cI aC Ccandidates Cballots Cseats Cwithdrawn Cvoters Csets Crank) H locs → lv_has ls 4 [(0, .ref (aC 0)), (1, .int x1), (2, .int x2), (3, .int x3)] → W p l e (zk_rm 1 22) s m args below meth c H locs 0 0 Q (F0 m 4 ls []) := by
    intro n4
    induction n4 with
    | zero =>
      intro x1 x2 x3 Cballots Cvoters Csets hf
      exact zk_none hf
    | succ n4 ih4 =>
      have b30 : ∀ (x1 : Int32) (x2 : Int32) (x3 : Int32) (Cballots : Int32) (Cvoters : Nat → Int32) (Csets : Nat → Int32), fX0_votersWhoAgree_b30 N (fun z0 z1 z2 z3 z4 z5 => fX0_votersWhoAgree_b4 N n4 z0 z1 z2 z3 z4 z5) x1 x2 x3 Cballots Cvoters Csets = some u → ∀ (H : Heap) (locs : List Loc) (ls : Array Slot), Wd D A s.heap (zwC cI aC Ccandidates Cballots Cseats Cwithdrawn Cvoters Csets Crank) H locs → lv_has ls 4 [(0, .ref (aC 0)), (1, .int x1), (2, .int x2), (3, .int x3)] → W p l e (zk_rm 1 22) s m args below meth c H locs 0 0 Q (F0 m 30 ls []) := by
        intro x1 x2 x3 Cballots Cvoters Csets hf H locs ls hw hl
        unfold fX0_votersWhoAgree_b30 at hf
        refine lv_iinc (v := (x3 + (1 : Int32))) (lv' := [(3, .int (x3 + (1 : Int32))), (0, .ref (aC 0)), (1, .int x1), (2, .int x2)]) hx hb dX0_votersWhoAgree_30 hl (k := 3) rfl rfl (by decide) rfl (fun ls hl => ?_)
        refine lv_goto (tgt := 4) hx hb dX0_votersWhoAgree_33 (by decide) ?_
        exact ih4 x1 x2 (x3 + (1 : Int32)) Cballots Cvoters Csets hf H locs ls hw (lv_sub hl [1, 2, 3, 0] rfl)
      intro x1 x2 x3 Cballots Cvoters Csets hf H locs ls hw hl
      rw [fX0_votersWhoAgree_b4] at hf
      refine lv_iload_n hx hb dX0_votersWhoAgree_4 rfl (lv_at hl 3 rfl) ?_
      refine lv_aload_n hx hb dX0_votersWhoAgree_5 rfl (lv_at hl 0 rfl) ?_
      refine va_get (D := D) (ci := 0) (v := .int Cballots) (C := RX0) (T := TX0) (N := 7) hx hb hts hiX0 hown hK hw.1 0 rfl rfl 1 (by decide) hq0 (fun _ h9 => h9) rfl dX0_votersWhoAgree_6 ?_
      refine lv_icmp_ge (tgt := 36) hx hb dX0_votersWhoAgree_9 (by decide) (fun c1 => ?_) (fun c1 => ?_)
      · replace hf := zk_t c1 hf
        refine lv_iload_n hx hb dX0_votersWhoAgree_36 rfl (lv_at hl 2 rfl) ?_
        cases hf
        exact zk_iret hx hb hr hlocks rfl hQ hw [0, 1, 2, 3] rfl (by decide) dX0_votersWhoAgree_37
      · replace hf := zk_f c1 hf
        refine lv_aload_n hx hb dX0_votersWhoAgree_12 rfl (lv_at hl 0 rfl) ?_
        refine lv_iload_n hx hb dX0_votersWhoAgree_13 rfl (lv_at hl 3 rfl) ?_
        refine lv_iload_n hx hb dX0_votersWhoAgree_14 rfl (lv_at hl 1 rfl) ?_
        obtain ⟨u2, e3, hf⟩ := zk_bd hf
        refine zk_calli (wc := zwC cI aC Ccandidates Cballots Cseats Cwithdrawn Cvoters Csets Crank) (wr := []) hw hA [0, 1, 2, 3] [] rfl rfl (by decide) (by decide) (va_runV (C := RX0) (As := [.int x3, .int x1]) (rest := []) ⟨hx, hb, hml, hown, hts⟩ (kX0_agreesTo l D cI cJ cO N aC x3 x1 Ccandidates Cballots Cseats Cwithdrawn Cvoters Csets Crank u2 e3 H.size) (cwV 2 hts gX0_votersWhoAgree_X0_agreesTo rfl rfl rfl (by decide +kernel) ⟨Nat.le_of_ble_eq_true rfl, Nat.le_of_ble_eq_true rfl⟩) (zk_preV (wc := zwC cI aC Ccandidates Cballots Cseats Cwithdrawn Cvoters Csets Crank) hN hK hw [0, 1, 2, 3] rfl (by decide) 0 0 rfl rfl) rfl rfl hl.1 rfl (lv_room (Nat.le_of_ble_eq_true rfl)) dX0_votersWhoAgree_15 ⟨Nat.zero_le _, Nat.zero_le _⟩) (fun H locs hw => ?_)
        have hw : Wd D A s.heap (zwC cI aC Ccandidates Cballots Cseats Cwithdrawn Cvoters Csets Crank) H locs := hw
        refine lv_if_eq (tgt := 30) hx hb dX0_votersWhoAgree_18 (by decide) (fun c4 => ?_) (fun c4 => ?_)
        · replace hf := zk_t c4 hf
          exact b30 x1 x2 x3 Cballots Cvoters Csets hf H locs ls hw (lv_sub hl [0, 1, 2, 3] rfl)
        · replace hf := zk_f c4 hf
          refine lv_iload_n hx hb dX0_votersWhoAgree_21 rfl (lv_at hl 2 rfl) ?_
          refine lv_aload_n hx hb dX0_votersWhoAgree_22 rfl (lv_at hl 0 rfl) ?_
          refine va_get (D := D) (ci := 0) (v := .ref (aC 1)) (C := RX0) (T := TX0) (N := 7) hx hb hts hiX0 hown hK hw.1 0 rfl rfl 4 (by decide) hq1 (fun _ h9 => h9) rfl dX0_votersWhoAgree_23 ?_
          refine lv_iload_n hx hb dX0_votersWhoAgree_26 rfl (lv_at hl 3 rfl) ?_
          obtain ⟨h5, hf⟩ := zk_ck hf
          refine zk_iald hx hb hK hw 1 rfl h5 (j := x3.toNatClampNeg) rfl dX0_votersWhoAgree_27 ?_
          refine lv_iadd hx hb dX0_votersWhoAgree_28 ?_
          refine lv_istore_n (lv' := [(2, .int (x2 + (Cvoters x3.toNatClampNeg))), (0, .ref (aC 0)), (1, .int x1), (3, .int x3)]) hx hb dX0_votersWhoAgree_29 rfl hl (by decide) rfl (fun ls hl => ?_)
          exact b30 x1 (x2 + (Cvoters x3.toNatClampNeg)) x3 Cballots Cvoters Csets hf H locs ls hw (lv_sub hl [1, 2, 0, 3] rfl)
  unfold fX0_votersWhoAgree at hf
  refine lv_iconst (v := 0) hx hb dX0_votersWhoAgree_0 (by decide) ?_
  refine lv_istore_n (lv' := [(2, .int (0 : Int32)), (0, .ref (aC 0)), (1, .int p0)]) hx hb dX0_votersWhoAgree_1 rfl hl (by decide) rfl (fun ls hl => ?_)
  refine lv_iconst (v := 0) hx hb dX0_votersWhoAgree_2 (by decide) ?_
  refine lv_istore_n (lv' := [(3, .int (0 : Int32)), (2, .int (0 : Int32)), (0, .ref (aC 0)), (1, .int p0)]) hx hb dX0_votersWhoAgree_3 rfl hl (by decide) rfl (fun ls hl => ?_)
  exact b4 N p0 (0 : Int32) (0 : Int32) Cballots Cvoters Csets hf H locs ls hw (lv_sub hl [2, 3, 1, 0] rfl)
set_option maxHeartbeats 4000000 in
set_option maxRecDepth 100000 in
theorem kX0_allVoters (l : Launch) (D : va_G) (cI cJ cO : ClassId) (N : Nat) (aC : Nat → Nat) (Ccandidates : Int32) (Cballots : Int32) (Cseats : Int32) (Cwithdrawn : Int32) (Cvoters : Nat → Int32) (Csets : Nat → Int32) (Crank : Nat → Int32) (u : Int32) (hf : fX0_allVoters N Cballots Cvoters Csets = some u) : CtI l yX0_allVoters wsX0_allVoters (zk_rm 2 45) D cI cJ cO [.ref (aC 0)] (zwC cI aC Ccandidates Cballots Cseats Cwithdrawn Cvoters Csets Crank) (zwC cI aC Ccandidates Cballots Cseats Cwithdrawn Cvoters Csets Crank) (u) := by
  refine zk_enter (cc := cX0_allVoters) (maxL := 1) (ret := some .int) (own := RX0) (Qf := fun A => QwI D (zwC cI aC Ccandidates Cballots Cseats Cwithdrawn Cvoters Csets Crank) (u) A) (by decide) rfl rfl (Nat.le_of_ble_eq_true rfl) ?_
  intro p e s m args below meth c A Q H locs ls hC hQ hw hl
  obtain ⟨hx, hb, hml, hr, hts, hown, hlocks, hN, hK, hA⟩ := hC
  have hl : lv_has ls 1 [(0, .ref (aC 0))] := hl
  unfold fX0_allVoters at hf
  refine lv_aload_n hx hb dX0_allVoters_0 rfl (lv_at hl 0 rfl) ?_
  refine lv_iconst (v := 0) hx hb dX0_allVoters_1 (by decide) ?_
  obtain ⟨u1, e2, hf⟩ := zk_bd hf
  refine zk_calli (wc := zwC cI aC Ccandidates Cballots Cseats Cwithdrawn Cvoters Csets Crank) (wr := []) hw hA [0, 1, 2, 3] [] rfl rfl (by decide) (by decide) (va_runV (C := RX0) (As := [.int (0 : Int32)]) (rest := []) ⟨hx, hb, hml, hown, hts⟩ (kX0_votersWhoAgree l D cI cJ cO N aC (0 : Int32) Ccandidates Cballots Cseats Cwithdrawn Cvoters Csets Crank u1 e2 H.size) (cwV 1 hts gX0_allVoters_X0_votersWhoAgree rfl rfl rfl (by decide +kernel) ⟨Nat.le_of_ble_eq_true rfl, Nat.le_of_ble_eq_true rfl⟩) (zk_preV (wc := zwC cI aC Ccandidates Cballots Cseats Cwithdrawn Cvoters Csets Crank) hN hK hw [0, 1, 2, 3] rfl (by decide) 0 0 rfl rfl) rfl rfl hl.1 rfl (lv_room (Nat.le_of_ble_eq_true rfl)) dX0_allVoters_2 ⟨Nat.zero_le _, Nat.zero_le _⟩) (fun H locs hw => ?_)
  have hw : Wd D A s.heap (zwC cI aC Ccandidates Cballots Cseats Cwithdrawn Cvoters Csets Crank) H locs := hw
  cases hf
  exact zk_iret hx hb hr hlocks rfl hQ hw [0, 1, 2, 3] rfl (by decide) dX0_allVoters_5
set_option maxHeartbeats 4000000 in
set_option maxRecDepth 100000 in
theorem kX4_hasBit (l : Launch) (D : va_G) (cI cJ cO : ClassId) (N : Nat) (p0 : Int32) (p1 : Int32) (u : Int32) (hf : fX4_hasBit N p0 p1 = some u) : CtI l yX4_hasBit wsX4_hasBit (zk_rm 0 0) D cI cJ cO [.int p0, .int p1] ([]) ([]) (u) := by
  refine zk_enter (cc := cX4_hasBit) (maxL := 2) (ret := some .boolean) (own := RX4) (Qf := fun A => QwI D ([]) (u) A) (by decide) rfl rfl (Nat.le_of_ble_eq_true rfl) ?_
  intro p e s m args below meth c A Q H locs ls hC hQ hw hl
  obtain ⟨hx, hb, hml, hr, hts, hown, hlocks, hN, hK, hA⟩ := hC
  have hl : lv_has ls 2 [(0, .int p0), (1, .int p1)] := hl
  unfold fX4_hasBit at hf
  refine lv_iload_n hx hb dX4_hasBit_0 rfl (lv_at hl 0 rfl) ?_
  refine lv_iload_n hx hb dX4_hasBit_1 rfl (lv_at hl 1 rfl) ?_
  refine lv_ishr hx hb dX4_hasBit_2 ?_
  refine lv_iconst (v := 1) hx hb dX4_hasBit_3 (by decide) ?_
  refine lv_iand hx hb dX4_hasBit_4 ?_
  refine lv_iconst (v := 1) hx hb dX4_hasBit_5 (by decide) ?_
  refine lv_icmp_ne (tgt := 13) hx hb dX4_hasBit_6 (by decide) (fun c1 => ?_) (fun c1 => ?_)
  · replace hf := zk_f c1 hf
    refine lv_iconst (v := 0) hx hb dX4_hasBit_13 (by decide) ?_
    cases hf
    exact zk_iret hx hb hr hlocks rfl hQ hw [] rfl (by decide) dX4_hasBit_14
  · replace hf := zk_t c1 hf
    refine lv_iconst (v := 1) hx hb dX4_hasBit_9 (by decide) ?_
    refine lv_goto (tgt := 14) hx hb dX4_hasBit_10 (by decide) ?_
    cases hf
    exact zk_iret hx hb hr hlocks rfl hQ hw [] rfl (by decide) dX4_hasBit_14
set_option maxHeartbeats 4000000 in
set_option maxRecDepth 100000 in
theorem kX0_isWithdrawn (l : Launch) (D : va_G) (cI cJ cO : ClassId) (N : Nat) (aC : Nat → Nat) (p0 : Int32) (Ccandidates : Int32) (Cballots : Int32) (Cseats : Int32) (Cwithdrawn : Int32) (Cvoters : Nat → Int32) (Csets : Nat → Int32) (Crank : Nat → Int32) (u : Int32) (hf : fX0_isWithdrawn N p0 Cwithdrawn = some u) : CtI l yX0_isWithdrawn wsX0_isWithdrawn (zk_rm 1 21) D cI cJ cO [.ref (aC 0), .int p0] (zwC cI aC Ccandidates Cballots Cseats Cwithdrawn Cvoters Csets Crank) (zwC cI aC Ccandidates Cballots Cseats Cwithdrawn Cvoters Csets Crank) (u) := by
  refine zk_enter (cc := cX0_isWithdrawn) (maxL := 2) (ret := some .boolean) (own := RX0) (Qf := fun A => QwI D (zwC cI aC Ccandidates Cballots Cseats Cwithdrawn Cvoters Csets Crank) (u) A) (by decide) rfl rfl (Nat.le_of_ble_eq_true rfl) ?_
  intro p e s m args below meth c A Q H locs ls hC hQ hw hl
  obtain ⟨hx, hb, hml, hr, hts, hown, hlocks, hN, hK, hA⟩ := hC
  have hl : lv_has ls 2 [(0, .ref (aC 0)), (1, .int p0)] := hl
  have hiX0 : ∀ w ∈ u_ws RX0 TX0 7, w ∈ wsX0_isWithdrawn := by decide +kernel
  have hq0 := hts (.fieldLink RX0 31 "LoadCouncil$Council" "withdrawn" "I") (by decide +kernel)
  have hq1 := hts (.initialized RX4) (by decide +kernel)
  have hq2 := hts (.static yX4_hasBit) (by decide +kernel)
  unfold fX0_isWithdrawn at hf
  refine lv_aload_n hx hb dX0_isWithdrawn_0 rfl (lv_at hl 0 rfl) ?_
  refine va_get (D := D) (ci := 0) (v := .int Cwithdrawn) (C := RX0) (T := TX0) (N := 7) hx hb hts hiX0 hown hK hw.1 0 rfl rfl 3 (by decide) hq0 (fun _ h9 => h9) rfl dX0_isWithdrawn_1 ?_
  refine lv_iload_n hx hb dX0_isWithdrawn_4 rfl (lv_at hl 1 rfl) ?_
  obtain ⟨u1, e2, hf⟩ := zk_bd hf
  refine zk_calli (wc := []) (wr := zwC cI aC Ccandidates Cballots Cseats Cwithdrawn Cvoters Csets Crank) hw hA [] [0, 1, 2, 3] rfl rfl (by decide) (by decide) (va_runSN (As := [.int Cwithdrawn, .int p0]) (rest := []) ⟨hx, hb, hml, hown, hts⟩ (kX4_hasBit l D cI cJ cO N Cwithdrawn p0 u1 e2 H.size) ⟨va_cnB 2 hts ggX0_isWithdrawn_X4_hasBit rfl rfl rfl (nwM_X0_64 hN) hq1 (by decide +kernel) ⟨Nat.le_of_ble_eq_true rfl, Nat.le_of_ble_eq_true rfl⟩, hq2, trivial⟩ (zk_preS (wc := []) hN hK hw [] rfl (by decide)) rfl rfl hl.1 rfl (lv_room (Nat.le_of_ble_eq_true rfl)) dX0_isWithdrawn_5 ⟨Nat.zero_le _, Nat.zero_le _⟩) (fun H locs hw => ?_)
  have hw : Wd D A s.heap (zwC cI aC Ccandidates Cballots Cseats Cwithdrawn Cvoters Csets Crank) H locs := hw
  obtain ⟨h3, hf⟩ := zk_ck hf
  cases hf
  exact zk_iret hx hb hr hlocks (zk_nb h3) hQ hw [0, 1, 2, 3] rfl (by decide) dX0_isWithdrawn_8
set_option maxHeartbeats 4000000 in
set_option maxRecDepth 100000 in
theorem kX2_keep (l : Launch) (D : va_G) (cI cJ cO : ClassId) (N : Nat) (aP aC aQ : Nat → Nat) (Pring : Nat → Option Nat) (Ptop : Int32) (Psize : Int32) (Ccandidates : Int32) (Cballots : Int32) (Cseats : Int32) (Cwithdrawn : Int32) (Cvoters : Nat → Int32) (Csets : Nat → Int32) (Crank : Nat → Int32) (Qcandidates : Int32) (Qballots : Int32) (Qseats : Int32) (Qwithdrawn : Int32) (Qvoters : Nat → Int32) (Qsets : Nat → Int32) (Qrank : Nat → Int32) (hg : Pring (Ptop).toNatClampNeg = some (aQ 0)) (u : (Int32) × (Int32) × (Int32) × (Int32) × (Int32) × (Int32) × (Nat → Int32) × (Nat → Int32) × (Nat → Int32)) (hf : fX2_keep N Ptop Psize Ccandidates Cballots Cseats Cwithdrawn Cvoters Csets Crank Qcandidates Qballots Qseats Qwithdrawn Qvoters Qsets Qrank = some u) : CtV l yX2_keep wsX2_keep (zk_rm 2 81) D cI cJ cO [.ref (aP 0), .ref (aC 0)] (zwP cO aP Pring Ptop Psize ++ (zwC cI aC Ccandidates Cballots Cseats Cwithdrawn Cvoters Csets Crank ++ (zwC cI aQ Qcandidates Qballots Qseats Qwithdrawn Qvoters Qsets Qrank))) (zwP cO aP Pring u.1 u.2.1 ++ (zwC cI aC Ccandidates Cballots Cseats Cwithdrawn Cvoters Csets Crank ++ (zwC cI aQ u.2.2.1 u.2.2.2.1 u.2.2.2.2.1 u.2.2.2.2.2.1 u.2.2.2.2.2.2.1 u.2.2.2.2.2.2.2.1 u.2.2.2.2.2.2.2.2))) := by
  refine zk_enter (cc := cX2_keep) (maxL := 2) (ret := none) (own := RX2) (Qf := fun A => QwV D (zwP cO aP Pring u.1 u.2.1 ++ (zwC cI aC Ccandidates Cballots Cseats Cwithdrawn Cvoters Csets Crank ++ (zwC cI aQ u.2.2.1 u.2.2.2.1 u.2.2.2.2.1 u.2.2.2.2.2.1 u.2.2.2.2.2.2.1 u.2.2.2.2.2.2.2.1 u.2.2.2.2.2.2.2.2))) A) (by decide) rfl rfl (Nat.le_of_ble_eq_true rfl) ?_
  intro p e s m args below meth c A Q H locs ls hC hQ hw hl
  obtain ⟨hx, hb, hml, hr, hts, hown, hlocks, hN, hK, hA⟩ := hC
  have hl : lv_has ls 2 [(0, .ref (aP 0)), (1, .ref (aC 0))] := hl
  have hiX2 : ∀ w ∈ u_ws RX2 TX2 3, w ∈ wsX2_keep := by decide +kernel
  have hq0 := hts (.fieldLink RX2 11 "LoadCouncil$Past" "ring" "[LLoadCouncil$Council;") (by decide +kernel)
  have hq1 := hts (.fieldLink RX2 22 "LoadCouncil$Past" "top" "I") (by decide +kernel)
  have hq2 := hts (.initialized RX0) (by decide +kernel)
  have hq3 := hts (.instanceMethod yX0_copyFrom) (by decide +kernel)
  have hq4 := hts (.selects RX0 yX0_copyFrom yX0_copyFrom) (by decide +kernel)
  have hq5 := hts (.fieldLink RX2 18 "LoadCouncil$Past" "size" "I") (by decide +kernel)
  have hq6 := hts (.methodLink RX2 29 Lib.Math.min.name) (by decide +kernel)
  have hq7 := hts (.static Lib.Math.min.name) (by decide +kernel)
  have hq8 := hts (.initialized "java/lang/Math") (by decide +kernel)
  have hq9 := hts (.code Lib.Math.min.name Lib.Math.min.code 2 (some .int)) (by decide +kernel)
  unfold fX2_keep at hf
  refine lv_aload_n hx hb dX2_keep_0 rfl (lv_at hl 0 rfl) ?_
  refine va_get (D := D) (ci := 2) (v := .ref (aP 1)) (C := RX2) (T := TX2) (N := 3) hx hb hts hiX2 hown hK hw.1 0 rfl rfl 0 (by decide) hq0 (fun _ h9 => h9) rfl dX2_keep_1 ?_
  refine lv_aload_n hx hb dX2_keep_4 rfl (lv_at hl 0 rfl) ?_
  refine va_get (D := D) (ci := 2) (v := .int Ptop) (C := RX2) (T := TX2) (N := 3) hx hb hts hiX2 hown hK hw.1 0 rfl rfl 1 (by decide) hq1 (fun _ h9 => h9) rfl dX2_keep_5 ?_
  obtain ⟨h1, hf⟩ := zk_ck hf
  refine zk_aald hx hb hK hw 1 rfl h1 (y := aQ 0) hg dX2_keep_8 ?_
  refine lv_aload_n hx hb dX2_keep_9 rfl (lv_at hl 1 rfl) ?_
  obtain ⟨u2, e3, hf⟩ := zk_bd hf
  refine zk_callv (wc := zwC cI aQ Qcandidates Qballots Qseats Qwithdrawn Qvoters Qsets Qrank ++ (zwC cI aC Ccandidates Cballots Cseats Cwithdrawn Cvoters Csets Crank)) (wr := zwP cO aP Pring Ptop Psize) hw hA [6, 7, 8, 9, 2, 3, 4, 5] [0, 1] rfl rfl (by decide) (by decide) (va_runVN (C := RX0) (As := [.ref (aC 0)]) (rest := []) ⟨hx, hb, hml, hown, hts⟩ (kX0_copyFrom l D cI cJ cO N aQ aC Qcandidates Qballots Qseats Qwithdrawn Qvoters Qsets Qrank Ccandidates Cballots Cseats Cwithdrawn Cvoters Csets Crank u2 e3 H.size) ⟨va_cnB 1 hts ggX2_keep_X0_copyFrom rfl rfl rfl (nwM_X2_25 hN) hq2 (by decide +kernel) ⟨Nat.le_of_ble_eq_true rfl, Nat.le_of_ble_eq_true rfl⟩, hq3, hq4⟩ (zk_preV (wc := zwC cI aQ Qcandidates Qballots Qseats Qwithdrawn Qvoters Qsets Qrank ++ (zwC cI aC Ccandidates Cballots Cseats Cwithdrawn Cvoters Csets Crank)) hN hK hw [6, 7, 8, 9, 2, 3, 4, 5] rfl (by decide) 6 0 rfl rfl) rfl rfl hl.1 rfl (lv_room (Nat.le_of_ble_eq_true rfl)) dX2_keep_10 ⟨Nat.zero_le _, Nat.zero_le _⟩) (fun H locs hw => ?_)
  have hw : Wd D A s.heap (zwP cO aP Pring Ptop Psize ++ (zwC cI aQ u2.1 u2.2.1 u2.2.2.1 u2.2.2.2.1 u2.2.2.2.2.1 u2.2.2.2.2.2.1 u2.2.2.2.2.2.2 ++ (zwC cI aC Ccandidates Cballots Cseats Cwithdrawn Cvoters Csets Crank))) H locs := hw
  refine lv_aload_n hx hb dX2_keep_13 rfl (lv_at hl 0 rfl) ?_
  refine lv_aload_n hx hb dX2_keep_14 rfl (lv_at hl 0 rfl) ?_
  refine va_get (D := D) (ci := 2) (v := .int Ptop) (C := RX2) (T := TX2) (N := 3) hx hb hts hiX2 hown hK hw.1 0 rfl rfl 1 (by decide) hq1 (fun _ h9 => h9) rfl dX2_keep_15 ?_
  refine lv_iconst (v := 1) hx hb dX2_keep_18 (by decide) ?_
  refine lv_iadd hx hb dX2_keep_19 ?_
  refine lv_bipush (v := 6) hx hb dX2_keep_20 (by decide) ?_
  refine lv_irem hx hb dX2_keep_22 (by decide) ?_
  refine va_put (D := D) (ci := 2) (v := .int ((Ptop + (1 : Int32)) - (Ptop + (1 : Int32)) / (6 : Int32) * (6 : Int32))) (C := RX2) (T := TX2) (N := 3) hx hb hts hiX2 tyX2 tyX2_ok nmX2 hown hK hw.1 hw.2.1 hw.2.2 0 rfl rfl 1 (by decide) hq1 (fun _ h9 => h9) rfl (tyX2_ok 1 (by decide)) rfl rfl (Nat.le_of_ble_eq_true rfl) dX2_keep_23 (fun H locs hP hD hS => ?_)
  have hw : Wd D A s.heap (zwP cO aP Pring ((Ptop + (1 : Int32)) - (Ptop + (1 : Int32)) / (6 : Int32) * (6 : Int32)) Psize ++ (zwC cI aQ u2.1 u2.2.1 u2.2.2.1 u2.2.2.2.1 u2.2.2.2.2.1 u2.2.2.2.2.2.1 u2.2.2.2.2.2.2 ++ (zwC cI aC Ccandidates Cballots Cseats Cwithdrawn Cvoters Csets Crank))) H locs := ⟨hP, hD, hS⟩
  clear hP hD hS
  refine lv_aload_n hx hb dX2_keep_26 rfl (lv_at hl 0 rfl) ?_
  refine lv_aload_n hx hb dX2_keep_27 rfl (lv_at hl 0 rfl) ?_
  refine va_get (D := D) (ci := 2) (v := .int Psize) (C := RX2) (T := TX2) (N := 3) hx hb hts hiX2 hown hK hw.1 0 rfl rfl 2 (by decide) hq5 (fun _ h9 => h9) rfl dX2_keep_28 ?_
  refine lv_iconst (v := 1) hx hb dX2_keep_31 (by decide) ?_
  refine lv_iadd hx hb dX2_keep_32 ?_
  refine lv_bipush (v := 6) hx hb dX2_keep_33 (by decide) ?_
  refine va_mmin hx hb (hml.trans hl.1.symm) hown hq6 hq7 hq8 hq9 (Nat.le_of_ble_eq_true rfl) (Nat.le_of_ble_eq_true rfl) (Nat.zero_le _) (Nat.zero_le _) dX2_keep_35 ?_
  refine va_put (D := D) (ci := 2) (v := .int (if (6 : Int32) < (Psize + (1 : Int32)) then (6 : Int32) else (Psize + (1 : Int32)))) (C := RX2) (T := TX2) (N := 3) hx hb hts hiX2 tyX2 tyX2_ok nmX2 hown hK hw.1 hw.2.1 hw.2.2 0 rfl rfl 2 (by decide) hq5 (fun _ h9 => h9) rfl (tyX2_ok 2 (by decide)) rfl rfl (Nat.le_of_ble_eq_true rfl) dX2_keep_38 (fun H locs hP hD hS => ?_)
  have hw : Wd D A s.heap (zwP cO aP Pring ((Ptop + (1 : Int32)) - (Ptop + (1 : Int32)) / (6 : Int32) * (6 : Int32)) (if (6 : Int32) < (Psize + (1 : Int32)) then (6 : Int32) else (Psize + (1 : Int32))) ++ (zwC cI aQ u2.1 u2.2.1 u2.2.2.1 u2.2.2.2.1 u2.2.2.2.2.1 u2.2.2.2.2.2.1 u2.2.2.2.2.2.2 ++ (zwC cI aC Ccandidates Cballots Cseats Cwithdrawn Cvoters Csets Crank))) H locs := ⟨hP, hD, hS⟩
  clear hP hD hS
  cases hf
  exact zk_vret hx hb hr hlocks hQ hw [0, 1, 6, 7, 8, 9, 2, 3, 4, 5] rfl (by decide) dX2_keep_41
set_option maxHeartbeats 4000000 in
set_option maxRecDepth 100000 in
theorem kX4_isVoters (l : Launch) (D : va_G) (cI cJ cO : ClassId) (N : Nat) (p0 : Int32) (u : Int32) (hf : fX4_isVoters N p0 = some u) : CtI l yX4_isVoters wsX4_isVoters (zk_rm 0 0) D cI cJ cO [.int p0] ([]) ([]) (u) := by
  refine zk_enter (cc := cX4_isVoters) (maxL := 1) (ret := some .boolean) (own := RX4) (Qf := fun A => QwI D ([]) (u) A) (by decide) rfl rfl (Nat.le_of_ble_eq_true rfl) ?_
  intro p e s m args below meth c A Q H locs ls hC hQ hw hl
  obtain ⟨hx, hb, hml, hr, hts, hown, hlocks, hN, hK, hA⟩ := hC
  have hl : lv_has ls 1 [(0, .int p0)] := hl
  unfold fX4_isVoters at hf
  refine lv_iload_n hx hb dX4_isVoters_0 rfl (lv_at hl 0 rfl) ?_
  refine lv_iconst (v := 1) hx hb dX4_isVoters_1 (by decide) ?_
  refine lv_icmp_lt (tgt := 15) hx hb dX4_isVoters_2 (by decide) (fun c1 => ?_) (fun c1 => ?_)
  · replace hf := zk_t c1 hf
    refine lv_iconst (v := 0) hx hb dX4_isVoters_15 (by decide) ?_
    cases hf
    exact zk_iret hx hb hr hlocks rfl hQ hw [] rfl (by decide) dX4_isVoters_16
  · replace hf := zk_f c1 hf
    refine lv_iload_n hx hb dX4_isVoters_5 rfl (lv_at hl 0 rfl) ?_
    refine lv_bipush (v := 20) hx hb dX4_isVoters_6 (by decide) ?_
    refine lv_icmp_gt (tgt := 15) hx hb dX4_isVoters_8 (by decide) (fun c2 => ?_) (fun c2 => ?_)
    · replace hf := zk_t c2 hf
      refine lv_iconst (v := 0) hx hb dX4_isVoters_15 (by decide) ?_
      cases hf
      exact zk_iret hx hb hr hlocks rfl hQ hw [] rfl (by decide) dX4_isVoters_16
    · replace hf := zk_f c2 hf
      refine lv_iconst (v := 1) hx hb dX4_isVoters_11 (by decide) ?_
      refine lv_goto (tgt := 16) hx hb dX4_isVoters_12 (by decide) ?_
      cases hf
      exact zk_iret hx hb hr hlocks rfl hQ hw [] rfl (by decide) dX4_isVoters_16
set_option maxHeartbeats 4000000 in
set_option maxRecDepth 100000 in
theorem kX4_isSet (l : Launch) (D : va_G) (cI cJ cO : ClassId) (N : Nat) (aL aN : Nat → Nat) (aT aR aP aE : Nat → Nat) (p0 : Int32) (Ncandidates : Int32) (Nballots : Int32) (Nseats : Int32) (Nwithdrawn : Int32) (Nvoters : Nat → Int32) (Nsets : Nat → Int32) (Nrank : Nat → Int32) (u : Int32) (hf : fX4_isSet N p0 Ncandidates = some u) : CtI l yX4_isSet wsX4_isSet (zk_rm 0 0) D cI cJ cO [.ref (aL 0), .int p0] (zwL aL (aT 0) (aN 0) (aR 0) (aP 0) (aE 0) ++ (zwC cI aN Ncandidates Nballots Nseats Nwithdrawn Nvoters Nsets Nrank)) (zwL aL (aT 0) (aN 0) (aR 0) (aP 0) (aE 0) ++ (zwC cI aN Ncandidates Nballots Nseats Nwithdrawn Nvoters Nsets Nrank)) (u) := by
  refine zk_enter (cc := cX4_isSet) (maxL := 2) (ret := some .boolean) (own := RX4) (Qf := fun A => QwI D (zwL aL (aT 0) (aN 0) (aR 0) (aP 0) (aE 0) ++ (zwC cI aN Ncandidates Nballots Nseats Nwithdrawn Nvoters Nsets Nrank)) (u) A) (by decide) rfl rfl (Nat.le_of_ble_eq_true rfl) ?_
  intro p e s m args below meth c A Q H locs ls hC hQ hw hl
  obtain ⟨hx, hb, hml, hr, hts, hown, hlocks, hN, hK, hA⟩ := hC
  have hl : lv_has ls 2 [(0, .ref (aL 0)), (1, .int p0)] := hl
  have hiX4 : ∀ w ∈ u_ws RX4 TX4 5, w ∈ wsX4_isSet := by decide +kernel
  have hiX0 : ∀ w ∈ u_ws RX0 TX0 7, w ∈ wsX4_isSet := by decide +kernel
  have hq0 := hts (.fieldLink RX4 19 "LoadCouncil" "now" "LLoadCouncil$Council;") (by decide +kernel)
  unfold fX4_isSet at hf
  refine lv_iload_n hx hb dX4_isSet_0 rfl (lv_at hl 1 rfl) ?_
  refine lv_iconst (v := 1) hx hb dX4_isSet_1 (by decide) ?_
  refine lv_icmp_lt (tgt := 22) hx hb dX4_isSet_2 (by decide) (fun c1 => ?_) (fun c1 => ?_)
  · replace hf := zk_t c1 hf
    refine lv_iconst (v := 0) hx hb dX4_isSet_22 (by decide) ?_
    cases hf
    exact zk_iret hx hb hr hlocks rfl hQ hw [0, 1, 2, 3, 4] rfl (by decide) dX4_isSet_23
  · replace hf := zk_f c1 hf
    refine lv_iload_n hx hb dX4_isSet_5 rfl (lv_at hl 1 rfl) ?_
    refine lv_iconst (v := 1) hx hb dX4_isSet_6 (by decide) ?_
    refine lv_aload_n hx hb dX4_isSet_7 rfl (lv_at hl 0 rfl) ?_
    refine va_get (D := D) (ci := 4) (v := .ref (aN 0)) (C := RX4) (T := TX4) (N := 5) hx hb hts hiX4 hown hK hw.1 0 rfl rfl 1 (by decide) hq0 (fun _ h9 => h9) rfl dX4_isSet_8 ?_
    refine va_getN (D := D) (ci := 0) (v := .int Ncandidates) (C := RX0) (T := TX0) (N := 7) hx hb hts hiX0 hown hK hw.1 1 rfl rfl 0 (by decide) (va_Nw.use rfl (nwF_X4_66 hN)) (fun _ h9 => h9) rfl dX4_isSet_11 ?_
    refine lv_ishl hx hb dX4_isSet_14 ?_
    refine lv_icmp_ge (tgt := 22) hx hb dX4_isSet_15 (by decide) (fun c2 => ?_) (fun c2 => ?_)
    · replace hf := zk_t c2 hf
      refine lv_iconst (v := 0) hx hb dX4_isSet_22 (by decide) ?_
      cases hf
      exact zk_iret hx hb hr hlocks rfl hQ hw [0, 1, 2, 3, 4] rfl (by decide) dX4_isSet_23
    · replace hf := zk_f c2 hf
      refine lv_iconst (v := 1) hx hb dX4_isSet_18 (by decide) ?_
      refine lv_goto (tgt := 23) hx hb dX4_isSet_19 (by decide) ?_
      cases hf
      exact zk_iret hx hb hr hlocks rfl hQ hw [0, 1, 2, 3, 4] rfl (by decide) dX4_isSet_23
set_option maxHeartbeats 4000000 in
set_option maxRecDepth 100000 in
theorem kX4_ballot (l : Launch) (D : va_G) (cI cJ cO : ClassId) (N : Nat) (aL aP aN aQ : Nat → Nat) (aT aR aE : Nat → Nat) (p0 : Int32) (p1 : Int32) (Pring : Nat → Option Nat) (Ptop : Int32) (Psize : Int32) (Ncandidates : Int32) (Nballots : Int32) (Nseats : Int32) (Nwithdrawn : Int32) (Nvoters : Nat → Int32) (Nsets : Nat → Int32) (Nrank : Nat → Int32) (Qcandidates : Int32) (Qballots : Int32) (Qseats : Int32) (Qwithdrawn : Int32) (Qvoters : Nat → Int32) (Qsets : Nat → Int32) (Qrank : Nat → Int32) (hg : Pring (Ptop).toNatClampNeg = some (aQ 0)) (u : Int32 × (Int32) × (Int32) × (Int32) × (Nat → Int32) × (Nat → Int32) × (Int32) × (Int32) × (Int32) × (Int32) × (Nat → Int32) × (Nat → Int32) × (Nat → Int32)) (hf : fX4_ballot N p0 p1 Ptop Psize Ncandidates Nballots Nseats Nwithdrawn Nvoters Nsets Nrank Qcandidates Qballots Qseats Qwithdrawn Qvoters Qsets Qrank = some u) : CtI l yX4_ballot wsX4_ballot (zk_rm 3 102) D cI cJ cO [.ref (aL 0), .int p0, .int p1] (zwL aL (aT 0) (aN 0) (aR 0) (aP 0) (aE 0) ++ (zwP cO aP Pring Ptop Psize ++ (zwC cI aN Ncandidates Nballots Nseats Nwithdrawn Nvoters Nsets Nrank ++ (zwC cI aQ Qcandidates Qballots Qseats Qwithdrawn Qvoters Qsets Qrank)))) (zwL aL (aT 0) (aN 0) (aR 0) (aP 0) (aE 0) ++ (zwP cO aP Pring u.2.1 u.2.2.1 ++ (zwC cI aN Ncandidates u.2.2.2.1 Nseats Nwithdrawn u.2.2.2.2.1 u.2.2.2.2.2.1 Nrank ++ (zwC cI aQ u.2.2.2.2.2.2.1 u.2.2.2.2.2.2.2.1 u.2.2.2.2.2.2.2.2.1 u.2.2.2.2.2.2.2.2.2.1 u.2.2.2.2.2.2.2.2.2.2.1 u.2.2.2.2.2.2.2.2.2.2.2.1 u.2.2.2.2.2.2.2.2.2.2.2.2)))) (u.1) := by
  refine zk_enter (cc := cX4_ballot) (maxL := 3) (ret := some .int) (own := RX4) (Qf := fun A => QwI D (zwL aL (aT 0) (aN 0) (aR 0) (aP 0) (aE 0) ++ (zwP cO aP Pring u.2.1 u.2.2.1 ++ (zwC cI aN Ncandidates u.2.2.2.1 Nseats Nwithdrawn u.2.2.2.2.1 u.2.2.2.2.2.1 Nrank ++ (zwC cI aQ u.2.2.2.2.2.2.1 u.2.2.2.2.2.2.2.1 u.2.2.2.2.2.2.2.2.1 u.2.2.2.2.2.2.2.2.2.1 u.2.2.2.2.2.2.2.2.2.2.1 u.2.2.2.2.2.2.2.2.2.2.2.1 u.2.2.2.2.2.2.2.2.2.2.2.2)))) (u.1) A) (by decide) rfl rfl (Nat.le_of_ble_eq_true rfl) ?_
  intro p e s m args below meth c A Q H locs ls hC hQ hw hl
  obtain ⟨hx, hb, hml, hr, hts, hown, hlocks, hN, hK, hA⟩ := hC
  have hl : lv_has ls 3 [(0, .ref (aL 0)), (1, .int p0), (2, .int p1)] := hl
  have hiX4 : ∀ w ∈ u_ws RX4 TX4 5, w ∈ wsX4_ballot := by decide +kernel
  have hiX0 : ∀ w ∈ u_ws RX0 TX0 7, w ∈ wsX4_ballot := by decide +kernel
  have hq0 := hts (.fieldLink RX4 19 "LoadCouncil" "now" "LLoadCouncil$Council;") (by decide +kernel)
  have hq1 := hts (.initialized RX0) (by decide +kernel)
  have hq2 := hts (.instanceMethod yX0_allVoters) (by decide +kernel)
  have hq3 := hts (.selects RX0 yX0_allVoters yX0_allVoters) (by decide +kernel)
  have hq4 := hts (.fieldLink RX4 29 "LoadCouncil" "past" "LLoadCouncil$Past;") (by decide +kernel)
  have hq5 := hts (.initialized RX2) (by decide +kernel)
  have hq6 := hts (.instanceMethod yX2_keep) (by decide +kernel)
  have hq7 := hts (.selects RX2 yX2_keep yX2_keep) (by decide +kernel)
  have hq8 := hts (.instanceMethod yX0_addBallot) (by decide +kernel)
  have hq9 := hts (.selects RX0 yX0_addBallot yX0_addBallot) (by decide +kernel)
  unfold fX4_ballot at hf
  refine lv_iload_n hx hb dX4_ballot_0 rfl (lv_at hl 1 rfl) ?_
  obtain ⟨u1, e2, hf⟩ := zk_bd hf
  refine zk_calli (wc := []) (wr := zwL aL (aT 0) (aN 0) (aR 0) (aP 0) (aE 0) ++ (zwP cO aP Pring Ptop Psize ++ (zwC cI aN Ncandidates Nballots Nseats Nwithdrawn Nvoters Nsets Nrank ++ (zwC cI aQ Qcandidates Qballots Qseats Qwithdrawn Qvoters Qsets Qrank)))) hw hA [] [0, 1, 2, 3, 4, 5, 6, 7, 8, 9, 10] rfl rfl (by decide) (by decide) (va_runS (As := [.int p0]) (rest := []) ⟨hx, hb, hml, hown, hts⟩ (kX4_isVoters l D cI cJ cO N p0 u1 e2 H.size) (va_cwS 1 hts gX4_ballot_X4_isVoters rfl rfl rfl (by decide +kernel) ⟨Nat.le_of_ble_eq_true rfl, Nat.le_of_ble_eq_true rfl⟩) (zk_preS (wc := []) hN hK hw [] rfl (by decide)) rfl rfl hl.1 rfl (lv_room (Nat.le_of_ble_eq_true rfl)) dX4_ballot_1 ⟨Nat.zero_le _, Nat.zero_le _⟩) (fun H locs hw => ?_)
  have hw : Wd D A s.heap (zwL aL (aT 0) (aN 0) (aR 0) (aP 0) (aE 0) ++ (zwP cO aP Pring Ptop Psize ++ (zwC cI aN Ncandidates Nballots Nseats Nwithdrawn Nvoters Nsets Nrank ++ (zwC cI aQ Qcandidates Qballots Qseats Qwithdrawn Qvoters Qsets Qrank)))) H locs := hw
  refine lv_if_eq (tgt := 15) hx hb dX4_ballot_4 (by decide) (fun c3 => ?_) (fun c3 => ?_)
  · replace hf := zk_t c3 hf
    refine lv_iconst (v := (-1)) hx hb dX4_ballot_15 (by decide) ?_
    cases hf
    exact zk_iret hx hb hr hlocks rfl hQ hw [0, 1, 2, 3, 4, 5, 6, 7, 8, 9, 10] rfl (by decide) dX4_ballot_16
  · replace hf := zk_f c3 hf
    refine lv_aload_n hx hb dX4_ballot_7 rfl (lv_at hl 0 rfl) ?_
    refine lv_iload_n hx hb dX4_ballot_8 rfl (lv_at hl 2 rfl) ?_
    obtain ⟨u4, e5, hf⟩ := zk_bd hf
    refine zk_calli (wc := zwL aL (aT 0) (aN 0) (aR 0) (aP 0) (aE 0) ++ (zwC cI aN Ncandidates Nballots Nseats Nwithdrawn Nvoters Nsets Nrank)) (wr := zwP cO aP Pring Ptop Psize ++ (zwC cI aQ Qcandidates Qballots Qseats Qwithdrawn Qvoters Qsets Qrank)) hw hA [0, 3, 4, 5, 6] [1, 2, 7, 8, 9, 10] rfl rfl (by decide) (by decide) (va_runV (C := RX4) (As := [.int p1]) (rest := []) ⟨hx, hb, hml, hown, hts⟩ (kX4_isSet l D cI cJ cO N aL aN aT aR aP aE p1 Ncandidates Nballots Nseats Nwithdrawn Nvoters Nsets Nrank u4 e5 H.size) (cwV 1 hts gX4_ballot_X4_isSet rfl rfl rfl (by decide +kernel) ⟨Nat.le_of_ble_eq_true rfl, Nat.le_of_ble_eq_true rfl⟩) (zk_preV (wc := zwL aL (aT 0) (aN 0) (aR 0) (aP 0) (aE 0) ++ (zwC cI aN Ncandidates Nballots Nseats Nwithdrawn Nvoters Nsets Nrank)) hN hK hw [0, 3, 4, 5, 6] rfl (by decide) 0 4 rfl rfl) rfl rfl hl.1 rfl (lv_room (Nat.le_of_ble_eq_true rfl)) dX4_ballot_9 ⟨Nat.zero_le _, Nat.zero_le _⟩) (fun H locs hw => ?_)
    have hw : Wd D A s.heap (zwP cO aP Pring Ptop Psize ++ (zwC cI aQ Qcandidates Qballots Qseats Qwithdrawn Qvoters Qsets Qrank ++ (zwL aL (aT 0) (aN 0) (aR 0) (aP 0) (aE 0) ++ (zwC cI aN Ncandidates Nballots Nseats Nwithdrawn Nvoters Nsets Nrank)))) H locs := hw
    refine lv_if_ne (tgt := 17) hx hb dX4_ballot_12 (by decide) (fun c6 => ?_) (fun c6 => ?_)
    · replace hf := zk_f c6 hf
      refine lv_aload_n hx hb dX4_ballot_17 rfl (lv_at hl 0 rfl) ?_
      refine va_get (D := D) (ci := 4) (v := .ref (aN 0)) (C := RX4) (T := TX4) (N := 5) hx hb hts hiX4 hown hK hw.1 6 rfl rfl 1 (by decide) hq0 (fun _ h9 => h9) rfl dX4_ballot_18 ?_
      refine va_getN (D := D) (ci := 0) (v := .int Nballots) (C := RX0) (T := TX0) (N := 7) hx hb hts hiX0 hown hK hw.1 7 rfl rfl 1 (by decide) (va_Nw.use rfl (nwF_X4_82 hN)) (fun _ h9 => h9) rfl dX4_ballot_21 ?_
      refine lv_bipush (v := 10) hx hb dX4_ballot_24 (by decide) ?_
      refine lv_icmp_ge (tgt := 43) hx hb dX4_ballot_26 (by decide) (fun c7 => ?_) (fun c7 => ?_)
      · replace hf := zk_t c7 hf
        refine lv_bipush (v := (-3)) hx hb dX4_ballot_43 (by decide) ?_
        cases hf
        exact zk_iret hx hb hr hlocks rfl hQ hw [6, 0, 1, 7, 8, 9, 10, 2, 3, 4, 5] rfl (by decide) dX4_ballot_45
      · replace hf := zk_f c7 hf
        refine lv_aload_n hx hb dX4_ballot_29 rfl (lv_at hl 0 rfl) ?_
        refine va_get (D := D) (ci := 4) (v := .ref (aN 0)) (C := RX4) (T := TX4) (N := 5) hx hb hts hiX4 hown hK hw.1 6 rfl rfl 1 (by decide) hq0 (fun _ h9 => h9) rfl dX4_ballot_30 ?_
        obtain ⟨u8, e9, hf⟩ := zk_bd hf
        refine zk_calli (wc := zwC cI aN Ncandidates Nballots Nseats Nwithdrawn Nvoters Nsets Nrank) (wr := zwP cO aP Pring Ptop Psize ++ (zwC cI aQ Qcandidates Qballots Qseats Qwithdrawn Qvoters Qsets Qrank ++ (zwL aL (aT 0) (aN 0) (aR 0) (aP 0) (aE 0)))) hw hA [7, 8, 9, 10] [0, 1, 2, 3, 4, 5, 6] rfl rfl (by decide) (by decide) (va_runVN (C := RX0) (As := []) (rest := []) ⟨hx, hb, hml, hown, hts⟩ (kX0_allVoters l D cI cJ cO N aN Ncandidates Nballots Nseats Nwithdrawn Nvoters Nsets Nrank u8 e9 H.size) ⟨va_cnB 0 hts ggX4_ballot_X0_allVoters rfl rfl rfl (nwM_X4_85 hN) hq1 (by decide +kernel) ⟨Nat.le_of_ble_eq_true rfl, Nat.le_of_ble_eq_true rfl⟩, hq2, hq3⟩ (zk_preV (wc := zwC cI aN Ncandidates Nballots Nseats Nwithdrawn Nvoters Nsets Nrank) hN hK hw [7, 8, 9, 10] rfl (by decide) 7 0 rfl rfl) rfl rfl hl.1 rfl (lv_room (Nat.le_of_ble_eq_true rfl)) dX4_ballot_33 ⟨Nat.zero_le _, Nat.zero_le _⟩) (fun H locs hw => ?_)
        have hw : Wd D A s.heap (zwP cO aP Pring Ptop Psize ++ (zwC cI aQ Qcandidates Qballots Qseats Qwithdrawn Qvoters Qsets Qrank ++ (zwL aL (aT 0) (aN 0) (aR 0) (aP 0) (aE 0) ++ (zwC cI aN Ncandidates Nballots Nseats Nwithdrawn Nvoters Nsets Nrank)))) H locs := hw
        refine lv_iload_n hx hb dX4_ballot_36 rfl (lv_at hl 1 rfl) ?_
        refine lv_iadd hx hb dX4_ballot_37 ?_
        refine lv_bipush (v := 40) hx hb dX4_ballot_38 (by decide) ?_
        refine lv_icmp_le (tgt := 46) hx hb dX4_ballot_40 (by decide) (fun c10 => ?_) (fun c10 => ?_)
        · replace hf := zk_t c10 hf
          refine lv_aload_n hx hb dX4_ballot_46 rfl (lv_at hl 0 rfl) ?_
          refine va_get (D := D) (ci := 4) (v := .ref (aP 0)) (C := RX4) (T := TX4) (N := 5) hx hb hts hiX4 hown hK hw.1 6 rfl rfl 3 (by decide) hq4 (fun _ h9 => h9) rfl dX4_ballot_47 ?_
          refine lv_aload_n hx hb dX4_ballot_50 rfl (lv_at hl 0 rfl) ?_
          refine va_get (D := D) (ci := 4) (v := .ref (aN 0)) (C := RX4) (T := TX4) (N := 5) hx hb hts hiX4 hown hK hw.1 6 rfl rfl 1 (by decide) hq0 (fun _ h9 => h9) rfl dX4_ballot_51 ?_
          obtain ⟨u11, e12, hf⟩ := zk_bd hf
          refine zk_callv (wc := zwP cO aP Pring Ptop Psize ++ (zwC cI aN Ncandidates Nballots Nseats Nwithdrawn Nvoters Nsets Nrank ++ (zwC cI aQ Qcandidates Qballots Qseats Qwithdrawn Qvoters Qsets Qrank))) (wr := zwL aL (aT 0) (aN 0) (aR 0) (aP 0) (aE 0)) hw hA [0, 1, 7, 8, 9, 10, 2, 3, 4, 5] [6] rfl rfl (by decide) (by decide) (va_runVN (C := RX2) (As := [.ref (aN 0)]) (rest := []) ⟨hx, hb, hml, hown, hts⟩ (kX2_keep l D cI cJ cO N aP aN aQ Pring Ptop Psize Ncandidates Nballots Nseats Nwithdrawn Nvoters Nsets Nrank Qcandidates Qballots Qseats Qwithdrawn Qvoters Qsets Qrank hg u11 e12 H.size) ⟨va_cnB 1 hts ggX4_ballot_X2_keep rfl rfl rfl (nwM_X4_88 hN) hq5 (by decide +kernel) ⟨Nat.le_of_ble_eq_true rfl, Nat.le_of_ble_eq_true rfl⟩, hq6, hq7⟩ (zk_preV (wc := zwP cO aP Pring Ptop Psize ++ (zwC cI aN Ncandidates Nballots Nseats Nwithdrawn Nvoters Nsets Nrank ++ (zwC cI aQ Qcandidates Qballots Qseats Qwithdrawn Qvoters Qsets Qrank))) hN hK hw [0, 1, 7, 8, 9, 10, 2, 3, 4, 5] rfl (by decide) 0 2 rfl rfl) rfl rfl hl.1 rfl (lv_room (Nat.le_of_ble_eq_true rfl)) dX4_ballot_54 ⟨Nat.zero_le _, Nat.zero_le _⟩) (fun H locs hw => ?_)
          have hw : Wd D A s.heap (zwL aL (aT 0) (aN 0) (aR 0) (aP 0) (aE 0) ++ (zwP cO aP Pring u11.1 u11.2.1 ++ (zwC cI aN Ncandidates Nballots Nseats Nwithdrawn Nvoters Nsets Nrank ++ (zwC cI aQ u11.2.2.1 u11.2.2.2.1 u11.2.2.2.2.1 u11.2.2.2.2.2.1 u11.2.2.2.2.2.2.1 u11.2.2.2.2.2.2.2.1 u11.2.2.2.2.2.2.2.2)))) H locs := hw
          refine lv_aload_n hx hb dX4_ballot_57 rfl (lv_at hl 0 rfl) ?_
          refine va_get (D := D) (ci := 4) (v := .ref (aN 0)) (C := RX4) (T := TX4) (N := 5) hx hb hts hiX4 hown hK hw.1 0 rfl rfl 1 (by decide) hq0 (fun _ h9 => h9) rfl dX4_ballot_58 ?_
          refine lv_iload_n hx hb dX4_ballot_61 rfl (lv_at hl 1 rfl) ?_
          refine lv_iload_n hx hb dX4_ballot_62 rfl (lv_at hl 2 rfl) ?_
          obtain ⟨u13, e14, hf⟩ := zk_bd hf
          refine zk_callv (wc := zwC cI aN Ncandidates Nballots Nseats Nwithdrawn Nvoters Nsets Nrank) (wr := zwL aL (aT 0) (aN 0) (aR 0) (aP 0) (aE 0) ++ (zwP cO aP Pring u11.1 u11.2.1 ++ (zwC cI aQ u11.2.2.1 u11.2.2.2.1 u11.2.2.2.2.1 u11.2.2.2.2.2.1 u11.2.2.2.2.2.2.1 u11.2.2.2.2.2.2.2.1 u11.2.2.2.2.2.2.2.2))) hw hA [3, 4, 5, 6] [0, 1, 2, 7, 8, 9, 10] rfl rfl (by decide) (by decide) (va_runVN (C := RX0) (As := [.int p0, .int p1]) (rest := []) ⟨hx, hb, hml, hown, hts⟩ (kX0_addBallot l D cI cJ cO N aN p0 p1 Ncandidates Nballots Nseats Nwithdrawn Nvoters Nsets Nrank u13 e14 H.size) ⟨va_cnB 2 hts ggX4_ballot_X0_addBallot rfl rfl rfl (nwM_X4_91 hN) hq1 (by decide +kernel) ⟨Nat.le_of_ble_eq_true rfl, Nat.le_of_ble_eq_true rfl⟩, hq8, hq9⟩ (zk_preV (wc := zwC cI aN Ncandidates Nballots Nseats Nwithdrawn Nvoters Nsets Nrank) hN hK hw [3, 4, 5, 6] rfl (by decide) 3 0 rfl rfl) rfl rfl hl.1 rfl (lv_room (Nat.le_of_ble_eq_true rfl)) dX4_ballot_63 ⟨Nat.zero_le _, Nat.zero_le _⟩) (fun H locs hw => ?_)
          have hw : Wd D A s.heap (zwL aL (aT 0) (aN 0) (aR 0) (aP 0) (aE 0) ++ (zwP cO aP Pring u11.1 u11.2.1 ++ (zwC cI aQ u11.2.2.1 u11.2.2.2.1 u11.2.2.2.2.1 u11.2.2.2.2.2.1 u11.2.2.2.2.2.2.1 u11.2.2.2.2.2.2.2.1 u11.2.2.2.2.2.2.2.2 ++ (zwC cI aN Ncandidates u13.1 Nseats Nwithdrawn u13.2.1 u13.2.2 Nrank)))) H locs := hw
          refine lv_aload_n hx hb dX4_ballot_66 rfl (lv_at hl 0 rfl) ?_
          refine va_get (D := D) (ci := 4) (v := .ref (aN 0)) (C := RX4) (T := TX4) (N := 5) hx hb hts hiX4 hown hK hw.1 0 rfl rfl 1 (by decide) hq0 (fun _ h9 => h9) rfl dX4_ballot_67 ?_
          refine va_getN (D := D) (ci := 0) (v := .int u13.1) (C := RX0) (T := TX0) (N := 7) hx hb hts hiX0 hown hK hw.1 7 rfl rfl 1 (by decide) (va_Nw.use rfl (nwF_X4_82 hN)) (fun _ h9 => h9) rfl dX4_ballot_70 ?_
          refine lv_iconst (v := 1) hx hb dX4_ballot_73 (by decide) ?_
          refine lv_isub hx hb dX4_ballot_74 ?_
          cases hf
          exact zk_iret hx hb hr hlocks rfl hQ hw [0, 1, 2, 7, 8, 9, 10, 3, 4, 5, 6] rfl (by decide) dX4_ballot_75
        · replace hf := zk_f c10 hf
          refine lv_bipush (v := (-3)) hx hb dX4_ballot_43 (by decide) ?_
          cases hf
          exact zk_iret hx hb hr hlocks rfl hQ hw [6, 0, 1, 7, 8, 9, 10, 2, 3, 4, 5] rfl (by decide) dX4_ballot_45
    · replace hf := zk_t c6 hf
      refine lv_iconst (v := (-1)) hx hb dX4_ballot_15 (by decide) ?_
      cases hf
      exact zk_iret hx hb hr hlocks rfl hQ hw [6, 0, 1, 7, 8, 9, 10, 2, 3, 4, 5] rfl (by decide) dX4_ballot_16
set_option maxHeartbeats 4000000 in
set_option maxRecDepth 100000 in
theorem kX5_in (l : Launch) (D : va_G) (cI cJ cO : ClassId) (N : Nat) (p0 : Int32) (p1 : Int32) (p2 : Int32) (u : Int32) (hf : fX5_in N p0 p1 p2 = some u) : CtI l yX5_in wsX5_in (zk_rm 0 0) D cI cJ cO [.int p0, .int p1, .int p2] ([]) ([]) (u) := by
  refine zk_enter (cc := cX5_in) (maxL := 3) (ret := some .boolean) (own := RX5) (Qf := fun A => QwI D ([]) (u) A) (by decide) rfl rfl (Nat.le_of_ble_eq_true rfl) ?_
  intro p e s m args below meth c A Q H locs ls hC hQ hw hl
  obtain ⟨hx, hb, hml, hr, hts, hown, hlocks, hN, hK, hA⟩ := hC
  have hl : lv_has ls 3 [(0, .int p0), (1, .int p1), (2, .int p2)] := hl
  unfold fX5_in at hf
  refine lv_iload_n hx hb dX5_in_0 rfl (lv_at hl 0 rfl) ?_
  refine lv_iload_n hx hb dX5_in_1 rfl (lv_at hl 1 rfl) ?_
  refine lv_icmp_lt (tgt := 14) hx hb dX5_in_2 (by decide) (fun c1 => ?_) (fun c1 => ?_)
  · replace hf := zk_t c1 hf
    refine lv_iconst (v := 0) hx hb dX5_in_14 (by decide) ?_
    cases hf
    exact zk_iret hx hb hr hlocks rfl hQ hw [] rfl (by decide) dX5_in_15
  · replace hf := zk_f c1 hf
    refine lv_iload_n hx hb dX5_in_5 rfl (lv_at hl 0 rfl) ?_
    refine lv_iload_n hx hb dX5_in_6 rfl (lv_at hl 2 rfl) ?_
    refine lv_icmp_gt (tgt := 14) hx hb dX5_in_7 (by decide) (fun c2 => ?_) (fun c2 => ?_)
    · replace hf := zk_t c2 hf
      refine lv_iconst (v := 0) hx hb dX5_in_14 (by decide) ?_
      cases hf
      exact zk_iret hx hb hr hlocks rfl hQ hw [] rfl (by decide) dX5_in_15
    · replace hf := zk_f c2 hf
      refine lv_iconst (v := 1) hx hb dX5_in_10 (by decide) ?_
      refine lv_goto (tgt := 15) hx hb dX5_in_11 (by decide) ?_
      cases hf
      exact zk_iret hx hb hr hlocks rfl hQ hw [] rfl (by decide) dX5_in_15
set_option maxHeartbeats 4000000 in
set_option maxRecDepth 100000 in
theorem kX5_has (l : Launch) (D : va_G) (cI cJ cO : ClassId) (N : Nat) (p0 : Int32) (p1 : Int32) (u : Int32) (hf : fX5_has N p0 p1 = some u) : CtI l yX5_has wsX5_has (zk_rm 0 0) D cI cJ cO [.int p0, .int p1] ([]) ([]) (u) := by
  refine zk_enter (cc := cX5_has) (maxL := 2) (ret := some .boolean) (own := RX5) (Qf := fun A => QwI D ([]) (u) A) (by decide) rfl rfl (Nat.le_of_ble_eq_true rfl) ?_
  intro p e s m args below meth c A Q H locs ls hC hQ hw hl
  obtain ⟨hx, hb, hml, hr, hts, hown, hlocks, hN, hK, hA⟩ := hC
  have hl : lv_has ls 2 [(0, .int p0), (1, .int p1)] := hl
  unfold fX5_has at hf
  refine lv_iload_n hx hb dX5_has_0 rfl (lv_at hl 0 rfl) ?_
  refine lv_iload_n hx hb dX5_has_1 rfl (lv_at hl 1 rfl) ?_
  refine lv_ishr hx hb dX5_has_2 ?_
  refine lv_iconst (v := 1) hx hb dX5_has_3 (by decide) ?_
  refine lv_iand hx hb dX5_has_4 ?_
  refine lv_iconst (v := 1) hx hb dX5_has_5 (by decide) ?_
  refine lv_icmp_ne (tgt := 13) hx hb dX5_has_6 (by decide) (fun c1 => ?_) (fun c1 => ?_)
  · replace hf := zk_f c1 hf
    refine lv_iconst (v := 0) hx hb dX5_has_13 (by decide) ?_
    cases hf
    exact zk_iret hx hb hr hlocks rfl hQ hw [] rfl (by decide) dX5_has_14
  · replace hf := zk_t c1 hf
    refine lv_iconst (v := 1) hx hb dX5_has_9 (by decide) ?_
    refine lv_goto (tgt := 14) hx hb dX5_has_10 (by decide) ?_
    cases hf
    exact zk_iret hx hb hr hlocks rfl hQ hw [] rfl (by decide) dX5_has_14
set_option maxHeartbeats 4000000 in
set_option maxRecDepth 100000 in
theorem kX5_ones (l : Launch) (D : va_G) (cI cJ cO : ClassId) (N : Nat) (p0 : Int32) (u : Int32) (hf : fX5_ones N p0 = some u) : CtI l yX5_ones wsX5_ones (zk_rm 0 0) D cI cJ cO [.int p0] ([]) ([]) (u) := by
  refine zk_enter (cc := cX5_ones) (maxL := 3) (ret := some .int) (own := RX5) (Qf := fun A => QwI D ([]) (u) A) (by decide) rfl rfl (Nat.le_of_ble_eq_true rfl) ?_
  intro p e s m args below meth c A Q H locs ls hC hQ hw hl
  obtain ⟨hx, hb, hml, hr, hts, hown, hlocks, hN, hK, hA⟩ := hC
  have hl : lv_has ls 3 [(0, .int p0)] := hl
  have b4 : ∀ (n4 : Nat), ∀ (x0 : Int32) (x1 : Int32) (x2 : Int32), fX5_ones_b4 N n4 x0 x1 x2 = some u → ∀ (H : Heap) (locs : List Loc) (ls : Array Slot), Wd D A s.heap ([]) H locs → lv_has ls 3 [(0, .int x0), (1, .int x1), (2, .int x2)] → W p l e (zk_rm 0 0) s m args below meth c H locs 0 0 Q (F0 m 4 ls []) := by
    intro n4
    induction n4 with
    | zero =>
      intro x0 x1 x2 hf
      exact zk_none hf
    | succ n4 ih4 =>
      intro x0 x1 x2 hf H locs ls hw hl
      rw [fX5_ones_b4] at hf
      refine lv_iload_n hx hb dX5_ones_4 rfl (lv_at hl 2 rfl) ?_
      refine lv_bipush (v := 11) hx hb dX5_ones_5 (by decide) ?_
      refine lv_icmp_ge (tgt := 24) hx hb dX5_ones_7 (by decide) (fun c1 => ?_) (fun c1 => ?_)
      · replace hf := zk_t c1 hf
        refine lv_iload_n hx hb dX5_ones_24 rfl (lv_at hl 1 rfl) ?_
        cases hf
        exact zk_iret hx hb hr hlocks rfl hQ hw [] rfl (by decide) dX5_ones_25
      · replace hf := zk_f c1 hf
        refine lv_iload_n hx hb dX5_ones_10 rfl (lv_at hl 1 rfl) ?_
        refine lv_iload_n hx hb dX5_ones_11 rfl (lv_at hl 0 rfl) ?_
        refine lv_iload_n hx hb dX5_ones_12 rfl (lv_at hl 2 rfl) ?_
        refine lv_ishr hx hb dX5_ones_13 ?_
        refine lv_iconst (v := 1) hx hb dX5_ones_14 (by decide) ?_
        refine lv_iand hx hb dX5_ones_15 ?_
        refine lv_iadd hx hb dX5_ones_16 ?_
        refine lv_istore_n (lv' := [(1, .int (x1 + ((x0 >>> (x2 &&& 31)) &&& (1 : Int32)))), (0, .int x0), (2, .int x2)]) hx hb dX5_ones_17 rfl hl (by decide) rfl (fun ls hl => ?_)
        refine lv_iinc (v := (x2 + (1 : Int32))) (lv' := [(2, .int (x2 + (1 : Int32))), (1, .int (x1 + ((x0 >>> (x2 &&& 31)) &&& (1 : Int32)))), (0, .int x0)]) hx hb dX5_ones_18 hl (k := 2) rfl rfl (by decide) rfl (fun ls hl => ?_)
        refine lv_goto (tgt := 4) hx hb dX5_ones_21 (by decide) ?_
        exact ih4 x0 (x1 + ((x0 >>> (x2 &&& 31)) &&& (1 : Int32))) (x2 + (1 : Int32)) hf H locs ls hw (lv_sub hl [2, 1, 0] rfl)
  unfold fX5_ones at hf
  refine lv_iconst (v := 0) hx hb dX5_ones_0 (by decide) ?_
  refine lv_istore_n (lv' := [(1, .int (0 : Int32)), (0, .int p0)]) hx hb dX5_ones_1 rfl hl (by decide) rfl (fun ls hl => ?_)
  refine lv_iconst (v := 0) hx hb dX5_ones_2 (by decide) ?_
  refine lv_istore_n (lv' := [(2, .int (0 : Int32)), (1, .int (0 : Int32)), (0, .int p0)]) hx hb dX5_ones_3 rfl hl (by decide) rfl (fun ls hl => ?_)
  exact b4 N p0 (0 : Int32) (0 : Int32) hf H locs ls hw (lv_sub hl [2, 1, 0] rfl)
set_option maxHeartbeats 4000000 in
set_option maxRecDepth 100000 in
theorem kX5_adds (l : Launch) (D : va_G) (cI cJ cO : ClassId) (N : Nat) (aM : Nat → Nat) (p0 : Int32) (p1 : Int32) (Mnow : Nat → Int32) (Mread : Nat → Int32) (Mpast : Nat → Int32) (Mchanges : Int32) (Mtext : Nat → Int32) (Mletters : Int32) (Mheads : Nat → Int32) (Msets : Nat → Int32) (Mballots : Int32) (Mranks : Nat → Int32) (Mloads : Nat → Int64) (Mbelow : Int64) (Morder : Nat → Int32) (Melected : Int32) (Mmembers : Int32) (Mabove : Nat → Int64) (Munder : Nat → Int64) (Mspot : Int32) (Mvalue : Int32) (u : (Nat → Int32)) (hf : fX5_adds N p0 p1 Mnow = some u) : CtV l yX5_adds wsX5_adds (zk_rm 0 0) D cI cJ cO [.ref (aM 0), .int p0, .int p1] (zwM cI cJ aM Mnow Mread Mpast Mchanges Mtext Mletters Mheads Msets Mballots Mranks Mloads Mbelow Morder Melected Mmembers Mabove Munder Mspot Mvalue) (zwM cI cJ aM u Mread Mpast Mchanges Mtext Mletters Mheads Msets Mballots Mranks Mloads Mbelow Morder Melected Mmembers Mabove Munder Mspot Mvalue) := by
  refine zk_enter (cc := cX5_adds) (maxL := 3) (ret := none) (own := RX5) (Qf := fun A => QwV D (zwM cI cJ aM u Mread Mpast Mchanges Mtext Mletters Mheads Msets Mballots Mranks Mloads Mbelow Morder Melected Mmembers Mabove Munder Mspot Mvalue) A) (by decide) rfl rfl (Nat.le_of_ble_eq_true rfl) ?_
  intro p e s m args below meth c A Q H locs ls hC hQ hw hl
  obtain ⟨hx, hb, hml, hr, hts, hown, hlocks, hN, hK, hA⟩ := hC
  have hl : lv_has ls 3 [(0, .ref (aM 0)), (1, .int p0), (2, .int p1)] := hl
  have hiX5 : ∀ w ∈ u_ws RX5 TX5 19, w ∈ wsX5_adds := by decide +kernel
  have hq0 := hts (.fieldLink RX5 7 "LoadCouncilModel" "now" "[I") (by decide +kernel)
  unfold fX5_adds at hf
  refine lv_aload_n hx hb dX5_adds_0 rfl (lv_at hl 0 rfl) ?_
  refine va_get (D := D) (ci := 5) (v := .ref (aM 1)) (C := RX5) (T := TX5) (N := 19) hx hb hts hiX5 hown hK hw.1 0 rfl rfl 0 (by decide) hq0 (fun _ h9 => h9) rfl dX5_adds_1 ?_
  refine lv_iconst (v := 2) hx hb dX5_adds_4 (by decide) ?_
  refine lv_aload_n hx hb dX5_adds_5 rfl (lv_at hl 0 rfl) ?_
  refine va_get (D := D) (ci := 5) (v := .ref (aM 1)) (C := RX5) (T := TX5) (N := 19) hx hb hts hiX5 hown hK hw.1 0 rfl rfl 0 (by decide) hq0 (fun _ h9 => h9) rfl dX5_adds_6 ?_
  refine lv_iconst (v := 1) hx hb dX5_adds_9 (by decide) ?_
  refine zk_iald hx hb hK hw 1 rfl (by decide) (j := 1) rfl dX5_adds_10 ?_
  refine lv_iadd hx hb dX5_adds_11 ?_
  refine lv_iload_n hx hb dX5_adds_12 rfl (lv_at hl 1 rfl) ?_
  obtain ⟨h1, hf⟩ := zk_ck hf
  refine zk_iast hx hb hK hw 1 rfl h1 (j := ((2 : Int32) + (Mnow 1)).toNatClampNeg) rfl dX5_adds_13 (fun H locs hw => ?_)
  have hw : Wd D A s.heap (zwM cI cJ aM (upd Mnow (((2 : Int32) + (Mnow 1)).toNatClampNeg) p0) Mread Mpast Mchanges Mtext Mletters Mheads Msets Mballots Mranks Mloads Mbelow Morder Melected Mmembers Mabove Munder Mspot Mvalue) H locs := hw
  refine lv_aload_n hx hb dX5_adds_14 rfl (lv_at hl 0 rfl) ?_
  refine va_get (D := D) (ci := 5) (v := .ref (aM 1)) (C := RX5) (T := TX5) (N := 19) hx hb hts hiX5 hown hK hw.1 0 rfl rfl 0 (by decide) hq0 (fun _ h9 => h9) rfl dX5_adds_15 ?_
  refine lv_bipush (v := 12) hx hb dX5_adds_18 (by decide) ?_
  refine lv_aload_n hx hb dX5_adds_20 rfl (lv_at hl 0 rfl) ?_
  refine va_get (D := D) (ci := 5) (v := .ref (aM 1)) (C := RX5) (T := TX5) (N := 19) hx hb hts hiX5 hown hK hw.1 0 rfl rfl 0 (by decide) hq0 (fun _ h9 => h9) rfl dX5_adds_21 ?_
  refine lv_iconst (v := 1) hx hb dX5_adds_24 (by decide) ?_
  refine zk_iald hx hb hK hw 1 rfl (by decide) (j := 1) rfl dX5_adds_25 ?_
  refine lv_iadd hx hb dX5_adds_26 ?_
  refine lv_iload_n hx hb dX5_adds_27 rfl (lv_at hl 2 rfl) ?_
  obtain ⟨h2, hf⟩ := zk_ck hf
  refine zk_iast hx hb hK hw 1 rfl h2 (j := ((12 : Int32) + ((upd Mnow (((2 : Int32) + (Mnow 1)).toNatClampNeg) p0) 1)).toNatClampNeg) rfl dX5_adds_28 (fun H locs hw => ?_)
  have hw : Wd D A s.heap (zwM cI cJ aM (upd (upd Mnow (((2 : Int32) + (Mnow 1)).toNatClampNeg) p0) (((12 : Int32) + ((upd Mnow (((2 : Int32) + (Mnow 1)).toNatClampNeg) p0) 1)).toNatClampNeg) p1) Mread Mpast Mchanges Mtext Mletters Mheads Msets Mballots Mranks Mloads Mbelow Morder Melected Mmembers Mabove Munder Mspot Mvalue) H locs := hw
  refine lv_aload_n hx hb dX5_adds_29 rfl (lv_at hl 0 rfl) ?_
  refine va_get (D := D) (ci := 5) (v := .ref (aM 1)) (C := RX5) (T := TX5) (N := 19) hx hb hts hiX5 hown hK hw.1 0 rfl rfl 0 (by decide) hq0 (fun _ h9 => h9) rfl dX5_adds_30 ?_
  refine lv_iconst (v := 1) hx hb dX5_adds_33 (by decide) ?_
  refine lv_dup2_11 hx hb dX5_adds_34 rfl rfl ?_
  refine zk_iald hx hb hK hw 1 rfl (by decide) (j := 1) rfl dX5_adds_35 ?_
  refine lv_iconst (v := 1) hx hb dX5_adds_36 (by decide) ?_
  refine lv_iadd hx hb dX5_adds_37 ?_
  refine zk_iast hx hb hK hw 1 rfl (by decide) (j := 1) rfl dX5_adds_38 (fun H locs hw => ?_)
  have hw : Wd D A s.heap (zwM cI cJ aM (upd (upd (upd Mnow (((2 : Int32) + (Mnow 1)).toNatClampNeg) p0) (((12 : Int32) + ((upd Mnow (((2 : Int32) + (Mnow 1)).toNatClampNeg) p0) 1)).toNatClampNeg) p1) 1 (((upd (upd Mnow (((2 : Int32) + (Mnow 1)).toNatClampNeg) p0) (((12 : Int32) + ((upd Mnow (((2 : Int32) + (Mnow 1)).toNatClampNeg) p0) 1)).toNatClampNeg) p1) 1) + (1 : Int32))) Mread Mpast Mchanges Mtext Mletters Mheads Msets Mballots Mranks Mloads Mbelow Morder Melected Mmembers Mabove Munder Mspot Mvalue) H locs := hw
  cases hf
  exact zk_vret hx hb hr hlocks hQ hw [0, 1, 2, 3, 4, 5, 6, 7, 8, 9, 10, 11] rfl (by decide) dX5_adds_39
set_option maxHeartbeats 4000000 in
set_option maxRecDepth 100000 in
theorem kX5_isCandidate (l : Launch) (D : va_G) (cI cJ cO : ClassId) (N : Nat) (aM : Nat → Nat) (p0 : Int32) (Mnow : Nat → Int32) (Mread : Nat → Int32) (Mpast : Nat → Int32) (Mchanges : Int32) (Mtext : Nat → Int32) (Mletters : Int32) (Mheads : Nat → Int32) (Msets : Nat → Int32) (Mballots : Int32) (Mranks : Nat → Int32) (Mloads : Nat → Int64) (Mbelow : Int64) (Morder : Nat → Int32) (Melected : Int32) (Mmembers : Int32) (Mabove : Nat → Int64) (Munder : Nat → Int64) (Mspot : Int32) (Mvalue : Int32) (u : Int32) (hf : fX5_isCandidate N p0 Mnow = some u) : CtI l yX5_isCandidate wsX5_isCandidate (zk_rm 1 22) D cI cJ cO [.ref (aM 0), .int p0] (zwM cI cJ aM Mnow Mread Mpast Mchanges Mtext Mletters Mheads Msets Mballots Mranks Mloads Mbelow Morder Melected Mmembers Mabove Munder Mspot Mvalue) (zwM cI cJ aM Mnow Mread Mpast Mchanges Mtext Mletters Mheads Msets Mballots Mranks Mloads Mbelow Morder Melected Mmembers Mabove Munder Mspot Mvalue) (u) := by
  refine zk_enter (cc := cX5_isCandidate) (maxL := 2) (ret := some .boolean) (own := RX5) (Qf := fun A => QwI D (zwM cI cJ aM Mnow Mread Mpast Mchanges Mtext Mletters Mheads Msets Mballots Mranks Mloads Mbelow Morder Melected Mmembers Mabove Munder Mspot Mvalue) (u) A) (by decide) rfl rfl (Nat.le_of_ble_eq_true rfl) ?_
  intro p e s m args below meth c A Q H locs ls hC hQ hw hl
  obtain ⟨hx, hb, hml, hr, hts, hown, hlocks, hN, hK, hA⟩ := hC
  have hl : lv_has ls 2 [(0, .ref (aM 0)), (1, .int p0)] := hl
  have hiX5 : ∀ w ∈ u_ws RX5 TX5 19, w ∈ wsX5_isCandidate := by decide +kernel
  have hq0 := hts (.fieldLink RX5 7 "LoadCouncilModel" "now" "[I") (by decide +kernel)
  unfold fX5_isCandidate at hf
  refine lv_iload_n hx hb dX5_isCandidate_0 rfl (lv_at hl 1 rfl) ?_
  refine lv_iconst (v := 0) hx hb dX5_isCandidate_1 (by decide) ?_
  refine lv_aload_n hx hb dX5_isCandidate_2 rfl (lv_at hl 0 rfl) ?_
  refine va_get (D := D) (ci := 5) (v := .ref (aM 1)) (C := RX5) (T := TX5) (N := 19) hx hb hts hiX5 hown hK hw.1 0 rfl rfl 0 (by decide) hq0 (fun _ h9 => h9) rfl dX5_isCandidate_3 ?_
  refine lv_iconst (v := 0) hx hb dX5_isCandidate_6 (by decide) ?_
  refine zk_iald hx hb hK hw 1 rfl (by decide) (j := 0) rfl dX5_isCandidate_7 ?_
  refine lv_iconst (v := 1) hx hb dX5_isCandidate_8 (by decide) ?_
  refine lv_isub hx hb dX5_isCandidate_9 ?_
  obtain ⟨u1, e2, hf⟩ := zk_bd hf
  refine zk_calli (wc := []) (wr := zwM cI cJ aM Mnow Mread Mpast Mchanges Mtext Mletters Mheads Msets Mballots Mranks Mloads Mbelow Morder Melected Mmembers Mabove Munder Mspot Mvalue) hw hA [] [0, 1, 2, 3, 4, 5, 6, 7, 8, 9, 10, 11] rfl rfl (by decide) (by decide) (va_runS (As := [.int p0, .int (0 : Int32), .int ((Mnow 0) - (1 : Int32))]) (rest := []) ⟨hx, hb, hml, hown, hts⟩ (kX5_in l D cI cJ cO N p0 (0 : Int32) ((Mnow 0) - (1 : Int32)) u1 e2 H.size) (va_cwS 3 hts gX5_isCandidate_X5_in rfl rfl rfl (by decide +kernel) ⟨Nat.le_of_ble_eq_true rfl, Nat.le_of_ble_eq_true rfl⟩) (zk_preS (wc := []) hN hK hw [] rfl (by decide)) rfl rfl hl.1 rfl (lv_room (Nat.le_of_ble_eq_true rfl)) dX5_isCandidate_10 ⟨Nat.zero_le _, Nat.zero_le _⟩) (fun H locs hw => ?_)
  have hw : Wd D A s.heap (zwM cI cJ aM Mnow Mread Mpast Mchanges Mtext Mletters Mheads Msets Mballots Mranks Mloads Mbelow Morder Melected Mmembers Mabove Munder Mspot Mvalue) H locs := hw
  obtain ⟨h3, hf⟩ := zk_ck hf
  cases hf
  exact zk_iret hx hb hr hlocks (zk_nb h3) hQ hw [0, 1, 2, 3, 4, 5, 6, 7, 8, 9, 10, 11] rfl (by decide) dX5_isCandidate_13
set_option maxHeartbeats 4000000 in
set_option maxRecDepth 100000 in
theorem kX5_allVoters (l : Launch) (D : va_G) (cI cJ cO : ClassId) (N : Nat) (aM : Nat → Nat) (Mnow : Nat → Int32) (Mread : Nat → Int32) (Mpast : Nat → Int32) (Mchanges : Int32) (Mtext : Nat → Int32) (Mletters : Int32) (Mheads : Nat → Int32) (Msets : Nat → Int32) (Mballots : Int32) (Mranks : Nat → Int32) (Mloads : Nat → Int64) (Mbelow : Int64) (Morder : Nat → Int32) (Melected : Int32) (Mmembers : Int32) (Mabove : Nat → Int64) (Munder : Nat → Int64) (Mspot : Int32) (Mvalue : Int32) (u : Int32) (hf : fX5_allVoters N Mnow = some u) : CtI l yX5_allVoters wsX5_allVoters (zk_rm 0 0) D cI cJ cO [.ref (aM 0)] (zwM cI cJ aM Mnow Mread Mpast Mchanges Mtext Mletters Mheads Msets Mballots Mranks Mloads Mbelow Morder Melected Mmembers Mabove Munder Mspot Mvalue) (zwM cI cJ aM Mnow Mread Mpast Mchanges Mtext Mletters Mheads Msets Mballots Mranks Mloads Mbelow Morder Melected Mmembers Mabove Munder Mspot Mvalue) (u) := by
  refine zk_enter (cc := cX5_allVoters) (maxL := 3) (ret := some .int) (own := RX5) (Qf := fun A => QwI D (zwM cI cJ aM Mnow Mread Mpast Mchanges Mtext Mletters Mheads Msets Mballots Mranks Mloads Mbelow Morder Melected Mmembers Mabove Munder Mspot Mvalue) (u) A) (by decide) rfl rfl (Nat.le_of_ble_eq_true rfl) ?_
  intro p e s m args below meth c A Q H locs ls hC hQ hw hl
  obtain ⟨hx, hb, hml, hr, hts, hown, hlocks, hN, hK, hA⟩ := hC
  have hl : lv_has ls 3 [(0, .ref (aM 0))] := hl
  have hiX5 : ∀ w ∈ u_ws RX5 TX5 19, w ∈ wsX5_allVoters := by decide +kernel
  have hq0 := hts (.fieldLink RX5 7 "LoadCouncilModel" "now" "[I") (by decide +kernel)
  have b4 : ∀ (n4 : Nat), ∀ (x1 : Int32) (x2 : Int32) (Mnow : Nat → Int32), fX5_allVoters_b4 N n4 x1 x2 Mnow = some u → ∀ (H : Heap) (locs : List Loc) (ls : Array Slot), Wd D A s.heap (zwM cI cJ aM Mnow Mread Mpast Mchanges Mtext Mletters Mheads Msets Mballots Mranks Mloads Mbelow Morder Melected Mmembers Mabove Munder Mspot Mvalue) H locs → lv_has ls 3 [(0, .ref (aM 0)), (1, .int x1), (2, .int x2)] → W p l e (zk_rm 0 0) s m args below meth c H locs 0 0 Q (F0 m 4 ls []) := by
    intro n4
    induction n4 with
    | zero =>
      intro x1 x2 Mnow hf
      exact zk_none hf
    | succ n4 ih4 =>
      intro x1 x2 Mnow hf H locs ls hw hl
      rw [fX5_allVoters_b4] at hf
      refine lv_iload_n hx hb dX5_allVoters_4 rfl (lv_at hl 2 rfl) ?_
      refine lv_aload_n hx hb dX5_allVoters_5 rfl (lv_at hl 0 rfl) ?_
      refine va_get (D := D) (ci := 5) (v := .ref (aM 1)) (C := RX5) (T := TX5) (N := 19) hx hb hts hiX5 hown hK hw.1 0 rfl rfl 0 (by decide) hq0 (fun _ h9 => h9) rfl dX5_allVoters_6 ?_
      refine lv_iconst (v := 1) hx hb dX5_allVoters_9 (by decide) ?_
      refine zk_iald hx hb hK hw 1 rfl (by decide) (j := 1) rfl dX5_allVoters_10 ?_
      refine lv_icmp_ge (tgt := 31) hx hb dX5_allVoters_11 (by decide) (fun c1 => ?_) (fun c1 => ?_)
      · replace hf := zk_t c1 hf
        refine lv_iload_n hx hb dX5_allVoters_31 rfl (lv_at hl 1 rfl) ?_
        cases hf
        exact zk_iret hx hb hr hlocks rfl hQ hw [0, 1, 2, 3, 4, 5, 6, 7, 8, 9, 10, 11] rfl (by decide) dX5_allVoters_32
      · replace hf := zk_f c1 hf
        refine lv_iload_n hx hb dX5_allVoters_14 rfl (lv_at hl 1 rfl) ?_
        refine lv_aload_n hx hb dX5_allVoters_15 rfl (lv_at hl 0 rfl) ?_
        refine va_get (D := D) (ci := 5) (v := .ref (aM 1)) (C := RX5) (T := TX5) (N := 19) hx hb hts hiX5 hown hK hw.1 0 rfl rfl 0 (by decide) hq0 (fun _ h9 => h9) rfl dX5_allVoters_16 ?_
        refine lv_iconst (v := 2) hx hb dX5_allVoters_19 (by decide) ?_
        refine lv_iload_n hx hb dX5_allVoters_20 rfl (lv_at hl 2 rfl) ?_
        refine lv_iadd hx hb dX5_allVoters_21 ?_
        obtain ⟨h2, hf⟩ := zk_ck hf
        refine zk_iald hx hb hK hw 1 rfl h2 (j := ((2 : Int32) + x2).toNatClampNeg) rfl dX5_allVoters_22 ?_
        refine lv_iadd hx hb dX5_allVoters_23 ?_
        refine lv_istore_n (lv' := [(1, .int (x1 + (Mnow (((2 : Int32) + x2).toNatClampNeg)))), (0, .ref (aM 0)), (2, .int x2)]) hx hb dX5_allVoters_24 rfl hl (by decide) rfl (fun ls hl => ?_)
        refine lv_iinc (v := (x2 + (1 : Int32))) (lv' := [(2, .int (x2 + (1 : Int32))), (1, .int (x1 + (Mnow (((2 : Int32) + x2).toNatClampNeg)))), (0, .ref (aM 0))]) hx hb dX5_allVoters_25 hl (k := 2) rfl rfl (by decide) rfl (fun ls hl => ?_)
        refine lv_goto (tgt := 4) hx hb dX5_allVoters_28 (by decide) ?_
        exact ih4 (x1 + (Mnow (((2 : Int32) + x2).toNatClampNeg))) (x2 + (1 : Int32)) Mnow hf H locs ls hw (lv_sub hl [2, 1, 0] rfl)
  unfold fX5_allVoters at hf
  refine lv_iconst (v := 0) hx hb dX5_allVoters_0 (by decide) ?_
  refine lv_istore_n (lv' := [(1, .int (0 : Int32)), (0, .ref (aM 0))]) hx hb dX5_allVoters_1 rfl hl (by decide) rfl (fun ls hl => ?_)
  refine lv_iconst (v := 0) hx hb dX5_allVoters_2 (by decide) ?_
  refine lv_istore_n (lv' := [(2, .int (0 : Int32)), (1, .int (0 : Int32)), (0, .ref (aM 0))]) hx hb dX5_allVoters_3 rfl hl (by decide) rfl (fun ls hl => ?_)
  exact b4 N (0 : Int32) (0 : Int32) Mnow hf H locs ls hw (lv_sub hl [2, 1, 0] rfl)
set_option maxHeartbeats 4000000 in
set_option maxRecDepth 100000 in
theorem kX5_write (l : Launch) (D : va_G) (cI cJ cO : ClassId) (N : Nat) (aM : Nat → Nat) (p0 : Int32) (Mnow : Nat → Int32) (Mread : Nat → Int32) (Mpast : Nat → Int32) (Mchanges : Int32) (Mtext : Nat → Int32) (Mletters : Int32) (Mheads : Nat → Int32) (Msets : Nat → Int32) (Mballots : Int32) (Mranks : Nat → Int32) (Mloads : Nat → Int64) (Mbelow : Int64) (Morder : Nat → Int32) (Melected : Int32) (Mmembers : Int32) (Mabove : Nat → Int64) (Munder : Nat → Int64) (Mspot : Int32) (Mvalue : Int32) (u : Int32 × (Nat → Int32) × (Int32)) (hf : fX5_write N p0 Mtext Mletters = some u) : CtI l yX5_write wsX5_write (zk_rm 1 22) D cI cJ cO [.ref (aM 0), .int p0] (zwM cI cJ aM Mnow Mread Mpast Mchanges Mtext Mletters Mheads Msets Mballots Mranks Mloads Mbelow Morder Melected Mmembers Mabove Munder Mspot Mvalue) (zwM cI cJ aM Mnow Mread Mpast Mchanges u.2.1 u.2.2 Mheads Msets Mballots Mranks Mloads Mbelow Morder Melected Mmembers Mabove Munder Mspot Mvalue) (u.1) := by
  refine zk_enter (cc := cX5_write) (maxL := 2) (ret := some .int) (own := RX5) (Qf := fun A => QwI D (zwM cI cJ aM Mnow Mread Mpast Mchanges u.2.1 u.2.2 Mheads Msets Mballots Mranks Mloads Mbelow Morder Melected Mmembers Mabove Munder Mspot Mvalue) (u.1) A) (by decide) rfl rfl (Nat.le_of_ble_eq_true rfl) ?_
  intro p e s m args below meth c A Q H locs ls hC hQ hw hl
  obtain ⟨hx, hb, hml, hr, hts, hown, hlocks, hN, hK, hA⟩ := hC
  have hl : lv_has ls 2 [(0, .ref (aM 0)), (1, .int p0)] := hl
  have hiX5 : ∀ w ∈ u_ws RX5 TX5 19, w ∈ wsX5_write := by decide +kernel
  have hq0 := hts (.fieldLink RX5 52 "LoadCouncilModel" "letters" "I") (by decide +kernel)
  have hq1 := hts (.fieldLink RX5 19 "LoadCouncilModel" "text" "[I") (by decide +kernel)
  unfold fX5_write at hf
  refine lv_iload_n hx hb dX5_write_0 rfl (lv_at hl 1 rfl) ?_
  refine lv_bipush (v := 32) hx hb dX5_write_1 (by decide) ?_
  refine lv_bipush (v := 126) hx hb dX5_write_3 (by decide) ?_
  obtain ⟨u1, e2, hf⟩ := zk_bd hf
  refine zk_calli (wc := []) (wr := zwM cI cJ aM Mnow Mread Mpast Mchanges Mtext Mletters Mheads Msets Mballots Mranks Mloads Mbelow Morder Melected Mmembers Mabove Munder Mspot Mvalue) hw hA [] [0, 1, 2, 3, 4, 5, 6, 7, 8, 9, 10, 11] rfl rfl (by decide) (by decide) (va_runS (As := [.int p0, .int (32 : Int32), .int (126 : Int32)]) (rest := []) ⟨hx, hb, hml, hown, hts⟩ (kX5_in l D cI cJ cO N p0 (32 : Int32) (126 : Int32) u1 e2 H.size) (va_cwS 3 hts gX5_write_X5_in rfl rfl rfl (by decide +kernel) ⟨Nat.le_of_ble_eq_true rfl, Nat.le_of_ble_eq_true rfl⟩) (zk_preS (wc := []) hN hK hw [] rfl (by decide)) rfl rfl hl.1 rfl (lv_room (Nat.le_of_ble_eq_true rfl)) dX5_write_5 ⟨Nat.zero_le _, Nat.zero_le _⟩) (fun H locs hw => ?_)
  have hw : Wd D A s.heap (zwM cI cJ aM Mnow Mread Mpast Mchanges Mtext Mletters Mheads Msets Mballots Mranks Mloads Mbelow Morder Melected Mmembers Mabove Munder Mspot Mvalue) H locs := hw
  refine lv_if_ne (tgt := 13) hx hb dX5_write_8 (by decide) (fun c3 => ?_) (fun c3 => ?_)
  · replace hf := zk_f c3 hf
    refine lv_aload_n hx hb dX5_write_13 rfl (lv_at hl 0 rfl) ?_
    refine va_get (D := D) (ci := 5) (v := .int Mletters) (C := RX5) (T := TX5) (N := 19) hx hb hts hiX5 hown hK hw.1 0 rfl rfl 5 (by decide) hq0 (fun _ h9 => h9) rfl dX5_write_14 ?_
    refine lv_sipush (v := 200) hx hb dX5_write_17 (by decide) ?_
    refine lv_icmp_ne (tgt := 26) hx hb dX5_write_20 (by decide) (fun c4 => ?_) (fun c4 => ?_)
    · replace hf := zk_f c4 hf
      refine lv_aload_n hx hb dX5_write_26 rfl (lv_at hl 0 rfl) ?_
      refine va_get (D := D) (ci := 5) (v := .ref (aM 4)) (C := RX5) (T := TX5) (N := 19) hx hb hts hiX5 hown hK hw.1 0 rfl rfl 4 (by decide) hq1 (fun _ h9 => h9) rfl dX5_write_27 ?_
      refine lv_aload_n hx hb dX5_write_30 rfl (lv_at hl 0 rfl) ?_
      refine va_get (D := D) (ci := 5) (v := .int Mletters) (C := RX5) (T := TX5) (N := 19) hx hb hts hiX5 hown hK hw.1 0 rfl rfl 5 (by decide) hq0 (fun _ h9 => h9) rfl dX5_write_31 ?_
      refine lv_iload_n hx hb dX5_write_34 rfl (lv_at hl 1 rfl) ?_
      obtain ⟨h5, hf⟩ := zk_ck hf
      refine zk_iast hx hb hK hw 4 rfl h5 (j := Mletters.toNatClampNeg) rfl dX5_write_35 (fun H locs hw => ?_)
      have hw : Wd D A s.heap (zwM cI cJ aM Mnow Mread Mpast Mchanges (upd Mtext Mletters.toNatClampNeg p0) Mletters Mheads Msets Mballots Mranks Mloads Mbelow Morder Melected Mmembers Mabove Munder Mspot Mvalue) H locs := hw
      refine lv_aload_n hx hb dX5_write_36 rfl (lv_at hl 0 rfl) ?_
      refine lv_dup hx hb dX5_write_37 rfl ?_
      refine va_get (D := D) (ci := 5) (v := .int Mletters) (C := RX5) (T := TX5) (N := 19) hx hb hts hiX5 hown hK hw.1 0 rfl rfl 5 (by decide) hq0 (fun _ h9 => h9) rfl dX5_write_38 ?_
      refine lv_iconst (v := 1) hx hb dX5_write_41 (by decide) ?_
      refine lv_iadd hx hb dX5_write_42 ?_
      refine va_put (D := D) (ci := 5) (v := .int (Mletters + (1 : Int32))) (C := RX5) (T := TX5) (N := 19) hx hb hts hiX5 tyX5 tyX5_ok nmX5 hown hK hw.1 hw.2.1 hw.2.2 0 rfl rfl 5 (by decide) hq0 (fun _ h9 => h9) rfl (tyX5_ok 5 (by decide)) rfl rfl (Nat.le_of_ble_eq_true rfl) dX5_write_43 (fun H locs hP hD hS => ?_)
      have hw : Wd D A s.heap (zwM cI cJ aM Mnow Mread Mpast Mchanges (upd Mtext Mletters.toNatClampNeg p0) (Mletters + (1 : Int32)) Mheads Msets Mballots Mranks Mloads Mbelow Morder Melected Mmembers Mabove Munder Mspot Mvalue) H locs := ⟨hP, hD, hS⟩
      clear hP hD hS
      refine lv_aload_n hx hb dX5_write_46 rfl (lv_at hl 0 rfl) ?_
      refine va_get (D := D) (ci := 5) (v := .int (Mletters + (1 : Int32))) (C := RX5) (T := TX5) (N := 19) hx hb hts hiX5 hown hK hw.1 0 rfl rfl 5 (by decide) hq0 (fun _ h9 => h9) rfl dX5_write_47 ?_
      cases hf
      exact zk_iret hx hb hr hlocks rfl hQ hw [0, 1, 2, 3, 4, 5, 6, 7, 8, 9, 10, 11] rfl (by decide) dX5_write_50
    · replace hf := zk_t c4 hf
      refine lv_bipush (v := (-3)) hx hb dX5_write_23 (by decide) ?_
      cases hf
      exact zk_iret hx hb hr hlocks rfl hQ hw [0, 1, 2, 3, 4, 5, 6, 7, 8, 9, 10, 11] rfl (by decide) dX5_write_25
  · replace hf := zk_t c3 hf
    refine lv_iconst (v := (-1)) hx hb dX5_write_11 (by decide) ?_
    cases hf
    exact zk_iret hx hb hr hlocks rfl hQ hw [0, 1, 2, 3, 4, 5, 6, 7, 8, 9, 10, 11] rfl (by decide) dX5_write_12
set_option maxHeartbeats 4000000 in
set_option maxRecDepth 100000 in
theorem kX5_supportOf (l : Launch) (D : va_G) (cI cJ cO : ClassId) (N : Nat) (aM : Nat → Nat) (p0 : Int32) (Mnow : Nat → Int32) (Mread : Nat → Int32) (Mpast : Nat → Int32) (Mchanges : Int32) (Mtext : Nat → Int32) (Mletters : Int32) (Mheads : Nat → Int32) (Msets : Nat → Int32) (Mballots : Int32) (Mranks : Nat → Int32) (Mloads : Nat → Int64) (Mbelow : Int64) (Morder : Nat → Int32) (Melected : Int32) (Mmembers : Int32) (Mabove : Nat → Int64) (Munder : Nat → Int64) (Mspot : Int32) (Mvalue : Int32) (u : Int32) (hf : fX5_supportOf N p0 Mheads Msets Mballots = some u) : CtI l yX5_supportOf wsX5_supportOf (zk_rm 1 21) D cI cJ cO [.ref (aM 0), .int p0] (zwM cI cJ aM Mnow Mread Mpast Mchanges Mtext Mletters Mheads Msets Mballots Mranks Mloads Mbelow Morder Melected Mmembers Mabove Munder Mspot Mvalue) (zwM cI cJ aM Mnow Mread Mpast Mchanges Mtext Mletters Mheads Msets Mballots Mranks Mloads Mbelow Morder Melected Mmembers Mabove Munder Mspot Mvalue) (u) := by
  refine zk_enter (cc := cX5_supportOf) (maxL := 4) (ret := some .int) (own := RX5) (Qf := fun A => QwI D (zwM cI cJ aM Mnow Mread Mpast Mchanges Mtext Mletters Mheads Msets Mballots Mranks Mloads Mbelow Morder Melected Mmembers Mabove Munder Mspot Mvalue) (u) A) (by decide) rfl rfl (Nat.le_of_ble_eq_true rfl) ?_
  intro p e s m args below meth c A Q H locs ls hC hQ hw hl
  obtain ⟨hx, hb, hml, hr, hts, hown, hlocks, hN, hK, hA⟩ := hC
  have hl : lv_has ls 4 [(0, .ref (aM 0)), (1, .int p0)] := hl
  have hiX5 : ∀ w ∈ u_ws RX5 TX5 19, w ∈ wsX5_supportOf := by decide +kernel
  have hq0 := hts (.fieldLink RX5 134 "LoadCouncilModel" "ballots" "I") (by decide +kernel)
  have hq1 := hts (.fieldLink RX5 25 "LoadCouncilModel" "sets" "[I") (by decide +kernel)
  have hq2 := hts (.fieldLink RX5 22 "LoadCouncilModel" "heads" "[I") (by decide +kernel)
  have b4 : ∀ (n4 : Nat), ∀ (x1 : Int32) (x2 : Int32) (x3 : Int32) (Mheads : Nat → Int32) (Msets : Nat → Int32) (Mballots : Int32), fX5_supportOf_b4 N n4 x1 x2 x3 Mheads Msets Mballots = some u → ∀ (H : Heap) (locs : List Loc) (ls : Array Slot), Wd D A s.heap (zwM cI cJ aM Mnow Mread Mpast Mchanges Mtext Mletters Mheads Msets Mballots Mranks Mloads Mbelow Morder Melected Mmembers Mabove Munder Mspot Mvalue) H locs → lv_has ls 4 [(0, .ref (aM 0)), (1, .int x1), (2, .int x2), (3, .int x3)] → W p l e (zk_rm 1 21) s m args below meth c H locs 0 0 Q (F0 m 4 ls []) := by
    intro n4
    induction n4 with
    | zero =>
      intro x1 x2 x3 Mheads Msets Mballots hf
      exact zk_none hf
    | succ n4 ih4 =>
      have b36 : ∀ (x1 : Int32) (x3 : Int32) (t0 : Int32) (t1 : Int32) (Mheads : Nat → Int32) (Msets : Nat → Int32) (Mballots : Int32), fX5_supportOf_b36 N (fun z0 z1 z2 z3 z4 z5 => fX5_supportOf_b4 N n4 z0 z1 z2 z3 z4 z5) x1 x3 t0 t1 Mheads Msets Mballots = some u → ∀ (H : Heap) (locs : List Loc) (ls : Array Slot), Wd D A s.heap (zwM cI cJ aM Mnow Mread Mpast Mchanges Mtext Mletters Mheads Msets Mballots Mranks Mloads Mbelow Morder Melected Mmembers Mabove Munder Mspot Mvalue) H locs → lv_has ls 4 [(0, .ref (aM 0)), (1, .int x1), (3, .int x3)] → W p l e (zk_rm 1 21) s m args below meth c H locs 0 0 Q (F0 m 36 ls [.int t1, .int t0]) := by
        intro x1 x3 t0 t1 Mheads Msets Mballots hf H locs ls hw hl
        unfold fX5_supportOf_b36 at hf
        refine lv_iadd hx hb dX5_supportOf_36 ?_
        refine lv_istore_n (lv' := [(2, .int (t0 + t1)), (0, .ref (aM 0)), (1, .int x1), (3, .int x3)]) hx hb dX5_supportOf_37 rfl hl (by decide) rfl (fun ls hl => ?_)
        refine lv_iinc (v := (x3 + (1 : Int32))) (lv' := [(3, .int (x3 + (1 : Int32))), (2, .int (t0 + t1)), (0, .ref (aM 0)), (1, .int x1)]) hx hb dX5_supportOf_38 hl (k := 3) rfl rfl (by decide) rfl (fun ls hl => ?_)
        refine lv_goto (tgt := 4) hx hb dX5_supportOf_41 (by decide) ?_
        exact ih4 x1 (t0 + t1) (x3 + (1 : Int32)) Mheads Msets Mballots hf H locs ls hw (lv_sub hl [2, 3, 1, 0] rfl)
      intro x1 x2 x3 Mheads Msets Mballots hf H locs ls hw hl
      rw [fX5_supportOf_b4] at hf
      refine lv_iload_n hx hb dX5_supportOf_4 rfl (lv_at hl 3 rfl) ?_
      refine lv_aload_n hx hb dX5_supportOf_5 rfl (lv_at hl 0 rfl) ?_
      refine va_get (D := D) (ci := 5) (v := .int Mballots) (C := RX5) (T := TX5) (N := 19) hx hb hts hiX5 hown hK hw.1 0 rfl rfl 8 (by decide) hq0 (fun _ h9 => h9) rfl dX5_supportOf_6 ?_
      refine lv_icmp_ge (tgt := 44) hx hb dX5_supportOf_9 (by decide) (fun c1 => ?_) (fun c1 => ?_)
      · replace hf := zk_t c1 hf
        refine lv_iload_n hx hb dX5_supportOf_44 rfl (lv_at hl 2 rfl) ?_
        cases hf
        exact zk_iret hx hb hr hlocks rfl hQ hw [0, 1, 2, 3, 4, 5, 6, 7, 8, 9, 10, 11] rfl (by decide) dX5_supportOf_45
      · replace hf := zk_f c1 hf
        refine lv_iload_n hx hb dX5_supportOf_12 rfl (lv_at hl 2 rfl) ?_
        refine lv_aload_n hx hb dX5_supportOf_13 rfl (lv_at hl 0 rfl) ?_
        refine va_get (D := D) (ci := 5) (v := .ref (aM 6)) (C := RX5) (T := TX5) (N := 19) hx hb hts hiX5 hown hK hw.1 0 rfl rfl 7 (by decide) hq1 (fun _ h9 => h9) rfl dX5_supportOf_14 ?_
        refine lv_iload_n hx hb dX5_supportOf_17 rfl (lv_at hl 3 rfl) ?_
        obtain ⟨h2, hf⟩ := zk_ck hf
        refine zk_iald hx hb hK hw 6 rfl h2 (j := x3.toNatClampNeg) rfl dX5_supportOf_18 ?_
        refine lv_iload_n hx hb dX5_supportOf_19 rfl (lv_at hl 1 rfl) ?_
        obtain ⟨u3, e4, hf⟩ := zk_bd hf
        refine zk_calli (wc := []) (wr := zwM cI cJ aM Mnow Mread Mpast Mchanges Mtext Mletters Mheads Msets Mballots Mranks Mloads Mbelow Morder Melected Mmembers Mabove Munder Mspot Mvalue) hw hA [] [0, 1, 2, 3, 4, 5, 6, 7, 8, 9, 10, 11] rfl rfl (by decide) (by decide) (va_runS (As := [.int (Msets x3.toNatClampNeg), .int x1]) (rest := [.int x2]) ⟨hx, hb, hml, hown, hts⟩ (kX5_has l D cI cJ cO N (Msets x3.toNatClampNeg) x1 u3 e4 H.size) (va_cwS 2 hts gX5_supportOf_X5_has rfl rfl rfl (by decide +kernel) ⟨Nat.le_of_ble_eq_true rfl, Nat.le_of_ble_eq_true rfl⟩) (zk_preS (wc := []) hN hK hw [] rfl (by decide)) rfl rfl hl.1 rfl (lv_room (Nat.le_of_ble_eq_true rfl)) dX5_supportOf_20 ⟨Nat.zero_le _, Nat.zero_le _⟩) (fun H locs hw => ?_)
        have hw : Wd D A s.heap (zwM cI cJ aM Mnow Mread Mpast Mchanges Mtext Mletters Mheads Msets Mballots Mranks Mloads Mbelow Morder Melected Mmembers Mabove Munder Mspot Mvalue) H locs := hw
        refine lv_if_eq (tgt := 35) hx hb dX5_supportOf_23 (by decide) (fun c5 => ?_) (fun c5 => ?_)
        · replace hf := zk_t c5 hf
          refine lv_iconst (v := 0) hx hb dX5_supportOf_35 (by decide) ?_
          exact b36 x1 x3 x2 (0 : Int32) Mheads Msets Mballots hf H locs ls hw (lv_sub hl [0, 1, 3] rfl)
        · replace hf := zk_f c5 hf
          refine lv_aload_n hx hb dX5_supportOf_26 rfl (lv_at hl 0 rfl) ?_
          refine va_get (D := D) (ci := 5) (v := .ref (aM 5)) (C := RX5) (T := TX5) (N := 19) hx hb hts hiX5 hown hK hw.1 0 rfl rfl 6 (by decide) hq2 (fun _ h9 => h9) rfl dX5_supportOf_27 ?_
          refine lv_iload_n hx hb dX5_supportOf_30 rfl (lv_at hl 3 rfl) ?_
          refine zk_iald hx hb hK hw 5 rfl h2 (j := x3.toNatClampNeg) rfl dX5_supportOf_31 ?_
          refine lv_goto (tgt := 36) hx hb dX5_supportOf_32 (by decide) ?_
          exact b36 x1 x3 x2 (Mheads x3.toNatClampNeg) Mheads Msets Mballots hf H locs ls hw (lv_sub hl [0, 1, 3] rfl)
  unfold fX5_supportOf at hf
  refine lv_iconst (v := 0) hx hb dX5_supportOf_0 (by decide) ?_
  refine lv_istore_n (lv' := [(2, .int (0 : Int32)), (0, .ref (aM 0)), (1, .int p0)]) hx hb dX5_supportOf_1 rfl hl (by decide) rfl (fun ls hl => ?_)
  refine lv_iconst (v := 0) hx hb dX5_supportOf_2 (by decide) ?_
  refine lv_istore_n (lv' := [(3, .int (0 : Int32)), (2, .int (0 : Int32)), (0, .ref (aM 0)), (1, .int p0)]) hx hb dX5_supportOf_3 rfl hl (by decide) rfl (fun ls hl => ?_)
  exact b4 N p0 (0 : Int32) (0 : Int32) Mheads Msets Mballots hf H locs ls hw (lv_sub hl [2, 3, 1, 0] rfl)
