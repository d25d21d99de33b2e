set_option maxHeartbeats 4000000 in
set_option maxRecDepth 100000 in
theorem kX4_load (l : Launch) (D : va_G) (cI cJ cO : ClassId) (N : Nat) (aL aE aN : Nat → Nat) (aT aR aP : Nat → Nat) (p0 : Int32) (p1 : Int32) (Eorder : Nat → Int32) (Eabove : Nat → Int64) (Ebelow : Nat → Int64) (Eelected : Int32) (Eset : Int32) (Esupport : Nat → Int32) (Eworth : Nat → Int64) (Eloads : Nat → Int64) (Eunit : Int64) (Ncandidates : Int32) (Nballots : Int32) (Nseats : Int32) (Nwithdrawn : Int32) (Nvoters : Nat → Int32) (Nsets : Nat → Int32) (Nrank : Nat → Int32) (u : Int64 × (Nat → Int32) × (Nat → Int64) × (Nat → Int64) × (Int32) × (Int32) × (Nat → Int32) × (Nat → Int64) × (Nat → Int64) × (Int64)) (hf : fX4_load N p0 p1 Eorder Eabove Ebelow Eelected Eset Esupport Eworth Eloads Eunit Ncandidates Nballots Nseats Nwithdrawn Nvoters Nsets Nrank = some u) : CtL l yX4_load wsX4_load (zk_rm 5 117) D cI cJ cO [.ref (aL 0), .int p0, .int p1] (zwL aL (aT 0) (aN 0) (aR 0) (aP 0) (aE 0) ++ (zwE cI cJ aE Eorder Eabove Ebelow Eelected Eset Esupport Eworth Eloads Eunit ++ (zwC cI aN Ncandidates Nballots Nseats Nwithdrawn Nvoters Nsets Nrank))) (zwL aL (aT 0) (aN 0) (aR 0) (aP 0) (aE 0) ++ (zwE cI cJ aE u.2.1 u.2.2.1 u.2.2.2.1 u.2.2.2.2.1 u.2.2.2.2.2.1 u.2.2.2.2.2.2.1 u.2.2.2.2.2.2.2.1 u.2.2.2.2.2.2.2.2.1 u.2.2.2.2.2.2.2.2.2 ++ (zwC cI aN Ncandidates Nballots Nseats Nwithdrawn Nvoters Nsets Nrank))) (u.1) := by
  refine zk_enter (cc := cX4_load) (maxL := 3) (ret := some .long) (own := RX4) (Qf := fun A => QwL D (zwL aL (aT 0) (aN 0) (aR 0) (aP 0) (aE 0) ++ (zwE cI cJ aE u.2.1 u.2.2.1 u.2.2.2.1 u.2.2.2.2.1 u.2.2.2.2.2.1 u.2.2.2.2.2.2.1 u.2.2.2.2.2.2.2.1 u.2.2.2.2.2.2.2.2.1 u.2.2.2.2.2.2.2.2.2 ++ (zwC cI aN Ncandidates Nballots Nseats Nwithdrawn Nvoters Nsets Nrank))) (u.1) A) (by decide) rfl rfl (Nat.le_of_ble_eq_true rfl) ?_
  intro p e s m args below meth c A Q H locs ls hC hQ hw hl
  obtain ⟨hx, hb, hml, hr, hts, hown, hlocks, hN, hK, hA⟩ := hC
  have hl : lv_has ls 3 [(0, .ref (aL 0)), (1, .int p0), (2, .int p1)] := hl
  have hiX4 : ∀ w ∈ u_ws RX4 TX4 5, w ∈ wsX4_load := by decide +kernel
  have hiX1 : ∀ w ∈ u_ws RX1 TX1 9, w ∈ wsX4_load := by decide +kernel
  have hq0 := hts (.constantLong RX4 158 (-1)) (by decide +kernel)
  have hq1 := hts (.fieldLink RX4 36 "LoadCouncil" "election" "LLoadCouncil$Election;") (by decide +kernel)
  have hq2 := hts (.fieldLink RX4 19 "LoadCouncil" "now" "LLoadCouncil$Council;") (by decide +kernel)
  have hq3 := hts (.initialized RX1) (by decide +kernel)
  have hq4 := hts (.instanceMethod yX1_hold) (by decide +kernel)
  have hq5 := hts (.selects RX1 yX1_hold yX1_hold) (by decide +kernel)
  unfold fX4_load at hf
  refine lv_aload_n hx hb dX4_load_0 rfl (lv_at hl 0 rfl) ?_
  refine lv_iload_n hx hb dX4_load_1 rfl (lv_at hl 1 rfl) ?_
  obtain ⟨u1, e2, hf⟩ := zk_bd hf
  refine zk_calli (wc := zwL aL (aT 0) (aN 0) (aR 0) (aP 0) (aE 0) ++ (zwC cI aN Ncandidates Nballots Nseats Nwithdrawn Nvoters Nsets Nrank)) (wr := zwE cI cJ aE Eorder Eabove Ebelow Eelected Eset Esupport Eworth Eloads Eunit) hw hA [0, 8, 9, 10, 11] [1, 2, 3, 4, 5, 6, 7] rfl rfl (by decide) (by decide) (va_runV (C := RX4) (As := [.int p0]) (rest := []) ⟨hx, hb, hml, hown, hts⟩ (kX4_isBallot l D cI cJ cO N aL aN aT aR aP aE p0 Ncandidates Nballots Nseats Nwithdrawn Nvoters Nsets Nrank u1 e2 H.size) (cwV 1 hts gX4_load_X4_isBallot rfl rfl rfl (by decide +kernel) ⟨Nat.le_of_ble_eq_true rfl, Nat.le_of_ble_eq_true rfl⟩) (zk_preV (wc := zwL aL (aT 0) (aN 0) (aR 0) (aP 0) (aE 0) ++ (zwC cI aN Ncandidates Nballots Nseats Nwithdrawn Nvoters Nsets Nrank)) hN hK hw [0, 8, 9, 10, 11] rfl (by decide) 0 4 rfl rfl) rfl rfl hl.1 rfl (lv_room (Nat.le_of_ble_eq_true rfl)) dX4_load_2 ⟨Nat.zero_le _, Nat.zero_le _⟩) (fun H locs hw => ?_)
  have hw : Wd D A s.heap (zwE cI cJ aE Eorder Eabove Ebelow Eelected Eset Esupport Eworth Eloads Eunit ++ (zwL aL (aT 0) (aN 0) (aR 0) (aP 0) (aE 0) ++ (zwC cI aN Ncandidates Nballots Nseats Nwithdrawn Nvoters Nsets Nrank))) H locs := hw
  refine lv_if_eq (tgt := 15) hx hb dX4_load_5 (by decide) (fun c3 => ?_) (fun c3 => ?_)
  · replace hf := zk_t c3 hf
    refine lv_ldc2 hx hb hown hq0 dX4_load_15 ?_
    cases hf
    exact zk_lret hx hb hr hlocks hQ hw [7, 0, 1, 2, 3, 4, 5, 6, 8, 9, 10, 11] rfl (by decide) dX4_load_18
  · replace hf := zk_f c3 hf
    refine lv_iload_n hx hb dX4_load_8 rfl (lv_at hl 2 rfl) ?_
    obtain ⟨u4, e5, hf⟩ := zk_bd hf
    refine zk_calli (wc := []) (wr := zwE cI cJ aE Eorder Eabove Ebelow Eelected Eset Esupport Eworth Eloads Eunit ++ (zwL aL (aT 0) (aN 0) (aR 0) (aP 0) (aE 0) ++ (zwC cI aN Ncandidates Nballots Nseats Nwithdrawn Nvoters Nsets Nrank))) hw hA [] [0, 1, 2, 3, 4, 5, 6, 7, 8, 9, 10, 11] rfl rfl (by decide) (by decide) (va_runS (As := [.int p1]) (rest := []) ⟨hx, hb, hml, hown, hts⟩ (kX4_isPart l D cI cJ cO N p1 u4 e5 H.size) (va_cwS 1 hts gX4_load_X4_isPart rfl rfl rfl (by decide +kernel) ⟨Nat.le_of_ble_eq_true rfl, Nat.le_of_ble_eq_true rfl⟩) (zk_preS (wc := []) hN hK hw [] rfl (by decide)) rfl rfl hl.1 rfl (lv_room (Nat.le_of_ble_eq_true rfl)) dX4_load_9 ⟨Nat.zero_le _, Nat.zero_le _⟩) (fun H locs hw => ?_)
    have hw : Wd D A s.heap (zwE cI cJ aE Eorder Eabove Ebelow Eelected Eset Esupport Eworth Eloads Eunit ++ (zwL aL (aT 0) (aN 0) (aR 0) (aP 0) (aE 0) ++ (zwC cI aN Ncandidates Nballots Nseats Nwithdrawn Nvoters Nsets Nrank))) H locs := hw
    refine lv_if_ne (tgt := 19) hx hb dX4_load_12 (by decide) (fun c6 => ?_) (fun c6 => ?_)
    · replace hf := zk_f c6 hf
      refine lv_aload_n hx hb dX4_load_19 rfl (lv_at hl 0 rfl) ?_
      refine va_get (D := D) (ci := 4) (v := .ref (aE 0)) (C := RX4) (T := TX4) (N := 5) hx hb hts hiX4 hown hK hw.1 7 rfl rfl 4 (by decide) hq1 (fun _ h9 => h9) rfl dX4_load_20 ?_
      refine lv_aload_n hx hb dX4_load_23 rfl (lv_at hl 0 rfl) ?_
      refine va_get (D := D) (ci := 4) (v := .ref (aN 0)) (C := RX4) (T := TX4) (N := 5) hx hb hts hiX4 hown hK hw.1 7 rfl rfl 1 (by decide) hq2 (fun _ h9 => h9) rfl dX4_load_24 ?_
      refine lv_iconst (v := 0) hx hb dX4_load_27 (by decide) ?_
      obtain ⟨u7, e8, hf⟩ := zk_bd hf
      refine zk_calli (wc := zwE cI cJ aE Eorder Eabove Ebelow Eelected Eset Esupport Eworth Eloads Eunit ++ (zwC cI aN Ncandidates Nballots Nseats Nwithdrawn Nvoters Nsets Nrank)) (wr := zwL aL (aT 0) (aN 0) (aR 0) (aP 0) (aE 0)) hw hA [0, 1, 2, 3, 4, 5, 6, 8, 9, 10, 11] [7] rfl rfl (by decide) (by decide) (va_runVN (C := RX1) (As := [.ref (aN 0), .int (0 : Int32)]) (rest := []) ⟨hx, hb, hml, hown, hts⟩ (kX1_hold l D cI cJ cO N aE aN (0 : Int32) Eorder Eabove Ebelow Eelected Eset Esupport Eworth Eloads Eunit Ncandidates Nballots Nseats Nwithdrawn Nvoters Nsets Nrank u7 e8 H.size) ⟨va_cnB 2 hts ggX4_load_X1_hold rfl rfl rfl (nwM_X4_142 hN) hq3 (by decide +kernel) ⟨Nat.le_of_ble_eq_true rfl, Nat.le_of_ble_eq_true rfl⟩, hq4, hq5⟩ (zk_preV (wc := zwE cI cJ aE Eorder Eabove Ebelow Eelected Eset Esupport Eworth Eloads Eunit ++ (zwC cI aN Ncandidates Nballots Nseats Nwithdrawn Nvoters Nsets Nrank)) hN hK hw [0, 1, 2, 3, 4, 5, 6, 8, 9, 10, 11] rfl (by decide) 0 1 rfl rfl) rfl rfl hl.1 rfl (lv_room (Nat.le_of_ble_eq_true rfl)) dX4_load_28 ⟨Nat.zero_le _, Nat.zero_le _⟩) (fun H locs hw => ?_)
      have hw : Wd D A s.heap (zwL aL (aT 0) (aN 0) (aR 0) (aP 0) (aE 0) ++ (zwE cI cJ aE u7.2.1 u7.2.2.1 u7.2.2.2.1 u7.2.2.2.2.1 u7.2.2.2.2.2.1 u7.2.2.2.2.2.2.1 u7.2.2.2.2.2.2.2.1 u7.2.2.2.2.2.2.2.2.1 u7.2.2.2.2.2.2.2.2.2 ++ (zwC cI aN Ncandidates Nballots Nseats Nwithdrawn Nvoters Nsets Nrank))) H locs := hw
      refine lv_pop hx hb dX4_load_31 rfl ?_
      refine lv_aload_n hx hb dX4_load_32 rfl (lv_at hl 0 rfl) ?_
      refine va_get (D := D) (ci := 4) (v := .ref (aE 0)) (C := RX4) (T := TX4) (N := 5) hx hb hts hiX4 hown hK hw.1 0 rfl rfl 4 (by decide) hq1 (fun _ h9 => h9) rfl dX4_load_33 ?_
      refine va_getN (D := D) (ci := 1) (v := .ref (aE 6)) (C := RX1) (T := TX1) (N := 9) hx hb hts hiX1 hown hK hw.1 1 rfl rfl 7 (by decide) (va_Nw.use rfl (nwF_X4_173 hN)) (fun _ h9 => h9) rfl dX4_load_36 ?_
      refine lv_iload_n hx hb dX4_load_39 rfl (lv_at hl 1 rfl) ?_
      obtain ⟨h9, hf⟩ := zk_ck hf
      refine zk_lald hx hb hK hw 7 rfl h9 (j := p0.toNatClampNeg) rfl dX4_load_40 ?_
      refine lv_aload_n hx hb dX4_load_41 rfl (lv_at hl 0 rfl) ?_
      refine va_get (D := D) (ci := 4) (v := .ref (aE 0)) (C := RX4) (T := TX4) (N := 5) hx hb hts hiX4 hown hK hw.1 0 rfl rfl 4 (by decide) hq1 (fun _ h9 => h9) rfl dX4_load_42 ?_
      refine va_getN (D := D) (ci := 1) (v := .long u7.2.2.2.2.2.2.2.2.2) (C := RX1) (T := TX1) (N := 9) hx hb hts hiX1 hown hK hw.1 1 rfl rfl 8 (by decide) (va_Nw.use rfl (nwF_X4_176 hN)) (fun _ h9 => h9) rfl dX4_load_45 ?_
      refine lv_iload_n hx hb dX4_load_48 rfl (lv_at hl 2 rfl) ?_
      obtain ⟨u10, e11, hf⟩ := zk_bd hf
      refine zk_calll (wc := []) (wr := zwL aL (aT 0) (aN 0) (aR 0) (aP 0) (aE 0) ++ (zwE cI cJ aE u7.2.1 u7.2.2.1 u7.2.2.2.1 u7.2.2.2.2.1 u7.2.2.2.2.2.1 u7.2.2.2.2.2.2.1 u7.2.2.2.2.2.2.2.1 u7.2.2.2.2.2.2.2.2.1 u7.2.2.2.2.2.2.2.2.2 ++ (zwC cI aN Ncandidates Nballots Nseats Nwithdrawn Nvoters Nsets Nrank))) hw hA [] [0, 1, 2, 3, 4, 5, 6, 7, 8, 9, 10, 11] rfl rfl (by decide) (by decide) (va_runS (As := [.long (u7.2.2.2.2.2.2.2.2.1 p0.toNatClampNeg), .long u7.2.2.2.2.2.2.2.2.2, .int p1]) (rest := []) ⟨hx, hb, hml, hown, hts⟩ (kX4_partOf l D cI cJ cO N (u7.2.2.2.2.2.2.2.2.1 p0.toNatClampNeg) u7.2.2.2.2.2.2.2.2.2 p1 u10 e11 H.size) (va_cwS 3 hts gX4_load_X4_partOf rfl rfl rfl (by decide +kernel) ⟨Nat.le_of_ble_eq_true rfl, Nat.le_of_ble_eq_true rfl⟩) (zk_preS (wc := []) hN hK hw [] rfl (by decide)) rfl rfl hl.1 rfl (lv_room (Nat.le_of_ble_eq_true rfl)) dX4_load_49 ⟨Nat.zero_le _, Nat.zero_le _⟩) (fun H locs hw => ?_)
      have hw : Wd D A s.heap (zwL aL (aT 0) (aN 0) (aR 0) (aP 0) (aE 0) ++ (zwE cI cJ aE u7.2.1 u7.2.2.1 u7.2.2.2.1 u7.2.2.2.2.1 u7.2.2.2.2.2.1 u7.2.2.2.2.2.2.1 u7.2.2.2.2.2.2.2.1 u7.2.2.2.2.2.2.2.2.1 u7.2.2.2.2.2.2.2.2.2 ++ (zwC cI aN Ncandidates Nballots Nseats Nwithdrawn Nvoters Nsets Nrank))) H locs := hw
      cases hf
      exact zk_lret hx hb hr hlocks hQ hw [0, 1, 2, 3, 4, 5, 6, 7, 8, 9, 10, 11] rfl (by decide) dX4_load_52
    · replace hf := zk_t c6 hf
      refine lv_ldc2 hx hb hown hq0 dX4_load_15 ?_
      cases hf
      exact zk_lret hx hb hr hlocks hQ hw [7, 0, 1, 2, 3, 4, 5, 6, 8, 9, 10, 11] rfl (by decide) dX4_load_18
set_option maxHeartbeats 4000000 in
set_option maxRecDepth 100000 in
theorem kX4_greatest (l : Launch) (D : va_G) (cI cJ cO : ClassId) (N : Nat) (aL aE aN : Nat → Nat) (aT aR aP : Nat → Nat) (p0 : Int32) (Eorder : Nat → Int32) (Eabove : Nat → Int64) (Ebelow : Nat → Int64) (Eelected : Int32) (Eset : Int32) (Esupport : Nat → Int32) (Eworth : Nat → Int64) (Eloads : Nat → Int64) (Eunit : Int64) (Ncandidates : Int32) (Nballots : Int32) (Nseats : Int32) (Nwithdrawn : Int32) (Nvoters : Nat → Int32) (Nsets : Nat → Int32) (Nrank : Nat → Int32) (u : Int64 × (Nat → Int32) × (Nat → Int64) × (Nat → Int64) × (Int32) × (Int32) × (Nat → Int32) × (Nat → Int64) × (Nat → Int64) × (Int64)) (hf : fX4_greatest N p0 Eorder Eabove Ebelow Eelected Eset Esupport Eworth Eloads Eunit Ncandidates Nballots Nseats Nwithdrawn Nvoters Nsets Nrank = some u) : CtL l yX4_greatest wsX4_greatest (zk_rm 5 117) D cI cJ cO [.ref (aL 0), .int p0] (zwL aL (aT 0) (aN 0) (aR 0) (aP 0) (aE 0) ++ (zwE cI cJ aE Eorder Eabove Ebelow Eelected Eset Esupport Eworth Eloads Eunit ++ (zwC cI aN Ncandidates Nballots Nseats Nwithdrawn Nvoters Nsets Nrank))) (zwL aL (aT 0) (aN 0) (aR 0) (aP 0) (aE 0) ++ (zwE cI cJ aE u.2.1 u.2.2.1 u.2.2.2.1 u.2.2.2.2.1 u.2.2.2.2.2.1 u.2.2.2.2.2.2.1 u.2.2.2.2.2.2.2.1 u.2.2.2.2.2.2.2.2.1 u.2.2.2.2.2.2.2.2.2 ++ (zwC cI aN Ncandidates Nballots Nseats Nwithdrawn Nvoters Nsets Nrank))) (u.1) := by
  refine zk_enter (cc := cX4_greatest) (maxL := 5) (ret := some .long) (own := RX4) (Qf := fun A => QwL D (zwL aL (aT 0) (aN 0) (aR 0) (aP 0) (aE 0) ++ (zwE cI cJ aE u.2.1 u.2.2.1 u.2.2.2.1 u.2.2.2.2.1 u.2.2.2.2.2.1 u.2.2.2.2.2.2.1 u.2.2.2.2.2.2.2.1 u.2.2.2.2.2.2.2.2.1 u.2.2.2.2.2.2.2.2.2 ++ (zwC cI aN Ncandidates Nballots Nseats Nwithdrawn Nvoters Nsets Nrank))) (u.1) A) (by decide) rfl rfl (Nat.le_of_ble_eq_true rfl) ?_
  intro p e s m args below meth c A Q H locs ls hC hQ hw hl
  obtain ⟨hx, hb, hml, hr, hts, hown, hlocks, hN, hK, hA⟩ := hC
  have hl : lv_has ls 5 [(0, .ref (aL 0)), (1, .int p0)] := hl
  have hiX4 : ∀ w ∈ u_ws RX4 TX4 5, w ∈ wsX4_greatest := by decide +kernel
  have hiX1 : ∀ w ∈ u_ws RX1 TX1 9, w ∈ wsX4_greatest := by decide +kernel
  have hiX0 : ∀ w ∈ u_ws RX0 TX0 7, w ∈ wsX4_greatest := by decide +kernel
  have hq0 := hts (.fieldLink RX4 36 "LoadCouncil" "election" "LLoadCouncil$Election;") (by decide +kernel)
  have hq1 := hts (.fieldLink RX4 19 "LoadCouncil" "now" "LLoadCouncil$Council;") (by decide +kernel)
  have hq2 := hts (.methodLink RX4 180 Lib.MathLoose.max_long.x) (by decide +kernel)
  have hq3 := hts (.static Lib.MathLoose.max_long.x) (by decide +kernel)
  have hq4 := hts (.initialized "java/lang/Math") (by decide +kernel)
  have hq5 := hts (.code Lib.MathLoose.max_long.x Lib.MathLoose.max_long.code 4 (some .long)) (by decide +kernel)
  have hq6 := hts (.initialized RX1) (by decide +kernel)
  have hq7 := hts (.instanceMethod yX1_hold) (by decide +kernel)
  have hq8 := hts (.selects RX1 yX1_hold yX1_hold) (by decide +kernel)
  have hq9 := hts (.constantLong RX4 158 (-1)) (by decide +kernel)
  have b62 : ∀ (x1 : Int32) (x2 : Int64) (Eorder : Nat → Int32) (Eabove : Nat → Int64) (Ebelow : Nat → Int64) (Eelected : Int32) (Eset : Int32) (Esupport : Nat → Int32) (Eworth : Nat → Int64) (Eloads : Nat → Int64) (Eunit : Int64), fX4_greatest_b62 N x1 x2 Eorder Eabove Ebelow Eelected Eset Esupport Eworth Eloads Eunit = some u → ∀ (H : Heap) (locs : List Loc) (ls : Array Slot), Wd D A s.heap (zwL aL (aT 0) (aN 0) (aR 0) (aP 0) (aE 0) ++ (zwE cI cJ aE Eorder Eabove Ebelow Eelected Eset Esupport Eworth Eloads Eunit ++ (zwC cI aN Ncandidates Nballots Nseats Nwithdrawn Nvoters Nsets Nrank))) H locs → lv_has ls 5 [(0, .ref (aL 0)), (1, .int x1), (2, .long x2)] → W p l e (zk_rm 5 117) s m args below meth c H locs 0 0 Q (F0 m 62 ls []) := by
    intro x1 x2 Eorder Eabove Ebelow Eelected Eset Esupport Eworth Eloads Eunit hf H locs ls hw hl
    unfold fX4_greatest_b62 at hf
    refine lv_lload_n hx hb dX4_greatest_62 rfl (lv_at hl 2 rfl) ?_
    refine lv_aload_n hx hb dX4_greatest_63 rfl (lv_at hl 0 rfl) ?_
    refine va_get (D := D) (ci := 4) (v := .ref (aE 0)) (C := RX4) (T := TX4) (N := 5) hx hb hts hiX4 hown hK hw.1 0 rfl rfl 4 (by decide) hq0 (fun _ h9 => h9) rfl dX4_greatest_64 ?_
    refine va_getN (D := D) (ci := 1) (v := .long Eunit) (C := RX1) (T := TX1) (N := 9) hx hb hts hiX1 hown hK hw.1 1 rfl rfl 8 (by decide) (va_Nw.use rfl (nwF_X4_176 hN)) (fun _ h9 => h9) rfl dX4_greatest_67 ?_
    refine lv_iload_n hx hb dX4_greatest_70 rfl (lv_at hl 1 rfl) ?_
    obtain ⟨u1, e2, hf⟩ := zk_bd hf
    refine zk_calll (wc := []) (wr := zwL aL (aT 0) (aN 0) (aR 0) (aP 0) (aE 0) ++ (zwE cI cJ aE Eorder Eabove Ebelow Eelected Eset Esupport Eworth Eloads Eunit ++ (zwC cI aN Ncandidates Nballots Nseats Nwithdrawn Nvoters Nsets Nrank))) hw hA [] [0, 1, 2, 3, 4, 5, 6, 7, 8, 9, 10, 11] rfl rfl (by decide) (by decide) (va_runS (As := [.long x2, .long Eunit, .int x1]) (rest := []) ⟨hx, hb, hml, hown, hts⟩ (kX4_partOf l D cI cJ cO N x2 Eunit x1 u1 e2 H.size) (va_cwS 3 hts gX4_greatest_X4_partOf rfl rfl rfl (by decide +kernel) ⟨Nat.le_of_ble_eq_true rfl, Nat.le_of_ble_eq_true rfl⟩) (zk_preS (wc := []) hN hK hw [] rfl (by decide)) rfl rfl hl.1 rfl (lv_room (Nat.le_of_ble_eq_true rfl)) dX4_greatest_71 ⟨Nat.zero_le _, Nat.zero_le _⟩) (fun H locs hw => ?_)
    have hw : Wd D A s.heap (zwL aL (aT 0) (aN 0) (aR 0) (aP 0) (aE 0) ++ (zwE cI cJ aE Eorder Eabove Ebelow Eelected Eset Esupport Eworth Eloads Eunit ++ (zwC cI aN Ncandidates Nballots Nseats Nwithdrawn Nvoters Nsets Nrank))) H locs := hw
    cases hf
    exact zk_lret hx hb hr hlocks hQ hw [0, 1, 2, 3, 4, 5, 6, 7, 8, 9, 10, 11] rfl (by decide) dX4_greatest_74
  have b29 : ∀ (n29 : Nat), ∀ (x1 : Int32) (x2 : Int64) (x4 : Int32) (Eorder : Nat → Int32) (Eabove : Nat → Int64) (Ebelow : Nat → Int64) (Eelected : Int32) (Eset : Int32) (Esupport : Nat → Int32) (Eworth : Nat → Int64) (Eloads : Nat → Int64) (Eunit : Int64), fX4_greatest_b29 N n29 x1 x2 x4 Eorder Eabove Ebelow Eelected Eset Esupport Eworth Eloads Eunit Nballots = some u → ∀ (H : Heap) (locs : List Loc) (ls : Array Slot), Wd D A s.heap (zwL aL (aT 0) (aN 0) (aR 0) (aP 0) (aE 0) ++ (zwE cI cJ aE Eorder Eabove Ebelow Eelected Eset Esupport Eworth Eloads Eunit ++ (zwC cI aN Ncandidates Nballots Nseats Nwithdrawn Nvoters Nsets Nrank))) H locs → lv_has ls 5 [(0, .ref (aL 0)), (1, .int x1), (2, .long x2), (4, .int x4)] → W p l e (zk_rm 5 117) s m args below meth c H locs 0 0 Q (F0 m 29 ls []) := by
    intro n29
    induction n29 with
    | zero =>
      intro x1 x2 x4 Eorder Eabove Ebelow Eelected Eset Esupport Eworth Eloads Eunit hf
      exact zk_none hf
    | succ n29 ih29 =>
      intro x1 x2 x4 Eorder Eabove Ebelow Eelected Eset Esupport Eworth Eloads Eunit hf H locs ls hw hl
      rw [fX4_greatest_b29] at hf
      refine lv_iload hx hb dX4_greatest_29 (lv_at hl 3 rfl) ?_
      refine lv_aload_n hx hb dX4_greatest_31 rfl (lv_at hl 0 rfl) ?_
      refine va_get (D := D) (ci := 4) (v := .ref (aN 0)) (C := RX4) (T := TX4) (N := 5) hx hb hts hiX4 hown hK hw.1 0 rfl rfl 1 (by decide) hq1 (fun _ h9 => h9) rfl dX4_greatest_32 ?_
      refine va_getN (D := D) (ci := 0) (v := .int Nballots) (C := RX0) (T := TX0) (N := 7) hx hb hts hiX0 hown hK hw.1 8 rfl rfl 1 (by decide) (va_Nw.use rfl (nwF_X4_82 hN)) (fun _ h9 => h9) rfl dX4_greatest_35 ?_
      refine lv_icmp_ge (tgt := 62) hx hb dX4_greatest_38 (by decide) (fun c3 => ?_) (fun c3 => ?_)
      · replace hf := zk_t c3 hf
        exact b62 x1 x2 Eorder Eabove Ebelow Eelected Eset Esupport Eworth Eloads Eunit hf H locs ls hw (lv_sub hl [0, 1, 2] rfl)
      · replace hf := zk_f c3 hf
        refine lv_lload_n hx hb dX4_greatest_41 rfl (lv_at hl 2 rfl) ?_
        refine lv_aload_n hx hb dX4_greatest_42 rfl (lv_at hl 0 rfl) ?_
        refine va_get (D := D) (ci := 4) (v := .ref (aE 0)) (C := RX4) (T := TX4) (N := 5) hx hb hts hiX4 hown hK hw.1 0 rfl rfl 4 (by decide) hq0 (fun _ h9 => h9) rfl dX4_greatest_43 ?_
        refine va_getN (D := D) (ci := 1) (v := .ref (aE 6)) (C := RX1) (T := TX1) (N := 9) hx hb hts hiX1 hown hK hw.1 1 rfl rfl 7 (by decide) (va_Nw.use rfl (nwF_X4_173 hN)) (fun _ h9 => h9) rfl dX4_greatest_46 ?_
        refine lv_iload hx hb dX4_greatest_49 (lv_at hl 3 rfl) ?_
        obtain ⟨h4, hf⟩ := zk_ck hf
        refine zk_lald hx hb hK hw 7 rfl h4 (j := x4.toNatClampNeg) rfl dX4_greatest_51 ?_
        refine va_mmax_long hx hb (hml.trans hl.1.symm) hown hq2 hq3 hq4 hq5 (Nat.le_of_ble_eq_true rfl) (Nat.le_of_ble_eq_true rfl) (Nat.zero_le _) (Nat.zero_le _) dX4_greatest_52 ?_
        refine lv_lstore_n (lv' := [(2, .long (if (Eloads x4.toNatClampNeg) < x2 then x2 else (Eloads x4.toNatClampNeg))), (0, .ref (aL 0)), (1, .int x1), (4, .int x4)]) hx hb dX4_greatest_55 rfl hl (by decide) rfl (fun ls hl => ?_)
        refine lv_iinc (v := (x4 + (1 : Int32))) (lv' := [(4, .int (x4 + (1 : Int32))), (2, .long (if (Eloads x4.toNatClampNeg) < x2 then x2 else (Eloads x4.toNatClampNeg))), (0, .ref (aL 0)), (1, .int x1)]) hx hb dX4_greatest_56 hl (k := 3) rfl rfl (by decide) rfl (fun ls hl => ?_)
        refine lv_goto (tgt := 29) hx hb dX4_greatest_59 (by decide) ?_
        exact ih29 x1 (if (Eloads x4.toNatClampNeg) < x2 then x2 else (Eloads x4.toNatClampNeg)) (x4 + (1 : Int32)) Eorder Eabove Ebelow Eelected Eset Esupport Eworth Eloads Eunit hf H locs ls hw (lv_sub hl [2, 3, 1, 0] rfl)
  unfold fX4_greatest at hf
  refine lv_iload_n hx hb dX4_greatest_0 rfl (lv_at hl 1 rfl) ?_
  obtain ⟨u5, e6, hf⟩ := zk_bd hf
  refine zk_calli (wc := []) (wr := zwL aL (aT 0) (aN 0) (aR 0) (aP 0) (aE 0) ++ (zwE cI cJ aE Eorder Eabove Ebelow Eelected Eset Esupport Eworth Eloads Eunit ++ (zwC cI aN Ncandidates Nballots Nseats Nwithdrawn Nvoters Nsets Nrank))) hw hA [] [0, 1, 2, 3, 4, 5, 6, 7, 8, 9, 10, 11] rfl rfl (by decide) (by decide) (va_runS (As := [.int p0]) (rest := []) ⟨hx, hb, hml, hown, hts⟩ (kX4_isPart l D cI cJ cO N p0 u5 e6 H.size) (va_cwS 1 hts gX4_greatest_X4_isPart rfl rfl rfl (by decide +kernel) ⟨Nat.le_of_ble_eq_true rfl, Nat.le_of_ble_eq_true rfl⟩) (zk_preS (wc := []) hN hK hw [] rfl (by decide)) rfl rfl hl.1 rfl (lv_room (Nat.le_of_ble_eq_true rfl)) dX4_greatest_1 ⟨Nat.zero_le _, Nat.zero_le _⟩) (fun H locs hw => ?_)
  have hw : Wd D A s.heap (zwL aL (aT 0) (aN 0) (aR 0) (aP 0) (aE 0) ++ (zwE cI cJ aE Eorder Eabove Ebelow Eelected Eset Esupport Eworth Eloads Eunit ++ (zwC cI aN Ncandidates Nballots Nseats Nwithdrawn Nvoters Nsets Nrank))) H locs := hw
  refine lv_if_ne (tgt := 11) hx hb dX4_greatest_4 (by decide) (fun c7 => ?_) (fun c7 => ?_)
  · replace hf := zk_f c7 hf
    refine lv_aload_n hx hb dX4_greatest_11 rfl (lv_at hl 0 rfl) ?_
    refine va_get (D := D) (ci := 4) (v := .ref (aE 0)) (C := RX4) (T := TX4) (N := 5) hx hb hts hiX4 hown hK hw.1 0 rfl rfl 4 (by decide) hq0 (fun _ h9 => h9) rfl dX4_greatest_12 ?_
    refine lv_aload_n hx hb dX4_greatest_15 rfl (lv_at hl 0 rfl) ?_
    refine va_get (D := D) (ci := 4) (v := .ref (aN 0)) (C := RX4) (T := TX4) (N := 5) hx hb hts hiX4 hown hK hw.1 0 rfl rfl 1 (by decide) hq1 (fun _ h9 => h9) rfl dX4_greatest_16 ?_
    refine lv_iconst (v := 0) hx hb dX4_greatest_19 (by decide) ?_
    obtain ⟨u8, e9, hf⟩ := zk_bd hf
    refine zk_calli (wc := zwE cI cJ aE Eorder Eabove Ebelow Eelected Eset Esupport Eworth Eloads Eunit ++ (zwC cI aN Ncandidates Nballots Nseats Nwithdrawn Nvoters Nsets Nrank)) (wr := zwL aL (aT 0) (aN 0) (aR 0) (aP 0) (aE 0)) hw hA [1, 2, 3, 4, 5, 6, 7, 8, 9, 10, 11] [0] rfl rfl (by decide) (by decide) (va_runVN (C := RX1) (As := [.ref (aN 0), .int (0 : Int32)]) (rest := []) ⟨hx, hb, hml, hown, hts⟩ (kX1_hold l D cI cJ cO N aE aN (0 : Int32) Eorder Eabove Ebelow Eelected Eset Esupport Eworth Eloads Eunit Ncandidates Nballots Nseats Nwithdrawn Nvoters Nsets Nrank u8 e9 H.size) ⟨va_cnB 2 hts ggX4_greatest_X1_hold rfl rfl rfl (nwM_X4_142 hN) hq6 (by decide +kernel) ⟨Nat.le_of_ble_eq_true rfl, Nat.le_of_ble_eq_true rfl⟩, hq7, hq8⟩ (zk_preV (wc := zwE cI cJ aE Eorder Eabove Ebelow Eelected Eset Esupport Eworth Eloads Eunit ++ (zwC cI aN Ncandidates Nballots Nseats Nwithdrawn Nvoters Nsets Nrank)) hN hK hw [1, 2, 3, 4, 5, 6, 7, 8, 9, 10, 11] rfl (by decide) 1 1 rfl rfl) rfl rfl hl.1 rfl (lv_room (Nat.le_of_ble_eq_true rfl)) dX4_greatest_20 ⟨Nat.zero_le _, Nat.zero_le _⟩) (fun H locs hw => ?_)
    have hw : Wd D A s.heap (zwL aL (aT 0) (aN 0) (aR 0) (aP 0) (aE 0) ++ (zwE cI cJ aE u8.2.1 u8.2.2.1 u8.2.2.2.1 u8.2.2.2.2.1 u8.2.2.2.2.2.1 u8.2.2.2.2.2.2.1 u8.2.2.2.2.2.2.2.1 u8.2.2.2.2.2.2.2.2.1 u8.2.2.2.2.2.2.2.2.2 ++ (zwC cI aN Ncandidates Nballots Nseats Nwithdrawn Nvoters Nsets Nrank))) H locs := hw
    refine lv_pop hx hb dX4_greatest_23 rfl ?_
    refine lv_lconst (v := 0) hx hb dX4_greatest_24 (by decide) ?_
    refine lv_lstore_n (lv' := [(2, .long (0 : Int64)), (0, .ref (aL 0)), (1, .int p0)]) hx hb dX4_greatest_25 rfl hl (by decide) rfl (fun ls hl => ?_)
    refine lv_iconst (v := 0) hx hb dX4_greatest_26 (by decide) ?_
    refine lv_istore (lv' := [(4, .int (0 : Int32)), (2, .long (0 : Int64)), (0, .ref (aL 0)), (1, .int p0)]) hx hb dX4_greatest_27 hl (by decide) rfl (fun ls hl => ?_)
    exact b29 N p0 (0 : Int64) (0 : Int32) u8.2.1 u8.2.2.1 u8.2.2.2.1 u8.2.2.2.2.1 u8.2.2.2.2.2.1 u8.2.2.2.2.2.2.1 u8.2.2.2.2.2.2.2.1 u8.2.2.2.2.2.2.2.2.1 u8.2.2.2.2.2.2.2.2.2 hf H locs ls hw (lv_sub hl [2, 3, 1, 0] rfl)
  · replace hf := zk_t c7 hf
    refine lv_ldc2 hx hb hown hq9 dX4_greatest_7 ?_
    cases hf
    exact zk_lret hx hb hr hlocks hQ hw [0, 1, 2, 3, 4, 5, 6, 7, 8, 9, 10, 11] rfl (by decide) dX4_greatest_10
set_option maxHeartbeats 4000000 in
set_option maxRecDepth 100000 in
theorem kX4_agrees (l : Launch) (D : va_G) (cI cJ cO : ClassId) (N : Nat) (aL aE aN : Nat → Nat) (aT aR aP : Nat → Nat) (p0 : Int32) (p1 : Int32) (Eorder : Nat → Int32) (Eabove : Nat → Int64) (Ebelow : Nat → Int64) (Eelected : Int32) (Eset : Int32) (Esupport : Nat → Int32) (Eworth : Nat → Int64) (Eloads : Nat → Int64) (Eunit : Int64) (Ncandidates : Int32) (Nballots : Int32) (Nseats : Int32) (Nwithdrawn : Int32) (Nvoters : Nat → Int32) (Nsets : Nat → Int32) (Nrank : Nat → Int32) (u : Int32 × (Nat → Int32) × (Nat → Int64) × (Nat → Int64) × (Int32) × (Int32) × (Nat → Int32) × (Nat → Int64) × (Nat → Int64) × (Int64)) (hf : fX4_agrees N p0 p1 Eorder Eabove Ebelow Eelected Eset Esupport Eworth Eloads Eunit Ncandidates Nballots Nseats Nwithdrawn Nvoters Nsets Nrank = some u) : CtI l yX4_agrees wsX4_agrees (zk_rm 5 117) D cI cJ cO [.ref (aL 0), .int p0, .int p1] (zwL aL (aT 0) (aN 0) (aR 0) (aP 0) (aE 0) ++ (zwE cI cJ aE Eorder Eabove Ebelow Eelected Eset Esupport Eworth Eloads Eunit ++ (zwC cI aN Ncandidates Nballots Nseats Nwithdrawn Nvoters Nsets Nrank))) (zwL aL (aT 0) (aN 0) (aR 0) (aP 0) (aE 0) ++ (zwE cI cJ aE u.2.1 u.2.2.1 u.2.2.2.1 u.2.2.2.2.1 u.2.2.2.2.2.1 u.2.2.2.2.2.2.1 u.2.2.2.2.2.2.2.1 u.2.2.2.2.2.2.2.2.1 u.2.2.2.2.2.2.2.2.2 ++ (zwC cI aN Ncandidates Nballots Nseats Nwithdrawn Nvoters Nsets Nrank))) (u.1) := by
  refine zk_enter (cc := cX4_agrees) (maxL := 3) (ret := some .int) (own := RX4) (Qf := fun A => QwI D (zwL aL (aT 0) (aN 0) (aR 0) (aP 0) (aE 0) ++ (zwE cI cJ aE u.2.1 u.2.2.1 u.2.2.2.1 u.2.2.2.2.1 u.2.2.2.2.2.1 u.2.2.2.2.2.2.1 u.2.2.2.2.2.2.2.1 u.2.2.2.2.2.2.2.2.1 u.2.2.2.2.2.2.2.2.2 ++ (zwC cI aN Ncandidates Nballots Nseats Nwithdrawn Nvoters Nsets Nrank))) (u.1) A) (by decide) rfl rfl (Nat.le_of_ble_eq_true rfl) ?_
  intro p e s m args below meth c A Q H locs ls hC hQ hw hl
  obtain ⟨hx, hb, hml, hr, hts, hown, hlocks, hN, hK, hA⟩ := hC
  have hl : lv_has ls 3 [(0, .ref (aL 0)), (1, .int p0), (2, .int p1)] := hl
  have hiX4 : ∀ w ∈ u_ws RX4 TX4 5, w ∈ wsX4_agrees := by decide +kernel
  have hq0 := hts (.fieldLink RX4 36 "LoadCouncil" "election" "LLoadCouncil$Election;") (by decide +kernel)
  have hq1 := hts (.fieldLink RX4 19 "LoadCouncil" "now" "LLoadCouncil$Council;") (by decide +kernel)
  have hq2 := hts (.initialized RX1) (by decide +kernel)
  have hq3 := hts (.instanceMethod yX1_hold) (by decide +kernel)
  have hq4 := hts (.selects RX1 yX1_hold yX1_hold) (by decide +kernel)
  have hq5 := hts (.initialized RX0) (by decide +kernel)
  have hq6 := hts (.instanceMethod yX0_approvedByThoseWhoAgree) (by decide +kernel)
  have hq7 := hts (.selects RX0 yX0_approvedByThoseWhoAgree yX0_approvedByThoseWhoAgree) (by decide +kernel)
  have hq8 := hts (.instanceMethod yX0_isOwed) (by decide +kernel)
  have hq9 := hts (.selects RX0 yX0_isOwed yX0_isOwed) (by decide +kernel)
  have hq10 := hts (.instanceMethod yX0_votersWhoAgree) (by decide +kernel)
  have hq11 := hts (.selects RX0 yX0_votersWhoAgree yX0_votersWhoAgree) (by decide +kernel)
  unfold fX4_agrees at hf
  refine lv_aload_n hx hb dX4_agrees_0 rfl (lv_at hl 0 rfl) ?_
  refine lv_iload_n hx hb dX4_agrees_1 rfl (lv_at hl 1 rfl) ?_
  obtain ⟨u1, e2, hf⟩ := zk_bd hf
  refine zk_calli (wc := zwL aL (aT 0) (aN 0) (aR 0) (aP 0) (aE 0) ++ (zwC cI aN Ncandidates Nballots Nseats Nwithdrawn Nvoters Nsets Nrank)) (wr := zwE cI cJ aE Eorder Eabove Ebelow Eelected Eset Esupport Eworth Eloads Eunit) hw hA [0, 8, 9, 10, 11] [1, 2, 3, 4, 5, 6, 7] rfl rfl (by decide) (by decide) (va_runV (C := RX4) (As := [.int p0]) (rest := []) ⟨hx, hb, hml, hown, hts⟩ (kX4_isSet l D cI cJ cO N aL aN aT aR aP aE p0 Ncandidates Nballots Nseats Nwithdrawn Nvoters Nsets Nrank u1 e2 H.size) (cwV 1 hts gX4_agrees_X4_isSet rfl rfl rfl (by decide +kernel) ⟨Nat.le_of_ble_eq_true rfl, Nat.le_of_ble_eq_true rfl⟩) (zk_preV (wc := zwL aL (aT 0) (aN 0) (aR 0) (aP 0) (aE 0) ++ (zwC cI aN Ncandidates Nballots Nseats Nwithdrawn Nvoters Nsets Nrank)) hN hK hw [0, 8, 9, 10, 11] rfl (by decide) 0 4 rfl rfl) rfl rfl hl.1 rfl (lv_room (Nat.le_of_ble_eq_true rfl)) dX4_agrees_2 ⟨Nat.zero_le _, Nat.zero_le _⟩) (fun H locs hw => ?_)
  have hw : Wd D A s.heap (zwE cI cJ aE Eorder Eabove Ebelow Eelected Eset Esupport Eworth Eloads Eunit ++ (zwL aL (aT 0) (aN 0) (aR 0) (aP 0) (aE 0) ++ (zwC cI aN Ncandidates Nballots Nseats Nwithdrawn Nvoters Nsets Nrank))) H locs := hw
  refine lv_if_eq (tgt := 17) hx hb dX4_agrees_5 (by decide) (fun c3 => ?_) (fun c3 => ?_)
  · replace hf := zk_t c3 hf
    refine lv_iconst (v := (-1)) hx hb dX4_agrees_17 (by decide) ?_
    cases hf
    exact zk_iret hx hb hr hlocks rfl hQ hw [7, 0, 1, 2, 3, 4, 5, 6, 8, 9, 10, 11] rfl (by decide) dX4_agrees_18
  · replace hf := zk_f c3 hf
    refine lv_iload_n hx hb dX4_agrees_8 rfl (lv_at hl 2 rfl) ?_
    refine lv_if_lt (tgt := 17) hx hb dX4_agrees_9 (by decide) (fun c4 => ?_) (fun c4 => ?_)
    · replace hf := zk_t c4 hf
      refine lv_iconst (v := (-1)) hx hb dX4_agrees_17 (by decide) ?_
      cases hf
      exact zk_iret hx hb hr hlocks rfl hQ hw [7, 0, 1, 2, 3, 4, 5, 6, 8, 9, 10, 11] rfl (by decide) dX4_agrees_18
    · replace hf := zk_f c4 hf
      refine lv_iload_n hx hb dX4_agrees_12 rfl (lv_at hl 2 rfl) ?_
      refine lv_iconst (v := 5) hx hb dX4_agrees_13 (by decide) ?_
      refine lv_icmp_le (tgt := 19) hx hb dX4_agrees_14 (by decide) (fun c5 => ?_) (fun c5 => ?_)
      · replace hf := zk_t c5 hf
        refine lv_iload_n hx hb dX4_agrees_19 rfl (lv_at hl 2 rfl) ?_
        refine lv_if_ne (tgt := 32) hx hb dX4_agrees_20 (by decide) (fun c6 => ?_) (fun c6 => ?_)
        · replace hf := zk_f c6 hf
          refine lv_iload_n hx hb dX4_agrees_32 rfl (lv_at hl 2 rfl) ?_
          refine lv_iconst (v := 1) hx hb dX4_agrees_33 (by decide) ?_
          refine lv_icmp_ne (tgt := 54) hx hb dX4_agrees_34 (by decide) (fun c7 => ?_) (fun c7 => ?_)
          · replace hf := zk_f c7 hf
            refine lv_aload_n hx hb dX4_agrees_54 rfl (lv_at hl 0 rfl) ?_
            refine va_get (D := D) (ci := 4) (v := .ref (aE 0)) (C := RX4) (T := TX4) (N := 5) hx hb hts hiX4 hown hK hw.1 7 rfl rfl 4 (by decide) hq0 (fun _ h9 => h9) rfl dX4_agrees_55 ?_
            refine lv_aload_n hx hb dX4_agrees_58 rfl (lv_at hl 0 rfl) ?_
            refine va_get (D := D) (ci := 4) (v := .ref (aN 0)) (C := RX4) (T := TX4) (N := 5) hx hb hts hiX4 hown hK hw.1 7 rfl rfl 1 (by decide) hq1 (fun _ h9 => h9) rfl dX4_agrees_59 ?_
            refine lv_iload_n hx hb dX4_agrees_62 rfl (lv_at hl 2 rfl) ?_
            refine lv_iconst (v := 2) hx hb dX4_agrees_63 (by decide) ?_
            refine lv_isub hx hb dX4_agrees_64 ?_
            obtain ⟨u8, e9, hf⟩ := zk_bd hf
            refine zk_calli (wc := zwE cI cJ aE Eorder Eabove Ebelow Eelected Eset Esupport Eworth Eloads Eunit ++ (zwC cI aN Ncandidates Nballots Nseats Nwithdrawn Nvoters Nsets Nrank)) (wr := zwL aL (aT 0) (aN 0) (aR 0) (aP 0) (aE 0)) hw hA [0, 1, 2, 3, 4, 5, 6, 8, 9, 10, 11] [7] rfl rfl (by decide) (by decide) (va_runVN (C := RX1) (As := [.ref (aN 0), .int (p1 - (2 : Int32))]) (rest := []) ⟨hx, hb, hml, hown, hts⟩ (kX1_hold l D cI cJ cO N aE aN (p1 - (2 : Int32)) Eorder Eabove Ebelow Eelected Eset Esupport Eworth Eloads Eunit Ncandidates Nballots Nseats Nwithdrawn Nvoters Nsets Nrank u8 e9 H.size) ⟨va_cnB 2 hts ggX4_agrees_X1_hold rfl rfl rfl (nwM_X4_142 hN) hq2 (by decide +kernel) ⟨Nat.le_of_ble_eq_true rfl, Nat.le_of_ble_eq_true rfl⟩, hq3, hq4⟩ (zk_preV (wc := zwE cI cJ aE Eorder Eabove Ebelow Eelected Eset Esupport Eworth Eloads Eunit ++ (zwC cI aN Ncandidates Nballots Nseats Nwithdrawn Nvoters Nsets Nrank)) hN hK hw [0, 1, 2, 3, 4, 5, 6, 8, 9, 10, 11] rfl (by decide) 0 1 rfl rfl) rfl rfl hl.1 rfl (lv_room (Nat.le_of_ble_eq_true rfl)) dX4_agrees_65 ⟨Nat.zero_le _, Nat.zero_le _⟩) (fun H locs hw => ?_)
            have hw : Wd D A s.heap (zwL aL (aT 0) (aN 0) (aR 0) (aP 0) (aE 0) ++ (zwE cI cJ aE u8.2.1 u8.2.2.1 u8.2.2.2.1 u8.2.2.2.2.1 u8.2.2.2.2.2.1 u8.2.2.2.2.2.2.1 u8.2.2.2.2.2.2.2.1 u8.2.2.2.2.2.2.2.2.1 u8.2.2.2.2.2.2.2.2.2 ++ (zwC cI aN Ncandidates Nballots Nseats Nwithdrawn Nvoters Nsets Nrank))) H locs := hw
            refine lv_aload_n hx hb dX4_agrees_68 rfl (lv_at hl 0 rfl) ?_
            refine va_get (D := D) (ci := 4) (v := .ref (aN 0)) (C := RX4) (T := TX4) (N := 5) hx hb hts hiX4 hown hK hw.1 0 rfl rfl 1 (by decide) hq1 (fun _ h9 => h9) rfl dX4_agrees_69 ?_
            refine lv_iload_n hx hb dX4_agrees_72 rfl (lv_at hl 1 rfl) ?_
            obtain ⟨u10, e11, hf⟩ := zk_bd hf
            refine zk_calli (wc := zwC cI aN Ncandidates Nballots Nseats Nwithdrawn Nvoters Nsets Nrank) (wr := zwL aL (aT 0) (aN 0) (aR 0) (aP 0) (aE 0) ++ (zwE cI cJ aE u8.2.1 u8.2.2.1 u8.2.2.2.1 u8.2.2.2.2.1 u8.2.2.2.2.2.1 u8.2.2.2.2.2.2.1 u8.2.2.2.2.2.2.2.1 u8.2.2.2.2.2.2.2.2.1 u8.2.2.2.2.2.2.2.2.2)) hw hA [8, 9, 10, 11] [0, 1, 2, 3, 4, 5, 6, 7] rfl rfl (by decide) (by decide) (va_runVN (C := RX0) (As := [.int p0]) (rest := [.int u8.1]) ⟨hx, hb, hml, hown, hts⟩ (kX0_approvedByThoseWhoAgree l D cI cJ cO N aN p0 Ncandidates Nballots Nseats Nwithdrawn Nvoters Nsets Nrank u10 e11 H.size) ⟨va_cnB 1 hts ggX4_agrees_X0_approvedByThoseWhoAgree rfl rfl rfl (nwM_X4_192 hN) hq5 (by decide +kernel) ⟨Nat.le_of_ble_eq_true rfl, Nat.le_of_ble_eq_true rfl⟩, hq6, hq7⟩ (zk_preV (wc := zwC cI aN Ncandidates Nballots Nseats Nwithdrawn Nvoters Nsets Nrank) hN hK hw [8, 9, 10, 11] rfl (by decide) 8 0 rfl rfl) rfl rfl hl.1 rfl (lv_room (Nat.le_of_ble_eq_true rfl)) dX4_agrees_73 ⟨Nat.zero_le _, Nat.zero_le _⟩) (fun H locs hw => ?_)
            have hw : Wd D A s.heap (zwL aL (aT 0) (aN 0) (aR 0) (aP 0) (aE 0) ++ (zwE cI cJ aE u8.2.1 u8.2.2.1 u8.2.2.2.1 u8.2.2.2.2.1 u8.2.2.2.2.2.1 u8.2.2.2.2.2.2.1 u8.2.2.2.2.2.2.2.1 u8.2.2.2.2.2.2.2.2.1 u8.2.2.2.2.2.2.2.2.2 ++ (zwC cI aN Ncandidates Nballots Nseats Nwithdrawn Nvoters Nsets Nrank))) H locs := hw
            refine lv_iand hx hb dX4_agrees_76 ?_
            obtain ⟨u12, e13, hf⟩ := zk_bd hf
            refine zk_calli (wc := []) (wr := zwL aL (aT 0) (aN 0) (aR 0) (aP 0) (aE 0) ++ (zwE cI cJ aE u8.2.1 u8.2.2.1 u8.2.2.2.1 u8.2.2.2.2.1 u8.2.2.2.2.2.1 u8.2.2.2.2.2.2.1 u8.2.2.2.2.2.2.2.1 u8.2.2.2.2.2.2.2.2.1 u8.2.2.2.2.2.2.2.2.2 ++ (zwC cI aN Ncandidates Nballots Nseats Nwithdrawn Nvoters Nsets Nrank))) hw hA [] [0, 1, 2, 3, 4, 5, 6, 7, 8, 9, 10, 11] rfl rfl (by decide) (by decide) (va_runS (As := [.int (u8.1 &&& u10)]) (rest := []) ⟨hx, hb, hml, hown, hts⟩ (kJ6_bitCount_0f7a4 l D cI cJ cO N (u8.1 &&& u10) u12 e13 H.size) (va_cwS 1 hts gX4_agrees_J6_bitCount_0f7a4 rfl rfl rfl (by decide +kernel) ⟨Nat.le_of_ble_eq_true rfl, Nat.le_of_ble_eq_true rfl⟩) (zk_preS (wc := []) hN hK hw [] rfl (by decide)) rfl rfl hl.1 rfl (lv_room (Nat.le_of_ble_eq_true rfl)) dX4_agrees_77 ⟨Nat.zero_le _, Nat.zero_le _⟩) (fun H locs hw => ?_)
            have hw : Wd D A s.heap (zwL aL (aT 0) (aN 0) (aR 0) (aP 0) (aE 0) ++ (zwE cI cJ aE u8.2.1 u8.2.2.1 u8.2.2.2.1 u8.2.2.2.2.1 u8.2.2.2.2.2.1 u8.2.2.2.2.2.2.1 u8.2.2.2.2.2.2.2.1 u8.2.2.2.2.2.2.2.2.1 u8.2.2.2.2.2.2.2.2.2 ++ (zwC cI aN Ncandidates Nballots Nseats Nwithdrawn Nvoters Nsets Nrank))) H locs := hw
            cases hf
            exact zk_iret hx hb hr hlocks rfl hQ hw [0, 1, 2, 3, 4, 5, 6, 7, 8, 9, 10, 11] rfl (by decide) dX4_agrees_80
          · replace hf := zk_t c7 hf
            refine lv_aload_n hx hb dX4_agrees_37 rfl (lv_at hl 0 rfl) ?_
            refine va_get (D := D) (ci := 4) (v := .ref (aN 0)) (C := RX4) (T := TX4) (N := 5) hx hb hts hiX4 hown hK hw.1 7 rfl rfl 1 (by decide) hq1 (fun _ h9 => h9) rfl dX4_agrees_38 ?_
            refine lv_iload_n hx hb dX4_agrees_41 rfl (lv_at hl 1 rfl) ?_
            obtain ⟨u14, e15, hf⟩ := zk_bd hf
            refine zk_calli (wc := zwC cI aN Ncandidates Nballots Nseats Nwithdrawn Nvoters Nsets Nrank) (wr := zwE cI cJ aE Eorder Eabove Ebelow Eelected Eset Esupport Eworth Eloads Eunit ++ (zwL aL (aT 0) (aN 0) (aR 0) (aP 0) (aE 0))) hw hA [8, 9, 10, 11] [0, 1, 2, 3, 4, 5, 6, 7] rfl rfl (by decide) (by decide) (va_runVN (C := RX0) (As := [.int p0]) (rest := []) ⟨hx, hb, hml, hown, hts⟩ (kX0_isOwed l D cI cJ cO N aN p0 Ncandidates Nballots Nseats Nwithdrawn Nvoters Nsets Nrank u14 e15 H.size) ⟨va_cnB 1 hts ggX4_agrees_X0_isOwed rfl rfl rfl (nwM_X4_189 hN) hq5 (by decide +kernel) ⟨Nat.le_of_ble_eq_true rfl, Nat.le_of_ble_eq_true rfl⟩, hq8, hq9⟩ (zk_preV (wc := zwC cI aN Ncandidates Nballots Nseats Nwithdrawn Nvoters Nsets Nrank) hN hK hw [8, 9, 10, 11] rfl (by decide) 8 0 rfl rfl) rfl rfl hl.1 rfl (lv_room (Nat.le_of_ble_eq_true rfl)) dX4_agrees_42 ⟨Nat.zero_le _, Nat.zero_le _⟩) (fun H locs hw => ?_)
            have hw : Wd D A s.heap (zwE cI cJ aE Eorder Eabove Ebelow Eelected Eset Esupport Eworth Eloads Eunit ++ (zwL aL (aT 0) (aN 0) (aR 0) (aP 0) (aE 0) ++ (zwC cI aN Ncandidates Nballots Nseats Nwithdrawn Nvoters Nsets Nrank))) H locs := hw
            refine lv_if_eq (tgt := 52) hx hb dX4_agrees_45 (by decide) (fun c16 => ?_) (fun c16 => ?_)
            · replace hf := zk_t c16 hf
              refine lv_iconst (v := 0) hx hb dX4_agrees_52 (by decide) ?_
              cases hf
              exact zk_iret hx hb hr hlocks rfl hQ hw [7, 0, 1, 2, 3, 4, 5, 6, 8, 9, 10, 11] rfl (by decide) dX4_agrees_53
            · replace hf := zk_f c16 hf
              refine lv_iconst (v := 1) hx hb dX4_agrees_48 (by decide) ?_
              refine lv_goto (tgt := 53) hx hb dX4_agrees_49 (by decide) ?_
              cases hf
              exact zk_iret hx hb hr hlocks rfl hQ hw [7, 0, 1, 2, 3, 4, 5, 6, 8, 9, 10, 11] rfl (by decide) dX4_agrees_53
        · replace hf := zk_t c6 hf
          refine lv_aload_n hx hb dX4_agrees_23 rfl (lv_at hl 0 rfl) ?_
          refine va_get (D := D) (ci := 4) (v := .ref (aN 0)) (C := RX4) (T := TX4) (N := 5) hx hb hts hiX4 hown hK hw.1 7 rfl rfl 1 (by decide) hq1 (fun _ h9 => h9) rfl dX4_agrees_24 ?_
          refine lv_iload_n hx hb dX4_agrees_27 rfl (lv_at hl 1 rfl) ?_
          obtain ⟨u17, e18, hf⟩ := zk_bd hf
          refine zk_calli (wc := zwC cI aN Ncandidates Nballots Nseats Nwithdrawn Nvoters Nsets Nrank) (wr := zwE cI cJ aE Eorder Eabove Ebelow Eelected Eset Esupport Eworth Eloads Eunit ++ (zwL aL (aT 0) (aN 0) (aR 0) (aP 0) (aE 0))) hw hA [8, 9, 10, 11] [0, 1, 2, 3, 4, 5, 6, 7] rfl rfl (by decide) (by decide) (va_runVN (C := RX0) (As := [.int p0]) (rest := []) ⟨hx, hb, hml, hown, hts⟩ (kX0_votersWhoAgree l D cI cJ cO N aN p0 Ncandidates Nballots Nseats Nwithdrawn Nvoters Nsets Nrank u17 e18 H.size) ⟨va_cnB 1 hts ggX4_agrees_X0_votersWhoAgree rfl rfl rfl (nwM_X4_186 hN) hq5 (by decide +kernel) ⟨Nat.le_of_ble_eq_true rfl, Nat.le_of_ble_eq_true rfl⟩, hq10, hq11⟩ (zk_preV (wc := zwC cI aN Ncandidates Nballots Nseats Nwithdrawn Nvoters Nsets Nrank) hN hK hw [8, 9, 10, 11] rfl (by decide) 8 0 rfl rfl) rfl rfl hl.1 rfl (lv_room (Nat.le_of_ble_eq_true rfl)) dX4_agrees_28 ⟨Nat.zero_le _, Nat.zero_le _⟩) (fun H locs hw => ?_)
          have hw : Wd D A s.heap (zwE cI cJ aE Eorder Eabove Ebelow Eelected Eset Esupport Eworth Eloads Eunit ++ (zwL aL (aT 0) (aN 0) (aR 0) (aP 0) (aE 0) ++ (zwC cI aN Ncandidates Nballots Nseats Nwithdrawn Nvoters Nsets Nrank))) H locs := hw
          cases hf
          exact zk_iret hx hb hr hlocks rfl hQ hw [7, 0, 1, 2, 3, 4, 5, 6, 8, 9, 10, 11] rfl (by decide) dX4_agrees_31
      · replace hf := zk_f c5 hf
        refine lv_iconst (v := (-1)) hx hb dX4_agrees_17 (by decide) ?_
        cases hf
        exact zk_iret hx hb hr hlocks rfl hQ hw [7, 0, 1, 2, 3, 4, 5, 6, 8, 9, 10, 11] rfl (by decide) dX4_agrees_18
set_option maxHeartbeats 4000000 in
set_option maxRecDepth 100000 in
theorem kX4_shorts (l : Launch) (D : va_G) (cI cJ cO : ClassId) (N : Nat) (aL aE aN : Nat → Nat) (aT aR aP : Nat → Nat) (p0 : Int32) (p1 : Int32) (Eorder : Nat → Int32) (Eabove : Nat → Int64) (Ebelow : Nat → Int64) (Eelected : Int32) (Eset : Int32) (Esupport : Nat → Int32) (Eworth : Nat → Int64) (Eloads : Nat → Int64) (Eunit : Int64) (Ncandidates : Int32) (Nballots : Int32) (Nseats : Int32) (Nwithdrawn : Int32) (Nvoters : Nat → Int32) (Nsets : Nat → Int32) (Nrank : Nat → Int32) (u : Int32 × (Nat → Int32) × (Nat → Int64) × (Nat → Int64) × (Int32) × (Int32) × (Nat → Int32) × (Nat → Int64) × (Nat → Int64) × (Int64)) (hf : fX4_shorts N p0 p1 Eorder Eabove Ebelow Eelected Eset Esupport Eworth Eloads Eunit Ncandidates Nballots Nseats Nwithdrawn Nvoters Nsets Nrank = some u) : CtI l yX4_shorts wsX4_shorts (zk_rm 5 117) D cI cJ cO [.ref (aL 0), .int p0, .int p1] (zwL aL (aT 0) (aN 0) (aR 0) (aP 0) (aE 0) ++ (zwE cI cJ aE Eorder Eabove Ebelow Eelected Eset Esupport Eworth Eloads Eunit ++ (zwC cI aN Ncandidates Nballots Nseats Nwithdrawn Nvoters Nsets Nrank))) (zwL aL (aT 0) (aN 0) (aR 0) (aP 0) (aE 0) ++ (zwE cI cJ aE u.2.1 u.2.2.1 u.2.2.2.1 u.2.2.2.2.1 u.2.2.2.2.2.1 u.2.2.2.2.2.2.1 u.2.2.2.2.2.2.2.1 u.2.2.2.2.2.2.2.2.1 u.2.2.2.2.2.2.2.2.2 ++ (zwC cI aN Ncandidates Nballots Nseats Nwithdrawn Nvoters Nsets Nrank))) (u.1) := by
  refine zk_enter (cc := cX4_shorts) (maxL := 6) (ret := some .int) (own := RX4) (Qf := fun A => QwI D (zwL aL (aT 0) (aN 0) (aR 0) (aP 0) (aE 0) ++ (zwE cI cJ aE u.2.1 u.2.2.1 u.2.2.2.1 u.2.2.2.2.1 u.2.2.2.2.2.1 u.2.2.2.2.2.2.1 u.2.2.2.2.2.2.2.1 u.2.2.2.2.2.2.2.2.1 u.2.2.2.2.2.2.2.2.2 ++ (zwC cI aN Ncandidates Nballots Nseats Nwithdrawn Nvoters Nsets Nrank))) (u.1) A) (by decide) rfl rfl (Nat.le_of_ble_eq_true rfl) ?_
  intro p e s m args below meth c A Q H locs ls hC hQ hw hl
  obtain ⟨hx, hb, hml, hr, hts, hown, hlocks, hN, hK, hA⟩ := hC
  have hl : lv_has ls 6 [(0, .ref (aL 0)), (1, .int p0), (2, .int p1)] := hl
  have hiX4 : ∀ w ∈ u_ws RX4 TX4 5, w ∈ wsX4_shorts := by decide +kernel
  have hiX0 : ∀ w ∈ u_ws RX0 TX0 7, w ∈ wsX4_shorts := by decide +kernel
  have hq0 := hts (.fieldLink RX4 19 "LoadCouncil" "now" "LLoadCouncil$Council;") (by decide +kernel)
  have hq1 := hts (.initialized RX0) (by decide +kernel)
  have hq2 := hts (.instanceMethod yX0_isShort) (by decide +kernel)
  have hq3 := hts (.selects RX0 yX0_isShort yX0_isShort) (by decide +kernel)
  have hq4 := hts (.fieldLink RX4 36 "LoadCouncil" "election" "LLoadCouncil$Election;") (by decide +kernel)
  have hq5 := hts (.initialized RX1) (by decide +kernel)
  have hq6 := hts (.instanceMethod yX1_hold) (by decide +kernel)
  have hq7 := hts (.selects RX1 yX1_hold yX1_hold) (by decide +kernel)
  have b78 : ∀ (x2 : Int32) (x4 : Int32) (Eorder : Nat → Int32) (Eabove : Nat → Int64) (Ebelow : Nat → Int64) (Eelected : Int32) (Eset : Int32) (Esupport : Nat → Int32) (Eworth : Nat → Int64) (Eloads : Nat → Int64) (Eunit : Int64), fX4_shorts_b78 N x2 x4 Eorder Eabove Ebelow Eelected Eset Esupport Eworth Eloads Eunit = some u → ∀ (H : Heap) (locs : List Loc) (ls : Array Slot), Wd D A s.heap (zwL aL (aT 0) (aN 0) (aR 0) (aP 0) (aE 0) ++ (zwE cI cJ aE Eorder Eabove Ebelow Eelected Eset Esupport Eworth Eloads Eunit ++ (zwC cI aN Ncandidates Nballots Nseats Nwithdrawn Nvoters Nsets Nrank))) H locs → lv_has ls 6 [(2, .int x2), (4, .int x4)] → W p l e (zk_rm 5 117) s m args below meth c H locs 0 0 Q (F0 m 78 ls []) := by
    intro x2 x4 Eorder Eabove Ebelow Eelected Eset Esupport Eworth Eloads Eunit hf H locs ls hw hl
    unfold fX4_shorts_b78 at hf
    refine lv_iload_n hx hb dX4_shorts_78 rfl (lv_at hl 0 rfl) ?_
    refine lv_iconst (v := (-1)) hx hb dX4_shorts_79 (by decide) ?_
    refine lv_icmp_ne (tgt := 88) hx hb dX4_shorts_80 (by decide) (fun c1 => ?_) (fun c1 => ?_)
    · replace hf := zk_f c1 hf
      refine lv_bipush (v := (-4)) hx hb dX4_shorts_88 (by decide) ?_
      cases hf
      exact zk_iret hx hb hr hlocks rfl hQ hw [0, 1, 2, 3, 4, 5, 6, 7, 8, 9, 10, 11] rfl (by decide) dX4_shorts_90
    · replace hf := zk_t c1 hf
      refine lv_iload hx hb dX4_shorts_83 (lv_at hl 1 rfl) ?_
      refine lv_goto (tgt := 90) hx hb dX4_shorts_85 (by decide) ?_
      cases hf
      exact zk_iret hx hb hr hlocks rfl hQ hw [0, 1, 2, 3, 4, 5, 6, 7, 8, 9, 10, 11] rfl (by decide) dX4_shorts_90
  have b33 : ∀ (n33 : Nat), ∀ (x2 : Int32) (x3 : Int32) (x4 : Int32) (x5 : Int32) (Eorder : Nat → Int32) (Eabove : Nat → Int64) (Ebelow : Nat → Int64) (Eelected : Int32) (Eset : Int32) (Esupport : Nat → Int32) (Eworth : Nat → Int64) (Eloads : Nat → Int64) (Eunit : Int64), fX4_shorts_b33 N n33 x2 x3 x4 x5 Eorder Eabove Ebelow Eelected Eset Esupport Eworth Eloads Eunit Ncandidates Nballots Nseats Nvoters Nsets = some u → ∀ (H : Heap) (locs : List Loc) (ls : Array Slot), Wd D A s.heap (zwL aL (aT 0) (aN 0) (aR 0) (aP 0) (aE 0) ++ (zwE cI cJ aE Eorder Eabove Ebelow Eelected Eset Esupport Eworth Eloads Eunit ++ (zwC cI aN Ncandidates Nballots Nseats Nwithdrawn Nvoters Nsets Nrank))) H locs → lv_has ls 6 [(0, .ref (aL 0)), (2, .int x2), (3, .int x3), (4, .int x4), (5, .int x5)] → W p l e (zk_rm 5 117) s m args below meth c H locs 0 0 Q (F0 m 33 ls []) := by
    intro n33
    induction n33 with
    | zero =>
      intro x2 x3 x4 x5 Eorder Eabove Ebelow Eelected Eset Esupport Eworth Eloads Eunit hf
      exact zk_none hf
    | succ n33 ih33 =>
      have b72 : ∀ (x2 : Int32) (x3 : Int32) (x4 : Int32) (x5 : Int32) (Eorder : Nat → Int32) (Eabove : Nat → Int64) (Ebelow : Nat → Int64) (Eelected : Int32) (Eset : Int32) (Esupport : Nat → Int32) (Eworth : Nat → Int64) (Eloads : Nat → Int64) (Eunit : Int64), fX4_shorts_b72 N (fun z0 z1 z2 z3 z4 z5 z6 z7 z8 z9 z10 z11 z12 z13 z14 z15 z16 z17 => fX4_shorts_b33 N n33 z0 z1 z2 z3 z4 z5 z6 z7 z8 z9 z10 z11 z12 z13 z14 z15 z16 z17) x2 x3 x4 x5 Eorder Eabove Ebelow Eelected Eset Esupport Eworth Eloads Eunit Ncandidates Nballots Nseats Nvoters Nsets = some u → ∀ (H : Heap) (locs : List Loc) (ls : Array Slot), Wd D A s.heap (zwL aL (aT 0) (aN 0) (aR 0) (aP 0) (aE 0) ++ (zwE cI cJ aE Eorder Eabove Ebelow Eelected Eset Esupport Eworth Eloads Eunit ++ (zwC cI aN Ncandidates Nballots Nseats Nwithdrawn Nvoters Nsets Nrank))) H locs → lv_has ls 6 [(0, .ref (aL 0)), (2, .int x2), (3, .int x3), (4, .int x4), (5, .int x5)] → W p l e (zk_rm 5 117) s m args below meth c H locs 0 0 Q (F0 m 72 ls []) := by
        intro x2 x3 x4 x5 Eorder Eabove Ebelow Eelected Eset Esupport Eworth Eloads Eunit hf H locs ls hw hl
        unfold fX4_shorts_b72 at hf
        refine lv_iinc (v := (x5 + (1 : Int32))) (lv' := [(5, .int (x5 + (1 : Int32))), (0, .ref (aL 0)), (2, .int x2), (3, .int x3), (4, .int x4)]) hx hb dX4_shorts_72 hl (k := 4) rfl rfl (by decide) rfl (fun ls hl => ?_)
        refine lv_goto (tgt := 33) hx hb dX4_shorts_75 (by decide) ?_
        exact ih33 x2 x3 x4 (x5 + (1 : Int32)) Eorder Eabove Ebelow Eelected Eset Esupport Eworth Eloads Eunit hf H locs ls hw (lv_sub hl [1, 2, 3, 4, 0] rfl)
      intro x2 x3 x4 x5 Eorder Eabove Ebelow Eelected Eset Esupport Eworth Eloads Eunit hf H locs ls hw hl
      rw [fX4_shorts_b33] at hf
      refine lv_iload hx hb dX4_shorts_33 (lv_at hl 4 rfl) ?_
      refine lv_iconst (v := 1) hx hb dX4_shorts_35 (by decide) ?_
      refine lv_aload_n hx hb dX4_shorts_36 rfl (lv_at hl 0 rfl) ?_
      refine va_get (D := D) (ci := 4) (v := .ref (aN 0)) (C := RX4) (T := TX4) (N := 5) hx hb hts hiX4 hown hK hw.1 0 rfl rfl 1 (by decide) hq0 (fun _ h9 => h9) rfl dX4_shorts_37 ?_
      refine va_getN (D := D) (ci := 0) (v := .int Ncandidates) (C := RX0) (T := TX0) (N := 7) hx hb hts hiX0 hown hK hw.1 8 rfl rfl 0 (by decide) (va_Nw.use rfl (nwF_X4_66 hN)) (fun _ h9 => h9) rfl dX4_shorts_40 ?_
      refine lv_ishl hx hb dX4_shorts_43 ?_
      refine lv_icmp_ge (tgt := 78) hx hb dX4_shorts_44 (by decide) (fun c2 => ?_) (fun c2 => ?_)
      · replace hf := zk_t c2 hf
        exact b78 x2 x4 Eorder Eabove Ebelow Eelected Eset Esupport Eworth Eloads Eunit hf H locs ls hw (lv_sub hl [1, 3] rfl)
      · replace hf := zk_f c2 hf
        refine lv_aload_n hx hb dX4_shorts_47 rfl (lv_at hl 0 rfl) ?_
        refine va_get (D := D) (ci := 4) (v := .ref (aN 0)) (C := RX4) (T := TX4) (N := 5) hx hb hts hiX4 hown hK hw.1 0 rfl rfl 1 (by decide) hq0 (fun _ h9 => h9) rfl dX4_shorts_48 ?_
        refine lv_iload hx hb dX4_shorts_51 (lv_at hl 4 rfl) ?_
        refine lv_iload_n hx hb dX4_shorts_53 rfl (lv_at hl 2 rfl) ?_
        obtain ⟨u3, e4, hf⟩ := zk_bd hf
        refine zk_calli (wc := zwC cI aN Ncandidates Nballots Nseats Nwithdrawn Nvoters Nsets Nrank) (wr := zwL aL (aT 0) (aN 0) (aR 0) (aP 0) (aE 0) ++ (zwE cI cJ aE Eorder Eabove Ebelow Eelected Eset Esupport Eworth Eloads Eunit)) hw hA [8, 9, 10, 11] [0, 1, 2, 3, 4, 5, 6, 7] rfl rfl (by decide) (by decide) (va_runVN (C := RX0) (As := [.int x5, .int x3]) (rest := []) ⟨hx, hb, hml, hown, hts⟩ (kX0_isShort l D cI cJ cO N aN x5 x3 Ncandidates Nballots Nseats Nwithdrawn Nvoters Nsets Nrank u3 e4 H.size) ⟨va_cnB 2 hts ggX4_shorts_X0_isShort rfl rfl rfl (nwM_X4_195 hN) hq1 (by decide +kernel) ⟨Nat.le_of_ble_eq_true rfl, Nat.le_of_ble_eq_true rfl⟩, hq2, hq3⟩ (zk_preV (wc := zwC cI aN Ncandidates Nballots Nseats Nwithdrawn Nvoters Nsets Nrank) hN hK hw [8, 9, 10, 11] rfl (by decide) 8 0 rfl rfl) rfl rfl hl.1 rfl (lv_room (Nat.le_of_ble_eq_true rfl)) dX4_shorts_54 ⟨Nat.zero_le _, Nat.zero_le _⟩) (fun H locs hw => ?_)
        have hw : Wd D A s.heap (zwL aL (aT 0) (aN 0) (aR 0) (aP 0) (aE 0) ++ (zwE cI cJ aE Eorder Eabove Ebelow Eelected Eset Esupport Eworth Eloads Eunit ++ (zwC cI aN Ncandidates Nballots Nseats Nwithdrawn Nvoters Nsets Nrank))) H locs := hw
        refine lv_if_eq (tgt := 72) hx hb dX4_shorts_57 (by decide) (fun c5 => ?_) (fun c5 => ?_)
        · replace hf := zk_t c5 hf
          exact b72 x2 x3 x4 x5 Eorder Eabove Ebelow Eelected Eset Esupport Eworth Eloads Eunit hf H locs ls hw (lv_sub hl [0, 1, 2, 3, 4] rfl)
        · replace hf := zk_f c5 hf
          refine lv_iload hx hb dX4_shorts_60 (lv_at hl 3 rfl) ?_
          refine lv_iload_n hx hb dX4_shorts_62 rfl (lv_at hl 1 rfl) ?_
          refine lv_icmp_ne (tgt := 69) hx hb dX4_shorts_63 (by decide) (fun c6 => ?_) (fun c6 => ?_)
          · replace hf := zk_f c6 hf
            refine lv_iinc (v := (x4 + (1 : Int32))) (lv' := [(4, .int (x4 + (1 : Int32))), (0, .ref (aL 0)), (2, .int x2), (3, .int x3), (5, .int x5)]) hx hb dX4_shorts_69 hl (k := 3) rfl rfl (by decide) rfl (fun ls hl => ?_)
            exact b72 x2 x3 (x4 + (1 : Int32)) x5 Eorder Eabove Ebelow Eelected Eset Esupport Eworth Eloads Eunit hf H locs ls hw (lv_sub hl [1, 2, 3, 0, 4] rfl)
          · replace hf := zk_t c6 hf
            refine lv_iload hx hb dX4_shorts_66 (lv_at hl 4 rfl) ?_
            cases hf
            exact zk_iret hx hb hr hlocks rfl hQ hw [0, 1, 2, 3, 4, 5, 6, 7, 8, 9, 10, 11] rfl (by decide) dX4_shorts_68
  unfold fX4_shorts at hf
  refine lv_iload_n hx hb dX4_shorts_0 rfl (lv_at hl 1 rfl) ?_
  obtain ⟨u7, e8, hf⟩ := zk_bd hf
  refine zk_calli (wc := []) (wr := zwL aL (aT 0) (aN 0) (aR 0) (aP 0) (aE 0) ++ (zwE cI cJ aE Eorder Eabove Ebelow Eelected Eset Esupport Eworth Eloads Eunit ++ (zwC cI aN Ncandidates Nballots Nseats Nwithdrawn Nvoters Nsets Nrank))) hw hA [] [0, 1, 2, 3, 4, 5, 6, 7, 8, 9, 10, 11] rfl rfl (by decide) (by decide) (va_runS (As := [.int p0]) (rest := []) ⟨hx, hb, hml, hown, hts⟩ (kX4_isLaw l D cI cJ cO N p0 u7 e8 H.size) (va_cwS 1 hts gX4_shorts_X4_isLaw rfl rfl rfl (by decide +kernel) ⟨Nat.le_of_ble_eq_true rfl, Nat.le_of_ble_eq_true rfl⟩) (zk_preS (wc := []) hN hK hw [] rfl (by decide)) rfl rfl hl.1 rfl (lv_room (Nat.le_of_ble_eq_true rfl)) dX4_shorts_1 ⟨Nat.zero_le _, Nat.zero_le _⟩) (fun H locs hw => ?_)
  have hw : Wd D A s.heap (zwL aL (aT 0) (aN 0) (aR 0) (aP 0) (aE 0) ++ (zwE cI cJ aE Eorder Eabove Ebelow Eelected Eset Esupport Eworth Eloads Eunit ++ (zwC cI aN Ncandidates Nballots Nseats Nwithdrawn Nvoters Nsets Nrank))) H locs := hw
  refine lv_if_eq (tgt := 12) hx hb dX4_shorts_4 (by decide) (fun c9 => ?_) (fun c9 => ?_)
  · replace hf := zk_t c9 hf
    refine lv_iconst (v := (-1)) hx hb dX4_shorts_12 (by decide) ?_
    cases hf
    exact zk_iret hx hb hr hlocks rfl hQ hw [0, 1, 2, 3, 4, 5, 6, 7, 8, 9, 10, 11] rfl (by decide) dX4_shorts_13
  · replace hf := zk_f c9 hf
    refine lv_iload_n hx hb dX4_shorts_7 rfl (lv_at hl 2 rfl) ?_
    refine lv_iconst (v := (-1)) hx hb dX4_shorts_8 (by decide) ?_
    refine lv_icmp_ge (tgt := 14) hx hb dX4_shorts_9 (by decide) (fun c10 => ?_) (fun c10 => ?_)
    · replace hf := zk_t c10 hf
      refine lv_aload_n hx hb dX4_shorts_14 rfl (lv_at hl 0 rfl) ?_
      refine va_get (D := D) (ci := 4) (v := .ref (aE 0)) (C := RX4) (T := TX4) (N := 5) hx hb hts hiX4 hown hK hw.1 0 rfl rfl 4 (by decide) hq4 (fun _ h9 => h9) rfl dX4_shorts_15 ?_
      refine lv_aload_n hx hb dX4_shorts_18 rfl (lv_at hl 0 rfl) ?_
      refine va_get (D := D) (ci := 4) (v := .ref (aN 0)) (C := RX4) (T := TX4) (N := 5) hx hb hts hiX4 hown hK hw.1 0 rfl rfl 1 (by decide) hq0 (fun _ h9 => h9) rfl dX4_shorts_19 ?_
      refine lv_iload_n hx hb dX4_shorts_22 rfl (lv_at hl 1 rfl) ?_
      obtain ⟨u11, e12, hf⟩ := zk_bd hf
      refine zk_calli (wc := zwE cI cJ aE Eorder Eabove Ebelow Eelected Eset Esupport Eworth Eloads Eunit ++ (zwC cI aN Ncandidates Nballots Nseats Nwithdrawn Nvoters Nsets Nrank)) (wr := zwL aL (aT 0) (aN 0) (aR 0) (aP 0) (aE 0)) hw hA [1, 2, 3, 4, 5, 6, 7, 8, 9, 10, 11] [0] rfl rfl (by decide) (by decide) (va_runVN (C := RX1) (As := [.ref (aN 0), .int p0]) (rest := []) ⟨hx, hb, hml, hown, hts⟩ (kX1_hold l D cI cJ cO N aE aN p0 Eorder Eabove Ebelow Eelected Eset Esupport Eworth Eloads Eunit Ncandidates Nballots Nseats Nwithdrawn Nvoters Nsets Nrank u11 e12 H.size) ⟨va_cnB 2 hts ggX4_shorts_X1_hold rfl rfl rfl (nwM_X4_142 hN) hq5 (by decide +kernel) ⟨Nat.le_of_ble_eq_true rfl, Nat.le_of_ble_eq_true rfl⟩, hq6, hq7⟩ (zk_preV (wc := zwE cI cJ aE Eorder Eabove Ebelow Eelected Eset Esupport Eworth Eloads Eunit ++ (zwC cI aN Ncandidates Nballots Nseats Nwithdrawn Nvoters Nsets Nrank)) hN hK hw [1, 2, 3, 4, 5, 6, 7, 8, 9, 10, 11] rfl (by decide) 1 1 rfl rfl) rfl rfl hl.1 rfl (lv_room (Nat.le_of_ble_eq_true rfl)) dX4_shorts_23 ⟨Nat.zero_le _, Nat.zero_le _⟩) (fun H locs hw => ?_)
      have hw : Wd D A s.heap (zwL aL (aT 0) (aN 0) (aR 0) (aP 0) (aE 0) ++ (zwE cI cJ aE u11.2.1 u11.2.2.1 u11.2.2.2.1 u11.2.2.2.2.1 u11.2.2.2.2.2.1 u11.2.2.2.2.2.2.1 u11.2.2.2.2.2.2.2.1 u11.2.2.2.2.2.2.2.2.1 u11.2.2.2.2.2.2.2.2.2 ++ (zwC cI aN Ncandidates Nballots Nseats Nwithdrawn Nvoters Nsets Nrank))) H locs := hw
      refine lv_istore_n (lv' := [(3, .int u11.1), (0, .ref (aL 0)), (1, .int p0), (2, .int p1)]) hx hb dX4_shorts_26 rfl hl (by decide) rfl (fun ls hl => ?_)
      refine lv_iconst (v := 0) hx hb dX4_shorts_27 (by decide) ?_
      refine lv_istore (lv' := [(4, .int (0 : Int32)), (3, .int u11.1), (0, .ref (aL 0)), (1, .int p0), (2, .int p1)]) hx hb dX4_shorts_28 hl (by decide) rfl (fun ls hl => ?_)
      refine lv_iconst (v := 1) hx hb dX4_shorts_30 (by decide) ?_
      refine lv_istore (lv' := [(5, .int (1 : Int32)), (4, .int (0 : Int32)), (3, .int u11.1), (0, .ref (aL 0)), (1, .int p0), (2, .int p1)]) hx hb dX4_shorts_31 hl (by decide) rfl (fun ls hl => ?_)
      exact b33 N p1 u11.1 (0 : Int32) (1 : Int32) u11.2.1 u11.2.2.1 u11.2.2.2.1 u11.2.2.2.2.1 u11.2.2.2.2.2.1 u11.2.2.2.2.2.2.1 u11.2.2.2.2.2.2.2.1 u11.2.2.2.2.2.2.2.2.1 u11.2.2.2.2.2.2.2.2.2 hf H locs ls hw (lv_sub hl [3, 5, 2, 1, 0] rfl)
    · replace hf := zk_f c10 hf
      refine lv_iconst (v := (-1)) hx hb dX4_shorts_12 (by decide) ?_
      cases hf
      exact zk_iret hx hb hr hlocks rfl hQ hw [0, 1, 2, 3, 4, 5, 6, 7, 8, 9, 10, 11] rfl (by decide) dX4_shorts_13
set_option maxHeartbeats 4000000 in
set_option maxRecDepth 100000 in
theorem kX4_joins (l : Launch) (D : va_G) (cI cJ cO : ClassId) (N : Nat) (aL aE aN aR : Nat → Nat) (aT aP : Nat → Nat) (p0 : Int32) (p1 : Int32) (Eorder : Nat → Int32) (Eabove : Nat → Int64) (Ebelow : Nat → Int64) (Eelected : Int32) (Eset : Int32) (Esupport : Nat → Int32) (Eworth : Nat → Int64) (Eloads : Nat → Int64) (Eunit : Int64) (Ncandidates : Int32) (Nballots : Int32) (Nseats : Int32) (Nwithdrawn : Int32) (Nvoters : Nat → Int32) (Nsets : Nat → Int32) (Nrank : Nat → Int32) (Rcandidates : Int32) (Rballots : Int32) (Rseats : Int32) (Rwithdrawn : Int32) (Rvoters : Nat → Int32) (Rsets : Nat → Int32) (Rrank : Nat → Int32) (u : Int32 × (Nat → Int32) × (Nat → Int64) × (Nat → Int64) × (Int32) × (Int32) × (Nat → Int32) × (Nat → Int64) × (Nat → Int64) × (Int64) × (Int32) × (Int32) × (Int32) × (Int32) × (Nat → Int32) × (Nat → Int32) × (Nat → Int32)) (hf : fX4_joins N p0 p1 Eorder Eabove Ebelow Eelected Eset Esupport Eworth Eloads Eunit Ncandidates Nballots Nseats Nwithdrawn Nvoters Nsets Nrank Rcandidates Rballots Rseats Rwithdrawn Rvoters Rsets Rrank = some u) : CtI l yX4_joins wsX4_joins (zk_rm 5 117) D cI cJ cO [.ref (aL 0), .int p0, .int p1] (zwL aL (aT 0) (aN 0) (aR 0) (aP 0) (aE 0) ++ (zwE cI cJ aE Eorder Eabove Ebelow Eelected Eset Esupport Eworth Eloads Eunit ++ (zwC cI aN Ncandidates Nballots Nseats Nwithdrawn Nvoters Nsets Nrank ++ (zwC cI aR Rcandidates Rballots Rseats Rwithdrawn Rvoters Rsets Rrank)))) (zwL aL (aT 0) (aN 0) (aR 0) (aP 0) (aE 0) ++ (zwE cI cJ aE u.2.1 u.2.2.1 u.2.2.2.1 u.2.2.2.2.1 u.2.2.2.2.2.1 u.2.2.2.2.2.2.1 u.2.2.2.2.2.2.2.1 u.2.2.2.2.2.2.2.2.1 u.2.2.2.2.2.2.2.2.2.1 ++ (zwC cI aN Ncandidates Nballots Nseats Nwithdrawn Nvoters Nsets Nrank ++ (zwC cI aR u.2.2.2.2.2.2.2.2.2.2.1 u.2.2.2.2.2.2.2.2.2.2.2.1 u.2.2.2.2.2.2.2.2.2.2.2.2.1 u.2.2.2.2.2.2.2.2.2.2.2.2.2.1 u.2.2.2.2.2.2.2.2.2.2.2.2.2.2.1 u.2.2.2.2.2.2.2.2.2.2.2.2.2.2.2.1 u.2.2.2.2.2.2.2.2.2.2.2.2.2.2.2.2)))) (u.1) := by
  refine zk_enter (cc := cX4_joins) (maxL := 4) (ret := some .int) (own := RX4) (Qf := fun A => QwI D (zwL aL (aT 0) (aN 0) (aR 0) (aP 0) (aE 0) ++ (zwE cI cJ aE u.2.1 u.2.2.1 u.2.2.2.1 u.2.2.2.2.1 u.2.2.2.2.2.1 u.2.2.2.2.2.2.1 u.2.2.2.2.2.2.2.1 u.2.2.2.2.2.2.2.2.1 u.2.2.2.2.2.2.2.2.2.1 ++ (zwC cI aN Ncandidates Nballots Nseats Nwithdrawn Nvoters Nsets Nrank ++ (zwC cI aR u.2.2.2.2.2.2.2.2.2.2.1 u.2.2.2.2.2.2.2.2.2.2.2.1 u.2.2.2.2.2.2.2.2.2.2.2.2.1 u.2.2.2.2.2.2.2.2.2.2.2.2.2.1 u.2.2.2.2.2.2.2.2.2.2.2.2.2.2.1 u.2.2.2.2.2.2.2.2.2.2.2.2.2.2.2.1 u.2.2.2.2.2.2.2.2.2.2.2.2.2.2.2.2)))) (u.1) A) (by decide) rfl rfl (Nat.le_of_ble_eq_true rfl) ?_
  intro p e s m args below meth c A Q H locs ls hC hQ hw hl
  obtain ⟨hx, hb, hml, hr, hts, hown, hlocks, hN, hK, hA⟩ := hC
  have hl : lv_has ls 4 [(0, .ref (aL 0)), (1, .int p0), (2, .int p1)] := hl
  have hiX4 : ∀ w ∈ u_ws RX4 TX4 5, w ∈ wsX4_joins := by decide +kernel
  have hiX0 : ∀ w ∈ u_ws RX0 TX0 7, w ∈ wsX4_joins := by decide +kernel
  have hq0 := hts (.fieldLink RX4 23 "LoadCouncil" "trial" "LLoadCouncil$Council;") (by decide +kernel)
  have hq1 := hts (.fieldLink RX4 19 "LoadCouncil" "now" "LLoadCouncil$Council;") (by decide +kernel)
  have hq2 := hts (.fieldLink RX4 36 "LoadCouncil" "election" "LLoadCouncil$Election;") (by decide +kernel)
  have hq3 := hts (.initialized RX1) (by decide +kernel)
  have hq4 := hts (.instanceMethod yX1_hold) (by decide +kernel)
  have hq5 := hts (.selects RX1 yX1_hold yX1_hold) (by decide +kernel)
  have hq6 := hts (.initialized RX0) (by decide +kernel)
  have hq7 := hts (.instanceMethod yX0_isWithdrawn) (by decide +kernel)
  have hq8 := hts (.selects RX0 yX0_isWithdrawn yX0_isWithdrawn) (by decide +kernel)
  have hq9 := hts (.instanceMethod yX0_copyFrom) (by decide +kernel)
  have hq10 := hts (.selects RX0 yX0_copyFrom yX0_copyFrom) (by decide +kernel)
  have hq11 := hts (.instanceMethod yX0_addBallot) (by decide +kernel)
  have hq12 := hts (.selects RX0 yX0_addBallot yX0_addBallot) (by decide +kernel)
  have b55 : ∀ (n55 : Nat), ∀ (x1 : Int32) (x2 : Int32) (x3 : Int32) (Eorder : Nat → Int32) (Eabove : Nat → Int64) (Ebelow : Nat → Int64) (Eelected : Int32) (Eset : Int32) (Esupport : Nat → Int32) (Eworth : Nat → Int64) (Eloads : Nat → Int64) (Eunit : Int64) (Rcandidates : Int32) (Rballots : Int32) (Rseats : Int32) (Rwithdrawn : Int32) (Rvoters : Nat → Int32) (Rsets : Nat → Int32) (Rrank : Nat → Int32), fX4_joins_b55 N n55 x1 x2 x3 Eorder Eabove Ebelow Eelected Eset Esupport Eworth Eloads Eunit Nballots Rcandidates Rballots Rseats Rwithdrawn Rvoters Rsets Rrank = some u → ∀ (H : Heap) (locs : List Loc) (ls : Array Slot), Wd D A s.heap (zwL aL (aT 0) (aN 0) (aR 0) (aP 0) (aE 0) ++ (zwE cI cJ aE Eorder Eabove Ebelow Eelected Eset Esupport Eworth Eloads Eunit ++ (zwC cI aN Ncandidates Nballots Nseats Nwithdrawn Nvoters Nsets Nrank ++ (zwC cI aR Rcandidates Rballots Rseats Rwithdrawn Rvoters Rsets Rrank)))) H locs → lv_has ls 4 [(0, .ref (aL 0)), (1, .int x1), (2, .int x2), (3, .int x3)] → W p l e (zk_rm 5 117) s m args below meth c H locs 0 0 Q (F0 m 55 ls []) := by
    intro n55
    induction n55 with
    | zero =>
      intro x1 x2 x3 Eorder Eabove Ebelow Eelected Eset Esupport Eworth Eloads Eunit Rcandidates Rballots Rseats Rwithdrawn Rvoters Rsets Rrank hf
      exact zk_none hf
    | succ n55 ih55 =>
      intro x1 x2 x3 Eorder Eabove Ebelow Eelected Eset Esupport Eworth Eloads Eunit Rcandidates Rballots Rseats Rwithdrawn Rvoters Rsets Rrank hf H locs ls hw hl
      rw [fX4_joins_b55] at hf
      refine lv_iload_n hx hb dX4_joins_55 rfl (lv_at hl 3 rfl) ?_
      refine lv_bipush (v := 20) hx hb dX4_joins_56 (by decide) ?_
      refine lv_icmp_gt (tgt := 104) hx hb dX4_joins_58 (by decide) (fun c1 => ?_) (fun c1 => ?_)
      · replace hf := zk_t c1 hf
        refine lv_bipush (v := (-4)) hx hb dX4_joins_104 (by decide) ?_
        cases hf
        exact zk_iret hx hb hr hlocks rfl hQ hw [0, 1, 2, 3, 4, 5, 6, 7, 8, 9, 10, 11, 12, 13, 14, 15] rfl (by decide) dX4_joins_106
      · replace hf := zk_f c1 hf
        refine lv_aload_n hx hb dX4_joins_61 rfl (lv_at hl 0 rfl) ?_
        refine va_get (D := D) (ci := 4) (v := .ref (aR 0)) (C := RX4) (T := TX4) (N := 5) hx hb hts hiX4 hown hK hw.1 0 rfl rfl 2 (by decide) hq0 (fun _ h9 => h9) rfl dX4_joins_62 ?_
        refine va_getN (D := D) (ci := 0) (v := .ref (aR 1)) (C := RX0) (T := TX0) (N := 7) hx hb hts hiX0 hown hK hw.1 12 rfl rfl 4 (by decide) (va_Nw.use rfl (nwF_X4_98 hN)) (fun _ h9 => h9) rfl dX4_joins_65 ?_
        refine lv_aload_n hx hb dX4_joins_68 rfl (lv_at hl 0 rfl) ?_
        refine va_get (D := D) (ci := 4) (v := .ref (aN 0)) (C := RX4) (T := TX4) (N := 5) hx hb hts hiX4 hown hK hw.1 0 rfl rfl 1 (by decide) hq1 (fun _ h9 => h9) rfl dX4_joins_69 ?_
        refine va_getN (D := D) (ci := 0) (v := .int Nballots) (C := RX0) (T := TX0) (N := 7) hx hb hts hiX0 hown hK hw.1 8 rfl rfl 1 (by decide) (va_Nw.use rfl (nwF_X4_82 hN)) (fun _ h9 => h9) rfl dX4_joins_72 ?_
        refine lv_iload_n hx hb dX4_joins_75 rfl (lv_at hl 3 rfl) ?_
        obtain ⟨h2, hf⟩ := zk_ck hf
        refine zk_iast hx hb hK hw 13 rfl h2 (j := Nballots.toNatClampNeg) rfl dX4_joins_76 (fun H locs hw => ?_)
        have hw : Wd D A s.heap (zwL aL (aT 0) (aN 0) (aR 0) (aP 0) (aE 0) ++ (zwE cI cJ aE Eorder Eabove Ebelow Eelected Eset Esupport Eworth Eloads Eunit ++ (zwC cI aN Ncandidates Nballots Nseats Nwithdrawn Nvoters Nsets Nrank ++ (zwC cI aR Rcandidates Rballots Rseats Rwithdrawn (upd Rvoters Nballots.toNatClampNeg x3) Rsets Rrank)))) H locs := hw
        refine lv_aload_n hx hb dX4_joins_77 rfl (lv_at hl 0 rfl) ?_
        refine va_get (D := D) (ci := 4) (v := .ref (aE 0)) (C := RX4) (T := TX4) (N := 5) hx hb hts hiX4 hown hK hw.1 0 rfl rfl 4 (by decide) hq2 (fun _ h9 => h9) rfl dX4_joins_78 ?_
        refine lv_aload_n hx hb dX4_joins_81 rfl (lv_at hl 0 rfl) ?_
        refine va_get (D := D) (ci := 4) (v := .ref (aR 0)) (C := RX4) (T := TX4) (N := 5) hx hb hts hiX4 hown hK hw.1 0 rfl rfl 2 (by decide) hq0 (fun _ h9 => h9) rfl dX4_joins_82 ?_
        refine lv_iload_n hx hb dX4_joins_85 rfl (lv_at hl 1 rfl) ?_
        obtain ⟨u3, e4, hf⟩ := zk_bd hf
        refine zk_calli (wc := zwE cI cJ aE Eorder Eabove Ebelow Eelected Eset Esupport Eworth Eloads Eunit ++ (zwC cI aR Rcandidates Rballots Rseats Rwithdrawn (upd Rvoters Nballots.toNatClampNeg x3) Rsets Rrank)) (wr := zwL aL (aT 0) (aN 0) (aR 0) (aP 0) (aE 0) ++ (zwC cI aN Ncandidates Nballots Nseats Nwithdrawn Nvoters Nsets Nrank)) hw hA [1, 2, 3, 4, 5, 6, 7, 12, 13, 14, 15] [0, 8, 9, 10, 11] rfl rfl (by decide) (by decide) (va_runVN (C := RX1) (As := [.ref (aR 0), .int x1]) (rest := []) ⟨hx, hb, hml, hown, hts⟩ (kX1_hold l D cI cJ cO N aE aR x1 Eorder Eabove Ebelow Eelected Eset Esupport Eworth Eloads Eunit Rcandidates Rballots Rseats Rwithdrawn (upd Rvoters Nballots.toNatClampNeg x3) Rsets Rrank u3 e4 H.size) ⟨va_cnB 2 hts ggX4_joins_X1_hold rfl rfl rfl (nwM_X4_142 hN) hq3 (by decide +kernel) ⟨Nat.le_of_ble_eq_true rfl, Nat.le_of_ble_eq_true rfl⟩, hq4, hq5⟩ (zk_preV (wc := zwE cI cJ aE Eorder Eabove Ebelow Eelected Eset Esupport Eworth Eloads Eunit ++ (zwC cI aR Rcandidates Rballots Rseats Rwithdrawn (upd Rvoters Nballots.toNatClampNeg x3) Rsets Rrank)) hN hK hw [1, 2, 3, 4, 5, 6, 7, 12, 13, 14, 15] rfl (by decide) 1 1 rfl rfl) rfl rfl hl.1 rfl (lv_room (Nat.le_of_ble_eq_true rfl)) dX4_joins_86 ⟨Nat.zero_le _, Nat.zero_le _⟩) (fun H locs hw => ?_)
        have hw : Wd D A s.heap (zwL aL (aT 0) (aN 0) (aR 0) (aP 0) (aE 0) ++ (zwC cI aN Ncandidates Nballots Nseats Nwithdrawn Nvoters Nsets Nrank ++ (zwE cI cJ aE u3.2.1 u3.2.2.1 u3.2.2.2.1 u3.2.2.2.2.1 u3.2.2.2.2.2.1 u3.2.2.2.2.2.2.1 u3.2.2.2.2.2.2.2.1 u3.2.2.2.2.2.2.2.2.1 u3.2.2.2.2.2.2.2.2.2 ++ (zwC cI aR Rcandidates Rballots Rseats Rwithdrawn (upd Rvoters Nballots.toNatClampNeg x3) Rsets Rrank)))) H locs := hw
        refine lv_iload_n hx hb dX4_joins_89 rfl (lv_at hl 2 rfl) ?_
        obtain ⟨u5, e6, hf⟩ := zk_bd hf
        refine zk_calli (wc := []) (wr := zwL aL (aT 0) (aN 0) (aR 0) (aP 0) (aE 0) ++ (zwC cI aN Ncandidates Nballots Nseats Nwithdrawn Nvoters Nsets Nrank ++ (zwE cI cJ aE u3.2.1 u3.2.2.1 u3.2.2.2.1 u3.2.2.2.2.1 u3.2.2.2.2.2.1 u3.2.2.2.2.2.2.1 u3.2.2.2.2.2.2.2.1 u3.2.2.2.2.2.2.2.2.1 u3.2.2.2.2.2.2.2.2.2 ++ (zwC cI aR Rcandidates Rballots Rseats Rwithdrawn (upd Rvoters Nballots.toNatClampNeg x3) Rsets Rrank)))) hw hA [] [0, 1, 2, 3, 4, 5, 6, 7, 8, 9, 10, 11, 12, 13, 14, 15] rfl rfl (by decide) (by decide) (va_runS (As := [.int u3.1, .int x2]) (rest := []) ⟨hx, hb, hml, hown, hts⟩ (kX4_hasBit l D cI cJ cO N u3.1 x2 u5 e6 H.size) (va_cwS 2 hts gX4_joins_X4_hasBit rfl rfl rfl (by decide +kernel) ⟨Nat.le_of_ble_eq_true rfl, Nat.le_of_ble_eq_true rfl⟩) (zk_preS (wc := []) hN hK hw [] rfl (by decide)) rfl rfl hl.1 rfl (lv_room (Nat.le_of_ble_eq_true rfl)) dX4_joins_90 ⟨Nat.zero_le _, Nat.zero_le _⟩) (fun H locs hw => ?_)
        have hw : Wd D A s.heap (zwL aL (aT 0) (aN 0) (aR 0) (aP 0) (aE 0) ++ (zwC cI aN Ncandidates Nballots Nseats Nwithdrawn Nvoters Nsets Nrank ++ (zwE cI cJ aE u3.2.1 u3.2.2.1 u3.2.2.2.1 u3.2.2.2.2.1 u3.2.2.2.2.2.1 u3.2.2.2.2.2.2.1 u3.2.2.2.2.2.2.2.1 u3.2.2.2.2.2.2.2.2.1 u3.2.2.2.2.2.2.2.2.2 ++ (zwC cI aR Rcandidates Rballots Rseats Rwithdrawn (upd Rvoters Nballots.toNatClampNeg x3) Rsets Rrank)))) H locs := hw
        refine lv_if_eq (tgt := 98) hx hb dX4_joins_93 (by decide) (fun c7 => ?_) (fun c7 => ?_)
        · replace hf := zk_t c7 hf
          refine lv_iinc (v := (x3 + (1 : Int32))) (lv' := [(3, .int (x3 + (1 : Int32))), (0, .ref (aL 0)), (1, .int x1), (2, .int x2)]) hx hb dX4_joins_98 hl (k := 3) rfl rfl (by decide) rfl (fun ls hl => ?_)
          refine lv_goto (tgt := 55) hx hb dX4_joins_101 (by decide) ?_
          exact ih55 x1 x2 (x3 + (1 : Int32)) u3.2.1 u3.2.2.1 u3.2.2.2.1 u3.2.2.2.2.1 u3.2.2.2.2.2.1 u3.2.2.2.2.2.2.1 u3.2.2.2.2.2.2.2.1 u3.2.2.2.2.2.2.2.2.1 u3.2.2.2.2.2.2.2.2.2 Rcandidates Rballots Rseats Rwithdrawn (upd Rvoters Nballots.toNatClampNeg x3) Rsets Rrank hf H locs ls ⟨P_map hw.1 [0, 5, 6, 7, 8, 9, 10, 11, 1, 2, 3, 4, 12, 13, 14, 15] rfl, hw.2.1.sub [0, 5, 6, 7, 8, 9, 10, 11, 1, 2, 3, 4, 12, 13, 14, 15] (by decide) rfl, hw.2.2⟩ (lv_sub hl [1, 2, 3, 0] rfl)
        · replace hf := zk_f c7 hf
          refine lv_iload_n hx hb dX4_joins_96 rfl (lv_at hl 3 rfl) ?_
          cases hf
          exact zk_iret hx hb hr hlocks rfl hQ hw [0, 5, 6, 7, 8, 9, 10, 11, 1, 2, 3, 4, 12, 13, 14, 15] rfl (by decide) dX4_joins_97
  unfold fX4_joins at hf
  refine lv_iload_n hx hb dX4_joins_0 rfl (lv_at hl 1 rfl) ?_
  obtain ⟨u8, e9, hf⟩ := zk_bd hf
  refine zk_calli (wc := []) (wr := zwL aL (aT 0) (aN 0) (aR 0) (aP 0) (aE 0) ++ (zwE cI cJ aE Eorder Eabove Ebelow Eelected Eset Esupport Eworth Eloads Eunit ++ (zwC cI aN Ncandidates Nballots Nseats Nwithdrawn Nvoters Nsets Nrank ++ (zwC cI aR Rcandidates Rballots Rseats Rwithdrawn Rvoters Rsets Rrank)))) hw hA [] [0, 1, 2, 3, 4, 5, 6, 7, 8, 9, 10, 11, 12, 13, 14, 15] rfl rfl (by decide) (by decide) (va_runS (As := [.int p0]) (rest := []) ⟨hx, hb, hml, hown, hts⟩ (kX4_isLaw l D cI cJ cO N p0 u8 e9 H.size) (va_cwS 1 hts gX4_joins_X4_isLaw rfl rfl rfl (by decide +kernel) ⟨Nat.le_of_ble_eq_true rfl, Nat.le_of_ble_eq_true rfl⟩) (zk_preS (wc := []) hN hK hw [] rfl (by decide)) rfl rfl hl.1 rfl (lv_room (Nat.le_of_ble_eq_true rfl)) dX4_joins_1 ⟨Nat.zero_le _, Nat.zero_le _⟩) (fun H locs hw => ?_)
  have hw : Wd D A s.heap (zwL aL (aT 0) (aN 0) (aR 0) (aP 0) (aE 0) ++ (zwE cI cJ aE Eorder Eabove Ebelow Eelected Eset Esupport Eworth Eloads Eunit ++ (zwC cI aN Ncandidates Nballots Nseats Nwithdrawn Nvoters Nsets Nrank ++ (zwC cI aR Rcandidates Rballots Rseats Rwithdrawn Rvoters Rsets Rrank)))) H locs := hw
  refine lv_if_eq (tgt := 15) hx hb dX4_joins_4 (by decide) (fun c10 => ?_) (fun c10 => ?_)
  · replace hf := zk_t c10 hf
    refine lv_iconst (v := (-1)) hx hb dX4_joins_15 (by decide) ?_
    cases hf
    exact zk_iret hx hb hr hlocks rfl hQ hw [0, 1, 2, 3, 4, 5, 6, 7, 8, 9, 10, 11, 12, 13, 14, 15] rfl (by decide) dX4_joins_16
  · replace hf := zk_f c10 hf
    refine lv_aload_n hx hb dX4_joins_7 rfl (lv_at hl 0 rfl) ?_
    refine lv_iload_n hx hb dX4_joins_8 rfl (lv_at hl 2 rfl) ?_
    obtain ⟨u11, e12, hf⟩ := zk_bd hf
    refine zk_calli (wc := zwL aL (aT 0) (aN 0) (aR 0) (aP 0) (aE 0) ++ (zwC cI aN Ncandidates Nballots Nseats Nwithdrawn Nvoters Nsets Nrank)) (wr := zwE cI cJ aE Eorder Eabove Ebelow Eelected Eset Esupport Eworth Eloads Eunit ++ (zwC cI aR Rcandidates Rballots Rseats Rwithdrawn Rvoters Rsets Rrank)) hw hA [0, 8, 9, 10, 11] [1, 2, 3, 4, 5, 6, 7, 12, 13, 14, 15] rfl rfl (by decide) (by decide) (va_runV (C := RX4) (As := [.int p1]) (rest := []) ⟨hx, hb, hml, hown, hts⟩ (kX4_isCandidate l D cI cJ cO N aL aN aT aR aP aE p1 Ncandidates Nballots Nseats Nwithdrawn Nvoters Nsets Nrank u11 e12 H.size) (cwV 1 hts gX4_joins_X4_isCandidate rfl rfl rfl (by decide +kernel) ⟨Nat.le_of_ble_eq_true rfl, Nat.le_of_ble_eq_true rfl⟩) (zk_preV (wc := zwL aL (aT 0) (aN 0) (aR 0) (aP 0) (aE 0) ++ (zwC cI aN Ncandidates Nballots Nseats Nwithdrawn Nvoters Nsets Nrank)) hN hK hw [0, 8, 9, 10, 11] rfl (by decide) 0 4 rfl rfl) rfl rfl hl.1 rfl (lv_room (Nat.le_of_ble_eq_true rfl)) dX4_joins_9 ⟨Nat.zero_le _, Nat.zero_le _⟩) (fun H locs hw => ?_)
    have hw : Wd D A s.heap (zwE cI cJ aE Eorder Eabove Ebelow Eelected Eset Esupport Eworth Eloads Eunit ++ (zwC cI aR Rcandidates Rballots Rseats Rwithdrawn Rvoters Rsets Rrank ++ (zwL aL (aT 0) (aN 0) (aR 0) (aP 0) (aE 0) ++ (zwC cI aN Ncandidates Nballots Nseats Nwithdrawn Nvoters Nsets Nrank)))) H locs := hw
    refine lv_if_ne (tgt := 17) hx hb dX4_joins_12 (by decide) (fun c13 => ?_) (fun c13 => ?_)
    · replace hf := zk_f c13 hf
      refine lv_aload_n hx hb dX4_joins_17 rfl (lv_at hl 0 rfl) ?_
      refine va_get (D := D) (ci := 4) (v := .ref (aN 0)) (C := RX4) (T := TX4) (N := 5) hx hb hts hiX4 hown hK hw.1 11 rfl rfl 1 (by decide) hq1 (fun _ h9 => h9) rfl dX4_joins_18 ?_
      refine lv_iload_n hx hb dX4_joins_21 rfl (lv_at hl 2 rfl) ?_
      obtain ⟨u14, e15, hf⟩ := zk_bd hf
      refine zk_calli (wc := zwC cI aN Ncandidates Nballots Nseats Nwithdrawn Nvoters Nsets Nrank) (wr := zwE cI cJ aE Eorder Eabove Ebelow Eelected Eset Esupport Eworth Eloads Eunit ++ (zwC cI aR Rcandidates Rballots Rseats Rwithdrawn Rvoters Rsets Rrank ++ (zwL aL (aT 0) (aN 0) (aR 0) (aP 0) (aE 0)))) hw hA [12, 13, 14, 15] [0, 1, 2, 3, 4, 5, 6, 7, 8, 9, 10, 11] rfl rfl (by decide) (by decide) (va_runVN (C := RX0) (As := [.int p1]) (rest := []) ⟨hx, hb, hml, hown, hts⟩ (kX0_isWithdrawn l D cI cJ cO N aN p1 Ncandidates Nballots Nseats Nwithdrawn Nvoters Nsets Nrank u14 e15 H.size) ⟨va_cnB 1 hts ggX4_joins_X0_isWithdrawn rfl rfl rfl (nwM_X4_111 hN) hq6 (by decide +kernel) ⟨Nat.le_of_ble_eq_true rfl, Nat.le_of_ble_eq_true rfl⟩, hq7, hq8⟩ (zk_preV (wc := zwC cI aN Ncandidates Nballots Nseats Nwithdrawn Nvoters Nsets Nrank) hN hK hw [12, 13, 14, 15] rfl (by decide) 12 0 rfl rfl) rfl rfl hl.1 rfl (lv_room (Nat.le_of_ble_eq_true rfl)) dX4_joins_22 ⟨Nat.zero_le _, Nat.zero_le _⟩) (fun H locs hw => ?_)
      have hw : Wd D A s.heap (zwE cI cJ aE Eorder Eabove Ebelow Eelected Eset Esupport Eworth Eloads Eunit ++ (zwC cI aR Rcandidates Rballots Rseats Rwithdrawn Rvoters Rsets Rrank ++ (zwL aL (aT 0) (aN 0) (aR 0) (aP 0) (aE 0) ++ (zwC cI aN Ncandidates Nballots Nseats Nwithdrawn Nvoters Nsets Nrank)))) H locs := hw
      refine lv_if_eq (tgt := 31) hx hb dX4_joins_25 (by decide) (fun c16 => ?_) (fun c16 => ?_)
      · replace hf := zk_t c16 hf
        refine lv_aload_n hx hb dX4_joins_31 rfl (lv_at hl 0 rfl) ?_
        refine va_get (D := D) (ci := 4) (v := .ref (aR 0)) (C := RX4) (T := TX4) (N := 5) hx hb hts hiX4 hown hK hw.1 11 rfl rfl 2 (by decide) hq0 (fun _ h9 => h9) rfl dX4_joins_32 ?_
        refine lv_aload_n hx hb dX4_joins_35 rfl (lv_at hl 0 rfl) ?_
        refine va_get (D := D) (ci := 4) (v := .ref (aN 0)) (C := RX4) (T := TX4) (N := 5) hx hb hts hiX4 hown hK hw.1 11 rfl rfl 1 (by decide) hq1 (fun _ h9 => h9) rfl dX4_joins_36 ?_
        obtain ⟨u17, e18, hf⟩ := zk_bd hf
        refine zk_callv (wc := zwC cI aR Rcandidates Rballots Rseats Rwithdrawn Rvoters Rsets Rrank ++ (zwC cI aN Ncandidates Nballots Nseats Nwithdrawn Nvoters Nsets Nrank)) (wr := zwE cI cJ aE Eorder Eabove Ebelow Eelected Eset Esupport Eworth Eloads Eunit ++ (zwL aL (aT 0) (aN 0) (aR 0) (aP 0) (aE 0))) hw hA [7, 8, 9, 10, 12, 13, 14, 15] [0, 1, 2, 3, 4, 5, 6, 11] rfl rfl (by decide) (by decide) (va_runVN (C := RX0) (As := [.ref (aN 0)]) (rest := []) ⟨hx, hb, hml, hown, hts⟩ (kX0_copyFrom l D cI cJ cO N aR aN Rcandidates Rballots Rseats Rwithdrawn Rvoters Rsets Rrank Ncandidates Nballots Nseats Nwithdrawn Nvoters Nsets Nrank u17 e18 H.size) ⟨va_cnB 1 hts ggX4_joins_X0_copyFrom rfl rfl rfl (nwM_X4_69 hN) hq6 (by decide +kernel) ⟨Nat.le_of_ble_eq_true rfl, Nat.le_of_ble_eq_true rfl⟩, hq9, hq10⟩ (zk_preV (wc := zwC cI aR Rcandidates Rballots Rseats Rwithdrawn Rvoters Rsets Rrank ++ (zwC cI aN Ncandidates Nballots Nseats Nwithdrawn Nvoters Nsets Nrank)) hN hK hw [7, 8, 9, 10, 12, 13, 14, 15] rfl (by decide) 7 0 rfl rfl) rfl rfl hl.1 rfl (lv_room (Nat.le_of_ble_eq_true rfl)) dX4_joins_39 ⟨Nat.zero_le _, Nat.zero_le _⟩) (fun H locs hw => ?_)
        have hw : Wd D A s.heap (zwE cI cJ aE Eorder Eabove Ebelow Eelected Eset Esupport Eworth Eloads Eunit ++ (zwL aL (aT 0) (aN 0) (aR 0) (aP 0) (aE 0) ++ (zwC cI aR u17.1 u17.2.1 u17.2.2.1 u17.2.2.2.1 u17.2.2.2.2.1 u17.2.2.2.2.2.1 u17.2.2.2.2.2.2 ++ (zwC cI aN Ncandidates Nballots Nseats Nwithdrawn Nvoters Nsets Nrank)))) H locs := hw
        refine lv_aload_n hx hb dX4_joins_42 rfl (lv_at hl 0 rfl) ?_
        refine va_get (D := D) (ci := 4) (v := .ref (aR 0)) (C := RX4) (T := TX4) (N := 5) hx hb hts hiX4 hown hK hw.1 7 rfl rfl 2 (by decide) hq0 (fun _ h9 => h9) rfl dX4_joins_43 ?_
        refine lv_iconst (v := 0) hx hb dX4_joins_46 (by decide) ?_
        refine lv_iconst (v := 1) hx hb dX4_joins_47 (by decide) ?_
        refine lv_iload_n hx hb dX4_joins_48 rfl (lv_at hl 2 rfl) ?_
        refine lv_ishl hx hb dX4_joins_49 ?_
        obtain ⟨u19, e20, hf⟩ := zk_bd hf
        refine zk_callv (wc := zwC cI aR u17.1 u17.2.1 u17.2.2.1 u17.2.2.2.1 u17.2.2.2.2.1 u17.2.2.2.2.2.1 u17.2.2.2.2.2.2) (wr := zwE cI cJ aE Eorder Eabove Ebelow Eelected Eset Esupport Eworth Eloads Eunit ++ (zwL aL (aT 0) (aN 0) (aR 0) (aP 0) (aE 0) ++ (zwC cI aN Ncandidates Nballots Nseats Nwithdrawn Nvoters Nsets Nrank))) hw hA [8, 9, 10, 11] [0, 1, 2, 3, 4, 5, 6, 7, 12, 13, 14, 15] rfl rfl (by decide) (by decide) (va_runVN (C := RX0) (As := [.int (0 : Int32), .int ((1 : Int32) <<< (p1 &&& 31))]) (rest := []) ⟨hx, hb, hml, hown, hts⟩ (kX0_addBallot l D cI cJ cO N aR (0 : Int32) ((1 : Int32) <<< (p1 &&& 31)) u17.1 u17.2.1 u17.2.2.1 u17.2.2.2.1 u17.2.2.2.2.1 u17.2.2.2.2.2.1 u17.2.2.2.2.2.2 u19 e20 H.size) ⟨va_cnB 2 hts ggX4_joins_X0_addBallot rfl rfl rfl (nwM_X4_91 hN) hq6 (by decide +kernel) ⟨Nat.le_of_ble_eq_true rfl, Nat.le_of_ble_eq_true rfl⟩, hq11, hq12⟩ (zk_preV (wc := zwC cI aR u17.1 u17.2.1 u17.2.2.1 u17.2.2.2.1 u17.2.2.2.2.1 u17.2.2.2.2.2.1 u17.2.2.2.2.2.2) hN hK hw [8, 9, 10, 11] rfl (by decide) 8 0 rfl rfl) rfl rfl hl.1 rfl (lv_room (Nat.le_of_ble_eq_true rfl)) dX4_joins_50 ⟨Nat.zero_le _, Nat.zero_le _⟩) (fun H locs hw => ?_)
        have hw : Wd D A s.heap (zwE cI cJ aE Eorder Eabove Ebelow Eelected Eset Esupport Eworth Eloads Eunit ++ (zwL aL (aT 0) (aN 0) (aR 0) (aP 0) (aE 0) ++ (zwC cI aN Ncandidates Nballots Nseats Nwithdrawn Nvoters Nsets Nrank ++ (zwC cI aR u17.1 u19.1 u17.2.2.1 u17.2.2.2.1 u19.2.1 u19.2.2 u17.2.2.2.2.2.2)))) H locs := hw
        refine lv_iconst (v := 0) hx hb dX4_joins_53 (by decide) ?_
        refine lv_istore_n (lv' := [(3, .int (0 : Int32)), (0, .ref (aL 0)), (1, .int p0), (2, .int p1)]) hx hb dX4_joins_54 rfl hl (by decide) rfl (fun ls hl => ?_)
        exact b55 N p0 p1 (0 : Int32) Eorder Eabove Ebelow Eelected Eset Esupport Eworth Eloads Eunit u17.1 u19.1 u17.2.2.1 u17.2.2.2.1 u19.2.1 u19.2.2 u17.2.2.2.2.2.2 hf H locs ls ⟨P_map hw.1 [7, 0, 1, 2, 3, 4, 5, 6, 8, 9, 10, 11, 12, 13, 14, 15] rfl, hw.2.1.sub [7, 0, 1, 2, 3, 4, 5, 6, 8, 9, 10, 11, 12, 13, 14, 15] (by decide) rfl, hw.2.2⟩ (lv_sub hl [1, 2, 3, 0] rfl)
      · replace hf := zk_f c16 hf
        refine lv_bipush (v := (-2)) hx hb dX4_joins_28 (by decide) ?_
        cases hf
        exact zk_iret hx hb hr hlocks rfl hQ hw [11, 0, 1, 2, 3, 4, 5, 6, 12, 13, 14, 15, 7, 8, 9, 10] rfl (by decide) dX4_joins_30
    · replace hf := zk_t c13 hf
      refine lv_iconst (v := (-1)) hx hb dX4_joins_15 (by decide) ?_
      cases hf
      exact zk_iret hx hb hr hlocks rfl hQ hw [11, 0, 1, 2, 3, 4, 5, 6, 12, 13, 14, 15, 7, 8, 9, 10] rfl (by decide) dX4_joins_16
set_option maxHeartbeats 4000000 in
set_option maxRecDepth 100000 in
theorem kX4_matters (l : Launch) (D : va_G) (cI cJ cO : ClassId) (N : Nat) (aL aE aN aR : Nat → Nat) (aT aP : Nat → Nat) (p0 : Int32) (Eorder : Nat → Int32) (Eabove : Nat → Int64) (Ebelow : Nat → Int64) (Eelected : Int32) (Eset : Int32) (Esupport : Nat → Int32) (Eworth : Nat → Int64) (Eloads : Nat → Int64) (Eunit : Int64) (Ncandidates : Int32) (Nballots : Int32) (Nseats : Int32) (Nwithdrawn : Int32) (Nvoters : Nat → Int32) (Nsets : Nat → Int32) (Nrank : Nat → Int32) (Rcandidates : Int32) (Rballots : Int32) (Rseats : Int32) (Rwithdrawn : Int32) (Rvoters : Nat → Int32) (Rsets : Nat → Int32) (Rrank : Nat → Int32) (u : Int32 × (Nat → Int32) × (Nat → Int64) × (Nat → Int64) × (Int32) × (Int32) × (Nat → Int32) × (Nat → Int64) × (Nat → Int64) × (Int64) × (Int32) × (Int32) × (Int32) × (Int32) × (Nat → Int32) × (Nat → Int32) × (Nat → Int32)) (hf : fX4_matters N p0 Eorder Eabove Ebelow Eelected Eset Esupport Eworth Eloads Eunit Ncandidates Nballots Nseats Nwithdrawn Nvoters Nsets Nrank Rcandidates Rballots Rseats Rwithdrawn Rvoters Rsets Rrank = some u) : CtI l yX4_matters wsX4_matters (zk_rm 5 117) D cI cJ cO [.ref (aL 0), .int p0] (zwL aL (aT 0) (aN 0) (aR 0) (aP 0) (aE 0) ++ (zwE cI cJ aE Eorder Eabove Ebelow Eelected Eset Esupport Eworth Eloads Eunit ++ (zwC cI aN Ncandidates Nballots Nseats Nwithdrawn Nvoters Nsets Nrank ++ (zwC cI aR Rcandidates Rballots Rseats Rwithdrawn Rvoters Rsets Rrank)))) (zwL aL (aT 0) (aN 0) (aR 0) (aP 0) (aE 0) ++ (zwE cI cJ aE u.2.1 u.2.2.1 u.2.2.2.1 u.2.2.2.2.1 u.2.2.2.2.2.1 u.2.2.2.2.2.2.1 u.2.2.2.2.2.2.2.1 u.2.2.2.2.2.2.2.2.1 u.2.2.2.2.2.2.2.2.2.1 ++ (zwC cI aN Ncandidates Nballots Nseats Nwithdrawn Nvoters Nsets Nrank ++ (zwC cI aR u.2.2.2.2.2.2.2.2.2.2.1 u.2.2.2.2.2.2.2.2.2.2.2.1 u.2.2.2.2.2.2.2.2.2.2.2.2.1 u.2.2.2.2.2.2.2.2.2.2.2.2.2.1 u.2.2.2.2.2.2.2.2.2.2.2.2.2.2.1 u.2.2.2.2.2.2.2.2.2.2.2.2.2.2.2.1 u.2.2.2.2.2.2.2.2.2.2.2.2.2.2.2.2)))) (u.1) := by
  refine zk_enter (cc := cX4_matters) (maxL := 5) (ret := some .int) (own := RX4) (Qf := fun A => QwI D (zwL aL (aT 0) (aN 0) (aR 0) (aP 0) (aE 0) ++ (zwE cI cJ aE u.2.1 u.2.2.1 u.2.2.2.1 u.2.2.2.2.1 u.2.2.2.2.2.1 u.2.2.2.2.2.2.1 u.2.2.2.2.2.2.2.1 u.2.2.2.2.2.2.2.2.1 u.2.2.2.2.2.2.2.2.2.1 ++ (zwC cI aN Ncandidates Nballots Nseats Nwithdrawn Nvoters Nsets Nrank ++ (zwC cI aR u.2.2.2.2.2.2.2.2.2.2.1 u.2.2.2.2.2.2.2.2.2.2.2.1 u.2.2.2.2.2.2.2.2.2.2.2.2.1 u.2.2.2.2.2.2.2.2.2.2.2.2.2.1 u.2.2.2.2.2.2.2.2.2.2.2.2.2.2.1 u.2.2.2.2.2.2.2.2.2.2.2.2.2.2.2.1 u.2.2.2.2.2.2.2.2.2.2.2.2.2.2.2.2)))) (u.1) A) (by decide) rfl rfl (Nat.le_of_ble_eq_true rfl) ?_
  intro p e s m args below meth c A Q H locs ls hC hQ hw hl
  obtain ⟨hx, hb, hml, hr, hts, hown, hlocks, hN, hK, hA⟩ := hC
  have hl : lv_has ls 5 [(0, .ref (aL 0)), (1, .int p0)] := hl
  have hiX4 : ∀ w ∈ u_ws RX4 TX4 5, w ∈ wsX4_matters := by decide +kernel
  have hiX0 : ∀ w ∈ u_ws RX0 TX0 7, w ∈ wsX4_matters := by decide +kernel
  have hq0 := hts (.fieldLink RX4 23 "LoadCouncil" "trial" "LLoadCouncil$Council;") (by decide +kernel)
  have hq1 := hts (.fieldLink RX4 19 "LoadCouncil" "now" "LLoadCouncil$Council;") (by decide +kernel)
  have hq2 := hts (.fieldLink RX4 36 "LoadCouncil" "election" "LLoadCouncil$Election;") (by decide +kernel)
  have hq3 := hts (.initialized RX1) (by decide +kernel)
  have hq4 := hts (.instanceMethod yX1_hold) (by decide +kernel)
  have hq5 := hts (.selects RX1 yX1_hold yX1_hold) (by decide +kernel)
  have hq6 := hts (.initialized RX0) (by decide +kernel)
  have hq7 := hts (.instanceMethod yX0_copyFrom) (by decide +kernel)
  have hq8 := hts (.selects RX0 yX0_copyFrom yX0_copyFrom) (by decide +kernel)
  have b38 : ∀ (n38 : Nat), ∀ (x1 : Int32) (x2 : Int32) (x3 : Int32) (x4 : Int32) (Eorder : Nat → Int32) (Eabove : Nat → Int64) (Ebelow : Nat → Int64) (Eelected : Int32) (Eset : Int32) (Esupport : Nat → Int32) (Eworth : Nat → Int64) (Eloads : Nat → Int64) (Eunit : Int64) (Rcandidates : Int32) (Rballots : Int32) (Rseats : Int32) (Rwithdrawn : Int32) (Rvoters : Nat → Int32) (Rsets : Nat → Int32) (Rrank : Nat → Int32), fX4_matters_b38 N n38 x1 x2 x3 x4 Eorder Eabove Ebelow Eelected Eset Esupport Eworth Eloads Eunit Nballots Nvoters Rcandidates Rballots Rseats Rwithdrawn Rvoters Rsets Rrank = some u → ∀ (H : Heap) (locs : List Loc) (ls : Array Slot), Wd D A s.heap (zwL aL (aT 0) (aN 0) (aR 0) (aP 0) (aE 0) ++ (zwE cI cJ aE Eorder Eabove Ebelow Eelected Eset Esupport Eworth Eloads Eunit ++ (zwC cI aN Ncandidates Nballots Nseats Nwithdrawn Nvoters Nsets Nrank ++ (zwC cI aR Rcandidates Rballots Rseats Rwithdrawn Rvoters Rsets Rrank)))) H locs → lv_has ls 5 [(0, .ref (aL 0)), (1, .int x1), (2, .int x2), (3, .int x3), (4, .int x4)] → W p l e (zk_rm 5 117) s m args below meth c H locs 0 0 Q (F0 m 38 ls []) := by
    intro n38
    induction n38 with
    | zero =>
      intro x1 x2 x3 x4 Eorder Eabove Ebelow Eelected Eset Esupport Eworth Eloads Eunit Rcandidates Rballots Rseats Rwithdrawn Rvoters Rsets Rrank hf
      exact zk_none hf
    | succ n38 ih38 =>
      have b95 : ∀ (x1 : Int32) (x2 : Int32) (x3 : Int32) (x4 : Int32) (Eorder : Nat → Int32) (Eabove : Nat → Int64) (Ebelow : Nat → Int64) (Eelected : Int32) (Eset : Int32) (Esupport : Nat → Int32) (Eworth : Nat → Int64) (Eloads : Nat → Int64) (Eunit : Int64) (Rcandidates : Int32) (Rballots : Int32) (Rseats : Int32) (Rwithdrawn : Int32) (Rvoters : Nat → Int32) (Rsets : Nat → Int32) (Rrank : Nat → Int32), fX4_matters_b95 N (fun z0 z1 z2 z3 z4 z5 z6 z7 z8 z9 z10 z11 z12 z13 z14 z15 z16 z17 z18 z19 z20 z21 => fX4_matters_b38 N n38 z0 z1 z2 z3 z4 z5 z6 z7 z8 z9 z10 z11 z12 z13 z14 z15 z16 z17 z18 z19 z20 z21) x1 x2 x3 x4 Eorder Eabove Ebelow Eelected Eset Esupport Eworth Eloads Eunit Nballots Nvoters Rcandidates Rballots Rseats Rwithdrawn Rvoters Rsets Rrank = some u → ∀ (H : Heap) (locs : List Loc) (ls : Array Slot), Wd D A s.heap (zwL aL (aT 0) (aN 0) (aR 0) (aP 0) (aE 0) ++ (zwE cI cJ aE Eorder Eabove Ebelow Eelected Eset Esupport Eworth Eloads Eunit ++ (zwC cI aN Ncandidates Nballots Nseats Nwithdrawn Nvoters Nsets Nrank ++ (zwC cI aR Rcandidates Rballots Rseats Rwithdrawn Rvoters Rsets Rrank)))) H locs → lv_has ls 5 [(0, .ref (aL 0)), (1, .int x1), (2, .int x2), (3, .int x3), (4, .int x4)] → W p l e (zk_rm 5 117) s m args below meth c H locs 0 0 Q (F0 m 95 ls []) := by
        intro x1 x2 x3 x4 Eorder Eabove Ebelow Eelected Eset Esupport Eworth Eloads Eunit Rcandidates Rballots Rseats Rwithdrawn Rvoters Rsets Rrank hf H locs ls hw hl
        unfold fX4_matters_b95 at hf
        refine lv_aload_n hx hb dX4_matters_95 rfl (lv_at hl 0 rfl) ?_
        refine va_get (D := D) (ci := 4) (v := .ref (aR 0)) (C := RX4) (T := TX4) (N := 5) hx hb hts hiX4 hown hK hw.1 0 rfl rfl 2 (by decide) hq0 (fun _ h9 => h9) rfl dX4_matters_96 ?_
        refine va_getN (D := D) (ci := 0) (v := .ref (aR 1)) (C := RX0) (T := TX0) (N := 7) hx hb hts hiX0 hown hK hw.1 12 rfl rfl 4 (by decide) (va_Nw.use rfl (nwF_X4_98 hN)) (fun _ h9 => h9) rfl dX4_matters_99 ?_
        refine lv_iload hx hb dX4_matters_102 (lv_at hl 4 rfl) ?_
        refine lv_aload_n hx hb dX4_matters_104 rfl (lv_at hl 0 rfl) ?_
        refine va_get (D := D) (ci := 4) (v := .ref (aN 0)) (C := RX4) (T := TX4) (N := 5) hx hb hts hiX4 hown hK hw.1 0 rfl rfl 1 (by decide) hq1 (fun _ h9 => h9) rfl dX4_matters_105 ?_
        refine va_getN (D := D) (ci := 0) (v := .ref (aN 1)) (C := RX0) (T := TX0) (N := 7) hx hb hts hiX0 hown hK hw.1 8 rfl rfl 4 (by decide) (va_Nw.use rfl (nwF_X4_98 hN)) (fun _ h9 => h9) rfl dX4_matters_108 ?_
        refine lv_iload hx hb dX4_matters_111 (lv_at hl 4 rfl) ?_
        obtain ⟨h1, hf⟩ := zk_ck hf
        refine zk_iald hx hb hK hw 9 rfl h1 (j := x4.toNatClampNeg) rfl dX4_matters_113 ?_
        refine zk_iast hx hb hK hw 13 rfl h1 (j := x4.toNatClampNeg) rfl dX4_matters_114 (fun H locs hw => ?_)
        have hw : Wd D A s.heap (zwL aL (aT 0) (aN 0) (aR 0) (aP 0) (aE 0) ++ (zwE cI cJ aE Eorder Eabove Ebelow Eelected Eset Esupport Eworth Eloads Eunit ++ (zwC cI aN Ncandidates Nballots Nseats Nwithdrawn Nvoters Nsets Nrank ++ (zwC cI aR Rcandidates Rballots Rseats Rwithdrawn (upd Rvoters x4.toNatClampNeg (Nvoters x4.toNatClampNeg)) Rsets Rrank)))) H locs := hw
        refine lv_iinc (v := (x4 + (1 : Int32))) (lv' := [(4, .int (x4 + (1 : Int32))), (0, .ref (aL 0)), (1, .int x1), (2, .int x2), (3, .int x3)]) hx hb dX4_matters_115 hl (k := 4) rfl rfl (by decide) rfl (fun ls hl => ?_)
        refine lv_goto (tgt := 38) hx hb dX4_matters_118 (by decide) ?_
        exact ih38 x1 x2 x3 (x4 + (1 : Int32)) Eorder Eabove Ebelow Eelected Eset Esupport Eworth Eloads Eunit Rcandidates Rballots Rseats Rwithdrawn (upd Rvoters x4.toNatClampNeg (Nvoters x4.toNatClampNeg)) Rsets Rrank hf H locs ls hw (lv_sub hl [1, 2, 3, 4, 0] rfl)
      intro x1 x2 x3 x4 Eorder Eabove Ebelow Eelected Eset Esupport Eworth Eloads Eunit Rcandidates Rballots Rseats Rwithdrawn Rvoters Rsets Rrank hf H locs ls hw hl
      rw [fX4_matters_b38] at hf
      refine lv_iload hx hb dX4_matters_38 (lv_at hl 4 rfl) ?_
      refine lv_aload_n hx hb dX4_matters_40 rfl (lv_at hl 0 rfl) ?_
      refine va_get (D := D) (ci := 4) (v := .ref (aN 0)) (C := RX4) (T := TX4) (N := 5) hx hb hts hiX4 hown hK hw.1 0 rfl rfl 1 (by decide) hq1 (fun _ h9 => h9) rfl dX4_matters_41 ?_
      refine va_getN (D := D) (ci := 0) (v := .int Nballots) (C := RX0) (T := TX0) (N := 7) hx hb hts hiX0 hown hK hw.1 8 rfl rfl 1 (by decide) (va_Nw.use rfl (nwF_X4_82 hN)) (fun _ h9 => h9) rfl dX4_matters_44 ?_
      refine lv_icmp_ge (tgt := 121) hx hb dX4_matters_47 (by decide) (fun c2 => ?_) (fun c2 => ?_)
      · replace hf := zk_t c2 hf
        refine lv_iload_n hx hb dX4_matters_121 rfl (lv_at hl 3 rfl) ?_
        cases hf
        exact zk_iret hx hb hr hlocks rfl hQ hw [0, 1, 2, 3, 4, 5, 6, 7, 8, 9, 10, 11, 12, 13, 14, 15] rfl (by decide) dX4_matters_122
      · replace hf := zk_f c2 hf
        refine lv_aload_n hx hb dX4_matters_50 rfl (lv_at hl 0 rfl) ?_
        refine va_get (D := D) (ci := 4) (v := .ref (aR 0)) (C := RX4) (T := TX4) (N := 5) hx hb hts hiX4 hown hK hw.1 0 rfl rfl 2 (by decide) hq0 (fun _ h9 => h9) rfl dX4_matters_51 ?_
        refine va_getN (D := D) (ci := 0) (v := .ref (aR 1)) (C := RX0) (T := TX0) (N := 7) hx hb hts hiX0 hown hK hw.1 12 rfl rfl 4 (by decide) (va_Nw.use rfl (nwF_X4_98 hN)) (fun _ h9 => h9) rfl dX4_matters_54 ?_
        refine lv_iload hx hb dX4_matters_57 (lv_at hl 4 rfl) ?_
        refine lv_aload_n hx hb dX4_matters_59 rfl (lv_at hl 0 rfl) ?_
        refine va_get (D := D) (ci := 4) (v := .ref (aN 0)) (C := RX4) (T := TX4) (N := 5) hx hb hts hiX4 hown hK hw.1 0 rfl rfl 1 (by decide) hq1 (fun _ h9 => h9) rfl dX4_matters_60 ?_
        refine va_getN (D := D) (ci := 0) (v := .ref (aN 1)) (C := RX0) (T := TX0) (N := 7) hx hb hts hiX0 hown hK hw.1 8 rfl rfl 4 (by decide) (va_Nw.use rfl (nwF_X4_98 hN)) (fun _ h9 => h9) rfl dX4_matters_63 ?_
        refine lv_iload hx hb dX4_matters_66 (lv_at hl 4 rfl) ?_
        obtain ⟨h3, hf⟩ := zk_ck hf
        refine zk_iald hx hb hK hw 9 rfl h3 (j := x4.toNatClampNeg) rfl dX4_matters_68 ?_
        refine lv_iconst (v := 1) hx hb dX4_matters_69 (by decide) ?_
        refine lv_isub hx hb dX4_matters_70 ?_
        refine zk_iast hx hb hK hw 13 rfl h3 (j := x4.toNatClampNeg) rfl dX4_matters_71 (fun H locs hw => ?_)
        have hw : Wd D A s.heap (zwL aL (aT 0) (aN 0) (aR 0) (aP 0) (aE 0) ++ (zwE cI cJ aE Eorder Eabove Ebelow Eelected Eset Esupport Eworth Eloads Eunit ++ (zwC cI aN Ncandidates Nballots Nseats Nwithdrawn Nvoters Nsets Nrank ++ (zwC cI aR Rcandidates Rballots Rseats Rwithdrawn (upd Rvoters x4.toNatClampNeg ((Nvoters x4.toNatClampNeg) - (1 : Int32))) Rsets Rrank)))) H locs := hw
        refine lv_aload_n hx hb dX4_matters_72 rfl (lv_at hl 0 rfl) ?_
        refine va_get (D := D) (ci := 4) (v := .ref (aE 0)) (C := RX4) (T := TX4) (N := 5) hx hb hts hiX4 hown hK hw.1 0 rfl rfl 4 (by decide) hq2 (fun _ h9 => h9) rfl dX4_matters_73 ?_
        refine lv_aload_n hx hb dX4_matters_76 rfl (lv_at hl 0 rfl) ?_
        refine va_get (D := D) (ci := 4) (v := .ref (aR 0)) (C := RX4) (T := TX4) (N := 5) hx hb hts hiX4 hown hK hw.1 0 rfl rfl 2 (by decide) hq0 (fun _ h9 => h9) rfl dX4_matters_77 ?_
        refine lv_iload_n hx hb dX4_matters_80 rfl (lv_at hl 1 rfl) ?_
        obtain ⟨u4, e5, hf⟩ := zk_bd hf
        refine zk_calli (wc := zwE cI cJ aE Eorder Eabove Ebelow Eelected Eset Esupport Eworth Eloads Eunit ++ (zwC cI aR Rcandidates Rballots Rseats Rwithdrawn (upd Rvoters x4.toNatClampNeg ((Nvoters x4.toNatClampNeg) - (1 : Int32))) Rsets Rrank)) (wr := zwL aL (aT 0) (aN 0) (aR 0) (aP 0) (aE 0) ++ (zwC cI aN Ncandidates Nballots Nseats Nwithdrawn Nvoters Nsets Nrank)) hw hA [1, 2, 3, 4, 5, 6, 7, 12, 13, 14, 15] [0, 8, 9, 10, 11] rfl rfl (by decide) (by decide) (va_runVN (C := RX1) (As := [.ref (aR 0), .int x1]) (rest := []) ⟨hx, hb, hml, hown, hts⟩ (kX1_hold l D cI cJ cO N aE aR x1 Eorder Eabove Ebelow Eelected Eset Esupport Eworth Eloads Eunit Rcandidates Rballots Rseats Rwithdrawn (upd Rvoters x4.toNatClampNeg ((Nvoters x4.toNatClampNeg) - (1 : Int32))) Rsets Rrank u4 e5 H.size) ⟨va_cnB 2 hts ggX4_matters_X1_hold rfl rfl rfl (nwM_X4_142 hN) hq3 (by decide +kernel) ⟨Nat.le_of_ble_eq_true rfl, Nat.le_of_ble_eq_true rfl⟩, hq4, hq5⟩ (zk_preV (wc := zwE cI cJ aE Eorder Eabove Ebelow Eelected Eset Esupport Eworth Eloads Eunit ++ (zwC cI aR Rcandidates Rballots Rseats Rwithdrawn (upd Rvoters x4.toNatClampNeg ((Nvoters x4.toNatClampNeg) - (1 : Int32))) Rsets Rrank)) hN hK hw [1, 2, 3, 4, 5, 6, 7, 12, 13, 14, 15] rfl (by decide) 1 1 rfl rfl) rfl rfl hl.1 rfl (lv_room (Nat.le_of_ble_eq_true rfl)) dX4_matters_81 ⟨Nat.zero_le _, Nat.zero_le _⟩) (fun H locs hw => ?_)
        have hw : Wd D A s.heap (zwL aL (aT 0) (aN 0) (aR 0) (aP 0) (aE 0) ++ (zwC cI aN Ncandidates Nballots Nseats Nwithdrawn Nvoters Nsets Nrank ++ (zwE cI cJ aE u4.2.1 u4.2.2.1 u4.2.2.2.1 u4.2.2.2.2.1 u4.2.2.2.2.2.1 u4.2.2.2.2.2.2.1 u4.2.2.2.2.2.2.2.1 u4.2.2.2.2.2.2.2.2.1 u4.2.2.2.2.2.2.2.2.2 ++ (zwC cI aR Rcandidates Rballots Rseats Rwithdrawn (upd Rvoters x4.toNatClampNeg ((Nvoters x4.toNatClampNeg) - (1 : Int32))) Rsets Rrank)))) H locs := hw
        refine lv_iload_n hx hb dX4_matters_84 rfl (lv_at hl 2 rfl) ?_
        refine lv_icmp_eq (tgt := 95) hx hb dX4_matters_85 (by decide) (fun c6 => ?_) (fun c6 => ?_)
        · replace hf := zk_t c6 hf
          exact b95 x1 x2 x3 x4 u4.2.1 u4.2.2.1 u4.2.2.2.1 u4.2.2.2.2.1 u4.2.2.2.2.2.1 u4.2.2.2.2.2.2.1 u4.2.2.2.2.2.2.2.1 u4.2.2.2.2.2.2.2.2.1 u4.2.2.2.2.2.2.2.2.2 Rcandidates Rballots Rseats Rwithdrawn (upd Rvoters x4.toNatClampNeg ((Nvoters x4.toNatClampNeg) - (1 : Int32))) Rsets Rrank hf H locs ls ⟨P_map hw.1 [0, 5, 6, 7, 8, 9, 10, 11, 1, 2, 3, 4, 12, 13, 14, 15] rfl, hw.2.1.sub [0, 5, 6, 7, 8, 9, 10, 11, 1, 2, 3, 4, 12, 13, 14, 15] (by decide) rfl, hw.2.2⟩ (lv_sub hl [0, 1, 2, 3, 4] rfl)
        · replace hf := zk_f c6 hf
          refine lv_iload_n hx hb dX4_matters_88 rfl (lv_at hl 3 rfl) ?_
          refine lv_iconst (v := 1) hx hb dX4_matters_89 (by decide) ?_
          refine lv_iload hx hb dX4_matters_90 (lv_at hl 4 rfl) ?_
          refine lv_ishl hx hb dX4_matters_92 ?_
          refine lv_ior hx hb dX4_matters_93 ?_
          refine lv_istore_n (lv' := [(3, .int (x3 ||| ((1 : Int32) <<< (x4 &&& 31)))), (0, .ref (aL 0)), (1, .int x1), (2, .int x2), (4, .int x4)]) hx hb dX4_matters_94 rfl hl (by decide) rfl (fun ls hl => ?_)
          exact b95 x1 x2 (x3 ||| ((1 : Int32) <<< (x4 &&& 31))) x4 u4.2.1 u4.2.2.1 u4.2.2.2.1 u4.2.2.2.2.1 u4.2.2.2.2.2.1 u4.2.2.2.2.2.2.1 u4.2.2.2.2.2.2.2.1 u4.2.2.2.2.2.2.2.2.1 u4.2.2.2.2.2.2.2.2.2 Rcandidates Rballots Rseats Rwithdrawn (upd Rvoters x4.toNatClampNeg ((Nvoters x4.toNatClampNeg) - (1 : Int32))) Rsets Rrank hf H locs ls ⟨P_map hw.1 [0, 5, 6, 7, 8, 9, 10, 11, 1, 2, 3, 4, 12, 13, 14, 15] rfl, hw.2.1.sub [0, 5, 6, 7, 8, 9, 10, 11, 1, 2, 3, 4, 12, 13, 14, 15] (by decide) rfl, hw.2.2⟩ (lv_sub hl [1, 2, 3, 0, 4] rfl)
  unfold fX4_matters at hf
  refine lv_iload_n hx hb dX4_matters_0 rfl (lv_at hl 1 rfl) ?_
  obtain ⟨u7, e8, hf⟩ := zk_bd hf
  refine zk_calli (wc := []) (wr := zwL aL (aT 0) (aN 0) (aR 0) (aP 0) (aE 0) ++ (zwE cI cJ aE Eorder Eabove Ebelow Eelected Eset Esupport Eworth Eloads Eunit ++ (zwC cI aN Ncandidates Nballots Nseats Nwithdrawn Nvoters Nsets Nrank ++ (zwC cI aR Rcandidates Rballots Rseats Rwithdrawn Rvoters Rsets Rrank)))) hw hA [] [0, 1, 2, 3, 4, 5, 6, 7, 8, 9, 10, 11, 12, 13, 14, 15] rfl rfl (by decide) (by decide) (va_runS (As := [.int p0]) (rest := []) ⟨hx, hb, hml, hown, hts⟩ (kX4_isLaw l D cI cJ cO N p0 u7 e8 H.size) (va_cwS 1 hts gX4_matters_X4_isLaw rfl rfl rfl (by decide +kernel) ⟨Nat.le_of_ble_eq_true rfl, Nat.le_of_ble_eq_true rfl⟩) (zk_preS (wc := []) hN hK hw [] rfl (by decide)) rfl rfl hl.1 rfl (lv_room (Nat.le_of_ble_eq_true rfl)) dX4_matters_1 ⟨Nat.zero_le _, Nat.zero_le _⟩) (fun H locs hw => ?_)
  have hw : Wd D A s.heap (zwL aL (aT 0) (aN 0) (aR 0) (aP 0) (aE 0) ++ (zwE cI cJ aE Eorder Eabove Ebelow Eelected Eset Esupport Eworth Eloads Eunit ++ (zwC cI aN Ncandidates Nballots Nseats Nwithdrawn Nvoters Nsets Nrank ++ (zwC cI aR Rcandidates Rballots Rseats Rwithdrawn Rvoters Rsets Rrank)))) H locs := hw
  refine lv_if_ne (tgt := 9) hx hb dX4_matters_4 (by decide) (fun c9 => ?_) (fun c9 => ?_)
  · replace hf := zk_f c9 hf
    refine lv_aload_n hx hb dX4_matters_9 rfl (lv_at hl 0 rfl) ?_
    refine va_get (D := D) (ci := 4) (v := .ref (aE 0)) (C := RX4) (T := TX4) (N := 5) hx hb hts hiX4 hown hK hw.1 0 rfl rfl 4 (by decide) hq2 (fun _ h9 => h9) rfl dX4_matters_10 ?_
    refine lv_aload_n hx hb dX4_matters_13 rfl (lv_at hl 0 rfl) ?_
    refine va_get (D := D) (ci := 4) (v := .ref (aN 0)) (C := RX4) (T := TX4) (N := 5) hx hb hts hiX4 hown hK hw.1 0 rfl rfl 1 (by decide) hq1 (fun _ h9 => h9) rfl dX4_matters_14 ?_
    refine lv_iload_n hx hb dX4_matters_17 rfl (lv_at hl 1 rfl) ?_
    obtain ⟨u10, e11, hf⟩ := zk_bd hf
    refine zk_calli (wc := zwE cI cJ aE Eorder Eabove Ebelow Eelected Eset Esupport Eworth Eloads Eunit ++ (zwC cI aN Ncandidates Nballots Nseats Nwithdrawn Nvoters Nsets Nrank)) (wr := zwL aL (aT 0) (aN 0) (aR 0) (aP 0) (aE 0) ++ (zwC cI aR Rcandidates Rballots Rseats Rwithdrawn Rvoters Rsets Rrank)) hw hA [1, 2, 3, 4, 5, 6, 7, 8, 9, 10, 11] [0, 12, 13, 14, 15] rfl rfl (by decide) (by decide) (va_runVN (C := RX1) (As := [.ref (aN 0), .int p0]) (rest := []) ⟨hx, hb, hml, hown, hts⟩ (kX1_hold l D cI cJ cO N aE aN p0 Eorder Eabove Ebelow Eelected Eset Esupport Eworth Eloads Eunit Ncandidates Nballots Nseats Nwithdrawn Nvoters Nsets Nrank u10 e11 H.size) ⟨va_cnB 2 hts ggX4_matters_X1_hold rfl rfl rfl (nwM_X4_142 hN) hq3 (by decide +kernel) ⟨Nat.le_of_ble_eq_true rfl, Nat.le_of_ble_eq_true rfl⟩, hq4, hq5⟩ (zk_preV (wc := zwE cI cJ aE Eorder Eabove Ebelow Eelected Eset Esupport Eworth Eloads Eunit ++ (zwC cI aN Ncandidates Nballots Nseats Nwithdrawn Nvoters Nsets Nrank)) hN hK hw [1, 2, 3, 4, 5, 6, 7, 8, 9, 10, 11] rfl (by decide) 1 1 rfl rfl) rfl rfl hl.1 rfl (lv_room (Nat.le_of_ble_eq_true rfl)) dX4_matters_18 ⟨Nat.zero_le _, Nat.zero_le _⟩) (fun H locs hw => ?_)
    have hw : Wd D A s.heap (zwL aL (aT 0) (aN 0) (aR 0) (aP 0) (aE 0) ++ (zwC cI aR Rcandidates Rballots Rseats Rwithdrawn Rvoters Rsets Rrank ++ (zwE cI cJ aE u10.2.1 u10.2.2.1 u10.2.2.2.1 u10.2.2.2.2.1 u10.2.2.2.2.2.1 u10.2.2.2.2.2.2.1 u10.2.2.2.2.2.2.2.1 u10.2.2.2.2.2.2.2.2.1 u10.2.2.2.2.2.2.2.2.2 ++ (zwC cI aN Ncandidates Nballots Nseats Nwithdrawn Nvoters Nsets Nrank)))) H locs := hw
    refine lv_istore_n (lv' := [(2, .int u10.1), (0, .ref (aL 0)), (1, .int p0)]) hx hb dX4_matters_21 rfl hl (by decide) rfl (fun ls hl => ?_)
    refine lv_iconst (v := 0) hx hb dX4_matters_22 (by decide) ?_
    refine lv_istore_n (lv' := [(3, .int (0 : Int32)), (2, .int u10.1), (0, .ref (aL 0)), (1, .int p0)]) hx hb dX4_matters_23 rfl hl (by decide) rfl (fun ls hl => ?_)
    refine lv_aload_n hx hb dX4_matters_24 rfl (lv_at hl 2 rfl) ?_
    refine va_get (D := D) (ci := 4) (v := .ref (aR 0)) (C := RX4) (T := TX4) (N := 5) hx hb hts hiX4 hown hK hw.1 0 rfl rfl 2 (by decide) hq0 (fun _ h9 => h9) rfl dX4_matters_25 ?_
    refine lv_aload_n hx hb dX4_matters_28 rfl (lv_at hl 2 rfl) ?_
    refine va_get (D := D) (ci := 4) (v := .ref (aN 0)) (C := RX4) (T := TX4) (N := 5) hx hb hts hiX4 hown hK hw.1 0 rfl rfl 1 (by decide) hq1 (fun _ h9 => h9) rfl dX4_matters_29 ?_
    obtain ⟨u12, e13, hf⟩ := zk_bd hf
    refine zk_callv (wc := zwC cI aR Rcandidates Rballots Rseats Rwithdrawn Rvoters Rsets Rrank ++ (zwC cI aN Ncandidates Nballots Nseats Nwithdrawn Nvoters Nsets Nrank)) (wr := zwL aL (aT 0) (aN 0) (aR 0) (aP 0) (aE 0) ++ (zwE cI cJ aE u10.2.1 u10.2.2.1 u10.2.2.2.1 u10.2.2.2.2.1 u10.2.2.2.2.2.1 u10.2.2.2.2.2.2.1 u10.2.2.2.2.2.2.2.1 u10.2.2.2.2.2.2.2.2.1 u10.2.2.2.2.2.2.2.2.2)) hw hA [1, 2, 3, 4, 12, 13, 14, 15] [0, 5, 6, 7, 8, 9, 10, 11] rfl rfl (by decide) (by decide) (va_runVN (C := RX0) (As := [.ref (aN 0)]) (rest := []) ⟨hx, hb, hml, hown, hts⟩ (kX0_copyFrom l D cI cJ cO N aR aN Rcandidates Rballots Rseats Rwithdrawn Rvoters Rsets Rrank Ncandidates Nballots Nseats Nwithdrawn Nvoters Nsets Nrank u12 e13 H.size) ⟨va_cnB 1 hts ggX4_matters_X0_copyFrom rfl rfl rfl (nwM_X4_69 hN) hq6 (by decide +kernel) ⟨Nat.le_of_ble_eq_true rfl, Nat.le_of_ble_eq_true rfl⟩, hq7, hq8⟩ (zk_preV (wc := zwC cI aR Rcandidates Rballots Rseats Rwithdrawn Rvoters Rsets Rrank ++ (zwC cI aN Ncandidates Nballots Nseats Nwithdrawn Nvoters Nsets Nrank)) hN hK hw [1, 2, 3, 4, 12, 13, 14, 15] rfl (by decide) 1 0 rfl rfl) rfl rfl hl.1 rfl (lv_room (Nat.le_of_ble_eq_true rfl)) dX4_matters_32 ⟨Nat.zero_le _, Nat.zero_le _⟩) (fun H locs hw => ?_)
    have hw : Wd D A s.heap (zwL aL (aT 0) (aN 0) (aR 0) (aP 0) (aE 0) ++ (zwE cI cJ aE u10.2.1 u10.2.2.1 u10.2.2.2.1 u10.2.2.2.2.1 u10.2.2.2.2.2.1 u10.2.2.2.2.2.2.1 u10.2.2.2.2.2.2.2.1 u10.2.2.2.2.2.2.2.2.1 u10.2.2.2.2.2.2.2.2.2 ++ (zwC cI aR u12.1 u12.2.1 u12.2.2.1 u12.2.2.2.1 u12.2.2.2.2.1 u12.2.2.2.2.2.1 u12.2.2.2.2.2.2 ++ (zwC cI aN Ncandidates Nballots Nseats Nwithdrawn Nvoters Nsets Nrank)))) H locs := hw
    refine lv_iconst (v := 0) hx hb dX4_matters_35 (by decide) ?_
    refine lv_istore (lv' := [(4, .int (0 : Int32)), (3, .int (0 : Int32)), (2, .int u10.1), (0, .ref (aL 0)), (1, .int p0)]) hx hb dX4_matters_36 hl (by decide) rfl (fun ls hl => ?_)
    exact b38 N p0 u10.1 (0 : Int32) (0 : Int32) u10.2.1 u10.2.2.1 u10.2.2.2.1 u10.2.2.2.2.1 u10.2.2.2.2.2.1 u10.2.2.2.2.2.2.1 u10.2.2.2.2.2.2.2.1 u10.2.2.2.2.2.2.2.2.1 u10.2.2.2.2.2.2.2.2.2 u12.1 u12.2.1 u12.2.2.1 u12.2.2.2.1 u12.2.2.2.2.1 u12.2.2.2.2.2.1 u12.2.2.2.2.2.2 hf H locs ls ⟨P_map hw.1 [0, 1, 2, 3, 4, 5, 6, 7, 12, 13, 14, 15, 8, 9, 10, 11] rfl, hw.2.1.sub [0, 1, 2, 3, 4, 5, 6, 7, 12, 13, 14, 15, 8, 9, 10, 11] (by decide) rfl, hw.2.2⟩ (lv_sub hl [3, 4, 2, 1, 0] rfl)
  · replace hf := zk_t c9 hf
    refine lv_iconst (v := (-1)) hx hb dX4_matters_7 (by decide) ?_
    cases hf
    exact zk_iret hx hb hr hlocks rfl hQ hw [0, 1, 2, 3, 4, 5, 6, 7, 8, 9, 10, 11, 12, 13, 14, 15] rfl (by decide) dX4_matters_8
set_option maxHeartbeats 4000000 in
set_option maxRecDepth 100000 in
theorem kX4_rather (l : Launch) (D : va_G) (cI cJ cO : ClassId) (N : Nat) (aL aE aN aR : Nat → Nat) (aT aP : Nat → Nat) (p0 : Int32) (p1 : Int32) (p2 : Int32) (Eorder : Nat → Int32) (Eabove : Nat → Int64) (Ebelow : Nat → Int64) (Eelected : Int32) (Eset : Int32) (Esupport : Nat → Int32) (Eworth : Nat → Int64) (Eloads : Nat → Int64) (Eunit : Int64) (Ncandidates : Int32) (Nballots : Int32) (Nseats : Int32) (Nwithdrawn : Int32) (Nvoters : Nat → Int32) (Nsets : Nat → Int32) (Nrank : Nat → Int32) (Rcandidates : Int32) (Rballots : Int32) (Rseats : Int32) (Rwithdrawn : Int32) (Rvoters : Nat → Int32) (Rsets : Nat → Int32) (Rrank : Nat → Int32) (u : Int32 × (Nat → Int32) × (Nat → Int64) × (Nat → Int64) × (Int32) × (Int32) × (Nat → Int32) × (Nat → Int64) × (Nat → Int64) × (Int64) × (Int32) × (Int32) × (Int32) × (Int32) × (Nat → Int32) × (Nat → Int32) × (Nat → Int32)) (hf : fX4_rather N p0 p1 p2 Eorder Eabove Ebelow Eelected Eset Esupport Eworth Eloads Eunit Ncandidates Nballots Nseats Nwithdrawn Nvoters Nsets Nrank Rcandidates Rballots Rseats Rwithdrawn Rvoters Rsets Rrank = some u) : CtI l yX4_rather wsX4_rather (zk_rm 5 117) D cI cJ cO [.ref (aL 0), .int p0, .int p1, .int p2] (zwL aL (aT 0) (aN 0) (aR 0) (aP 0) (aE 0) ++ (zwE cI cJ aE Eorder Eabove Ebelow Eelected Eset Esupport Eworth Eloads Eunit ++ (zwC cI aN Ncandidates Nballots Nseats Nwithdrawn Nvoters Nsets Nrank ++ (zwC cI aR Rcandidates Rballots Rseats Rwithdrawn Rvoters Rsets Rrank)))) (zwL aL (aT 0) (aN 0) (aR 0) (aP 0) (aE 0) ++ (zwE cI cJ aE u.2.1 u.2.2.1 u.2.2.2.1 u.2.2.2.2.1 u.2.2.2.2.2.1 u.2.2.2.2.2.2.1 u.2.2.2.2.2.2.2.1 u.2.2.2.2.2.2.2.2.1 u.2.2.2.2.2.2.2.2.2.1 ++ (zwC cI aN Ncandidates Nballots Nseats Nwithdrawn Nvoters Nsets Nrank ++ (zwC cI aR u.2.2.2.2.2.2.2.2.2.2.1 u.2.2.2.2.2.2.2.2.2.2.2.1 u.2.2.2.2.2.2.2.2.2.2.2.2.1 u.2.2.2.2.2.2.2.2.2.2.2.2.2.1 u.2.2.2.2.2.2.2.2.2.2.2.2.2.2.1 u.2.2.2.2.2.2.2.2.2.2.2.2.2.2.2.1 u.2.2.2.2.2.2.2.2.2.2.2.2.2.2.2.2)))) (u.1) := by
  refine zk_enter (cc := cX4_rather) (maxL := 9) (ret := some .int) (own := RX4) (Qf := fun A => QwI D (zwL aL (aT 0) (aN 0) (aR 0) (aP 0) (aE 0) ++ (zwE cI cJ aE u.2.1 u.2.2.1 u.2.2.2.1 u.2.2.2.2.1 u.2.2.2.2.2.1 u.2.2.2.2.2.2.1 u.2.2.2.2.2.2.2.1 u.2.2.2.2.2.2.2.2.1 u.2.2.2.2.2.2.2.2.2.1 ++ (zwC cI aN Ncandidates Nballots Nseats Nwithdrawn Nvoters Nsets Nrank ++ (zwC cI aR u.2.2.2.2.2.2.2.2.2.2.1 u.2.2.2.2.2.2.2.2.2.2.2.1 u.2.2.2.2.2.2.2.2.2.2.2.2.1 u.2.2.2.2.2.2.2.2.2.2.2.2.2.1 u.2.2.2.2.2.2.2.2.2.2.2.2.2.2.1 u.2.2.2.2.2.2.2.2.2.2.2.2.2.2.2.1 u.2.2.2.2.2.2.2.2.2.2.2.2.2.2.2.2)))) (u.1) A) (by decide) rfl rfl (Nat.le_of_ble_eq_true rfl) ?_
  intro p e s m args below meth c A Q H locs ls hC hQ hw hl
  obtain ⟨hx, hb, hml, hr, hts, hown, hlocks, hN, hK, hA⟩ := hC
  have hl : lv_has ls 9 [(0, .ref (aL 0)), (1, .int p0), (2, .int p1), (3, .int p2)] := hl
  have hiX4 : ∀ w ∈ u_ws RX4 TX4 5, w ∈ wsX4_rather := by decide +kernel
  have hiX0 : ∀ w ∈ u_ws RX0 TX0 7, w ∈ wsX4_rather := by decide +kernel
  have hq0 := hts (.fieldLink RX4 19 "LoadCouncil" "now" "LLoadCouncil$Council;") (by decide +kernel)
  have hq1 := hts (.fieldLink RX4 23 "LoadCouncil" "trial" "LLoadCouncil$Council;") (by decide +kernel)
  have hq2 := hts (.fieldLink RX4 36 "LoadCouncil" "election" "LLoadCouncil$Election;") (by decide +kernel)
  have hq3 := hts (.initialized RX1) (by decide +kernel)
  have hq4 := hts (.instanceMethod yX1_hold) (by decide +kernel)
  have hq5 := hts (.selects RX1 yX1_hold yX1_hold) (by decide +kernel)
  have hq6 := hts (.initialized RX0) (by decide +kernel)
  have hq7 := hts (.instanceMethod yX0_copyFrom) (by decide +kernel)
  have hq8 := hts (.selects RX0 yX0_copyFrom yX0_copyFrom) (by decide +kernel)
  have b152 : ∀ (x6 : Int32) (Eorder : Nat → Int32) (Eabove : Nat → Int64) (Ebelow : Nat → Int64) (Eelected : Int32) (Eset : Int32) (Esupport : Nat → Int32) (Eworth : Nat → Int64) (Eloads : Nat → Int64) (Eunit : Int64) (Rcandidates : Int32) (Rballots : Int32) (Rseats : Int32) (Rwithdrawn : Int32) (Rvoters : Nat → Int32) (Rsets : Nat → Int32) (Rrank : Nat → Int32), fX4_rather_b152 N x6 Eorder Eabove Ebelow Eelected Eset Esupport Eworth Eloads Eunit Rcandidates Rballots Rseats Rwithdrawn Rvoters Rsets Rrank = some u → ∀ (H : Heap) (locs : List Loc) (ls : Array Slot), Wd D A s.heap (zwL aL (aT 0) (aN 0) (aR 0) (aP 0) (aE 0) ++ (zwE cI cJ aE Eorder Eabove Ebelow Eelected Eset Esupport Eworth Eloads Eunit ++ (zwC cI aN Ncandidates Nballots Nseats Nwithdrawn Nvoters Nsets Nrank ++ (zwC cI aR Rcandidates Rballots Rseats Rwithdrawn Rvoters Rsets Rrank)))) H locs → lv_has ls 9 [(6, .int x6)] → W p l e (zk_rm 5 117) s m args below meth c H locs 0 0 Q (F0 m 152 ls []) := by
    intro x6 Eorder Eabove Ebelow Eelected Eset Esupport Eworth Eloads Eunit Rcandidates Rballots Rseats Rwithdrawn Rvoters Rsets Rrank hf H locs ls hw hl
    unfold fX4_rather_b152 at hf
    refine lv_iload hx hb dX4_rather_152 (lv_at hl 0 rfl) ?_
    refine lv_goto (tgt := 159) hx hb dX4_rather_154 (by decide) ?_
    cases hf
    exact zk_iret hx hb hr hlocks rfl hQ hw [0, 1, 2, 3, 4, 5, 6, 7, 8, 9, 10, 11, 12, 13, 14, 15] rfl (by decide) dX4_rather_159
  have b141 : ∀ (x3 : Int32) (x5 : Int32) (x6 : Int32) (Eorder : Nat → Int32) (Eabove : Nat → Int64) (Ebelow : Nat → Int64) (Eelected : Int32) (Eset : Int32) (Esupport : Nat → Int32) (Eworth : Nat → Int64) (Eloads : Nat → Int64) (Eunit : Int64) (Rcandidates : Int32) (Rballots : Int32) (Rseats : Int32) (Rwithdrawn : Int32) (Rvoters : Nat → Int32) (Rsets : Nat → Int32) (Rrank : Nat → Int32), fX4_rather_b141 N x3 x5 x6 Eorder Eabove Ebelow Eelected Eset Esupport Eworth Eloads Eunit Rcandidates Rballots Rseats Rwithdrawn Rvoters Rsets Rrank = some u → ∀ (H : Heap) (locs : List Loc) (ls : Array Slot), Wd D A s.heap (zwL aL (aT 0) (aN 0) (aR 0) (aP 0) (aE 0) ++ (zwE cI cJ aE Eorder Eabove Ebelow Eelected Eset Esupport Eworth Eloads Eunit ++ (zwC cI aN Ncandidates Nballots Nseats Nwithdrawn Nvoters Nsets Nrank ++ (zwC cI aR Rcandidates Rballots Rseats Rwithdrawn Rvoters Rsets Rrank)))) H locs → lv_has ls 9 [(3, .int x3), (5, .int x5), (6, .int x6)] → W p l e (zk_rm 5 117) s m args below meth c H locs 0 0 Q (F0 m 141 ls []) := by
    intro x3 x5 x6 Eorder Eabove Ebelow Eelected Eset Esupport Eworth Eloads Eunit Rcandidates Rballots Rseats Rwithdrawn Rvoters Rsets Rrank hf H locs ls hw hl
    unfold fX4_rather_b141 at hf
    refine lv_iload hx hb dX4_rather_141 (lv_at hl 2 rfl) ?_
    refine lv_bipush (v := (-4)) hx hb dX4_rather_143 (by decide) ?_
    refine lv_icmp_eq (tgt := 152) hx hb dX4_rather_145 (by decide) (fun c1 => ?_) (fun c1 => ?_)
    · replace hf := zk_t c1 hf
      exact b152 x6 Eorder Eabove Ebelow Eelected Eset Esupport Eworth Eloads Eunit Rcandidates Rballots Rseats Rwithdrawn Rvoters Rsets Rrank hf H locs ls hw (lv_sub hl [2] rfl)
    · replace hf := zk_f c1 hf
      refine lv_iload_n hx hb dX4_rather_148 rfl (lv_at hl 0 rfl) ?_
      refine lv_if_ne (tgt := 157) hx hb dX4_rather_149 (by decide) (fun c2 => ?_) (fun c2 => ?_)
      · replace hf := zk_f c2 hf
        refine lv_iload hx hb dX4_rather_157 (lv_at hl 1 rfl) ?_
        cases hf
        exact zk_iret hx hb hr hlocks rfl hQ hw [0, 1, 2, 3, 4, 5, 6, 7, 8, 9, 10, 11, 12, 13, 14, 15] rfl (by decide) dX4_rather_159
      · replace hf := zk_t c2 hf
        exact b152 x6 Eorder Eabove Ebelow Eelected Eset Esupport Eworth Eloads Eunit Rcandidates Rballots Rseats Rwithdrawn Rvoters Rsets Rrank hf H locs ls hw (lv_sub hl [2] rfl)
  have b75 : ∀ (n75 : Nat), ∀ (x1 : Int32) (x2 : Int32) (x3 : Int32) (x4 : Int32) (x5 : Int32) (x6 : Int32) (x7 : Int32) (Eorder : Nat → Int32) (Eabove : Nat → Int64) (Ebelow : Nat → Int64) (Eelected : Int32) (Eset : Int32) (Esupport : Nat → Int32) (Eworth : Nat → Int64) (Eloads : Nat → Int64) (Eunit : Int64) (Rcandidates : Int32) (Rballots : Int32) (Rseats : Int32) (Rwithdrawn : Int32) (Rvoters : Nat → Int32) (Rsets : Nat → Int32) (Rrank : Nat → Int32), fX4_rather_b75 N n75 x1 x2 x3 x4 x5 x6 x7 Eorder Eabove Ebelow Eelected Eset Esupport Eworth Eloads Eunit Ncandidates Rcandidates Rballots Rseats Rwithdrawn Rvoters Rsets Rrank = some u → ∀ (H : Heap) (locs : List Loc) (ls : Array Slot), Wd D A s.heap (zwL aL (aT 0) (aN 0) (aR 0) (aP 0) (aE 0) ++ (zwE cI cJ aE Eorder Eabove Ebelow Eelected Eset Esupport Eworth Eloads Eunit ++ (zwC cI aN Ncandidates Nballots Nseats Nwithdrawn Nvoters Nsets Nrank ++ (zwC cI aR Rcandidates Rballots Rseats Rwithdrawn Rvoters Rsets Rrank)))) H locs → lv_has ls 9 [(0, .ref (aL 0)), (1, .int x1), (2, .int x2), (3, .int x3), (4, .int x4), (5, .int x5), (6, .int x6), (7, .int x7)] → W p l e (zk_rm 5 117) s m args below meth c H locs 0 0 Q (F0 m 75 ls []) := by
    intro n75
    induction n75 with
    | zero =>
      intro x1 x2 x3 x4 x5 x6 x7 Eorder Eabove Ebelow Eelected Eset Esupport Eworth Eloads Eunit Rcandidates Rballots Rseats Rwithdrawn Rvoters Rsets Rrank hf
      exact zk_none hf
    | succ n75 ih75 =>
      have b135 : ∀ (x1 : Int32) (x2 : Int32) (x3 : Int32) (x4 : Int32) (x5 : Int32) (x6 : Int32) (x7 : Int32) (Eorder : Nat → Int32) (Eabove : Nat → Int64) (Ebelow : Nat → Int64) (Eelected : Int32) (Eset : Int32) (Esupport : Nat → Int32) (Eworth : Nat → Int64) (Eloads : Nat → Int64) (Eunit : Int64) (Rcandidates : Int32) (Rballots : Int32) (Rseats : Int32) (Rwithdrawn : Int32) (Rvoters : Nat → Int32) (Rsets : Nat → Int32) (Rrank : Nat → Int32), fX4_rather_b135 N (fun z0 z1 z2 z3 z4 z5 z6 z7 z8 z9 z10 z11 z12 z13 z14 z15 z16 z17 z18 z19 z20 z21 z22 z23 => fX4_rather_b75 N n75 z0 z1 z2 z3 z4 z5 z6 z7 z8 z9 z10 z11 z12 z13 z14 z15 z16 z17 z18 z19 z20 z21 z22 z23) x1 x2 x3 x4 x5 x6 x7 Eorder Eabove Ebelow Eelected Eset Esupport Eworth Eloads Eunit Ncandidates Rcandidates Rballots Rseats Rwithdrawn Rvoters Rsets Rrank = some u → ∀ (H : Heap) (locs : List Loc) (ls : Array Slot), Wd D A s.heap (zwL aL (aT 0) (aN 0) (aR 0) (aP 0) (aE 0) ++ (zwE cI cJ aE Eorder Eabove Ebelow Eelected Eset Esupport Eworth Eloads Eunit ++ (zwC cI aN Ncandidates Nballots Nseats Nwithdrawn Nvoters Nsets Nrank ++ (zwC cI aR Rcandidates Rballots Rseats Rwithdrawn Rvoters Rsets Rrank)))) H locs → lv_has ls 9 [(0, .ref (aL 0)), (1, .int x1), (2, .int x2), (3, .int x3), (4, .int x4), (5, .int x5), (6, .int x6), (7, .int x7)] → W p l e (zk_rm 5 117) s m args below meth c H locs 0 0 Q (F0 m 135 ls []) := by
        intro x1 x2 x3 x4 x5 x6 x7 Eorder Eabove Ebelow Eelected Eset Esupport Eworth Eloads Eunit Rcandidates Rballots Rseats Rwithdrawn Rvoters Rsets Rrank hf H locs ls hw hl
        unfold fX4_rather_b135 at hf
        refine lv_iinc (v := (x7 + (1 : Int32))) (lv' := [(7, .int (x7 + (1 : Int32))), (0, .ref (aL 0)), (1, .int x1), (2, .int x2), (3, .int x3), (4, .int x4), (5, .int x5), (6, .int x6)]) hx hb dX4_rather_135 hl (k := 7) rfl rfl (by decide) rfl (fun ls hl => ?_)
        refine lv_goto (tgt := 75) hx hb dX4_rather_138 (by decide) ?_
        exact ih75 x1 x2 x3 x4 x5 x6 (x7 + (1 : Int32)) Eorder Eabove Ebelow Eelected Eset Esupport Eworth Eloads Eunit Rcandidates Rballots Rseats Rwithdrawn Rvoters Rsets Rrank hf H locs ls hw (lv_sub hl [1, 2, 3, 4, 5, 6, 7, 0] rfl)
      intro x1 x2 x3 x4 x5 x6 x7 Eorder Eabove Ebelow Eelected Eset Esupport Eworth Eloads Eunit Rcandidates Rballots Rseats Rwithdrawn Rvoters Rsets Rrank hf H locs ls hw hl
      rw [fX4_rather_b75] at hf
      refine lv_iload hx hb dX4_rather_75 (lv_at hl 7 rfl) ?_
      refine lv_iconst (v := 1) hx hb dX4_rather_77 (by decide) ?_
      refine lv_aload_n hx hb dX4_rather_78 rfl (lv_at hl 0 rfl) ?_
      refine va_get (D := D) (ci := 4) (v := .ref (aN 0)) (C := RX4) (T := TX4) (N := 5) hx hb hts hiX4 hown hK hw.1 0 rfl rfl 1 (by decide) hq0 (fun _ h9 => h9) rfl dX4_rather_79 ?_
      refine va_getN (D := D) (ci := 0) (v := .int Ncandidates) (C := RX0) (T := TX0) (N := 7) hx hb hts hiX0 hown hK hw.1 8 rfl rfl 0 (by decide) (va_Nw.use rfl (nwF_X4_66 hN)) (fun _ h9 => h9) rfl dX4_rather_82 ?_
      refine lv_ishl hx hb dX4_rather_85 ?_
      refine lv_icmp_ge (tgt := 141) hx hb dX4_rather_86 (by decide) (fun c3 => ?_) (fun c3 => ?_)
      · replace hf := zk_t c3 hf
        exact b141 x3 x5 x6 Eorder Eabove Ebelow Eelected Eset Esupport Eworth Eloads Eunit Rcandidates Rballots Rseats Rwithdrawn Rvoters Rsets Rrank hf H locs ls hw (lv_sub hl [3, 5, 6] rfl)
      · replace hf := zk_f c3 hf
        refine lv_aload_n hx hb dX4_rather_89 rfl (lv_at hl 0 rfl) ?_
        refine va_get (D := D) (ci := 4) (v := .ref (aR 0)) (C := RX4) (T := TX4) (N := 5) hx hb hts hiX4 hown hK hw.1 0 rfl rfl 2 (by decide) hq1 (fun _ h9 => h9) rfl dX4_rather_90 ?_
        refine va_getN (D := D) (ci := 0) (v := .ref (aR 2)) (C := RX0) (T := TX0) (N := 7) hx hb hts hiX0 hown hK hw.1 12 rfl rfl 5 (by decide) (va_Nw.use rfl (nwF_X4_102 hN)) (fun _ h9 => h9) rfl dX4_rather_93 ?_
        refine lv_iload_n hx hb dX4_rather_96 rfl (lv_at hl 2 rfl) ?_
        refine lv_iload hx hb dX4_rather_97 (lv_at hl 7 rfl) ?_
        obtain ⟨h4, hf⟩ := zk_ck hf
        refine zk_iast hx hb hK hw 14 rfl h4 (j := x2.toNatClampNeg) rfl dX4_rather_99 (fun H locs hw => ?_)
        have hw : Wd D A s.heap (zwL aL (aT 0) (aN 0) (aR 0) (aP 0) (aE 0) ++ (zwE cI cJ aE Eorder Eabove Ebelow Eelected Eset Esupport Eworth Eloads Eunit ++ (zwC cI aN Ncandidates Nballots Nseats Nwithdrawn Nvoters Nsets Nrank ++ (zwC cI aR Rcandidates Rballots Rseats Rwithdrawn Rvoters (upd Rsets x2.toNatClampNeg x7) Rrank)))) H locs := hw
        refine lv_aload_n hx hb dX4_rather_100 rfl (lv_at hl 0 rfl) ?_
        refine va_get (D := D) (ci := 4) (v := .ref (aE 0)) (C := RX4) (T := TX4) (N := 5) hx hb hts hiX4 hown hK hw.1 0 rfl rfl 4 (by decide) hq2 (fun _ h9 => h9) rfl dX4_rather_101 ?_
        refine lv_aload_n hx hb dX4_rather_104 rfl (lv_at hl 0 rfl) ?_
        refine va_get (D := D) (ci := 4) (v := .ref (aR 0)) (C := RX4) (T := TX4) (N := 5) hx hb hts hiX4 hown hK hw.1 0 rfl rfl 2 (by decide) hq1 (fun _ h9 => h9) rfl dX4_rather_105 ?_
        refine lv_iload_n hx hb dX4_rather_108 rfl (lv_at hl 1 rfl) ?_
        obtain ⟨u5, e6, hf⟩ := zk_bd hf
        refine zk_calli (wc := zwE cI cJ aE Eorder Eabove Ebelow Eelected Eset Esupport Eworth Eloads Eunit ++ (zwC cI aR Rcandidates Rballots Rseats Rwithdrawn Rvoters (upd Rsets x2.toNatClampNeg x7) Rrank)) (wr := zwL aL (aT 0) (aN 0) (aR 0) (aP 0) (aE 0) ++ (zwC cI aN Ncandidates Nballots Nseats Nwithdrawn Nvoters Nsets Nrank)) hw hA [1, 2, 3, 4, 5, 6, 7, 12, 13, 14, 15] [0, 8, 9, 10, 11] rfl rfl (by decide) (by decide) (va_runVN (C := RX1) (As := [.ref (aR 0), .int x1]) (rest := []) ⟨hx, hb, hml, hown, hts⟩ (kX1_hold l D cI cJ cO N aE aR x1 Eorder Eabove Ebelow Eelected Eset Esupport Eworth Eloads Eunit Rcandidates Rballots Rseats Rwithdrawn Rvoters (upd Rsets x2.toNatClampNeg x7) Rrank u5 e6 H.size) ⟨va_cnB 2 hts ggX4_rather_X1_hold rfl rfl rfl (nwM_X4_142 hN) hq3 (by decide +kernel) ⟨Nat.le_of_ble_eq_true rfl, Nat.le_of_ble_eq_true rfl⟩, hq4, hq5⟩ (zk_preV (wc := zwE cI cJ aE Eorder Eabove Ebelow Eelected Eset Esupport Eworth Eloads Eunit ++ (zwC cI aR Rcandidates Rballots Rseats Rwithdrawn Rvoters (upd Rsets x2.toNatClampNeg x7) Rrank)) hN hK hw [1, 2, 3, 4, 5, 6, 7, 12, 13, 14, 15] rfl (by decide) 1 1 rfl rfl) rfl rfl hl.1 rfl (lv_room (Nat.le_of_ble_eq_true rfl)) dX4_rather_109 ⟨Nat.zero_le _, Nat.zero_le _⟩) (fun H locs hw => ?_)
        have hw : Wd D A s.heap (zwL aL (aT 0) (aN 0) (aR 0) (aP 0) (aE 0) ++ (zwC cI aN Ncandidates Nballots Nseats Nwithdrawn Nvoters Nsets Nrank ++ (zwE cI cJ aE u5.2.1 u5.2.2.1 u5.2.2.2.1 u5.2.2.2.2.1 u5.2.2.2.2.2.1 u5.2.2.2.2.2.2.1 u5.2.2.2.2.2.2.2.1 u5.2.2.2.2.2.2.2.2.1 u5.2.2.2.2.2.2.2.2.2 ++ (zwC cI aR Rcandidates Rballots Rseats Rwithdrawn Rvoters (upd Rsets x2.toNatClampNeg x7) Rrank)))) H locs := hw
        refine lv_iload hx hb dX4_rather_112 (lv_at hl 4 rfl) ?_
        refine lv_iand hx hb dX4_rather_114 ?_
        obtain ⟨u7, e8, hf⟩ := zk_bd hf
        refine zk_calli (wc := []) (wr := zwL aL (aT 0) (aN 0) (aR 0) (aP 0) (aE 0) ++ (zwC cI aN Ncandidates Nballots Nseats Nwithdrawn Nvoters Nsets Nrank ++ (zwE cI cJ aE u5.2.1 u5.2.2.1 u5.2.2.2.1 u5.2.2.2.2.1 u5.2.2.2.2.2.1 u5.2.2.2.2.2.2.1 u5.2.2.2.2.2.2.2.1 u5.2.2.2.2.2.2.2.2.1 u5.2.2.2.2.2.2.2.2.2 ++ (zwC cI aR Rcandidates Rballots Rseats Rwithdrawn Rvoters (upd Rsets x2.toNatClampNeg x7) Rrank)))) hw hA [] [0, 1, 2, 3, 4, 5, 6, 7, 8, 9, 10, 11, 12, 13, 14, 15] rfl rfl (by decide) (by decide) (va_runS (As := [.int (u5.1 &&& x4)]) (rest := []) ⟨hx, hb, hml, hown, hts⟩ (kJ6_bitCount_0f7a4 l D cI cJ cO N (u5.1 &&& x4) u7 e8 H.size) (va_cwS 1 hts gX4_rather_J6_bitCount_0f7a4 rfl rfl rfl (by decide +kernel) ⟨Nat.le_of_ble_eq_true rfl, Nat.le_of_ble_eq_true rfl⟩) (zk_preS (wc := []) hN hK hw [] rfl (by decide)) rfl rfl hl.1 rfl (lv_room (Nat.le_of_ble_eq_true rfl)) dX4_rather_115 ⟨Nat.zero_le _, Nat.zero_le _⟩) (fun H locs hw => ?_)
        have hw : Wd D A s.heap (zwL aL (aT 0) (aN 0) (aR 0) (aP 0) (aE 0) ++ (zwC cI aN Ncandidates Nballots Nseats Nwithdrawn Nvoters Nsets Nrank ++ (zwE cI cJ aE u5.2.1 u5.2.2.1 u5.2.2.2.1 u5.2.2.2.2.1 u5.2.2.2.2.2.1 u5.2.2.2.2.2.2.1 u5.2.2.2.2.2.2.2.1 u5.2.2.2.2.2.2.2.2.1 u5.2.2.2.2.2.2.2.2.2 ++ (zwC cI aR Rcandidates Rballots Rseats Rwithdrawn Rvoters (upd Rsets x2.toNatClampNeg x7) Rrank)))) H locs := hw
        refine lv_istore (lv' := [(8, .int u7), (0, .ref (aL 0)), (1, .int x1), (2, .int x2), (3, .int x3), (4, .int x4), (5, .int x5), (6, .int x6), (7, .int x7)]) hx hb dX4_rather_118 hl (by decide) rfl (fun ls hl => ?_)
        refine lv_iload hx hb dX4_rather_120 (lv_at hl 0 rfl) ?_
        refine lv_iload hx hb dX4_rather_122 (lv_at hl 6 rfl) ?_
        refine lv_icmp_le (tgt := 135) hx hb dX4_rather_124 (by decide) (fun c9 => ?_) (fun c9 => ?_)
        · replace hf := zk_t c9 hf
          exact b135 x1 x2 x3 x4 x5 x6 x7 u5.2.1 u5.2.2.1 u5.2.2.2.1 u5.2.2.2.2.1 u5.2.2.2.2.2.1 u5.2.2.2.2.2.2.1 u5.2.2.2.2.2.2.2.1 u5.2.2.2.2.2.2.2.2.1 u5.2.2.2.2.2.2.2.2.2 Rcandidates Rballots Rseats Rwithdrawn Rvoters (upd Rsets x2.toNatClampNeg x7) Rrank hf H locs ls ⟨P_map hw.1 [0, 5, 6, 7, 8, 9, 10, 11, 1, 2, 3, 4, 12, 13, 14, 15] rfl, hw.2.1.sub [0, 5, 6, 7, 8, 9, 10, 11, 1, 2, 3, 4, 12, 13, 14, 15] (by decide) rfl, hw.2.2⟩ (lv_sub hl [1, 2, 3, 4, 5, 6, 7, 8] rfl)
        · replace hf := zk_f c9 hf
          refine lv_iload hx hb dX4_rather_127 (lv_at hl 0 rfl) ?_
          refine lv_istore (lv' := [(5, .int u7), (8, .int u7), (0, .ref (aL 0)), (1, .int x1), (2, .int x2), (3, .int x3), (4, .int x4), (6, .int x6), (7, .int x7)]) hx hb dX4_rather_129 hl (by decide) rfl (fun ls hl => ?_)
          refine lv_iload hx hb dX4_rather_131 (lv_at hl 8 rfl) ?_
          refine lv_istore (lv' := [(6, .int x7), (5, .int u7), (8, .int u7), (0, .ref (aL 0)), (1, .int x1), (2, .int x2), (3, .int x3), (4, .int x4), (7, .int x7)]) hx hb dX4_rather_133 hl (by decide) rfl (fun ls hl => ?_)
          exact b135 x1 x2 x3 x4 u7 x7 x7 u5.2.1 u5.2.2.1 u5.2.2.2.1 u5.2.2.2.2.1 u5.2.2.2.2.2.1 u5.2.2.2.2.2.2.1 u5.2.2.2.2.2.2.2.1 u5.2.2.2.2.2.2.2.2.1 u5.2.2.2.2.2.2.2.2.2 Rcandidates Rballots Rseats Rwithdrawn Rvoters (upd Rsets x2.toNatClampNeg x7) Rrank hf H locs ls ⟨P_map hw.1 [0, 5, 6, 7, 8, 9, 10, 11, 1, 2, 3, 4, 12, 13, 14, 15] rfl, hw.2.1.sub [0, 5, 6, 7, 8, 9, 10, 11, 1, 2, 3, 4, 12, 13, 14, 15] (by decide) rfl, hw.2.2⟩ (lv_sub hl [3, 4, 5, 6, 7, 1, 0, 8] rfl)
  unfold fX4_rather at hf
  refine lv_iload_n hx hb dX4_rather_0 rfl (lv_at hl 1 rfl) ?_
  obtain ⟨u10, e11, hf⟩ := zk_bd hf
  refine zk_calli (wc := []) (wr := zwL aL (aT 0) (aN 0) (aR 0) (aP 0) (aE 0) ++ (zwE cI cJ aE Eorder Eabove Ebelow Eelected Eset Esupport Eworth Eloads Eunit ++ (zwC cI aN Ncandidates Nballots Nseats Nwithdrawn Nvoters Nsets Nrank ++ (zwC cI aR Rcandidates Rballots Rseats Rwithdrawn Rvoters Rsets Rrank)))) hw hA [] [0, 1, 2, 3, 4, 5, 6, 7, 8, 9, 10, 11, 12, 13, 14, 15] rfl rfl (by decide) (by decide) (va_runS (As := [.int p0]) (rest := []) ⟨hx, hb, hml, hown, hts⟩ (kX4_isLaw l D cI cJ cO N p0 u10 e11 H.size) (va_cwS 1 hts gX4_rather_X4_isLaw rfl rfl rfl (by decide +kernel) ⟨Nat.le_of_ble_eq_true rfl, Nat.le_of_ble_eq_true rfl⟩) (zk_preS (wc := []) hN hK hw [] rfl (by decide)) rfl rfl hl.1 rfl (lv_room (Nat.le_of_ble_eq_true rfl)) dX4_rather_1 ⟨Nat.zero_le _, Nat.zero_le _⟩) (fun H locs hw => ?_)
  have hw : Wd D A s.heap (zwL aL (aT 0) (aN 0) (aR 0) (aP 0) (aE 0) ++ (zwE cI cJ aE Eorder Eabove Ebelow Eelected Eset Esupport Eworth Eloads Eunit ++ (zwC cI aN Ncandidates Nballots Nseats Nwithdrawn Nvoters Nsets Nrank ++ (zwC cI aR Rcandidates Rballots Rseats Rwithdrawn Rvoters Rsets Rrank)))) H locs := hw
  refine lv_if_eq (tgt := 24) hx hb dX4_rather_4 (by decide) (fun c12 => ?_) (fun c12 => ?_)
  · replace hf := zk_t c12 hf
    refine lv_iconst (v := (-1)) hx hb dX4_rather_24 (by decide) ?_
    cases hf
    exact zk_iret hx hb hr hlocks rfl hQ hw [0, 1, 2, 3, 4, 5, 6, 7, 8, 9, 10, 11, 12, 13, 14, 15] rfl (by decide) dX4_rather_25
  · replace hf := zk_f c12 hf
    refine lv_aload_n hx hb dX4_rather_7 rfl (lv_at hl 0 rfl) ?_
    refine lv_iload_n hx hb dX4_rather_8 rfl (lv_at hl 2 rfl) ?_
    obtain ⟨u13, e14, hf⟩ := zk_bd hf
    refine zk_calli (wc := zwL aL (aT 0) (aN 0) (aR 0) (aP 0) (aE 0) ++ (zwC cI aN Ncandidates Nballots Nseats Nwithdrawn Nvoters Nsets Nrank)) (wr := zwE cI cJ aE Eorder Eabove Ebelow Eelected Eset Esupport Eworth Eloads Eunit ++ (zwC cI aR Rcandidates Rballots Rseats Rwithdrawn Rvoters Rsets Rrank)) hw hA [0, 8, 9, 10, 11] [1, 2, 3, 4, 5, 6, 7, 12, 13, 14, 15] rfl rfl (by decide) (by decide) (va_runV (C := RX4) (As := [.int p1]) (rest := []) ⟨hx, hb, hml, hown, hts⟩ (kX4_isBallot l D cI cJ cO N aL aN aT aR aP aE p1 Ncandidates Nballots Nseats Nwithdrawn Nvoters Nsets Nrank u13 e14 H.size) (cwV 1 hts gX4_rather_X4_isBallot rfl rfl rfl (by decide +kernel) ⟨Nat.le_of_ble_eq_true rfl, Nat.le_of_ble_eq_true rfl⟩) (zk_preV (wc := zwL aL (aT 0) (aN 0) (aR 0) (aP 0) (aE 0) ++ (zwC cI aN Ncandidates Nballots Nseats Nwithdrawn Nvoters Nsets Nrank)) hN hK hw [0, 8, 9, 10, 11] rfl (by decide) 0 4 rfl rfl) rfl rfl hl.1 rfl (lv_room (Nat.le_of_ble_eq_true rfl)) dX4_rather_9 ⟨Nat.zero_le _, Nat.zero_le _⟩) (fun H locs hw => ?_)
    have hw : Wd D A s.heap (zwE cI cJ aE Eorder Eabove Ebelow Eelected Eset Esupport Eworth Eloads Eunit ++ (zwC cI aR Rcandidates Rballots Rseats Rwithdrawn Rvoters Rsets Rrank ++ (zwL aL (aT 0) (aN 0) (aR 0) (aP 0) (aE 0) ++ (zwC cI aN Ncandidates Nballots Nseats Nwithdrawn Nvoters Nsets Nrank)))) H locs := hw
    refine lv_if_eq (tgt := 24) hx hb dX4_rather_12 (by decide) (fun c15 => ?_) (fun c15 => ?_)
    · replace hf := zk_t c15 hf
      refine lv_iconst (v := (-1)) hx hb dX4_rather_24 (by decide) ?_
      cases hf
      exact zk_iret hx hb hr hlocks rfl hQ hw [11, 0, 1, 2, 3, 4, 5, 6, 12, 13, 14, 15, 7, 8, 9, 10] rfl (by decide) dX4_rather_25
    · replace hf := zk_f c15 hf
      refine lv_iload_n hx hb dX4_rather_15 rfl (lv_at hl 3 rfl) ?_
      refine lv_if_lt (tgt := 24) hx hb dX4_rather_16 (by decide) (fun c16 => ?_) (fun c16 => ?_)
      · replace hf := zk_t c16 hf
        refine lv_iconst (v := (-1)) hx hb dX4_rather_24 (by decide) ?_
        cases hf
        exact zk_iret hx hb hr hlocks rfl hQ hw [11, 0, 1, 2, 3, 4, 5, 6, 12, 13, 14, 15, 7, 8, 9, 10] rfl (by decide) dX4_rather_25
      · replace hf := zk_f c16 hf
        refine lv_iload_n hx hb dX4_rather_19 rfl (lv_at hl 3 rfl) ?_
        refine lv_iconst (v := 1) hx hb dX4_rather_20 (by decide) ?_
        refine lv_icmp_le (tgt := 26) hx hb dX4_rather_21 (by decide) (fun c17 => ?_) (fun c17 => ?_)
        · replace hf := zk_t c17 hf
          refine lv_aload_n hx hb dX4_rather_26 rfl (lv_at hl 0 rfl) ?_
          refine va_get (D := D) (ci := 4) (v := .ref (aN 0)) (C := RX4) (T := TX4) (N := 5) hx hb hts hiX4 hown hK hw.1 11 rfl rfl 1 (by decide) hq0 (fun _ h9 => h9) rfl dX4_rather_27 ?_
          refine va_getN (D := D) (ci := 0) (v := .ref (aN 2)) (C := RX0) (T := TX0) (N := 7) hx hb hts hiX0 hown hK hw.1 12 rfl rfl 5 (by decide) (va_Nw.use rfl (nwF_X4_102 hN)) (fun _ h9 => h9) rfl dX4_rather_30 ?_
          refine lv_iload_n hx hb dX4_rather_33 rfl (lv_at hl 2 rfl) ?_
          obtain ⟨h18, hf⟩ := zk_ck hf
          refine zk_iald hx hb hK hw 14 rfl h18 (j := p1.toNatClampNeg) rfl dX4_rather_34 ?_
          refine lv_istore (lv' := [(4, .int (Nsets p1.toNatClampNeg)), (0, .ref (aL 0)), (1, .int p0), (2, .int p1), (3, .int p2)]) hx hb dX4_rather_35 hl (by decide) rfl (fun ls hl => ?_)
          refine lv_aload_n hx hb dX4_rather_37 rfl (lv_at hl 1 rfl) ?_
          refine va_get (D := D) (ci := 4) (v := .ref (aE 0)) (C := RX4) (T := TX4) (N := 5) hx hb hts hiX4 hown hK hw.1 11 rfl rfl 4 (by decide) hq2 (fun _ h9 => h9) rfl dX4_rather_38 ?_
          refine lv_aload_n hx hb dX4_rather_41 rfl (lv_at hl 1 rfl) ?_
          refine va_get (D := D) (ci := 4) (v := .ref (aN 0)) (C := RX4) (T := TX4) (N := 5) hx hb hts hiX4 hown hK hw.1 11 rfl rfl 1 (by decide) hq0 (fun _ h9 => h9) rfl dX4_rather_42 ?_
          refine lv_iload_n hx hb dX4_rather_45 rfl (lv_at hl 2 rfl) ?_
          obtain ⟨u19, e20, hf⟩ := zk_bd hf
          refine zk_calli (wc := zwE cI cJ aE Eorder Eabove Ebelow Eelected Eset Esupport Eworth Eloads Eunit ++ (zwC cI aN Ncandidates Nballots Nseats Nwithdrawn Nvoters Nsets Nrank)) (wr := zwC cI aR Rcandidates Rballots Rseats Rwithdrawn Rvoters Rsets Rrank ++ (zwL aL (aT 0) (aN 0) (aR 0) (aP 0) (aE 0))) hw hA [0, 1, 2, 3, 4, 5, 6, 12, 13, 14, 15] [7, 8, 9, 10, 11] rfl rfl (by decide) (by decide) (va_runVN (C := RX1) (As := [.ref (aN 0), .int p0]) (rest := []) ⟨hx, hb, hml, hown, hts⟩ (kX1_hold l D cI cJ cO N aE aN p0 Eorder Eabove Ebelow Eelected Eset Esupport Eworth Eloads Eunit Ncandidates Nballots Nseats Nwithdrawn Nvoters Nsets Nrank u19 e20 H.size) ⟨va_cnB 2 hts ggX4_rather_X1_hold rfl rfl rfl (nwM_X4_142 hN) hq3 (by decide +kernel) ⟨Nat.le_of_ble_eq_true rfl, Nat.le_of_ble_eq_true rfl⟩, hq4, hq5⟩ (zk_preV (wc := zwE cI cJ aE Eorder Eabove Ebelow Eelected Eset Esupport Eworth Eloads Eunit ++ (zwC cI aN Ncandidates Nballots Nseats Nwithdrawn Nvoters Nsets Nrank)) hN hK hw [0, 1, 2, 3, 4, 5, 6, 12, 13, 14, 15] rfl (by decide) 0 1 rfl rfl) rfl rfl hl.1 rfl (lv_room (Nat.le_of_ble_eq_true rfl)) dX4_rather_46 ⟨Nat.zero_le _, Nat.zero_le _⟩) (fun H locs hw => ?_)
          have hw : Wd D A s.heap (zwC cI aR Rcandidates Rballots Rseats Rwithdrawn Rvoters Rsets Rrank ++ (zwL aL (aT 0) (aN 0) (aR 0) (aP 0) (aE 0) ++ (zwE cI cJ aE u19.2.1 u19.2.2.1 u19.2.2.2.1 u19.2.2.2.2.1 u19.2.2.2.2.2.1 u19.2.2.2.2.2.2.1 u19.2.2.2.2.2.2.2.1 u19.2.2.2.2.2.2.2.2.1 u19.2.2.2.2.2.2.2.2.2 ++ (zwC cI aN Ncandidates Nballots Nseats Nwithdrawn Nvoters Nsets Nrank)))) H locs := hw
          refine lv_iload hx hb dX4_rather_49 (lv_at hl 0 rfl) ?_
          refine lv_iand hx hb dX4_rather_51 ?_
          obtain ⟨u21, e22, hf⟩ := zk_bd hf
          refine zk_calli (wc := []) (wr := zwC cI aR Rcandidates Rballots Rseats Rwithdrawn Rvoters Rsets Rrank ++ (zwL aL (aT 0) (aN 0) (aR 0) (aP 0) (aE 0) ++ (zwE cI cJ aE u19.2.1 u19.2.2.1 u19.2.2.2.1 u19.2.2.2.2.1 u19.2.2.2.2.2.1 u19.2.2.2.2.2.2.1 u19.2.2.2.2.2.2.2.1 u19.2.2.2.2.2.2.2.2.1 u19.2.2.2.2.2.2.2.2.2 ++ (zwC cI aN Ncandidates Nballots Nseats Nwithdrawn Nvoters Nsets Nrank)))) hw hA [] [0, 1, 2, 3, 4, 5, 6, 7, 8, 9, 10, 11, 12, 13, 14, 15] rfl rfl (by decide) (by decide) (va_runS (As := [.int (u19.1 &&& (Nsets p1.toNatClampNeg))]) (rest := []) ⟨hx, hb, hml, hown, hts⟩ (kJ6_bitCount_0f7a4 l D cI cJ cO N (u19.1 &&& (Nsets p1.toNatClampNeg)) u21 e22 H.size) (va_cwS 1 hts gX4_rather_J6_bitCount_0f7a4 rfl rfl rfl (by decide +kernel) ⟨Nat.le_of_ble_eq_true rfl, Nat.le_of_ble_eq_true rfl⟩) (zk_preS (wc := []) hN hK hw [] rfl (by decide)) rfl rfl hl.1 rfl (lv_room (Nat.le_of_ble_eq_true rfl)) dX4_rather_52 ⟨Nat.zero_le _, Nat.zero_le _⟩) (fun H locs hw => ?_)
          have hw : Wd D A s.heap (zwC cI aR Rcandidates Rballots Rseats Rwithdrawn Rvoters Rsets Rrank ++ (zwL aL (aT 0) (aN 0) (aR 0) (aP 0) (aE 0) ++ (zwE cI cJ aE u19.2.1 u19.2.2.1 u19.2.2.2.1 u19.2.2.2.2.1 u19.2.2.2.2.2.1 u19.2.2.2.2.2.2.1 u19.2.2.2.2.2.2.2.1 u19.2.2.2.2.2.2.2.2.1 u19.2.2.2.2.2.2.2.2.2 ++ (zwC cI aN Ncandidates Nballots Nseats Nwithdrawn Nvoters Nsets Nrank)))) H locs := hw
          refine lv_istore (lv' := [(5, .int u21), (4, .int (Nsets p1.toNatClampNeg)), (0, .ref (aL 0)), (1, .int p0), (2, .int p1), (3, .int p2)]) hx hb dX4_rather_55 hl (by decide) rfl (fun ls hl => ?_)
          refine lv_bipush (v := (-4)) hx hb dX4_rather_57 (by decide) ?_
          refine lv_istore (lv' := [(6, .int (-4 : Int32)), (5, .int u21), (4, .int (Nsets p1.toNatClampNeg)), (0, .ref (aL 0)), (1, .int p0), (2, .int p1), (3, .int p2)]) hx hb dX4_rather_59 hl (by decide) rfl (fun ls hl => ?_)
          refine lv_aload_n hx hb dX4_rather_61 rfl (lv_at hl 3 rfl) ?_
          refine va_get (D := D) (ci := 4) (v := .ref (aR 0)) (C := RX4) (T := TX4) (N := 5) hx hb hts hiX4 hown hK hw.1 4 rfl rfl 2 (by decide) hq1 (fun _ h9 => h9) rfl dX4_rather_62 ?_
          refine lv_aload_n hx hb dX4_rather_65 rfl (lv_at hl 3 rfl) ?_
          refine va_get (D := D) (ci := 4) (v := .ref (aN 0)) (C := RX4) (T := TX4) (N := 5) hx hb hts hiX4 hown hK hw.1 4 rfl rfl 1 (by decide) hq0 (fun _ h9 => h9) rfl dX4_rather_66 ?_
          obtain ⟨u23, e24, hf⟩ := zk_bd hf
          refine zk_callv (wc := zwC cI aR Rcandidates Rballots Rseats Rwithdrawn Rvoters Rsets Rrank ++ (zwC cI aN Ncandidates Nballots Nseats Nwithdrawn Nvoters Nsets Nrank)) (wr := zwL aL (aT 0) (aN 0) (aR 0) (aP 0) (aE 0) ++ (zwE cI cJ aE u19.2.1 u19.2.2.1 u19.2.2.2.1 u19.2.2.2.2.1 u19.2.2.2.2.2.1 u19.2.2.2.2.2.2.1 u19.2.2.2.2.2.2.2.1 u19.2.2.2.2.2.2.2.2.1 u19.2.2.2.2.2.2.2.2.2)) hw hA [0, 1, 2, 3, 12, 13, 14, 15] [4, 5, 6, 7, 8, 9, 10, 11] rfl rfl (by decide) (by decide) (va_runVN (C := RX0) (As := [.ref (aN 0)]) (rest := []) ⟨hx, hb, hml, hown, hts⟩ (kX0_copyFrom l D cI cJ cO N aR aN Rcandidates Rballots Rseats Rwithdrawn Rvoters Rsets Rrank Ncandidates Nballots Nseats Nwithdrawn Nvoters Nsets Nrank u23 e24 H.size) ⟨va_cnB 1 hts ggX4_rather_X0_copyFrom rfl rfl rfl (nwM_X4_69 hN) hq6 (by decide +kernel) ⟨Nat.le_of_ble_eq_true rfl, Nat.le_of_ble_eq_true rfl⟩, hq7, hq8⟩ (zk_preV (wc := zwC cI aR Rcandidates Rballots Rseats Rwithdrawn Rvoters Rsets Rrank ++ (zwC cI aN Ncandidates Nballots Nseats Nwithdrawn Nvoters Nsets Nrank)) hN hK hw [0, 1, 2, 3, 12, 13, 14, 15] rfl (by decide) 0 0 rfl rfl) rfl rfl hl.1 rfl (lv_room (Nat.le_of_ble_eq_true rfl)) dX4_rather_69 ⟨Nat.zero_le _, Nat.zero_le _⟩) (fun H locs hw => ?_)
          have hw : Wd D A s.heap (zwL aL (aT 0) (aN 0) (aR 0) (aP 0) (aE 0) ++ (zwE cI cJ aE u19.2.1 u19.2.2.1 u19.2.2.2.1 u19.2.2.2.2.1 u19.2.2.2.2.2.1 u19.2.2.2.2.2.2.1 u19.2.2.2.2.2.2.2.1 u19.2.2.2.2.2.2.2.2.1 u19.2.2.2.2.2.2.2.2.2 ++ (zwC cI aR u23.1 u23.2.1 u23.2.2.1 u23.2.2.2.1 u23.2.2.2.2.1 u23.2.2.2.2.2.1 u23.2.2.2.2.2.2 ++ (zwC cI aN Ncandidates Nballots Nseats Nwithdrawn Nvoters Nsets Nrank)))) H locs := hw
          refine lv_iconst (v := 1) hx hb dX4_rather_72 (by decide) ?_
          refine lv_istore (lv' := [(7, .int (1 : Int32)), (6, .int (-4 : Int32)), (5, .int u21), (4, .int (Nsets p1.toNatClampNeg)), (0, .ref (aL 0)), (1, .int p0), (2, .int p1), (3, .int p2)]) hx hb dX4_rather_73 hl (by decide) rfl (fun ls hl => ?_)
          exact b75 N p0 p1 p2 (Nsets p1.toNatClampNeg) u21 (-4 : Int32) (1 : Int32) u19.2.1 u19.2.2.1 u19.2.2.2.1 u19.2.2.2.2.1 u19.2.2.2.2.2.1 u19.2.2.2.2.2.2.1 u19.2.2.2.2.2.2.2.1 u19.2.2.2.2.2.2.2.2.1 u19.2.2.2.2.2.2.2.2.2 u23.1 u23.2.1 u23.2.2.1 u23.2.2.2.1 u23.2.2.2.2.1 u23.2.2.2.2.2.1 u23.2.2.2.2.2.2 hf H locs ls ⟨P_map hw.1 [0, 1, 2, 3, 4, 5, 6, 7, 12, 13, 14, 15, 8, 9, 10, 11] rfl, hw.2.1.sub [0, 1, 2, 3, 4, 5, 6, 7, 12, 13, 14, 15, 8, 9, 10, 11] (by decide) rfl, hw.2.2⟩ (lv_sub hl [4, 5, 6, 7, 3, 2, 1, 0] rfl)
        · replace hf := zk_f c17 hf
          refine lv_iconst (v := (-1)) hx hb dX4_rather_24 (by decide) ?_
          cases hf
          exact zk_iret hx hb hr hlocks rfl hQ hw [11, 0, 1, 2, 3, 4, 5, 6, 12, 13, 14, 15, 7, 8, 9, 10] rfl (by decide) dX4_rather_25
set_option maxHeartbeats 4000000 in
set_option maxRecDepth 100000 in
theorem kX4_decided (l : Launch) (D : va_G) (cI cJ cO : ClassId) (N : Nat) (aL aE aN aR : Nat → Nat) (aT aP : Nat → Nat) (p0 : Int32) (Eorder : Nat → Int32) (Eabove : Nat → Int64) (Ebelow : Nat → Int64) (Eelected : Int32) (Eset : Int32) (Esupport : Nat → Int32) (Eworth : Nat → Int64) (Eloads : Nat → Int64) (Eunit : Int64) (Ncandidates : Int32) (Nballots : Int32) (Nseats : Int32) (Nwithdrawn : Int32) (Nvoters : Nat → Int32) (Nsets : Nat → Int32) (Nrank : Nat → Int32) (Rcandidates : Int32) (Rballots : Int32) (Rseats : Int32) (Rwithdrawn : Int32) (Rvoters : Nat → Int32) (Rsets : Nat → Int32) (Rrank : Nat → Int32) (u : Int32 × (Nat → Int32) × (Nat → Int64) × (Nat → Int64) × (Int32) × (Int32) × (Nat → Int32) × (Nat → Int64) × (Nat → Int64) × (Int64) × (Int32) × (Int32) × (Int32) × (Int32) × (Nat → Int32) × (Nat → Int32) × (Nat → Int32)) (hf : fX4_decided N p0 Eorder Eabove Ebelow Eelected Eset Esupport Eworth Eloads Eunit Ncandidates Nballots Nseats Nwithdrawn Nvoters Nsets Nrank Rcandidates Rballots Rseats Rwithdrawn Rvoters Rsets Rrank = some u) : CtI l yX4_decided wsX4_decided (zk_rm 5 117) D cI cJ cO [.ref (aL 0), .int p0] (zwL aL (aT 0) (aN 0) (aR 0) (aP 0) (aE 0) ++ (zwE cI cJ aE Eorder Eabove Ebelow Eelected Eset Esupport Eworth Eloads Eunit ++ (zwC cI aN Ncandidates Nballots Nseats Nwithdrawn Nvoters Nsets Nrank ++ (zwC cI aR Rcandidates Rballots Rseats Rwithdrawn Rvoters Rsets Rrank)))) (zwL aL (aT 0) (aN 0) (aR 0) (aP 0) (aE 0) ++ (zwE cI cJ aE u.2.1 u.2.2.1 u.2.2.2.1 u.2.2.2.2.1 u.2.2.2.2.2.1 u.2.2.2.2.2.2.1 u.2.2.2.2.2.2.2.1 u.2.2.2.2.2.2.2.2.1 u.2.2.2.2.2.2.2.2.2.1 ++ (zwC cI aN Ncandidates Nballots Nseats Nwithdrawn Nvoters Nsets Nrank ++ (zwC cI aR u.2.2.2.2.2.2.2.2.2.2.1 u.2.2.2.2.2.2.2.2.2.2.2.1 u.2.2.2.2.2.2.2.2.2.2.2.2.1 u.2.2.2.2.2.2.2.2.2.2.2.2.2.1 u.2.2.2.2.2.2.2.2.2.2.2.2.2.2.1 u.2.2.2.2.2.2.2.2.2.2.2.2.2.2.2.1 u.2.2.2.2.2.2.2.2.2.2.2.2.2.2.2.2)))) (u.1) := by
  refine zk_enter (cc := cX4_decided) (maxL := 3) (ret := some .int) (own := RX4) (Qf := fun A => QwI D (zwL aL (aT 0) (aN 0) (aR 0) (aP 0) (aE 0) ++ (zwE cI cJ aE u.2.1 u.2.2.1 u.2.2.2.1 u.2.2.2.2.1 u.2.2.2.2.2.1 u.2.2.2.2.2.2.1 u.2.2.2.2.2.2.2.1 u.2.2.2.2.2.2.2.2.1 u.2.2.2.2.2.2.2.2.2.1 ++ (zwC cI aN Ncandidates Nballots Nseats Nwithdrawn Nvoters Nsets Nrank ++ (zwC cI aR u.2.2.2.2.2.2.2.2.2.2.1 u.2.2.2.2.2.2.2.2.2.2.2.1 u.2.2.2.2.2.2.2.2.2.2.2.2.1 u.2.2.2.2.2.2.2.2.2.2.2.2.2.1 u.2.2.2.2.2.2.2.2.2.2.2.2.2.2.1 u.2.2.2.2.2.2.2.2.2.2.2.2.2.2.2.1 u.2.2.2.2.2.2.2.2.2.2.2.2.2.2.2.2)))) (u.1) A) (by decide) rfl rfl (Nat.le_of_ble_eq_true rfl) ?_
  intro p e s m args below meth c A Q H locs ls hC hQ hw hl
  obtain ⟨hx, hb, hml, hr, hts, hown, hlocks, hN, hK, hA⟩ := hC
  have hl : lv_has ls 3 [(0, .ref (aL 0)), (1, .int p0)] := hl
  have hiX4 : ∀ w ∈ u_ws RX4 TX4 5, w ∈ wsX4_decided := by decide +kernel
  have hq0 := hts (.fieldLink RX4 36 "LoadCouncil" "election" "LLoadCouncil$Election;") (by decide +kernel)
  have hq1 := hts (.fieldLink RX4 19 "LoadCouncil" "now" "LLoadCouncil$Council;") (by decide +kernel)
  have hq2 := hts (.initialized RX1) (by decide +kernel)
  have hq3 := hts (.instanceMethod yX1_hold) (by decide +kernel)
  have hq4 := hts (.selects RX1 yX1_hold yX1_hold) (by decide +kernel)
  have hq5 := hts (.fieldLink RX4 23 "LoadCouncil" "trial" "LLoadCouncil$Council;") (by decide +kernel)
  have hq6 := hts (.initialized RX0) (by decide +kernel)
  have hq7 := hts (.instanceMethod yX0_copyFrom) (by decide +kernel)
  have hq8 := hts (.selects RX0 yX0_copyFrom yX0_copyFrom) (by decide +kernel)
  have hq9 := hts (.instanceMethod yX0_turnRankRound) (by decide +kernel)
  have hq10 := hts (.selects RX0 yX0_turnRankRound yX0_turnRankRound) (by decide +kernel)
  unfold fX4_decided at hf
  refine lv_iload_n hx hb dX4_decided_0 rfl (lv_at hl 1 rfl) ?_
  obtain ⟨u1, e2, hf⟩ := zk_bd hf
  refine zk_calli (wc := []) (wr := zwL aL (aT 0) (aN 0) (aR 0) (aP 0) (aE 0) ++ (zwE cI cJ aE Eorder Eabove Ebelow Eelected Eset Esupport Eworth Eloads Eunit ++ (zwC cI aN Ncandidates Nballots Nseats Nwithdrawn Nvoters Nsets Nrank ++ (zwC cI aR Rcandidates Rballots Rseats Rwithdrawn Rvoters Rsets Rrank)))) hw hA [] [0, 1, 2, 3, 4, 5, 6, 7, 8, 9, 10, 11, 12, 13, 14, 15] rfl rfl (by decide) (by decide) (va_runS (As := [.int p0]) (rest := []) ⟨hx, hb, hml, hown, hts⟩ (kX4_isLaw l D cI cJ cO N p0 u1 e2 H.size) (va_cwS 1 hts gX4_decided_X4_isLaw rfl rfl rfl (by decide +kernel) ⟨Nat.le_of_ble_eq_true rfl, Nat.le_of_ble_eq_true rfl⟩) (zk_preS (wc := []) hN hK hw [] rfl (by decide)) rfl rfl hl.1 rfl (lv_room (Nat.le_of_ble_eq_true rfl)) dX4_decided_1 ⟨Nat.zero_le _, Nat.zero_le _⟩) (fun H locs hw => ?_)
  have hw : Wd D A s.heap (zwL aL (aT 0) (aN 0) (aR 0) (aP 0) (aE 0) ++ (zwE cI cJ aE Eorder Eabove Ebelow Eelected Eset Esupport Eworth Eloads Eunit ++ (zwC cI aN Ncandidates Nballots Nseats Nwithdrawn Nvoters Nsets Nrank ++ (zwC cI aR Rcandidates Rballots Rseats Rwithdrawn Rvoters Rsets Rrank)))) H locs := hw
  refine lv_if_ne (tgt := 9) hx hb dX4_decided_4 (by decide) (fun c3 => ?_) (fun c3 => ?_)
  · replace hf := zk_f c3 hf
    refine lv_aload_n hx hb dX4_decided_9 rfl (lv_at hl 0 rfl) ?_
    refine va_get (D := D) (ci := 4) (v := .ref (aE 0)) (C := RX4) (T := TX4) (N := 5) hx hb hts hiX4 hown hK hw.1 0 rfl rfl 4 (by decide) hq0 (fun _ h9 => h9) rfl dX4_decided_10 ?_
    refine lv_aload_n hx hb dX4_decided_13 rfl (lv_at hl 0 rfl) ?_
    refine va_get (D := D) (ci := 4) (v := .ref (aN 0)) (C := RX4) (T := TX4) (N := 5) hx hb hts hiX4 hown hK hw.1 0 rfl rfl 1 (by decide) hq1 (fun _ h9 => h9) rfl dX4_decided_14 ?_
    refine lv_iload_n hx hb dX4_decided_17 rfl (lv_at hl 1 rfl) ?_
    obtain ⟨u4, e5, hf⟩ := zk_bd hf
    refine zk_calli (wc := zwE cI cJ aE Eorder Eabove Ebelow Eelected Eset Esupport Eworth Eloads Eunit ++ (zwC cI aN Ncandidates Nballots Nseats Nwithdrawn Nvoters Nsets Nrank)) (wr := zwL aL (aT 0) (aN 0) (aR 0) (aP 0) (aE 0) ++ (zwC cI aR Rcandidates Rballots Rseats Rwithdrawn Rvoters Rsets Rrank)) hw hA [1, 2, 3, 4, 5, 6, 7, 8, 9, 10, 11] [0, 12, 13, 14, 15] rfl rfl (by decide) (by decide) (va_runVN (C := RX1) (As := [.ref (aN 0), .int p0]) (rest := []) ⟨hx, hb, hml, hown, hts⟩ (kX1_hold l D cI cJ cO N aE aN p0 Eorder Eabove Ebelow Eelected Eset Esupport Eworth Eloads Eunit Ncandidates Nballots Nseats Nwithdrawn Nvoters Nsets Nrank u4 e5 H.size) ⟨va_cnB 2 hts ggX4_decided_X1_hold rfl rfl rfl (nwM_X4_142 hN) hq2 (by decide +kernel) ⟨Nat.le_of_ble_eq_true rfl, Nat.le_of_ble_eq_true rfl⟩, hq3, hq4⟩ (zk_preV (wc := zwE cI cJ aE Eorder Eabove Ebelow Eelected Eset Esupport Eworth Eloads Eunit ++ (zwC cI aN Ncandidates Nballots Nseats Nwithdrawn Nvoters Nsets Nrank)) hN hK hw [1, 2, 3, 4, 5, 6, 7, 8, 9, 10, 11] rfl (by decide) 1 1 rfl rfl) rfl rfl hl.1 rfl (lv_room (Nat.le_of_ble_eq_true rfl)) dX4_decided_18 ⟨Nat.zero_le _, Nat.zero_le _⟩) (fun H locs hw => ?_)
    have hw : Wd D A s.heap (zwL aL (aT 0) (aN 0) (aR 0) (aP 0) (aE 0) ++ (zwC cI aR Rcandidates Rballots Rseats Rwithdrawn Rvoters Rsets Rrank ++ (zwE cI cJ aE u4.2.1 u4.2.2.1 u4.2.2.2.1 u4.2.2.2.2.1 u4.2.2.2.2.2.1 u4.2.2.2.2.2.2.1 u4.2.2.2.2.2.2.2.1 u4.2.2.2.2.2.2.2.2.1 u4.2.2.2.2.2.2.2.2.2 ++ (zwC cI aN Ncandidates Nballots Nseats Nwithdrawn Nvoters Nsets Nrank)))) H locs := hw
    refine lv_istore_n (lv' := [(2, .int u4.1), (0, .ref (aL 0)), (1, .int p0)]) hx hb dX4_decided_21 rfl hl (by decide) rfl (fun ls hl => ?_)
    refine lv_aload_n hx hb dX4_decided_22 rfl (lv_at hl 1 rfl) ?_
    refine va_get (D := D) (ci := 4) (v := .ref (aR 0)) (C := RX4) (T := TX4) (N := 5) hx hb hts hiX4 hown hK hw.1 0 rfl rfl 2 (by decide) hq5 (fun _ h9 => h9) rfl dX4_decided_23 ?_
    refine lv_aload_n hx hb dX4_decided_26 rfl (lv_at hl 1 rfl) ?_
    refine va_get (D := D) (ci := 4) (v := .ref (aN 0)) (C := RX4) (T := TX4) (N := 5) hx hb hts hiX4 hown hK hw.1 0 rfl rfl 1 (by decide) hq1 (fun _ h9 => h9) rfl dX4_decided_27 ?_
    obtain ⟨u6, e7, hf⟩ := zk_bd hf
    refine zk_callv (wc := zwC cI aR Rcandidates Rballots Rseats Rwithdrawn Rvoters Rsets Rrank ++ (zwC cI aN Ncandidates Nballots Nseats Nwithdrawn Nvoters Nsets Nrank)) (wr := zwL aL (aT 0) (aN 0) (aR 0) (aP 0) (aE 0) ++ (zwE cI cJ aE u4.2.1 u4.2.2.1 u4.2.2.2.1 u4.2.2.2.2.1 u4.2.2.2.2.2.1 u4.2.2.2.2.2.2.1 u4.2.2.2.2.2.2.2.1 u4.2.2.2.2.2.2.2.2.1 u4.2.2.2.2.2.2.2.2.2)) hw hA [1, 2, 3, 4, 12, 13, 14, 15] [0, 5, 6, 7, 8, 9, 10, 11] rfl rfl (by decide) (by decide) (va_runVN (C := RX0) (As := [.ref (aN 0)]) (rest := []) ⟨hx, hb, hml, hown, hts⟩ (kX0_copyFrom l D cI cJ cO N aR aN Rcandidates Rballots Rseats Rwithdrawn Rvoters Rsets Rrank Ncandidates Nballots Nseats Nwithdrawn Nvoters Nsets Nrank u6 e7 H.size) ⟨va_cnB 1 hts ggX4_decided_X0_copyFrom rfl rfl rfl (nwM_X4_69 hN) hq6 (by decide +kernel) ⟨Nat.le_of_ble_eq_true rfl, Nat.le_of_ble_eq_true rfl⟩, hq7, hq8⟩ (zk_preV (wc := zwC cI aR Rcandidates Rballots Rseats Rwithdrawn Rvoters Rsets Rrank ++ (zwC cI aN Ncandidates Nballots Nseats Nwithdrawn Nvoters Nsets Nrank)) hN hK hw [1, 2, 3, 4, 12, 13, 14, 15] rfl (by decide) 1 0 rfl rfl) rfl rfl hl.1 rfl (lv_room (Nat.le_of_ble_eq_true rfl)) dX4_decided_30 ⟨Nat.zero_le _, Nat.zero_le _⟩) (fun H locs hw => ?_)
    have hw : Wd D A s.heap (zwL aL (aT 0) (aN 0) (aR 0) (aP 0) (aE 0) ++ (zwE cI cJ aE u4.2.1 u4.2.2.1 u4.2.2.2.1 u4.2.2.2.2.1 u4.2.2.2.2.2.1 u4.2.2.2.2.2.2.1 u4.2.2.2.2.2.2.2.1 u4.2.2.2.2.2.2.2.2.1 u4.2.2.2.2.2.2.2.2.2 ++ (zwC cI aR u6.1 u6.2.1 u6.2.2.1 u6.2.2.2.1 u6.2.2.2.2.1 u6.2.2.2.2.2.1 u6.2.2.2.2.2.2 ++ (zwC cI aN Ncandidates Nballots Nseats Nwithdrawn Nvoters Nsets Nrank)))) H locs := hw
    refine lv_aload_n hx hb dX4_decided_33 rfl (lv_at hl 1 rfl) ?_
    refine va_get (D := D) (ci := 4) (v := .ref (aR 0)) (C := RX4) (T := TX4) (N := 5) hx hb hts hiX4 hown hK hw.1 0 rfl rfl 2 (by decide) hq5 (fun _ h9 => h9) rfl dX4_decided_34 ?_
    obtain ⟨u8, e9, hf⟩ := zk_bd hf
    refine zk_callv (wc := zwC cI aR u6.1 u6.2.1 u6.2.2.1 u6.2.2.2.1 u6.2.2.2.2.1 u6.2.2.2.2.2.1 u6.2.2.2.2.2.2) (wr := zwL aL (aT 0) (aN 0) (aR 0) (aP 0) (aE 0) ++ (zwE cI cJ aE u4.2.1 u4.2.2.1 u4.2.2.2.1 u4.2.2.2.2.1 u4.2.2.2.2.2.1 u4.2.2.2.2.2.2.1 u4.2.2.2.2.2.2.2.1 u4.2.2.2.2.2.2.2.2.1 u4.2.2.2.2.2.2.2.2.2 ++ (zwC cI aN Ncandidates Nballots Nseats Nwithdrawn Nvoters Nsets Nrank))) hw hA [8, 9, 10, 11] [0, 1, 2, 3, 4, 5, 6, 7, 12, 13, 14, 15] rfl rfl (by decide) (by decide) (va_runVN (C := RX0) (As := []) (rest := []) ⟨hx, hb, hml, hown, hts⟩ (kX0_turnRankRound l D cI cJ cO N aR u6.1 u6.2.1 u6.2.2.1 u6.2.2.2.1 u6.2.2.2.2.1 u6.2.2.2.2.2.1 u6.2.2.2.2.2.2 u8 e9 H.size) ⟨va_cnB 0 hts ggX4_decided_X0_turnRankRound rfl rfl rfl (nwM_X4_202 hN) hq6 (by decide +kernel) ⟨Nat.le_of_ble_eq_true rfl, Nat.le_of_ble_eq_true rfl⟩, hq9, hq10⟩ (zk_preV (wc := zwC cI aR u6.1 u6.2.1 u6.2.2.1 u6.2.2.2.1 u6.2.2.2.2.1 u6.2.2.2.2.2.1 u6.2.2.2.2.2.2) hN hK hw [8, 9, 10, 11] rfl (by decide) 8 0 rfl rfl) rfl rfl hl.1 rfl (lv_room (Nat.le_of_ble_eq_true rfl)) dX4_decided_37 ⟨Nat.zero_le _, Nat.zero_le _⟩) (fun H locs hw => ?_)
    have hw : Wd D A s.heap (zwL aL (aT 0) (aN 0) (aR 0) (aP 0) (aE 0) ++ (zwE cI cJ aE u4.2.1 u4.2.2.1 u4.2.2.2.1 u4.2.2.2.2.1 u4.2.2.2.2.2.1 u4.2.2.2.2.2.2.1 u4.2.2.2.2.2.2.2.1 u4.2.2.2.2.2.2.2.2.1 u4.2.2.2.2.2.2.2.2.2 ++ (zwC cI aN Ncandidates Nballots Nseats Nwithdrawn Nvoters Nsets Nrank ++ (zwC cI aR u6.1 u6.2.1 u6.2.2.1 u6.2.2.2.1 u6.2.2.2.2.1 u6.2.2.2.2.2.1 u8)))) H locs := hw
    refine lv_aload_n hx hb dX4_decided_40 rfl (lv_at hl 1 rfl) ?_
    refine va_get (D := D) (ci := 4) (v := .ref (aE 0)) (C := RX4) (T := TX4) (N := 5) hx hb hts hiX4 hown hK hw.1 0 rfl rfl 4 (by decide) hq0 (fun _ h9 => h9) rfl dX4_decided_41 ?_
    refine lv_aload_n hx hb dX4_decided_44 rfl (lv_at hl 1 rfl) ?_
    refine va_get (D := D) (ci := 4) (v := .ref (aR 0)) (C := RX4) (T := TX4) (N := 5) hx hb hts hiX4 hown hK hw.1 0 rfl rfl 2 (by decide) hq5 (fun _ h9 => h9) rfl dX4_decided_45 ?_
    refine lv_iload_n hx hb dX4_decided_48 rfl (lv_at hl 2 rfl) ?_
    obtain ⟨u10, e11, hf⟩ := zk_bd hf
    refine zk_calli (wc := zwE cI cJ aE u4.2.1 u4.2.2.1 u4.2.2.2.1 u4.2.2.2.2.1 u4.2.2.2.2.2.1 u4.2.2.2.2.2.2.1 u4.2.2.2.2.2.2.2.1 u4.2.2.2.2.2.2.2.2.1 u4.2.2.2.2.2.2.2.2.2 ++ (zwC cI aR u6.1 u6.2.1 u6.2.2.1 u6.2.2.2.1 u6.2.2.2.2.1 u6.2.2.2.2.2.1 u8)) (wr := zwL aL (aT 0) (aN 0) (aR 0) (aP 0) (aE 0) ++ (zwC cI aN Ncandidates Nballots Nseats Nwithdrawn Nvoters Nsets Nrank)) hw hA [1, 2, 3, 4, 5, 6, 7, 12, 13, 14, 15] [0, 8, 9, 10, 11] rfl rfl (by decide) (by decide) (va_runVN (C := RX1) (As := [.ref (aR 0), .int p0]) (rest := []) ⟨hx, hb, hml, hown, hts⟩ (kX1_hold l D cI cJ cO N aE aR p0 u4.2.1 u4.2.2.1 u4.2.2.2.1 u4.2.2.2.2.1 u4.2.2.2.2.2.1 u4.2.2.2.2.2.2.1 u4.2.2.2.2.2.2.2.1 u4.2.2.2.2.2.2.2.2.1 u4.2.2.2.2.2.2.2.2.2 u6.1 u6.2.1 u6.2.2.1 u6.2.2.2.1 u6.2.2.2.2.1 u6.2.2.2.2.2.1 u8 u10 e11 H.size) ⟨va_cnB 2 hts ggX4_decided_X1_hold rfl rfl rfl (nwM_X4_142 hN) hq2 (by decide +kernel) ⟨Nat.le_of_ble_eq_true rfl, Nat.le_of_ble_eq_true rfl⟩, hq3, hq4⟩ (zk_preV (wc := zwE cI cJ aE u4.2.1 u4.2.2.1 u4.2.2.2.1 u4.2.2.2.2.1 u4.2.2.2.2.2.1 u4.2.2.2.2.2.2.1 u4.2.2.2.2.2.2.2.1 u4.2.2.2.2.2.2.2.2.1 u4.2.2.2.2.2.2.2.2.2 ++ (zwC cI aR u6.1 u6.2.1 u6.2.2.1 u6.2.2.2.1 u6.2.2.2.2.1 u6.2.2.2.2.2.1 u8)) hN hK hw [1, 2, 3, 4, 5, 6, 7, 12, 13, 14, 15] rfl (by decide) 1 1 rfl rfl) rfl rfl hl.1 rfl (lv_room (Nat.le_of_ble_eq_true rfl)) dX4_decided_49 ⟨Nat.zero_le _, Nat.zero_le _⟩) (fun H locs hw => ?_)
    have hw : Wd D A s.heap (zwL aL (aT 0) (aN 0) (aR 0) (aP 0) (aE 0) ++ (zwC cI aN Ncandidates Nballots Nseats Nwithdrawn Nvoters Nsets Nrank ++ (zwE cI cJ aE u10.2.1 u10.2.2.1 u10.2.2.2.1 u10.2.2.2.2.1 u10.2.2.2.2.2.1 u10.2.2.2.2.2.2.1 u10.2.2.2.2.2.2.2.1 u10.2.2.2.2.2.2.2.2.1 u10.2.2.2.2.2.2.2.2.2 ++ (zwC cI aR u6.1 u6.2.1 u6.2.2.1 u6.2.2.2.1 u6.2.2.2.2.1 u6.2.2.2.2.2.1 u8)))) H locs := hw
    refine lv_iload_n hx hb dX4_decided_52 rfl (lv_at hl 0 rfl) ?_
    refine lv_icmp_eq (tgt := 60) hx hb dX4_decided_53 (by decide) (fun c12 => ?_) (fun c12 => ?_)
    · replace hf := zk_t c12 hf
      refine lv_iconst (v := 0) hx hb dX4_decided_60 (by decide) ?_
      cases hf
      exact zk_iret hx hb hr hlocks rfl hQ hw [0, 5, 6, 7, 8, 9, 10, 11, 1, 2, 3, 4, 12, 13, 14, 15] rfl (by decide) dX4_decided_61
    · replace hf := zk_f c12 hf
      refine lv_iconst (v := 1) hx hb dX4_decided_56 (by decide) ?_
      refine lv_goto (tgt := 61) hx hb dX4_decided_57 (by decide) ?_
      cases hf
      exact zk_iret hx hb hr hlocks rfl hQ hw [0, 5, 6, 7, 8, 9, 10, 11, 1, 2, 3, 4, 12, 13, 14, 15] rfl (by decide) dX4_decided_61
  · replace hf := zk_t c3 hf
    refine lv_iconst (v := (-1)) hx hb dX4_decided_7 (by decide) ?_
    cases hf
    exact zk_iret hx hb hr hlocks rfl hQ hw [0, 1, 2, 3, 4, 5, 6, 7, 8, 9, 10, 11, 12, 13, 14, 15] rfl (by decide) dX4_decided_8
set_option maxHeartbeats 4000000 in
set_option maxRecDepth 100000 in
theorem kX4_both (l : Launch) (D : va_G) (cI cJ cO : ClassId) (N : Nat) (aL aE aN : Nat → Nat) (aT aR aP : Nat → Nat) (p0 : Int32) (p1 : Int32) (Eorder : Nat → Int32) (Eabove : Nat → Int64) (Ebelow : Nat → Int64) (Eelected : Int32) (Eset : Int32) (Esupport : Nat → Int32) (Eworth : Nat → Int64) (Eloads : Nat → Int64) (Eunit : Int64) (Ncandidates : Int32) (Nballots : Int32) (Nseats : Int32) (Nwithdrawn : Int32) (Nvoters : Nat → Int32) (Nsets : Nat → Int32) (Nrank : Nat → Int32) (u : Int32 × (Nat → Int32) × (Nat → Int64) × (Nat → Int64) × (Int32) × (Int32) × (Nat → Int32) × (Nat → Int64) × (Nat → Int64) × (Int64)) (hf : fX4_both N p0 p1 Eorder Eabove Ebelow Eelected Eset Esupport Eworth Eloads Eunit Ncandidates Nballots Nseats Nwithdrawn Nvoters Nsets Nrank = some u) : CtI l yX4_both wsX4_both (zk_rm 5 117) D cI cJ cO [.ref (aL 0), .int p0, .int p1] (zwL aL (aT 0) (aN 0) (aR 0) (aP 0) (aE 0) ++ (zwE cI cJ aE Eorder Eabove Ebelow Eelected Eset Esupport Eworth Eloads Eunit ++ (zwC cI aN Ncandidates Nballots Nseats Nwithdrawn Nvoters Nsets Nrank))) (zwL aL (aT 0) (aN 0) (aR 0) (aP 0) (aE 0) ++ (zwE cI cJ aE u.2.1 u.2.2.1 u.2.2.2.1 u.2.2.2.2.1 u.2.2.2.2.2.1 u.2.2.2.2.2.2.1 u.2.2.2.2.2.2.2.1 u.2.2.2.2.2.2.2.2.1 u.2.2.2.2.2.2.2.2.2 ++ (zwC cI aN Ncandidates Nballots Nseats Nwithdrawn Nvoters Nsets Nrank))) (u.1) := by
  refine zk_enter (cc := cX4_both) (maxL := 4) (ret := some .int) (own := RX4) (Qf := fun A => QwI D (zwL aL (aT 0) (aN 0) (aR 0) (aP 0) (aE 0) ++ (zwE cI cJ aE u.2.1 u.2.2.1 u.2.2.2.1 u.2.2.2.2.1 u.2.2.2.2.2.1 u.2.2.2.2.2.2.1 u.2.2.2.2.2.2.2.1 u.2.2.2.2.2.2.2.2.1 u.2.2.2.2.2.2.2.2.2 ++ (zwC cI aN Ncandidates Nballots Nseats Nwithdrawn Nvoters Nsets Nrank))) (u.1) A) (by decide) rfl rfl (Nat.le_of_ble_eq_true rfl) ?_
  intro p e s m args below meth c A Q H locs ls hC hQ hw hl
  obtain ⟨hx, hb, hml, hr, hts, hown, hlocks, hN, hK, hA⟩ := hC
  have hl : lv_has ls 4 [(0, .ref (aL 0)), (1, .int p0), (2, .int p1)] := hl
  have hiX4 : ∀ w ∈ u_ws RX4 TX4 5, w ∈ wsX4_both := by decide +kernel
  have hq0 := hts (.fieldLink RX4 36 "LoadCouncil" "election" "LLoadCouncil$Election;") (by decide +kernel)
  have hq1 := hts (.fieldLink RX4 19 "LoadCouncil" "now" "LLoadCouncil$Council;") (by decide +kernel)
  have hq2 := hts (.initialized RX1) (by decide +kernel)
  have hq3 := hts (.instanceMethod yX1_hold) (by decide +kernel)
  have hq4 := hts (.selects RX1 yX1_hold yX1_hold) (by decide +kernel)
  unfold fX4_both at hf
  refine lv_iload_n hx hb dX4_both_0 rfl (lv_at hl 1 rfl) ?_
  obtain ⟨u1, e2, hf⟩ := zk_bd hf
  refine zk_calli (wc := []) (wr := zwL aL (aT 0) (aN 0) (aR 0) (aP 0) (aE 0) ++ (zwE cI cJ aE Eorder Eabove Ebelow Eelected Eset Esupport Eworth Eloads Eunit ++ (zwC cI aN Ncandidates Nballots Nseats Nwithdrawn Nvoters Nsets Nrank))) hw hA [] [0, 1, 2, 3, 4, 5, 6, 7, 8, 9, 10, 11] rfl rfl (by decide) (by decide) (va_runS (As := [.int p0]) (rest := []) ⟨hx, hb, hml, hown, hts⟩ (kX4_isLaw l D cI cJ cO N p0 u1 e2 H.size) (va_cwS 1 hts gX4_both_X4_isLaw rfl rfl rfl (by decide +kernel) ⟨Nat.le_of_ble_eq_true rfl, Nat.le_of_ble_eq_true rfl⟩) (zk_preS (wc := []) hN hK hw [] rfl (by decide)) rfl rfl hl.1 rfl (lv_room (Nat.le_of_ble_eq_true rfl)) dX4_both_1 ⟨Nat.zero_le _, Nat.zero_le _⟩) (fun H locs hw => ?_)
  have hw : Wd D A s.heap (zwL aL (aT 0) (aN 0) (aR 0) (aP 0) (aE 0) ++ (zwE cI cJ aE Eorder Eabove Ebelow Eelected Eset Esupport Eworth Eloads Eunit ++ (zwC cI aN Ncandidates Nballots Nseats Nwithdrawn Nvoters Nsets Nrank))) H locs := hw
  refine lv_if_eq (tgt := 14) hx hb dX4_both_4 (by decide) (fun c3 => ?_) (fun c3 => ?_)
  · replace hf := zk_t c3 hf
    refine lv_iconst (v := (-1)) hx hb dX4_both_14 (by decide) ?_
    cases hf
    exact zk_iret hx hb hr hlocks rfl hQ hw [0, 1, 2, 3, 4, 5, 6, 7, 8, 9, 10, 11] rfl (by decide) dX4_both_15
  · replace hf := zk_f c3 hf
    refine lv_iload_n hx hb dX4_both_7 rfl (lv_at hl 2 rfl) ?_
    obtain ⟨u4, e5, hf⟩ := zk_bd hf
    refine zk_calli (wc := []) (wr := zwL aL (aT 0) (aN 0) (aR 0) (aP 0) (aE 0) ++ (zwE cI cJ aE Eorder Eabove Ebelow Eelected Eset Esupport Eworth Eloads Eunit ++ (zwC cI aN Ncandidates Nballots Nseats Nwithdrawn Nvoters Nsets Nrank))) hw hA [] [0, 1, 2, 3, 4, 5, 6, 7, 8, 9, 10, 11] rfl rfl (by decide) (by decide) (va_runS (As := [.int p1]) (rest := []) ⟨hx, hb, hml, hown, hts⟩ (kX4_isLaw l D cI cJ cO N p1 u4 e5 H.size) (va_cwS 1 hts gX4_both_X4_isLaw rfl rfl rfl (by decide +kernel) ⟨Nat.le_of_ble_eq_true rfl, Nat.le_of_ble_eq_true rfl⟩) (zk_preS (wc := []) hN hK hw [] rfl (by decide)) rfl rfl hl.1 rfl (lv_room (Nat.le_of_ble_eq_true rfl)) dX4_both_8 ⟨Nat.zero_le _, Nat.zero_le _⟩) (fun H locs hw => ?_)
    have hw : Wd D A s.heap (zwL aL (aT 0) (aN 0) (aR 0) (aP 0) (aE 0) ++ (zwE cI cJ aE Eorder Eabove Ebelow Eelected Eset Esupport Eworth Eloads Eunit ++ (zwC cI aN Ncandidates Nballots Nseats Nwithdrawn Nvoters Nsets Nrank))) H locs := hw
    refine lv_if_ne (tgt := 16) hx hb dX4_both_11 (by decide) (fun c6 => ?_) (fun c6 => ?_)
    · replace hf := zk_f c6 hf
      refine lv_aload_n hx hb dX4_both_16 rfl (lv_at hl 0 rfl) ?_
      refine va_get (D := D) (ci := 4) (v := .ref (aE 0)) (C := RX4) (T := TX4) (N := 5) hx hb hts hiX4 hown hK hw.1 0 rfl rfl 4 (by decide) hq0 (fun _ h9 => h9) rfl dX4_both_17 ?_
      refine lv_aload_n hx hb dX4_both_20 rfl (lv_at hl 0 rfl) ?_
      refine va_get (D := D) (ci := 4) (v := .ref (aN 0)) (C := RX4) (T := TX4) (N := 5) hx hb hts hiX4 hown hK hw.1 0 rfl rfl 1 (by decide) hq1 (fun _ h9 => h9) rfl dX4_both_21 ?_
      refine lv_iload_n hx hb dX4_both_24 rfl (lv_at hl 1 rfl) ?_
      obtain ⟨u7, e8, hf⟩ := zk_bd hf
      refine zk_calli (wc := zwE cI cJ aE Eorder Eabove Ebelow Eelected Eset Esupport Eworth Eloads Eunit ++ (zwC cI aN Ncandidates Nballots Nseats Nwithdrawn Nvoters Nsets Nrank)) (wr := zwL aL (aT 0) (aN 0) (aR 0) (aP 0) (aE 0)) hw hA [1, 2, 3, 4, 5, 6, 7, 8, 9, 10, 11] [0] rfl rfl (by decide) (by decide) (va_runVN (C := RX1) (As := [.ref (aN 0), .int p0]) (rest := []) ⟨hx, hb, hml, hown, hts⟩ (kX1_hold l D cI cJ cO N aE aN p0 Eorder Eabove Ebelow Eelected Eset Esupport Eworth Eloads Eunit Ncandidates Nballots Nseats Nwithdrawn Nvoters Nsets Nrank u7 e8 H.size) ⟨va_cnB 2 hts ggX4_both_X1_hold rfl rfl rfl (nwM_X4_142 hN) hq2 (by decide +kernel) ⟨Nat.le_of_ble_eq_true rfl, Nat.le_of_ble_eq_true rfl⟩, hq3, hq4⟩ (zk_preV (wc := zwE cI cJ aE Eorder Eabove Ebelow Eelected Eset Esupport Eworth Eloads Eunit ++ (zwC cI aN Ncandidates Nballots Nseats Nwithdrawn Nvoters Nsets Nrank)) hN hK hw [1, 2, 3, 4, 5, 6, 7, 8, 9, 10, 11] rfl (by decide) 1 1 rfl rfl) rfl rfl hl.1 rfl (lv_room (Nat.le_of_ble_eq_true rfl)) dX4_both_25 ⟨Nat.zero_le _, Nat.zero_le _⟩) (fun H locs hw => ?_)
      have hw : Wd D A s.heap (zwL aL (aT 0) (aN 0) (aR 0) (aP 0) (aE 0) ++ (zwE cI cJ aE u7.2.1 u7.2.2.1 u7.2.2.2.1 u7.2.2.2.2.1 u7.2.2.2.2.2.1 u7.2.2.2.2.2.2.1 u7.2.2.2.2.2.2.2.1 u7.2.2.2.2.2.2.2.2.1 u7.2.2.2.2.2.2.2.2.2 ++ (zwC cI aN Ncandidates Nballots Nseats Nwithdrawn Nvoters Nsets Nrank))) H locs := hw
      refine lv_istore_n (lv' := [(3, .int u7.1), (0, .ref (aL 0)), (1, .int p0), (2, .int p1)]) hx hb dX4_both_28 rfl hl (by decide) rfl (fun ls hl => ?_)
      refine lv_iload_n hx hb dX4_both_29 rfl (lv_at hl 0 rfl) ?_
      refine lv_aload_n hx hb dX4_both_30 rfl (lv_at hl 1 rfl) ?_
      refine va_get (D := D) (ci := 4) (v := .ref (aE 0)) (C := RX4) (T := TX4) (N := 5) hx hb hts hiX4 hown hK hw.1 0 rfl rfl 4 (by decide) hq0 (fun _ h9 => h9) rfl dX4_both_31 ?_
      refine lv_aload_n hx hb dX4_both_34 rfl (lv_at hl 1 rfl) ?_
      refine va_get (D := D) (ci := 4) (v := .ref (aN 0)) (C := RX4) (T := TX4) (N := 5) hx hb hts hiX4 hown hK hw.1 0 rfl rfl 1 (by decide) hq1 (fun _ h9 => h9) rfl dX4_both_35 ?_
      refine lv_iload_n hx hb dX4_both_38 rfl (lv_at hl 3 rfl) ?_
      obtain ⟨u9, e10, hf⟩ := zk_bd hf
      refine zk_calli (wc := zwE cI cJ aE u7.2.1 u7.2.2.1 u7.2.2.2.1 u7.2.2.2.2.1 u7.2.2.2.2.2.1 u7.2.2.2.2.2.2.1 u7.2.2.2.2.2.2.2.1 u7.2.2.2.2.2.2.2.2.1 u7.2.2.2.2.2.2.2.2.2 ++ (zwC cI aN Ncandidates Nballots Nseats Nwithdrawn Nvoters Nsets Nrank)) (wr := zwL aL (aT 0) (aN 0) (aR 0) (aP 0) (aE 0)) hw hA [1, 2, 3, 4, 5, 6, 7, 8, 9, 10, 11] [0] rfl rfl (by decide) (by decide) (va_runVN (C := RX1) (As := [.ref (aN 0), .int p1]) (rest := [.int u7.1]) ⟨hx, hb, hml, hown, hts⟩ (kX1_hold l D cI cJ cO N aE aN p1 u7.2.1 u7.2.2.1 u7.2.2.2.1 u7.2.2.2.2.1 u7.2.2.2.2.2.1 u7.2.2.2.2.2.2.1 u7.2.2.2.2.2.2.2.1 u7.2.2.2.2.2.2.2.2.1 u7.2.2.2.2.2.2.2.2.2 Ncandidates Nballots Nseats Nwithdrawn Nvoters Nsets Nrank u9 e10 H.size) ⟨va_cnB 2 hts ggX4_both_X1_hold rfl rfl rfl (nwM_X4_142 hN) hq2 (by decide +kernel) ⟨Nat.le_of_ble_eq_true rfl, Nat.le_of_ble_eq_true rfl⟩, hq3, hq4⟩ (zk_preV (wc := zwE cI cJ aE u7.2.1 u7.2.2.1 u7.2.2.2.1 u7.2.2.2.2.1 u7.2.2.2.2.2.1 u7.2.2.2.2.2.2.1 u7.2.2.2.2.2.2.2.1 u7.2.2.2.2.2.2.2.2.1 u7.2.2.2.2.2.2.2.2.2 ++ (zwC cI aN Ncandidates Nballots Nseats Nwithdrawn Nvoters Nsets Nrank)) hN hK hw [1, 2, 3, 4, 5, 6, 7, 8, 9, 10, 11] rfl (by decide) 1 1 rfl rfl) rfl rfl hl.1 rfl (lv_room (Nat.le_of_ble_eq_true rfl)) dX4_both_39 ⟨Nat.zero_le _, Nat.zero_le _⟩) (fun H locs hw => ?_)
      have hw : Wd D A s.heap (zwL aL (aT 0) (aN 0) (aR 0) (aP 0) (aE 0) ++ (zwE cI cJ aE u9.2.1 u9.2.2.1 u9.2.2.2.1 u9.2.2.2.2.1 u9.2.2.2.2.2.1 u9.2.2.2.2.2.2.1 u9.2.2.2.2.2.2.2.1 u9.2.2.2.2.2.2.2.2.1 u9.2.2.2.2.2.2.2.2.2 ++ (zwC cI aN Ncandidates Nballots Nseats Nwithdrawn Nvoters Nsets Nrank))) H locs := hw
      refine lv_iand hx hb dX4_both_42 ?_
      obtain ⟨u11, e12, hf⟩ := zk_bd hf
      refine zk_calli (wc := []) (wr := zwL aL (aT 0) (aN 0) (aR 0) (aP 0) (aE 0) ++ (zwE cI cJ aE u9.2.1 u9.2.2.1 u9.2.2.2.1 u9.2.2.2.2.1 u9.2.2.2.2.2.1 u9.2.2.2.2.2.2.1 u9.2.2.2.2.2.2.2.1 u9.2.2.2.2.2.2.2.2.1 u9.2.2.2.2.2.2.2.2.2 ++ (zwC cI aN Ncandidates Nballots Nseats Nwithdrawn Nvoters Nsets Nrank))) hw hA [] [0, 1, 2, 3, 4, 5, 6, 7, 8, 9, 10, 11] rfl rfl (by decide) (by decide) (va_runS (As := [.int (u7.1 &&& u9.1)]) (rest := []) ⟨hx, hb, hml, hown, hts⟩ (kJ6_bitCount_0f7a4 l D cI cJ cO N (u7.1 &&& u9.1) u11 e12 H.size) (va_cwS 1 hts gX4_both_J6_bitCount_0f7a4 rfl rfl rfl (by decide +kernel) ⟨Nat.le_of_ble_eq_true rfl, Nat.le_of_ble_eq_true rfl⟩) (zk_preS (wc := []) hN hK hw [] rfl (by decide)) rfl rfl hl.1 rfl (lv_room (Nat.le_of_ble_eq_true rfl)) dX4_both_43 ⟨Nat.zero_le _, Nat.zero_le _⟩) (fun H locs hw => ?_)
      have hw : Wd D A s.heap (zwL aL (aT 0) (aN 0) (aR 0) (aP 0) (aE 0) ++ (zwE cI cJ aE u9.2.1 u9.2.2.1 u9.2.2.2.1 u9.2.2.2.2.1 u9.2.2.2.2.2.1 u9.2.2.2.2.2.2.1 u9.2.2.2.2.2.2.2.1 u9.2.2.2.2.2.2.2.2.1 u9.2.2.2.2.2.2.2.2.2 ++ (zwC cI aN Ncandidates Nballots Nseats Nwithdrawn Nvoters Nsets Nrank))) H locs := hw
      cases hf
      exact zk_iret hx hb hr hlocks rfl hQ hw [0, 1, 2, 3, 4, 5, 6, 7, 8, 9, 10, 11] rfl (by decide) dX4_both_46
    · replace hf := zk_t c6 hf
      refine lv_iconst (v := (-1)) hx hb dX4_both_14 (by decide) ?_
      cases hf
      exact zk_iret hx hb hr hlocks rfl hQ hw [0, 1, 2, 3, 4, 5, 6, 7, 8, 9, 10, 11] rfl (by decide) dX4_both_15
