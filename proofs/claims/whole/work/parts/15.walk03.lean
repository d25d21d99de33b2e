set_option maxHeartbeats 4000000 in
set_option maxRecDepth 100000 in
theorem kX4_approve (l : Launch) (D : va_G) (cI cJ cO : ClassId) (N : Nat) (aL aP aN aQ : Nat → Nat) (aT aR aE : Nat → Nat) (p0 : Int32) (p1 : Int32) (Pring : Nat → Option Nat) (Ptop : Int32) (Psize : Int32) (Ncandidates : Int32) (Nballots : Int32) (Nseats : Int32) (Nwithdrawn : Int32) (Nvoters : Nat → Int32) (Nsets : Nat → Int32) (Nrank : Nat → Int32) (Qcandidates : Int32) (Qballots : Int32) (Qseats : Int32) (Qwithdrawn : Int32) (Qvoters : Nat → Int32) (Qsets : Nat → Int32) (Qrank : Nat → Int32) (hg : Pring (Ptop).toNatClampNeg = some (aQ 0)) (u : Int32 × (Int32) × (Int32) × (Nat → Int32) × (Int32) × (Int32) × (Int32) × (Int32) × (Nat → Int32) × (Nat → Int32) × (Nat → Int32)) (hf : fX4_approve N p0 p1 Ptop Psize Ncandidates Nballots Nseats Nwithdrawn Nvoters Nsets Nrank Qcandidates Qballots Qseats Qwithdrawn Qvoters Qsets Qrank = some u) : CtI l yX4_approve wsX4_approve (zk_rm 3 102) D cI cJ cO [.ref (aL 0), .int p0, .int p1] (zwL aL (aT 0) (aN 0) (aR 0) (aP 0) (aE 0) ++ (zwP cO aP Pring Ptop Psize ++ (zwC cI aN Ncandidates Nballots Nseats Nwithdrawn Nvoters Nsets Nrank ++ (zwC cI aQ Qcandidates Qballots Qseats Qwithdrawn Qvoters Qsets Qrank)))) (zwL aL (aT 0) (aN 0) (aR 0) (aP 0) (aE 0) ++ (zwP cO aP Pring u.2.1 u.2.2.1 ++ (zwC cI aN Ncandidates Nballots Nseats Nwithdrawn Nvoters u.2.2.2.1 Nrank ++ (zwC cI aQ u.2.2.2.2.1 u.2.2.2.2.2.1 u.2.2.2.2.2.2.1 u.2.2.2.2.2.2.2.1 u.2.2.2.2.2.2.2.2.1 u.2.2.2.2.2.2.2.2.2.1 u.2.2.2.2.2.2.2.2.2.2)))) (u.1) := by
  refine zk_enter (cc := cX4_approve) (maxL := 4) (ret := some .int) (own := RX4) (Qf := fun A => QwI D (zwL aL (aT 0) (aN 0) (aR 0) (aP 0) (aE 0) ++ (zwP cO aP Pring u.2.1 u.2.2.1 ++ (zwC cI aN Ncandidates Nballots Nseats Nwithdrawn Nvoters u.2.2.2.1 Nrank ++ (zwC cI aQ u.2.2.2.2.1 u.2.2.2.2.2.1 u.2.2.2.2.2.2.1 u.2.2.2.2.2.2.2.1 u.2.2.2.2.2.2.2.2.1 u.2.2.2.2.2.2.2.2.2.1 u.2.2.2.2.2.2.2.2.2.2)))) (u.1) A) (by decide) rfl rfl (Nat.le_of_ble_eq_true rfl) ?_
  intro p e s m args below meth c A Q H locs ls hC hQ hw hl
  obtain ⟨hx, hb, hml, hr, hts, hown, hlocks, hN, hK, hA⟩ := hC
  have hl : lv_has ls 4 [(0, .ref (aL 0)), (1, .int p0), (2, .int p1)] := hl
  have hiX4 : ∀ w ∈ u_ws RX4 TX4 5, w ∈ wsX4_approve := by decide +kernel
  have hiX0 : ∀ w ∈ u_ws RX0 TX0 7, w ∈ wsX4_approve := by decide +kernel
  have hq0 := hts (.fieldLink RX4 19 "LoadCouncil" "now" "LLoadCouncil$Council;") (by decide +kernel)
  have hq1 := hts (.fieldLink RX4 29 "LoadCouncil" "past" "LLoadCouncil$Past;") (by decide +kernel)
  have hq2 := hts (.initialized RX2) (by decide +kernel)
  have hq3 := hts (.instanceMethod yX2_keep) (by decide +kernel)
  have hq4 := hts (.selects RX2 yX2_keep yX2_keep) (by decide +kernel)
  unfold fX4_approve at hf
  refine lv_aload_n hx hb dX4_approve_0 rfl (lv_at hl 0 rfl) ?_
  refine lv_iload_n hx hb dX4_approve_1 rfl (lv_at hl 1 rfl) ?_
  obtain ⟨u1, e2, hf⟩ := zk_bd hf
  refine zk_calli (wc := zwL aL (aT 0) (aN 0) (aR 0) (aP 0) (aE 0) ++ (zwC cI aN Ncandidates Nballots Nseats Nwithdrawn Nvoters Nsets Nrank)) (wr := zwP cO aP Pring Ptop Psize ++ (zwC cI aQ Qcandidates Qballots Qseats Qwithdrawn Qvoters Qsets Qrank)) hw hA [0, 3, 4, 5, 6] [1, 2, 7, 8, 9, 10] rfl rfl (by decide) (by decide) (va_runV (C := RX4) (As := [.int p0]) (rest := []) ⟨hx, hb, hml, hown, hts⟩ (kX4_isBallot l D cI cJ cO N aL aN aT aR aP aE p0 Ncandidates Nballots Nseats Nwithdrawn Nvoters Nsets Nrank u1 e2 H.size) (cwV 1 hts gX4_approve_X4_isBallot rfl rfl rfl (by decide +kernel) ⟨Nat.le_of_ble_eq_true rfl, Nat.le_of_ble_eq_true rfl⟩) (zk_preV (wc := zwL aL (aT 0) (aN 0) (aR 0) (aP 0) (aE 0) ++ (zwC cI aN Ncandidates Nballots Nseats Nwithdrawn Nvoters Nsets Nrank)) hN hK hw [0, 3, 4, 5, 6] rfl (by decide) 0 4 rfl rfl) rfl rfl hl.1 rfl (lv_room (Nat.le_of_ble_eq_true rfl)) dX4_approve_2 ⟨Nat.zero_le _, Nat.zero_le _⟩) (fun H locs hw => ?_)
  have hw : Wd D A s.heap (zwP cO aP Pring Ptop Psize ++ (zwC cI aQ Qcandidates Qballots Qseats Qwithdrawn Qvoters Qsets Qrank ++ (zwL aL (aT 0) (aN 0) (aR 0) (aP 0) (aE 0) ++ (zwC cI aN Ncandidates Nballots Nseats Nwithdrawn Nvoters Nsets Nrank)))) H locs := hw
  refine lv_if_eq (tgt := 16) hx hb dX4_approve_5 (by decide) (fun c3 => ?_) (fun c3 => ?_)
  · replace hf := zk_t c3 hf
    refine lv_iconst (v := (-1)) hx hb dX4_approve_16 (by decide) ?_
    cases hf
    exact zk_iret hx hb hr hlocks rfl hQ hw [6, 0, 1, 7, 8, 9, 10, 2, 3, 4, 5] rfl (by decide) dX4_approve_17
  · replace hf := zk_f c3 hf
    refine lv_aload_n hx hb dX4_approve_8 rfl (lv_at hl 0 rfl) ?_
    refine lv_iload_n hx hb dX4_approve_9 rfl (lv_at hl 2 rfl) ?_
    obtain ⟨u4, e5, hf⟩ := zk_bd hf
    refine zk_calli (wc := zwL aL (aT 0) (aN 0) (aR 0) (aP 0) (aE 0) ++ (zwC cI aN Ncandidates Nballots Nseats Nwithdrawn Nvoters Nsets Nrank)) (wr := zwP cO aP Pring Ptop Psize ++ (zwC cI aQ Qcandidates Qballots Qseats Qwithdrawn Qvoters Qsets Qrank)) hw hA [6, 7, 8, 9, 10] [0, 1, 2, 3, 4, 5] rfl rfl (by decide) (by decide) (va_runV (C := RX4) (As := [.int p1]) (rest := []) ⟨hx, hb, hml, hown, hts⟩ (kX4_isSet l D cI cJ cO N aL aN aT aR aP aE p1 Ncandidates Nballots Nseats Nwithdrawn Nvoters Nsets Nrank u4 e5 H.size) (cwV 1 hts gX4_approve_X4_isSet rfl rfl rfl (by decide +kernel) ⟨Nat.le_of_ble_eq_true rfl, Nat.le_of_ble_eq_true rfl⟩) (zk_preV (wc := zwL aL (aT 0) (aN 0) (aR 0) (aP 0) (aE 0) ++ (zwC cI aN Ncandidates Nballots Nseats Nwithdrawn Nvoters Nsets Nrank)) hN hK hw [6, 7, 8, 9, 10] rfl (by decide) 6 4 rfl rfl) rfl rfl hl.1 rfl (lv_room (Nat.le_of_ble_eq_true rfl)) dX4_approve_10 ⟨Nat.zero_le _, Nat.zero_le _⟩) (fun H locs hw => ?_)
    have hw : Wd D A s.heap (zwP cO aP Pring Ptop Psize ++ (zwC cI aQ Qcandidates Qballots Qseats Qwithdrawn Qvoters Qsets Qrank ++ (zwL aL (aT 0) (aN 0) (aR 0) (aP 0) (aE 0) ++ (zwC cI aN Ncandidates Nballots Nseats Nwithdrawn Nvoters Nsets Nrank)))) H locs := hw
    refine lv_if_ne (tgt := 18) hx hb dX4_approve_13 (by decide) (fun c6 => ?_) (fun c6 => ?_)
    · replace hf := zk_f c6 hf
      refine lv_aload_n hx hb dX4_approve_18 rfl (lv_at hl 0 rfl) ?_
      refine va_get (D := D) (ci := 4) (v := .ref (aN 0)) (C := RX4) (T := TX4) (N := 5) hx hb hts hiX4 hown hK hw.1 6 rfl rfl 1 (by decide) hq0 (fun _ h9 => h9) rfl dX4_approve_19 ?_
      refine va_getN (D := D) (ci := 0) (v := .ref (aN 2)) (C := RX0) (T := TX0) (N := 7) hx hb hts hiX0 hown hK hw.1 7 rfl rfl 5 (by decide) (va_Nw.use rfl (nwF_X4_102 hN)) (fun _ h9 => h9) rfl dX4_approve_22 ?_
      refine lv_iload_n hx hb dX4_approve_25 rfl (lv_at hl 1 rfl) ?_
      obtain ⟨h7, hf⟩ := zk_ck hf
      refine zk_iald hx hb hK hw 9 rfl h7 (j := p0.toNatClampNeg) rfl dX4_approve_26 ?_
      refine lv_istore_n (lv' := [(3, .int (Nsets p0.toNatClampNeg)), (0, .ref (aL 0)), (1, .int p0), (2, .int p1)]) hx hb dX4_approve_27 rfl hl (by decide) rfl (fun ls hl => ?_)
      refine lv_iload_n hx hb dX4_approve_28 rfl (lv_at hl 0 rfl) ?_
      refine lv_iload_n hx hb dX4_approve_29 rfl (lv_at hl 3 rfl) ?_
      refine lv_icmp_ne (tgt := 36) hx hb dX4_approve_30 (by decide) (fun c8 => ?_) (fun c8 => ?_)
      · replace hf := zk_f c8 hf
        refine lv_aload_n hx hb dX4_approve_36 rfl (lv_at hl 1 rfl) ?_
        refine va_get (D := D) (ci := 4) (v := .ref (aP 0)) (C := RX4) (T := TX4) (N := 5) hx hb hts hiX4 hown hK hw.1 6 rfl rfl 3 (by decide) hq1 (fun _ h9 => h9) rfl dX4_approve_37 ?_
        refine lv_aload_n hx hb dX4_approve_40 rfl (lv_at hl 1 rfl) ?_
        refine va_get (D := D) (ci := 4) (v := .ref (aN 0)) (C := RX4) (T := TX4) (N := 5) hx hb hts hiX4 hown hK hw.1 6 rfl rfl 1 (by decide) hq0 (fun _ h9 => h9) rfl dX4_approve_41 ?_
        obtain ⟨u9, e10, hf⟩ := zk_bd hf
        refine zk_callv (wc := zwP cO aP Pring Ptop Psize ++ (zwC cI aN Ncandidates Nballots Nseats Nwithdrawn Nvoters Nsets Nrank ++ (zwC cI aQ Qcandidates Qballots Qseats Qwithdrawn Qvoters Qsets Qrank))) (wr := zwL aL (aT 0) (aN 0) (aR 0) (aP 0) (aE 0)) hw hA [0, 1, 7, 8, 9, 10, 2, 3, 4, 5] [6] rfl rfl (by decide) (by decide) (va_runVN (C := RX2) (As := [.ref (aN 0)]) (rest := []) ⟨hx, hb, hml, hown, hts⟩ (kX2_keep l D cI cJ cO N aP aN aQ Pring Ptop Psize Ncandidates Nballots Nseats Nwithdrawn Nvoters Nsets Nrank Qcandidates Qballots Qseats Qwithdrawn Qvoters Qsets Qrank hg u9 e10 H.size) ⟨va_cnB 1 hts ggX4_approve_X2_keep rfl rfl rfl (nwM_X4_88 hN) hq2 (by decide +kernel) ⟨Nat.le_of_ble_eq_true rfl, Nat.le_of_ble_eq_true rfl⟩, hq3, hq4⟩ (zk_preV (wc := zwP cO aP Pring Ptop Psize ++ (zwC cI aN Ncandidates Nballots Nseats Nwithdrawn Nvoters Nsets Nrank ++ (zwC cI aQ Qcandidates Qballots Qseats Qwithdrawn Qvoters Qsets Qrank))) hN hK hw [0, 1, 7, 8, 9, 10, 2, 3, 4, 5] rfl (by decide) 0 2 rfl rfl) rfl rfl hl.1 rfl (lv_room (Nat.le_of_ble_eq_true rfl)) dX4_approve_44 ⟨Nat.zero_le _, Nat.zero_le _⟩) (fun H locs hw => ?_)
        have hw : Wd D A s.heap (zwL aL (aT 0) (aN 0) (aR 0) (aP 0) (aE 0) ++ (zwP cO aP Pring u9.1 u9.2.1 ++ (zwC cI aN Ncandidates Nballots Nseats Nwithdrawn Nvoters Nsets Nrank ++ (zwC cI aQ u9.2.2.1 u9.2.2.2.1 u9.2.2.2.2.1 u9.2.2.2.2.2.1 u9.2.2.2.2.2.2.1 u9.2.2.2.2.2.2.2.1 u9.2.2.2.2.2.2.2.2)))) H locs := hw
        refine lv_aload_n hx hb dX4_approve_47 rfl (lv_at hl 1 rfl) ?_
        refine va_get (D := D) (ci := 4) (v := .ref (aN 0)) (C := RX4) (T := TX4) (N := 5) hx hb hts hiX4 hown hK hw.1 0 rfl rfl 1 (by decide) hq0 (fun _ h9 => h9) rfl dX4_approve_48 ?_
        refine va_getN (D := D) (ci := 0) (v := .ref (aN 2)) (C := RX0) (T := TX0) (N := 7) hx hb hts hiX0 hown hK hw.1 3 rfl rfl 5 (by decide) (va_Nw.use rfl (nwF_X4_102 hN)) (fun _ h9 => h9) rfl dX4_approve_51 ?_
        refine lv_iload_n hx hb dX4_approve_54 rfl (lv_at hl 2 rfl) ?_
        refine lv_iload_n hx hb dX4_approve_55 rfl (lv_at hl 3 rfl) ?_
        refine zk_iast hx hb hK hw 5 rfl h7 (j := p0.toNatClampNeg) rfl dX4_approve_56 (fun H locs hw => ?_)
        have hw : Wd D A s.heap (zwL aL (aT 0) (aN 0) (aR 0) (aP 0) (aE 0) ++ (zwP cO aP Pring u9.1 u9.2.1 ++ (zwC cI aN Ncandidates Nballots Nseats Nwithdrawn Nvoters (upd Nsets p0.toNatClampNeg p1) Nrank ++ (zwC cI aQ u9.2.2.1 u9.2.2.2.1 u9.2.2.2.2.1 u9.2.2.2.2.2.1 u9.2.2.2.2.2.2.1 u9.2.2.2.2.2.2.2.1 u9.2.2.2.2.2.2.2.2)))) H locs := hw
        refine lv_iload_n hx hb dX4_approve_57 rfl (lv_at hl 0 rfl) ?_
        cases hf
        exact zk_iret hx hb hr hlocks rfl hQ hw [0, 1, 2, 3, 4, 5, 6, 7, 8, 9, 10] rfl (by decide) dX4_approve_58
      · replace hf := zk_t c8 hf
        refine lv_bipush (v := (-2)) hx hb dX4_approve_33 (by decide) ?_
        cases hf
        exact zk_iret hx hb hr hlocks rfl hQ hw [6, 0, 1, 7, 8, 9, 10, 2, 3, 4, 5] rfl (by decide) dX4_approve_35
    · replace hf := zk_t c6 hf
      refine lv_iconst (v := (-1)) hx hb dX4_approve_16 (by decide) ?_
      cases hf
      exact zk_iret hx hb hr hlocks rfl hQ hw [6, 0, 1, 7, 8, 9, 10, 2, 3, 4, 5] rfl (by decide) dX4_approve_17
set_option maxHeartbeats 4000000 in
set_option maxRecDepth 100000 in
theorem kX4_seats (l : Launch) (D : va_G) (cI cJ cO : ClassId) (N : Nat) (aL aP aN aQ : Nat → Nat) (aT aR aE : Nat → Nat) (p0 : Int32) (Pring : Nat → Option Nat) (Ptop : Int32) (Psize : Int32) (Ncandidates : Int32) (Nballots : Int32) (Nseats : Int32) (Nwithdrawn : Int32) (Nvoters : Nat → Int32) (Nsets : Nat → Int32) (Nrank : Nat → Int32) (Qcandidates : Int32) (Qballots : Int32) (Qseats : Int32) (Qwithdrawn : Int32) (Qvoters : Nat → Int32) (Qsets : Nat → Int32) (Qrank : Nat → Int32) (hg : Pring (Ptop).toNatClampNeg = some (aQ 0)) (u : Int32 × (Int32) × (Int32) × (Int32) × (Int32) × (Int32) × (Int32) × (Int32) × (Nat → Int32) × (Nat → Int32) × (Nat → Int32)) (hf : fX4_seats N p0 Ptop Psize Ncandidates Nballots Nseats Nwithdrawn Nvoters Nsets Nrank Qcandidates Qballots Qseats Qwithdrawn Qvoters Qsets Qrank = some u) : CtI l yX4_seats wsX4_seats (zk_rm 3 102) D cI cJ cO [.ref (aL 0), .int p0] (zwL aL (aT 0) (aN 0) (aR 0) (aP 0) (aE 0) ++ (zwP cO aP Pring Ptop Psize ++ (zwC cI aN Ncandidates Nballots Nseats Nwithdrawn Nvoters Nsets Nrank ++ (zwC cI aQ Qcandidates Qballots Qseats Qwithdrawn Qvoters Qsets Qrank)))) (zwL aL (aT 0) (aN 0) (aR 0) (aP 0) (aE 0) ++ (zwP cO aP Pring u.2.1 u.2.2.1 ++ (zwC cI aN Ncandidates Nballots u.2.2.2.1 Nwithdrawn Nvoters Nsets Nrank ++ (zwC cI aQ u.2.2.2.2.1 u.2.2.2.2.2.1 u.2.2.2.2.2.2.1 u.2.2.2.2.2.2.2.1 u.2.2.2.2.2.2.2.2.1 u.2.2.2.2.2.2.2.2.2.1 u.2.2.2.2.2.2.2.2.2.2)))) (u.1) := by
  refine zk_enter (cc := cX4_seats) (maxL := 3) (ret := some .int) (own := RX4) (Qf := fun A => QwI D (zwL aL (aT 0) (aN 0) (aR 0) (aP 0) (aE 0) ++ (zwP cO aP Pring u.2.1 u.2.2.1 ++ (zwC cI aN Ncandidates Nballots u.2.2.2.1 Nwithdrawn Nvoters Nsets Nrank ++ (zwC cI aQ u.2.2.2.2.1 u.2.2.2.2.2.1 u.2.2.2.2.2.2.1 u.2.2.2.2.2.2.2.1 u.2.2.2.2.2.2.2.2.1 u.2.2.2.2.2.2.2.2.2.1 u.2.2.2.2.2.2.2.2.2.2)))) (u.1) A) (by decide) rfl rfl (Nat.le_of_ble_eq_true rfl) ?_
  intro p e s m args below meth c A Q H locs ls hC hQ hw hl
  obtain ⟨hx, hb, hml, hr, hts, hown, hlocks, hN, hK, hA⟩ := hC
  have hl : lv_has ls 3 [(0, .ref (aL 0)), (1, .int p0)] := hl
  have hiX4 : ∀ w ∈ u_ws RX4 TX4 5, w ∈ wsX4_seats := by decide +kernel
  have hiX0 : ∀ w ∈ u_ws RX0 TX0 7, w ∈ wsX4_seats := by decide +kernel
  have hq0 := hts (.fieldLink RX4 19 "LoadCouncil" "now" "LLoadCouncil$Council;") (by decide +kernel)
  have hq1 := hts (.fieldLink RX4 29 "LoadCouncil" "past" "LLoadCouncil$Past;") (by decide +kernel)
  have hq2 := hts (.initialized RX2) (by decide +kernel)
  have hq3 := hts (.instanceMethod yX2_keep) (by decide +kernel)
  have hq4 := hts (.selects RX2 yX2_keep yX2_keep) (by decide +kernel)
  unfold fX4_seats at hf
  refine lv_iload_n hx hb dX4_seats_0 rfl (lv_at hl 1 rfl) ?_
  refine lv_iconst (v := 1) hx hb dX4_seats_1 (by decide) ?_
  refine lv_icmp_lt (tgt := 11) hx hb dX4_seats_2 (by decide) (fun c1 => ?_) (fun c1 => ?_)
  · replace hf := zk_t c1 hf
    refine lv_iconst (v := (-1)) hx hb dX4_seats_11 (by decide) ?_
    cases hf
    exact zk_iret hx hb hr hlocks rfl hQ hw [0, 1, 2, 3, 4, 5, 6, 7, 8, 9, 10] rfl (by decide) dX4_seats_12
  · replace hf := zk_f c1 hf
    refine lv_iload_n hx hb dX4_seats_5 rfl (lv_at hl 1 rfl) ?_
    refine lv_bipush (v := 8) hx hb dX4_seats_6 (by decide) ?_
    refine lv_icmp_le (tgt := 13) hx hb dX4_seats_8 (by decide) (fun c2 => ?_) (fun c2 => ?_)
    · replace hf := zk_t c2 hf
      refine lv_aload_n hx hb dX4_seats_13 rfl (lv_at hl 0 rfl) ?_
      refine va_get (D := D) (ci := 4) (v := .ref (aN 0)) (C := RX4) (T := TX4) (N := 5) hx hb hts hiX4 hown hK hw.1 0 rfl rfl 1 (by decide) hq0 (fun _ h9 => h9) rfl dX4_seats_14 ?_
      refine va_getN (D := D) (ci := 0) (v := .int Nseats) (C := RX0) (T := TX0) (N := 7) hx hb hts hiX0 hown hK hw.1 3 rfl rfl 2 (by decide) (va_Nw.use rfl (nwF_X4_105 hN)) (fun _ h9 => h9) rfl dX4_seats_17 ?_
      refine lv_istore_n (lv' := [(2, .int Nseats), (0, .ref (aL 0)), (1, .int p0)]) hx hb dX4_seats_20 rfl hl (by decide) rfl (fun ls hl => ?_)
      refine lv_iload_n hx hb dX4_seats_21 rfl (lv_at hl 0 rfl) ?_
      refine lv_iload_n hx hb dX4_seats_22 rfl (lv_at hl 2 rfl) ?_
      refine lv_icmp_ne (tgt := 29) hx hb dX4_seats_23 (by decide) (fun c3 => ?_) (fun c3 => ?_)
      · replace hf := zk_f c3 hf
        refine lv_aload_n hx hb dX4_seats_29 rfl (lv_at hl 1 rfl) ?_
        refine va_get (D := D) (ci := 4) (v := .ref (aP 0)) (C := RX4) (T := TX4) (N := 5) hx hb hts hiX4 hown hK hw.1 0 rfl rfl 3 (by decide) hq1 (fun _ h9 => h9) rfl dX4_seats_30 ?_
        refine lv_aload_n hx hb dX4_seats_33 rfl (lv_at hl 1 rfl) ?_
        refine va_get (D := D) (ci := 4) (v := .ref (aN 0)) (C := RX4) (T := TX4) (N := 5) hx hb hts hiX4 hown hK hw.1 0 rfl rfl 1 (by decide) hq0 (fun _ h9 => h9) rfl dX4_seats_34 ?_
        obtain ⟨u4, e5, hf⟩ := zk_bd hf
        refine zk_callv (wc := zwP cO aP Pring Ptop Psize ++ (zwC cI aN Ncandidates Nballots Nseats Nwithdrawn Nvoters Nsets Nrank ++ (zwC cI aQ Qcandidates Qballots Qseats Qwithdrawn Qvoters Qsets Qrank))) (wr := zwL aL (aT 0) (aN 0) (aR 0) (aP 0) (aE 0)) hw hA [1, 2, 3, 4, 5, 6, 7, 8, 9, 10] [0] rfl rfl (by decide) (by decide) (va_runVN (C := RX2) (As := [.ref (aN 0)]) (rest := []) ⟨hx, hb, hml, hown, hts⟩ (kX2_keep l D cI cJ cO N aP aN aQ Pring Ptop Psize Ncandidates Nballots Nseats Nwithdrawn Nvoters Nsets Nrank Qcandidates Qballots Qseats Qwithdrawn Qvoters Qsets Qrank hg u4 e5 H.size) ⟨va_cnB 1 hts ggX4_seats_X2_keep rfl rfl rfl (nwM_X4_88 hN) hq2 (by decide +kernel) ⟨Nat.le_of_ble_eq_true rfl, Nat.le_of_ble_eq_true rfl⟩, hq3, hq4⟩ (zk_preV (wc := zwP cO aP Pring Ptop Psize ++ (zwC cI aN Ncandidates Nballots Nseats Nwithdrawn Nvoters Nsets Nrank ++ (zwC cI aQ Qcandidates Qballots Qseats Qwithdrawn Qvoters Qsets Qrank))) hN hK hw [1, 2, 3, 4, 5, 6, 7, 8, 9, 10] rfl (by decide) 1 2 rfl rfl) rfl rfl hl.1 rfl (lv_room (Nat.le_of_ble_eq_true rfl)) dX4_seats_37 ⟨Nat.zero_le _, Nat.zero_le _⟩) (fun H locs hw => ?_)
        have hw : Wd D A s.heap (zwL aL (aT 0) (aN 0) (aR 0) (aP 0) (aE 0) ++ (zwP cO aP Pring u4.1 u4.2.1 ++ (zwC cI aN Ncandidates Nballots Nseats Nwithdrawn Nvoters Nsets Nrank ++ (zwC cI aQ u4.2.2.1 u4.2.2.2.1 u4.2.2.2.2.1 u4.2.2.2.2.2.1 u4.2.2.2.2.2.2.1 u4.2.2.2.2.2.2.2.1 u4.2.2.2.2.2.2.2.2)))) H locs := hw
        refine lv_aload_n hx hb dX4_seats_40 rfl (lv_at hl 1 rfl) ?_
        refine va_get (D := D) (ci := 4) (v := .ref (aN 0)) (C := RX4) (T := TX4) (N := 5) hx hb hts hiX4 hown hK hw.1 0 rfl rfl 1 (by decide) hq0 (fun _ h9 => h9) rfl dX4_seats_41 ?_
        refine lv_iload_n hx hb dX4_seats_44 rfl (lv_at hl 2 rfl) ?_
        refine va_putN (D := D) (ci := 0) (v := .int p0) (C := RX0) (T := TX0) (N := 7) hx hb hts hiX0 tyX0 tyX0_ok nmX0 hown hK hw.1 hw.2.1 hw.2.2 3 rfl rfl 2 (by decide) (va_Nw.use rfl (nwF_X4_105 hN)) (fun _ h9 => h9) rfl (tyX0_ok 2 (by decide)) rfl rfl (Nat.le_of_ble_eq_true rfl) dX4_seats_45 (fun H locs hP hD hS => ?_)
        have hw : Wd D A s.heap (zwL aL (aT 0) (aN 0) (aR 0) (aP 0) (aE 0) ++ (zwP cO aP Pring u4.1 u4.2.1 ++ (zwC cI aN Ncandidates Nballots p0 Nwithdrawn Nvoters Nsets Nrank ++ (zwC cI aQ u4.2.2.1 u4.2.2.2.1 u4.2.2.2.2.1 u4.2.2.2.2.2.1 u4.2.2.2.2.2.2.1 u4.2.2.2.2.2.2.2.1 u4.2.2.2.2.2.2.2.2)))) H locs := ⟨hP, hD, hS⟩
        clear hP hD hS
        refine lv_iload_n hx hb dX4_seats_48 rfl (lv_at hl 0 rfl) ?_
        cases hf
        exact zk_iret hx hb hr hlocks rfl hQ hw [0, 1, 2, 3, 4, 5, 6, 7, 8, 9, 10] rfl (by decide) dX4_seats_49
      · replace hf := zk_t c3 hf
        refine lv_bipush (v := (-2)) hx hb dX4_seats_26 (by decide) ?_
        cases hf
        exact zk_iret hx hb hr hlocks rfl hQ hw [0, 1, 2, 3, 4, 5, 6, 7, 8, 9, 10] rfl (by decide) dX4_seats_28
    · replace hf := zk_f c2 hf
      refine lv_iconst (v := (-1)) hx hb dX4_seats_11 (by decide) ?_
      cases hf
      exact zk_iret hx hb hr hlocks rfl hQ hw [0, 1, 2, 3, 4, 5, 6, 7, 8, 9, 10] rfl (by decide) dX4_seats_12
set_option maxHeartbeats 4000000 in
set_option maxRecDepth 100000 in
theorem kX4_isCandidate (l : Launch) (D : va_G) (cI cJ cO : ClassId) (N : Nat) (aL aN : Nat → Nat) (aT aR aP aE : Nat → Nat) (p0 : Int32) (Ncandidates : Int32) (Nballots : Int32) (Nseats : Int32) (Nwithdrawn : Int32) (Nvoters : Nat → Int32) (Nsets : Nat → Int32) (Nrank : Nat → Int32) (u : Int32) (hf : fX4_isCandidate N p0 Ncandidates = some u) : CtI l yX4_isCandidate wsX4_isCandidate (zk_rm 0 0) D cI cJ cO [.ref (aL 0), .int p0] (zwL aL (aT 0) (aN 0) (aR 0) (aP 0) (aE 0) ++ (zwC cI aN Ncandidates Nballots Nseats Nwithdrawn Nvoters Nsets Nrank)) (zwL aL (aT 0) (aN 0) (aR 0) (aP 0) (aE 0) ++ (zwC cI aN Ncandidates Nballots Nseats Nwithdrawn Nvoters Nsets Nrank)) (u) := by
  refine zk_enter (cc := cX4_isCandidate) (maxL := 2) (ret := some .boolean) (own := RX4) (Qf := fun A => QwI D (zwL aL (aT 0) (aN 0) (aR 0) (aP 0) (aE 0) ++ (zwC cI aN Ncandidates Nballots Nseats Nwithdrawn Nvoters Nsets Nrank)) (u) A) (by decide) rfl rfl (Nat.le_of_ble_eq_true rfl) ?_
  intro p e s m args below meth c A Q H locs ls hC hQ hw hl
  obtain ⟨hx, hb, hml, hr, hts, hown, hlocks, hN, hK, hA⟩ := hC
  have hl : lv_has ls 2 [(0, .ref (aL 0)), (1, .int p0)] := hl
  have hiX4 : ∀ w ∈ u_ws RX4 TX4 5, w ∈ wsX4_isCandidate := by decide +kernel
  have hiX0 : ∀ w ∈ u_ws RX0 TX0 7, w ∈ wsX4_isCandidate := by decide +kernel
  have hq0 := hts (.fieldLink RX4 19 "LoadCouncil" "now" "LLoadCouncil$Council;") (by decide +kernel)
  unfold fX4_isCandidate at hf
  refine lv_iload_n hx hb dX4_isCandidate_0 rfl (lv_at hl 1 rfl) ?_
  refine lv_if_lt (tgt := 19) hx hb dX4_isCandidate_1 (by decide) (fun c1 => ?_) (fun c1 => ?_)
  · replace hf := zk_t c1 hf
    refine lv_iconst (v := 0) hx hb dX4_isCandidate_19 (by decide) ?_
    cases hf
    exact zk_iret hx hb hr hlocks rfl hQ hw [0, 1, 2, 3, 4] rfl (by decide) dX4_isCandidate_20
  · replace hf := zk_f c1 hf
    refine lv_iload_n hx hb dX4_isCandidate_4 rfl (lv_at hl 1 rfl) ?_
    refine lv_aload_n hx hb dX4_isCandidate_5 rfl (lv_at hl 0 rfl) ?_
    refine va_get (D := D) (ci := 4) (v := .ref (aN 0)) (C := RX4) (T := TX4) (N := 5) hx hb hts hiX4 hown hK hw.1 0 rfl rfl 1 (by decide) hq0 (fun _ h9 => h9) rfl dX4_isCandidate_6 ?_
    refine va_getN (D := D) (ci := 0) (v := .int Ncandidates) (C := RX0) (T := TX0) (N := 7) hx hb hts hiX0 hown hK hw.1 1 rfl rfl 0 (by decide) (va_Nw.use rfl (nwF_X4_66 hN)) (fun _ h9 => h9) rfl dX4_isCandidate_9 ?_
    refine lv_icmp_ge (tgt := 19) hx hb dX4_isCandidate_12 (by decide) (fun c2 => ?_) (fun c2 => ?_)
    · replace hf := zk_t c2 hf
      refine lv_iconst (v := 0) hx hb dX4_isCandidate_19 (by decide) ?_
      cases hf
      exact zk_iret hx hb hr hlocks rfl hQ hw [0, 1, 2, 3, 4] rfl (by decide) dX4_isCandidate_20
    · replace hf := zk_f c2 hf
      refine lv_iconst (v := 1) hx hb dX4_isCandidate_15 (by decide) ?_
      refine lv_goto (tgt := 20) hx hb dX4_isCandidate_16 (by decide) ?_
      cases hf
      exact zk_iret hx hb hr hlocks rfl hQ hw [0, 1, 2, 3, 4] rfl (by decide) dX4_isCandidate_20
set_option maxHeartbeats 4000000 in
set_option maxRecDepth 100000 in
theorem kX4_withdraw (l : Launch) (D : va_G) (cI cJ cO : ClassId) (N : Nat) (aL aP aN aQ : Nat → Nat) (aT aR aE : Nat → Nat) (p0 : Int32) (p1 : Int32) (Pring : Nat → Option Nat) (Ptop : Int32) (Psize : Int32) (Ncandidates : Int32) (Nballots : Int32) (Nseats : Int32) (Nwithdrawn : Int32) (Nvoters : Nat → Int32) (Nsets : Nat → Int32) (Nrank : Nat → Int32) (Qcandidates : Int32) (Qballots : Int32) (Qseats : Int32) (Qwithdrawn : Int32) (Qvoters : Nat → Int32) (Qsets : Nat → Int32) (Qrank : Nat → Int32) (hg : Pring (Ptop).toNatClampNeg = some (aQ 0)) (u : Int32 × (Int32) × (Int32) × (Int32) × (Int32) × (Int32) × (Int32) × (Int32) × (Nat → Int32) × (Nat → Int32) × (Nat → Int32)) (hf : fX4_withdraw N p0 p1 Ptop Psize Ncandidates Nballots Nseats Nwithdrawn Nvoters Nsets Nrank Qcandidates Qballots Qseats Qwithdrawn Qvoters Qsets Qrank = some u) : CtI l yX4_withdraw wsX4_withdraw (zk_rm 3 102) D cI cJ cO [.ref (aL 0), .int p0, .int p1] (zwL aL (aT 0) (aN 0) (aR 0) (aP 0) (aE 0) ++ (zwP cO aP Pring Ptop Psize ++ (zwC cI aN Ncandidates Nballots Nseats Nwithdrawn Nvoters Nsets Nrank ++ (zwC cI aQ Qcandidates Qballots Qseats Qwithdrawn Qvoters Qsets Qrank)))) (zwL aL (aT 0) (aN 0) (aR 0) (aP 0) (aE 0) ++ (zwP cO aP Pring u.2.1 u.2.2.1 ++ (zwC cI aN Ncandidates Nballots Nseats u.2.2.2.1 Nvoters Nsets Nrank ++ (zwC cI aQ u.2.2.2.2.1 u.2.2.2.2.2.1 u.2.2.2.2.2.2.1 u.2.2.2.2.2.2.2.1 u.2.2.2.2.2.2.2.2.1 u.2.2.2.2.2.2.2.2.2.1 u.2.2.2.2.2.2.2.2.2.2)))) (u.1) := by
  refine zk_enter (cc := cX4_withdraw) (maxL := 3) (ret := some .int) (own := RX4) (Qf := fun A => QwI D (zwL aL (aT 0) (aN 0) (aR 0) (aP 0) (aE 0) ++ (zwP cO aP Pring u.2.1 u.2.2.1 ++ (zwC cI aN Ncandidates Nballots Nseats u.2.2.2.1 Nvoters Nsets Nrank ++ (zwC cI aQ u.2.2.2.2.1 u.2.2.2.2.2.1 u.2.2.2.2.2.2.1 u.2.2.2.2.2.2.2.1 u.2.2.2.2.2.2.2.2.1 u.2.2.2.2.2.2.2.2.2.1 u.2.2.2.2.2.2.2.2.2.2)))) (u.1) A) (by decide) rfl rfl (Nat.le_of_ble_eq_true rfl) ?_
  intro p e s m args below meth c A Q H locs ls hC hQ hw hl
  obtain ⟨hx, hb, hml, hr, hts, hown, hlocks, hN, hK, hA⟩ := hC
  have hl : lv_has ls 3 [(0, .ref (aL 0)), (1, .int p0), (2, .int p1)] := hl
  have hiX4 : ∀ w ∈ u_ws RX4 TX4 5, w ∈ wsX4_withdraw := by decide +kernel
  have hiX0 : ∀ w ∈ u_ws RX0 TX0 7, w ∈ wsX4_withdraw := by decide +kernel
  have hq0 := hts (.fieldLink RX4 29 "LoadCouncil" "past" "LLoadCouncil$Past;") (by decide +kernel)
  have hq1 := hts (.fieldLink RX4 19 "LoadCouncil" "now" "LLoadCouncil$Council;") (by decide +kernel)
  have hq2 := hts (.initialized RX2) (by decide +kernel)
  have hq3 := hts (.instanceMethod yX2_keep) (by decide +kernel)
  have hq4 := hts (.selects RX2 yX2_keep yX2_keep) (by decide +kernel)
  have hq5 := hts (.initialized RX0) (by decide +kernel)
  have hq6 := hts (.instanceMethod yX0_isWithdrawn) (by decide +kernel)
  have hq7 := hts (.selects RX0 yX0_isWithdrawn yX0_isWithdrawn) (by decide +kernel)
  have b37 : ∀ (x1 : Int32) (t0 : Int32) (t1 : Int32) (Ptop : Int32) (Psize : Int32) (Nwithdrawn : Int32) (Qcandidates : Int32) (Qballots : Int32) (Qseats : Int32) (Qwithdrawn : Int32) (Qvoters : Nat → Int32) (Qsets : Nat → Int32) (Qrank : Nat → Int32), Pring (Ptop).toNatClampNeg = some (aQ 0) → fX4_withdraw_b37 N x1 t0 t1 Ptop Psize Ncandidates Nballots Nseats Nwithdrawn Nvoters Nsets Nrank Qcandidates Qballots Qseats Qwithdrawn Qvoters Qsets Qrank = some u → ∀ (H : Heap) (locs : List Loc) (ls : Array Slot), Wd D A s.heap (zwL aL (aT 0) (aN 0) (aR 0) (aP 0) (aE 0) ++ (zwP cO aP Pring Ptop Psize ++ (zwC cI aN Ncandidates Nballots Nseats Nwithdrawn Nvoters Nsets Nrank ++ (zwC cI aQ Qcandidates Qballots Qseats Qwithdrawn Qvoters Qsets Qrank)))) H locs → lv_has ls 3 [(0, .ref (aL 0)), (1, .int x1)] → W p l e (zk_rm 3 102) s m args below meth c H locs 0 0 Q (F0 m 37 ls [.int t1, .int t0]) := by
    intro x1 t0 t1 Ptop Psize Nwithdrawn Qcandidates Qballots Qseats Qwithdrawn Qvoters Qsets Qrank hg hf H locs ls hw hl
    unfold fX4_withdraw_b37 at hf
    refine lv_icmp_ne (tgt := 43) hx hb dX4_withdraw_37 (by decide) (fun c1 => ?_) (fun c1 => ?_)
    · replace hf := zk_f c1 hf
      refine lv_aload_n hx hb dX4_withdraw_43 rfl (lv_at hl 0 rfl) ?_
      refine va_get (D := D) (ci := 4) (v := .ref (aP 0)) (C := RX4) (T := TX4) (N := 5) hx hb hts hiX4 hown hK hw.1 0 rfl rfl 3 (by decide) hq0 (fun _ h9 => h9) rfl dX4_withdraw_44 ?_
      refine lv_aload_n hx hb dX4_withdraw_47 rfl (lv_at hl 0 rfl) ?_
      refine va_get (D := D) (ci := 4) (v := .ref (aN 0)) (C := RX4) (T := TX4) (N := 5) hx hb hts hiX4 hown hK hw.1 0 rfl rfl 1 (by decide) hq1 (fun _ h9 => h9) rfl dX4_withdraw_48 ?_
      obtain ⟨u2, e3, hf⟩ := zk_bd hf
      refine zk_callv (wc := zwP cO aP Pring Ptop Psize ++ (zwC cI aN Ncandidates Nballots Nseats Nwithdrawn Nvoters Nsets Nrank ++ (zwC cI aQ Qcandidates Qballots Qseats Qwithdrawn Qvoters Qsets Qrank))) (wr := zwL aL (aT 0) (aN 0) (aR 0) (aP 0) (aE 0)) hw hA [1, 2, 3, 4, 5, 6, 7, 8, 9, 10] [0] rfl rfl (by decide) (by decide) (va_runVN (C := RX2) (As := [.ref (aN 0)]) (rest := []) ⟨hx, hb, hml, hown, hts⟩ (kX2_keep l D cI cJ cO N aP aN aQ Pring Ptop Psize Ncandidates Nballots Nseats Nwithdrawn Nvoters Nsets Nrank Qcandidates Qballots Qseats Qwithdrawn Qvoters Qsets Qrank hg u2 e3 H.size) ⟨va_cnB 1 hts ggX4_withdraw_X2_keep rfl rfl rfl (nwM_X4_88 hN) hq2 (by decide +kernel) ⟨Nat.le_of_ble_eq_true rfl, Nat.le_of_ble_eq_true rfl⟩, hq3, hq4⟩ (zk_preV (wc := zwP cO aP Pring Ptop Psize ++ (zwC cI aN Ncandidates Nballots Nseats Nwithdrawn Nvoters Nsets Nrank ++ (zwC cI aQ Qcandidates Qballots Qseats Qwithdrawn Qvoters Qsets Qrank))) hN hK hw [1, 2, 3, 4, 5, 6, 7, 8, 9, 10] rfl (by decide) 1 2 rfl rfl) rfl rfl hl.1 rfl (lv_room (Nat.le_of_ble_eq_true rfl)) dX4_withdraw_51 ⟨Nat.zero_le _, Nat.zero_le _⟩) (fun H locs hw => ?_)
      have hw : Wd D A s.heap (zwL aL (aT 0) (aN 0) (aR 0) (aP 0) (aE 0) ++ (zwP cO aP Pring u2.1 u2.2.1 ++ (zwC cI aN Ncandidates Nballots Nseats Nwithdrawn Nvoters Nsets Nrank ++ (zwC cI aQ u2.2.2.1 u2.2.2.2.1 u2.2.2.2.2.1 u2.2.2.2.2.2.1 u2.2.2.2.2.2.2.1 u2.2.2.2.2.2.2.2.1 u2.2.2.2.2.2.2.2.2)))) H locs := hw
      refine lv_aload_n hx hb dX4_withdraw_54 rfl (lv_at hl 0 rfl) ?_
      refine va_get (D := D) (ci := 4) (v := .ref (aN 0)) (C := RX4) (T := TX4) (N := 5) hx hb hts hiX4 hown hK hw.1 0 rfl rfl 1 (by decide) hq1 (fun _ h9 => h9) rfl dX4_withdraw_55 ?_
      refine lv_dup hx hb dX4_withdraw_58 rfl ?_
      refine va_getN (D := D) (ci := 0) (v := .int Nwithdrawn) (C := RX0) (T := TX0) (N := 7) hx hb hts hiX0 hown hK hw.1 3 rfl rfl 3 (by decide) (va_Nw.use rfl (nwF_X4_114 hN)) (fun _ h9 => h9) rfl dX4_withdraw_59 ?_
      refine lv_iconst (v := 1) hx hb dX4_withdraw_62 (by decide) ?_
      refine lv_iload_n hx hb dX4_withdraw_63 rfl (lv_at hl 1 rfl) ?_
      refine lv_ishl hx hb dX4_withdraw_64 ?_
      refine lv_ixor hx hb dX4_withdraw_65 ?_
      refine va_putN (D := D) (ci := 0) (v := .int (Nwithdrawn ^^^ ((1 : Int32) <<< (x1 &&& 31)))) (C := RX0) (T := TX0) (N := 7) hx hb hts hiX0 tyX0 tyX0_ok nmX0 hown hK hw.1 hw.2.1 hw.2.2 3 rfl rfl 3 (by decide) (va_Nw.use rfl (nwF_X4_114 hN)) (fun _ h9 => h9) rfl (tyX0_ok 3 (by decide)) rfl rfl (Nat.le_of_ble_eq_true rfl) dX4_withdraw_66 (fun H locs hP hD hS => ?_)
      have hw : Wd D A s.heap (zwL aL (aT 0) (aN 0) (aR 0) (aP 0) (aE 0) ++ (zwP cO aP Pring u2.1 u2.2.1 ++ (zwC cI aN Ncandidates Nballots Nseats (Nwithdrawn ^^^ ((1 : Int32) <<< (x1 &&& 31))) Nvoters Nsets Nrank ++ (zwC cI aQ u2.2.2.1 u2.2.2.2.1 u2.2.2.2.2.1 u2.2.2.2.2.2.1 u2.2.2.2.2.2.2.1 u2.2.2.2.2.2.2.2.1 u2.2.2.2.2.2.2.2.2)))) H locs := ⟨hP, hD, hS⟩
      clear hP hD hS
      refine lv_aload_n hx hb dX4_withdraw_69 rfl (lv_at hl 0 rfl) ?_
      refine va_get (D := D) (ci := 4) (v := .ref (aN 0)) (C := RX4) (T := TX4) (N := 5) hx hb hts hiX4 hown hK hw.1 0 rfl rfl 1 (by decide) hq1 (fun _ h9 => h9) rfl dX4_withdraw_70 ?_
      refine va_getN (D := D) (ci := 0) (v := .int (Nwithdrawn ^^^ ((1 : Int32) <<< (x1 &&& 31)))) (C := RX0) (T := TX0) (N := 7) hx hb hts hiX0 hown hK hw.1 3 rfl rfl 3 (by decide) (va_Nw.use rfl (nwF_X4_114 hN)) (fun _ h9 => h9) rfl dX4_withdraw_73 ?_
      obtain ⟨u4, e5, hf⟩ := zk_bd hf
      refine zk_calli (wc := []) (wr := zwL aL (aT 0) (aN 0) (aR 0) (aP 0) (aE 0) ++ (zwP cO aP Pring u2.1 u2.2.1 ++ (zwC cI aN Ncandidates Nballots Nseats (Nwithdrawn ^^^ ((1 : Int32) <<< (x1 &&& 31))) Nvoters Nsets Nrank ++ (zwC cI aQ u2.2.2.1 u2.2.2.2.1 u2.2.2.2.2.1 u2.2.2.2.2.2.1 u2.2.2.2.2.2.2.1 u2.2.2.2.2.2.2.2.1 u2.2.2.2.2.2.2.2.2)))) hw hA [] [0, 1, 2, 3, 4, 5, 6, 7, 8, 9, 10] rfl rfl (by decide) (by decide) (va_runS (As := [.int (Nwithdrawn ^^^ ((1 : Int32) <<< (x1 &&& 31)))]) (rest := []) ⟨hx, hb, hml, hown, hts⟩ (kJ6_bitCount_0f7a4 l D cI cJ cO N (Nwithdrawn ^^^ ((1 : Int32) <<< (x1 &&& 31))) u4 e5 H.size) (va_cwS 1 hts gX4_withdraw_J6_bitCount_0f7a4 rfl rfl rfl (by decide +kernel) ⟨Nat.le_of_ble_eq_true rfl, Nat.le_of_ble_eq_true rfl⟩) (zk_preS (wc := []) hN hK hw [] rfl (by decide)) rfl rfl hl.1 rfl (lv_room (Nat.le_of_ble_eq_true rfl)) dX4_withdraw_76 ⟨Nat.zero_le _, Nat.zero_le _⟩) (fun H locs hw => ?_)
      have hw : Wd D A s.heap (zwL aL (aT 0) (aN 0) (aR 0) (aP 0) (aE 0) ++ (zwP cO aP Pring u2.1 u2.2.1 ++ (zwC cI aN Ncandidates Nballots Nseats (Nwithdrawn ^^^ ((1 : Int32) <<< (x1 &&& 31))) Nvoters Nsets Nrank ++ (zwC cI aQ u2.2.2.1 u2.2.2.2.1 u2.2.2.2.2.1 u2.2.2.2.2.2.1 u2.2.2.2.2.2.2.1 u2.2.2.2.2.2.2.2.1 u2.2.2.2.2.2.2.2.2)))) H locs := hw
      cases hf
      exact zk_iret hx hb hr hlocks rfl hQ hw [0, 1, 2, 3, 4, 5, 6, 7, 8, 9, 10] rfl (by decide) dX4_withdraw_79
    · replace hf := zk_t c1 hf
      refine lv_bipush (v := (-2)) hx hb dX4_withdraw_40 (by decide) ?_
      cases hf
      exact zk_iret hx hb hr hlocks rfl hQ hw [0, 1, 2, 3, 4, 5, 6, 7, 8, 9, 10] rfl (by decide) dX4_withdraw_42
  unfold fX4_withdraw at hf
  refine lv_aload_n hx hb dX4_withdraw_0 rfl (lv_at hl 0 rfl) ?_
  refine lv_iload_n hx hb dX4_withdraw_1 rfl (lv_at hl 1 rfl) ?_
  obtain ⟨u6, e7, hf⟩ := zk_bd hf
  refine zk_calli (wc := zwL aL (aT 0) (aN 0) (aR 0) (aP 0) (aE 0) ++ (zwC cI aN Ncandidates Nballots Nseats Nwithdrawn Nvoters Nsets Nrank)) (wr := zwP cO aP Pring Ptop Psize ++ (zwC cI aQ Qcandidates Qballots Qseats Qwithdrawn Qvoters Qsets Qrank)) hw hA [0, 3, 4, 5, 6] [1, 2, 7, 8, 9, 10] rfl rfl (by decide) (by decide) (va_runV (C := RX4) (As := [.int p0]) (rest := []) ⟨hx, hb, hml, hown, hts⟩ (kX4_isCandidate l D cI cJ cO N aL aN aT aR aP aE p0 Ncandidates Nballots Nseats Nwithdrawn Nvoters Nsets Nrank u6 e7 H.size) (cwV 1 hts gX4_withdraw_X4_isCandidate rfl rfl rfl (by decide +kernel) ⟨Nat.le_of_ble_eq_true rfl, Nat.le_of_ble_eq_true rfl⟩) (zk_preV (wc := zwL aL (aT 0) (aN 0) (aR 0) (aP 0) (aE 0) ++ (zwC cI aN Ncandidates Nballots Nseats Nwithdrawn Nvoters Nsets Nrank)) hN hK hw [0, 3, 4, 5, 6] rfl (by decide) 0 4 rfl rfl) rfl rfl hl.1 rfl (lv_room (Nat.le_of_ble_eq_true rfl)) dX4_withdraw_2 ⟨Nat.zero_le _, Nat.zero_le _⟩) (fun H locs hw => ?_)
  have hw : Wd D A s.heap (zwP cO aP Pring Ptop Psize ++ (zwC cI aQ Qcandidates Qballots Qseats Qwithdrawn Qvoters Qsets Qrank ++ (zwL aL (aT 0) (aN 0) (aR 0) (aP 0) (aE 0) ++ (zwC cI aN Ncandidates Nballots Nseats Nwithdrawn Nvoters Nsets Nrank)))) H locs := hw
  refine lv_if_eq (tgt := 17) hx hb dX4_withdraw_5 (by decide) (fun c8 => ?_) (fun c8 => ?_)
  · replace hf := zk_t c8 hf
    refine lv_iconst (v := (-1)) hx hb dX4_withdraw_17 (by decide) ?_
    cases hf
    exact zk_iret hx hb hr hlocks rfl hQ hw [6, 0, 1, 7, 8, 9, 10, 2, 3, 4, 5] rfl (by decide) dX4_withdraw_18
  · replace hf := zk_f c8 hf
    refine lv_iload_n hx hb dX4_withdraw_8 rfl (lv_at hl 2 rfl) ?_
    refine lv_if_lt (tgt := 17) hx hb dX4_withdraw_9 (by decide) (fun c9 => ?_) (fun c9 => ?_)
    · replace hf := zk_t c9 hf
      refine lv_iconst (v := (-1)) hx hb dX4_withdraw_17 (by decide) ?_
      cases hf
      exact zk_iret hx hb hr hlocks rfl hQ hw [6, 0, 1, 7, 8, 9, 10, 2, 3, 4, 5] rfl (by decide) dX4_withdraw_18
    · replace hf := zk_f c9 hf
      refine lv_iload_n hx hb dX4_withdraw_12 rfl (lv_at hl 2 rfl) ?_
      refine lv_iconst (v := 1) hx hb dX4_withdraw_13 (by decide) ?_
      refine lv_icmp_le (tgt := 19) hx hb dX4_withdraw_14 (by decide) (fun c10 => ?_) (fun c10 => ?_)
      · replace hf := zk_t c10 hf
        refine lv_aload_n hx hb dX4_withdraw_19 rfl (lv_at hl 0 rfl) ?_
        refine va_get (D := D) (ci := 4) (v := .ref (aN 0)) (C := RX4) (T := TX4) (N := 5) hx hb hts hiX4 hown hK hw.1 6 rfl rfl 1 (by decide) hq1 (fun _ h9 => h9) rfl dX4_withdraw_20 ?_
        refine lv_iload_n hx hb dX4_withdraw_23 rfl (lv_at hl 1 rfl) ?_
        obtain ⟨u11, e12, hf⟩ := zk_bd hf
        refine zk_calli (wc := zwC cI aN Ncandidates Nballots Nseats Nwithdrawn Nvoters Nsets Nrank) (wr := zwP cO aP Pring Ptop Psize ++ (zwC cI aQ Qcandidates Qballots Qseats Qwithdrawn Qvoters Qsets Qrank ++ (zwL aL (aT 0) (aN 0) (aR 0) (aP 0) (aE 0)))) hw hA [7, 8, 9, 10] [0, 1, 2, 3, 4, 5, 6] rfl rfl (by decide) (by decide) (va_runVN (C := RX0) (As := [.int p0]) (rest := []) ⟨hx, hb, hml, hown, hts⟩ (kX0_isWithdrawn l D cI cJ cO N aN p0 Ncandidates Nballots Nseats Nwithdrawn Nvoters Nsets Nrank u11 e12 H.size) ⟨va_cnB 1 hts ggX4_withdraw_X0_isWithdrawn rfl rfl rfl (nwM_X4_111 hN) hq5 (by decide +kernel) ⟨Nat.le_of_ble_eq_true rfl, Nat.le_of_ble_eq_true rfl⟩, hq6, hq7⟩ (zk_preV (wc := zwC cI aN Ncandidates Nballots Nseats Nwithdrawn Nvoters Nsets Nrank) hN hK hw [7, 8, 9, 10] rfl (by decide) 7 0 rfl rfl) rfl rfl hl.1 rfl (lv_room (Nat.le_of_ble_eq_true rfl)) dX4_withdraw_24 ⟨Nat.zero_le _, Nat.zero_le _⟩) (fun H locs hw => ?_)
        have hw : Wd D A s.heap (zwP cO aP Pring Ptop Psize ++ (zwC cI aQ Qcandidates Qballots Qseats Qwithdrawn Qvoters Qsets Qrank ++ (zwL aL (aT 0) (aN 0) (aR 0) (aP 0) (aE 0) ++ (zwC cI aN Ncandidates Nballots Nseats Nwithdrawn Nvoters Nsets Nrank)))) H locs := hw
        refine lv_iload_n hx hb dX4_withdraw_27 rfl (lv_at hl 2 rfl) ?_
        refine lv_iconst (v := 1) hx hb dX4_withdraw_28 (by decide) ?_
        refine lv_icmp_ne (tgt := 36) hx hb dX4_withdraw_29 (by decide) (fun c13 => ?_) (fun c13 => ?_)
        · replace hf := zk_f c13 hf
          refine lv_iconst (v := 0) hx hb dX4_withdraw_36 (by decide) ?_
          exact b37 p0 u11 (0 : Int32) Ptop Psize Nwithdrawn Qcandidates Qballots Qseats Qwithdrawn Qvoters Qsets Qrank hg hf H locs ls ⟨P_map hw.1 [6, 0, 1, 7, 8, 9, 10, 2, 3, 4, 5] rfl, hw.2.1.sub [6, 0, 1, 7, 8, 9, 10, 2, 3, 4, 5] (by decide) rfl, hw.2.2⟩ (lv_sub hl [0, 1] rfl)
        · replace hf := zk_t c13 hf
          refine lv_iconst (v := 1) hx hb dX4_withdraw_32 (by decide) ?_
          refine lv_goto (tgt := 37) hx hb dX4_withdraw_33 (by decide) ?_
          exact b37 p0 u11 (1 : Int32) Ptop Psize Nwithdrawn Qcandidates Qballots Qseats Qwithdrawn Qvoters Qsets Qrank hg hf H locs ls ⟨P_map hw.1 [6, 0, 1, 7, 8, 9, 10, 2, 3, 4, 5] rfl, hw.2.1.sub [6, 0, 1, 7, 8, 9, 10, 2, 3, 4, 5] (by decide) rfl, hw.2.2⟩ (lv_sub hl [0, 1] rfl)
      · replace hf := zk_f c10 hf
        refine lv_iconst (v := (-1)) hx hb dX4_withdraw_17 (by decide) ?_
        cases hf
        exact zk_iret hx hb hr hlocks rfl hQ hw [6, 0, 1, 7, 8, 9, 10, 2, 3, 4, 5] rfl (by decide) dX4_withdraw_18
set_option maxHeartbeats 4000000 in
set_option maxRecDepth 100000 in
theorem kX4_prefer (l : Launch) (D : va_G) (cI cJ cO : ClassId) (N : Nat) (aL aP aN aQ : Nat → Nat) (aT aR aE : Nat → Nat) (p0 : Int32) (Pring : Nat → Option Nat) (Ptop : Int32) (Psize : Int32) (Ncandidates : Int32) (Nballots : Int32) (Nseats : Int32) (Nwithdrawn : Int32) (Nvoters : Nat → Int32) (Nsets : Nat → Int32) (Nrank : Nat → Int32) (Qcandidates : Int32) (Qballots : Int32) (Qseats : Int32) (Qwithdrawn : Int32) (Qvoters : Nat → Int32) (Qsets : Nat → Int32) (Qrank : Nat → Int32) (hg : Pring (Ptop).toNatClampNeg = some (aQ 0)) (u : Int32 × (Int32) × (Int32) × (Nat → Int32) × (Int32) × (Int32) × (Int32) × (Int32) × (Nat → Int32) × (Nat → Int32) × (Nat → Int32)) (hf : fX4_prefer N p0 Ptop Psize Ncandidates Nballots Nseats Nwithdrawn Nvoters Nsets Nrank Qcandidates Qballots Qseats Qwithdrawn Qvoters Qsets Qrank = some u) : CtI l yX4_prefer wsX4_prefer (zk_rm 3 102) D cI cJ cO [.ref (aL 0), .int p0] (zwL aL (aT 0) (aN 0) (aR 0) (aP 0) (aE 0) ++ (zwP cO aP Pring Ptop Psize ++ (zwC cI aN Ncandidates Nballots Nseats Nwithdrawn Nvoters Nsets Nrank ++ (zwC cI aQ Qcandidates Qballots Qseats Qwithdrawn Qvoters Qsets Qrank)))) (zwL aL (aT 0) (aN 0) (aR 0) (aP 0) (aE 0) ++ (zwP cO aP Pring u.2.1 u.2.2.1 ++ (zwC cI aN Ncandidates Nballots Nseats Nwithdrawn Nvoters Nsets u.2.2.2.1 ++ (zwC cI aQ u.2.2.2.2.1 u.2.2.2.2.2.1 u.2.2.2.2.2.2.1 u.2.2.2.2.2.2.2.1 u.2.2.2.2.2.2.2.2.1 u.2.2.2.2.2.2.2.2.2.1 u.2.2.2.2.2.2.2.2.2.2)))) (u.1) := by
  refine zk_enter (cc := cX4_prefer) (maxL := 3) (ret := some .int) (own := RX4) (Qf := fun A => QwI D (zwL aL (aT 0) (aN 0) (aR 0) (aP 0) (aE 0) ++ (zwP cO aP Pring u.2.1 u.2.2.1 ++ (zwC cI aN Ncandidates Nballots Nseats Nwithdrawn Nvoters Nsets u.2.2.2.1 ++ (zwC cI aQ u.2.2.2.2.1 u.2.2.2.2.2.1 u.2.2.2.2.2.2.1 u.2.2.2.2.2.2.2.1 u.2.2.2.2.2.2.2.2.1 u.2.2.2.2.2.2.2.2.2.1 u.2.2.2.2.2.2.2.2.2.2)))) (u.1) A) (by decide) rfl rfl (Nat.le_of_ble_eq_true rfl) ?_
  intro p e s m args below meth c A Q H locs ls hC hQ hw hl
  obtain ⟨hx, hb, hml, hr, hts, hown, hlocks, hN, hK, hA⟩ := hC
  have hl : lv_has ls 3 [(0, .ref (aL 0)), (1, .int p0)] := hl
  have hiX4 : ∀ w ∈ u_ws RX4 TX4 5, w ∈ wsX4_prefer := by decide +kernel
  have hq0 := hts (.fieldLink RX4 19 "LoadCouncil" "now" "LLoadCouncil$Council;") (by decide +kernel)
  have hq1 := hts (.initialized RX0) (by decide +kernel)
  have hq2 := hts (.instanceMethod yX0_placeOf) (by decide +kernel)
  have hq3 := hts (.selects RX0 yX0_placeOf yX0_placeOf) (by decide +kernel)
  have hq4 := hts (.fieldLink RX4 29 "LoadCouncil" "past" "LLoadCouncil$Past;") (by decide +kernel)
  have hq5 := hts (.initialized RX2) (by decide +kernel)
  have hq6 := hts (.instanceMethod yX2_keep) (by decide +kernel)
  have hq7 := hts (.selects RX2 yX2_keep yX2_keep) (by decide +kernel)
  have hq8 := hts (.instanceMethod yX0_bringToFront) (by decide +kernel)
  have hq9 := hts (.selects RX0 yX0_bringToFront yX0_bringToFront) (by decide +kernel)
  unfold fX4_prefer at hf
  refine lv_aload_n hx hb dX4_prefer_0 rfl (lv_at hl 0 rfl) ?_
  refine lv_iload_n hx hb dX4_prefer_1 rfl (lv_at hl 1 rfl) ?_
  obtain ⟨u1, e2, hf⟩ := zk_bd hf
  refine zk_calli (wc := zwL aL (aT 0) (aN 0) (aR 0) (aP 0) (aE 0) ++ (zwC cI aN Ncandidates Nballots Nseats Nwithdrawn Nvoters Nsets Nrank)) (wr := zwP cO aP Pring Ptop Psize ++ (zwC cI aQ Qcandidates Qballots Qseats Qwithdrawn Qvoters Qsets Qrank)) hw hA [0, 3, 4, 5, 6] [1, 2, 7, 8, 9, 10] rfl rfl (by decide) (by decide) (va_runV (C := RX4) (As := [.int p0]) (rest := []) ⟨hx, hb, hml, hown, hts⟩ (kX4_isCandidate l D cI cJ cO N aL aN aT aR aP aE p0 Ncandidates Nballots Nseats Nwithdrawn Nvoters Nsets Nrank u1 e2 H.size) (cwV 1 hts gX4_prefer_X4_isCandidate rfl rfl rfl (by decide +kernel) ⟨Nat.le_of_ble_eq_true rfl, Nat.le_of_ble_eq_true rfl⟩) (zk_preV (wc := zwL aL (aT 0) (aN 0) (aR 0) (aP 0) (aE 0) ++ (zwC cI aN Ncandidates Nballots Nseats Nwithdrawn Nvoters Nsets Nrank)) hN hK hw [0, 3, 4, 5, 6] rfl (by decide) 0 4 rfl rfl) rfl rfl hl.1 rfl (lv_room (Nat.le_of_ble_eq_true rfl)) dX4_prefer_2 ⟨Nat.zero_le _, Nat.zero_le _⟩) (fun H locs hw => ?_)
  have hw : Wd D A s.heap (zwP cO aP Pring Ptop Psize ++ (zwC cI aQ Qcandidates Qballots Qseats Qwithdrawn Qvoters Qsets Qrank ++ (zwL aL (aT 0) (aN 0) (aR 0) (aP 0) (aE 0) ++ (zwC cI aN Ncandidates Nballots Nseats Nwithdrawn Nvoters Nsets Nrank)))) H locs := hw
  refine lv_if_ne (tgt := 10) hx hb dX4_prefer_5 (by decide) (fun c3 => ?_) (fun c3 => ?_)
  · replace hf := zk_f c3 hf
    refine lv_aload_n hx hb dX4_prefer_10 rfl (lv_at hl 0 rfl) ?_
    refine va_get (D := D) (ci := 4) (v := .ref (aN 0)) (C := RX4) (T := TX4) (N := 5) hx hb hts hiX4 hown hK hw.1 6 rfl rfl 1 (by decide) hq0 (fun _ h9 => h9) rfl dX4_prefer_11 ?_
    refine lv_iload_n hx hb dX4_prefer_14 rfl (lv_at hl 1 rfl) ?_
    obtain ⟨u4, e5, hf⟩ := zk_bd hf
    refine zk_calli (wc := zwC cI aN Ncandidates Nballots Nseats Nwithdrawn Nvoters Nsets Nrank) (wr := zwP cO aP Pring Ptop Psize ++ (zwC cI aQ Qcandidates Qballots Qseats Qwithdrawn Qvoters Qsets Qrank ++ (zwL aL (aT 0) (aN 0) (aR 0) (aP 0) (aE 0)))) hw hA [7, 8, 9, 10] [0, 1, 2, 3, 4, 5, 6] rfl rfl (by decide) (by decide) (va_runVN (C := RX0) (As := [.int p0]) (rest := []) ⟨hx, hb, hml, hown, hts⟩ (kX0_placeOf l D cI cJ cO N aN p0 Ncandidates Nballots Nseats Nwithdrawn Nvoters Nsets Nrank u4 e5 H.size) ⟨va_cnB 1 hts ggX4_prefer_X0_placeOf rfl rfl rfl (nwM_X4_123 hN) hq1 (by decide +kernel) ⟨Nat.le_of_ble_eq_true rfl, Nat.le_of_ble_eq_true rfl⟩, hq2, hq3⟩ (zk_preV (wc := zwC cI aN Ncandidates Nballots Nseats Nwithdrawn Nvoters Nsets Nrank) hN hK hw [7, 8, 9, 10] rfl (by decide) 7 0 rfl rfl) rfl rfl hl.1 rfl (lv_room (Nat.le_of_ble_eq_true rfl)) dX4_prefer_15 ⟨Nat.zero_le _, Nat.zero_le _⟩) (fun H locs hw => ?_)
    have hw : Wd D A s.heap (zwP cO aP Pring Ptop Psize ++ (zwC cI aQ Qcandidates Qballots Qseats Qwithdrawn Qvoters Qsets Qrank ++ (zwL aL (aT 0) (aN 0) (aR 0) (aP 0) (aE 0) ++ (zwC cI aN Ncandidates Nballots Nseats Nwithdrawn Nvoters Nsets Nrank)))) H locs := hw
    refine lv_istore_n (lv' := [(2, .int u4), (0, .ref (aL 0)), (1, .int p0)]) hx hb dX4_prefer_18 rfl hl (by decide) rfl (fun ls hl => ?_)
    refine lv_iload_n hx hb dX4_prefer_19 rfl (lv_at hl 0 rfl) ?_
    refine lv_if_ne (tgt := 26) hx hb dX4_prefer_20 (by decide) (fun c6 => ?_) (fun c6 => ?_)
    · replace hf := zk_f c6 hf
      refine lv_aload_n hx hb dX4_prefer_26 rfl (lv_at hl 1 rfl) ?_
      refine va_get (D := D) (ci := 4) (v := .ref (aP 0)) (C := RX4) (T := TX4) (N := 5) hx hb hts hiX4 hown hK hw.1 6 rfl rfl 3 (by decide) hq4 (fun _ h9 => h9) rfl dX4_prefer_27 ?_
      refine lv_aload_n hx hb dX4_prefer_30 rfl (lv_at hl 1 rfl) ?_
      refine va_get (D := D) (ci := 4) (v := .ref (aN 0)) (C := RX4) (T := TX4) (N := 5) hx hb hts hiX4 hown hK hw.1 6 rfl rfl 1 (by decide) hq0 (fun _ h9 => h9) rfl dX4_prefer_31 ?_
      obtain ⟨u7, e8, hf⟩ := zk_bd hf
      refine zk_callv (wc := zwP cO aP Pring Ptop Psize ++ (zwC cI aN Ncandidates Nballots Nseats Nwithdrawn Nvoters Nsets Nrank ++ (zwC cI aQ Qcandidates Qballots Qseats Qwithdrawn Qvoters Qsets Qrank))) (wr := zwL aL (aT 0) (aN 0) (aR 0) (aP 0) (aE 0)) hw hA [0, 1, 7, 8, 9, 10, 2, 3, 4, 5] [6] rfl rfl (by decide) (by decide) (va_runVN (C := RX2) (As := [.ref (aN 0)]) (rest := []) ⟨hx, hb, hml, hown, hts⟩ (kX2_keep l D cI cJ cO N aP aN aQ Pring Ptop Psize Ncandidates Nballots Nseats Nwithdrawn Nvoters Nsets Nrank Qcandidates Qballots Qseats Qwithdrawn Qvoters Qsets Qrank hg u7 e8 H.size) ⟨va_cnB 1 hts ggX4_prefer_X2_keep rfl rfl rfl (nwM_X4_88 hN) hq5 (by decide +kernel) ⟨Nat.le_of_ble_eq_true rfl, Nat.le_of_ble_eq_true rfl⟩, hq6, hq7⟩ (zk_preV (wc := zwP cO aP Pring Ptop Psize ++ (zwC cI aN Ncandidates Nballots Nseats Nwithdrawn Nvoters Nsets Nrank ++ (zwC cI aQ Qcandidates Qballots Qseats Qwithdrawn Qvoters Qsets Qrank))) hN hK hw [0, 1, 7, 8, 9, 10, 2, 3, 4, 5] rfl (by decide) 0 2 rfl rfl) rfl rfl hl.1 rfl (lv_room (Nat.le_of_ble_eq_true rfl)) dX4_prefer_34 ⟨Nat.zero_le _, Nat.zero_le _⟩) (fun H locs hw => ?_)
      have hw : Wd D A s.heap (zwL aL (aT 0) (aN 0) (aR 0) (aP 0) (aE 0) ++ (zwP cO aP Pring u7.1 u7.2.1 ++ (zwC cI aN Ncandidates Nballots Nseats Nwithdrawn Nvoters Nsets Nrank ++ (zwC cI aQ u7.2.2.1 u7.2.2.2.1 u7.2.2.2.2.1 u7.2.2.2.2.2.1 u7.2.2.2.2.2.2.1 u7.2.2.2.2.2.2.2.1 u7.2.2.2.2.2.2.2.2)))) H locs := hw
      refine lv_aload_n hx hb dX4_prefer_37 rfl (lv_at hl 1 rfl) ?_
      refine va_get (D := D) (ci := 4) (v := .ref (aN 0)) (C := RX4) (T := TX4) (N := 5) hx hb hts hiX4 hown hK hw.1 0 rfl rfl 1 (by decide) hq0 (fun _ h9 => h9) rfl dX4_prefer_38 ?_
      refine lv_iload_n hx hb dX4_prefer_41 rfl (lv_at hl 0 rfl) ?_
      obtain ⟨u9, e10, hf⟩ := zk_bd hf
      refine zk_callv (wc := zwC cI aN Ncandidates Nballots Nseats Nwithdrawn Nvoters Nsets Nrank) (wr := zwL aL (aT 0) (aN 0) (aR 0) (aP 0) (aE 0) ++ (zwP cO aP Pring u7.1 u7.2.1 ++ (zwC cI aQ u7.2.2.1 u7.2.2.2.1 u7.2.2.2.2.1 u7.2.2.2.2.2.1 u7.2.2.2.2.2.2.1 u7.2.2.2.2.2.2.2.1 u7.2.2.2.2.2.2.2.2))) hw hA [3, 4, 5, 6] [0, 1, 2, 7, 8, 9, 10] rfl rfl (by decide) (by decide) (va_runVN (C := RX0) (As := [.int u4]) (rest := []) ⟨hx, hb, hml, hown, hts⟩ (kX0_bringToFront l D cI cJ cO N aN u4 Ncandidates Nballots Nseats Nwithdrawn Nvoters Nsets Nrank u9 e10 H.size) ⟨va_cnB 1 hts ggX4_prefer_X0_bringToFront rfl rfl rfl (nwM_X4_126 hN) hq1 (by decide +kernel) ⟨Nat.le_of_ble_eq_true rfl, Nat.le_of_ble_eq_true rfl⟩, hq8, hq9⟩ (zk_preV (wc := zwC cI aN Ncandidates Nballots Nseats Nwithdrawn Nvoters Nsets Nrank) hN hK hw [3, 4, 5, 6] rfl (by decide) 3 0 rfl rfl) rfl rfl hl.1 rfl (lv_room (Nat.le_of_ble_eq_true rfl)) dX4_prefer_42 ⟨Nat.zero_le _, Nat.zero_le _⟩) (fun H locs hw => ?_)
      have hw : Wd D A s.heap (zwL aL (aT 0) (aN 0) (aR 0) (aP 0) (aE 0) ++ (zwP cO aP Pring u7.1 u7.2.1 ++ (zwC cI aQ u7.2.2.1 u7.2.2.2.1 u7.2.2.2.2.1 u7.2.2.2.2.2.1 u7.2.2.2.2.2.2.1 u7.2.2.2.2.2.2.2.1 u7.2.2.2.2.2.2.2.2 ++ (zwC cI aN Ncandidates Nballots Nseats Nwithdrawn Nvoters Nsets u9)))) H locs := hw
      refine lv_iload_n hx hb dX4_prefer_45 rfl (lv_at hl 0 rfl) ?_
      cases hf
      exact zk_iret hx hb hr hlocks rfl hQ hw [0, 1, 2, 7, 8, 9, 10, 3, 4, 5, 6] rfl (by decide) dX4_prefer_46
    · replace hf := zk_t c6 hf
      refine lv_bipush (v := (-2)) hx hb dX4_prefer_23 (by decide) ?_
      cases hf
      exact zk_iret hx hb hr hlocks rfl hQ hw [6, 0, 1, 7, 8, 9, 10, 2, 3, 4, 5] rfl (by decide) dX4_prefer_25
  · replace hf := zk_t c3 hf
    refine lv_iconst (v := (-1)) hx hb dX4_prefer_8 (by decide) ?_
    cases hf
    exact zk_iret hx hb hr hlocks rfl hQ hw [6, 0, 1, 7, 8, 9, 10, 2, 3, 4, 5] rfl (by decide) dX4_prefer_9
set_option maxHeartbeats 4000000 in
set_option maxRecDepth 100000 in
theorem kX4_undo (l : Launch) (D : va_G) (cI cJ cO : ClassId) (N : Nat) (aL aP aN aQ : Nat → Nat) (aT aR aE : Nat → Nat) (Pring : Nat → Option Nat) (Ptop : Int32) (Psize : Int32) (Ncandidates : Int32) (Nballots : Int32) (Nseats : Int32) (Nwithdrawn : Int32) (Nvoters : Nat → Int32) (Nsets : Nat → Int32) (Nrank : Nat → Int32) (Qcandidates : Int32) (Qballots : Int32) (Qseats : Int32) (Qwithdrawn : Int32) (Qvoters : Nat → Int32) (Qsets : Nat → Int32) (Qrank : Nat → Int32) (hg : Pring (((Ptop + (6 : Int32)) - (1 : Int32)) - ((Ptop + (6 : Int32)) - (1 : Int32)) / (6 : Int32) * (6 : Int32)).toNatClampNeg = some (aQ 0)) (u : Int32 × (Int32) × (Int32) × (Int32) × (Int32) × (Int32) × (Int32) × (Nat → Int32) × (Nat → Int32) × (Nat → Int32)) (hf : fX4_undo N Ptop Psize Ncandidates Nballots Nseats Nwithdrawn Nvoters Nsets Nrank Qcandidates Qballots Qseats Qwithdrawn Qvoters Qsets Qrank = some u) : CtI l yX4_undo wsX4_undo (zk_rm 3 102) D cI cJ cO [.ref (aL 0)] (zwL aL (aT 0) (aN 0) (aR 0) (aP 0) (aE 0) ++ (zwP cO aP Pring Ptop Psize ++ (zwC cI aN Ncandidates Nballots Nseats Nwithdrawn Nvoters Nsets Nrank ++ (zwC cI aQ Qcandidates Qballots Qseats Qwithdrawn Qvoters Qsets Qrank)))) (zwL aL (aT 0) (aN 0) (aR 0) (aP 0) (aE 0) ++ (zwP cO aP Pring u.2.1 u.2.2.1 ++ (zwC cI aN u.2.2.2.1 u.2.2.2.2.1 u.2.2.2.2.2.1 u.2.2.2.2.2.2.1 u.2.2.2.2.2.2.2.1 u.2.2.2.2.2.2.2.2.1 u.2.2.2.2.2.2.2.2.2 ++ (zwC cI aQ Qcandidates Qballots Qseats Qwithdrawn Qvoters Qsets Qrank)))) (u.1) := by
  refine zk_enter (cc := cX4_undo) (maxL := 1) (ret := some .int) (own := RX4) (Qf := fun A => QwI D (zwL aL (aT 0) (aN 0) (aR 0) (aP 0) (aE 0) ++ (zwP cO aP Pring u.2.1 u.2.2.1 ++ (zwC cI aN u.2.2.2.1 u.2.2.2.2.1 u.2.2.2.2.2.1 u.2.2.2.2.2.2.1 u.2.2.2.2.2.2.2.1 u.2.2.2.2.2.2.2.2.1 u.2.2.2.2.2.2.2.2.2 ++ (zwC cI aQ Qcandidates Qballots Qseats Qwithdrawn Qvoters Qsets Qrank)))) (u.1) A) (by decide) rfl rfl (Nat.le_of_ble_eq_true rfl) ?_
  intro p e s m args below meth c A Q H locs ls hC hQ hw hl
  obtain ⟨hx, hb, hml, hr, hts, hown, hlocks, hN, hK, hA⟩ := hC
  have hl : lv_has ls 1 [(0, .ref (aL 0))] := hl
  have hiX4 : ∀ w ∈ u_ws RX4 TX4 5, w ∈ wsX4_undo := by decide +kernel
  have hiX2 : ∀ w ∈ u_ws RX2 TX2 3, w ∈ wsX4_undo := by decide +kernel
  have hq0 := hts (.fieldLink RX4 29 "LoadCouncil" "past" "LLoadCouncil$Past;") (by decide +kernel)
  have hq1 := hts (.fieldLink RX4 19 "LoadCouncil" "now" "LLoadCouncil$Council;") (by decide +kernel)
  have hq2 := hts (.initialized RX2) (by decide +kernel)
  have hq3 := hts (.instanceMethod yX2_bringBack) (by decide +kernel)
  have hq4 := hts (.selects RX2 yX2_bringBack yX2_bringBack) (by decide +kernel)
  unfold fX4_undo at hf
  refine lv_aload_n hx hb dX4_undo_0 rfl (lv_at hl 0 rfl) ?_
  refine va_get (D := D) (ci := 4) (v := .ref (aP 0)) (C := RX4) (T := TX4) (N := 5) hx hb hts hiX4 hown hK hw.1 0 rfl rfl 3 (by decide) hq0 (fun _ h9 => h9) rfl dX4_undo_1 ?_
  refine va_getN (D := D) (ci := 2) (v := .int Psize) (C := RX2) (T := TX2) (N := 3) hx hb hts hiX2 hown hK hw.1 1 rfl rfl 2 (by decide) (va_Nw.use rfl (nwF_X4_130 hN)) (fun _ h9 => h9) rfl dX4_undo_4 ?_
  refine lv_if_ne (tgt := 13) hx hb dX4_undo_7 (by decide) (fun c1 => ?_) (fun c1 => ?_)
  · replace hf := zk_f c1 hf
    refine lv_aload_n hx hb dX4_undo_13 rfl (lv_at hl 0 rfl) ?_
    refine va_get (D := D) (ci := 4) (v := .ref (aP 0)) (C := RX4) (T := TX4) (N := 5) hx hb hts hiX4 hown hK hw.1 0 rfl rfl 3 (by decide) hq0 (fun _ h9 => h9) rfl dX4_undo_14 ?_
    refine lv_aload_n hx hb dX4_undo_17 rfl (lv_at hl 0 rfl) ?_
    refine va_get (D := D) (ci := 4) (v := .ref (aN 0)) (C := RX4) (T := TX4) (N := 5) hx hb hts hiX4 hown hK hw.1 0 rfl rfl 1 (by decide) hq1 (fun _ h9 => h9) rfl dX4_undo_18 ?_
    obtain ⟨u2, e3, hf⟩ := zk_bd hf
    refine zk_callv (wc := zwP cO aP Pring Ptop Psize ++ (zwC cI aN Ncandidates Nballots Nseats Nwithdrawn Nvoters Nsets Nrank ++ (zwC cI aQ Qcandidates Qballots Qseats Qwithdrawn Qvoters Qsets Qrank))) (wr := zwL aL (aT 0) (aN 0) (aR 0) (aP 0) (aE 0)) hw hA [1, 2, 3, 4, 5, 6, 7, 8, 9, 10] [0] rfl rfl (by decide) (by decide) (va_runVN (C := RX2) (As := [.ref (aN 0)]) (rest := []) ⟨hx, hb, hml, hown, hts⟩ (kX2_bringBack l D cI cJ cO N aP aN aQ Pring Ptop Psize Ncandidates Nballots Nseats Nwithdrawn Nvoters Nsets Nrank Qcandidates Qballots Qseats Qwithdrawn Qvoters Qsets Qrank hg u2 e3 H.size) ⟨va_cnB 1 hts ggX4_undo_X2_bringBack rfl rfl rfl (nwM_X4_133 hN) hq2 (by decide +kernel) ⟨Nat.le_of_ble_eq_true rfl, Nat.le_of_ble_eq_true rfl⟩, hq3, hq4⟩ (zk_preV (wc := zwP cO aP Pring Ptop Psize ++ (zwC cI aN Ncandidates Nballots Nseats Nwithdrawn Nvoters Nsets Nrank ++ (zwC cI aQ Qcandidates Qballots Qseats Qwithdrawn Qvoters Qsets Qrank))) hN hK hw [1, 2, 3, 4, 5, 6, 7, 8, 9, 10] rfl (by decide) 1 2 rfl rfl) rfl rfl hl.1 rfl (lv_room (Nat.le_of_ble_eq_true rfl)) dX4_undo_21 ⟨Nat.zero_le _, Nat.zero_le _⟩) (fun H locs hw => ?_)
    have hw : Wd D A s.heap (zwL aL (aT 0) (aN 0) (aR 0) (aP 0) (aE 0) ++ (zwP cO aP Pring u2.1 u2.2.1 ++ (zwC cI aN u2.2.2.1 u2.2.2.2.1 u2.2.2.2.2.1 u2.2.2.2.2.2.1 u2.2.2.2.2.2.2.1 u2.2.2.2.2.2.2.2.1 u2.2.2.2.2.2.2.2.2 ++ (zwC cI aQ Qcandidates Qballots Qseats Qwithdrawn Qvoters Qsets Qrank)))) H locs := hw
    refine lv_aload_n hx hb dX4_undo_24 rfl (lv_at hl 0 rfl) ?_
    refine va_get (D := D) (ci := 4) (v := .ref (aP 0)) (C := RX4) (T := TX4) (N := 5) hx hb hts hiX4 hown hK hw.1 0 rfl rfl 3 (by decide) hq0 (fun _ h9 => h9) rfl dX4_undo_25 ?_
    refine va_getN (D := D) (ci := 2) (v := .int u2.2.1) (C := RX2) (T := TX2) (N := 3) hx hb hts hiX2 hown hK hw.1 1 rfl rfl 2 (by decide) (va_Nw.use rfl (nwF_X4_130 hN)) (fun _ h9 => h9) rfl dX4_undo_28 ?_
    cases hf
    exact zk_iret hx hb hr hlocks rfl hQ hw [0, 1, 2, 3, 4, 5, 6, 7, 8, 9, 10] rfl (by decide) dX4_undo_31
  · replace hf := zk_t c1 hf
    refine lv_bipush (v := (-2)) hx hb dX4_undo_10 (by decide) ?_
    cases hf
    exact zk_iret hx hb hr hlocks rfl hQ hw [0, 1, 2, 3, 4, 5, 6, 7, 8, 9, 10] rfl (by decide) dX4_undo_12
set_option maxHeartbeats 4000000 in
set_option maxRecDepth 100000 in
theorem kX4_lawsThatElect (l : Launch) (D : va_G) (cI cJ cO : ClassId) (N : Nat) (aL aE aN : Nat → Nat) (aT aR aP : Nat → Nat) (p0 : Int32) (Eorder : Nat → Int32) (Eabove : Nat → Int64) (Ebelow : Nat → Int64) (Eelected : Int32) (Eset : Int32) (Esupport : Nat → Int32) (Eworth : Nat → Int64) (Eloads : Nat → Int64) (Eunit : Int64) (Ncandidates : Int32) (Nballots : Int32) (Nseats : Int32) (Nwithdrawn : Int32) (Nvoters : Nat → Int32) (Nsets : Nat → Int32) (Nrank : Nat → Int32) (u : Int32 × (Nat → Int32) × (Nat → Int64) × (Nat → Int64) × (Int32) × (Int32) × (Nat → Int32) × (Nat → Int64) × (Nat → Int64) × (Int64)) (hf : fX4_lawsThatElect N p0 Eorder Eabove Ebelow Eelected Eset Esupport Eworth Eloads Eunit Ncandidates Nballots Nseats Nwithdrawn Nvoters Nsets Nrank = some u) : CtI l yX4_lawsThatElect wsX4_lawsThatElect (zk_rm 5 117) D cI cJ cO [.ref (aL 0), .int p0] (zwL aL (aT 0) (aN 0) (aR 0) (aP 0) (aE 0) ++ (zwE cI cJ aE Eorder Eabove Ebelow Eelected Eset Esupport Eworth Eloads Eunit ++ (zwC cI aN Ncandidates Nballots Nseats Nwithdrawn Nvoters Nsets Nrank))) (zwL aL (aT 0) (aN 0) (aR 0) (aP 0) (aE 0) ++ (zwE cI cJ aE u.2.1 u.2.2.1 u.2.2.2.1 u.2.2.2.2.1 u.2.2.2.2.2.1 u.2.2.2.2.2.2.1 u.2.2.2.2.2.2.2.1 u.2.2.2.2.2.2.2.2.1 u.2.2.2.2.2.2.2.2.2 ++ (zwC cI aN Ncandidates Nballots Nseats Nwithdrawn Nvoters Nsets Nrank))) (u.1) := by
  refine zk_enter (cc := cX4_lawsThatElect) (maxL := 4) (ret := some .int) (own := RX4) (Qf := fun A => QwI D (zwL aL (aT 0) (aN 0) (aR 0) (aP 0) (aE 0) ++ (zwE cI cJ aE u.2.1 u.2.2.1 u.2.2.2.1 u.2.2.2.2.1 u.2.2.2.2.2.1 u.2.2.2.2.2.2.1 u.2.2.2.2.2.2.2.1 u.2.2.2.2.2.2.2.2.1 u.2.2.2.2.2.2.2.2.2 ++ (zwC cI aN Ncandidates Nballots Nseats Nwithdrawn Nvoters Nsets Nrank))) (u.1) A) (by decide) rfl rfl (Nat.le_of_ble_eq_true rfl) ?_
  intro p e s m args below meth c A Q H locs ls hC hQ hw hl
  obtain ⟨hx, hb, hml, hr, hts, hown, hlocks, hN, hK, hA⟩ := hC
  have hl : lv_has ls 4 [(0, .ref (aL 0)), (1, .int p0)] := hl
  have hiX4 : ∀ w ∈ u_ws RX4 TX4 5, w ∈ wsX4_lawsThatElect := by decide +kernel
  have hq0 := hts (.fieldLink RX4 36 "LoadCouncil" "election" "LLoadCouncil$Election;") (by decide +kernel)
  have hq1 := hts (.fieldLink RX4 19 "LoadCouncil" "now" "LLoadCouncil$Council;") (by decide +kernel)
  have hq2 := hts (.initialized RX1) (by decide +kernel)
  have hq3 := hts (.instanceMethod yX1_hold) (by decide +kernel)
  have hq4 := hts (.selects RX1 yX1_hold yX1_hold) (by decide +kernel)
  have b4 : ∀ (n4 : Nat), ∀ (x1 : Int32) (x2 : Int32) (x3 : Int32) (Eorder : Nat → Int32) (Eabove : Nat → Int64) (Ebelow : Nat → Int64) (Eelected : Int32) (Eset : Int32) (Esupport : Nat → Int32) (Eworth : Nat → Int64) (Eloads : Nat → Int64) (Eunit : Int64), fX4_lawsThatElect_b4 N n4 x1 x2 x3 Eorder Eabove Ebelow Eelected Eset Esupport Eworth Eloads Eunit Ncandidates Nballots Nseats Nwithdrawn Nvoters Nsets Nrank = some u → ∀ (H : Heap) (locs : List Loc) (ls : Array Slot), Wd D A s.heap (zwL aL (aT 0) (aN 0) (aR 0) (aP 0) (aE 0) ++ (zwE cI cJ aE Eorder Eabove Ebelow Eelected Eset Esupport Eworth Eloads Eunit ++ (zwC cI aN Ncandidates Nballots Nseats Nwithdrawn Nvoters Nsets Nrank))) H locs → lv_has ls 4 [(0, .ref (aL 0)), (1, .int x1), (2, .int x2), (3, .int x3)] → W p l e (zk_rm 5 117) s m args below meth c H locs 0 0 Q (F0 m 4 ls []) := by
    intro n4
    induction n4 with
    | zero =>
      intro x1 x2 x3 Eorder Eabove Ebelow Eelected Eset Esupport Eworth Eloads Eunit hf
      exact zk_none hf
    | succ n4 ih4 =>
      have b34 : ∀ (x1 : Int32) (x2 : Int32) (x3 : Int32) (Eorder : Nat → Int32) (Eabove : Nat → Int64) (Ebelow : Nat → Int64) (Eelected : Int32) (Eset : Int32) (Esupport : Nat → Int32) (Eworth : Nat → Int64) (Eloads : Nat → Int64) (Eunit : Int64), fX4_lawsThatElect_b34 N (fun z0 z1 z2 z3 z4 z5 z6 z7 z8 z9 z10 z11 z12 z13 z14 z15 z16 z17 z18 => fX4_lawsThatElect_b4 N n4 z0 z1 z2 z3 z4 z5 z6 z7 z8 z9 z10 z11 z12 z13 z14 z15 z16 z17 z18) x1 x2 x3 Eorder Eabove Ebelow Eelected Eset Esupport Eworth Eloads Eunit Ncandidates Nballots Nseats Nwithdrawn Nvoters Nsets Nrank = some u → ∀ (H : Heap) (locs : List Loc) (ls : Array Slot), Wd D A s.heap (zwL aL (aT 0) (aN 0) (aR 0) (aP 0) (aE 0) ++ (zwE cI cJ aE Eorder Eabove Ebelow Eelected Eset Esupport Eworth Eloads Eunit ++ (zwC cI aN Ncandidates Nballots Nseats Nwithdrawn Nvoters Nsets Nrank))) H locs → lv_has ls 4 [(0, .ref (aL 0)), (1, .int x1), (2, .int x2), (3, .int x3)] → W p l e (zk_rm 5 117) s m args below meth c H locs 0 0 Q (F0 m 34 ls []) := by
        intro x1 x2 x3 Eorder Eabove Ebelow Eelected Eset Esupport Eworth Eloads Eunit hf H locs ls hw hl
        unfold fX4_lawsThatElect_b34 at hf
        refine lv_iinc (v := (x3 + (1 : Int32))) (lv' := [(3, .int (x3 + (1 : Int32))), (0, .ref (aL 0)), (1, .int x1), (2, .int x2)]) hx hb dX4_lawsThatElect_34 hl (k := 3) rfl rfl (by decide) rfl (fun ls hl => ?_)
        refine lv_goto (tgt := 4) hx hb dX4_lawsThatElect_37 (by decide) ?_
        exact ih4 x1 x2 (x3 + (1 : Int32)) Eorder Eabove Ebelow Eelected Eset Esupport Eworth Eloads Eunit hf H locs ls hw (lv_sub hl [1, 2, 3, 0] rfl)
      intro x1 x2 x3 Eorder Eabove Ebelow Eelected Eset Esupport Eworth Eloads Eunit hf H locs ls hw hl
      rw [fX4_lawsThatElect_b4] at hf
      refine lv_iload_n hx hb dX4_lawsThatElect_4 rfl (lv_at hl 3 rfl) ?_
      refine lv_iconst (v := 4) hx hb dX4_lawsThatElect_5 (by decide) ?_
      refine lv_icmp_ge (tgt := 40) hx hb dX4_lawsThatElect_6 (by decide) (fun c1 => ?_) (fun c1 => ?_)
      · replace hf := zk_t c1 hf
        refine lv_iload_n hx hb dX4_lawsThatElect_40 rfl (lv_at hl 2 rfl) ?_
        cases hf
        exact zk_iret hx hb hr hlocks rfl hQ hw [0, 1, 2, 3, 4, 5, 6, 7, 8, 9, 10, 11] rfl (by decide) dX4_lawsThatElect_41
      · replace hf := zk_f c1 hf
        refine lv_aload_n hx hb dX4_lawsThatElect_9 rfl (lv_at hl 0 rfl) ?_
        refine va_get (D := D) (ci := 4) (v := .ref (aE 0)) (C := RX4) (T := TX4) (N := 5) hx hb hts hiX4 hown hK hw.1 0 rfl rfl 4 (by decide) hq0 (fun _ h9 => h9) rfl dX4_lawsThatElect_10 ?_
        refine lv_aload_n hx hb dX4_lawsThatElect_13 rfl (lv_at hl 0 rfl) ?_
        refine va_get (D := D) (ci := 4) (v := .ref (aN 0)) (C := RX4) (T := TX4) (N := 5) hx hb hts hiX4 hown hK hw.1 0 rfl rfl 1 (by decide) hq1 (fun _ h9 => h9) rfl dX4_lawsThatElect_14 ?_
        refine lv_iload_n hx hb dX4_lawsThatElect_17 rfl (lv_at hl 3 rfl) ?_
        obtain ⟨u2, e3, hf⟩ := zk_bd hf
        refine zk_calli (wc := zwE cI cJ aE Eorder Eabove Ebelow Eelected Eset Esupport Eworth Eloads Eunit ++ (zwC cI aN Ncandidates Nballots Nseats Nwithdrawn Nvoters Nsets Nrank)) (wr := zwL aL (aT 0) (aN 0) (aR 0) (aP 0) (aE 0)) hw hA [1, 2, 3, 4, 5, 6, 7, 8, 9, 10, 11] [0] rfl rfl (by decide) (by decide) (va_runVN (C := RX1) (As := [.ref (aN 0), .int x3]) (rest := []) ⟨hx, hb, hml, hown, hts⟩ (kX1_hold l D cI cJ cO N aE aN x3 Eorder Eabove Ebelow Eelected Eset Esupport Eworth Eloads Eunit Ncandidates Nballots Nseats Nwithdrawn Nvoters Nsets Nrank u2 e3 H.size) ⟨va_cnB 2 hts ggX4_lawsThatElect_X1_hold rfl rfl rfl (nwM_X4_142 hN) hq2 (by decide +kernel) ⟨Nat.le_of_ble_eq_true rfl, Nat.le_of_ble_eq_true rfl⟩, hq3, hq4⟩ (zk_preV (wc := zwE cI cJ aE Eorder Eabove Ebelow Eelected Eset Esupport Eworth Eloads Eunit ++ (zwC cI aN Ncandidates Nballots Nseats Nwithdrawn Nvoters Nsets Nrank)) hN hK hw [1, 2, 3, 4, 5, 6, 7, 8, 9, 10, 11] rfl (by decide) 1 1 rfl rfl) rfl rfl hl.1 rfl (lv_room (Nat.le_of_ble_eq_true rfl)) dX4_lawsThatElect_18 ⟨Nat.zero_le _, Nat.zero_le _⟩) (fun H locs hw => ?_)
        have hw : Wd D A s.heap (zwL aL (aT 0) (aN 0) (aR 0) (aP 0) (aE 0) ++ (zwE cI cJ aE u2.2.1 u2.2.2.1 u2.2.2.2.1 u2.2.2.2.2.1 u2.2.2.2.2.2.1 u2.2.2.2.2.2.2.1 u2.2.2.2.2.2.2.2.1 u2.2.2.2.2.2.2.2.2.1 u2.2.2.2.2.2.2.2.2.2 ++ (zwC cI aN Ncandidates Nballots Nseats Nwithdrawn Nvoters Nsets Nrank))) H locs := hw
        refine lv_iload_n hx hb dX4_lawsThatElect_21 rfl (lv_at hl 1 rfl) ?_
        obtain ⟨u4, e5, hf⟩ := zk_bd hf
        refine zk_calli (wc := []) (wr := zwL aL (aT 0) (aN 0) (aR 0) (aP 0) (aE 0) ++ (zwE cI cJ aE u2.2.1 u2.2.2.1 u2.2.2.2.1 u2.2.2.2.2.1 u2.2.2.2.2.2.1 u2.2.2.2.2.2.2.1 u2.2.2.2.2.2.2.2.1 u2.2.2.2.2.2.2.2.2.1 u2.2.2.2.2.2.2.2.2.2 ++ (zwC cI aN Ncandidates Nballots Nseats Nwithdrawn Nvoters Nsets Nrank))) hw hA [] [0, 1, 2, 3, 4, 5, 6, 7, 8, 9, 10, 11] rfl rfl (by decide) (by decide) (va_runS (As := [.int u2.1, .int x1]) (rest := []) ⟨hx, hb, hml, hown, hts⟩ (kX4_hasBit l D cI cJ cO N u2.1 x1 u4 e5 H.size) (va_cwS 2 hts gX4_lawsThatElect_X4_hasBit rfl rfl rfl (by decide +kernel) ⟨Nat.le_of_ble_eq_true rfl, Nat.le_of_ble_eq_true rfl⟩) (zk_preS (wc := []) hN hK hw [] rfl (by decide)) rfl rfl hl.1 rfl (lv_room (Nat.le_of_ble_eq_true rfl)) dX4_lawsThatElect_22 ⟨Nat.zero_le _, Nat.zero_le _⟩) (fun H locs hw => ?_)
        have hw : Wd D A s.heap (zwL aL (aT 0) (aN 0) (aR 0) (aP 0) (aE 0) ++ (zwE cI cJ aE u2.2.1 u2.2.2.1 u2.2.2.2.1 u2.2.2.2.2.1 u2.2.2.2.2.2.1 u2.2.2.2.2.2.2.1 u2.2.2.2.2.2.2.2.1 u2.2.2.2.2.2.2.2.2.1 u2.2.2.2.2.2.2.2.2.2 ++ (zwC cI aN Ncandidates Nballots Nseats Nwithdrawn Nvoters Nsets Nrank))) H locs := hw
        refine lv_if_eq (tgt := 34) hx hb dX4_lawsThatElect_25 (by decide) (fun c6 => ?_) (fun c6 => ?_)
        · replace hf := zk_t c6 hf
          exact b34 x1 x2 x3 u2.2.1 u2.2.2.1 u2.2.2.2.1 u2.2.2.2.2.1 u2.2.2.2.2.2.1 u2.2.2.2.2.2.2.1 u2.2.2.2.2.2.2.2.1 u2.2.2.2.2.2.2.2.2.1 u2.2.2.2.2.2.2.2.2.2 hf H locs ls hw (lv_sub hl [0, 1, 2, 3] rfl)
        · replace hf := zk_f c6 hf
          refine lv_iload_n hx hb dX4_lawsThatElect_28 rfl (lv_at hl 2 rfl) ?_
          refine lv_iconst (v := 1) hx hb dX4_lawsThatElect_29 (by decide) ?_
          refine lv_iload_n hx hb dX4_lawsThatElect_30 rfl (lv_at hl 3 rfl) ?_
          refine lv_ishl hx hb dX4_lawsThatElect_31 ?_
          refine lv_ior hx hb dX4_lawsThatElect_32 ?_
          refine lv_istore_n (lv' := [(2, .int (x2 ||| ((1 : Int32) <<< (x3 &&& 31)))), (0, .ref (aL 0)), (1, .int x1), (3, .int x3)]) hx hb dX4_lawsThatElect_33 rfl hl (by decide) rfl (fun ls hl => ?_)
          exact b34 x1 (x2 ||| ((1 : Int32) <<< (x3 &&& 31))) x3 u2.2.1 u2.2.2.1 u2.2.2.2.1 u2.2.2.2.2.1 u2.2.2.2.2.2.1 u2.2.2.2.2.2.2.1 u2.2.2.2.2.2.2.2.1 u2.2.2.2.2.2.2.2.2.1 u2.2.2.2.2.2.2.2.2.2 hf H locs ls hw (lv_sub hl [1, 2, 0, 3] rfl)
  unfold fX4_lawsThatElect at hf
  refine lv_iconst (v := 0) hx hb dX4_lawsThatElect_0 (by decide) ?_
  refine lv_istore_n (lv' := [(2, .int (0 : Int32)), (0, .ref (aL 0)), (1, .int p0)]) hx hb dX4_lawsThatElect_1 rfl hl (by decide) rfl (fun ls hl => ?_)
  refine lv_iconst (v := 0) hx hb dX4_lawsThatElect_2 (by decide) ?_
  refine lv_istore_n (lv' := [(3, .int (0 : Int32)), (2, .int (0 : Int32)), (0, .ref (aL 0)), (1, .int p0)]) hx hb dX4_lawsThatElect_3 rfl hl (by decide) rfl (fun ls hl => ?_)
  exact b4 N p0 (0 : Int32) (0 : Int32) Eorder Eabove Ebelow Eelected Eset Esupport Eworth Eloads Eunit hf H locs ls hw (lv_sub hl [2, 3, 1, 0] rfl)
set_option maxHeartbeats 4000000 in
set_option maxRecDepth 100000 in
theorem kX4_candidate (l : Launch) (D : va_G) (cI cJ cO : ClassId) (N : Nat) (aL aE aN : Nat → Nat) (aT aR aP : Nat → Nat) (p0 : Int32) (p1 : Int32) (Eorder : Nat → Int32) (Eabove : Nat → Int64) (Ebelow : Nat → Int64) (Eelected : Int32) (Eset : Int32) (Esupport : Nat → Int32) (Eworth : Nat → Int64) (Eloads : Nat → Int64) (Eunit : Int64) (Ncandidates : Int32) (Nballots : Int32) (Nseats : Int32) (Nwithdrawn : Int32) (Nvoters : Nat → Int32) (Nsets : Nat → Int32) (Nrank : Nat → Int32) (u : Int32 × (Nat → Int32) × (Nat → Int64) × (Nat → Int64) × (Int32) × (Int32) × (Nat → Int32) × (Nat → Int64) × (Nat → Int64) × (Int64)) (hf : fX4_candidate N p0 p1 Eorder Eabove Ebelow Eelected Eset Esupport Eworth Eloads Eunit Ncandidates Nballots Nseats Nwithdrawn Nvoters Nsets Nrank = some u) : CtI l yX4_candidate wsX4_candidate (zk_rm 6 140) D cI cJ cO [.ref (aL 0), .int p0, .int p1] (zwL aL (aT 0) (aN 0) (aR 0) (aP 0) (aE 0) ++ (zwE cI cJ aE Eorder Eabove Ebelow Eelected Eset Esupport Eworth Eloads Eunit ++ (zwC cI aN Ncandidates Nballots Nseats Nwithdrawn Nvoters Nsets Nrank))) (zwL aL (aT 0) (aN 0) (aR 0) (aP 0) (aE 0) ++ (zwE cI cJ aE u.2.1 u.2.2.1 u.2.2.2.1 u.2.2.2.2.1 u.2.2.2.2.2.1 u.2.2.2.2.2.2.1 u.2.2.2.2.2.2.2.1 u.2.2.2.2.2.2.2.2.1 u.2.2.2.2.2.2.2.2.2 ++ (zwC cI aN Ncandidates Nballots Nseats Nwithdrawn Nvoters Nsets Nrank))) (u.1) := by
  refine zk_enter (cc := cX4_candidate) (maxL := 3) (ret := some .int) (own := RX4) (Qf := fun A => QwI D (zwL aL (aT 0) (aN 0) (aR 0) (aP 0) (aE 0) ++ (zwE cI cJ aE u.2.1 u.2.2.1 u.2.2.2.1 u.2.2.2.2.1 u.2.2.2.2.2.1 u.2.2.2.2.2.2.1 u.2.2.2.2.2.2.2.1 u.2.2.2.2.2.2.2.2.1 u.2.2.2.2.2.2.2.2.2 ++ (zwC cI aN Ncandidates Nballots Nseats Nwithdrawn Nvoters Nsets Nrank))) (u.1) A) (by decide) rfl rfl (Nat.le_of_ble_eq_true rfl) ?_
  intro p e s m args below meth c A Q H locs ls hC hQ hw hl
  obtain ⟨hx, hb, hml, hr, hts, hown, hlocks, hN, hK, hA⟩ := hC
  have hl : lv_has ls 3 [(0, .ref (aL 0)), (1, .int p0), (2, .int p1)] := hl
  have hiX4 : ∀ w ∈ u_ws RX4 TX4 5, w ∈ wsX4_candidate := by decide +kernel
  have hq0 := hts (.fieldLink RX4 19 "LoadCouncil" "now" "LLoadCouncil$Council;") (by decide +kernel)
  have hq1 := hts (.initialized RX0) (by decide +kernel)
  have hq2 := hts (.instanceMethod yX0_supportOf) (by decide +kernel)
  have hq3 := hts (.selects RX0 yX0_supportOf yX0_supportOf) (by decide +kernel)
  have hq4 := hts (.instanceMethod yX0_placeOf) (by decide +kernel)
  have hq5 := hts (.selects RX0 yX0_placeOf yX0_placeOf) (by decide +kernel)
  have hq6 := hts (.instanceMethod yX0_isWithdrawn) (by decide +kernel)
  have hq7 := hts (.selects RX0 yX0_isWithdrawn yX0_isWithdrawn) (by decide +kernel)
  unfold fX4_candidate at hf
  refine lv_aload_n hx hb dX4_candidate_0 rfl (lv_at hl 0 rfl) ?_
  refine lv_iload_n hx hb dX4_candidate_1 rfl (lv_at hl 1 rfl) ?_
  obtain ⟨u1, e2, hf⟩ := zk_bd hf
  refine zk_calli (wc := zwL aL (aT 0) (aN 0) (aR 0) (aP 0) (aE 0) ++ (zwC cI aN Ncandidates Nballots Nseats Nwithdrawn Nvoters Nsets Nrank)) (wr := zwE cI cJ aE Eorder Eabove Ebelow Eelected Eset Esupport Eworth Eloads Eunit) hw hA [0, 8, 9, 10, 11] [1, 2, 3, 4, 5, 6, 7] rfl rfl (by decide) (by decide) (va_runV (C := RX4) (As := [.int p0]) (rest := []) ⟨hx, hb, hml, hown, hts⟩ (kX4_isCandidate l D cI cJ cO N aL aN aT aR aP aE p0 Ncandidates Nballots Nseats Nwithdrawn Nvoters Nsets Nrank u1 e2 H.size) (cwV 1 hts gX4_candidate_X4_isCandidate rfl rfl rfl (by decide +kernel) ⟨Nat.le_of_ble_eq_true rfl, Nat.le_of_ble_eq_true rfl⟩) (zk_preV (wc := zwL aL (aT 0) (aN 0) (aR 0) (aP 0) (aE 0) ++ (zwC cI aN Ncandidates Nballots Nseats Nwithdrawn Nvoters Nsets Nrank)) hN hK hw [0, 8, 9, 10, 11] rfl (by decide) 0 4 rfl rfl) rfl rfl hl.1 rfl (lv_room (Nat.le_of_ble_eq_true rfl)) dX4_candidate_2 ⟨Nat.zero_le _, Nat.zero_le _⟩) (fun H locs hw => ?_)
  have hw : Wd D A s.heap (zwE cI cJ aE Eorder Eabove Ebelow Eelected Eset Esupport Eworth Eloads Eunit ++ (zwL aL (aT 0) (aN 0) (aR 0) (aP 0) (aE 0) ++ (zwC cI aN Ncandidates Nballots Nseats Nwithdrawn Nvoters Nsets Nrank))) H locs := hw
  refine lv_if_ne (tgt := 10) hx hb dX4_candidate_5 (by decide) (fun c3 => ?_) (fun c3 => ?_)
  · replace hf := zk_f c3 hf
    refine lv_iload_n hx hb dX4_candidate_10 rfl (lv_at hl 2 rfl) ?_
    by_cases c4 : p1 = 0
    · replace hf := zk_t c4 hf
      refine lv_tableIn (tgt := 40) (off := 29) hx hb dX4_candidate_11 (by rw [c4]; decide) (by rw [c4]; decide) (by rw [c4]; rfl) (by decide) ?_
      refine lv_aload_n hx hb dX4_candidate_40 rfl (lv_at hl 0 rfl) ?_
      refine va_get (D := D) (ci := 4) (v := .ref (aN 0)) (C := RX4) (T := TX4) (N := 5) hx hb hts hiX4 hown hK hw.1 7 rfl rfl 1 (by decide) hq0 (fun _ h9 => h9) rfl dX4_candidate_41 ?_
      refine lv_iload_n hx hb dX4_candidate_44 rfl (lv_at hl 1 rfl) ?_
      obtain ⟨u5, e6, hf⟩ := zk_bd hf
      refine zk_calli (wc := zwC cI aN Ncandidates Nballots Nseats Nwithdrawn Nvoters Nsets Nrank) (wr := zwE cI cJ aE Eorder Eabove Ebelow Eelected Eset Esupport Eworth Eloads Eunit ++ (zwL aL (aT 0) (aN 0) (aR 0) (aP 0) (aE 0))) hw hA [8, 9, 10, 11] [0, 1, 2, 3, 4, 5, 6, 7] rfl rfl (by decide) (by decide) (va_runVN (C := RX0) (As := [.int p0]) (rest := []) ⟨hx, hb, hml, hown, hts⟩ (kX0_supportOf l D cI cJ cO N aN p0 Ncandidates Nballots Nseats Nwithdrawn Nvoters Nsets Nrank u5 e6 H.size) ⟨va_cnB 1 hts ggX4_candidate_X0_supportOf rfl rfl rfl (nwM_X4_136 hN) hq1 (by decide +kernel) ⟨Nat.le_of_ble_eq_true rfl, Nat.le_of_ble_eq_true rfl⟩, hq2, hq3⟩ (zk_preV (wc := zwC cI aN Ncandidates Nballots Nseats Nwithdrawn Nvoters Nsets Nrank) hN hK hw [8, 9, 10, 11] rfl (by decide) 8 0 rfl rfl) rfl rfl hl.1 rfl (lv_room (Nat.le_of_ble_eq_true rfl)) dX4_candidate_45 ⟨Nat.zero_le _, Nat.zero_le _⟩) (fun H locs hw => ?_)
      have hw : Wd D A s.heap (zwE cI cJ aE Eorder Eabove Ebelow Eelected Eset Esupport Eworth Eloads Eunit ++ (zwL aL (aT 0) (aN 0) (aR 0) (aP 0) (aE 0) ++ (zwC cI aN Ncandidates Nballots Nseats Nwithdrawn Nvoters Nsets Nrank))) H locs := hw
      cases hf
      exact zk_iret hx hb hr hlocks rfl hQ hw [7, 0, 1, 2, 3, 4, 5, 6, 8, 9, 10, 11] rfl (by decide) dX4_candidate_48
    · replace hf := zk_f c4 hf
      by_cases c7 : p1 = 1
      · replace hf := zk_t c7 hf
        refine lv_tableIn (tgt := 49) (off := 38) hx hb dX4_candidate_11 (by rw [c7]; decide) (by rw [c7]; decide) (by rw [c7]; rfl) (by decide) ?_
        refine lv_aload_n hx hb dX4_candidate_49 rfl (lv_at hl 0 rfl) ?_
        refine va_get (D := D) (ci := 4) (v := .ref (aN 0)) (C := RX4) (T := TX4) (N := 5) hx hb hts hiX4 hown hK hw.1 7 rfl rfl 1 (by decide) hq0 (fun _ h9 => h9) rfl dX4_candidate_50 ?_
        refine lv_iload_n hx hb dX4_candidate_53 rfl (lv_at hl 1 rfl) ?_
        obtain ⟨u8, e9, hf⟩ := zk_bd hf
        refine zk_calli (wc := zwC cI aN Ncandidates Nballots Nseats Nwithdrawn Nvoters Nsets Nrank) (wr := zwE cI cJ aE Eorder Eabove Ebelow Eelected Eset Esupport Eworth Eloads Eunit ++ (zwL aL (aT 0) (aN 0) (aR 0) (aP 0) (aE 0))) hw hA [8, 9, 10, 11] [0, 1, 2, 3, 4, 5, 6, 7] rfl rfl (by decide) (by decide) (va_runVN (C := RX0) (As := [.int p0]) (rest := []) ⟨hx, hb, hml, hown, hts⟩ (kX0_placeOf l D cI cJ cO N aN p0 Ncandidates Nballots Nseats Nwithdrawn Nvoters Nsets Nrank u8 e9 H.size) ⟨va_cnB 1 hts ggX4_candidate_X0_placeOf rfl rfl rfl (nwM_X4_123 hN) hq1 (by decide +kernel) ⟨Nat.le_of_ble_eq_true rfl, Nat.le_of_ble_eq_true rfl⟩, hq4, hq5⟩ (zk_preV (wc := zwC cI aN Ncandidates Nballots Nseats Nwithdrawn Nvoters Nsets Nrank) hN hK hw [8, 9, 10, 11] rfl (by decide) 8 0 rfl rfl) rfl rfl hl.1 rfl (lv_room (Nat.le_of_ble_eq_true rfl)) dX4_candidate_54 ⟨Nat.zero_le _, Nat.zero_le _⟩) (fun H locs hw => ?_)
        have hw : Wd D A s.heap (zwE cI cJ aE Eorder Eabove Ebelow Eelected Eset Esupport Eworth Eloads Eunit ++ (zwL aL (aT 0) (aN 0) (aR 0) (aP 0) (aE 0) ++ (zwC cI aN Ncandidates Nballots Nseats Nwithdrawn Nvoters Nsets Nrank))) H locs := hw
        cases hf
        exact zk_iret hx hb hr hlocks rfl hQ hw [7, 0, 1, 2, 3, 4, 5, 6, 8, 9, 10, 11] rfl (by decide) dX4_candidate_57
      · replace hf := zk_f c7 hf
        by_cases c10 : p1 = 2
        · replace hf := zk_t c10 hf
          refine lv_tableIn (tgt := 58) (off := 47) hx hb dX4_candidate_11 (by rw [c10]; decide) (by rw [c10]; decide) (by rw [c10]; rfl) (by decide) ?_
          refine lv_aload_n hx hb dX4_candidate_58 rfl (lv_at hl 0 rfl) ?_
          refine va_get (D := D) (ci := 4) (v := .ref (aN 0)) (C := RX4) (T := TX4) (N := 5) hx hb hts hiX4 hown hK hw.1 7 rfl rfl 1 (by decide) hq0 (fun _ h9 => h9) rfl dX4_candidate_59 ?_
          refine lv_iload_n hx hb dX4_candidate_62 rfl (lv_at hl 1 rfl) ?_
          obtain ⟨u11, e12, hf⟩ := zk_bd hf
          refine zk_calli (wc := zwC cI aN Ncandidates Nballots Nseats Nwithdrawn Nvoters Nsets Nrank) (wr := zwE cI cJ aE Eorder Eabove Ebelow Eelected Eset Esupport Eworth Eloads Eunit ++ (zwL aL (aT 0) (aN 0) (aR 0) (aP 0) (aE 0))) hw hA [8, 9, 10, 11] [0, 1, 2, 3, 4, 5, 6, 7] rfl rfl (by decide) (by decide) (va_runVN (C := RX0) (As := [.int p0]) (rest := []) ⟨hx, hb, hml, hown, hts⟩ (kX0_isWithdrawn l D cI cJ cO N aN p0 Ncandidates Nballots Nseats Nwithdrawn Nvoters Nsets Nrank u11 e12 H.size) ⟨va_cnB 1 hts ggX4_candidate_X0_isWithdrawn rfl rfl rfl (nwM_X4_111 hN) hq1 (by decide +kernel) ⟨Nat.le_of_ble_eq_true rfl, Nat.le_of_ble_eq_true rfl⟩, hq6, hq7⟩ (zk_preV (wc := zwC cI aN Ncandidates Nballots Nseats Nwithdrawn Nvoters Nsets Nrank) hN hK hw [8, 9, 10, 11] rfl (by decide) 8 0 rfl rfl) rfl rfl hl.1 rfl (lv_room (Nat.le_of_ble_eq_true rfl)) dX4_candidate_63 ⟨Nat.zero_le _, Nat.zero_le _⟩) (fun H locs hw => ?_)
          have hw : Wd D A s.heap (zwE cI cJ aE Eorder Eabove Ebelow Eelected Eset Esupport Eworth Eloads Eunit ++ (zwL aL (aT 0) (aN 0) (aR 0) (aP 0) (aE 0) ++ (zwC cI aN Ncandidates Nballots Nseats Nwithdrawn Nvoters Nsets Nrank))) H locs := hw
          refine lv_if_eq (tgt := 73) hx hb dX4_candidate_66 (by decide) (fun c13 => ?_) (fun c13 => ?_)
          · replace hf := zk_t c13 hf
            refine lv_iconst (v := 0) hx hb dX4_candidate_73 (by decide) ?_
            cases hf
            exact zk_iret hx hb hr hlocks rfl hQ hw [7, 0, 1, 2, 3, 4, 5, 6, 8, 9, 10, 11] rfl (by decide) dX4_candidate_74
          · replace hf := zk_f c13 hf
            refine lv_iconst (v := 1) hx hb dX4_candidate_69 (by decide) ?_
            refine lv_goto (tgt := 74) hx hb dX4_candidate_70 (by decide) ?_
            cases hf
            exact zk_iret hx hb hr hlocks rfl hQ hw [7, 0, 1, 2, 3, 4, 5, 6, 8, 9, 10, 11] rfl (by decide) dX4_candidate_74
        · replace hf := zk_f c10 hf
          by_cases c14 : p1 = 3
          · replace hf := zk_t c14 hf
            refine lv_tableIn (tgt := 75) (off := 64) hx hb dX4_candidate_11 (by rw [c14]; decide) (by rw [c14]; decide) (by rw [c14]; rfl) (by decide) ?_
            refine lv_aload_n hx hb dX4_candidate_75 rfl (lv_at hl 0 rfl) ?_
            refine lv_iload_n hx hb dX4_candidate_76 rfl (lv_at hl 1 rfl) ?_
            obtain ⟨u15, e16, hf⟩ := zk_bd hf
            refine zk_calli (wc := zwL aL (aT 0) (aN 0) (aR 0) (aP 0) (aE 0) ++ (zwE cI cJ aE Eorder Eabove Ebelow Eelected Eset Esupport Eworth Eloads Eunit ++ (zwC cI aN Ncandidates Nballots Nseats Nwithdrawn Nvoters Nsets Nrank))) (wr := []) hw hA [7, 0, 1, 2, 3, 4, 5, 6, 8, 9, 10, 11] [] rfl rfl (by decide) (by decide) (va_runV (C := RX4) (As := [.int p0]) (rest := []) ⟨hx, hb, hml, hown, hts⟩ (kX4_lawsThatElect l D cI cJ cO N aL aE aN aT aR aP p0 Eorder Eabove Ebelow Eelected Eset Esupport Eworth Eloads Eunit Ncandidates Nballots Nseats Nwithdrawn Nvoters Nsets Nrank u15 e16 H.size) (cwV 1 hts gX4_candidate_X4_lawsThatElect rfl rfl rfl (by decide +kernel) ⟨Nat.le_of_ble_eq_true rfl, Nat.le_of_ble_eq_true rfl⟩) (zk_preV (wc := zwL aL (aT 0) (aN 0) (aR 0) (aP 0) (aE 0) ++ (zwE cI cJ aE Eorder Eabove Ebelow Eelected Eset Esupport Eworth Eloads Eunit ++ (zwC cI aN Ncandidates Nballots Nseats Nwithdrawn Nvoters Nsets Nrank))) hN hK hw [7, 0, 1, 2, 3, 4, 5, 6, 8, 9, 10, 11] rfl (by decide) 7 4 rfl rfl) rfl rfl hl.1 rfl (lv_room (Nat.le_of_ble_eq_true rfl)) dX4_candidate_77 ⟨Nat.zero_le _, Nat.zero_le _⟩) (fun H locs hw => ?_)
            have hw : Wd D A s.heap (zwL aL (aT 0) (aN 0) (aR 0) (aP 0) (aE 0) ++ (zwE cI cJ aE u15.2.1 u15.2.2.1 u15.2.2.2.1 u15.2.2.2.2.1 u15.2.2.2.2.2.1 u15.2.2.2.2.2.2.1 u15.2.2.2.2.2.2.2.1 u15.2.2.2.2.2.2.2.2.1 u15.2.2.2.2.2.2.2.2.2 ++ (zwC cI aN Ncandidates Nballots Nseats Nwithdrawn Nvoters Nsets Nrank))) H locs := hw
            cases hf
            exact zk_iret hx hb hr hlocks rfl hQ hw [0, 1, 2, 3, 4, 5, 6, 7, 8, 9, 10, 11] rfl (by decide) dX4_candidate_80
          · replace hf := zk_f c14 hf
            refine lv_tableOut (tgt := 81) hx hb dX4_candidate_11 (by have n0 := lv_neT c4 (k := 0) (a := 0) rfl; have n1 := lv_neT c7 (k := 1) (a := 1) rfl; have n2 := lv_neT c10 (k := 2) (a := 2) rfl; have n3 := lv_neT c14 (k := 3) (a := 3) rfl; omega) (by decide) ?_
            refine lv_iconst (v := (-1)) hx hb dX4_candidate_81 (by decide) ?_
            cases hf
            exact zk_iret hx hb hr hlocks rfl hQ hw [7, 0, 1, 2, 3, 4, 5, 6, 8, 9, 10, 11] rfl (by decide) dX4_candidate_82
  · replace hf := zk_t c3 hf
    refine lv_iconst (v := (-1)) hx hb dX4_candidate_8 (by decide) ?_
    cases hf
    exact zk_iret hx hb hr hlocks rfl hQ hw [7, 0, 1, 2, 3, 4, 5, 6, 8, 9, 10, 11] rfl (by decide) dX4_candidate_9
set_option maxHeartbeats 4000000 in
set_option maxRecDepth 100000 in
theorem kX4_vote (l : Launch) (D : va_G) (cI cJ cO : ClassId) (N : Nat) (aL aE aN : Nat → Nat) (aT aR aP : Nat → Nat) (p0 : Int32) (p1 : Int32) (Eorder : Nat → Int32) (Eabove : Nat → Int64) (Ebelow : Nat → Int64) (Eelected : Int32) (Eset : Int32) (Esupport : Nat → Int32) (Eworth : Nat → Int64) (Eloads : Nat → Int64) (Eunit : Int64) (Ncandidates : Int32) (Nballots : Int32) (Nseats : Int32) (Nwithdrawn : Int32) (Nvoters : Nat → Int32) (Nsets : Nat → Int32) (Nrank : Nat → Int32) (u : Int32 × (Nat → Int32) × (Nat → Int64) × (Nat → Int64) × (Int32) × (Int32) × (Nat → Int32) × (Nat → Int64) × (Nat → Int64) × (Int64)) (hf : fX4_vote N p0 p1 Eorder Eabove Ebelow Eelected Eset Esupport Eworth Eloads Eunit Ncandidates Nballots Nseats Nwithdrawn Nvoters Nsets Nrank = some u) : CtI l yX4_vote wsX4_vote (zk_rm 5 117) D cI cJ cO [.ref (aL 0), .int p0, .int p1] (zwL aL (aT 0) (aN 0) (aR 0) (aP 0) (aE 0) ++ (zwE cI cJ aE Eorder Eabove Ebelow Eelected Eset Esupport Eworth Eloads Eunit ++ (zwC cI aN Ncandidates Nballots Nseats Nwithdrawn Nvoters Nsets Nrank))) (zwL aL (aT 0) (aN 0) (aR 0) (aP 0) (aE 0) ++ (zwE cI cJ aE u.2.1 u.2.2.1 u.2.2.2.1 u.2.2.2.2.1 u.2.2.2.2.2.1 u.2.2.2.2.2.2.1 u.2.2.2.2.2.2.2.1 u.2.2.2.2.2.2.2.2.1 u.2.2.2.2.2.2.2.2.2 ++ (zwC cI aN Ncandidates Nballots Nseats Nwithdrawn Nvoters Nsets Nrank))) (u.1) := by
  refine zk_enter (cc := cX4_vote) (maxL := 3) (ret := some .int) (own := RX4) (Qf := fun A => QwI D (zwL aL (aT 0) (aN 0) (aR 0) (aP 0) (aE 0) ++ (zwE cI cJ aE u.2.1 u.2.2.1 u.2.2.2.1 u.2.2.2.2.1 u.2.2.2.2.2.1 u.2.2.2.2.2.2.1 u.2.2.2.2.2.2.2.1 u.2.2.2.2.2.2.2.2.1 u.2.2.2.2.2.2.2.2.2 ++ (zwC cI aN Ncandidates Nballots Nseats Nwithdrawn Nvoters Nsets Nrank))) (u.1) A) (by decide) rfl rfl (Nat.le_of_ble_eq_true rfl) ?_
  intro p e s m args below meth c A Q H locs ls hC hQ hw hl
  obtain ⟨hx, hb, hml, hr, hts, hown, hlocks, hN, hK, hA⟩ := hC
  have hl : lv_has ls 3 [(0, .ref (aL 0)), (1, .int p0), (2, .int p1)] := hl
  have hiX4 : ∀ w ∈ u_ws RX4 TX4 5, w ∈ wsX4_vote := by decide +kernel
  have hiX0 : ∀ w ∈ u_ws RX0 TX0 7, w ∈ wsX4_vote := by decide +kernel
  have hq0 := hts (.fieldLink RX4 36 "LoadCouncil" "election" "LLoadCouncil$Election;") (by decide +kernel)
  have hq1 := hts (.fieldLink RX4 19 "LoadCouncil" "now" "LLoadCouncil$Council;") (by decide +kernel)
  have hq2 := hts (.initialized RX1) (by decide +kernel)
  have hq3 := hts (.instanceMethod yX1_hold) (by decide +kernel)
  have hq4 := hts (.selects RX1 yX1_hold yX1_hold) (by decide +kernel)
  unfold fX4_vote at hf
  refine lv_aload_n hx hb dX4_vote_0 rfl (lv_at hl 0 rfl) ?_
  refine lv_iload_n hx hb dX4_vote_1 rfl (lv_at hl 1 rfl) ?_
  obtain ⟨u1, e2, hf⟩ := zk_bd hf
  refine zk_calli (wc := zwL aL (aT 0) (aN 0) (aR 0) (aP 0) (aE 0) ++ (zwC cI aN Ncandidates Nballots Nseats Nwithdrawn Nvoters Nsets Nrank)) (wr := zwE cI cJ aE Eorder Eabove Ebelow Eelected Eset Esupport Eworth Eloads Eunit) hw hA [0, 8, 9, 10, 11] [1, 2, 3, 4, 5, 6, 7] rfl rfl (by decide) (by decide) (va_runV (C := RX4) (As := [.int p0]) (rest := []) ⟨hx, hb, hml, hown, hts⟩ (kX4_isBallot l D cI cJ cO N aL aN aT aR aP aE p0 Ncandidates Nballots Nseats Nwithdrawn Nvoters Nsets Nrank u1 e2 H.size) (cwV 1 hts gX4_vote_X4_isBallot rfl rfl rfl (by decide +kernel) ⟨Nat.le_of_ble_eq_true rfl, Nat.le_of_ble_eq_true rfl⟩) (zk_preV (wc := zwL aL (aT 0) (aN 0) (aR 0) (aP 0) (aE 0) ++ (zwC cI aN Ncandidates Nballots Nseats Nwithdrawn Nvoters Nsets Nrank)) hN hK hw [0, 8, 9, 10, 11] rfl (by decide) 0 4 rfl rfl) rfl rfl hl.1 rfl (lv_room (Nat.le_of_ble_eq_true rfl)) dX4_vote_2 ⟨Nat.zero_le _, Nat.zero_le _⟩) (fun H locs hw => ?_)
  have hw : Wd D A s.heap (zwE cI cJ aE Eorder Eabove Ebelow Eelected Eset Esupport Eworth Eloads Eunit ++ (zwL aL (aT 0) (aN 0) (aR 0) (aP 0) (aE 0) ++ (zwC cI aN Ncandidates Nballots Nseats Nwithdrawn Nvoters Nsets Nrank))) H locs := hw
  refine lv_if_eq (tgt := 17) hx hb dX4_vote_5 (by decide) (fun c3 => ?_) (fun c3 => ?_)
  · replace hf := zk_t c3 hf
    refine lv_iconst (v := (-1)) hx hb dX4_vote_17 (by decide) ?_
    cases hf
    exact zk_iret hx hb hr hlocks rfl hQ hw [7, 0, 1, 2, 3, 4, 5, 6, 8, 9, 10, 11] rfl (by decide) dX4_vote_18
  · replace hf := zk_f c3 hf
    refine lv_iload_n hx hb dX4_vote_8 rfl (lv_at hl 2 rfl) ?_
    refine lv_if_lt (tgt := 17) hx hb dX4_vote_9 (by decide) (fun c4 => ?_) (fun c4 => ?_)
    · replace hf := zk_t c4 hf
      refine lv_iconst (v := (-1)) hx hb dX4_vote_17 (by decide) ?_
      cases hf
      exact zk_iret hx hb hr hlocks rfl hQ hw [7, 0, 1, 2, 3, 4, 5, 6, 8, 9, 10, 11] rfl (by decide) dX4_vote_18
    · replace hf := zk_f c4 hf
      refine lv_iload_n hx hb dX4_vote_12 rfl (lv_at hl 2 rfl) ?_
      refine lv_iconst (v := 5) hx hb dX4_vote_13 (by decide) ?_
      refine lv_icmp_le (tgt := 19) hx hb dX4_vote_14 (by decide) (fun c5 => ?_) (fun c5 => ?_)
      · replace hf := zk_t c5 hf
        refine lv_iload_n hx hb dX4_vote_19 rfl (lv_at hl 2 rfl) ?_
        refine lv_if_ne (tgt := 33) hx hb dX4_vote_20 (by decide) (fun c6 => ?_) (fun c6 => ?_)
        · replace hf := zk_f c6 hf
          refine lv_iload_n hx hb dX4_vote_33 rfl (lv_at hl 2 rfl) ?_
          refine lv_iconst (v := 1) hx hb dX4_vote_34 (by decide) ?_
          refine lv_icmp_ne (tgt := 48) hx hb dX4_vote_35 (by decide) (fun c7 => ?_) (fun c7 => ?_)
          · replace hf := zk_f c7 hf
            refine lv_aload_n hx hb dX4_vote_48 rfl (lv_at hl 0 rfl) ?_
            refine va_get (D := D) (ci := 4) (v := .ref (aE 0)) (C := RX4) (T := TX4) (N := 5) hx hb hts hiX4 hown hK hw.1 7 rfl rfl 4 (by decide) hq0 (fun _ h9 => h9) rfl dX4_vote_49 ?_
            refine lv_aload_n hx hb dX4_vote_52 rfl (lv_at hl 0 rfl) ?_
            refine va_get (D := D) (ci := 4) (v := .ref (aN 0)) (C := RX4) (T := TX4) (N := 5) hx hb hts hiX4 hown hK hw.1 7 rfl rfl 1 (by decide) hq1 (fun _ h9 => h9) rfl dX4_vote_53 ?_
            refine lv_iload_n hx hb dX4_vote_56 rfl (lv_at hl 2 rfl) ?_
            refine lv_iconst (v := 2) hx hb dX4_vote_57 (by decide) ?_
            refine lv_isub hx hb dX4_vote_58 ?_
            obtain ⟨u8, e9, hf⟩ := zk_bd hf
            refine zk_calli (wc := zwE cI cJ aE Eorder Eabove Ebelow Eelected Eset Esupport Eworth Eloads Eunit ++ (zwC cI aN Ncandidates Nballots Nseats Nwithdrawn Nvoters Nsets Nrank)) (wr := zwL aL (aT 0) (aN 0) (aR 0) (aP 0) (aE 0)) hw hA [0, 1, 2, 3, 4, 5, 6, 8, 9, 10, 11] [7] rfl rfl (by decide) (by decide) (va_runVN (C := RX1) (As := [.ref (aN 0), .int (p1 - (2 : Int32))]) (rest := []) ⟨hx, hb, hml, hown, hts⟩ (kX1_hold l D cI cJ cO N aE aN (p1 - (2 : Int32)) Eorder Eabove Ebelow Eelected Eset Esupport Eworth Eloads Eunit Ncandidates Nballots Nseats Nwithdrawn Nvoters Nsets Nrank u8 e9 H.size) ⟨va_cnB 2 hts ggX4_vote_X1_hold rfl rfl rfl (nwM_X4_142 hN) hq2 (by decide +kernel) ⟨Nat.le_of_ble_eq_true rfl, Nat.le_of_ble_eq_true rfl⟩, hq3, hq4⟩ (zk_preV (wc := zwE cI cJ aE Eorder Eabove Ebelow Eelected Eset Esupport Eworth Eloads Eunit ++ (zwC cI aN Ncandidates Nballots Nseats Nwithdrawn Nvoters Nsets Nrank)) hN hK hw [0, 1, 2, 3, 4, 5, 6, 8, 9, 10, 11] rfl (by decide) 0 1 rfl rfl) rfl rfl hl.1 rfl (lv_room (Nat.le_of_ble_eq_true rfl)) dX4_vote_59 ⟨Nat.zero_le _, Nat.zero_le _⟩) (fun H locs hw => ?_)
            have hw : Wd D A s.heap (zwL aL (aT 0) (aN 0) (aR 0) (aP 0) (aE 0) ++ (zwE cI cJ aE u8.2.1 u8.2.2.1 u8.2.2.2.1 u8.2.2.2.2.1 u8.2.2.2.2.2.1 u8.2.2.2.2.2.2.1 u8.2.2.2.2.2.2.2.1 u8.2.2.2.2.2.2.2.2.1 u8.2.2.2.2.2.2.2.2.2 ++ (zwC cI aN Ncandidates Nballots Nseats Nwithdrawn Nvoters Nsets Nrank))) H locs := hw
            refine lv_aload_n hx hb dX4_vote_62 rfl (lv_at hl 0 rfl) ?_
            refine va_get (D := D) (ci := 4) (v := .ref (aN 0)) (C := RX4) (T := TX4) (N := 5) hx hb hts hiX4 hown hK hw.1 0 rfl rfl 1 (by decide) hq1 (fun _ h9 => h9) rfl dX4_vote_63 ?_
            refine va_getN (D := D) (ci := 0) (v := .ref (aN 2)) (C := RX0) (T := TX0) (N := 7) hx hb hts hiX0 hown hK hw.1 8 rfl rfl 5 (by decide) (va_Nw.use rfl (nwF_X4_102 hN)) (fun _ h9 => h9) rfl dX4_vote_66 ?_
            refine lv_iload_n hx hb dX4_vote_69 rfl (lv_at hl 1 rfl) ?_
            obtain ⟨h10, hf⟩ := zk_ck hf
            refine zk_iald hx hb hK hw 10 rfl h10 (j := p0.toNatClampNeg) rfl dX4_vote_70 ?_
            refine lv_iand hx hb dX4_vote_71 ?_
            obtain ⟨u11, e12, hf⟩ := zk_bd hf
            refine zk_calli (wc := []) (wr := zwL aL (aT 0) (aN 0) (aR 0) (aP 0) (aE 0) ++ (zwE cI cJ aE u8.2.1 u8.2.2.1 u8.2.2.2.1 u8.2.2.2.2.1 u8.2.2.2.2.2.1 u8.2.2.2.2.2.2.1 u8.2.2.2.2.2.2.2.1 u8.2.2.2.2.2.2.2.2.1 u8.2.2.2.2.2.2.2.2.2 ++ (zwC cI aN Ncandidates Nballots Nseats Nwithdrawn Nvoters Nsets Nrank))) hw hA [] [0, 1, 2, 3, 4, 5, 6, 7, 8, 9, 10, 11] rfl rfl (by decide) (by decide) (va_runS (As := [.int (u8.1 &&& (Nsets p0.toNatClampNeg))]) (rest := []) ⟨hx, hb, hml, hown, hts⟩ (kJ6_bitCount_0f7a4 l D cI cJ cO N (u8.1 &&& (Nsets p0.toNatClampNeg)) u11 e12 H.size) (va_cwS 1 hts gX4_vote_J6_bitCount_0f7a4 rfl rfl rfl (by decide +kernel) ⟨Nat.le_of_ble_eq_true rfl, Nat.le_of_ble_eq_true rfl⟩) (zk_preS (wc := []) hN hK hw [] rfl (by decide)) rfl rfl hl.1 rfl (lv_room (Nat.le_of_ble_eq_true rfl)) dX4_vote_72 ⟨Nat.zero_le _, Nat.zero_le _⟩) (fun H locs hw => ?_)
            have hw : Wd D A s.heap (zwL aL (aT 0) (aN 0) (aR 0) (aP 0) (aE 0) ++ (zwE cI cJ aE u8.2.1 u8.2.2.1 u8.2.2.2.1 u8.2.2.2.2.1 u8.2.2.2.2.2.1 u8.2.2.2.2.2.2.1 u8.2.2.2.2.2.2.2.1 u8.2.2.2.2.2.2.2.2.1 u8.2.2.2.2.2.2.2.2.2 ++ (zwC cI aN Ncandidates Nballots Nseats Nwithdrawn Nvoters Nsets Nrank))) H locs := hw
            cases hf
            exact zk_iret hx hb hr hlocks rfl hQ hw [0, 1, 2, 3, 4, 5, 6, 7, 8, 9, 10, 11] rfl (by decide) dX4_vote_75
          · replace hf := zk_t c7 hf
            refine lv_aload_n hx hb dX4_vote_38 rfl (lv_at hl 0 rfl) ?_
            refine va_get (D := D) (ci := 4) (v := .ref (aN 0)) (C := RX4) (T := TX4) (N := 5) hx hb hts hiX4 hown hK hw.1 7 rfl rfl 1 (by decide) hq1 (fun _ h9 => h9) rfl dX4_vote_39 ?_
            refine va_getN (D := D) (ci := 0) (v := .ref (aN 2)) (C := RX0) (T := TX0) (N := 7) hx hb hts hiX0 hown hK hw.1 8 rfl rfl 5 (by decide) (va_Nw.use rfl (nwF_X4_102 hN)) (fun _ h9 => h9) rfl dX4_vote_42 ?_
            refine lv_iload_n hx hb dX4_vote_45 rfl (lv_at hl 1 rfl) ?_
            obtain ⟨h13, hf⟩ := zk_ck hf
            refine zk_iald hx hb hK hw 10 rfl h13 (j := p0.toNatClampNeg) rfl dX4_vote_46 ?_
            cases hf
            exact zk_iret hx hb hr hlocks rfl hQ hw [7, 0, 1, 2, 3, 4, 5, 6, 8, 9, 10, 11] rfl (by decide) dX4_vote_47
        · replace hf := zk_t c6 hf
          refine lv_aload_n hx hb dX4_vote_23 rfl (lv_at hl 0 rfl) ?_
          refine va_get (D := D) (ci := 4) (v := .ref (aN 0)) (C := RX4) (T := TX4) (N := 5) hx hb hts hiX4 hown hK hw.1 7 rfl rfl 1 (by decide) hq1 (fun _ h9 => h9) rfl dX4_vote_24 ?_
          refine va_getN (D := D) (ci := 0) (v := .ref (aN 1)) (C := RX0) (T := TX0) (N := 7) hx hb hts hiX0 hown hK hw.1 8 rfl rfl 4 (by decide) (va_Nw.use rfl (nwF_X4_98 hN)) (fun _ h9 => h9) rfl dX4_vote_27 ?_
          refine lv_iload_n hx hb dX4_vote_30 rfl (lv_at hl 1 rfl) ?_
          obtain ⟨h14, hf⟩ := zk_ck hf
          refine zk_iald hx hb hK hw 9 rfl h14 (j := p0.toNatClampNeg) rfl dX4_vote_31 ?_
          cases hf
          exact zk_iret hx hb hr hlocks rfl hQ hw [7, 0, 1, 2, 3, 4, 5, 6, 8, 9, 10, 11] rfl (by decide) dX4_vote_32
      · replace hf := zk_f c5 hf
        refine lv_iconst (v := (-1)) hx hb dX4_vote_17 (by decide) ?_
        cases hf
        exact zk_iret hx hb hr hlocks rfl hQ hw [7, 0, 1, 2, 3, 4, 5, 6, 8, 9, 10, 11] rfl (by decide) dX4_vote_18
set_option maxHeartbeats 4000000 in
set_option maxRecDepth 100000 in
theorem kX4_isLaw (l : Launch) (D : va_G) (cI cJ cO : ClassId) (N : Nat) (p0 : Int32) (u : Int32) (hf : fX4_isLaw N p0 = some u) : CtI l yX4_isLaw wsX4_isLaw (zk_rm 0 0) D cI cJ cO [.int p0] ([]) ([]) (u) := by
  refine zk_enter (cc := cX4_isLaw) (maxL := 1) (ret := some .boolean) (own := RX4) (Qf := fun A => QwI D ([]) (u) A) (by decide) rfl rfl (Nat.le_of_ble_eq_true rfl) ?_
  intro p e s m args below meth c A Q H locs ls hC hQ hw hl
  obtain ⟨hx, hb, hml, hr, hts, hown, hlocks, hN, hK, hA⟩ := hC
  have hl : lv_has ls 1 [(0, .int p0)] := hl
  unfold fX4_isLaw at hf
  refine lv_iload_n hx hb dX4_isLaw_0 rfl (lv_at hl 0 rfl) ?_
  refine lv_if_lt (tgt := 13) hx hb dX4_isLaw_1 (by decide) (fun c1 => ?_) (fun c1 => ?_)
  · replace hf := zk_t c1 hf
    refine lv_iconst (v := 0) hx hb dX4_isLaw_13 (by decide) ?_
    cases hf
    exact zk_iret hx hb hr hlocks rfl hQ hw [] rfl (by decide) dX4_isLaw_14
  · replace hf := zk_f c1 hf
    refine lv_iload_n hx hb dX4_isLaw_4 rfl (lv_at hl 0 rfl) ?_
    refine lv_iconst (v := 4) hx hb dX4_isLaw_5 (by decide) ?_
    refine lv_icmp_ge (tgt := 13) hx hb dX4_isLaw_6 (by decide) (fun c2 => ?_) (fun c2 => ?_)
    · replace hf := zk_t c2 hf
      refine lv_iconst (v := 0) hx hb dX4_isLaw_13 (by decide) ?_
      cases hf
      exact zk_iret hx hb hr hlocks rfl hQ hw [] rfl (by decide) dX4_isLaw_14
    · replace hf := zk_f c2 hf
      refine lv_iconst (v := 1) hx hb dX4_isLaw_9 (by decide) ?_
      refine lv_goto (tgt := 14) hx hb dX4_isLaw_10 (by decide) ?_
      cases hf
      exact zk_iret hx hb hr hlocks rfl hQ hw [] rfl (by decide) dX4_isLaw_14
set_option maxHeartbeats 4000000 in
set_option maxRecDepth 100000 in
theorem kX4_member (l : Launch) (D : va_G) (cI cJ cO : ClassId) (N : Nat) (aL aE aN : Nat → Nat) (aT aR aP : Nat → Nat) (p0 : Int32) (p1 : Int32) (Eorder : Nat → Int32) (Eabove : Nat → Int64) (Ebelow : Nat → Int64) (Eelected : Int32) (Eset : Int32) (Esupport : Nat → Int32) (Eworth : Nat → Int64) (Eloads : Nat → Int64) (Eunit : Int64) (Ncandidates : Int32) (Nballots : Int32) (Nseats : Int32) (Nwithdrawn : Int32) (Nvoters : Nat → Int32) (Nsets : Nat → Int32) (Nrank : Nat → Int32) (u : Int32 × (Nat → Int32) × (Nat → Int64) × (Nat → Int64) × (Int32) × (Int32) × (Nat → Int32) × (Nat → Int64) × (Nat → Int64) × (Int64)) (hf : fX4_member N p0 p1 Eorder Eabove Ebelow Eelected Eset Esupport Eworth Eloads Eunit Ncandidates Nballots Nseats Nwithdrawn Nvoters Nsets Nrank = some u) : CtI l yX4_member wsX4_member (zk_rm 5 117) D cI cJ cO [.ref (aL 0), .int p0, .int p1] (zwL aL (aT 0) (aN 0) (aR 0) (aP 0) (aE 0) ++ (zwE cI cJ aE Eorder Eabove Ebelow Eelected Eset Esupport Eworth Eloads Eunit ++ (zwC cI aN Ncandidates Nballots Nseats Nwithdrawn Nvoters Nsets Nrank))) (zwL aL (aT 0) (aN 0) (aR 0) (aP 0) (aE 0) ++ (zwE cI cJ aE u.2.1 u.2.2.1 u.2.2.2.1 u.2.2.2.2.1 u.2.2.2.2.2.1 u.2.2.2.2.2.2.1 u.2.2.2.2.2.2.2.1 u.2.2.2.2.2.2.2.2.1 u.2.2.2.2.2.2.2.2.2 ++ (zwC cI aN Ncandidates Nballots Nseats Nwithdrawn Nvoters Nsets Nrank))) (u.1) := by
  refine zk_enter (cc := cX4_member) (maxL := 3) (ret := some .int) (own := RX4) (Qf := fun A => QwI D (zwL aL (aT 0) (aN 0) (aR 0) (aP 0) (aE 0) ++ (zwE cI cJ aE u.2.1 u.2.2.1 u.2.2.2.1 u.2.2.2.2.1 u.2.2.2.2.2.1 u.2.2.2.2.2.2.1 u.2.2.2.2.2.2.2.1 u.2.2.2.2.2.2.2.2.1 u.2.2.2.2.2.2.2.2.2 ++ (zwC cI aN Ncandidates Nballots Nseats Nwithdrawn Nvoters Nsets Nrank))) (u.1) A) (by decide) rfl rfl (Nat.le_of_ble_eq_true rfl) ?_
  intro p e s m args below meth c A Q H locs ls hC hQ hw hl
  obtain ⟨hx, hb, hml, hr, hts, hown, hlocks, hN, hK, hA⟩ := hC
  have hl : lv_has ls 3 [(0, .ref (aL 0)), (1, .int p0), (2, .int p1)] := hl
  have hiX4 : ∀ w ∈ u_ws RX4 TX4 5, w ∈ wsX4_member := by decide +kernel
  have hiX1 : ∀ w ∈ u_ws RX1 TX1 9, w ∈ wsX4_member := by decide +kernel
  have hq0 := hts (.fieldLink RX4 36 "LoadCouncil" "election" "LLoadCouncil$Election;") (by decide +kernel)
  have hq1 := hts (.fieldLink RX4 19 "LoadCouncil" "now" "LLoadCouncil$Council;") (by decide +kernel)
  have hq2 := hts (.initialized RX1) (by decide +kernel)
  have hq3 := hts (.instanceMethod yX1_hold) (by decide +kernel)
  have hq4 := hts (.selects RX1 yX1_hold yX1_hold) (by decide +kernel)
  unfold fX4_member at hf
  refine lv_iload_n hx hb dX4_member_0 rfl (lv_at hl 1 rfl) ?_
  obtain ⟨u1, e2, hf⟩ := zk_bd hf
  refine zk_calli (wc := []) (wr := zwL aL (aT 0) (aN 0) (aR 0) (aP 0) (aE 0) ++ (zwE cI cJ aE Eorder Eabove Ebelow Eelected Eset Esupport Eworth Eloads Eunit ++ (zwC cI aN Ncandidates Nballots Nseats Nwithdrawn Nvoters Nsets Nrank))) hw hA [] [0, 1, 2, 3, 4, 5, 6, 7, 8, 9, 10, 11] rfl rfl (by decide) (by decide) (va_runS (As := [.int p0]) (rest := []) ⟨hx, hb, hml, hown, hts⟩ (kX4_isLaw l D cI cJ cO N p0 u1 e2 H.size) (va_cwS 1 hts gX4_member_X4_isLaw rfl rfl rfl (by decide +kernel) ⟨Nat.le_of_ble_eq_true rfl, Nat.le_of_ble_eq_true rfl⟩) (zk_preS (wc := []) hN hK hw [] rfl (by decide)) rfl rfl hl.1 rfl (lv_room (Nat.le_of_ble_eq_true rfl)) dX4_member_1 ⟨Nat.zero_le _, Nat.zero_le _⟩) (fun H locs hw => ?_)
  have hw : Wd D A s.heap (zwL aL (aT 0) (aN 0) (aR 0) (aP 0) (aE 0) ++ (zwE cI cJ aE Eorder Eabove Ebelow Eelected Eset Esupport Eworth Eloads Eunit ++ (zwC cI aN Ncandidates Nballots Nseats Nwithdrawn Nvoters Nsets Nrank))) H locs := hw
  refine lv_if_eq (tgt := 12) hx hb dX4_member_4 (by decide) (fun c3 => ?_) (fun c3 => ?_)
  · replace hf := zk_t c3 hf
    refine lv_iconst (v := (-1)) hx hb dX4_member_12 (by decide) ?_
    cases hf
    exact zk_iret hx hb hr hlocks rfl hQ hw [0, 1, 2, 3, 4, 5, 6, 7, 8, 9, 10, 11] rfl (by decide) dX4_member_13
  · replace hf := zk_f c3 hf
    refine lv_iload_n hx hb dX4_member_7 rfl (lv_at hl 2 rfl) ?_
    refine lv_iconst (v := (-1)) hx hb dX4_member_8 (by decide) ?_
    refine lv_icmp_ge (tgt := 14) hx hb dX4_member_9 (by decide) (fun c4 => ?_) (fun c4 => ?_)
    · replace hf := zk_t c4 hf
      refine lv_aload_n hx hb dX4_member_14 rfl (lv_at hl 0 rfl) ?_
      refine va_get (D := D) (ci := 4) (v := .ref (aE 0)) (C := RX4) (T := TX4) (N := 5) hx hb hts hiX4 hown hK hw.1 0 rfl rfl 4 (by decide) hq0 (fun _ h9 => h9) rfl dX4_member_15 ?_
      refine lv_aload_n hx hb dX4_member_18 rfl (lv_at hl 0 rfl) ?_
      refine va_get (D := D) (ci := 4) (v := .ref (aN 0)) (C := RX4) (T := TX4) (N := 5) hx hb hts hiX4 hown hK hw.1 0 rfl rfl 1 (by decide) hq1 (fun _ h9 => h9) rfl dX4_member_19 ?_
      refine lv_iload_n hx hb dX4_member_22 rfl (lv_at hl 1 rfl) ?_
      obtain ⟨u5, e6, hf⟩ := zk_bd hf
      refine zk_calli (wc := zwE cI cJ aE Eorder Eabove Ebelow Eelected Eset Esupport Eworth Eloads Eunit ++ (zwC cI aN Ncandidates Nballots Nseats Nwithdrawn Nvoters Nsets Nrank)) (wr := zwL aL (aT 0) (aN 0) (aR 0) (aP 0) (aE 0)) hw hA [1, 2, 3, 4, 5, 6, 7, 8, 9, 10, 11] [0] rfl rfl (by decide) (by decide) (va_runVN (C := RX1) (As := [.ref (aN 0), .int p0]) (rest := []) ⟨hx, hb, hml, hown, hts⟩ (kX1_hold l D cI cJ cO N aE aN p0 Eorder Eabove Ebelow Eelected Eset Esupport Eworth Eloads Eunit Ncandidates Nballots Nseats Nwithdrawn Nvoters Nsets Nrank u5 e6 H.size) ⟨va_cnB 2 hts ggX4_member_X1_hold rfl rfl rfl (nwM_X4_142 hN) hq2 (by decide +kernel) ⟨Nat.le_of_ble_eq_true rfl, Nat.le_of_ble_eq_true rfl⟩, hq3, hq4⟩ (zk_preV (wc := zwE cI cJ aE Eorder Eabove Ebelow Eelected Eset Esupport Eworth Eloads Eunit ++ (zwC cI aN Ncandidates Nballots Nseats Nwithdrawn Nvoters Nsets Nrank)) hN hK hw [1, 2, 3, 4, 5, 6, 7, 8, 9, 10, 11] rfl (by decide) 1 1 rfl rfl) rfl rfl hl.1 rfl (lv_room (Nat.le_of_ble_eq_true rfl)) dX4_member_23 ⟨Nat.zero_le _, Nat.zero_le _⟩) (fun H locs hw => ?_)
      have hw : Wd D A s.heap (zwL aL (aT 0) (aN 0) (aR 0) (aP 0) (aE 0) ++ (zwE cI cJ aE u5.2.1 u5.2.2.1 u5.2.2.2.1 u5.2.2.2.2.1 u5.2.2.2.2.2.1 u5.2.2.2.2.2.2.1 u5.2.2.2.2.2.2.2.1 u5.2.2.2.2.2.2.2.2.1 u5.2.2.2.2.2.2.2.2.2 ++ (zwC cI aN Ncandidates Nballots Nseats Nwithdrawn Nvoters Nsets Nrank))) H locs := hw
      refine lv_pop hx hb dX4_member_26 rfl ?_
      refine lv_iload_n hx hb dX4_member_27 rfl (lv_at hl 2 rfl) ?_
      refine lv_iconst (v := (-1)) hx hb dX4_member_28 (by decide) ?_
      refine lv_icmp_ne (tgt := 40) hx hb dX4_member_29 (by decide) (fun c7 => ?_) (fun c7 => ?_)
      · replace hf := zk_f c7 hf
        refine lv_iload_n hx hb dX4_member_40 rfl (lv_at hl 2 rfl) ?_
        refine lv_aload_n hx hb dX4_member_41 rfl (lv_at hl 0 rfl) ?_
        refine va_get (D := D) (ci := 4) (v := .ref (aE 0)) (C := RX4) (T := TX4) (N := 5) hx hb hts hiX4 hown hK hw.1 0 rfl rfl 4 (by decide) hq0 (fun _ h9 => h9) rfl dX4_member_42 ?_
        refine va_getN (D := D) (ci := 1) (v := .int u5.2.2.2.2.1) (C := RX1) (T := TX1) (N := 9) hx hb hts hiX1 hown hK hw.1 1 rfl rfl 3 (by decide) (va_Nw.use rfl (nwF_X4_149 hN)) (fun _ h9 => h9) rfl dX4_member_45 ?_
        refine lv_icmp_ge (tgt := 63) hx hb dX4_member_48 (by decide) (fun c8 => ?_) (fun c8 => ?_)
        · replace hf := zk_t c8 hf
          refine lv_bipush (v := (-4)) hx hb dX4_member_63 (by decide) ?_
          cases hf
          exact zk_iret hx hb hr hlocks rfl hQ hw [0, 1, 2, 3, 4, 5, 6, 7, 8, 9, 10, 11] rfl (by decide) dX4_member_65
        · replace hf := zk_f c8 hf
          refine lv_aload_n hx hb dX4_member_51 rfl (lv_at hl 0 rfl) ?_
          refine va_get (D := D) (ci := 4) (v := .ref (aE 0)) (C := RX4) (T := TX4) (N := 5) hx hb hts hiX4 hown hK hw.1 0 rfl rfl 4 (by decide) hq0 (fun _ h9 => h9) rfl dX4_member_52 ?_
          refine va_getN (D := D) (ci := 1) (v := .ref (aE 1)) (C := RX1) (T := TX1) (N := 9) hx hb hts hiX1 hown hK hw.1 1 rfl rfl 0 (by decide) (va_Nw.use rfl (nwF_X4_152 hN)) (fun _ h9 => h9) rfl dX4_member_55 ?_
          refine lv_iload_n hx hb dX4_member_58 rfl (lv_at hl 2 rfl) ?_
          obtain ⟨h9, hf⟩ := zk_ck hf
          refine zk_iald hx hb hK hw 2 rfl h9 (j := p1.toNatClampNeg) rfl dX4_member_59 ?_
          refine lv_goto (tgt := 65) hx hb dX4_member_60 (by decide) ?_
          cases hf
          exact zk_iret hx hb hr hlocks rfl hQ hw [0, 1, 2, 3, 4, 5, 6, 7, 8, 9, 10, 11] rfl (by decide) dX4_member_65
      · replace hf := zk_t c7 hf
        refine lv_aload_n hx hb dX4_member_32 rfl (lv_at hl 0 rfl) ?_
        refine va_get (D := D) (ci := 4) (v := .ref (aE 0)) (C := RX4) (T := TX4) (N := 5) hx hb hts hiX4 hown hK hw.1 0 rfl rfl 4 (by decide) hq0 (fun _ h9 => h9) rfl dX4_member_33 ?_
        refine va_getN (D := D) (ci := 1) (v := .int u5.2.2.2.2.1) (C := RX1) (T := TX1) (N := 9) hx hb hts hiX1 hown hK hw.1 1 rfl rfl 3 (by decide) (va_Nw.use rfl (nwF_X4_149 hN)) (fun _ h9 => h9) rfl dX4_member_36 ?_
        cases hf
        exact zk_iret hx hb hr hlocks rfl hQ hw [0, 1, 2, 3, 4, 5, 6, 7, 8, 9, 10, 11] rfl (by decide) dX4_member_39
    · replace hf := zk_f c4 hf
      refine lv_iconst (v := (-1)) hx hb dX4_member_12 (by decide) ?_
      cases hf
      exact zk_iret hx hb hr hlocks rfl hQ hw [0, 1, 2, 3, 4, 5, 6, 7, 8, 9, 10, 11] rfl (by decide) dX4_member_13
set_option maxHeartbeats 4000000 in
set_option maxRecDepth 100000 in
theorem kX4_members (l : Launch) (D : va_G) (cI cJ cO : ClassId) (N : Nat) (aL aE aN : Nat → Nat) (aT aR aP : Nat → Nat) (p0 : Int32) (Eorder : Nat → Int32) (Eabove : Nat → Int64) (Ebelow : Nat → Int64) (Eelected : Int32) (Eset : Int32) (Esupport : Nat → Int32) (Eworth : Nat → Int64) (Eloads : Nat → Int64) (Eunit : Int64) (Ncandidates : Int32) (Nballots : Int32) (Nseats : Int32) (Nwithdrawn : Int32) (Nvoters : Nat → Int32) (Nsets : Nat → Int32) (Nrank : Nat → Int32) (u : Int32 × (Nat → Int32) × (Nat → Int64) × (Nat → Int64) × (Int32) × (Int32) × (Nat → Int32) × (Nat → Int64) × (Nat → Int64) × (Int64)) (hf : fX4_members N p0 Eorder Eabove Ebelow Eelected Eset Esupport Eworth Eloads Eunit Ncandidates Nballots Nseats Nwithdrawn Nvoters Nsets Nrank = some u) : CtI l yX4_members wsX4_members (zk_rm 5 117) D cI cJ cO [.ref (aL 0), .int p0] (zwL aL (aT 0) (aN 0) (aR 0) (aP 0) (aE 0) ++ (zwE cI cJ aE Eorder Eabove Ebelow Eelected Eset Esupport Eworth Eloads Eunit ++ (zwC cI aN Ncandidates Nballots Nseats Nwithdrawn Nvoters Nsets Nrank))) (zwL aL (aT 0) (aN 0) (aR 0) (aP 0) (aE 0) ++ (zwE cI cJ aE u.2.1 u.2.2.1 u.2.2.2.1 u.2.2.2.2.1 u.2.2.2.2.2.1 u.2.2.2.2.2.2.1 u.2.2.2.2.2.2.2.1 u.2.2.2.2.2.2.2.2.1 u.2.2.2.2.2.2.2.2.2 ++ (zwC cI aN Ncandidates Nballots Nseats Nwithdrawn Nvoters Nsets Nrank))) (u.1) := by
  refine zk_enter (cc := cX4_members) (maxL := 2) (ret := some .int) (own := RX4) (Qf := fun A => QwI D (zwL aL (aT 0) (aN 0) (aR 0) (aP 0) (aE 0) ++ (zwE cI cJ aE u.2.1 u.2.2.1 u.2.2.2.1 u.2.2.2.2.1 u.2.2.2.2.2.1 u.2.2.2.2.2.2.1 u.2.2.2.2.2.2.2.1 u.2.2.2.2.2.2.2.2.1 u.2.2.2.2.2.2.2.2.2 ++ (zwC cI aN Ncandidates Nballots Nseats Nwithdrawn Nvoters Nsets Nrank))) (u.1) A) (by decide) rfl rfl (Nat.le_of_ble_eq_true rfl) ?_
  intro p e s m args below meth c A Q H locs ls hC hQ hw hl
  obtain ⟨hx, hb, hml, hr, hts, hown, hlocks, hN, hK, hA⟩ := hC
  have hl : lv_has ls 2 [(0, .ref (aL 0)), (1, .int p0)] := hl
  have hiX4 : ∀ w ∈ u_ws RX4 TX4 5, w ∈ wsX4_members := by decide +kernel
  have hq0 := hts (.fieldLink RX4 36 "LoadCouncil" "election" "LLoadCouncil$Election;") (by decide +kernel)
  have hq1 := hts (.fieldLink RX4 19 "LoadCouncil" "now" "LLoadCouncil$Council;") (by decide +kernel)
  have hq2 := hts (.initialized RX1) (by decide +kernel)
  have hq3 := hts (.instanceMethod yX1_hold) (by decide +kernel)
  have hq4 := hts (.selects RX1 yX1_hold yX1_hold) (by decide +kernel)
  unfold fX4_members at hf
  refine lv_iload_n hx hb dX4_members_0 rfl (lv_at hl 1 rfl) ?_
  obtain ⟨u1, e2, hf⟩ := zk_bd hf
  refine zk_calli (wc := []) (wr := zwL aL (aT 0) (aN 0) (aR 0) (aP 0) (aE 0) ++ (zwE cI cJ aE Eorder Eabove Ebelow Eelected Eset Esupport Eworth Eloads Eunit ++ (zwC cI aN Ncandidates Nballots Nseats Nwithdrawn Nvoters Nsets Nrank))) hw hA [] [0, 1, 2, 3, 4, 5, 6, 7, 8, 9, 10, 11] rfl rfl (by decide) (by decide) (va_runS (As := [.int p0]) (rest := []) ⟨hx, hb, hml, hown, hts⟩ (kX4_isLaw l D cI cJ cO N p0 u1 e2 H.size) (va_cwS 1 hts gX4_members_X4_isLaw rfl rfl rfl (by decide +kernel) ⟨Nat.le_of_ble_eq_true rfl, Nat.le_of_ble_eq_true rfl⟩) (zk_preS (wc := []) hN hK hw [] rfl (by decide)) rfl rfl hl.1 rfl (lv_room (Nat.le_of_ble_eq_true rfl)) dX4_members_1 ⟨Nat.zero_le _, Nat.zero_le _⟩) (fun H locs hw => ?_)
  have hw : Wd D A s.heap (zwL aL (aT 0) (aN 0) (aR 0) (aP 0) (aE 0) ++ (zwE cI cJ aE Eorder Eabove Ebelow Eelected Eset Esupport Eworth Eloads Eunit ++ (zwC cI aN Ncandidates Nballots Nseats Nwithdrawn Nvoters Nsets Nrank))) H locs := hw
  refine lv_if_eq (tgt := 22) hx hb dX4_members_4 (by decide) (fun c3 => ?_) (fun c3 => ?_)
  · replace hf := zk_t c3 hf
    refine lv_iconst (v := (-1)) hx hb dX4_members_22 (by decide) ?_
    cases hf
    exact zk_iret hx hb hr hlocks rfl hQ hw [0, 1, 2, 3, 4, 5, 6, 7, 8, 9, 10, 11] rfl (by decide) dX4_members_23
  · replace hf := zk_f c3 hf
    refine lv_aload_n hx hb dX4_members_7 rfl (lv_at hl 0 rfl) ?_
    refine va_get (D := D) (ci := 4) (v := .ref (aE 0)) (C := RX4) (T := TX4) (N := 5) hx hb hts hiX4 hown hK hw.1 0 rfl rfl 4 (by decide) hq0 (fun _ h9 => h9) rfl dX4_members_8 ?_
    refine lv_aload_n hx hb dX4_members_11 rfl (lv_at hl 0 rfl) ?_
    refine va_get (D := D) (ci := 4) (v := .ref (aN 0)) (C := RX4) (T := TX4) (N := 5) hx hb hts hiX4 hown hK hw.1 0 rfl rfl 1 (by decide) hq1 (fun _ h9 => h9) rfl dX4_members_12 ?_
    refine lv_iload_n hx hb dX4_members_15 rfl (lv_at hl 1 rfl) ?_
    obtain ⟨u4, e5, hf⟩ := zk_bd hf
    refine zk_calli (wc := zwE cI cJ aE Eorder Eabove Ebelow Eelected Eset Esupport Eworth Eloads Eunit ++ (zwC cI aN Ncandidates Nballots Nseats Nwithdrawn Nvoters Nsets Nrank)) (wr := zwL aL (aT 0) (aN 0) (aR 0) (aP 0) (aE 0)) hw hA [1, 2, 3, 4, 5, 6, 7, 8, 9, 10, 11] [0] rfl rfl (by decide) (by decide) (va_runVN (C := RX1) (As := [.ref (aN 0), .int p0]) (rest := []) ⟨hx, hb, hml, hown, hts⟩ (kX1_hold l D cI cJ cO N aE aN p0 Eorder Eabove Ebelow Eelected Eset Esupport Eworth Eloads Eunit Ncandidates Nballots Nseats Nwithdrawn Nvoters Nsets Nrank u4 e5 H.size) ⟨va_cnB 2 hts ggX4_members_X1_hold rfl rfl rfl (nwM_X4_142 hN) hq2 (by decide +kernel) ⟨Nat.le_of_ble_eq_true rfl, Nat.le_of_ble_eq_true rfl⟩, hq3, hq4⟩ (zk_preV (wc := zwE cI cJ aE Eorder Eabove Ebelow Eelected Eset Esupport Eworth Eloads Eunit ++ (zwC cI aN Ncandidates Nballots Nseats Nwithdrawn Nvoters Nsets Nrank)) hN hK hw [1, 2, 3, 4, 5, 6, 7, 8, 9, 10, 11] rfl (by decide) 1 1 rfl rfl) rfl rfl hl.1 rfl (lv_room (Nat.le_of_ble_eq_true rfl)) dX4_members_16 ⟨Nat.zero_le _, Nat.zero_le _⟩) (fun H locs hw => ?_)
    have hw : Wd D A s.heap (zwL aL (aT 0) (aN 0) (aR 0) (aP 0) (aE 0) ++ (zwE cI cJ aE u4.2.1 u4.2.2.1 u4.2.2.2.1 u4.2.2.2.2.1 u4.2.2.2.2.2.1 u4.2.2.2.2.2.2.1 u4.2.2.2.2.2.2.2.1 u4.2.2.2.2.2.2.2.2.1 u4.2.2.2.2.2.2.2.2.2 ++ (zwC cI aN Ncandidates Nballots Nseats Nwithdrawn Nvoters Nsets Nrank))) H locs := hw
    refine lv_goto (tgt := 23) hx hb dX4_members_19 (by decide) ?_
    cases hf
    exact zk_iret hx hb hr hlocks rfl hQ hw [0, 1, 2, 3, 4, 5, 6, 7, 8, 9, 10, 11] rfl (by decide) dX4_members_23
set_option maxHeartbeats 4000000 in
set_option maxRecDepth 100000 in
theorem kX4_isPart (l : Launch) (D : va_G) (cI cJ cO : ClassId) (N : Nat) (p0 : Int32) (u : Int32) (hf : fX4_isPart N p0 = some u) : CtI l yX4_isPart wsX4_isPart (zk_rm 0 0) D cI cJ cO [.int p0] ([]) ([]) (u) := by
  refine zk_enter (cc := cX4_isPart) (maxL := 1) (ret := some .boolean) (own := RX4) (Qf := fun A => QwI D ([]) (u) A) (by decide) rfl rfl (Nat.le_of_ble_eq_true rfl) ?_
  intro p e s m args below meth c A Q H locs ls hC hQ hw hl
  obtain ⟨hx, hb, hml, hr, hts, hown, hlocks, hN, hK, hA⟩ := hC
  have hl : lv_has ls 1 [(0, .int p0)] := hl
  have b9 : fX4_isPart_b9 N  = some u → ∀ (H : Heap) (locs : List Loc) (ls : Array Slot), Wd D A s.heap ([]) H locs → lv_has ls 1 [] → W p l e (zk_rm 0 0) s m args below meth c H locs 0 0 Q (F0 m 9 ls []) := by
    intro  hf H locs ls hw hl
    unfold fX4_isPart_b9 at hf
    refine lv_iconst (v := 1) hx hb dX4_isPart_9 (by decide) ?_
    refine lv_goto (tgt := 14) hx hb dX4_isPart_10 (by decide) ?_
    cases hf
    exact zk_iret hx hb hr hlocks rfl hQ hw [] rfl (by decide) dX4_isPart_14
  unfold fX4_isPart at hf
  refine lv_iload_n hx hb dX4_isPart_0 rfl (lv_at hl 0 rfl) ?_
  refine lv_if_eq (tgt := 9) hx hb dX4_isPart_1 (by decide) (fun c1 => ?_) (fun c1 => ?_)
  · replace hf := zk_t c1 hf
    exact b9  hf H locs ls hw (lv_sub hl [] rfl)
  · replace hf := zk_f c1 hf
    refine lv_iload_n hx hb dX4_isPart_4 rfl (lv_at hl 0 rfl) ?_
    refine lv_iconst (v := 1) hx hb dX4_isPart_5 (by decide) ?_
    refine lv_icmp_ne (tgt := 13) hx hb dX4_isPart_6 (by decide) (fun c2 => ?_) (fun c2 => ?_)
    · replace hf := zk_f c2 hf
      refine lv_iconst (v := 0) hx hb dX4_isPart_13 (by decide) ?_
      cases hf
      exact zk_iret hx hb hr hlocks rfl hQ hw [] rfl (by decide) dX4_isPart_14
    · replace hf := zk_t c2 hf
      exact b9  hf H locs ls hw (lv_sub hl [] rfl)
set_option maxHeartbeats 4000000 in
set_option maxRecDepth 100000 in
theorem kX4_greatestDivisor (l : Launch) (D : va_G) (cI cJ cO : ClassId) (N : Nat) (p0 : Int64) (p1 : Int64) (u : Int64) (hf : fX4_greatestDivisor N p0 p1 = some u) : CtL l yX4_greatestDivisor wsX4_greatestDivisor (zk_rm 0 0) D cI cJ cO [.long p0, .long p1] ([]) ([]) (u) := by
  refine zk_enter (cc := cX4_greatestDivisor) (maxL := 11) (ret := some .long) (own := RX4) (Qf := fun A => QwL D ([]) (u) A) (by decide) rfl rfl (Nat.le_of_ble_eq_true rfl) ?_
  intro p e s m args below meth c A Q H locs ls hC hQ hw hl
  obtain ⟨hx, hb, hml, hr, hts, hown, hlocks, hN, hK, hA⟩ := hC
  have hl : lv_has ls 11 [(0, .long p0), (2, .long p1)] := hl
  have b9 : ∀ (n9 : Nat), ∀ (x4 : Int64) (x6 : Int64) (x8 : Int32), fX4_greatestDivisor_b9 N n9 x4 x6 x8 = some u → ∀ (H : Heap) (locs : List Loc) (ls : Array Slot), Wd D A s.heap ([]) H locs → lv_has ls 11 [(4, .long x4), (6, .long x6), (8, .int x8)] → W p l e (zk_rm 0 0) s m args below meth c H locs 0 0 Q (F0 m 9 ls []) := by
    intro n9
    induction n9 with
    | zero =>
      intro x4 x6 x8 hf
      exact zk_none hf
    | succ n9 ih9 =>
      intro x4 x6 x8 hf H locs ls hw hl
      rw [fX4_greatestDivisor_b9] at hf
      refine lv_iload hx hb dX4_greatestDivisor_9 (lv_at hl 2 rfl) ?_
      refine lv_sipush (v := 128) hx hb dX4_greatestDivisor_11 (by decide) ?_
      refine lv_icmp_ge (tgt := 45) hx hb dX4_greatestDivisor_14 (by decide) (fun c1 => ?_) (fun c1 => ?_)
      · replace hf := zk_t c1 hf
        refine lv_lload hx hb dX4_greatestDivisor_45 (lv_at hl 0 rfl) ?_
        cases hf
        exact zk_lret hx hb hr hlocks hQ hw [] rfl (by decide) dX4_greatestDivisor_47
      · replace hf := zk_f c1 hf
        refine lv_lload hx hb dX4_greatestDivisor_17 (lv_at hl 1 rfl) ?_
        refine lv_lconst (v := 0) hx hb dX4_greatestDivisor_19 (by decide) ?_
        refine W.lcmp hx hb dX4_greatestDivisor_20 ?_
        refine lv_if_eq (tgt := 45) hx hb dX4_greatestDivisor_21 (by decide) (fun c2 => ?_) (fun c2 => ?_)
        · replace hf := zk_t c2 hf
          refine lv_lload hx hb dX4_greatestDivisor_45 (lv_at hl 0 rfl) ?_
          cases hf
          exact zk_lret hx hb hr hlocks hQ hw [] rfl (by decide) dX4_greatestDivisor_47
        · replace hf := zk_f c2 hf
          refine lv_lload hx hb dX4_greatestDivisor_24 (lv_at hl 0 rfl) ?_
          refine lv_lload hx hb dX4_greatestDivisor_26 (lv_at hl 1 rfl) ?_
          obtain ⟨h3, hf⟩ := zk_ck hf
          refine lv_lrem hx hb dX4_greatestDivisor_28 h3 ?_
          refine lv_lstore (lv' := [(9, .long (x4 - x4 / x6 * x6)), (4, .long x4), (6, .long x6), (8, .int x8)]) hx hb dX4_greatestDivisor_29 hl (by decide) rfl (fun ls hl => ?_)
          refine lv_lload hx hb dX4_greatestDivisor_31 (lv_at hl 2 rfl) ?_
          refine lv_lstore (lv' := [(4, .long x6), (9, .long (x4 - x4 / x6 * x6)), (6, .long x6), (8, .int x8)]) hx hb dX4_greatestDivisor_33 hl (by decide) rfl (fun ls hl => ?_)
          refine lv_lload hx hb dX4_greatestDivisor_35 (lv_at hl 1 rfl) ?_
          refine lv_lstore (lv' := [(6, .long (x4 - x4 / x6 * x6)), (4, .long x6), (9, .long (x4 - x4 / x6 * x6)), (8, .int x8)]) hx hb dX4_greatestDivisor_37 hl (by decide) rfl (fun ls hl => ?_)
          refine lv_iinc (v := (x8 + (1 : Int32))) (lv' := [(8, .int (x8 + (1 : Int32))), (6, .long (x4 - x4 / x6 * x6)), (4, .long x6), (9, .long (x4 - x4 / x6 * x6))]) hx hb dX4_greatestDivisor_39 hl (k := 3) rfl rfl (by decide) rfl (fun ls hl => ?_)
          refine lv_goto (tgt := 9) hx hb dX4_greatestDivisor_42 (by decide) ?_
          exact ih9 x6 (x4 - x4 / x6 * x6) (x8 + (1 : Int32)) hf H locs ls hw (lv_sub hl [2, 1, 0] rfl)
  unfold fX4_greatestDivisor at hf
  refine lv_lload_n hx hb dX4_greatestDivisor_0 rfl (lv_at hl 0 rfl) ?_
  refine lv_lstore (lv' := [(4, .long p0), (0, .long p0), (2, .long p1)]) hx hb dX4_greatestDivisor_1 hl (by decide) rfl (fun ls hl => ?_)
  refine lv_lload_n hx hb dX4_greatestDivisor_3 rfl (lv_at hl 2 rfl) ?_
  refine lv_lstore (lv' := [(6, .long p1), (4, .long p0), (0, .long p0), (2, .long p1)]) hx hb dX4_greatestDivisor_4 hl (by decide) rfl (fun ls hl => ?_)
  refine lv_iconst (v := 0) hx hb dX4_greatestDivisor_6 (by decide) ?_
  refine lv_istore (lv' := [(8, .int (0 : Int32)), (6, .long p1), (4, .long p0), (0, .long p0), (2, .long p1)]) hx hb dX4_greatestDivisor_7 hl (by decide) rfl (fun ls hl => ?_)
  exact b9 N p0 p1 (0 : Int32) hf H locs ls hw (lv_sub hl [2, 1, 0] rfl)
set_option maxHeartbeats 4000000 in
set_option maxRecDepth 100000 in
theorem kX4_partOf (l : Launch) (D : va_G) (cI cJ cO : ClassId) (N : Nat) (p0 : Int64) (p1 : Int64) (p2 : Int32) (u : Int64) (hf : fX4_partOf N p0 p1 p2 = some u) : CtL l yX4_partOf wsX4_partOf (zk_rm 1 60) D cI cJ cO [.long p0, .long p1, .int p2] ([]) ([]) (u) := by
  refine zk_enter (cc := cX4_partOf) (maxL := 7) (ret := some .long) (own := RX4) (Qf := fun A => QwL D ([]) (u) A) (by decide) rfl rfl (Nat.le_of_ble_eq_true rfl) ?_
  intro p e s m args below meth c A Q H locs ls hC hQ hw hl
  obtain ⟨hx, hb, hml, hr, hts, hown, hlocks, hN, hK, hA⟩ := hC
  have hl : lv_has ls 7 [(0, .long p0), (2, .long p1), (4, .int p2)] := hl
  have hq0 := hts (.methodLink RX4 180 Lib.MathLoose.max_long.x) (by decide +kernel)
  have hq1 := hts (.static Lib.MathLoose.max_long.x) (by decide +kernel)
  have hq2 := hts (.initialized "java/lang/Math") (by decide +kernel)
  have hq3 := hts (.code Lib.MathLoose.max_long.x Lib.MathLoose.max_long.code 4 (some .long)) (by decide +kernel)
  have b21 : ∀ (x5 : Int64) (t0 : Int64), fX4_partOf_b21 N x5 t0 = some u → ∀ (H : Heap) (locs : List Loc) (ls : Array Slot), Wd D A s.heap ([]) H locs → lv_has ls 7 [(5, .long x5)] → W p l e (zk_rm 1 60) s m args below meth c H locs 0 0 Q (F0 m 21 ls [.long t0]) := by
    intro x5 t0 hf H locs ls hw hl
    unfold fX4_partOf_b21 at hf
    refine lv_lload hx hb dX4_partOf_21 (lv_at hl 0 rfl) ?_
    obtain ⟨h1, hf⟩ := zk_ck hf
    refine lv_ldiv hx hb dX4_partOf_23 h1 ?_
    cases hf
    exact zk_lret hx hb hr hlocks hQ hw [] rfl (by decide) dX4_partOf_24
  unfold fX4_partOf at hf
  refine lv_lconst (v := 1) hx hb dX4_partOf_0 (by decide) ?_
  refine lv_lload_n hx hb dX4_partOf_1 rfl (lv_at hl 0 rfl) ?_
  refine lv_lload_n hx hb dX4_partOf_2 rfl (lv_at hl 1 rfl) ?_
  obtain ⟨u2, e3, hf⟩ := zk_bd hf
  refine zk_calll (wc := []) (wr := []) hw hA [] [] rfl rfl (by decide) (by decide) (va_runS (As := [.long p0, .long p1]) (rest := [.long (1 : Int64)]) ⟨hx, hb, hml, hown, hts⟩ (kX4_greatestDivisor l D cI cJ cO N p0 p1 u2 e3 H.size) (va_cwS 2 hts gX4_partOf_X4_greatestDivisor rfl rfl rfl (by decide +kernel) ⟨Nat.le_of_ble_eq_true rfl, Nat.le_of_ble_eq_true rfl⟩) (zk_preS (wc := []) hN hK hw [] rfl (by decide)) rfl rfl hl.1 rfl (lv_room (Nat.le_of_ble_eq_true rfl)) dX4_partOf_3 ⟨Nat.zero_le _, Nat.zero_le _⟩) (fun H locs hw => ?_)
  have hw : Wd D A s.heap ([]) H locs := hw
  refine va_mmax_long hx hb (hml.trans hl.1.symm) hown hq0 hq1 hq2 hq3 (Nat.le_of_ble_eq_true rfl) (Nat.le_of_ble_eq_true rfl) (Nat.zero_le _) (Nat.zero_le _) dX4_partOf_6 ?_
  refine lv_lstore (lv' := [(5, .long (if u2 < (1 : Int64) then (1 : Int64) else u2)), (0, .long p0), (2, .long p1), (4, .int p2)]) hx hb dX4_partOf_9 hl (by decide) rfl (fun ls hl => ?_)
  refine lv_iload hx hb dX4_partOf_11 (lv_at hl 3 rfl) ?_
  refine lv_if_ne (tgt := 20) hx hb dX4_partOf_13 (by decide) (fun c4 => ?_) (fun c4 => ?_)
  · replace hf := zk_f c4 hf
    refine lv_lload_n hx hb dX4_partOf_20 rfl (lv_at hl 2 rfl) ?_
    exact b21 (if u2 < (1 : Int64) then (1 : Int64) else u2) p1 hf H locs ls hw (lv_sub hl [0] rfl)
  · replace hf := zk_t c4 hf
    refine lv_lload_n hx hb dX4_partOf_16 rfl (lv_at hl 1 rfl) ?_
    refine lv_goto (tgt := 21) hx hb dX4_partOf_17 (by decide) ?_
    exact b21 (if u2 < (1 : Int64) then (1 : Int64) else u2) p0 hf H locs ls hw (lv_sub hl [0] rfl)
set_option maxHeartbeats 4000000 in
set_option maxRecDepth 100000 in
theorem kX4_came (l : Launch) (D : va_G) (cI cJ cO : ClassId) (N : Nat) (aL aE aN : Nat → Nat) (aT aR aP : Nat → Nat) (p0 : Int32) (p1 : Int32) (p2 : Int32) (Eorder : Nat → Int32) (Eabove : Nat → Int64) (Ebelow : Nat → Int64) (Eelected : Int32) (Eset : Int32) (Esupport : Nat → Int32) (Eworth : Nat → Int64) (Eloads : Nat → Int64) (Eunit : Int64) (Ncandidates : Int32) (Nballots : Int32) (Nseats : Int32) (Nwithdrawn : Int32) (Nvoters : Nat → Int32) (Nsets : Nat → Int32) (Nrank : Nat → Int32) (u : Int64 × (Nat → Int32) × (Nat → Int64) × (Nat → Int64) × (Int32) × (Int32) × (Nat → Int32) × (Nat → Int64) × (Nat → Int64) × (Int64)) (hf : fX4_came N p0 p1 p2 Eorder Eabove Ebelow Eelected Eset Esupport Eworth Eloads Eunit Ncandidates Nballots Nseats Nwithdrawn Nvoters Nsets Nrank = some u) : CtL l yX4_came wsX4_came (zk_rm 5 117) D cI cJ cO [.ref (aL 0), .int p0, .int p1, .int p2] (zwL aL (aT 0) (aN 0) (aR 0) (aP 0) (aE 0) ++ (zwE cI cJ aE Eorder Eabove Ebelow Eelected Eset Esupport Eworth Eloads Eunit ++ (zwC cI aN Ncandidates Nballots Nseats Nwithdrawn Nvoters Nsets Nrank))) (zwL aL (aT 0) (aN 0) (aR 0) (aP 0) (aE 0) ++ (zwE cI cJ aE u.2.1 u.2.2.1 u.2.2.2.1 u.2.2.2.2.1 u.2.2.2.2.2.1 u.2.2.2.2.2.2.1 u.2.2.2.2.2.2.2.1 u.2.2.2.2.2.2.2.2.1 u.2.2.2.2.2.2.2.2.2 ++ (zwC cI aN Ncandidates Nballots Nseats Nwithdrawn Nvoters Nsets Nrank))) (u.1) := by
  refine zk_enter (cc := cX4_came) (maxL := 4) (ret := some .long) (own := RX4) (Qf := fun A => QwL D (zwL aL (aT 0) (aN 0) (aR 0) (aP 0) (aE 0) ++ (zwE cI cJ aE u.2.1 u.2.2.1 u.2.2.2.1 u.2.2.2.2.1 u.2.2.2.2.2.1 u.2.2.2.2.2.2.1 u.2.2.2.2.2.2.2.1 u.2.2.2.2.2.2.2.2.1 u.2.2.2.2.2.2.2.2.2 ++ (zwC cI aN Ncandidates Nballots Nseats Nwithdrawn Nvoters Nsets Nrank))) (u.1) A) (by decide) rfl rfl (Nat.le_of_ble_eq_true rfl) ?_
  intro p e s m args below meth c A Q H locs ls hC hQ hw hl
  obtain ⟨hx, hb, hml, hr, hts, hown, hlocks, hN, hK, hA⟩ := hC
  have hl : lv_has ls 4 [(0, .ref (aL 0)), (1, .int p0), (2, .int p1), (3, .int p2)] := hl
  have hiX4 : ∀ w ∈ u_ws RX4 TX4 5, w ∈ wsX4_came := by decide +kernel
  have hiX1 : ∀ w ∈ u_ws RX1 TX1 9, w ∈ wsX4_came := by decide +kernel
  have hq0 := hts (.constantLong RX4 158 (-1)) (by decide +kernel)
  have hq1 := hts (.fieldLink RX4 36 "LoadCouncil" "election" "LLoadCouncil$Election;") (by decide +kernel)
  have hq2 := hts (.fieldLink RX4 19 "LoadCouncil" "now" "LLoadCouncil$Council;") (by decide +kernel)
  have hq3 := hts (.initialized RX1) (by decide +kernel)
  have hq4 := hts (.instanceMethod yX1_hold) (by decide +kernel)
  have hq5 := hts (.selects RX1 yX1_hold yX1_hold) (by decide +kernel)
  have hq6 := hts (.constantLong RX4 164 (-4)) (by decide +kernel)
  unfold fX4_came at hf
  refine lv_iload_n hx hb dX4_came_0 rfl (lv_at hl 1 rfl) ?_
  obtain ⟨u1, e2, hf⟩ := zk_bd hf
  refine zk_calli (wc := []) (wr := zwL aL (aT 0) (aN 0) (aR 0) (aP 0) (aE 0) ++ (zwE cI cJ aE Eorder Eabove Ebelow Eelected Eset Esupport Eworth Eloads Eunit ++ (zwC cI aN Ncandidates Nballots Nseats Nwithdrawn Nvoters Nsets Nrank))) hw hA [] [0, 1, 2, 3, 4, 5, 6, 7, 8, 9, 10, 11] rfl rfl (by decide) (by decide) (va_runS (As := [.int p0]) (rest := []) ⟨hx, hb, hml, hown, hts⟩ (kX4_isLaw l D cI cJ cO N p0 u1 e2 H.size) (va_cwS 1 hts gX4_came_X4_isLaw rfl rfl rfl (by decide +kernel) ⟨Nat.le_of_ble_eq_true rfl, Nat.le_of_ble_eq_true rfl⟩) (zk_preS (wc := []) hN hK hw [] rfl (by decide)) rfl rfl hl.1 rfl (lv_room (Nat.le_of_ble_eq_true rfl)) dX4_came_1 ⟨Nat.zero_le _, Nat.zero_le _⟩) (fun H locs hw => ?_)
  have hw : Wd D A s.heap (zwL aL (aT 0) (aN 0) (aR 0) (aP 0) (aE 0) ++ (zwE cI cJ aE Eorder Eabove Ebelow Eelected Eset Esupport Eworth Eloads Eunit ++ (zwC cI aN Ncandidates Nballots Nseats Nwithdrawn Nvoters Nsets Nrank))) H locs := hw
  refine lv_if_eq (tgt := 18) hx hb dX4_came_4 (by decide) (fun c3 => ?_) (fun c3 => ?_)
  · replace hf := zk_t c3 hf
    refine lv_ldc2 hx hb hown hq0 dX4_came_18 ?_
    cases hf
    exact zk_lret hx hb hr hlocks hQ hw [0, 1, 2, 3, 4, 5, 6, 7, 8, 9, 10, 11] rfl (by decide) dX4_came_21
  · replace hf := zk_f c3 hf
    refine lv_iload_n hx hb dX4_came_7 rfl (lv_at hl 2 rfl) ?_
    refine lv_if_lt (tgt := 18) hx hb dX4_came_8 (by decide) (fun c4 => ?_) (fun c4 => ?_)
    · replace hf := zk_t c4 hf
      refine lv_ldc2 hx hb hown hq0 dX4_came_18 ?_
      cases hf
      exact zk_lret hx hb hr hlocks hQ hw [0, 1, 2, 3, 4, 5, 6, 7, 8, 9, 10, 11] rfl (by decide) dX4_came_21
    · replace hf := zk_f c4 hf
      refine lv_iload_n hx hb dX4_came_11 rfl (lv_at hl 3 rfl) ?_
      obtain ⟨u5, e6, hf⟩ := zk_bd hf
      refine zk_calli (wc := []) (wr := zwL aL (aT 0) (aN 0) (aR 0) (aP 0) (aE 0) ++ (zwE cI cJ aE Eorder Eabove Ebelow Eelected Eset Esupport Eworth Eloads Eunit ++ (zwC cI aN Ncandidates Nballots Nseats Nwithdrawn Nvoters Nsets Nrank))) hw hA [] [0, 1, 2, 3, 4, 5, 6, 7, 8, 9, 10, 11] rfl rfl (by decide) (by decide) (va_runS (As := [.int p2]) (rest := []) ⟨hx, hb, hml, hown, hts⟩ (kX4_isPart l D cI cJ cO N p2 u5 e6 H.size) (va_cwS 1 hts gX4_came_X4_isPart rfl rfl rfl (by decide +kernel) ⟨Nat.le_of_ble_eq_true rfl, Nat.le_of_ble_eq_true rfl⟩) (zk_preS (wc := []) hN hK hw [] rfl (by decide)) rfl rfl hl.1 rfl (lv_room (Nat.le_of_ble_eq_true rfl)) dX4_came_12 ⟨Nat.zero_le _, Nat.zero_le _⟩) (fun H locs hw => ?_)
      have hw : Wd D A s.heap (zwL aL (aT 0) (aN 0) (aR 0) (aP 0) (aE 0) ++ (zwE cI cJ aE Eorder Eabove Ebelow Eelected Eset Esupport Eworth Eloads Eunit ++ (zwC cI aN Ncandidates Nballots Nseats Nwithdrawn Nvoters Nsets Nrank))) H locs := hw
      refine lv_if_ne (tgt := 22) hx hb dX4_came_15 (by decide) (fun c7 => ?_) (fun c7 => ?_)
      · replace hf := zk_f c7 hf
        refine lv_aload_n hx hb dX4_came_22 rfl (lv_at hl 0 rfl) ?_
        refine va_get (D := D) (ci := 4) (v := .ref (aE 0)) (C := RX4) (T := TX4) (N := 5) hx hb hts hiX4 hown hK hw.1 0 rfl rfl 4 (by decide) hq1 (fun _ h9 => h9) rfl dX4_came_23 ?_
        refine lv_aload_n hx hb dX4_came_26 rfl (lv_at hl 0 rfl) ?_
        refine va_get (D := D) (ci := 4) (v := .ref (aN 0)) (C := RX4) (T := TX4) (N := 5) hx hb hts hiX4 hown hK hw.1 0 rfl rfl 1 (by decide) hq2 (fun _ h9 => h9) rfl dX4_came_27 ?_
        refine lv_iload_n hx hb dX4_came_30 rfl (lv_at hl 1 rfl) ?_
        obtain ⟨u8, e9, hf⟩ := zk_bd hf
        refine zk_calli (wc := zwE cI cJ aE Eorder Eabove Ebelow Eelected Eset Esupport Eworth Eloads Eunit ++ (zwC cI aN Ncandidates Nballots Nseats Nwithdrawn Nvoters Nsets Nrank)) (wr := zwL aL (aT 0) (aN 0) (aR 0) (aP 0) (aE 0)) hw hA [1, 2, 3, 4, 5, 6, 7, 8, 9, 10, 11] [0] rfl rfl (by decide) (by decide) (va_runVN (C := RX1) (As := [.ref (aN 0), .int p0]) (rest := []) ⟨hx, hb, hml, hown, hts⟩ (kX1_hold l D cI cJ cO N aE aN p0 Eorder Eabove Ebelow Eelected Eset Esupport Eworth Eloads Eunit Ncandidates Nballots Nseats Nwithdrawn Nvoters Nsets Nrank u8 e9 H.size) ⟨va_cnB 2 hts ggX4_came_X1_hold rfl rfl rfl (nwM_X4_142 hN) hq3 (by decide +kernel) ⟨Nat.le_of_ble_eq_true rfl, Nat.le_of_ble_eq_true rfl⟩, hq4, hq5⟩ (zk_preV (wc := zwE cI cJ aE Eorder Eabove Ebelow Eelected Eset Esupport Eworth Eloads Eunit ++ (zwC cI aN Ncandidates Nballots Nseats Nwithdrawn Nvoters Nsets Nrank)) hN hK hw [1, 2, 3, 4, 5, 6, 7, 8, 9, 10, 11] rfl (by decide) 1 1 rfl rfl) rfl rfl hl.1 rfl (lv_room (Nat.le_of_ble_eq_true rfl)) dX4_came_31 ⟨Nat.zero_le _, Nat.zero_le _⟩) (fun H locs hw => ?_)
        have hw : Wd D A s.heap (zwL aL (aT 0) (aN 0) (aR 0) (aP 0) (aE 0) ++ (zwE cI cJ aE u8.2.1 u8.2.2.1 u8.2.2.2.1 u8.2.2.2.2.1 u8.2.2.2.2.2.1 u8.2.2.2.2.2.2.1 u8.2.2.2.2.2.2.2.1 u8.2.2.2.2.2.2.2.2.1 u8.2.2.2.2.2.2.2.2.2 ++ (zwC cI aN Ncandidates Nballots Nseats Nwithdrawn Nvoters Nsets Nrank))) H locs := hw
        refine lv_pop hx hb dX4_came_34 rfl ?_
        refine lv_iload_n hx hb dX4_came_35 rfl (lv_at hl 2 rfl) ?_
        refine lv_aload_n hx hb dX4_came_36 rfl (lv_at hl 0 rfl) ?_
        refine va_get (D := D) (ci := 4) (v := .ref (aE 0)) (C := RX4) (T := TX4) (N := 5) hx hb hts hiX4 hown hK hw.1 0 rfl rfl 4 (by decide) hq1 (fun _ h9 => h9) rfl dX4_came_37 ?_
        refine va_getN (D := D) (ci := 1) (v := .int u8.2.2.2.2.1) (C := RX1) (T := TX1) (N := 9) hx hb hts hiX1 hown hK hw.1 1 rfl rfl 3 (by decide) (va_Nw.use rfl (nwF_X4_149 hN)) (fun _ h9 => h9) rfl dX4_came_40 ?_
        refine lv_icmp_ge (tgt := 60) hx hb dX4_came_43 (by decide) (fun c10 => ?_) (fun c10 => ?_)
        · replace hf := zk_t c10 hf
          refine lv_ldc2 hx hb hown hq6 dX4_came_60 ?_
          cases hf
          exact zk_lret hx hb hr hlocks hQ hw [0, 1, 2, 3, 4, 5, 6, 7, 8, 9, 10, 11] rfl (by decide) dX4_came_63
        · replace hf := zk_f c10 hf
          refine lv_aload_n hx hb dX4_came_46 rfl (lv_at hl 0 rfl) ?_
          refine va_get (D := D) (ci := 4) (v := .ref (aE 0)) (C := RX4) (T := TX4) (N := 5) hx hb hts hiX4 hown hK hw.1 0 rfl rfl 4 (by decide) hq1 (fun _ h9 => h9) rfl dX4_came_47 ?_
          refine va_getN (D := D) (ci := 1) (v := .ref (aE 3)) (C := RX1) (T := TX1) (N := 9) hx hb hts hiX1 hown hK hw.1 1 rfl rfl 2 (by decide) (va_Nw.use rfl (nwF_X4_160 hN)) (fun _ h9 => h9) rfl dX4_came_50 ?_
          refine lv_iload_n hx hb dX4_came_53 rfl (lv_at hl 2 rfl) ?_
          obtain ⟨h11, hf⟩ := zk_ck hf
          refine zk_lald hx hb hK hw 4 rfl h11 (j := p1.toNatClampNeg) rfl dX4_came_54 ?_
          refine lv_lconst (v := 0) hx hb dX4_came_55 (by decide) ?_
          refine W.lcmp hx hb dX4_came_56 ?_
          refine lv_if_ne (tgt := 64) hx hb dX4_came_57 (by decide) (fun c12 => ?_) (fun c12 => ?_)
          · replace hf := zk_f c12 hf
            refine lv_aload_n hx hb dX4_came_64 rfl (lv_at hl 0 rfl) ?_
            refine va_get (D := D) (ci := 4) (v := .ref (aE 0)) (C := RX4) (T := TX4) (N := 5) hx hb hts hiX4 hown hK hw.1 0 rfl rfl 4 (by decide) hq1 (fun _ h9 => h9) rfl dX4_came_65 ?_
            refine va_getN (D := D) (ci := 1) (v := .ref (aE 2)) (C := RX1) (T := TX1) (N := 9) hx hb hts hiX1 hown hK hw.1 1 rfl rfl 1 (by decide) (va_Nw.use rfl (nwF_X4_166 hN)) (fun _ h9 => h9) rfl dX4_came_68 ?_
            refine lv_iload_n hx hb dX4_came_71 rfl (lv_at hl 2 rfl) ?_
            refine zk_lald hx hb hK hw 3 rfl h11 (j := p1.toNatClampNeg) rfl dX4_came_72 ?_
            refine lv_aload_n hx hb dX4_came_73 rfl (lv_at hl 0 rfl) ?_
            refine va_get (D := D) (ci := 4) (v := .ref (aE 0)) (C := RX4) (T := TX4) (N := 5) hx hb hts hiX4 hown hK hw.1 0 rfl rfl 4 (by decide) hq1 (fun _ h9 => h9) rfl dX4_came_74 ?_
            refine va_getN (D := D) (ci := 1) (v := .ref (aE 3)) (C := RX1) (T := TX1) (N := 9) hx hb hts hiX1 hown hK hw.1 1 rfl rfl 2 (by decide) (va_Nw.use rfl (nwF_X4_160 hN)) (fun _ h9 => h9) rfl dX4_came_77 ?_
            refine lv_iload_n hx hb dX4_came_80 rfl (lv_at hl 2 rfl) ?_
            refine zk_lald hx hb hK hw 4 rfl h11 (j := p1.toNatClampNeg) rfl dX4_came_81 ?_
            refine lv_iload_n hx hb dX4_came_82 rfl (lv_at hl 3 rfl) ?_
            obtain ⟨u13, e14, hf⟩ := zk_bd hf
            refine zk_calll (wc := []) (wr := zwL aL (aT 0) (aN 0) (aR 0) (aP 0) (aE 0) ++ (zwE cI cJ aE u8.2.1 u8.2.2.1 u8.2.2.2.1 u8.2.2.2.2.1 u8.2.2.2.2.2.1 u8.2.2.2.2.2.2.1 u8.2.2.2.2.2.2.2.1 u8.2.2.2.2.2.2.2.2.1 u8.2.2.2.2.2.2.2.2.2 ++ (zwC cI aN Ncandidates Nballots Nseats Nwithdrawn Nvoters Nsets Nrank))) hw hA [] [0, 1, 2, 3, 4, 5, 6, 7, 8, 9, 10, 11] rfl rfl (by decide) (by decide) (va_runS (As := [.long (u8.2.2.1 p1.toNatClampNeg), .long (u8.2.2.2.1 p1.toNatClampNeg), .int p2]) (rest := []) ⟨hx, hb, hml, hown, hts⟩ (kX4_partOf l D cI cJ cO N (u8.2.2.1 p1.toNatClampNeg) (u8.2.2.2.1 p1.toNatClampNeg) p2 u13 e14 H.size) (va_cwS 3 hts gX4_came_X4_partOf rfl rfl rfl (by decide +kernel) ⟨Nat.le_of_ble_eq_true rfl, Nat.le_of_ble_eq_true rfl⟩) (zk_preS (wc := []) hN hK hw [] rfl (by decide)) rfl rfl hl.1 rfl (lv_room (Nat.le_of_ble_eq_true rfl)) dX4_came_83 ⟨Nat.zero_le _, Nat.zero_le _⟩) (fun H locs hw => ?_)
            have hw : Wd D A s.heap (zwL aL (aT 0) (aN 0) (aR 0) (aP 0) (aE 0) ++ (zwE cI cJ aE u8.2.1 u8.2.2.1 u8.2.2.2.1 u8.2.2.2.2.1 u8.2.2.2.2.2.1 u8.2.2.2.2.2.2.1 u8.2.2.2.2.2.2.2.1 u8.2.2.2.2.2.2.2.2.1 u8.2.2.2.2.2.2.2.2.2 ++ (zwC cI aN Ncandidates Nballots Nseats Nwithdrawn Nvoters Nsets Nrank))) H locs := hw
            cases hf
            exact zk_lret hx hb hr hlocks hQ hw [0, 1, 2, 3, 4, 5, 6, 7, 8, 9, 10, 11] rfl (by decide) dX4_came_86
          · replace hf := zk_t c12 hf
            refine lv_ldc2 hx hb hown hq6 dX4_came_60 ?_
            cases hf
            exact zk_lret hx hb hr hlocks hQ hw [0, 1, 2, 3, 4, 5, 6, 7, 8, 9, 10, 11] rfl (by decide) dX4_came_63
      · replace hf := zk_t c7 hf
        refine lv_ldc2 hx hb hown hq0 dX4_came_18 ?_
        cases hf
        exact zk_lret hx hb hr hlocks hQ hw [0, 1, 2, 3, 4, 5, 6, 7, 8, 9, 10, 11] rfl (by decide) dX4_came_21
