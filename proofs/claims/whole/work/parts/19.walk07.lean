set_option maxHeartbeats 4000000 in
set_option maxRecDepth 100000 in
theorem kX5_approve (l : Launch) (D : va_G) (cI cJ cO : ClassId) (N : Nat) (aM : Nat → Nat) (p0 : Int32) (p1 : Int32) (Mnow : Nat → Int32) (Mread : Nat → Int32) (Mpast : Nat → Int32) (Mchanges : Int32) (Mtext : Nat → Int32) (Mletters : Int32) (Mheads : Nat → Int32) (Msets : Nat → Int32) (Mballots : Int32) (Mranks : Nat → Int32) (Mloads : Nat → Int64) (Mbelow : Int64) (Morder : Nat → Int32) (Melected : Int32) (Mmembers : Int32) (Mabove : Nat → Int64) (Munder : Nat → Int64) (Mspot : Int32) (Mvalue : Int32) (u : Int32 × (Nat → Int32) × (Nat → Int32) × (Int32)) (hf : fX5_approve N p0 p1 Mnow Mpast Mchanges = some u) : CtI l yX5_approve wsX5_approve (zk_rm 2 44) D cI cJ cO [.ref (aM 0), .int p0, .int p1] (zwM cI cJ aM Mnow Mread Mpast Mchanges Mtext Mletters Mheads Msets Mballots Mranks Mloads Mbelow Morder Melected Mmembers Mabove Munder Mspot Mvalue) (zwM cI cJ aM u.2.1 Mread u.2.2.1 u.2.2.2 Mtext Mletters Mheads Msets Mballots Mranks Mloads Mbelow Morder Melected Mmembers Mabove Munder Mspot Mvalue) (u.1) := by
  refine zk_enter (cc := cX5_approve) (maxL := 3) (ret := some .int) (own := RX5) (Qf := fun A => QwI D (zwM cI cJ aM u.2.1 Mread u.2.2.1 u.2.2.2 Mtext Mletters Mheads Msets Mballots Mranks Mloads Mbelow Morder Melected Mmembers Mabove Munder Mspot Mvalue) (u.1) A) (by decide) rfl rfl (Nat.le_of_ble_eq_true rfl) ?_
  intro p e s m args below meth c A Q H locs ls hC hQ hw hl
  obtain ⟨hx, hb, hml, hr, hts, hown, hlocks, hN, hK, hA⟩ := hC
  have hl : lv_has ls 3 [(0, .ref (aM 0)), (1, .int p0), (2, .int p1)] := hl
  have hiX5 : ∀ w ∈ u_ws RX5 TX5 19, w ∈ wsX5_approve := by decide +kernel
  have hq0 := hts (.fieldLink RX5 7 "LoadCouncilModel" "now" "[I") (by decide +kernel)
  unfold fX5_approve at hf
  refine lv_aload_n hx hb dX5_approve_0 rfl (lv_at hl 0 rfl) ?_
  refine lv_iload_n hx hb dX5_approve_1 rfl (lv_at hl 1 rfl) ?_
  obtain ⟨u1, e2, hf⟩ := zk_bd hf
  refine zk_calli (wc := zwM cI cJ aM Mnow Mread Mpast Mchanges Mtext Mletters Mheads Msets Mballots Mranks Mloads Mbelow Morder Melected Mmembers Mabove Munder Mspot Mvalue) (wr := []) hw hA [0, 1, 2, 3, 4, 5, 6, 7, 8, 9, 10, 11] [] rfl rfl (by decide) (by decide) (va_runV (C := RX5) (As := [.int p0]) (rest := []) ⟨hx, hb, hml, hown, hts⟩ (kX5_isBallot l D cI cJ cO N aM p0 Mnow Mread Mpast Mchanges Mtext Mletters Mheads Msets Mballots Mranks Mloads Mbelow Morder Melected Mmembers Mabove Munder Mspot Mvalue u1 e2 H.size) (cwV 1 hts gX5_approve_X5_isBallot rfl rfl rfl (by decide +kernel) ⟨Nat.le_of_ble_eq_true rfl, Nat.le_of_ble_eq_true rfl⟩) (zk_preV (wc := zwM cI cJ aM Mnow Mread Mpast Mchanges Mtext Mletters Mheads Msets Mballots Mranks Mloads Mbelow Morder Melected Mmembers Mabove Munder Mspot Mvalue) hN hK hw [0, 1, 2, 3, 4, 5, 6, 7, 8, 9, 10, 11] rfl (by decide) 0 5 rfl rfl) rfl rfl hl.1 rfl (lv_room (Nat.le_of_ble_eq_true rfl)) dX5_approve_2 ⟨Nat.zero_le _, Nat.zero_le _⟩) (fun H locs hw => ?_)
  have hw : Wd D A s.heap (zwM cI cJ aM Mnow Mread Mpast Mchanges Mtext Mletters Mheads Msets Mballots Mranks Mloads Mbelow Morder Melected Mmembers Mabove Munder Mspot Mvalue) H locs := hw
  refine lv_if_eq (tgt := 16) hx hb dX5_approve_5 (by decide) (fun c3 => ?_) (fun c3 => ?_)
  · replace hf := zk_t c3 hf
    refine lv_iconst (v := (-1)) hx hb dX5_approve_16 (by decide) ?_
    cases hf
    exact zk_iret hx hb hr hlocks rfl hQ hw [0, 1, 2, 3, 4, 5, 6, 7, 8, 9, 10, 11] rfl (by decide) dX5_approve_17
  · replace hf := zk_f c3 hf
    refine lv_aload_n hx hb dX5_approve_8 rfl (lv_at hl 0 rfl) ?_
    refine lv_iload_n hx hb dX5_approve_9 rfl (lv_at hl 2 rfl) ?_
    obtain ⟨u4, e5, hf⟩ := zk_bd hf
    refine zk_calli (wc := zwM cI cJ aM Mnow Mread Mpast Mchanges Mtext Mletters Mheads Msets Mballots Mranks Mloads Mbelow Morder Melected Mmembers Mabove Munder Mspot Mvalue) (wr := []) hw hA [0, 1, 2, 3, 4, 5, 6, 7, 8, 9, 10, 11] [] rfl rfl (by decide) (by decide) (va_runV (C := RX5) (As := [.int p1]) (rest := []) ⟨hx, hb, hml, hown, hts⟩ (kX5_isSet l D cI cJ cO N aM p1 Mnow Mread Mpast Mchanges Mtext Mletters Mheads Msets Mballots Mranks Mloads Mbelow Morder Melected Mmembers Mabove Munder Mspot Mvalue u4 e5 H.size) (cwV 1 hts gX5_approve_X5_isSet rfl rfl rfl (by decide +kernel) ⟨Nat.le_of_ble_eq_true rfl, Nat.le_of_ble_eq_true rfl⟩) (zk_preV (wc := zwM cI cJ aM Mnow Mread Mpast Mchanges Mtext Mletters Mheads Msets Mballots Mranks Mloads Mbelow Morder Melected Mmembers Mabove Munder Mspot Mvalue) hN hK hw [0, 1, 2, 3, 4, 5, 6, 7, 8, 9, 10, 11] rfl (by decide) 0 5 rfl rfl) rfl rfl hl.1 rfl (lv_room (Nat.le_of_ble_eq_true rfl)) dX5_approve_10 ⟨Nat.zero_le _, Nat.zero_le _⟩) (fun H locs hw => ?_)
    have hw : Wd D A s.heap (zwM cI cJ aM Mnow Mread Mpast Mchanges Mtext Mletters Mheads Msets Mballots Mranks Mloads Mbelow Morder Melected Mmembers Mabove Munder Mspot Mvalue) H locs := hw
    refine lv_if_ne (tgt := 18) hx hb dX5_approve_13 (by decide) (fun c6 => ?_) (fun c6 => ?_)
    · replace hf := zk_f c6 hf
      refine lv_aload_n hx hb dX5_approve_18 rfl (lv_at hl 0 rfl) ?_
      refine va_get (D := D) (ci := 5) (v := .ref (aM 1)) (C := RX5) (T := TX5) (N := 19) hx hb hts hiX5 hown hK hw.1 0 rfl rfl 0 (by decide) hq0 (fun _ h9 => h9) rfl dX5_approve_19 ?_
      refine lv_bipush (v := 12) hx hb dX5_approve_22 (by decide) ?_
      refine lv_iload_n hx hb dX5_approve_24 rfl (lv_at hl 1 rfl) ?_
      refine lv_iadd hx hb dX5_approve_25 ?_
      obtain ⟨h7, hf⟩ := zk_ck hf
      refine zk_iald hx hb hK hw 1 rfl h7 (j := ((12 : Int32) + p0).toNatClampNeg) rfl dX5_approve_26 ?_
      refine lv_iload_n hx hb dX5_approve_27 rfl (lv_at hl 2 rfl) ?_
      refine lv_icmp_ne (tgt := 36) hx hb dX5_approve_28 (by decide) (fun c8 => ?_) (fun c8 => ?_)
      · replace hf := zk_f c8 hf
        refine lv_aload_n hx hb dX5_approve_36 rfl (lv_at hl 0 rfl) ?_
        refine lv_bipush (v := 12) hx hb dX5_approve_37 (by decide) ?_
        refine lv_iload_n hx hb dX5_approve_39 rfl (lv_at hl 1 rfl) ?_
        refine lv_iadd hx hb dX5_approve_40 ?_
        refine lv_iload_n hx hb dX5_approve_41 rfl (lv_at hl 2 rfl) ?_
        obtain ⟨u9, e10, hf⟩ := zk_bd hf
        refine zk_calli (wc := zwM cI cJ aM Mnow Mread Mpast Mchanges Mtext Mletters Mheads Msets Mballots Mranks Mloads Mbelow Morder Melected Mmembers Mabove Munder Mspot Mvalue) (wr := []) hw hA [0, 1, 2, 3, 4, 5, 6, 7, 8, 9, 10, 11] [] rfl rfl (by decide) (by decide) (va_runV (C := RX5) (As := [.int ((12 : Int32) + p0), .int p1]) (rest := []) ⟨hx, hb, hml, hown, hts⟩ (kX5_exchanges l D cI cJ cO N aM ((12 : Int32) + p0) p1 Mnow Mread Mpast Mchanges Mtext Mletters Mheads Msets Mballots Mranks Mloads Mbelow Morder Melected Mmembers Mabove Munder Mspot Mvalue u9 e10 H.size) (cwV 2 hts gX5_approve_X5_exchanges rfl rfl rfl (by decide +kernel) ⟨Nat.le_of_ble_eq_true rfl, Nat.le_of_ble_eq_true rfl⟩) (zk_preV (wc := zwM cI cJ aM Mnow Mread Mpast Mchanges Mtext Mletters Mheads Msets Mballots Mranks Mloads Mbelow Morder Melected Mmembers Mabove Munder Mspot Mvalue) hN hK hw [0, 1, 2, 3, 4, 5, 6, 7, 8, 9, 10, 11] rfl (by decide) 0 5 rfl rfl) rfl rfl hl.1 rfl (lv_room (Nat.le_of_ble_eq_true rfl)) dX5_approve_42 ⟨Nat.zero_le _, Nat.zero_le _⟩) (fun H locs hw => ?_)
        have hw : Wd D A s.heap (zwM cI cJ aM u9.2.1 Mread u9.2.2.1 u9.2.2.2 Mtext Mletters Mheads Msets Mballots Mranks Mloads Mbelow Morder Melected Mmembers Mabove Munder Mspot Mvalue) H locs := hw
        cases hf
        exact zk_iret hx hb hr hlocks rfl hQ hw [0, 1, 2, 3, 4, 5, 6, 7, 8, 9, 10, 11] rfl (by decide) dX5_approve_45
      · replace hf := zk_t c8 hf
        refine lv_bipush (v := (-2)) hx hb dX5_approve_31 (by decide) ?_
        refine lv_goto (tgt := 45) hx hb dX5_approve_33 (by decide) ?_
        cases hf
        exact zk_iret hx hb hr hlocks rfl hQ hw [0, 1, 2, 3, 4, 5, 6, 7, 8, 9, 10, 11] rfl (by decide) dX5_approve_45
    · replace hf := zk_t c6 hf
      refine lv_iconst (v := (-1)) hx hb dX5_approve_16 (by decide) ?_
      cases hf
      exact zk_iret hx hb hr hlocks rfl hQ hw [0, 1, 2, 3, 4, 5, 6, 7, 8, 9, 10, 11] rfl (by decide) dX5_approve_17
set_option maxHeartbeats 4000000 in
set_option maxRecDepth 100000 in
theorem kX5_seats (l : Launch) (D : va_G) (cI cJ cO : ClassId) (N : Nat) (aM : Nat → Nat) (p0 : Int32) (Mnow : Nat → Int32) (Mread : Nat → Int32) (Mpast : Nat → Int32) (Mchanges : Int32) (Mtext : Nat → Int32) (Mletters : Int32) (Mheads : Nat → Int32) (Msets : Nat → Int32) (Mballots : Int32) (Mranks : Nat → Int32) (Mloads : Nat → Int64) (Mbelow : Int64) (Morder : Nat → Int32) (Melected : Int32) (Mmembers : Int32) (Mabove : Nat → Int64) (Munder : Nat → Int64) (Mspot : Int32) (Mvalue : Int32) (u : Int32 × (Nat → Int32) × (Nat → Int32) × (Int32)) (hf : fX5_seats N p0 Mnow Mpast Mchanges = some u) : CtI l yX5_seats wsX5_seats (zk_rm 2 44) D cI cJ cO [.ref (aM 0), .int p0] (zwM cI cJ aM Mnow Mread Mpast Mchanges Mtext Mletters Mheads Msets Mballots Mranks Mloads Mbelow Morder Melected Mmembers Mabove Munder Mspot Mvalue) (zwM cI cJ aM u.2.1 Mread u.2.2.1 u.2.2.2 Mtext Mletters Mheads Msets Mballots Mranks Mloads Mbelow Morder Melected Mmembers Mabove Munder Mspot Mvalue) (u.1) := by
  refine zk_enter (cc := cX5_seats) (maxL := 2) (ret := some .int) (own := RX5) (Qf := fun A => QwI D (zwM cI cJ aM u.2.1 Mread u.2.2.1 u.2.2.2 Mtext Mletters Mheads Msets Mballots Mranks Mloads Mbelow Morder Melected Mmembers Mabove Munder Mspot Mvalue) (u.1) A) (by decide) rfl rfl (Nat.le_of_ble_eq_true rfl) ?_
  intro p e s m args below meth c A Q H locs ls hC hQ hw hl
  obtain ⟨hx, hb, hml, hr, hts, hown, hlocks, hN, hK, hA⟩ := hC
  have hl : lv_has ls 2 [(0, .ref (aM 0)), (1, .int p0)] := hl
  have hiX5 : ∀ w ∈ u_ws RX5 TX5 19, w ∈ wsX5_seats := by decide +kernel
  have hq0 := hts (.fieldLink RX5 7 "LoadCouncilModel" "now" "[I") (by decide +kernel)
  unfold fX5_seats at hf
  refine lv_iload_n hx hb dX5_seats_0 rfl (lv_at hl 1 rfl) ?_
  refine lv_iconst (v := 1) hx hb dX5_seats_1 (by decide) ?_
  refine lv_bipush (v := 8) hx hb dX5_seats_2 (by decide) ?_
  obtain ⟨u1, e2, hf⟩ := zk_bd hf
  refine zk_calli (wc := []) (wr := zwM cI cJ aM Mnow Mread Mpast Mchanges Mtext Mletters Mheads Msets Mballots Mranks Mloads Mbelow Morder Melected Mmembers Mabove Munder Mspot Mvalue) hw hA [] [0, 1, 2, 3, 4, 5, 6, 7, 8, 9, 10, 11] rfl rfl (by decide) (by decide) (va_runS (As := [.int p0, .int (1 : Int32), .int (8 : Int32)]) (rest := []) ⟨hx, hb, hml, hown, hts⟩ (kX5_in l D cI cJ cO N p0 (1 : Int32) (8 : Int32) u1 e2 H.size) (va_cwS 3 hts gX5_seats_X5_in rfl rfl rfl (by decide +kernel) ⟨Nat.le_of_ble_eq_true rfl, Nat.le_of_ble_eq_true rfl⟩) (zk_preS (wc := []) hN hK hw [] rfl (by decide)) rfl rfl hl.1 rfl (lv_room (Nat.le_of_ble_eq_true rfl)) dX5_seats_4 ⟨Nat.zero_le _, Nat.zero_le _⟩) (fun H locs hw => ?_)
  have hw : Wd D A s.heap (zwM cI cJ aM Mnow Mread Mpast Mchanges Mtext Mletters Mheads Msets Mballots Mranks Mloads Mbelow Morder Melected Mmembers Mabove Munder Mspot Mvalue) H locs := hw
  refine lv_if_ne (tgt := 12) hx hb dX5_seats_7 (by decide) (fun c3 => ?_) (fun c3 => ?_)
  · replace hf := zk_f c3 hf
    refine lv_aload_n hx hb dX5_seats_12 rfl (lv_at hl 0 rfl) ?_
    refine va_get (D := D) (ci := 5) (v := .ref (aM 1)) (C := RX5) (T := TX5) (N := 19) hx hb hts hiX5 hown hK hw.1 0 rfl rfl 0 (by decide) hq0 (fun _ h9 => h9) rfl dX5_seats_13 ?_
    refine lv_bipush (v := 22) hx hb dX5_seats_16 (by decide) ?_
    refine zk_iald hx hb hK hw 1 rfl (zk_in (by decide)) (j := 22) rfl dX5_seats_18 ?_
    refine lv_iload_n hx hb dX5_seats_19 rfl (lv_at hl 1 rfl) ?_
    refine lv_icmp_ne (tgt := 28) hx hb dX5_seats_20 (by decide) (fun c4 => ?_) (fun c4 => ?_)
    · replace hf := zk_f c4 hf
      refine lv_aload_n hx hb dX5_seats_28 rfl (lv_at hl 0 rfl) ?_
      refine lv_bipush (v := 22) hx hb dX5_seats_29 (by decide) ?_
      refine lv_iload_n hx hb dX5_seats_31 rfl (lv_at hl 1 rfl) ?_
      obtain ⟨u5, e6, hf⟩ := zk_bd hf
      refine zk_calli (wc := zwM cI cJ aM Mnow Mread Mpast Mchanges Mtext Mletters Mheads Msets Mballots Mranks Mloads Mbelow Morder Melected Mmembers Mabove Munder Mspot Mvalue) (wr := []) hw hA [0, 1, 2, 3, 4, 5, 6, 7, 8, 9, 10, 11] [] rfl rfl (by decide) (by decide) (va_runV (C := RX5) (As := [.int (22 : Int32), .int p0]) (rest := []) ⟨hx, hb, hml, hown, hts⟩ (kX5_exchanges l D cI cJ cO N aM (22 : Int32) p0 Mnow Mread Mpast Mchanges Mtext Mletters Mheads Msets Mballots Mranks Mloads Mbelow Morder Melected Mmembers Mabove Munder Mspot Mvalue u5 e6 H.size) (cwV 2 hts gX5_seats_X5_exchanges rfl rfl rfl (by decide +kernel) ⟨Nat.le_of_ble_eq_true rfl, Nat.le_of_ble_eq_true rfl⟩) (zk_preV (wc := zwM cI cJ aM Mnow Mread Mpast Mchanges Mtext Mletters Mheads Msets Mballots Mranks Mloads Mbelow Morder Melected Mmembers Mabove Munder Mspot Mvalue) hN hK hw [0, 1, 2, 3, 4, 5, 6, 7, 8, 9, 10, 11] rfl (by decide) 0 5 rfl rfl) rfl rfl hl.1 rfl (lv_room (Nat.le_of_ble_eq_true rfl)) dX5_seats_32 ⟨Nat.zero_le _, Nat.zero_le _⟩) (fun H locs hw => ?_)
      have hw : Wd D A s.heap (zwM cI cJ aM u5.2.1 Mread u5.2.2.1 u5.2.2.2 Mtext Mletters Mheads Msets Mballots Mranks Mloads Mbelow Morder Melected Mmembers Mabove Munder Mspot Mvalue) H locs := hw
      cases hf
      exact zk_iret hx hb hr hlocks rfl hQ hw [0, 1, 2, 3, 4, 5, 6, 7, 8, 9, 10, 11] rfl (by decide) dX5_seats_35
    · replace hf := zk_t c4 hf
      refine lv_bipush (v := (-2)) hx hb dX5_seats_23 (by decide) ?_
      refine lv_goto (tgt := 35) hx hb dX5_seats_25 (by decide) ?_
      cases hf
      exact zk_iret hx hb hr hlocks rfl hQ hw [0, 1, 2, 3, 4, 5, 6, 7, 8, 9, 10, 11] rfl (by decide) dX5_seats_35
  · replace hf := zk_t c3 hf
    refine lv_iconst (v := (-1)) hx hb dX5_seats_10 (by decide) ?_
    cases hf
    exact zk_iret hx hb hr hlocks rfl hQ hw [0, 1, 2, 3, 4, 5, 6, 7, 8, 9, 10, 11] rfl (by decide) dX5_seats_11
set_option maxHeartbeats 4000000 in
set_option maxRecDepth 100000 in
theorem kX5_withdraw (l : Launch) (D : va_G) (cI cJ cO : ClassId) (N : Nat) (aM : Nat → Nat) (p0 : Int32) (p1 : Int32) (Mnow : Nat → Int32) (Mread : Nat → Int32) (Mpast : Nat → Int32) (Mchanges : Int32) (Mtext : Nat → Int32) (Mletters : Int32) (Mheads : Nat → Int32) (Msets : Nat → Int32) (Mballots : Int32) (Mranks : Nat → Int32) (Mloads : Nat → Int64) (Mbelow : Int64) (Morder : Nat → Int32) (Melected : Int32) (Mmembers : Int32) (Mabove : Nat → Int64) (Munder : Nat → Int64) (Mspot : Int32) (Mvalue : Int32) (u : Int32 × (Nat → Int32) × (Nat → Int32) × (Int32)) (hf : fX5_withdraw N p0 p1 Mnow Mpast Mchanges = some u) : CtI l yX5_withdraw wsX5_withdraw (zk_rm 2 44) D cI cJ cO [.ref (aM 0), .int p0, .int p1] (zwM cI cJ aM Mnow Mread Mpast Mchanges Mtext Mletters Mheads Msets Mballots Mranks Mloads Mbelow Morder Melected Mmembers Mabove Munder Mspot Mvalue) (zwM cI cJ aM u.2.1 Mread u.2.2.1 u.2.2.2 Mtext Mletters Mheads Msets Mballots Mranks Mloads Mbelow Morder Melected Mmembers Mabove Munder Mspot Mvalue) (u.1) := by
  refine zk_enter (cc := cX5_withdraw) (maxL := 4) (ret := some .int) (own := RX5) (Qf := fun A => QwI D (zwM cI cJ aM u.2.1 Mread u.2.2.1 u.2.2.2 Mtext Mletters Mheads Msets Mballots Mranks Mloads Mbelow Morder Melected Mmembers Mabove Munder Mspot Mvalue) (u.1) A) (by decide) rfl rfl (Nat.le_of_ble_eq_true rfl) ?_
  intro p e s m args below meth c A Q H locs ls hC hQ hw hl
  obtain ⟨hx, hb, hml, hr, hts, hown, hlocks, hN, hK, hA⟩ := hC
  have hl : lv_has ls 4 [(0, .ref (aM 0)), (1, .int p0), (2, .int p1)] := hl
  have hiX5 : ∀ w ∈ u_ws RX5 TX5 19, w ∈ wsX5_withdraw := by decide +kernel
  have hq0 := hts (.fieldLink RX5 7 "LoadCouncilModel" "now" "[I") (by decide +kernel)
  have b40 : ∀ (x1 : Int32) (t0 : Int32) (t1 : Int32) (Mnow : Nat → Int32) (Mpast : Nat → Int32) (Mchanges : Int32), fX5_withdraw_b40 N x1 t0 t1 Mnow Mpast Mchanges = some u → ∀ (H : Heap) (locs : List Loc) (ls : Array Slot), Wd D A s.heap (zwM cI cJ aM Mnow Mread Mpast Mchanges Mtext Mletters Mheads Msets Mballots Mranks Mloads Mbelow Morder Melected Mmembers Mabove Munder Mspot Mvalue) H locs → lv_has ls 4 [(0, .ref (aM 0)), (1, .int x1)] → W p l e (zk_rm 2 44) s m args below meth c H locs 0 0 Q (F0 m 40 ls [.int t1, .int t0]) := by
    intro x1 t0 t1 Mnow Mpast Mchanges hf H locs ls hw hl
    unfold fX5_withdraw_b40 at hf
    refine lv_icmp_ne (tgt := 46) hx hb dX5_withdraw_40 (by decide) (fun c1 => ?_) (fun c1 => ?_)
    · replace hf := zk_f c1 hf
      refine lv_aload_n hx hb dX5_withdraw_46 rfl (lv_at hl 0 rfl) ?_
      refine lv_bipush (v := 23) hx hb dX5_withdraw_47 (by decide) ?_
      refine lv_aload_n hx hb dX5_withdraw_49 rfl (lv_at hl 0 rfl) ?_
      refine va_get (D := D) (ci := 5) (v := .ref (aM 1)) (C := RX5) (T := TX5) (N := 19) hx hb hts hiX5 hown hK hw.1 0 rfl rfl 0 (by decide) hq0 (fun _ h9 => h9) rfl dX5_withdraw_50 ?_
      refine lv_bipush (v := 23) hx hb dX5_withdraw_53 (by decide) ?_
      refine zk_iald hx hb hK hw 1 rfl (zk_in (by decide)) (j := 23) rfl dX5_withdraw_55 ?_
      refine lv_iconst (v := 1) hx hb dX5_withdraw_56 (by decide) ?_
      refine lv_iload_n hx hb dX5_withdraw_57 rfl (lv_at hl 1 rfl) ?_
      refine lv_ishl hx hb dX5_withdraw_58 ?_
      refine lv_ixor hx hb dX5_withdraw_59 ?_
      obtain ⟨u2, e3, hf⟩ := zk_bd hf
      refine zk_calli (wc := zwM cI cJ aM Mnow Mread Mpast Mchanges Mtext Mletters Mheads Msets Mballots Mranks Mloads Mbelow Morder Melected Mmembers Mabove Munder Mspot Mvalue) (wr := []) hw hA [0, 1, 2, 3, 4, 5, 6, 7, 8, 9, 10, 11] [] rfl rfl (by decide) (by decide) (va_runV (C := RX5) (As := [.int (23 : Int32), .int ((Mnow 23) ^^^ ((1 : Int32) <<< (x1 &&& 31)))]) (rest := []) ⟨hx, hb, hml, hown, hts⟩ (kX5_exchanges l D cI cJ cO N aM (23 : Int32) ((Mnow 23) ^^^ ((1 : Int32) <<< (x1 &&& 31))) Mnow Mread Mpast Mchanges Mtext Mletters Mheads Msets Mballots Mranks Mloads Mbelow Morder Melected Mmembers Mabove Munder Mspot Mvalue u2 e3 H.size) (cwV 2 hts gX5_withdraw_X5_exchanges rfl rfl rfl (by decide +kernel) ⟨Nat.le_of_ble_eq_true rfl, Nat.le_of_ble_eq_true rfl⟩) (zk_preV (wc := zwM cI cJ aM Mnow Mread Mpast Mchanges Mtext Mletters Mheads Msets Mballots Mranks Mloads Mbelow Morder Melected Mmembers Mabove Munder Mspot Mvalue) hN hK hw [0, 1, 2, 3, 4, 5, 6, 7, 8, 9, 10, 11] rfl (by decide) 0 5 rfl rfl) rfl rfl hl.1 rfl (lv_room (Nat.le_of_ble_eq_true rfl)) dX5_withdraw_60 ⟨Nat.zero_le _, Nat.zero_le _⟩) (fun H locs hw => ?_)
      have hw : Wd D A s.heap (zwM cI cJ aM u2.2.1 Mread u2.2.2.1 u2.2.2.2 Mtext Mletters Mheads Msets Mballots Mranks Mloads Mbelow Morder Melected Mmembers Mabove Munder Mspot Mvalue) H locs := hw
      refine lv_istore_n (lv' := [(3, .int u2.1), (0, .ref (aM 0)), (1, .int x1)]) hx hb dX5_withdraw_63 rfl hl (by decide) rfl (fun ls hl => ?_)
      refine lv_iload_n hx hb dX5_withdraw_64 rfl (lv_at hl 0 rfl) ?_
      refine lv_if_ge (tgt := 73) hx hb dX5_withdraw_65 (by decide) (fun c4 => ?_) (fun c4 => ?_)
      · replace hf := zk_t c4 hf
        refine lv_aload_n hx hb dX5_withdraw_73 rfl (lv_at hl 1 rfl) ?_
        refine va_get (D := D) (ci := 5) (v := .ref (aM 1)) (C := RX5) (T := TX5) (N := 19) hx hb hts hiX5 hown hK hw.1 0 rfl rfl 0 (by decide) hq0 (fun _ h9 => h9) rfl dX5_withdraw_74 ?_
        refine lv_bipush (v := 23) hx hb dX5_withdraw_77 (by decide) ?_
        refine zk_iald hx hb hK hw 1 rfl (zk_in (by decide)) (j := 23) rfl dX5_withdraw_79 ?_
        obtain ⟨u5, e6, hf⟩ := zk_bd hf
        refine zk_calli (wc := []) (wr := zwM cI cJ aM u2.2.1 Mread u2.2.2.1 u2.2.2.2 Mtext Mletters Mheads Msets Mballots Mranks Mloads Mbelow Morder Melected Mmembers Mabove Munder Mspot Mvalue) hw hA [] [0, 1, 2, 3, 4, 5, 6, 7, 8, 9, 10, 11] rfl rfl (by decide) (by decide) (va_runS (As := [.int (u2.2.1 23)]) (rest := []) ⟨hx, hb, hml, hown, hts⟩ (kX5_ones l D cI cJ cO N (u2.2.1 23) u5 e6 H.size) (va_cwS 1 hts gX5_withdraw_X5_ones rfl rfl rfl (by decide +kernel) ⟨Nat.le_of_ble_eq_true rfl, Nat.le_of_ble_eq_true rfl⟩) (zk_preS (wc := []) hN hK hw [] rfl (by decide)) rfl rfl hl.1 rfl (lv_room (Nat.le_of_ble_eq_true rfl)) dX5_withdraw_80 ⟨Nat.zero_le _, Nat.zero_le _⟩) (fun H locs hw => ?_)
        have hw : Wd D A s.heap (zwM cI cJ aM u2.2.1 Mread u2.2.2.1 u2.2.2.2 Mtext Mletters Mheads Msets Mballots Mranks Mloads Mbelow Morder Melected Mmembers Mabove Munder Mspot Mvalue) H locs := hw
        cases hf
        exact zk_iret hx hb hr hlocks rfl hQ hw [0, 1, 2, 3, 4, 5, 6, 7, 8, 9, 10, 11] rfl (by decide) dX5_withdraw_83
      · replace hf := zk_f c4 hf
        refine lv_bipush (v := (-4)) hx hb dX5_withdraw_68 (by decide) ?_
        refine lv_goto (tgt := 83) hx hb dX5_withdraw_70 (by decide) ?_
        cases hf
        exact zk_iret hx hb hr hlocks rfl hQ hw [0, 1, 2, 3, 4, 5, 6, 7, 8, 9, 10, 11] rfl (by decide) dX5_withdraw_83
    · replace hf := zk_t c1 hf
      refine lv_bipush (v := (-2)) hx hb dX5_withdraw_43 (by decide) ?_
      cases hf
      exact zk_iret hx hb hr hlocks rfl hQ hw [0, 1, 2, 3, 4, 5, 6, 7, 8, 9, 10, 11] rfl (by decide) dX5_withdraw_45
  unfold fX5_withdraw at hf
  refine lv_aload_n hx hb dX5_withdraw_0 rfl (lv_at hl 0 rfl) ?_
  refine lv_iload_n hx hb dX5_withdraw_1 rfl (lv_at hl 1 rfl) ?_
  obtain ⟨u7, e8, hf⟩ := zk_bd hf
  refine zk_calli (wc := zwM cI cJ aM Mnow Mread Mpast Mchanges Mtext Mletters Mheads Msets Mballots Mranks Mloads Mbelow Morder Melected Mmembers Mabove Munder Mspot Mvalue) (wr := []) hw hA [0, 1, 2, 3, 4, 5, 6, 7, 8, 9, 10, 11] [] rfl rfl (by decide) (by decide) (va_runV (C := RX5) (As := [.int p0]) (rest := []) ⟨hx, hb, hml, hown, hts⟩ (kX5_isCandidate l D cI cJ cO N aM p0 Mnow Mread Mpast Mchanges Mtext Mletters Mheads Msets Mballots Mranks Mloads Mbelow Morder Melected Mmembers Mabove Munder Mspot Mvalue u7 e8 H.size) (cwV 1 hts gX5_withdraw_X5_isCandidate rfl rfl rfl (by decide +kernel) ⟨Nat.le_of_ble_eq_true rfl, Nat.le_of_ble_eq_true rfl⟩) (zk_preV (wc := zwM cI cJ aM Mnow Mread Mpast Mchanges Mtext Mletters Mheads Msets Mballots Mranks Mloads Mbelow Morder Melected Mmembers Mabove Munder Mspot Mvalue) hN hK hw [0, 1, 2, 3, 4, 5, 6, 7, 8, 9, 10, 11] rfl (by decide) 0 5 rfl rfl) rfl rfl hl.1 rfl (lv_room (Nat.le_of_ble_eq_true rfl)) dX5_withdraw_2 ⟨Nat.zero_le _, Nat.zero_le _⟩) (fun H locs hw => ?_)
  have hw : Wd D A s.heap (zwM cI cJ aM Mnow Mread Mpast Mchanges Mtext Mletters Mheads Msets Mballots Mranks Mloads Mbelow Morder Melected Mmembers Mabove Munder Mspot Mvalue) H locs := hw
  refine lv_if_eq (tgt := 17) hx hb dX5_withdraw_5 (by decide) (fun c9 => ?_) (fun c9 => ?_)
  · replace hf := zk_t c9 hf
    refine lv_iconst (v := (-1)) hx hb dX5_withdraw_17 (by decide) ?_
    cases hf
    exact zk_iret hx hb hr hlocks rfl hQ hw [0, 1, 2, 3, 4, 5, 6, 7, 8, 9, 10, 11] rfl (by decide) dX5_withdraw_18
  · replace hf := zk_f c9 hf
    refine lv_iload_n hx hb dX5_withdraw_8 rfl (lv_at hl 2 rfl) ?_
    refine lv_iconst (v := 0) hx hb dX5_withdraw_9 (by decide) ?_
    refine lv_iconst (v := 1) hx hb dX5_withdraw_10 (by decide) ?_
    obtain ⟨u10, e11, hf⟩ := zk_bd hf
    refine zk_calli (wc := []) (wr := zwM cI cJ aM Mnow Mread Mpast Mchanges Mtext Mletters Mheads Msets Mballots Mranks Mloads Mbelow Morder Melected Mmembers Mabove Munder Mspot Mvalue) hw hA [] [0, 1, 2, 3, 4, 5, 6, 7, 8, 9, 10, 11] rfl rfl (by decide) (by decide) (va_runS (As := [.int p1, .int (0 : Int32), .int (1 : Int32)]) (rest := []) ⟨hx, hb, hml, hown, hts⟩ (kX5_in l D cI cJ cO N p1 (0 : Int32) (1 : Int32) u10 e11 H.size) (va_cwS 3 hts gX5_withdraw_X5_in rfl rfl rfl (by decide +kernel) ⟨Nat.le_of_ble_eq_true rfl, Nat.le_of_ble_eq_true rfl⟩) (zk_preS (wc := []) hN hK hw [] rfl (by decide)) rfl rfl hl.1 rfl (lv_room (Nat.le_of_ble_eq_true rfl)) dX5_withdraw_11 ⟨Nat.zero_le _, Nat.zero_le _⟩) (fun H locs hw => ?_)
    have hw : Wd D A s.heap (zwM cI cJ aM Mnow Mread Mpast Mchanges Mtext Mletters Mheads Msets Mballots Mranks Mloads Mbelow Morder Melected Mmembers Mabove Munder Mspot Mvalue) H locs := hw
    refine lv_if_ne (tgt := 19) hx hb dX5_withdraw_14 (by decide) (fun c12 => ?_) (fun c12 => ?_)
    · replace hf := zk_f c12 hf
      refine lv_aload_n hx hb dX5_withdraw_19 rfl (lv_at hl 0 rfl) ?_
      refine va_get (D := D) (ci := 5) (v := .ref (aM 1)) (C := RX5) (T := TX5) (N := 19) hx hb hts hiX5 hown hK hw.1 0 rfl rfl 0 (by decide) hq0 (fun _ h9 => h9) rfl dX5_withdraw_20 ?_
      refine lv_bipush (v := 23) hx hb dX5_withdraw_23 (by decide) ?_
      refine zk_iald hx hb hK hw 1 rfl (zk_in (by decide)) (j := 23) rfl dX5_withdraw_25 ?_
      refine lv_iload_n hx hb dX5_withdraw_26 rfl (lv_at hl 1 rfl) ?_
      obtain ⟨u13, e14, hf⟩ := zk_bd hf
      refine zk_calli (wc := []) (wr := zwM cI cJ aM Mnow Mread Mpast Mchanges Mtext Mletters Mheads Msets Mballots Mranks Mloads Mbelow Morder Melected Mmembers Mabove Munder Mspot Mvalue) hw hA [] [0, 1, 2, 3, 4, 5, 6, 7, 8, 9, 10, 11] rfl rfl (by decide) (by decide) (va_runS (As := [.int (Mnow 23), .int p0]) (rest := []) ⟨hx, hb, hml, hown, hts⟩ (kX5_has l D cI cJ cO N (Mnow 23) p0 u13 e14 H.size) (va_cwS 2 hts gX5_withdraw_X5_has rfl rfl rfl (by decide +kernel) ⟨Nat.le_of_ble_eq_true rfl, Nat.le_of_ble_eq_true rfl⟩) (zk_preS (wc := []) hN hK hw [] rfl (by decide)) rfl rfl hl.1 rfl (lv_room (Nat.le_of_ble_eq_true rfl)) dX5_withdraw_27 ⟨Nat.zero_le _, Nat.zero_le _⟩) (fun H locs hw => ?_)
      have hw : Wd D A s.heap (zwM cI cJ aM Mnow Mread Mpast Mchanges Mtext Mletters Mheads Msets Mballots Mranks Mloads Mbelow Morder Melected Mmembers Mabove Munder Mspot Mvalue) H locs := hw
      refine lv_iload_n hx hb dX5_withdraw_30 rfl (lv_at hl 2 rfl) ?_
      refine lv_iconst (v := 1) hx hb dX5_withdraw_31 (by decide) ?_
      refine lv_icmp_ne (tgt := 39) hx hb dX5_withdraw_32 (by decide) (fun c15 => ?_) (fun c15 => ?_)
      · replace hf := zk_f c15 hf
        refine lv_iconst (v := 0) hx hb dX5_withdraw_39 (by decide) ?_
        exact b40 p0 u13 (0 : Int32) Mnow Mpast Mchanges hf H locs ls hw (lv_sub hl [0, 1] rfl)
      · replace hf := zk_t c15 hf
        refine lv_iconst (v := 1) hx hb dX5_withdraw_35 (by decide) ?_
        refine lv_goto (tgt := 40) hx hb dX5_withdraw_36 (by decide) ?_
        exact b40 p0 u13 (1 : Int32) Mnow Mpast Mchanges hf H locs ls hw (lv_sub hl [0, 1] rfl)
    · replace hf := zk_t c12 hf
      refine lv_iconst (v := (-1)) hx hb dX5_withdraw_17 (by decide) ?_
      cases hf
      exact zk_iret hx hb hr hlocks rfl hQ hw [0, 1, 2, 3, 4, 5, 6, 7, 8, 9, 10, 11] rfl (by decide) dX5_withdraw_18
set_option maxHeartbeats 4000000 in
set_option maxRecDepth 100000 in
theorem kX5_placeOf (l : Launch) (D : va_G) (cI cJ cO : ClassId) (N : Nat) (aM : Nat → Nat) (p0 : Int32) (Mnow : Nat → Int32) (Mread : Nat → Int32) (Mpast : Nat → Int32) (Mchanges : Int32) (Mtext : Nat → Int32) (Mletters : Int32) (Mheads : Nat → Int32) (Msets : Nat → Int32) (Mballots : Int32) (Mranks : Nat → Int32) (Mloads : Nat → Int64) (Mbelow : Int64) (Morder : Nat → Int32) (Melected : Int32) (Mmembers : Int32) (Mabove : Nat → Int64) (Munder : Nat → Int64) (Mspot : Int32) (Mvalue : Int32) (u : Int32) (hf : fX5_placeOf N p0 Mnow = some u) : CtI l yX5_placeOf wsX5_placeOf (zk_rm 0 0) D cI cJ cO [.ref (aM 0), .int p0] (zwM cI cJ aM Mnow Mread Mpast Mchanges Mtext Mletters Mheads Msets Mballots Mranks Mloads Mbelow Morder Melected Mmembers Mabove Munder Mspot Mvalue) (zwM cI cJ aM Mnow Mread Mpast Mchanges Mtext Mletters Mheads Msets Mballots Mranks Mloads Mbelow Morder Melected Mmembers Mabove Munder Mspot Mvalue) (u) := by
  refine zk_enter (cc := cX5_placeOf) (maxL := 3) (ret := some .int) (own := RX5) (Qf := fun A => QwI D (zwM cI cJ aM Mnow Mread Mpast Mchanges Mtext Mletters Mheads Msets Mballots Mranks Mloads Mbelow Morder Melected Mmembers Mabove Munder Mspot Mvalue) (u) A) (by decide) rfl rfl (Nat.le_of_ble_eq_true rfl) ?_
  intro p e s m args below meth c A Q H locs ls hC hQ hw hl
  obtain ⟨hx, hb, hml, hr, hts, hown, hlocks, hN, hK, hA⟩ := hC
  have hl : lv_has ls 3 [(0, .ref (aM 0)), (1, .int p0)] := hl
  have hiX5 : ∀ w ∈ u_ws RX5 TX5 19, w ∈ wsX5_placeOf := by decide +kernel
  have hq0 := hts (.fieldLink RX5 7 "LoadCouncilModel" "now" "[I") (by decide +kernel)
  have b2 : ∀ (n2 : Nat), ∀ (x1 : Int32) (x2 : Int32), fX5_placeOf_b2 N n2 x1 x2 Mnow = some u → ∀ (H : Heap) (locs : List Loc) (ls : Array Slot), Wd D A s.heap (zwM cI cJ aM Mnow Mread Mpast Mchanges Mtext Mletters Mheads Msets Mballots Mranks Mloads Mbelow Morder Melected Mmembers Mabove Munder Mspot Mvalue) H locs → lv_has ls 3 [(0, .ref (aM 0)), (1, .int x1), (2, .int x2)] → W p l e (zk_rm 0 0) s m args below meth c H locs 0 0 Q (F0 m 2 ls []) := by
    intro n2
    induction n2 with
    | zero =>
      intro x1 x2 hf
      exact zk_none hf
    | succ n2 ih2 =>
      intro x1 x2 hf H locs ls hw hl
      rw [fX5_placeOf_b2] at hf
      refine lv_aload_n hx hb dX5_placeOf_2 rfl (lv_at hl 0 rfl) ?_
      refine va_get (D := D) (ci := 5) (v := .ref (aM 1)) (C := RX5) (T := TX5) (N := 19) hx hb hts hiX5 hown hK hw.1 0 rfl rfl 0 (by decide) hq0 (fun _ h9 => h9) rfl dX5_placeOf_3 ?_
      refine lv_bipush (v := 24) hx hb dX5_placeOf_6 (by decide) ?_
      refine lv_iload_n hx hb dX5_placeOf_8 rfl (lv_at hl 2 rfl) ?_
      refine lv_iadd hx hb dX5_placeOf_9 ?_
      obtain ⟨h1, hf⟩ := zk_ck hf
      refine zk_iald hx hb hK hw 1 rfl h1 (j := ((24 : Int32) + x2).toNatClampNeg) rfl dX5_placeOf_10 ?_
      refine lv_iload_n hx hb dX5_placeOf_11 rfl (lv_at hl 1 rfl) ?_
      refine lv_icmp_eq (tgt := 21) hx hb dX5_placeOf_12 (by decide) (fun c2 => ?_) (fun c2 => ?_)
      · replace hf := zk_t c2 hf
        refine lv_iload_n hx hb dX5_placeOf_21 rfl (lv_at hl 2 rfl) ?_
        cases hf
        exact zk_iret hx hb hr hlocks rfl hQ hw [0, 1, 2, 3, 4, 5, 6, 7, 8, 9, 10, 11] rfl (by decide) dX5_placeOf_22
      · replace hf := zk_f c2 hf
        refine lv_iinc (v := (x2 + (1 : Int32))) (lv' := [(2, .int (x2 + (1 : Int32))), (0, .ref (aM 0)), (1, .int x1)]) hx hb dX5_placeOf_15 hl (k := 2) rfl rfl (by decide) rfl (fun ls hl => ?_)
        refine lv_goto (tgt := 2) hx hb dX5_placeOf_18 (by decide) ?_
        exact ih2 x1 (x2 + (1 : Int32)) hf H locs ls hw (lv_sub hl [1, 2, 0] rfl)
  unfold fX5_placeOf at hf
  refine lv_iconst (v := 0) hx hb dX5_placeOf_0 (by decide) ?_
  refine lv_istore_n (lv' := [(2, .int (0 : Int32)), (0, .ref (aM 0)), (1, .int p0)]) hx hb dX5_placeOf_1 rfl hl (by decide) rfl (fun ls hl => ?_)
  exact b2 N p0 (0 : Int32) hf H locs ls hw (lv_sub hl [1, 2, 0] rfl)
set_option maxHeartbeats 4000000 in
set_option maxRecDepth 100000 in
theorem kX5_prefer (l : Launch) (D : va_G) (cI cJ cO : ClassId) (N : Nat) (aM : Nat → Nat) (p0 : Int32) (Mnow : Nat → Int32) (Mread : Nat → Int32) (Mpast : Nat → Int32) (Mchanges : Int32) (Mtext : Nat → Int32) (Mletters : Int32) (Mheads : Nat → Int32) (Msets : Nat → Int32) (Mballots : Int32) (Mranks : Nat → Int32) (Mloads : Nat → Int64) (Mbelow : Int64) (Morder : Nat → Int32) (Melected : Int32) (Mmembers : Int32) (Mabove : Nat → Int64) (Munder : Nat → Int64) (Mspot : Int32) (Mvalue : Int32) (u : Int32 × (Nat → Int32) × (Nat → Int32) × (Int32)) (hf : fX5_prefer N p0 Mnow Mpast Mchanges = some u) : CtI l yX5_prefer wsX5_prefer (zk_rm 2 43) D cI cJ cO [.ref (aM 0), .int p0] (zwM cI cJ aM Mnow Mread Mpast Mchanges Mtext Mletters Mheads Msets Mballots Mranks Mloads Mbelow Morder Melected Mmembers Mabove Munder Mspot Mvalue) (zwM cI cJ aM u.2.1 Mread u.2.2.1 u.2.2.2 Mtext Mletters Mheads Msets Mballots Mranks Mloads Mbelow Morder Melected Mmembers Mabove Munder Mspot Mvalue) (u.1) := by
  refine zk_enter (cc := cX5_prefer) (maxL := 4) (ret := some .int) (own := RX5) (Qf := fun A => QwI D (zwM cI cJ aM u.2.1 Mread u.2.2.1 u.2.2.2 Mtext Mletters Mheads Msets Mballots Mranks Mloads Mbelow Morder Melected Mmembers Mabove Munder Mspot Mvalue) (u.1) A) (by decide) rfl rfl (Nat.le_of_ble_eq_true rfl) ?_
  intro p e s m args below meth c A Q H locs ls hC hQ hw hl
  obtain ⟨hx, hb, hml, hr, hts, hown, hlocks, hN, hK, hA⟩ := hC
  have hl : lv_has ls 4 [(0, .ref (aM 0)), (1, .int p0)] := hl
  have hiX5 : ∀ w ∈ u_ws RX5 TX5 19, w ∈ wsX5_prefer := by decide +kernel
  have hq0 := hts (.fieldLink RX5 7 "LoadCouncilModel" "now" "[I") (by decide +kernel)
  have b59 : ∀ (x1 : Int32) (x2 : Int32) (Mnow : Nat → Int32) (Mpast : Nat → Int32) (Mchanges : Int32), fX5_prefer_b59 N x1 x2 Mnow Mpast Mchanges = some u → ∀ (H : Heap) (locs : List Loc) (ls : Array Slot), Wd D A s.heap (zwM cI cJ aM Mnow Mread Mpast Mchanges Mtext Mletters Mheads Msets Mballots Mranks Mloads Mbelow Morder Melected Mmembers Mabove Munder Mspot Mvalue) H locs → lv_has ls 4 [(0, .ref (aM 0)), (1, .int x1), (2, .int x2)] → W p l e (zk_rm 2 43) s m args below meth c H locs 0 0 Q (F0 m 59 ls []) := by
    intro x1 x2 Mnow Mpast Mchanges hf H locs ls hw hl
    unfold fX5_prefer_b59 at hf
    refine lv_aload_n hx hb dX5_prefer_59 rfl (lv_at hl 0 rfl) ?_
    refine va_get (D := D) (ci := 5) (v := .ref (aM 1)) (C := RX5) (T := TX5) (N := 19) hx hb hts hiX5 hown hK hw.1 0 rfl rfl 0 (by decide) hq0 (fun _ h9 => h9) rfl dX5_prefer_60 ?_
    refine lv_bipush (v := 24) hx hb dX5_prefer_63 (by decide) ?_
    refine lv_iload_n hx hb dX5_prefer_65 rfl (lv_at hl 1 rfl) ?_
    refine zk_iast hx hb hK hw 1 rfl (zk_in (by decide)) (j := 24) rfl dX5_prefer_66 (fun H locs hw => ?_)
    have hw : Wd D A s.heap (zwM cI cJ aM (upd Mnow 24 x1) Mread Mpast Mchanges Mtext Mletters Mheads Msets Mballots Mranks Mloads Mbelow Morder Melected Mmembers Mabove Munder Mspot Mvalue) H locs := hw
    refine lv_iload_n hx hb dX5_prefer_67 rfl (lv_at hl 2 rfl) ?_
    cases hf
    exact zk_iret hx hb hr hlocks rfl hQ hw [0, 1, 2, 3, 4, 5, 6, 7, 8, 9, 10, 11] rfl (by decide) dX5_prefer_68
  have b29 : ∀ (n29 : Nat), ∀ (x1 : Int32) (x2 : Int32) (x3 : Int32) (Mnow : Nat → Int32) (Mpast : Nat → Int32) (Mchanges : Int32), fX5_prefer_b29 N n29 x1 x2 x3 Mnow Mpast Mchanges = some u → ∀ (H : Heap) (locs : List Loc) (ls : Array Slot), Wd D A s.heap (zwM cI cJ aM Mnow Mread Mpast Mchanges Mtext Mletters Mheads Msets Mballots Mranks Mloads Mbelow Morder Melected Mmembers Mabove Munder Mspot Mvalue) H locs → lv_has ls 4 [(0, .ref (aM 0)), (1, .int x1), (2, .int x2), (3, .int x3)] → W p l e (zk_rm 2 43) s m args below meth c H locs 0 0 Q (F0 m 29 ls []) := by
    intro n29
    induction n29 with
    | zero =>
      intro x1 x2 x3 Mnow Mpast Mchanges hf
      exact zk_none hf
    | succ n29 ih29 =>
      intro x1 x2 x3 Mnow Mpast Mchanges hf H locs ls hw hl
      rw [fX5_prefer_b29] at hf
      refine lv_iload_n hx hb dX5_prefer_29 rfl (lv_at hl 3 rfl) ?_
      refine lv_if_le (tgt := 59) hx hb dX5_prefer_30 (by decide) (fun c1 => ?_) (fun c1 => ?_)
      · replace hf := zk_t c1 hf
        exact b59 x1 x2 Mnow Mpast Mchanges hf H locs ls hw (lv_sub hl [0, 1, 2] rfl)
      · replace hf := zk_f c1 hf
        refine lv_aload_n hx hb dX5_prefer_33 rfl (lv_at hl 0 rfl) ?_
        refine va_get (D := D) (ci := 5) (v := .ref (aM 1)) (C := RX5) (T := TX5) (N := 19) hx hb hts hiX5 hown hK hw.1 0 rfl rfl 0 (by decide) hq0 (fun _ h9 => h9) rfl dX5_prefer_34 ?_
        refine lv_bipush (v := 24) hx hb dX5_prefer_37 (by decide) ?_
        refine lv_iload_n hx hb dX5_prefer_39 rfl (lv_at hl 3 rfl) ?_
        refine lv_iadd hx hb dX5_prefer_40 ?_
        refine lv_aload_n hx hb dX5_prefer_41 rfl (lv_at hl 0 rfl) ?_
        refine va_get (D := D) (ci := 5) (v := .ref (aM 1)) (C := RX5) (T := TX5) (N := 19) hx hb hts hiX5 hown hK hw.1 0 rfl rfl 0 (by decide) hq0 (fun _ h9 => h9) rfl dX5_prefer_42 ?_
        refine lv_bipush (v := 24) hx hb dX5_prefer_45 (by decide) ?_
        refine lv_iload_n hx hb dX5_prefer_47 rfl (lv_at hl 3 rfl) ?_
        refine lv_iadd hx hb dX5_prefer_48 ?_
        refine lv_iconst (v := 1) hx hb dX5_prefer_49 (by decide) ?_
        refine lv_isub hx hb dX5_prefer_50 ?_
        obtain ⟨h2, hf⟩ := zk_ck hf
        refine zk_iald hx hb hK hw 1 rfl h2 (j := (((24 : Int32) + x3) - (1 : Int32)).toNatClampNeg) rfl dX5_prefer_51 ?_
        obtain ⟨h3, hf⟩ := zk_ck hf
        refine zk_iast hx hb hK hw 1 rfl h3 (j := ((24 : Int32) + x3).toNatClampNeg) rfl dX5_prefer_52 (fun H locs hw => ?_)
        have hw : Wd D A s.heap (zwM cI cJ aM (upd Mnow (((24 : Int32) + x3).toNatClampNeg) (Mnow ((((24 : Int32) + x3) - (1 : Int32)).toNatClampNeg))) Mread Mpast Mchanges Mtext Mletters Mheads Msets Mballots Mranks Mloads Mbelow Morder Melected Mmembers Mabove Munder Mspot Mvalue) H locs := hw
        refine lv_iinc (v := (x3 + (-1 : Int32))) (lv' := [(3, .int (x3 + (-1 : Int32))), (0, .ref (aM 0)), (1, .int x1), (2, .int x2)]) hx hb dX5_prefer_53 hl (k := 3) rfl rfl (by decide) rfl (fun ls hl => ?_)
        refine lv_goto (tgt := 29) hx hb dX5_prefer_56 (by decide) ?_
        exact ih29 x1 x2 (x3 + (-1 : Int32)) (upd Mnow (((24 : Int32) + x3).toNatClampNeg) (Mnow ((((24 : Int32) + x3) - (1 : Int32)).toNatClampNeg))) Mpast Mchanges hf H locs ls hw (lv_sub hl [1, 2, 3, 0] rfl)
  unfold fX5_prefer at hf
  refine lv_aload_n hx hb dX5_prefer_0 rfl (lv_at hl 0 rfl) ?_
  refine lv_iload_n hx hb dX5_prefer_1 rfl (lv_at hl 1 rfl) ?_
  obtain ⟨u4, e5, hf⟩ := zk_bd hf
  refine zk_calli (wc := zwM cI cJ aM Mnow Mread Mpast Mchanges Mtext Mletters Mheads Msets Mballots Mranks Mloads Mbelow Morder Melected Mmembers Mabove Munder Mspot Mvalue) (wr := []) hw hA [0, 1, 2, 3, 4, 5, 6, 7, 8, 9, 10, 11] [] rfl rfl (by decide) (by decide) (va_runV (C := RX5) (As := [.int p0]) (rest := []) ⟨hx, hb, hml, hown, hts⟩ (kX5_isCandidate l D cI cJ cO N aM p0 Mnow Mread Mpast Mchanges Mtext Mletters Mheads Msets Mballots Mranks Mloads Mbelow Morder Melected Mmembers Mabove Munder Mspot Mvalue u4 e5 H.size) (cwV 1 hts gX5_prefer_X5_isCandidate rfl rfl rfl (by decide +kernel) ⟨Nat.le_of_ble_eq_true rfl, Nat.le_of_ble_eq_true rfl⟩) (zk_preV (wc := zwM cI cJ aM Mnow Mread Mpast Mchanges Mtext Mletters Mheads Msets Mballots Mranks Mloads Mbelow Morder Melected Mmembers Mabove Munder Mspot Mvalue) hN hK hw [0, 1, 2, 3, 4, 5, 6, 7, 8, 9, 10, 11] rfl (by decide) 0 5 rfl rfl) rfl rfl hl.1 rfl (lv_room (Nat.le_of_ble_eq_true rfl)) dX5_prefer_2 ⟨Nat.zero_le _, Nat.zero_le _⟩) (fun H locs hw => ?_)
  have hw : Wd D A s.heap (zwM cI cJ aM Mnow Mread Mpast Mchanges Mtext Mletters Mheads Msets Mballots Mranks Mloads Mbelow Morder Melected Mmembers Mabove Munder Mspot Mvalue) H locs := hw
  refine lv_if_ne (tgt := 10) hx hb dX5_prefer_5 (by decide) (fun c6 => ?_) (fun c6 => ?_)
  · replace hf := zk_f c6 hf
    refine lv_aload_n hx hb dX5_prefer_10 rfl (lv_at hl 0 rfl) ?_
    refine lv_iload_n hx hb dX5_prefer_11 rfl (lv_at hl 1 rfl) ?_
    obtain ⟨u7, e8, hf⟩ := zk_bd hf
    refine zk_calli (wc := zwM cI cJ aM Mnow Mread Mpast Mchanges Mtext Mletters Mheads Msets Mballots Mranks Mloads Mbelow Morder Melected Mmembers Mabove Munder Mspot Mvalue) (wr := []) hw hA [0, 1, 2, 3, 4, 5, 6, 7, 8, 9, 10, 11] [] rfl rfl (by decide) (by decide) (va_runV (C := RX5) (As := [.int p0]) (rest := []) ⟨hx, hb, hml, hown, hts⟩ (kX5_placeOf l D cI cJ cO N aM p0 Mnow Mread Mpast Mchanges Mtext Mletters Mheads Msets Mballots Mranks Mloads Mbelow Morder Melected Mmembers Mabove Munder Mspot Mvalue u7 e8 H.size) (cwV 1 hts gX5_prefer_X5_placeOf rfl rfl rfl (by decide +kernel) ⟨Nat.le_of_ble_eq_true rfl, Nat.le_of_ble_eq_true rfl⟩) (zk_preV (wc := zwM cI cJ aM Mnow Mread Mpast Mchanges Mtext Mletters Mheads Msets Mballots Mranks Mloads Mbelow Morder Melected Mmembers Mabove Munder Mspot Mvalue) hN hK hw [0, 1, 2, 3, 4, 5, 6, 7, 8, 9, 10, 11] rfl (by decide) 0 5 rfl rfl) rfl rfl hl.1 rfl (lv_room (Nat.le_of_ble_eq_true rfl)) dX5_prefer_12 ⟨Nat.zero_le _, Nat.zero_le _⟩) (fun H locs hw => ?_)
    have hw : Wd D A s.heap (zwM cI cJ aM Mnow Mread Mpast Mchanges Mtext Mletters Mheads Msets Mballots Mranks Mloads Mbelow Morder Melected Mmembers Mabove Munder Mspot Mvalue) H locs := hw
    refine lv_istore_n (lv' := [(2, .int u7), (0, .ref (aM 0)), (1, .int p0)]) hx hb dX5_prefer_15 rfl hl (by decide) rfl (fun ls hl => ?_)
    refine lv_iload_n hx hb dX5_prefer_16 rfl (lv_at hl 0 rfl) ?_
    refine lv_if_ne (tgt := 23) hx hb dX5_prefer_17 (by decide) (fun c9 => ?_) (fun c9 => ?_)
    · replace hf := zk_f c9 hf
      refine lv_aload_n hx hb dX5_prefer_23 rfl (lv_at hl 1 rfl) ?_
      obtain ⟨u10, e11, hf⟩ := zk_bd hf
      refine zk_callv (wc := zwM cI cJ aM Mnow Mread Mpast Mchanges Mtext Mletters Mheads Msets Mballots Mranks Mloads Mbelow Morder Melected Mmembers Mabove Munder Mspot Mvalue) (wr := []) hw hA [0, 1, 2, 3, 4, 5, 6, 7, 8, 9, 10, 11] [] rfl rfl (by decide) (by decide) (va_runV (C := RX5) (As := []) (rest := []) ⟨hx, hb, hml, hown, hts⟩ (kX5_remembers l D cI cJ cO N aM Mnow Mread Mpast Mchanges Mtext Mletters Mheads Msets Mballots Mranks Mloads Mbelow Morder Melected Mmembers Mabove Munder Mspot Mvalue u10 e11 H.size) (cwV 0 hts gX5_prefer_X5_remembers rfl rfl rfl (by decide +kernel) ⟨Nat.le_of_ble_eq_true rfl, Nat.le_of_ble_eq_true rfl⟩) (zk_preV (wc := zwM cI cJ aM Mnow Mread Mpast Mchanges Mtext Mletters Mheads Msets Mballots Mranks Mloads Mbelow Morder Melected Mmembers Mabove Munder Mspot Mvalue) hN hK hw [0, 1, 2, 3, 4, 5, 6, 7, 8, 9, 10, 11] rfl (by decide) 0 5 rfl rfl) rfl rfl hl.1 rfl (lv_room (Nat.le_of_ble_eq_true rfl)) dX5_prefer_24 ⟨Nat.zero_le _, Nat.zero_le _⟩) (fun H locs hw => ?_)
      have hw : Wd D A s.heap (zwM cI cJ aM Mnow Mread u10.1 u10.2 Mtext Mletters Mheads Msets Mballots Mranks Mloads Mbelow Morder Melected Mmembers Mabove Munder Mspot Mvalue) H locs := hw
      refine lv_iload_n hx hb dX5_prefer_27 rfl (lv_at hl 0 rfl) ?_
      refine lv_istore_n (lv' := [(3, .int u7), (2, .int u7), (0, .ref (aM 0)), (1, .int p0)]) hx hb dX5_prefer_28 rfl hl (by decide) rfl (fun ls hl => ?_)
      exact b29 N p0 u7 u7 Mnow u10.1 u10.2 hf H locs ls hw (lv_sub hl [2, 3, 1, 0] rfl)
    · replace hf := zk_t c9 hf
      refine lv_bipush (v := (-2)) hx hb dX5_prefer_20 (by decide) ?_
      cases hf
      exact zk_iret hx hb hr hlocks rfl hQ hw [0, 1, 2, 3, 4, 5, 6, 7, 8, 9, 10, 11] rfl (by decide) dX5_prefer_22
  · replace hf := zk_t c6 hf
    refine lv_iconst (v := (-1)) hx hb dX5_prefer_8 (by decide) ?_
    cases hf
    exact zk_iret hx hb hr hlocks rfl hQ hw [0, 1, 2, 3, 4, 5, 6, 7, 8, 9, 10, 11] rfl (by decide) dX5_prefer_9
set_option maxHeartbeats 4000000 in
set_option maxRecDepth 100000 in
theorem kX5_undo (l : Launch) (D : va_G) (cI cJ cO : ClassId) (N : Nat) (aM : Nat → Nat) (Mnow : Nat → Int32) (Mread : Nat → Int32) (Mpast : Nat → Int32) (Mchanges : Int32) (Mtext : Nat → Int32) (Mletters : Int32) (Mheads : Nat → Int32) (Msets : Nat → Int32) (Mballots : Int32) (Mranks : Nat → Int32) (Mloads : Nat → Int64) (Mbelow : Int64) (Morder : Nat → Int32) (Melected : Int32) (Mmembers : Int32) (Mabove : Nat → Int64) (Munder : Nat → Int64) (Mspot : Int32) (Mvalue : Int32) (u : Int32 × (Nat → Int32) × (Int32)) (hf : fX5_undo N Mnow Mpast Mchanges = some u) : CtI l yX5_undo wsX5_undo (zk_rm 0 0) D cI cJ cO [.ref (aM 0)] (zwM cI cJ aM Mnow Mread Mpast Mchanges Mtext Mletters Mheads Msets Mballots Mranks Mloads Mbelow Morder Melected Mmembers Mabove Munder Mspot Mvalue) (zwM cI cJ aM u.2.1 Mread Mpast u.2.2 Mtext Mletters Mheads Msets Mballots Mranks Mloads Mbelow Morder Melected Mmembers Mabove Munder Mspot Mvalue) (u.1) := by
  refine zk_enter (cc := cX5_undo) (maxL := 2) (ret := some .int) (own := RX5) (Qf := fun A => QwI D (zwM cI cJ aM u.2.1 Mread Mpast u.2.2 Mtext Mletters Mheads Msets Mballots Mranks Mloads Mbelow Morder Melected Mmembers Mabove Munder Mspot Mvalue) (u.1) A) (by decide) rfl rfl (Nat.le_of_ble_eq_true rfl) ?_
  intro p e s m args below meth c A Q H locs ls hC hQ hw hl
  obtain ⟨hx, hb, hml, hr, hts, hown, hlocks, hN, hK, hA⟩ := hC
  have hl : lv_has ls 2 [(0, .ref (aM 0))] := hl
  have hiX5 : ∀ w ∈ u_ws RX5 TX5 19, w ∈ wsX5_undo := by decide +kernel
  have hq0 := hts (.fieldLink RX5 106 "LoadCouncilModel" "changes" "I") (by decide +kernel)
  have hq1 := hts (.fieldLink RX5 7 "LoadCouncilModel" "now" "[I") (by decide +kernel)
  have hq2 := hts (.fieldLink RX5 16 "LoadCouncilModel" "past" "[I") (by decide +kernel)
  have b22 : ∀ (n22 : Nat), ∀ (x1 : Int32) (Mnow : Nat → Int32) (Mchanges : Int32), fX5_undo_b22 N n22 x1 Mnow Mpast Mchanges = some u → ∀ (H : Heap) (locs : List Loc) (ls : Array Slot), Wd D A s.heap (zwM cI cJ aM Mnow Mread Mpast Mchanges Mtext Mletters Mheads Msets Mballots Mranks Mloads Mbelow Morder Melected Mmembers Mabove Munder Mspot Mvalue) H locs → lv_has ls 2 [(0, .ref (aM 0)), (1, .int x1)] → W p l e (zk_rm 0 0) s m args below meth c H locs 0 0 Q (F0 m 22 ls []) := by
    intro n22
    induction n22 with
    | zero =>
      intro x1 Mnow Mchanges hf
      exact zk_none hf
    | succ n22 ih22 =>
      intro x1 Mnow Mchanges hf H locs ls hw hl
      rw [fX5_undo_b22] at hf
      refine lv_iload_n hx hb dX5_undo_22 rfl (lv_at hl 1 rfl) ?_
      refine lv_bipush (v := 32) hx hb dX5_undo_23 (by decide) ?_
      refine lv_icmp_ge (tgt := 54) hx hb dX5_undo_25 (by decide) (fun c1 => ?_) (fun c1 => ?_)
      · replace hf := zk_t c1 hf
        refine lv_aload_n hx hb dX5_undo_54 rfl (lv_at hl 0 rfl) ?_
        refine va_get (D := D) (ci := 5) (v := .int Mchanges) (C := RX5) (T := TX5) (N := 19) hx hb hts hiX5 hown hK hw.1 0 rfl rfl 3 (by decide) hq0 (fun _ h9 => h9) rfl dX5_undo_55 ?_
        cases hf
        exact zk_iret hx hb hr hlocks rfl hQ hw [0, 1, 2, 3, 4, 5, 6, 7, 8, 9, 10, 11] rfl (by decide) dX5_undo_58
      · replace hf := zk_f c1 hf
        refine lv_aload_n hx hb dX5_undo_28 rfl (lv_at hl 0 rfl) ?_
        refine va_get (D := D) (ci := 5) (v := .ref (aM 1)) (C := RX5) (T := TX5) (N := 19) hx hb hts hiX5 hown hK hw.1 0 rfl rfl 0 (by decide) hq1 (fun _ h9 => h9) rfl dX5_undo_29 ?_
        refine lv_iload_n hx hb dX5_undo_32 rfl (lv_at hl 1 rfl) ?_
        refine lv_aload_n hx hb dX5_undo_33 rfl (lv_at hl 0 rfl) ?_
        refine va_get (D := D) (ci := 5) (v := .ref (aM 3)) (C := RX5) (T := TX5) (N := 19) hx hb hts hiX5 hown hK hw.1 0 rfl rfl 2 (by decide) hq2 (fun _ h9 => h9) rfl dX5_undo_34 ?_
        refine lv_bipush (v := 32) hx hb dX5_undo_37 (by decide) ?_
        refine lv_aload_n hx hb dX5_undo_39 rfl (lv_at hl 0 rfl) ?_
        refine va_get (D := D) (ci := 5) (v := .int Mchanges) (C := RX5) (T := TX5) (N := 19) hx hb hts hiX5 hown hK hw.1 0 rfl rfl 3 (by decide) hq0 (fun _ h9 => h9) rfl dX5_undo_40 ?_
        refine lv_imul hx hb dX5_undo_43 ?_
        refine lv_iload_n hx hb dX5_undo_44 rfl (lv_at hl 1 rfl) ?_
        refine lv_iadd hx hb dX5_undo_45 ?_
        obtain ⟨h2, hf⟩ := zk_ck hf
        refine zk_iald hx hb hK hw 3 rfl h2 (j := (((32 : Int32) * Mchanges) + x1).toNatClampNeg) rfl dX5_undo_46 ?_
        obtain ⟨h3, hf⟩ := zk_ck hf
        refine zk_iast hx hb hK hw 1 rfl h3 (j := x1.toNatClampNeg) rfl dX5_undo_47 (fun H locs hw => ?_)
        have hw : Wd D A s.heap (zwM cI cJ aM (upd Mnow x1.toNatClampNeg (Mpast ((((32 : Int32) * Mchanges) + x1).toNatClampNeg))) Mread Mpast Mchanges Mtext Mletters Mheads Msets Mballots Mranks Mloads Mbelow Morder Melected Mmembers Mabove Munder Mspot Mvalue) H locs := hw
        refine lv_iinc (v := (x1 + (1 : Int32))) (lv' := [(1, .int (x1 + (1 : Int32))), (0, .ref (aM 0))]) hx hb dX5_undo_48 hl (k := 1) rfl rfl (by decide) rfl (fun ls hl => ?_)
        refine lv_goto (tgt := 22) hx hb dX5_undo_51 (by decide) ?_
        exact ih22 (x1 + (1 : Int32)) (upd Mnow x1.toNatClampNeg (Mpast ((((32 : Int32) * Mchanges) + x1).toNatClampNeg))) Mchanges hf H locs ls hw (lv_sub hl [1, 0] rfl)
  unfold fX5_undo at hf
  refine lv_aload_n hx hb dX5_undo_0 rfl (lv_at hl 0 rfl) ?_
  refine va_get (D := D) (ci := 5) (v := .int Mchanges) (C := RX5) (T := TX5) (N := 19) hx hb hts hiX5 hown hK hw.1 0 rfl rfl 3 (by decide) hq0 (fun _ h9 => h9) rfl dX5_undo_1 ?_
  refine lv_if_ne (tgt := 10) hx hb dX5_undo_4 (by decide) (fun c4 => ?_) (fun c4 => ?_)
  · replace hf := zk_f c4 hf
    refine lv_aload_n hx hb dX5_undo_10 rfl (lv_at hl 0 rfl) ?_
    refine lv_dup hx hb dX5_undo_11 rfl ?_
    refine va_get (D := D) (ci := 5) (v := .int Mchanges) (C := RX5) (T := TX5) (N := 19) hx hb hts hiX5 hown hK hw.1 0 rfl rfl 3 (by decide) hq0 (fun _ h9 => h9) rfl dX5_undo_12 ?_
    refine lv_iconst (v := 1) hx hb dX5_undo_15 (by decide) ?_
    refine lv_isub hx hb dX5_undo_16 ?_
    refine va_put (D := D) (ci := 5) (v := .int (Mchanges - (1 : Int32))) (C := RX5) (T := TX5) (N := 19) hx hb hts hiX5 tyX5 tyX5_ok nmX5 hown hK hw.1 hw.2.1 hw.2.2 0 rfl rfl 3 (by decide) hq0 (fun _ h9 => h9) rfl (tyX5_ok 3 (by decide)) rfl rfl (Nat.le_of_ble_eq_true rfl) dX5_undo_17 (fun H locs hP hD hS => ?_)
    have hw : Wd D A s.heap (zwM cI cJ aM Mnow Mread Mpast (Mchanges - (1 : Int32)) Mtext Mletters Mheads Msets Mballots Mranks Mloads Mbelow Morder Melected Mmembers Mabove Munder Mspot Mvalue) H locs := ⟨hP, hD, hS⟩
    clear hP hD hS
    refine lv_iconst (v := 0) hx hb dX5_undo_20 (by decide) ?_
    refine lv_istore_n (lv' := [(1, .int (0 : Int32)), (0, .ref (aM 0))]) hx hb dX5_undo_21 rfl hl (by decide) rfl (fun ls hl => ?_)
    exact b22 N (0 : Int32) Mnow (Mchanges - (1 : Int32)) hf H locs ls hw (lv_sub hl [1, 0] rfl)
  · replace hf := zk_t c4 hf
    refine lv_bipush (v := (-2)) hx hb dX5_undo_7 (by decide) ?_
    cases hf
    exact zk_iret hx hb hr hlocks rfl hQ hw [0, 1, 2, 3, 4, 5, 6, 7, 8, 9, 10, 11] rfl (by decide) dX5_undo_9
set_option maxHeartbeats 4000000 in
set_option maxRecDepth 100000 in
theorem kX5_lays (l : Launch) (D : va_G) (cI cJ cO : ClassId) (N : Nat) (aM : Nat → Nat) (Mnow : Nat → Int32) (Mread : Nat → Int32) (Mpast : Nat → Int32) (Mchanges : Int32) (Mtext : Nat → Int32) (Mletters : Int32) (Mheads : Nat → Int32) (Msets : Nat → Int32) (Mballots : Int32) (Mranks : Nat → Int32) (Mloads : Nat → Int64) (Mbelow : Int64) (Morder : Nat → Int32) (Melected : Int32) (Mmembers : Int32) (Mabove : Nat → Int64) (Munder : Nat → Int64) (Mspot : Int32) (Mvalue : Int32) (u : (Nat → Int32) × (Nat → Int32) × (Int32) × (Nat → Int32)) (hf : fX5_lays N Mnow Mheads Msets Mballots Mranks = some u) : CtV l yX5_lays wsX5_lays (zk_rm 0 0) D cI cJ cO [.ref (aM 0)] (zwM cI cJ aM Mnow Mread Mpast Mchanges Mtext Mletters Mheads Msets Mballots Mranks Mloads Mbelow Morder Melected Mmembers Mabove Munder Mspot Mvalue) (zwM cI cJ aM Mnow Mread Mpast Mchanges Mtext Mletters u.1 u.2.1 u.2.2.1 u.2.2.2 Mloads Mbelow Morder Melected Mmembers Mabove Munder Mspot Mvalue) := by
  refine zk_enter (cc := cX5_lays) (maxL := 2) (ret := none) (own := RX5) (Qf := fun A => QwV D (zwM cI cJ aM Mnow Mread Mpast Mchanges Mtext Mletters u.1 u.2.1 u.2.2.1 u.2.2.2 Mloads Mbelow Morder Melected Mmembers Mabove Munder Mspot Mvalue) A) (by decide) rfl rfl (Nat.le_of_ble_eq_true rfl) ?_
  intro p e s m args below meth c A Q H locs ls hC hQ hw hl
  obtain ⟨hx, hb, hml, hr, hts, hown, hlocks, hN, hK, hA⟩ := hC
  have hl : lv_has ls 2 [(0, .ref (aM 0))] := hl
  have hiX5 : ∀ w ∈ u_ws RX5 TX5 19, w ∈ wsX5_lays := by decide +kernel
  have hq0 := hts (.fieldLink RX5 7 "LoadCouncilModel" "now" "[I") (by decide +kernel)
  have hq1 := hts (.fieldLink RX5 28 "LoadCouncilModel" "ranks" "[I") (by decide +kernel)
  have hq2 := hts (.fieldLink RX5 134 "LoadCouncilModel" "ballots" "I") (by decide +kernel)
  have hq3 := hts (.fieldLink RX5 22 "LoadCouncilModel" "heads" "[I") (by decide +kernel)
  have hq4 := hts (.fieldLink RX5 25 "LoadCouncilModel" "sets" "[I") (by decide +kernel)
  have b57 : ∀ (n57 : Nat), ∀ (x1 : Int32) (Mheads : Nat → Int32) (Msets : Nat → Int32) (Mballots : Int32) (Mranks : Nat → Int32), fX5_lays_b57 N n57 x1 Mnow Mheads Msets Mballots Mranks = some u → ∀ (H : Heap) (locs : List Loc) (ls : Array Slot), Wd D A s.heap (zwM cI cJ aM Mnow Mread Mpast Mchanges Mtext Mletters Mheads Msets Mballots Mranks Mloads Mbelow Morder Melected Mmembers Mabove Munder Mspot Mvalue) H locs → lv_has ls 2 [(0, .ref (aM 0)), (1, .int x1)] → W p l e (zk_rm 0 0) s m args below meth c H locs 0 0 Q (F0 m 57 ls []) := by
    intro n57
    induction n57 with
    | zero =>
      intro x1 Mheads Msets Mballots Mranks hf
      exact zk_none hf
    | succ n57 ih57 =>
      intro x1 Mheads Msets Mballots Mranks hf H locs ls hw hl
      rw [fX5_lays_b57] at hf
      refine lv_iload_n hx hb dX5_lays_57 rfl (lv_at hl 1 rfl) ?_
      refine lv_aload_n hx hb dX5_lays_58 rfl (lv_at hl 0 rfl) ?_
      refine va_get (D := D) (ci := 5) (v := .ref (aM 1)) (C := RX5) (T := TX5) (N := 19) hx hb hts hiX5 hown hK hw.1 0 rfl rfl 0 (by decide) hq0 (fun _ h9 => h9) rfl dX5_lays_59 ?_
      refine lv_iconst (v := 0) hx hb dX5_lays_62 (by decide) ?_
      refine zk_iald hx hb hK hw 1 rfl (zk_in (by decide)) (j := 0) rfl dX5_lays_63 ?_
      refine lv_icmp_ge (tgt := 88) hx hb dX5_lays_64 (by decide) (fun c1 => ?_) (fun c1 => ?_)
      · replace hf := zk_t c1 hf
        cases hf
        exact zk_vret hx hb hr hlocks hQ hw [0, 1, 2, 3, 4, 5, 6, 7, 8, 9, 10, 11] rfl (by decide) dX5_lays_88
      · replace hf := zk_f c1 hf
        refine lv_aload_n hx hb dX5_lays_67 rfl (lv_at hl 0 rfl) ?_
        refine va_get (D := D) (ci := 5) (v := .ref (aM 7)) (C := RX5) (T := TX5) (N := 19) hx hb hts hiX5 hown hK hw.1 0 rfl rfl 9 (by decide) hq1 (fun _ h9 => h9) rfl dX5_lays_68 ?_
        refine lv_iload_n hx hb dX5_lays_71 rfl (lv_at hl 1 rfl) ?_
        refine lv_aload_n hx hb dX5_lays_72 rfl (lv_at hl 0 rfl) ?_
        refine va_get (D := D) (ci := 5) (v := .ref (aM 1)) (C := RX5) (T := TX5) (N := 19) hx hb hts hiX5 hown hK hw.1 0 rfl rfl 0 (by decide) hq0 (fun _ h9 => h9) rfl dX5_lays_73 ?_
        refine lv_bipush (v := 24) hx hb dX5_lays_76 (by decide) ?_
        refine lv_iload_n hx hb dX5_lays_78 rfl (lv_at hl 1 rfl) ?_
        refine lv_iadd hx hb dX5_lays_79 ?_
        obtain ⟨h2, hf⟩ := zk_ck hf
        refine zk_iald hx hb hK hw 1 rfl h2 (j := ((24 : Int32) + x1).toNatClampNeg) rfl dX5_lays_80 ?_
        obtain ⟨h3, hf⟩ := zk_ck hf
        refine zk_iast hx hb hK hw 7 rfl h3 (j := x1.toNatClampNeg) rfl dX5_lays_81 (fun H locs hw => ?_)
        have hw : Wd D A s.heap (zwM cI cJ aM Mnow Mread Mpast Mchanges Mtext Mletters Mheads Msets Mballots (upd Mranks x1.toNatClampNeg (Mnow (((24 : Int32) + x1).toNatClampNeg))) Mloads Mbelow Morder Melected Mmembers Mabove Munder Mspot Mvalue) H locs := hw
        refine lv_iinc (v := (x1 + (1 : Int32))) (lv' := [(1, .int (x1 + (1 : Int32))), (0, .ref (aM 0))]) hx hb dX5_lays_82 hl (k := 1) rfl rfl (by decide) rfl (fun ls hl => ?_)
        refine lv_goto (tgt := 57) hx hb dX5_lays_85 (by decide) ?_
        exact ih57 (x1 + (1 : Int32)) Mheads Msets Mballots (upd Mranks x1.toNatClampNeg (Mnow (((24 : Int32) + x1).toNatClampNeg))) hf H locs ls hw (lv_sub hl [1, 0] rfl)
  have b55 : ∀ (Mheads : Nat → Int32) (Msets : Nat → Int32) (Mballots : Int32) (Mranks : Nat → Int32), fX5_lays_b55 N Mnow Mheads Msets Mballots Mranks = some u → ∀ (H : Heap) (locs : List Loc) (ls : Array Slot), Wd D A s.heap (zwM cI cJ aM Mnow Mread Mpast Mchanges Mtext Mletters Mheads Msets Mballots Mranks Mloads Mbelow Morder Melected Mmembers Mabove Munder Mspot Mvalue) H locs → lv_has ls 2 [(0, .ref (aM 0))] → W p l e (zk_rm 0 0) s m args below meth c H locs 0 0 Q (F0 m 55 ls []) := by
    intro Mheads Msets Mballots Mranks hf H locs ls hw hl
    unfold fX5_lays_b55 at hf
    refine lv_iconst (v := 0) hx hb dX5_lays_55 (by decide) ?_
    refine lv_istore_n (lv' := [(1, .int (0 : Int32)), (0, .ref (aM 0))]) hx hb dX5_lays_56 rfl hl (by decide) rfl (fun ls hl => ?_)
    exact b57 N (0 : Int32) Mheads Msets Mballots Mranks hf H locs ls hw (lv_sub hl [1, 0] rfl)
  have b12 : ∀ (n12 : Nat), ∀ (x1 : Int32) (Mheads : Nat → Int32) (Msets : Nat → Int32) (Mballots : Int32) (Mranks : Nat → Int32), fX5_lays_b12 N n12 x1 Mnow Mheads Msets Mballots Mranks = some u → ∀ (H : Heap) (locs : List Loc) (ls : Array Slot), Wd D A s.heap (zwM cI cJ aM Mnow Mread Mpast Mchanges Mtext Mletters Mheads Msets Mballots Mranks Mloads Mbelow Morder Melected Mmembers Mabove Munder Mspot Mvalue) H locs → lv_has ls 2 [(0, .ref (aM 0)), (1, .int x1)] → W p l e (zk_rm 0 0) s m args below meth c H locs 0 0 Q (F0 m 12 ls []) := by
    intro n12
    induction n12 with
    | zero =>
      intro x1 Mheads Msets Mballots Mranks hf
      exact zk_none hf
    | succ n12 ih12 =>
      intro x1 Mheads Msets Mballots Mranks hf H locs ls hw hl
      rw [fX5_lays_b12] at hf
      refine lv_iload_n hx hb dX5_lays_12 rfl (lv_at hl 1 rfl) ?_
      refine lv_aload_n hx hb dX5_lays_13 rfl (lv_at hl 0 rfl) ?_
      refine va_get (D := D) (ci := 5) (v := .int Mballots) (C := RX5) (T := TX5) (N := 19) hx hb hts hiX5 hown hK hw.1 0 rfl rfl 8 (by decide) hq2 (fun _ h9 => h9) rfl dX5_lays_14 ?_
      refine lv_icmp_ge (tgt := 55) hx hb dX5_lays_17 (by decide) (fun c4 => ?_) (fun c4 => ?_)
      · replace hf := zk_t c4 hf
        exact b55 Mheads Msets Mballots Mranks hf H locs ls hw (lv_sub hl [0] rfl)
      · replace hf := zk_f c4 hf
        refine lv_aload_n hx hb dX5_lays_20 rfl (lv_at hl 0 rfl) ?_
        refine va_get (D := D) (ci := 5) (v := .ref (aM 5)) (C := RX5) (T := TX5) (N := 19) hx hb hts hiX5 hown hK hw.1 0 rfl rfl 6 (by decide) hq3 (fun _ h9 => h9) rfl dX5_lays_21 ?_
        refine lv_iload_n hx hb dX5_lays_24 rfl (lv_at hl 1 rfl) ?_
        refine lv_aload_n hx hb dX5_lays_25 rfl (lv_at hl 0 rfl) ?_
        refine va_get (D := D) (ci := 5) (v := .ref (aM 1)) (C := RX5) (T := TX5) (N := 19) hx hb hts hiX5 hown hK hw.1 0 rfl rfl 0 (by decide) hq0 (fun _ h9 => h9) rfl dX5_lays_26 ?_
        refine lv_iconst (v := 2) hx hb dX5_lays_29 (by decide) ?_
        refine lv_iload_n hx hb dX5_lays_30 rfl (lv_at hl 1 rfl) ?_
        refine lv_iadd hx hb dX5_lays_31 ?_
        obtain ⟨h5, hf⟩ := zk_ck hf
        refine zk_iald hx hb hK hw 1 rfl h5 (j := ((2 : Int32) + x1).toNatClampNeg) rfl dX5_lays_32 ?_
        obtain ⟨h6, hf⟩ := zk_ck hf
        refine zk_iast hx hb hK hw 5 rfl h6 (j := x1.toNatClampNeg) rfl dX5_lays_33 (fun H locs hw => ?_)
        have hw : Wd D A s.heap (zwM cI cJ aM Mnow Mread Mpast Mchanges Mtext Mletters (upd Mheads x1.toNatClampNeg (Mnow (((2 : Int32) + x1).toNatClampNeg))) Msets Mballots Mranks Mloads Mbelow Morder Melected Mmembers Mabove Munder Mspot Mvalue) H locs := hw
        refine lv_aload_n hx hb dX5_lays_34 rfl (lv_at hl 0 rfl) ?_
        refine va_get (D := D) (ci := 5) (v := .ref (aM 6)) (C := RX5) (T := TX5) (N := 19) hx hb hts hiX5 hown hK hw.1 0 rfl rfl 7 (by decide) hq4 (fun _ h9 => h9) rfl dX5_lays_35 ?_
        refine lv_iload_n hx hb dX5_lays_38 rfl (lv_at hl 1 rfl) ?_
        refine lv_aload_n hx hb dX5_lays_39 rfl (lv_at hl 0 rfl) ?_
        refine va_get (D := D) (ci := 5) (v := .ref (aM 1)) (C := RX5) (T := TX5) (N := 19) hx hb hts hiX5 hown hK hw.1 0 rfl rfl 0 (by decide) hq0 (fun _ h9 => h9) rfl dX5_lays_40 ?_
        refine lv_bipush (v := 12) hx hb dX5_lays_43 (by decide) ?_
        refine lv_iload_n hx hb dX5_lays_45 rfl (lv_at hl 1 rfl) ?_
        refine lv_iadd hx hb dX5_lays_46 ?_
        obtain ⟨h7, hf⟩ := zk_ck hf
        refine zk_iald hx hb hK hw 1 rfl h7 (j := ((12 : Int32) + x1).toNatClampNeg) rfl dX5_lays_47 ?_
        refine zk_iast hx hb hK hw 6 rfl h6 (j := x1.toNatClampNeg) rfl dX5_lays_48 (fun H locs hw => ?_)
        have hw : Wd D A s.heap (zwM cI cJ aM Mnow Mread Mpast Mchanges Mtext Mletters (upd Mheads x1.toNatClampNeg (Mnow (((2 : Int32) + x1).toNatClampNeg))) (upd Msets x1.toNatClampNeg (Mnow (((12 : Int32) + x1).toNatClampNeg))) Mballots Mranks Mloads Mbelow Morder Melected Mmembers Mabove Munder Mspot Mvalue) H locs := hw
        refine lv_iinc (v := (x1 + (1 : Int32))) (lv' := [(1, .int (x1 + (1 : Int32))), (0, .ref (aM 0))]) hx hb dX5_lays_49 hl (k := 1) rfl rfl (by decide) rfl (fun ls hl => ?_)
        refine lv_goto (tgt := 12) hx hb dX5_lays_52 (by decide) ?_
        exact ih12 (x1 + (1 : Int32)) (upd Mheads x1.toNatClampNeg (Mnow (((2 : Int32) + x1).toNatClampNeg))) (upd Msets x1.toNatClampNeg (Mnow (((12 : Int32) + x1).toNatClampNeg))) Mballots Mranks hf H locs ls hw (lv_sub hl [1, 0] rfl)
  unfold fX5_lays at hf
  refine lv_aload_n hx hb dX5_lays_0 rfl (lv_at hl 0 rfl) ?_
  refine lv_aload_n hx hb dX5_lays_1 rfl (lv_at hl 0 rfl) ?_
  refine va_get (D := D) (ci := 5) (v := .ref (aM 1)) (C := RX5) (T := TX5) (N := 19) hx hb hts hiX5 hown hK hw.1 0 rfl rfl 0 (by decide) hq0 (fun _ h9 => h9) rfl dX5_lays_2 ?_
  refine lv_iconst (v := 1) hx hb dX5_lays_5 (by decide) ?_
  refine zk_iald hx hb hK hw 1 rfl (zk_in (by decide)) (j := 1) rfl dX5_lays_6 ?_
  refine va_put (D := D) (ci := 5) (v := .int (Mnow 1)) (C := RX5) (T := TX5) (N := 19) hx hb hts hiX5 tyX5 tyX5_ok nmX5 hown hK hw.1 hw.2.1 hw.2.2 0 rfl rfl 8 (by decide) hq2 (fun _ h9 => h9) rfl (tyX5_ok 8 (by decide)) rfl rfl (Nat.le_of_ble_eq_true rfl) dX5_lays_7 (fun H locs hP hD hS => ?_)
  have hw : Wd D A s.heap (zwM cI cJ aM Mnow Mread Mpast Mchanges Mtext Mletters Mheads Msets (Mnow 1) Mranks Mloads Mbelow Morder Melected Mmembers Mabove Munder Mspot Mvalue) H locs := ⟨hP, hD, hS⟩
  clear hP hD hS
  refine lv_iconst (v := 0) hx hb dX5_lays_10 (by decide) ?_
  refine lv_istore_n (lv' := [(1, .int (0 : Int32)), (0, .ref (aM 0))]) hx hb dX5_lays_11 rfl hl (by decide) rfl (fun ls hl => ?_)
  exact b12 N (0 : Int32) Mheads Msets (Mnow 1) Mranks hf H locs ls hw (lv_sub hl [1, 0] rfl)
set_option maxHeartbeats 4000000 in
set_option maxRecDepth 100000 in
theorem kX5_supportOf (l : Launch) (D : va_G) (cI cJ cO : ClassId) (N : Nat) (aM : Nat → Nat) (p0 : Int32) (Mnow : Nat → Int32) (Mread : Nat → Int32) (Mpast : Nat → Int32) (Mchanges : Int32) (Mtext : Nat → Int32) (Mletters : Int32) (Mheads : Nat → Int32) (Msets : Nat → Int32) (Mballots : Int32) (Mranks : Nat → Int32) (Mloads : Nat → Int64) (Mbelow : Int64) (Morder : Nat → Int32) (Melected : Int32) (Mmembers : Int32) (Mabove : Nat → Int64) (Munder : Nat → Int64) (Mspot : Int32) (Mvalue : Int32) (u : Int32) (hf : fX5_supportOf N p0 Mheads Msets Mballots = some u) : CtI l yX5_supportOf wsX5_supportOf (zk_rm 1 21) D cI cJ cO [.ref (aM 0), .int p0] (zwM cI cJ aM Mnow Mread Mpast Mchanges Mtext Mletters Mheads Msets Mballots Mranks Mloads Mbelow Morder Melected Mmembers Mabove Munder Mspot Mvalue) (zwM cI cJ aM Mnow Mread Mpast Mchanges Mtext Mletters Mheads Msets Mballots Mranks Mloads Mbelow Morder Melected Mmembers Mabove Munder Mspot Mvalue) (u) := by
  refine zk_enter (cc := cX5_supportOf) (maxL := 4) (ret := some .int) (own := RX5) (Qf := fun A => QwI D (zwM cI cJ aM Mnow Mread Mpast Mchanges Mtext Mletters Mheads Msets Mballots Mranks Mloads Mbelow Morder Melected Mmembers Mabove Munder Mspot Mvalue) (u) A) (by decide) rfl rfl (Nat.le_of_ble_eq_true rfl) ?_
  intro p e s m args below meth c A Q H locs ls hC hQ hw hl
  obtain ⟨hx, hb, hml, hr, hts, hown, hlocks, hN, hK, hA⟩ := hC
  have hl : lv_has ls 4 [(0, .ref (aM 0)), (1, .int p0)] := hl
  have hiX5 : ∀ w ∈ u_ws RX5 TX5 19, w ∈ wsX5_supportOf := by decide +kernel
  have hq0 := hts (.fieldLink RX5 134 "LoadCouncilModel" "ballots" "I") (by decide +kernel)
  have hq1 := hts (.fieldLink RX5 25 "LoadCouncilModel" "sets" "[I") (by decide +kernel)
  have hq2 := hts (.fieldLink RX5 22 "LoadCouncilModel" "heads" "[I") (by decide +kernel)
  have b4 : ∀ (n4 : Nat), ∀ (x1 : Int32) (x2 : Int32) (x3 : Int32), fX5_supportOf_b4 N n4 x1 x2 x3 Mheads Msets Mballots = some u → ∀ (H : Heap) (locs : List Loc) (ls : Array Slot), Wd D A s.heap (zwM cI cJ aM Mnow Mread Mpast Mchanges Mtext Mletters Mheads Msets Mballots Mranks Mloads Mbelow Morder Melected Mmembers Mabove Munder Mspot Mvalue) H locs → lv_has ls 4 [(0, .ref (aM 0)), (1, .int x1), (2, .int x2), (3, .int x3)] → W p l e (zk_rm 1 21) s m args below meth c H locs 0 0 Q (F0 m 4 ls []) := by
    intro n4
    induction n4 with
    | zero =>
      intro x1 x2 x3 hf
      exact zk_none hf
    | succ n4 ih4 =>
      have b36 : ∀ (x1 : Int32) (x3 : Int32) (t0 : Int32) (t1 : Int32), fX5_supportOf_b36 N (fun z0 z1 z2 z3 z4 z5 => fX5_supportOf_b4 N n4 z0 z1 z2 z3 z4 z5) x1 x3 t0 t1 Mheads Msets Mballots = some u → ∀ (H : Heap) (locs : List Loc) (ls : Array Slot), Wd D A s.heap (zwM cI cJ aM Mnow Mread Mpast Mchanges Mtext Mletters Mheads Msets Mballots Mranks Mloads Mbelow Morder Melected Mmembers Mabove Munder Mspot Mvalue) H locs → lv_has ls 4 [(0, .ref (aM 0)), (1, .int x1), (3, .int x3)] → W p l e (zk_rm 1 21) s m args below meth c H locs 0 0 Q (F0 m 36 ls [.int t1, .int t0]) := by
        intro x1 x3 t0 t1 hf H locs ls hw hl
        unfold fX5_supportOf_b36 at hf
        refine lv_iadd hx hb dX5_supportOf_36 ?_
        refine lv_istore_n (lv' := [(2, .int (t0 + t1)), (0, .ref (aM 0)), (1, .int x1), (3, .int x3)]) hx hb dX5_supportOf_37 rfl hl (by decide) rfl (fun ls hl => ?_)
        refine lv_iinc (v := (x3 + (1 : Int32))) (lv' := [(3, .int (x3 + (1 : Int32))), (2, .int (t0 + t1)), (0, .ref (aM 0)), (1, .int x1)]) hx hb dX5_supportOf_38 hl (k := 3) rfl rfl (by decide) rfl (fun ls hl => ?_)
        refine lv_goto (tgt := 4) hx hb dX5_supportOf_41 (by decide) ?_
        exact ih4 x1 (t0 + t1) (x3 + (1 : Int32)) hf H locs ls hw (lv_sub hl [2, 3, 1, 0] rfl)
      intro x1 x2 x3 hf H locs ls hw hl
      rw [fX5_supportOf_b4] at hf
      refine lv_iload_n hx hb dX5_supportOf_4 rfl (lv_at hl 3 rfl) ?_
      refine lv_aload_n hx hb dX5_supportOf_5 rfl (lv_at hl 0 rfl) ?_
      refine va_get (D := D) (ci := 5) (v := .int Mballots) (C := RX5) (T := TX5) (N := 19) hx hb hts hiX5 hown hK hw.1 0 rfl rfl 8 (by decide) hq0 (fun _ h9 => h9) rfl dX5_supportOf_6 ?_
      refine lv_icmp_ge (tgt := 44) hx hb dX5_supportOf_9 (by decide) (fun c1 => ?_) (fun c1 => ?_)
      · replace hf := zk_t c1 hf
        refine lv_iload_n hx hb dX5_supportOf_44 rfl (lv_at hl 2 rfl) ?_
        cases hf
        exact zk_iret hx hb hr hlocks rfl hQ hw [0, 1, 2, 3, 4, 5, 6, 7, 8, 9, 10, 11] rfl (by decide) dX5_supportOf_45
      · replace hf := zk_f c1 hf
        refine lv_iload_n hx hb dX5_supportOf_12 rfl (lv_at hl 2 rfl) ?_
        refine lv_aload_n hx hb dX5_supportOf_13 rfl (lv_at hl 0 rfl) ?_
        refine va_get (D := D) (ci := 5) (v := .ref (aM 6)) (C := RX5) (T := TX5) (N := 19) hx hb hts hiX5 hown hK hw.1 0 rfl rfl 7 (by decide) hq1 (fun _ h9 => h9) rfl dX5_supportOf_14 ?_
        refine lv_iload_n hx hb dX5_supportOf_17 rfl (lv_at hl 3 rfl) ?_
        obtain ⟨h2, hf⟩ := zk_ck hf
        refine zk_iald hx hb hK hw 6 rfl h2 (j := x3.toNatClampNeg) rfl dX5_supportOf_18 ?_
        refine lv_iload_n hx hb dX5_supportOf_19 rfl (lv_at hl 1 rfl) ?_
        obtain ⟨u3, e4, hf⟩ := zk_bd hf
        refine zk_calli (wc := []) (wr := zwM cI cJ aM Mnow Mread Mpast Mchanges Mtext Mletters Mheads Msets Mballots Mranks Mloads Mbelow Morder Melected Mmembers Mabove Munder Mspot Mvalue) hw hA [] [0, 1, 2, 3, 4, 5, 6, 7, 8, 9, 10, 11] rfl rfl (by decide) (by decide) (va_runS (As := [.int (Msets x3.toNatClampNeg), .int x1]) (rest := [.int x2]) ⟨hx, hb, hml, hown, hts⟩ (kX5_has l D cI cJ cO N (Msets x3.toNatClampNeg) x1 u3 e4 H.size) (va_cwS 2 hts gX5_supportOf_X5_has rfl rfl rfl (by decide +kernel) ⟨Nat.le_of_ble_eq_true rfl, Nat.le_of_ble_eq_true rfl⟩) (zk_preS (wc := []) hN hK hw [] rfl (by decide)) rfl rfl hl.1 rfl (lv_room (Nat.le_of_ble_eq_true rfl)) dX5_supportOf_20 ⟨Nat.zero_le _, Nat.zero_le _⟩) (fun H locs hw => ?_)
        have hw : Wd D A s.heap (zwM cI cJ aM Mnow Mread Mpast Mchanges Mtext Mletters Mheads Msets Mballots Mranks Mloads Mbelow Morder Melected Mmembers Mabove Munder Mspot Mvalue) H locs := hw
        refine lv_if_eq (tgt := 35) hx hb dX5_supportOf_23 (by decide) (fun c5 => ?_) (fun c5 => ?_)
        · replace hf := zk_t c5 hf
          refine lv_iconst (v := 0) hx hb dX5_supportOf_35 (by decide) ?_
          exact b36 x1 x3 x2 (0 : Int32) hf H locs ls hw (lv_sub hl [0, 1, 3] rfl)
        · replace hf := zk_f c5 hf
          refine lv_aload_n hx hb dX5_supportOf_26 rfl (lv_at hl 0 rfl) ?_
          refine va_get (D := D) (ci := 5) (v := .ref (aM 5)) (C := RX5) (T := TX5) (N := 19) hx hb hts hiX5 hown hK hw.1 0 rfl rfl 6 (by decide) hq2 (fun _ h9 => h9) rfl dX5_supportOf_27 ?_
          refine lv_iload_n hx hb dX5_supportOf_30 rfl (lv_at hl 3 rfl) ?_
          refine zk_iald hx hb hK hw 5 rfl h2 (j := x3.toNatClampNeg) rfl dX5_supportOf_31 ?_
          refine lv_goto (tgt := 36) hx hb dX5_supportOf_32 (by decide) ?_
          exact b36 x1 x3 x2 (Mheads x3.toNatClampNeg) hf H locs ls hw (lv_sub hl [0, 1, 3] rfl)
  unfold fX5_supportOf at hf
  refine lv_iconst (v := 0) hx hb dX5_supportOf_0 (by decide) ?_
  refine lv_istore_n (lv' := [(2, .int (0 : Int32)), (0, .ref (aM 0)), (1, .int p0)]) hx hb dX5_supportOf_1 rfl hl (by decide) rfl (fun ls hl => ?_)
  refine lv_iconst (v := 0) hx hb dX5_supportOf_2 (by decide) ?_
  refine lv_istore_n (lv' := [(3, .int (0 : Int32)), (2, .int (0 : Int32)), (0, .ref (aM 0)), (1, .int p0)]) hx hb dX5_supportOf_3 rfl hl (by decide) rfl (fun ls hl => ?_)
  exact b4 N p0 (0 : Int32) (0 : Int32) hf H locs ls hw (lv_sub hl [2, 3, 1, 0] rfl)
set_option maxHeartbeats 4000000 in
set_option maxRecDepth 100000 in
theorem kX5_loadOf (l : Launch) (D : va_G) (cI cJ cO : ClassId) (N : Nat) (aM : Nat → Nat) (p0 : Int32) (Mnow : Nat → Int32) (Mread : Nat → Int32) (Mpast : Nat → Int32) (Mchanges : Int32) (Mtext : Nat → Int32) (Mletters : Int32) (Mheads : Nat → Int32) (Msets : Nat → Int32) (Mballots : Int32) (Mranks : Nat → Int32) (Mloads : Nat → Int64) (Mbelow : Int64) (Morder : Nat → Int32) (Melected : Int32) (Mmembers : Int32) (Mabove : Nat → Int64) (Munder : Nat → Int64) (Mspot : Int32) (Mvalue : Int32) (u : Int64) (hf : fX5_loadOf N p0 Mheads Msets Mballots Mloads Mbelow = some u) : CtL l yX5_loadOf wsX5_loadOf (zk_rm 1 21) D cI cJ cO [.ref (aM 0), .int p0] (zwM cI cJ aM Mnow Mread Mpast Mchanges Mtext Mletters Mheads Msets Mballots Mranks Mloads Mbelow Morder Melected Mmembers Mabove Munder Mspot Mvalue) (zwM cI cJ aM Mnow Mread Mpast Mchanges Mtext Mletters Mheads Msets Mballots Mranks Mloads Mbelow Morder Melected Mmembers Mabove Munder Mspot Mvalue) (u) := by
  refine zk_enter (cc := cX5_loadOf) (maxL := 5) (ret := some .long) (own := RX5) (Qf := fun A => QwL D (zwM cI cJ aM Mnow Mread Mpast Mchanges Mtext Mletters Mheads Msets Mballots Mranks Mloads Mbelow Morder Melected Mmembers Mabove Munder Mspot Mvalue) (u) A) (by decide) rfl rfl (Nat.le_of_ble_eq_true rfl) ?_
  intro p e s m args below meth c A Q H locs ls hC hQ hw hl
  obtain ⟨hx, hb, hml, hr, hts, hown, hlocks, hN, hK, hA⟩ := hC
  have hl : lv_has ls 5 [(0, .ref (aM 0)), (1, .int p0)] := hl
  have hiX5 : ∀ w ∈ u_ws RX5 TX5 19, w ∈ wsX5_loadOf := by decide +kernel
  have hq0 := hts (.fieldLink RX5 134 "LoadCouncilModel" "ballots" "I") (by decide +kernel)
  have hq1 := hts (.fieldLink RX5 25 "LoadCouncilModel" "sets" "[I") (by decide +kernel)
  have hq2 := hts (.fieldLink RX5 22 "LoadCouncilModel" "heads" "[I") (by decide +kernel)
  have hq3 := hts (.fieldLink RX5 31 "LoadCouncilModel" "loads" "[J") (by decide +kernel)
  have hq4 := hts (.fieldLink RX5 137 "LoadCouncilModel" "below" "J") (by decide +kernel)
  have b8 : ∀ (n8 : Nat), ∀ (x1 : Int32) (x2 : Int64) (x4 : Int32), fX5_loadOf_b8 N n8 x1 x2 x4 Mheads Msets Mballots Mloads = some u → ∀ (H : Heap) (locs : List Loc) (ls : Array Slot), Wd D A s.heap (zwM cI cJ aM Mnow Mread Mpast Mchanges Mtext Mletters Mheads Msets Mballots Mranks Mloads Mbelow Morder Melected Mmembers Mabove Munder Mspot Mvalue) H locs → lv_has ls 5 [(0, .ref (aM 0)), (1, .int x1), (2, .long x2), (4, .int x4)] → W p l e (zk_rm 1 21) s m args below meth c H locs 0 0 Q (F0 m 8 ls []) := by
    intro n8
    induction n8 with
    | zero =>
      intro x1 x2 x4 hf
      exact zk_none hf
    | succ n8 ih8 =>
      have b52 : ∀ (x1 : Int32) (x4 : Int32) (t0 : Int64) (t1 : Int64), fX5_loadOf_b52 N (fun z0 z1 z2 z3 z4 z5 z6 => fX5_loadOf_b8 N n8 z0 z1 z2 z3 z4 z5 z6) x1 x4 t0 t1 Mheads Msets Mballots Mloads = some u → ∀ (H : Heap) (locs : List Loc) (ls : Array Slot), Wd D A s.heap (zwM cI cJ aM Mnow Mread Mpast Mchanges Mtext Mletters Mheads Msets Mballots Mranks Mloads Mbelow Morder Melected Mmembers Mabove Munder Mspot Mvalue) H locs → lv_has ls 5 [(0, .ref (aM 0)), (1, .int x1), (4, .int x4)] → W p l e (zk_rm 1 21) s m args below meth c H locs 0 0 Q (F0 m 52 ls [.long t1, .long t0]) := by
        intro x1 x4 t0 t1 hf H locs ls hw hl
        unfold fX5_loadOf_b52 at hf
        refine lv_ladd hx hb dX5_loadOf_52 ?_
        refine lv_lstore_n (lv' := [(2, .long (t0 + t1)), (0, .ref (aM 0)), (1, .int x1), (4, .int x4)]) hx hb dX5_loadOf_53 rfl hl (by decide) rfl (fun ls hl => ?_)
        refine lv_iinc (v := (x4 + (1 : Int32))) (lv' := [(4, .int (x4 + (1 : Int32))), (2, .long (t0 + t1)), (0, .ref (aM 0)), (1, .int x1)]) hx hb dX5_loadOf_54 hl (k := 3) rfl rfl (by decide) rfl (fun ls hl => ?_)
        refine lv_goto (tgt := 8) hx hb dX5_loadOf_57 (by decide) ?_
        exact ih8 x1 (t0 + t1) (x4 + (1 : Int32)) hf H locs ls hw (lv_sub hl [2, 3, 1, 0] rfl)
      intro x1 x2 x4 hf H locs ls hw hl
      rw [fX5_loadOf_b8] at hf
      refine lv_iload hx hb dX5_loadOf_8 (lv_at hl 3 rfl) ?_
      refine lv_aload_n hx hb dX5_loadOf_10 rfl (lv_at hl 0 rfl) ?_
      refine va_get (D := D) (ci := 5) (v := .int Mballots) (C := RX5) (T := TX5) (N := 19) hx hb hts hiX5 hown hK hw.1 0 rfl rfl 8 (by decide) hq0 (fun _ h9 => h9) rfl dX5_loadOf_11 ?_
      refine lv_icmp_ge (tgt := 60) hx hb dX5_loadOf_14 (by decide) (fun c1 => ?_) (fun c1 => ?_)
      · replace hf := zk_t c1 hf
        refine lv_lload_n hx hb dX5_loadOf_60 rfl (lv_at hl 2 rfl) ?_
        cases hf
        exact zk_lret hx hb hr hlocks hQ hw [0, 1, 2, 3, 4, 5, 6, 7, 8, 9, 10, 11] rfl (by decide) dX5_loadOf_61
      · replace hf := zk_f c1 hf
        refine lv_lload_n hx hb dX5_loadOf_17 rfl (lv_at hl 2 rfl) ?_
        refine lv_aload_n hx hb dX5_loadOf_18 rfl (lv_at hl 0 rfl) ?_
        refine va_get (D := D) (ci := 5) (v := .ref (aM 6)) (C := RX5) (T := TX5) (N := 19) hx hb hts hiX5 hown hK hw.1 0 rfl rfl 7 (by decide) hq1 (fun _ h9 => h9) rfl dX5_loadOf_19 ?_
        refine lv_iload hx hb dX5_loadOf_22 (lv_at hl 3 rfl) ?_
        obtain ⟨h2, hf⟩ := zk_ck hf
        refine zk_iald hx hb hK hw 6 rfl h2 (j := x4.toNatClampNeg) rfl dX5_loadOf_24 ?_
        refine lv_iload_n hx hb dX5_loadOf_25 rfl (lv_at hl 1 rfl) ?_
        obtain ⟨u3, e4, hf⟩ := zk_bd hf
        refine zk_calli (wc := []) (wr := zwM cI cJ aM Mnow Mread Mpast Mchanges Mtext Mletters Mheads Msets Mballots Mranks Mloads Mbelow Morder Melected Mmembers Mabove Munder Mspot Mvalue) hw hA [] [0, 1, 2, 3, 4, 5, 6, 7, 8, 9, 10, 11] rfl rfl (by decide) (by decide) (va_runS (As := [.int (Msets x4.toNatClampNeg), .int x1]) (rest := [.long x2]) ⟨hx, hb, hml, hown, hts⟩ (kX5_has l D cI cJ cO N (Msets x4.toNatClampNeg) x1 u3 e4 H.size) (va_cwS 2 hts gX5_loadOf_X5_has rfl rfl rfl (by decide +kernel) ⟨Nat.le_of_ble_eq_true rfl, Nat.le_of_ble_eq_true rfl⟩) (zk_preS (wc := []) hN hK hw [] rfl (by decide)) rfl rfl hl.1 rfl (lv_room (Nat.le_of_ble_eq_true rfl)) dX5_loadOf_26 ⟨Nat.zero_le _, Nat.zero_le _⟩) (fun H locs hw => ?_)
        have hw : Wd D A s.heap (zwM cI cJ aM Mnow Mread Mpast Mchanges Mtext Mletters Mheads Msets Mballots Mranks Mloads Mbelow Morder Melected Mmembers Mabove Munder Mspot Mvalue) H locs := hw
        refine lv_if_eq (tgt := 51) hx hb dX5_loadOf_29 (by decide) (fun c5 => ?_) (fun c5 => ?_)
        · replace hf := zk_t c5 hf
          refine lv_lconst (v := 0) hx hb dX5_loadOf_51 (by decide) ?_
          exact b52 x1 x4 x2 (0 : Int64) hf H locs ls hw (lv_sub hl [0, 1, 3] rfl)
        · replace hf := zk_f c5 hf
          refine lv_aload_n hx hb dX5_loadOf_32 rfl (lv_at hl 0 rfl) ?_
          refine va_get (D := D) (ci := 5) (v := .ref (aM 5)) (C := RX5) (T := TX5) (N := 19) hx hb hts hiX5 hown hK hw.1 0 rfl rfl 6 (by decide) hq2 (fun _ h9 => h9) rfl dX5_loadOf_33 ?_
          refine lv_iload hx hb dX5_loadOf_36 (lv_at hl 3 rfl) ?_
          refine zk_iald hx hb hK hw 5 rfl h2 (j := x4.toNatClampNeg) rfl dX5_loadOf_38 ?_
          refine lv_i2l (v := (Mheads x4.toNatClampNeg).toInt64) hx hb dX5_loadOf_39 rfl ?_
          refine lv_aload_n hx hb dX5_loadOf_40 rfl (lv_at hl 0 rfl) ?_
          refine va_get (D := D) (ci := 5) (v := .ref (aM 8)) (C := RX5) (T := TX5) (N := 19) hx hb hts hiX5 hown hK hw.1 0 rfl rfl 10 (by decide) hq3 (fun _ h9 => h9) rfl dX5_loadOf_41 ?_
          refine lv_iload hx hb dX5_loadOf_44 (lv_at hl 3 rfl) ?_
          refine zk_lald hx hb hK hw 8 rfl h2 (j := x4.toNatClampNeg) rfl dX5_loadOf_46 ?_
          refine lv_lmul hx hb dX5_loadOf_47 ?_
          refine lv_goto (tgt := 52) hx hb dX5_loadOf_48 (by decide) ?_
          exact b52 x1 x4 x2 (((Mheads x4.toNatClampNeg).toInt64) * (Mloads x4.toNatClampNeg)) hf H locs ls hw (lv_sub hl [0, 1, 3] rfl)
  unfold fX5_loadOf at hf
  refine lv_aload_n hx hb dX5_loadOf_0 rfl (lv_at hl 0 rfl) ?_
  refine va_get (D := D) (ci := 5) (v := .long Mbelow) (C := RX5) (T := TX5) (N := 19) hx hb hts hiX5 hown hK hw.1 0 rfl rfl 11 (by decide) hq4 (fun _ h9 => h9) rfl dX5_loadOf_1 ?_
  refine lv_lstore_n (lv' := [(2, .long Mbelow), (0, .ref (aM 0)), (1, .int p0)]) hx hb dX5_loadOf_4 rfl hl (by decide) rfl (fun ls hl => ?_)
  refine lv_iconst (v := 0) hx hb dX5_loadOf_5 (by decide) ?_
  refine lv_istore (lv' := [(4, .int (0 : Int32)), (2, .long Mbelow), (0, .ref (aM 0)), (1, .int p0)]) hx hb dX5_loadOf_6 hl (by decide) rfl (fun ls hl => ?_)
  exact b8 N p0 Mbelow (0 : Int32) hf H locs ls hw (lv_sub hl [2, 3, 1, 0] rfl)
set_option maxHeartbeats 4000000 in
set_option maxRecDepth 100000 in
theorem kX5_weightOf (l : Launch) (D : va_G) (cI cJ cO : ClassId) (N : Nat) (aM : Nat → Nat) (p0 : Int32) (Mnow : Nat → Int32) (Mread : Nat → Int32) (Mpast : Nat → Int32) (Mchanges : Int32) (Mtext : Nat → Int32) (Mletters : Int32) (Mheads : Nat → Int32) (Msets : Nat → Int32) (Mballots : Int32) (Mranks : Nat → Int32) (Mloads : Nat → Int64) (Mbelow : Int64) (Morder : Nat → Int32) (Melected : Int32) (Mmembers : Int32) (Mabove : Nat → Int64) (Munder : Nat → Int64) (Mspot : Int32) (Mvalue : Int32) (u : Int32) (hf : fX5_weightOf N p0 Mheads Msets Mballots Mmembers = some u) : CtI l yX5_weightOf wsX5_weightOf (zk_rm 1 22) D cI cJ cO [.ref (aM 0), .int p0] (zwM cI cJ aM Mnow Mread Mpast Mchanges Mtext Mletters Mheads Msets Mballots Mranks Mloads Mbelow Morder Melected Mmembers Mabove Munder Mspot Mvalue) (zwM cI cJ aM Mnow Mread Mpast Mchanges Mtext Mletters Mheads Msets Mballots Mranks Mloads Mbelow Morder Melected Mmembers Mabove Munder Mspot Mvalue) (u) := by
  refine zk_enter (cc := cX5_weightOf) (maxL := 5) (ret := some .int) (own := RX5) (Qf := fun A => QwI D (zwM cI cJ aM Mnow Mread Mpast Mchanges Mtext Mletters Mheads Msets Mballots Mranks Mloads Mbelow Morder Melected Mmembers Mabove Munder Mspot Mvalue) (u) A) (by decide) rfl rfl (Nat.le_of_ble_eq_true rfl) ?_
  intro p e s m args below meth c A Q H locs ls hC hQ hw hl
  obtain ⟨hx, hb, hml, hr, hts, hown, hlocks, hN, hK, hA⟩ := hC
  have hl : lv_has ls 5 [(0, .ref (aM 0)), (1, .int p0)] := hl
  have hiX5 : ∀ w ∈ u_ws RX5 TX5 19, w ∈ wsX5_weightOf := by decide +kernel
  have hq0 := hts (.fieldLink RX5 134 "LoadCouncilModel" "ballots" "I") (by decide +kernel)
  have hq1 := hts (.fieldLink RX5 25 "LoadCouncilModel" "sets" "[I") (by decide +kernel)
  have hq2 := hts (.fieldLink RX5 141 "LoadCouncilModel" "members" "I") (by decide +kernel)
  have hq3 := hts (.fieldLink RX5 22 "LoadCouncilModel" "heads" "[I") (by decide +kernel)
  have b4 : ∀ (n4 : Nat), ∀ (x1 : Int32) (x2 : Int32) (x3 : Int32), fX5_weightOf_b4 N n4 x1 x2 x3 Mheads Msets Mballots Mmembers = some u → ∀ (H : Heap) (locs : List Loc) (ls : Array Slot), Wd D A s.heap (zwM cI cJ aM Mnow Mread Mpast Mchanges Mtext Mletters Mheads Msets Mballots Mranks Mloads Mbelow Morder Melected Mmembers Mabove Munder Mspot Mvalue) H locs → lv_has ls 5 [(0, .ref (aM 0)), (1, .int x1), (2, .int x2), (3, .int x3)] → W p l e (zk_rm 1 22) s m args below meth c H locs 0 0 Q (F0 m 4 ls []) := by
    intro n4
    induction n4 with
    | zero =>
      intro x1 x2 x3 hf
      exact zk_none hf
    | succ n4 ih4 =>
      have b61 : ∀ (x1 : Int32) (x3 : Int32) (t0 : Int32) (t1 : Int32), fX5_weightOf_b61 N (fun z0 z1 z2 z3 z4 z5 z6 => fX5_weightOf_b4 N n4 z0 z1 z2 z3 z4 z5 z6) x1 x3 t0 t1 Mheads Msets Mballots Mmembers = some u → ∀ (H : Heap) (locs : List Loc) (ls : Array Slot), Wd D A s.heap (zwM cI cJ aM Mnow Mread Mpast Mchanges Mtext Mletters Mheads Msets Mballots Mranks Mloads Mbelow Morder Melected Mmembers Mabove Munder Mspot Mvalue) H locs → lv_has ls 5 [(0, .ref (aM 0)), (1, .int x1), (3, .int x3)] → W p l e (zk_rm 1 22) s m args below meth c H locs 0 0 Q (F0 m 61 ls [.int t1, .int t0]) := by
        intro x1 x3 t0 t1 hf H locs ls hw hl
        unfold fX5_weightOf_b61 at hf
        refine lv_iadd hx hb dX5_weightOf_61 ?_
        refine lv_istore_n (lv' := [(2, .int (t0 + t1)), (0, .ref (aM 0)), (1, .int x1), (3, .int x3)]) hx hb dX5_weightOf_62 rfl hl (by decide) rfl (fun ls hl => ?_)
        refine lv_iinc (v := (x3 + (1 : Int32))) (lv' := [(3, .int (x3 + (1 : Int32))), (2, .int (t0 + t1)), (0, .ref (aM 0)), (1, .int x1)]) hx hb dX5_weightOf_63 hl (k := 3) rfl rfl (by decide) rfl (fun ls hl => ?_)
        refine lv_goto (tgt := 4) hx hb dX5_weightOf_66 (by decide) ?_
        exact ih4 x1 (t0 + t1) (x3 + (1 : Int32)) hf H locs ls hw (lv_sub hl [2, 3, 1, 0] rfl)
      intro x1 x2 x3 hf H locs ls hw hl
      rw [fX5_weightOf_b4] at hf
      refine lv_iload_n hx hb dX5_weightOf_4 rfl (lv_at hl 3 rfl) ?_
      refine lv_aload_n hx hb dX5_weightOf_5 rfl (lv_at hl 0 rfl) ?_
      refine va_get (D := D) (ci := 5) (v := .int Mballots) (C := RX5) (T := TX5) (N := 19) hx hb hts hiX5 hown hK hw.1 0 rfl rfl 8 (by decide) hq0 (fun _ h9 => h9) rfl dX5_weightOf_6 ?_
      refine lv_icmp_ge (tgt := 69) hx hb dX5_weightOf_9 (by decide) (fun c1 => ?_) (fun c1 => ?_)
      · replace hf := zk_t c1 hf
        refine lv_iload_n hx hb dX5_weightOf_69 rfl (lv_at hl 2 rfl) ?_
        cases hf
        exact zk_iret hx hb hr hlocks rfl hQ hw [0, 1, 2, 3, 4, 5, 6, 7, 8, 9, 10, 11] rfl (by decide) dX5_weightOf_70
      · replace hf := zk_f c1 hf
        refine lv_aload_n hx hb dX5_weightOf_12 rfl (lv_at hl 0 rfl) ?_
        refine va_get (D := D) (ci := 5) (v := .ref (aM 6)) (C := RX5) (T := TX5) (N := 19) hx hb hts hiX5 hown hK hw.1 0 rfl rfl 7 (by decide) hq1 (fun _ h9 => h9) rfl dX5_weightOf_13 ?_
        refine lv_iload_n hx hb dX5_weightOf_16 rfl (lv_at hl 3 rfl) ?_
        obtain ⟨h2, hf⟩ := zk_ck hf
        refine zk_iald hx hb hK hw 6 rfl h2 (j := x3.toNatClampNeg) rfl dX5_weightOf_17 ?_
        refine lv_aload_n hx hb dX5_weightOf_18 rfl (lv_at hl 0 rfl) ?_
        refine va_get (D := D) (ci := 5) (v := .int Mmembers) (C := RX5) (T := TX5) (N := 19) hx hb hts hiX5 hown hK hw.1 0 rfl rfl 14 (by decide) hq2 (fun _ h9 => h9) rfl dX5_weightOf_19 ?_
        refine lv_iand hx hb dX5_weightOf_22 ?_
        obtain ⟨u3, e4, hf⟩ := zk_bd hf
        refine zk_calli (wc := []) (wr := zwM cI cJ aM Mnow Mread Mpast Mchanges Mtext Mletters Mheads Msets Mballots Mranks Mloads Mbelow Morder Melected Mmembers Mabove Munder Mspot Mvalue) hw hA [] [0, 1, 2, 3, 4, 5, 6, 7, 8, 9, 10, 11] rfl rfl (by decide) (by decide) (va_runS (As := [.int ((Msets x3.toNatClampNeg) &&& Mmembers)]) (rest := []) ⟨hx, hb, hml, hown, hts⟩ (kX5_ones l D cI cJ cO N ((Msets x3.toNatClampNeg) &&& Mmembers) u3 e4 H.size) (va_cwS 1 hts gX5_weightOf_X5_ones rfl rfl rfl (by decide +kernel) ⟨Nat.le_of_ble_eq_true rfl, Nat.le_of_ble_eq_true rfl⟩) (zk_preS (wc := []) hN hK hw [] rfl (by decide)) rfl rfl hl.1 rfl (lv_room (Nat.le_of_ble_eq_true rfl)) dX5_weightOf_23 ⟨Nat.zero_le _, Nat.zero_le _⟩) (fun H locs hw => ?_)
        have hw : Wd D A s.heap (zwM cI cJ aM Mnow Mread Mpast Mchanges Mtext Mletters Mheads Msets Mballots Mranks Mloads Mbelow Morder Melected Mmembers Mabove Munder Mspot Mvalue) H locs := hw
        refine lv_istore (lv' := [(4, .int u3), (0, .ref (aM 0)), (1, .int x1), (2, .int x2), (3, .int x3)]) hx hb dX5_weightOf_26 hl (by decide) rfl (fun ls hl => ?_)
        refine lv_iload_n hx hb dX5_weightOf_28 rfl (lv_at hl 3 rfl) ?_
        refine lv_aload_n hx hb dX5_weightOf_29 rfl (lv_at hl 1 rfl) ?_
        refine va_get (D := D) (ci := 5) (v := .ref (aM 6)) (C := RX5) (T := TX5) (N := 19) hx hb hts hiX5 hown hK hw.1 0 rfl rfl 7 (by decide) hq1 (fun _ h9 => h9) rfl dX5_weightOf_30 ?_
        refine lv_iload_n hx hb dX5_weightOf_33 rfl (lv_at hl 4 rfl) ?_
        refine zk_iald hx hb hK hw 6 rfl h2 (j := x3.toNatClampNeg) rfl dX5_weightOf_34 ?_
        refine lv_iload_n hx hb dX5_weightOf_35 rfl (lv_at hl 2 rfl) ?_
        obtain ⟨u5, e6, hf⟩ := zk_bd hf
        refine zk_calli (wc := []) (wr := zwM cI cJ aM Mnow Mread Mpast Mchanges Mtext Mletters Mheads Msets Mballots Mranks Mloads Mbelow Morder Melected Mmembers Mabove Munder Mspot Mvalue) hw hA [] [0, 1, 2, 3, 4, 5, 6, 7, 8, 9, 10, 11] rfl rfl (by decide) (by decide) (va_runS (As := [.int (Msets x3.toNatClampNeg), .int x1]) (rest := [.int x2]) ⟨hx, hb, hml, hown, hts⟩ (kX5_has l D cI cJ cO N (Msets x3.toNatClampNeg) x1 u5 e6 H.size) (va_cwS 2 hts gX5_weightOf_X5_has rfl rfl rfl (by decide +kernel) ⟨Nat.le_of_ble_eq_true rfl, Nat.le_of_ble_eq_true rfl⟩) (zk_preS (wc := []) hN hK hw [] rfl (by decide)) rfl rfl hl.1 rfl (lv_room (Nat.le_of_ble_eq_true rfl)) dX5_weightOf_36 ⟨Nat.zero_le _, Nat.zero_le _⟩) (fun H locs hw => ?_)
        have hw : Wd D A s.heap (zwM cI cJ aM Mnow Mread Mpast Mchanges Mtext Mletters Mheads Msets Mballots Mranks Mloads Mbelow Morder Melected Mmembers Mabove Munder Mspot Mvalue) H locs := hw
        refine lv_if_eq (tgt := 60) hx hb dX5_weightOf_39 (by decide) (fun c7 => ?_) (fun c7 => ?_)
        · replace hf := zk_t c7 hf
          refine lv_iconst (v := 0) hx hb dX5_weightOf_60 (by decide) ?_
          exact b61 x1 x3 x2 (0 : Int32) hf H locs ls hw (lv_sub hl [1, 2, 4] rfl)
        · replace hf := zk_f c7 hf
          refine lv_aload_n hx hb dX5_weightOf_42 rfl (lv_at hl 1 rfl) ?_
          refine va_get (D := D) (ci := 5) (v := .ref (aM 5)) (C := RX5) (T := TX5) (N := 19) hx hb hts hiX5 hown hK hw.1 0 rfl rfl 6 (by decide) hq3 (fun _ h9 => h9) rfl dX5_weightOf_43 ?_
          refine lv_iload_n hx hb dX5_weightOf_46 rfl (lv_at hl 4 rfl) ?_
          refine zk_iald hx hb hK hw 5 rfl h2 (j := x3.toNatClampNeg) rfl dX5_weightOf_47 ?_
          refine lv_sipush (v := 2520) hx hb dX5_weightOf_48 (by decide) ?_
          refine lv_iconst (v := 1) hx hb dX5_weightOf_51 (by decide) ?_
          refine lv_iload hx hb dX5_weightOf_52 (lv_at hl 0 rfl) ?_
          refine lv_iadd hx hb dX5_weightOf_54 ?_
          obtain ⟨h8, hf⟩ := zk_ck hf
          refine lv_idiv hx hb dX5_weightOf_55 h8 ?_
          refine lv_imul hx hb dX5_weightOf_56 ?_
          refine lv_goto (tgt := 61) hx hb dX5_weightOf_57 (by decide) ?_
          exact b61 x1 x3 x2 ((Mheads x3.toNatClampNeg) * ((2520 : Int32) / ((1 : Int32) + u3))) hf H locs ls hw (lv_sub hl [1, 2, 4] rfl)
  unfold fX5_weightOf at hf
  refine lv_iconst (v := 0) hx hb dX5_weightOf_0 (by decide) ?_
  refine lv_istore_n (lv' := [(2, .int (0 : Int32)), (0, .ref (aM 0)), (1, .int p0)]) hx hb dX5_weightOf_1 rfl hl (by decide) rfl (fun ls hl => ?_)
  refine lv_iconst (v := 0) hx hb dX5_weightOf_2 (by decide) ?_
  refine lv_istore_n (lv' := [(3, .int (0 : Int32)), (2, .int (0 : Int32)), (0, .ref (aM 0)), (1, .int p0)]) hx hb dX5_weightOf_3 rfl hl (by decide) rfl (fun ls hl => ?_)
  exact b4 N p0 (0 : Int32) (0 : Int32) hf H locs ls hw (lv_sub hl [2, 3, 1, 0] rfl)
set_option maxHeartbeats 4000000 in
set_option maxRecDepth 100000 in
theorem kX5_isAhead (l : Launch) (D : va_G) (cI cJ cO : ClassId) (N : Nat) (aM : Nat → Nat) (p0 : Int32) (p1 : Int32) (p2 : Int32) (Mnow : Nat → Int32) (Mread : Nat → Int32) (Mpast : Nat → Int32) (Mchanges : Int32) (Mtext : Nat → Int32) (Mletters : Int32) (Mheads : Nat → Int32) (Msets : Nat → Int32) (Mballots : Int32) (Mranks : Nat → Int32) (Mloads : Nat → Int64) (Mbelow : Int64) (Morder : Nat → Int32) (Melected : Int32) (Mmembers : Int32) (Mabove : Nat → Int64) (Munder : Nat → Int64) (Mspot : Int32) (Mvalue : Int32) (u : Int32) (hf : fX5_isAhead N p0 p1 p2 Mheads Msets Mballots Mloads Mbelow Mmembers = some u) : CtI l yX5_isAhead wsX5_isAhead (zk_rm 2 46) D cI cJ cO [.ref (aM 0), .int p0, .int p1, .int p2] (zwM cI cJ aM Mnow Mread Mpast Mchanges Mtext Mletters Mheads Msets Mballots Mranks Mloads Mbelow Morder Melected Mmembers Mabove Munder Mspot Mvalue) (zwM cI cJ aM Mnow Mread Mpast Mchanges Mtext Mletters Mheads Msets Mballots Mranks Mloads Mbelow Morder Melected Mmembers Mabove Munder Mspot Mvalue) (u) := by
  refine zk_enter (cc := cX5_isAhead) (maxL := 4) (ret := some .boolean) (own := RX5) (Qf := fun A => QwI D (zwM cI cJ aM Mnow Mread Mpast Mchanges Mtext Mletters Mheads Msets Mballots Mranks Mloads Mbelow Morder Melected Mmembers Mabove Munder Mspot Mvalue) (u) A) (by decide) rfl rfl (Nat.le_of_ble_eq_true rfl) ?_
  intro p e s m args below meth c A Q H locs ls hC hQ hw hl
  obtain ⟨hx, hb, hml, hr, hts, hown, hlocks, hN, hK, hA⟩ := hC
  have hl : lv_has ls 4 [(0, .ref (aM 0)), (1, .int p0), (2, .int p1), (3, .int p2)] := hl
  unfold fX5_isAhead at hf
  refine lv_iload_n hx hb dX5_isAhead_0 rfl (lv_at hl 1 rfl) ?_
  by_cases c1 : p0 = 1
  · replace hf := zk_t c1 hf
    refine lv_lookup (tgt := 28) (off := 27) hx hb dX5_isAhead_1 (by decide) (by rw [c1]; rfl) (by decide) ?_
    refine lv_aload_n hx hb dX5_isAhead_28 rfl (lv_at hl 0 rfl) ?_
    refine lv_iload_n hx hb dX5_isAhead_29 rfl (lv_at hl 2 rfl) ?_
    obtain ⟨u2, e3, hf⟩ := zk_bd hf
    refine zk_calli (wc := zwM cI cJ aM Mnow Mread Mpast Mchanges Mtext Mletters Mheads Msets Mballots Mranks Mloads Mbelow Morder Melected Mmembers Mabove Munder Mspot Mvalue) (wr := []) hw hA [0, 1, 2, 3, 4, 5, 6, 7, 8, 9, 10, 11] [] rfl rfl (by decide) (by decide) (va_runV (C := RX5) (As := [.int p1]) (rest := []) ⟨hx, hb, hml, hown, hts⟩ (kX5_supportOf l D cI cJ cO N aM p1 Mnow Mread Mpast Mchanges Mtext Mletters Mheads Msets Mballots Mranks Mloads Mbelow Morder Melected Mmembers Mabove Munder Mspot Mvalue u2 e3 H.size) (cwV 1 hts gX5_isAhead_X5_supportOf rfl rfl rfl (by decide +kernel) ⟨Nat.le_of_ble_eq_true rfl, Nat.le_of_ble_eq_true rfl⟩) (zk_preV (wc := zwM cI cJ aM Mnow Mread Mpast Mchanges Mtext Mletters Mheads Msets Mballots Mranks Mloads Mbelow Morder Melected Mmembers Mabove Munder Mspot Mvalue) hN hK hw [0, 1, 2, 3, 4, 5, 6, 7, 8, 9, 10, 11] rfl (by decide) 0 5 rfl rfl) rfl rfl hl.1 rfl (lv_room (Nat.le_of_ble_eq_true rfl)) dX5_isAhead_30 ⟨Nat.zero_le _, Nat.zero_le _⟩) (fun H locs hw => ?_)
    have hw : Wd D A s.heap (zwM cI cJ aM Mnow Mread Mpast Mchanges Mtext Mletters Mheads Msets Mballots Mranks Mloads Mbelow Morder Melected Mmembers Mabove Munder Mspot Mvalue) H locs := hw
    refine lv_aload_n hx hb dX5_isAhead_33 rfl (lv_at hl 0 rfl) ?_
    refine lv_iload_n hx hb dX5_isAhead_34 rfl (lv_at hl 3 rfl) ?_
    obtain ⟨u4, e5, hf⟩ := zk_bd hf
    refine zk_calli (wc := zwM cI cJ aM Mnow Mread Mpast Mchanges Mtext Mletters Mheads Msets Mballots Mranks Mloads Mbelow Morder Melected Mmembers Mabove Munder Mspot Mvalue) (wr := []) hw hA [0, 1, 2, 3, 4, 5, 6, 7, 8, 9, 10, 11] [] rfl rfl (by decide) (by decide) (va_runV (C := RX5) (As := [.int p2]) (rest := [.int u2]) ⟨hx, hb, hml, hown, hts⟩ (kX5_supportOf l D cI cJ cO N aM p2 Mnow Mread Mpast Mchanges Mtext Mletters Mheads Msets Mballots Mranks Mloads Mbelow Morder Melected Mmembers Mabove Munder Mspot Mvalue u4 e5 H.size) (cwV 1 hts gX5_isAhead_X5_supportOf rfl rfl rfl (by decide +kernel) ⟨Nat.le_of_ble_eq_true rfl, Nat.le_of_ble_eq_true rfl⟩) (zk_preV (wc := zwM cI cJ aM Mnow Mread Mpast Mchanges Mtext Mletters Mheads Msets Mballots Mranks Mloads Mbelow Morder Melected Mmembers Mabove Munder Mspot Mvalue) hN hK hw [0, 1, 2, 3, 4, 5, 6, 7, 8, 9, 10, 11] rfl (by decide) 0 5 rfl rfl) rfl rfl hl.1 rfl (lv_room (Nat.le_of_ble_eq_true rfl)) dX5_isAhead_35 ⟨Nat.zero_le _, Nat.zero_le _⟩) (fun H locs hw => ?_)
    have hw : Wd D A s.heap (zwM cI cJ aM Mnow Mread Mpast Mchanges Mtext Mletters Mheads Msets Mballots Mranks Mloads Mbelow Morder Melected Mmembers Mabove Munder Mspot Mvalue) H locs := hw
    refine lv_icmp_le (tgt := 45) hx hb dX5_isAhead_38 (by decide) (fun c6 => ?_) (fun c6 => ?_)
    · replace hf := zk_t c6 hf
      refine lv_iconst (v := 0) hx hb dX5_isAhead_45 (by decide) ?_
      cases hf
      exact zk_iret hx hb hr hlocks rfl hQ hw [0, 1, 2, 3, 4, 5, 6, 7, 8, 9, 10, 11] rfl (by decide) dX5_isAhead_46
    · replace hf := zk_f c6 hf
      refine lv_iconst (v := 1) hx hb dX5_isAhead_41 (by decide) ?_
      refine lv_goto (tgt := 46) hx hb dX5_isAhead_42 (by decide) ?_
      cases hf
      exact zk_iret hx hb hr hlocks rfl hQ hw [0, 1, 2, 3, 4, 5, 6, 7, 8, 9, 10, 11] rfl (by decide) dX5_isAhead_46
  · replace hf := zk_f c1 hf
    by_cases c7 : p0 = 2
    · replace hf := zk_t c7 hf
      refine lv_lookup (tgt := 47) (off := 46) hx hb dX5_isAhead_1 (by decide) (by rw [c7]; rfl) (by decide) ?_
      refine lv_aload_n hx hb dX5_isAhead_47 rfl (lv_at hl 0 rfl) ?_
      refine lv_iload_n hx hb dX5_isAhead_48 rfl (lv_at hl 2 rfl) ?_
      obtain ⟨u8, e9, hf⟩ := zk_bd hf
      refine zk_calli (wc := zwM cI cJ aM Mnow Mread Mpast Mchanges Mtext Mletters Mheads Msets Mballots Mranks Mloads Mbelow Morder Melected Mmembers Mabove Munder Mspot Mvalue) (wr := []) hw hA [0, 1, 2, 3, 4, 5, 6, 7, 8, 9, 10, 11] [] rfl rfl (by decide) (by decide) (va_runV (C := RX5) (As := [.int p1]) (rest := []) ⟨hx, hb, hml, hown, hts⟩ (kX5_weightOf l D cI cJ cO N aM p1 Mnow Mread Mpast Mchanges Mtext Mletters Mheads Msets Mballots Mranks Mloads Mbelow Morder Melected Mmembers Mabove Munder Mspot Mvalue u8 e9 H.size) (cwV 1 hts gX5_isAhead_X5_weightOf rfl rfl rfl (by decide +kernel) ⟨Nat.le_of_ble_eq_true rfl, Nat.le_of_ble_eq_true rfl⟩) (zk_preV (wc := zwM cI cJ aM Mnow Mread Mpast Mchanges Mtext Mletters Mheads Msets Mballots Mranks Mloads Mbelow Morder Melected Mmembers Mabove Munder Mspot Mvalue) hN hK hw [0, 1, 2, 3, 4, 5, 6, 7, 8, 9, 10, 11] rfl (by decide) 0 5 rfl rfl) rfl rfl hl.1 rfl (lv_room (Nat.le_of_ble_eq_true rfl)) dX5_isAhead_49 ⟨Nat.zero_le _, Nat.zero_le _⟩) (fun H locs hw => ?_)
      have hw : Wd D A s.heap (zwM cI cJ aM Mnow Mread Mpast Mchanges Mtext Mletters Mheads Msets Mballots Mranks Mloads Mbelow Morder Melected Mmembers Mabove Munder Mspot Mvalue) H locs := hw
      refine lv_aload_n hx hb dX5_isAhead_52 rfl (lv_at hl 0 rfl) ?_
      refine lv_iload_n hx hb dX5_isAhead_53 rfl (lv_at hl 3 rfl) ?_
      obtain ⟨u10, e11, hf⟩ := zk_bd hf
      refine zk_calli (wc := zwM cI cJ aM Mnow Mread Mpast Mchanges Mtext Mletters Mheads Msets Mballots Mranks Mloads Mbelow Morder Melected Mmembers Mabove Munder Mspot Mvalue) (wr := []) hw hA [0, 1, 2, 3, 4, 5, 6, 7, 8, 9, 10, 11] [] rfl rfl (by decide) (by decide) (va_runV (C := RX5) (As := [.int p2]) (rest := [.int u8]) ⟨hx, hb, hml, hown, hts⟩ (kX5_weightOf l D cI cJ cO N aM p2 Mnow Mread Mpast Mchanges Mtext Mletters Mheads Msets Mballots Mranks Mloads Mbelow Morder Melected Mmembers Mabove Munder Mspot Mvalue u10 e11 H.size) (cwV 1 hts gX5_isAhead_X5_weightOf rfl rfl rfl (by decide +kernel) ⟨Nat.le_of_ble_eq_true rfl, Nat.le_of_ble_eq_true rfl⟩) (zk_preV (wc := zwM cI cJ aM Mnow Mread Mpast Mchanges Mtext Mletters Mheads Msets Mballots Mranks Mloads Mbelow Morder Melected Mmembers Mabove Munder Mspot Mvalue) hN hK hw [0, 1, 2, 3, 4, 5, 6, 7, 8, 9, 10, 11] rfl (by decide) 0 5 rfl rfl) rfl rfl hl.1 rfl (lv_room (Nat.le_of_ble_eq_true rfl)) dX5_isAhead_54 ⟨Nat.zero_le _, Nat.zero_le _⟩) (fun H locs hw => ?_)
      have hw : Wd D A s.heap (zwM cI cJ aM Mnow Mread Mpast Mchanges Mtext Mletters Mheads Msets Mballots Mranks Mloads Mbelow Morder Melected Mmembers Mabove Munder Mspot Mvalue) H locs := hw
      refine lv_icmp_le (tgt := 64) hx hb dX5_isAhead_57 (by decide) (fun c12 => ?_) (fun c12 => ?_)
      · replace hf := zk_t c12 hf
        refine lv_iconst (v := 0) hx hb dX5_isAhead_64 (by decide) ?_
        cases hf
        exact zk_iret hx hb hr hlocks rfl hQ hw [0, 1, 2, 3, 4, 5, 6, 7, 8, 9, 10, 11] rfl (by decide) dX5_isAhead_65
      · replace hf := zk_f c12 hf
        refine lv_iconst (v := 1) hx hb dX5_isAhead_60 (by decide) ?_
        refine lv_goto (tgt := 65) hx hb dX5_isAhead_61 (by decide) ?_
        cases hf
        exact zk_iret hx hb hr hlocks rfl hQ hw [0, 1, 2, 3, 4, 5, 6, 7, 8, 9, 10, 11] rfl (by decide) dX5_isAhead_65
    · replace hf := zk_f c7 hf
      refine lv_lookup (tgt := 66) (off := 65) hx hb dX5_isAhead_1 (by decide) (by show Op.lookupswitch.offset [(1, 27), (2, 46)] 65 _ = _; rw [lv_osw c1 (k := 1) (a := 1) rfl, lv_osw c7 (k := 2) (a := 2) rfl]; rfl) (by decide) ?_
      refine lv_aload_n hx hb dX5_isAhead_66 rfl (lv_at hl 0 rfl) ?_
      refine lv_iload_n hx hb dX5_isAhead_67 rfl (lv_at hl 2 rfl) ?_
      obtain ⟨u13, e14, hf⟩ := zk_bd hf
      refine zk_calll (wc := zwM cI cJ aM Mnow Mread Mpast Mchanges Mtext Mletters Mheads Msets Mballots Mranks Mloads Mbelow Morder Melected Mmembers Mabove Munder Mspot Mvalue) (wr := []) hw hA [0, 1, 2, 3, 4, 5, 6, 7, 8, 9, 10, 11] [] rfl rfl (by decide) (by decide) (va_runV (C := RX5) (As := [.int p1]) (rest := []) ⟨hx, hb, hml, hown, hts⟩ (kX5_loadOf l D cI cJ cO N aM p1 Mnow Mread Mpast Mchanges Mtext Mletters Mheads Msets Mballots Mranks Mloads Mbelow Morder Melected Mmembers Mabove Munder Mspot Mvalue u13 e14 H.size) (cwV 1 hts gX5_isAhead_X5_loadOf rfl rfl rfl (by decide +kernel) ⟨Nat.le_of_ble_eq_true rfl, Nat.le_of_ble_eq_true rfl⟩) (zk_preV (wc := zwM cI cJ aM Mnow Mread Mpast Mchanges Mtext Mletters Mheads Msets Mballots Mranks Mloads Mbelow Morder Melected Mmembers Mabove Munder Mspot Mvalue) hN hK hw [0, 1, 2, 3, 4, 5, 6, 7, 8, 9, 10, 11] rfl (by decide) 0 5 rfl rfl) rfl rfl hl.1 rfl (lv_room (Nat.le_of_ble_eq_true rfl)) dX5_isAhead_68 ⟨Nat.zero_le _, Nat.zero_le _⟩) (fun H locs hw => ?_)
      have hw : Wd D A s.heap (zwM cI cJ aM Mnow Mread Mpast Mchanges Mtext Mletters Mheads Msets Mballots Mranks Mloads Mbelow Morder Melected Mmembers Mabove Munder Mspot Mvalue) H locs := hw
      refine lv_aload_n hx hb dX5_isAhead_71 rfl (lv_at hl 0 rfl) ?_
      refine lv_iload_n hx hb dX5_isAhead_72 rfl (lv_at hl 3 rfl) ?_
      obtain ⟨u15, e16, hf⟩ := zk_bd hf
      refine zk_calli (wc := zwM cI cJ aM Mnow Mread Mpast Mchanges Mtext Mletters Mheads Msets Mballots Mranks Mloads Mbelow Morder Melected Mmembers Mabove Munder Mspot Mvalue) (wr := []) hw hA [0, 1, 2, 3, 4, 5, 6, 7, 8, 9, 10, 11] [] rfl rfl (by decide) (by decide) (va_runV (C := RX5) (As := [.int p2]) (rest := [.long u13]) ⟨hx, hb, hml, hown, hts⟩ (kX5_supportOf l D cI cJ cO N aM p2 Mnow Mread Mpast Mchanges Mtext Mletters Mheads Msets Mballots Mranks Mloads Mbelow Morder Melected Mmembers Mabove Munder Mspot Mvalue u15 e16 H.size) (cwV 1 hts gX5_isAhead_X5_supportOf rfl rfl rfl (by decide +kernel) ⟨Nat.le_of_ble_eq_true rfl, Nat.le_of_ble_eq_true rfl⟩) (zk_preV (wc := zwM cI cJ aM Mnow Mread Mpast Mchanges Mtext Mletters Mheads Msets Mballots Mranks Mloads Mbelow Morder Melected Mmembers Mabove Munder Mspot Mvalue) hN hK hw [0, 1, 2, 3, 4, 5, 6, 7, 8, 9, 10, 11] rfl (by decide) 0 5 rfl rfl) rfl rfl hl.1 rfl (lv_room (Nat.le_of_ble_eq_true rfl)) dX5_isAhead_73 ⟨Nat.zero_le _, Nat.zero_le _⟩) (fun H locs hw => ?_)
      have hw : Wd D A s.heap (zwM cI cJ aM Mnow Mread Mpast Mchanges Mtext Mletters Mheads Msets Mballots Mranks Mloads Mbelow Morder Melected Mmembers Mabove Munder Mspot Mvalue) H locs := hw
      refine lv_i2l (v := u15.toInt64) hx hb dX5_isAhead_76 rfl ?_
      refine lv_lmul hx hb dX5_isAhead_77 ?_
      refine lv_aload_n hx hb dX5_isAhead_78 rfl (lv_at hl 0 rfl) ?_
      refine lv_iload_n hx hb dX5_isAhead_79 rfl (lv_at hl 3 rfl) ?_
      obtain ⟨u17, e18, hf⟩ := zk_bd hf
      refine zk_calll (wc := zwM cI cJ aM Mnow Mread Mpast Mchanges Mtext Mletters Mheads Msets Mballots Mranks Mloads Mbelow Morder Melected Mmembers Mabove Munder Mspot Mvalue) (wr := []) hw hA [0, 1, 2, 3, 4, 5, 6, 7, 8, 9, 10, 11] [] rfl rfl (by decide) (by decide) (va_runV (C := RX5) (As := [.int p2]) (rest := [.long (u13 * (u15.toInt64))]) ⟨hx, hb, hml, hown, hts⟩ (kX5_loadOf l D cI cJ cO N aM p2 Mnow Mread Mpast Mchanges Mtext Mletters Mheads Msets Mballots Mranks Mloads Mbelow Morder Melected Mmembers Mabove Munder Mspot Mvalue u17 e18 H.size) (cwV 1 hts gX5_isAhead_X5_loadOf rfl rfl rfl (by decide +kernel) ⟨Nat.le_of_ble_eq_true rfl, Nat.le_of_ble_eq_true rfl⟩) (zk_preV (wc := zwM cI cJ aM Mnow Mread Mpast Mchanges Mtext Mletters Mheads Msets Mballots Mranks Mloads Mbelow Morder Melected Mmembers Mabove Munder Mspot Mvalue) hN hK hw [0, 1, 2, 3, 4, 5, 6, 7, 8, 9, 10, 11] rfl (by decide) 0 5 rfl rfl) rfl rfl hl.1 rfl (lv_room (Nat.le_of_ble_eq_true rfl)) dX5_isAhead_80 ⟨Nat.zero_le _, Nat.zero_le _⟩) (fun H locs hw => ?_)
      have hw : Wd D A s.heap (zwM cI cJ aM Mnow Mread Mpast Mchanges Mtext Mletters Mheads Msets Mballots Mranks Mloads Mbelow Morder Melected Mmembers Mabove Munder Mspot Mvalue) H locs := hw
      refine lv_aload_n hx hb dX5_isAhead_83 rfl (lv_at hl 0 rfl) ?_
      refine lv_iload_n hx hb dX5_isAhead_84 rfl (lv_at hl 2 rfl) ?_
      obtain ⟨u19, e20, hf⟩ := zk_bd hf
      refine zk_calli (wc := zwM cI cJ aM Mnow Mread Mpast Mchanges Mtext Mletters Mheads Msets Mballots Mranks Mloads Mbelow Morder Melected Mmembers Mabove Munder Mspot Mvalue) (wr := []) hw hA [0, 1, 2, 3, 4, 5, 6, 7, 8, 9, 10, 11] [] rfl rfl (by decide) (by decide) (va_runV (C := RX5) (As := [.int p1]) (rest := [.long u17, .long (u13 * (u15.toInt64))]) ⟨hx, hb, hml, hown, hts⟩ (kX5_supportOf l D cI cJ cO N aM p1 Mnow Mread Mpast Mchanges Mtext Mletters Mheads Msets Mballots Mranks Mloads Mbelow Morder Melected Mmembers Mabove Munder Mspot Mvalue u19 e20 H.size) (cwV 1 hts gX5_isAhead_X5_supportOf rfl rfl rfl (by decide +kernel) ⟨Nat.le_of_ble_eq_true rfl, Nat.le_of_ble_eq_true rfl⟩) (zk_preV (wc := zwM cI cJ aM Mnow Mread Mpast Mchanges Mtext Mletters Mheads Msets Mballots Mranks Mloads Mbelow Morder Melected Mmembers Mabove Munder Mspot Mvalue) hN hK hw [0, 1, 2, 3, 4, 5, 6, 7, 8, 9, 10, 11] rfl (by decide) 0 5 rfl rfl) rfl rfl hl.1 rfl (lv_room (Nat.le_of_ble_eq_true rfl)) dX5_isAhead_85 ⟨Nat.zero_le _, Nat.zero_le _⟩) (fun H locs hw => ?_)
      have hw : Wd D A s.heap (zwM cI cJ aM Mnow Mread Mpast Mchanges Mtext Mletters Mheads Msets Mballots Mranks Mloads Mbelow Morder Melected Mmembers Mabove Munder Mspot Mvalue) H locs := hw
      refine lv_i2l (v := u19.toInt64) hx hb dX5_isAhead_88 rfl ?_
      refine lv_lmul hx hb dX5_isAhead_89 ?_
      refine W.lcmp hx hb dX5_isAhead_90 ?_
      refine lv_if_ge (tgt := 98) hx hb dX5_isAhead_91 (by decide) (fun c21 => ?_) (fun c21 => ?_)
      · replace hf := zk_t c21 hf
        refine lv_iconst (v := 0) hx hb dX5_isAhead_98 (by decide) ?_
        cases hf
        exact zk_iret hx hb hr hlocks rfl hQ hw [0, 1, 2, 3, 4, 5, 6, 7, 8, 9, 10, 11] rfl (by decide) dX5_isAhead_99
      · replace hf := zk_f c21 hf
        refine lv_iconst (v := 1) hx hb dX5_isAhead_94 (by decide) ?_
        refine lv_goto (tgt := 99) hx hb dX5_isAhead_95 (by decide) ?_
        cases hf
        exact zk_iret hx hb hr hlocks rfl hQ hw [0, 1, 2, 3, 4, 5, 6, 7, 8, 9, 10, 11] rfl (by decide) dX5_isAhead_99
set_option maxHeartbeats 4000000 in
set_option maxRecDepth 100000 in
theorem kX5_nextOf (l : Launch) (D : va_G) (cI cJ cO : ClassId) (N : Nat) (aM : Nat → Nat) (p0 : Int32) (p1 : Int32) (Mnow : Nat → Int32) (Mread : Nat → Int32) (Mpast : Nat → Int32) (Mchanges : Int32) (Mtext : Nat → Int32) (Mletters : Int32) (Mheads : Nat → Int32) (Msets : Nat → Int32) (Mballots : Int32) (Mranks : Nat → Int32) (Mloads : Nat → Int64) (Mbelow : Int64) (Morder : Nat → Int32) (Melected : Int32) (Mmembers : Int32) (Mabove : Nat → Int64) (Munder : Nat → Int64) (Mspot : Int32) (Mvalue : Int32) (u : Int32) (hf : fX5_nextOf N p0 p1 Mnow Mheads Msets Mballots Mranks Mloads Mbelow Mmembers = some u) : CtI l yX5_nextOf wsX5_nextOf (zk_rm 3 69) D cI cJ cO [.ref (aM 0), .int p0, .int p1] (zwM cI cJ aM Mnow Mread Mpast Mchanges Mtext Mletters Mheads Msets Mballots Mranks Mloads Mbelow Morder Melected Mmembers Mabove Munder Mspot Mvalue) (zwM cI cJ aM Mnow Mread Mpast Mchanges Mtext Mletters Mheads Msets Mballots Mranks Mloads Mbelow Morder Melected Mmembers Mabove Munder Mspot Mvalue) (u) := by
  refine zk_enter (cc := cX5_nextOf) (maxL := 8) (ret := some .int) (own := RX5) (Qf := fun A => QwI D (zwM cI cJ aM Mnow Mread Mpast Mchanges Mtext Mletters Mheads Msets Mballots Mranks Mloads Mbelow Morder Melected Mmembers Mabove Munder Mspot Mvalue) (u) A) (by decide) rfl rfl (Nat.le_of_ble_eq_true rfl) ?_
  intro p e s m args below meth c A Q H locs ls hC hQ hw hl
  obtain ⟨hx, hb, hml, hr, hts, hown, hlocks, hN, hK, hA⟩ := hC
  have hl : lv_has ls 8 [(0, .ref (aM 0)), (1, .int p0), (2, .int p1)] := hl
  have hiX5 : ∀ w ∈ u_ws RX5 TX5 19, w ∈ wsX5_nextOf := by decide +kernel
  have hq0 := hts (.fieldLink RX5 7 "LoadCouncilModel" "now" "[I") (by decide +kernel)
  have hq1 := hts (.fieldLink RX5 28 "LoadCouncilModel" "ranks" "[I") (by decide +kernel)
  have hq2 := hts (.fieldLink RX5 141 "LoadCouncilModel" "members" "I") (by decide +kernel)
  have b6 : ∀ (n6 : Nat), ∀ (x1 : Int32) (x2 : Int32) (x3 : Int32) (x4 : Int32), fX5_nextOf_b6 N n6 x1 x2 x3 x4 Mnow Mheads Msets Mballots Mranks Mloads Mbelow Mmembers = some u → ∀ (H : Heap) (locs : List Loc) (ls : Array Slot), Wd D A s.heap (zwM cI cJ aM Mnow Mread Mpast Mchanges Mtext Mletters Mheads Msets Mballots Mranks Mloads Mbelow Morder Melected Mmembers Mabove Munder Mspot Mvalue) H locs → lv_has ls 8 [(0, .ref (aM 0)), (1, .int x1), (2, .int x2), (3, .int x3), (4, .int x4)] → W p l e (zk_rm 3 69) s m args below meth c H locs 0 0 Q (F0 m 6 ls []) := by
    intro n6
    induction n6 with
    | zero =>
      intro x1 x2 x3 x4 hf
      exact zk_none hf
    | succ n6 ih6 =>
      have b122 : ∀ (x1 : Int32) (x2 : Int32) (x4 : Int32) (t0 : Int32), fX5_nextOf_b122 N (fun z0 z1 z2 z3 z4 z5 z6 z7 z8 z9 z10 z11 => fX5_nextOf_b6 N n6 z0 z1 z2 z3 z4 z5 z6 z7 z8 z9 z10 z11) x1 x2 x4 t0 Mnow Mheads Msets Mballots Mranks Mloads Mbelow Mmembers = some u → ∀ (H : Heap) (locs : List Loc) (ls : Array Slot), Wd D A s.heap (zwM cI cJ aM Mnow Mread Mpast Mchanges Mtext Mletters Mheads Msets Mballots Mranks Mloads Mbelow Morder Melected Mmembers Mabove Munder Mspot Mvalue) H locs → lv_has ls 8 [(0, .ref (aM 0)), (1, .int x1), (2, .int x2), (4, .int x4)] → W p l e (zk_rm 3 69) s m args below meth c H locs 0 0 Q (F0 m 122 ls [.int t0]) := by
        intro x1 x2 x4 t0 hf H locs ls hw hl
        unfold fX5_nextOf_b122 at hf
        refine lv_istore_n (lv' := [(3, .int t0), (0, .ref (aM 0)), (1, .int x1), (2, .int x2), (4, .int x4)]) hx hb dX5_nextOf_122 rfl hl (by decide) rfl (fun ls hl => ?_)
        refine lv_iinc (v := (x4 + (1 : Int32))) (lv' := [(4, .int (x4 + (1 : Int32))), (3, .int t0), (0, .ref (aM 0)), (1, .int x1), (2, .int x2)]) hx hb dX5_nextOf_123 hl (k := 4) rfl rfl (by decide) rfl (fun ls hl => ?_)
        refine lv_goto (tgt := 6) hx hb dX5_nextOf_126 (by decide) ?_
        exact ih6 x1 x2 t0 (x4 + (1 : Int32)) hf H locs ls hw (lv_sub hl [2, 3, 4, 1, 0] rfl)
      have b109 : ∀ (x1 : Int32) (x2 : Int32) (x3 : Int32) (x4 : Int32) (x5 : Int32) (t0 : Int32), fX5_nextOf_b109 N (fun z0 z1 z2 z3 z4 z5 z6 z7 z8 z9 z10 z11 => fX5_nextOf_b6 N n6 z0 z1 z2 z3 z4 z5 z6 z7 z8 z9 z10 z11) x1 x2 x3 x4 x5 t0 Mnow Mheads Msets Mballots Mranks Mloads Mbelow Mmembers = some u → ∀ (H : Heap) (locs : List Loc) (ls : Array Slot), Wd D A s.heap (zwM cI cJ aM Mnow Mread Mpast Mchanges Mtext Mletters Mheads Msets Mballots Mranks Mloads Mbelow Morder Melected Mmembers Mabove Munder Mspot Mvalue) H locs → lv_has ls 8 [(0, .ref (aM 0)), (1, .int x1), (2, .int x2), (3, .int x3), (4, .int x4), (5, .int x5)] → W p l e (zk_rm 3 69) s m args below meth c H locs 0 0 Q (F0 m 109 ls [.int t0]) := by
        intro x1 x2 x3 x4 x5 t0 hf H locs ls hw hl
        unfold fX5_nextOf_b109 at hf
        refine lv_istore (lv' := [(7, .int t0), (0, .ref (aM 0)), (1, .int x1), (2, .int x2), (3, .int x3), (4, .int x4), (5, .int x5)]) hx hb dX5_nextOf_109 hl (by decide) rfl (fun ls hl => ?_)
        refine lv_iload hx hb dX5_nextOf_111 (lv_at hl 0 rfl) ?_
        refine lv_if_eq (tgt := 121) hx hb dX5_nextOf_113 (by decide) (fun c1 => ?_) (fun c1 => ?_)
        · replace hf := zk_t c1 hf
          refine lv_iload_n hx hb dX5_nextOf_121 rfl (lv_at hl 4 rfl) ?_
          exact b122 x1 x2 x4 x3 hf H locs ls hw (lv_sub hl [1, 2, 3, 5] rfl)
        · replace hf := zk_f c1 hf
          refine lv_iload hx hb dX5_nextOf_116 (lv_at hl 6 rfl) ?_
          refine lv_goto (tgt := 122) hx hb dX5_nextOf_118 (by decide) ?_
          exact b122 x1 x2 x4 x5 hf H locs ls hw (lv_sub hl [1, 2, 3, 5] rfl)
      have b108 : ∀ (x1 : Int32) (x2 : Int32) (x3 : Int32) (x4 : Int32) (x5 : Int32), fX5_nextOf_b108 N (fun z0 z1 z2 z3 z4 z5 z6 z7 z8 z9 z10 z11 => fX5_nextOf_b6 N n6 z0 z1 z2 z3 z4 z5 z6 z7 z8 z9 z10 z11) x1 x2 x3 x4 x5 Mnow Mheads Msets Mballots Mranks Mloads Mbelow Mmembers = some u → ∀ (H : Heap) (locs : List Loc) (ls : Array Slot), Wd D A s.heap (zwM cI cJ aM Mnow Mread Mpast Mchanges Mtext Mletters Mheads Msets Mballots Mranks Mloads Mbelow Morder Melected Mmembers Mabove Munder Mspot Mvalue) H locs → lv_has ls 8 [(0, .ref (aM 0)), (1, .int x1), (2, .int x2), (3, .int x3), (4, .int x4), (5, .int x5)] → W p l e (zk_rm 3 69) s m args below meth c H locs 0 0 Q (F0 m 108 ls []) := by
        intro x1 x2 x3 x4 x5 hf H locs ls hw hl
        unfold fX5_nextOf_b108 at hf
        refine lv_iconst (v := 0) hx hb dX5_nextOf_108 (by decide) ?_
        exact b109 x1 x2 x3 x4 x5 (0 : Int32) hf H locs ls hw (lv_sub hl [0, 1, 2, 3, 4, 5] rfl)
      have b104 : ∀ (x1 : Int32) (x2 : Int32) (x3 : Int32) (x4 : Int32) (x5 : Int32), fX5_nextOf_b104 N (fun z0 z1 z2 z3 z4 z5 z6 z7 z8 z9 z10 z11 => fX5_nextOf_b6 N n6 z0 z1 z2 z3 z4 z5 z6 z7 z8 z9 z10 z11) x1 x2 x3 x4 x5 Mnow Mheads Msets Mballots Mranks Mloads Mbelow Mmembers = some u → ∀ (H : Heap) (locs : List Loc) (ls : Array Slot), Wd D A s.heap (zwM cI cJ aM Mnow Mread Mpast Mchanges Mtext Mletters Mheads Msets Mballots Mranks Mloads Mbelow Morder Melected Mmembers Mabove Munder Mspot Mvalue) H locs → lv_has ls 8 [(0, .ref (aM 0)), (1, .int x1), (2, .int x2), (3, .int x3), (4, .int x4), (5, .int x5)] → W p l e (zk_rm 3 69) s m args below meth c H locs 0 0 Q (F0 m 104 ls []) := by
        intro x1 x2 x3 x4 x5 hf H locs ls hw hl
        unfold fX5_nextOf_b104 at hf
        refine lv_iconst (v := 1) hx hb dX5_nextOf_104 (by decide) ?_
        refine lv_goto (tgt := 109) hx hb dX5_nextOf_105 (by decide) ?_
        exact b109 x1 x2 x3 x4 x5 (1 : Int32) hf H locs ls hw (lv_sub hl [0, 1, 2, 3, 4, 5] rfl)
      have b76 : ∀ (x1 : Int32) (x2 : Int32) (x3 : Int32) (x4 : Int32) (x5 : Int32) (t0 : Int32), fX5_nextOf_b76 N (fun z0 z1 z2 z3 z4 z5 z6 z7 z8 z9 z10 z11 => fX5_nextOf_b6 N n6 z0 z1 z2 z3 z4 z5 z6 z7 z8 z9 z10 z11) x1 x2 x3 x4 x5 t0 Mnow Mheads Msets Mballots Mranks Mloads Mbelow Mmembers = some u → ∀ (H : Heap) (locs : List Loc) (ls : Array Slot), Wd D A s.heap (zwM cI cJ aM Mnow Mread Mpast Mchanges Mtext Mletters Mheads Msets Mballots Mranks Mloads Mbelow Morder Melected Mmembers Mabove Munder Mspot Mvalue) H locs → lv_has ls 8 [(0, .ref (aM 0)), (1, .int x1), (2, .int x2), (3, .int x3), (4, .int x4), (5, .int x5)] → W p l e (zk_rm 3 69) s m args below meth c H locs 0 0 Q (F0 m 76 ls [.int t0]) := by
        intro x1 x2 x3 x4 x5 t0 hf H locs ls hw hl
        unfold fX5_nextOf_b76 at hf
        refine lv_istore (lv' := [(6, .int t0), (0, .ref (aM 0)), (1, .int x1), (2, .int x2), (3, .int x3), (4, .int x4), (5, .int x5)]) hx hb dX5_nextOf_76 hl (by decide) rfl (fun ls hl => ?_)
        refine lv_iload hx hb dX5_nextOf_78 (lv_at hl 0 rfl) ?_
        refine lv_if_eq (tgt := 108) hx hb dX5_nextOf_80 (by decide) (fun c2 => ?_) (fun c2 => ?_)
        · replace hf := zk_t c2 hf
          exact b108 x1 x2 x3 x4 x5 hf H locs ls hw (lv_sub hl [1, 2, 3, 4, 5, 6] rfl)
        · replace hf := zk_f c2 hf
          refine lv_iload_n hx hb dX5_nextOf_83 rfl (lv_at hl 4 rfl) ?_
          refine lv_bipush (v := (-4)) hx hb dX5_nextOf_84 (by decide) ?_
          refine lv_icmp_eq (tgt := 104) hx hb dX5_nextOf_86 (by decide) (fun c3 => ?_) (fun c3 => ?_)
          · replace hf := zk_t c3 hf
            exact b104 x1 x2 x3 x4 x5 hf H locs ls hw (lv_sub hl [1, 2, 3, 4, 5, 6] rfl)
          · replace hf := zk_f c3 hf
            refine lv_iload_n hx hb dX5_nextOf_89 rfl (lv_at hl 3 rfl) ?_
            refine lv_if_eq (tgt := 108) hx hb dX5_nextOf_90 (by decide) (fun c4 => ?_) (fun c4 => ?_)
            · replace hf := zk_t c4 hf
              exact b108 x1 x2 x3 x4 x5 hf H locs ls hw (lv_sub hl [1, 2, 3, 4, 5, 6] rfl)
            · replace hf := zk_f c4 hf
              refine lv_aload_n hx hb dX5_nextOf_93 rfl (lv_at hl 1 rfl) ?_
              refine lv_iload_n hx hb dX5_nextOf_94 rfl (lv_at hl 2 rfl) ?_
              refine lv_iload hx hb dX5_nextOf_95 (lv_at hl 6 rfl) ?_
              refine lv_iload_n hx hb dX5_nextOf_97 rfl (lv_at hl 4 rfl) ?_
              obtain ⟨u5, e6, hf⟩ := zk_bd hf
              refine zk_calli (wc := zwM cI cJ aM Mnow Mread Mpast Mchanges Mtext Mletters Mheads Msets Mballots Mranks Mloads Mbelow Morder Melected Mmembers Mabove Munder Mspot Mvalue) (wr := []) hw hA [0, 1, 2, 3, 4, 5, 6, 7, 8, 9, 10, 11] [] rfl rfl (by decide) (by decide) (va_runV (C := RX5) (As := [.int x1, .int x5, .int x3]) (rest := []) ⟨hx, hb, hml, hown, hts⟩ (kX5_isAhead l D cI cJ cO N aM x1 x5 x3 Mnow Mread Mpast Mchanges Mtext Mletters Mheads Msets Mballots Mranks Mloads Mbelow Morder Melected Mmembers Mabove Munder Mspot Mvalue u5 e6 H.size) (cwV 3 hts gX5_nextOf_X5_isAhead rfl rfl rfl (by decide +kernel) ⟨Nat.le_of_ble_eq_true rfl, Nat.le_of_ble_eq_true rfl⟩) (zk_preV (wc := zwM cI cJ aM Mnow Mread Mpast Mchanges Mtext Mletters Mheads Msets Mballots Mranks Mloads Mbelow Morder Melected Mmembers Mabove Munder Mspot Mvalue) hN hK hw [0, 1, 2, 3, 4, 5, 6, 7, 8, 9, 10, 11] rfl (by decide) 0 5 rfl rfl) rfl rfl hl.1 rfl (lv_room (Nat.le_of_ble_eq_true rfl)) dX5_nextOf_98 ⟨Nat.zero_le _, Nat.zero_le _⟩) (fun H locs hw => ?_)
              have hw : Wd D A s.heap (zwM cI cJ aM Mnow Mread Mpast Mchanges Mtext Mletters Mheads Msets Mballots Mranks Mloads Mbelow Morder Melected Mmembers Mabove Munder Mspot Mvalue) H locs := hw
              refine lv_if_eq (tgt := 108) hx hb dX5_nextOf_101 (by decide) (fun c7 => ?_) (fun c7 => ?_)
              · replace hf := zk_t c7 hf
                exact b108 x1 x2 x3 x4 x5 hf H locs ls hw (lv_sub hl [1, 2, 3, 4, 5, 6] rfl)
              · replace hf := zk_f c7 hf
                exact b104 x1 x2 x3 x4 x5 hf H locs ls hw (lv_sub hl [1, 2, 3, 4, 5, 6] rfl)
      have b75 : ∀ (x1 : Int32) (x2 : Int32) (x3 : Int32) (x4 : Int32) (x5 : Int32), fX5_nextOf_b75 N (fun z0 z1 z2 z3 z4 z5 z6 z7 z8 z9 z10 z11 => fX5_nextOf_b6 N n6 z0 z1 z2 z3 z4 z5 z6 z7 z8 z9 z10 z11) x1 x2 x3 x4 x5 Mnow Mheads Msets Mballots Mranks Mloads Mbelow Mmembers = some u → ∀ (H : Heap) (locs : List Loc) (ls : Array Slot), Wd D A s.heap (zwM cI cJ aM Mnow Mread Mpast Mchanges Mtext Mletters Mheads Msets Mballots Mranks Mloads Mbelow Morder Melected Mmembers Mabove Munder Mspot Mvalue) H locs → lv_has ls 8 [(0, .ref (aM 0)), (1, .int x1), (2, .int x2), (3, .int x3), (4, .int x4), (5, .int x5)] → W p l e (zk_rm 3 69) s m args below meth c H locs 0 0 Q (F0 m 75 ls []) := by
        intro x1 x2 x3 x4 x5 hf H locs ls hw hl
        unfold fX5_nextOf_b75 at hf
        refine lv_iconst (v := 0) hx hb dX5_nextOf_75 (by decide) ?_
        exact b76 x1 x2 x3 x4 x5 (0 : Int32) hf H locs ls hw (lv_sub hl [0, 1, 2, 3, 4, 5] rfl)
      have b67 : ∀ (x1 : Int32) (x2 : Int32) (x3 : Int32) (x4 : Int32) (x5 : Int32) (t0 : Int32), fX5_nextOf_b67 N (fun z0 z1 z2 z3 z4 z5 z6 z7 z8 z9 z10 z11 => fX5_nextOf_b6 N n6 z0 z1 z2 z3 z4 z5 z6 z7 z8 z9 z10 z11) x1 x2 x3 x4 x5 t0 Mnow Mheads Msets Mballots Mranks Mloads Mbelow Mmembers = some u → ∀ (H : Heap) (locs : List Loc) (ls : Array Slot), Wd D A s.heap (zwM cI cJ aM Mnow Mread Mpast Mchanges Mtext Mletters Mheads Msets Mballots Mranks Mloads Mbelow Morder Melected Mmembers Mabove Munder Mspot Mvalue) H locs → lv_has ls 8 [(0, .ref (aM 0)), (1, .int x1), (2, .int x2), (3, .int x3), (4, .int x4), (5, .int x5)] → W p l e (zk_rm 3 69) s m args below meth c H locs 0 0 Q (F0 m 67 ls [.int t0]) := by
        intro x1 x2 x3 x4 x5 t0 hf H locs ls hw hl
        unfold fX5_nextOf_b67 at hf
        refine lv_iload_n hx hb dX5_nextOf_67 rfl (lv_at hl 2 rfl) ?_
        refine lv_icmp_ne (tgt := 75) hx hb dX5_nextOf_68 (by decide) (fun c8 => ?_) (fun c8 => ?_)
        · replace hf := zk_f c8 hf
          exact b75 x1 x2 x3 x4 x5 hf H locs ls hw (lv_sub hl [0, 1, 2, 3, 4, 5] rfl)
        · replace hf := zk_t c8 hf
          refine lv_iconst (v := 1) hx hb dX5_nextOf_71 (by decide) ?_
          refine lv_goto (tgt := 76) hx hb dX5_nextOf_72 (by decide) ?_
          exact b76 x1 x2 x3 x4 x5 (1 : Int32) hf H locs ls hw (lv_sub hl [0, 1, 2, 3, 4, 5] rfl)
      intro x1 x2 x3 x4 hf H locs ls hw hl
      rw [fX5_nextOf_b6] at hf
      refine lv_iload hx hb dX5_nextOf_6 (lv_at hl 4 rfl) ?_
      refine lv_aload_n hx hb dX5_nextOf_8 rfl (lv_at hl 0 rfl) ?_
      refine va_get (D := D) (ci := 5) (v := .ref (aM 1)) (C := RX5) (T := TX5) (N := 19) hx hb hts hiX5 hown hK hw.1 0 rfl rfl 0 (by decide) hq0 (fun _ h9 => h9) rfl dX5_nextOf_9 ?_
      refine lv_iconst (v := 0) hx hb dX5_nextOf_12 (by decide) ?_
      refine zk_iald hx hb hK hw 1 rfl (zk_in (by decide)) (j := 0) rfl dX5_nextOf_13 ?_
      refine lv_icmp_ge (tgt := 129) hx hb dX5_nextOf_14 (by decide) (fun c9 => ?_) (fun c9 => ?_)
      · replace hf := zk_t c9 hf
        refine lv_iload_n hx hb dX5_nextOf_129 rfl (lv_at hl 3 rfl) ?_
        cases hf
        exact zk_iret hx hb hr hlocks rfl hQ hw [0, 1, 2, 3, 4, 5, 6, 7, 8, 9, 10, 11] rfl (by decide) dX5_nextOf_130
      · replace hf := zk_f c9 hf
        refine lv_aload_n hx hb dX5_nextOf_17 rfl (lv_at hl 0 rfl) ?_
        refine va_get (D := D) (ci := 5) (v := .ref (aM 7)) (C := RX5) (T := TX5) (N := 19) hx hb hts hiX5 hown hK hw.1 0 rfl rfl 9 (by decide) hq1 (fun _ h9 => h9) rfl dX5_nextOf_18 ?_
        refine lv_iload hx hb dX5_nextOf_21 (lv_at hl 4 rfl) ?_
        obtain ⟨h10, hf⟩ := zk_ck hf
        refine zk_iald hx hb hK hw 7 rfl h10 (j := x4.toNatClampNeg) rfl dX5_nextOf_23 ?_
        refine lv_istore (lv' := [(5, .int (Mranks x4.toNatClampNeg)), (0, .ref (aM 0)), (1, .int x1), (2, .int x2), (3, .int x3), (4, .int x4)]) hx hb dX5_nextOf_24 hl (by decide) rfl (fun ls hl => ?_)
        refine lv_aload_n hx hb dX5_nextOf_26 rfl (lv_at hl 1 rfl) ?_
        refine va_get (D := D) (ci := 5) (v := .ref (aM 1)) (C := RX5) (T := TX5) (N := 19) hx hb hts hiX5 hown hK hw.1 0 rfl rfl 0 (by decide) hq0 (fun _ h9 => h9) rfl dX5_nextOf_27 ?_
        refine lv_bipush (v := 23) hx hb dX5_nextOf_30 (by decide) ?_
        refine zk_iald hx hb hK hw 1 rfl (zk_in (by decide)) (j := 23) rfl dX5_nextOf_32 ?_
        refine lv_iload hx hb dX5_nextOf_33 (lv_at hl 0 rfl) ?_
        obtain ⟨u11, e12, hf⟩ := zk_bd hf
        refine zk_calli (wc := []) (wr := zwM cI cJ aM Mnow Mread Mpast Mchanges Mtext Mletters Mheads Msets Mballots Mranks Mloads Mbelow Morder Melected Mmembers Mabove Munder Mspot Mvalue) hw hA [] [0, 1, 2, 3, 4, 5, 6, 7, 8, 9, 10, 11] rfl rfl (by decide) (by decide) (va_runS (As := [.int (Mnow 23), .int (Mranks x4.toNatClampNeg)]) (rest := []) ⟨hx, hb, hml, hown, hts⟩ (kX5_has l D cI cJ cO N (Mnow 23) (Mranks x4.toNatClampNeg) u11 e12 H.size) (va_cwS 2 hts gX5_nextOf_X5_has rfl rfl rfl (by decide +kernel) ⟨Nat.le_of_ble_eq_true rfl, Nat.le_of_ble_eq_true rfl⟩) (zk_preS (wc := []) hN hK hw [] rfl (by decide)) rfl rfl hl.1 rfl (lv_room (Nat.le_of_ble_eq_true rfl)) dX5_nextOf_35 ⟨Nat.zero_le _, Nat.zero_le _⟩) (fun H locs hw => ?_)
        have hw : Wd D A s.heap (zwM cI cJ aM Mnow Mread Mpast Mchanges Mtext Mletters Mheads Msets Mballots Mranks Mloads Mbelow Morder Melected Mmembers Mabove Munder Mspot Mvalue) H locs := hw
        refine lv_if_ne (tgt := 75) hx hb dX5_nextOf_38 (by decide) (fun c13 => ?_) (fun c13 => ?_)
        · replace hf := zk_f c13 hf
          exact b75 x1 x2 x3 x4 (Mranks x4.toNatClampNeg) hf H locs ls hw (lv_sub hl [1, 2, 3, 4, 5, 0] rfl)
        · replace hf := zk_t c13 hf
          refine lv_aload_n hx hb dX5_nextOf_41 rfl (lv_at hl 1 rfl) ?_
          refine va_get (D := D) (ci := 5) (v := .int Mmembers) (C := RX5) (T := TX5) (N := 19) hx hb hts hiX5 hown hK hw.1 0 rfl rfl 14 (by decide) hq2 (fun _ h9 => h9) rfl dX5_nextOf_42 ?_
          refine lv_iload hx hb dX5_nextOf_45 (lv_at hl 0 rfl) ?_
          obtain ⟨u14, e15, hf⟩ := zk_bd hf
          refine zk_calli (wc := []) (wr := zwM cI cJ aM Mnow Mread Mpast Mchanges Mtext Mletters Mheads Msets Mballots Mranks Mloads Mbelow Morder Melected Mmembers Mabove Munder Mspot Mvalue) hw hA [] [0, 1, 2, 3, 4, 5, 6, 7, 8, 9, 10, 11] rfl rfl (by decide) (by decide) (va_runS (As := [.int Mmembers, .int (Mranks x4.toNatClampNeg)]) (rest := []) ⟨hx, hb, hml, hown, hts⟩ (kX5_has l D cI cJ cO N Mmembers (Mranks x4.toNatClampNeg) u14 e15 H.size) (va_cwS 2 hts gX5_nextOf_X5_has rfl rfl rfl (by decide +kernel) ⟨Nat.le_of_ble_eq_true rfl, Nat.le_of_ble_eq_true rfl⟩) (zk_preS (wc := []) hN hK hw [] rfl (by decide)) rfl rfl hl.1 rfl (lv_room (Nat.le_of_ble_eq_true rfl)) dX5_nextOf_47 ⟨Nat.zero_le _, Nat.zero_le _⟩) (fun H locs hw => ?_)
          have hw : Wd D A s.heap (zwM cI cJ aM Mnow Mread Mpast Mchanges Mtext Mletters Mheads Msets Mballots Mranks Mloads Mbelow Morder Melected Mmembers Mabove Munder Mspot Mvalue) H locs := hw
          refine lv_if_ne (tgt := 75) hx hb dX5_nextOf_50 (by decide) (fun c16 => ?_) (fun c16 => ?_)
          · replace hf := zk_f c16 hf
            exact b75 x1 x2 x3 x4 (Mranks x4.toNatClampNeg) hf H locs ls hw (lv_sub hl [1, 2, 3, 4, 5, 0] rfl)
          · replace hf := zk_t c16 hf
            refine lv_aload_n hx hb dX5_nextOf_53 rfl (lv_at hl 1 rfl) ?_
            refine lv_iload hx hb dX5_nextOf_54 (lv_at hl 0 rfl) ?_
            obtain ⟨u17, e18, hf⟩ := zk_bd hf
            refine zk_calli (wc := zwM cI cJ aM Mnow Mread Mpast Mchanges Mtext Mletters Mheads Msets Mballots Mranks Mloads Mbelow Morder Melected Mmembers Mabove Munder Mspot Mvalue) (wr := []) hw hA [0, 1, 2, 3, 4, 5, 6, 7, 8, 9, 10, 11] [] rfl rfl (by decide) (by decide) (va_runV (C := RX5) (As := [.int (Mranks x4.toNatClampNeg)]) (rest := []) ⟨hx, hb, hml, hown, hts⟩ (kX5_supportOf l D cI cJ cO N aM (Mranks x4.toNatClampNeg) Mnow Mread Mpast Mchanges Mtext Mletters Mheads Msets Mballots Mranks Mloads Mbelow Morder Melected Mmembers Mabove Munder Mspot Mvalue u17 e18 H.size) (cwV 1 hts gX5_nextOf_X5_supportOf rfl rfl rfl (by decide +kernel) ⟨Nat.le_of_ble_eq_true rfl, Nat.le_of_ble_eq_true rfl⟩) (zk_preV (wc := zwM cI cJ aM Mnow Mread Mpast Mchanges Mtext Mletters Mheads Msets Mballots Mranks Mloads Mbelow Morder Melected Mmembers Mabove Munder Mspot Mvalue) hN hK hw [0, 1, 2, 3, 4, 5, 6, 7, 8, 9, 10, 11] rfl (by decide) 0 5 rfl rfl) rfl rfl hl.1 rfl (lv_room (Nat.le_of_ble_eq_true rfl)) dX5_nextOf_56 ⟨Nat.zero_le _, Nat.zero_le _⟩) (fun H locs hw => ?_)
            have hw : Wd D A s.heap (zwM cI cJ aM Mnow Mread Mpast Mchanges Mtext Mletters Mheads Msets Mballots Mranks Mloads Mbelow Morder Melected Mmembers Mabove Munder Mspot Mvalue) H locs := hw
            refine lv_if_le (tgt := 66) hx hb dX5_nextOf_59 (by decide) (fun c19 => ?_) (fun c19 => ?_)
            · replace hf := zk_t c19 hf
              refine lv_iconst (v := 0) hx hb dX5_nextOf_66 (by decide) ?_
              exact b67 x1 x2 x3 x4 (Mranks x4.toNatClampNeg) (0 : Int32) hf H locs ls hw (lv_sub hl [1, 2, 3, 4, 5, 0] rfl)
            · replace hf := zk_f c19 hf
              refine lv_iconst (v := 1) hx hb dX5_nextOf_62 (by decide) ?_
              refine lv_goto (tgt := 67) hx hb dX5_nextOf_63 (by decide) ?_
              exact b67 x1 x2 x3 x4 (Mranks x4.toNatClampNeg) (1 : Int32) hf H locs ls hw (lv_sub hl [1, 2, 3, 4, 5, 0] rfl)
  unfold fX5_nextOf at hf
  refine lv_bipush (v := (-4)) hx hb dX5_nextOf_0 (by decide) ?_
  refine lv_istore_n (lv' := [(3, .int (-4 : Int32)), (0, .ref (aM 0)), (1, .int p0), (2, .int p1)]) hx hb dX5_nextOf_2 rfl hl (by decide) rfl (fun ls hl => ?_)
  refine lv_iconst (v := 0) hx hb dX5_nextOf_3 (by decide) ?_
  refine lv_istore (lv' := [(4, .int (0 : Int32)), (3, .int (-4 : Int32)), (0, .ref (aM 0)), (1, .int p0), (2, .int p1)]) hx hb dX5_nextOf_4 hl (by decide) rfl (fun ls hl => ?_)
  exact b6 N p0 p1 (-4 : Int32) (0 : Int32) hf H locs ls hw (lv_sub hl [2, 3, 4, 1, 0] rfl)
