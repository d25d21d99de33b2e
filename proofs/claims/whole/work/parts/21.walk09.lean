set_option maxHeartbeats 4000000 in
set_option maxRecDepth 100000 in
theorem kX5_load (l : Launch) (D : va_G) (cI cJ cO : ClassId) (N : Nat) (aM : Nat → Nat) (p0 : Int32) (p1 : Int32) (Mnow : Nat → Int32) (Mread : Nat → Int32) (Mpast : Nat → Int32) (Mchanges : Int32) (Mtext : Nat → Int32) (Mletters : Int32) (Mheads : Nat → Int32) (Msets : Nat → Int32) (Mballots : Int32) (Mranks : Nat → Int32) (Mloads : Nat → Int64) (Mbelow : Int64) (Morder : Nat → Int32) (Melected : Int32) (Mmembers : Int32) (Mabove : Nat → Int64) (Munder : Nat → Int64) (Mspot : Int32) (Mvalue : Int32) (u : Int64 × (Nat → Int32) × (Nat → Int32) × (Int32) × (Nat → Int32) × (Nat → Int64) × (Int64) × (Nat → Int32) × (Int32) × (Int32) × (Nat → Int64) × (Nat → Int64)) (hf : fX5_load N p0 p1 Mnow Mheads Msets Mballots Mranks Mloads Mbelow Morder Melected Mmembers Mabove Munder = some u) : CtL l yX5_load wsX5_load (zk_rm 5 119) D cI cJ cO [.ref (aM 0), .int p0, .int p1] (zwM cI cJ aM Mnow Mread Mpast Mchanges Mtext Mletters Mheads Msets Mballots Mranks Mloads Mbelow Morder Melected Mmembers Mabove Munder Mspot Mvalue) (zwM cI cJ aM Mnow Mread Mpast Mchanges Mtext Mletters u.2.1 u.2.2.1 u.2.2.2.1 u.2.2.2.2.1 u.2.2.2.2.2.1 u.2.2.2.2.2.2.1 u.2.2.2.2.2.2.2.1 u.2.2.2.2.2.2.2.2.1 u.2.2.2.2.2.2.2.2.2.1 u.2.2.2.2.2.2.2.2.2.2.1 u.2.2.2.2.2.2.2.2.2.2.2 Mspot Mvalue) (u.1) := by
  refine zk_enter (cc := cX5_load) (maxL := 3) (ret := some .long) (own := RX5) (Qf := fun A => QwL D (zwM cI cJ aM Mnow Mread Mpast Mchanges Mtext Mletters u.2.1 u.2.2.1 u.2.2.2.1 u.2.2.2.2.1 u.2.2.2.2.2.1 u.2.2.2.2.2.2.1 u.2.2.2.2.2.2.2.1 u.2.2.2.2.2.2.2.2.1 u.2.2.2.2.2.2.2.2.2.1 u.2.2.2.2.2.2.2.2.2.2.1 u.2.2.2.2.2.2.2.2.2.2.2 Mspot Mvalue) (u.1) A) (by decide) rfl rfl (Nat.le_of_ble_eq_true rfl) ?_
  intro p e s m args below meth c A Q H locs ls hC hQ hw hl
  obtain ⟨hx, hb, hml, hr, hts, hown, hlocks, hN, hK, hA⟩ := hC
  have hl : lv_has ls 3 [(0, .ref (aM 0)), (1, .int p0), (2, .int p1)] := hl
  have hiX5 : ∀ w ∈ u_ws RX5 TX5 19, w ∈ wsX5_load := by decide +kernel
  have hq0 := hts (.constantLong RX5 191 (-1)) (by decide +kernel)
  have hq1 := hts (.fieldLink RX5 31 "LoadCouncilModel" "loads" "[J") (by decide +kernel)
  have hq2 := hts (.fieldLink RX5 137 "LoadCouncilModel" "below" "J") (by decide +kernel)
  unfold fX5_load at hf
  refine lv_aload_n hx hb dX5_load_0 rfl (lv_at hl 0 rfl) ?_
  refine lv_iload_n hx hb dX5_load_1 rfl (lv_at hl 1 rfl) ?_
  obtain ⟨u1, e2, hf⟩ := zk_bd hf
  refine zk_calli (wc := zwM cI cJ aM Mnow Mread Mpast Mchanges Mtext Mletters Mheads Msets Mballots Mranks Mloads Mbelow Morder Melected Mmembers Mabove Munder Mspot Mvalue) (wr := []) hw hA [0, 1, 2, 3, 4, 5, 6, 7, 8, 9, 10, 11] [] rfl rfl (by decide) (by decide) (va_runV (C := RX5) (As := [.int p0]) (rest := []) ⟨hx, hb, hml, hown, hts⟩ (kX5_isBallot l D cI cJ cO N aM p0 Mnow Mread Mpast Mchanges Mtext Mletters Mheads Msets Mballots Mranks Mloads Mbelow Morder Melected Mmembers Mabove Munder Mspot Mvalue u1 e2 H.size) (cwV 1 hts gX5_load_X5_isBallot rfl rfl rfl (by decide +kernel) ⟨Nat.le_of_ble_eq_true rfl, Nat.le_of_ble_eq_true rfl⟩) (zk_preV (wc := zwM cI cJ aM Mnow Mread Mpast Mchanges Mtext Mletters Mheads Msets Mballots Mranks Mloads Mbelow Morder Melected Mmembers Mabove Munder Mspot Mvalue) hN hK hw [0, 1, 2, 3, 4, 5, 6, 7, 8, 9, 10, 11] rfl (by decide) 0 5 rfl rfl) rfl rfl hl.1 rfl (lv_room (Nat.le_of_ble_eq_true rfl)) dX5_load_2 ⟨Nat.zero_le _, Nat.zero_le _⟩) (fun H locs hw => ?_)
  have hw : Wd D A s.heap (zwM cI cJ aM Mnow Mread Mpast Mchanges Mtext Mletters Mheads Msets Mballots Mranks Mloads Mbelow Morder Melected Mmembers Mabove Munder Mspot Mvalue) H locs := hw
  refine lv_if_eq (tgt := 15) hx hb dX5_load_5 (by decide) (fun c3 => ?_) (fun c3 => ?_)
  · replace hf := zk_t c3 hf
    refine lv_ldc2 hx hb hown hq0 dX5_load_15 ?_
    cases hf
    exact zk_lret hx hb hr hlocks hQ hw [0, 1, 2, 3, 4, 5, 6, 7, 8, 9, 10, 11] rfl (by decide) dX5_load_18
  · replace hf := zk_f c3 hf
    refine lv_iload_n hx hb dX5_load_8 rfl (lv_at hl 2 rfl) ?_
    obtain ⟨u4, e5, hf⟩ := zk_bd hf
    refine zk_calli (wc := []) (wr := zwM cI cJ aM Mnow Mread Mpast Mchanges Mtext Mletters Mheads Msets Mballots Mranks Mloads Mbelow Morder Melected Mmembers Mabove Munder Mspot Mvalue) hw hA [] [0, 1, 2, 3, 4, 5, 6, 7, 8, 9, 10, 11] rfl rfl (by decide) (by decide) (va_runS (As := [.int p1]) (rest := []) ⟨hx, hb, hml, hown, hts⟩ (kX5_isPart l D cI cJ cO N p1 u4 e5 H.size) (va_cwS 1 hts gX5_load_X5_isPart rfl rfl rfl (by decide +kernel) ⟨Nat.le_of_ble_eq_true rfl, Nat.le_of_ble_eq_true rfl⟩) (zk_preS (wc := []) hN hK hw [] rfl (by decide)) rfl rfl hl.1 rfl (lv_room (Nat.le_of_ble_eq_true rfl)) dX5_load_9 ⟨Nat.zero_le _, Nat.zero_le _⟩) (fun H locs hw => ?_)
    have hw : Wd D A s.heap (zwM cI cJ aM Mnow Mread Mpast Mchanges Mtext Mletters Mheads Msets Mballots Mranks Mloads Mbelow Morder Melected Mmembers Mabove Munder Mspot Mvalue) H locs := hw
    refine lv_if_ne (tgt := 19) hx hb dX5_load_12 (by decide) (fun c6 => ?_) (fun c6 => ?_)
    · replace hf := zk_f c6 hf
      refine lv_aload_n hx hb dX5_load_19 rfl (lv_at hl 0 rfl) ?_
      obtain ⟨u7, e8, hf⟩ := zk_bd hf
      refine zk_callv (wc := zwM cI cJ aM Mnow Mread Mpast Mchanges Mtext Mletters Mheads Msets Mballots Mranks Mloads Mbelow Morder Melected Mmembers Mabove Munder Mspot Mvalue) (wr := []) hw hA [0, 1, 2, 3, 4, 5, 6, 7, 8, 9, 10, 11] [] rfl rfl (by decide) (by decide) (va_runV (C := RX5) (As := []) (rest := []) ⟨hx, hb, hml, hown, hts⟩ (kX5_lays l D cI cJ cO N aM Mnow Mread Mpast Mchanges Mtext Mletters Mheads Msets Mballots Mranks Mloads Mbelow Morder Melected Mmembers Mabove Munder Mspot Mvalue u7 e8 H.size) (cwV 0 hts gX5_load_X5_lays rfl rfl rfl (by decide +kernel) ⟨Nat.le_of_ble_eq_true rfl, Nat.le_of_ble_eq_true rfl⟩) (zk_preV (wc := zwM cI cJ aM Mnow Mread Mpast Mchanges Mtext Mletters Mheads Msets Mballots Mranks Mloads Mbelow Morder Melected Mmembers Mabove Munder Mspot Mvalue) hN hK hw [0, 1, 2, 3, 4, 5, 6, 7, 8, 9, 10, 11] rfl (by decide) 0 5 rfl rfl) rfl rfl hl.1 rfl (lv_room (Nat.le_of_ble_eq_true rfl)) dX5_load_20 ⟨Nat.zero_le _, Nat.zero_le _⟩) (fun H locs hw => ?_)
      have hw : Wd D A s.heap (zwM cI cJ aM Mnow Mread Mpast Mchanges Mtext Mletters u7.1 u7.2.1 u7.2.2.1 u7.2.2.2 Mloads Mbelow Morder Melected Mmembers Mabove Munder Mspot Mvalue) H locs := hw
      refine lv_aload_n hx hb dX5_load_23 rfl (lv_at hl 0 rfl) ?_
      refine lv_iconst (v := 0) hx hb dX5_load_24 (by decide) ?_
      obtain ⟨u9, e10, hf⟩ := zk_bd hf
      refine zk_callv (wc := zwM cI cJ aM Mnow Mread Mpast Mchanges Mtext Mletters u7.1 u7.2.1 u7.2.2.1 u7.2.2.2 Mloads Mbelow Morder Melected Mmembers Mabove Munder Mspot Mvalue) (wr := []) hw hA [0, 1, 2, 3, 4, 5, 6, 7, 8, 9, 10, 11] [] rfl rfl (by decide) (by decide) (va_runV (C := RX5) (As := [.int (0 : Int32)]) (rest := []) ⟨hx, hb, hml, hown, hts⟩ (kX5_elects l D cI cJ cO N aM (0 : Int32) Mnow Mread Mpast Mchanges Mtext Mletters u7.1 u7.2.1 u7.2.2.1 u7.2.2.2 Mloads Mbelow Morder Melected Mmembers Mabove Munder Mspot Mvalue u9 e10 H.size) (cwV 1 hts gX5_load_X5_elects rfl rfl rfl (by decide +kernel) ⟨Nat.le_of_ble_eq_true rfl, Nat.le_of_ble_eq_true rfl⟩) (zk_preV (wc := zwM cI cJ aM Mnow Mread Mpast Mchanges Mtext Mletters u7.1 u7.2.1 u7.2.2.1 u7.2.2.2 Mloads Mbelow Morder Melected Mmembers Mabove Munder Mspot Mvalue) hN hK hw [0, 1, 2, 3, 4, 5, 6, 7, 8, 9, 10, 11] rfl (by decide) 0 5 rfl rfl) rfl rfl hl.1 rfl (lv_room (Nat.le_of_ble_eq_true rfl)) dX5_load_25 ⟨Nat.zero_le _, Nat.zero_le _⟩) (fun H locs hw => ?_)
      have hw : Wd D A s.heap (zwM cI cJ aM Mnow Mread Mpast Mchanges Mtext Mletters u7.1 u7.2.1 u7.2.2.1 u7.2.2.2 u9.1 u9.2.1 u9.2.2.1 u9.2.2.2.1 u9.2.2.2.2.1 u9.2.2.2.2.2.1 u9.2.2.2.2.2.2 Mspot Mvalue) H locs := hw
      refine lv_aload_n hx hb dX5_load_28 rfl (lv_at hl 0 rfl) ?_
      refine va_get (D := D) (ci := 5) (v := .ref (aM 8)) (C := RX5) (T := TX5) (N := 19) hx hb hts hiX5 hown hK hw.1 0 rfl rfl 10 (by decide) hq1 (fun _ h9 => h9) rfl dX5_load_29 ?_
      refine lv_iload_n hx hb dX5_load_32 rfl (lv_at hl 1 rfl) ?_
      obtain ⟨h11, hf⟩ := zk_ck hf
      refine zk_lald hx hb hK hw 8 rfl h11 (j := p0.toNatClampNeg) rfl dX5_load_33 ?_
      refine lv_aload_n hx hb dX5_load_34 rfl (lv_at hl 0 rfl) ?_
      refine va_get (D := D) (ci := 5) (v := .long u9.2.1) (C := RX5) (T := TX5) (N := 19) hx hb hts hiX5 hown hK hw.1 0 rfl rfl 11 (by decide) hq2 (fun _ h9 => h9) rfl dX5_load_35 ?_
      refine lv_iload_n hx hb dX5_load_38 rfl (lv_at hl 2 rfl) ?_
      obtain ⟨u12, e13, hf⟩ := zk_bd hf
      refine zk_calll (wc := []) (wr := zwM cI cJ aM Mnow Mread Mpast Mchanges Mtext Mletters u7.1 u7.2.1 u7.2.2.1 u7.2.2.2 u9.1 u9.2.1 u9.2.2.1 u9.2.2.2.1 u9.2.2.2.2.1 u9.2.2.2.2.2.1 u9.2.2.2.2.2.2 Mspot Mvalue) hw hA [] [0, 1, 2, 3, 4, 5, 6, 7, 8, 9, 10, 11] rfl rfl (by decide) (by decide) (va_runS (As := [.long (u9.1 p0.toNatClampNeg), .long u9.2.1, .int p1]) (rest := []) ⟨hx, hb, hml, hown, hts⟩ (kX5_partOf l D cI cJ cO N (u9.1 p0.toNatClampNeg) u9.2.1 p1 u12 e13 H.size) (va_cwS 3 hts gX5_load_X5_partOf rfl rfl rfl (by decide +kernel) ⟨Nat.le_of_ble_eq_true rfl, Nat.le_of_ble_eq_true rfl⟩) (zk_preS (wc := []) hN hK hw [] rfl (by decide)) rfl rfl hl.1 rfl (lv_room (Nat.le_of_ble_eq_true rfl)) dX5_load_39 ⟨Nat.zero_le _, Nat.zero_le _⟩) (fun H locs hw => ?_)
      have hw : Wd D A s.heap (zwM cI cJ aM Mnow Mread Mpast Mchanges Mtext Mletters u7.1 u7.2.1 u7.2.2.1 u7.2.2.2 u9.1 u9.2.1 u9.2.2.1 u9.2.2.2.1 u9.2.2.2.2.1 u9.2.2.2.2.2.1 u9.2.2.2.2.2.2 Mspot Mvalue) H locs := hw
      cases hf
      exact zk_lret hx hb hr hlocks hQ hw [0, 1, 2, 3, 4, 5, 6, 7, 8, 9, 10, 11] rfl (by decide) dX5_load_42
    · replace hf := zk_t c6 hf
      refine lv_ldc2 hx hb hown hq0 dX5_load_15 ?_
      cases hf
      exact zk_lret hx hb hr hlocks hQ hw [0, 1, 2, 3, 4, 5, 6, 7, 8, 9, 10, 11] rfl (by decide) dX5_load_18
set_option maxHeartbeats 4000000 in
set_option maxRecDepth 100000 in
theorem kX5_greatest (l : Launch) (D : va_G) (cI cJ cO : ClassId) (N : Nat) (aM : Nat → Nat) (p0 : Int32) (Mnow : Nat → Int32) (Mread : Nat → Int32) (Mpast : Nat → Int32) (Mchanges : Int32) (Mtext : Nat → Int32) (Mletters : Int32) (Mheads : Nat → Int32) (Msets : Nat → Int32) (Mballots : Int32) (Mranks : Nat → Int32) (Mloads : Nat → Int64) (Mbelow : Int64) (Morder : Nat → Int32) (Melected : Int32) (Mmembers : Int32) (Mabove : Nat → Int64) (Munder : Nat → Int64) (Mspot : Int32) (Mvalue : Int32) (u : Int64 × (Nat → Int32) × (Nat → Int32) × (Int32) × (Nat → Int32) × (Nat → Int64) × (Int64) × (Nat → Int32) × (Int32) × (Int32) × (Nat → Int64) × (Nat → Int64)) (hf : fX5_greatest N p0 Mnow Mheads Msets Mballots Mranks Mloads Mbelow Morder Melected Mmembers Mabove Munder = some u) : CtL l yX5_greatest wsX5_greatest (zk_rm 5 119) D cI cJ cO [.ref (aM 0), .int p0] (zwM cI cJ aM Mnow Mread Mpast Mchanges Mtext Mletters Mheads Msets Mballots Mranks Mloads Mbelow Morder Melected Mmembers Mabove Munder Mspot Mvalue) (zwM cI cJ aM Mnow Mread Mpast Mchanges Mtext Mletters u.2.1 u.2.2.1 u.2.2.2.1 u.2.2.2.2.1 u.2.2.2.2.2.1 u.2.2.2.2.2.2.1 u.2.2.2.2.2.2.2.1 u.2.2.2.2.2.2.2.2.1 u.2.2.2.2.2.2.2.2.2.1 u.2.2.2.2.2.2.2.2.2.2.1 u.2.2.2.2.2.2.2.2.2.2.2 Mspot Mvalue) (u.1) := by
  refine zk_enter (cc := cX5_greatest) (maxL := 5) (ret := some .long) (own := RX5) (Qf := fun A => QwL D (zwM cI cJ aM Mnow Mread Mpast Mchanges Mtext Mletters u.2.1 u.2.2.1 u.2.2.2.1 u.2.2.2.2.1 u.2.2.2.2.2.1 u.2.2.2.2.2.2.1 u.2.2.2.2.2.2.2.1 u.2.2.2.2.2.2.2.2.1 u.2.2.2.2.2.2.2.2.2.1 u.2.2.2.2.2.2.2.2.2.2.1 u.2.2.2.2.2.2.2.2.2.2.2 Mspot Mvalue) (u.1) A) (by decide) rfl rfl (Nat.le_of_ble_eq_true rfl) ?_
  intro p e s m args below meth c A Q H locs ls hC hQ hw hl
  obtain ⟨hx, hb, hml, hr, hts, hown, hlocks, hN, hK, hA⟩ := hC
  have hl : lv_has ls 5 [(0, .ref (aM 0)), (1, .int p0)] := hl
  have hiX5 : ∀ w ∈ u_ws RX5 TX5 19, w ∈ wsX5_greatest := by decide +kernel
  have hq0 := hts (.fieldLink RX5 137 "LoadCouncilModel" "below" "J") (by decide +kernel)
  have hq1 := hts (.fieldLink RX5 134 "LoadCouncilModel" "ballots" "I") (by decide +kernel)
  have hq2 := hts (.fieldLink RX5 31 "LoadCouncilModel" "loads" "[J") (by decide +kernel)
  have hq3 := hts (.constantLong RX5 191 (-1)) (by decide +kernel)
  have b64 : ∀ (x1 : Int32) (x2 : Int64) (Mheads : Nat → Int32) (Msets : Nat → Int32) (Mballots : Int32) (Mranks : Nat → Int32) (Mloads : Nat → Int64) (Mbelow : Int64) (Morder : Nat → Int32) (Melected : Int32) (Mmembers : Int32) (Mabove : Nat → Int64) (Munder : Nat → Int64), fX5_greatest_b64 N x1 x2 Mheads Msets Mballots Mranks Mloads Mbelow Morder Melected Mmembers Mabove Munder = some u → ∀ (H : Heap) (locs : List Loc) (ls : Array Slot), Wd D A s.heap (zwM cI cJ aM Mnow Mread Mpast Mchanges Mtext Mletters Mheads Msets Mballots Mranks Mloads Mbelow Morder Melected Mmembers Mabove Munder Mspot Mvalue) H locs → lv_has ls 5 [(0, .ref (aM 0)), (1, .int x1), (2, .long x2)] → W p l e (zk_rm 5 119) s m args below meth c H locs 0 0 Q (F0 m 64 ls []) := by
    intro x1 x2 Mheads Msets Mballots Mranks Mloads Mbelow Morder Melected Mmembers Mabove Munder hf H locs ls hw hl
    unfold fX5_greatest_b64 at hf
    refine lv_lload_n hx hb dX5_greatest_64 rfl (lv_at hl 2 rfl) ?_
    refine lv_aload_n hx hb dX5_greatest_65 rfl (lv_at hl 0 rfl) ?_
    refine va_get (D := D) (ci := 5) (v := .long Mbelow) (C := RX5) (T := TX5) (N := 19) hx hb hts hiX5 hown hK hw.1 0 rfl rfl 11 (by decide) hq0 (fun _ h9 => h9) rfl dX5_greatest_66 ?_
    refine lv_iload_n hx hb dX5_greatest_69 rfl (lv_at hl 1 rfl) ?_
    obtain ⟨u1, e2, hf⟩ := zk_bd hf
    refine zk_calll (wc := []) (wr := zwM cI cJ aM Mnow Mread Mpast Mchanges Mtext Mletters Mheads Msets Mballots Mranks Mloads Mbelow Morder Melected Mmembers Mabove Munder Mspot Mvalue) hw hA [] [0, 1, 2, 3, 4, 5, 6, 7, 8, 9, 10, 11] rfl rfl (by decide) (by decide) (va_runS (As := [.long x2, .long Mbelow, .int x1]) (rest := []) ⟨hx, hb, hml, hown, hts⟩ (kX5_partOf l D cI cJ cO N x2 Mbelow x1 u1 e2 H.size) (va_cwS 3 hts gX5_greatest_X5_partOf rfl rfl rfl (by decide +kernel) ⟨Nat.le_of_ble_eq_true rfl, Nat.le_of_ble_eq_true rfl⟩) (zk_preS (wc := []) hN hK hw [] rfl (by decide)) rfl rfl hl.1 rfl (lv_room (Nat.le_of_ble_eq_true rfl)) dX5_greatest_70 ⟨Nat.zero_le _, Nat.zero_le _⟩) (fun H locs hw => ?_)
    have hw : Wd D A s.heap (zwM cI cJ aM Mnow Mread Mpast Mchanges Mtext Mletters Mheads Msets Mballots Mranks Mloads Mbelow Morder Melected Mmembers Mabove Munder Mspot Mvalue) H locs := hw
    cases hf
    exact zk_lret hx hb hr hlocks hQ hw [0, 1, 2, 3, 4, 5, 6, 7, 8, 9, 10, 11] rfl (by decide) dX5_greatest_73
  have b25 : ∀ (n25 : Nat), ∀ (x1 : Int32) (x2 : Int64) (x4 : Int32) (Mheads : Nat → Int32) (Msets : Nat → Int32) (Mballots : Int32) (Mranks : Nat → Int32) (Mloads : Nat → Int64) (Mbelow : Int64) (Morder : Nat → Int32) (Melected : Int32) (Mmembers : Int32) (Mabove : Nat → Int64) (Munder : Nat → Int64), fX5_greatest_b25 N n25 x1 x2 x4 Mheads Msets Mballots Mranks Mloads Mbelow Morder Melected Mmembers Mabove Munder = some u → ∀ (H : Heap) (locs : List Loc) (ls : Array Slot), Wd D A s.heap (zwM cI cJ aM Mnow Mread Mpast Mchanges Mtext Mletters Mheads Msets Mballots Mranks Mloads Mbelow Morder Melected Mmembers Mabove Munder Mspot Mvalue) H locs → lv_has ls 5 [(0, .ref (aM 0)), (1, .int x1), (2, .long x2), (4, .int x4)] → W p l e (zk_rm 5 119) s m args below meth c H locs 0 0 Q (F0 m 25 ls []) := by
    intro n25
    induction n25 with
    | zero =>
      intro x1 x2 x4 Mheads Msets Mballots Mranks Mloads Mbelow Morder Melected Mmembers Mabove Munder hf
      exact zk_none hf
    | succ n25 ih25 =>
      have b57 : ∀ (x1 : Int32) (x4 : Int32) (t0 : Int64) (Mheads : Nat → Int32) (Msets : Nat → Int32) (Mballots : Int32) (Mranks : Nat → Int32) (Mloads : Nat → Int64) (Mbelow : Int64) (Morder : Nat → Int32) (Melected : Int32) (Mmembers : Int32) (Mabove : Nat → Int64) (Munder : Nat → Int64), fX5_greatest_b57 N (fun z0 z1 z2 z3 z4 z5 z6 z7 z8 z9 z10 z11 z12 z13 => fX5_greatest_b25 N n25 z0 z1 z2 z3 z4 z5 z6 z7 z8 z9 z10 z11 z12 z13) x1 x4 t0 Mheads Msets Mballots Mranks Mloads Mbelow Morder Melected Mmembers Mabove Munder = some u → ∀ (H : Heap) (locs : List Loc) (ls : Array Slot), Wd D A s.heap (zwM cI cJ aM Mnow Mread Mpast Mchanges Mtext Mletters Mheads Msets Mballots Mranks Mloads Mbelow Morder Melected Mmembers Mabove Munder Mspot Mvalue) H locs → lv_has ls 5 [(0, .ref (aM 0)), (1, .int x1), (4, .int x4)] → W p l e (zk_rm 5 119) s m args below meth c H locs 0 0 Q (F0 m 57 ls [.long t0]) := by
        intro x1 x4 t0 Mheads Msets Mballots Mranks Mloads Mbelow Morder Melected Mmembers Mabove Munder hf H locs ls hw hl
        unfold fX5_greatest_b57 at hf
        refine lv_lstore_n (lv' := [(2, .long t0), (0, .ref (aM 0)), (1, .int x1), (4, .int x4)]) hx hb dX5_greatest_57 rfl hl (by decide) rfl (fun ls hl => ?_)
        refine lv_iinc (v := (x4 + (1 : Int32))) (lv' := [(4, .int (x4 + (1 : Int32))), (2, .long t0), (0, .ref (aM 0)), (1, .int x1)]) hx hb dX5_greatest_58 hl (k := 3) rfl rfl (by decide) rfl (fun ls hl => ?_)
        refine lv_goto (tgt := 25) hx hb dX5_greatest_61 (by decide) ?_
        exact ih25 x1 t0 (x4 + (1 : Int32)) Mheads Msets Mballots Mranks Mloads Mbelow Morder Melected Mmembers Mabove Munder hf H locs ls hw (lv_sub hl [2, 3, 1, 0] rfl)
      intro x1 x2 x4 Mheads Msets Mballots Mranks Mloads Mbelow Morder Melected Mmembers Mabove Munder hf H locs ls hw hl
      rw [fX5_greatest_b25] at hf
      refine lv_iload hx hb dX5_greatest_25 (lv_at hl 3 rfl) ?_
      refine lv_aload_n hx hb dX5_greatest_27 rfl (lv_at hl 0 rfl) ?_
      refine va_get (D := D) (ci := 5) (v := .int Mballots) (C := RX5) (T := TX5) (N := 19) hx hb hts hiX5 hown hK hw.1 0 rfl rfl 8 (by decide) hq1 (fun _ h9 => h9) rfl dX5_greatest_28 ?_
      refine lv_icmp_ge (tgt := 64) hx hb dX5_greatest_31 (by decide) (fun c3 => ?_) (fun c3 => ?_)
      · replace hf := zk_t c3 hf
        exact b64 x1 x2 Mheads Msets Mballots Mranks Mloads Mbelow Morder Melected Mmembers Mabove Munder hf H locs ls hw (lv_sub hl [0, 1, 2] rfl)
      · replace hf := zk_f c3 hf
        refine lv_aload_n hx hb dX5_greatest_34 rfl (lv_at hl 0 rfl) ?_
        refine va_get (D := D) (ci := 5) (v := .ref (aM 8)) (C := RX5) (T := TX5) (N := 19) hx hb hts hiX5 hown hK hw.1 0 rfl rfl 10 (by decide) hq2 (fun _ h9 => h9) rfl dX5_greatest_35 ?_
        refine lv_iload hx hb dX5_greatest_38 (lv_at hl 3 rfl) ?_
        obtain ⟨h4, hf⟩ := zk_ck hf
        refine zk_lald hx hb hK hw 8 rfl h4 (j := x4.toNatClampNeg) rfl dX5_greatest_40 ?_
        refine lv_lload_n hx hb dX5_greatest_41 rfl (lv_at hl 2 rfl) ?_
        refine W.lcmp hx hb dX5_greatest_42 ?_
        refine lv_if_le (tgt := 56) hx hb dX5_greatest_43 (by decide) (fun c5 => ?_) (fun c5 => ?_)
        · replace hf := zk_t c5 hf
          refine lv_lload_n hx hb dX5_greatest_56 rfl (lv_at hl 2 rfl) ?_
          exact b57 x1 x4 x2 Mheads Msets Mballots Mranks Mloads Mbelow Morder Melected Mmembers Mabove Munder hf H locs ls hw (lv_sub hl [0, 1, 3] rfl)
        · replace hf := zk_f c5 hf
          refine lv_aload_n hx hb dX5_greatest_46 rfl (lv_at hl 0 rfl) ?_
          refine va_get (D := D) (ci := 5) (v := .ref (aM 8)) (C := RX5) (T := TX5) (N := 19) hx hb hts hiX5 hown hK hw.1 0 rfl rfl 10 (by decide) hq2 (fun _ h9 => h9) rfl dX5_greatest_47 ?_
          refine lv_iload hx hb dX5_greatest_50 (lv_at hl 3 rfl) ?_
          refine zk_lald hx hb hK hw 8 rfl h4 (j := x4.toNatClampNeg) rfl dX5_greatest_52 ?_
          refine lv_goto (tgt := 57) hx hb dX5_greatest_53 (by decide) ?_
          exact b57 x1 x4 (Mloads x4.toNatClampNeg) Mheads Msets Mballots Mranks Mloads Mbelow Morder Melected Mmembers Mabove Munder hf H locs ls hw (lv_sub hl [0, 1, 3] rfl)
  unfold fX5_greatest at hf
  refine lv_iload_n hx hb dX5_greatest_0 rfl (lv_at hl 1 rfl) ?_
  obtain ⟨u6, e7, hf⟩ := zk_bd hf
  refine zk_calli (wc := []) (wr := zwM cI cJ aM Mnow Mread Mpast Mchanges Mtext Mletters Mheads Msets Mballots Mranks Mloads Mbelow Morder Melected Mmembers Mabove Munder Mspot Mvalue) hw hA [] [0, 1, 2, 3, 4, 5, 6, 7, 8, 9, 10, 11] rfl rfl (by decide) (by decide) (va_runS (As := [.int p0]) (rest := []) ⟨hx, hb, hml, hown, hts⟩ (kX5_isPart l D cI cJ cO N p0 u6 e7 H.size) (va_cwS 1 hts gX5_greatest_X5_isPart rfl rfl rfl (by decide +kernel) ⟨Nat.le_of_ble_eq_true rfl, Nat.le_of_ble_eq_true rfl⟩) (zk_preS (wc := []) hN hK hw [] rfl (by decide)) rfl rfl hl.1 rfl (lv_room (Nat.le_of_ble_eq_true rfl)) dX5_greatest_1 ⟨Nat.zero_le _, Nat.zero_le _⟩) (fun H locs hw => ?_)
  have hw : Wd D A s.heap (zwM cI cJ aM Mnow Mread Mpast Mchanges Mtext Mletters Mheads Msets Mballots Mranks Mloads Mbelow Morder Melected Mmembers Mabove Munder Mspot Mvalue) H locs := hw
  refine lv_if_ne (tgt := 11) hx hb dX5_greatest_4 (by decide) (fun c8 => ?_) (fun c8 => ?_)
  · replace hf := zk_f c8 hf
    refine lv_aload_n hx hb dX5_greatest_11 rfl (lv_at hl 0 rfl) ?_
    obtain ⟨u9, e10, hf⟩ := zk_bd hf
    refine zk_callv (wc := zwM cI cJ aM Mnow Mread Mpast Mchanges Mtext Mletters Mheads Msets Mballots Mranks Mloads Mbelow Morder Melected Mmembers Mabove Munder Mspot Mvalue) (wr := []) hw hA [0, 1, 2, 3, 4, 5, 6, 7, 8, 9, 10, 11] [] rfl rfl (by decide) (by decide) (va_runV (C := RX5) (As := []) (rest := []) ⟨hx, hb, hml, hown, hts⟩ (kX5_lays l D cI cJ cO N aM Mnow Mread Mpast Mchanges Mtext Mletters Mheads Msets Mballots Mranks Mloads Mbelow Morder Melected Mmembers Mabove Munder Mspot Mvalue u9 e10 H.size) (cwV 0 hts gX5_greatest_X5_lays rfl rfl rfl (by decide +kernel) ⟨Nat.le_of_ble_eq_true rfl, Nat.le_of_ble_eq_true rfl⟩) (zk_preV (wc := zwM cI cJ aM Mnow Mread Mpast Mchanges Mtext Mletters Mheads Msets Mballots Mranks Mloads Mbelow Morder Melected Mmembers Mabove Munder Mspot Mvalue) hN hK hw [0, 1, 2, 3, 4, 5, 6, 7, 8, 9, 10, 11] rfl (by decide) 0 5 rfl rfl) rfl rfl hl.1 rfl (lv_room (Nat.le_of_ble_eq_true rfl)) dX5_greatest_12 ⟨Nat.zero_le _, Nat.zero_le _⟩) (fun H locs hw => ?_)
    have hw : Wd D A s.heap (zwM cI cJ aM Mnow Mread Mpast Mchanges Mtext Mletters u9.1 u9.2.1 u9.2.2.1 u9.2.2.2 Mloads Mbelow Morder Melected Mmembers Mabove Munder Mspot Mvalue) H locs := hw
    refine lv_aload_n hx hb dX5_greatest_15 rfl (lv_at hl 0 rfl) ?_
    refine lv_iconst (v := 0) hx hb dX5_greatest_16 (by decide) ?_
    obtain ⟨u11, e12, hf⟩ := zk_bd hf
    refine zk_callv (wc := zwM cI cJ aM Mnow Mread Mpast Mchanges Mtext Mletters u9.1 u9.2.1 u9.2.2.1 u9.2.2.2 Mloads Mbelow Morder Melected Mmembers Mabove Munder Mspot Mvalue) (wr := []) hw hA [0, 1, 2, 3, 4, 5, 6, 7, 8, 9, 10, 11] [] rfl rfl (by decide) (by decide) (va_runV (C := RX5) (As := [.int (0 : Int32)]) (rest := []) ⟨hx, hb, hml, hown, hts⟩ (kX5_elects l D cI cJ cO N aM (0 : Int32) Mnow Mread Mpast Mchanges Mtext Mletters u9.1 u9.2.1 u9.2.2.1 u9.2.2.2 Mloads Mbelow Morder Melected Mmembers Mabove Munder Mspot Mvalue u11 e12 H.size) (cwV 1 hts gX5_greatest_X5_elects rfl rfl rfl (by decide +kernel) ⟨Nat.le_of_ble_eq_true rfl, Nat.le_of_ble_eq_true rfl⟩) (zk_preV (wc := zwM cI cJ aM Mnow Mread Mpast Mchanges Mtext Mletters u9.1 u9.2.1 u9.2.2.1 u9.2.2.2 Mloads Mbelow Morder Melected Mmembers Mabove Munder Mspot Mvalue) hN hK hw [0, 1, 2, 3, 4, 5, 6, 7, 8, 9, 10, 11] rfl (by decide) 0 5 rfl rfl) rfl rfl hl.1 rfl (lv_room (Nat.le_of_ble_eq_true rfl)) dX5_greatest_17 ⟨Nat.zero_le _, Nat.zero_le _⟩) (fun H locs hw => ?_)
    have hw : Wd D A s.heap (zwM cI cJ aM Mnow Mread Mpast Mchanges Mtext Mletters u9.1 u9.2.1 u9.2.2.1 u9.2.2.2 u11.1 u11.2.1 u11.2.2.1 u11.2.2.2.1 u11.2.2.2.2.1 u11.2.2.2.2.2.1 u11.2.2.2.2.2.2 Mspot Mvalue) H locs := hw
    refine lv_lconst (v := 0) hx hb dX5_greatest_20 (by decide) ?_
    refine lv_lstore_n (lv' := [(2, .long (0 : Int64)), (0, .ref (aM 0)), (1, .int p0)]) hx hb dX5_greatest_21 rfl hl (by decide) rfl (fun ls hl => ?_)
    refine lv_iconst (v := 0) hx hb dX5_greatest_22 (by decide) ?_
    refine lv_istore (lv' := [(4, .int (0 : Int32)), (2, .long (0 : Int64)), (0, .ref (aM 0)), (1, .int p0)]) hx hb dX5_greatest_23 hl (by decide) rfl (fun ls hl => ?_)
    exact b25 N p0 (0 : Int64) (0 : Int32) u9.1 u9.2.1 u9.2.2.1 u9.2.2.2 u11.1 u11.2.1 u11.2.2.1 u11.2.2.2.1 u11.2.2.2.2.1 u11.2.2.2.2.2.1 u11.2.2.2.2.2.2 hf H locs ls hw (lv_sub hl [2, 3, 1, 0] rfl)
  · replace hf := zk_t c8 hf
    refine lv_ldc2 hx hb hown hq3 dX5_greatest_7 ?_
    cases hf
    exact zk_lret hx hb hr hlocks hQ hw [0, 1, 2, 3, 4, 5, 6, 7, 8, 9, 10, 11] rfl (by decide) dX5_greatest_10
set_option maxHeartbeats 4000000 in
set_option maxRecDepth 100000 in
theorem kX5_agreed (l : Launch) (D : va_G) (cI cJ cO : ClassId) (N : Nat) (aM : Nat → Nat) (p0 : Int32) (Mnow : Nat → Int32) (Mread : Nat → Int32) (Mpast : Nat → Int32) (Mchanges : Int32) (Mtext : Nat → Int32) (Mletters : Int32) (Mheads : Nat → Int32) (Msets : Nat → Int32) (Mballots : Int32) (Mranks : Nat → Int32) (Mloads : Nat → Int64) (Mbelow : Int64) (Morder : Nat → Int32) (Melected : Int32) (Mmembers : Int32) (Mabove : Nat → Int64) (Munder : Nat → Int64) (Mspot : Int32) (Mvalue : Int32) (u : Int32) (hf : fX5_agreed N p0 Mnow = some u) : CtI l yX5_agreed wsX5_agreed (zk_rm 0 0) D cI cJ cO [.ref (aM 0), .int p0] (zwM cI cJ aM Mnow Mread Mpast Mchanges Mtext Mletters Mheads Msets Mballots Mranks Mloads Mbelow Morder Melected Mmembers Mabove Munder Mspot Mvalue) (zwM cI cJ aM Mnow Mread Mpast Mchanges Mtext Mletters Mheads Msets Mballots Mranks Mloads Mbelow Morder Melected Mmembers Mabove Munder Mspot Mvalue) (u) := by
  refine zk_enter (cc := cX5_agreed) (maxL := 4) (ret := some .int) (own := RX5) (Qf := fun A => QwI D (zwM cI cJ aM Mnow Mread Mpast Mchanges Mtext Mletters Mheads Msets Mballots Mranks Mloads Mbelow Morder Melected Mmembers Mabove Munder Mspot Mvalue) (u) A) (by decide) rfl rfl (Nat.le_of_ble_eq_true rfl) ?_
  intro p e s m args below meth c A Q H locs ls hC hQ hw hl
  obtain ⟨hx, hb, hml, hr, hts, hown, hlocks, hN, hK, hA⟩ := hC
  have hl : lv_has ls 4 [(0, .ref (aM 0)), (1, .int p0)] := hl
  have hiX5 : ∀ w ∈ u_ws RX5 TX5 19, w ∈ wsX5_agreed := by decide +kernel
  have hq0 := hts (.fieldLink RX5 7 "LoadCouncilModel" "now" "[I") (by decide +kernel)
  have b4 : ∀ (n4 : Nat), ∀ (x1 : Int32) (x2 : Int32) (x3 : Int32), fX5_agreed_b4 N n4 x1 x2 x3 Mnow = some u → ∀ (H : Heap) (locs : List Loc) (ls : Array Slot), Wd D A s.heap (zwM cI cJ aM Mnow Mread Mpast Mchanges Mtext Mletters Mheads Msets Mballots Mranks Mloads Mbelow Morder Melected Mmembers Mabove Munder Mspot Mvalue) H locs → lv_has ls 4 [(0, .ref (aM 0)), (1, .int x1), (2, .int x2), (3, .int x3)] → W p l e (zk_rm 0 0) s m args below meth c H locs 0 0 Q (F0 m 4 ls []) := by
    intro n4
    induction n4 with
    | zero =>
      intro x1 x2 x3 hf
      exact zk_none hf
    | succ n4 ih4 =>
      have b42 : ∀ (x1 : Int32) (x3 : Int32) (t0 : Int32) (t1 : Int32), fX5_agreed_b42 N (fun z0 z1 z2 z3 => fX5_agreed_b4 N n4 z0 z1 z2 z3) x1 x3 t0 t1 Mnow = some u → ∀ (H : Heap) (locs : List Loc) (ls : Array Slot), Wd D A s.heap (zwM cI cJ aM Mnow Mread Mpast Mchanges Mtext Mletters Mheads Msets Mballots Mranks Mloads Mbelow Morder Melected Mmembers Mabove Munder Mspot Mvalue) H locs → lv_has ls 4 [(0, .ref (aM 0)), (1, .int x1), (3, .int x3)] → W p l e (zk_rm 0 0) s m args below meth c H locs 0 0 Q (F0 m 42 ls [.int t1, .int t0]) := by
        intro x1 x3 t0 t1 hf H locs ls hw hl
        unfold fX5_agreed_b42 at hf
        refine lv_iadd hx hb dX5_agreed_42 ?_
        refine lv_istore_n (lv' := [(2, .int (t0 + t1)), (0, .ref (aM 0)), (1, .int x1), (3, .int x3)]) hx hb dX5_agreed_43 rfl hl (by decide) rfl (fun ls hl => ?_)
        refine lv_iinc (v := (x3 + (1 : Int32))) (lv' := [(3, .int (x3 + (1 : Int32))), (2, .int (t0 + t1)), (0, .ref (aM 0)), (1, .int x1)]) hx hb dX5_agreed_44 hl (k := 3) rfl rfl (by decide) rfl (fun ls hl => ?_)
        refine lv_goto (tgt := 4) hx hb dX5_agreed_47 (by decide) ?_
        exact ih4 x1 (t0 + t1) (x3 + (1 : Int32)) hf H locs ls hw (lv_sub hl [2, 3, 1, 0] rfl)
      intro x1 x2 x3 hf H locs ls hw hl
      rw [fX5_agreed_b4] at hf
      refine lv_iload_n hx hb dX5_agreed_4 rfl (lv_at hl 3 rfl) ?_
      refine lv_aload_n hx hb dX5_agreed_5 rfl (lv_at hl 0 rfl) ?_
      refine va_get (D := D) (ci := 5) (v := .ref (aM 1)) (C := RX5) (T := TX5) (N := 19) hx hb hts hiX5 hown hK hw.1 0 rfl rfl 0 (by decide) hq0 (fun _ h9 => h9) rfl dX5_agreed_6 ?_
      refine lv_iconst (v := 1) hx hb dX5_agreed_9 (by decide) ?_
      refine zk_iald hx hb hK hw 1 rfl (zk_in (by decide)) (j := 1) rfl dX5_agreed_10 ?_
      refine lv_icmp_ge (tgt := 50) hx hb dX5_agreed_11 (by decide) (fun c1 => ?_) (fun c1 => ?_)
      · replace hf := zk_t c1 hf
        refine lv_iload_n hx hb dX5_agreed_50 rfl (lv_at hl 2 rfl) ?_
        cases hf
        exact zk_iret hx hb hr hlocks rfl hQ hw [0, 1, 2, 3, 4, 5, 6, 7, 8, 9, 10, 11] rfl (by decide) dX5_agreed_51
      · replace hf := zk_f c1 hf
        refine lv_iload_n hx hb dX5_agreed_14 rfl (lv_at hl 2 rfl) ?_
        refine lv_aload_n hx hb dX5_agreed_15 rfl (lv_at hl 0 rfl) ?_
        refine va_get (D := D) (ci := 5) (v := .ref (aM 1)) (C := RX5) (T := TX5) (N := 19) hx hb hts hiX5 hown hK hw.1 0 rfl rfl 0 (by decide) hq0 (fun _ h9 => h9) rfl dX5_agreed_16 ?_
        refine lv_bipush (v := 12) hx hb dX5_agreed_19 (by decide) ?_
        refine lv_iload_n hx hb dX5_agreed_21 rfl (lv_at hl 3 rfl) ?_
        refine lv_iadd hx hb dX5_agreed_22 ?_
        obtain ⟨h2, hf⟩ := zk_ck hf
        refine zk_iald hx hb hK hw 1 rfl h2 (j := ((12 : Int32) + x3).toNatClampNeg) rfl dX5_agreed_23 ?_
        refine lv_iload_n hx hb dX5_agreed_24 rfl (lv_at hl 1 rfl) ?_
        refine lv_iand hx hb dX5_agreed_25 ?_
        refine lv_iload_n hx hb dX5_agreed_26 rfl (lv_at hl 1 rfl) ?_
        refine lv_icmp_ne (tgt := 41) hx hb dX5_agreed_27 (by decide) (fun c3 => ?_) (fun c3 => ?_)
        · replace hf := zk_f c3 hf
          refine lv_iconst (v := 0) hx hb dX5_agreed_41 (by decide) ?_
          exact b42 x1 x3 x2 (0 : Int32) hf H locs ls hw (lv_sub hl [0, 1, 3] rfl)
        · replace hf := zk_t c3 hf
          refine lv_aload_n hx hb dX5_agreed_30 rfl (lv_at hl 0 rfl) ?_
          refine va_get (D := D) (ci := 5) (v := .ref (aM 1)) (C := RX5) (T := TX5) (N := 19) hx hb hts hiX5 hown hK hw.1 0 rfl rfl 0 (by decide) hq0 (fun _ h9 => h9) rfl dX5_agreed_31 ?_
          refine lv_iconst (v := 2) hx hb dX5_agreed_34 (by decide) ?_
          refine lv_iload_n hx hb dX5_agreed_35 rfl (lv_at hl 3 rfl) ?_
          refine lv_iadd hx hb dX5_agreed_36 ?_
          obtain ⟨h4, hf⟩ := zk_ck hf
          refine zk_iald hx hb hK hw 1 rfl h4 (j := ((2 : Int32) + x3).toNatClampNeg) rfl dX5_agreed_37 ?_
          refine lv_goto (tgt := 42) hx hb dX5_agreed_38 (by decide) ?_
          exact b42 x1 x3 x2 (Mnow (((2 : Int32) + x3).toNatClampNeg)) hf H locs ls hw (lv_sub hl [0, 1, 3] rfl)
  unfold fX5_agreed at hf
  refine lv_iconst (v := 0) hx hb dX5_agreed_0 (by decide) ?_
  refine lv_istore_n (lv' := [(2, .int (0 : Int32)), (0, .ref (aM 0)), (1, .int p0)]) hx hb dX5_agreed_1 rfl hl (by decide) rfl (fun ls hl => ?_)
  refine lv_iconst (v := 0) hx hb dX5_agreed_2 (by decide) ?_
  refine lv_istore_n (lv' := [(3, .int (0 : Int32)), (2, .int (0 : Int32)), (0, .ref (aM 0)), (1, .int p0)]) hx hb dX5_agreed_3 rfl hl (by decide) rfl (fun ls hl => ?_)
  exact b4 N p0 (0 : Int32) (0 : Int32) hf H locs ls hw (lv_sub hl [2, 3, 1, 0] rfl)
set_option maxHeartbeats 4000000 in
set_option maxRecDepth 100000 in
theorem kX5_isOwed (l : Launch) (D : va_G) (cI cJ cO : ClassId) (N : Nat) (aM : Nat → Nat) (p0 : Int32) (Mnow : Nat → Int32) (Mread : Nat → Int32) (Mpast : Nat → Int32) (Mchanges : Int32) (Mtext : Nat → Int32) (Mletters : Int32) (Mheads : Nat → Int32) (Msets : Nat → Int32) (Mballots : Int32) (Mranks : Nat → Int32) (Mloads : Nat → Int64) (Mbelow : Int64) (Morder : Nat → Int32) (Melected : Int32) (Mmembers : Int32) (Mabove : Nat → Int64) (Munder : Nat → Int64) (Mspot : Int32) (Mvalue : Int32) (u : Int32) (hf : fX5_isOwed N p0 Mnow = some u) : CtI l yX5_isOwed wsX5_isOwed (zk_rm 1 23) D cI cJ cO [.ref (aM 0), .int p0] (zwM cI cJ aM Mnow Mread Mpast Mchanges Mtext Mletters Mheads Msets Mballots Mranks Mloads Mbelow Morder Melected Mmembers Mabove Munder Mspot Mvalue) (zwM cI cJ aM Mnow Mread Mpast Mchanges Mtext Mletters Mheads Msets Mballots Mranks Mloads Mbelow Morder Melected Mmembers Mabove Munder Mspot Mvalue) (u) := by
  refine zk_enter (cc := cX5_isOwed) (maxL := 3) (ret := some .boolean) (own := RX5) (Qf := fun A => QwI D (zwM cI cJ aM Mnow Mread Mpast Mchanges Mtext Mletters Mheads Msets Mballots Mranks Mloads Mbelow Morder Melected Mmembers Mabove Munder Mspot Mvalue) (u) A) (by decide) rfl rfl (Nat.le_of_ble_eq_true rfl) ?_
  intro p e s m args below meth c A Q H locs ls hC hQ hw hl
  obtain ⟨hx, hb, hml, hr, hts, hown, hlocks, hN, hK, hA⟩ := hC
  have hl : lv_has ls 3 [(0, .ref (aM 0)), (1, .int p0)] := hl
  have hiX5 : ∀ w ∈ u_ws RX5 TX5 19, w ∈ wsX5_isOwed := by decide +kernel
  have hq0 := hts (.fieldLink RX5 7 "LoadCouncilModel" "now" "[I") (by decide +kernel)
  unfold fX5_isOwed at hf
  refine lv_aload_n hx hb dX5_isOwed_0 rfl (lv_at hl 0 rfl) ?_
  refine lv_iload_n hx hb dX5_isOwed_1 rfl (lv_at hl 1 rfl) ?_
  obtain ⟨u1, e2, hf⟩ := zk_bd hf
  refine zk_calli (wc := zwM cI cJ aM Mnow Mread Mpast Mchanges Mtext Mletters Mheads Msets Mballots Mranks Mloads Mbelow Morder Melected Mmembers Mabove Munder Mspot Mvalue) (wr := []) hw hA [0, 1, 2, 3, 4, 5, 6, 7, 8, 9, 10, 11] [] rfl rfl (by decide) (by decide) (va_runV (C := RX5) (As := [.int p0]) (rest := []) ⟨hx, hb, hml, hown, hts⟩ (kX5_agreed l D cI cJ cO N aM p0 Mnow Mread Mpast Mchanges Mtext Mletters Mheads Msets Mballots Mranks Mloads Mbelow Morder Melected Mmembers Mabove Munder Mspot Mvalue u1 e2 H.size) (cwV 1 hts gX5_isOwed_X5_agreed rfl rfl rfl (by decide +kernel) ⟨Nat.le_of_ble_eq_true rfl, Nat.le_of_ble_eq_true rfl⟩) (zk_preV (wc := zwM cI cJ aM Mnow Mread Mpast Mchanges Mtext Mletters Mheads Msets Mballots Mranks Mloads Mbelow Morder Melected Mmembers Mabove Munder Mspot Mvalue) hN hK hw [0, 1, 2, 3, 4, 5, 6, 7, 8, 9, 10, 11] rfl (by decide) 0 5 rfl rfl) rfl rfl hl.1 rfl (lv_room (Nat.le_of_ble_eq_true rfl)) dX5_isOwed_2 ⟨Nat.zero_le _, Nat.zero_le _⟩) (fun H locs hw => ?_)
  have hw : Wd D A s.heap (zwM cI cJ aM Mnow Mread Mpast Mchanges Mtext Mletters Mheads Msets Mballots Mranks Mloads Mbelow Morder Melected Mmembers Mabove Munder Mspot Mvalue) H locs := hw
  refine lv_istore_n (lv' := [(2, .int u1), (0, .ref (aM 0)), (1, .int p0)]) hx hb dX5_isOwed_5 rfl hl (by decide) rfl (fun ls hl => ?_)
  refine lv_iload_n hx hb dX5_isOwed_6 rfl (lv_at hl 0 rfl) ?_
  refine lv_if_le (tgt := 35) hx hb dX5_isOwed_7 (by decide) (fun c3 => ?_) (fun c3 => ?_)
  · replace hf := zk_t c3 hf
    refine lv_iconst (v := 0) hx hb dX5_isOwed_35 (by decide) ?_
    cases hf
    exact zk_iret hx hb hr hlocks rfl hQ hw [0, 1, 2, 3, 4, 5, 6, 7, 8, 9, 10, 11] rfl (by decide) dX5_isOwed_36
  · replace hf := zk_f c3 hf
    refine lv_iload_n hx hb dX5_isOwed_10 rfl (lv_at hl 0 rfl) ?_
    refine lv_aload_n hx hb dX5_isOwed_11 rfl (lv_at hl 1 rfl) ?_
    refine va_get (D := D) (ci := 5) (v := .ref (aM 1)) (C := RX5) (T := TX5) (N := 19) hx hb hts hiX5 hown hK hw.1 0 rfl rfl 0 (by decide) hq0 (fun _ h9 => h9) rfl dX5_isOwed_12 ?_
    refine lv_bipush (v := 22) hx hb dX5_isOwed_15 (by decide) ?_
    refine zk_iald hx hb hK hw 1 rfl (zk_in (by decide)) (j := 22) rfl dX5_isOwed_17 ?_
    refine lv_imul hx hb dX5_isOwed_18 ?_
    refine lv_iload_n hx hb dX5_isOwed_19 rfl (lv_at hl 2 rfl) ?_
    obtain ⟨u4, e5, hf⟩ := zk_bd hf
    refine zk_calli (wc := []) (wr := zwM cI cJ aM Mnow Mread Mpast Mchanges Mtext Mletters Mheads Msets Mballots Mranks Mloads Mbelow Morder Melected Mmembers Mabove Munder Mspot Mvalue) hw hA [] [0, 1, 2, 3, 4, 5, 6, 7, 8, 9, 10, 11] rfl rfl (by decide) (by decide) (va_runS (As := [.int p0]) (rest := [.int (u1 * (Mnow 22))]) ⟨hx, hb, hml, hown, hts⟩ (kX5_ones l D cI cJ cO N p0 u4 e5 H.size) (va_cwS 1 hts gX5_isOwed_X5_ones rfl rfl rfl (by decide +kernel) ⟨Nat.le_of_ble_eq_true rfl, Nat.le_of_ble_eq_true rfl⟩) (zk_preS (wc := []) hN hK hw [] rfl (by decide)) rfl rfl hl.1 rfl (lv_room (Nat.le_of_ble_eq_true rfl)) dX5_isOwed_20 ⟨Nat.zero_le _, Nat.zero_le _⟩) (fun H locs hw => ?_)
    have hw : Wd D A s.heap (zwM cI cJ aM Mnow Mread Mpast Mchanges Mtext Mletters Mheads Msets Mballots Mranks Mloads Mbelow Morder Melected Mmembers Mabove Munder Mspot Mvalue) H locs := hw
    refine lv_aload_n hx hb dX5_isOwed_23 rfl (lv_at hl 1 rfl) ?_
    obtain ⟨u6, e7, hf⟩ := zk_bd hf
    refine zk_calli (wc := zwM cI cJ aM Mnow Mread Mpast Mchanges Mtext Mletters Mheads Msets Mballots Mranks Mloads Mbelow Morder Melected Mmembers Mabove Munder Mspot Mvalue) (wr := []) hw hA [0, 1, 2, 3, 4, 5, 6, 7, 8, 9, 10, 11] [] rfl rfl (by decide) (by decide) (va_runV (C := RX5) (As := []) (rest := [.int u4, .int (u1 * (Mnow 22))]) ⟨hx, hb, hml, hown, hts⟩ (kX5_allVoters l D cI cJ cO N aM Mnow Mread Mpast Mchanges Mtext Mletters Mheads Msets Mballots Mranks Mloads Mbelow Morder Melected Mmembers Mabove Munder Mspot Mvalue u6 e7 H.size) (cwV 0 hts gX5_isOwed_X5_allVoters rfl rfl rfl (by decide +kernel) ⟨Nat.le_of_ble_eq_true rfl, Nat.le_of_ble_eq_true rfl⟩) (zk_preV (wc := zwM cI cJ aM Mnow Mread Mpast Mchanges Mtext Mletters Mheads Msets Mballots Mranks Mloads Mbelow Morder Melected Mmembers Mabove Munder Mspot Mvalue) hN hK hw [0, 1, 2, 3, 4, 5, 6, 7, 8, 9, 10, 11] rfl (by decide) 0 5 rfl rfl) rfl rfl hl.1 rfl (lv_room (Nat.le_of_ble_eq_true rfl)) dX5_isOwed_24 ⟨Nat.zero_le _, Nat.zero_le _⟩) (fun H locs hw => ?_)
    have hw : Wd D A s.heap (zwM cI cJ aM Mnow Mread Mpast Mchanges Mtext Mletters Mheads Msets Mballots Mranks Mloads Mbelow Morder Melected Mmembers Mabove Munder Mspot Mvalue) H locs := hw
    refine lv_imul hx hb dX5_isOwed_27 ?_
    refine lv_icmp_lt (tgt := 35) hx hb dX5_isOwed_28 (by decide) (fun c8 => ?_) (fun c8 => ?_)
    · replace hf := zk_t c8 hf
      refine lv_iconst (v := 0) hx hb dX5_isOwed_35 (by decide) ?_
      cases hf
      exact zk_iret hx hb hr hlocks rfl hQ hw [0, 1, 2, 3, 4, 5, 6, 7, 8, 9, 10, 11] rfl (by decide) dX5_isOwed_36
    · replace hf := zk_f c8 hf
      refine lv_iconst (v := 1) hx hb dX5_isOwed_31 (by decide) ?_
      refine lv_goto (tgt := 36) hx hb dX5_isOwed_32 (by decide) ?_
      cases hf
      exact zk_iret hx hb hr hlocks rfl hQ hw [0, 1, 2, 3, 4, 5, 6, 7, 8, 9, 10, 11] rfl (by decide) dX5_isOwed_36
set_option maxHeartbeats 4000000 in
set_option maxRecDepth 100000 in
theorem kX5_unionOf (l : Launch) (D : va_G) (cI cJ cO : ClassId) (N : Nat) (aM : Nat → Nat) (p0 : Int32) (Mnow : Nat → Int32) (Mread : Nat → Int32) (Mpast : Nat → Int32) (Mchanges : Int32) (Mtext : Nat → Int32) (Mletters : Int32) (Mheads : Nat → Int32) (Msets : Nat → Int32) (Mballots : Int32) (Mranks : Nat → Int32) (Mloads : Nat → Int64) (Mbelow : Int64) (Morder : Nat → Int32) (Melected : Int32) (Mmembers : Int32) (Mabove : Nat → Int64) (Munder : Nat → Int64) (Mspot : Int32) (Mvalue : Int32) (u : Int32) (hf : fX5_unionOf N p0 Mnow = some u) : CtI l yX5_unionOf wsX5_unionOf (zk_rm 0 0) D cI cJ cO [.ref (aM 0), .int p0] (zwM cI cJ aM Mnow Mread Mpast Mchanges Mtext Mletters Mheads Msets Mballots Mranks Mloads Mbelow Morder Melected Mmembers Mabove Munder Mspot Mvalue) (zwM cI cJ aM Mnow Mread Mpast Mchanges Mtext Mletters Mheads Msets Mballots Mranks Mloads Mbelow Morder Melected Mmembers Mabove Munder Mspot Mvalue) (u) := by
  refine zk_enter (cc := cX5_unionOf) (maxL := 4) (ret := some .int) (own := RX5) (Qf := fun A => QwI D (zwM cI cJ aM Mnow Mread Mpast Mchanges Mtext Mletters Mheads Msets Mballots Mranks Mloads Mbelow Morder Melected Mmembers Mabove Munder Mspot Mvalue) (u) A) (by decide) rfl rfl (Nat.le_of_ble_eq_true rfl) ?_
  intro p e s m args below meth c A Q H locs ls hC hQ hw hl
  obtain ⟨hx, hb, hml, hr, hts, hown, hlocks, hN, hK, hA⟩ := hC
  have hl : lv_has ls 4 [(0, .ref (aM 0)), (1, .int p0)] := hl
  have hiX5 : ∀ w ∈ u_ws RX5 TX5 19, w ∈ wsX5_unionOf := by decide +kernel
  have hq0 := hts (.fieldLink RX5 7 "LoadCouncilModel" "now" "[I") (by decide +kernel)
  have b4 : ∀ (n4 : Nat), ∀ (x1 : Int32) (x2 : Int32) (x3 : Int32), fX5_unionOf_b4 N n4 x1 x2 x3 Mnow = some u → ∀ (H : Heap) (locs : List Loc) (ls : Array Slot), Wd D A s.heap (zwM cI cJ aM Mnow Mread Mpast Mchanges Mtext Mletters Mheads Msets Mballots Mranks Mloads Mbelow Morder Melected Mmembers Mabove Munder Mspot Mvalue) H locs → lv_has ls 4 [(0, .ref (aM 0)), (1, .int x1), (2, .int x2), (3, .int x3)] → W p l e (zk_rm 0 0) s m args below meth c H locs 0 0 Q (F0 m 4 ls []) := by
    intro n4
    induction n4 with
    | zero =>
      intro x1 x2 x3 hf
      exact zk_none hf
    | succ n4 ih4 =>
      have b43 : ∀ (x1 : Int32) (x3 : Int32) (t0 : Int32) (t1 : Int32), fX5_unionOf_b43 N (fun z0 z1 z2 z3 => fX5_unionOf_b4 N n4 z0 z1 z2 z3) x1 x3 t0 t1 Mnow = some u → ∀ (H : Heap) (locs : List Loc) (ls : Array Slot), Wd D A s.heap (zwM cI cJ aM Mnow Mread Mpast Mchanges Mtext Mletters Mheads Msets Mballots Mranks Mloads Mbelow Morder Melected Mmembers Mabove Munder Mspot Mvalue) H locs → lv_has ls 4 [(0, .ref (aM 0)), (1, .int x1), (3, .int x3)] → W p l e (zk_rm 0 0) s m args below meth c H locs 0 0 Q (F0 m 43 ls [.int t1, .int t0]) := by
        intro x1 x3 t0 t1 hf H locs ls hw hl
        unfold fX5_unionOf_b43 at hf
        refine lv_ior hx hb dX5_unionOf_43 ?_
        refine lv_istore_n (lv' := [(2, .int (t0 ||| t1)), (0, .ref (aM 0)), (1, .int x1), (3, .int x3)]) hx hb dX5_unionOf_44 rfl hl (by decide) rfl (fun ls hl => ?_)
        refine lv_iinc (v := (x3 + (1 : Int32))) (lv' := [(3, .int (x3 + (1 : Int32))), (2, .int (t0 ||| t1)), (0, .ref (aM 0)), (1, .int x1)]) hx hb dX5_unionOf_45 hl (k := 3) rfl rfl (by decide) rfl (fun ls hl => ?_)
        refine lv_goto (tgt := 4) hx hb dX5_unionOf_48 (by decide) ?_
        exact ih4 x1 (t0 ||| t1) (x3 + (1 : Int32)) hf H locs ls hw (lv_sub hl [2, 3, 1, 0] rfl)
      intro x1 x2 x3 hf H locs ls hw hl
      rw [fX5_unionOf_b4] at hf
      refine lv_iload_n hx hb dX5_unionOf_4 rfl (lv_at hl 3 rfl) ?_
      refine lv_aload_n hx hb dX5_unionOf_5 rfl (lv_at hl 0 rfl) ?_
      refine va_get (D := D) (ci := 5) (v := .ref (aM 1)) (C := RX5) (T := TX5) (N := 19) hx hb hts hiX5 hown hK hw.1 0 rfl rfl 0 (by decide) hq0 (fun _ h9 => h9) rfl dX5_unionOf_6 ?_
      refine lv_iconst (v := 1) hx hb dX5_unionOf_9 (by decide) ?_
      refine zk_iald hx hb hK hw 1 rfl (zk_in (by decide)) (j := 1) rfl dX5_unionOf_10 ?_
      refine lv_icmp_ge (tgt := 51) hx hb dX5_unionOf_11 (by decide) (fun c1 => ?_) (fun c1 => ?_)
      · replace hf := zk_t c1 hf
        refine lv_iload_n hx hb dX5_unionOf_51 rfl (lv_at hl 2 rfl) ?_
        cases hf
        exact zk_iret hx hb hr hlocks rfl hQ hw [0, 1, 2, 3, 4, 5, 6, 7, 8, 9, 10, 11] rfl (by decide) dX5_unionOf_52
      · replace hf := zk_f c1 hf
        refine lv_iload_n hx hb dX5_unionOf_14 rfl (lv_at hl 2 rfl) ?_
        refine lv_aload_n hx hb dX5_unionOf_15 rfl (lv_at hl 0 rfl) ?_
        refine va_get (D := D) (ci := 5) (v := .ref (aM 1)) (C := RX5) (T := TX5) (N := 19) hx hb hts hiX5 hown hK hw.1 0 rfl rfl 0 (by decide) hq0 (fun _ h9 => h9) rfl dX5_unionOf_16 ?_
        refine lv_bipush (v := 12) hx hb dX5_unionOf_19 (by decide) ?_
        refine lv_iload_n hx hb dX5_unionOf_21 rfl (lv_at hl 3 rfl) ?_
        refine lv_iadd hx hb dX5_unionOf_22 ?_
        obtain ⟨h2, hf⟩ := zk_ck hf
        refine zk_iald hx hb hK hw 1 rfl h2 (j := ((12 : Int32) + x3).toNatClampNeg) rfl dX5_unionOf_23 ?_
        refine lv_iload_n hx hb dX5_unionOf_24 rfl (lv_at hl 1 rfl) ?_
        refine lv_iand hx hb dX5_unionOf_25 ?_
        refine lv_iload_n hx hb dX5_unionOf_26 rfl (lv_at hl 1 rfl) ?_
        refine lv_icmp_ne (tgt := 42) hx hb dX5_unionOf_27 (by decide) (fun c3 => ?_) (fun c3 => ?_)
        · replace hf := zk_f c3 hf
          refine lv_iconst (v := 0) hx hb dX5_unionOf_42 (by decide) ?_
          exact b43 x1 x3 x2 (0 : Int32) hf H locs ls hw (lv_sub hl [0, 1, 3] rfl)
        · replace hf := zk_t c3 hf
          refine lv_aload_n hx hb dX5_unionOf_30 rfl (lv_at hl 0 rfl) ?_
          refine va_get (D := D) (ci := 5) (v := .ref (aM 1)) (C := RX5) (T := TX5) (N := 19) hx hb hts hiX5 hown hK hw.1 0 rfl rfl 0 (by decide) hq0 (fun _ h9 => h9) rfl dX5_unionOf_31 ?_
          refine lv_bipush (v := 12) hx hb dX5_unionOf_34 (by decide) ?_
          refine lv_iload_n hx hb dX5_unionOf_36 rfl (lv_at hl 3 rfl) ?_
          refine lv_iadd hx hb dX5_unionOf_37 ?_
          refine zk_iald hx hb hK hw 1 rfl h2 (j := ((12 : Int32) + x3).toNatClampNeg) rfl dX5_unionOf_38 ?_
          refine lv_goto (tgt := 43) hx hb dX5_unionOf_39 (by decide) ?_
          exact b43 x1 x3 x2 (Mnow (((12 : Int32) + x3).toNatClampNeg)) hf H locs ls hw (lv_sub hl [0, 1, 3] rfl)
  unfold fX5_unionOf at hf
  refine lv_iconst (v := 0) hx hb dX5_unionOf_0 (by decide) ?_
  refine lv_istore_n (lv' := [(2, .int (0 : Int32)), (0, .ref (aM 0)), (1, .int p0)]) hx hb dX5_unionOf_1 rfl hl (by decide) rfl (fun ls hl => ?_)
  refine lv_iconst (v := 0) hx hb dX5_unionOf_2 (by decide) ?_
  refine lv_istore_n (lv' := [(3, .int (0 : Int32)), (2, .int (0 : Int32)), (0, .ref (aM 0)), (1, .int p0)]) hx hb dX5_unionOf_3 rfl hl (by decide) rfl (fun ls hl => ?_)
  exact b4 N p0 (0 : Int32) (0 : Int32) hf H locs ls hw (lv_sub hl [2, 3, 1, 0] rfl)
set_option maxHeartbeats 4000000 in
set_option maxRecDepth 100000 in
theorem kX5_agrees (l : Launch) (D : va_G) (cI cJ cO : ClassId) (N : Nat) (aM : Nat → Nat) (p0 : Int32) (p1 : Int32) (Mnow : Nat → Int32) (Mread : Nat → Int32) (Mpast : Nat → Int32) (Mchanges : Int32) (Mtext : Nat → Int32) (Mletters : Int32) (Mheads : Nat → Int32) (Msets : Nat → Int32) (Mballots : Int32) (Mranks : Nat → Int32) (Mloads : Nat → Int64) (Mbelow : Int64) (Morder : Nat → Int32) (Melected : Int32) (Mmembers : Int32) (Mabove : Nat → Int64) (Munder : Nat → Int64) (Mspot : Int32) (Mvalue : Int32) (u : Int32 × (Nat → Int32) × (Nat → Int32) × (Int32) × (Nat → Int32) × (Nat → Int64) × (Int64) × (Nat → Int32) × (Int32) × (Int32) × (Nat → Int64) × (Nat → Int64)) (hf : fX5_agrees N p0 p1 Mnow Mheads Msets Mballots Mranks Mloads Mbelow Morder Melected Mmembers Mabove Munder = some u) : CtI l yX5_agrees wsX5_agrees (zk_rm 6 140) D cI cJ cO [.ref (aM 0), .int p0, .int p1] (zwM cI cJ aM Mnow Mread Mpast Mchanges Mtext Mletters Mheads Msets Mballots Mranks Mloads Mbelow Morder Melected Mmembers Mabove Munder Mspot Mvalue) (zwM cI cJ aM Mnow Mread Mpast Mchanges Mtext Mletters u.2.1 u.2.2.1 u.2.2.2.1 u.2.2.2.2.1 u.2.2.2.2.2.1 u.2.2.2.2.2.2.1 u.2.2.2.2.2.2.2.1 u.2.2.2.2.2.2.2.2.1 u.2.2.2.2.2.2.2.2.2.1 u.2.2.2.2.2.2.2.2.2.2.1 u.2.2.2.2.2.2.2.2.2.2.2 Mspot Mvalue) (u.1) := by
  refine zk_enter (cc := cX5_agrees) (maxL := 3) (ret := some .int) (own := RX5) (Qf := fun A => QwI D (zwM cI cJ aM Mnow Mread Mpast Mchanges Mtext Mletters u.2.1 u.2.2.1 u.2.2.2.1 u.2.2.2.2.1 u.2.2.2.2.2.1 u.2.2.2.2.2.2.1 u.2.2.2.2.2.2.2.1 u.2.2.2.2.2.2.2.2.1 u.2.2.2.2.2.2.2.2.2.1 u.2.2.2.2.2.2.2.2.2.2.1 u.2.2.2.2.2.2.2.2.2.2.2 Mspot Mvalue) (u.1) A) (by decide) rfl rfl (Nat.le_of_ble_eq_true rfl) ?_
  intro p e s m args below meth c A Q H locs ls hC hQ hw hl
  obtain ⟨hx, hb, hml, hr, hts, hown, hlocks, hN, hK, hA⟩ := hC
  have hl : lv_has ls 3 [(0, .ref (aM 0)), (1, .int p0), (2, .int p1)] := hl
  unfold fX5_agrees at hf
  refine lv_aload_n hx hb dX5_agrees_0 rfl (lv_at hl 0 rfl) ?_
  refine lv_iload_n hx hb dX5_agrees_1 rfl (lv_at hl 1 rfl) ?_
  obtain ⟨u1, e2, hf⟩ := zk_bd hf
  refine zk_calli (wc := zwM cI cJ aM Mnow Mread Mpast Mchanges Mtext Mletters Mheads Msets Mballots Mranks Mloads Mbelow Morder Melected Mmembers Mabove Munder Mspot Mvalue) (wr := []) hw hA [0, 1, 2, 3, 4, 5, 6, 7, 8, 9, 10, 11] [] rfl rfl (by decide) (by decide) (va_runV (C := RX5) (As := [.int p0]) (rest := []) ⟨hx, hb, hml, hown, hts⟩ (kX5_isSet l D cI cJ cO N aM p0 Mnow Mread Mpast Mchanges Mtext Mletters Mheads Msets Mballots Mranks Mloads Mbelow Morder Melected Mmembers Mabove Munder Mspot Mvalue u1 e2 H.size) (cwV 1 hts gX5_agrees_X5_isSet rfl rfl rfl (by decide +kernel) ⟨Nat.le_of_ble_eq_true rfl, Nat.le_of_ble_eq_true rfl⟩) (zk_preV (wc := zwM cI cJ aM Mnow Mread Mpast Mchanges Mtext Mletters Mheads Msets Mballots Mranks Mloads Mbelow Morder Melected Mmembers Mabove Munder Mspot Mvalue) hN hK hw [0, 1, 2, 3, 4, 5, 6, 7, 8, 9, 10, 11] rfl (by decide) 0 5 rfl rfl) rfl rfl hl.1 rfl (lv_room (Nat.le_of_ble_eq_true rfl)) dX5_agrees_2 ⟨Nat.zero_le _, Nat.zero_le _⟩) (fun H locs hw => ?_)
  have hw : Wd D A s.heap (zwM cI cJ aM Mnow Mread Mpast Mchanges Mtext Mletters Mheads Msets Mballots Mranks Mloads Mbelow Morder Melected Mmembers Mabove Munder Mspot Mvalue) H locs := hw
  refine lv_if_eq (tgt := 17) hx hb dX5_agrees_5 (by decide) (fun c3 => ?_) (fun c3 => ?_)
  · replace hf := zk_t c3 hf
    refine lv_iconst (v := (-1)) hx hb dX5_agrees_17 (by decide) ?_
    cases hf
    exact zk_iret hx hb hr hlocks rfl hQ hw [0, 1, 2, 3, 4, 5, 6, 7, 8, 9, 10, 11] rfl (by decide) dX5_agrees_18
  · replace hf := zk_f c3 hf
    refine lv_iload_n hx hb dX5_agrees_8 rfl (lv_at hl 2 rfl) ?_
    refine lv_iconst (v := 0) hx hb dX5_agrees_9 (by decide) ?_
    refine lv_iconst (v := 5) hx hb dX5_agrees_10 (by decide) ?_
    obtain ⟨u4, e5, hf⟩ := zk_bd hf
    refine zk_calli (wc := []) (wr := zwM cI cJ aM Mnow Mread Mpast Mchanges Mtext Mletters Mheads Msets Mballots Mranks Mloads Mbelow Morder Melected Mmembers Mabove Munder Mspot Mvalue) hw hA [] [0, 1, 2, 3, 4, 5, 6, 7, 8, 9, 10, 11] rfl rfl (by decide) (by decide) (va_runS (As := [.int p1, .int (0 : Int32), .int (5 : Int32)]) (rest := []) ⟨hx, hb, hml, hown, hts⟩ (kX5_in l D cI cJ cO N p1 (0 : Int32) (5 : Int32) u4 e5 H.size) (va_cwS 3 hts gX5_agrees_X5_in rfl rfl rfl (by decide +kernel) ⟨Nat.le_of_ble_eq_true rfl, Nat.le_of_ble_eq_true rfl⟩) (zk_preS (wc := []) hN hK hw [] rfl (by decide)) rfl rfl hl.1 rfl (lv_room (Nat.le_of_ble_eq_true rfl)) dX5_agrees_11 ⟨Nat.zero_le _, Nat.zero_le _⟩) (fun H locs hw => ?_)
    have hw : Wd D A s.heap (zwM cI cJ aM Mnow Mread Mpast Mchanges Mtext Mletters Mheads Msets Mballots Mranks Mloads Mbelow Morder Melected Mmembers Mabove Munder Mspot Mvalue) H locs := hw
    refine lv_if_ne (tgt := 19) hx hb dX5_agrees_14 (by decide) (fun c6 => ?_) (fun c6 => ?_)
    · replace hf := zk_f c6 hf
      refine lv_iload_n hx hb dX5_agrees_19 rfl (lv_at hl 2 rfl) ?_
      refine lv_if_ne (tgt := 31) hx hb dX5_agrees_20 (by decide) (fun c7 => ?_) (fun c7 => ?_)
      · replace hf := zk_f c7 hf
        refine lv_iload_n hx hb dX5_agrees_31 rfl (lv_at hl 2 rfl) ?_
        refine lv_iconst (v := 1) hx hb dX5_agrees_32 (by decide) ?_
        refine lv_icmp_ne (tgt := 52) hx hb dX5_agrees_33 (by decide) (fun c8 => ?_) (fun c8 => ?_)
        · replace hf := zk_f c8 hf
          refine lv_aload_n hx hb dX5_agrees_52 rfl (lv_at hl 0 rfl) ?_
          refine lv_iload_n hx hb dX5_agrees_53 rfl (lv_at hl 1 rfl) ?_
          obtain ⟨u9, e10, hf⟩ := zk_bd hf
          refine zk_calli (wc := zwM cI cJ aM Mnow Mread Mpast Mchanges Mtext Mletters Mheads Msets Mballots Mranks Mloads Mbelow Morder Melected Mmembers Mabove Munder Mspot Mvalue) (wr := []) hw hA [0, 1, 2, 3, 4, 5, 6, 7, 8, 9, 10, 11] [] rfl rfl (by decide) (by decide) (va_runV (C := RX5) (As := [.int p0]) (rest := []) ⟨hx, hb, hml, hown, hts⟩ (kX5_unionOf l D cI cJ cO N aM p0 Mnow Mread Mpast Mchanges Mtext Mletters Mheads Msets Mballots Mranks Mloads Mbelow Morder Melected Mmembers Mabove Munder Mspot Mvalue u9 e10 H.size) (cwV 1 hts gX5_agrees_X5_unionOf rfl rfl rfl (by decide +kernel) ⟨Nat.le_of_ble_eq_true rfl, Nat.le_of_ble_eq_true rfl⟩) (zk_preV (wc := zwM cI cJ aM Mnow Mread Mpast Mchanges Mtext Mletters Mheads Msets Mballots Mranks Mloads Mbelow Morder Melected Mmembers Mabove Munder Mspot Mvalue) hN hK hw [0, 1, 2, 3, 4, 5, 6, 7, 8, 9, 10, 11] rfl (by decide) 0 5 rfl rfl) rfl rfl hl.1 rfl (lv_room (Nat.le_of_ble_eq_true rfl)) dX5_agrees_54 ⟨Nat.zero_le _, Nat.zero_le _⟩) (fun H locs hw => ?_)
          have hw : Wd D A s.heap (zwM cI cJ aM Mnow Mread Mpast Mchanges Mtext Mletters Mheads Msets Mballots Mranks Mloads Mbelow Morder Melected Mmembers Mabove Munder Mspot Mvalue) H locs := hw
          refine lv_aload_n hx hb dX5_agrees_57 rfl (lv_at hl 0 rfl) ?_
          refine lv_iload_n hx hb dX5_agrees_58 rfl (lv_at hl 2 rfl) ?_
          refine lv_iconst (v := 2) hx hb dX5_agrees_59 (by decide) ?_
          refine lv_isub hx hb dX5_agrees_60 ?_
          obtain ⟨u11, e12, hf⟩ := zk_bd hf
          refine zk_calli (wc := zwM cI cJ aM Mnow Mread Mpast Mchanges Mtext Mletters Mheads Msets Mballots Mranks Mloads Mbelow Morder Melected Mmembers Mabove Munder Mspot Mvalue) (wr := []) hw hA [0, 1, 2, 3, 4, 5, 6, 7, 8, 9, 10, 11] [] rfl rfl (by decide) (by decide) (va_runV (C := RX5) (As := [.int (p1 - (2 : Int32))]) (rest := [.int u9]) ⟨hx, hb, hml, hown, hts⟩ (kX5_membersBy l D cI cJ cO N aM (p1 - (2 : Int32)) Mnow Mread Mpast Mchanges Mtext Mletters Mheads Msets Mballots Mranks Mloads Mbelow Morder Melected Mmembers Mabove Munder Mspot Mvalue u11 e12 H.size) (cwV 1 hts gX5_agrees_X5_membersBy rfl rfl rfl (by decide +kernel) ⟨Nat.le_of_ble_eq_true rfl, Nat.le_of_ble_eq_true rfl⟩) (zk_preV (wc := zwM cI cJ aM Mnow Mread Mpast Mchanges Mtext Mletters Mheads Msets Mballots Mranks Mloads Mbelow Morder Melected Mmembers Mabove Munder Mspot Mvalue) hN hK hw [0, 1, 2, 3, 4, 5, 6, 7, 8, 9, 10, 11] rfl (by decide) 0 5 rfl rfl) rfl rfl hl.1 rfl (lv_room (Nat.le_of_ble_eq_true rfl)) dX5_agrees_61 ⟨Nat.zero_le _, Nat.zero_le _⟩) (fun H locs hw => ?_)
          have hw : Wd D A s.heap (zwM cI cJ aM Mnow Mread Mpast Mchanges Mtext Mletters u11.2.1 u11.2.2.1 u11.2.2.2.1 u11.2.2.2.2.1 u11.2.2.2.2.2.1 u11.2.2.2.2.2.2.1 u11.2.2.2.2.2.2.2.1 u11.2.2.2.2.2.2.2.2.1 u11.2.2.2.2.2.2.2.2.2.1 u11.2.2.2.2.2.2.2.2.2.2.1 u11.2.2.2.2.2.2.2.2.2.2.2 Mspot Mvalue) H locs := hw
          refine lv_iand hx hb dX5_agrees_64 ?_
          obtain ⟨u13, e14, hf⟩ := zk_bd hf
          refine zk_calli (wc := []) (wr := zwM cI cJ aM Mnow Mread Mpast Mchanges Mtext Mletters u11.2.1 u11.2.2.1 u11.2.2.2.1 u11.2.2.2.2.1 u11.2.2.2.2.2.1 u11.2.2.2.2.2.2.1 u11.2.2.2.2.2.2.2.1 u11.2.2.2.2.2.2.2.2.1 u11.2.2.2.2.2.2.2.2.2.1 u11.2.2.2.2.2.2.2.2.2.2.1 u11.2.2.2.2.2.2.2.2.2.2.2 Mspot Mvalue) hw hA [] [0, 1, 2, 3, 4, 5, 6, 7, 8, 9, 10, 11] rfl rfl (by decide) (by decide) (va_runS (As := [.int (u9 &&& u11.1)]) (rest := []) ⟨hx, hb, hml, hown, hts⟩ (kX5_ones l D cI cJ cO N (u9 &&& u11.1) u13 e14 H.size) (va_cwS 1 hts gX5_agrees_X5_ones rfl rfl rfl (by decide +kernel) ⟨Nat.le_of_ble_eq_true rfl, Nat.le_of_ble_eq_true rfl⟩) (zk_preS (wc := []) hN hK hw [] rfl (by decide)) rfl rfl hl.1 rfl (lv_room (Nat.le_of_ble_eq_true rfl)) dX5_agrees_65 ⟨Nat.zero_le _, Nat.zero_le _⟩) (fun H locs hw => ?_)
          have hw : Wd D A s.heap (zwM cI cJ aM Mnow Mread Mpast Mchanges Mtext Mletters u11.2.1 u11.2.2.1 u11.2.2.2.1 u11.2.2.2.2.1 u11.2.2.2.2.2.1 u11.2.2.2.2.2.2.1 u11.2.2.2.2.2.2.2.1 u11.2.2.2.2.2.2.2.2.1 u11.2.2.2.2.2.2.2.2.2.1 u11.2.2.2.2.2.2.2.2.2.2.1 u11.2.2.2.2.2.2.2.2.2.2.2 Mspot Mvalue) H locs := hw
          cases hf
          exact zk_iret hx hb hr hlocks rfl hQ hw [0, 1, 2, 3, 4, 5, 6, 7, 8, 9, 10, 11] rfl (by decide) dX5_agrees_68
        · replace hf := zk_t c8 hf
          refine lv_aload_n hx hb dX5_agrees_36 rfl (lv_at hl 0 rfl) ?_
          refine lv_iload_n hx hb dX5_agrees_37 rfl (lv_at hl 1 rfl) ?_
          obtain ⟨u15, e16, hf⟩ := zk_bd hf
          refine zk_calli (wc := zwM cI cJ aM Mnow Mread Mpast Mchanges Mtext Mletters Mheads Msets Mballots Mranks Mloads Mbelow Morder Melected Mmembers Mabove Munder Mspot Mvalue) (wr := []) hw hA [0, 1, 2, 3, 4, 5, 6, 7, 8, 9, 10, 11] [] rfl rfl (by decide) (by decide) (va_runV (C := RX5) (As := [.int p0]) (rest := []) ⟨hx, hb, hml, hown, hts⟩ (kX5_isOwed l D cI cJ cO N aM p0 Mnow Mread Mpast Mchanges Mtext Mletters Mheads Msets Mballots Mranks Mloads Mbelow Morder Melected Mmembers Mabove Munder Mspot Mvalue u15 e16 H.size) (cwV 1 hts gX5_agrees_X5_isOwed rfl rfl rfl (by decide +kernel) ⟨Nat.le_of_ble_eq_true rfl, Nat.le_of_ble_eq_true rfl⟩) (zk_preV (wc := zwM cI cJ aM Mnow Mread Mpast Mchanges Mtext Mletters Mheads Msets Mballots Mranks Mloads Mbelow Morder Melected Mmembers Mabove Munder Mspot Mvalue) hN hK hw [0, 1, 2, 3, 4, 5, 6, 7, 8, 9, 10, 11] rfl (by decide) 0 5 rfl rfl) rfl rfl hl.1 rfl (lv_room (Nat.le_of_ble_eq_true rfl)) dX5_agrees_38 ⟨Nat.zero_le _, Nat.zero_le _⟩) (fun H locs hw => ?_)
          have hw : Wd D A s.heap (zwM cI cJ aM Mnow Mread Mpast Mchanges Mtext Mletters Mheads Msets Mballots Mranks Mloads Mbelow Morder Melected Mmembers Mabove Munder Mspot Mvalue) H locs := hw
          refine lv_if_eq (tgt := 48) hx hb dX5_agrees_41 (by decide) (fun c17 => ?_) (fun c17 => ?_)
          · replace hf := zk_t c17 hf
            refine lv_iconst (v := 0) hx hb dX5_agrees_48 (by decide) ?_
            refine lv_goto (tgt := 68) hx hb dX5_agrees_49 (by decide) ?_
            cases hf
            exact zk_iret hx hb hr hlocks rfl hQ hw [0, 1, 2, 3, 4, 5, 6, 7, 8, 9, 10, 11] rfl (by decide) dX5_agrees_68
          · replace hf := zk_f c17 hf
            refine lv_iconst (v := 1) hx hb dX5_agrees_44 (by decide) ?_
            refine lv_goto (tgt := 68) hx hb dX5_agrees_45 (by decide) ?_
            cases hf
            exact zk_iret hx hb hr hlocks rfl hQ hw [0, 1, 2, 3, 4, 5, 6, 7, 8, 9, 10, 11] rfl (by decide) dX5_agrees_68
      · replace hf := zk_t c7 hf
        refine lv_aload_n hx hb dX5_agrees_23 rfl (lv_at hl 0 rfl) ?_
        refine lv_iload_n hx hb dX5_agrees_24 rfl (lv_at hl 1 rfl) ?_
        obtain ⟨u18, e19, hf⟩ := zk_bd hf
        refine zk_calli (wc := zwM cI cJ aM Mnow Mread Mpast Mchanges Mtext Mletters Mheads Msets Mballots Mranks Mloads Mbelow Morder Melected Mmembers Mabove Munder Mspot Mvalue) (wr := []) hw hA [0, 1, 2, 3, 4, 5, 6, 7, 8, 9, 10, 11] [] rfl rfl (by decide) (by decide) (va_runV (C := RX5) (As := [.int p0]) (rest := []) ⟨hx, hb, hml, hown, hts⟩ (kX5_agreed l D cI cJ cO N aM p0 Mnow Mread Mpast Mchanges Mtext Mletters Mheads Msets Mballots Mranks Mloads Mbelow Morder Melected Mmembers Mabove Munder Mspot Mvalue u18 e19 H.size) (cwV 1 hts gX5_agrees_X5_agreed rfl rfl rfl (by decide +kernel) ⟨Nat.le_of_ble_eq_true rfl, Nat.le_of_ble_eq_true rfl⟩) (zk_preV (wc := zwM cI cJ aM Mnow Mread Mpast Mchanges Mtext Mletters Mheads Msets Mballots Mranks Mloads Mbelow Morder Melected Mmembers Mabove Munder Mspot Mvalue) hN hK hw [0, 1, 2, 3, 4, 5, 6, 7, 8, 9, 10, 11] rfl (by decide) 0 5 rfl rfl) rfl rfl hl.1 rfl (lv_room (Nat.le_of_ble_eq_true rfl)) dX5_agrees_25 ⟨Nat.zero_le _, Nat.zero_le _⟩) (fun H locs hw => ?_)
        have hw : Wd D A s.heap (zwM cI cJ aM Mnow Mread Mpast Mchanges Mtext Mletters Mheads Msets Mballots Mranks Mloads Mbelow Morder Melected Mmembers Mabove Munder Mspot Mvalue) H locs := hw
        refine lv_goto (tgt := 68) hx hb dX5_agrees_28 (by decide) ?_
        cases hf
        exact zk_iret hx hb hr hlocks rfl hQ hw [0, 1, 2, 3, 4, 5, 6, 7, 8, 9, 10, 11] rfl (by decide) dX5_agrees_68
    · replace hf := zk_t c6 hf
      refine lv_iconst (v := (-1)) hx hb dX5_agrees_17 (by decide) ?_
      cases hf
      exact zk_iret hx hb hr hlocks rfl hQ hw [0, 1, 2, 3, 4, 5, 6, 7, 8, 9, 10, 11] rfl (by decide) dX5_agrees_18
set_option maxHeartbeats 4000000 in
set_option maxRecDepth 100000 in
theorem kX5_shorts (l : Launch) (D : va_G) (cI cJ cO : ClassId) (N : Nat) (aM : Nat → Nat) (p0 : Int32) (p1 : Int32) (Mnow : Nat → Int32) (Mread : Nat → Int32) (Mpast : Nat → Int32) (Mchanges : Int32) (Mtext : Nat → Int32) (Mletters : Int32) (Mheads : Nat → Int32) (Msets : Nat → Int32) (Mballots : Int32) (Mranks : Nat → Int32) (Mloads : Nat → Int64) (Mbelow : Int64) (Morder : Nat → Int32) (Melected : Int32) (Mmembers : Int32) (Mabove : Nat → Int64) (Munder : Nat → Int64) (Mspot : Int32) (Mvalue : Int32) (u : Int32 × (Nat → Int32) × (Nat → Int32) × (Int32) × (Nat → Int32) × (Nat → Int64) × (Int64) × (Nat → Int32) × (Int32) × (Int32) × (Nat → Int64) × (Nat → Int64)) (hf : fX5_shorts N p0 p1 Mnow Mheads Msets Mballots Mranks Mloads Mbelow Morder Melected Mmembers Mabove Munder = some u) : CtI l yX5_shorts wsX5_shorts (zk_rm 6 140) D cI cJ cO [.ref (aM 0), .int p0, .int p1] (zwM cI cJ aM Mnow Mread Mpast Mchanges Mtext Mletters Mheads Msets Mballots Mranks Mloads Mbelow Morder Melected Mmembers Mabove Munder Mspot Mvalue) (zwM cI cJ aM Mnow Mread Mpast Mchanges Mtext Mletters u.2.1 u.2.2.1 u.2.2.2.1 u.2.2.2.2.1 u.2.2.2.2.2.1 u.2.2.2.2.2.2.1 u.2.2.2.2.2.2.2.1 u.2.2.2.2.2.2.2.2.1 u.2.2.2.2.2.2.2.2.2.1 u.2.2.2.2.2.2.2.2.2.2.1 u.2.2.2.2.2.2.2.2.2.2.2 Mspot Mvalue) (u.1) := by
  refine zk_enter (cc := cX5_shorts) (maxL := 7) (ret := some .int) (own := RX5) (Qf := fun A => QwI D (zwM cI cJ aM Mnow Mread Mpast Mchanges Mtext Mletters u.2.1 u.2.2.1 u.2.2.2.1 u.2.2.2.2.1 u.2.2.2.2.2.1 u.2.2.2.2.2.2.1 u.2.2.2.2.2.2.2.1 u.2.2.2.2.2.2.2.2.1 u.2.2.2.2.2.2.2.2.2.1 u.2.2.2.2.2.2.2.2.2.2.1 u.2.2.2.2.2.2.2.2.2.2.2 Mspot Mvalue) (u.1) A) (by decide) rfl rfl (Nat.le_of_ble_eq_true rfl) ?_
  intro p e s m args below meth c A Q H locs ls hC hQ hw hl
  obtain ⟨hx, hb, hml, hr, hts, hown, hlocks, hN, hK, hA⟩ := hC
  have hl : lv_has ls 7 [(0, .ref (aM 0)), (1, .int p0), (2, .int p1)] := hl
  have hiX5 : ∀ w ∈ u_ws RX5 TX5 19, w ∈ wsX5_shorts := by decide +kernel
  have hq0 := hts (.fieldLink RX5 7 "LoadCouncilModel" "now" "[I") (by decide +kernel)
  have b95 : ∀ (x2 : Int32) (x4 : Int32) (x5 : Int32) (Mheads : Nat → Int32) (Msets : Nat → Int32) (Mballots : Int32) (Mranks : Nat → Int32) (Mloads : Nat → Int64) (Mbelow : Int64) (Morder : Nat → Int32) (Melected : Int32) (Mmembers : Int32) (Mabove : Nat → Int64) (Munder : Nat → Int64), fX5_shorts_b95 N x2 x4 x5 Mheads Msets Mballots Mranks Mloads Mbelow Morder Melected Mmembers Mabove Munder = some u → ∀ (H : Heap) (locs : List Loc) (ls : Array Slot), Wd D A s.heap (zwM cI cJ aM Mnow Mread Mpast Mchanges Mtext Mletters Mheads Msets Mballots Mranks Mloads Mbelow Morder Melected Mmembers Mabove Munder Mspot Mvalue) H locs → lv_has ls 7 [(2, .int x2), (4, .int x4), (5, .int x5)] → W p l e (zk_rm 6 140) s m args below meth c H locs 0 0 Q (F0 m 95 ls []) := by
    intro x2 x4 x5 Mheads Msets Mballots Mranks Mloads Mbelow Morder Melected Mmembers Mabove Munder hf H locs ls hw hl
    unfold fX5_shorts_b95 at hf
    refine lv_iload_n hx hb dX5_shorts_95 rfl (lv_at hl 0 rfl) ?_
    refine lv_iconst (v := (-1)) hx hb dX5_shorts_96 (by decide) ?_
    refine lv_icmp_ne (tgt := 105) hx hb dX5_shorts_97 (by decide) (fun c1 => ?_) (fun c1 => ?_)
    · replace hf := zk_f c1 hf
      refine lv_iload hx hb dX5_shorts_105 (lv_at hl 2 rfl) ?_
      cases hf
      exact zk_iret hx hb hr hlocks rfl hQ hw [0, 1, 2, 3, 4, 5, 6, 7, 8, 9, 10, 11] rfl (by decide) dX5_shorts_107
    · replace hf := zk_t c1 hf
      refine lv_iload hx hb dX5_shorts_100 (lv_at hl 1 rfl) ?_
      refine lv_goto (tgt := 107) hx hb dX5_shorts_102 (by decide) ?_
      cases hf
      exact zk_iret hx hb hr hlocks rfl hQ hw [0, 1, 2, 3, 4, 5, 6, 7, 8, 9, 10, 11] rfl (by decide) dX5_shorts_107
  have b30 : ∀ (n30 : Nat), ∀ (x2 : Int32) (x3 : Int32) (x4 : Int32) (x5 : Int32) (x6 : Int32) (Mheads : Nat → Int32) (Msets : Nat → Int32) (Mballots : Int32) (Mranks : Nat → Int32) (Mloads : Nat → Int64) (Mbelow : Int64) (Morder : Nat → Int32) (Melected : Int32) (Mmembers : Int32) (Mabove : Nat → Int64) (Munder : Nat → Int64), fX5_shorts_b30 N n30 x2 x3 x4 x5 x6 Mnow Mheads Msets Mballots Mranks Mloads Mbelow Morder Melected Mmembers Mabove Munder = some u → ∀ (H : Heap) (locs : List Loc) (ls : Array Slot), Wd D A s.heap (zwM cI cJ aM Mnow Mread Mpast Mchanges Mtext Mletters Mheads Msets Mballots Mranks Mloads Mbelow Morder Melected Mmembers Mabove Munder Mspot Mvalue) H locs → lv_has ls 7 [(0, .ref (aM 0)), (2, .int x2), (3, .int x3), (4, .int x4), (5, .int x5), (6, .int x6)] → W p l e (zk_rm 6 140) s m args below meth c H locs 0 0 Q (F0 m 30 ls []) := by
    intro n30
    induction n30 with
    | zero =>
      intro x2 x3 x4 x5 x6 Mheads Msets Mballots Mranks Mloads Mbelow Morder Melected Mmembers Mabove Munder hf
      exact zk_none hf
    | succ n30 ih30 =>
      have b89 : ∀ (x2 : Int32) (x3 : Int32) (x4 : Int32) (x5 : Int32) (x6 : Int32) (Mheads : Nat → Int32) (Msets : Nat → Int32) (Mballots : Int32) (Mranks : Nat → Int32) (Mloads : Nat → Int64) (Mbelow : Int64) (Morder : Nat → Int32) (Melected : Int32) (Mmembers : Int32) (Mabove : Nat → Int64) (Munder : Nat → Int64), fX5_shorts_b89 N (fun z0 z1 z2 z3 z4 z5 z6 z7 z8 z9 z10 z11 z12 z13 z14 z15 z16 => fX5_shorts_b30 N n30 z0 z1 z2 z3 z4 z5 z6 z7 z8 z9 z10 z11 z12 z13 z14 z15 z16) x2 x3 x4 x5 x6 Mnow Mheads Msets Mballots Mranks Mloads Mbelow Morder Melected Mmembers Mabove Munder = some u → ∀ (H : Heap) (locs : List Loc) (ls : Array Slot), Wd D A s.heap (zwM cI cJ aM Mnow Mread Mpast Mchanges Mtext Mletters Mheads Msets Mballots Mranks Mloads Mbelow Morder Melected Mmembers Mabove Munder Mspot Mvalue) H locs → lv_has ls 7 [(0, .ref (aM 0)), (2, .int x2), (3, .int x3), (4, .int x4), (5, .int x5), (6, .int x6)] → W p l e (zk_rm 6 140) s m args below meth c H locs 0 0 Q (F0 m 89 ls []) := by
        intro x2 x3 x4 x5 x6 Mheads Msets Mballots Mranks Mloads Mbelow Morder Melected Mmembers Mabove Munder hf H locs ls hw hl
        unfold fX5_shorts_b89 at hf
        refine lv_iinc (v := (x6 + (1 : Int32))) (lv' := [(6, .int (x6 + (1 : Int32))), (0, .ref (aM 0)), (2, .int x2), (3, .int x3), (4, .int x4), (5, .int x5)]) hx hb dX5_shorts_89 hl (k := 5) rfl rfl (by decide) rfl (fun ls hl => ?_)
        refine lv_goto (tgt := 30) hx hb dX5_shorts_92 (by decide) ?_
        exact ih30 x2 x3 x4 x5 (x6 + (1 : Int32)) Mheads Msets Mballots Mranks Mloads Mbelow Morder Melected Mmembers Mabove Munder hf H locs ls hw (lv_sub hl [1, 2, 3, 4, 5, 0] rfl)
      have b84 : ∀ (x2 : Int32) (x3 : Int32) (x4 : Int32) (x6 : Int32) (t0 : Int32) (Mheads : Nat → Int32) (Msets : Nat → Int32) (Mballots : Int32) (Mranks : Nat → Int32) (Mloads : Nat → Int64) (Mbelow : Int64) (Morder : Nat → Int32) (Melected : Int32) (Mmembers : Int32) (Mabove : Nat → Int64) (Munder : Nat → Int64), fX5_shorts_b84 N (fun z0 z1 z2 z3 z4 z5 z6 z7 z8 z9 z10 z11 z12 z13 z14 z15 z16 => fX5_shorts_b30 N n30 z0 z1 z2 z3 z4 z5 z6 z7 z8 z9 z10 z11 z12 z13 z14 z15 z16) x2 x3 x4 x6 t0 Mnow Mheads Msets Mballots Mranks Mloads Mbelow Morder Melected Mmembers Mabove Munder = some u → ∀ (H : Heap) (locs : List Loc) (ls : Array Slot), Wd D A s.heap (zwM cI cJ aM Mnow Mread Mpast Mchanges Mtext Mletters Mheads Msets Mballots Mranks Mloads Mbelow Morder Melected Mmembers Mabove Munder Mspot Mvalue) H locs → lv_has ls 7 [(0, .ref (aM 0)), (2, .int x2), (3, .int x3), (4, .int x4), (6, .int x6)] → W p l e (zk_rm 6 140) s m args below meth c H locs 0 0 Q (F0 m 84 ls [.int t0]) := by
        intro x2 x3 x4 x6 t0 Mheads Msets Mballots Mranks Mloads Mbelow Morder Melected Mmembers Mabove Munder hf H locs ls hw hl
        unfold fX5_shorts_b84 at hf
        refine lv_istore (lv' := [(5, .int t0), (0, .ref (aM 0)), (2, .int x2), (3, .int x3), (4, .int x4), (6, .int x6)]) hx hb dX5_shorts_84 hl (by decide) rfl (fun ls hl => ?_)
        refine lv_iinc (v := (x4 + (1 : Int32))) (lv' := [(4, .int (x4 + (1 : Int32))), (5, .int t0), (0, .ref (aM 0)), (2, .int x2), (3, .int x3), (6, .int x6)]) hx hb dX5_shorts_86 hl (k := 4) rfl rfl (by decide) rfl (fun ls hl => ?_)
        exact b89 x2 x3 (x4 + (1 : Int32)) t0 x6 Mheads Msets Mballots Mranks Mloads Mbelow Morder Melected Mmembers Mabove Munder hf H locs ls hw (lv_sub hl [2, 3, 4, 0, 1, 5] rfl)
      intro x2 x3 x4 x5 x6 Mheads Msets Mballots Mranks Mloads Mbelow Morder Melected Mmembers Mabove Munder hf H locs ls hw hl
      rw [fX5_shorts_b30] at hf
      refine lv_iload hx hb dX5_shorts_30 (lv_at hl 5 rfl) ?_
      refine lv_iconst (v := 1) hx hb dX5_shorts_32 (by decide) ?_
      refine lv_aload_n hx hb dX5_shorts_33 rfl (lv_at hl 0 rfl) ?_
      refine va_get (D := D) (ci := 5) (v := .ref (aM 1)) (C := RX5) (T := TX5) (N := 19) hx hb hts hiX5 hown hK hw.1 0 rfl rfl 0 (by decide) hq0 (fun _ h9 => h9) rfl dX5_shorts_34 ?_
      refine lv_iconst (v := 0) hx hb dX5_shorts_37 (by decide) ?_
      refine zk_iald hx hb hK hw 1 rfl (zk_in (by decide)) (j := 0) rfl dX5_shorts_38 ?_
      refine lv_ishl hx hb dX5_shorts_39 ?_
      refine lv_icmp_ge (tgt := 95) hx hb dX5_shorts_40 (by decide) (fun c2 => ?_) (fun c2 => ?_)
      · replace hf := zk_t c2 hf
        exact b95 x2 x4 x5 Mheads Msets Mballots Mranks Mloads Mbelow Morder Melected Mmembers Mabove Munder hf H locs ls hw (lv_sub hl [1, 3, 4] rfl)
      · replace hf := zk_f c2 hf
        refine lv_aload_n hx hb dX5_shorts_43 rfl (lv_at hl 0 rfl) ?_
        refine lv_iload hx hb dX5_shorts_44 (lv_at hl 5 rfl) ?_
        obtain ⟨u3, e4, hf⟩ := zk_bd hf
        refine zk_calli (wc := zwM cI cJ aM Mnow Mread Mpast Mchanges Mtext Mletters Mheads Msets Mballots Mranks Mloads Mbelow Morder Melected Mmembers Mabove Munder Mspot Mvalue) (wr := []) hw hA [0, 1, 2, 3, 4, 5, 6, 7, 8, 9, 10, 11] [] rfl rfl (by decide) (by decide) (va_runV (C := RX5) (As := [.int x6]) (rest := []) ⟨hx, hb, hml, hown, hts⟩ (kX5_isOwed l D cI cJ cO N aM x6 Mnow Mread Mpast Mchanges Mtext Mletters Mheads Msets Mballots Mranks Mloads Mbelow Morder Melected Mmembers Mabove Munder Mspot Mvalue u3 e4 H.size) (cwV 1 hts gX5_shorts_X5_isOwed rfl rfl rfl (by decide +kernel) ⟨Nat.le_of_ble_eq_true rfl, Nat.le_of_ble_eq_true rfl⟩) (zk_preV (wc := zwM cI cJ aM Mnow Mread Mpast Mchanges Mtext Mletters Mheads Msets Mballots Mranks Mloads Mbelow Morder Melected Mmembers Mabove Munder Mspot Mvalue) hN hK hw [0, 1, 2, 3, 4, 5, 6, 7, 8, 9, 10, 11] rfl (by decide) 0 5 rfl rfl) rfl rfl hl.1 rfl (lv_room (Nat.le_of_ble_eq_true rfl)) dX5_shorts_46 ⟨Nat.zero_le _, Nat.zero_le _⟩) (fun H locs hw => ?_)
        have hw : Wd D A s.heap (zwM cI cJ aM Mnow Mread Mpast Mchanges Mtext Mletters Mheads Msets Mballots Mranks Mloads Mbelow Morder Melected Mmembers Mabove Munder Mspot Mvalue) H locs := hw
        refine lv_if_eq (tgt := 89) hx hb dX5_shorts_49 (by decide) (fun c5 => ?_) (fun c5 => ?_)
        · replace hf := zk_t c5 hf
          exact b89 x2 x3 x4 x5 x6 Mheads Msets Mballots Mranks Mloads Mbelow Morder Melected Mmembers Mabove Munder hf H locs ls hw (lv_sub hl [0, 1, 2, 3, 4, 5] rfl)
        · replace hf := zk_f c5 hf
          refine lv_aload_n hx hb dX5_shorts_52 rfl (lv_at hl 0 rfl) ?_
          refine lv_iload hx hb dX5_shorts_53 (lv_at hl 5 rfl) ?_
          obtain ⟨u6, e7, hf⟩ := zk_bd hf
          refine zk_calli (wc := zwM cI cJ aM Mnow Mread Mpast Mchanges Mtext Mletters Mheads Msets Mballots Mranks Mloads Mbelow Morder Melected Mmembers Mabove Munder Mspot Mvalue) (wr := []) hw hA [0, 1, 2, 3, 4, 5, 6, 7, 8, 9, 10, 11] [] rfl rfl (by decide) (by decide) (va_runV (C := RX5) (As := [.int x6]) (rest := []) ⟨hx, hb, hml, hown, hts⟩ (kX5_unionOf l D cI cJ cO N aM x6 Mnow Mread Mpast Mchanges Mtext Mletters Mheads Msets Mballots Mranks Mloads Mbelow Morder Melected Mmembers Mabove Munder Mspot Mvalue u6 e7 H.size) (cwV 1 hts gX5_shorts_X5_unionOf rfl rfl rfl (by decide +kernel) ⟨Nat.le_of_ble_eq_true rfl, Nat.le_of_ble_eq_true rfl⟩) (zk_preV (wc := zwM cI cJ aM Mnow Mread Mpast Mchanges Mtext Mletters Mheads Msets Mballots Mranks Mloads Mbelow Morder Melected Mmembers Mabove Munder Mspot Mvalue) hN hK hw [0, 1, 2, 3, 4, 5, 6, 7, 8, 9, 10, 11] rfl (by decide) 0 5 rfl rfl) rfl rfl hl.1 rfl (lv_room (Nat.le_of_ble_eq_true rfl)) dX5_shorts_55 ⟨Nat.zero_le _, Nat.zero_le _⟩) (fun H locs hw => ?_)
          have hw : Wd D A s.heap (zwM cI cJ aM Mnow Mread Mpast Mchanges Mtext Mletters Mheads Msets Mballots Mranks Mloads Mbelow Morder Melected Mmembers Mabove Munder Mspot Mvalue) H locs := hw
          refine lv_iload_n hx hb dX5_shorts_58 rfl (lv_at hl 2 rfl) ?_
          refine lv_iand hx hb dX5_shorts_59 ?_
          obtain ⟨u8, e9, hf⟩ := zk_bd hf
          refine zk_calli (wc := []) (wr := zwM cI cJ aM Mnow Mread Mpast Mchanges Mtext Mletters Mheads Msets Mballots Mranks Mloads Mbelow Morder Melected Mmembers Mabove Munder Mspot Mvalue) hw hA [] [0, 1, 2, 3, 4, 5, 6, 7, 8, 9, 10, 11] rfl rfl (by decide) (by decide) (va_runS (As := [.int (u6 &&& x3)]) (rest := []) ⟨hx, hb, hml, hown, hts⟩ (kX5_ones l D cI cJ cO N (u6 &&& x3) u8 e9 H.size) (va_cwS 1 hts gX5_shorts_X5_ones rfl rfl rfl (by decide +kernel) ⟨Nat.le_of_ble_eq_true rfl, Nat.le_of_ble_eq_true rfl⟩) (zk_preS (wc := []) hN hK hw [] rfl (by decide)) rfl rfl hl.1 rfl (lv_room (Nat.le_of_ble_eq_true rfl)) dX5_shorts_60 ⟨Nat.zero_le _, Nat.zero_le _⟩) (fun H locs hw => ?_)
          have hw : Wd D A s.heap (zwM cI cJ aM Mnow Mread Mpast Mchanges Mtext Mletters Mheads Msets Mballots Mranks Mloads Mbelow Morder Melected Mmembers Mabove Munder Mspot Mvalue) H locs := hw
          refine lv_iload hx hb dX5_shorts_63 (lv_at hl 5 rfl) ?_
          obtain ⟨u10, e11, hf⟩ := zk_bd hf
          refine zk_calli (wc := []) (wr := zwM cI cJ aM Mnow Mread Mpast Mchanges Mtext Mletters Mheads Msets Mballots Mranks Mloads Mbelow Morder Melected Mmembers Mabove Munder Mspot Mvalue) hw hA [] [0, 1, 2, 3, 4, 5, 6, 7, 8, 9, 10, 11] rfl rfl (by decide) (by decide) (va_runS (As := [.int x6]) (rest := [.int u8]) ⟨hx, hb, hml, hown, hts⟩ (kX5_ones l D cI cJ cO N x6 u10 e11 H.size) (va_cwS 1 hts gX5_shorts_X5_ones rfl rfl rfl (by decide +kernel) ⟨Nat.le_of_ble_eq_true rfl, Nat.le_of_ble_eq_true rfl⟩) (zk_preS (wc := []) hN hK hw [] rfl (by decide)) rfl rfl hl.1 rfl (lv_room (Nat.le_of_ble_eq_true rfl)) dX5_shorts_65 ⟨Nat.zero_le _, Nat.zero_le _⟩) (fun H locs hw => ?_)
          have hw : Wd D A s.heap (zwM cI cJ aM Mnow Mread Mpast Mchanges Mtext Mletters Mheads Msets Mballots Mranks Mloads Mbelow Morder Melected Mmembers Mabove Munder Mspot Mvalue) H locs := hw
          refine lv_icmp_ge (tgt := 89) hx hb dX5_shorts_68 (by decide) (fun c12 => ?_) (fun c12 => ?_)
          · replace hf := zk_t c12 hf
            exact b89 x2 x3 x4 x5 x6 Mheads Msets Mballots Mranks Mloads Mbelow Morder Melected Mmembers Mabove Munder hf H locs ls hw (lv_sub hl [0, 1, 2, 3, 4, 5] rfl)
          · replace hf := zk_f c12 hf
            refine lv_iload hx hb dX5_shorts_71 (lv_at hl 3 rfl) ?_
            refine lv_iload_n hx hb dX5_shorts_73 rfl (lv_at hl 1 rfl) ?_
            refine lv_icmp_ne (tgt := 82) hx hb dX5_shorts_74 (by decide) (fun c13 => ?_) (fun c13 => ?_)
            · replace hf := zk_f c13 hf
              refine lv_iload hx hb dX5_shorts_82 (lv_at hl 4 rfl) ?_
              exact b84 x2 x3 x4 x6 x5 Mheads Msets Mballots Mranks Mloads Mbelow Morder Melected Mmembers Mabove Munder hf H locs ls hw (lv_sub hl [0, 1, 2, 3, 5] rfl)
            · replace hf := zk_t c13 hf
              refine lv_iload hx hb dX5_shorts_77 (lv_at hl 5 rfl) ?_
              refine lv_goto (tgt := 84) hx hb dX5_shorts_79 (by decide) ?_
              exact b84 x2 x3 x4 x6 x6 Mheads Msets Mballots Mranks Mloads Mbelow Morder Melected Mmembers Mabove Munder hf H locs ls hw (lv_sub hl [0, 1, 2, 3, 5] rfl)
  unfold fX5_shorts at hf
  refine lv_iload_n hx hb dX5_shorts_0 rfl (lv_at hl 1 rfl) ?_
  obtain ⟨u14, e15, hf⟩ := zk_bd hf
  refine zk_calli (wc := []) (wr := zwM cI cJ aM Mnow Mread Mpast Mchanges Mtext Mletters Mheads Msets Mballots Mranks Mloads Mbelow Morder Melected Mmembers Mabove Munder Mspot Mvalue) hw hA [] [0, 1, 2, 3, 4, 5, 6, 7, 8, 9, 10, 11] rfl rfl (by decide) (by decide) (va_runS (As := [.int p0]) (rest := []) ⟨hx, hb, hml, hown, hts⟩ (kX5_isLaw l D cI cJ cO N p0 u14 e15 H.size) (va_cwS 1 hts gX5_shorts_X5_isLaw rfl rfl rfl (by decide +kernel) ⟨Nat.le_of_ble_eq_true rfl, Nat.le_of_ble_eq_true rfl⟩) (zk_preS (wc := []) hN hK hw [] rfl (by decide)) rfl rfl hl.1 rfl (lv_room (Nat.le_of_ble_eq_true rfl)) dX5_shorts_1 ⟨Nat.zero_le _, Nat.zero_le _⟩) (fun H locs hw => ?_)
  have hw : Wd D A s.heap (zwM cI cJ aM Mnow Mread Mpast Mchanges Mtext Mletters Mheads Msets Mballots Mranks Mloads Mbelow Morder Melected Mmembers Mabove Munder Mspot Mvalue) H locs := hw
  refine lv_if_eq (tgt := 12) hx hb dX5_shorts_4 (by decide) (fun c16 => ?_) (fun c16 => ?_)
  · replace hf := zk_t c16 hf
    refine lv_iconst (v := (-1)) hx hb dX5_shorts_12 (by decide) ?_
    cases hf
    exact zk_iret hx hb hr hlocks rfl hQ hw [0, 1, 2, 3, 4, 5, 6, 7, 8, 9, 10, 11] rfl (by decide) dX5_shorts_13
  · replace hf := zk_f c16 hf
    refine lv_iload_n hx hb dX5_shorts_7 rfl (lv_at hl 2 rfl) ?_
    refine lv_iconst (v := (-1)) hx hb dX5_shorts_8 (by decide) ?_
    refine lv_icmp_ge (tgt := 14) hx hb dX5_shorts_9 (by decide) (fun c17 => ?_) (fun c17 => ?_)
    · replace hf := zk_t c17 hf
      refine lv_aload_n hx hb dX5_shorts_14 rfl (lv_at hl 0 rfl) ?_
      refine lv_iload_n hx hb dX5_shorts_15 rfl (lv_at hl 1 rfl) ?_
      obtain ⟨u18, e19, hf⟩ := zk_bd hf
      refine zk_calli (wc := zwM cI cJ aM Mnow Mread Mpast Mchanges Mtext Mletters Mheads Msets Mballots Mranks Mloads Mbelow Morder Melected Mmembers Mabove Munder Mspot Mvalue) (wr := []) hw hA [0, 1, 2, 3, 4, 5, 6, 7, 8, 9, 10, 11] [] rfl rfl (by decide) (by decide) (va_runV (C := RX5) (As := [.int p0]) (rest := []) ⟨hx, hb, hml, hown, hts⟩ (kX5_membersBy l D cI cJ cO N aM p0 Mnow Mread Mpast Mchanges Mtext Mletters Mheads Msets Mballots Mranks Mloads Mbelow Morder Melected Mmembers Mabove Munder Mspot Mvalue u18 e19 H.size) (cwV 1 hts gX5_shorts_X5_membersBy rfl rfl rfl (by decide +kernel) ⟨Nat.le_of_ble_eq_true rfl, Nat.le_of_ble_eq_true rfl⟩) (zk_preV (wc := zwM cI cJ aM Mnow Mread Mpast Mchanges Mtext Mletters Mheads Msets Mballots Mranks Mloads Mbelow Morder Melected Mmembers Mabove Munder Mspot Mvalue) hN hK hw [0, 1, 2, 3, 4, 5, 6, 7, 8, 9, 10, 11] rfl (by decide) 0 5 rfl rfl) rfl rfl hl.1 rfl (lv_room (Nat.le_of_ble_eq_true rfl)) dX5_shorts_16 ⟨Nat.zero_le _, Nat.zero_le _⟩) (fun H locs hw => ?_)
      have hw : Wd D A s.heap (zwM cI cJ aM Mnow Mread Mpast Mchanges Mtext Mletters u18.2.1 u18.2.2.1 u18.2.2.2.1 u18.2.2.2.2.1 u18.2.2.2.2.2.1 u18.2.2.2.2.2.2.1 u18.2.2.2.2.2.2.2.1 u18.2.2.2.2.2.2.2.2.1 u18.2.2.2.2.2.2.2.2.2.1 u18.2.2.2.2.2.2.2.2.2.2.1 u18.2.2.2.2.2.2.2.2.2.2.2 Mspot Mvalue) H locs := hw
      refine lv_istore_n (lv' := [(3, .int u18.1), (0, .ref (aM 0)), (1, .int p0), (2, .int p1)]) hx hb dX5_shorts_19 rfl hl (by decide) rfl (fun ls hl => ?_)
      refine lv_iconst (v := 0) hx hb dX5_shorts_20 (by decide) ?_
      refine lv_istore (lv' := [(4, .int (0 : Int32)), (3, .int u18.1), (0, .ref (aM 0)), (1, .int p0), (2, .int p1)]) hx hb dX5_shorts_21 hl (by decide) rfl (fun ls hl => ?_)
      refine lv_bipush (v := (-4)) hx hb dX5_shorts_23 (by decide) ?_
      refine lv_istore (lv' := [(5, .int (-4 : Int32)), (4, .int (0 : Int32)), (3, .int u18.1), (0, .ref (aM 0)), (1, .int p0), (2, .int p1)]) hx hb dX5_shorts_25 hl (by decide) rfl (fun ls hl => ?_)
      refine lv_iconst (v := 1) hx hb dX5_shorts_27 (by decide) ?_
      refine lv_istore (lv' := [(6, .int (1 : Int32)), (5, .int (-4 : Int32)), (4, .int (0 : Int32)), (3, .int u18.1), (0, .ref (aM 0)), (1, .int p0), (2, .int p1)]) hx hb dX5_shorts_28 hl (by decide) rfl (fun ls hl => ?_)
      exact b30 N p1 u18.1 (0 : Int32) (-4 : Int32) (1 : Int32) u18.2.1 u18.2.2.1 u18.2.2.2.1 u18.2.2.2.2.1 u18.2.2.2.2.2.1 u18.2.2.2.2.2.2.1 u18.2.2.2.2.2.2.2.1 u18.2.2.2.2.2.2.2.2.1 u18.2.2.2.2.2.2.2.2.2.1 u18.2.2.2.2.2.2.2.2.2.2.1 u18.2.2.2.2.2.2.2.2.2.2.2 hf H locs ls hw (lv_sub hl [4, 6, 3, 2, 1, 0] rfl)
    · replace hf := zk_f c17 hf
      refine lv_iconst (v := (-1)) hx hb dX5_shorts_12 (by decide) ?_
      cases hf
      exact zk_iret hx hb hr hlocks rfl hQ hw [0, 1, 2, 3, 4, 5, 6, 7, 8, 9, 10, 11] rfl (by decide) dX5_shorts_13
set_option maxHeartbeats 4000000 in
set_option maxRecDepth 100000 in
theorem kX5_joins (l : Launch) (D : va_G) (cI cJ cO : ClassId) (N : Nat) (aM : Nat → Nat) (p0 : Int32) (p1 : Int32) (Mnow : Nat → Int32) (Mread : Nat → Int32) (Mpast : Nat → Int32) (Mchanges : Int32) (Mtext : Nat → Int32) (Mletters : Int32) (Mheads : Nat → Int32) (Msets : Nat → Int32) (Mballots : Int32) (Mranks : Nat → Int32) (Mloads : Nat → Int64) (Mbelow : Int64) (Morder : Nat → Int32) (Melected : Int32) (Mmembers : Int32) (Mabove : Nat → Int64) (Munder : Nat → Int64) (Mspot : Int32) (Mvalue : Int32) (u : Int32 × (Nat → Int32) × (Nat → Int32) × (Int32) × (Nat → Int32) × (Nat → Int64) × (Int64) × (Nat → Int32) × (Int32) × (Int32) × (Nat → Int64) × (Nat → Int64)) (hf : fX5_joins N p0 p1 Mnow Mheads Msets Mballots Mranks Mloads Mbelow Morder Melected Mmembers Mabove Munder = some u) : CtI l yX5_joins wsX5_joins (zk_rm 5 119) D cI cJ cO [.ref (aM 0), .int p0, .int p1] (zwM cI cJ aM Mnow Mread Mpast Mchanges Mtext Mletters Mheads Msets Mballots Mranks Mloads Mbelow Morder Melected Mmembers Mabove Munder Mspot Mvalue) (zwM cI cJ aM Mnow Mread Mpast Mchanges Mtext Mletters u.2.1 u.2.2.1 u.2.2.2.1 u.2.2.2.2.1 u.2.2.2.2.2.1 u.2.2.2.2.2.2.1 u.2.2.2.2.2.2.2.1 u.2.2.2.2.2.2.2.2.1 u.2.2.2.2.2.2.2.2.2.1 u.2.2.2.2.2.2.2.2.2.2.1 u.2.2.2.2.2.2.2.2.2.2.2 Mspot Mvalue) (u.1) := by
  refine zk_enter (cc := cX5_joins) (maxL := 5) (ret := some .int) (own := RX5) (Qf := fun A => QwI D (zwM cI cJ aM Mnow Mread Mpast Mchanges Mtext Mletters u.2.1 u.2.2.1 u.2.2.2.1 u.2.2.2.2.1 u.2.2.2.2.2.1 u.2.2.2.2.2.2.1 u.2.2.2.2.2.2.2.1 u.2.2.2.2.2.2.2.2.1 u.2.2.2.2.2.2.2.2.2.1 u.2.2.2.2.2.2.2.2.2.2.1 u.2.2.2.2.2.2.2.2.2.2.2 Mspot Mvalue) (u.1) A) (by decide) rfl rfl (Nat.le_of_ble_eq_true rfl) ?_
  intro p e s m args below meth c A Q H locs ls hC hQ hw hl
  obtain ⟨hx, hb, hml, hr, hts, hown, hlocks, hN, hK, hA⟩ := hC
  have hl : lv_has ls 5 [(0, .ref (aM 0)), (1, .int p0), (2, .int p1)] := hl
  have hiX5 : ∀ w ∈ u_ws RX5 TX5 19, w ∈ wsX5_joins := by decide +kernel
  have hq0 := hts (.fieldLink RX5 134 "LoadCouncilModel" "ballots" "I") (by decide +kernel)
  have hq1 := hts (.fieldLink RX5 141 "LoadCouncilModel" "members" "I") (by decide +kernel)
  have hq2 := hts (.fieldLink RX5 22 "LoadCouncilModel" "heads" "[I") (by decide +kernel)
  have hq3 := hts (.fieldLink RX5 25 "LoadCouncilModel" "sets" "[I") (by decide +kernel)
  have hq4 := hts (.fieldLink RX5 7 "LoadCouncilModel" "now" "[I") (by decide +kernel)
  have b46 : ∀ (n46 : Nat), ∀ (x1 : Int32) (x2 : Int32) (x3 : Int32) (x4 : Int32) (Mheads : Nat → Int32) (Msets : Nat → Int32) (Mballots : Int32) (Mranks : Nat → Int32) (Mloads : Nat → Int64) (Mbelow : Int64) (Morder : Nat → Int32) (Melected : Int32) (Mmembers : Int32) (Mabove : Nat → Int64) (Munder : Nat → Int64), fX5_joins_b46 N n46 x1 x2 x3 x4 Mnow Mheads Msets Mballots Mranks Mloads Mbelow Morder Melected Mmembers Mabove Munder = some u → ∀ (H : Heap) (locs : List Loc) (ls : Array Slot), Wd D A s.heap (zwM cI cJ aM Mnow Mread Mpast Mchanges Mtext Mletters Mheads Msets Mballots Mranks Mloads Mbelow Morder Melected Mmembers Mabove Munder Mspot Mvalue) H locs → lv_has ls 5 [(0, .ref (aM 0)), (1, .int x1), (2, .int x2), (3, .int x3), (4, .int x4)] → W p l e (zk_rm 5 119) s m args below meth c H locs 0 0 Q (F0 m 46 ls []) := by
    intro n46
    induction n46 with
    | zero =>
      intro x1 x2 x3 x4 Mheads Msets Mballots Mranks Mloads Mbelow Morder Melected Mmembers Mabove Munder hf
      exact zk_none hf
    | succ n46 ih46 =>
      have b83 : ∀ (x1 : Int32) (x2 : Int32) (x3 : Int32) (x4 : Int32) (t1 : Int32) (Mheads : Nat → Int32) (Msets : Nat → Int32) (Mballots : Int32) (Mranks : Nat → Int32) (Mloads : Nat → Int64) (Mbelow : Int64) (Morder : Nat → Int32) (Melected : Int32) (Mmembers : Int32) (Mabove : Nat → Int64) (Munder : Nat → Int64), fX5_joins_b83 N (fun z0 z1 z2 z3 z4 z5 z6 z7 z8 z9 z10 z11 z12 z13 z14 z15 => fX5_joins_b46 N n46 z0 z1 z2 z3 z4 z5 z6 z7 z8 z9 z10 z11 z12 z13 z14 z15) x1 x2 x3 x4 t1 Mnow Mheads Msets Mballots Mranks Mloads Mbelow Morder Melected Mmembers Mabove Munder = some u → ∀ (H : Heap) (locs : List Loc) (ls : Array Slot), Wd D A s.heap (zwM cI cJ aM Mnow Mread Mpast Mchanges Mtext Mletters Mheads Msets Mballots Mranks Mloads Mbelow Morder Melected Mmembers Mabove Munder Mspot Mvalue) H locs → lv_has ls 5 [(0, .ref (aM 0)), (1, .int x1), (2, .int x2), (3, .int x3), (4, .int x4)] → W p l e (zk_rm 5 119) s m args below meth c H locs 0 0 Q (F0 m 83 ls [.int t1, .ref (aM 0)]) := by
        intro x1 x2 x3 x4 t1 Mheads Msets Mballots Mranks Mloads Mbelow Morder Melected Mmembers Mabove Munder hf H locs ls hw hl
        unfold fX5_joins_b83 at hf
        refine va_put (D := D) (ci := 5) (v := .int t1) (C := RX5) (T := TX5) (N := 19) hx hb hts hiX5 tyX5 tyX5_ok nmX5 hown hK hw.1 hw.2.1 hw.2.2 0 rfl rfl 8 (by decide) hq0 (fun _ h9 => h9) rfl (tyX5_ok 8 (by decide)) rfl rfl (Nat.le_of_ble_eq_true rfl) dX5_joins_83 (fun H locs hP hD hS => ?_)
        have hw : Wd D A s.heap (zwM cI cJ aM Mnow Mread Mpast Mchanges Mtext Mletters Mheads Msets t1 Mranks Mloads Mbelow Morder Melected Mmembers Mabove Munder Mspot Mvalue) H locs := ⟨hP, hD, hS⟩
        clear hP hD hS
        refine lv_aload_n hx hb dX5_joins_86 rfl (lv_at hl 0 rfl) ?_
        refine lv_iload_n hx hb dX5_joins_87 rfl (lv_at hl 1 rfl) ?_
        obtain ⟨u1, e2, hf⟩ := zk_bd hf
        refine zk_callv (wc := zwM cI cJ aM Mnow Mread Mpast Mchanges Mtext Mletters Mheads Msets t1 Mranks Mloads Mbelow Morder Melected Mmembers Mabove Munder Mspot Mvalue) (wr := []) hw hA [0, 1, 2, 3, 4, 5, 6, 7, 8, 9, 10, 11] [] rfl rfl (by decide) (by decide) (va_runV (C := RX5) (As := [.int x1]) (rest := []) ⟨hx, hb, hml, hown, hts⟩ (kX5_elects l D cI cJ cO N aM x1 Mnow Mread Mpast Mchanges Mtext Mletters Mheads Msets t1 Mranks Mloads Mbelow Morder Melected Mmembers Mabove Munder Mspot Mvalue u1 e2 H.size) (cwV 1 hts gX5_joins_X5_elects rfl rfl rfl (by decide +kernel) ⟨Nat.le_of_ble_eq_true rfl, Nat.le_of_ble_eq_true rfl⟩) (zk_preV (wc := zwM cI cJ aM Mnow Mread Mpast Mchanges Mtext Mletters Mheads Msets t1 Mranks Mloads Mbelow Morder Melected Mmembers Mabove Munder Mspot Mvalue) hN hK hw [0, 1, 2, 3, 4, 5, 6, 7, 8, 9, 10, 11] rfl (by decide) 0 5 rfl rfl) rfl rfl hl.1 rfl (lv_room (Nat.le_of_ble_eq_true rfl)) dX5_joins_88 ⟨Nat.zero_le _, Nat.zero_le _⟩) (fun H locs hw => ?_)
        have hw : Wd D A s.heap (zwM cI cJ aM Mnow Mread Mpast Mchanges Mtext Mletters Mheads Msets t1 Mranks u1.1 u1.2.1 u1.2.2.1 u1.2.2.2.1 u1.2.2.2.2.1 u1.2.2.2.2.2.1 u1.2.2.2.2.2.2 Mspot Mvalue) H locs := hw
        refine lv_aload_n hx hb dX5_joins_91 rfl (lv_at hl 0 rfl) ?_
        refine va_get (D := D) (ci := 5) (v := .int u1.2.2.2.2.1) (C := RX5) (T := TX5) (N := 19) hx hb hts hiX5 hown hK hw.1 0 rfl rfl 14 (by decide) hq1 (fun _ h9 => h9) rfl dX5_joins_92 ?_
        refine lv_iload_n hx hb dX5_joins_95 rfl (lv_at hl 2 rfl) ?_
        obtain ⟨u3, e4, hf⟩ := zk_bd hf
        refine zk_calli (wc := []) (wr := zwM cI cJ aM Mnow Mread Mpast Mchanges Mtext Mletters Mheads Msets t1 Mranks u1.1 u1.2.1 u1.2.2.1 u1.2.2.2.1 u1.2.2.2.2.1 u1.2.2.2.2.2.1 u1.2.2.2.2.2.2 Mspot Mvalue) hw hA [] [0, 1, 2, 3, 4, 5, 6, 7, 8, 9, 10, 11] rfl rfl (by decide) (by decide) (va_runS (As := [.int u1.2.2.2.2.1, .int x2]) (rest := []) ⟨hx, hb, hml, hown, hts⟩ (kX5_has l D cI cJ cO N u1.2.2.2.2.1 x2 u3 e4 H.size) (va_cwS 2 hts gX5_joins_X5_has rfl rfl rfl (by decide +kernel) ⟨Nat.le_of_ble_eq_true rfl, Nat.le_of_ble_eq_true rfl⟩) (zk_preS (wc := []) hN hK hw [] rfl (by decide)) rfl rfl hl.1 rfl (lv_room (Nat.le_of_ble_eq_true rfl)) dX5_joins_96 ⟨Nat.zero_le _, Nat.zero_le _⟩) (fun H locs hw => ?_)
        have hw : Wd D A s.heap (zwM cI cJ aM Mnow Mread Mpast Mchanges Mtext Mletters Mheads Msets t1 Mranks u1.1 u1.2.1 u1.2.2.1 u1.2.2.2.1 u1.2.2.2.2.1 u1.2.2.2.2.2.1 u1.2.2.2.2.2.2 Mspot Mvalue) H locs := hw
        refine lv_if_eq (tgt := 105) hx hb dX5_joins_99 (by decide) (fun c5 => ?_) (fun c5 => ?_)
        · replace hf := zk_t c5 hf
          refine lv_iinc (v := (x4 + (1 : Int32))) (lv' := [(4, .int (x4 + (1 : Int32))), (0, .ref (aM 0)), (1, .int x1), (2, .int x2), (3, .int x3)]) hx hb dX5_joins_105 hl (k := 4) rfl rfl (by decide) rfl (fun ls hl => ?_)
          refine lv_goto (tgt := 46) hx hb dX5_joins_108 (by decide) ?_
          exact ih46 x1 x2 x3 (x4 + (1 : Int32)) Mheads Msets t1 Mranks u1.1 u1.2.1 u1.2.2.1 u1.2.2.2.1 u1.2.2.2.2.1 u1.2.2.2.2.2.1 u1.2.2.2.2.2.2 hf H locs ls hw (lv_sub hl [1, 2, 3, 4, 0] rfl)
        · replace hf := zk_f c5 hf
          refine lv_iload hx hb dX5_joins_102 (lv_at hl 4 rfl) ?_
          cases hf
          exact zk_iret hx hb hr hlocks rfl hQ hw [0, 1, 2, 3, 4, 5, 6, 7, 8, 9, 10, 11] rfl (by decide) dX5_joins_104
      intro x1 x2 x3 x4 Mheads Msets Mballots Mranks Mloads Mbelow Morder Melected Mmembers Mabove Munder hf H locs ls hw hl
      rw [fX5_joins_b46] at hf
      refine lv_iload hx hb dX5_joins_46 (lv_at hl 4 rfl) ?_
      refine lv_bipush (v := 20) hx hb dX5_joins_48 (by decide) ?_
      refine lv_icmp_gt (tgt := 111) hx hb dX5_joins_50 (by decide) (fun c6 => ?_) (fun c6 => ?_)
      · replace hf := zk_t c6 hf
        refine lv_bipush (v := (-4)) hx hb dX5_joins_111 (by decide) ?_
        cases hf
        exact zk_iret hx hb hr hlocks rfl hQ hw [0, 1, 2, 3, 4, 5, 6, 7, 8, 9, 10, 11] rfl (by decide) dX5_joins_113
      · replace hf := zk_f c6 hf
        refine lv_aload_n hx hb dX5_joins_53 rfl (lv_at hl 0 rfl) ?_
        refine va_get (D := D) (ci := 5) (v := .ref (aM 5)) (C := RX5) (T := TX5) (N := 19) hx hb hts hiX5 hown hK hw.1 0 rfl rfl 6 (by decide) hq2 (fun _ h9 => h9) rfl dX5_joins_54 ?_
        refine lv_iload_n hx hb dX5_joins_57 rfl (lv_at hl 3 rfl) ?_
        refine lv_iload hx hb dX5_joins_58 (lv_at hl 4 rfl) ?_
        obtain ⟨h7, hf⟩ := zk_ck hf
        refine zk_iast hx hb hK hw 5 rfl h7 (j := x3.toNatClampNeg) rfl dX5_joins_60 (fun H locs hw => ?_)
        have hw : Wd D A s.heap (zwM cI cJ aM Mnow Mread Mpast Mchanges Mtext Mletters (upd Mheads x3.toNatClampNeg x4) Msets Mballots Mranks Mloads Mbelow Morder Melected Mmembers Mabove Munder Mspot Mvalue) H locs := hw
        refine lv_aload_n hx hb dX5_joins_61 rfl (lv_at hl 0 rfl) ?_
        refine va_get (D := D) (ci := 5) (v := .ref (aM 6)) (C := RX5) (T := TX5) (N := 19) hx hb hts hiX5 hown hK hw.1 0 rfl rfl 7 (by decide) hq3 (fun _ h9 => h9) rfl dX5_joins_62 ?_
        refine lv_iload_n hx hb dX5_joins_65 rfl (lv_at hl 3 rfl) ?_
        refine lv_iconst (v := 1) hx hb dX5_joins_66 (by decide) ?_
        refine lv_iload_n hx hb dX5_joins_67 rfl (lv_at hl 2 rfl) ?_
        refine lv_ishl hx hb dX5_joins_68 ?_
        refine zk_iast hx hb hK hw 6 rfl h7 (j := x3.toNatClampNeg) rfl dX5_joins_69 (fun H locs hw => ?_)
        have hw : Wd D A s.heap (zwM cI cJ aM Mnow Mread Mpast Mchanges Mtext Mletters (upd Mheads x3.toNatClampNeg x4) (upd Msets x3.toNatClampNeg ((1 : Int32) <<< (x2 &&& 31))) Mballots Mranks Mloads Mbelow Morder Melected Mmembers Mabove Munder Mspot Mvalue) H locs := hw
        refine lv_aload_n hx hb dX5_joins_70 rfl (lv_at hl 0 rfl) ?_
        refine lv_iload hx hb dX5_joins_71 (lv_at hl 4 rfl) ?_
        refine lv_if_ne (tgt := 80) hx hb dX5_joins_73 (by decide) (fun c8 => ?_) (fun c8 => ?_)
        · replace hf := zk_f c8 hf
          refine lv_iload_n hx hb dX5_joins_80 rfl (lv_at hl 3 rfl) ?_
          refine lv_iconst (v := 1) hx hb dX5_joins_81 (by decide) ?_
          refine lv_iadd hx hb dX5_joins_82 ?_
          exact b83 x1 x2 x3 x4 (x3 + (1 : Int32)) (upd Mheads x3.toNatClampNeg x4) (upd Msets x3.toNatClampNeg ((1 : Int32) <<< (x2 &&& 31))) Mballots Mranks Mloads Mbelow Morder Melected Mmembers Mabove Munder hf H locs ls hw (lv_sub hl [0, 1, 2, 3, 4] rfl)
        · replace hf := zk_t c8 hf
          refine lv_iload_n hx hb dX5_joins_76 rfl (lv_at hl 3 rfl) ?_
          refine lv_goto (tgt := 83) hx hb dX5_joins_77 (by decide) ?_
          exact b83 x1 x2 x3 x4 x3 (upd Mheads x3.toNatClampNeg x4) (upd Msets x3.toNatClampNeg ((1 : Int32) <<< (x2 &&& 31))) Mballots Mranks Mloads Mbelow Morder Melected Mmembers Mabove Munder hf H locs ls hw (lv_sub hl [0, 1, 2, 3, 4] rfl)
  unfold fX5_joins at hf
  refine lv_iload_n hx hb dX5_joins_0 rfl (lv_at hl 1 rfl) ?_
  obtain ⟨u9, e10, hf⟩ := zk_bd hf
  refine zk_calli (wc := []) (wr := zwM cI cJ aM Mnow Mread Mpast Mchanges Mtext Mletters Mheads Msets Mballots Mranks Mloads Mbelow Morder Melected Mmembers Mabove Munder Mspot Mvalue) hw hA [] [0, 1, 2, 3, 4, 5, 6, 7, 8, 9, 10, 11] rfl rfl (by decide) (by decide) (va_runS (As := [.int p0]) (rest := []) ⟨hx, hb, hml, hown, hts⟩ (kX5_isLaw l D cI cJ cO N p0 u9 e10 H.size) (va_cwS 1 hts gX5_joins_X5_isLaw rfl rfl rfl (by decide +kernel) ⟨Nat.le_of_ble_eq_true rfl, Nat.le_of_ble_eq_true rfl⟩) (zk_preS (wc := []) hN hK hw [] rfl (by decide)) rfl rfl hl.1 rfl (lv_room (Nat.le_of_ble_eq_true rfl)) dX5_joins_1 ⟨Nat.zero_le _, Nat.zero_le _⟩) (fun H locs hw => ?_)
  have hw : Wd D A s.heap (zwM cI cJ aM Mnow Mread Mpast Mchanges Mtext Mletters Mheads Msets Mballots Mranks Mloads Mbelow Morder Melected Mmembers Mabove Munder Mspot Mvalue) H locs := hw
  refine lv_if_eq (tgt := 15) hx hb dX5_joins_4 (by decide) (fun c11 => ?_) (fun c11 => ?_)
  · replace hf := zk_t c11 hf
    refine lv_iconst (v := (-1)) hx hb dX5_joins_15 (by decide) ?_
    cases hf
    exact zk_iret hx hb hr hlocks rfl hQ hw [0, 1, 2, 3, 4, 5, 6, 7, 8, 9, 10, 11] rfl (by decide) dX5_joins_16
  · replace hf := zk_f c11 hf
    refine lv_aload_n hx hb dX5_joins_7 rfl (lv_at hl 0 rfl) ?_
    refine lv_iload_n hx hb dX5_joins_8 rfl (lv_at hl 2 rfl) ?_
    obtain ⟨u12, e13, hf⟩ := zk_bd hf
    refine zk_calli (wc := zwM cI cJ aM Mnow Mread Mpast Mchanges Mtext Mletters Mheads Msets Mballots Mranks Mloads Mbelow Morder Melected Mmembers Mabove Munder Mspot Mvalue) (wr := []) hw hA [0, 1, 2, 3, 4, 5, 6, 7, 8, 9, 10, 11] [] rfl rfl (by decide) (by decide) (va_runV (C := RX5) (As := [.int p1]) (rest := []) ⟨hx, hb, hml, hown, hts⟩ (kX5_isCandidate l D cI cJ cO N aM p1 Mnow Mread Mpast Mchanges Mtext Mletters Mheads Msets Mballots Mranks Mloads Mbelow Morder Melected Mmembers Mabove Munder Mspot Mvalue u12 e13 H.size) (cwV 1 hts gX5_joins_X5_isCandidate rfl rfl rfl (by decide +kernel) ⟨Nat.le_of_ble_eq_true rfl, Nat.le_of_ble_eq_true rfl⟩) (zk_preV (wc := zwM cI cJ aM Mnow Mread Mpast Mchanges Mtext Mletters Mheads Msets Mballots Mranks Mloads Mbelow Morder Melected Mmembers Mabove Munder Mspot Mvalue) hN hK hw [0, 1, 2, 3, 4, 5, 6, 7, 8, 9, 10, 11] rfl (by decide) 0 5 rfl rfl) rfl rfl hl.1 rfl (lv_room (Nat.le_of_ble_eq_true rfl)) dX5_joins_9 ⟨Nat.zero_le _, Nat.zero_le _⟩) (fun H locs hw => ?_)
    have hw : Wd D A s.heap (zwM cI cJ aM Mnow Mread Mpast Mchanges Mtext Mletters Mheads Msets Mballots Mranks Mloads Mbelow Morder Melected Mmembers Mabove Munder Mspot Mvalue) H locs := hw
    refine lv_if_ne (tgt := 17) hx hb dX5_joins_12 (by decide) (fun c14 => ?_) (fun c14 => ?_)
    · replace hf := zk_f c14 hf
      refine lv_aload_n hx hb dX5_joins_17 rfl (lv_at hl 0 rfl) ?_
      refine va_get (D := D) (ci := 5) (v := .ref (aM 1)) (C := RX5) (T := TX5) (N := 19) hx hb hts hiX5 hown hK hw.1 0 rfl rfl 0 (by decide) hq4 (fun _ h9 => h9) rfl dX5_joins_18 ?_
      refine lv_bipush (v := 23) hx hb dX5_joins_21 (by decide) ?_
      refine zk_iald hx hb hK hw 1 rfl (zk_in (by decide)) (j := 23) rfl dX5_joins_23 ?_
      refine lv_iload_n hx hb dX5_joins_24 rfl (lv_at hl 2 rfl) ?_
      obtain ⟨u15, e16, hf⟩ := zk_bd hf
      refine zk_calli (wc := []) (wr := zwM cI cJ aM Mnow Mread Mpast Mchanges Mtext Mletters Mheads Msets Mballots Mranks Mloads Mbelow Morder Melected Mmembers Mabove Munder Mspot Mvalue) hw hA [] [0, 1, 2, 3, 4, 5, 6, 7, 8, 9, 10, 11] rfl rfl (by decide) (by decide) (va_runS (As := [.int (Mnow 23), .int p1]) (rest := []) ⟨hx, hb, hml, hown, hts⟩ (kX5_has l D cI cJ cO N (Mnow 23) p1 u15 e16 H.size) (va_cwS 2 hts gX5_joins_X5_has rfl rfl rfl (by decide +kernel) ⟨Nat.le_of_ble_eq_true rfl, Nat.le_of_ble_eq_true rfl⟩) (zk_preS (wc := []) hN hK hw [] rfl (by decide)) rfl rfl hl.1 rfl (lv_room (Nat.le_of_ble_eq_true rfl)) dX5_joins_25 ⟨Nat.zero_le _, Nat.zero_le _⟩) (fun H locs hw => ?_)
      have hw : Wd D A s.heap (zwM cI cJ aM Mnow Mread Mpast Mchanges Mtext Mletters Mheads Msets Mballots Mranks Mloads Mbelow Morder Melected Mmembers Mabove Munder Mspot Mvalue) H locs := hw
      refine lv_if_eq (tgt := 34) hx hb dX5_joins_28 (by decide) (fun c17 => ?_) (fun c17 => ?_)
      · replace hf := zk_t c17 hf
        refine lv_aload_n hx hb dX5_joins_34 rfl (lv_at hl 0 rfl) ?_
        obtain ⟨u18, e19, hf⟩ := zk_bd hf
        refine zk_callv (wc := zwM cI cJ aM Mnow Mread Mpast Mchanges Mtext Mletters Mheads Msets Mballots Mranks Mloads Mbelow Morder Melected Mmembers Mabove Munder Mspot Mvalue) (wr := []) hw hA [0, 1, 2, 3, 4, 5, 6, 7, 8, 9, 10, 11] [] rfl rfl (by decide) (by decide) (va_runV (C := RX5) (As := []) (rest := []) ⟨hx, hb, hml, hown, hts⟩ (kX5_lays l D cI cJ cO N aM Mnow Mread Mpast Mchanges Mtext Mletters Mheads Msets Mballots Mranks Mloads Mbelow Morder Melected Mmembers Mabove Munder Mspot Mvalue u18 e19 H.size) (cwV 0 hts gX5_joins_X5_lays rfl rfl rfl (by decide +kernel) ⟨Nat.le_of_ble_eq_true rfl, Nat.le_of_ble_eq_true rfl⟩) (zk_preV (wc := zwM cI cJ aM Mnow Mread Mpast Mchanges Mtext Mletters Mheads Msets Mballots Mranks Mloads Mbelow Morder Melected Mmembers Mabove Munder Mspot Mvalue) hN hK hw [0, 1, 2, 3, 4, 5, 6, 7, 8, 9, 10, 11] rfl (by decide) 0 5 rfl rfl) rfl rfl hl.1 rfl (lv_room (Nat.le_of_ble_eq_true rfl)) dX5_joins_35 ⟨Nat.zero_le _, Nat.zero_le _⟩) (fun H locs hw => ?_)
        have hw : Wd D A s.heap (zwM cI cJ aM Mnow Mread Mpast Mchanges Mtext Mletters u18.1 u18.2.1 u18.2.2.1 u18.2.2.2 Mloads Mbelow Morder Melected Mmembers Mabove Munder Mspot Mvalue) H locs := hw
        refine lv_aload_n hx hb dX5_joins_38 rfl (lv_at hl 0 rfl) ?_
        refine va_get (D := D) (ci := 5) (v := .int u18.2.2.1) (C := RX5) (T := TX5) (N := 19) hx hb hts hiX5 hown hK hw.1 0 rfl rfl 8 (by decide) hq0 (fun _ h9 => h9) rfl dX5_joins_39 ?_
        refine lv_istore_n (lv' := [(3, .int u18.2.2.1), (0, .ref (aM 0)), (1, .int p0), (2, .int p1)]) hx hb dX5_joins_42 rfl hl (by decide) rfl (fun ls hl => ?_)
        refine lv_iconst (v := 0) hx hb dX5_joins_43 (by decide) ?_
        refine lv_istore (lv' := [(4, .int (0 : Int32)), (3, .int u18.2.2.1), (0, .ref (aM 0)), (1, .int p0), (2, .int p1)]) hx hb dX5_joins_44 hl (by decide) rfl (fun ls hl => ?_)
        exact b46 N p0 p1 u18.2.2.1 (0 : Int32) u18.1 u18.2.1 u18.2.2.1 u18.2.2.2 Mloads Mbelow Morder Melected Mmembers Mabove Munder hf H locs ls hw (lv_sub hl [2, 3, 4, 1, 0] rfl)
      · replace hf := zk_f c17 hf
        refine lv_bipush (v := (-2)) hx hb dX5_joins_31 (by decide) ?_
        cases hf
        exact zk_iret hx hb hr hlocks rfl hQ hw [0, 1, 2, 3, 4, 5, 6, 7, 8, 9, 10, 11] rfl (by decide) dX5_joins_33
    · replace hf := zk_t c14 hf
      refine lv_iconst (v := (-1)) hx hb dX5_joins_15 (by decide) ?_
      cases hf
      exact zk_iret hx hb hr hlocks rfl hQ hw [0, 1, 2, 3, 4, 5, 6, 7, 8, 9, 10, 11] rfl (by decide) dX5_joins_16
set_option maxHeartbeats 4000000 in
set_option maxRecDepth 100000 in
theorem kX5_matters (l : Launch) (D : va_G) (cI cJ cO : ClassId) (N : Nat) (aM : Nat → Nat) (p0 : Int32) (Mnow : Nat → Int32) (Mread : Nat → Int32) (Mpast : Nat → Int32) (Mchanges : Int32) (Mtext : Nat → Int32) (Mletters : Int32) (Mheads : Nat → Int32) (Msets : Nat → Int32) (Mballots : Int32) (Mranks : Nat → Int32) (Mloads : Nat → Int64) (Mbelow : Int64) (Morder : Nat → Int32) (Melected : Int32) (Mmembers : Int32) (Mabove : Nat → Int64) (Munder : Nat → Int64) (Mspot : Int32) (Mvalue : Int32) (u : Int32 × (Nat → Int32) × (Nat → Int32) × (Int32) × (Nat → Int32) × (Nat → Int64) × (Int64) × (Nat → Int32) × (Int32) × (Int32) × (Nat → Int64) × (Nat → Int64)) (hf : fX5_matters N p0 Mnow Mheads Msets Mballots Mranks Mloads Mbelow Morder Melected Mmembers Mabove Munder = some u) : CtI l yX5_matters wsX5_matters (zk_rm 6 140) D cI cJ cO [.ref (aM 0), .int p0] (zwM cI cJ aM Mnow Mread Mpast Mchanges Mtext Mletters Mheads Msets Mballots Mranks Mloads Mbelow Morder Melected Mmembers Mabove Munder Mspot Mvalue) (zwM cI cJ aM Mnow Mread Mpast Mchanges Mtext Mletters u.2.1 u.2.2.1 u.2.2.2.1 u.2.2.2.2.1 u.2.2.2.2.2.1 u.2.2.2.2.2.2.1 u.2.2.2.2.2.2.2.1 u.2.2.2.2.2.2.2.2.1 u.2.2.2.2.2.2.2.2.2.1 u.2.2.2.2.2.2.2.2.2.2.1 u.2.2.2.2.2.2.2.2.2.2.2 Mspot Mvalue) (u.1) := by
  refine zk_enter (cc := cX5_matters) (maxL := 5) (ret := some .int) (own := RX5) (Qf := fun A => QwI D (zwM cI cJ aM Mnow Mread Mpast Mchanges Mtext Mletters u.2.1 u.2.2.1 u.2.2.2.1 u.2.2.2.2.1 u.2.2.2.2.2.1 u.2.2.2.2.2.2.1 u.2.2.2.2.2.2.2.1 u.2.2.2.2.2.2.2.2.1 u.2.2.2.2.2.2.2.2.2.1 u.2.2.2.2.2.2.2.2.2.2.1 u.2.2.2.2.2.2.2.2.2.2.2 Mspot Mvalue) (u.1) A) (by decide) rfl rfl (Nat.le_of_ble_eq_true rfl) ?_
  intro p e s m args below meth c A Q H locs ls hC hQ hw hl
  obtain ⟨hx, hb, hml, hr, hts, hown, hlocks, hN, hK, hA⟩ := hC
  have hl : lv_has ls 5 [(0, .ref (aM 0)), (1, .int p0)] := hl
  have hiX5 : ∀ w ∈ u_ws RX5 TX5 19, w ∈ wsX5_matters := by decide +kernel
  have hq0 := hts (.fieldLink RX5 134 "LoadCouncilModel" "ballots" "I") (by decide +kernel)
  have hq1 := hts (.fieldLink RX5 22 "LoadCouncilModel" "heads" "[I") (by decide +kernel)
  have hq2 := hts (.fieldLink RX5 141 "LoadCouncilModel" "members" "I") (by decide +kernel)
  have b20 : ∀ (n20 : Nat), ∀ (x1 : Int32) (x2 : Int32) (x3 : Int32) (x4 : Int32) (Mheads : Nat → Int32) (Msets : Nat → Int32) (Mballots : Int32) (Mranks : Nat → Int32) (Mloads : Nat → Int64) (Mbelow : Int64) (Morder : Nat → Int32) (Melected : Int32) (Mmembers : Int32) (Mabove : Nat → Int64) (Munder : Nat → Int64), fX5_matters_b20 N n20 x1 x2 x3 x4 Mnow Mheads Msets Mballots Mranks Mloads Mbelow Morder Melected Mmembers Mabove Munder = some u → ∀ (H : Heap) (locs : List Loc) (ls : Array Slot), Wd D A s.heap (zwM cI cJ aM Mnow Mread Mpast Mchanges Mtext Mletters Mheads Msets Mballots Mranks Mloads Mbelow Morder Melected Mmembers Mabove Munder Mspot Mvalue) H locs → lv_has ls 5 [(0, .ref (aM 0)), (1, .int x1), (2, .int x2), (3, .int x3), (4, .int x4)] → W p l e (zk_rm 6 140) s m args below meth c H locs 0 0 Q (F0 m 20 ls []) := by
    intro n20
    induction n20 with
    | zero =>
      intro x1 x2 x3 x4 Mheads Msets Mballots Mranks Mloads Mbelow Morder Melected Mmembers Mabove Munder hf
      exact zk_none hf
    | succ n20 ih20 =>
      have b73 : ∀ (x1 : Int32) (x2 : Int32) (x4 : Int32) (t0 : Int32) (t1 : Int32) (Mheads : Nat → Int32) (Msets : Nat → Int32) (Mballots : Int32) (Mranks : Nat → Int32) (Mloads : Nat → Int64) (Mbelow : Int64) (Morder : Nat → Int32) (Melected : Int32) (Mmembers : Int32) (Mabove : Nat → Int64) (Munder : Nat → Int64), fX5_matters_b73 N (fun z0 z1 z2 z3 z4 z5 z6 z7 z8 z9 z10 z11 z12 z13 z14 z15 => fX5_matters_b20 N n20 z0 z1 z2 z3 z4 z5 z6 z7 z8 z9 z10 z11 z12 z13 z14 z15) x1 x2 x4 t0 t1 Mnow Mheads Msets Mballots Mranks Mloads Mbelow Morder Melected Mmembers Mabove Munder = some u → ∀ (H : Heap) (locs : List Loc) (ls : Array Slot), Wd D A s.heap (zwM cI cJ aM Mnow Mread Mpast Mchanges Mtext Mletters Mheads Msets Mballots Mranks Mloads Mbelow Morder Melected Mmembers Mabove Munder Mspot Mvalue) H locs → lv_has ls 5 [(0, .ref (aM 0)), (1, .int x1), (2, .int x2), (4, .int x4)] → W p l e (zk_rm 6 140) s m args below meth c H locs 0 0 Q (F0 m 73 ls [.int t1, .int t0]) := by
        intro x1 x2 x4 t0 t1 Mheads Msets Mballots Mranks Mloads Mbelow Morder Melected Mmembers Mabove Munder hf H locs ls hw hl
        unfold fX5_matters_b73 at hf
        refine lv_ior hx hb dX5_matters_73 ?_
        refine lv_istore_n (lv' := [(3, .int (t0 ||| t1)), (0, .ref (aM 0)), (1, .int x1), (2, .int x2), (4, .int x4)]) hx hb dX5_matters_74 rfl hl (by decide) rfl (fun ls hl => ?_)
        refine lv_iinc (v := (x4 + (1 : Int32))) (lv' := [(4, .int (x4 + (1 : Int32))), (3, .int (t0 ||| t1)), (0, .ref (aM 0)), (1, .int x1), (2, .int x2)]) hx hb dX5_matters_75 hl (k := 4) rfl rfl (by decide) rfl (fun ls hl => ?_)
        refine lv_goto (tgt := 20) hx hb dX5_matters_78 (by decide) ?_
        exact ih20 x1 x2 (t0 ||| t1) (x4 + (1 : Int32)) Mheads Msets Mballots Mranks Mloads Mbelow Morder Melected Mmembers Mabove Munder hf H locs ls hw (lv_sub hl [2, 3, 4, 1, 0] rfl)
      intro x1 x2 x3 x4 Mheads Msets Mballots Mranks Mloads Mbelow Morder Melected Mmembers Mabove Munder hf H locs ls hw hl
      rw [fX5_matters_b20] at hf
      refine lv_iload hx hb dX5_matters_20 (lv_at hl 4 rfl) ?_
      refine lv_aload_n hx hb dX5_matters_22 rfl (lv_at hl 0 rfl) ?_
      refine va_get (D := D) (ci := 5) (v := .int Mballots) (C := RX5) (T := TX5) (N := 19) hx hb hts hiX5 hown hK hw.1 0 rfl rfl 8 (by decide) hq0 (fun _ h9 => h9) rfl dX5_matters_23 ?_
      refine lv_icmp_ge (tgt := 81) hx hb dX5_matters_26 (by decide) (fun c1 => ?_) (fun c1 => ?_)
      · replace hf := zk_t c1 hf
        refine lv_iload_n hx hb dX5_matters_81 rfl (lv_at hl 3 rfl) ?_
        cases hf
        exact zk_iret hx hb hr hlocks rfl hQ hw [0, 1, 2, 3, 4, 5, 6, 7, 8, 9, 10, 11] rfl (by decide) dX5_matters_82
      · replace hf := zk_f c1 hf
        refine lv_aload_n hx hb dX5_matters_29 rfl (lv_at hl 0 rfl) ?_
        refine va_get (D := D) (ci := 5) (v := .ref (aM 5)) (C := RX5) (T := TX5) (N := 19) hx hb hts hiX5 hown hK hw.1 0 rfl rfl 6 (by decide) hq1 (fun _ h9 => h9) rfl dX5_matters_30 ?_
        refine lv_iload hx hb dX5_matters_33 (lv_at hl 4 rfl) ?_
        refine lv_dup2_11 hx hb dX5_matters_35 rfl rfl ?_
        obtain ⟨h2, hf⟩ := zk_ck hf
        refine zk_iald hx hb hK hw 5 rfl h2 (j := x4.toNatClampNeg) rfl dX5_matters_36 ?_
        refine lv_iconst (v := 1) hx hb dX5_matters_37 (by decide) ?_
        refine lv_isub hx hb dX5_matters_38 ?_
        refine zk_iast hx hb hK hw 5 rfl h2 (j := x4.toNatClampNeg) rfl dX5_matters_39 (fun H locs hw => ?_)
        have hw : Wd D A s.heap (zwM cI cJ aM Mnow Mread Mpast Mchanges Mtext Mletters (upd Mheads x4.toNatClampNeg ((Mheads x4.toNatClampNeg) - (1 : Int32))) Msets Mballots Mranks Mloads Mbelow Morder Melected Mmembers Mabove Munder Mspot Mvalue) H locs := hw
        refine lv_aload_n hx hb dX5_matters_40 rfl (lv_at hl 0 rfl) ?_
        refine lv_iload_n hx hb dX5_matters_41 rfl (lv_at hl 1 rfl) ?_
        obtain ⟨u3, e4, hf⟩ := zk_bd hf
        refine zk_callv (wc := zwM cI cJ aM Mnow Mread Mpast Mchanges Mtext Mletters (upd Mheads x4.toNatClampNeg ((Mheads x4.toNatClampNeg) - (1 : Int32))) Msets Mballots Mranks Mloads Mbelow Morder Melected Mmembers Mabove Munder Mspot Mvalue) (wr := []) hw hA [0, 1, 2, 3, 4, 5, 6, 7, 8, 9, 10, 11] [] rfl rfl (by decide) (by decide) (va_runV (C := RX5) (As := [.int x1]) (rest := []) ⟨hx, hb, hml, hown, hts⟩ (kX5_elects l D cI cJ cO N aM x1 Mnow Mread Mpast Mchanges Mtext Mletters (upd Mheads x4.toNatClampNeg ((Mheads x4.toNatClampNeg) - (1 : Int32))) Msets Mballots Mranks Mloads Mbelow Morder Melected Mmembers Mabove Munder Mspot Mvalue u3 e4 H.size) (cwV 1 hts gX5_matters_X5_elects rfl rfl rfl (by decide +kernel) ⟨Nat.le_of_ble_eq_true rfl, Nat.le_of_ble_eq_true rfl⟩) (zk_preV (wc := zwM cI cJ aM Mnow Mread Mpast Mchanges Mtext Mletters (upd Mheads x4.toNatClampNeg ((Mheads x4.toNatClampNeg) - (1 : Int32))) Msets Mballots Mranks Mloads Mbelow Morder Melected Mmembers Mabove Munder Mspot Mvalue) hN hK hw [0, 1, 2, 3, 4, 5, 6, 7, 8, 9, 10, 11] rfl (by decide) 0 5 rfl rfl) rfl rfl hl.1 rfl (lv_room (Nat.le_of_ble_eq_true rfl)) dX5_matters_42 ⟨Nat.zero_le _, Nat.zero_le _⟩) (fun H locs hw => ?_)
        have hw : Wd D A s.heap (zwM cI cJ aM Mnow Mread Mpast Mchanges Mtext Mletters (upd Mheads x4.toNatClampNeg ((Mheads x4.toNatClampNeg) - (1 : Int32))) Msets Mballots Mranks u3.1 u3.2.1 u3.2.2.1 u3.2.2.2.1 u3.2.2.2.2.1 u3.2.2.2.2.2.1 u3.2.2.2.2.2.2 Mspot Mvalue) H locs := hw
        refine lv_aload_n hx hb dX5_matters_45 rfl (lv_at hl 0 rfl) ?_
        refine va_get (D := D) (ci := 5) (v := .ref (aM 5)) (C := RX5) (T := TX5) (N := 19) hx hb hts hiX5 hown hK hw.1 0 rfl rfl 6 (by decide) hq1 (fun _ h9 => h9) rfl dX5_matters_46 ?_
        refine lv_iload hx hb dX5_matters_49 (lv_at hl 4 rfl) ?_
        refine lv_dup2_11 hx hb dX5_matters_51 rfl rfl ?_
        refine zk_iald hx hb hK hw 5 rfl h2 (j := x4.toNatClampNeg) rfl dX5_matters_52 ?_
        refine lv_iconst (v := 1) hx hb dX5_matters_53 (by decide) ?_
        refine lv_iadd hx hb dX5_matters_54 ?_
        refine zk_iast hx hb hK hw 5 rfl h2 (j := x4.toNatClampNeg) rfl dX5_matters_55 (fun H locs hw => ?_)
        have hw : Wd D A s.heap (zwM cI cJ aM Mnow Mread Mpast Mchanges Mtext Mletters (upd (upd Mheads x4.toNatClampNeg ((Mheads x4.toNatClampNeg) - (1 : Int32))) x4.toNatClampNeg (((upd Mheads x4.toNatClampNeg ((Mheads x4.toNatClampNeg) - (1 : Int32))) x4.toNatClampNeg) + (1 : Int32))) Msets Mballots Mranks u3.1 u3.2.1 u3.2.2.1 u3.2.2.2.1 u3.2.2.2.2.1 u3.2.2.2.2.2.1 u3.2.2.2.2.2.2 Mspot Mvalue) H locs := hw
        refine lv_iload_n hx hb dX5_matters_56 rfl (lv_at hl 3 rfl) ?_
        refine lv_aload_n hx hb dX5_matters_57 rfl (lv_at hl 0 rfl) ?_
        refine va_get (D := D) (ci := 5) (v := .int u3.2.2.2.2.1) (C := RX5) (T := TX5) (N := 19) hx hb hts hiX5 hown hK hw.1 0 rfl rfl 14 (by decide) hq2 (fun _ h9 => h9) rfl dX5_matters_58 ?_
        refine lv_iload_n hx hb dX5_matters_61 rfl (lv_at hl 2 rfl) ?_
        refine lv_icmp_eq (tgt := 72) hx hb dX5_matters_62 (by decide) (fun c5 => ?_) (fun c5 => ?_)
        · replace hf := zk_t c5 hf
          refine lv_iconst (v := 0) hx hb dX5_matters_72 (by decide) ?_
          exact b73 x1 x2 x4 x3 (0 : Int32) (upd (upd Mheads x4.toNatClampNeg ((Mheads x4.toNatClampNeg) - (1 : Int32))) x4.toNatClampNeg (((upd Mheads x4.toNatClampNeg ((Mheads x4.toNatClampNeg) - (1 : Int32))) x4.toNatClampNeg) + (1 : Int32))) Msets Mballots Mranks u3.1 u3.2.1 u3.2.2.1 u3.2.2.2.1 u3.2.2.2.2.1 u3.2.2.2.2.2.1 u3.2.2.2.2.2.2 hf H locs ls hw (lv_sub hl [0, 1, 2, 4] rfl)
        · replace hf := zk_f c5 hf
          refine lv_iconst (v := 1) hx hb dX5_matters_65 (by decide) ?_
          refine lv_iload hx hb dX5_matters_66 (lv_at hl 4 rfl) ?_
          refine lv_ishl hx hb dX5_matters_68 ?_
          refine lv_goto (tgt := 73) hx hb dX5_matters_69 (by decide) ?_
          exact b73 x1 x2 x4 x3 ((1 : Int32) <<< (x4 &&& 31)) (upd (upd Mheads x4.toNatClampNeg ((Mheads x4.toNatClampNeg) - (1 : Int32))) x4.toNatClampNeg (((upd Mheads x4.toNatClampNeg ((Mheads x4.toNatClampNeg) - (1 : Int32))) x4.toNatClampNeg) + (1 : Int32))) Msets Mballots Mranks u3.1 u3.2.1 u3.2.2.1 u3.2.2.2.1 u3.2.2.2.2.1 u3.2.2.2.2.2.1 u3.2.2.2.2.2.2 hf H locs ls hw (lv_sub hl [0, 1, 2, 4] rfl)
  unfold fX5_matters at hf
  refine lv_iload_n hx hb dX5_matters_0 rfl (lv_at hl 1 rfl) ?_
  obtain ⟨u6, e7, hf⟩ := zk_bd hf
  refine zk_calli (wc := []) (wr := zwM cI cJ aM Mnow Mread Mpast Mchanges Mtext Mletters Mheads Msets Mballots Mranks Mloads Mbelow Morder Melected Mmembers Mabove Munder Mspot Mvalue) hw hA [] [0, 1, 2, 3, 4, 5, 6, 7, 8, 9, 10, 11] rfl rfl (by decide) (by decide) (va_runS (As := [.int p0]) (rest := []) ⟨hx, hb, hml, hown, hts⟩ (kX5_isLaw l D cI cJ cO N p0 u6 e7 H.size) (va_cwS 1 hts gX5_matters_X5_isLaw rfl rfl rfl (by decide +kernel) ⟨Nat.le_of_ble_eq_true rfl, Nat.le_of_ble_eq_true rfl⟩) (zk_preS (wc := []) hN hK hw [] rfl (by decide)) rfl rfl hl.1 rfl (lv_room (Nat.le_of_ble_eq_true rfl)) dX5_matters_1 ⟨Nat.zero_le _, Nat.zero_le _⟩) (fun H locs hw => ?_)
  have hw : Wd D A s.heap (zwM cI cJ aM Mnow Mread Mpast Mchanges Mtext Mletters Mheads Msets Mballots Mranks Mloads Mbelow Morder Melected Mmembers Mabove Munder Mspot Mvalue) H locs := hw
  refine lv_if_ne (tgt := 9) hx hb dX5_matters_4 (by decide) (fun c8 => ?_) (fun c8 => ?_)
  · replace hf := zk_f c8 hf
    refine lv_aload_n hx hb dX5_matters_9 rfl (lv_at hl 0 rfl) ?_
    refine lv_iload_n hx hb dX5_matters_10 rfl (lv_at hl 1 rfl) ?_
    obtain ⟨u9, e10, hf⟩ := zk_bd hf
    refine zk_calli (wc := zwM cI cJ aM Mnow Mread Mpast Mchanges Mtext Mletters Mheads Msets Mballots Mranks Mloads Mbelow Morder Melected Mmembers Mabove Munder Mspot Mvalue) (wr := []) hw hA [0, 1, 2, 3, 4, 5, 6, 7, 8, 9, 10, 11] [] rfl rfl (by decide) (by decide) (va_runV (C := RX5) (As := [.int p0]) (rest := []) ⟨hx, hb, hml, hown, hts⟩ (kX5_membersBy l D cI cJ cO N aM p0 Mnow Mread Mpast Mchanges Mtext Mletters Mheads Msets Mballots Mranks Mloads Mbelow Morder Melected Mmembers Mabove Munder Mspot Mvalue u9 e10 H.size) (cwV 1 hts gX5_matters_X5_membersBy rfl rfl rfl (by decide +kernel) ⟨Nat.le_of_ble_eq_true rfl, Nat.le_of_ble_eq_true rfl⟩) (zk_preV (wc := zwM cI cJ aM Mnow Mread Mpast Mchanges Mtext Mletters Mheads Msets Mballots Mranks Mloads Mbelow Morder Melected Mmembers Mabove Munder Mspot Mvalue) hN hK hw [0, 1, 2, 3, 4, 5, 6, 7, 8, 9, 10, 11] rfl (by decide) 0 5 rfl rfl) rfl rfl hl.1 rfl (lv_room (Nat.le_of_ble_eq_true rfl)) dX5_matters_11 ⟨Nat.zero_le _, Nat.zero_le _⟩) (fun H locs hw => ?_)
    have hw : Wd D A s.heap (zwM cI cJ aM Mnow Mread Mpast Mchanges Mtext Mletters u9.2.1 u9.2.2.1 u9.2.2.2.1 u9.2.2.2.2.1 u9.2.2.2.2.2.1 u9.2.2.2.2.2.2.1 u9.2.2.2.2.2.2.2.1 u9.2.2.2.2.2.2.2.2.1 u9.2.2.2.2.2.2.2.2.2.1 u9.2.2.2.2.2.2.2.2.2.2.1 u9.2.2.2.2.2.2.2.2.2.2.2 Mspot Mvalue) H locs := hw
    refine lv_istore_n (lv' := [(2, .int u9.1), (0, .ref (aM 0)), (1, .int p0)]) hx hb dX5_matters_14 rfl hl (by decide) rfl (fun ls hl => ?_)
    refine lv_iconst (v := 0) hx hb dX5_matters_15 (by decide) ?_
    refine lv_istore_n (lv' := [(3, .int (0 : Int32)), (2, .int u9.1), (0, .ref (aM 0)), (1, .int p0)]) hx hb dX5_matters_16 rfl hl (by decide) rfl (fun ls hl => ?_)
    refine lv_iconst (v := 0) hx hb dX5_matters_17 (by decide) ?_
    refine lv_istore (lv' := [(4, .int (0 : Int32)), (3, .int (0 : Int32)), (2, .int u9.1), (0, .ref (aM 0)), (1, .int p0)]) hx hb dX5_matters_18 hl (by decide) rfl (fun ls hl => ?_)
    exact b20 N p0 u9.1 (0 : Int32) (0 : Int32) u9.2.1 u9.2.2.1 u9.2.2.2.1 u9.2.2.2.2.1 u9.2.2.2.2.2.1 u9.2.2.2.2.2.2.1 u9.2.2.2.2.2.2.2.1 u9.2.2.2.2.2.2.2.2.1 u9.2.2.2.2.2.2.2.2.2.1 u9.2.2.2.2.2.2.2.2.2.2.1 u9.2.2.2.2.2.2.2.2.2.2.2 hf H locs ls hw (lv_sub hl [3, 4, 2, 1, 0] rfl)
  · replace hf := zk_t c8 hf
    refine lv_iconst (v := (-1)) hx hb dX5_matters_7 (by decide) ?_
    cases hf
    exact zk_iret hx hb hr hlocks rfl hQ hw [0, 1, 2, 3, 4, 5, 6, 7, 8, 9, 10, 11] rfl (by decide) dX5_matters_8
set_option maxHeartbeats 4000000 in
set_option maxRecDepth 100000 in
theorem kX5_rather (l : Launch) (D : va_G) (cI cJ cO : ClassId) (N : Nat) (aM : Nat → Nat) (p0 : Int32) (p1 : Int32) (p2 : Int32) (Mnow : Nat → Int32) (Mread : Nat → Int32) (Mpast : Nat → Int32) (Mchanges : Int32) (Mtext : Nat → Int32) (Mletters : Int32) (Mheads : Nat → Int32) (Msets : Nat → Int32) (Mballots : Int32) (Mranks : Nat → Int32) (Mloads : Nat → Int64) (Mbelow : Int64) (Morder : Nat → Int32) (Melected : Int32) (Mmembers : Int32) (Mabove : Nat → Int64) (Munder : Nat → Int64) (Mspot : Int32) (Mvalue : Int32) (u : Int32 × (Nat → Int32) × (Nat → Int32) × (Int32) × (Nat → Int32) × (Nat → Int64) × (Int64) × (Nat → Int32) × (Int32) × (Int32) × (Nat → Int64) × (Nat → Int64)) (hf : fX5_rather N p0 p1 p2 Mnow Mheads Msets Mballots Mranks Mloads Mbelow Morder Melected Mmembers Mabove Munder = some u) : CtI l yX5_rather wsX5_rather (zk_rm 6 140) D cI cJ cO [.ref (aM 0), .int p0, .int p1, .int p2] (zwM cI cJ aM Mnow Mread Mpast Mchanges Mtext Mletters Mheads Msets Mballots Mranks Mloads Mbelow Morder Melected Mmembers Mabove Munder Mspot Mvalue) (zwM cI cJ aM Mnow Mread Mpast Mchanges Mtext Mletters u.2.1 u.2.2.1 u.2.2.2.1 u.2.2.2.2.1 u.2.2.2.2.2.1 u.2.2.2.2.2.2.1 u.2.2.2.2.2.2.2.1 u.2.2.2.2.2.2.2.2.1 u.2.2.2.2.2.2.2.2.2.1 u.2.2.2.2.2.2.2.2.2.2.1 u.2.2.2.2.2.2.2.2.2.2.2 Mspot Mvalue) (u.1) := by
  refine zk_enter (cc := cX5_rather) (maxL := 9) (ret := some .int) (own := RX5) (Qf := fun A => QwI D (zwM cI cJ aM Mnow Mread Mpast Mchanges Mtext Mletters u.2.1 u.2.2.1 u.2.2.2.1 u.2.2.2.2.1 u.2.2.2.2.2.1 u.2.2.2.2.2.2.1 u.2.2.2.2.2.2.2.1 u.2.2.2.2.2.2.2.2.1 u.2.2.2.2.2.2.2.2.2.1 u.2.2.2.2.2.2.2.2.2.2.1 u.2.2.2.2.2.2.2.2.2.2.2 Mspot Mvalue) (u.1) A) (by decide) rfl rfl (Nat.le_of_ble_eq_true rfl) ?_
  intro p e s m args below meth c A Q H locs ls hC hQ hw hl
  obtain ⟨hx, hb, hml, hr, hts, hown, hlocks, hN, hK, hA⟩ := hC
  have hl : lv_has ls 9 [(0, .ref (aM 0)), (1, .int p0), (2, .int p1), (3, .int p2)] := hl
  have hiX5 : ∀ w ∈ u_ws RX5 TX5 19, w ∈ wsX5_rather := by decide +kernel
  have hq0 := hts (.fieldLink RX5 7 "LoadCouncilModel" "now" "[I") (by decide +kernel)
  have hq1 := hts (.fieldLink RX5 25 "LoadCouncilModel" "sets" "[I") (by decide +kernel)
  have hq2 := hts (.fieldLink RX5 141 "LoadCouncilModel" "members" "I") (by decide +kernel)
  have b144 : ∀ (x6 : Int32) (Mheads : Nat → Int32) (Msets : Nat → Int32) (Mballots : Int32) (Mranks : Nat → Int32) (Mloads : Nat → Int64) (Mbelow : Int64) (Morder : Nat → Int32) (Melected : Int32) (Mmembers : Int32) (Mabove : Nat → Int64) (Munder : Nat → Int64), fX5_rather_b144 N x6 Mheads Msets Mballots Mranks Mloads Mbelow Morder Melected Mmembers Mabove Munder = some u → ∀ (H : Heap) (locs : List Loc) (ls : Array Slot), Wd D A s.heap (zwM cI cJ aM Mnow Mread Mpast Mchanges Mtext Mletters Mheads Msets Mballots Mranks Mloads Mbelow Morder Melected Mmembers Mabove Munder Mspot Mvalue) H locs → lv_has ls 9 [(6, .int x6)] → W p l e (zk_rm 6 140) s m args below meth c H locs 0 0 Q (F0 m 144 ls []) := by
    intro x6 Mheads Msets Mballots Mranks Mloads Mbelow Morder Melected Mmembers Mabove Munder hf H locs ls hw hl
    unfold fX5_rather_b144 at hf
    refine lv_iload hx hb dX5_rather_144 (lv_at hl 0 rfl) ?_
    refine lv_goto (tgt := 151) hx hb dX5_rather_146 (by decide) ?_
    cases hf
    exact zk_iret hx hb hr hlocks rfl hQ hw [0, 1, 2, 3, 4, 5, 6, 7, 8, 9, 10, 11] rfl (by decide) dX5_rather_151
  have b133 : ∀ (x3 : Int32) (x5 : Int32) (x6 : Int32) (Mheads : Nat → Int32) (Msets : Nat → Int32) (Mballots : Int32) (Mranks : Nat → Int32) (Mloads : Nat → Int64) (Mbelow : Int64) (Morder : Nat → Int32) (Melected : Int32) (Mmembers : Int32) (Mabove : Nat → Int64) (Munder : Nat → Int64), fX5_rather_b133 N x3 x5 x6 Mheads Msets Mballots Mranks Mloads Mbelow Morder Melected Mmembers Mabove Munder = some u → ∀ (H : Heap) (locs : List Loc) (ls : Array Slot), Wd D A s.heap (zwM cI cJ aM Mnow Mread Mpast Mchanges Mtext Mletters Mheads Msets Mballots Mranks Mloads Mbelow Morder Melected Mmembers Mabove Munder Mspot Mvalue) H locs → lv_has ls 9 [(3, .int x3), (5, .int x5), (6, .int x6)] → W p l e (zk_rm 6 140) s m args below meth c H locs 0 0 Q (F0 m 133 ls []) := by
    intro x3 x5 x6 Mheads Msets Mballots Mranks Mloads Mbelow Morder Melected Mmembers Mabove Munder hf H locs ls hw hl
    unfold fX5_rather_b133 at hf
    refine lv_iload hx hb dX5_rather_133 (lv_at hl 2 rfl) ?_
    refine lv_bipush (v := (-4)) hx hb dX5_rather_135 (by decide) ?_
    refine lv_icmp_eq (tgt := 144) hx hb dX5_rather_137 (by decide) (fun c1 => ?_) (fun c1 => ?_)
    · replace hf := zk_t c1 hf
      exact b144 x6 Mheads Msets Mballots Mranks Mloads Mbelow Morder Melected Mmembers Mabove Munder hf H locs ls hw (lv_sub hl [2] rfl)
    · replace hf := zk_f c1 hf
      refine lv_iload_n hx hb dX5_rather_140 rfl (lv_at hl 0 rfl) ?_
      refine lv_if_ne (tgt := 149) hx hb dX5_rather_141 (by decide) (fun c2 => ?_) (fun c2 => ?_)
      · replace hf := zk_f c2 hf
        refine lv_iload hx hb dX5_rather_149 (lv_at hl 1 rfl) ?_
        cases hf
        exact zk_iret hx hb hr hlocks rfl hQ hw [0, 1, 2, 3, 4, 5, 6, 7, 8, 9, 10, 11] rfl (by decide) dX5_rather_151
      · replace hf := zk_t c2 hf
        exact b144 x6 Mheads Msets Mballots Mranks Mloads Mbelow Morder Melected Mmembers Mabove Munder hf H locs ls hw (lv_sub hl [2] rfl)
  have b57 : ∀ (n57 : Nat), ∀ (x1 : Int32) (x2 : Int32) (x3 : Int32) (x4 : Int32) (x5 : Int32) (x6 : Int32) (x7 : Int32) (Mheads : Nat → Int32) (Msets : Nat → Int32) (Mballots : Int32) (Mranks : Nat → Int32) (Mloads : Nat → Int64) (Mbelow : Int64) (Morder : Nat → Int32) (Melected : Int32) (Mmembers : Int32) (Mabove : Nat → Int64) (Munder : Nat → Int64), fX5_rather_b57 N n57 x1 x2 x3 x4 x5 x6 x7 Mnow Mheads Msets Mballots Mranks Mloads Mbelow Morder Melected Mmembers Mabove Munder = some u → ∀ (H : Heap) (locs : List Loc) (ls : Array Slot), Wd D A s.heap (zwM cI cJ aM Mnow Mread Mpast Mchanges Mtext Mletters Mheads Msets Mballots Mranks Mloads Mbelow Morder Melected Mmembers Mabove Munder Mspot Mvalue) H locs → lv_has ls 9 [(0, .ref (aM 0)), (1, .int x1), (2, .int x2), (3, .int x3), (4, .int x4), (5, .int x5), (6, .int x6), (7, .int x7)] → W p l e (zk_rm 6 140) s m args below meth c H locs 0 0 Q (F0 m 57 ls []) := by
    intro n57
    induction n57 with
    | zero =>
      intro x1 x2 x3 x4 x5 x6 x7 Mheads Msets Mballots Mranks Mloads Mbelow Morder Melected Mmembers Mabove Munder hf
      exact zk_none hf
    | succ n57 ih57 =>
      have b125 : ∀ (x1 : Int32) (x2 : Int32) (x3 : Int32) (x4 : Int32) (x6 : Int32) (x7 : Int32) (t0 : Int32) (Mheads : Nat → Int32) (Msets : Nat → Int32) (Mballots : Int32) (Mranks : Nat → Int32) (Mloads : Nat → Int64) (Mbelow : Int64) (Morder : Nat → Int32) (Melected : Int32) (Mmembers : Int32) (Mabove : Nat → Int64) (Munder : Nat → Int64), fX5_rather_b125 N (fun z0 z1 z2 z3 z4 z5 z6 z7 z8 z9 z10 z11 z12 z13 z14 z15 z16 z17 z18 => fX5_rather_b57 N n57 z0 z1 z2 z3 z4 z5 z6 z7 z8 z9 z10 z11 z12 z13 z14 z15 z16 z17 z18) x1 x2 x3 x4 x6 x7 t0 Mnow Mheads Msets Mballots Mranks Mloads Mbelow Morder Melected Mmembers Mabove Munder = some u → ∀ (H : Heap) (locs : List Loc) (ls : Array Slot), Wd D A s.heap (zwM cI cJ aM Mnow Mread Mpast Mchanges Mtext Mletters Mheads Msets Mballots Mranks Mloads Mbelow Morder Melected Mmembers Mabove Munder Mspot Mvalue) H locs → lv_has ls 9 [(0, .ref (aM 0)), (1, .int x1), (2, .int x2), (3, .int x3), (4, .int x4), (6, .int x6), (7, .int x7)] → W p l e (zk_rm 6 140) s m args below meth c H locs 0 0 Q (F0 m 125 ls [.int t0]) := by
        intro x1 x2 x3 x4 x6 x7 t0 Mheads Msets Mballots Mranks Mloads Mbelow Morder Melected Mmembers Mabove Munder hf H locs ls hw hl
        unfold fX5_rather_b125 at hf
        refine lv_istore (lv' := [(5, .int t0), (0, .ref (aM 0)), (1, .int x1), (2, .int x2), (3, .int x3), (4, .int x4), (6, .int x6), (7, .int x7)]) hx hb dX5_rather_125 hl (by decide) rfl (fun ls hl => ?_)
        refine lv_iinc (v := (x7 + (1 : Int32))) (lv' := [(7, .int (x7 + (1 : Int32))), (5, .int t0), (0, .ref (aM 0)), (1, .int x1), (2, .int x2), (3, .int x3), (4, .int x4), (6, .int x6)]) hx hb dX5_rather_127 hl (k := 7) rfl rfl (by decide) rfl (fun ls hl => ?_)
        refine lv_goto (tgt := 57) hx hb dX5_rather_130 (by decide) ?_
        exact ih57 x1 x2 x3 x4 t0 x6 (x7 + (1 : Int32)) Mheads Msets Mballots Mranks Mloads Mbelow Morder Melected Mmembers Mabove Munder hf H locs ls hw (lv_sub hl [2, 3, 4, 5, 6, 1, 7, 0] rfl)
      have b109 : ∀ (x1 : Int32) (x2 : Int32) (x3 : Int32) (x4 : Int32) (x5 : Int32) (x7 : Int32) (x8 : Int32) (t0 : Int32) (Mheads : Nat → Int32) (Msets : Nat → Int32) (Mballots : Int32) (Mranks : Nat → Int32) (Mloads : Nat → Int64) (Mbelow : Int64) (Morder : Nat → Int32) (Melected : Int32) (Mmembers : Int32) (Mabove : Nat → Int64) (Munder : Nat → Int64), fX5_rather_b109 N (fun z0 z1 z2 z3 z4 z5 z6 z7 z8 z9 z10 z11 z12 z13 z14 z15 z16 z17 z18 => fX5_rather_b57 N n57 z0 z1 z2 z3 z4 z5 z6 z7 z8 z9 z10 z11 z12 z13 z14 z15 z16 z17 z18) x1 x2 x3 x4 x5 x7 x8 t0 Mnow Mheads Msets Mballots Mranks Mloads Mbelow Morder Melected Mmembers Mabove Munder = some u → ∀ (H : Heap) (locs : List Loc) (ls : Array Slot), Wd D A s.heap (zwM cI cJ aM Mnow Mread Mpast Mchanges Mtext Mletters Mheads Msets Mballots Mranks Mloads Mbelow Morder Melected Mmembers Mabove Munder Mspot Mvalue) H locs → lv_has ls 9 [(0, .ref (aM 0)), (1, .int x1), (2, .int x2), (3, .int x3), (4, .int x4), (5, .int x5), (7, .int x7), (8, .int x8)] → W p l e (zk_rm 6 140) s m args below meth c H locs 0 0 Q (F0 m 109 ls [.int t0]) := by
        intro x1 x2 x3 x4 x5 x7 x8 t0 Mheads Msets Mballots Mranks Mloads Mbelow Morder Melected Mmembers Mabove Munder hf H locs ls hw hl
        unfold fX5_rather_b109 at hf
        refine lv_istore (lv' := [(6, .int t0), (0, .ref (aM 0)), (1, .int x1), (2, .int x2), (3, .int x3), (4, .int x4), (5, .int x5), (7, .int x7), (8, .int x8)]) hx hb dX5_rather_109 hl (by decide) rfl (fun ls hl => ?_)
        refine lv_iload hx hb dX5_rather_111 (lv_at hl 8 rfl) ?_
        refine lv_iload hx hb dX5_rather_113 (lv_at hl 6 rfl) ?_
        refine lv_icmp_le (tgt := 123) hx hb dX5_rather_115 (by decide) (fun c3 => ?_) (fun c3 => ?_)
        · replace hf := zk_t c3 hf
          refine lv_iload hx hb dX5_rather_123 (lv_at hl 6 rfl) ?_
          exact b125 x1 x2 x3 x4 t0 x7 x5 Mheads Msets Mballots Mranks Mloads Mbelow Morder Melected Mmembers Mabove Munder hf H locs ls hw (lv_sub hl [1, 2, 3, 4, 5, 0, 7] rfl)
        · replace hf := zk_f c3 hf
          refine lv_iload hx hb dX5_rather_118 (lv_at hl 8 rfl) ?_
          refine lv_goto (tgt := 125) hx hb dX5_rather_120 (by decide) ?_
          exact b125 x1 x2 x3 x4 t0 x7 x8 Mheads Msets Mballots Mranks Mloads Mbelow Morder Melected Mmembers Mabove Munder hf H locs ls hw (lv_sub hl [1, 2, 3, 4, 5, 0, 7] rfl)
      intro x1 x2 x3 x4 x5 x6 x7 Mheads Msets Mballots Mranks Mloads Mbelow Morder Melected Mmembers Mabove Munder hf H locs ls hw hl
      rw [fX5_rather_b57] at hf
      refine lv_iload hx hb dX5_rather_57 (lv_at hl 7 rfl) ?_
      refine lv_iconst (v := 1) hx hb dX5_rather_59 (by decide) ?_
      refine lv_aload_n hx hb dX5_rather_60 rfl (lv_at hl 0 rfl) ?_
      refine va_get (D := D) (ci := 5) (v := .ref (aM 1)) (C := RX5) (T := TX5) (N := 19) hx hb hts hiX5 hown hK hw.1 0 rfl rfl 0 (by decide) hq0 (fun _ h9 => h9) rfl dX5_rather_61 ?_
      refine lv_iconst (v := 0) hx hb dX5_rather_64 (by decide) ?_
      refine zk_iald hx hb hK hw 1 rfl (zk_in (by decide)) (j := 0) rfl dX5_rather_65 ?_
      refine lv_ishl hx hb dX5_rather_66 ?_
      refine lv_icmp_ge (tgt := 133) hx hb dX5_rather_67 (by decide) (fun c4 => ?_) (fun c4 => ?_)
      · replace hf := zk_t c4 hf
        exact b133 x3 x5 x6 Mheads Msets Mballots Mranks Mloads Mbelow Morder Melected Mmembers Mabove Munder hf H locs ls hw (lv_sub hl [3, 5, 6] rfl)
      · replace hf := zk_f c4 hf
        refine lv_aload_n hx hb dX5_rather_70 rfl (lv_at hl 0 rfl) ?_
        refine va_get (D := D) (ci := 5) (v := .ref (aM 6)) (C := RX5) (T := TX5) (N := 19) hx hb hts hiX5 hown hK hw.1 0 rfl rfl 7 (by decide) hq1 (fun _ h9 => h9) rfl dX5_rather_71 ?_
        refine lv_iload_n hx hb dX5_rather_74 rfl (lv_at hl 2 rfl) ?_
        refine lv_iload hx hb dX5_rather_75 (lv_at hl 7 rfl) ?_
        obtain ⟨h5, hf⟩ := zk_ck hf
        refine zk_iast hx hb hK hw 6 rfl h5 (j := x2.toNatClampNeg) rfl dX5_rather_77 (fun H locs hw => ?_)
        have hw : Wd D A s.heap (zwM cI cJ aM Mnow Mread Mpast Mchanges Mtext Mletters Mheads (upd Msets x2.toNatClampNeg x7) Mballots Mranks Mloads Mbelow Morder Melected Mmembers Mabove Munder Mspot Mvalue) H locs := hw
        refine lv_aload_n hx hb dX5_rather_78 rfl (lv_at hl 0 rfl) ?_
        refine lv_iload_n hx hb dX5_rather_79 rfl (lv_at hl 1 rfl) ?_
        obtain ⟨u6, e7, hf⟩ := zk_bd hf
        refine zk_callv (wc := zwM cI cJ aM Mnow Mread Mpast Mchanges Mtext Mletters Mheads (upd Msets x2.toNatClampNeg x7) Mballots Mranks Mloads Mbelow Morder Melected Mmembers Mabove Munder Mspot Mvalue) (wr := []) hw hA [0, 1, 2, 3, 4, 5, 6, 7, 8, 9, 10, 11] [] rfl rfl (by decide) (by decide) (va_runV (C := RX5) (As := [.int x1]) (rest := []) ⟨hx, hb, hml, hown, hts⟩ (kX5_elects l D cI cJ cO N aM x1 Mnow Mread Mpast Mchanges Mtext Mletters Mheads (upd Msets x2.toNatClampNeg x7) Mballots Mranks Mloads Mbelow Morder Melected Mmembers Mabove Munder Mspot Mvalue u6 e7 H.size) (cwV 1 hts gX5_rather_X5_elects rfl rfl rfl (by decide +kernel) ⟨Nat.le_of_ble_eq_true rfl, Nat.le_of_ble_eq_true rfl⟩) (zk_preV (wc := zwM cI cJ aM Mnow Mread Mpast Mchanges Mtext Mletters Mheads (upd Msets x2.toNatClampNeg x7) Mballots Mranks Mloads Mbelow Morder Melected Mmembers Mabove Munder Mspot Mvalue) hN hK hw [0, 1, 2, 3, 4, 5, 6, 7, 8, 9, 10, 11] rfl (by decide) 0 5 rfl rfl) rfl rfl hl.1 rfl (lv_room (Nat.le_of_ble_eq_true rfl)) dX5_rather_80 ⟨Nat.zero_le _, Nat.zero_le _⟩) (fun H locs hw => ?_)
        have hw : Wd D A s.heap (zwM cI cJ aM Mnow Mread Mpast Mchanges Mtext Mletters Mheads (upd Msets x2.toNatClampNeg x7) Mballots Mranks u6.1 u6.2.1 u6.2.2.1 u6.2.2.2.1 u6.2.2.2.2.1 u6.2.2.2.2.2.1 u6.2.2.2.2.2.2 Mspot Mvalue) H locs := hw
        refine lv_aload_n hx hb dX5_rather_83 rfl (lv_at hl 0 rfl) ?_
        refine va_get (D := D) (ci := 5) (v := .int u6.2.2.2.2.1) (C := RX5) (T := TX5) (N := 19) hx hb hts hiX5 hown hK hw.1 0 rfl rfl 14 (by decide) hq2 (fun _ h9 => h9) rfl dX5_rather_84 ?_
        refine lv_iload hx hb dX5_rather_87 (lv_at hl 4 rfl) ?_
        refine lv_iand hx hb dX5_rather_89 ?_
        obtain ⟨u8, e9, hf⟩ := zk_bd hf
        refine zk_calli (wc := []) (wr := zwM cI cJ aM Mnow Mread Mpast Mchanges Mtext Mletters Mheads (upd Msets x2.toNatClampNeg x7) Mballots Mranks u6.1 u6.2.1 u6.2.2.1 u6.2.2.2.1 u6.2.2.2.2.1 u6.2.2.2.2.2.1 u6.2.2.2.2.2.2 Mspot Mvalue) hw hA [] [0, 1, 2, 3, 4, 5, 6, 7, 8, 9, 10, 11] rfl rfl (by decide) (by decide) (va_runS (As := [.int (u6.2.2.2.2.1 &&& x4)]) (rest := []) ⟨hx, hb, hml, hown, hts⟩ (kX5_ones l D cI cJ cO N (u6.2.2.2.2.1 &&& x4) u8 e9 H.size) (va_cwS 1 hts gX5_rather_X5_ones rfl rfl rfl (by decide +kernel) ⟨Nat.le_of_ble_eq_true rfl, Nat.le_of_ble_eq_true rfl⟩) (zk_preS (wc := []) hN hK hw [] rfl (by decide)) rfl rfl hl.1 rfl (lv_room (Nat.le_of_ble_eq_true rfl)) dX5_rather_90 ⟨Nat.zero_le _, Nat.zero_le _⟩) (fun H locs hw => ?_)
        have hw : Wd D A s.heap (zwM cI cJ aM Mnow Mread Mpast Mchanges Mtext Mletters Mheads (upd Msets x2.toNatClampNeg x7) Mballots Mranks u6.1 u6.2.1 u6.2.2.1 u6.2.2.2.1 u6.2.2.2.2.1 u6.2.2.2.2.2.1 u6.2.2.2.2.2.2 Mspot Mvalue) H locs := hw
        refine lv_istore (lv' := [(8, .int u8), (0, .ref (aM 0)), (1, .int x1), (2, .int x2), (3, .int x3), (4, .int x4), (5, .int x5), (6, .int x6), (7, .int x7)]) hx hb dX5_rather_93 hl (by decide) rfl (fun ls hl => ?_)
        refine lv_iload hx hb dX5_rather_95 (lv_at hl 0 rfl) ?_
        refine lv_iload hx hb dX5_rather_97 (lv_at hl 6 rfl) ?_
        refine lv_icmp_le (tgt := 107) hx hb dX5_rather_99 (by decide) (fun c10 => ?_) (fun c10 => ?_)
        · replace hf := zk_t c10 hf
          refine lv_iload hx hb dX5_rather_107 (lv_at hl 7 rfl) ?_
          exact b109 x1 x2 x3 x4 x5 x7 u8 x6 Mheads (upd Msets x2.toNatClampNeg x7) Mballots Mranks u6.1 u6.2.1 u6.2.2.1 u6.2.2.2.1 u6.2.2.2.2.1 u6.2.2.2.2.2.1 u6.2.2.2.2.2.2 hf H locs ls hw (lv_sub hl [1, 2, 3, 4, 5, 6, 8, 0] rfl)
        · replace hf := zk_f c10 hf
          refine lv_iload hx hb dX5_rather_102 (lv_at hl 8 rfl) ?_
          refine lv_goto (tgt := 109) hx hb dX5_rather_104 (by decide) ?_
          exact b109 x1 x2 x3 x4 x5 x7 u8 x7 Mheads (upd Msets x2.toNatClampNeg x7) Mballots Mranks u6.1 u6.2.1 u6.2.2.1 u6.2.2.2.1 u6.2.2.2.2.1 u6.2.2.2.2.2.1 u6.2.2.2.2.2.2 hf H locs ls hw (lv_sub hl [1, 2, 3, 4, 5, 6, 8, 0] rfl)
  unfold fX5_rather at hf
  refine lv_iload_n hx hb dX5_rather_0 rfl (lv_at hl 1 rfl) ?_
  obtain ⟨u11, e12, hf⟩ := zk_bd hf
  refine zk_calli (wc := []) (wr := zwM cI cJ aM Mnow Mread Mpast Mchanges Mtext Mletters Mheads Msets Mballots Mranks Mloads Mbelow Morder Melected Mmembers Mabove Munder Mspot Mvalue) hw hA [] [0, 1, 2, 3, 4, 5, 6, 7, 8, 9, 10, 11] rfl rfl (by decide) (by decide) (va_runS (As := [.int p0]) (rest := []) ⟨hx, hb, hml, hown, hts⟩ (kX5_isLaw l D cI cJ cO N p0 u11 e12 H.size) (va_cwS 1 hts gX5_rather_X5_isLaw rfl rfl rfl (by decide +kernel) ⟨Nat.le_of_ble_eq_true rfl, Nat.le_of_ble_eq_true rfl⟩) (zk_preS (wc := []) hN hK hw [] rfl (by decide)) rfl rfl hl.1 rfl (lv_room (Nat.le_of_ble_eq_true rfl)) dX5_rather_1 ⟨Nat.zero_le _, Nat.zero_le _⟩) (fun H locs hw => ?_)
  have hw : Wd D A s.heap (zwM cI cJ aM Mnow Mread Mpast Mchanges Mtext Mletters Mheads Msets Mballots Mranks Mloads Mbelow Morder Melected Mmembers Mabove Munder Mspot Mvalue) H locs := hw
  refine lv_if_eq (tgt := 24) hx hb dX5_rather_4 (by decide) (fun c13 => ?_) (fun c13 => ?_)
  · replace hf := zk_t c13 hf
    refine lv_iconst (v := (-1)) hx hb dX5_rather_24 (by decide) ?_
    cases hf
    exact zk_iret hx hb hr hlocks rfl hQ hw [0, 1, 2, 3, 4, 5, 6, 7, 8, 9, 10, 11] rfl (by decide) dX5_rather_25
  · replace hf := zk_f c13 hf
    refine lv_aload_n hx hb dX5_rather_7 rfl (lv_at hl 0 rfl) ?_
    refine lv_iload_n hx hb dX5_rather_8 rfl (lv_at hl 2 rfl) ?_
    obtain ⟨u14, e15, hf⟩ := zk_bd hf
    refine zk_calli (wc := zwM cI cJ aM Mnow Mread Mpast Mchanges Mtext Mletters Mheads Msets Mballots Mranks Mloads Mbelow Morder Melected Mmembers Mabove Munder Mspot Mvalue) (wr := []) hw hA [0, 1, 2, 3, 4, 5, 6, 7, 8, 9, 10, 11] [] rfl rfl (by decide) (by decide) (va_runV (C := RX5) (As := [.int p1]) (rest := []) ⟨hx, hb, hml, hown, hts⟩ (kX5_isBallot l D cI cJ cO N aM p1 Mnow Mread Mpast Mchanges Mtext Mletters Mheads Msets Mballots Mranks Mloads Mbelow Morder Melected Mmembers Mabove Munder Mspot Mvalue u14 e15 H.size) (cwV 1 hts gX5_rather_X5_isBallot rfl rfl rfl (by decide +kernel) ⟨Nat.le_of_ble_eq_true rfl, Nat.le_of_ble_eq_true rfl⟩) (zk_preV (wc := zwM cI cJ aM Mnow Mread Mpast Mchanges Mtext Mletters Mheads Msets Mballots Mranks Mloads Mbelow Morder Melected Mmembers Mabove Munder Mspot Mvalue) hN hK hw [0, 1, 2, 3, 4, 5, 6, 7, 8, 9, 10, 11] rfl (by decide) 0 5 rfl rfl) rfl rfl hl.1 rfl (lv_room (Nat.le_of_ble_eq_true rfl)) dX5_rather_9 ⟨Nat.zero_le _, Nat.zero_le _⟩) (fun H locs hw => ?_)
    have hw : Wd D A s.heap (zwM cI cJ aM Mnow Mread Mpast Mchanges Mtext Mletters Mheads Msets Mballots Mranks Mloads Mbelow Morder Melected Mmembers Mabove Munder Mspot Mvalue) H locs := hw
    refine lv_if_eq (tgt := 24) hx hb dX5_rather_12 (by decide) (fun c16 => ?_) (fun c16 => ?_)
    · replace hf := zk_t c16 hf
      refine lv_iconst (v := (-1)) hx hb dX5_rather_24 (by decide) ?_
      cases hf
      exact zk_iret hx hb hr hlocks rfl hQ hw [0, 1, 2, 3, 4, 5, 6, 7, 8, 9, 10, 11] rfl (by decide) dX5_rather_25
    · replace hf := zk_f c16 hf
      refine lv_iload_n hx hb dX5_rather_15 rfl (lv_at hl 3 rfl) ?_
      refine lv_iconst (v := 0) hx hb dX5_rather_16 (by decide) ?_
      refine lv_iconst (v := 1) hx hb dX5_rather_17 (by decide) ?_
      obtain ⟨u17, e18, hf⟩ := zk_bd hf
      refine zk_calli (wc := []) (wr := zwM cI cJ aM Mnow Mread Mpast Mchanges Mtext Mletters Mheads Msets Mballots Mranks Mloads Mbelow Morder Melected Mmembers Mabove Munder Mspot Mvalue) hw hA [] [0, 1, 2, 3, 4, 5, 6, 7, 8, 9, 10, 11] rfl rfl (by decide) (by decide) (va_runS (As := [.int p2, .int (0 : Int32), .int (1 : Int32)]) (rest := []) ⟨hx, hb, hml, hown, hts⟩ (kX5_in l D cI cJ cO N p2 (0 : Int32) (1 : Int32) u17 e18 H.size) (va_cwS 3 hts gX5_rather_X5_in rfl rfl rfl (by decide +kernel) ⟨Nat.le_of_ble_eq_true rfl, Nat.le_of_ble_eq_true rfl⟩) (zk_preS (wc := []) hN hK hw [] rfl (by decide)) rfl rfl hl.1 rfl (lv_room (Nat.le_of_ble_eq_true rfl)) dX5_rather_18 ⟨Nat.zero_le _, Nat.zero_le _⟩) (fun H locs hw => ?_)
      have hw : Wd D A s.heap (zwM cI cJ aM Mnow Mread Mpast Mchanges Mtext Mletters Mheads Msets Mballots Mranks Mloads Mbelow Morder Melected Mmembers Mabove Munder Mspot Mvalue) H locs := hw
      refine lv_if_ne (tgt := 26) hx hb dX5_rather_21 (by decide) (fun c19 => ?_) (fun c19 => ?_)
      · replace hf := zk_f c19 hf
        refine lv_aload_n hx hb dX5_rather_26 rfl (lv_at hl 0 rfl) ?_
        refine va_get (D := D) (ci := 5) (v := .ref (aM 1)) (C := RX5) (T := TX5) (N := 19) hx hb hts hiX5 hown hK hw.1 0 rfl rfl 0 (by decide) hq0 (fun _ h9 => h9) rfl dX5_rather_27 ?_
        refine lv_bipush (v := 12) hx hb dX5_rather_30 (by decide) ?_
        refine lv_iload_n hx hb dX5_rather_32 rfl (lv_at hl 2 rfl) ?_
        refine lv_iadd hx hb dX5_rather_33 ?_
        obtain ⟨h20, hf⟩ := zk_ck hf
        refine zk_iald hx hb hK hw 1 rfl h20 (j := ((12 : Int32) + p1).toNatClampNeg) rfl dX5_rather_34 ?_
        refine lv_istore (lv' := [(4, .int (Mnow (((12 : Int32) + p1).toNatClampNeg))), (0, .ref (aM 0)), (1, .int p0), (2, .int p1), (3, .int p2)]) hx hb dX5_rather_35 hl (by decide) rfl (fun ls hl => ?_)
        refine lv_aload_n hx hb dX5_rather_37 rfl (lv_at hl 1 rfl) ?_
        refine lv_iload_n hx hb dX5_rather_38 rfl (lv_at hl 2 rfl) ?_
        obtain ⟨u21, e22, hf⟩ := zk_bd hf
        refine zk_calli (wc := zwM cI cJ aM Mnow Mread Mpast Mchanges Mtext Mletters Mheads Msets Mballots Mranks Mloads Mbelow Morder Melected Mmembers Mabove Munder Mspot Mvalue) (wr := []) hw hA [0, 1, 2, 3, 4, 5, 6, 7, 8, 9, 10, 11] [] rfl rfl (by decide) (by decide) (va_runV (C := RX5) (As := [.int p0]) (rest := []) ⟨hx, hb, hml, hown, hts⟩ (kX5_membersBy l D cI cJ cO N aM p0 Mnow Mread Mpast Mchanges Mtext Mletters Mheads Msets Mballots Mranks Mloads Mbelow Morder Melected Mmembers Mabove Munder Mspot Mvalue u21 e22 H.size) (cwV 1 hts gX5_rather_X5_membersBy rfl rfl rfl (by decide +kernel) ⟨Nat.le_of_ble_eq_true rfl, Nat.le_of_ble_eq_true rfl⟩) (zk_preV (wc := zwM cI cJ aM Mnow Mread Mpast Mchanges Mtext Mletters Mheads Msets Mballots Mranks Mloads Mbelow Morder Melected Mmembers Mabove Munder Mspot Mvalue) hN hK hw [0, 1, 2, 3, 4, 5, 6, 7, 8, 9, 10, 11] rfl (by decide) 0 5 rfl rfl) rfl rfl hl.1 rfl (lv_room (Nat.le_of_ble_eq_true rfl)) dX5_rather_39 ⟨Nat.zero_le _, Nat.zero_le _⟩) (fun H locs hw => ?_)
        have hw : Wd D A s.heap (zwM cI cJ aM Mnow Mread Mpast Mchanges Mtext Mletters u21.2.1 u21.2.2.1 u21.2.2.2.1 u21.2.2.2.2.1 u21.2.2.2.2.2.1 u21.2.2.2.2.2.2.1 u21.2.2.2.2.2.2.2.1 u21.2.2.2.2.2.2.2.2.1 u21.2.2.2.2.2.2.2.2.2.1 u21.2.2.2.2.2.2.2.2.2.2.1 u21.2.2.2.2.2.2.2.2.2.2.2 Mspot Mvalue) H locs := hw
        refine lv_iload hx hb dX5_rather_42 (lv_at hl 0 rfl) ?_
        refine lv_iand hx hb dX5_rather_44 ?_
        obtain ⟨u23, e24, hf⟩ := zk_bd hf
        refine zk_calli (wc := []) (wr := zwM cI cJ aM Mnow Mread Mpast Mchanges Mtext Mletters u21.2.1 u21.2.2.1 u21.2.2.2.1 u21.2.2.2.2.1 u21.2.2.2.2.2.1 u21.2.2.2.2.2.2.1 u21.2.2.2.2.2.2.2.1 u21.2.2.2.2.2.2.2.2.1 u21.2.2.2.2.2.2.2.2.2.1 u21.2.2.2.2.2.2.2.2.2.2.1 u21.2.2.2.2.2.2.2.2.2.2.2 Mspot Mvalue) hw hA [] [0, 1, 2, 3, 4, 5, 6, 7, 8, 9, 10, 11] rfl rfl (by decide) (by decide) (va_runS (As := [.int (u21.1 &&& (Mnow (((12 : Int32) + p1).toNatClampNeg)))]) (rest := []) ⟨hx, hb, hml, hown, hts⟩ (kX5_ones l D cI cJ cO N (u21.1 &&& (Mnow (((12 : Int32) + p1).toNatClampNeg))) u23 e24 H.size) (va_cwS 1 hts gX5_rather_X5_ones rfl rfl rfl (by decide +kernel) ⟨Nat.le_of_ble_eq_true rfl, Nat.le_of_ble_eq_true rfl⟩) (zk_preS (wc := []) hN hK hw [] rfl (by decide)) rfl rfl hl.1 rfl (lv_room (Nat.le_of_ble_eq_true rfl)) dX5_rather_45 ⟨Nat.zero_le _, Nat.zero_le _⟩) (fun H locs hw => ?_)
        have hw : Wd D A s.heap (zwM cI cJ aM Mnow Mread Mpast Mchanges Mtext Mletters u21.2.1 u21.2.2.1 u21.2.2.2.1 u21.2.2.2.2.1 u21.2.2.2.2.2.1 u21.2.2.2.2.2.2.1 u21.2.2.2.2.2.2.2.1 u21.2.2.2.2.2.2.2.2.1 u21.2.2.2.2.2.2.2.2.2.1 u21.2.2.2.2.2.2.2.2.2.2.1 u21.2.2.2.2.2.2.2.2.2.2.2 Mspot Mvalue) H locs := hw
        refine lv_istore (lv' := [(5, .int u23), (4, .int (Mnow (((12 : Int32) + p1).toNatClampNeg))), (0, .ref (aM 0)), (1, .int p0), (2, .int p1), (3, .int p2)]) hx hb dX5_rather_48 hl (by decide) rfl (fun ls hl => ?_)
        refine lv_bipush (v := (-4)) hx hb dX5_rather_50 (by decide) ?_
        refine lv_istore (lv' := [(6, .int (-4 : Int32)), (5, .int u23), (4, .int (Mnow (((12 : Int32) + p1).toNatClampNeg))), (0, .ref (aM 0)), (1, .int p0), (2, .int p1), (3, .int p2)]) hx hb dX5_rather_52 hl (by decide) rfl (fun ls hl => ?_)
        refine lv_iconst (v := 1) hx hb dX5_rather_54 (by decide) ?_
        refine lv_istore (lv' := [(7, .int (1 : Int32)), (6, .int (-4 : Int32)), (5, .int u23), (4, .int (Mnow (((12 : Int32) + p1).toNatClampNeg))), (0, .ref (aM 0)), (1, .int p0), (2, .int p1), (3, .int p2)]) hx hb dX5_rather_55 hl (by decide) rfl (fun ls hl => ?_)
        exact b57 N p0 p1 p2 (Mnow (((12 : Int32) + p1).toNatClampNeg)) u23 (-4 : Int32) (1 : Int32) u21.2.1 u21.2.2.1 u21.2.2.2.1 u21.2.2.2.2.1 u21.2.2.2.2.2.1 u21.2.2.2.2.2.2.1 u21.2.2.2.2.2.2.2.1 u21.2.2.2.2.2.2.2.2.1 u21.2.2.2.2.2.2.2.2.2.1 u21.2.2.2.2.2.2.2.2.2.2.1 u21.2.2.2.2.2.2.2.2.2.2.2 hf H locs ls hw (lv_sub hl [4, 5, 6, 7, 3, 2, 1, 0] rfl)
      · replace hf := zk_t c19 hf
        refine lv_iconst (v := (-1)) hx hb dX5_rather_24 (by decide) ?_
        cases hf
        exact zk_iret hx hb hr hlocks rfl hQ hw [0, 1, 2, 3, 4, 5, 6, 7, 8, 9, 10, 11] rfl (by decide) dX5_rather_25
