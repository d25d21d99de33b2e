set_option maxHeartbeats 4000000 in
set_option maxRecDepth 100000 in
theorem kX5_decided (l : Launch) (D : va_G) (cI cJ cO : ClassId) (N : Nat) (aM : Nat → Nat) (p0 : Int32) (Mnow : Nat → Int32) (Mread : Nat → Int32) (Mpast : Nat → Int32) (Mchanges : Int32) (Mtext : Nat → Int32) (Mletters : Int32) (Mheads : Nat → Int32) (Msets : Nat → Int32) (Mballots : Int32) (Mranks : Nat → Int32) (Mloads : Nat → Int64) (Mbelow : Int64) (Morder : Nat → Int32) (Melected : Int32) (Mmembers : Int32) (Mabove : Nat → Int64) (Munder : Nat → Int64) (Mspot : Int32) (Mvalue : Int32) (u : Int32 × (Nat → Int32) × (Nat → Int32) × (Int32) × (Nat → Int32) × (Nat → Int64) × (Int64) × (Nat → Int32) × (Int32) × (Int32) × (Nat → Int64) × (Nat → Int64)) (hf : fX5_decided N p0 Mnow Mheads Msets Mballots Mranks Mloads Mbelow Morder Melected Mmembers Mabove Munder = some u) : CtI l yX5_decided wsX5_decided (zk_rm 6 140) D cI cJ cO [.ref (aM 0), .int p0] (zwM cI cJ aM Mnow Mread Mpast Mchanges Mtext Mletters Mheads Msets Mballots Mranks Mloads Mbelow Morder Melected Mmembers Mabove Munder Mspot Mvalue) (zwM cI cJ aM Mnow Mread Mpast Mchanges Mtext Mletters u.2.1 u.2.2.1 u.2.2.2.1 u.2.2.2.2.1 u.2.2.2.2.2.1 u.2.2.2.2.2.2.1 u.2.2.2.2.2.2.2.1 u.2.2.2.2.2.2.2.2.1 u.2.2.2.2.2.2.2.2.2.1 u.2.2.2.2.2.2.2.2.2.2.1 u.2.2.2.2.2.2.2.2.2.2.2 Mspot Mvalue) (u.1) := by
  refine zk_enter (cc := cX5_decided) (maxL := 5) (ret := some .int) (own := RX5) (Qf := fun A => QwI D (zwM cI cJ aM Mnow Mread Mpast Mchanges Mtext Mletters u.2.1 u.2.2.1 u.2.2.2.1 u.2.2.2.2.1 u.2.2.2.2.2.1 u.2.2.2.2.2.2.1 u.2.2.2.2.2.2.2.1 u.2.2.2.2.2.2.2.2.1 u.2.2.2.2.2.2.2.2.2.1 u.2.2.2.2.2.2.2.2.2.2.1 u.2.2.2.2.2.2.2.2.2.2.2 Mspot Mvalue) (u.1) A) (by decide) rfl rfl (Nat.le_of_ble_eq_true rfl) ?_
  intro p e s m args below meth c A Q H locs ls hC hQ hw hl
  obtain ⟨hx, hb, hml, hr, hts, hown, hlocks, hN, hK, hA⟩ := hC
  have hl : lv_has ls 5 [(0, .ref (aM 0)), (1, .int p0)] := hl
  have hiX5 : ∀ w ∈ u_ws RX5 TX5 19, w ∈ wsX5_decided := by decide +kernel
  have hq0 := hts (.fieldLink RX5 141 "LoadCouncilModel" "members" "I") (by decide +kernel)
  have hq1 := hts (.fieldLink RX5 28 "LoadCouncilModel" "ranks" "[I") (by decide +kernel)
  have hq2 := hts (.fieldLink RX5 7 "LoadCouncilModel" "now" "[I") (by decide +kernel)
  have b58 : ∀ (x1 : Int32) (x2 : Int32) (Mheads : Nat → Int32) (Msets : Nat → Int32) (Mballots : Int32) (Mranks : Nat → Int32) (Mloads : Nat → Int64) (Mbelow : Int64) (Morder : Nat → Int32) (Melected : Int32) (Mmembers : Int32) (Mabove : Nat → Int64) (Munder : Nat → Int64), fX5_decided_b58 N x1 x2 Mnow Mheads Msets Mballots Mranks Mloads Mbelow Morder Melected Mmembers Mabove Munder = some u → ∀ (H : Heap) (locs : List Loc) (ls : Array Slot), Wd D A s.heap (zwM cI cJ aM Mnow Mread Mpast Mchanges Mtext Mletters Mheads Msets Mballots Mranks Mloads Mbelow Morder Melected Mmembers Mabove Munder Mspot Mvalue) H locs → lv_has ls 5 [(0, .ref (aM 0)), (1, .int x1), (2, .int x2)] → W p l e (zk_rm 6 140) s m args below meth c H locs 0 0 Q (F0 m 58 ls []) := by
    intro x1 x2 Mheads Msets Mballots Mranks Mloads Mbelow Morder Melected Mmembers Mabove Munder hf H locs ls hw hl
    unfold fX5_decided_b58 at hf
    refine lv_aload_n hx hb dX5_decided_58 rfl (lv_at hl 0 rfl) ?_
    refine lv_iload_n hx hb dX5_decided_59 rfl (lv_at hl 1 rfl) ?_
    obtain ⟨u1, e2, hf⟩ := zk_bd hf
    refine zk_callv (wc := zwM cI cJ aM Mnow Mread Mpast Mchanges Mtext Mletters Mheads Msets Mballots Mranks Mloads Mbelow Morder Melected Mmembers Mabove Munder Mspot Mvalue) (wr := []) hw hA [0, 1, 2, 3, 4, 5, 6, 7, 8, 9, 10, 11] [] rfl rfl (by decide) (by decide) (va_runV (C := RX5) (As := [.int x1]) (rest := []) ⟨hx, hb, hml, hown, hts⟩ (kX5_elects l D cI cJ cO N aM x1 Mnow Mread Mpast Mchanges Mtext Mletters Mheads Msets Mballots Mranks Mloads Mbelow Morder Melected Mmembers Mabove Munder Mspot Mvalue u1 e2 H.size) (cwV 1 hts gX5_decided_X5_elects rfl rfl rfl (by decide +kernel) ⟨Nat.le_of_ble_eq_true rfl, Nat.le_of_ble_eq_true rfl⟩) (zk_preV (wc := zwM cI cJ aM Mnow Mread Mpast Mchanges Mtext Mletters Mheads Msets Mballots Mranks Mloads Mbelow Morder Melected Mmembers Mabove Munder Mspot Mvalue) hN hK hw [0, 1, 2, 3, 4, 5, 6, 7, 8, 9, 10, 11] rfl (by decide) 0 5 rfl rfl) rfl rfl hl.1 rfl (lv_room (Nat.le_of_ble_eq_true rfl)) dX5_decided_60 ⟨Nat.zero_le _, Nat.zero_le _⟩) (fun H locs hw => ?_)
    have hw : Wd D A s.heap (zwM cI cJ aM Mnow Mread Mpast Mchanges Mtext Mletters Mheads Msets Mballots Mranks u1.1 u1.2.1 u1.2.2.1 u1.2.2.2.1 u1.2.2.2.2.1 u1.2.2.2.2.2.1 u1.2.2.2.2.2.2 Mspot Mvalue) H locs := hw
    refine lv_aload_n hx hb dX5_decided_63 rfl (lv_at hl 0 rfl) ?_
    refine va_get (D := D) (ci := 5) (v := .int u1.2.2.2.2.1) (C := RX5) (T := TX5) (N := 19) hx hb hts hiX5 hown hK hw.1 0 rfl rfl 14 (by decide) hq0 (fun _ h9 => h9) rfl dX5_decided_64 ?_
    refine lv_iload_n hx hb dX5_decided_67 rfl (lv_at hl 2 rfl) ?_
    refine lv_icmp_eq (tgt := 75) hx hb dX5_decided_68 (by decide) (fun c3 => ?_) (fun c3 => ?_)
    · replace hf := zk_t c3 hf
      refine lv_iconst (v := 0) hx hb dX5_decided_75 (by decide) ?_
      cases hf
      exact zk_iret hx hb hr hlocks rfl hQ hw [0, 1, 2, 3, 4, 5, 6, 7, 8, 9, 10, 11] rfl (by decide) dX5_decided_76
    · replace hf := zk_f c3 hf
      refine lv_iconst (v := 1) hx hb dX5_decided_71 (by decide) ?_
      refine lv_goto (tgt := 76) hx hb dX5_decided_72 (by decide) ?_
      cases hf
      exact zk_iret hx hb hr hlocks rfl hQ hw [0, 1, 2, 3, 4, 5, 6, 7, 8, 9, 10, 11] rfl (by decide) dX5_decided_76
  have b25 : ∀ (n25 : Nat), ∀ (x1 : Int32) (x2 : Int32) (x3 : Int32) (x4 : Int32) (Mheads : Nat → Int32) (Msets : Nat → Int32) (Mballots : Int32) (Mranks : Nat → Int32) (Mloads : Nat → Int64) (Mbelow : Int64) (Morder : Nat → Int32) (Melected : Int32) (Mmembers : Int32) (Mabove : Nat → Int64) (Munder : Nat → Int64), fX5_decided_b25 N n25 x1 x2 x3 x4 Mnow Mheads Msets Mballots Mranks Mloads Mbelow Morder Melected Mmembers Mabove Munder = some u → ∀ (H : Heap) (locs : List Loc) (ls : Array Slot), Wd D A s.heap (zwM cI cJ aM Mnow Mread Mpast Mchanges Mtext Mletters Mheads Msets Mballots Mranks Mloads Mbelow Morder Melected Mmembers Mabove Munder Mspot Mvalue) H locs → lv_has ls 5 [(0, .ref (aM 0)), (1, .int x1), (2, .int x2), (3, .int x3), (4, .int x4)] → W p l e (zk_rm 6 140) s m args below meth c H locs 0 0 Q (F0 m 25 ls []) := by
    intro n25
    induction n25 with
    | zero =>
      intro x1 x2 x3 x4 Mheads Msets Mballots Mranks Mloads Mbelow Morder Melected Mmembers Mabove Munder hf
      exact zk_none hf
    | succ n25 ih25 =>
      intro x1 x2 x3 x4 Mheads Msets Mballots Mranks Mloads Mbelow Morder Melected Mmembers Mabove Munder hf H locs ls hw hl
      rw [fX5_decided_b25] at hf
      refine lv_iload hx hb dX5_decided_25 (lv_at hl 4 rfl) ?_
      refine lv_iload_n hx hb dX5_decided_27 rfl (lv_at hl 3 rfl) ?_
      refine lv_icmp_ge (tgt := 58) hx hb dX5_decided_28 (by decide) (fun c4 => ?_) (fun c4 => ?_)
      · replace hf := zk_t c4 hf
        exact b58 x1 x2 Mheads Msets Mballots Mranks Mloads Mbelow Morder Melected Mmembers Mabove Munder hf H locs ls hw (lv_sub hl [0, 1, 2] rfl)
      · replace hf := zk_f c4 hf
        refine lv_aload_n hx hb dX5_decided_31 rfl (lv_at hl 0 rfl) ?_
        refine va_get (D := D) (ci := 5) (v := .ref (aM 7)) (C := RX5) (T := TX5) (N := 19) hx hb hts hiX5 hown hK hw.1 0 rfl rfl 9 (by decide) hq1 (fun _ h9 => h9) rfl dX5_decided_32 ?_
        refine lv_iload hx hb dX5_decided_35 (lv_at hl 4 rfl) ?_
        refine lv_aload_n hx hb dX5_decided_37 rfl (lv_at hl 0 rfl) ?_
        refine va_get (D := D) (ci := 5) (v := .ref (aM 1)) (C := RX5) (T := TX5) (N := 19) hx hb hts hiX5 hown hK hw.1 0 rfl rfl 0 (by decide) hq2 (fun _ h9 => h9) rfl dX5_decided_38 ?_
        refine lv_bipush (v := 24) hx hb dX5_decided_41 (by decide) ?_
        refine lv_iload_n hx hb dX5_decided_43 rfl (lv_at hl 3 rfl) ?_
        refine lv_iadd hx hb dX5_decided_44 ?_
        refine lv_iconst (v := 1) hx hb dX5_decided_45 (by decide) ?_
        refine lv_isub hx hb dX5_decided_46 ?_
        refine lv_iload hx hb dX5_decided_47 (lv_at hl 4 rfl) ?_
        refine lv_isub hx hb dX5_decided_49 ?_
        obtain ⟨h5, hf⟩ := zk_ck hf
        refine zk_iald hx hb hK hw 1 rfl h5 (j := ((((24 : Int32) + x3) - (1 : Int32)) - x4).toNatClampNeg) rfl dX5_decided_50 ?_
        obtain ⟨h6, hf⟩ := zk_ck hf
        refine zk_iast hx hb hK hw 7 rfl h6 (j := x4.toNatClampNeg) rfl dX5_decided_51 (fun H locs hw => ?_)
        have hw : Wd D A s.heap (zwM cI cJ aM Mnow Mread Mpast Mchanges Mtext Mletters Mheads Msets Mballots (upd Mranks x4.toNatClampNeg (Mnow (((((24 : Int32) + x3) - (1 : Int32)) - x4).toNatClampNeg))) Mloads Mbelow Morder Melected Mmembers Mabove Munder Mspot Mvalue) H locs := hw
        refine lv_iinc (v := (x4 + (1 : Int32))) (lv' := [(4, .int (x4 + (1 : Int32))), (0, .ref (aM 0)), (1, .int x1), (2, .int x2), (3, .int x3)]) hx hb dX5_decided_52 hl (k := 4) rfl rfl (by decide) rfl (fun ls hl => ?_)
        refine lv_goto (tgt := 25) hx hb dX5_decided_55 (by decide) ?_
        exact ih25 x1 x2 x3 (x4 + (1 : Int32)) Mheads Msets Mballots (upd Mranks x4.toNatClampNeg (Mnow (((((24 : Int32) + x3) - (1 : Int32)) - x4).toNatClampNeg))) Mloads Mbelow Morder Melected Mmembers Mabove Munder hf H locs ls hw (lv_sub hl [1, 2, 3, 4, 0] rfl)
  unfold fX5_decided at hf
  refine lv_iload_n hx hb dX5_decided_0 rfl (lv_at hl 1 rfl) ?_
  obtain ⟨u7, e8, hf⟩ := zk_bd hf
  refine zk_calli (wc := []) (wr := zwM cI cJ aM Mnow Mread Mpast Mchanges Mtext Mletters Mheads Msets Mballots Mranks Mloads Mbelow Morder Melected Mmembers Mabove Munder Mspot Mvalue) hw hA [] [0, 1, 2, 3, 4, 5, 6, 7, 8, 9, 10, 11] rfl rfl (by decide) (by decide) (va_runS (As := [.int p0]) (rest := []) ⟨hx, hb, hml, hown, hts⟩ (kX5_isLaw l D cI cJ cO N p0 u7 e8 H.size) (va_cwS 1 hts gX5_decided_X5_isLaw rfl rfl rfl (by decide +kernel) ⟨Nat.le_of_ble_eq_true rfl, Nat.le_of_ble_eq_true rfl⟩) (zk_preS (wc := []) hN hK hw [] rfl (by decide)) rfl rfl hl.1 rfl (lv_room (Nat.le_of_ble_eq_true rfl)) dX5_decided_1 ⟨Nat.zero_le _, Nat.zero_le _⟩) (fun H locs hw => ?_)
  have hw : Wd D A s.heap (zwM cI cJ aM Mnow Mread Mpast Mchanges Mtext Mletters Mheads Msets Mballots Mranks Mloads Mbelow Morder Melected Mmembers Mabove Munder Mspot Mvalue) H locs := hw
  refine lv_if_ne (tgt := 9) hx hb dX5_decided_4 (by decide) (fun c9 => ?_) (fun c9 => ?_)
  · replace hf := zk_f c9 hf
    refine lv_aload_n hx hb dX5_decided_9 rfl (lv_at hl 0 rfl) ?_
    refine lv_iload_n hx hb dX5_decided_10 rfl (lv_at hl 1 rfl) ?_
    obtain ⟨u10, e11, hf⟩ := zk_bd hf
    refine zk_calli (wc := zwM cI cJ aM Mnow Mread Mpast Mchanges Mtext Mletters Mheads Msets Mballots Mranks Mloads Mbelow Morder Melected Mmembers Mabove Munder Mspot Mvalue) (wr := []) hw hA [0, 1, 2, 3, 4, 5, 6, 7, 8, 9, 10, 11] [] rfl rfl (by decide) (by decide) (va_runV (C := RX5) (As := [.int p0]) (rest := []) ⟨hx, hb, hml, hown, hts⟩ (kX5_membersBy l D cI cJ cO N aM p0 Mnow Mread Mpast Mchanges Mtext Mletters Mheads Msets Mballots Mranks Mloads Mbelow Morder Melected Mmembers Mabove Munder Mspot Mvalue u10 e11 H.size) (cwV 1 hts gX5_decided_X5_membersBy rfl rfl rfl (by decide +kernel) ⟨Nat.le_of_ble_eq_true rfl, Nat.le_of_ble_eq_true rfl⟩) (zk_preV (wc := zwM cI cJ aM Mnow Mread Mpast Mchanges Mtext Mletters Mheads Msets Mballots Mranks Mloads Mbelow Morder Melected Mmembers Mabove Munder Mspot Mvalue) hN hK hw [0, 1, 2, 3, 4, 5, 6, 7, 8, 9, 10, 11] rfl (by decide) 0 5 rfl rfl) rfl rfl hl.1 rfl (lv_room (Nat.le_of_ble_eq_true rfl)) dX5_decided_11 ⟨Nat.zero_le _, Nat.zero_le _⟩) (fun H locs hw => ?_)
    have hw : Wd D A s.heap (zwM cI cJ aM Mnow Mread Mpast Mchanges Mtext Mletters u10.2.1 u10.2.2.1 u10.2.2.2.1 u10.2.2.2.2.1 u10.2.2.2.2.2.1 u10.2.2.2.2.2.2.1 u10.2.2.2.2.2.2.2.1 u10.2.2.2.2.2.2.2.2.1 u10.2.2.2.2.2.2.2.2.2.1 u10.2.2.2.2.2.2.2.2.2.2.1 u10.2.2.2.2.2.2.2.2.2.2.2 Mspot Mvalue) H locs := hw
    refine lv_istore_n (lv' := [(2, .int u10.1), (0, .ref (aM 0)), (1, .int p0)]) hx hb dX5_decided_14 rfl hl (by decide) rfl (fun ls hl => ?_)
    refine lv_aload_n hx hb dX5_decided_15 rfl (lv_at hl 1 rfl) ?_
    refine va_get (D := D) (ci := 5) (v := .ref (aM 1)) (C := RX5) (T := TX5) (N := 19) hx hb hts hiX5 hown hK hw.1 0 rfl rfl 0 (by decide) hq2 (fun _ h9 => h9) rfl dX5_decided_16 ?_
    refine lv_iconst (v := 0) hx hb dX5_decided_19 (by decide) ?_
    refine zk_iald hx hb hK hw 1 rfl (zk_in (by decide)) (j := 0) rfl dX5_decided_20 ?_
    refine lv_istore_n (lv' := [(3, .int (Mnow 0)), (2, .int u10.1), (0, .ref (aM 0)), (1, .int p0)]) hx hb dX5_decided_21 rfl hl (by decide) rfl (fun ls hl => ?_)
    refine lv_iconst (v := 0) hx hb dX5_decided_22 (by decide) ?_
    refine lv_istore (lv' := [(4, .int (0 : Int32)), (3, .int (Mnow 0)), (2, .int u10.1), (0, .ref (aM 0)), (1, .int p0)]) hx hb dX5_decided_23 hl (by decide) rfl (fun ls hl => ?_)
    exact b25 N p0 u10.1 (Mnow 0) (0 : Int32) u10.2.1 u10.2.2.1 u10.2.2.2.1 u10.2.2.2.2.1 u10.2.2.2.2.2.1 u10.2.2.2.2.2.2.1 u10.2.2.2.2.2.2.2.1 u10.2.2.2.2.2.2.2.2.1 u10.2.2.2.2.2.2.2.2.2.1 u10.2.2.2.2.2.2.2.2.2.2.1 u10.2.2.2.2.2.2.2.2.2.2.2 hf H locs ls hw (lv_sub hl [3, 4, 2, 1, 0] rfl)
  · replace hf := zk_t c9 hf
    refine lv_iconst (v := (-1)) hx hb dX5_decided_7 (by decide) ?_
    cases hf
    exact zk_iret hx hb hr hlocks rfl hQ hw [0, 1, 2, 3, 4, 5, 6, 7, 8, 9, 10, 11] rfl (by decide) dX5_decided_8
set_option maxHeartbeats 4000000 in
set_option maxRecDepth 100000 in
theorem kX5_both (l : Launch) (D : va_G) (cI cJ cO : ClassId) (N : Nat) (aM : Nat → Nat) (p0 : Int32) (p1 : Int32) (Mnow : Nat → Int32) (Mread : Nat → Int32) (Mpast : Nat → Int32) (Mchanges : Int32) (Mtext : Nat → Int32) (Mletters : Int32) (Mheads : Nat → Int32) (Msets : Nat → Int32) (Mballots : Int32) (Mranks : Nat → Int32) (Mloads : Nat → Int64) (Mbelow : Int64) (Morder : Nat → Int32) (Melected : Int32) (Mmembers : Int32) (Mabove : Nat → Int64) (Munder : Nat → Int64) (Mspot : Int32) (Mvalue : Int32) (u : Int32 × (Nat → Int32) × (Nat → Int32) × (Int32) × (Nat → Int32) × (Nat → Int64) × (Int64) × (Nat → Int32) × (Int32) × (Int32) × (Nat → Int64) × (Nat → Int64)) (hf : fX5_both N p0 p1 Mnow Mheads Msets Mballots Mranks Mloads Mbelow Morder Melected Mmembers Mabove Munder = some u) : CtI l yX5_both wsX5_both (zk_rm 6 140) D cI cJ cO [.ref (aM 0), .int p0, .int p1] (zwM cI cJ aM Mnow Mread Mpast Mchanges Mtext Mletters Mheads Msets Mballots Mranks Mloads Mbelow Morder Melected Mmembers Mabove Munder Mspot Mvalue) (zwM cI cJ aM Mnow Mread Mpast Mchanges Mtext Mletters u.2.1 u.2.2.1 u.2.2.2.1 u.2.2.2.2.1 u.2.2.2.2.2.1 u.2.2.2.2.2.2.1 u.2.2.2.2.2.2.2.1 u.2.2.2.2.2.2.2.2.1 u.2.2.2.2.2.2.2.2.2.1 u.2.2.2.2.2.2.2.2.2.2.1 u.2.2.2.2.2.2.2.2.2.2.2 Mspot Mvalue) (u.1) := by
  refine zk_enter (cc := cX5_both) (maxL := 4) (ret := some .int) (own := RX5) (Qf := fun A => QwI D (zwM cI cJ aM Mnow Mread Mpast Mchanges Mtext Mletters u.2.1 u.2.2.1 u.2.2.2.1 u.2.2.2.2.1 u.2.2.2.2.2.1 u.2.2.2.2.2.2.1 u.2.2.2.2.2.2.2.1 u.2.2.2.2.2.2.2.2.1 u.2.2.2.2.2.2.2.2.2.1 u.2.2.2.2.2.2.2.2.2.2.1 u.2.2.2.2.2.2.2.2.2.2.2 Mspot Mvalue) (u.1) A) (by decide) rfl rfl (Nat.le_of_ble_eq_true rfl) ?_
  intro p e s m args below meth c A Q H locs ls hC hQ hw hl
  obtain ⟨hx, hb, hml, hr, hts, hown, hlocks, hN, hK, hA⟩ := hC
  have hl : lv_has ls 4 [(0, .ref (aM 0)), (1, .int p0), (2, .int p1)] := hl
  unfold fX5_both at hf
  refine lv_iload_n hx hb dX5_both_0 rfl (lv_at hl 1 rfl) ?_
  obtain ⟨u1, e2, hf⟩ := zk_bd hf
  refine zk_calli (wc := []) (wr := zwM cI cJ aM Mnow Mread Mpast Mchanges Mtext Mletters Mheads Msets Mballots Mranks Mloads Mbelow Morder Melected Mmembers Mabove Munder Mspot Mvalue) hw hA [] [0, 1, 2, 3, 4, 5, 6, 7, 8, 9, 10, 11] rfl rfl (by decide) (by decide) (va_runS (As := [.int p0]) (rest := []) ⟨hx, hb, hml, hown, hts⟩ (kX5_isLaw l D cI cJ cO N p0 u1 e2 H.size) (va_cwS 1 hts gX5_both_X5_isLaw rfl rfl rfl (by decide +kernel) ⟨Nat.le_of_ble_eq_true rfl, Nat.le_of_ble_eq_true rfl⟩) (zk_preS (wc := []) hN hK hw [] rfl (by decide)) rfl rfl hl.1 rfl (lv_room (Nat.le_of_ble_eq_true rfl)) dX5_both_1 ⟨Nat.zero_le _, Nat.zero_le _⟩) (fun H locs hw => ?_)
  have hw : Wd D A s.heap (zwM cI cJ aM Mnow Mread Mpast Mchanges Mtext Mletters Mheads Msets Mballots Mranks Mloads Mbelow Morder Melected Mmembers Mabove Munder Mspot Mvalue) H locs := hw
  refine lv_if_eq (tgt := 14) hx hb dX5_both_4 (by decide) (fun c3 => ?_) (fun c3 => ?_)
  · replace hf := zk_t c3 hf
    refine lv_iconst (v := (-1)) hx hb dX5_both_14 (by decide) ?_
    cases hf
    exact zk_iret hx hb hr hlocks rfl hQ hw [0, 1, 2, 3, 4, 5, 6, 7, 8, 9, 10, 11] rfl (by decide) dX5_both_15
  · replace hf := zk_f c3 hf
    refine lv_iload_n hx hb dX5_both_7 rfl (lv_at hl 2 rfl) ?_
    obtain ⟨u4, e5, hf⟩ := zk_bd hf
    refine zk_calli (wc := []) (wr := zwM cI cJ aM Mnow Mread Mpast Mchanges Mtext Mletters Mheads Msets Mballots Mranks Mloads Mbelow Morder Melected Mmembers Mabove Munder Mspot Mvalue) hw hA [] [0, 1, 2, 3, 4, 5, 6, 7, 8, 9, 10, 11] rfl rfl (by decide) (by decide) (va_runS (As := [.int p1]) (rest := []) ⟨hx, hb, hml, hown, hts⟩ (kX5_isLaw l D cI cJ cO N p1 u4 e5 H.size) (va_cwS 1 hts gX5_both_X5_isLaw rfl rfl rfl (by decide +kernel) ⟨Nat.le_of_ble_eq_true rfl, Nat.le_of_ble_eq_true rfl⟩) (zk_preS (wc := []) hN hK hw [] rfl (by decide)) rfl rfl hl.1 rfl (lv_room (Nat.le_of_ble_eq_true rfl)) dX5_both_8 ⟨Nat.zero_le _, Nat.zero_le _⟩) (fun H locs hw => ?_)
    have hw : Wd D A s.heap (zwM cI cJ aM Mnow Mread Mpast Mchanges Mtext Mletters Mheads Msets Mballots Mranks Mloads Mbelow Morder Melected Mmembers Mabove Munder Mspot Mvalue) H locs := hw
    refine lv_if_ne (tgt := 16) hx hb dX5_both_11 (by decide) (fun c6 => ?_) (fun c6 => ?_)
    · replace hf := zk_f c6 hf
      refine lv_aload_n hx hb dX5_both_16 rfl (lv_at hl 0 rfl) ?_
      refine lv_iload_n hx hb dX5_both_17 rfl (lv_at hl 1 rfl) ?_
      obtain ⟨u7, e8, hf⟩ := zk_bd hf
      refine zk_calli (wc := zwM cI cJ aM Mnow Mread Mpast Mchanges Mtext Mletters Mheads Msets Mballots Mranks Mloads Mbelow Morder Melected Mmembers Mabove Munder Mspot Mvalue) (wr := []) hw hA [0, 1, 2, 3, 4, 5, 6, 7, 8, 9, 10, 11] [] rfl rfl (by decide) (by decide) (va_runV (C := RX5) (As := [.int p0]) (rest := []) ⟨hx, hb, hml, hown, hts⟩ (kX5_membersBy l D cI cJ cO N aM p0 Mnow Mread Mpast Mchanges Mtext Mletters Mheads Msets Mballots Mranks Mloads Mbelow Morder Melected Mmembers Mabove Munder Mspot Mvalue u7 e8 H.size) (cwV 1 hts gX5_both_X5_membersBy rfl rfl rfl (by decide +kernel) ⟨Nat.le_of_ble_eq_true rfl, Nat.le_of_ble_eq_true rfl⟩) (zk_preV (wc := zwM cI cJ aM Mnow Mread Mpast Mchanges Mtext Mletters Mheads Msets Mballots Mranks Mloads Mbelow Morder Melected Mmembers Mabove Munder Mspot Mvalue) hN hK hw [0, 1, 2, 3, 4, 5, 6, 7, 8, 9, 10, 11] rfl (by decide) 0 5 rfl rfl) rfl rfl hl.1 rfl (lv_room (Nat.le_of_ble_eq_true rfl)) dX5_both_18 ⟨Nat.zero_le _, Nat.zero_le _⟩) (fun H locs hw => ?_)
      have hw : Wd D A s.heap (zwM cI cJ aM Mnow Mread Mpast Mchanges Mtext Mletters u7.2.1 u7.2.2.1 u7.2.2.2.1 u7.2.2.2.2.1 u7.2.2.2.2.2.1 u7.2.2.2.2.2.2.1 u7.2.2.2.2.2.2.2.1 u7.2.2.2.2.2.2.2.2.1 u7.2.2.2.2.2.2.2.2.2.1 u7.2.2.2.2.2.2.2.2.2.2.1 u7.2.2.2.2.2.2.2.2.2.2.2 Mspot Mvalue) H locs := hw
      refine lv_istore_n (lv' := [(3, .int u7.1), (0, .ref (aM 0)), (1, .int p0), (2, .int p1)]) hx hb dX5_both_21 rfl hl (by decide) rfl (fun ls hl => ?_)
      refine lv_iload_n hx hb dX5_both_22 rfl (lv_at hl 0 rfl) ?_
      refine lv_aload_n hx hb dX5_both_23 rfl (lv_at hl 1 rfl) ?_
      refine lv_iload_n hx hb dX5_both_24 rfl (lv_at hl 3 rfl) ?_
      obtain ⟨u9, e10, hf⟩ := zk_bd hf
      refine zk_calli (wc := zwM cI cJ aM Mnow Mread Mpast Mchanges Mtext Mletters u7.2.1 u7.2.2.1 u7.2.2.2.1 u7.2.2.2.2.1 u7.2.2.2.2.2.1 u7.2.2.2.2.2.2.1 u7.2.2.2.2.2.2.2.1 u7.2.2.2.2.2.2.2.2.1 u7.2.2.2.2.2.2.2.2.2.1 u7.2.2.2.2.2.2.2.2.2.2.1 u7.2.2.2.2.2.2.2.2.2.2.2 Mspot Mvalue) (wr := []) hw hA [0, 1, 2, 3, 4, 5, 6, 7, 8, 9, 10, 11] [] rfl rfl (by decide) (by decide) (va_runV (C := RX5) (As := [.int p1]) (rest := [.int u7.1]) ⟨hx, hb, hml, hown, hts⟩ (kX5_membersBy l D cI cJ cO N aM p1 Mnow Mread Mpast Mchanges Mtext Mletters u7.2.1 u7.2.2.1 u7.2.2.2.1 u7.2.2.2.2.1 u7.2.2.2.2.2.1 u7.2.2.2.2.2.2.1 u7.2.2.2.2.2.2.2.1 u7.2.2.2.2.2.2.2.2.1 u7.2.2.2.2.2.2.2.2.2.1 u7.2.2.2.2.2.2.2.2.2.2.1 u7.2.2.2.2.2.2.2.2.2.2.2 Mspot Mvalue u9 e10 H.size) (cwV 1 hts gX5_both_X5_membersBy rfl rfl rfl (by decide +kernel) ⟨Nat.le_of_ble_eq_true rfl, Nat.le_of_ble_eq_true rfl⟩) (zk_preV (wc := zwM cI cJ aM Mnow Mread Mpast Mchanges Mtext Mletters u7.2.1 u7.2.2.1 u7.2.2.2.1 u7.2.2.2.2.1 u7.2.2.2.2.2.1 u7.2.2.2.2.2.2.1 u7.2.2.2.2.2.2.2.1 u7.2.2.2.2.2.2.2.2.1 u7.2.2.2.2.2.2.2.2.2.1 u7.2.2.2.2.2.2.2.2.2.2.1 u7.2.2.2.2.2.2.2.2.2.2.2 Mspot Mvalue) hN hK hw [0, 1, 2, 3, 4, 5, 6, 7, 8, 9, 10, 11] rfl (by decide) 0 5 rfl rfl) rfl rfl hl.1 rfl (lv_room (Nat.le_of_ble_eq_true rfl)) dX5_both_25 ⟨Nat.zero_le _, Nat.zero_le _⟩) (fun H locs hw => ?_)
      have hw : Wd D A s.heap (zwM cI cJ aM Mnow Mread Mpast Mchanges Mtext Mletters u9.2.1 u9.2.2.1 u9.2.2.2.1 u9.2.2.2.2.1 u9.2.2.2.2.2.1 u9.2.2.2.2.2.2.1 u9.2.2.2.2.2.2.2.1 u9.2.2.2.2.2.2.2.2.1 u9.2.2.2.2.2.2.2.2.2.1 u9.2.2.2.2.2.2.2.2.2.2.1 u9.2.2.2.2.2.2.2.2.2.2.2 Mspot Mvalue) H locs := hw
      refine lv_iand hx hb dX5_both_28 ?_
      obtain ⟨u11, e12, hf⟩ := zk_bd hf
      refine zk_calli (wc := []) (wr := zwM cI cJ aM Mnow Mread Mpast Mchanges Mtext Mletters u9.2.1 u9.2.2.1 u9.2.2.2.1 u9.2.2.2.2.1 u9.2.2.2.2.2.1 u9.2.2.2.2.2.2.1 u9.2.2.2.2.2.2.2.1 u9.2.2.2.2.2.2.2.2.1 u9.2.2.2.2.2.2.2.2.2.1 u9.2.2.2.2.2.2.2.2.2.2.1 u9.2.2.2.2.2.2.2.2.2.2.2 Mspot Mvalue) hw hA [] [0, 1, 2, 3, 4, 5, 6, 7, 8, 9, 10, 11] rfl rfl (by decide) (by decide) (va_runS (As := [.int (u7.1 &&& u9.1)]) (rest := []) ⟨hx, hb, hml, hown, hts⟩ (kX5_ones l D cI cJ cO N (u7.1 &&& u9.1) u11 e12 H.size) (va_cwS 1 hts gX5_both_X5_ones rfl rfl rfl (by decide +kernel) ⟨Nat.le_of_ble_eq_true rfl, Nat.le_of_ble_eq_true rfl⟩) (zk_preS (wc := []) hN hK hw [] rfl (by decide)) rfl rfl hl.1 rfl (lv_room (Nat.le_of_ble_eq_true rfl)) dX5_both_29 ⟨Nat.zero_le _, Nat.zero_le _⟩) (fun H locs hw => ?_)
      have hw : Wd D A s.heap (zwM cI cJ aM Mnow Mread Mpast Mchanges Mtext Mletters u9.2.1 u9.2.2.1 u9.2.2.2.1 u9.2.2.2.2.1 u9.2.2.2.2.2.1 u9.2.2.2.2.2.2.1 u9.2.2.2.2.2.2.2.1 u9.2.2.2.2.2.2.2.2.1 u9.2.2.2.2.2.2.2.2.2.1 u9.2.2.2.2.2.2.2.2.2.2.1 u9.2.2.2.2.2.2.2.2.2.2.2 Mspot Mvalue) H locs := hw
      cases hf
      exact zk_iret hx hb hr hlocks rfl hQ hw [0, 1, 2, 3, 4, 5, 6, 7, 8, 9, 10, 11] rfl (by decide) dX5_both_32
    · replace hf := zk_t c6 hf
      refine lv_iconst (v := (-1)) hx hb dX5_both_14 (by decide) ?_
      cases hf
      exact zk_iret hx hb hr hlocks rfl hQ hw [0, 1, 2, 3, 4, 5, 6, 7, 8, 9, 10, 11] rfl (by decide) dX5_both_15
set_option maxHeartbeats 4000000 in
set_option maxRecDepth 100000 in
theorem kX5_count (l : Launch) (D : va_G) (cI cJ cO : ClassId) (N : Nat) (aM : Nat → Nat) (p0 : Int32) (Mnow : Nat → Int32) (Mread : Nat → Int32) (Mpast : Nat → Int32) (Mchanges : Int32) (Mtext : Nat → Int32) (Mletters : Int32) (Mheads : Nat → Int32) (Msets : Nat → Int32) (Mballots : Int32) (Mranks : Nat → Int32) (Mloads : Nat → Int64) (Mbelow : Int64) (Morder : Nat → Int32) (Melected : Int32) (Mmembers : Int32) (Mabove : Nat → Int64) (Munder : Nat → Int64) (Mspot : Int32) (Mvalue : Int32) (u : Int32) (hf : fX5_count N p0 Mnow Mchanges Mletters = some u) : CtI l yX5_count wsX5_count (zk_rm 1 22) D cI cJ cO [.ref (aM 0), .int p0] (zwM cI cJ aM Mnow Mread Mpast Mchanges Mtext Mletters Mheads Msets Mballots Mranks Mloads Mbelow Morder Melected Mmembers Mabove Munder Mspot Mvalue) (zwM cI cJ aM Mnow Mread Mpast Mchanges Mtext Mletters Mheads Msets Mballots Mranks Mloads Mbelow Morder Melected Mmembers Mabove Munder Mspot Mvalue) (u) := by
  refine zk_enter (cc := cX5_count) (maxL := 2) (ret := some .int) (own := RX5) (Qf := fun A => QwI D (zwM cI cJ aM Mnow Mread Mpast Mchanges Mtext Mletters Mheads Msets Mballots Mranks Mloads Mbelow Morder Melected Mmembers Mabove Munder Mspot Mvalue) (u) A) (by decide) rfl rfl (Nat.le_of_ble_eq_true rfl) ?_
  intro p e s m args below meth c A Q H locs ls hC hQ hw hl
  obtain ⟨hx, hb, hml, hr, hts, hown, hlocks, hN, hK, hA⟩ := hC
  have hl : lv_has ls 2 [(0, .ref (aM 0)), (1, .int p0)] := hl
  have hiX5 : ∀ w ∈ u_ws RX5 TX5 19, w ∈ wsX5_count := by decide +kernel
  have hq0 := hts (.fieldLink RX5 7 "LoadCouncilModel" "now" "[I") (by decide +kernel)
  have hq1 := hts (.fieldLink RX5 106 "LoadCouncilModel" "changes" "I") (by decide +kernel)
  have hq2 := hts (.fieldLink RX5 52 "LoadCouncilModel" "letters" "I") (by decide +kernel)
  unfold fX5_count at hf
  refine lv_iload_n hx hb dX5_count_0 rfl (lv_at hl 1 rfl) ?_
  by_cases c1 : p0 = 0
  · replace hf := zk_t c1 hf
    refine lv_tableIn (tgt := 44) (off := 43) hx hb dX5_count_1 (by rw [c1]; decide) (by rw [c1]; decide) (by rw [c1]; rfl) (by decide) ?_
    refine lv_aload_n hx hb dX5_count_44 rfl (lv_at hl 0 rfl) ?_
    refine va_get (D := D) (ci := 5) (v := .ref (aM 1)) (C := RX5) (T := TX5) (N := 19) hx hb hts hiX5 hown hK hw.1 0 rfl rfl 0 (by decide) hq0 (fun _ h9 => h9) rfl dX5_count_45 ?_
    refine lv_iconst (v := 0) hx hb dX5_count_48 (by decide) ?_
    refine zk_iald hx hb hK hw 1 rfl (zk_in (by decide)) (j := 0) rfl dX5_count_49 ?_
    cases hf
    exact zk_iret hx hb hr hlocks rfl hQ hw [0, 1, 2, 3, 4, 5, 6, 7, 8, 9, 10, 11] rfl (by decide) dX5_count_50
  · replace hf := zk_f c1 hf
    by_cases c2 : p0 = 1
    · replace hf := zk_t c2 hf
      refine lv_tableIn (tgt := 51) (off := 50) hx hb dX5_count_1 (by rw [c2]; decide) (by rw [c2]; decide) (by rw [c2]; rfl) (by decide) ?_
      refine lv_aload_n hx hb dX5_count_51 rfl (lv_at hl 0 rfl) ?_
      refine va_get (D := D) (ci := 5) (v := .ref (aM 1)) (C := RX5) (T := TX5) (N := 19) hx hb hts hiX5 hown hK hw.1 0 rfl rfl 0 (by decide) hq0 (fun _ h9 => h9) rfl dX5_count_52 ?_
      refine lv_iconst (v := 1) hx hb dX5_count_55 (by decide) ?_
      refine zk_iald hx hb hK hw 1 rfl (zk_in (by decide)) (j := 1) rfl dX5_count_56 ?_
      cases hf
      exact zk_iret hx hb hr hlocks rfl hQ hw [0, 1, 2, 3, 4, 5, 6, 7, 8, 9, 10, 11] rfl (by decide) dX5_count_57
    · replace hf := zk_f c2 hf
      by_cases c3 : p0 = 2
      · replace hf := zk_t c3 hf
        refine lv_tableIn (tgt := 58) (off := 57) hx hb dX5_count_1 (by rw [c3]; decide) (by rw [c3]; decide) (by rw [c3]; rfl) (by decide) ?_
        refine lv_aload_n hx hb dX5_count_58 rfl (lv_at hl 0 rfl) ?_
        obtain ⟨u4, e5, hf⟩ := zk_bd hf
        refine zk_calli (wc := zwM cI cJ aM Mnow Mread Mpast Mchanges Mtext Mletters Mheads Msets Mballots Mranks Mloads Mbelow Morder Melected Mmembers Mabove Munder Mspot Mvalue) (wr := []) hw hA [0, 1, 2, 3, 4, 5, 6, 7, 8, 9, 10, 11] [] rfl rfl (by decide) (by decide) (va_runV (C := RX5) (As := []) (rest := []) ⟨hx, hb, hml, hown, hts⟩ (kX5_allVoters l D cI cJ cO N aM Mnow Mread Mpast Mchanges Mtext Mletters Mheads Msets Mballots Mranks Mloads Mbelow Morder Melected Mmembers Mabove Munder Mspot Mvalue u4 e5 H.size) (cwV 0 hts gX5_count_X5_allVoters rfl rfl rfl (by decide +kernel) ⟨Nat.le_of_ble_eq_true rfl, Nat.le_of_ble_eq_true rfl⟩) (zk_preV (wc := zwM cI cJ aM Mnow Mread Mpast Mchanges Mtext Mletters Mheads Msets Mballots Mranks Mloads Mbelow Morder Melected Mmembers Mabove Munder Mspot Mvalue) hN hK hw [0, 1, 2, 3, 4, 5, 6, 7, 8, 9, 10, 11] rfl (by decide) 0 5 rfl rfl) rfl rfl hl.1 rfl (lv_room (Nat.le_of_ble_eq_true rfl)) dX5_count_59 ⟨Nat.zero_le _, Nat.zero_le _⟩) (fun H locs hw => ?_)
        have hw : Wd D A s.heap (zwM cI cJ aM Mnow Mread Mpast Mchanges Mtext Mletters Mheads Msets Mballots Mranks Mloads Mbelow Morder Melected Mmembers Mabove Munder Mspot Mvalue) H locs := hw
        cases hf
        exact zk_iret hx hb hr hlocks rfl hQ hw [0, 1, 2, 3, 4, 5, 6, 7, 8, 9, 10, 11] rfl (by decide) dX5_count_62
      · replace hf := zk_f c3 hf
        by_cases c6 : p0 = 3
        · replace hf := zk_t c6 hf
          refine lv_tableIn (tgt := 63) (off := 62) hx hb dX5_count_1 (by rw [c6]; decide) (by rw [c6]; decide) (by rw [c6]; rfl) (by decide) ?_
          refine lv_aload_n hx hb dX5_count_63 rfl (lv_at hl 0 rfl) ?_
          refine va_get (D := D) (ci := 5) (v := .ref (aM 1)) (C := RX5) (T := TX5) (N := 19) hx hb hts hiX5 hown hK hw.1 0 rfl rfl 0 (by decide) hq0 (fun _ h9 => h9) rfl dX5_count_64 ?_
          refine lv_bipush (v := 22) hx hb dX5_count_67 (by decide) ?_
          refine zk_iald hx hb hK hw 1 rfl (zk_in (by decide)) (j := 22) rfl dX5_count_69 ?_
          cases hf
          exact zk_iret hx hb hr hlocks rfl hQ hw [0, 1, 2, 3, 4, 5, 6, 7, 8, 9, 10, 11] rfl (by decide) dX5_count_70
        · replace hf := zk_f c6 hf
          by_cases c7 : p0 = 4
          · replace hf := zk_t c7 hf
            refine lv_tableIn (tgt := 71) (off := 70) hx hb dX5_count_1 (by rw [c7]; decide) (by rw [c7]; decide) (by rw [c7]; rfl) (by decide) ?_
            refine lv_aload_n hx hb dX5_count_71 rfl (lv_at hl 0 rfl) ?_
            refine va_get (D := D) (ci := 5) (v := .ref (aM 1)) (C := RX5) (T := TX5) (N := 19) hx hb hts hiX5 hown hK hw.1 0 rfl rfl 0 (by decide) hq0 (fun _ h9 => h9) rfl dX5_count_72 ?_
            refine lv_bipush (v := 23) hx hb dX5_count_75 (by decide) ?_
            refine zk_iald hx hb hK hw 1 rfl (zk_in (by decide)) (j := 23) rfl dX5_count_77 ?_
            obtain ⟨u8, e9, hf⟩ := zk_bd hf
            refine zk_calli (wc := []) (wr := zwM cI cJ aM Mnow Mread Mpast Mchanges Mtext Mletters Mheads Msets Mballots Mranks Mloads Mbelow Morder Melected Mmembers Mabove Munder Mspot Mvalue) hw hA [] [0, 1, 2, 3, 4, 5, 6, 7, 8, 9, 10, 11] rfl rfl (by decide) (by decide) (va_runS (As := [.int (Mnow 23)]) (rest := []) ⟨hx, hb, hml, hown, hts⟩ (kX5_ones l D cI cJ cO N (Mnow 23) u8 e9 H.size) (va_cwS 1 hts gX5_count_X5_ones rfl rfl rfl (by decide +kernel) ⟨Nat.le_of_ble_eq_true rfl, Nat.le_of_ble_eq_true rfl⟩) (zk_preS (wc := []) hN hK hw [] rfl (by decide)) rfl rfl hl.1 rfl (lv_room (Nat.le_of_ble_eq_true rfl)) dX5_count_78 ⟨Nat.zero_le _, Nat.zero_le _⟩) (fun H locs hw => ?_)
            have hw : Wd D A s.heap (zwM cI cJ aM Mnow Mread Mpast Mchanges Mtext Mletters Mheads Msets Mballots Mranks Mloads Mbelow Morder Melected Mmembers Mabove Munder Mspot Mvalue) H locs := hw
            cases hf
            exact zk_iret hx hb hr hlocks rfl hQ hw [0, 1, 2, 3, 4, 5, 6, 7, 8, 9, 10, 11] rfl (by decide) dX5_count_81
          · replace hf := zk_f c7 hf
            by_cases c10 : p0 = 5
            · replace hf := zk_t c10 hf
              refine lv_tableIn (tgt := 82) (off := 81) hx hb dX5_count_1 (by rw [c10]; decide) (by rw [c10]; decide) (by rw [c10]; rfl) (by decide) ?_
              refine lv_aload_n hx hb dX5_count_82 rfl (lv_at hl 0 rfl) ?_
              refine va_get (D := D) (ci := 5) (v := .int Mchanges) (C := RX5) (T := TX5) (N := 19) hx hb hts hiX5 hown hK hw.1 0 rfl rfl 3 (by decide) hq1 (fun _ h9 => h9) rfl dX5_count_83 ?_
              cases hf
              exact zk_iret hx hb hr hlocks rfl hQ hw [0, 1, 2, 3, 4, 5, 6, 7, 8, 9, 10, 11] rfl (by decide) dX5_count_86
            · replace hf := zk_f c10 hf
              by_cases c11 : p0 = 6
              · replace hf := zk_t c11 hf
                refine lv_tableIn (tgt := 87) (off := 86) hx hb dX5_count_1 (by rw [c11]; decide) (by rw [c11]; decide) (by rw [c11]; rfl) (by decide) ?_
                refine lv_aload_n hx hb dX5_count_87 rfl (lv_at hl 0 rfl) ?_
                refine va_get (D := D) (ci := 5) (v := .int Mletters) (C := RX5) (T := TX5) (N := 19) hx hb hts hiX5 hown hK hw.1 0 rfl rfl 5 (by decide) hq2 (fun _ h9 => h9) rfl dX5_count_88 ?_
                cases hf
                exact zk_iret hx hb hr hlocks rfl hQ hw [0, 1, 2, 3, 4, 5, 6, 7, 8, 9, 10, 11] rfl (by decide) dX5_count_91
              · replace hf := zk_f c11 hf
                refine lv_tableOut (tgt := 92) hx hb dX5_count_1 (by have n0 := lv_neT c1 (k := 0) (a := 0) rfl; have n1 := lv_neT c2 (k := 1) (a := 1) rfl; have n2 := lv_neT c3 (k := 2) (a := 2) rfl; have n3 := lv_neT c6 (k := 3) (a := 3) rfl; have n4 := lv_neT c7 (k := 4) (a := 4) rfl; have n5 := lv_neT c10 (k := 5) (a := 5) rfl; have n6 := lv_neT c11 (k := 6) (a := 6) rfl; omega) (by decide) ?_
                refine lv_iconst (v := (-1)) hx hb dX5_count_92 (by decide) ?_
                cases hf
                exact zk_iret hx hb hr hlocks rfl hQ hw [0, 1, 2, 3, 4, 5, 6, 7, 8, 9, 10, 11] rfl (by decide) dX5_count_93
