set_option maxHeartbeats 4000000 in
set_option maxRecDepth 100000 in
theorem kX5_takesRank (l : Launch) (D : va_G) (cI cJ cO : ClassId) (N : Nat) (aM : Nat → Nat) (Mnow : Nat → Int32) (Mread : Nat → Int32) (Mpast : Nat → Int32) (Mchanges : Int32) (Mtext : Nat → Int32) (Mletters : Int32) (Mheads : Nat → Int32) (Msets : Nat → Int32) (Mballots : Int32) (Mranks : Nat → Int32) (Mloads : Nat → Int64) (Mbelow : Int64) (Morder : Nat → Int32) (Melected : Int32) (Mmembers : Int32) (Mabove : Nat → Int64) (Munder : Nat → Int64) (Mspot : Int32) (Mvalue : Int32) (u : Int32 × (Nat → Int32) × (Int32)) (hf : fX5_takesRank N Mread Mtext Mletters Mspot = some u) : CtI l yX5_takesRank wsX5_takesRank (zk_rm 2 42) D cI cJ cO [.ref (aM 0)] (zwM cI cJ aM Mnow Mread Mpast Mchanges Mtext Mletters Mheads Msets Mballots Mranks Mloads Mbelow Morder Melected Mmembers Mabove Munder Mspot Mvalue) (zwM cI cJ aM Mnow u.2.1 Mpast Mchanges Mtext Mletters Mheads Msets Mballots Mranks Mloads Mbelow Morder Melected Mmembers Mabove Munder u.2.2 Mvalue) (u.1) := by
  refine zk_enter (cc := cX5_takesRank) (maxL := 3) (ret := some .boolean) (own := RX5) (Qf := fun A => QwI D (zwM cI cJ aM Mnow u.2.1 Mpast Mchanges Mtext Mletters Mheads Msets Mballots Mranks Mloads Mbelow Morder Melected Mmembers Mabove Munder u.2.2 Mvalue) (u.1) A) (by decide) rfl rfl (Nat.le_of_ble_eq_true rfl) ?_
  intro p e s m args below meth c A Q H locs ls hC hQ hw hl
  obtain ⟨hx, hb, hml, hr, hts, hown, hlocks, hN, hK, hA⟩ := hC
  have hl : lv_has ls 3 [(0, .ref (aM 0))] := hl
  have hiX5 : ∀ w ∈ u_ws RX5 TX5 19, w ∈ wsX5_takesRank := by decide +kernel
  have hq0 := hts (.fieldLink RX5 13 "LoadCouncilModel" "read" "[I") (by decide +kernel)
  have hq1 := hts (.fieldLink RX5 19 "LoadCouncilModel" "text" "[I") (by decide +kernel)
  have hq2 := hts (.fieldLink RX5 56 "LoadCouncilModel" "spot" "I") (by decide +kernel)
  have b4 : ∀ (n4 : Nat), ∀ (x1 : Int32) (x2 : Int32) (Mread : Nat → Int32) (Mspot : Int32), fX5_takesRank_b4 N n4 x1 x2 Mread Mtext Mletters Mspot = some u → ∀ (H : Heap) (locs : List Loc) (ls : Array Slot), Wd D A s.heap (zwM cI cJ aM Mnow Mread Mpast Mchanges Mtext Mletters Mheads Msets Mballots Mranks Mloads Mbelow Morder Melected Mmembers Mabove Munder Mspot Mvalue) H locs → lv_has ls 3 [(0, .ref (aM 0)), (1, .int x1), (2, .int x2)] → W p l e (zk_rm 2 42) s m args below meth c H locs 0 0 Q (F0 m 4 ls []) := by
    intro n4
    induction n4 with
    | zero =>
      intro x1 x2 Mread Mspot hf
      exact zk_none hf
    | succ n4 ih4 =>
      intro x1 x2 Mread Mspot hf H locs ls hw hl
      rw [fX5_takesRank_b4] at hf
      refine lv_iload_n hx hb dX5_takesRank_4 rfl (lv_at hl 2 rfl) ?_
      refine lv_aload_n hx hb dX5_takesRank_5 rfl (lv_at hl 0 rfl) ?_
      refine va_get (D := D) (ci := 5) (v := .ref (aM 2)) (C := RX5) (T := TX5) (N := 19) hx hb hts hiX5 hown hK hw.1 0 rfl rfl 1 (by decide) hq0 (fun _ h9 => h9) rfl dX5_takesRank_6 ?_
      refine lv_iconst (v := 0) hx hb dX5_takesRank_9 (by decide) ?_
      refine zk_iald hx hb hK hw 2 rfl (zk_in (by decide)) (j := 0) rfl dX5_takesRank_10 ?_
      refine lv_icmp_ge (tgt := 93) hx hb dX5_takesRank_11 (by decide) (fun c1 => ?_) (fun c1 => ?_)
      · replace hf := zk_t c1 hf
        refine lv_iconst (v := 1) hx hb dX5_takesRank_93 (by decide) ?_
        cases hf
        exact zk_iret hx hb hr hlocks rfl hQ hw [0, 1, 2, 3, 4, 5, 6, 7, 8, 9, 10, 11] rfl (by decide) dX5_takesRank_94
      · replace hf := zk_f c1 hf
        refine lv_aload_n hx hb dX5_takesRank_14 rfl (lv_at hl 0 rfl) ?_
        obtain ⟨u2, e3, hf⟩ := zk_bd hf
        refine zk_calli (wc := zwM cI cJ aM Mnow Mread Mpast Mchanges Mtext Mletters Mheads Msets Mballots Mranks Mloads Mbelow Morder Melected Mmembers Mabove Munder Mspot Mvalue) (wr := []) hw hA [0, 1, 2, 3, 4, 5, 6, 7, 8, 9, 10, 11] [] rfl rfl (by decide) (by decide) (va_runV (C := RX5) (As := []) (rest := []) ⟨hx, hb, hml, hown, hts⟩ (kX5_isName l D cI cJ cO N aM Mnow Mread Mpast Mchanges Mtext Mletters Mheads Msets Mballots Mranks Mloads Mbelow Morder Melected Mmembers Mabove Munder Mspot Mvalue u2 e3 H.size) (cwV 0 hts gX5_takesRank_X5_isName rfl rfl rfl (by decide +kernel) ⟨Nat.le_of_ble_eq_true rfl, Nat.le_of_ble_eq_true rfl⟩) (zk_preV (wc := zwM cI cJ aM Mnow Mread Mpast Mchanges Mtext Mletters Mheads Msets Mballots Mranks Mloads Mbelow Morder Melected Mmembers Mabove Munder Mspot Mvalue) hN hK hw [0, 1, 2, 3, 4, 5, 6, 7, 8, 9, 10, 11] rfl (by decide) 0 5 rfl rfl) rfl rfl hl.1 rfl (lv_room (Nat.le_of_ble_eq_true rfl)) dX5_takesRank_15 ⟨Nat.zero_le _, Nat.zero_le _⟩) (fun H locs hw => ?_)
        have hw : Wd D A s.heap (zwM cI cJ aM Mnow Mread Mpast Mchanges Mtext Mletters Mheads Msets Mballots Mranks Mloads Mbelow Morder Melected Mmembers Mabove Munder Mspot Mvalue) H locs := hw
        refine lv_if_eq (tgt := 40) hx hb dX5_takesRank_18 (by decide) (fun c4 => ?_) (fun c4 => ?_)
        · replace hf := zk_t c4 hf
          refine lv_iconst (v := 0) hx hb dX5_takesRank_40 (by decide) ?_
          cases hf
          exact zk_iret hx hb hr hlocks rfl hQ hw [0, 1, 2, 3, 4, 5, 6, 7, 8, 9, 10, 11] rfl (by decide) dX5_takesRank_41
        · replace hf := zk_f c4 hf
          refine lv_iload_n hx hb dX5_takesRank_21 rfl (lv_at hl 1 rfl) ?_
          refine lv_aload_n hx hb dX5_takesRank_22 rfl (lv_at hl 0 rfl) ?_
          refine va_get (D := D) (ci := 5) (v := .ref (aM 4)) (C := RX5) (T := TX5) (N := 19) hx hb hts hiX5 hown hK hw.1 0 rfl rfl 4 (by decide) hq1 (fun _ h9 => h9) rfl dX5_takesRank_23 ?_
          refine lv_aload_n hx hb dX5_takesRank_26 rfl (lv_at hl 0 rfl) ?_
          refine va_get (D := D) (ci := 5) (v := .int Mspot) (C := RX5) (T := TX5) (N := 19) hx hb hts hiX5 hown hK hw.1 0 rfl rfl 17 (by decide) hq2 (fun _ h9 => h9) rfl dX5_takesRank_27 ?_
          obtain ⟨h5, hf⟩ := zk_ck hf
          refine zk_iald hx hb hK hw 4 rfl h5 (j := Mspot.toNatClampNeg) rfl dX5_takesRank_30 ?_
          refine lv_bipush (v := 97) hx hb dX5_takesRank_31 (by decide) ?_
          refine lv_isub hx hb dX5_takesRank_33 ?_
          obtain ⟨u6, e7, hf⟩ := zk_bd hf
          refine zk_calli (wc := []) (wr := zwM cI cJ aM Mnow Mread Mpast Mchanges Mtext Mletters Mheads Msets Mballots Mranks Mloads Mbelow Morder Melected Mmembers Mabove Munder Mspot Mvalue) hw hA [] [0, 1, 2, 3, 4, 5, 6, 7, 8, 9, 10, 11] rfl rfl (by decide) (by decide) (va_runS (As := [.int x1, .int ((Mtext Mspot.toNatClampNeg) - (97 : Int32))]) (rest := []) ⟨hx, hb, hml, hown, hts⟩ (kX5_has l D cI cJ cO N x1 ((Mtext Mspot.toNatClampNeg) - (97 : Int32)) u6 e7 H.size) (va_cwS 2 hts gX5_takesRank_X5_has rfl rfl rfl (by decide +kernel) ⟨Nat.le_of_ble_eq_true rfl, Nat.le_of_ble_eq_true rfl⟩) (zk_preS (wc := []) hN hK hw [] rfl (by decide)) rfl rfl hl.1 rfl (lv_room (Nat.le_of_ble_eq_true rfl)) dX5_takesRank_34 ⟨Nat.zero_le _, Nat.zero_le _⟩) (fun H locs hw => ?_)
          have hw : Wd D A s.heap (zwM cI cJ aM Mnow Mread Mpast Mchanges Mtext Mletters Mheads Msets Mballots Mranks Mloads Mbelow Morder Melected Mmembers Mabove Munder Mspot Mvalue) H locs := hw
          refine lv_if_eq (tgt := 42) hx hb dX5_takesRank_37 (by decide) (fun c8 => ?_) (fun c8 => ?_)
          · replace hf := zk_t c8 hf
            refine lv_aload_n hx hb dX5_takesRank_42 rfl (lv_at hl 0 rfl) ?_
            refine va_get (D := D) (ci := 5) (v := .ref (aM 2)) (C := RX5) (T := TX5) (N := 19) hx hb hts hiX5 hown hK hw.1 0 rfl rfl 1 (by decide) hq0 (fun _ h9 => h9) rfl dX5_takesRank_43 ?_
            refine lv_bipush (v := 24) hx hb dX5_takesRank_46 (by decide) ?_
            refine lv_iload_n hx hb dX5_takesRank_48 rfl (lv_at hl 2 rfl) ?_
            refine lv_iadd hx hb dX5_takesRank_49 ?_
            refine lv_aload_n hx hb dX5_takesRank_50 rfl (lv_at hl 0 rfl) ?_
            refine va_get (D := D) (ci := 5) (v := .ref (aM 4)) (C := RX5) (T := TX5) (N := 19) hx hb hts hiX5 hown hK hw.1 0 rfl rfl 4 (by decide) hq1 (fun _ h9 => h9) rfl dX5_takesRank_51 ?_
            refine lv_aload_n hx hb dX5_takesRank_54 rfl (lv_at hl 0 rfl) ?_
            refine va_get (D := D) (ci := 5) (v := .int Mspot) (C := RX5) (T := TX5) (N := 19) hx hb hts hiX5 hown hK hw.1 0 rfl rfl 17 (by decide) hq2 (fun _ h9 => h9) rfl dX5_takesRank_55 ?_
            refine zk_iald hx hb hK hw 4 rfl h5 (j := Mspot.toNatClampNeg) rfl dX5_takesRank_58 ?_
            refine lv_bipush (v := 97) hx hb dX5_takesRank_59 (by decide) ?_
            refine lv_isub hx hb dX5_takesRank_61 ?_
            obtain ⟨h9, hf⟩ := zk_ck hf
            refine zk_iast hx hb hK hw 2 rfl h9 (j := ((24 : Int32) + x2).toNatClampNeg) rfl dX5_takesRank_62 (fun H locs hw => ?_)
            have hw : Wd D A s.heap (zwM cI cJ aM Mnow (upd Mread (((24 : Int32) + x2).toNatClampNeg) ((Mtext Mspot.toNatClampNeg) - (97 : Int32))) Mpast Mchanges Mtext Mletters Mheads Msets Mballots Mranks Mloads Mbelow Morder Melected Mmembers Mabove Munder Mspot Mvalue) H locs := hw
            refine lv_iload_n hx hb dX5_takesRank_63 rfl (lv_at hl 1 rfl) ?_
            refine lv_iconst (v := 1) hx hb dX5_takesRank_64 (by decide) ?_
            refine lv_aload_n hx hb dX5_takesRank_65 rfl (lv_at hl 0 rfl) ?_
            refine va_get (D := D) (ci := 5) (v := .ref (aM 2)) (C := RX5) (T := TX5) (N := 19) hx hb hts hiX5 hown hK hw.1 0 rfl rfl 1 (by decide) hq0 (fun _ h9 => h9) rfl dX5_takesRank_66 ?_
            refine lv_bipush (v := 24) hx hb dX5_takesRank_69 (by decide) ?_
            refine lv_iload_n hx hb dX5_takesRank_71 rfl (lv_at hl 2 rfl) ?_
            refine lv_iadd hx hb dX5_takesRank_72 ?_
            refine zk_iald hx hb hK hw 2 rfl h9 (j := ((24 : Int32) + x2).toNatClampNeg) rfl dX5_takesRank_73 ?_
            refine lv_ishl hx hb dX5_takesRank_74 ?_
            refine lv_ior hx hb dX5_takesRank_75 ?_
            refine lv_istore_n (lv' := [(1, .int (x1 ||| ((1 : Int32) <<< (((upd Mread (((24 : Int32) + x2).toNatClampNeg) ((Mtext Mspot.toNatClampNeg) - (97 : Int32))) (((24 : Int32) + x2).toNatClampNeg)) &&& 31)))), (0, .ref (aM 0)), (2, .int x2)]) hx hb dX5_takesRank_76 rfl hl (by decide) rfl (fun ls hl => ?_)
            refine lv_aload_n hx hb dX5_takesRank_77 rfl (lv_at hl 1 rfl) ?_
            refine lv_dup hx hb dX5_takesRank_78 rfl ?_
            refine va_get (D := D) (ci := 5) (v := .int Mspot) (C := RX5) (T := TX5) (N := 19) hx hb hts hiX5 hown hK hw.1 0 rfl rfl 17 (by decide) hq2 (fun _ h9 => h9) rfl dX5_takesRank_79 ?_
            refine lv_iconst (v := 1) hx hb dX5_takesRank_82 (by decide) ?_
            refine lv_iadd hx hb dX5_takesRank_83 ?_
            refine va_put (D := D) (ci := 5) (v := .int (Mspot + (1 : Int32))) (C := RX5) (T := TX5) (N := 19) hx hb hts hiX5 tyX5 tyX5_ok nmX5 hown hK hw.1 hw.2.1 hw.2.2 0 rfl rfl 17 (by decide) hq2 (fun _ h9 => h9) rfl (tyX5_ok 17 (by decide)) rfl rfl (Nat.le_of_ble_eq_true rfl) dX5_takesRank_84 (fun H locs hP hD hS => ?_)
            have hw : Wd D A s.heap (zwM cI cJ aM Mnow (upd Mread (((24 : Int32) + x2).toNatClampNeg) ((Mtext Mspot.toNatClampNeg) - (97 : Int32))) Mpast Mchanges Mtext Mletters Mheads Msets Mballots Mranks Mloads Mbelow Morder Melected Mmembers Mabove Munder (Mspot + (1 : Int32)) Mvalue) H locs := ⟨hP, hD, hS⟩
            clear hP hD hS
            refine lv_iinc (v := (x2 + (1 : Int32))) (lv' := [(2, .int (x2 + (1 : Int32))), (1, .int (x1 ||| ((1 : Int32) <<< (((upd Mread (((24 : Int32) + x2).toNatClampNeg) ((Mtext Mspot.toNatClampNeg) - (97 : Int32))) (((24 : Int32) + x2).toNatClampNeg)) &&& 31)))), (0, .ref (aM 0))]) hx hb dX5_takesRank_87 hl (k := 2) rfl rfl (by decide) rfl (fun ls hl => ?_)
            refine lv_goto (tgt := 4) hx hb dX5_takesRank_90 (by decide) ?_
            exact ih4 (x1 ||| ((1 : Int32) <<< (((upd Mread (((24 : Int32) + x2).toNatClampNeg) ((Mtext Mspot.toNatClampNeg) - (97 : Int32))) (((24 : Int32) + x2).toNatClampNeg)) &&& 31))) (x2 + (1 : Int32)) (upd Mread (((24 : Int32) + x2).toNatClampNeg) ((Mtext Mspot.toNatClampNeg) - (97 : Int32))) (Mspot + (1 : Int32)) hf H locs ls hw (lv_sub hl [2, 1, 0] rfl)
          · replace hf := zk_f c8 hf
            refine lv_iconst (v := 0) hx hb dX5_takesRank_40 (by decide) ?_
            cases hf
            exact zk_iret hx hb hr hlocks rfl hQ hw [0, 1, 2, 3, 4, 5, 6, 7, 8, 9, 10, 11] rfl (by decide) dX5_takesRank_41
  unfold fX5_takesRank at hf
  refine lv_iconst (v := 0) hx hb dX5_takesRank_0 (by decide) ?_
  refine lv_istore_n (lv' := [(1, .int (0 : Int32)), (0, .ref (aM 0))]) hx hb dX5_takesRank_1 rfl hl (by decide) rfl (fun ls hl => ?_)
  refine lv_iconst (v := 0) hx hb dX5_takesRank_2 (by decide) ?_
  refine lv_istore_n (lv' := [(2, .int (0 : Int32)), (1, .int (0 : Int32)), (0, .ref (aM 0))]) hx hb dX5_takesRank_3 rfl hl (by decide) rfl (fun ls hl => ?_)
  exact b4 N (0 : Int32) (0 : Int32) Mread Mspot hf H locs ls hw (lv_sub hl [2, 1, 0] rfl)
set_option maxHeartbeats 4000000 in
set_option maxRecDepth 100000 in
theorem kX5_takesCandidates (l : Launch) (D : va_G) (cI cJ cO : ClassId) (N : Nat) (aM : Nat → Nat) (Mnow : Nat → Int32) (Mread : Nat → Int32) (Mpast : Nat → Int32) (Mchanges : Int32) (Mtext : Nat → Int32) (Mletters : Int32) (Mheads : Nat → Int32) (Msets : Nat → Int32) (Mballots : Int32) (Mranks : Nat → Int32) (Mloads : Nat → Int64) (Mbelow : Int64) (Morder : Nat → Int32) (Melected : Int32) (Mmembers : Int32) (Mabove : Nat → Int64) (Munder : Nat → Int64) (Mspot : Int32) (Mvalue : Int32) (u : Int32 × (Nat → Int32) × (Int32) × (Int32)) (hf : fX5_takesCandidates N Mread Mtext Mletters Mspot Mvalue = some u) : CtI l yX5_takesCandidates wsX5_takesCandidates (zk_rm 2 45) D cI cJ cO [.ref (aM 0)] (zwM cI cJ aM Mnow Mread Mpast Mchanges Mtext Mletters Mheads Msets Mballots Mranks Mloads Mbelow Morder Melected Mmembers Mabove Munder Mspot Mvalue) (zwM cI cJ aM Mnow u.2.1 Mpast Mchanges Mtext Mletters Mheads Msets Mballots Mranks Mloads Mbelow Morder Melected Mmembers Mabove Munder u.2.2.1 u.2.2.2) (u.1) := by
  refine zk_enter (cc := cX5_takesCandidates) (maxL := 2) (ret := some .boolean) (own := RX5) (Qf := fun A => QwI D (zwM cI cJ aM Mnow u.2.1 Mpast Mchanges Mtext Mletters Mheads Msets Mballots Mranks Mloads Mbelow Morder Melected Mmembers Mabove Munder u.2.2.1 u.2.2.2) (u.1) A) (by decide) rfl rfl (Nat.le_of_ble_eq_true rfl) ?_
  intro p e s m args below meth c A Q H locs ls hC hQ hw hl
  obtain ⟨hx, hb, hml, hr, hts, hown, hlocks, hN, hK, hA⟩ := hC
  have hl : lv_has ls 2 [(0, .ref (aM 0))] := hl
  have hiX5 : ∀ w ∈ u_ws RX5 TX5 19, w ∈ wsX5_takesCandidates := by decide +kernel
  have hq0 := hts (.fieldLink RX5 59 "LoadCouncilModel" "value" "I") (by decide +kernel)
  have hq1 := hts (.fieldLink RX5 13 "LoadCouncilModel" "read" "[I") (by decide +kernel)
  have b33 : ∀ (n33 : Nat), ∀ (x1 : Int32) (Mread : Nat → Int32) (Mspot : Int32) (Mvalue : Int32), fX5_takesCandidates_b33 N n33 x1 Mread Mspot Mvalue = some u → ∀ (H : Heap) (locs : List Loc) (ls : Array Slot), Wd D A s.heap (zwM cI cJ aM Mnow Mread Mpast Mchanges Mtext Mletters Mheads Msets Mballots Mranks Mloads Mbelow Morder Melected Mmembers Mabove Munder Mspot Mvalue) H locs → lv_has ls 2 [(0, .ref (aM 0)), (1, .int x1)] → W p l e (zk_rm 2 45) s m args below meth c H locs 0 0 Q (F0 m 33 ls []) := by
    intro n33
    induction n33 with
    | zero =>
      intro x1 Mread Mspot Mvalue hf
      exact zk_none hf
    | succ n33 ih33 =>
      intro x1 Mread Mspot Mvalue hf H locs ls hw hl
      rw [fX5_takesCandidates_b33] at hf
      refine lv_iload_n hx hb dX5_takesCandidates_33 rfl (lv_at hl 1 rfl) ?_
      refine lv_aload_n hx hb dX5_takesCandidates_34 rfl (lv_at hl 0 rfl) ?_
      refine va_get (D := D) (ci := 5) (v := .int Mvalue) (C := RX5) (T := TX5) (N := 19) hx hb hts hiX5 hown hK hw.1 0 rfl rfl 18 (by decide) hq0 (fun _ h9 => h9) rfl dX5_takesCandidates_35 ?_
      refine lv_icmp_ge (tgt := 57) hx hb dX5_takesCandidates_38 (by decide) (fun c1 => ?_) (fun c1 => ?_)
      · replace hf := zk_t c1 hf
        refine lv_iconst (v := 1) hx hb dX5_takesCandidates_57 (by decide) ?_
        cases hf
        exact zk_iret hx hb hr hlocks rfl hQ hw [0, 1, 2, 3, 4, 5, 6, 7, 8, 9, 10, 11] rfl (by decide) dX5_takesCandidates_58
      · replace hf := zk_f c1 hf
        refine lv_aload_n hx hb dX5_takesCandidates_41 rfl (lv_at hl 0 rfl) ?_
        refine va_get (D := D) (ci := 5) (v := .ref (aM 2)) (C := RX5) (T := TX5) (N := 19) hx hb hts hiX5 hown hK hw.1 0 rfl rfl 1 (by decide) hq1 (fun _ h9 => h9) rfl dX5_takesCandidates_42 ?_
        refine lv_bipush (v := 24) hx hb dX5_takesCandidates_45 (by decide) ?_
        refine lv_iload_n hx hb dX5_takesCandidates_47 rfl (lv_at hl 1 rfl) ?_
        refine lv_iadd hx hb dX5_takesCandidates_48 ?_
        refine lv_iload_n hx hb dX5_takesCandidates_49 rfl (lv_at hl 1 rfl) ?_
        obtain ⟨h2, hf⟩ := zk_ck hf
        refine zk_iast hx hb hK hw 2 rfl h2 (j := ((24 : Int32) + x1).toNatClampNeg) rfl dX5_takesCandidates_50 (fun H locs hw => ?_)
        have hw : Wd D A s.heap (zwM cI cJ aM Mnow (upd Mread (((24 : Int32) + x1).toNatClampNeg) x1) Mpast Mchanges Mtext Mletters Mheads Msets Mballots Mranks Mloads Mbelow Morder Melected Mmembers Mabove Munder Mspot Mvalue) H locs := hw
        refine lv_iinc (v := (x1 + (1 : Int32))) (lv' := [(1, .int (x1 + (1 : Int32))), (0, .ref (aM 0))]) hx hb dX5_takesCandidates_51 hl (k := 1) rfl rfl (by decide) rfl (fun ls hl => ?_)
        refine lv_goto (tgt := 33) hx hb dX5_takesCandidates_54 (by decide) ?_
        exact ih33 (x1 + (1 : Int32)) (upd Mread (((24 : Int32) + x1).toNatClampNeg) x1) Mspot Mvalue hf H locs ls hw (lv_sub hl [1, 0] rfl)
  unfold fX5_takesCandidates at hf
  refine lv_aload_n hx hb dX5_takesCandidates_0 rfl (lv_at hl 0 rfl) ?_
  refine va_get (D := D) (ci := 5) (v := .ref (aM 2)) (C := RX5) (T := TX5) (N := 19) hx hb hts hiX5 hown hK hw.1 0 rfl rfl 1 (by decide) hq1 (fun _ h9 => h9) rfl dX5_takesCandidates_1 ?_
  refine lv_iconst (v := 0) hx hb dX5_takesCandidates_4 (by decide) ?_
  refine zk_iald hx hb hK hw 2 rfl (zk_in (by decide)) (j := 0) rfl dX5_takesCandidates_5 ?_
  refine lv_if_gt (tgt := 19) hx hb dX5_takesCandidates_6 (by decide) (fun c3 => ?_) (fun c3 => ?_)
  · replace hf := zk_t c3 hf
    refine lv_iconst (v := 0) hx hb dX5_takesCandidates_19 (by decide) ?_
    cases hf
    exact zk_iret hx hb hr hlocks rfl hQ hw [0, 1, 2, 3, 4, 5, 6, 7, 8, 9, 10, 11] rfl (by decide) dX5_takesCandidates_20
  · replace hf := zk_f c3 hf
    refine lv_aload_n hx hb dX5_takesCandidates_9 rfl (lv_at hl 0 rfl) ?_
    refine lv_iconst (v := 1) hx hb dX5_takesCandidates_10 (by decide) ?_
    refine lv_bipush (v := 8) hx hb dX5_takesCandidates_11 (by decide) ?_
    obtain ⟨u4, e5, hf⟩ := zk_bd hf
    refine zk_calli (wc := zwM cI cJ aM Mnow Mread Mpast Mchanges Mtext Mletters Mheads Msets Mballots Mranks Mloads Mbelow Morder Melected Mmembers Mabove Munder Mspot Mvalue) (wr := []) hw hA [0, 1, 2, 3, 4, 5, 6, 7, 8, 9, 10, 11] [] rfl rfl (by decide) (by decide) (va_runV (C := RX5) (As := [.int (1 : Int32), .int (8 : Int32)]) (rest := []) ⟨hx, hb, hml, hown, hts⟩ (kX5_takesNumber l D cI cJ cO N aM (1 : Int32) (8 : Int32) Mnow Mread Mpast Mchanges Mtext Mletters Mheads Msets Mballots Mranks Mloads Mbelow Morder Melected Mmembers Mabove Munder Mspot Mvalue u4 e5 H.size) (cwV 2 hts gX5_takesCandidates_X5_takesNumber rfl rfl rfl (by decide +kernel) ⟨Nat.le_of_ble_eq_true rfl, Nat.le_of_ble_eq_true rfl⟩) (zk_preV (wc := zwM cI cJ aM Mnow Mread Mpast Mchanges Mtext Mletters Mheads Msets Mballots Mranks Mloads Mbelow Morder Melected Mmembers Mabove Munder Mspot Mvalue) hN hK hw [0, 1, 2, 3, 4, 5, 6, 7, 8, 9, 10, 11] rfl (by decide) 0 5 rfl rfl) rfl rfl hl.1 rfl (lv_room (Nat.le_of_ble_eq_true rfl)) dX5_takesCandidates_13 ⟨Nat.zero_le _, Nat.zero_le _⟩) (fun H locs hw => ?_)
    have hw : Wd D A s.heap (zwM cI cJ aM Mnow Mread Mpast Mchanges Mtext Mletters Mheads Msets Mballots Mranks Mloads Mbelow Morder Melected Mmembers Mabove Munder u4.2.1 u4.2.2) H locs := hw
    refine lv_if_ne (tgt := 21) hx hb dX5_takesCandidates_16 (by decide) (fun c6 => ?_) (fun c6 => ?_)
    · replace hf := zk_f c6 hf
      refine lv_aload_n hx hb dX5_takesCandidates_21 rfl (lv_at hl 0 rfl) ?_
      refine va_get (D := D) (ci := 5) (v := .ref (aM 2)) (C := RX5) (T := TX5) (N := 19) hx hb hts hiX5 hown hK hw.1 0 rfl rfl 1 (by decide) hq1 (fun _ h9 => h9) rfl dX5_takesCandidates_22 ?_
      refine lv_iconst (v := 0) hx hb dX5_takesCandidates_25 (by decide) ?_
      refine lv_aload_n hx hb dX5_takesCandidates_26 rfl (lv_at hl 0 rfl) ?_
      refine va_get (D := D) (ci := 5) (v := .int u4.2.2) (C := RX5) (T := TX5) (N := 19) hx hb hts hiX5 hown hK hw.1 0 rfl rfl 18 (by decide) hq0 (fun _ h9 => h9) rfl dX5_takesCandidates_27 ?_
      refine zk_iast hx hb hK hw 2 rfl (zk_in (by decide)) (j := 0) rfl dX5_takesCandidates_30 (fun H locs hw => ?_)
      have hw : Wd D A s.heap (zwM cI cJ aM Mnow (upd Mread 0 u4.2.2) Mpast Mchanges Mtext Mletters Mheads Msets Mballots Mranks Mloads Mbelow Morder Melected Mmembers Mabove Munder u4.2.1 u4.2.2) H locs := hw
      refine lv_iconst (v := 0) hx hb dX5_takesCandidates_31 (by decide) ?_
      refine lv_istore_n (lv' := [(1, .int (0 : Int32)), (0, .ref (aM 0))]) hx hb dX5_takesCandidates_32 rfl hl (by decide) rfl (fun ls hl => ?_)
      exact b33 N (0 : Int32) (upd Mread 0 u4.2.2) u4.2.1 u4.2.2 hf H locs ls hw (lv_sub hl [1, 0] rfl)
    · replace hf := zk_t c6 hf
      refine lv_iconst (v := 0) hx hb dX5_takesCandidates_19 (by decide) ?_
      cases hf
      exact zk_iret hx hb hr hlocks rfl hQ hw [0, 1, 2, 3, 4, 5, 6, 7, 8, 9, 10, 11] rfl (by decide) dX5_takesCandidates_20
set_option maxHeartbeats 4000000 in
set_option maxRecDepth 100000 in
theorem kX5_takesSeats (l : Launch) (D : va_G) (cI cJ cO : ClassId) (N : Nat) (aM : Nat → Nat) (Mnow : Nat → Int32) (Mread : Nat → Int32) (Mpast : Nat → Int32) (Mchanges : Int32) (Mtext : Nat → Int32) (Mletters : Int32) (Mheads : Nat → Int32) (Msets : Nat → Int32) (Mballots : Int32) (Mranks : Nat → Int32) (Mloads : Nat → Int64) (Mbelow : Int64) (Morder : Nat → Int32) (Melected : Int32) (Mmembers : Int32) (Mabove : Nat → Int64) (Munder : Nat → Int64) (Mspot : Int32) (Mvalue : Int32) (u : Int32 × (Nat → Int32) × (Int32) × (Int32)) (hf : fX5_takesSeats N Mread Mtext Mletters Mspot Mvalue = some u) : CtI l yX5_takesSeats wsX5_takesSeats (zk_rm 2 45) D cI cJ cO [.ref (aM 0)] (zwM cI cJ aM Mnow Mread Mpast Mchanges Mtext Mletters Mheads Msets Mballots Mranks Mloads Mbelow Morder Melected Mmembers Mabove Munder Mspot Mvalue) (zwM cI cJ aM Mnow u.2.1 Mpast Mchanges Mtext Mletters Mheads Msets Mballots Mranks Mloads Mbelow Morder Melected Mmembers Mabove Munder u.2.2.1 u.2.2.2) (u.1) := by
  refine zk_enter (cc := cX5_takesSeats) (maxL := 2) (ret := some .boolean) (own := RX5) (Qf := fun A => QwI D (zwM cI cJ aM Mnow u.2.1 Mpast Mchanges Mtext Mletters Mheads Msets Mballots Mranks Mloads Mbelow Morder Melected Mmembers Mabove Munder u.2.2.1 u.2.2.2) (u.1) A) (by decide) rfl rfl (Nat.le_of_ble_eq_true rfl) ?_
  intro p e s m args below meth c A Q H locs ls hC hQ hw hl
  obtain ⟨hx, hb, hml, hr, hts, hown, hlocks, hN, hK, hA⟩ := hC
  have hl : lv_has ls 2 [(0, .ref (aM 0))] := hl
  have hiX5 : ∀ w ∈ u_ws RX5 TX5 19, w ∈ wsX5_takesSeats := by decide +kernel
  have hq0 := hts (.fieldLink RX5 13 "LoadCouncilModel" "read" "[I") (by decide +kernel)
  have hq1 := hts (.fieldLink RX5 59 "LoadCouncilModel" "value" "I") (by decide +kernel)
  unfold fX5_takesSeats at hf
  refine lv_aload_n hx hb dX5_takesSeats_0 rfl (lv_at hl 0 rfl) ?_
  refine lv_iconst (v := 1) hx hb dX5_takesSeats_1 (by decide) ?_
  refine lv_bipush (v := 8) hx hb dX5_takesSeats_2 (by decide) ?_
  obtain ⟨u1, e2, hf⟩ := zk_bd hf
  refine zk_calli (wc := zwM cI cJ aM Mnow Mread Mpast Mchanges Mtext Mletters Mheads Msets Mballots Mranks Mloads Mbelow Morder Melected Mmembers Mabove Munder Mspot Mvalue) (wr := []) hw hA [0, 1, 2, 3, 4, 5, 6, 7, 8, 9, 10, 11] [] rfl rfl (by decide) (by decide) (va_runV (C := RX5) (As := [.int (1 : Int32), .int (8 : Int32)]) (rest := []) ⟨hx, hb, hml, hown, hts⟩ (kX5_takesNumber l D cI cJ cO N aM (1 : Int32) (8 : Int32) Mnow Mread Mpast Mchanges Mtext Mletters Mheads Msets Mballots Mranks Mloads Mbelow Morder Melected Mmembers Mabove Munder Mspot Mvalue u1 e2 H.size) (cwV 2 hts gX5_takesSeats_X5_takesNumber rfl rfl rfl (by decide +kernel) ⟨Nat.le_of_ble_eq_true rfl, Nat.le_of_ble_eq_true rfl⟩) (zk_preV (wc := zwM cI cJ aM Mnow Mread Mpast Mchanges Mtext Mletters Mheads Msets Mballots Mranks Mloads Mbelow Morder Melected Mmembers Mabove Munder Mspot Mvalue) hN hK hw [0, 1, 2, 3, 4, 5, 6, 7, 8, 9, 10, 11] rfl (by decide) 0 5 rfl rfl) rfl rfl hl.1 rfl (lv_room (Nat.le_of_ble_eq_true rfl)) dX5_takesSeats_4 ⟨Nat.zero_le _, Nat.zero_le _⟩) (fun H locs hw => ?_)
  have hw : Wd D A s.heap (zwM cI cJ aM Mnow Mread Mpast Mchanges Mtext Mletters Mheads Msets Mballots Mranks Mloads Mbelow Morder Melected Mmembers Mabove Munder u1.2.1 u1.2.2) H locs := hw
  refine lv_istore_n (lv' := [(1, .int u1.1), (0, .ref (aM 0))]) hx hb dX5_takesSeats_7 rfl hl (by decide) rfl (fun ls hl => ?_)
  refine lv_aload_n hx hb dX5_takesSeats_8 rfl (lv_at hl 1 rfl) ?_
  refine va_get (D := D) (ci := 5) (v := .ref (aM 2)) (C := RX5) (T := TX5) (N := 19) hx hb hts hiX5 hown hK hw.1 0 rfl rfl 1 (by decide) hq0 (fun _ h9 => h9) rfl dX5_takesSeats_9 ?_
  refine lv_bipush (v := 22) hx hb dX5_takesSeats_12 (by decide) ?_
  refine lv_aload_n hx hb dX5_takesSeats_14 rfl (lv_at hl 1 rfl) ?_
  refine va_get (D := D) (ci := 5) (v := .int u1.2.2) (C := RX5) (T := TX5) (N := 19) hx hb hts hiX5 hown hK hw.1 0 rfl rfl 18 (by decide) hq1 (fun _ h9 => h9) rfl dX5_takesSeats_15 ?_
  refine zk_iast hx hb hK hw 2 rfl (zk_in (by decide)) (j := 22) rfl dX5_takesSeats_18 (fun H locs hw => ?_)
  have hw : Wd D A s.heap (zwM cI cJ aM Mnow (upd Mread 22 u1.2.2) Mpast Mchanges Mtext Mletters Mheads Msets Mballots Mranks Mloads Mbelow Morder Melected Mmembers Mabove Munder u1.2.1 u1.2.2) H locs := hw
  refine lv_iload_n hx hb dX5_takesSeats_19 rfl (lv_at hl 0 rfl) ?_
  obtain ⟨h3, hf⟩ := zk_ck hf
  cases hf
  exact zk_iret hx hb hr hlocks (zk_nb h3) hQ hw [0, 1, 2, 3, 4, 5, 6, 7, 8, 9, 10, 11] rfl (by decide) dX5_takesSeats_20
set_option maxHeartbeats 4000000 in
set_option maxRecDepth 100000 in
theorem kX5_takesItem (l : Launch) (D : va_G) (cI cJ cO : ClassId) (N : Nat) (aM : Nat → Nat) (Mnow : Nat → Int32) (Mread : Nat → Int32) (Mpast : Nat → Int32) (Mchanges : Int32) (Mtext : Nat → Int32) (Mletters : Int32) (Mheads : Nat → Int32) (Msets : Nat → Int32) (Mballots : Int32) (Mranks : Nat → Int32) (Mloads : Nat → Int64) (Mbelow : Int64) (Morder : Nat → Int32) (Melected : Int32) (Mmembers : Int32) (Mabove : Nat → Int64) (Munder : Nat → Int64) (Mspot : Int32) (Mvalue : Int32) (u : Int32 × (Nat → Int32) × (Int32) × (Int32)) (hf : fX5_takesItem N Mread Mtext Mletters Mspot Mvalue = some u) : CtI l yX5_takesItem wsX5_takesItem (zk_rm 4 84) D cI cJ cO [.ref (aM 0)] (zwM cI cJ aM Mnow Mread Mpast Mchanges Mtext Mletters Mheads Msets Mballots Mranks Mloads Mbelow Morder Melected Mmembers Mabove Munder Mspot Mvalue) (zwM cI cJ aM Mnow u.2.1 Mpast Mchanges Mtext Mletters Mheads Msets Mballots Mranks Mloads Mbelow Morder Melected Mmembers Mabove Munder u.2.2.1 u.2.2.2) (u.1) := by
  refine zk_enter (cc := cX5_takesItem) (maxL := 3) (ret := some .boolean) (own := RX5) (Qf := fun A => QwI D (zwM cI cJ aM Mnow u.2.1 Mpast Mchanges Mtext Mletters Mheads Msets Mballots Mranks Mloads Mbelow Morder Melected Mmembers Mabove Munder u.2.2.1 u.2.2.2) (u.1) A) (by decide) rfl rfl (Nat.le_of_ble_eq_true rfl) ?_
  intro p e s m args below meth c A Q H locs ls hC hQ hw hl
  obtain ⟨hx, hb, hml, hr, hts, hown, hlocks, hN, hK, hA⟩ := hC
  have hl : lv_has ls 3 [(0, .ref (aM 0))] := hl
  have hiX5 : ∀ w ∈ u_ws RX5 TX5 19, w ∈ wsX5_takesItem := by decide +kernel
  have hq0 := hts (.fieldLink RX5 56 "LoadCouncilModel" "spot" "I") (by decide +kernel)
  have hq1 := hts (.fieldLink RX5 13 "LoadCouncilModel" "read" "[I") (by decide +kernel)
  have b39 : ∀ (x1 : Int32) (t0 : Int32) (Mread : Nat → Int32) (Mspot : Int32) (Mvalue : Int32), fX5_takesItem_b39 N x1 t0 Mread Mtext Mletters Mspot Mvalue = some u → ∀ (H : Heap) (locs : List Loc) (ls : Array Slot), Wd D A s.heap (zwM cI cJ aM Mnow Mread Mpast Mchanges Mtext Mletters Mheads Msets Mballots Mranks Mloads Mbelow Morder Melected Mmembers Mabove Munder Mspot Mvalue) H locs → lv_has ls 3 [(0, .ref (aM 0)), (1, .int x1)] → W p l e (zk_rm 4 84) s m args below meth c H locs 0 0 Q (F0 m 39 ls [.int t0]) := by
    intro x1 t0 Mread Mspot Mvalue hf H locs ls hw hl
    unfold fX5_takesItem_b39 at hf
    refine lv_istore_n (lv' := [(2, .int t0), (0, .ref (aM 0)), (1, .int x1)]) hx hb dX5_takesItem_39 rfl hl (by decide) rfl (fun ls hl => ?_)
    refine lv_iload_n hx hb dX5_takesItem_40 rfl (lv_at hl 2 rfl) ?_
    by_cases c1 : x1 = 98
    · replace hf := zk_t c1 hf
      refine lv_lookup (tgt := 106) (off := 65) hx hb dX5_takesItem_41 (by decide) (by rw [c1]; rfl) (by decide) ?_
      refine lv_iload_n hx hb dX5_takesItem_106 rfl (lv_at hl 0 rfl) ?_
      refine lv_if_eq (tgt := 130) hx hb dX5_takesItem_107 (by decide) (fun c2 => ?_) (fun c2 => ?_)
      · replace hf := zk_t c2 hf
        refine lv_iconst (v := 0) hx hb dX5_takesItem_130 (by decide) ?_
        cases hf
        exact zk_iret hx hb hr hlocks rfl hQ hw [0, 1, 2, 3, 4, 5, 6, 7, 8, 9, 10, 11] rfl (by decide) dX5_takesItem_131
      · replace hf := zk_f c2 hf
        refine lv_aload_n hx hb dX5_takesItem_110 rfl (lv_at hl 1 rfl) ?_
        obtain ⟨u3, e4, hf⟩ := zk_bd hf
        refine zk_calli (wc := zwM cI cJ aM Mnow Mread Mpast Mchanges Mtext Mletters Mheads Msets Mballots Mranks Mloads Mbelow Morder Melected Mmembers Mabove Munder Mspot Mvalue) (wr := []) hw hA [0, 1, 2, 3, 4, 5, 6, 7, 8, 9, 10, 11] [] rfl rfl (by decide) (by decide) (va_runV (C := RX5) (As := []) (rest := []) ⟨hx, hb, hml, hown, hts⟩ (kX5_takesBallot l D cI cJ cO N aM Mnow Mread Mpast Mchanges Mtext Mletters Mheads Msets Mballots Mranks Mloads Mbelow Morder Melected Mmembers Mabove Munder Mspot Mvalue u3 e4 H.size) (cwV 0 hts gX5_takesItem_X5_takesBallot rfl rfl rfl (by decide +kernel) ⟨Nat.le_of_ble_eq_true rfl, Nat.le_of_ble_eq_true rfl⟩) (zk_preV (wc := zwM cI cJ aM Mnow Mread Mpast Mchanges Mtext Mletters Mheads Msets Mballots Mranks Mloads Mbelow Morder Melected Mmembers Mabove Munder Mspot Mvalue) hN hK hw [0, 1, 2, 3, 4, 5, 6, 7, 8, 9, 10, 11] rfl (by decide) 0 5 rfl rfl) rfl rfl hl.1 rfl (lv_room (Nat.le_of_ble_eq_true rfl)) dX5_takesItem_111 ⟨Nat.zero_le _, Nat.zero_le _⟩) (fun H locs hw => ?_)
        have hw : Wd D A s.heap (zwM cI cJ aM Mnow u3.2.1 Mpast Mchanges Mtext Mletters Mheads Msets Mballots Mranks Mloads Mbelow Morder Melected Mmembers Mabove Munder u3.2.2.1 u3.2.2.2) H locs := hw
        refine lv_if_eq (tgt := 130) hx hb dX5_takesItem_114 (by decide) (fun c5 => ?_) (fun c5 => ?_)
        · replace hf := zk_t c5 hf
          refine lv_iconst (v := 0) hx hb dX5_takesItem_130 (by decide) ?_
          cases hf
          exact zk_iret hx hb hr hlocks rfl hQ hw [0, 1, 2, 3, 4, 5, 6, 7, 8, 9, 10, 11] rfl (by decide) dX5_takesItem_131
        · replace hf := zk_f c5 hf
          refine lv_aload_n hx hb dX5_takesItem_117 rfl (lv_at hl 1 rfl) ?_
          refine lv_bipush (v := 59) hx hb dX5_takesItem_118 (by decide) ?_
          obtain ⟨u6, e7, hf⟩ := zk_bd hf
          refine zk_calli (wc := zwM cI cJ aM Mnow u3.2.1 Mpast Mchanges Mtext Mletters Mheads Msets Mballots Mranks Mloads Mbelow Morder Melected Mmembers Mabove Munder u3.2.2.1 u3.2.2.2) (wr := []) hw hA [0, 1, 2, 3, 4, 5, 6, 7, 8, 9, 10, 11] [] rfl rfl (by decide) (by decide) (va_runV (C := RX5) (As := [.int (59 : Int32)]) (rest := []) ⟨hx, hb, hml, hown, hts⟩ (kX5_takes l D cI cJ cO N aM (59 : Int32) Mnow u3.2.1 Mpast Mchanges Mtext Mletters Mheads Msets Mballots Mranks Mloads Mbelow Morder Melected Mmembers Mabove Munder u3.2.2.1 u3.2.2.2 u6 e7 H.size) (cwV 1 hts gX5_takesItem_X5_takes rfl rfl rfl (by decide +kernel) ⟨Nat.le_of_ble_eq_true rfl, Nat.le_of_ble_eq_true rfl⟩) (zk_preV (wc := zwM cI cJ aM Mnow u3.2.1 Mpast Mchanges Mtext Mletters Mheads Msets Mballots Mranks Mloads Mbelow Morder Melected Mmembers Mabove Munder u3.2.2.1 u3.2.2.2) hN hK hw [0, 1, 2, 3, 4, 5, 6, 7, 8, 9, 10, 11] rfl (by decide) 0 5 rfl rfl) rfl rfl hl.1 rfl (lv_room (Nat.le_of_ble_eq_true rfl)) dX5_takesItem_120 ⟨Nat.zero_le _, Nat.zero_le _⟩) (fun H locs hw => ?_)
          have hw : Wd D A s.heap (zwM cI cJ aM Mnow u3.2.1 Mpast Mchanges Mtext Mletters Mheads Msets Mballots Mranks Mloads Mbelow Morder Melected Mmembers Mabove Munder u6.2 u3.2.2.2) H locs := hw
          refine lv_if_eq (tgt := 130) hx hb dX5_takesItem_123 (by decide) (fun c8 => ?_) (fun c8 => ?_)
          · replace hf := zk_t c8 hf
            refine lv_iconst (v := 0) hx hb dX5_takesItem_130 (by decide) ?_
            cases hf
            exact zk_iret hx hb hr hlocks rfl hQ hw [0, 1, 2, 3, 4, 5, 6, 7, 8, 9, 10, 11] rfl (by decide) dX5_takesItem_131
          · replace hf := zk_f c8 hf
            refine lv_iconst (v := 1) hx hb dX5_takesItem_126 (by decide) ?_
            refine lv_goto (tgt := 131) hx hb dX5_takesItem_127 (by decide) ?_
            cases hf
            exact zk_iret hx hb hr hlocks rfl hQ hw [0, 1, 2, 3, 4, 5, 6, 7, 8, 9, 10, 11] rfl (by decide) dX5_takesItem_131
    · replace hf := zk_f c1 hf
      by_cases c9 : x1 = 107
      · replace hf := zk_t c9 hf
        refine lv_lookup (tgt := 132) (off := 91) hx hb dX5_takesItem_41 (by decide) (by rw [c9]; rfl) (by decide) ?_
        refine lv_iload_n hx hb dX5_takesItem_132 rfl (lv_at hl 0 rfl) ?_
        refine lv_if_eq (tgt := 156) hx hb dX5_takesItem_133 (by decide) (fun c10 => ?_) (fun c10 => ?_)
        · replace hf := zk_t c10 hf
          refine lv_iconst (v := 0) hx hb dX5_takesItem_156 (by decide) ?_
          cases hf
          exact zk_iret hx hb hr hlocks rfl hQ hw [0, 1, 2, 3, 4, 5, 6, 7, 8, 9, 10, 11] rfl (by decide) dX5_takesItem_157
        · replace hf := zk_f c10 hf
          refine lv_aload_n hx hb dX5_takesItem_136 rfl (lv_at hl 1 rfl) ?_
          obtain ⟨u11, e12, hf⟩ := zk_bd hf
          refine zk_calli (wc := zwM cI cJ aM Mnow Mread Mpast Mchanges Mtext Mletters Mheads Msets Mballots Mranks Mloads Mbelow Morder Melected Mmembers Mabove Munder Mspot Mvalue) (wr := []) hw hA [0, 1, 2, 3, 4, 5, 6, 7, 8, 9, 10, 11] [] rfl rfl (by decide) (by decide) (va_runV (C := RX5) (As := []) (rest := []) ⟨hx, hb, hml, hown, hts⟩ (kX5_takesSeats l D cI cJ cO N aM Mnow Mread Mpast Mchanges Mtext Mletters Mheads Msets Mballots Mranks Mloads Mbelow Morder Melected Mmembers Mabove Munder Mspot Mvalue u11 e12 H.size) (cwV 0 hts gX5_takesItem_X5_takesSeats rfl rfl rfl (by decide +kernel) ⟨Nat.le_of_ble_eq_true rfl, Nat.le_of_ble_eq_true rfl⟩) (zk_preV (wc := zwM cI cJ aM Mnow Mread Mpast Mchanges Mtext Mletters Mheads Msets Mballots Mranks Mloads Mbelow Morder Melected Mmembers Mabove Munder Mspot Mvalue) hN hK hw [0, 1, 2, 3, 4, 5, 6, 7, 8, 9, 10, 11] rfl (by decide) 0 5 rfl rfl) rfl rfl hl.1 rfl (lv_room (Nat.le_of_ble_eq_true rfl)) dX5_takesItem_137 ⟨Nat.zero_le _, Nat.zero_le _⟩) (fun H locs hw => ?_)
          have hw : Wd D A s.heap (zwM cI cJ aM Mnow u11.2.1 Mpast Mchanges Mtext Mletters Mheads Msets Mballots Mranks Mloads Mbelow Morder Melected Mmembers Mabove Munder u11.2.2.1 u11.2.2.2) H locs := hw
          refine lv_if_eq (tgt := 156) hx hb dX5_takesItem_140 (by decide) (fun c13 => ?_) (fun c13 => ?_)
          · replace hf := zk_t c13 hf
            refine lv_iconst (v := 0) hx hb dX5_takesItem_156 (by decide) ?_
            cases hf
            exact zk_iret hx hb hr hlocks rfl hQ hw [0, 1, 2, 3, 4, 5, 6, 7, 8, 9, 10, 11] rfl (by decide) dX5_takesItem_157
          · replace hf := zk_f c13 hf
            refine lv_aload_n hx hb dX5_takesItem_143 rfl (lv_at hl 1 rfl) ?_
            refine lv_bipush (v := 59) hx hb dX5_takesItem_144 (by decide) ?_
            obtain ⟨u14, e15, hf⟩ := zk_bd hf
            refine zk_calli (wc := zwM cI cJ aM Mnow u11.2.1 Mpast Mchanges Mtext Mletters Mheads Msets Mballots Mranks Mloads Mbelow Morder Melected Mmembers Mabove Munder u11.2.2.1 u11.2.2.2) (wr := []) hw hA [0, 1, 2, 3, 4, 5, 6, 7, 8, 9, 10, 11] [] rfl rfl (by decide) (by decide) (va_runV (C := RX5) (As := [.int (59 : Int32)]) (rest := []) ⟨hx, hb, hml, hown, hts⟩ (kX5_takes l D cI cJ cO N aM (59 : Int32) Mnow u11.2.1 Mpast Mchanges Mtext Mletters Mheads Msets Mballots Mranks Mloads Mbelow Morder Melected Mmembers Mabove Munder u11.2.2.1 u11.2.2.2 u14 e15 H.size) (cwV 1 hts gX5_takesItem_X5_takes rfl rfl rfl (by decide +kernel) ⟨Nat.le_of_ble_eq_true rfl, Nat.le_of_ble_eq_true rfl⟩) (zk_preV (wc := zwM cI cJ aM Mnow u11.2.1 Mpast Mchanges Mtext Mletters Mheads Msets Mballots Mranks Mloads Mbelow Morder Melected Mmembers Mabove Munder u11.2.2.1 u11.2.2.2) hN hK hw [0, 1, 2, 3, 4, 5, 6, 7, 8, 9, 10, 11] rfl (by decide) 0 5 rfl rfl) rfl rfl hl.1 rfl (lv_room (Nat.le_of_ble_eq_true rfl)) dX5_takesItem_146 ⟨Nat.zero_le _, Nat.zero_le _⟩) (fun H locs hw => ?_)
            have hw : Wd D A s.heap (zwM cI cJ aM Mnow u11.2.1 Mpast Mchanges Mtext Mletters Mheads Msets Mballots Mranks Mloads Mbelow Morder Melected Mmembers Mabove Munder u14.2 u11.2.2.2) H locs := hw
            refine lv_if_eq (tgt := 156) hx hb dX5_takesItem_149 (by decide) (fun c16 => ?_) (fun c16 => ?_)
            · replace hf := zk_t c16 hf
              refine lv_iconst (v := 0) hx hb dX5_takesItem_156 (by decide) ?_
              cases hf
              exact zk_iret hx hb hr hlocks rfl hQ hw [0, 1, 2, 3, 4, 5, 6, 7, 8, 9, 10, 11] rfl (by decide) dX5_takesItem_157
            · replace hf := zk_f c16 hf
              refine lv_iconst (v := 1) hx hb dX5_takesItem_152 (by decide) ?_
              refine lv_goto (tgt := 157) hx hb dX5_takesItem_153 (by decide) ?_
              cases hf
              exact zk_iret hx hb hr hlocks rfl hQ hw [0, 1, 2, 3, 4, 5, 6, 7, 8, 9, 10, 11] rfl (by decide) dX5_takesItem_157
      · replace hf := zk_f c9 hf
        by_cases c17 : x1 = 110
        · replace hf := zk_t c17 hf
          refine lv_lookup (tgt := 84) (off := 43) hx hb dX5_takesItem_41 (by decide) (by rw [c17]; rfl) (by decide) ?_
          refine lv_aload_n hx hb dX5_takesItem_84 rfl (lv_at hl 1 rfl) ?_
          obtain ⟨u18, e19, hf⟩ := zk_bd hf
          refine zk_calli (wc := zwM cI cJ aM Mnow Mread Mpast Mchanges Mtext Mletters Mheads Msets Mballots Mranks Mloads Mbelow Morder Melected Mmembers Mabove Munder Mspot Mvalue) (wr := []) hw hA [0, 1, 2, 3, 4, 5, 6, 7, 8, 9, 10, 11] [] rfl rfl (by decide) (by decide) (va_runV (C := RX5) (As := []) (rest := []) ⟨hx, hb, hml, hown, hts⟩ (kX5_takesCandidates l D cI cJ cO N aM Mnow Mread Mpast Mchanges Mtext Mletters Mheads Msets Mballots Mranks Mloads Mbelow Morder Melected Mmembers Mabove Munder Mspot Mvalue u18 e19 H.size) (cwV 0 hts gX5_takesItem_X5_takesCandidates rfl rfl rfl (by decide +kernel) ⟨Nat.le_of_ble_eq_true rfl, Nat.le_of_ble_eq_true rfl⟩) (zk_preV (wc := zwM cI cJ aM Mnow Mread Mpast Mchanges Mtext Mletters Mheads Msets Mballots Mranks Mloads Mbelow Morder Melected Mmembers Mabove Munder Mspot Mvalue) hN hK hw [0, 1, 2, 3, 4, 5, 6, 7, 8, 9, 10, 11] rfl (by decide) 0 5 rfl rfl) rfl rfl hl.1 rfl (lv_room (Nat.le_of_ble_eq_true rfl)) dX5_takesItem_85 ⟨Nat.zero_le _, Nat.zero_le _⟩) (fun H locs hw => ?_)
          have hw : Wd D A s.heap (zwM cI cJ aM Mnow u18.2.1 Mpast Mchanges Mtext Mletters Mheads Msets Mballots Mranks Mloads Mbelow Morder Melected Mmembers Mabove Munder u18.2.2.1 u18.2.2.2) H locs := hw
          refine lv_if_eq (tgt := 104) hx hb dX5_takesItem_88 (by decide) (fun c20 => ?_) (fun c20 => ?_)
          · replace hf := zk_t c20 hf
            refine lv_iconst (v := 0) hx hb dX5_takesItem_104 (by decide) ?_
            cases hf
            exact zk_iret hx hb hr hlocks rfl hQ hw [0, 1, 2, 3, 4, 5, 6, 7, 8, 9, 10, 11] rfl (by decide) dX5_takesItem_105
          · replace hf := zk_f c20 hf
            refine lv_aload_n hx hb dX5_takesItem_91 rfl (lv_at hl 1 rfl) ?_
            refine lv_bipush (v := 59) hx hb dX5_takesItem_92 (by decide) ?_
            obtain ⟨u21, e22, hf⟩ := zk_bd hf
            refine zk_calli (wc := zwM cI cJ aM Mnow u18.2.1 Mpast Mchanges Mtext Mletters Mheads Msets Mballots Mranks Mloads Mbelow Morder Melected Mmembers Mabove Munder u18.2.2.1 u18.2.2.2) (wr := []) hw hA [0, 1, 2, 3, 4, 5, 6, 7, 8, 9, 10, 11] [] rfl rfl (by decide) (by decide) (va_runV (C := RX5) (As := [.int (59 : Int32)]) (rest := []) ⟨hx, hb, hml, hown, hts⟩ (kX5_takes l D cI cJ cO N aM (59 : Int32) Mnow u18.2.1 Mpast Mchanges Mtext Mletters Mheads Msets Mballots Mranks Mloads Mbelow Morder Melected Mmembers Mabove Munder u18.2.2.1 u18.2.2.2 u21 e22 H.size) (cwV 1 hts gX5_takesItem_X5_takes rfl rfl rfl (by decide +kernel) ⟨Nat.le_of_ble_eq_true rfl, Nat.le_of_ble_eq_true rfl⟩) (zk_preV (wc := zwM cI cJ aM Mnow u18.2.1 Mpast Mchanges Mtext Mletters Mheads Msets Mballots Mranks Mloads Mbelow Morder Melected Mmembers Mabove Munder u18.2.2.1 u18.2.2.2) hN hK hw [0, 1, 2, 3, 4, 5, 6, 7, 8, 9, 10, 11] rfl (by decide) 0 5 rfl rfl) rfl rfl hl.1 rfl (lv_room (Nat.le_of_ble_eq_true rfl)) dX5_takesItem_94 ⟨Nat.zero_le _, Nat.zero_le _⟩) (fun H locs hw => ?_)
            have hw : Wd D A s.heap (zwM cI cJ aM Mnow u18.2.1 Mpast Mchanges Mtext Mletters Mheads Msets Mballots Mranks Mloads Mbelow Morder Melected Mmembers Mabove Munder u21.2 u18.2.2.2) H locs := hw
            refine lv_if_eq (tgt := 104) hx hb dX5_takesItem_97 (by decide) (fun c23 => ?_) (fun c23 => ?_)
            · replace hf := zk_t c23 hf
              refine lv_iconst (v := 0) hx hb dX5_takesItem_104 (by decide) ?_
              cases hf
              exact zk_iret hx hb hr hlocks rfl hQ hw [0, 1, 2, 3, 4, 5, 6, 7, 8, 9, 10, 11] rfl (by decide) dX5_takesItem_105
            · replace hf := zk_f c23 hf
              refine lv_iconst (v := 1) hx hb dX5_takesItem_100 (by decide) ?_
              refine lv_goto (tgt := 105) hx hb dX5_takesItem_101 (by decide) ?_
              cases hf
              exact zk_iret hx hb hr hlocks rfl hQ hw [0, 1, 2, 3, 4, 5, 6, 7, 8, 9, 10, 11] rfl (by decide) dX5_takesItem_105
        · replace hf := zk_f c17 hf
          by_cases c24 : x1 = 111
          · replace hf := zk_t c24 hf
            refine lv_lookup (tgt := 158) (off := 117) hx hb dX5_takesItem_41 (by decide) (by rw [c24]; rfl) (by decide) ?_
            refine lv_iload_n hx hb dX5_takesItem_158 rfl (lv_at hl 0 rfl) ?_
            refine lv_if_eq (tgt := 182) hx hb dX5_takesItem_159 (by decide) (fun c25 => ?_) (fun c25 => ?_)
            · replace hf := zk_t c25 hf
              refine lv_iconst (v := 0) hx hb dX5_takesItem_182 (by decide) ?_
              cases hf
              exact zk_iret hx hb hr hlocks rfl hQ hw [0, 1, 2, 3, 4, 5, 6, 7, 8, 9, 10, 11] rfl (by decide) dX5_takesItem_183
            · replace hf := zk_f c25 hf
              refine lv_aload_n hx hb dX5_takesItem_162 rfl (lv_at hl 1 rfl) ?_
              obtain ⟨u26, e27, hf⟩ := zk_bd hf
              refine zk_calli (wc := zwM cI cJ aM Mnow Mread Mpast Mchanges Mtext Mletters Mheads Msets Mballots Mranks Mloads Mbelow Morder Melected Mmembers Mabove Munder Mspot Mvalue) (wr := []) hw hA [0, 1, 2, 3, 4, 5, 6, 7, 8, 9, 10, 11] [] rfl rfl (by decide) (by decide) (va_runV (C := RX5) (As := []) (rest := []) ⟨hx, hb, hml, hown, hts⟩ (kX5_takesRank l D cI cJ cO N aM Mnow Mread Mpast Mchanges Mtext Mletters Mheads Msets Mballots Mranks Mloads Mbelow Morder Melected Mmembers Mabove Munder Mspot Mvalue u26 e27 H.size) (cwV 0 hts gX5_takesItem_X5_takesRank rfl rfl rfl (by decide +kernel) ⟨Nat.le_of_ble_eq_true rfl, Nat.le_of_ble_eq_true rfl⟩) (zk_preV (wc := zwM cI cJ aM Mnow Mread Mpast Mchanges Mtext Mletters Mheads Msets Mballots Mranks Mloads Mbelow Morder Melected Mmembers Mabove Munder Mspot Mvalue) hN hK hw [0, 1, 2, 3, 4, 5, 6, 7, 8, 9, 10, 11] rfl (by decide) 0 5 rfl rfl) rfl rfl hl.1 rfl (lv_room (Nat.le_of_ble_eq_true rfl)) dX5_takesItem_163 ⟨Nat.zero_le _, Nat.zero_le _⟩) (fun H locs hw => ?_)
              have hw : Wd D A s.heap (zwM cI cJ aM Mnow u26.2.1 Mpast Mchanges Mtext Mletters Mheads Msets Mballots Mranks Mloads Mbelow Morder Melected Mmembers Mabove Munder u26.2.2 Mvalue) H locs := hw
              refine lv_if_eq (tgt := 182) hx hb dX5_takesItem_166 (by decide) (fun c28 => ?_) (fun c28 => ?_)
              · replace hf := zk_t c28 hf
                refine lv_iconst (v := 0) hx hb dX5_takesItem_182 (by decide) ?_
                cases hf
                exact zk_iret hx hb hr hlocks rfl hQ hw [0, 1, 2, 3, 4, 5, 6, 7, 8, 9, 10, 11] rfl (by decide) dX5_takesItem_183
              · replace hf := zk_f c28 hf
                refine lv_aload_n hx hb dX5_takesItem_169 rfl (lv_at hl 1 rfl) ?_
                refine lv_bipush (v := 59) hx hb dX5_takesItem_170 (by decide) ?_
                obtain ⟨u29, e30, hf⟩ := zk_bd hf
                refine zk_calli (wc := zwM cI cJ aM Mnow u26.2.1 Mpast Mchanges Mtext Mletters Mheads Msets Mballots Mranks Mloads Mbelow Morder Melected Mmembers Mabove Munder u26.2.2 Mvalue) (wr := []) hw hA [0, 1, 2, 3, 4, 5, 6, 7, 8, 9, 10, 11] [] rfl rfl (by decide) (by decide) (va_runV (C := RX5) (As := [.int (59 : Int32)]) (rest := []) ⟨hx, hb, hml, hown, hts⟩ (kX5_takes l D cI cJ cO N aM (59 : Int32) Mnow u26.2.1 Mpast Mchanges Mtext Mletters Mheads Msets Mballots Mranks Mloads Mbelow Morder Melected Mmembers Mabove Munder u26.2.2 Mvalue u29 e30 H.size) (cwV 1 hts gX5_takesItem_X5_takes rfl rfl rfl (by decide +kernel) ⟨Nat.le_of_ble_eq_true rfl, Nat.le_of_ble_eq_true rfl⟩) (zk_preV (wc := zwM cI cJ aM Mnow u26.2.1 Mpast Mchanges Mtext Mletters Mheads Msets Mballots Mranks Mloads Mbelow Morder Melected Mmembers Mabove Munder u26.2.2 Mvalue) hN hK hw [0, 1, 2, 3, 4, 5, 6, 7, 8, 9, 10, 11] rfl (by decide) 0 5 rfl rfl) rfl rfl hl.1 rfl (lv_room (Nat.le_of_ble_eq_true rfl)) dX5_takesItem_172 ⟨Nat.zero_le _, Nat.zero_le _⟩) (fun H locs hw => ?_)
                have hw : Wd D A s.heap (zwM cI cJ aM Mnow u26.2.1 Mpast Mchanges Mtext Mletters Mheads Msets Mballots Mranks Mloads Mbelow Morder Melected Mmembers Mabove Munder u29.2 Mvalue) H locs := hw
                refine lv_if_eq (tgt := 182) hx hb dX5_takesItem_175 (by decide) (fun c31 => ?_) (fun c31 => ?_)
                · replace hf := zk_t c31 hf
                  refine lv_iconst (v := 0) hx hb dX5_takesItem_182 (by decide) ?_
                  cases hf
                  exact zk_iret hx hb hr hlocks rfl hQ hw [0, 1, 2, 3, 4, 5, 6, 7, 8, 9, 10, 11] rfl (by decide) dX5_takesItem_183
                · replace hf := zk_f c31 hf
                  refine lv_iconst (v := 1) hx hb dX5_takesItem_178 (by decide) ?_
                  refine lv_goto (tgt := 183) hx hb dX5_takesItem_179 (by decide) ?_
                  cases hf
                  exact zk_iret hx hb hr hlocks rfl hQ hw [0, 1, 2, 3, 4, 5, 6, 7, 8, 9, 10, 11] rfl (by decide) dX5_takesItem_183
          · replace hf := zk_f c24 hf
            refine lv_lookup (tgt := 184) (off := 143) hx hb dX5_takesItem_41 (by decide) (by show Op.lookupswitch.offset [(98, 65), (107, 91), (110, 43), (111, 117)] 143 _ = _; rw [lv_osw c1 (k := 98) (a := 98) rfl, lv_osw c9 (k := 107) (a := 107) rfl, lv_osw c17 (k := 110) (a := 110) rfl, lv_osw c24 (k := 111) (a := 111) rfl]; rfl) (by decide) ?_
            refine lv_iconst (v := 0) hx hb dX5_takesItem_184 (by decide) ?_
            cases hf
            exact zk_iret hx hb hr hlocks rfl hQ hw [0, 1, 2, 3, 4, 5, 6, 7, 8, 9, 10, 11] rfl (by decide) dX5_takesItem_185
  have b34 : ∀ (x1 : Int32) (Mread : Nat → Int32) (Mspot : Int32) (Mvalue : Int32), fX5_takesItem_b34 N x1 Mread Mtext Mletters Mspot Mvalue = some u → ∀ (H : Heap) (locs : List Loc) (ls : Array Slot), Wd D A s.heap (zwM cI cJ aM Mnow Mread Mpast Mchanges Mtext Mletters Mheads Msets Mballots Mranks Mloads Mbelow Morder Melected Mmembers Mabove Munder Mspot Mvalue) H locs → lv_has ls 3 [(0, .ref (aM 0)), (1, .int x1)] → W p l e (zk_rm 4 84) s m args below meth c H locs 0 0 Q (F0 m 34 ls []) := by
    intro x1 Mread Mspot Mvalue hf H locs ls hw hl
    unfold fX5_takesItem_b34 at hf
    refine lv_iconst (v := 1) hx hb dX5_takesItem_34 (by decide) ?_
    refine lv_goto (tgt := 39) hx hb dX5_takesItem_35 (by decide) ?_
    exact b39 x1 (1 : Int32) Mread Mspot Mvalue hf H locs ls hw (lv_sub hl [0, 1] rfl)
  unfold fX5_takesItem at hf
  refine lv_aload_n hx hb dX5_takesItem_0 rfl (lv_at hl 0 rfl) ?_
  refine lv_aload_n hx hb dX5_takesItem_1 rfl (lv_at hl 0 rfl) ?_
  refine va_get (D := D) (ci := 5) (v := .int Mspot) (C := RX5) (T := TX5) (N := 19) hx hb hts hiX5 hown hK hw.1 0 rfl rfl 17 (by decide) hq0 (fun _ h9 => h9) rfl dX5_takesItem_2 ?_
  obtain ⟨u32, e33, hf⟩ := zk_bd hf
  refine zk_calli (wc := zwM cI cJ aM Mnow Mread Mpast Mchanges Mtext Mletters Mheads Msets Mballots Mranks Mloads Mbelow Morder Melected Mmembers Mabove Munder Mspot Mvalue) (wr := []) hw hA [0, 1, 2, 3, 4, 5, 6, 7, 8, 9, 10, 11] [] rfl rfl (by decide) (by decide) (va_runV (C := RX5) (As := [.int Mspot]) (rest := []) ⟨hx, hb, hml, hown, hts⟩ (kX5_letterAt l D cI cJ cO N aM Mspot Mnow Mread Mpast Mchanges Mtext Mletters Mheads Msets Mballots Mranks Mloads Mbelow Morder Melected Mmembers Mabove Munder Mspot Mvalue u32 e33 H.size) (cwV 1 hts gX5_takesItem_X5_letterAt rfl rfl rfl (by decide +kernel) ⟨Nat.le_of_ble_eq_true rfl, Nat.le_of_ble_eq_true rfl⟩) (zk_preV (wc := zwM cI cJ aM Mnow Mread Mpast Mchanges Mtext Mletters Mheads Msets Mballots Mranks Mloads Mbelow Morder Melected Mmembers Mabove Munder Mspot Mvalue) hN hK hw [0, 1, 2, 3, 4, 5, 6, 7, 8, 9, 10, 11] rfl (by decide) 0 5 rfl rfl) rfl rfl hl.1 rfl (lv_room (Nat.le_of_ble_eq_true rfl)) dX5_takesItem_5 ⟨Nat.zero_le _, Nat.zero_le _⟩) (fun H locs hw => ?_)
  have hw : Wd D A s.heap (zwM cI cJ aM Mnow Mread Mpast Mchanges Mtext Mletters Mheads Msets Mballots Mranks Mloads Mbelow Morder Melected Mmembers Mabove Munder Mspot Mvalue) H locs := hw
  refine lv_istore_n (lv' := [(1, .int u32), (0, .ref (aM 0))]) hx hb dX5_takesItem_8 rfl hl (by decide) rfl (fun ls hl => ?_)
  refine lv_aload_n hx hb dX5_takesItem_9 rfl (lv_at hl 1 rfl) ?_
  refine lv_dup hx hb dX5_takesItem_10 rfl ?_
  refine va_get (D := D) (ci := 5) (v := .int Mspot) (C := RX5) (T := TX5) (N := 19) hx hb hts hiX5 hown hK hw.1 0 rfl rfl 17 (by decide) hq0 (fun _ h9 => h9) rfl dX5_takesItem_11 ?_
  refine lv_iconst (v := 1) hx hb dX5_takesItem_14 (by decide) ?_
  refine lv_iadd hx hb dX5_takesItem_15 ?_
  refine va_put (D := D) (ci := 5) (v := .int (Mspot + (1 : Int32))) (C := RX5) (T := TX5) (N := 19) hx hb hts hiX5 tyX5 tyX5_ok nmX5 hown hK hw.1 hw.2.1 hw.2.2 0 rfl rfl 17 (by decide) hq0 (fun _ h9 => h9) rfl (tyX5_ok 17 (by decide)) rfl rfl (Nat.le_of_ble_eq_true rfl) dX5_takesItem_16 (fun H locs hP hD hS => ?_)
  have hw : Wd D A s.heap (zwM cI cJ aM Mnow Mread Mpast Mchanges Mtext Mletters Mheads Msets Mballots Mranks Mloads Mbelow Morder Melected Mmembers Mabove Munder (Mspot + (1 : Int32)) Mvalue) H locs := ⟨hP, hD, hS⟩
  clear hP hD hS
  refine lv_iload_n hx hb dX5_takesItem_19 rfl (lv_at hl 0 rfl) ?_
  refine lv_bipush (v := 110) hx hb dX5_takesItem_20 (by decide) ?_
  refine lv_icmp_eq (tgt := 34) hx hb dX5_takesItem_22 (by decide) (fun c34 => ?_) (fun c34 => ?_)
  · replace hf := zk_t c34 hf
    exact b34 u32 Mread (Mspot + (1 : Int32)) Mvalue hf H locs ls hw (lv_sub hl [1, 0] rfl)
  · replace hf := zk_f c34 hf
    refine lv_aload_n hx hb dX5_takesItem_25 rfl (lv_at hl 1 rfl) ?_
    refine va_get (D := D) (ci := 5) (v := .ref (aM 2)) (C := RX5) (T := TX5) (N := 19) hx hb hts hiX5 hown hK hw.1 0 rfl rfl 1 (by decide) hq1 (fun _ h9 => h9) rfl dX5_takesItem_26 ?_
    refine lv_iconst (v := 0) hx hb dX5_takesItem_29 (by decide) ?_
    refine zk_iald hx hb hK hw 2 rfl (zk_in (by decide)) (j := 0) rfl dX5_takesItem_30 ?_
    refine lv_if_le (tgt := 38) hx hb dX5_takesItem_31 (by decide) (fun c35 => ?_) (fun c35 => ?_)
    · replace hf := zk_t c35 hf
      refine lv_iconst (v := 0) hx hb dX5_takesItem_38 (by decide) ?_
      exact b39 u32 (0 : Int32) Mread (Mspot + (1 : Int32)) Mvalue hf H locs ls hw (lv_sub hl [1, 0] rfl)
    · replace hf := zk_f c35 hf
      exact b34 u32 Mread (Mspot + (1 : Int32)) Mvalue hf H locs ls hw (lv_sub hl [1, 0] rfl)
set_option maxHeartbeats 4000000 in
set_option maxRecDepth 100000 in
theorem kX5_faultOf (l : Launch) (D : va_G) (cI cJ cO : ClassId) (N : Nat) (aM : Nat → Nat) (Mnow : Nat → Int32) (Mread : Nat → Int32) (Mpast : Nat → Int32) (Mchanges : Int32) (Mtext : Nat → Int32) (Mletters : Int32) (Mheads : Nat → Int32) (Msets : Nat → Int32) (Mballots : Int32) (Mranks : Nat → Int32) (Mloads : Nat → Int64) (Mbelow : Int64) (Morder : Nat → Int32) (Melected : Int32) (Mmembers : Int32) (Mabove : Nat → Int64) (Munder : Nat → Int64) (Mspot : Int32) (Mvalue : Int32) (u : Int32 × (Nat → Int32) × (Int32) × (Int32)) (hf : fX5_faultOf N Mread Mtext Mletters Mspot Mvalue = some u) : CtI l yX5_faultOf wsX5_faultOf (zk_rm 5 106) D cI cJ cO [.ref (aM 0)] (zwM cI cJ aM Mnow Mread Mpast Mchanges Mtext Mletters Mheads Msets Mballots Mranks Mloads Mbelow Morder Melected Mmembers Mabove Munder Mspot Mvalue) (zwM cI cJ aM Mnow u.2.1 Mpast Mchanges Mtext Mletters Mheads Msets Mballots Mranks Mloads Mbelow Morder Melected Mmembers Mabove Munder u.2.2.1 u.2.2.2) (u.1) := by
  refine zk_enter (cc := cX5_faultOf) (maxL := 2) (ret := some .int) (own := RX5) (Qf := fun A => QwI D (zwM cI cJ aM Mnow u.2.1 Mpast Mchanges Mtext Mletters Mheads Msets Mballots Mranks Mloads Mbelow Morder Melected Mmembers Mabove Munder u.2.2.1 u.2.2.2) (u.1) A) (by decide) rfl rfl (Nat.le_of_ble_eq_true rfl) ?_
  intro p e s m args below meth c A Q H locs ls hC hQ hw hl
  obtain ⟨hx, hb, hml, hr, hts, hown, hlocks, hN, hK, hA⟩ := hC
  have hl : lv_has ls 2 [(0, .ref (aM 0))] := hl
  have hiX5 : ∀ w ∈ u_ws RX5 TX5 19, w ∈ wsX5_faultOf := by decide +kernel
  have hq0 := hts (.fieldLink RX5 56 "LoadCouncilModel" "spot" "I") (by decide +kernel)
  have hq1 := hts (.fieldLink RX5 52 "LoadCouncilModel" "letters" "I") (by decide +kernel)
  have hq2 := hts (.fieldLink RX5 13 "LoadCouncilModel" "read" "[I") (by decide +kernel)
  have b34 : ∀ (n34 : Nat), ∀ (Mread : Nat → Int32) (Mspot : Int32) (Mvalue : Int32), fX5_faultOf_b34 N n34 Mread Mtext Mletters Mspot Mvalue = some u → ∀ (H : Heap) (locs : List Loc) (ls : Array Slot), Wd D A s.heap (zwM cI cJ aM Mnow Mread Mpast Mchanges Mtext Mletters Mheads Msets Mballots Mranks Mloads Mbelow Morder Melected Mmembers Mabove Munder Mspot Mvalue) H locs → lv_has ls 2 [(0, .ref (aM 0))] → W p l e (zk_rm 5 106) s m args below meth c H locs 0 0 Q (F0 m 34 ls []) := by
    intro n34
    induction n34 with
    | zero =>
      intro Mread Mspot Mvalue hf
      exact zk_none hf
    | succ n34 ih34 =>
      intro Mread Mspot Mvalue hf H locs ls hw hl
      rw [fX5_faultOf_b34] at hf
      refine lv_aload_n hx hb dX5_faultOf_34 rfl (lv_at hl 0 rfl) ?_
      refine va_get (D := D) (ci := 5) (v := .int Mspot) (C := RX5) (T := TX5) (N := 19) hx hb hts hiX5 hown hK hw.1 0 rfl rfl 17 (by decide) hq0 (fun _ h9 => h9) rfl dX5_faultOf_35 ?_
      refine lv_aload_n hx hb dX5_faultOf_38 rfl (lv_at hl 0 rfl) ?_
      refine va_get (D := D) (ci := 5) (v := .int Mletters) (C := RX5) (T := TX5) (N := 19) hx hb hts hiX5 hown hK hw.1 0 rfl rfl 5 (by decide) hq1 (fun _ h9 => h9) rfl dX5_faultOf_39 ?_
      refine lv_icmp_ge (tgt := 62) hx hb dX5_faultOf_42 (by decide) (fun c1 => ?_) (fun c1 => ?_)
      · replace hf := zk_t c1 hf
        refine lv_bipush (v := (-4)) hx hb dX5_faultOf_62 (by decide) ?_
        cases hf
        exact zk_iret hx hb hr hlocks rfl hQ hw [0, 1, 2, 3, 4, 5, 6, 7, 8, 9, 10, 11] rfl (by decide) dX5_faultOf_64
      · replace hf := zk_f c1 hf
        refine lv_aload_n hx hb dX5_faultOf_45 rfl (lv_at hl 0 rfl) ?_
        refine va_get (D := D) (ci := 5) (v := .int Mspot) (C := RX5) (T := TX5) (N := 19) hx hb hts hiX5 hown hK hw.1 0 rfl rfl 17 (by decide) hq0 (fun _ h9 => h9) rfl dX5_faultOf_46 ?_
        refine lv_istore_n (lv' := [(1, .int Mspot), (0, .ref (aM 0))]) hx hb dX5_faultOf_49 rfl hl (by decide) rfl (fun ls hl => ?_)
        refine lv_aload_n hx hb dX5_faultOf_50 rfl (lv_at hl 1 rfl) ?_
        obtain ⟨u2, e3, hf⟩ := zk_bd hf
        refine zk_calli (wc := zwM cI cJ aM Mnow Mread Mpast Mchanges Mtext Mletters Mheads Msets Mballots Mranks Mloads Mbelow Morder Melected Mmembers Mabove Munder Mspot Mvalue) (wr := []) hw hA [0, 1, 2, 3, 4, 5, 6, 7, 8, 9, 10, 11] [] rfl rfl (by decide) (by decide) (va_runV (C := RX5) (As := []) (rest := []) ⟨hx, hb, hml, hown, hts⟩ (kX5_takesItem l D cI cJ cO N aM Mnow Mread Mpast Mchanges Mtext Mletters Mheads Msets Mballots Mranks Mloads Mbelow Morder Melected Mmembers Mabove Munder Mspot Mvalue u2 e3 H.size) (cwV 0 hts gX5_faultOf_X5_takesItem rfl rfl rfl (by decide +kernel) ⟨Nat.le_of_ble_eq_true rfl, Nat.le_of_ble_eq_true rfl⟩) (zk_preV (wc := zwM cI cJ aM Mnow Mread Mpast Mchanges Mtext Mletters Mheads Msets Mballots Mranks Mloads Mbelow Morder Melected Mmembers Mabove Munder Mspot Mvalue) hN hK hw [0, 1, 2, 3, 4, 5, 6, 7, 8, 9, 10, 11] rfl (by decide) 0 5 rfl rfl) rfl rfl hl.1 rfl (lv_room (Nat.le_of_ble_eq_true rfl)) dX5_faultOf_51 ⟨Nat.zero_le _, Nat.zero_le _⟩) (fun H locs hw => ?_)
        have hw : Wd D A s.heap (zwM cI cJ aM Mnow u2.2.1 Mpast Mchanges Mtext Mletters Mheads Msets Mballots Mranks Mloads Mbelow Morder Melected Mmembers Mabove Munder u2.2.2.1 u2.2.2.2) H locs := hw
        refine lv_if_ne (tgt := 59) hx hb dX5_faultOf_54 (by decide) (fun c4 => ?_) (fun c4 => ?_)
        · replace hf := zk_f c4 hf
          refine lv_goto (tgt := 34) hx hb dX5_faultOf_59 (by decide) ?_
          exact ih34 u2.2.1 u2.2.2.1 u2.2.2.2 hf H locs ls hw (lv_sub hl [1] rfl)
        · replace hf := zk_t c4 hf
          refine lv_iload_n hx hb dX5_faultOf_57 rfl (lv_at hl 0 rfl) ?_
          cases hf
          exact zk_iret hx hb hr hlocks rfl hQ hw [0, 1, 2, 3, 4, 5, 6, 7, 8, 9, 10, 11] rfl (by decide) dX5_faultOf_58
  have b21 : ∀ (Mread : Nat → Int32) (Mspot : Int32) (Mvalue : Int32), fX5_faultOf_b21 N Mread Mtext Mletters Mspot Mvalue = some u → ∀ (H : Heap) (locs : List Loc) (ls : Array Slot), Wd D A s.heap (zwM cI cJ aM Mnow Mread Mpast Mchanges Mtext Mletters Mheads Msets Mballots Mranks Mloads Mbelow Morder Melected Mmembers Mabove Munder Mspot Mvalue) H locs → lv_has ls 2 [(0, .ref (aM 0))] → W p l e (zk_rm 5 106) s m args below meth c H locs 0 0 Q (F0 m 21 ls []) := by
    intro Mread Mspot Mvalue hf H locs ls hw hl
    unfold fX5_faultOf_b21 at hf
    refine lv_aload_n hx hb dX5_faultOf_21 rfl (lv_at hl 0 rfl) ?_
    refine va_get (D := D) (ci := 5) (v := .ref (aM 2)) (C := RX5) (T := TX5) (N := 19) hx hb hts hiX5 hown hK hw.1 0 rfl rfl 1 (by decide) hq2 (fun _ h9 => h9) rfl dX5_faultOf_22 ?_
    refine lv_bipush (v := 22) hx hb dX5_faultOf_25 (by decide) ?_
    refine lv_iconst (v := 3) hx hb dX5_faultOf_27 (by decide) ?_
    refine zk_iast hx hb hK hw 2 rfl (zk_in (by decide)) (j := 22) rfl dX5_faultOf_28 (fun H locs hw => ?_)
    have hw : Wd D A s.heap (zwM cI cJ aM Mnow (upd Mread 22 (3 : Int32)) Mpast Mchanges Mtext Mletters Mheads Msets Mballots Mranks Mloads Mbelow Morder Melected Mmembers Mabove Munder Mspot Mvalue) H locs := hw
    refine lv_aload_n hx hb dX5_faultOf_29 rfl (lv_at hl 0 rfl) ?_
    refine lv_iconst (v := 0) hx hb dX5_faultOf_30 (by decide) ?_
    refine va_put (D := D) (ci := 5) (v := .int (0 : Int32)) (C := RX5) (T := TX5) (N := 19) hx hb hts hiX5 tyX5 tyX5_ok nmX5 hown hK hw.1 hw.2.1 hw.2.2 0 rfl rfl 17 (by decide) hq0 (fun _ h9 => h9) rfl (tyX5_ok 17 (by decide)) rfl rfl (Nat.le_of_ble_eq_true rfl) dX5_faultOf_31 (fun H locs hP hD hS => ?_)
    have hw : Wd D A s.heap (zwM cI cJ aM Mnow (upd Mread 22 (3 : Int32)) Mpast Mchanges Mtext Mletters Mheads Msets Mballots Mranks Mloads Mbelow Morder Melected Mmembers Mabove Munder (0 : Int32) Mvalue) H locs := ⟨hP, hD, hS⟩
    clear hP hD hS
    exact b34 N (upd Mread 22 (3 : Int32)) (0 : Int32) Mvalue hf H locs ls hw (lv_sub hl [0] rfl)
  have b2 : ∀ (n2 : Nat), ∀ (x1 : Int32) (Mread : Nat → Int32) (Mspot : Int32) (Mvalue : Int32), fX5_faultOf_b2 N n2 x1 Mread Mtext Mletters Mspot Mvalue = some u → ∀ (H : Heap) (locs : List Loc) (ls : Array Slot), Wd D A s.heap (zwM cI cJ aM Mnow Mread Mpast Mchanges Mtext Mletters Mheads Msets Mballots Mranks Mloads Mbelow Morder Melected Mmembers Mabove Munder Mspot Mvalue) H locs → lv_has ls 2 [(0, .ref (aM 0)), (1, .int x1)] → W p l e (zk_rm 5 106) s m args below meth c H locs 0 0 Q (F0 m 2 ls []) := by
    intro n2
    induction n2 with
    | zero =>
      intro x1 Mread Mspot Mvalue hf
      exact zk_none hf
    | succ n2 ih2 =>
      intro x1 Mread Mspot Mvalue hf H locs ls hw hl
      rw [fX5_faultOf_b2] at hf
      refine lv_iload_n hx hb dX5_faultOf_2 rfl (lv_at hl 1 rfl) ?_
      refine lv_bipush (v := 32) hx hb dX5_faultOf_3 (by decide) ?_
      refine lv_icmp_ge (tgt := 21) hx hb dX5_faultOf_5 (by decide) (fun c5 => ?_) (fun c5 => ?_)
      · replace hf := zk_t c5 hf
        exact b21 Mread Mspot Mvalue hf H locs ls hw (lv_sub hl [0] rfl)
      · replace hf := zk_f c5 hf
        refine lv_aload_n hx hb dX5_faultOf_8 rfl (lv_at hl 0 rfl) ?_
        refine va_get (D := D) (ci := 5) (v := .ref (aM 2)) (C := RX5) (T := TX5) (N := 19) hx hb hts hiX5 hown hK hw.1 0 rfl rfl 1 (by decide) hq2 (fun _ h9 => h9) rfl dX5_faultOf_9 ?_
        refine lv_iload_n hx hb dX5_faultOf_12 rfl (lv_at hl 1 rfl) ?_
        refine lv_iconst (v := 0) hx hb dX5_faultOf_13 (by decide) ?_
        obtain ⟨h6, hf⟩ := zk_ck hf
        refine zk_iast hx hb hK hw 2 rfl h6 (j := x1.toNatClampNeg) rfl dX5_faultOf_14 (fun H locs hw => ?_)
        have hw : Wd D A s.heap (zwM cI cJ aM Mnow (upd Mread x1.toNatClampNeg (0 : Int32)) Mpast Mchanges Mtext Mletters Mheads Msets Mballots Mranks Mloads Mbelow Morder Melected Mmembers Mabove Munder Mspot Mvalue) H locs := hw
        refine lv_iinc (v := (x1 + (1 : Int32))) (lv' := [(1, .int (x1 + (1 : Int32))), (0, .ref (aM 0))]) hx hb dX5_faultOf_15 hl (k := 1) rfl rfl (by decide) rfl (fun ls hl => ?_)
        refine lv_goto (tgt := 2) hx hb dX5_faultOf_18 (by decide) ?_
        exact ih2 (x1 + (1 : Int32)) (upd Mread x1.toNatClampNeg (0 : Int32)) Mspot Mvalue hf H locs ls hw (lv_sub hl [1, 0] rfl)
  unfold fX5_faultOf at hf
  refine lv_iconst (v := 0) hx hb dX5_faultOf_0 (by decide) ?_
  refine lv_istore_n (lv' := [(1, .int (0 : Int32)), (0, .ref (aM 0))]) hx hb dX5_faultOf_1 rfl hl (by decide) rfl (fun ls hl => ?_)
  exact b2 N (0 : Int32) Mread Mspot Mvalue hf H locs ls hw (lv_sub hl [1, 0] rfl)
set_option maxHeartbeats 4000000 in
set_option maxRecDepth 100000 in
theorem kX5_fault (l : Launch) (D : va_G) (cI cJ cO : ClassId) (N : Nat) (aM : Nat → Nat) (Mnow : Nat → Int32) (Mread : Nat → Int32) (Mpast : Nat → Int32) (Mchanges : Int32) (Mtext : Nat → Int32) (Mletters : Int32) (Mheads : Nat → Int32) (Msets : Nat → Int32) (Mballots : Int32) (Mranks : Nat → Int32) (Mloads : Nat → Int64) (Mbelow : Int64) (Morder : Nat → Int32) (Melected : Int32) (Mmembers : Int32) (Mabove : Nat → Int64) (Munder : Nat → Int64) (Mspot : Int32) (Mvalue : Int32) (u : Int32 × (Nat → Int32) × (Int32) × (Int32)) (hf : fX5_fault N Mread Mtext Mletters Mspot Mvalue = some u) : CtI l yX5_fault wsX5_fault (zk_rm 6 127) D cI cJ cO [.ref (aM 0)] (zwM cI cJ aM Mnow Mread Mpast Mchanges Mtext Mletters Mheads Msets Mballots Mranks Mloads Mbelow Morder Melected Mmembers Mabove Munder Mspot Mvalue) (zwM cI cJ aM Mnow u.2.1 Mpast Mchanges Mtext Mletters Mheads Msets Mballots Mranks Mloads Mbelow Morder Melected Mmembers Mabove Munder u.2.2.1 u.2.2.2) (u.1) := by
  refine zk_enter (cc := cX5_fault) (maxL := 1) (ret := some .int) (own := RX5) (Qf := fun A => QwI D (zwM cI cJ aM Mnow u.2.1 Mpast Mchanges Mtext Mletters Mheads Msets Mballots Mranks Mloads Mbelow Morder Melected Mmembers Mabove Munder u.2.2.1 u.2.2.2) (u.1) A) (by decide) rfl rfl (Nat.le_of_ble_eq_true rfl) ?_
  intro p e s m args below meth c A Q H locs ls hC hQ hw hl
  obtain ⟨hx, hb, hml, hr, hts, hown, hlocks, hN, hK, hA⟩ := hC
  have hl : lv_has ls 1 [(0, .ref (aM 0))] := hl
  unfold fX5_fault at hf
  refine lv_aload_n hx hb dX5_fault_0 rfl (lv_at hl 0 rfl) ?_
  obtain ⟨u1, e2, hf⟩ := zk_bd hf
  refine zk_calli (wc := zwM cI cJ aM Mnow Mread Mpast Mchanges Mtext Mletters Mheads Msets Mballots Mranks Mloads Mbelow Morder Melected Mmembers Mabove Munder Mspot Mvalue) (wr := []) hw hA [0, 1, 2, 3, 4, 5, 6, 7, 8, 9, 10, 11] [] rfl rfl (by decide) (by decide) (va_runV (C := RX5) (As := []) (rest := []) ⟨hx, hb, hml, hown, hts⟩ (kX5_faultOf l D cI cJ cO N aM Mnow Mread Mpast Mchanges Mtext Mletters Mheads Msets Mballots Mranks Mloads Mbelow Morder Melected Mmembers Mabove Munder Mspot Mvalue u1 e2 H.size) (cwV 0 hts gX5_fault_X5_faultOf rfl rfl rfl (by decide +kernel) ⟨Nat.le_of_ble_eq_true rfl, Nat.le_of_ble_eq_true rfl⟩) (zk_preV (wc := zwM cI cJ aM Mnow Mread Mpast Mchanges Mtext Mletters Mheads Msets Mballots Mranks Mloads Mbelow Morder Melected Mmembers Mabove Munder Mspot Mvalue) hN hK hw [0, 1, 2, 3, 4, 5, 6, 7, 8, 9, 10, 11] rfl (by decide) 0 5 rfl rfl) rfl rfl hl.1 rfl (lv_room (Nat.le_of_ble_eq_true rfl)) dX5_fault_1 ⟨Nat.zero_le _, Nat.zero_le _⟩) (fun H locs hw => ?_)
  have hw : Wd D A s.heap (zwM cI cJ aM Mnow u1.2.1 Mpast Mchanges Mtext Mletters Mheads Msets Mballots Mranks Mloads Mbelow Morder Melected Mmembers Mabove Munder u1.2.2.1 u1.2.2.2) H locs := hw
  cases hf
  exact zk_iret hx hb hr hlocks rfl hQ hw [0, 1, 2, 3, 4, 5, 6, 7, 8, 9, 10, 11] rfl (by decide) dX5_fault_4
set_option maxHeartbeats 4000000 in
set_option maxRecDepth 100000 in
theorem kX5_lay (l : Launch) (D : va_G) (cI cJ cO : ClassId) (N : Nat) (aM : Nat → Nat) (Mnow : Nat → Int32) (Mread : Nat → Int32) (Mpast : Nat → Int32) (Mchanges : Int32) (Mtext : Nat → Int32) (Mletters : Int32) (Mheads : Nat → Int32) (Msets : Nat → Int32) (Mballots : Int32) (Mranks : Nat → Int32) (Mloads : Nat → Int64) (Mbelow : Int64) (Morder : Nat → Int32) (Melected : Int32) (Mmembers : Int32) (Mabove : Nat → Int64) (Munder : Nat → Int64) (Mspot : Int32) (Mvalue : Int32) (u : Int32 × (Nat → Int32) × (Nat → Int32) × (Int32) × (Int32) × (Int32)) (hf : fX5_lay N Mnow Mread Mchanges Mtext Mletters Mspot Mvalue = some u) : CtI l yX5_lay wsX5_lay (zk_rm 6 127) D cI cJ cO [.ref (aM 0)] (zwM cI cJ aM Mnow Mread Mpast Mchanges Mtext Mletters Mheads Msets Mballots Mranks Mloads Mbelow Morder Melected Mmembers Mabove Munder Mspot Mvalue) (zwM cI cJ aM u.2.1 u.2.2.1 Mpast u.2.2.2.1 Mtext Mletters Mheads Msets Mballots Mranks Mloads Mbelow Morder Melected Mmembers Mabove Munder u.2.2.2.2.1 u.2.2.2.2.2) (u.1) := by
  refine zk_enter (cc := cX5_lay) (maxL := 2) (ret := some .int) (own := RX5) (Qf := fun A => QwI D (zwM cI cJ aM u.2.1 u.2.2.1 Mpast u.2.2.2.1 Mtext Mletters Mheads Msets Mballots Mranks Mloads Mbelow Morder Melected Mmembers Mabove Munder u.2.2.2.2.1 u.2.2.2.2.2) (u.1) A) (by decide) rfl rfl (Nat.le_of_ble_eq_true rfl) ?_
  intro p e s m args below meth c A Q H locs ls hC hQ hw hl
  obtain ⟨hx, hb, hml, hr, hts, hown, hlocks, hN, hK, hA⟩ := hC
  have hl : lv_has ls 2 [(0, .ref (aM 0))] := hl
  have hiX5 : ∀ w ∈ u_ws RX5 TX5 19, w ∈ wsX5_lay := by decide +kernel
  have hq0 := hts (.fieldLink RX5 106 "LoadCouncilModel" "changes" "I") (by decide +kernel)
  have hq1 := hts (.fieldLink RX5 7 "LoadCouncilModel" "now" "[I") (by decide +kernel)
  have hq2 := hts (.fieldLink RX5 13 "LoadCouncilModel" "read" "[I") (by decide +kernel)
  have b47 : ∀ (Mnow : Nat → Int32) (Mread : Nat → Int32) (Mchanges : Int32) (Mspot : Int32) (Mvalue : Int32), fX5_lay_b47 N Mnow Mread Mchanges Mspot Mvalue = some u → ∀ (H : Heap) (locs : List Loc) (ls : Array Slot), Wd D A s.heap (zwM cI cJ aM Mnow Mread Mpast Mchanges Mtext Mletters Mheads Msets Mballots Mranks Mloads Mbelow Morder Melected Mmembers Mabove Munder Mspot Mvalue) H locs → lv_has ls 2 [(0, .ref (aM 0))] → W p l e (zk_rm 6 127) s m args below meth c H locs 0 0 Q (F0 m 47 ls []) := by
    intro Mnow Mread Mchanges Mspot Mvalue hf H locs ls hw hl
    unfold fX5_lay_b47 at hf
    refine lv_aload_n hx hb dX5_lay_47 rfl (lv_at hl 0 rfl) ?_
    refine lv_iconst (v := 0) hx hb dX5_lay_48 (by decide) ?_
    refine va_put (D := D) (ci := 5) (v := .int (0 : Int32)) (C := RX5) (T := TX5) (N := 19) hx hb hts hiX5 tyX5 tyX5_ok nmX5 hown hK hw.1 hw.2.1 hw.2.2 0 rfl rfl 3 (by decide) hq0 (fun _ h9 => h9) rfl (tyX5_ok 3 (by decide)) rfl rfl (Nat.le_of_ble_eq_true rfl) dX5_lay_49 (fun H locs hP hD hS => ?_)
    have hw : Wd D A s.heap (zwM cI cJ aM Mnow Mread Mpast (0 : Int32) Mtext Mletters Mheads Msets Mballots Mranks Mloads Mbelow Morder Melected Mmembers Mabove Munder Mspot Mvalue) H locs := ⟨hP, hD, hS⟩
    clear hP hD hS
    refine lv_aload_n hx hb dX5_lay_52 rfl (lv_at hl 0 rfl) ?_
    refine va_get (D := D) (ci := 5) (v := .ref (aM 1)) (C := RX5) (T := TX5) (N := 19) hx hb hts hiX5 hown hK hw.1 0 rfl rfl 0 (by decide) hq1 (fun _ h9 => h9) rfl dX5_lay_53 ?_
    refine lv_iconst (v := 0) hx hb dX5_lay_56 (by decide) ?_
    refine zk_iald hx hb hK hw 1 rfl (zk_in (by decide)) (j := 0) rfl dX5_lay_57 ?_
    cases hf
    exact zk_iret hx hb hr hlocks rfl hQ hw [0, 1, 2, 3, 4, 5, 6, 7, 8, 9, 10, 11] rfl (by decide) dX5_lay_58
  have b23 : ∀ (n23 : Nat), ∀ (x1 : Int32) (Mnow : Nat → Int32) (Mread : Nat → Int32) (Mchanges : Int32) (Mspot : Int32) (Mvalue : Int32), fX5_lay_b23 N n23 x1 Mnow Mread Mchanges Mspot Mvalue = some u → ∀ (H : Heap) (locs : List Loc) (ls : Array Slot), Wd D A s.heap (zwM cI cJ aM Mnow Mread Mpast Mchanges Mtext Mletters Mheads Msets Mballots Mranks Mloads Mbelow Morder Melected Mmembers Mabove Munder Mspot Mvalue) H locs → lv_has ls 2 [(0, .ref (aM 0)), (1, .int x1)] → W p l e (zk_rm 6 127) s m args below meth c H locs 0 0 Q (F0 m 23 ls []) := by
    intro n23
    induction n23 with
    | zero =>
      intro x1 Mnow Mread Mchanges Mspot Mvalue hf
      exact zk_none hf
    | succ n23 ih23 =>
      intro x1 Mnow Mread Mchanges Mspot Mvalue hf H locs ls hw hl
      rw [fX5_lay_b23] at hf
      refine lv_iload_n hx hb dX5_lay_23 rfl (lv_at hl 1 rfl) ?_
      refine lv_bipush (v := 32) hx hb dX5_lay_24 (by decide) ?_
      refine lv_icmp_ge (tgt := 47) hx hb dX5_lay_26 (by decide) (fun c1 => ?_) (fun c1 => ?_)
      · replace hf := zk_t c1 hf
        exact b47 Mnow Mread Mchanges Mspot Mvalue hf H locs ls hw (lv_sub hl [0] rfl)
      · replace hf := zk_f c1 hf
        refine lv_aload_n hx hb dX5_lay_29 rfl (lv_at hl 0 rfl) ?_
        refine va_get (D := D) (ci := 5) (v := .ref (aM 1)) (C := RX5) (T := TX5) (N := 19) hx hb hts hiX5 hown hK hw.1 0 rfl rfl 0 (by decide) hq1 (fun _ h9 => h9) rfl dX5_lay_30 ?_
        refine lv_iload_n hx hb dX5_lay_33 rfl (lv_at hl 1 rfl) ?_
        refine lv_aload_n hx hb dX5_lay_34 rfl (lv_at hl 0 rfl) ?_
        refine va_get (D := D) (ci := 5) (v := .ref (aM 2)) (C := RX5) (T := TX5) (N := 19) hx hb hts hiX5 hown hK hw.1 0 rfl rfl 1 (by decide) hq2 (fun _ h9 => h9) rfl dX5_lay_35 ?_
        refine lv_iload_n hx hb dX5_lay_38 rfl (lv_at hl 1 rfl) ?_
        obtain ⟨h2, hf⟩ := zk_ck hf
        refine zk_iald hx hb hK hw 2 rfl h2 (j := x1.toNatClampNeg) rfl dX5_lay_39 ?_
        refine zk_iast hx hb hK hw 1 rfl h2 (j := x1.toNatClampNeg) rfl dX5_lay_40 (fun H locs hw => ?_)
        have hw : Wd D A s.heap (zwM cI cJ aM (upd Mnow x1.toNatClampNeg (Mread x1.toNatClampNeg)) Mread Mpast Mchanges Mtext Mletters Mheads Msets Mballots Mranks Mloads Mbelow Morder Melected Mmembers Mabove Munder Mspot Mvalue) H locs := hw
        refine lv_iinc (v := (x1 + (1 : Int32))) (lv' := [(1, .int (x1 + (1 : Int32))), (0, .ref (aM 0))]) hx hb dX5_lay_41 hl (k := 1) rfl rfl (by decide) rfl (fun ls hl => ?_)
        refine lv_goto (tgt := 23) hx hb dX5_lay_44 (by decide) ?_
        exact ih23 (x1 + (1 : Int32)) (upd Mnow x1.toNatClampNeg (Mread x1.toNatClampNeg)) Mread Mchanges Mspot Mvalue hf H locs ls hw (lv_sub hl [1, 0] rfl)
  unfold fX5_lay at hf
  refine lv_aload_n hx hb dX5_lay_0 rfl (lv_at hl 0 rfl) ?_
  obtain ⟨u3, e4, hf⟩ := zk_bd hf
  refine zk_calli (wc := zwM cI cJ aM Mnow Mread Mpast Mchanges Mtext Mletters Mheads Msets Mballots Mranks Mloads Mbelow Morder Melected Mmembers Mabove Munder Mspot Mvalue) (wr := []) hw hA [0, 1, 2, 3, 4, 5, 6, 7, 8, 9, 10, 11] [] rfl rfl (by decide) (by decide) (va_runV (C := RX5) (As := []) (rest := []) ⟨hx, hb, hml, hown, hts⟩ (kX5_faultOf l D cI cJ cO N aM Mnow Mread Mpast Mchanges Mtext Mletters Mheads Msets Mballots Mranks Mloads Mbelow Morder Melected Mmembers Mabove Munder Mspot Mvalue u3 e4 H.size) (cwV 0 hts gX5_lay_X5_faultOf rfl rfl rfl (by decide +kernel) ⟨Nat.le_of_ble_eq_true rfl, Nat.le_of_ble_eq_true rfl⟩) (zk_preV (wc := zwM cI cJ aM Mnow Mread Mpast Mchanges Mtext Mletters Mheads Msets Mballots Mranks Mloads Mbelow Morder Melected Mmembers Mabove Munder Mspot Mvalue) hN hK hw [0, 1, 2, 3, 4, 5, 6, 7, 8, 9, 10, 11] rfl (by decide) 0 5 rfl rfl) rfl rfl hl.1 rfl (lv_room (Nat.le_of_ble_eq_true rfl)) dX5_lay_1 ⟨Nat.zero_le _, Nat.zero_le _⟩) (fun H locs hw => ?_)
  have hw : Wd D A s.heap (zwM cI cJ aM Mnow u3.2.1 Mpast Mchanges Mtext Mletters Mheads Msets Mballots Mranks Mloads Mbelow Morder Melected Mmembers Mabove Munder u3.2.2.1 u3.2.2.2) H locs := hw
  refine lv_bipush (v := (-4)) hx hb dX5_lay_4 (by decide) ?_
  refine lv_icmp_ne (tgt := 18) hx hb dX5_lay_6 (by decide) (fun c5 => ?_) (fun c5 => ?_)
  · replace hf := zk_f c5 hf
    refine lv_bipush (v := (-2)) hx hb dX5_lay_18 (by decide) ?_
    cases hf
    exact zk_iret hx hb hr hlocks rfl hQ hw [0, 1, 2, 3, 4, 5, 6, 7, 8, 9, 10, 11] rfl (by decide) dX5_lay_20
  · replace hf := zk_t c5 hf
    refine lv_aload_n hx hb dX5_lay_9 rfl (lv_at hl 0 rfl) ?_
    refine va_get (D := D) (ci := 5) (v := .ref (aM 2)) (C := RX5) (T := TX5) (N := 19) hx hb hts hiX5 hown hK hw.1 0 rfl rfl 1 (by decide) hq2 (fun _ h9 => h9) rfl dX5_lay_10 ?_
    refine lv_iconst (v := 0) hx hb dX5_lay_13 (by decide) ?_
    refine zk_iald hx hb hK hw 2 rfl (zk_in (by decide)) (j := 0) rfl dX5_lay_14 ?_
    refine lv_if_ne (tgt := 21) hx hb dX5_lay_15 (by decide) (fun c6 => ?_) (fun c6 => ?_)
    · replace hf := zk_f c6 hf
      refine lv_iconst (v := 0) hx hb dX5_lay_21 (by decide) ?_
      refine lv_istore_n (lv' := [(1, .int (0 : Int32)), (0, .ref (aM 0))]) hx hb dX5_lay_22 rfl hl (by decide) rfl (fun ls hl => ?_)
      exact b23 N (0 : Int32) Mnow u3.2.1 Mchanges u3.2.2.1 u3.2.2.2 hf H locs ls hw (lv_sub hl [1, 0] rfl)
    · replace hf := zk_t c6 hf
      refine lv_bipush (v := (-2)) hx hb dX5_lay_18 (by decide) ?_
      cases hf
      exact zk_iret hx hb hr hlocks rfl hQ hw [0, 1, 2, 3, 4, 5, 6, 7, 8, 9, 10, 11] rfl (by decide) dX5_lay_20
set_option maxHeartbeats 4000000 in
set_option maxRecDepth 100000 in
theorem kX5_remembers (l : Launch) (D : va_G) (cI cJ cO : ClassId) (N : Nat) (aM : Nat → Nat) (Mnow : Nat → Int32) (Mread : Nat → Int32) (Mpast : Nat → Int32) (Mchanges : Int32) (Mtext : Nat → Int32) (Mletters : Int32) (Mheads : Nat → Int32) (Msets : Nat → Int32) (Mballots : Int32) (Mranks : Nat → Int32) (Mloads : Nat → Int64) (Mbelow : Int64) (Morder : Nat → Int32) (Melected : Int32) (Mmembers : Int32) (Mabove : Nat → Int64) (Munder : Nat → Int64) (Mspot : Int32) (Mvalue : Int32) (u : (Nat → Int32) × (Int32)) (hf : fX5_remembers N Mnow Mpast Mchanges = some u) : CtV l yX5_remembers wsX5_remembers (zk_rm 0 0) D cI cJ cO [.ref (aM 0)] (zwM cI cJ aM Mnow Mread Mpast Mchanges Mtext Mletters Mheads Msets Mballots Mranks Mloads Mbelow Morder Melected Mmembers Mabove Munder Mspot Mvalue) (zwM cI cJ aM Mnow Mread u.1 u.2 Mtext Mletters Mheads Msets Mballots Mranks Mloads Mbelow Morder Melected Mmembers Mabove Munder Mspot Mvalue) := by
  refine zk_enter (cc := cX5_remembers) (maxL := 2) (ret := none) (own := RX5) (Qf := fun A => QwV D (zwM cI cJ aM Mnow Mread u.1 u.2 Mtext Mletters Mheads Msets Mballots Mranks Mloads Mbelow Morder Melected Mmembers Mabove Munder Mspot Mvalue) A) (by decide) rfl rfl (Nat.le_of_ble_eq_true rfl) ?_
  intro p e s m args below meth c A Q H locs ls hC hQ hw hl
  obtain ⟨hx, hb, hml, hr, hts, hown, hlocks, hN, hK, hA⟩ := hC
  have hl : lv_has ls 2 [(0, .ref (aM 0))] := hl
  have hiX5 : ∀ w ∈ u_ws RX5 TX5 19, w ∈ wsX5_remembers := by decide +kernel
  have hq0 := hts (.fieldLink RX5 106 "LoadCouncilModel" "changes" "I") (by decide +kernel)
  have hq1 := hts (.fieldLink RX5 16 "LoadCouncilModel" "past" "[I") (by decide +kernel)
  have hq2 := hts (.fieldLink RX5 7 "LoadCouncilModel" "now" "[I") (by decide +kernel)
  have b83 : ∀ (Mpast : Nat → Int32) (Mchanges : Int32), fX5_remembers_b83 N Mpast Mchanges = some u → ∀ (H : Heap) (locs : List Loc) (ls : Array Slot), Wd D A s.heap (zwM cI cJ aM Mnow Mread Mpast Mchanges Mtext Mletters Mheads Msets Mballots Mranks Mloads Mbelow Morder Melected Mmembers Mabove Munder Mspot Mvalue) H locs → lv_has ls 2 [(0, .ref (aM 0))] → W p l e (zk_rm 0 0) s m args below meth c H locs 0 0 Q (F0 m 83 ls []) := by
    intro Mpast Mchanges hf H locs ls hw hl
    unfold fX5_remembers_b83 at hf
    refine lv_aload_n hx hb dX5_remembers_83 rfl (lv_at hl 0 rfl) ?_
    refine lv_dup hx hb dX5_remembers_84 rfl ?_
    refine va_get (D := D) (ci := 5) (v := .int Mchanges) (C := RX5) (T := TX5) (N := 19) hx hb hts hiX5 hown hK hw.1 0 rfl rfl 3 (by decide) hq0 (fun _ h9 => h9) rfl dX5_remembers_85 ?_
    refine lv_iconst (v := 1) hx hb dX5_remembers_88 (by decide) ?_
    refine lv_iadd hx hb dX5_remembers_89 ?_
    refine va_put (D := D) (ci := 5) (v := .int (Mchanges + (1 : Int32))) (C := RX5) (T := TX5) (N := 19) hx hb hts hiX5 tyX5 tyX5_ok nmX5 hown hK hw.1 hw.2.1 hw.2.2 0 rfl rfl 3 (by decide) hq0 (fun _ h9 => h9) rfl (tyX5_ok 3 (by decide)) rfl rfl (Nat.le_of_ble_eq_true rfl) dX5_remembers_90 (fun H locs hP hD hS => ?_)
    have hw : Wd D A s.heap (zwM cI cJ aM Mnow Mread Mpast (Mchanges + (1 : Int32)) Mtext Mletters Mheads Msets Mballots Mranks Mloads Mbelow Morder Melected Mmembers Mabove Munder Mspot Mvalue) H locs := ⟨hP, hD, hS⟩
    clear hP hD hS
    cases hf
    exact zk_vret hx hb hr hlocks hQ hw [0, 1, 2, 3, 4, 5, 6, 7, 8, 9, 10, 11] rfl (by decide) dX5_remembers_93
  have b51 : ∀ (n51 : Nat), ∀ (x1 : Int32) (Mpast : Nat → Int32) (Mchanges : Int32), fX5_remembers_b51 N n51 x1 Mnow Mpast Mchanges = some u → ∀ (H : Heap) (locs : List Loc) (ls : Array Slot), Wd D A s.heap (zwM cI cJ aM Mnow Mread Mpast Mchanges Mtext Mletters Mheads Msets Mballots Mranks Mloads Mbelow Morder Melected Mmembers Mabove Munder Mspot Mvalue) H locs → lv_has ls 2 [(0, .ref (aM 0)), (1, .int x1)] → W p l e (zk_rm 0 0) s m args below meth c H locs 0 0 Q (F0 m 51 ls []) := by
    intro n51
    induction n51 with
    | zero =>
      intro x1 Mpast Mchanges hf
      exact zk_none hf
    | succ n51 ih51 =>
      intro x1 Mpast Mchanges hf H locs ls hw hl
      rw [fX5_remembers_b51] at hf
      refine lv_iload_n hx hb dX5_remembers_51 rfl (lv_at hl 1 rfl) ?_
      refine lv_bipush (v := 32) hx hb dX5_remembers_52 (by decide) ?_
      refine lv_icmp_ge (tgt := 83) hx hb dX5_remembers_54 (by decide) (fun c1 => ?_) (fun c1 => ?_)
      · replace hf := zk_t c1 hf
        exact b83 Mpast Mchanges hf H locs ls hw (lv_sub hl [0] rfl)
      · replace hf := zk_f c1 hf
        refine lv_aload_n hx hb dX5_remembers_57 rfl (lv_at hl 0 rfl) ?_
        refine va_get (D := D) (ci := 5) (v := .ref (aM 3)) (C := RX5) (T := TX5) (N := 19) hx hb hts hiX5 hown hK hw.1 0 rfl rfl 2 (by decide) hq1 (fun _ h9 => h9) rfl dX5_remembers_58 ?_
        refine lv_bipush (v := 32) hx hb dX5_remembers_61 (by decide) ?_
        refine lv_aload_n hx hb dX5_remembers_63 rfl (lv_at hl 0 rfl) ?_
        refine va_get (D := D) (ci := 5) (v := .int Mchanges) (C := RX5) (T := TX5) (N := 19) hx hb hts hiX5 hown hK hw.1 0 rfl rfl 3 (by decide) hq0 (fun _ h9 => h9) rfl dX5_remembers_64 ?_
        refine lv_imul hx hb dX5_remembers_67 ?_
        refine lv_iload_n hx hb dX5_remembers_68 rfl (lv_at hl 1 rfl) ?_
        refine lv_iadd hx hb dX5_remembers_69 ?_
        refine lv_aload_n hx hb dX5_remembers_70 rfl (lv_at hl 0 rfl) ?_
        refine va_get (D := D) (ci := 5) (v := .ref (aM 1)) (C := RX5) (T := TX5) (N := 19) hx hb hts hiX5 hown hK hw.1 0 rfl rfl 0 (by decide) hq2 (fun _ h9 => h9) rfl dX5_remembers_71 ?_
        refine lv_iload_n hx hb dX5_remembers_74 rfl (lv_at hl 1 rfl) ?_
        obtain ⟨h2, hf⟩ := zk_ck hf
        refine zk_iald hx hb hK hw 1 rfl h2 (j := x1.toNatClampNeg) rfl dX5_remembers_75 ?_
        obtain ⟨h3, hf⟩ := zk_ck hf
        refine zk_iast hx hb hK hw 3 rfl h3 (j := (((32 : Int32) * Mchanges) + x1).toNatClampNeg) rfl dX5_remembers_76 (fun H locs hw => ?_)
        have hw : Wd D A s.heap (zwM cI cJ aM Mnow Mread (upd Mpast ((((32 : Int32) * Mchanges) + x1).toNatClampNeg) (Mnow x1.toNatClampNeg)) Mchanges Mtext Mletters Mheads Msets Mballots Mranks Mloads Mbelow Morder Melected Mmembers Mabove Munder Mspot Mvalue) H locs := hw
        refine lv_iinc (v := (x1 + (1 : Int32))) (lv' := [(1, .int (x1 + (1 : Int32))), (0, .ref (aM 0))]) hx hb dX5_remembers_77 hl (k := 1) rfl rfl (by decide) rfl (fun ls hl => ?_)
        refine lv_goto (tgt := 51) hx hb dX5_remembers_80 (by decide) ?_
        exact ih51 (x1 + (1 : Int32)) (upd Mpast ((((32 : Int32) * Mchanges) + x1).toNatClampNeg) (Mnow x1.toNatClampNeg)) Mchanges hf H locs ls hw (lv_sub hl [1, 0] rfl)
  have b49 : ∀ (Mpast : Nat → Int32) (Mchanges : Int32), fX5_remembers_b49 N Mnow Mpast Mchanges = some u → ∀ (H : Heap) (locs : List Loc) (ls : Array Slot), Wd D A s.heap (zwM cI cJ aM Mnow Mread Mpast Mchanges Mtext Mletters Mheads Msets Mballots Mranks Mloads Mbelow Morder Melected Mmembers Mabove Munder Mspot Mvalue) H locs → lv_has ls 2 [(0, .ref (aM 0))] → W p l e (zk_rm 0 0) s m args below meth c H locs 0 0 Q (F0 m 49 ls []) := by
    intro Mpast Mchanges hf H locs ls hw hl
    unfold fX5_remembers_b49 at hf
    refine lv_iconst (v := 0) hx hb dX5_remembers_49 (by decide) ?_
    refine lv_istore_n (lv' := [(1, .int (0 : Int32)), (0, .ref (aM 0))]) hx hb dX5_remembers_50 rfl hl (by decide) rfl (fun ls hl => ?_)
    exact b51 N (0 : Int32) Mpast Mchanges hf H locs ls hw (lv_sub hl [1, 0] rfl)
  have b39 : ∀ (Mpast : Nat → Int32) (Mchanges : Int32), fX5_remembers_b39 N Mnow Mpast Mchanges = some u → ∀ (H : Heap) (locs : List Loc) (ls : Array Slot), Wd D A s.heap (zwM cI cJ aM Mnow Mread Mpast Mchanges Mtext Mletters Mheads Msets Mballots Mranks Mloads Mbelow Morder Melected Mmembers Mabove Munder Mspot Mvalue) H locs → lv_has ls 2 [(0, .ref (aM 0))] → W p l e (zk_rm 0 0) s m args below meth c H locs 0 0 Q (F0 m 39 ls []) := by
    intro Mpast Mchanges hf H locs ls hw hl
    unfold fX5_remembers_b39 at hf
    refine lv_aload_n hx hb dX5_remembers_39 rfl (lv_at hl 0 rfl) ?_
    refine lv_dup hx hb dX5_remembers_40 rfl ?_
    refine va_get (D := D) (ci := 5) (v := .int Mchanges) (C := RX5) (T := TX5) (N := 19) hx hb hts hiX5 hown hK hw.1 0 rfl rfl 3 (by decide) hq0 (fun _ h9 => h9) rfl dX5_remembers_41 ?_
    refine lv_iconst (v := 1) hx hb dX5_remembers_44 (by decide) ?_
    refine lv_isub hx hb dX5_remembers_45 ?_
    refine va_put (D := D) (ci := 5) (v := .int (Mchanges - (1 : Int32))) (C := RX5) (T := TX5) (N := 19) hx hb hts hiX5 tyX5 tyX5_ok nmX5 hown hK hw.1 hw.2.1 hw.2.2 0 rfl rfl 3 (by decide) hq0 (fun _ h9 => h9) rfl (tyX5_ok 3 (by decide)) rfl rfl (Nat.le_of_ble_eq_true rfl) dX5_remembers_46 (fun H locs hP hD hS => ?_)
    have hw : Wd D A s.heap (zwM cI cJ aM Mnow Mread Mpast (Mchanges - (1 : Int32)) Mtext Mletters Mheads Msets Mballots Mranks Mloads Mbelow Morder Melected Mmembers Mabove Munder Mspot Mvalue) H locs := ⟨hP, hD, hS⟩
    clear hP hD hS
    exact b49 Mpast (Mchanges - (1 : Int32)) hf H locs ls hw (lv_sub hl [0] rfl)
  have b11 : ∀ (n11 : Nat), ∀ (x1 : Int32) (Mpast : Nat → Int32) (Mchanges : Int32), fX5_remembers_b11 N n11 x1 Mnow Mpast Mchanges = some u → ∀ (H : Heap) (locs : List Loc) (ls : Array Slot), Wd D A s.heap (zwM cI cJ aM Mnow Mread Mpast Mchanges Mtext Mletters Mheads Msets Mballots Mranks Mloads Mbelow Morder Melected Mmembers Mabove Munder Mspot Mvalue) H locs → lv_has ls 2 [(0, .ref (aM 0)), (1, .int x1)] → W p l e (zk_rm 0 0) s m args below meth c H locs 0 0 Q (F0 m 11 ls []) := by
    intro n11
    induction n11 with
    | zero =>
      intro x1 Mpast Mchanges hf
      exact zk_none hf
    | succ n11 ih11 =>
      intro x1 Mpast Mchanges hf H locs ls hw hl
      rw [fX5_remembers_b11] at hf
      refine lv_iload_n hx hb dX5_remembers_11 rfl (lv_at hl 1 rfl) ?_
      refine lv_sipush (v := 160) hx hb dX5_remembers_12 (by decide) ?_
      refine lv_icmp_ge (tgt := 39) hx hb dX5_remembers_15 (by decide) (fun c4 => ?_) (fun c4 => ?_)
      · replace hf := zk_t c4 hf
        exact b39 Mpast Mchanges hf H locs ls hw (lv_sub hl [0] rfl)
      · replace hf := zk_f c4 hf
        refine lv_aload_n hx hb dX5_remembers_18 rfl (lv_at hl 0 rfl) ?_
        refine va_get (D := D) (ci := 5) (v := .ref (aM 3)) (C := RX5) (T := TX5) (N := 19) hx hb hts hiX5 hown hK hw.1 0 rfl rfl 2 (by decide) hq1 (fun _ h9 => h9) rfl dX5_remembers_19 ?_
        refine lv_iload_n hx hb dX5_remembers_22 rfl (lv_at hl 1 rfl) ?_
        refine lv_aload_n hx hb dX5_remembers_23 rfl (lv_at hl 0 rfl) ?_
        refine va_get (D := D) (ci := 5) (v := .ref (aM 3)) (C := RX5) (T := TX5) (N := 19) hx hb hts hiX5 hown hK hw.1 0 rfl rfl 2 (by decide) hq1 (fun _ h9 => h9) rfl dX5_remembers_24 ?_
        refine lv_iload_n hx hb dX5_remembers_27 rfl (lv_at hl 1 rfl) ?_
        refine lv_bipush (v := 32) hx hb dX5_remembers_28 (by decide) ?_
        refine lv_iadd hx hb dX5_remembers_30 ?_
        obtain ⟨h5, hf⟩ := zk_ck hf
        refine zk_iald hx hb hK hw 3 rfl h5 (j := (x1 + (32 : Int32)).toNatClampNeg) rfl dX5_remembers_31 ?_
        obtain ⟨h6, hf⟩ := zk_ck hf
        refine zk_iast hx hb hK hw 3 rfl h6 (j := x1.toNatClampNeg) rfl dX5_remembers_32 (fun H locs hw => ?_)
        have hw : Wd D A s.heap (zwM cI cJ aM Mnow Mread (upd Mpast x1.toNatClampNeg (Mpast ((x1 + (32 : Int32)).toNatClampNeg))) Mchanges Mtext Mletters Mheads Msets Mballots Mranks Mloads Mbelow Morder Melected Mmembers Mabove Munder Mspot Mvalue) H locs := hw
        refine lv_iinc (v := (x1 + (1 : Int32))) (lv' := [(1, .int (x1 + (1 : Int32))), (0, .ref (aM 0))]) hx hb dX5_remembers_33 hl (k := 1) rfl rfl (by decide) rfl (fun ls hl => ?_)
        refine lv_goto (tgt := 11) hx hb dX5_remembers_36 (by decide) ?_
        exact ih11 (x1 + (1 : Int32)) (upd Mpast x1.toNatClampNeg (Mpast ((x1 + (32 : Int32)).toNatClampNeg))) Mchanges hf H locs ls hw (lv_sub hl [1, 0] rfl)
  unfold fX5_remembers at hf
  refine lv_aload_n hx hb dX5_remembers_0 rfl (lv_at hl 0 rfl) ?_
  refine va_get (D := D) (ci := 5) (v := .int Mchanges) (C := RX5) (T := TX5) (N := 19) hx hb hts hiX5 hown hK hw.1 0 rfl rfl 3 (by decide) hq0 (fun _ h9 => h9) rfl dX5_remembers_1 ?_
  refine lv_bipush (v := 6) hx hb dX5_remembers_4 (by decide) ?_
  refine lv_icmp_ne (tgt := 49) hx hb dX5_remembers_6 (by decide) (fun c7 => ?_) (fun c7 => ?_)
  · replace hf := zk_f c7 hf
    exact b49 Mpast Mchanges hf H locs ls hw (lv_sub hl [0] rfl)
  · replace hf := zk_t c7 hf
    refine lv_iconst (v := 0) hx hb dX5_remembers_9 (by decide) ?_
    refine lv_istore_n (lv' := [(1, .int (0 : Int32)), (0, .ref (aM 0))]) hx hb dX5_remembers_10 rfl hl (by decide) rfl (fun ls hl => ?_)
    exact b11 N (0 : Int32) Mpast Mchanges hf H locs ls hw (lv_sub hl [1, 0] rfl)
set_option maxHeartbeats 4000000 in
set_option maxRecDepth 100000 in
theorem kX5_exchanges (l : Launch) (D : va_G) (cI cJ cO : ClassId) (N : Nat) (aM : Nat → Nat) (p0 : Int32) (p1 : Int32) (Mnow : Nat → Int32) (Mread : Nat → Int32) (Mpast : Nat → Int32) (Mchanges : Int32) (Mtext : Nat → Int32) (Mletters : Int32) (Mheads : Nat → Int32) (Msets : Nat → Int32) (Mballots : Int32) (Mranks : Nat → Int32) (Mloads : Nat → Int64) (Mbelow : Int64) (Morder : Nat → Int32) (Melected : Int32) (Mmembers : Int32) (Mabove : Nat → Int64) (Munder : Nat → Int64) (Mspot : Int32) (Mvalue : Int32) (u : Int32 × (Nat → Int32) × (Nat → Int32) × (Int32)) (hf : fX5_exchanges N p0 p1 Mnow Mpast Mchanges = some u) : CtI l yX5_exchanges wsX5_exchanges (zk_rm 1 21) D cI cJ cO [.ref (aM 0), .int p0, .int p1] (zwM cI cJ aM Mnow Mread Mpast Mchanges Mtext Mletters Mheads Msets Mballots Mranks Mloads Mbelow Morder Melected Mmembers Mabove Munder Mspot Mvalue) (zwM cI cJ aM u.2.1 Mread u.2.2.1 u.2.2.2 Mtext Mletters Mheads Msets Mballots Mranks Mloads Mbelow Morder Melected Mmembers Mabove Munder Mspot Mvalue) (u.1) := by
  refine zk_enter (cc := cX5_exchanges) (maxL := 4) (ret := some .int) (own := RX5) (Qf := fun A => QwI D (zwM cI cJ aM u.2.1 Mread u.2.2.1 u.2.2.2 Mtext Mletters Mheads Msets Mballots Mranks Mloads Mbelow Morder Melected Mmembers Mabove Munder Mspot Mvalue) (u.1) A) (by decide) rfl rfl (Nat.le_of_ble_eq_true rfl) ?_
  intro p e s m args below meth c A Q H locs ls hC hQ hw hl
  obtain ⟨hx, hb, hml, hr, hts, hown, hlocks, hN, hK, hA⟩ := hC
  have hl : lv_has ls 4 [(0, .ref (aM 0)), (1, .int p0), (2, .int p1)] := hl
  have hiX5 : ∀ w ∈ u_ws RX5 TX5 19, w ∈ wsX5_exchanges := by decide +kernel
  have hq0 := hts (.fieldLink RX5 7 "LoadCouncilModel" "now" "[I") (by decide +kernel)
  unfold fX5_exchanges at hf
  refine lv_aload_n hx hb dX5_exchanges_0 rfl (lv_at hl 0 rfl) ?_
  obtain ⟨u1, e2, hf⟩ := zk_bd hf
  refine zk_callv (wc := zwM cI cJ aM Mnow Mread Mpast Mchanges Mtext Mletters Mheads Msets Mballots Mranks Mloads Mbelow Morder Melected Mmembers Mabove Munder Mspot Mvalue) (wr := []) hw hA [0, 1, 2, 3, 4, 5, 6, 7, 8, 9, 10, 11] [] rfl rfl (by decide) (by decide) (va_runV (C := RX5) (As := []) (rest := []) ⟨hx, hb, hml, hown, hts⟩ (kX5_remembers l D cI cJ cO N aM Mnow Mread Mpast Mchanges Mtext Mletters Mheads Msets Mballots Mranks Mloads Mbelow Morder Melected Mmembers Mabove Munder Mspot Mvalue u1 e2 H.size) (cwV 0 hts gX5_exchanges_X5_remembers rfl rfl rfl (by decide +kernel) ⟨Nat.le_of_ble_eq_true rfl, Nat.le_of_ble_eq_true rfl⟩) (zk_preV (wc := zwM cI cJ aM Mnow Mread Mpast Mchanges Mtext Mletters Mheads Msets Mballots Mranks Mloads Mbelow Morder Melected Mmembers Mabove Munder Mspot Mvalue) hN hK hw [0, 1, 2, 3, 4, 5, 6, 7, 8, 9, 10, 11] rfl (by decide) 0 5 rfl rfl) rfl rfl hl.1 rfl (lv_room (Nat.le_of_ble_eq_true rfl)) dX5_exchanges_1 ⟨Nat.zero_le _, Nat.zero_le _⟩) (fun H locs hw => ?_)
  have hw : Wd D A s.heap (zwM cI cJ aM Mnow Mread u1.1 u1.2 Mtext Mletters Mheads Msets Mballots Mranks Mloads Mbelow Morder Melected Mmembers Mabove Munder Mspot Mvalue) H locs := hw
  refine lv_aload_n hx hb dX5_exchanges_4 rfl (lv_at hl 0 rfl) ?_
  refine va_get (D := D) (ci := 5) (v := .ref (aM 1)) (C := RX5) (T := TX5) (N := 19) hx hb hts hiX5 hown hK hw.1 0 rfl rfl 0 (by decide) hq0 (fun _ h9 => h9) rfl dX5_exchanges_5 ?_
  refine lv_iload_n hx hb dX5_exchanges_8 rfl (lv_at hl 1 rfl) ?_
  obtain ⟨h3, hf⟩ := zk_ck hf
  refine zk_iald hx hb hK hw 1 rfl h3 (j := p0.toNatClampNeg) rfl dX5_exchanges_9 ?_
  refine lv_istore_n (lv' := [(3, .int (Mnow p0.toNatClampNeg)), (0, .ref (aM 0)), (1, .int p0), (2, .int p1)]) hx hb dX5_exchanges_10 rfl hl (by decide) rfl (fun ls hl => ?_)
  refine lv_aload_n hx hb dX5_exchanges_11 rfl (lv_at hl 1 rfl) ?_
  refine va_get (D := D) (ci := 5) (v := .ref (aM 1)) (C := RX5) (T := TX5) (N := 19) hx hb hts hiX5 hown hK hw.1 0 rfl rfl 0 (by decide) hq0 (fun _ h9 => h9) rfl dX5_exchanges_12 ?_
  refine lv_iload_n hx hb dX5_exchanges_15 rfl (lv_at hl 2 rfl) ?_
  refine lv_iload_n hx hb dX5_exchanges_16 rfl (lv_at hl 3 rfl) ?_
  refine zk_iast hx hb hK hw 1 rfl h3 (j := p0.toNatClampNeg) rfl dX5_exchanges_17 (fun H locs hw => ?_)
  have hw : Wd D A s.heap (zwM cI cJ aM (upd Mnow p0.toNatClampNeg p1) Mread u1.1 u1.2 Mtext Mletters Mheads Msets Mballots Mranks Mloads Mbelow Morder Melected Mmembers Mabove Munder Mspot Mvalue) H locs := hw
  refine lv_iload_n hx hb dX5_exchanges_18 rfl (lv_at hl 0 rfl) ?_
  cases hf
  exact zk_iret hx hb hr hlocks rfl hQ hw [0, 1, 2, 3, 4, 5, 6, 7, 8, 9, 10, 11] rfl (by decide) dX5_exchanges_19
set_option maxHeartbeats 4000000 in
set_option maxRecDepth 100000 in
theorem kX5_ballot (l : Launch) (D : va_G) (cI cJ cO : ClassId) (N : Nat) (aM : Nat → Nat) (p0 : Int32) (p1 : Int32) (Mnow : Nat → Int32) (Mread : Nat → Int32) (Mpast : Nat → Int32) (Mchanges : Int32) (Mtext : Nat → Int32) (Mletters : Int32) (Mheads : Nat → Int32) (Msets : Nat → Int32) (Mballots : Int32) (Mranks : Nat → Int32) (Mloads : Nat → Int64) (Mbelow : Int64) (Morder : Nat → Int32) (Melected : Int32) (Mmembers : Int32) (Mabove : Nat → Int64) (Munder : Nat → Int64) (Mspot : Int32) (Mvalue : Int32) (u : Int32 × (Nat → Int32) × (Nat → Int32) × (Int32)) (hf : fX5_ballot N p0 p1 Mnow Mpast Mchanges = some u) : CtI l yX5_ballot wsX5_ballot (zk_rm 2 43) D cI cJ cO [.ref (aM 0), .int p0, .int p1] (zwM cI cJ aM Mnow Mread Mpast Mchanges Mtext Mletters Mheads Msets Mballots Mranks Mloads Mbelow Morder Melected Mmembers Mabove Munder Mspot Mvalue) (zwM cI cJ aM u.2.1 Mread u.2.2.1 u.2.2.2 Mtext Mletters Mheads Msets Mballots Mranks Mloads Mbelow Morder Melected Mmembers Mabove Munder Mspot Mvalue) (u.1) := by
  refine zk_enter (cc := cX5_ballot) (maxL := 3) (ret := some .int) (own := RX5) (Qf := fun A => QwI D (zwM cI cJ aM u.2.1 Mread u.2.2.1 u.2.2.2 Mtext Mletters Mheads Msets Mballots Mranks Mloads Mbelow Morder Melected Mmembers Mabove Munder Mspot Mvalue) (u.1) A) (by decide) rfl rfl (Nat.le_of_ble_eq_true rfl) ?_
  intro p e s m args below meth c A Q H locs ls hC hQ hw hl
  obtain ⟨hx, hb, hml, hr, hts, hown, hlocks, hN, hK, hA⟩ := hC
  have hl : lv_has ls 3 [(0, .ref (aM 0)), (1, .int p0), (2, .int p1)] := hl
  have hiX5 : ∀ w ∈ u_ws RX5 TX5 19, w ∈ wsX5_ballot := by decide +kernel
  have hq0 := hts (.fieldLink RX5 7 "LoadCouncilModel" "now" "[I") (by decide +kernel)
  unfold fX5_ballot at hf
  refine lv_iload_n hx hb dX5_ballot_0 rfl (lv_at hl 1 rfl) ?_
  refine lv_iconst (v := 1) hx hb dX5_ballot_1 (by decide) ?_
  refine lv_bipush (v := 20) hx hb dX5_ballot_2 (by decide) ?_
  obtain ⟨u1, e2, hf⟩ := zk_bd hf
  refine zk_calli (wc := []) (wr := zwM cI cJ aM Mnow Mread Mpast Mchanges Mtext Mletters Mheads Msets Mballots Mranks Mloads Mbelow Morder Melected Mmembers Mabove Munder Mspot Mvalue) hw hA [] [0, 1, 2, 3, 4, 5, 6, 7, 8, 9, 10, 11] rfl rfl (by decide) (by decide) (va_runS (As := [.int p0, .int (1 : Int32), .int (20 : Int32)]) (rest := []) ⟨hx, hb, hml, hown, hts⟩ (kX5_in l D cI cJ cO N p0 (1 : Int32) (20 : Int32) u1 e2 H.size) (va_cwS 3 hts gX5_ballot_X5_in rfl rfl rfl (by decide +kernel) ⟨Nat.le_of_ble_eq_true rfl, Nat.le_of_ble_eq_true rfl⟩) (zk_preS (wc := []) hN hK hw [] rfl (by decide)) rfl rfl hl.1 rfl (lv_room (Nat.le_of_ble_eq_true rfl)) dX5_ballot_4 ⟨Nat.zero_le _, Nat.zero_le _⟩) (fun H locs hw => ?_)
  have hw : Wd D A s.heap (zwM cI cJ aM Mnow Mread Mpast Mchanges Mtext Mletters Mheads Msets Mballots Mranks Mloads Mbelow Morder Melected Mmembers Mabove Munder Mspot Mvalue) H locs := hw
  refine lv_if_eq (tgt := 18) hx hb dX5_ballot_7 (by decide) (fun c3 => ?_) (fun c3 => ?_)
  · replace hf := zk_t c3 hf
    refine lv_iconst (v := (-1)) hx hb dX5_ballot_18 (by decide) ?_
    cases hf
    exact zk_iret hx hb hr hlocks rfl hQ hw [0, 1, 2, 3, 4, 5, 6, 7, 8, 9, 10, 11] rfl (by decide) dX5_ballot_19
  · replace hf := zk_f c3 hf
    refine lv_aload_n hx hb dX5_ballot_10 rfl (lv_at hl 0 rfl) ?_
    refine lv_iload_n hx hb dX5_ballot_11 rfl (lv_at hl 2 rfl) ?_
    obtain ⟨u4, e5, hf⟩ := zk_bd hf
    refine zk_calli (wc := zwM cI cJ aM Mnow Mread Mpast Mchanges Mtext Mletters Mheads Msets Mballots Mranks Mloads Mbelow Morder Melected Mmembers Mabove Munder Mspot Mvalue) (wr := []) hw hA [0, 1, 2, 3, 4, 5, 6, 7, 8, 9, 10, 11] [] rfl rfl (by decide) (by decide) (va_runV (C := RX5) (As := [.int p1]) (rest := []) ⟨hx, hb, hml, hown, hts⟩ (kX5_isSet l D cI cJ cO N aM p1 Mnow Mread Mpast Mchanges Mtext Mletters Mheads Msets Mballots Mranks Mloads Mbelow Morder Melected Mmembers Mabove Munder Mspot Mvalue u4 e5 H.size) (cwV 1 hts gX5_ballot_X5_isSet rfl rfl rfl (by decide +kernel) ⟨Nat.le_of_ble_eq_true rfl, Nat.le_of_ble_eq_true rfl⟩) (zk_preV (wc := zwM cI cJ aM Mnow Mread Mpast Mchanges Mtext Mletters Mheads Msets Mballots Mranks Mloads Mbelow Morder Melected Mmembers Mabove Munder Mspot Mvalue) hN hK hw [0, 1, 2, 3, 4, 5, 6, 7, 8, 9, 10, 11] rfl (by decide) 0 5 rfl rfl) rfl rfl hl.1 rfl (lv_room (Nat.le_of_ble_eq_true rfl)) dX5_ballot_12 ⟨Nat.zero_le _, Nat.zero_le _⟩) (fun H locs hw => ?_)
    have hw : Wd D A s.heap (zwM cI cJ aM Mnow Mread Mpast Mchanges Mtext Mletters Mheads Msets Mballots Mranks Mloads Mbelow Morder Melected Mmembers Mabove Munder Mspot Mvalue) H locs := hw
    refine lv_if_ne (tgt := 20) hx hb dX5_ballot_15 (by decide) (fun c6 => ?_) (fun c6 => ?_)
    · replace hf := zk_f c6 hf
      refine lv_aload_n hx hb dX5_ballot_20 rfl (lv_at hl 0 rfl) ?_
      refine va_get (D := D) (ci := 5) (v := .ref (aM 1)) (C := RX5) (T := TX5) (N := 19) hx hb hts hiX5 hown hK hw.1 0 rfl rfl 0 (by decide) hq0 (fun _ h9 => h9) rfl dX5_ballot_21 ?_
      refine lv_iconst (v := 1) hx hb dX5_ballot_24 (by decide) ?_
      refine zk_iald hx hb hK hw 1 rfl (zk_in (by decide)) (j := 1) rfl dX5_ballot_25 ?_
      refine lv_bipush (v := 10) hx hb dX5_ballot_26 (by decide) ?_
      refine lv_icmp_eq (tgt := 42) hx hb dX5_ballot_28 (by decide) (fun c7 => ?_) (fun c7 => ?_)
      · replace hf := zk_t c7 hf
        refine lv_bipush (v := (-3)) hx hb dX5_ballot_42 (by decide) ?_
        cases hf
        exact zk_iret hx hb hr hlocks rfl hQ hw [0, 1, 2, 3, 4, 5, 6, 7, 8, 9, 10, 11] rfl (by decide) dX5_ballot_44
      · replace hf := zk_f c7 hf
        refine lv_aload_n hx hb dX5_ballot_31 rfl (lv_at hl 0 rfl) ?_
        obtain ⟨u8, e9, hf⟩ := zk_bd hf
        refine zk_calli (wc := zwM cI cJ aM Mnow Mread Mpast Mchanges Mtext Mletters Mheads Msets Mballots Mranks Mloads Mbelow Morder Melected Mmembers Mabove Munder Mspot Mvalue) (wr := []) hw hA [0, 1, 2, 3, 4, 5, 6, 7, 8, 9, 10, 11] [] rfl rfl (by decide) (by decide) (va_runV (C := RX5) (As := []) (rest := []) ⟨hx, hb, hml, hown, hts⟩ (kX5_allVoters l D cI cJ cO N aM Mnow Mread Mpast Mchanges Mtext Mletters Mheads Msets Mballots Mranks Mloads Mbelow Morder Melected Mmembers Mabove Munder Mspot Mvalue u8 e9 H.size) (cwV 0 hts gX5_ballot_X5_allVoters rfl rfl rfl (by decide +kernel) ⟨Nat.le_of_ble_eq_true rfl, Nat.le_of_ble_eq_true rfl⟩) (zk_preV (wc := zwM cI cJ aM Mnow Mread Mpast Mchanges Mtext Mletters Mheads Msets Mballots Mranks Mloads Mbelow Morder Melected Mmembers Mabove Munder Mspot Mvalue) hN hK hw [0, 1, 2, 3, 4, 5, 6, 7, 8, 9, 10, 11] rfl (by decide) 0 5 rfl rfl) rfl rfl hl.1 rfl (lv_room (Nat.le_of_ble_eq_true rfl)) dX5_ballot_32 ⟨Nat.zero_le _, Nat.zero_le _⟩) (fun H locs hw => ?_)
        have hw : Wd D A s.heap (zwM cI cJ aM Mnow Mread Mpast Mchanges Mtext Mletters Mheads Msets Mballots Mranks Mloads Mbelow Morder Melected Mmembers Mabove Munder Mspot Mvalue) H locs := hw
        refine lv_iload_n hx hb dX5_ballot_35 rfl (lv_at hl 1 rfl) ?_
        refine lv_iadd hx hb dX5_ballot_36 ?_
        refine lv_bipush (v := 40) hx hb dX5_ballot_37 (by decide) ?_
        refine lv_icmp_le (tgt := 45) hx hb dX5_ballot_39 (by decide) (fun c10 => ?_) (fun c10 => ?_)
        · replace hf := zk_t c10 hf
          refine lv_aload_n hx hb dX5_ballot_45 rfl (lv_at hl 0 rfl) ?_
          obtain ⟨u11, e12, hf⟩ := zk_bd hf
          refine zk_callv (wc := zwM cI cJ aM Mnow Mread Mpast Mchanges Mtext Mletters Mheads Msets Mballots Mranks Mloads Mbelow Morder Melected Mmembers Mabove Munder Mspot Mvalue) (wr := []) hw hA [0, 1, 2, 3, 4, 5, 6, 7, 8, 9, 10, 11] [] rfl rfl (by decide) (by decide) (va_runV (C := RX5) (As := []) (rest := []) ⟨hx, hb, hml, hown, hts⟩ (kX5_remembers l D cI cJ cO N aM Mnow Mread Mpast Mchanges Mtext Mletters Mheads Msets Mballots Mranks Mloads Mbelow Morder Melected Mmembers Mabove Munder Mspot Mvalue u11 e12 H.size) (cwV 0 hts gX5_ballot_X5_remembers rfl rfl rfl (by decide +kernel) ⟨Nat.le_of_ble_eq_true rfl, Nat.le_of_ble_eq_true rfl⟩) (zk_preV (wc := zwM cI cJ aM Mnow Mread Mpast Mchanges Mtext Mletters Mheads Msets Mballots Mranks Mloads Mbelow Morder Melected Mmembers Mabove Munder Mspot Mvalue) hN hK hw [0, 1, 2, 3, 4, 5, 6, 7, 8, 9, 10, 11] rfl (by decide) 0 5 rfl rfl) rfl rfl hl.1 rfl (lv_room (Nat.le_of_ble_eq_true rfl)) dX5_ballot_46 ⟨Nat.zero_le _, Nat.zero_le _⟩) (fun H locs hw => ?_)
          have hw : Wd D A s.heap (zwM cI cJ aM Mnow Mread u11.1 u11.2 Mtext Mletters Mheads Msets Mballots Mranks Mloads Mbelow Morder Melected Mmembers Mabove Munder Mspot Mvalue) H locs := hw
          refine lv_aload_n hx hb dX5_ballot_49 rfl (lv_at hl 0 rfl) ?_
          refine lv_iload_n hx hb dX5_ballot_50 rfl (lv_at hl 1 rfl) ?_
          refine lv_iload_n hx hb dX5_ballot_51 rfl (lv_at hl 2 rfl) ?_
          obtain ⟨u13, e14, hf⟩ := zk_bd hf
          refine zk_callv (wc := zwM cI cJ aM Mnow Mread u11.1 u11.2 Mtext Mletters Mheads Msets Mballots Mranks Mloads Mbelow Morder Melected Mmembers Mabove Munder Mspot Mvalue) (wr := []) hw hA [0, 1, 2, 3, 4, 5, 6, 7, 8, 9, 10, 11] [] rfl rfl (by decide) (by decide) (va_runV (C := RX5) (As := [.int p0, .int p1]) (rest := []) ⟨hx, hb, hml, hown, hts⟩ (kX5_adds l D cI cJ cO N aM p0 p1 Mnow Mread u11.1 u11.2 Mtext Mletters Mheads Msets Mballots Mranks Mloads Mbelow Morder Melected Mmembers Mabove Munder Mspot Mvalue u13 e14 H.size) (cwV 2 hts gX5_ballot_X5_adds rfl rfl rfl (by decide +kernel) ⟨Nat.le_of_ble_eq_true rfl, Nat.le_of_ble_eq_true rfl⟩) (zk_preV (wc := zwM cI cJ aM Mnow Mread u11.1 u11.2 Mtext Mletters Mheads Msets Mballots Mranks Mloads Mbelow Morder Melected Mmembers Mabove Munder Mspot Mvalue) hN hK hw [0, 1, 2, 3, 4, 5, 6, 7, 8, 9, 10, 11] rfl (by decide) 0 5 rfl rfl) rfl rfl hl.1 rfl (lv_room (Nat.le_of_ble_eq_true rfl)) dX5_ballot_52 ⟨Nat.zero_le _, Nat.zero_le _⟩) (fun H locs hw => ?_)
          have hw : Wd D A s.heap (zwM cI cJ aM u13 Mread u11.1 u11.2 Mtext Mletters Mheads Msets Mballots Mranks Mloads Mbelow Morder Melected Mmembers Mabove Munder Mspot Mvalue) H locs := hw
          refine lv_aload_n hx hb dX5_ballot_55 rfl (lv_at hl 0 rfl) ?_
          refine va_get (D := D) (ci := 5) (v := .ref (aM 1)) (C := RX5) (T := TX5) (N := 19) hx hb hts hiX5 hown hK hw.1 0 rfl rfl 0 (by decide) hq0 (fun _ h9 => h9) rfl dX5_ballot_56 ?_
          refine lv_iconst (v := 1) hx hb dX5_ballot_59 (by decide) ?_
          refine zk_iald hx hb hK hw 1 rfl (zk_in (by decide)) (j := 1) rfl dX5_ballot_60 ?_
          refine lv_iconst (v := 1) hx hb dX5_ballot_61 (by decide) ?_
          refine lv_isub hx hb dX5_ballot_62 ?_
          cases hf
          exact zk_iret hx hb hr hlocks rfl hQ hw [0, 1, 2, 3, 4, 5, 6, 7, 8, 9, 10, 11] rfl (by decide) dX5_ballot_63
        · replace hf := zk_f c10 hf
          refine lv_bipush (v := (-3)) hx hb dX5_ballot_42 (by decide) ?_
          cases hf
          exact zk_iret hx hb hr hlocks rfl hQ hw [0, 1, 2, 3, 4, 5, 6, 7, 8, 9, 10, 11] rfl (by decide) dX5_ballot_44
    · replace hf := zk_t c6 hf
      refine lv_iconst (v := (-1)) hx hb dX5_ballot_18 (by decide) ?_
      cases hf
      exact zk_iret hx hb hr hlocks rfl hQ hw [0, 1, 2, 3, 4, 5, 6, 7, 8, 9, 10, 11] rfl (by decide) dX5_ballot_19
set_option maxHeartbeats 4000000 in
set_option maxRecDepth 100000 in
theorem kX5_voters (l : Launch) (D : va_G) (cI cJ cO : ClassId) (N : Nat) (aM : Nat → Nat) (p0 : Int32) (p1 : Int32) (Mnow : Nat → Int32) (Mread : Nat → Int32) (Mpast : Nat → Int32) (Mchanges : Int32) (Mtext : Nat → Int32) (Mletters : Int32) (Mheads : Nat → Int32) (Msets : Nat → Int32) (Mballots : Int32) (Mranks : Nat → Int32) (Mloads : Nat → Int64) (Mbelow : Int64) (Morder : Nat → Int32) (Melected : Int32) (Mmembers : Int32) (Mabove : Nat → Int64) (Munder : Nat → Int64) (Mspot : Int32) (Mvalue : Int32) (u : Int32 × (Nat → Int32) × (Nat → Int32) × (Int32)) (hf : fX5_voters N p0 p1 Mnow Mpast Mchanges = some u) : CtI l yX5_voters wsX5_voters (zk_rm 2 44) D cI cJ cO [.ref (aM 0), .int p0, .int p1] (zwM cI cJ aM Mnow Mread Mpast Mchanges Mtext Mletters Mheads Msets Mballots Mranks Mloads Mbelow Morder Melected Mmembers Mabove Munder Mspot Mvalue) (zwM cI cJ aM u.2.1 Mread u.2.2.1 u.2.2.2 Mtext Mletters Mheads Msets Mballots Mranks Mloads Mbelow Morder Melected Mmembers Mabove Munder Mspot Mvalue) (u.1) := by
  refine zk_enter (cc := cX5_voters) (maxL := 3) (ret := some .int) (own := RX5) (Qf := fun A => QwI D (zwM cI cJ aM u.2.1 Mread u.2.2.1 u.2.2.2 Mtext Mletters Mheads Msets Mballots Mranks Mloads Mbelow Morder Melected Mmembers Mabove Munder Mspot Mvalue) (u.1) A) (by decide) rfl rfl (Nat.le_of_ble_eq_true rfl) ?_
  intro p e s m args below meth c A Q H locs ls hC hQ hw hl
  obtain ⟨hx, hb, hml, hr, hts, hown, hlocks, hN, hK, hA⟩ := hC
  have hl : lv_has ls 3 [(0, .ref (aM 0)), (1, .int p0), (2, .int p1)] := hl
  have hiX5 : ∀ w ∈ u_ws RX5 TX5 19, w ∈ wsX5_voters := by decide +kernel
  have hq0 := hts (.fieldLink RX5 7 "LoadCouncilModel" "now" "[I") (by decide +kernel)
  unfold fX5_voters at hf
  refine lv_aload_n hx hb dX5_voters_0 rfl (lv_at hl 0 rfl) ?_
  refine lv_iload_n hx hb dX5_voters_1 rfl (lv_at hl 1 rfl) ?_
  obtain ⟨u1, e2, hf⟩ := zk_bd hf
  refine zk_calli (wc := zwM cI cJ aM Mnow Mread Mpast Mchanges Mtext Mletters Mheads Msets Mballots Mranks Mloads Mbelow Morder Melected Mmembers Mabove Munder Mspot Mvalue) (wr := []) hw hA [0, 1, 2, 3, 4, 5, 6, 7, 8, 9, 10, 11] [] rfl rfl (by decide) (by decide) (va_runV (C := RX5) (As := [.int p0]) (rest := []) ⟨hx, hb, hml, hown, hts⟩ (kX5_isBallot l D cI cJ cO N aM p0 Mnow Mread Mpast Mchanges Mtext Mletters Mheads Msets Mballots Mranks Mloads Mbelow Morder Melected Mmembers Mabove Munder Mspot Mvalue u1 e2 H.size) (cwV 1 hts gX5_voters_X5_isBallot rfl rfl rfl (by decide +kernel) ⟨Nat.le_of_ble_eq_true rfl, Nat.le_of_ble_eq_true rfl⟩) (zk_preV (wc := zwM cI cJ aM Mnow Mread Mpast Mchanges Mtext Mletters Mheads Msets Mballots Mranks Mloads Mbelow Morder Melected Mmembers Mabove Munder Mspot Mvalue) hN hK hw [0, 1, 2, 3, 4, 5, 6, 7, 8, 9, 10, 11] rfl (by decide) 0 5 rfl rfl) rfl rfl hl.1 rfl (lv_room (Nat.le_of_ble_eq_true rfl)) dX5_voters_2 ⟨Nat.zero_le _, Nat.zero_le _⟩) (fun H locs hw => ?_)
  have hw : Wd D A s.heap (zwM cI cJ aM Mnow Mread Mpast Mchanges Mtext Mletters Mheads Msets Mballots Mranks Mloads Mbelow Morder Melected Mmembers Mabove Munder Mspot Mvalue) H locs := hw
  refine lv_if_eq (tgt := 18) hx hb dX5_voters_5 (by decide) (fun c3 => ?_) (fun c3 => ?_)
  · replace hf := zk_t c3 hf
    refine lv_iconst (v := (-1)) hx hb dX5_voters_18 (by decide) ?_
    cases hf
    exact zk_iret hx hb hr hlocks rfl hQ hw [0, 1, 2, 3, 4, 5, 6, 7, 8, 9, 10, 11] rfl (by decide) dX5_voters_19
  · replace hf := zk_f c3 hf
    refine lv_iload_n hx hb dX5_voters_8 rfl (lv_at hl 2 rfl) ?_
    refine lv_iconst (v := 1) hx hb dX5_voters_9 (by decide) ?_
    refine lv_bipush (v := 20) hx hb dX5_voters_10 (by decide) ?_
    obtain ⟨u4, e5, hf⟩ := zk_bd hf
    refine zk_calli (wc := []) (wr := zwM cI cJ aM Mnow Mread Mpast Mchanges Mtext Mletters Mheads Msets Mballots Mranks Mloads Mbelow Morder Melected Mmembers Mabove Munder Mspot Mvalue) hw hA [] [0, 1, 2, 3, 4, 5, 6, 7, 8, 9, 10, 11] rfl rfl (by decide) (by decide) (va_runS (As := [.int p1, .int (1 : Int32), .int (20 : Int32)]) (rest := []) ⟨hx, hb, hml, hown, hts⟩ (kX5_in l D cI cJ cO N p1 (1 : Int32) (20 : Int32) u4 e5 H.size) (va_cwS 3 hts gX5_voters_X5_in rfl rfl rfl (by decide +kernel) ⟨Nat.le_of_ble_eq_true rfl, Nat.le_of_ble_eq_true rfl⟩) (zk_preS (wc := []) hN hK hw [] rfl (by decide)) rfl rfl hl.1 rfl (lv_room (Nat.le_of_ble_eq_true rfl)) dX5_voters_12 ⟨Nat.zero_le _, Nat.zero_le _⟩) (fun H locs hw => ?_)
    have hw : Wd D A s.heap (zwM cI cJ aM Mnow Mread Mpast Mchanges Mtext Mletters Mheads Msets Mballots Mranks Mloads Mbelow Morder Melected Mmembers Mabove Munder Mspot Mvalue) H locs := hw
    refine lv_if_ne (tgt := 20) hx hb dX5_voters_15 (by decide) (fun c6 => ?_) (fun c6 => ?_)
    · replace hf := zk_f c6 hf
      refine lv_aload_n hx hb dX5_voters_20 rfl (lv_at hl 0 rfl) ?_
      refine va_get (D := D) (ci := 5) (v := .ref (aM 1)) (C := RX5) (T := TX5) (N := 19) hx hb hts hiX5 hown hK hw.1 0 rfl rfl 0 (by decide) hq0 (fun _ h9 => h9) rfl dX5_voters_21 ?_
      refine lv_iconst (v := 2) hx hb dX5_voters_24 (by decide) ?_
      refine lv_iload_n hx hb dX5_voters_25 rfl (lv_at hl 1 rfl) ?_
      refine lv_iadd hx hb dX5_voters_26 ?_
      obtain ⟨h7, hf⟩ := zk_ck hf
      refine zk_iald hx hb hK hw 1 rfl h7 (j := ((2 : Int32) + p0).toNatClampNeg) rfl dX5_voters_27 ?_
      refine lv_iload_n hx hb dX5_voters_28 rfl (lv_at hl 2 rfl) ?_
      refine lv_icmp_ne (tgt := 35) hx hb dX5_voters_29 (by decide) (fun c8 => ?_) (fun c8 => ?_)
      · replace hf := zk_f c8 hf
        refine lv_aload_n hx hb dX5_voters_35 rfl (lv_at hl 0 rfl) ?_
        obtain ⟨u9, e10, hf⟩ := zk_bd hf
        refine zk_calli (wc := zwM cI cJ aM Mnow Mread Mpast Mchanges Mtext Mletters Mheads Msets Mballots Mranks Mloads Mbelow Morder Melected Mmembers Mabove Munder Mspot Mvalue) (wr := []) hw hA [0, 1, 2, 3, 4, 5, 6, 7, 8, 9, 10, 11] [] rfl rfl (by decide) (by decide) (va_runV (C := RX5) (As := []) (rest := []) ⟨hx, hb, hml, hown, hts⟩ (kX5_allVoters l D cI cJ cO N aM Mnow Mread Mpast Mchanges Mtext Mletters Mheads Msets Mballots Mranks Mloads Mbelow Morder Melected Mmembers Mabove Munder Mspot Mvalue u9 e10 H.size) (cwV 0 hts gX5_voters_X5_allVoters rfl rfl rfl (by decide +kernel) ⟨Nat.le_of_ble_eq_true rfl, Nat.le_of_ble_eq_true rfl⟩) (zk_preV (wc := zwM cI cJ aM Mnow Mread Mpast Mchanges Mtext Mletters Mheads Msets Mballots Mranks Mloads Mbelow Morder Melected Mmembers Mabove Munder Mspot Mvalue) hN hK hw [0, 1, 2, 3, 4, 5, 6, 7, 8, 9, 10, 11] rfl (by decide) 0 5 rfl rfl) rfl rfl hl.1 rfl (lv_room (Nat.le_of_ble_eq_true rfl)) dX5_voters_36 ⟨Nat.zero_le _, Nat.zero_le _⟩) (fun H locs hw => ?_)
        have hw : Wd D A s.heap (zwM cI cJ aM Mnow Mread Mpast Mchanges Mtext Mletters Mheads Msets Mballots Mranks Mloads Mbelow Morder Melected Mmembers Mabove Munder Mspot Mvalue) H locs := hw
        refine lv_aload_n hx hb dX5_voters_39 rfl (lv_at hl 0 rfl) ?_
        refine va_get (D := D) (ci := 5) (v := .ref (aM 1)) (C := RX5) (T := TX5) (N := 19) hx hb hts hiX5 hown hK hw.1 0 rfl rfl 0 (by decide) hq0 (fun _ h9 => h9) rfl dX5_voters_40 ?_
        refine lv_iconst (v := 2) hx hb dX5_voters_43 (by decide) ?_
        refine lv_iload_n hx hb dX5_voters_44 rfl (lv_at hl 1 rfl) ?_
        refine lv_iadd hx hb dX5_voters_45 ?_
        refine zk_iald hx hb hK hw 1 rfl h7 (j := ((2 : Int32) + p0).toNatClampNeg) rfl dX5_voters_46 ?_
        refine lv_isub hx hb dX5_voters_47 ?_
        refine lv_iload_n hx hb dX5_voters_48 rfl (lv_at hl 2 rfl) ?_
        refine lv_iadd hx hb dX5_voters_49 ?_
        refine lv_bipush (v := 40) hx hb dX5_voters_50 (by decide) ?_
        refine lv_icmp_le (tgt := 60) hx hb dX5_voters_52 (by decide) (fun c11 => ?_) (fun c11 => ?_)
        · replace hf := zk_t c11 hf
          refine lv_aload_n hx hb dX5_voters_60 rfl (lv_at hl 0 rfl) ?_
          refine lv_iconst (v := 2) hx hb dX5_voters_61 (by decide) ?_
          refine lv_iload_n hx hb dX5_voters_62 rfl (lv_at hl 1 rfl) ?_
          refine lv_iadd hx hb dX5_voters_63 ?_
          refine lv_iload_n hx hb dX5_voters_64 rfl (lv_at hl 2 rfl) ?_
          obtain ⟨u12, e13, hf⟩ := zk_bd hf
          refine zk_calli (wc := zwM cI cJ aM Mnow Mread Mpast Mchanges Mtext Mletters Mheads Msets Mballots Mranks Mloads Mbelow Morder Melected Mmembers Mabove Munder Mspot Mvalue) (wr := []) hw hA [0, 1, 2, 3, 4, 5, 6, 7, 8, 9, 10, 11] [] rfl rfl (by decide) (by decide) (va_runV (C := RX5) (As := [.int ((2 : Int32) + p0), .int p1]) (rest := []) ⟨hx, hb, hml, hown, hts⟩ (kX5_exchanges l D cI cJ cO N aM ((2 : Int32) + p0) p1 Mnow Mread Mpast Mchanges Mtext Mletters Mheads Msets Mballots Mranks Mloads Mbelow Morder Melected Mmembers Mabove Munder Mspot Mvalue u12 e13 H.size) (cwV 2 hts gX5_voters_X5_exchanges rfl rfl rfl (by decide +kernel) ⟨Nat.le_of_ble_eq_true rfl, Nat.le_of_ble_eq_true rfl⟩) (zk_preV (wc := zwM cI cJ aM Mnow Mread Mpast Mchanges Mtext Mletters Mheads Msets Mballots Mranks Mloads Mbelow Morder Melected Mmembers Mabove Munder Mspot Mvalue) hN hK hw [0, 1, 2, 3, 4, 5, 6, 7, 8, 9, 10, 11] rfl (by decide) 0 5 rfl rfl) rfl rfl hl.1 rfl (lv_room (Nat.le_of_ble_eq_true rfl)) dX5_voters_65 ⟨Nat.zero_le _, Nat.zero_le _⟩) (fun H locs hw => ?_)
          have hw : Wd D A s.heap (zwM cI cJ aM u12.2.1 Mread u12.2.2.1 u12.2.2.2 Mtext Mletters Mheads Msets Mballots Mranks Mloads Mbelow Morder Melected Mmembers Mabove Munder Mspot Mvalue) H locs := hw
          cases hf
          exact zk_iret hx hb hr hlocks rfl hQ hw [0, 1, 2, 3, 4, 5, 6, 7, 8, 9, 10, 11] rfl (by decide) dX5_voters_68
        · replace hf := zk_f c11 hf
          refine lv_bipush (v := (-3)) hx hb dX5_voters_55 (by decide) ?_
          refine lv_goto (tgt := 68) hx hb dX5_voters_57 (by decide) ?_
          cases hf
          exact zk_iret hx hb hr hlocks rfl hQ hw [0, 1, 2, 3, 4, 5, 6, 7, 8, 9, 10, 11] rfl (by decide) dX5_voters_68
      · replace hf := zk_t c8 hf
        refine lv_bipush (v := (-2)) hx hb dX5_voters_32 (by decide) ?_
        cases hf
        exact zk_iret hx hb hr hlocks rfl hQ hw [0, 1, 2, 3, 4, 5, 6, 7, 8, 9, 10, 11] rfl (by decide) dX5_voters_34
    · replace hf := zk_t c6 hf
      refine lv_iconst (v := (-1)) hx hb dX5_voters_18 (by decide) ?_
      cases hf
      exact zk_iret hx hb hr hlocks rfl hQ hw [0, 1, 2, 3, 4, 5, 6, 7, 8, 9, 10, 11] rfl (by decide) dX5_voters_19
