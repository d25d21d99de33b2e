set_option maxHeartbeats 4000000 in
set_option maxRecDepth 100000 in
theorem kX5_comesBy (l : Launch) (D : va_G) (cI cJ cO : ClassId) (N : Nat) (aM : Nat → Nat) (p0 : Int32) (p1 : Int32) (Mnow : Nat → Int32) (Mread : Nat → Int32) (Mpast : Nat → Int32) (Mchanges : Int32) (Mtext : Nat → Int32) (Mletters : Int32) (Mheads : Nat → Int32) (Msets : Nat → Int32) (Mballots : Int32) (Mranks : Nat → Int32) (Mloads : Nat → Int64) (Mbelow : Int64) (Morder : Nat → Int32) (Melected : Int32) (Mmembers : Int32) (Mabove : Nat → Int64) (Munder : Nat → Int64) (Mspot : Int32) (Mvalue : Int32) (u : (Nat → Int64) × (Int64) × (Nat → Int64) × (Nat → Int64)) (hf : fX5_comesBy N p0 p1 Mheads Msets Mballots Mloads Mbelow Melected Mmembers Mabove Munder = some u) : CtV l yX5_comesBy wsX5_comesBy (zk_rm 2 46) D cI cJ cO [.ref (aM 0), .int p0, .int p1] (zwM cI cJ aM Mnow Mread Mpast Mchanges Mtext Mletters Mheads Msets Mballots Mranks Mloads Mbelow Morder Melected Mmembers Mabove Munder Mspot Mvalue) (zwM cI cJ aM Mnow Mread Mpast Mchanges Mtext Mletters Mheads Msets Mballots Mranks u.1 u.2.1 Morder Melected Mmembers u.2.2.1 u.2.2.2 Mspot Mvalue) := by
  refine zk_enter (cc := cX5_comesBy) (maxL := 7) (ret := none) (own := RX5) (Qf := fun A => QwV D (zwM cI cJ aM Mnow Mread Mpast Mchanges Mtext Mletters Mheads Msets Mballots Mranks u.1 u.2.1 Morder Melected Mmembers u.2.2.1 u.2.2.2 Mspot Mvalue) A) (by decide) rfl rfl (Nat.le_of_ble_eq_true rfl) ?_
  intro p e s m args below meth c A Q H locs ls hC hQ hw hl
  obtain ⟨hx, hb, hml, hr, hts, hown, hlocks, hN, hK, hA⟩ := hC
  have hl : lv_has ls 7 [(0, .ref (aM 0)), (1, .int p0), (2, .int p1)] := hl
  have hiX5 : ∀ w ∈ u_ws RX5 TX5 19, w ∈ wsX5_comesBy := by decide +kernel
  have hq0 := hts (.fieldLink RX5 137 "LoadCouncilModel" "below" "J") (by decide +kernel)
  have hq1 := hts (.fieldLink RX5 134 "LoadCouncilModel" "ballots" "I") (by decide +kernel)
  have hq2 := hts (.fieldLink RX5 31 "LoadCouncilModel" "loads" "[J") (by decide +kernel)
  have hq3 := hts (.fieldLink RX5 25 "LoadCouncilModel" "sets" "[I") (by decide +kernel)
  have hq4 := hts (.fieldLink RX5 41 "LoadCouncilModel" "under" "[J") (by decide +kernel)
  have hq5 := hts (.fieldLink RX5 157 "LoadCouncilModel" "elected" "I") (by decide +kernel)
  have hq6 := hts (.constantLong RX5 160 (2520)) (by decide +kernel)
  have hq7 := hts (.fieldLink RX5 38 "LoadCouncilModel" "above" "[J") (by decide +kernel)
  have b152 : ∀ (x3 : Int32) (Mloads : Nat → Int64) (Mbelow : Int64) (Mabove : Nat → Int64) (Munder : Nat → Int64), fX5_comesBy_b152 N x3 Mloads Mbelow Mabove Munder = some u → ∀ (H : Heap) (locs : List Loc) (ls : Array Slot), Wd D A s.heap (zwM cI cJ aM Mnow Mread Mpast Mchanges Mtext Mletters Mheads Msets Mballots Mranks Mloads Mbelow Morder Melected Mmembers Mabove Munder Mspot Mvalue) H locs → lv_has ls 7 [(0, .ref (aM 0)), (3, .int x3)] → W p l e (zk_rm 2 46) s m args below meth c H locs 0 0 Q (F0 m 152 ls []) := by
    intro x3 Mloads Mbelow Mabove Munder hf H locs ls hw hl
    unfold fX5_comesBy_b152 at hf
    refine lv_aload_n hx hb dX5_comesBy_152 rfl (lv_at hl 0 rfl) ?_
    refine lv_dup hx hb dX5_comesBy_153 rfl ?_
    refine va_get (D := D) (ci := 5) (v := .long Mbelow) (C := RX5) (T := TX5) (N := 19) hx hb hts hiX5 hown hK hw.1 0 rfl rfl 11 (by decide) hq0 (fun _ h9 => h9) rfl dX5_comesBy_154 ?_
    refine lv_iload_n hx hb dX5_comesBy_157 rfl (lv_at hl 1 rfl) ?_
    refine lv_i2l (v := x3.toInt64) hx hb dX5_comesBy_158 rfl ?_
    refine lv_lmul hx hb dX5_comesBy_159 ?_
    refine va_put (D := D) (ci := 5) (v := .long (Mbelow * (x3.toInt64))) (C := RX5) (T := TX5) (N := 19) hx hb hts hiX5 tyX5 tyX5_ok nmX5 hown hK hw.1 hw.2.1 hw.2.2 0 rfl rfl 11 (by decide) hq0 (fun _ h9 => h9) rfl (tyX5_ok 11 (by decide)) rfl rfl (Nat.le_of_ble_eq_true rfl) dX5_comesBy_160 (fun H locs hP hD hS => ?_)
    have hw : Wd D A s.heap (zwM cI cJ aM Mnow Mread Mpast Mchanges Mtext Mletters Mheads Msets Mballots Mranks Mloads (Mbelow * (x3.toInt64)) Morder Melected Mmembers Mabove Munder Mspot Mvalue) H locs := ⟨hP, hD, hS⟩
    clear hP hD hS
    cases hf
    exact zk_vret hx hb hr hlocks hQ hw [0, 1, 2, 3, 4, 5, 6, 7, 8, 9, 10, 11] rfl (by decide) dX5_comesBy_163
  have b101 : ∀ (n101 : Nat), ∀ (x2 : Int32) (x3 : Int32) (x4 : Int64) (x6 : Int32) (Mloads : Nat → Int64) (Mbelow : Int64) (Mabove : Nat → Int64) (Munder : Nat → Int64), fX5_comesBy_b101 N n101 x2 x3 x4 x6 Msets Mballots Mloads Mbelow Mabove Munder = some u → ∀ (H : Heap) (locs : List Loc) (ls : Array Slot), Wd D A s.heap (zwM cI cJ aM Mnow Mread Mpast Mchanges Mtext Mletters Mheads Msets Mballots Mranks Mloads Mbelow Morder Melected Mmembers Mabove Munder Mspot Mvalue) H locs → lv_has ls 7 [(0, .ref (aM 0)), (2, .int x2), (3, .int x3), (4, .long x4), (6, .int x6)] → W p l e (zk_rm 2 46) s m args below meth c H locs 0 0 Q (F0 m 101 ls []) := by
    intro n101
    induction n101 with
    | zero =>
      intro x2 x3 x4 x6 Mloads Mbelow Mabove Munder hf
      exact zk_none hf
    | succ n101 ih101 =>
      have b145 : ∀ (x2 : Int32) (x3 : Int32) (x4 : Int64) (x6 : Int32) (t1 : Int32) (t2 : Int64) (Mloads : Nat → Int64) (Mbelow : Int64) (Mabove : Nat → Int64) (Munder : Nat → Int64), fX5_comesBy_b145 N (fun z0 z1 z2 z3 z4 z5 z6 z7 z8 z9 => fX5_comesBy_b101 N n101 z0 z1 z2 z3 z4 z5 z6 z7 z8 z9) x2 x3 x4 x6 t1 t2 Msets Mballots Mloads Mbelow Mabove Munder = some u → ∀ (H : Heap) (locs : List Loc) (ls : Array Slot), Wd D A s.heap (zwM cI cJ aM Mnow Mread Mpast Mchanges Mtext Mletters Mheads Msets Mballots Mranks Mloads Mbelow Morder Melected Mmembers Mabove Munder Mspot Mvalue) H locs → lv_has ls 7 [(0, .ref (aM 0)), (2, .int x2), (3, .int x3), (4, .long x4), (6, .int x6)] → W p l e (zk_rm 2 46) s m args below meth c H locs 0 0 Q (F0 m 145 ls [.long t2, .int t1, .ref (aM 8)]) := by
        intro x2 x3 x4 x6 t1 t2 Mloads Mbelow Mabove Munder hf H locs ls hw hl
        unfold fX5_comesBy_b145 at hf
        obtain ⟨h1, hf⟩ := zk_ck hf
        refine zk_last hx hb hK hw 8 rfl h1 (j := t1.toNatClampNeg) rfl dX5_comesBy_145 (fun H locs hw => ?_)
        have hw : Wd D A s.heap (zwM cI cJ aM Mnow Mread Mpast Mchanges Mtext Mletters Mheads Msets Mballots Mranks (vp_updL Mloads t1.toNatClampNeg t2) Mbelow Morder Melected Mmembers Mabove Munder Mspot Mvalue) H locs := hw
        refine lv_iinc (v := (x6 + (1 : Int32))) (lv' := [(6, .int (x6 + (1 : Int32))), (0, .ref (aM 0)), (2, .int x2), (3, .int x3), (4, .long x4)]) hx hb dX5_comesBy_146 hl (k := 4) rfl rfl (by decide) rfl (fun ls hl => ?_)
        refine lv_goto (tgt := 101) hx hb dX5_comesBy_149 (by decide) ?_
        exact ih101 x2 x3 x4 (x6 + (1 : Int32)) (vp_updL Mloads t1.toNatClampNeg t2) Mbelow Mabove Munder hf H locs ls hw (lv_sub hl [1, 2, 3, 4, 0] rfl)
      intro x2 x3 x4 x6 Mloads Mbelow Mabove Munder hf H locs ls hw hl
      rw [fX5_comesBy_b101] at hf
      refine lv_iload hx hb dX5_comesBy_101 (lv_at hl 4 rfl) ?_
      refine lv_aload_n hx hb dX5_comesBy_103 rfl (lv_at hl 0 rfl) ?_
      refine va_get (D := D) (ci := 5) (v := .int Mballots) (C := RX5) (T := TX5) (N := 19) hx hb hts hiX5 hown hK hw.1 0 rfl rfl 8 (by decide) hq1 (fun _ h9 => h9) rfl dX5_comesBy_104 ?_
      refine lv_icmp_ge (tgt := 152) hx hb dX5_comesBy_107 (by decide) (fun c2 => ?_) (fun c2 => ?_)
      · replace hf := zk_t c2 hf
        exact b152 x3 Mloads Mbelow Mabove Munder hf H locs ls hw (lv_sub hl [0, 2] rfl)
      · replace hf := zk_f c2 hf
        refine lv_aload_n hx hb dX5_comesBy_110 rfl (lv_at hl 0 rfl) ?_
        refine va_get (D := D) (ci := 5) (v := .ref (aM 8)) (C := RX5) (T := TX5) (N := 19) hx hb hts hiX5 hown hK hw.1 0 rfl rfl 10 (by decide) hq2 (fun _ h9 => h9) rfl dX5_comesBy_111 ?_
        refine lv_iload hx hb dX5_comesBy_114 (lv_at hl 4 rfl) ?_
        refine lv_aload_n hx hb dX5_comesBy_116 rfl (lv_at hl 0 rfl) ?_
        refine va_get (D := D) (ci := 5) (v := .ref (aM 6)) (C := RX5) (T := TX5) (N := 19) hx hb hts hiX5 hown hK hw.1 0 rfl rfl 7 (by decide) hq3 (fun _ h9 => h9) rfl dX5_comesBy_117 ?_
        refine lv_iload hx hb dX5_comesBy_120 (lv_at hl 4 rfl) ?_
        obtain ⟨h3, hf⟩ := zk_ck hf
        refine zk_iald hx hb hK hw 6 rfl h3 (j := x6.toNatClampNeg) rfl dX5_comesBy_122 ?_
        refine lv_iload_n hx hb dX5_comesBy_123 rfl (lv_at hl 1 rfl) ?_
        obtain ⟨u4, e5, hf⟩ := zk_bd hf
        refine zk_calli (wc := []) (wr := zwM cI cJ aM Mnow Mread Mpast Mchanges Mtext Mletters Mheads Msets Mballots Mranks Mloads Mbelow Morder Melected Mmembers Mabove Munder Mspot Mvalue) hw hA [] [0, 1, 2, 3, 4, 5, 6, 7, 8, 9, 10, 11] rfl rfl (by decide) (by decide) (va_runS (As := [.int (Msets x6.toNatClampNeg), .int x2]) (rest := [.int x6, .ref (aM 8)]) ⟨hx, hb, hml, hown, hts⟩ (kX5_has l D cI cJ cO N (Msets x6.toNatClampNeg) x2 u4 e5 H.size) (va_cwS 2 hts gX5_comesBy_X5_has rfl rfl rfl (by decide +kernel) ⟨Nat.le_of_ble_eq_true rfl, Nat.le_of_ble_eq_true rfl⟩) (zk_preS (wc := []) hN hK hw [] rfl (by decide)) rfl rfl hl.1 rfl (lv_room (Nat.le_of_ble_eq_true rfl)) dX5_comesBy_124 ⟨Nat.zero_le _, Nat.zero_le _⟩) (fun H locs hw => ?_)
        have hw : Wd D A s.heap (zwM cI cJ aM Mnow Mread Mpast Mchanges Mtext Mletters Mheads Msets Mballots Mranks Mloads Mbelow Morder Melected Mmembers Mabove Munder Mspot Mvalue) H locs := hw
        refine lv_if_eq (tgt := 135) hx hb dX5_comesBy_127 (by decide) (fun c6 => ?_) (fun c6 => ?_)
        · replace hf := zk_t c6 hf
          refine lv_aload_n hx hb dX5_comesBy_135 rfl (lv_at hl 0 rfl) ?_
          refine va_get (D := D) (ci := 5) (v := .ref (aM 8)) (C := RX5) (T := TX5) (N := 19) hx hb hts hiX5 hown hK hw.1 0 rfl rfl 10 (by decide) hq2 (fun _ h9 => h9) rfl dX5_comesBy_136 ?_
          refine lv_iload hx hb dX5_comesBy_139 (lv_at hl 4 rfl) ?_
          refine zk_lald hx hb hK hw 8 rfl h3 (j := x6.toNatClampNeg) rfl dX5_comesBy_141 ?_
          refine lv_iload_n hx hb dX5_comesBy_142 rfl (lv_at hl 2 rfl) ?_
          refine lv_i2l (v := x3.toInt64) hx hb dX5_comesBy_143 rfl ?_
          refine lv_lmul hx hb dX5_comesBy_144 ?_
          exact b145 x2 x3 x4 x6 x6 ((Mloads x6.toNatClampNeg) * (x3.toInt64)) Mloads Mbelow Mabove Munder hf H locs ls hw (lv_sub hl [0, 1, 2, 3, 4] rfl)
        · replace hf := zk_f c6 hf
          refine lv_lload hx hb dX5_comesBy_130 (lv_at hl 3 rfl) ?_
          refine lv_goto (tgt := 145) hx hb dX5_comesBy_132 (by decide) ?_
          exact b145 x2 x3 x4 x6 x6 x4 Mloads Mbelow Mabove Munder hf H locs ls hw (lv_sub hl [0, 1, 2, 3, 4] rfl)
  have b79 : ∀ (x1 : Int32) (x2 : Int32) (x3 : Int32) (t1 : Int32) (t2 : Int64) (Mloads : Nat → Int64) (Mbelow : Int64) (Mabove : Nat → Int64) (Munder : Nat → Int64), fX5_comesBy_b79 N x1 x2 x3 t1 t2 Mheads Msets Mballots Mloads Mbelow Mabove Munder = some u → ∀ (H : Heap) (locs : List Loc) (ls : Array Slot), Wd D A s.heap (zwM cI cJ aM Mnow Mread Mpast Mchanges Mtext Mletters Mheads Msets Mballots Mranks Mloads Mbelow Morder Melected Mmembers Mabove Munder Mspot Mvalue) H locs → lv_has ls 7 [(0, .ref (aM 0)), (1, .int x1), (2, .int x2), (3, .int x3)] → W p l e (zk_rm 2 46) s m args below meth c H locs 0 0 Q (F0 m 79 ls [.long t2, .int t1, .ref (aM 11)]) := by
    intro x1 x2 x3 t1 t2 Mloads Mbelow Mabove Munder hf H locs ls hw hl
    unfold fX5_comesBy_b79 at hf
    obtain ⟨h7, hf⟩ := zk_ck hf
    refine zk_last hx hb hK hw 11 rfl h7 (j := t1.toNatClampNeg) rfl dX5_comesBy_79 (fun H locs hw => ?_)
    have hw : Wd D A s.heap (zwM cI cJ aM Mnow Mread Mpast Mchanges Mtext Mletters Mheads Msets Mballots Mranks Mloads Mbelow Morder Melected Mmembers Mabove (vp_updL Munder t1.toNatClampNeg t2) Mspot Mvalue) H locs := hw
    refine lv_iload_n hx hb dX5_comesBy_80 rfl (lv_at hl 1 rfl) ?_
    refine lv_iconst (v := 1) hx hb dX5_comesBy_81 (by decide) ?_
    refine lv_icmp_eq (tgt := 90) hx hb dX5_comesBy_82 (by decide) (fun c8 => ?_) (fun c8 => ?_)
    · replace hf := zk_t c8 hf
      cases hf
      exact zk_vret hx hb hr hlocks hQ hw [0, 1, 2, 3, 4, 5, 6, 7, 8, 9, 10, 11] rfl (by decide) dX5_comesBy_90
    · replace hf := zk_f c8 hf
      refine lv_iload_n hx hb dX5_comesBy_85 rfl (lv_at hl 1 rfl) ?_
      refine lv_iconst (v := 2) hx hb dX5_comesBy_86 (by decide) ?_
      refine lv_icmp_ne (tgt := 91) hx hb dX5_comesBy_87 (by decide) (fun c9 => ?_) (fun c9 => ?_)
      · replace hf := zk_f c9 hf
        refine lv_aload_n hx hb dX5_comesBy_91 rfl (lv_at hl 0 rfl) ?_
        refine lv_iload_n hx hb dX5_comesBy_92 rfl (lv_at hl 2 rfl) ?_
        obtain ⟨u10, e11, hf⟩ := zk_bd hf
        refine zk_calll (wc := zwM cI cJ aM Mnow Mread Mpast Mchanges Mtext Mletters Mheads Msets Mballots Mranks Mloads Mbelow Morder Melected Mmembers Mabove (vp_updL Munder t1.toNatClampNeg t2) Mspot Mvalue) (wr := []) hw hA [0, 1, 2, 3, 4, 5, 6, 7, 8, 9, 10, 11] [] rfl rfl (by decide) (by decide) (va_runV (C := RX5) (As := [.int x2]) (rest := []) ⟨hx, hb, hml, hown, hts⟩ (kX5_loadOf l D cI cJ cO N aM x2 Mnow Mread Mpast Mchanges Mtext Mletters Mheads Msets Mballots Mranks Mloads Mbelow Morder Melected Mmembers Mabove (vp_updL Munder t1.toNatClampNeg t2) Mspot Mvalue u10 e11 H.size) (cwV 1 hts gX5_comesBy_X5_loadOf rfl rfl rfl (by decide +kernel) ⟨Nat.le_of_ble_eq_true rfl, Nat.le_of_ble_eq_true rfl⟩) (zk_preV (wc := zwM cI cJ aM Mnow Mread Mpast Mchanges Mtext Mletters Mheads Msets Mballots Mranks Mloads Mbelow Morder Melected Mmembers Mabove (vp_updL Munder t1.toNatClampNeg t2) Mspot Mvalue) hN hK hw [0, 1, 2, 3, 4, 5, 6, 7, 8, 9, 10, 11] rfl (by decide) 0 5 rfl rfl) rfl rfl hl.1 rfl (lv_room (Nat.le_of_ble_eq_true rfl)) dX5_comesBy_93 ⟨Nat.zero_le _, Nat.zero_le _⟩) (fun H locs hw => ?_)
        have hw : Wd D A s.heap (zwM cI cJ aM Mnow Mread Mpast Mchanges Mtext Mletters Mheads Msets Mballots Mranks Mloads Mbelow Morder Melected Mmembers Mabove (vp_updL Munder t1.toNatClampNeg t2) Mspot Mvalue) H locs := hw
        refine lv_lstore (lv' := [(4, .long u10), (0, .ref (aM 0)), (1, .int x1), (2, .int x2), (3, .int x3)]) hx hb dX5_comesBy_96 hl (by decide) rfl (fun ls hl => ?_)
        refine lv_iconst (v := 0) hx hb dX5_comesBy_98 (by decide) ?_
        refine lv_istore (lv' := [(6, .int (0 : Int32)), (4, .long u10), (0, .ref (aM 0)), (1, .int x1), (2, .int x2), (3, .int x3)]) hx hb dX5_comesBy_99 hl (by decide) rfl (fun ls hl => ?_)
        exact b101 N x2 x3 u10 (0 : Int32) Mloads Mbelow Mabove (vp_updL Munder t1.toNatClampNeg t2) hf H locs ls hw (lv_sub hl [2, 4, 5, 1, 0] rfl)
      · replace hf := zk_t c9 hf
        cases hf
        exact zk_vret hx hb hr hlocks hQ hw [0, 1, 2, 3, 4, 5, 6, 7, 8, 9, 10, 11] rfl (by decide) dX5_comesBy_90
  have b43 : ∀ (x1 : Int32) (x2 : Int32) (x3 : Int32) (t1 : Int32) (t2 : Int64) (Mloads : Nat → Int64) (Mbelow : Int64) (Mabove : Nat → Int64) (Munder : Nat → Int64), fX5_comesBy_b43 N x1 x2 x3 t1 t2 Mheads Msets Mballots Mloads Mbelow Melected Mabove Munder = some u → ∀ (H : Heap) (locs : List Loc) (ls : Array Slot), Wd D A s.heap (zwM cI cJ aM Mnow Mread Mpast Mchanges Mtext Mletters Mheads Msets Mballots Mranks Mloads Mbelow Morder Melected Mmembers Mabove Munder Mspot Mvalue) H locs → lv_has ls 7 [(0, .ref (aM 0)), (1, .int x1), (2, .int x2), (3, .int x3)] → W p l e (zk_rm 2 46) s m args below meth c H locs 0 0 Q (F0 m 43 ls [.long t2, .int t1, .ref (aM 10)]) := by
    intro x1 x2 x3 t1 t2 Mloads Mbelow Mabove Munder hf H locs ls hw hl
    unfold fX5_comesBy_b43 at hf
    obtain ⟨h12, hf⟩ := zk_ck hf
    refine zk_last hx hb hK hw 10 rfl h12 (j := t1.toNatClampNeg) rfl dX5_comesBy_43 (fun H locs hw => ?_)
    have hw : Wd D A s.heap (zwM cI cJ aM Mnow Mread Mpast Mchanges Mtext Mletters Mheads Msets Mballots Mranks Mloads Mbelow Morder Melected Mmembers (vp_updL Mabove t1.toNatClampNeg t2) Munder Mspot Mvalue) H locs := hw
    refine lv_aload_n hx hb dX5_comesBy_44 rfl (lv_at hl 0 rfl) ?_
    refine va_get (D := D) (ci := 5) (v := .ref (aM 11)) (C := RX5) (T := TX5) (N := 19) hx hb hts hiX5 hown hK hw.1 0 rfl rfl 16 (by decide) hq4 (fun _ h9 => h9) rfl dX5_comesBy_45 ?_
    refine lv_aload_n hx hb dX5_comesBy_48 rfl (lv_at hl 0 rfl) ?_
    refine va_get (D := D) (ci := 5) (v := .int Melected) (C := RX5) (T := TX5) (N := 19) hx hb hts hiX5 hown hK hw.1 0 rfl rfl 13 (by decide) hq5 (fun _ h9 => h9) rfl dX5_comesBy_49 ?_
    refine lv_iload_n hx hb dX5_comesBy_52 rfl (lv_at hl 1 rfl) ?_
    refine lv_iconst (v := 1) hx hb dX5_comesBy_53 (by decide) ?_
    refine lv_icmp_ne (tgt := 61) hx hb dX5_comesBy_54 (by decide) (fun c13 => ?_) (fun c13 => ?_)
    · replace hf := zk_f c13 hf
      refine lv_iload_n hx hb dX5_comesBy_61 rfl (lv_at hl 1 rfl) ?_
      refine lv_iconst (v := 2) hx hb dX5_comesBy_62 (by decide) ?_
      refine lv_icmp_ne (tgt := 72) hx hb dX5_comesBy_63 (by decide) (fun c14 => ?_) (fun c14 => ?_)
      · replace hf := zk_f c14 hf
        refine lv_aload_n hx hb dX5_comesBy_72 rfl (lv_at hl 0 rfl) ?_
        refine va_get (D := D) (ci := 5) (v := .long Mbelow) (C := RX5) (T := TX5) (N := 19) hx hb hts hiX5 hown hK hw.1 0 rfl rfl 11 (by decide) hq0 (fun _ h9 => h9) rfl dX5_comesBy_73 ?_
        refine lv_iload_n hx hb dX5_comesBy_76 rfl (lv_at hl 3 rfl) ?_
        refine lv_i2l (v := x3.toInt64) hx hb dX5_comesBy_77 rfl ?_
        refine lv_lmul hx hb dX5_comesBy_78 ?_
        exact b79 x1 x2 x3 Melected (Mbelow * (x3.toInt64)) Mloads Mbelow (vp_updL Mabove t1.toNatClampNeg t2) Munder hf H locs ls hw (lv_sub hl [0, 1, 2, 3] rfl)
      · replace hf := zk_t c14 hf
        refine lv_ldc2 hx hb hown hq6 dX5_comesBy_66 ?_
        refine lv_goto (tgt := 79) hx hb dX5_comesBy_69 (by decide) ?_
        exact b79 x1 x2 x3 Melected (2520 : Int64) Mloads Mbelow (vp_updL Mabove t1.toNatClampNeg t2) Munder hf H locs ls hw (lv_sub hl [0, 1, 2, 3] rfl)
    · replace hf := zk_t c13 hf
      refine lv_lconst (v := 1) hx hb dX5_comesBy_57 (by decide) ?_
      refine lv_goto (tgt := 79) hx hb dX5_comesBy_58 (by decide) ?_
      exact b79 x1 x2 x3 Melected (1 : Int64) Mloads Mbelow (vp_updL Mabove t1.toNatClampNeg t2) Munder hf H locs ls hw (lv_sub hl [0, 1, 2, 3] rfl)
  unfold fX5_comesBy at hf
  refine lv_aload_n hx hb dX5_comesBy_0 rfl (lv_at hl 0 rfl) ?_
  refine lv_iload_n hx hb dX5_comesBy_1 rfl (lv_at hl 2 rfl) ?_
  obtain ⟨u15, e16, hf⟩ := zk_bd hf
  refine zk_calli (wc := zwM cI cJ aM Mnow Mread Mpast Mchanges Mtext Mletters Mheads Msets Mballots Mranks Mloads Mbelow Morder Melected Mmembers Mabove Munder Mspot Mvalue) (wr := []) hw hA [0, 1, 2, 3, 4, 5, 6, 7, 8, 9, 10, 11] [] rfl rfl (by decide) (by decide) (va_runV (C := RX5) (As := [.int p1]) (rest := []) ⟨hx, hb, hml, hown, hts⟩ (kX5_supportOf l D cI cJ cO N aM p1 Mnow Mread Mpast Mchanges Mtext Mletters Mheads Msets Mballots Mranks Mloads Mbelow Morder Melected Mmembers Mabove Munder Mspot Mvalue u15 e16 H.size) (cwV 1 hts gX5_comesBy_X5_supportOf rfl rfl rfl (by decide +kernel) ⟨Nat.le_of_ble_eq_true rfl, Nat.le_of_ble_eq_true rfl⟩) (zk_preV (wc := zwM cI cJ aM Mnow Mread Mpast Mchanges Mtext Mletters Mheads Msets Mballots Mranks Mloads Mbelow Morder Melected Mmembers Mabove Munder Mspot Mvalue) hN hK hw [0, 1, 2, 3, 4, 5, 6, 7, 8, 9, 10, 11] rfl (by decide) 0 5 rfl rfl) rfl rfl hl.1 rfl (lv_room (Nat.le_of_ble_eq_true rfl)) dX5_comesBy_2 ⟨Nat.zero_le _, Nat.zero_le _⟩) (fun H locs hw => ?_)
  have hw : Wd D A s.heap (zwM cI cJ aM Mnow Mread Mpast Mchanges Mtext Mletters Mheads Msets Mballots Mranks Mloads Mbelow Morder Melected Mmembers Mabove Munder Mspot Mvalue) H locs := hw
  refine lv_istore_n (lv' := [(3, .int u15), (0, .ref (aM 0)), (1, .int p0), (2, .int p1)]) hx hb dX5_comesBy_5 rfl hl (by decide) rfl (fun ls hl => ?_)
  refine lv_aload_n hx hb dX5_comesBy_6 rfl (lv_at hl 1 rfl) ?_
  refine va_get (D := D) (ci := 5) (v := .ref (aM 10)) (C := RX5) (T := TX5) (N := 19) hx hb hts hiX5 hown hK hw.1 0 rfl rfl 15 (by decide) hq7 (fun _ h9 => h9) rfl dX5_comesBy_7 ?_
  refine lv_aload_n hx hb dX5_comesBy_10 rfl (lv_at hl 1 rfl) ?_
  refine va_get (D := D) (ci := 5) (v := .int Melected) (C := RX5) (T := TX5) (N := 19) hx hb hts hiX5 hown hK hw.1 0 rfl rfl 13 (by decide) hq5 (fun _ h9 => h9) rfl dX5_comesBy_11 ?_
  refine lv_iload_n hx hb dX5_comesBy_14 rfl (lv_at hl 2 rfl) ?_
  refine lv_iconst (v := 1) hx hb dX5_comesBy_15 (by decide) ?_
  refine lv_icmp_ne (tgt := 24) hx hb dX5_comesBy_16 (by decide) (fun c17 => ?_) (fun c17 => ?_)
  · replace hf := zk_f c17 hf
    refine lv_iload_n hx hb dX5_comesBy_24 rfl (lv_at hl 2 rfl) ?_
    refine lv_iconst (v := 2) hx hb dX5_comesBy_25 (by decide) ?_
    refine lv_icmp_ne (tgt := 38) hx hb dX5_comesBy_26 (by decide) (fun c18 => ?_) (fun c18 => ?_)
    · replace hf := zk_f c18 hf
      refine lv_aload_n hx hb dX5_comesBy_38 rfl (lv_at hl 1 rfl) ?_
      refine lv_iload_n hx hb dX5_comesBy_39 rfl (lv_at hl 3 rfl) ?_
      obtain ⟨u19, e20, hf⟩ := zk_bd hf
      refine zk_calll (wc := zwM cI cJ aM Mnow Mread Mpast Mchanges Mtext Mletters Mheads Msets Mballots Mranks Mloads Mbelow Morder Melected Mmembers Mabove Munder Mspot Mvalue) (wr := []) hw hA [0, 1, 2, 3, 4, 5, 6, 7, 8, 9, 10, 11] [] rfl rfl (by decide) (by decide) (va_runV (C := RX5) (As := [.int p1]) (rest := [.int Melected, .ref (aM 10)]) ⟨hx, hb, hml, hown, hts⟩ (kX5_loadOf l D cI cJ cO N aM p1 Mnow Mread Mpast Mchanges Mtext Mletters Mheads Msets Mballots Mranks Mloads Mbelow Morder Melected Mmembers Mabove Munder Mspot Mvalue u19 e20 H.size) (cwV 1 hts gX5_comesBy_X5_loadOf rfl rfl rfl (by decide +kernel) ⟨Nat.le_of_ble_eq_true rfl, Nat.le_of_ble_eq_true rfl⟩) (zk_preV (wc := zwM cI cJ aM Mnow Mread Mpast Mchanges Mtext Mletters Mheads Msets Mballots Mranks Mloads Mbelow Morder Melected Mmembers Mabove Munder Mspot Mvalue) hN hK hw [0, 1, 2, 3, 4, 5, 6, 7, 8, 9, 10, 11] rfl (by decide) 0 5 rfl rfl) rfl rfl hl.1 rfl (lv_room (Nat.le_of_ble_eq_true rfl)) dX5_comesBy_40 ⟨Nat.zero_le _, Nat.zero_le _⟩) (fun H locs hw => ?_)
      have hw : Wd D A s.heap (zwM cI cJ aM Mnow Mread Mpast Mchanges Mtext Mletters Mheads Msets Mballots Mranks Mloads Mbelow Morder Melected Mmembers Mabove Munder Mspot Mvalue) H locs := hw
      exact b43 p0 p1 u15 Melected u19 Mloads Mbelow Mabove Munder hf H locs ls hw (lv_sub hl [1, 2, 3, 0] rfl)
    · replace hf := zk_t c18 hf
      refine lv_aload_n hx hb dX5_comesBy_29 rfl (lv_at hl 1 rfl) ?_
      refine lv_iload_n hx hb dX5_comesBy_30 rfl (lv_at hl 3 rfl) ?_
      obtain ⟨u21, e22, hf⟩ := zk_bd hf
      refine zk_calli (wc := zwM cI cJ aM Mnow Mread Mpast Mchanges Mtext Mletters Mheads Msets Mballots Mranks Mloads Mbelow Morder Melected Mmembers Mabove Munder Mspot Mvalue) (wr := []) hw hA [0, 1, 2, 3, 4, 5, 6, 7, 8, 9, 10, 11] [] rfl rfl (by decide) (by decide) (va_runV (C := RX5) (As := [.int p1]) (rest := [.int Melected, .ref (aM 10)]) ⟨hx, hb, hml, hown, hts⟩ (kX5_weightOf l D cI cJ cO N aM p1 Mnow Mread Mpast Mchanges Mtext Mletters Mheads Msets Mballots Mranks Mloads Mbelow Morder Melected Mmembers Mabove Munder Mspot Mvalue u21 e22 H.size) (cwV 1 hts gX5_comesBy_X5_weightOf rfl rfl rfl (by decide +kernel) ⟨Nat.le_of_ble_eq_true rfl, Nat.le_of_ble_eq_true rfl⟩) (zk_preV (wc := zwM cI cJ aM Mnow Mread Mpast Mchanges Mtext Mletters Mheads Msets Mballots Mranks Mloads Mbelow Morder Melected Mmembers Mabove Munder Mspot Mvalue) hN hK hw [0, 1, 2, 3, 4, 5, 6, 7, 8, 9, 10, 11] rfl (by decide) 0 5 rfl rfl) rfl rfl hl.1 rfl (lv_room (Nat.le_of_ble_eq_true rfl)) dX5_comesBy_31 ⟨Nat.zero_le _, Nat.zero_le _⟩) (fun H locs hw => ?_)
      have hw : Wd D A s.heap (zwM cI cJ aM Mnow Mread Mpast Mchanges Mtext Mletters Mheads Msets Mballots Mranks Mloads Mbelow Morder Melected Mmembers Mabove Munder Mspot Mvalue) H locs := hw
      refine lv_i2l (v := u21.toInt64) hx hb dX5_comesBy_34 rfl ?_
      refine lv_goto (tgt := 43) hx hb dX5_comesBy_35 (by decide) ?_
      exact b43 p0 p1 u15 Melected (u21.toInt64) Mloads Mbelow Mabove Munder hf H locs ls hw (lv_sub hl [1, 2, 3, 0] rfl)
  · replace hf := zk_t c17 hf
    refine lv_iload_n hx hb dX5_comesBy_19 rfl (lv_at hl 0 rfl) ?_
    refine lv_i2l (v := u15.toInt64) hx hb dX5_comesBy_20 rfl ?_
    refine lv_goto (tgt := 43) hx hb dX5_comesBy_21 (by decide) ?_
    exact b43 p0 p1 u15 Melected (u15.toInt64) Mloads Mbelow Mabove Munder hf H locs ls hw (lv_sub hl [1, 2, 3, 0] rfl)
set_option maxHeartbeats 4000000 in
set_option maxRecDepth 100000 in
theorem kX5_elects (l : Launch) (D : va_G) (cI cJ cO : ClassId) (N : Nat) (aM : Nat → Nat) (p0 : Int32) (Mnow : Nat → Int32) (Mread : Nat → Int32) (Mpast : Nat → Int32) (Mchanges : Int32) (Mtext : Nat → Int32) (Mletters : Int32) (Mheads : Nat → Int32) (Msets : Nat → Int32) (Mballots : Int32) (Mranks : Nat → Int32) (Mloads : Nat → Int64) (Mbelow : Int64) (Morder : Nat → Int32) (Melected : Int32) (Mmembers : Int32) (Mabove : Nat → Int64) (Munder : Nat → Int64) (Mspot : Int32) (Mvalue : Int32) (u : (Nat → Int64) × (Int64) × (Nat → Int32) × (Int32) × (Int32) × (Nat → Int64) × (Nat → Int64)) (hf : fX5_elects N p0 Mnow Mheads Msets Mballots Mranks Mloads Mbelow Morder Melected Mmembers Mabove Munder = some u) : CtV l yX5_elects wsX5_elects (zk_rm 4 96) D cI cJ cO [.ref (aM 0), .int p0] (zwM cI cJ aM Mnow Mread Mpast Mchanges Mtext Mletters Mheads Msets Mballots Mranks Mloads Mbelow Morder Melected Mmembers Mabove Munder Mspot Mvalue) (zwM cI cJ aM Mnow Mread Mpast Mchanges Mtext Mletters Mheads Msets Mballots Mranks u.1 u.2.1 u.2.2.1 u.2.2.2.1 u.2.2.2.2.1 u.2.2.2.2.2.1 u.2.2.2.2.2.2 Mspot Mvalue) := by
  refine zk_enter (cc := cX5_elects) (maxL := 4) (ret := none) (own := RX5) (Qf := fun A => QwV D (zwM cI cJ aM Mnow Mread Mpast Mchanges Mtext Mletters Mheads Msets Mballots Mranks u.1 u.2.1 u.2.2.1 u.2.2.2.1 u.2.2.2.2.1 u.2.2.2.2.2.1 u.2.2.2.2.2.2 Mspot Mvalue) A) (by decide) rfl rfl (Nat.le_of_ble_eq_true rfl) ?_
  intro p e s m args below meth c A Q H locs ls hC hQ hw hl
  obtain ⟨hx, hb, hml, hr, hts, hown, hlocks, hN, hK, hA⟩ := hC
  have hl : lv_has ls 4 [(0, .ref (aM 0)), (1, .int p0)] := hl
  have hiX5 : ∀ w ∈ u_ws RX5 TX5 19, w ∈ wsX5_elects := by decide +kernel
  have hq0 := hts (.fieldLink RX5 35 "LoadCouncilModel" "order" "[I") (by decide +kernel)
  have hq1 := hts (.fieldLink RX5 157 "LoadCouncilModel" "elected" "I") (by decide +kernel)
  have hq2 := hts (.fieldLink RX5 141 "LoadCouncilModel" "members" "I") (by decide +kernel)
  have hq3 := hts (.fieldLink RX5 7 "LoadCouncilModel" "now" "[I") (by decide +kernel)
  have hq4 := hts (.fieldLink RX5 38 "LoadCouncilModel" "above" "[J") (by decide +kernel)
  have hq5 := hts (.fieldLink RX5 41 "LoadCouncilModel" "under" "[J") (by decide +kernel)
  have hq6 := hts (.fieldLink RX5 134 "LoadCouncilModel" "ballots" "I") (by decide +kernel)
  have hq7 := hts (.fieldLink RX5 31 "LoadCouncilModel" "loads" "[J") (by decide +kernel)
  have hq8 := hts (.fieldLink RX5 137 "LoadCouncilModel" "below" "J") (by decide +kernel)
  have b40 : ∀ (n40 : Nat), ∀ (x1 : Int32) (x2 : Int32) (Mloads : Nat → Int64) (Mbelow : Int64) (Morder : Nat → Int32) (Melected : Int32) (Mmembers : Int32) (Mabove : Nat → Int64) (Munder : Nat → Int64), fX5_elects_b40 N n40 x1 x2 Mnow Mheads Msets Mballots Mranks Mloads Mbelow Morder Melected Mmembers Mabove Munder = some u → ∀ (H : Heap) (locs : List Loc) (ls : Array Slot), Wd D A s.heap (zwM cI cJ aM Mnow Mread Mpast Mchanges Mtext Mletters Mheads Msets Mballots Mranks Mloads Mbelow Morder Melected Mmembers Mabove Munder Mspot Mvalue) H locs → lv_has ls 4 [(0, .ref (aM 0)), (1, .int x1), (2, .int x2)] → W p l e (zk_rm 4 96) s m args below meth c H locs 0 0 Q (F0 m 40 ls []) := by
    intro n40
    induction n40 with
    | zero =>
      intro x1 x2 Mloads Mbelow Morder Melected Mmembers Mabove Munder hf
      exact zk_none hf
    | succ n40 ih40 =>
      have b155 : ∀ (x1 : Int32) (x2 : Int32) (Mloads : Nat → Int64) (Mbelow : Int64) (Morder : Nat → Int32) (Melected : Int32) (Mmembers : Int32) (Mabove : Nat → Int64) (Munder : Nat → Int64), fX5_elects_b155 N (fun z0 z1 z2 z3 z4 z5 z6 z7 z8 z9 z10 z11 z12 z13 => fX5_elects_b40 N n40 z0 z1 z2 z3 z4 z5 z6 z7 z8 z9 z10 z11 z12 z13) x1 x2 Mnow Mheads Msets Mballots Mranks Mloads Mbelow Morder Melected Mmembers Mabove Munder = some u → ∀ (H : Heap) (locs : List Loc) (ls : Array Slot), Wd D A s.heap (zwM cI cJ aM Mnow Mread Mpast Mchanges Mtext Mletters Mheads Msets Mballots Mranks Mloads Mbelow Morder Melected Mmembers Mabove Munder Mspot Mvalue) H locs → lv_has ls 4 [(0, .ref (aM 0)), (1, .int x1), (2, .int x2)] → W p l e (zk_rm 4 96) s m args below meth c H locs 0 0 Q (F0 m 155 ls []) := by
        intro x1 x2 Mloads Mbelow Morder Melected Mmembers Mabove Munder hf H locs ls hw hl
        unfold fX5_elects_b155 at hf
        refine lv_goto (tgt := 40) hx hb dX5_elects_155 (by decide) ?_
        exact ih40 x1 x2 Mloads Mbelow Morder Melected Mmembers Mabove Munder hf H locs ls hw (lv_sub hl [0, 1, 2] rfl)
      have b118 : ∀ (x1 : Int32) (x3 : Int32) (t0 : Int32) (Mloads : Nat → Int64) (Mbelow : Int64) (Morder : Nat → Int32) (Melected : Int32) (Mmembers : Int32) (Mabove : Nat → Int64) (Munder : Nat → Int64), fX5_elects_b118 N (fun z0 z1 z2 z3 z4 z5 z6 z7 z8 z9 z10 z11 z12 z13 => fX5_elects_b40 N n40 z0 z1 z2 z3 z4 z5 z6 z7 z8 z9 z10 z11 z12 z13) x1 x3 t0 Mnow Mheads Msets Mballots Mranks Mloads Mbelow Morder Melected Mmembers Mabove Munder = some u → ∀ (H : Heap) (locs : List Loc) (ls : Array Slot), Wd D A s.heap (zwM cI cJ aM Mnow Mread Mpast Mchanges Mtext Mletters Mheads Msets Mballots Mranks Mloads Mbelow Morder Melected Mmembers Mabove Munder Mspot Mvalue) H locs → lv_has ls 4 [(0, .ref (aM 0)), (1, .int x1), (3, .int x3)] → W p l e (zk_rm 4 96) s m args below meth c H locs 0 0 Q (F0 m 118 ls [.int t0]) := by
        intro x1 x3 t0 Mloads Mbelow Morder Melected Mmembers Mabove Munder hf H locs ls hw hl
        unfold fX5_elects_b118 at hf
        refine lv_istore_n (lv' := [(2, .int t0), (0, .ref (aM 0)), (1, .int x1), (3, .int x3)]) hx hb dX5_elects_118 rfl hl (by decide) rfl (fun ls hl => ?_)
        refine lv_iload_n hx hb dX5_elects_119 rfl (lv_at hl 0 rfl) ?_
        refine lv_if_eq (tgt := 155) hx hb dX5_elects_120 (by decide) (fun c1 => ?_) (fun c1 => ?_)
        · replace hf := zk_t c1 hf
          exact b155 x1 t0 Mloads Mbelow Morder Melected Mmembers Mabove Munder hf H locs ls hw (lv_sub hl [1, 2, 0] rfl)
        · replace hf := zk_f c1 hf
          refine lv_aload_n hx hb dX5_elects_123 rfl (lv_at hl 1 rfl) ?_
          refine va_get (D := D) (ci := 5) (v := .ref (aM 9)) (C := RX5) (T := TX5) (N := 19) hx hb hts hiX5 hown hK hw.1 0 rfl rfl 12 (by decide) hq0 (fun _ h9 => h9) rfl dX5_elects_124 ?_
          refine lv_aload_n hx hb dX5_elects_127 rfl (lv_at hl 1 rfl) ?_
          refine va_get (D := D) (ci := 5) (v := .int Melected) (C := RX5) (T := TX5) (N := 19) hx hb hts hiX5 hown hK hw.1 0 rfl rfl 13 (by decide) hq1 (fun _ h9 => h9) rfl dX5_elects_128 ?_
          refine lv_iload_n hx hb dX5_elects_131 rfl (lv_at hl 3 rfl) ?_
          obtain ⟨h2, hf⟩ := zk_ck hf
          refine zk_iast hx hb hK hw 9 rfl h2 (j := Melected.toNatClampNeg) rfl dX5_elects_132 (fun H locs hw => ?_)
          have hw : Wd D A s.heap (zwM cI cJ aM Mnow Mread Mpast Mchanges Mtext Mletters Mheads Msets Mballots Mranks Mloads Mbelow (upd Morder Melected.toNatClampNeg x3) Melected Mmembers Mabove Munder Mspot Mvalue) H locs := hw
          refine lv_aload_n hx hb dX5_elects_133 rfl (lv_at hl 1 rfl) ?_
          refine lv_dup hx hb dX5_elects_134 rfl ?_
          refine va_get (D := D) (ci := 5) (v := .int Mmembers) (C := RX5) (T := TX5) (N := 19) hx hb hts hiX5 hown hK hw.1 0 rfl rfl 14 (by decide) hq2 (fun _ h9 => h9) rfl dX5_elects_135 ?_
          refine lv_iconst (v := 1) hx hb dX5_elects_138 (by decide) ?_
          refine lv_iload_n hx hb dX5_elects_139 rfl (lv_at hl 3 rfl) ?_
          refine lv_ishl hx hb dX5_elects_140 ?_
          refine lv_ior hx hb dX5_elects_141 ?_
          refine va_put (D := D) (ci := 5) (v := .int (Mmembers ||| ((1 : Int32) <<< (x3 &&& 31)))) (C := RX5) (T := TX5) (N := 19) hx hb hts hiX5 tyX5 tyX5_ok nmX5 hown hK hw.1 hw.2.1 hw.2.2 0 rfl rfl 14 (by decide) hq2 (fun _ h9 => h9) rfl (tyX5_ok 14 (by decide)) rfl rfl (Nat.le_of_ble_eq_true rfl) dX5_elects_142 (fun H locs hP hD hS => ?_)
          have hw : Wd D A s.heap (zwM cI cJ aM Mnow Mread Mpast Mchanges Mtext Mletters Mheads Msets Mballots Mranks Mloads Mbelow (upd Morder Melected.toNatClampNeg x3) Melected (Mmembers ||| ((1 : Int32) <<< (x3 &&& 31))) Mabove Munder Mspot Mvalue) H locs := ⟨hP, hD, hS⟩
          clear hP hD hS
          refine lv_aload_n hx hb dX5_elects_145 rfl (lv_at hl 1 rfl) ?_
          refine lv_dup hx hb dX5_elects_146 rfl ?_
          refine va_get (D := D) (ci := 5) (v := .int Melected) (C := RX5) (T := TX5) (N := 19) hx hb hts hiX5 hown hK hw.1 0 rfl rfl 13 (by decide) hq1 (fun _ h9 => h9) rfl dX5_elects_147 ?_
          refine lv_iconst (v := 1) hx hb dX5_elects_150 (by decide) ?_
          refine lv_iadd hx hb dX5_elects_151 ?_
          refine va_put (D := D) (ci := 5) (v := .int (Melected + (1 : Int32))) (C := RX5) (T := TX5) (N := 19) hx hb hts hiX5 tyX5 tyX5_ok nmX5 hown hK hw.1 hw.2.1 hw.2.2 0 rfl rfl 13 (by decide) hq1 (fun _ h9 => h9) rfl (tyX5_ok 13 (by decide)) rfl rfl (Nat.le_of_ble_eq_true rfl) dX5_elects_152 (fun H locs hP hD hS => ?_)
          have hw : Wd D A s.heap (zwM cI cJ aM Mnow Mread Mpast Mchanges Mtext Mletters Mheads Msets Mballots Mranks Mloads Mbelow (upd Morder Melected.toNatClampNeg x3) (Melected + (1 : Int32)) (Mmembers ||| ((1 : Int32) <<< (x3 &&& 31))) Mabove Munder Mspot Mvalue) H locs := ⟨hP, hD, hS⟩
          clear hP hD hS
          exact b155 x1 t0 Mloads Mbelow (upd Morder Melected.toNatClampNeg x3) (Melected + (1 : Int32)) (Mmembers ||| ((1 : Int32) <<< (x3 &&& 31))) Mabove Munder hf H locs ls hw (lv_sub hl [1, 2, 0] rfl)
      have b107 : ∀ (x1 : Int32) (x3 : Int32) (Mloads : Nat → Int64) (Mbelow : Int64) (Morder : Nat → Int32) (Melected : Int32) (Mmembers : Int32) (Mabove : Nat → Int64) (Munder : Nat → Int64), fX5_elects_b107 N (fun z0 z1 z2 z3 z4 z5 z6 z7 z8 z9 z10 z11 z12 z13 => fX5_elects_b40 N n40 z0 z1 z2 z3 z4 z5 z6 z7 z8 z9 z10 z11 z12 z13) x1 x3 Mnow Mheads Msets Mballots Mranks Mloads Mbelow Morder Melected Mmembers Mabove Munder = some u → ∀ (H : Heap) (locs : List Loc) (ls : Array Slot), Wd D A s.heap (zwM cI cJ aM Mnow Mread Mpast Mchanges Mtext Mletters Mheads Msets Mballots Mranks Mloads Mbelow Morder Melected Mmembers Mabove Munder Mspot Mvalue) H locs → lv_has ls 4 [(0, .ref (aM 0)), (1, .int x1), (3, .int x3)] → W p l e (zk_rm 4 96) s m args below meth c H locs 0 0 Q (F0 m 107 ls []) := by
        intro x1 x3 Mloads Mbelow Morder Melected Mmembers Mabove Munder hf H locs ls hw hl
        unfold fX5_elects_b107 at hf
        refine lv_iload_n hx hb dX5_elects_107 rfl (lv_at hl 2 rfl) ?_
        refine lv_bipush (v := (-4)) hx hb dX5_elects_108 (by decide) ?_
        refine lv_icmp_eq (tgt := 117) hx hb dX5_elects_110 (by decide) (fun c3 => ?_) (fun c3 => ?_)
        · replace hf := zk_t c3 hf
          refine lv_iconst (v := 0) hx hb dX5_elects_117 (by decide) ?_
          exact b118 x1 x3 (0 : Int32) Mloads Mbelow Morder Melected Mmembers Mabove Munder hf H locs ls hw (lv_sub hl [0, 1, 2] rfl)
        · replace hf := zk_f c3 hf
          refine lv_iconst (v := 1) hx hb dX5_elects_113 (by decide) ?_
          refine lv_goto (tgt := 118) hx hb dX5_elects_114 (by decide) ?_
          exact b118 x1 x3 (1 : Int32) Mloads Mbelow Morder Melected Mmembers Mabove Munder hf H locs ls hw (lv_sub hl [0, 1, 2] rfl)
      intro x1 x2 Mloads Mbelow Morder Melected Mmembers Mabove Munder hf H locs ls hw hl
      rw [fX5_elects_b40] at hf
      refine lv_iload_n hx hb dX5_elects_40 rfl (lv_at hl 2 rfl) ?_
      refine lv_if_eq (tgt := 158) hx hb dX5_elects_41 (by decide) (fun c4 => ?_) (fun c4 => ?_)
      · replace hf := zk_t c4 hf
        cases hf
        exact zk_vret hx hb hr hlocks hQ hw [0, 1, 2, 3, 4, 5, 6, 7, 8, 9, 10, 11] rfl (by decide) dX5_elects_158
      · replace hf := zk_f c4 hf
        refine lv_aload_n hx hb dX5_elects_44 rfl (lv_at hl 0 rfl) ?_
        refine va_get (D := D) (ci := 5) (v := .int Melected) (C := RX5) (T := TX5) (N := 19) hx hb hts hiX5 hown hK hw.1 0 rfl rfl 13 (by decide) hq1 (fun _ h9 => h9) rfl dX5_elects_45 ?_
        refine lv_aload_n hx hb dX5_elects_48 rfl (lv_at hl 0 rfl) ?_
        refine va_get (D := D) (ci := 5) (v := .ref (aM 1)) (C := RX5) (T := TX5) (N := 19) hx hb hts hiX5 hown hK hw.1 0 rfl rfl 0 (by decide) hq3 (fun _ h9 => h9) rfl dX5_elects_49 ?_
        refine lv_bipush (v := 22) hx hb dX5_elects_52 (by decide) ?_
        refine zk_iald hx hb hK hw 1 rfl (zk_in (by decide)) (j := 22) rfl dX5_elects_54 ?_
        refine lv_icmp_ge (tgt := 158) hx hb dX5_elects_55 (by decide) (fun c5 => ?_) (fun c5 => ?_)
        · replace hf := zk_t c5 hf
          cases hf
          exact zk_vret hx hb hr hlocks hQ hw [0, 1, 2, 3, 4, 5, 6, 7, 8, 9, 10, 11] rfl (by decide) dX5_elects_158
        · replace hf := zk_f c5 hf
          refine lv_aload_n hx hb dX5_elects_58 rfl (lv_at hl 0 rfl) ?_
          refine lv_iload_n hx hb dX5_elects_59 rfl (lv_at hl 1 rfl) ?_
          refine lv_iconst (v := 1) hx hb dX5_elects_60 (by decide) ?_
          obtain ⟨u6, e7, hf⟩ := zk_bd hf
          refine zk_calli (wc := zwM cI cJ aM Mnow Mread Mpast Mchanges Mtext Mletters Mheads Msets Mballots Mranks Mloads Mbelow Morder Melected Mmembers Mabove Munder Mspot Mvalue) (wr := []) hw hA [0, 1, 2, 3, 4, 5, 6, 7, 8, 9, 10, 11] [] rfl rfl (by decide) (by decide) (va_runV (C := RX5) (As := [.int x1, .int (1 : Int32)]) (rest := []) ⟨hx, hb, hml, hown, hts⟩ (kX5_nextOf l D cI cJ cO N aM x1 (1 : Int32) Mnow Mread Mpast Mchanges Mtext Mletters Mheads Msets Mballots Mranks Mloads Mbelow Morder Melected Mmembers Mabove Munder Mspot Mvalue u6 e7 H.size) (cwV 2 hts gX5_elects_X5_nextOf rfl rfl rfl (by decide +kernel) ⟨Nat.le_of_ble_eq_true rfl, Nat.le_of_ble_eq_true rfl⟩) (zk_preV (wc := zwM cI cJ aM Mnow Mread Mpast Mchanges Mtext Mletters Mheads Msets Mballots Mranks Mloads Mbelow Morder Melected Mmembers Mabove Munder Mspot Mvalue) hN hK hw [0, 1, 2, 3, 4, 5, 6, 7, 8, 9, 10, 11] rfl (by decide) 0 5 rfl rfl) rfl rfl hl.1 rfl (lv_room (Nat.le_of_ble_eq_true rfl)) dX5_elects_61 ⟨Nat.zero_le _, Nat.zero_le _⟩) (fun H locs hw => ?_)
          have hw : Wd D A s.heap (zwM cI cJ aM Mnow Mread Mpast Mchanges Mtext Mletters Mheads Msets Mballots Mranks Mloads Mbelow Morder Melected Mmembers Mabove Munder Mspot Mvalue) H locs := hw
          refine lv_istore_n (lv' := [(3, .int u6), (0, .ref (aM 0)), (1, .int x1), (2, .int x2)]) hx hb dX5_elects_64 rfl hl (by decide) rfl (fun ls hl => ?_)
          refine lv_iload_n hx hb dX5_elects_65 rfl (lv_at hl 0 rfl) ?_
          refine lv_bipush (v := (-4)) hx hb dX5_elects_66 (by decide) ?_
          refine lv_icmp_eq (tgt := 80) hx hb dX5_elects_68 (by decide) (fun c8 => ?_) (fun c8 => ?_)
          · replace hf := zk_t c8 hf
            refine lv_aload_n hx hb dX5_elects_80 rfl (lv_at hl 1 rfl) ?_
            refine lv_iload_n hx hb dX5_elects_81 rfl (lv_at hl 2 rfl) ?_
            refine lv_iconst (v := 0) hx hb dX5_elects_82 (by decide) ?_
            obtain ⟨u9, e10, hf⟩ := zk_bd hf
            refine zk_calli (wc := zwM cI cJ aM Mnow Mread Mpast Mchanges Mtext Mletters Mheads Msets Mballots Mranks Mloads Mbelow Morder Melected Mmembers Mabove Munder Mspot Mvalue) (wr := []) hw hA [0, 1, 2, 3, 4, 5, 6, 7, 8, 9, 10, 11] [] rfl rfl (by decide) (by decide) (va_runV (C := RX5) (As := [.int x1, .int (0 : Int32)]) (rest := []) ⟨hx, hb, hml, hown, hts⟩ (kX5_nextOf l D cI cJ cO N aM x1 (0 : Int32) Mnow Mread Mpast Mchanges Mtext Mletters Mheads Msets Mballots Mranks Mloads Mbelow Morder Melected Mmembers Mabove Munder Mspot Mvalue u9 e10 H.size) (cwV 2 hts gX5_elects_X5_nextOf rfl rfl rfl (by decide +kernel) ⟨Nat.le_of_ble_eq_true rfl, Nat.le_of_ble_eq_true rfl⟩) (zk_preV (wc := zwM cI cJ aM Mnow Mread Mpast Mchanges Mtext Mletters Mheads Msets Mballots Mranks Mloads Mbelow Morder Melected Mmembers Mabove Munder Mspot Mvalue) hN hK hw [0, 1, 2, 3, 4, 5, 6, 7, 8, 9, 10, 11] rfl (by decide) 0 5 rfl rfl) rfl rfl hl.1 rfl (lv_room (Nat.le_of_ble_eq_true rfl)) dX5_elects_83 ⟨Nat.zero_le _, Nat.zero_le _⟩) (fun H locs hw => ?_)
            have hw : Wd D A s.heap (zwM cI cJ aM Mnow Mread Mpast Mchanges Mtext Mletters Mheads Msets Mballots Mranks Mloads Mbelow Morder Melected Mmembers Mabove Munder Mspot Mvalue) H locs := hw
            refine lv_istore_n (lv' := [(3, .int u9), (0, .ref (aM 0)), (1, .int x1), (2, .int x2)]) hx hb dX5_elects_86 rfl hl (by decide) rfl (fun ls hl => ?_)
            refine lv_aload_n hx hb dX5_elects_87 rfl (lv_at hl 1 rfl) ?_
            refine va_get (D := D) (ci := 5) (v := .ref (aM 10)) (C := RX5) (T := TX5) (N := 19) hx hb hts hiX5 hown hK hw.1 0 rfl rfl 15 (by decide) hq4 (fun _ h9 => h9) rfl dX5_elects_88 ?_
            refine lv_aload_n hx hb dX5_elects_91 rfl (lv_at hl 1 rfl) ?_
            refine va_get (D := D) (ci := 5) (v := .int Melected) (C := RX5) (T := TX5) (N := 19) hx hb hts hiX5 hown hK hw.1 0 rfl rfl 13 (by decide) hq1 (fun _ h9 => h9) rfl dX5_elects_92 ?_
            refine lv_lconst (v := 0) hx hb dX5_elects_95 (by decide) ?_
            obtain ⟨h11, hf⟩ := zk_ck hf
            refine zk_last hx hb hK hw 10 rfl h11 (j := Melected.toNatClampNeg) rfl dX5_elects_96 (fun H locs hw => ?_)
            have hw : Wd D A s.heap (zwM cI cJ aM Mnow Mread Mpast Mchanges Mtext Mletters Mheads Msets Mballots Mranks Mloads Mbelow Morder Melected Mmembers (vp_updL Mabove Melected.toNatClampNeg (0 : Int64)) Munder Mspot Mvalue) H locs := hw
            refine lv_aload_n hx hb dX5_elects_97 rfl (lv_at hl 1 rfl) ?_
            refine va_get (D := D) (ci := 5) (v := .ref (aM 11)) (C := RX5) (T := TX5) (N := 19) hx hb hts hiX5 hown hK hw.1 0 rfl rfl 16 (by decide) hq5 (fun _ h9 => h9) rfl dX5_elects_98 ?_
            refine lv_aload_n hx hb dX5_elects_101 rfl (lv_at hl 1 rfl) ?_
            refine va_get (D := D) (ci := 5) (v := .int Melected) (C := RX5) (T := TX5) (N := 19) hx hb hts hiX5 hown hK hw.1 0 rfl rfl 13 (by decide) hq1 (fun _ h9 => h9) rfl dX5_elects_102 ?_
            refine lv_lconst (v := 0) hx hb dX5_elects_105 (by decide) ?_
            refine zk_last hx hb hK hw 11 rfl h11 (j := Melected.toNatClampNeg) rfl dX5_elects_106 (fun H locs hw => ?_)
            have hw : Wd D A s.heap (zwM cI cJ aM Mnow Mread Mpast Mchanges Mtext Mletters Mheads Msets Mballots Mranks Mloads Mbelow Morder Melected Mmembers (vp_updL Mabove Melected.toNatClampNeg (0 : Int64)) (vp_updL Munder Melected.toNatClampNeg (0 : Int64)) Mspot Mvalue) H locs := hw
            exact b107 x1 u9 Mloads Mbelow Morder Melected Mmembers (vp_updL Mabove Melected.toNatClampNeg (0 : Int64)) (vp_updL Munder Melected.toNatClampNeg (0 : Int64)) hf H locs ls hw (lv_sub hl [1, 2, 0] rfl)
          · replace hf := zk_f c8 hf
            refine lv_aload_n hx hb dX5_elects_71 rfl (lv_at hl 1 rfl) ?_
            refine lv_iload_n hx hb dX5_elects_72 rfl (lv_at hl 2 rfl) ?_
            refine lv_iload_n hx hb dX5_elects_73 rfl (lv_at hl 0 rfl) ?_
            obtain ⟨u12, e13, hf⟩ := zk_bd hf
            refine zk_callv (wc := zwM cI cJ aM Mnow Mread Mpast Mchanges Mtext Mletters Mheads Msets Mballots Mranks Mloads Mbelow Morder Melected Mmembers Mabove Munder Mspot Mvalue) (wr := []) hw hA [0, 1, 2, 3, 4, 5, 6, 7, 8, 9, 10, 11] [] rfl rfl (by decide) (by decide) (va_runV (C := RX5) (As := [.int x1, .int u6]) (rest := []) ⟨hx, hb, hml, hown, hts⟩ (kX5_comesBy l D cI cJ cO N aM x1 u6 Mnow Mread Mpast Mchanges Mtext Mletters Mheads Msets Mballots Mranks Mloads Mbelow Morder Melected Mmembers Mabove Munder Mspot Mvalue u12 e13 H.size) (cwV 2 hts gX5_elects_X5_comesBy rfl rfl rfl (by decide +kernel) ⟨Nat.le_of_ble_eq_true rfl, Nat.le_of_ble_eq_true rfl⟩) (zk_preV (wc := zwM cI cJ aM Mnow Mread Mpast Mchanges Mtext Mletters Mheads Msets Mballots Mranks Mloads Mbelow Morder Melected Mmembers Mabove Munder Mspot Mvalue) hN hK hw [0, 1, 2, 3, 4, 5, 6, 7, 8, 9, 10, 11] rfl (by decide) 0 5 rfl rfl) rfl rfl hl.1 rfl (lv_room (Nat.le_of_ble_eq_true rfl)) dX5_elects_74 ⟨Nat.zero_le _, Nat.zero_le _⟩) (fun H locs hw => ?_)
            have hw : Wd D A s.heap (zwM cI cJ aM Mnow Mread Mpast Mchanges Mtext Mletters Mheads Msets Mballots Mranks u12.1 u12.2.1 Morder Melected Mmembers u12.2.2.1 u12.2.2.2 Mspot Mvalue) H locs := hw
            refine lv_goto (tgt := 107) hx hb dX5_elects_77 (by decide) ?_
            exact b107 x1 u6 u12.1 u12.2.1 Morder Melected Mmembers u12.2.2.1 u12.2.2.2 hf H locs ls hw (lv_sub hl [1, 2, 0] rfl)
  have b38 : ∀ (x1 : Int32) (Mloads : Nat → Int64) (Mbelow : Int64) (Morder : Nat → Int32) (Melected : Int32) (Mmembers : Int32) (Mabove : Nat → Int64) (Munder : Nat → Int64), fX5_elects_b38 N x1 Mnow Mheads Msets Mballots Mranks Mloads Mbelow Morder Melected Mmembers Mabove Munder = some u → ∀ (H : Heap) (locs : List Loc) (ls : Array Slot), Wd D A s.heap (zwM cI cJ aM Mnow Mread Mpast Mchanges Mtext Mletters Mheads Msets Mballots Mranks Mloads Mbelow Morder Melected Mmembers Mabove Munder Mspot Mvalue) H locs → lv_has ls 4 [(0, .ref (aM 0)), (1, .int x1)] → W p l e (zk_rm 4 96) s m args below meth c H locs 0 0 Q (F0 m 38 ls []) := by
    intro x1 Mloads Mbelow Morder Melected Mmembers Mabove Munder hf H locs ls hw hl
    unfold fX5_elects_b38 at hf
    refine lv_iconst (v := 1) hx hb dX5_elects_38 (by decide) ?_
    refine lv_istore_n (lv' := [(2, .int (1 : Int32)), (0, .ref (aM 0)), (1, .int x1)]) hx hb dX5_elects_39 rfl hl (by decide) rfl (fun ls hl => ?_)
    exact b40 N x1 (1 : Int32) Mloads Mbelow Morder Melected Mmembers Mabove Munder hf H locs ls hw (lv_sub hl [1, 2, 0] rfl)
  have b17 : ∀ (n17 : Nat), ∀ (x1 : Int32) (x2 : Int32) (Mloads : Nat → Int64) (Mbelow : Int64) (Morder : Nat → Int32) (Melected : Int32) (Mmembers : Int32) (Mabove : Nat → Int64) (Munder : Nat → Int64), fX5_elects_b17 N n17 x1 x2 Mnow Mheads Msets Mballots Mranks Mloads Mbelow Morder Melected Mmembers Mabove Munder = some u → ∀ (H : Heap) (locs : List Loc) (ls : Array Slot), Wd D A s.heap (zwM cI cJ aM Mnow Mread Mpast Mchanges Mtext Mletters Mheads Msets Mballots Mranks Mloads Mbelow Morder Melected Mmembers Mabove Munder Mspot Mvalue) H locs → lv_has ls 4 [(0, .ref (aM 0)), (1, .int x1), (2, .int x2)] → W p l e (zk_rm 4 96) s m args below meth c H locs 0 0 Q (F0 m 17 ls []) := by
    intro n17
    induction n17 with
    | zero =>
      intro x1 x2 Mloads Mbelow Morder Melected Mmembers Mabove Munder hf
      exact zk_none hf
    | succ n17 ih17 =>
      intro x1 x2 Mloads Mbelow Morder Melected Mmembers Mabove Munder hf H locs ls hw hl
      rw [fX5_elects_b17] at hf
      refine lv_iload_n hx hb dX5_elects_17 rfl (lv_at hl 2 rfl) ?_
      refine lv_aload_n hx hb dX5_elects_18 rfl (lv_at hl 0 rfl) ?_
      refine va_get (D := D) (ci := 5) (v := .int Mballots) (C := RX5) (T := TX5) (N := 19) hx hb hts hiX5 hown hK hw.1 0 rfl rfl 8 (by decide) hq6 (fun _ h9 => h9) rfl dX5_elects_19 ?_
      refine lv_icmp_ge (tgt := 38) hx hb dX5_elects_22 (by decide) (fun c14 => ?_) (fun c14 => ?_)
      · replace hf := zk_t c14 hf
        exact b38 x1 Mloads Mbelow Morder Melected Mmembers Mabove Munder hf H locs ls hw (lv_sub hl [0, 1] rfl)
      · replace hf := zk_f c14 hf
        refine lv_aload_n hx hb dX5_elects_25 rfl (lv_at hl 0 rfl) ?_
        refine va_get (D := D) (ci := 5) (v := .ref (aM 8)) (C := RX5) (T := TX5) (N := 19) hx hb hts hiX5 hown hK hw.1 0 rfl rfl 10 (by decide) hq7 (fun _ h9 => h9) rfl dX5_elects_26 ?_
        refine lv_iload_n hx hb dX5_elects_29 rfl (lv_at hl 2 rfl) ?_
        refine lv_lconst (v := 0) hx hb dX5_elects_30 (by decide) ?_
        obtain ⟨h15, hf⟩ := zk_ck hf
        refine zk_last hx hb hK hw 8 rfl h15 (j := x2.toNatClampNeg) rfl dX5_elects_31 (fun H locs hw => ?_)
        have hw : Wd D A s.heap (zwM cI cJ aM Mnow Mread Mpast Mchanges Mtext Mletters Mheads Msets Mballots Mranks (vp_updL Mloads x2.toNatClampNeg (0 : Int64)) Mbelow Morder Melected Mmembers Mabove Munder Mspot Mvalue) H locs := hw
        refine lv_iinc (v := (x2 + (1 : Int32))) (lv' := [(2, .int (x2 + (1 : Int32))), (0, .ref (aM 0)), (1, .int x1)]) hx hb dX5_elects_32 hl (k := 2) rfl rfl (by decide) rfl (fun ls hl => ?_)
        refine lv_goto (tgt := 17) hx hb dX5_elects_35 (by decide) ?_
        exact ih17 x1 (x2 + (1 : Int32)) (vp_updL Mloads x2.toNatClampNeg (0 : Int64)) Mbelow Morder Melected Mmembers Mabove Munder hf H locs ls hw (lv_sub hl [1, 2, 0] rfl)
  unfold fX5_elects at hf
  refine lv_aload_n hx hb dX5_elects_0 rfl (lv_at hl 0 rfl) ?_
  refine lv_iconst (v := 0) hx hb dX5_elects_1 (by decide) ?_
  refine va_put (D := D) (ci := 5) (v := .int (0 : Int32)) (C := RX5) (T := TX5) (N := 19) hx hb hts hiX5 tyX5 tyX5_ok nmX5 hown hK hw.1 hw.2.1 hw.2.2 0 rfl rfl 13 (by decide) hq1 (fun _ h9 => h9) rfl (tyX5_ok 13 (by decide)) rfl rfl (Nat.le_of_ble_eq_true rfl) dX5_elects_2 (fun H locs hP hD hS => ?_)
  have hw : Wd D A s.heap (zwM cI cJ aM Mnow Mread Mpast Mchanges Mtext Mletters Mheads Msets Mballots Mranks Mloads Mbelow Morder (0 : Int32) Mmembers Mabove Munder Mspot Mvalue) H locs := ⟨hP, hD, hS⟩
  clear hP hD hS
  refine lv_aload_n hx hb dX5_elects_5 rfl (lv_at hl 0 rfl) ?_
  refine lv_iconst (v := 0) hx hb dX5_elects_6 (by decide) ?_
  refine va_put (D := D) (ci := 5) (v := .int (0 : Int32)) (C := RX5) (T := TX5) (N := 19) hx hb hts hiX5 tyX5 tyX5_ok nmX5 hown hK hw.1 hw.2.1 hw.2.2 0 rfl rfl 14 (by decide) hq2 (fun _ h9 => h9) rfl (tyX5_ok 14 (by decide)) rfl rfl (Nat.le_of_ble_eq_true rfl) dX5_elects_7 (fun H locs hP hD hS => ?_)
  have hw : Wd D A s.heap (zwM cI cJ aM Mnow Mread Mpast Mchanges Mtext Mletters Mheads Msets Mballots Mranks Mloads Mbelow Morder (0 : Int32) (0 : Int32) Mabove Munder Mspot Mvalue) H locs := ⟨hP, hD, hS⟩
  clear hP hD hS
  refine lv_aload_n hx hb dX5_elects_10 rfl (lv_at hl 0 rfl) ?_
  refine lv_lconst (v := 1) hx hb dX5_elects_11 (by decide) ?_
  refine va_put (D := D) (ci := 5) (v := .long (1 : Int64)) (C := RX5) (T := TX5) (N := 19) hx hb hts hiX5 tyX5 tyX5_ok nmX5 hown hK hw.1 hw.2.1 hw.2.2 0 rfl rfl 11 (by decide) hq8 (fun _ h9 => h9) rfl (tyX5_ok 11 (by decide)) rfl rfl (Nat.le_of_ble_eq_true rfl) dX5_elects_12 (fun H locs hP hD hS => ?_)
  have hw : Wd D A s.heap (zwM cI cJ aM Mnow Mread Mpast Mchanges Mtext Mletters Mheads Msets Mballots Mranks Mloads (1 : Int64) Morder (0 : Int32) (0 : Int32) Mabove Munder Mspot Mvalue) H locs := ⟨hP, hD, hS⟩
  clear hP hD hS
  refine lv_iconst (v := 0) hx hb dX5_elects_15 (by decide) ?_
  refine lv_istore_n (lv' := [(2, .int (0 : Int32)), (0, .ref (aM 0)), (1, .int p0)]) hx hb dX5_elects_16 rfl hl (by decide) rfl (fun ls hl => ?_)
  exact b17 N p0 (0 : Int32) Mloads (1 : Int64) Morder (0 : Int32) (0 : Int32) Mabove Munder hf H locs ls hw (lv_sub hl [1, 2, 0] rfl)
set_option maxHeartbeats 4000000 in
set_option maxRecDepth 100000 in
theorem kX5_membersBy (l : Launch) (D : va_G) (cI cJ cO : ClassId) (N : Nat) (aM : Nat → Nat) (p0 : Int32) (Mnow : Nat → Int32) (Mread : Nat → Int32) (Mpast : Nat → Int32) (Mchanges : Int32) (Mtext : Nat → Int32) (Mletters : Int32) (Mheads : Nat → Int32) (Msets : Nat → Int32) (Mballots : Int32) (Mranks : Nat → Int32) (Mloads : Nat → Int64) (Mbelow : Int64) (Morder : Nat → Int32) (Melected : Int32) (Mmembers : Int32) (Mabove : Nat → Int64) (Munder : Nat → Int64) (Mspot : Int32) (Mvalue : Int32) (u : Int32 × (Nat → Int32) × (Nat → Int32) × (Int32) × (Nat → Int32) × (Nat → Int64) × (Int64) × (Nat → Int32) × (Int32) × (Int32) × (Nat → Int64) × (Nat → Int64)) (hf : fX5_membersBy N p0 Mnow Mheads Msets Mballots Mranks Mloads Mbelow Morder Melected Mmembers Mabove Munder = some u) : CtI l yX5_membersBy wsX5_membersBy (zk_rm 5 119) D cI cJ cO [.ref (aM 0), .int p0] (zwM cI cJ aM Mnow Mread Mpast Mchanges Mtext Mletters Mheads Msets Mballots Mranks Mloads Mbelow Morder Melected Mmembers Mabove Munder Mspot Mvalue) (zwM cI cJ aM Mnow Mread Mpast Mchanges Mtext Mletters u.2.1 u.2.2.1 u.2.2.2.1 u.2.2.2.2.1 u.2.2.2.2.2.1 u.2.2.2.2.2.2.1 u.2.2.2.2.2.2.2.1 u.2.2.2.2.2.2.2.2.1 u.2.2.2.2.2.2.2.2.2.1 u.2.2.2.2.2.2.2.2.2.2.1 u.2.2.2.2.2.2.2.2.2.2.2 Mspot Mvalue) (u.1) := by
  refine zk_enter (cc := cX5_membersBy) (maxL := 2) (ret := some .int) (own := RX5) (Qf := fun A => QwI D (zwM cI cJ aM Mnow Mread Mpast Mchanges Mtext Mletters u.2.1 u.2.2.1 u.2.2.2.1 u.2.2.2.2.1 u.2.2.2.2.2.1 u.2.2.2.2.2.2.1 u.2.2.2.2.2.2.2.1 u.2.2.2.2.2.2.2.2.1 u.2.2.2.2.2.2.2.2.2.1 u.2.2.2.2.2.2.2.2.2.2.1 u.2.2.2.2.2.2.2.2.2.2.2 Mspot Mvalue) (u.1) A) (by decide) rfl rfl (Nat.le_of_ble_eq_true rfl) ?_
  intro p e s m args below meth c A Q H locs ls hC hQ hw hl
  obtain ⟨hx, hb, hml, hr, hts, hown, hlocks, hN, hK, hA⟩ := hC
  have hl : lv_has ls 2 [(0, .ref (aM 0)), (1, .int p0)] := hl
  have hiX5 : ∀ w ∈ u_ws RX5 TX5 19, w ∈ wsX5_membersBy := by decide +kernel
  have hq0 := hts (.fieldLink RX5 141 "LoadCouncilModel" "members" "I") (by decide +kernel)
  unfold fX5_membersBy at hf
  refine lv_aload_n hx hb dX5_membersBy_0 rfl (lv_at hl 0 rfl) ?_
  obtain ⟨u1, e2, hf⟩ := zk_bd hf
  refine zk_callv (wc := zwM cI cJ aM Mnow Mread Mpast Mchanges Mtext Mletters Mheads Msets Mballots Mranks Mloads Mbelow Morder Melected Mmembers Mabove Munder Mspot Mvalue) (wr := []) hw hA [0, 1, 2, 3, 4, 5, 6, 7, 8, 9, 10, 11] [] rfl rfl (by decide) (by decide) (va_runV (C := RX5) (As := []) (rest := []) ⟨hx, hb, hml, hown, hts⟩ (kX5_lays l D cI cJ cO N aM Mnow Mread Mpast Mchanges Mtext Mletters Mheads Msets Mballots Mranks Mloads Mbelow Morder Melected Mmembers Mabove Munder Mspot Mvalue u1 e2 H.size) (cwV 0 hts gX5_membersBy_X5_lays rfl rfl rfl (by decide +kernel) ⟨Nat.le_of_ble_eq_true rfl, Nat.le_of_ble_eq_true rfl⟩) (zk_preV (wc := zwM cI cJ aM Mnow Mread Mpast Mchanges Mtext Mletters Mheads Msets Mballots Mranks Mloads Mbelow Morder Melected Mmembers Mabove Munder Mspot Mvalue) hN hK hw [0, 1, 2, 3, 4, 5, 6, 7, 8, 9, 10, 11] rfl (by decide) 0 5 rfl rfl) rfl rfl hl.1 rfl (lv_room (Nat.le_of_ble_eq_true rfl)) dX5_membersBy_1 ⟨Nat.zero_le _, Nat.zero_le _⟩) (fun H locs hw => ?_)
  have hw : Wd D A s.heap (zwM cI cJ aM Mnow Mread Mpast Mchanges Mtext Mletters u1.1 u1.2.1 u1.2.2.1 u1.2.2.2 Mloads Mbelow Morder Melected Mmembers Mabove Munder Mspot Mvalue) H locs := hw
  refine lv_aload_n hx hb dX5_membersBy_4 rfl (lv_at hl 0 rfl) ?_
  refine lv_iload_n hx hb dX5_membersBy_5 rfl (lv_at hl 1 rfl) ?_
  obtain ⟨u3, e4, hf⟩ := zk_bd hf
  refine zk_callv (wc := zwM cI cJ aM Mnow Mread Mpast Mchanges Mtext Mletters u1.1 u1.2.1 u1.2.2.1 u1.2.2.2 Mloads Mbelow Morder Melected Mmembers Mabove Munder Mspot Mvalue) (wr := []) hw hA [0, 1, 2, 3, 4, 5, 6, 7, 8, 9, 10, 11] [] rfl rfl (by decide) (by decide) (va_runV (C := RX5) (As := [.int p0]) (rest := []) ⟨hx, hb, hml, hown, hts⟩ (kX5_elects l D cI cJ cO N aM p0 Mnow Mread Mpast Mchanges Mtext Mletters u1.1 u1.2.1 u1.2.2.1 u1.2.2.2 Mloads Mbelow Morder Melected Mmembers Mabove Munder Mspot Mvalue u3 e4 H.size) (cwV 1 hts gX5_membersBy_X5_elects rfl rfl rfl (by decide +kernel) ⟨Nat.le_of_ble_eq_true rfl, Nat.le_of_ble_eq_true rfl⟩) (zk_preV (wc := zwM cI cJ aM Mnow Mread Mpast Mchanges Mtext Mletters u1.1 u1.2.1 u1.2.2.1 u1.2.2.2 Mloads Mbelow Morder Melected Mmembers Mabove Munder Mspot Mvalue) hN hK hw [0, 1, 2, 3, 4, 5, 6, 7, 8, 9, 10, 11] rfl (by decide) 0 5 rfl rfl) rfl rfl hl.1 rfl (lv_room (Nat.le_of_ble_eq_true rfl)) dX5_membersBy_6 ⟨Nat.zero_le _, Nat.zero_le _⟩) (fun H locs hw => ?_)
  have hw : Wd D A s.heap (zwM cI cJ aM Mnow Mread Mpast Mchanges Mtext Mletters u1.1 u1.2.1 u1.2.2.1 u1.2.2.2 u3.1 u3.2.1 u3.2.2.1 u3.2.2.2.1 u3.2.2.2.2.1 u3.2.2.2.2.2.1 u3.2.2.2.2.2.2 Mspot Mvalue) H locs := hw
  refine lv_aload_n hx hb dX5_membersBy_9 rfl (lv_at hl 0 rfl) ?_
  refine va_get (D := D) (ci := 5) (v := .int u3.2.2.2.2.1) (C := RX5) (T := TX5) (N := 19) hx hb hts hiX5 hown hK hw.1 0 rfl rfl 14 (by decide) hq0 (fun _ h9 => h9) rfl dX5_membersBy_10 ?_
  cases hf
  exact zk_iret hx hb hr hlocks rfl hQ hw [0, 1, 2, 3, 4, 5, 6, 7, 8, 9, 10, 11] rfl (by decide) dX5_membersBy_13
set_option maxHeartbeats 4000000 in
set_option maxRecDepth 100000 in
theorem kX5_lawsOf (l : Launch) (D : va_G) (cI cJ cO : ClassId) (N : Nat) (aM : Nat → Nat) (p0 : Int32) (Mnow : Nat → Int32) (Mread : Nat → Int32) (Mpast : Nat → Int32) (Mchanges : Int32) (Mtext : Nat → Int32) (Mletters : Int32) (Mheads : Nat → Int32) (Msets : Nat → Int32) (Mballots : Int32) (Mranks : Nat → Int32) (Mloads : Nat → Int64) (Mbelow : Int64) (Morder : Nat → Int32) (Melected : Int32) (Mmembers : Int32) (Mabove : Nat → Int64) (Munder : Nat → Int64) (Mspot : Int32) (Mvalue : Int32) (u : Int32 × (Nat → Int32) × (Nat → Int32) × (Int32) × (Nat → Int32) × (Nat → Int64) × (Int64) × (Nat → Int32) × (Int32) × (Int32) × (Nat → Int64) × (Nat → Int64)) (hf : fX5_lawsOf N p0 Mnow Mheads Msets Mballots Mranks Mloads Mbelow Morder Melected Mmembers Mabove Munder = some u) : CtI l yX5_lawsOf wsX5_lawsOf (zk_rm 6 140) D cI cJ cO [.ref (aM 0), .int p0] (zwM cI cJ aM Mnow Mread Mpast Mchanges Mtext Mletters Mheads Msets Mballots Mranks Mloads Mbelow Morder Melected Mmembers Mabove Munder Mspot Mvalue) (zwM cI cJ aM Mnow Mread Mpast Mchanges Mtext Mletters u.2.1 u.2.2.1 u.2.2.2.1 u.2.2.2.2.1 u.2.2.2.2.2.1 u.2.2.2.2.2.2.1 u.2.2.2.2.2.2.2.1 u.2.2.2.2.2.2.2.2.1 u.2.2.2.2.2.2.2.2.2.1 u.2.2.2.2.2.2.2.2.2.2.1 u.2.2.2.2.2.2.2.2.2.2.2 Mspot Mvalue) (u.1) := by
  refine zk_enter (cc := cX5_lawsOf) (maxL := 4) (ret := some .int) (own := RX5) (Qf := fun A => QwI D (zwM cI cJ aM Mnow Mread Mpast Mchanges Mtext Mletters u.2.1 u.2.2.1 u.2.2.2.1 u.2.2.2.2.1 u.2.2.2.2.2.1 u.2.2.2.2.2.2.1 u.2.2.2.2.2.2.2.1 u.2.2.2.2.2.2.2.2.1 u.2.2.2.2.2.2.2.2.2.1 u.2.2.2.2.2.2.2.2.2.2.1 u.2.2.2.2.2.2.2.2.2.2.2 Mspot Mvalue) (u.1) A) (by decide) rfl rfl (Nat.le_of_ble_eq_true rfl) ?_
  intro p e s m args below meth c A Q H locs ls hC hQ hw hl
  obtain ⟨hx, hb, hml, hr, hts, hown, hlocks, hN, hK, hA⟩ := hC
  have hl : lv_has ls 4 [(0, .ref (aM 0)), (1, .int p0)] := hl
  have b4 : ∀ (n4 : Nat), ∀ (x1 : Int32) (x2 : Int32) (x3 : Int32) (Mheads : Nat → Int32) (Msets : Nat → Int32) (Mballots : Int32) (Mranks : Nat → Int32) (Mloads : Nat → Int64) (Mbelow : Int64) (Morder : Nat → Int32) (Melected : Int32) (Mmembers : Int32) (Mabove : Nat → Int64) (Munder : Nat → Int64), fX5_lawsOf_b4 N n4 x1 x2 x3 Mnow Mheads Msets Mballots Mranks Mloads Mbelow Morder Melected Mmembers Mabove Munder = some u → ∀ (H : Heap) (locs : List Loc) (ls : Array Slot), Wd D A s.heap (zwM cI cJ aM Mnow Mread Mpast Mchanges Mtext Mletters Mheads Msets Mballots Mranks Mloads Mbelow Morder Melected Mmembers Mabove Munder Mspot Mvalue) H locs → lv_has ls 4 [(0, .ref (aM 0)), (1, .int x1), (2, .int x2), (3, .int x3)] → W p l e (zk_rm 6 140) s m args below meth c H locs 0 0 Q (F0 m 4 ls []) := by
    intro n4
    induction n4 with
    | zero =>
      intro x1 x2 x3 Mheads Msets Mballots Mranks Mloads Mbelow Morder Melected Mmembers Mabove Munder hf
      exact zk_none hf
    | succ n4 ih4 =>
      have b29 : ∀ (x1 : Int32) (x3 : Int32) (t0 : Int32) (t1 : Int32) (Mheads : Nat → Int32) (Msets : Nat → Int32) (Mballots : Int32) (Mranks : Nat → Int32) (Mloads : Nat → Int64) (Mbelow : Int64) (Morder : Nat → Int32) (Melected : Int32) (Mmembers : Int32) (Mabove : Nat → Int64) (Munder : Nat → Int64), fX5_lawsOf_b29 N (fun z0 z1 z2 z3 z4 z5 z6 z7 z8 z9 z10 z11 z12 z13 z14 => fX5_lawsOf_b4 N n4 z0 z1 z2 z3 z4 z5 z6 z7 z8 z9 z10 z11 z12 z13 z14) x1 x3 t0 t1 Mnow Mheads Msets Mballots Mranks Mloads Mbelow Morder Melected Mmembers Mabove Munder = some u → ∀ (H : Heap) (locs : List Loc) (ls : Array Slot), Wd D A s.heap (zwM cI cJ aM Mnow Mread Mpast Mchanges Mtext Mletters Mheads Msets Mballots Mranks Mloads Mbelow Morder Melected Mmembers Mabove Munder Mspot Mvalue) H locs → lv_has ls 4 [(0, .ref (aM 0)), (1, .int x1), (3, .int x3)] → W p l e (zk_rm 6 140) s m args below meth c H locs 0 0 Q (F0 m 29 ls [.int t1, .int t0]) := by
        intro x1 x3 t0 t1 Mheads Msets Mballots Mranks Mloads Mbelow Morder Melected Mmembers Mabove Munder hf H locs ls hw hl
        unfold fX5_lawsOf_b29 at hf
        refine lv_ior hx hb dX5_lawsOf_29 ?_
        refine lv_istore_n (lv' := [(2, .int (t0 ||| t1)), (0, .ref (aM 0)), (1, .int x1), (3, .int x3)]) hx hb dX5_lawsOf_30 rfl hl (by decide) rfl (fun ls hl => ?_)
        refine lv_iinc (v := (x3 + (1 : Int32))) (lv' := [(3, .int (x3 + (1 : Int32))), (2, .int (t0 ||| t1)), (0, .ref (aM 0)), (1, .int x1)]) hx hb dX5_lawsOf_31 hl (k := 3) rfl rfl (by decide) rfl (fun ls hl => ?_)
        refine lv_goto (tgt := 4) hx hb dX5_lawsOf_34 (by decide) ?_
        exact ih4 x1 (t0 ||| t1) (x3 + (1 : Int32)) Mheads Msets Mballots Mranks Mloads Mbelow Morder Melected Mmembers Mabove Munder hf H locs ls hw (lv_sub hl [2, 3, 1, 0] rfl)
      intro x1 x2 x3 Mheads Msets Mballots Mranks Mloads Mbelow Morder Melected Mmembers Mabove Munder hf H locs ls hw hl
      rw [fX5_lawsOf_b4] at hf
      refine lv_iload_n hx hb dX5_lawsOf_4 rfl (lv_at hl 3 rfl) ?_
      refine lv_iconst (v := 4) hx hb dX5_lawsOf_5 (by decide) ?_
      refine lv_icmp_ge (tgt := 37) hx hb dX5_lawsOf_6 (by decide) (fun c1 => ?_) (fun c1 => ?_)
      · replace hf := zk_t c1 hf
        refine lv_iload_n hx hb dX5_lawsOf_37 rfl (lv_at hl 2 rfl) ?_
        cases hf
        exact zk_iret hx hb hr hlocks rfl hQ hw [0, 1, 2, 3, 4, 5, 6, 7, 8, 9, 10, 11] rfl (by decide) dX5_lawsOf_38
      · replace hf := zk_f c1 hf
        refine lv_iload_n hx hb dX5_lawsOf_9 rfl (lv_at hl 2 rfl) ?_
        refine lv_aload_n hx hb dX5_lawsOf_10 rfl (lv_at hl 0 rfl) ?_
        refine lv_iload_n hx hb dX5_lawsOf_11 rfl (lv_at hl 3 rfl) ?_
        obtain ⟨u2, e3, hf⟩ := zk_bd hf
        refine zk_calli (wc := zwM cI cJ aM Mnow Mread Mpast Mchanges Mtext Mletters Mheads Msets Mballots Mranks Mloads Mbelow Morder Melected Mmembers Mabove Munder Mspot Mvalue) (wr := []) hw hA [0, 1, 2, 3, 4, 5, 6, 7, 8, 9, 10, 11] [] rfl rfl (by decide) (by decide) (va_runV (C := RX5) (As := [.int x3]) (rest := [.int x2]) ⟨hx, hb, hml, hown, hts⟩ (kX5_membersBy l D cI cJ cO N aM x3 Mnow Mread Mpast Mchanges Mtext Mletters Mheads Msets Mballots Mranks Mloads Mbelow Morder Melected Mmembers Mabove Munder Mspot Mvalue u2 e3 H.size) (cwV 1 hts gX5_lawsOf_X5_membersBy rfl rfl rfl (by decide +kernel) ⟨Nat.le_of_ble_eq_true rfl, Nat.le_of_ble_eq_true rfl⟩) (zk_preV (wc := zwM cI cJ aM Mnow Mread Mpast Mchanges Mtext Mletters Mheads Msets Mballots Mranks Mloads Mbelow Morder Melected Mmembers Mabove Munder Mspot Mvalue) hN hK hw [0, 1, 2, 3, 4, 5, 6, 7, 8, 9, 10, 11] rfl (by decide) 0 5 rfl rfl) rfl rfl hl.1 rfl (lv_room (Nat.le_of_ble_eq_true rfl)) dX5_lawsOf_12 ⟨Nat.zero_le _, Nat.zero_le _⟩) (fun H locs hw => ?_)
        have hw : Wd D A s.heap (zwM cI cJ aM Mnow Mread Mpast Mchanges Mtext Mletters u2.2.1 u2.2.2.1 u2.2.2.2.1 u2.2.2.2.2.1 u2.2.2.2.2.2.1 u2.2.2.2.2.2.2.1 u2.2.2.2.2.2.2.2.1 u2.2.2.2.2.2.2.2.2.1 u2.2.2.2.2.2.2.2.2.2.1 u2.2.2.2.2.2.2.2.2.2.2.1 u2.2.2.2.2.2.2.2.2.2.2.2 Mspot Mvalue) H locs := hw
        refine lv_iload_n hx hb dX5_lawsOf_15 rfl (lv_at hl 1 rfl) ?_
        obtain ⟨u4, e5, hf⟩ := zk_bd hf
        refine zk_calli (wc := []) (wr := zwM cI cJ aM Mnow Mread Mpast Mchanges Mtext Mletters u2.2.1 u2.2.2.1 u2.2.2.2.1 u2.2.2.2.2.1 u2.2.2.2.2.2.1 u2.2.2.2.2.2.2.1 u2.2.2.2.2.2.2.2.1 u2.2.2.2.2.2.2.2.2.1 u2.2.2.2.2.2.2.2.2.2.1 u2.2.2.2.2.2.2.2.2.2.2.1 u2.2.2.2.2.2.2.2.2.2.2.2 Mspot Mvalue) hw hA [] [0, 1, 2, 3, 4, 5, 6, 7, 8, 9, 10, 11] rfl rfl (by decide) (by decide) (va_runS (As := [.int u2.1, .int x1]) (rest := [.int x2]) ⟨hx, hb, hml, hown, hts⟩ (kX5_has l D cI cJ cO N u2.1 x1 u4 e5 H.size) (va_cwS 2 hts gX5_lawsOf_X5_has rfl rfl rfl (by decide +kernel) ⟨Nat.le_of_ble_eq_true rfl, Nat.le_of_ble_eq_true rfl⟩) (zk_preS (wc := []) hN hK hw [] rfl (by decide)) rfl rfl hl.1 rfl (lv_room (Nat.le_of_ble_eq_true rfl)) dX5_lawsOf_16 ⟨Nat.zero_le _, Nat.zero_le _⟩) (fun H locs hw => ?_)
        have hw : Wd D A s.heap (zwM cI cJ aM Mnow Mread Mpast Mchanges Mtext Mletters u2.2.1 u2.2.2.1 u2.2.2.2.1 u2.2.2.2.2.1 u2.2.2.2.2.2.1 u2.2.2.2.2.2.2.1 u2.2.2.2.2.2.2.2.1 u2.2.2.2.2.2.2.2.2.1 u2.2.2.2.2.2.2.2.2.2.1 u2.2.2.2.2.2.2.2.2.2.2.1 u2.2.2.2.2.2.2.2.2.2.2.2 Mspot Mvalue) H locs := hw
        refine lv_if_eq (tgt := 28) hx hb dX5_lawsOf_19 (by decide) (fun c6 => ?_) (fun c6 => ?_)
        · replace hf := zk_t c6 hf
          refine lv_iconst (v := 0) hx hb dX5_lawsOf_28 (by decide) ?_
          exact b29 x1 x3 x2 (0 : Int32) u2.2.1 u2.2.2.1 u2.2.2.2.1 u2.2.2.2.2.1 u2.2.2.2.2.2.1 u2.2.2.2.2.2.2.1 u2.2.2.2.2.2.2.2.1 u2.2.2.2.2.2.2.2.2.1 u2.2.2.2.2.2.2.2.2.2.1 u2.2.2.2.2.2.2.2.2.2.2.1 u2.2.2.2.2.2.2.2.2.2.2.2 hf H locs ls hw (lv_sub hl [0, 1, 3] rfl)
        · replace hf := zk_f c6 hf
          refine lv_iconst (v := 1) hx hb dX5_lawsOf_22 (by decide) ?_
          refine lv_iload_n hx hb dX5_lawsOf_23 rfl (lv_at hl 3 rfl) ?_
          refine lv_ishl hx hb dX5_lawsOf_24 ?_
          refine lv_goto (tgt := 29) hx hb dX5_lawsOf_25 (by decide) ?_
          exact b29 x1 x3 x2 ((1 : Int32) <<< (x3 &&& 31)) u2.2.1 u2.2.2.1 u2.2.2.2.1 u2.2.2.2.2.1 u2.2.2.2.2.2.1 u2.2.2.2.2.2.2.1 u2.2.2.2.2.2.2.2.1 u2.2.2.2.2.2.2.2.2.1 u2.2.2.2.2.2.2.2.2.2.1 u2.2.2.2.2.2.2.2.2.2.2.1 u2.2.2.2.2.2.2.2.2.2.2.2 hf H locs ls hw (lv_sub hl [0, 1, 3] rfl)
  unfold fX5_lawsOf at hf
  refine lv_iconst (v := 0) hx hb dX5_lawsOf_0 (by decide) ?_
  refine lv_istore_n (lv' := [(2, .int (0 : Int32)), (0, .ref (aM 0)), (1, .int p0)]) hx hb dX5_lawsOf_1 rfl hl (by decide) rfl (fun ls hl => ?_)
  refine lv_iconst (v := 0) hx hb dX5_lawsOf_2 (by decide) ?_
  refine lv_istore_n (lv' := [(3, .int (0 : Int32)), (2, .int (0 : Int32)), (0, .ref (aM 0)), (1, .int p0)]) hx hb dX5_lawsOf_3 rfl hl (by decide) rfl (fun ls hl => ?_)
  exact b4 N p0 (0 : Int32) (0 : Int32) Mheads Msets Mballots Mranks Mloads Mbelow Morder Melected Mmembers Mabove Munder hf H locs ls hw (lv_sub hl [2, 3, 1, 0] rfl)
set_option maxHeartbeats 4000000 in
set_option maxRecDepth 100000 in
theorem kX5_aboutCandidate (l : Launch) (D : va_G) (cI cJ cO : ClassId) (N : Nat) (aM : Nat → Nat) (p0 : Int32) (p1 : Int32) (Mnow : Nat → Int32) (Mread : Nat → Int32) (Mpast : Nat → Int32) (Mchanges : Int32) (Mtext : Nat → Int32) (Mletters : Int32) (Mheads : Nat → Int32) (Msets : Nat → Int32) (Mballots : Int32) (Mranks : Nat → Int32) (Mloads : Nat → Int64) (Mbelow : Int64) (Morder : Nat → Int32) (Melected : Int32) (Mmembers : Int32) (Mabove : Nat → Int64) (Munder : Nat → Int64) (Mspot : Int32) (Mvalue : Int32) (u : Int32 × (Nat → Int32) × (Nat → Int32) × (Int32) × (Nat → Int32) × (Nat → Int64) × (Int64) × (Nat → Int32) × (Int32) × (Int32) × (Nat → Int64) × (Nat → Int64)) (hf : fX5_aboutCandidate N p0 p1 Mnow Mheads Msets Mballots Mranks Mloads Mbelow Morder Melected Mmembers Mabove Munder = some u) : CtI l yX5_aboutCandidate wsX5_aboutCandidate (zk_rm 7 163) D cI cJ cO [.ref (aM 0), .int p0, .int p1] (zwM cI cJ aM Mnow Mread Mpast Mchanges Mtext Mletters Mheads Msets Mballots Mranks Mloads Mbelow Morder Melected Mmembers Mabove Munder Mspot Mvalue) (zwM cI cJ aM Mnow Mread Mpast Mchanges Mtext Mletters u.2.1 u.2.2.1 u.2.2.2.1 u.2.2.2.2.1 u.2.2.2.2.2.1 u.2.2.2.2.2.2.1 u.2.2.2.2.2.2.2.1 u.2.2.2.2.2.2.2.2.1 u.2.2.2.2.2.2.2.2.2.1 u.2.2.2.2.2.2.2.2.2.2.1 u.2.2.2.2.2.2.2.2.2.2.2 Mspot Mvalue) (u.1) := by
  refine zk_enter (cc := cX5_aboutCandidate) (maxL := 3) (ret := some .int) (own := RX5) (Qf := fun A => QwI D (zwM cI cJ aM Mnow Mread Mpast Mchanges Mtext Mletters u.2.1 u.2.2.1 u.2.2.2.1 u.2.2.2.2.1 u.2.2.2.2.2.1 u.2.2.2.2.2.2.1 u.2.2.2.2.2.2.2.1 u.2.2.2.2.2.2.2.2.1 u.2.2.2.2.2.2.2.2.2.1 u.2.2.2.2.2.2.2.2.2.2.1 u.2.2.2.2.2.2.2.2.2.2.2 Mspot Mvalue) (u.1) A) (by decide) rfl rfl (Nat.le_of_ble_eq_true rfl) ?_
  intro p e s m args below meth c A Q H locs ls hC hQ hw hl
  obtain ⟨hx, hb, hml, hr, hts, hown, hlocks, hN, hK, hA⟩ := hC
  have hl : lv_has ls 3 [(0, .ref (aM 0)), (1, .int p0), (2, .int p1)] := hl
  have hiX5 : ∀ w ∈ u_ws RX5 TX5 19, w ∈ wsX5_aboutCandidate := by decide +kernel
  have hq0 := hts (.fieldLink RX5 7 "LoadCouncilModel" "now" "[I") (by decide +kernel)
  unfold fX5_aboutCandidate at hf
  refine lv_aload_n hx hb dX5_aboutCandidate_0 rfl (lv_at hl 0 rfl) ?_
  obtain ⟨u1, e2, hf⟩ := zk_bd hf
  refine zk_callv (wc := zwM cI cJ aM Mnow Mread Mpast Mchanges Mtext Mletters Mheads Msets Mballots Mranks Mloads Mbelow Morder Melected Mmembers Mabove Munder Mspot Mvalue) (wr := []) hw hA [0, 1, 2, 3, 4, 5, 6, 7, 8, 9, 10, 11] [] rfl rfl (by decide) (by decide) (va_runV (C := RX5) (As := []) (rest := []) ⟨hx, hb, hml, hown, hts⟩ (kX5_lays l D cI cJ cO N aM Mnow Mread Mpast Mchanges Mtext Mletters Mheads Msets Mballots Mranks Mloads Mbelow Morder Melected Mmembers Mabove Munder Mspot Mvalue u1 e2 H.size) (cwV 0 hts gX5_aboutCandidate_X5_lays rfl rfl rfl (by decide +kernel) ⟨Nat.le_of_ble_eq_true rfl, Nat.le_of_ble_eq_true rfl⟩) (zk_preV (wc := zwM cI cJ aM Mnow Mread Mpast Mchanges Mtext Mletters Mheads Msets Mballots Mranks Mloads Mbelow Morder Melected Mmembers Mabove Munder Mspot Mvalue) hN hK hw [0, 1, 2, 3, 4, 5, 6, 7, 8, 9, 10, 11] rfl (by decide) 0 5 rfl rfl) rfl rfl hl.1 rfl (lv_room (Nat.le_of_ble_eq_true rfl)) dX5_aboutCandidate_1 ⟨Nat.zero_le _, Nat.zero_le _⟩) (fun H locs hw => ?_)
  have hw : Wd D A s.heap (zwM cI cJ aM Mnow Mread Mpast Mchanges Mtext Mletters u1.1 u1.2.1 u1.2.2.1 u1.2.2.2 Mloads Mbelow Morder Melected Mmembers Mabove Munder Mspot Mvalue) H locs := hw
  refine lv_iload_n hx hb dX5_aboutCandidate_4 rfl (lv_at hl 2 rfl) ?_
  refine lv_if_ne (tgt := 16) hx hb dX5_aboutCandidate_5 (by decide) (fun c3 => ?_) (fun c3 => ?_)
  · replace hf := zk_f c3 hf
    refine lv_iload_n hx hb dX5_aboutCandidate_16 rfl (lv_at hl 2 rfl) ?_
    refine lv_iconst (v := 1) hx hb dX5_aboutCandidate_17 (by decide) ?_
    refine lv_icmp_ne (tgt := 29) hx hb dX5_aboutCandidate_18 (by decide) (fun c4 => ?_) (fun c4 => ?_)
    · replace hf := zk_f c4 hf
      refine lv_iload_n hx hb dX5_aboutCandidate_29 rfl (lv_at hl 2 rfl) ?_
      refine lv_iconst (v := 2) hx hb dX5_aboutCandidate_30 (by decide) ?_
      refine lv_icmp_ne (tgt := 48) hx hb dX5_aboutCandidate_31 (by decide) (fun c5 => ?_) (fun c5 => ?_)
      · replace hf := zk_f c5 hf
        refine lv_aload_n hx hb dX5_aboutCandidate_48 rfl (lv_at hl 0 rfl) ?_
        refine lv_iload_n hx hb dX5_aboutCandidate_49 rfl (lv_at hl 1 rfl) ?_
        obtain ⟨u6, e7, hf⟩ := zk_bd hf
        refine zk_calli (wc := zwM cI cJ aM Mnow Mread Mpast Mchanges Mtext Mletters u1.1 u1.2.1 u1.2.2.1 u1.2.2.2 Mloads Mbelow Morder Melected Mmembers Mabove Munder Mspot Mvalue) (wr := []) hw hA [0, 1, 2, 3, 4, 5, 6, 7, 8, 9, 10, 11] [] rfl rfl (by decide) (by decide) (va_runV (C := RX5) (As := [.int p0]) (rest := []) ⟨hx, hb, hml, hown, hts⟩ (kX5_lawsOf l D cI cJ cO N aM p0 Mnow Mread Mpast Mchanges Mtext Mletters u1.1 u1.2.1 u1.2.2.1 u1.2.2.2 Mloads Mbelow Morder Melected Mmembers Mabove Munder Mspot Mvalue u6 e7 H.size) (cwV 1 hts gX5_aboutCandidate_X5_lawsOf rfl rfl rfl (by decide +kernel) ⟨Nat.le_of_ble_eq_true rfl, Nat.le_of_ble_eq_true rfl⟩) (zk_preV (wc := zwM cI cJ aM Mnow Mread Mpast Mchanges Mtext Mletters u1.1 u1.2.1 u1.2.2.1 u1.2.2.2 Mloads Mbelow Morder Melected Mmembers Mabove Munder Mspot Mvalue) hN hK hw [0, 1, 2, 3, 4, 5, 6, 7, 8, 9, 10, 11] rfl (by decide) 0 5 rfl rfl) rfl rfl hl.1 rfl (lv_room (Nat.le_of_ble_eq_true rfl)) dX5_aboutCandidate_50 ⟨Nat.zero_le _, Nat.zero_le _⟩) (fun H locs hw => ?_)
        have hw : Wd D A s.heap (zwM cI cJ aM Mnow Mread Mpast Mchanges Mtext Mletters u6.2.1 u6.2.2.1 u6.2.2.2.1 u6.2.2.2.2.1 u6.2.2.2.2.2.1 u6.2.2.2.2.2.2.1 u6.2.2.2.2.2.2.2.1 u6.2.2.2.2.2.2.2.2.1 u6.2.2.2.2.2.2.2.2.2.1 u6.2.2.2.2.2.2.2.2.2.2.1 u6.2.2.2.2.2.2.2.2.2.2.2 Mspot Mvalue) H locs := hw
        cases hf
        exact zk_iret hx hb hr hlocks rfl hQ hw [0, 1, 2, 3, 4, 5, 6, 7, 8, 9, 10, 11] rfl (by decide) dX5_aboutCandidate_53
      · replace hf := zk_t c5 hf
        refine lv_aload_n hx hb dX5_aboutCandidate_34 rfl (lv_at hl 0 rfl) ?_
        refine va_get (D := D) (ci := 5) (v := .ref (aM 1)) (C := RX5) (T := TX5) (N := 19) hx hb hts hiX5 hown hK hw.1 0 rfl rfl 0 (by decide) hq0 (fun _ h9 => h9) rfl dX5_aboutCandidate_35 ?_
        refine lv_bipush (v := 23) hx hb dX5_aboutCandidate_38 (by decide) ?_
        refine zk_iald hx hb hK hw 1 rfl (zk_in (by decide)) (j := 23) rfl dX5_aboutCandidate_40 ?_
        refine lv_iload_n hx hb dX5_aboutCandidate_41 rfl (lv_at hl 1 rfl) ?_
        refine lv_ishr hx hb dX5_aboutCandidate_42 ?_
        refine lv_iconst (v := 1) hx hb dX5_aboutCandidate_43 (by decide) ?_
        refine lv_iand hx hb dX5_aboutCandidate_44 ?_
        refine lv_goto (tgt := 53) hx hb dX5_aboutCandidate_45 (by decide) ?_
        cases hf
        exact zk_iret hx hb hr hlocks rfl hQ hw [0, 1, 2, 3, 4, 5, 6, 7, 8, 9, 10, 11] rfl (by decide) dX5_aboutCandidate_53
    · replace hf := zk_t c4 hf
      refine lv_aload_n hx hb dX5_aboutCandidate_21 rfl (lv_at hl 0 rfl) ?_
      refine lv_iload_n hx hb dX5_aboutCandidate_22 rfl (lv_at hl 1 rfl) ?_
      obtain ⟨u8, e9, hf⟩ := zk_bd hf
      refine zk_calli (wc := zwM cI cJ aM Mnow Mread Mpast Mchanges Mtext Mletters u1.1 u1.2.1 u1.2.2.1 u1.2.2.2 Mloads Mbelow Morder Melected Mmembers Mabove Munder Mspot Mvalue) (wr := []) hw hA [0, 1, 2, 3, 4, 5, 6, 7, 8, 9, 10, 11] [] rfl rfl (by decide) (by decide) (va_runV (C := RX5) (As := [.int p0]) (rest := []) ⟨hx, hb, hml, hown, hts⟩ (kX5_placeOf l D cI cJ cO N aM p0 Mnow Mread Mpast Mchanges Mtext Mletters u1.1 u1.2.1 u1.2.2.1 u1.2.2.2 Mloads Mbelow Morder Melected Mmembers Mabove Munder Mspot Mvalue u8 e9 H.size) (cwV 1 hts gX5_aboutCandidate_X5_placeOf rfl rfl rfl (by decide +kernel) ⟨Nat.le_of_ble_eq_true rfl, Nat.le_of_ble_eq_true rfl⟩) (zk_preV (wc := zwM cI cJ aM Mnow Mread Mpast Mchanges Mtext Mletters u1.1 u1.2.1 u1.2.2.1 u1.2.2.2 Mloads Mbelow Morder Melected Mmembers Mabove Munder Mspot Mvalue) hN hK hw [0, 1, 2, 3, 4, 5, 6, 7, 8, 9, 10, 11] rfl (by decide) 0 5 rfl rfl) rfl rfl hl.1 rfl (lv_room (Nat.le_of_ble_eq_true rfl)) dX5_aboutCandidate_23 ⟨Nat.zero_le _, Nat.zero_le _⟩) (fun H locs hw => ?_)
      have hw : Wd D A s.heap (zwM cI cJ aM Mnow Mread Mpast Mchanges Mtext Mletters u1.1 u1.2.1 u1.2.2.1 u1.2.2.2 Mloads Mbelow Morder Melected Mmembers Mabove Munder Mspot Mvalue) H locs := hw
      refine lv_goto (tgt := 53) hx hb dX5_aboutCandidate_26 (by decide) ?_
      cases hf
      exact zk_iret hx hb hr hlocks rfl hQ hw [0, 1, 2, 3, 4, 5, 6, 7, 8, 9, 10, 11] rfl (by decide) dX5_aboutCandidate_53
  · replace hf := zk_t c3 hf
    refine lv_aload_n hx hb dX5_aboutCandidate_8 rfl (lv_at hl 0 rfl) ?_
    refine lv_iload_n hx hb dX5_aboutCandidate_9 rfl (lv_at hl 1 rfl) ?_
    obtain ⟨u10, e11, hf⟩ := zk_bd hf
    refine zk_calli (wc := zwM cI cJ aM Mnow Mread Mpast Mchanges Mtext Mletters u1.1 u1.2.1 u1.2.2.1 u1.2.2.2 Mloads Mbelow Morder Melected Mmembers Mabove Munder Mspot Mvalue) (wr := []) hw hA [0, 1, 2, 3, 4, 5, 6, 7, 8, 9, 10, 11] [] rfl rfl (by decide) (by decide) (va_runV (C := RX5) (As := [.int p0]) (rest := []) ⟨hx, hb, hml, hown, hts⟩ (kX5_supportOf l D cI cJ cO N aM p0 Mnow Mread Mpast Mchanges Mtext Mletters u1.1 u1.2.1 u1.2.2.1 u1.2.2.2 Mloads Mbelow Morder Melected Mmembers Mabove Munder Mspot Mvalue u10 e11 H.size) (cwV 1 hts gX5_aboutCandidate_X5_supportOf rfl rfl rfl (by decide +kernel) ⟨Nat.le_of_ble_eq_true rfl, Nat.le_of_ble_eq_true rfl⟩) (zk_preV (wc := zwM cI cJ aM Mnow Mread Mpast Mchanges Mtext Mletters u1.1 u1.2.1 u1.2.2.1 u1.2.2.2 Mloads Mbelow Morder Melected Mmembers Mabove Munder Mspot Mvalue) hN hK hw [0, 1, 2, 3, 4, 5, 6, 7, 8, 9, 10, 11] rfl (by decide) 0 5 rfl rfl) rfl rfl hl.1 rfl (lv_room (Nat.le_of_ble_eq_true rfl)) dX5_aboutCandidate_10 ⟨Nat.zero_le _, Nat.zero_le _⟩) (fun H locs hw => ?_)
    have hw : Wd D A s.heap (zwM cI cJ aM Mnow Mread Mpast Mchanges Mtext Mletters u1.1 u1.2.1 u1.2.2.1 u1.2.2.2 Mloads Mbelow Morder Melected Mmembers Mabove Munder Mspot Mvalue) H locs := hw
    refine lv_goto (tgt := 53) hx hb dX5_aboutCandidate_13 (by decide) ?_
    cases hf
    exact zk_iret hx hb hr hlocks rfl hQ hw [0, 1, 2, 3, 4, 5, 6, 7, 8, 9, 10, 11] rfl (by decide) dX5_aboutCandidate_53
set_option maxHeartbeats 4000000 in
set_option maxRecDepth 100000 in
theorem kX5_candidate (l : Launch) (D : va_G) (cI cJ cO : ClassId) (N : Nat) (aM : Nat → Nat) (p0 : Int32) (p1 : Int32) (Mnow : Nat → Int32) (Mread : Nat → Int32) (Mpast : Nat → Int32) (Mchanges : Int32) (Mtext : Nat → Int32) (Mletters : Int32) (Mheads : Nat → Int32) (Msets : Nat → Int32) (Mballots : Int32) (Mranks : Nat → Int32) (Mloads : Nat → Int64) (Mbelow : Int64) (Morder : Nat → Int32) (Melected : Int32) (Mmembers : Int32) (Mabove : Nat → Int64) (Munder : Nat → Int64) (Mspot : Int32) (Mvalue : Int32) (u : Int32 × (Nat → Int32) × (Nat → Int32) × (Int32) × (Nat → Int32) × (Nat → Int64) × (Int64) × (Nat → Int32) × (Int32) × (Int32) × (Nat → Int64) × (Nat → Int64)) (hf : fX5_candidate N p0 p1 Mnow Mheads Msets Mballots Mranks Mloads Mbelow Morder Melected Mmembers Mabove Munder = some u) : CtI l yX5_candidate wsX5_candidate (zk_rm 8 185) D cI cJ cO [.ref (aM 0), .int p0, .int p1] (zwM cI cJ aM Mnow Mread Mpast Mchanges Mtext Mletters Mheads Msets Mballots Mranks Mloads Mbelow Morder Melected Mmembers Mabove Munder Mspot Mvalue) (zwM cI cJ aM Mnow Mread Mpast Mchanges Mtext Mletters u.2.1 u.2.2.1 u.2.2.2.1 u.2.2.2.2.1 u.2.2.2.2.2.1 u.2.2.2.2.2.2.1 u.2.2.2.2.2.2.2.1 u.2.2.2.2.2.2.2.2.1 u.2.2.2.2.2.2.2.2.2.1 u.2.2.2.2.2.2.2.2.2.2.1 u.2.2.2.2.2.2.2.2.2.2.2 Mspot Mvalue) (u.1) := by
  refine zk_enter (cc := cX5_candidate) (maxL := 3) (ret := some .int) (own := RX5) (Qf := fun A => QwI D (zwM cI cJ aM Mnow Mread Mpast Mchanges Mtext Mletters u.2.1 u.2.2.1 u.2.2.2.1 u.2.2.2.2.1 u.2.2.2.2.2.1 u.2.2.2.2.2.2.1 u.2.2.2.2.2.2.2.1 u.2.2.2.2.2.2.2.2.1 u.2.2.2.2.2.2.2.2.2.1 u.2.2.2.2.2.2.2.2.2.2.1 u.2.2.2.2.2.2.2.2.2.2.2 Mspot Mvalue) (u.1) A) (by decide) rfl rfl (Nat.le_of_ble_eq_true rfl) ?_
  intro p e s m args below meth c A Q H locs ls hC hQ hw hl
  obtain ⟨hx, hb, hml, hr, hts, hown, hlocks, hN, hK, hA⟩ := hC
  have hl : lv_has ls 3 [(0, .ref (aM 0)), (1, .int p0), (2, .int p1)] := hl
  unfold fX5_candidate at hf
  refine lv_aload_n hx hb dX5_candidate_0 rfl (lv_at hl 0 rfl) ?_
  refine lv_iload_n hx hb dX5_candidate_1 rfl (lv_at hl 1 rfl) ?_
  obtain ⟨u1, e2, hf⟩ := zk_bd hf
  refine zk_calli (wc := zwM cI cJ aM Mnow Mread Mpast Mchanges Mtext Mletters Mheads Msets Mballots Mranks Mloads Mbelow Morder Melected Mmembers Mabove Munder Mspot Mvalue) (wr := []) hw hA [0, 1, 2, 3, 4, 5, 6, 7, 8, 9, 10, 11] [] rfl rfl (by decide) (by decide) (va_runV (C := RX5) (As := [.int p0]) (rest := []) ⟨hx, hb, hml, hown, hts⟩ (kX5_isCandidate l D cI cJ cO N aM p0 Mnow Mread Mpast Mchanges Mtext Mletters Mheads Msets Mballots Mranks Mloads Mbelow Morder Melected Mmembers Mabove Munder Mspot Mvalue u1 e2 H.size) (cwV 1 hts gX5_candidate_X5_isCandidate rfl rfl rfl (by decide +kernel) ⟨Nat.le_of_ble_eq_true rfl, Nat.le_of_ble_eq_true rfl⟩) (zk_preV (wc := zwM cI cJ aM Mnow Mread Mpast Mchanges Mtext Mletters Mheads Msets Mballots Mranks Mloads Mbelow Morder Melected Mmembers Mabove Munder Mspot Mvalue) hN hK hw [0, 1, 2, 3, 4, 5, 6, 7, 8, 9, 10, 11] rfl (by decide) 0 5 rfl rfl) rfl rfl hl.1 rfl (lv_room (Nat.le_of_ble_eq_true rfl)) dX5_candidate_2 ⟨Nat.zero_le _, Nat.zero_le _⟩) (fun H locs hw => ?_)
  have hw : Wd D A s.heap (zwM cI cJ aM Mnow Mread Mpast Mchanges Mtext Mletters Mheads Msets Mballots Mranks Mloads Mbelow Morder Melected Mmembers Mabove Munder Mspot Mvalue) H locs := hw
  refine lv_if_eq (tgt := 26) hx hb dX5_candidate_5 (by decide) (fun c3 => ?_) (fun c3 => ?_)
  · replace hf := zk_t c3 hf
    refine lv_iconst (v := (-1)) hx hb dX5_candidate_26 (by decide) ?_
    cases hf
    exact zk_iret hx hb hr hlocks rfl hQ hw [0, 1, 2, 3, 4, 5, 6, 7, 8, 9, 10, 11] rfl (by decide) dX5_candidate_27
  · replace hf := zk_f c3 hf
    refine lv_iload_n hx hb dX5_candidate_8 rfl (lv_at hl 2 rfl) ?_
    refine lv_iconst (v := 0) hx hb dX5_candidate_9 (by decide) ?_
    refine lv_iconst (v := 3) hx hb dX5_candidate_10 (by decide) ?_
    obtain ⟨u4, e5, hf⟩ := zk_bd hf
    refine zk_calli (wc := []) (wr := zwM cI cJ aM Mnow Mread Mpast Mchanges Mtext Mletters Mheads Msets Mballots Mranks Mloads Mbelow Morder Melected Mmembers Mabove Munder Mspot Mvalue) hw hA [] [0, 1, 2, 3, 4, 5, 6, 7, 8, 9, 10, 11] rfl rfl (by decide) (by decide) (va_runS (As := [.int p1, .int (0 : Int32), .int (3 : Int32)]) (rest := []) ⟨hx, hb, hml, hown, hts⟩ (kX5_in l D cI cJ cO N p1 (0 : Int32) (3 : Int32) u4 e5 H.size) (va_cwS 3 hts gX5_candidate_X5_in rfl rfl rfl (by decide +kernel) ⟨Nat.le_of_ble_eq_true rfl, Nat.le_of_ble_eq_true rfl⟩) (zk_preS (wc := []) hN hK hw [] rfl (by decide)) rfl rfl hl.1 rfl (lv_room (Nat.le_of_ble_eq_true rfl)) dX5_candidate_11 ⟨Nat.zero_le _, Nat.zero_le _⟩) (fun H locs hw => ?_)
    have hw : Wd D A s.heap (zwM cI cJ aM Mnow Mread Mpast Mchanges Mtext Mletters Mheads Msets Mballots Mranks Mloads Mbelow Morder Melected Mmembers Mabove Munder Mspot Mvalue) H locs := hw
    refine lv_if_eq (tgt := 26) hx hb dX5_candidate_14 (by decide) (fun c6 => ?_) (fun c6 => ?_)
    · replace hf := zk_t c6 hf
      refine lv_iconst (v := (-1)) hx hb dX5_candidate_26 (by decide) ?_
      cases hf
      exact zk_iret hx hb hr hlocks rfl hQ hw [0, 1, 2, 3, 4, 5, 6, 7, 8, 9, 10, 11] rfl (by decide) dX5_candidate_27
    · replace hf := zk_f c6 hf
      refine lv_aload_n hx hb dX5_candidate_17 rfl (lv_at hl 0 rfl) ?_
      refine lv_iload_n hx hb dX5_candidate_18 rfl (lv_at hl 1 rfl) ?_
      refine lv_iload_n hx hb dX5_candidate_19 rfl (lv_at hl 2 rfl) ?_
      obtain ⟨u7, e8, hf⟩ := zk_bd hf
      refine zk_calli (wc := zwM cI cJ aM Mnow Mread Mpast Mchanges Mtext Mletters Mheads Msets Mballots Mranks Mloads Mbelow Morder Melected Mmembers Mabove Munder Mspot Mvalue) (wr := []) hw hA [0, 1, 2, 3, 4, 5, 6, 7, 8, 9, 10, 11] [] rfl rfl (by decide) (by decide) (va_runV (C := RX5) (As := [.int p0, .int p1]) (rest := []) ⟨hx, hb, hml, hown, hts⟩ (kX5_aboutCandidate l D cI cJ cO N aM p0 p1 Mnow Mread Mpast Mchanges Mtext Mletters Mheads Msets Mballots Mranks Mloads Mbelow Morder Melected Mmembers Mabove Munder Mspot Mvalue u7 e8 H.size) (cwV 2 hts gX5_candidate_X5_aboutCandidate rfl rfl rfl (by decide +kernel) ⟨Nat.le_of_ble_eq_true rfl, Nat.le_of_ble_eq_true rfl⟩) (zk_preV (wc := zwM cI cJ aM Mnow Mread Mpast Mchanges Mtext Mletters Mheads Msets Mballots Mranks Mloads Mbelow Morder Melected Mmembers Mabove Munder Mspot Mvalue) hN hK hw [0, 1, 2, 3, 4, 5, 6, 7, 8, 9, 10, 11] rfl (by decide) 0 5 rfl rfl) rfl rfl hl.1 rfl (lv_room (Nat.le_of_ble_eq_true rfl)) dX5_candidate_20 ⟨Nat.zero_le _, Nat.zero_le _⟩) (fun H locs hw => ?_)
      have hw : Wd D A s.heap (zwM cI cJ aM Mnow Mread Mpast Mchanges Mtext Mletters u7.2.1 u7.2.2.1 u7.2.2.2.1 u7.2.2.2.2.1 u7.2.2.2.2.2.1 u7.2.2.2.2.2.2.1 u7.2.2.2.2.2.2.2.1 u7.2.2.2.2.2.2.2.2.1 u7.2.2.2.2.2.2.2.2.2.1 u7.2.2.2.2.2.2.2.2.2.2.1 u7.2.2.2.2.2.2.2.2.2.2.2 Mspot Mvalue) H locs := hw
      refine lv_goto (tgt := 27) hx hb dX5_candidate_23 (by decide) ?_
      cases hf
      exact zk_iret hx hb hr hlocks rfl hQ hw [0, 1, 2, 3, 4, 5, 6, 7, 8, 9, 10, 11] rfl (by decide) dX5_candidate_27
set_option maxHeartbeats 4000000 in
set_option maxRecDepth 100000 in
theorem kX5_vote (l : Launch) (D : va_G) (cI cJ cO : ClassId) (N : Nat) (aM : Nat → Nat) (p0 : Int32) (p1 : Int32) (Mnow : Nat → Int32) (Mread : Nat → Int32) (Mpast : Nat → Int32) (Mchanges : Int32) (Mtext : Nat → Int32) (Mletters : Int32) (Mheads : Nat → Int32) (Msets : Nat → Int32) (Mballots : Int32) (Mranks : Nat → Int32) (Mloads : Nat → Int64) (Mbelow : Int64) (Morder : Nat → Int32) (Melected : Int32) (Mmembers : Int32) (Mabove : Nat → Int64) (Munder : Nat → Int64) (Mspot : Int32) (Mvalue : Int32) (u : Int32 × (Nat → Int32) × (Nat → Int32) × (Int32) × (Nat → Int32) × (Nat → Int64) × (Int64) × (Nat → Int32) × (Int32) × (Int32) × (Nat → Int64) × (Nat → Int64)) (hf : fX5_vote N p0 p1 Mnow Mheads Msets Mballots Mranks Mloads Mbelow Morder Melected Mmembers Mabove Munder = some u) : CtI l yX5_vote wsX5_vote (zk_rm 6 140) D cI cJ cO [.ref (aM 0), .int p0, .int p1] (zwM cI cJ aM Mnow Mread Mpast Mchanges Mtext Mletters Mheads Msets Mballots Mranks Mloads Mbelow Morder Melected Mmembers Mabove Munder Mspot Mvalue) (zwM cI cJ aM Mnow Mread Mpast Mchanges Mtext Mletters u.2.1 u.2.2.1 u.2.2.2.1 u.2.2.2.2.1 u.2.2.2.2.2.1 u.2.2.2.2.2.2.1 u.2.2.2.2.2.2.2.1 u.2.2.2.2.2.2.2.2.1 u.2.2.2.2.2.2.2.2.2.1 u.2.2.2.2.2.2.2.2.2.2.1 u.2.2.2.2.2.2.2.2.2.2.2 Mspot Mvalue) (u.1) := by
  refine zk_enter (cc := cX5_vote) (maxL := 3) (ret := some .int) (own := RX5) (Qf := fun A => QwI D (zwM cI cJ aM Mnow Mread Mpast Mchanges Mtext Mletters u.2.1 u.2.2.1 u.2.2.2.1 u.2.2.2.2.1 u.2.2.2.2.2.1 u.2.2.2.2.2.2.1 u.2.2.2.2.2.2.2.1 u.2.2.2.2.2.2.2.2.1 u.2.2.2.2.2.2.2.2.2.1 u.2.2.2.2.2.2.2.2.2.2.1 u.2.2.2.2.2.2.2.2.2.2.2 Mspot Mvalue) (u.1) A) (by decide) rfl rfl (Nat.le_of_ble_eq_true rfl) ?_
  intro p e s m args below meth c A Q H locs ls hC hQ hw hl
  obtain ⟨hx, hb, hml, hr, hts, hown, hlocks, hN, hK, hA⟩ := hC
  have hl : lv_has ls 3 [(0, .ref (aM 0)), (1, .int p0), (2, .int p1)] := hl
  have hiX5 : ∀ w ∈ u_ws RX5 TX5 19, w ∈ wsX5_vote := by decide +kernel
  have hq0 := hts (.fieldLink RX5 7 "LoadCouncilModel" "now" "[I") (by decide +kernel)
  unfold fX5_vote at hf
  refine lv_aload_n hx hb dX5_vote_0 rfl (lv_at hl 0 rfl) ?_
  refine lv_iload_n hx hb dX5_vote_1 rfl (lv_at hl 1 rfl) ?_
  obtain ⟨u1, e2, hf⟩ := zk_bd hf
  refine zk_calli (wc := zwM cI cJ aM Mnow Mread Mpast Mchanges Mtext Mletters Mheads Msets Mballots Mranks Mloads Mbelow Morder Melected Mmembers Mabove Munder Mspot Mvalue) (wr := []) hw hA [0, 1, 2, 3, 4, 5, 6, 7, 8, 9, 10, 11] [] rfl rfl (by decide) (by decide) (va_runV (C := RX5) (As := [.int p0]) (rest := []) ⟨hx, hb, hml, hown, hts⟩ (kX5_isBallot l D cI cJ cO N aM p0 Mnow Mread Mpast Mchanges Mtext Mletters Mheads Msets Mballots Mranks Mloads Mbelow Morder Melected Mmembers Mabove Munder Mspot Mvalue u1 e2 H.size) (cwV 1 hts gX5_vote_X5_isBallot rfl rfl rfl (by decide +kernel) ⟨Nat.le_of_ble_eq_true rfl, Nat.le_of_ble_eq_true rfl⟩) (zk_preV (wc := zwM cI cJ aM Mnow Mread Mpast Mchanges Mtext Mletters Mheads Msets Mballots Mranks Mloads Mbelow Morder Melected Mmembers Mabove Munder Mspot Mvalue) hN hK hw [0, 1, 2, 3, 4, 5, 6, 7, 8, 9, 10, 11] rfl (by decide) 0 5 rfl rfl) rfl rfl hl.1 rfl (lv_room (Nat.le_of_ble_eq_true rfl)) dX5_vote_2 ⟨Nat.zero_le _, Nat.zero_le _⟩) (fun H locs hw => ?_)
  have hw : Wd D A s.heap (zwM cI cJ aM Mnow Mread Mpast Mchanges Mtext Mletters Mheads Msets Mballots Mranks Mloads Mbelow Morder Melected Mmembers Mabove Munder Mspot Mvalue) H locs := hw
  refine lv_if_eq (tgt := 17) hx hb dX5_vote_5 (by decide) (fun c3 => ?_) (fun c3 => ?_)
  · replace hf := zk_t c3 hf
    refine lv_iconst (v := (-1)) hx hb dX5_vote_17 (by decide) ?_
    cases hf
    exact zk_iret hx hb hr hlocks rfl hQ hw [0, 1, 2, 3, 4, 5, 6, 7, 8, 9, 10, 11] rfl (by decide) dX5_vote_18
  · replace hf := zk_f c3 hf
    refine lv_iload_n hx hb dX5_vote_8 rfl (lv_at hl 2 rfl) ?_
    refine lv_iconst (v := 0) hx hb dX5_vote_9 (by decide) ?_
    refine lv_iconst (v := 5) hx hb dX5_vote_10 (by decide) ?_
    obtain ⟨u4, e5, hf⟩ := zk_bd hf
    refine zk_calli (wc := []) (wr := zwM cI cJ aM Mnow Mread Mpast Mchanges Mtext Mletters Mheads Msets Mballots Mranks Mloads Mbelow Morder Melected Mmembers Mabove Munder Mspot Mvalue) hw hA [] [0, 1, 2, 3, 4, 5, 6, 7, 8, 9, 10, 11] rfl rfl (by decide) (by decide) (va_runS (As := [.int p1, .int (0 : Int32), .int (5 : Int32)]) (rest := []) ⟨hx, hb, hml, hown, hts⟩ (kX5_in l D cI cJ cO N p1 (0 : Int32) (5 : Int32) u4 e5 H.size) (va_cwS 3 hts gX5_vote_X5_in rfl rfl rfl (by decide +kernel) ⟨Nat.le_of_ble_eq_true rfl, Nat.le_of_ble_eq_true rfl⟩) (zk_preS (wc := []) hN hK hw [] rfl (by decide)) rfl rfl hl.1 rfl (lv_room (Nat.le_of_ble_eq_true rfl)) dX5_vote_11 ⟨Nat.zero_le _, Nat.zero_le _⟩) (fun H locs hw => ?_)
    have hw : Wd D A s.heap (zwM cI cJ aM Mnow Mread Mpast Mchanges Mtext Mletters Mheads Msets Mballots Mranks Mloads Mbelow Morder Melected Mmembers Mabove Munder Mspot Mvalue) H locs := hw
    refine lv_if_ne (tgt := 19) hx hb dX5_vote_14 (by decide) (fun c6 => ?_) (fun c6 => ?_)
    · replace hf := zk_f c6 hf
      refine lv_iload_n hx hb dX5_vote_19 rfl (lv_at hl 2 rfl) ?_
      refine lv_if_ne (tgt := 34) hx hb dX5_vote_20 (by decide) (fun c7 => ?_) (fun c7 => ?_)
      · replace hf := zk_f c7 hf
        refine lv_iload_n hx hb dX5_vote_34 rfl (lv_at hl 2 rfl) ?_
        refine lv_iconst (v := 1) hx hb dX5_vote_35 (by decide) ?_
        refine lv_icmp_ne (tgt := 51) hx hb dX5_vote_36 (by decide) (fun c8 => ?_) (fun c8 => ?_)
        · replace hf := zk_f c8 hf
          refine lv_aload_n hx hb dX5_vote_51 rfl (lv_at hl 0 rfl) ?_
          refine va_get (D := D) (ci := 5) (v := .ref (aM 1)) (C := RX5) (T := TX5) (N := 19) hx hb hts hiX5 hown hK hw.1 0 rfl rfl 0 (by decide) hq0 (fun _ h9 => h9) rfl dX5_vote_52 ?_
          refine lv_bipush (v := 12) hx hb dX5_vote_55 (by decide) ?_
          refine lv_iload_n hx hb dX5_vote_57 rfl (lv_at hl 1 rfl) ?_
          refine lv_iadd hx hb dX5_vote_58 ?_
          obtain ⟨h9, hf⟩ := zk_ck hf
          refine zk_iald hx hb hK hw 1 rfl h9 (j := ((12 : Int32) + p0).toNatClampNeg) rfl dX5_vote_59 ?_
          refine lv_aload_n hx hb dX5_vote_60 rfl (lv_at hl 0 rfl) ?_
          refine lv_iload_n hx hb dX5_vote_61 rfl (lv_at hl 2 rfl) ?_
          refine lv_iconst (v := 2) hx hb dX5_vote_62 (by decide) ?_
          refine lv_isub hx hb dX5_vote_63 ?_
          obtain ⟨u10, e11, hf⟩ := zk_bd hf
          refine zk_calli (wc := zwM cI cJ aM Mnow Mread Mpast Mchanges Mtext Mletters Mheads Msets Mballots Mranks Mloads Mbelow Morder Melected Mmembers Mabove Munder Mspot Mvalue) (wr := []) hw hA [0, 1, 2, 3, 4, 5, 6, 7, 8, 9, 10, 11] [] rfl rfl (by decide) (by decide) (va_runV (C := RX5) (As := [.int (p1 - (2 : Int32))]) (rest := [.int (Mnow (((12 : Int32) + p0).toNatClampNeg))]) ⟨hx, hb, hml, hown, hts⟩ (kX5_membersBy l D cI cJ cO N aM (p1 - (2 : Int32)) Mnow Mread Mpast Mchanges Mtext Mletters Mheads Msets Mballots Mranks Mloads Mbelow Morder Melected Mmembers Mabove Munder Mspot Mvalue u10 e11 H.size) (cwV 1 hts gX5_vote_X5_membersBy rfl rfl rfl (by decide +kernel) ⟨Nat.le_of_ble_eq_true rfl, Nat.le_of_ble_eq_true rfl⟩) (zk_preV (wc := zwM cI cJ aM Mnow Mread Mpast Mchanges Mtext Mletters Mheads Msets Mballots Mranks Mloads Mbelow Morder Melected Mmembers Mabove Munder Mspot Mvalue) hN hK hw [0, 1, 2, 3, 4, 5, 6, 7, 8, 9, 10, 11] rfl (by decide) 0 5 rfl rfl) rfl rfl hl.1 rfl (lv_room (Nat.le_of_ble_eq_true rfl)) dX5_vote_64 ⟨Nat.zero_le _, Nat.zero_le _⟩) (fun H locs hw => ?_)
          have hw : Wd D A s.heap (zwM cI cJ aM Mnow Mread Mpast Mchanges Mtext Mletters u10.2.1 u10.2.2.1 u10.2.2.2.1 u10.2.2.2.2.1 u10.2.2.2.2.2.1 u10.2.2.2.2.2.2.1 u10.2.2.2.2.2.2.2.1 u10.2.2.2.2.2.2.2.2.1 u10.2.2.2.2.2.2.2.2.2.1 u10.2.2.2.2.2.2.2.2.2.2.1 u10.2.2.2.2.2.2.2.2.2.2.2 Mspot Mvalue) H locs := hw
          refine lv_iand hx hb dX5_vote_67 ?_
          obtain ⟨u12, e13, hf⟩ := zk_bd hf
          refine zk_calli (wc := []) (wr := zwM cI cJ aM Mnow Mread Mpast Mchanges Mtext Mletters u10.2.1 u10.2.2.1 u10.2.2.2.1 u10.2.2.2.2.1 u10.2.2.2.2.2.1 u10.2.2.2.2.2.2.1 u10.2.2.2.2.2.2.2.1 u10.2.2.2.2.2.2.2.2.1 u10.2.2.2.2.2.2.2.2.2.1 u10.2.2.2.2.2.2.2.2.2.2.1 u10.2.2.2.2.2.2.2.2.2.2.2 Mspot Mvalue) hw hA [] [0, 1, 2, 3, 4, 5, 6, 7, 8, 9, 10, 11] rfl rfl (by decide) (by decide) (va_runS (As := [.int ((Mnow (((12 : Int32) + p0).toNatClampNeg)) &&& u10.1)]) (rest := []) ⟨hx, hb, hml, hown, hts⟩ (kX5_ones l D cI cJ cO N ((Mnow (((12 : Int32) + p0).toNatClampNeg)) &&& u10.1) u12 e13 H.size) (va_cwS 1 hts gX5_vote_X5_ones rfl rfl rfl (by decide +kernel) ⟨Nat.le_of_ble_eq_true rfl, Nat.le_of_ble_eq_true rfl⟩) (zk_preS (wc := []) hN hK hw [] rfl (by decide)) rfl rfl hl.1 rfl (lv_room (Nat.le_of_ble_eq_true rfl)) dX5_vote_68 ⟨Nat.zero_le _, Nat.zero_le _⟩) (fun H locs hw => ?_)
          have hw : Wd D A s.heap (zwM cI cJ aM Mnow Mread Mpast Mchanges Mtext Mletters u10.2.1 u10.2.2.1 u10.2.2.2.1 u10.2.2.2.2.1 u10.2.2.2.2.2.1 u10.2.2.2.2.2.2.1 u10.2.2.2.2.2.2.2.1 u10.2.2.2.2.2.2.2.2.1 u10.2.2.2.2.2.2.2.2.2.1 u10.2.2.2.2.2.2.2.2.2.2.1 u10.2.2.2.2.2.2.2.2.2.2.2 Mspot Mvalue) H locs := hw
          cases hf
          exact zk_iret hx hb hr hlocks rfl hQ hw [0, 1, 2, 3, 4, 5, 6, 7, 8, 9, 10, 11] rfl (by decide) dX5_vote_71
        · replace hf := zk_t c8 hf
          refine lv_aload_n hx hb dX5_vote_39 rfl (lv_at hl 0 rfl) ?_
          refine va_get (D := D) (ci := 5) (v := .ref (aM 1)) (C := RX5) (T := TX5) (N := 19) hx hb hts hiX5 hown hK hw.1 0 rfl rfl 0 (by decide) hq0 (fun _ h9 => h9) rfl dX5_vote_40 ?_
          refine lv_bipush (v := 12) hx hb dX5_vote_43 (by decide) ?_
          refine lv_iload_n hx hb dX5_vote_45 rfl (lv_at hl 1 rfl) ?_
          refine lv_iadd hx hb dX5_vote_46 ?_
          obtain ⟨h14, hf⟩ := zk_ck hf
          refine zk_iald hx hb hK hw 1 rfl h14 (j := ((12 : Int32) + p0).toNatClampNeg) rfl dX5_vote_47 ?_
          refine lv_goto (tgt := 71) hx hb dX5_vote_48 (by decide) ?_
          cases hf
          exact zk_iret hx hb hr hlocks rfl hQ hw [0, 1, 2, 3, 4, 5, 6, 7, 8, 9, 10, 11] rfl (by decide) dX5_vote_71
      · replace hf := zk_t c7 hf
        refine lv_aload_n hx hb dX5_vote_23 rfl (lv_at hl 0 rfl) ?_
        refine va_get (D := D) (ci := 5) (v := .ref (aM 1)) (C := RX5) (T := TX5) (N := 19) hx hb hts hiX5 hown hK hw.1 0 rfl rfl 0 (by decide) hq0 (fun _ h9 => h9) rfl dX5_vote_24 ?_
        refine lv_iconst (v := 2) hx hb dX5_vote_27 (by decide) ?_
        refine lv_iload_n hx hb dX5_vote_28 rfl (lv_at hl 1 rfl) ?_
        refine lv_iadd hx hb dX5_vote_29 ?_
        obtain ⟨h15, hf⟩ := zk_ck hf
        refine zk_iald hx hb hK hw 1 rfl h15 (j := ((2 : Int32) + p0).toNatClampNeg) rfl dX5_vote_30 ?_
        refine lv_goto (tgt := 71) hx hb dX5_vote_31 (by decide) ?_
        cases hf
        exact zk_iret hx hb hr hlocks rfl hQ hw [0, 1, 2, 3, 4, 5, 6, 7, 8, 9, 10, 11] rfl (by decide) dX5_vote_71
    · replace hf := zk_t c6 hf
      refine lv_iconst (v := (-1)) hx hb dX5_vote_17 (by decide) ?_
      cases hf
      exact zk_iret hx hb hr hlocks rfl hQ hw [0, 1, 2, 3, 4, 5, 6, 7, 8, 9, 10, 11] rfl (by decide) dX5_vote_18
set_option maxHeartbeats 4000000 in
set_option maxRecDepth 100000 in
theorem kX5_member (l : Launch) (D : va_G) (cI cJ cO : ClassId) (N : Nat) (aM : Nat → Nat) (p0 : Int32) (p1 : Int32) (Mnow : Nat → Int32) (Mread : Nat → Int32) (Mpast : Nat → Int32) (Mchanges : Int32) (Mtext : Nat → Int32) (Mletters : Int32) (Mheads : Nat → Int32) (Msets : Nat → Int32) (Mballots : Int32) (Mranks : Nat → Int32) (Mloads : Nat → Int64) (Mbelow : Int64) (Morder : Nat → Int32) (Melected : Int32) (Mmembers : Int32) (Mabove : Nat → Int64) (Munder : Nat → Int64) (Mspot : Int32) (Mvalue : Int32) (u : Int32 × (Nat → Int32) × (Nat → Int32) × (Int32) × (Nat → Int32) × (Nat → Int64) × (Int64) × (Nat → Int32) × (Int32) × (Int32) × (Nat → Int64) × (Nat → Int64)) (hf : fX5_member N p0 p1 Mnow Mheads Msets Mballots Mranks Mloads Mbelow Morder Melected Mmembers Mabove Munder = some u) : CtI l yX5_member wsX5_member (zk_rm 6 140) D cI cJ cO [.ref (aM 0), .int p0, .int p1] (zwM cI cJ aM Mnow Mread Mpast Mchanges Mtext Mletters Mheads Msets Mballots Mranks Mloads Mbelow Morder Melected Mmembers Mabove Munder Mspot Mvalue) (zwM cI cJ aM Mnow Mread Mpast Mchanges Mtext Mletters u.2.1 u.2.2.1 u.2.2.2.1 u.2.2.2.2.1 u.2.2.2.2.2.1 u.2.2.2.2.2.2.1 u.2.2.2.2.2.2.2.1 u.2.2.2.2.2.2.2.2.1 u.2.2.2.2.2.2.2.2.2.1 u.2.2.2.2.2.2.2.2.2.2.1 u.2.2.2.2.2.2.2.2.2.2.2 Mspot Mvalue) (u.1) := by
  refine zk_enter (cc := cX5_member) (maxL := 4) (ret := some .int) (own := RX5) (Qf := fun A => QwI D (zwM cI cJ aM Mnow Mread Mpast Mchanges Mtext Mletters u.2.1 u.2.2.1 u.2.2.2.1 u.2.2.2.2.1 u.2.2.2.2.2.1 u.2.2.2.2.2.2.1 u.2.2.2.2.2.2.2.1 u.2.2.2.2.2.2.2.2.1 u.2.2.2.2.2.2.2.2.2.1 u.2.2.2.2.2.2.2.2.2.2.1 u.2.2.2.2.2.2.2.2.2.2.2 Mspot Mvalue) (u.1) A) (by decide) rfl rfl (Nat.le_of_ble_eq_true rfl) ?_
  intro p e s m args below meth c A Q H locs ls hC hQ hw hl
  obtain ⟨hx, hb, hml, hr, hts, hown, hlocks, hN, hK, hA⟩ := hC
  have hl : lv_has ls 4 [(0, .ref (aM 0)), (1, .int p0), (2, .int p1)] := hl
  have hiX5 : ∀ w ∈ u_ws RX5 TX5 19, w ∈ wsX5_member := by decide +kernel
  have hq0 := hts (.fieldLink RX5 157 "LoadCouncilModel" "elected" "I") (by decide +kernel)
  have hq1 := hts (.fieldLink RX5 35 "LoadCouncilModel" "order" "[I") (by decide +kernel)
  unfold fX5_member at hf
  refine lv_iload_n hx hb dX5_member_0 rfl (lv_at hl 1 rfl) ?_
  obtain ⟨u1, e2, hf⟩ := zk_bd hf
  refine zk_calli (wc := []) (wr := zwM cI cJ aM Mnow Mread Mpast Mchanges Mtext Mletters Mheads Msets Mballots Mranks Mloads Mbelow Morder Melected Mmembers Mabove Munder Mspot Mvalue) hw hA [] [0, 1, 2, 3, 4, 5, 6, 7, 8, 9, 10, 11] rfl rfl (by decide) (by decide) (va_runS (As := [.int p0]) (rest := []) ⟨hx, hb, hml, hown, hts⟩ (kX5_isLaw l D cI cJ cO N p0 u1 e2 H.size) (va_cwS 1 hts gX5_member_X5_isLaw rfl rfl rfl (by decide +kernel) ⟨Nat.le_of_ble_eq_true rfl, Nat.le_of_ble_eq_true rfl⟩) (zk_preS (wc := []) hN hK hw [] rfl (by decide)) rfl rfl hl.1 rfl (lv_room (Nat.le_of_ble_eq_true rfl)) dX5_member_1 ⟨Nat.zero_le _, Nat.zero_le _⟩) (fun H locs hw => ?_)
  have hw : Wd D A s.heap (zwM cI cJ aM Mnow Mread Mpast Mchanges Mtext Mletters Mheads Msets Mballots Mranks Mloads Mbelow Morder Melected Mmembers Mabove Munder Mspot Mvalue) H locs := hw
  refine lv_if_eq (tgt := 12) hx hb dX5_member_4 (by decide) (fun c3 => ?_) (fun c3 => ?_)
  · replace hf := zk_t c3 hf
    refine lv_iconst (v := (-1)) hx hb dX5_member_12 (by decide) ?_
    cases hf
    exact zk_iret hx hb hr hlocks rfl hQ hw [0, 1, 2, 3, 4, 5, 6, 7, 8, 9, 10, 11] rfl (by decide) dX5_member_13
  · replace hf := zk_f c3 hf
    refine lv_iload_n hx hb dX5_member_7 rfl (lv_at hl 2 rfl) ?_
    refine lv_iconst (v := (-1)) hx hb dX5_member_8 (by decide) ?_
    refine lv_icmp_ge (tgt := 14) hx hb dX5_member_9 (by decide) (fun c4 => ?_) (fun c4 => ?_)
    · replace hf := zk_t c4 hf
      refine lv_aload_n hx hb dX5_member_14 rfl (lv_at hl 0 rfl) ?_
      refine lv_iload_n hx hb dX5_member_15 rfl (lv_at hl 1 rfl) ?_
      obtain ⟨u5, e6, hf⟩ := zk_bd hf
      refine zk_calli (wc := zwM cI cJ aM Mnow Mread Mpast Mchanges Mtext Mletters Mheads Msets Mballots Mranks Mloads Mbelow Morder Melected Mmembers Mabove Munder Mspot Mvalue) (wr := []) hw hA [0, 1, 2, 3, 4, 5, 6, 7, 8, 9, 10, 11] [] rfl rfl (by decide) (by decide) (va_runV (C := RX5) (As := [.int p0]) (rest := []) ⟨hx, hb, hml, hown, hts⟩ (kX5_membersBy l D cI cJ cO N aM p0 Mnow Mread Mpast Mchanges Mtext Mletters Mheads Msets Mballots Mranks Mloads Mbelow Morder Melected Mmembers Mabove Munder Mspot Mvalue u5 e6 H.size) (cwV 1 hts gX5_member_X5_membersBy rfl rfl rfl (by decide +kernel) ⟨Nat.le_of_ble_eq_true rfl, Nat.le_of_ble_eq_true rfl⟩) (zk_preV (wc := zwM cI cJ aM Mnow Mread Mpast Mchanges Mtext Mletters Mheads Msets Mballots Mranks Mloads Mbelow Morder Melected Mmembers Mabove Munder Mspot Mvalue) hN hK hw [0, 1, 2, 3, 4, 5, 6, 7, 8, 9, 10, 11] rfl (by decide) 0 5 rfl rfl) rfl rfl hl.1 rfl (lv_room (Nat.le_of_ble_eq_true rfl)) dX5_member_16 ⟨Nat.zero_le _, Nat.zero_le _⟩) (fun H locs hw => ?_)
      have hw : Wd D A s.heap (zwM cI cJ aM Mnow Mread Mpast Mchanges Mtext Mletters u5.2.1 u5.2.2.1 u5.2.2.2.1 u5.2.2.2.2.1 u5.2.2.2.2.2.1 u5.2.2.2.2.2.2.1 u5.2.2.2.2.2.2.2.1 u5.2.2.2.2.2.2.2.2.1 u5.2.2.2.2.2.2.2.2.2.1 u5.2.2.2.2.2.2.2.2.2.2.1 u5.2.2.2.2.2.2.2.2.2.2.2 Mspot Mvalue) H locs := hw
      refine lv_istore_n (lv' := [(3, .int u5.1), (0, .ref (aM 0)), (1, .int p0), (2, .int p1)]) hx hb dX5_member_19 rfl hl (by decide) rfl (fun ls hl => ?_)
      refine lv_iload_n hx hb dX5_member_20 rfl (lv_at hl 3 rfl) ?_
      refine lv_iconst (v := (-1)) hx hb dX5_member_21 (by decide) ?_
      refine lv_icmp_ne (tgt := 32) hx hb dX5_member_22 (by decide) (fun c7 => ?_) (fun c7 => ?_)
      · replace hf := zk_f c7 hf
        refine lv_iload_n hx hb dX5_member_32 rfl (lv_at hl 3 rfl) ?_
        refine lv_aload_n hx hb dX5_member_33 rfl (lv_at hl 1 rfl) ?_
        refine va_get (D := D) (ci := 5) (v := .int u5.2.2.2.2.2.2.2.2.1) (C := RX5) (T := TX5) (N := 19) hx hb hts hiX5 hown hK hw.1 0 rfl rfl 13 (by decide) hq0 (fun _ h9 => h9) rfl dX5_member_34 ?_
        refine lv_icmp_ge (tgt := 49) hx hb dX5_member_37 (by decide) (fun c8 => ?_) (fun c8 => ?_)
        · replace hf := zk_t c8 hf
          refine lv_bipush (v := (-4)) hx hb dX5_member_49 (by decide) ?_
          cases hf
          exact zk_iret hx hb hr hlocks rfl hQ hw [0, 1, 2, 3, 4, 5, 6, 7, 8, 9, 10, 11] rfl (by decide) dX5_member_51
        · replace hf := zk_f c8 hf
          refine lv_aload_n hx hb dX5_member_40 rfl (lv_at hl 1 rfl) ?_
          refine va_get (D := D) (ci := 5) (v := .ref (aM 9)) (C := RX5) (T := TX5) (N := 19) hx hb hts hiX5 hown hK hw.1 0 rfl rfl 12 (by decide) hq1 (fun _ h9 => h9) rfl dX5_member_41 ?_
          refine lv_iload_n hx hb dX5_member_44 rfl (lv_at hl 3 rfl) ?_
          obtain ⟨h9, hf⟩ := zk_ck hf
          refine zk_iald hx hb hK hw 9 rfl h9 (j := p1.toNatClampNeg) rfl dX5_member_45 ?_
          refine lv_goto (tgt := 51) hx hb dX5_member_46 (by decide) ?_
          cases hf
          exact zk_iret hx hb hr hlocks rfl hQ hw [0, 1, 2, 3, 4, 5, 6, 7, 8, 9, 10, 11] rfl (by decide) dX5_member_51
      · replace hf := zk_t c7 hf
        refine lv_iload_n hx hb dX5_member_25 rfl (lv_at hl 0 rfl) ?_
        obtain ⟨u10, e11, hf⟩ := zk_bd hf
        refine zk_calli (wc := []) (wr := zwM cI cJ aM Mnow Mread Mpast Mchanges Mtext Mletters u5.2.1 u5.2.2.1 u5.2.2.2.1 u5.2.2.2.2.1 u5.2.2.2.2.2.1 u5.2.2.2.2.2.2.1 u5.2.2.2.2.2.2.2.1 u5.2.2.2.2.2.2.2.2.1 u5.2.2.2.2.2.2.2.2.2.1 u5.2.2.2.2.2.2.2.2.2.2.1 u5.2.2.2.2.2.2.2.2.2.2.2 Mspot Mvalue) hw hA [] [0, 1, 2, 3, 4, 5, 6, 7, 8, 9, 10, 11] rfl rfl (by decide) (by decide) (va_runS (As := [.int u5.1]) (rest := []) ⟨hx, hb, hml, hown, hts⟩ (kX5_ones l D cI cJ cO N u5.1 u10 e11 H.size) (va_cwS 1 hts gX5_member_X5_ones rfl rfl rfl (by decide +kernel) ⟨Nat.le_of_ble_eq_true rfl, Nat.le_of_ble_eq_true rfl⟩) (zk_preS (wc := []) hN hK hw [] rfl (by decide)) rfl rfl hl.1 rfl (lv_room (Nat.le_of_ble_eq_true rfl)) dX5_member_26 ⟨Nat.zero_le _, Nat.zero_le _⟩) (fun H locs hw => ?_)
        have hw : Wd D A s.heap (zwM cI cJ aM Mnow Mread Mpast Mchanges Mtext Mletters u5.2.1 u5.2.2.1 u5.2.2.2.1 u5.2.2.2.2.1 u5.2.2.2.2.2.1 u5.2.2.2.2.2.2.1 u5.2.2.2.2.2.2.2.1 u5.2.2.2.2.2.2.2.2.1 u5.2.2.2.2.2.2.2.2.2.1 u5.2.2.2.2.2.2.2.2.2.2.1 u5.2.2.2.2.2.2.2.2.2.2.2 Mspot Mvalue) H locs := hw
        refine lv_goto (tgt := 51) hx hb dX5_member_29 (by decide) ?_
        cases hf
        exact zk_iret hx hb hr hlocks rfl hQ hw [0, 1, 2, 3, 4, 5, 6, 7, 8, 9, 10, 11] rfl (by decide) dX5_member_51
    · replace hf := zk_f c4 hf
      refine lv_iconst (v := (-1)) hx hb dX5_member_12 (by decide) ?_
      cases hf
      exact zk_iret hx hb hr hlocks rfl hQ hw [0, 1, 2, 3, 4, 5, 6, 7, 8, 9, 10, 11] rfl (by decide) dX5_member_13
set_option maxHeartbeats 4000000 in
set_option maxRecDepth 100000 in
theorem kX5_members (l : Launch) (D : va_G) (cI cJ cO : ClassId) (N : Nat) (aM : Nat → Nat) (p0 : Int32) (Mnow : Nat → Int32) (Mread : Nat → Int32) (Mpast : Nat → Int32) (Mchanges : Int32) (Mtext : Nat → Int32) (Mletters : Int32) (Mheads : Nat → Int32) (Msets : Nat → Int32) (Mballots : Int32) (Mranks : Nat → Int32) (Mloads : Nat → Int64) (Mbelow : Int64) (Morder : Nat → Int32) (Melected : Int32) (Mmembers : Int32) (Mabove : Nat → Int64) (Munder : Nat → Int64) (Mspot : Int32) (Mvalue : Int32) (u : Int32 × (Nat → Int32) × (Nat → Int32) × (Int32) × (Nat → Int32) × (Nat → Int64) × (Int64) × (Nat → Int32) × (Int32) × (Int32) × (Nat → Int64) × (Nat → Int64)) (hf : fX5_members N p0 Mnow Mheads Msets Mballots Mranks Mloads Mbelow Morder Melected Mmembers Mabove Munder = some u) : CtI l yX5_members wsX5_members (zk_rm 6 140) D cI cJ cO [.ref (aM 0), .int p0] (zwM cI cJ aM Mnow Mread Mpast Mchanges Mtext Mletters Mheads Msets Mballots Mranks Mloads Mbelow Morder Melected Mmembers Mabove Munder Mspot Mvalue) (zwM cI cJ aM Mnow Mread Mpast Mchanges Mtext Mletters u.2.1 u.2.2.1 u.2.2.2.1 u.2.2.2.2.1 u.2.2.2.2.2.1 u.2.2.2.2.2.2.1 u.2.2.2.2.2.2.2.1 u.2.2.2.2.2.2.2.2.1 u.2.2.2.2.2.2.2.2.2.1 u.2.2.2.2.2.2.2.2.2.2.1 u.2.2.2.2.2.2.2.2.2.2.2 Mspot Mvalue) (u.1) := by
  refine zk_enter (cc := cX5_members) (maxL := 2) (ret := some .int) (own := RX5) (Qf := fun A => QwI D (zwM cI cJ aM Mnow Mread Mpast Mchanges Mtext Mletters u.2.1 u.2.2.1 u.2.2.2.1 u.2.2.2.2.1 u.2.2.2.2.2.1 u.2.2.2.2.2.2.1 u.2.2.2.2.2.2.2.1 u.2.2.2.2.2.2.2.2.1 u.2.2.2.2.2.2.2.2.2.1 u.2.2.2.2.2.2.2.2.2.2.1 u.2.2.2.2.2.2.2.2.2.2.2 Mspot Mvalue) (u.1) A) (by decide) rfl rfl (Nat.le_of_ble_eq_true rfl) ?_
  intro p e s m args below meth c A Q H locs ls hC hQ hw hl
  obtain ⟨hx, hb, hml, hr, hts, hown, hlocks, hN, hK, hA⟩ := hC
  have hl : lv_has ls 2 [(0, .ref (aM 0)), (1, .int p0)] := hl
  unfold fX5_members at hf
  refine lv_iload_n hx hb dX5_members_0 rfl (lv_at hl 1 rfl) ?_
  obtain ⟨u1, e2, hf⟩ := zk_bd hf
  refine zk_calli (wc := []) (wr := zwM cI cJ aM Mnow Mread Mpast Mchanges Mtext Mletters Mheads Msets Mballots Mranks Mloads Mbelow Morder Melected Mmembers Mabove Munder Mspot Mvalue) hw hA [] [0, 1, 2, 3, 4, 5, 6, 7, 8, 9, 10, 11] rfl rfl (by decide) (by decide) (va_runS (As := [.int p0]) (rest := []) ⟨hx, hb, hml, hown, hts⟩ (kX5_isLaw l D cI cJ cO N p0 u1 e2 H.size) (va_cwS 1 hts gX5_members_X5_isLaw rfl rfl rfl (by decide +kernel) ⟨Nat.le_of_ble_eq_true rfl, Nat.le_of_ble_eq_true rfl⟩) (zk_preS (wc := []) hN hK hw [] rfl (by decide)) rfl rfl hl.1 rfl (lv_room (Nat.le_of_ble_eq_true rfl)) dX5_members_1 ⟨Nat.zero_le _, Nat.zero_le _⟩) (fun H locs hw => ?_)
  have hw : Wd D A s.heap (zwM cI cJ aM Mnow Mread Mpast Mchanges Mtext Mletters Mheads Msets Mballots Mranks Mloads Mbelow Morder Melected Mmembers Mabove Munder Mspot Mvalue) H locs := hw
  refine lv_if_eq (tgt := 15) hx hb dX5_members_4 (by decide) (fun c3 => ?_) (fun c3 => ?_)
  · replace hf := zk_t c3 hf
    refine lv_iconst (v := (-1)) hx hb dX5_members_15 (by decide) ?_
    cases hf
    exact zk_iret hx hb hr hlocks rfl hQ hw [0, 1, 2, 3, 4, 5, 6, 7, 8, 9, 10, 11] rfl (by decide) dX5_members_16
  · replace hf := zk_f c3 hf
    refine lv_aload_n hx hb dX5_members_7 rfl (lv_at hl 0 rfl) ?_
    refine lv_iload_n hx hb dX5_members_8 rfl (lv_at hl 1 rfl) ?_
    obtain ⟨u4, e5, hf⟩ := zk_bd hf
    refine zk_calli (wc := zwM cI cJ aM Mnow Mread Mpast Mchanges Mtext Mletters Mheads Msets Mballots Mranks Mloads Mbelow Morder Melected Mmembers Mabove Munder Mspot Mvalue) (wr := []) hw hA [0, 1, 2, 3, 4, 5, 6, 7, 8, 9, 10, 11] [] rfl rfl (by decide) (by decide) (va_runV (C := RX5) (As := [.int p0]) (rest := []) ⟨hx, hb, hml, hown, hts⟩ (kX5_membersBy l D cI cJ cO N aM p0 Mnow Mread Mpast Mchanges Mtext Mletters Mheads Msets Mballots Mranks Mloads Mbelow Morder Melected Mmembers Mabove Munder Mspot Mvalue u4 e5 H.size) (cwV 1 hts gX5_members_X5_membersBy rfl rfl rfl (by decide +kernel) ⟨Nat.le_of_ble_eq_true rfl, Nat.le_of_ble_eq_true rfl⟩) (zk_preV (wc := zwM cI cJ aM Mnow Mread Mpast Mchanges Mtext Mletters Mheads Msets Mballots Mranks Mloads Mbelow Morder Melected Mmembers Mabove Munder Mspot Mvalue) hN hK hw [0, 1, 2, 3, 4, 5, 6, 7, 8, 9, 10, 11] rfl (by decide) 0 5 rfl rfl) rfl rfl hl.1 rfl (lv_room (Nat.le_of_ble_eq_true rfl)) dX5_members_9 ⟨Nat.zero_le _, Nat.zero_le _⟩) (fun H locs hw => ?_)
    have hw : Wd D A s.heap (zwM cI cJ aM Mnow Mread Mpast Mchanges Mtext Mletters u4.2.1 u4.2.2.1 u4.2.2.2.1 u4.2.2.2.2.1 u4.2.2.2.2.2.1 u4.2.2.2.2.2.2.1 u4.2.2.2.2.2.2.2.1 u4.2.2.2.2.2.2.2.2.1 u4.2.2.2.2.2.2.2.2.2.1 u4.2.2.2.2.2.2.2.2.2.2.1 u4.2.2.2.2.2.2.2.2.2.2.2 Mspot Mvalue) H locs := hw
    refine lv_goto (tgt := 16) hx hb dX5_members_12 (by decide) ?_
    cases hf
    exact zk_iret hx hb hr hlocks rfl hQ hw [0, 1, 2, 3, 4, 5, 6, 7, 8, 9, 10, 11] rfl (by decide) dX5_members_16
set_option maxHeartbeats 4000000 in
set_option maxRecDepth 100000 in
theorem kX5_partOf (l : Launch) (D : va_G) (cI cJ cO : ClassId) (N : Nat) (p0 : Int64) (p1 : Int64) (p2 : Int32) (u : Int64) (hf : fX5_partOf N p0 p1 p2 = some u) : CtL l yX5_partOf wsX5_partOf (zk_rm 0 0) D cI cJ cO [.long p0, .long p1, .int p2] ([]) ([]) (u) := by
  refine zk_enter (cc := cX5_partOf) (maxL := 11) (ret := some .long) (own := RX5) (Qf := fun A => QwL D ([]) (u) A) (by decide) rfl rfl (Nat.le_of_ble_eq_true rfl) ?_
  intro p e s m args below meth c A Q H locs ls hC hQ hw hl
  obtain ⟨hx, hb, hml, hr, hts, hown, hlocks, hN, hK, hA⟩ := hC
  have hl : lv_has ls 11 [(0, .long p0), (2, .long p1), (4, .int p2)] := hl
  have b31 : ∀ (x0 : Int64) (x2 : Int64) (x4 : Int32) (x5 : Int64), fX5_partOf_b31 N x0 x2 x4 x5 = some u → ∀ (H : Heap) (locs : List Loc) (ls : Array Slot), Wd D A s.heap ([]) H locs → lv_has ls 11 [(0, .long x0), (2, .long x2), (4, .int x4), (5, .long x5)] → W p l e (zk_rm 0 0) s m args below meth c H locs 0 0 Q (F0 m 31 ls []) := by
    intro x0 x2 x4 x5 hf H locs ls hw hl
    unfold fX5_partOf_b31 at hf
    refine lv_iload hx hb dX5_partOf_31 (lv_at hl 2 rfl) ?_
    refine lv_if_ne (tgt := 43) hx hb dX5_partOf_33 (by decide) (fun c1 => ?_) (fun c1 => ?_)
    · replace hf := zk_f c1 hf
      refine lv_lload_n hx hb dX5_partOf_43 rfl (lv_at hl 1 rfl) ?_
      refine lv_lload hx hb dX5_partOf_44 (lv_at hl 3 rfl) ?_
      obtain ⟨h2, hf⟩ := zk_ck hf
      refine lv_ldiv hx hb dX5_partOf_46 h2 ?_
      cases hf
      exact zk_lret hx hb hr hlocks hQ hw [] rfl (by decide) dX5_partOf_47
    · replace hf := zk_t c1 hf
      refine lv_lload_n hx hb dX5_partOf_36 rfl (lv_at hl 0 rfl) ?_
      refine lv_lload hx hb dX5_partOf_37 (lv_at hl 3 rfl) ?_
      obtain ⟨h3, hf⟩ := zk_ck hf
      refine lv_ldiv hx hb dX5_partOf_39 h3 ?_
      refine lv_goto (tgt := 47) hx hb dX5_partOf_40 (by decide) ?_
      cases hf
      exact zk_lret hx hb hr hlocks hQ hw [] rfl (by decide) dX5_partOf_47
  have b6 : ∀ (n6 : Nat), ∀ (x0 : Int64) (x2 : Int64) (x4 : Int32) (x5 : Int64) (x7 : Int64), fX5_partOf_b6 N n6 x0 x2 x4 x5 x7 = some u → ∀ (H : Heap) (locs : List Loc) (ls : Array Slot), Wd D A s.heap ([]) H locs → lv_has ls 11 [(0, .long x0), (2, .long x2), (4, .int x4), (5, .long x5), (7, .long x7)] → W p l e (zk_rm 0 0) s m args below meth c H locs 0 0 Q (F0 m 6 ls []) := by
    intro n6
    induction n6 with
    | zero =>
      intro x0 x2 x4 x5 x7 hf
      exact zk_none hf
    | succ n6 ih6 =>
      intro x0 x2 x4 x5 x7 hf H locs ls hw hl
      rw [fX5_partOf_b6] at hf
      refine lv_lload hx hb dX5_partOf_6 (lv_at hl 4 rfl) ?_
      refine lv_lconst (v := 0) hx hb dX5_partOf_8 (by decide) ?_
      refine W.lcmp hx hb dX5_partOf_9 ?_
      refine lv_if_eq (tgt := 31) hx hb dX5_partOf_10 (by decide) (fun c4 => ?_) (fun c4 => ?_)
      · replace hf := zk_t c4 hf
        exact b31 x0 x2 x4 x5 hf H locs ls hw (lv_sub hl [0, 1, 2, 3] rfl)
      · replace hf := zk_f c4 hf
        refine lv_lload hx hb dX5_partOf_13 (lv_at hl 3 rfl) ?_
        refine lv_lload hx hb dX5_partOf_15 (lv_at hl 4 rfl) ?_
        obtain ⟨h5, hf⟩ := zk_ck hf
        refine lv_lrem hx hb dX5_partOf_17 h5 ?_
        refine lv_lstore (lv' := [(9, .long (x5 - x5 / x7 * x7)), (0, .long x0), (2, .long x2), (4, .int x4), (5, .long x5), (7, .long x7)]) hx hb dX5_partOf_18 hl (by decide) rfl (fun ls hl => ?_)
        refine lv_lload hx hb dX5_partOf_20 (lv_at hl 5 rfl) ?_
        refine lv_lstore (lv' := [(5, .long x7), (9, .long (x5 - x5 / x7 * x7)), (0, .long x0), (2, .long x2), (4, .int x4), (7, .long x7)]) hx hb dX5_partOf_22 hl (by decide) rfl (fun ls hl => ?_)
        refine lv_lload hx hb dX5_partOf_24 (lv_at hl 1 rfl) ?_
        refine lv_lstore (lv' := [(7, .long (x5 - x5 / x7 * x7)), (5, .long x7), (9, .long (x5 - x5 / x7 * x7)), (0, .long x0), (2, .long x2), (4, .int x4)]) hx hb dX5_partOf_26 hl (by decide) rfl (fun ls hl => ?_)
        refine lv_goto (tgt := 6) hx hb dX5_partOf_28 (by decide) ?_
        exact ih6 x0 x2 x4 x7 (x5 - x5 / x7 * x7) hf H locs ls hw (lv_sub hl [3, 4, 5, 1, 0] rfl)
  unfold fX5_partOf at hf
  refine lv_lload_n hx hb dX5_partOf_0 rfl (lv_at hl 0 rfl) ?_
  refine lv_lstore (lv' := [(5, .long p0), (0, .long p0), (2, .long p1), (4, .int p2)]) hx hb dX5_partOf_1 hl (by decide) rfl (fun ls hl => ?_)
  refine lv_lload_n hx hb dX5_partOf_3 rfl (lv_at hl 2 rfl) ?_
  refine lv_lstore (lv' := [(7, .long p1), (5, .long p0), (0, .long p0), (2, .long p1), (4, .int p2)]) hx hb dX5_partOf_4 hl (by decide) rfl (fun ls hl => ?_)
  exact b6 N p0 p1 p2 p0 p1 hf H locs ls hw (lv_sub hl [2, 3, 4, 1, 0] rfl)
set_option maxHeartbeats 4000000 in
set_option maxRecDepth 100000 in
theorem kX5_isPart (l : Launch) (D : va_G) (cI cJ cO : ClassId) (N : Nat) (p0 : Int32) (u : Int32) (hf : fX5_isPart N p0 = some u) : CtI l yX5_isPart wsX5_isPart (zk_rm 1 22) D cI cJ cO [.int p0] ([]) ([]) (u) := by
  refine zk_enter (cc := cX5_isPart) (maxL := 1) (ret := some .boolean) (own := RX5) (Qf := fun A => QwI D ([]) (u) A) (by decide) rfl rfl (Nat.le_of_ble_eq_true rfl) ?_
  intro p e s m args below meth c A Q H locs ls hC hQ hw hl
  obtain ⟨hx, hb, hml, hr, hts, hown, hlocks, hN, hK, hA⟩ := hC
  have hl : lv_has ls 1 [(0, .int p0)] := hl
  unfold fX5_isPart at hf
  refine lv_iload_n hx hb dX5_isPart_0 rfl (lv_at hl 0 rfl) ?_
  refine lv_iconst (v := 0) hx hb dX5_isPart_1 (by decide) ?_
  refine lv_iconst (v := 1) hx hb dX5_isPart_2 (by decide) ?_
  obtain ⟨u1, e2, hf⟩ := zk_bd hf
  refine zk_calli (wc := []) (wr := []) hw hA [] [] rfl rfl (by decide) (by decide) (va_runS (As := [.int p0, .int (0 : Int32), .int (1 : Int32)]) (rest := []) ⟨hx, hb, hml, hown, hts⟩ (kX5_in l D cI cJ cO N p0 (0 : Int32) (1 : Int32) u1 e2 H.size) (va_cwS 3 hts gX5_isPart_X5_in rfl rfl rfl (by decide +kernel) ⟨Nat.le_of_ble_eq_true rfl, Nat.le_of_ble_eq_true rfl⟩) (zk_preS (wc := []) hN hK hw [] rfl (by decide)) rfl rfl hl.1 rfl (lv_room (Nat.le_of_ble_eq_true rfl)) dX5_isPart_3 ⟨Nat.zero_le _, Nat.zero_le _⟩) (fun H locs hw => ?_)
  have hw : Wd D A s.heap ([]) H locs := hw
  obtain ⟨h3, hf⟩ := zk_ck hf
  cases hf
  exact zk_iret hx hb hr hlocks (zk_nb h3) hQ hw [] rfl (by decide) dX5_isPart_6
set_option maxHeartbeats 4000000 in
set_option maxRecDepth 100000 in
theorem kX5_came (l : Launch) (D : va_G) (cI cJ cO : ClassId) (N : Nat) (aM : Nat → Nat) (p0 : Int32) (p1 : Int32) (p2 : Int32) (Mnow : Nat → Int32) (Mread : Nat → Int32) (Mpast : Nat → Int32) (Mchanges : Int32) (Mtext : Nat → Int32) (Mletters : Int32) (Mheads : Nat → Int32) (Msets : Nat → Int32) (Mballots : Int32) (Mranks : Nat → Int32) (Mloads : Nat → Int64) (Mbelow : Int64) (Morder : Nat → Int32) (Melected : Int32) (Mmembers : Int32) (Mabove : Nat → Int64) (Munder : Nat → Int64) (Mspot : Int32) (Mvalue : Int32) (u : Int64 × (Nat → Int32) × (Nat → Int32) × (Int32) × (Nat → Int32) × (Nat → Int64) × (Int64) × (Nat → Int32) × (Int32) × (Int32) × (Nat → Int64) × (Nat → Int64)) (hf : fX5_came N p0 p1 p2 Mnow Mheads Msets Mballots Mranks Mloads Mbelow Morder Melected Mmembers Mabove Munder = some u) : CtL l yX5_came wsX5_came (zk_rm 5 119) D cI cJ cO [.ref (aM 0), .int p0, .int p1, .int p2] (zwM cI cJ aM Mnow Mread Mpast Mchanges Mtext Mletters Mheads Msets Mballots Mranks Mloads Mbelow Morder Melected Mmembers Mabove Munder Mspot Mvalue) (zwM cI cJ aM Mnow Mread Mpast Mchanges Mtext Mletters u.2.1 u.2.2.1 u.2.2.2.1 u.2.2.2.2.1 u.2.2.2.2.2.1 u.2.2.2.2.2.2.1 u.2.2.2.2.2.2.2.1 u.2.2.2.2.2.2.2.2.1 u.2.2.2.2.2.2.2.2.2.1 u.2.2.2.2.2.2.2.2.2.2.1 u.2.2.2.2.2.2.2.2.2.2.2 Mspot Mvalue) (u.1) := by
  refine zk_enter (cc := cX5_came) (maxL := 4) (ret := some .long) (own := RX5) (Qf := fun A => QwL D (zwM cI cJ aM Mnow Mread Mpast Mchanges Mtext Mletters u.2.1 u.2.2.1 u.2.2.2.1 u.2.2.2.2.1 u.2.2.2.2.2.1 u.2.2.2.2.2.2.1 u.2.2.2.2.2.2.2.1 u.2.2.2.2.2.2.2.2.1 u.2.2.2.2.2.2.2.2.2.1 u.2.2.2.2.2.2.2.2.2.2.1 u.2.2.2.2.2.2.2.2.2.2.2 Mspot Mvalue) (u.1) A) (by decide) rfl rfl (Nat.le_of_ble_eq_true rfl) ?_
  intro p e s m args below meth c A Q H locs ls hC hQ hw hl
  obtain ⟨hx, hb, hml, hr, hts, hown, hlocks, hN, hK, hA⟩ := hC
  have hl : lv_has ls 4 [(0, .ref (aM 0)), (1, .int p0), (2, .int p1), (3, .int p2)] := hl
  have hiX5 : ∀ w ∈ u_ws RX5 TX5 19, w ∈ wsX5_came := by decide +kernel
  have hq0 := hts (.constantLong RX5 191 (-1)) (by decide +kernel)
  have hq1 := hts (.fieldLink RX5 157 "LoadCouncilModel" "elected" "I") (by decide +kernel)
  have hq2 := hts (.constantLong RX5 197 (-4)) (by decide +kernel)
  have hq3 := hts (.fieldLink RX5 41 "LoadCouncilModel" "under" "[J") (by decide +kernel)
  have hq4 := hts (.fieldLink RX5 38 "LoadCouncilModel" "above" "[J") (by decide +kernel)
  unfold fX5_came at hf
  refine lv_iload_n hx hb dX5_came_0 rfl (lv_at hl 1 rfl) ?_
  obtain ⟨u1, e2, hf⟩ := zk_bd hf
  refine zk_calli (wc := []) (wr := zwM cI cJ aM Mnow Mread Mpast Mchanges Mtext Mletters Mheads Msets Mballots Mranks Mloads Mbelow Morder Melected Mmembers Mabove Munder Mspot Mvalue) hw hA [] [0, 1, 2, 3, 4, 5, 6, 7, 8, 9, 10, 11] rfl rfl (by decide) (by decide) (va_runS (As := [.int p0]) (rest := []) ⟨hx, hb, hml, hown, hts⟩ (kX5_isLaw l D cI cJ cO N p0 u1 e2 H.size) (va_cwS 1 hts gX5_came_X5_isLaw rfl rfl rfl (by decide +kernel) ⟨Nat.le_of_ble_eq_true rfl, Nat.le_of_ble_eq_true rfl⟩) (zk_preS (wc := []) hN hK hw [] rfl (by decide)) rfl rfl hl.1 rfl (lv_room (Nat.le_of_ble_eq_true rfl)) dX5_came_1 ⟨Nat.zero_le _, Nat.zero_le _⟩) (fun H locs hw => ?_)
  have hw : Wd D A s.heap (zwM cI cJ aM Mnow Mread Mpast Mchanges Mtext Mletters Mheads Msets Mballots Mranks Mloads Mbelow Morder Melected Mmembers Mabove Munder Mspot Mvalue) H locs := hw
  refine lv_if_eq (tgt := 18) hx hb dX5_came_4 (by decide) (fun c3 => ?_) (fun c3 => ?_)
  · replace hf := zk_t c3 hf
    refine lv_ldc2 hx hb hown hq0 dX5_came_18 ?_
    cases hf
    exact zk_lret hx hb hr hlocks hQ hw [0, 1, 2, 3, 4, 5, 6, 7, 8, 9, 10, 11] rfl (by decide) dX5_came_21
  · replace hf := zk_f c3 hf
    refine lv_iload_n hx hb dX5_came_7 rfl (lv_at hl 2 rfl) ?_
    refine lv_if_lt (tgt := 18) hx hb dX5_came_8 (by decide) (fun c4 => ?_) (fun c4 => ?_)
    · replace hf := zk_t c4 hf
      refine lv_ldc2 hx hb hown hq0 dX5_came_18 ?_
      cases hf
      exact zk_lret hx hb hr hlocks hQ hw [0, 1, 2, 3, 4, 5, 6, 7, 8, 9, 10, 11] rfl (by decide) dX5_came_21
    · replace hf := zk_f c4 hf
      refine lv_iload_n hx hb dX5_came_11 rfl (lv_at hl 3 rfl) ?_
      obtain ⟨u5, e6, hf⟩ := zk_bd hf
      refine zk_calli (wc := []) (wr := zwM cI cJ aM Mnow Mread Mpast Mchanges Mtext Mletters Mheads Msets Mballots Mranks Mloads Mbelow Morder Melected Mmembers Mabove Munder Mspot Mvalue) hw hA [] [0, 1, 2, 3, 4, 5, 6, 7, 8, 9, 10, 11] rfl rfl (by decide) (by decide) (va_runS (As := [.int p2]) (rest := []) ⟨hx, hb, hml, hown, hts⟩ (kX5_isPart l D cI cJ cO N p2 u5 e6 H.size) (va_cwS 1 hts gX5_came_X5_isPart rfl rfl rfl (by decide +kernel) ⟨Nat.le_of_ble_eq_true rfl, Nat.le_of_ble_eq_true rfl⟩) (zk_preS (wc := []) hN hK hw [] rfl (by decide)) rfl rfl hl.1 rfl (lv_room (Nat.le_of_ble_eq_true rfl)) dX5_came_12 ⟨Nat.zero_le _, Nat.zero_le _⟩) (fun H locs hw => ?_)
      have hw : Wd D A s.heap (zwM cI cJ aM Mnow Mread Mpast Mchanges Mtext Mletters Mheads Msets Mballots Mranks Mloads Mbelow Morder Melected Mmembers Mabove Munder Mspot Mvalue) H locs := hw
      refine lv_if_ne (tgt := 22) hx hb dX5_came_15 (by decide) (fun c7 => ?_) (fun c7 => ?_)
      · replace hf := zk_f c7 hf
        refine lv_aload_n hx hb dX5_came_22 rfl (lv_at hl 0 rfl) ?_
        obtain ⟨u8, e9, hf⟩ := zk_bd hf
        refine zk_callv (wc := zwM cI cJ aM Mnow Mread Mpast Mchanges Mtext Mletters Mheads Msets Mballots Mranks Mloads Mbelow Morder Melected Mmembers Mabove Munder Mspot Mvalue) (wr := []) hw hA [0, 1, 2, 3, 4, 5, 6, 7, 8, 9, 10, 11] [] rfl rfl (by decide) (by decide) (va_runV (C := RX5) (As := []) (rest := []) ⟨hx, hb, hml, hown, hts⟩ (kX5_lays l D cI cJ cO N aM Mnow Mread Mpast Mchanges Mtext Mletters Mheads Msets Mballots Mranks Mloads Mbelow Morder Melected Mmembers Mabove Munder Mspot Mvalue u8 e9 H.size) (cwV 0 hts gX5_came_X5_lays rfl rfl rfl (by decide +kernel) ⟨Nat.le_of_ble_eq_true rfl, Nat.le_of_ble_eq_true rfl⟩) (zk_preV (wc := zwM cI cJ aM Mnow Mread Mpast Mchanges Mtext Mletters Mheads Msets Mballots Mranks Mloads Mbelow Morder Melected Mmembers Mabove Munder Mspot Mvalue) hN hK hw [0, 1, 2, 3, 4, 5, 6, 7, 8, 9, 10, 11] rfl (by decide) 0 5 rfl rfl) rfl rfl hl.1 rfl (lv_room (Nat.le_of_ble_eq_true rfl)) dX5_came_23 ⟨Nat.zero_le _, Nat.zero_le _⟩) (fun H locs hw => ?_)
        have hw : Wd D A s.heap (zwM cI cJ aM Mnow Mread Mpast Mchanges Mtext Mletters u8.1 u8.2.1 u8.2.2.1 u8.2.2.2 Mloads Mbelow Morder Melected Mmembers Mabove Munder Mspot Mvalue) H locs := hw
        refine lv_aload_n hx hb dX5_came_26 rfl (lv_at hl 0 rfl) ?_
        refine lv_iload_n hx hb dX5_came_27 rfl (lv_at hl 1 rfl) ?_
        obtain ⟨u10, e11, hf⟩ := zk_bd hf
        refine zk_callv (wc := zwM cI cJ aM Mnow Mread Mpast Mchanges Mtext Mletters u8.1 u8.2.1 u8.2.2.1 u8.2.2.2 Mloads Mbelow Morder Melected Mmembers Mabove Munder Mspot Mvalue) (wr := []) hw hA [0, 1, 2, 3, 4, 5, 6, 7, 8, 9, 10, 11] [] rfl rfl (by decide) (by decide) (va_runV (C := RX5) (As := [.int p0]) (rest := []) ⟨hx, hb, hml, hown, hts⟩ (kX5_elects l D cI cJ cO N aM p0 Mnow Mread Mpast Mchanges Mtext Mletters u8.1 u8.2.1 u8.2.2.1 u8.2.2.2 Mloads Mbelow Morder Melected Mmembers Mabove Munder Mspot Mvalue u10 e11 H.size) (cwV 1 hts gX5_came_X5_elects rfl rfl rfl (by decide +kernel) ⟨Nat.le_of_ble_eq_true rfl, Nat.le_of_ble_eq_true rfl⟩) (zk_preV (wc := zwM cI cJ aM Mnow Mread Mpast Mchanges Mtext Mletters u8.1 u8.2.1 u8.2.2.1 u8.2.2.2 Mloads Mbelow Morder Melected Mmembers Mabove Munder Mspot Mvalue) hN hK hw [0, 1, 2, 3, 4, 5, 6, 7, 8, 9, 10, 11] rfl (by decide) 0 5 rfl rfl) rfl rfl hl.1 rfl (lv_room (Nat.le_of_ble_eq_true rfl)) dX5_came_28 ⟨Nat.zero_le _, Nat.zero_le _⟩) (fun H locs hw => ?_)
        have hw : Wd D A s.heap (zwM cI cJ aM Mnow Mread Mpast Mchanges Mtext Mletters u8.1 u8.2.1 u8.2.2.1 u8.2.2.2 u10.1 u10.2.1 u10.2.2.1 u10.2.2.2.1 u10.2.2.2.2.1 u10.2.2.2.2.2.1 u10.2.2.2.2.2.2 Mspot Mvalue) H locs := hw
        refine lv_iload_n hx hb dX5_came_31 rfl (lv_at hl 2 rfl) ?_
        refine lv_aload_n hx hb dX5_came_32 rfl (lv_at hl 0 rfl) ?_
        refine va_get (D := D) (ci := 5) (v := .int u10.2.2.2.1) (C := RX5) (T := TX5) (N := 19) hx hb hts hiX5 hown hK hw.1 0 rfl rfl 13 (by decide) hq1 (fun _ h9 => h9) rfl dX5_came_33 ?_
        refine lv_icmp_ge (tgt := 69) hx hb dX5_came_36 (by decide) (fun c12 => ?_) (fun c12 => ?_)
        · replace hf := zk_t c12 hf
          refine lv_ldc2 hx hb hown hq2 dX5_came_69 ?_
          cases hf
          exact zk_lret hx hb hr hlocks hQ hw [0, 1, 2, 3, 4, 5, 6, 7, 8, 9, 10, 11] rfl (by decide) dX5_came_72
        · replace hf := zk_f c12 hf
          refine lv_aload_n hx hb dX5_came_39 rfl (lv_at hl 0 rfl) ?_
          refine va_get (D := D) (ci := 5) (v := .ref (aM 11)) (C := RX5) (T := TX5) (N := 19) hx hb hts hiX5 hown hK hw.1 0 rfl rfl 16 (by decide) hq3 (fun _ h9 => h9) rfl dX5_came_40 ?_
          refine lv_iload_n hx hb dX5_came_43 rfl (lv_at hl 2 rfl) ?_
          obtain ⟨h13, hf⟩ := zk_ck hf
          refine zk_lald hx hb hK hw 11 rfl h13 (j := p1.toNatClampNeg) rfl dX5_came_44 ?_
          refine lv_lconst (v := 0) hx hb dX5_came_45 (by decide) ?_
          refine W.lcmp hx hb dX5_came_46 ?_
          refine lv_if_le (tgt := 69) hx hb dX5_came_47 (by decide) (fun c14 => ?_) (fun c14 => ?_)
          · replace hf := zk_t c14 hf
            refine lv_ldc2 hx hb hown hq2 dX5_came_69 ?_
            cases hf
            exact zk_lret hx hb hr hlocks hQ hw [0, 1, 2, 3, 4, 5, 6, 7, 8, 9, 10, 11] rfl (by decide) dX5_came_72
          · replace hf := zk_f c14 hf
            refine lv_aload_n hx hb dX5_came_50 rfl (lv_at hl 0 rfl) ?_
            refine va_get (D := D) (ci := 5) (v := .ref (aM 10)) (C := RX5) (T := TX5) (N := 19) hx hb hts hiX5 hown hK hw.1 0 rfl rfl 15 (by decide) hq4 (fun _ h9 => h9) rfl dX5_came_51 ?_
            refine lv_iload_n hx hb dX5_came_54 rfl (lv_at hl 2 rfl) ?_
            refine zk_lald hx hb hK hw 10 rfl h13 (j := p1.toNatClampNeg) rfl dX5_came_55 ?_
            refine lv_aload_n hx hb dX5_came_56 rfl (lv_at hl 0 rfl) ?_
            refine va_get (D := D) (ci := 5) (v := .ref (aM 11)) (C := RX5) (T := TX5) (N := 19) hx hb hts hiX5 hown hK hw.1 0 rfl rfl 16 (by decide) hq3 (fun _ h9 => h9) rfl dX5_came_57 ?_
            refine lv_iload_n hx hb dX5_came_60 rfl (lv_at hl 2 rfl) ?_
            refine zk_lald hx hb hK hw 11 rfl h13 (j := p1.toNatClampNeg) rfl dX5_came_61 ?_
            refine lv_iload_n hx hb dX5_came_62 rfl (lv_at hl 3 rfl) ?_
            obtain ⟨u15, e16, hf⟩ := zk_bd hf
            refine zk_calll (wc := []) (wr := zwM cI cJ aM Mnow Mread Mpast Mchanges Mtext Mletters u8.1 u8.2.1 u8.2.2.1 u8.2.2.2 u10.1 u10.2.1 u10.2.2.1 u10.2.2.2.1 u10.2.2.2.2.1 u10.2.2.2.2.2.1 u10.2.2.2.2.2.2 Mspot Mvalue) hw hA [] [0, 1, 2, 3, 4, 5, 6, 7, 8, 9, 10, 11] rfl rfl (by decide) (by decide) (va_runS (As := [.long (u10.2.2.2.2.2.1 p1.toNatClampNeg), .long (u10.2.2.2.2.2.2 p1.toNatClampNeg), .int p2]) (rest := []) ⟨hx, hb, hml, hown, hts⟩ (kX5_partOf l D cI cJ cO N (u10.2.2.2.2.2.1 p1.toNatClampNeg) (u10.2.2.2.2.2.2 p1.toNatClampNeg) p2 u15 e16 H.size) (va_cwS 3 hts gX5_came_X5_partOf rfl rfl rfl (by decide +kernel) ⟨Nat.le_of_ble_eq_true rfl, Nat.le_of_ble_eq_true rfl⟩) (zk_preS (wc := []) hN hK hw [] rfl (by decide)) rfl rfl hl.1 rfl (lv_room (Nat.le_of_ble_eq_true rfl)) dX5_came_63 ⟨Nat.zero_le _, Nat.zero_le _⟩) (fun H locs hw => ?_)
            have hw : Wd D A s.heap (zwM cI cJ aM Mnow Mread Mpast Mchanges Mtext Mletters u8.1 u8.2.1 u8.2.2.1 u8.2.2.2 u10.1 u10.2.1 u10.2.2.1 u10.2.2.2.1 u10.2.2.2.2.1 u10.2.2.2.2.2.1 u10.2.2.2.2.2.2 Mspot Mvalue) H locs := hw
            refine lv_goto (tgt := 72) hx hb dX5_came_66 (by decide) ?_
            cases hf
            exact zk_lret hx hb hr hlocks hQ hw [0, 1, 2, 3, 4, 5, 6, 7, 8, 9, 10, 11] rfl (by decide) dX5_came_72
      · replace hf := zk_t c7 hf
        refine lv_ldc2 hx hb hown hq0 dX5_came_18 ?_
        cases hf
        exact zk_lret hx hb hr hlocks hQ hw [0, 1, 2, 3, 4, 5, 6, 7, 8, 9, 10, 11] rfl (by decide) dX5_came_21
