set_option maxHeartbeats 4000000 in
set_option maxRecDepth 100000 in
theorem kX3_risingSet (l : Launch) (D : va_G) (cI cJ cO : ClassId) (N : Nat) (aT : Nat → Nat) (p0 : Int32) (p1 : Int32) (p2 : Int32) (Tletters : Nat → Int32) (Tlength : Int32) (u : Int32) (hf : fX3_risingSet N p0 p1 p2 Tletters = some u) : CtI l yX3_risingSet wsX3_risingSet (zk_rm 0 0) D cI cJ cO [.ref (aT 0), .int p0, .int p1, .int p2] (zwT cI aT Tletters Tlength) (zwT cI aT Tletters Tlength) (u) := by
  refine zk_enter (cc := cX3_risingSet) (maxL := 8) (ret := some .int) (own := RX3) (Qf := fun A => QwI D (zwT cI aT Tletters Tlength) (u) A) (by decide) rfl rfl (Nat.le_of_ble_eq_true rfl) ?_
  intro p e s m args below meth c A Q H locs ls hC hQ hw hl
  obtain ⟨hx, hb, hml, hr, hts, hown, hlocks, hN, hK, hA⟩ := hC
  have hl : lv_has ls 8 [(0, .ref (aT 0)), (1, .int p0), (2, .int p1), (3, .int p2)] := hl
  have hiX3 : ∀ w ∈ u_ws RX3 TX3 2, w ∈ wsX3_risingSet := by decide +kernel
  have hq0 := hts (.fieldLink RX3 9 "LoadCouncil$Text" "letters" "[I") (by decide +kernel)
  have b9 : ∀ (n9 : Nat), ∀ (x1 : Int32) (x3 : Int32) (x4 : Int32) (x5 : Int32) (x6 : Int32), fX3_risingSet_b9 N n9 x1 x3 x4 x5 x6 Tletters = some u → ∀ (H : Heap) (locs : List Loc) (ls : Array Slot), Wd D A s.heap (zwT cI aT Tletters Tlength) H locs → lv_has ls 8 [(0, .ref (aT 0)), (1, .int x1), (3, .int x3), (4, .int x4), (5, .int x5), (6, .int x6)] → W p l e (zk_rm 0 0) s m args below meth c H locs 0 0 Q (F0 m 9 ls []) := by
    intro n9
    induction n9 with
    | zero =>
      intro x1 x3 x4 x5 x6 hf
      exact zk_none hf
    | succ n9 ih9 =>
      intro x1 x3 x4 x5 x6 hf H locs ls hw hl
      rw [fX3_risingSet_b9] at hf
      refine lv_iload hx hb dX3_risingSet_9 (lv_at hl 5 rfl) ?_
      refine lv_iload_n hx hb dX3_risingSet_11 rfl (lv_at hl 2 rfl) ?_
      refine lv_icmp_ge (tgt := 63) hx hb dX3_risingSet_12 (by decide) (fun c1 => ?_) (fun c1 => ?_)
      · replace hf := zk_t c1 hf
        refine lv_iload hx hb dX3_risingSet_63 (lv_at hl 3 rfl) ?_
        cases hf
        exact zk_iret hx hb hr hlocks rfl hQ hw [0, 1] rfl (by decide) dX3_risingSet_65
      · replace hf := zk_f c1 hf
        refine lv_aload_n hx hb dX3_risingSet_15 rfl (lv_at hl 0 rfl) ?_
        refine va_get (D := D) (ci := 3) (v := .ref (aT 1)) (C := RX3) (T := TX3) (N := 2) hx hb hts hiX3 hown hK hw.1 0 rfl rfl 0 (by decide) hq0 (fun _ h9 => h9) rfl dX3_risingSet_16 ?_
        refine lv_iload hx hb dX3_risingSet_19 (lv_at hl 5 rfl) ?_
        obtain ⟨h2, hf⟩ := zk_ck hf
        refine zk_iald hx hb hK hw 1 rfl h2 (j := x6.toNatClampNeg) rfl dX3_risingSet_21 ?_
        refine lv_bipush (v := 97) hx hb dX3_risingSet_22 (by decide) ?_
        refine lv_isub hx hb dX3_risingSet_24 ?_
        refine lv_istore (lv' := [(7, .int ((Tletters x6.toNatClampNeg) - (97 : Int32))), (0, .ref (aT 0)), (1, .int x1), (3, .int x3), (4, .int x4), (5, .int x5), (6, .int x6)]) hx hb dX3_risingSet_25 hl (by decide) rfl (fun ls hl => ?_)
        refine lv_iload hx hb dX3_risingSet_27 (lv_at hl 0 rfl) ?_
        refine lv_iload hx hb dX3_risingSet_29 (lv_at hl 5 rfl) ?_
        refine lv_icmp_lt (tgt := 40) hx hb dX3_risingSet_31 (by decide) (fun c3 => ?_) (fun c3 => ?_)
        · replace hf := zk_t c3 hf
          refine lv_iconst (v := 0) hx hb dX3_risingSet_40 (by decide) ?_
          cases hf
          exact zk_iret hx hb hr hlocks rfl hQ hw [0, 1] rfl (by decide) dX3_risingSet_41
        · replace hf := zk_f c3 hf
          refine lv_iload hx hb dX3_risingSet_34 (lv_at hl 0 rfl) ?_
          refine lv_iload_n hx hb dX3_risingSet_36 rfl (lv_at hl 2 rfl) ?_
          refine lv_icmp_lt (tgt := 42) hx hb dX3_risingSet_37 (by decide) (fun c4 => ?_) (fun c4 => ?_)
          · replace hf := zk_t c4 hf
            refine lv_iload hx hb dX3_risingSet_42 (lv_at hl 4 rfl) ?_
            refine lv_iconst (v := 1) hx hb dX3_risingSet_44 (by decide) ?_
            refine lv_iload hx hb dX3_risingSet_45 (lv_at hl 0 rfl) ?_
            refine lv_ishl hx hb dX3_risingSet_47 ?_
            refine lv_ior hx hb dX3_risingSet_48 ?_
            refine lv_istore (lv' := [(4, .int (x4 ||| ((1 : Int32) <<< (((Tletters x6.toNatClampNeg) - (97 : Int32)) &&& 31)))), (7, .int ((Tletters x6.toNatClampNeg) - (97 : Int32))), (0, .ref (aT 0)), (1, .int x1), (3, .int x3), (5, .int x5), (6, .int x6)]) hx hb dX3_risingSet_49 hl (by decide) rfl (fun ls hl => ?_)
            refine lv_iload hx hb dX3_risingSet_51 (lv_at hl 1 rfl) ?_
            refine lv_iconst (v := 1) hx hb dX3_risingSet_53 (by decide) ?_
            refine lv_iadd hx hb dX3_risingSet_54 ?_
            refine lv_istore (lv' := [(5, .int (((Tletters x6.toNatClampNeg) - (97 : Int32)) + (1 : Int32))), (4, .int (x4 ||| ((1 : Int32) <<< (((Tletters x6.toNatClampNeg) - (97 : Int32)) &&& 31)))), (7, .int ((Tletters x6.toNatClampNeg) - (97 : Int32))), (0, .ref (aT 0)), (1, .int x1), (3, .int x3), (6, .int x6)]) hx hb dX3_risingSet_55 hl (by decide) rfl (fun ls hl => ?_)
            refine lv_iinc (v := (x6 + (1 : Int32))) (lv' := [(6, .int (x6 + (1 : Int32))), (5, .int (((Tletters x6.toNatClampNeg) - (97 : Int32)) + (1 : Int32))), (4, .int (x4 ||| ((1 : Int32) <<< (((Tletters x6.toNatClampNeg) - (97 : Int32)) &&& 31)))), (7, .int ((Tletters x6.toNatClampNeg) - (97 : Int32))), (0, .ref (aT 0)), (1, .int x1), (3, .int x3)]) hx hb dX3_risingSet_57 hl (k := 6) rfl rfl (by decide) rfl (fun ls hl => ?_)
            refine lv_goto (tgt := 9) hx hb dX3_risingSet_60 (by decide) ?_
            exact ih9 x1 x3 (x4 ||| ((1 : Int32) <<< (((Tletters x6.toNatClampNeg) - (97 : Int32)) &&& 31))) (((Tletters x6.toNatClampNeg) - (97 : Int32)) + (1 : Int32)) (x6 + (1 : Int32)) hf H locs ls hw (lv_sub hl [4, 5, 6, 2, 1, 0] rfl)
          · replace hf := zk_f c4 hf
            refine lv_iconst (v := 0) hx hb dX3_risingSet_40 (by decide) ?_
            cases hf
            exact zk_iret hx hb hr hlocks rfl hQ hw [0, 1] rfl (by decide) dX3_risingSet_41
  unfold fX3_risingSet at hf
  refine lv_iconst (v := 0) hx hb dX3_risingSet_0 (by decide) ?_
  refine lv_istore (lv' := [(4, .int (0 : Int32)), (0, .ref (aT 0)), (1, .int p0), (2, .int p1), (3, .int p2)]) hx hb dX3_risingSet_1 hl (by decide) rfl (fun ls hl => ?_)
  refine lv_iconst (v := 0) hx hb dX3_risingSet_3 (by decide) ?_
  refine lv_istore (lv' := [(5, .int (0 : Int32)), (4, .int (0 : Int32)), (0, .ref (aT 0)), (1, .int p0), (2, .int p1), (3, .int p2)]) hx hb dX3_risingSet_4 hl (by decide) rfl (fun ls hl => ?_)
  refine lv_iload_n hx hb dX3_risingSet_6 rfl (lv_at hl 4 rfl) ?_
  refine lv_istore (lv' := [(6, .int p1), (5, .int (0 : Int32)), (4, .int (0 : Int32)), (0, .ref (aT 0)), (1, .int p0), (2, .int p1), (3, .int p2)]) hx hb dX3_risingSet_7 hl (by decide) rfl (fun ls hl => ?_)
  exact b9 N p0 p2 (0 : Int32) (0 : Int32) p1 hf H locs ls hw (lv_sub hl [3, 4, 6, 2, 1, 0] rfl)
set_option maxHeartbeats 4000000 in
set_option maxRecDepth 100000 in
theorem kX4_isVoters (l : Launch) (D : va_G) (cI cJ cO : ClassId) (N : Nat) (p0 : Int32) (u : Int32) (hf : fX4_isVoters N p0 = some u) : CtI l yX4_isVoters wsX4_isVoters (zk_rm 0 0) D cI cJ cO [.int p0] ([]) ([]) (u) := by
  refine zk_enter (cc := cX4_isVoters) (maxL := 1) (ret := some .boolean) (own := RX4) (Qf := fun A => QwI D ([]) (u) A) (by decide) rfl rfl (Nat.le_of_ble_eq_true rfl) ?_
  intro p e s m args below meth c A Q H locs ls hC hQ hw hl
  obtain ⟨hx, hb, hml, hr, hts, hown, hlocks, hN, hK, hA⟩ := hC
  have hl : lv_has ls 1 [(0, .int p0)] := hl
  unfold fX4_isVoters at hf
  refine lv_iload_n hx hb dX4_isVoters_0 rfl (lv_at hl 0 rfl) ?_
  refine lv_iconst (v := 1) hx hb dX4_isVoters_1 (by decide) ?_
  refine lv_icmp_lt (tgt := 15) hx hb dX4_isVoters_2 (by decide) (fun c1 => ?_) (fun c1 => ?_)
  · replace hf := zk_t c1 hf
    refine lv_iconst (v := 0) hx hb dX4_isVoters_15 (by decide) ?_
    cases hf
    exact zk_iret hx hb hr hlocks rfl hQ hw [] rfl (by decide) dX4_isVoters_16
  · replace hf := zk_f c1 hf
    refine lv_iload_n hx hb dX4_isVoters_5 rfl (lv_at hl 0 rfl) ?_
    refine lv_bipush (v := 20) hx hb dX4_isVoters_6 (by decide) ?_
    refine lv_icmp_gt (tgt := 15) hx hb dX4_isVoters_8 (by decide) (fun c2 => ?_) (fun c2 => ?_)
    · replace hf := zk_t c2 hf
      refine lv_iconst (v := 0) hx hb dX4_isVoters_15 (by decide) ?_
      cases hf
      exact zk_iret hx hb hr hlocks rfl hQ hw [] rfl (by decide) dX4_isVoters_16
    · replace hf := zk_f c2 hf
      refine lv_iconst (v := 1) hx hb dX4_isVoters_11 (by decide) ?_
      refine lv_goto (tgt := 16) hx hb dX4_isVoters_12 (by decide) ?_
      cases hf
      exact zk_iret hx hb hr hlocks rfl hQ hw [] rfl (by decide) dX4_isVoters_16
set_option maxHeartbeats 4000000 in
set_option maxRecDepth 100000 in
theorem kX3_readBallot (l : Launch) (D : va_G) (cI cJ cO : ClassId) (N : Nat) (aT aC : Nat → Nat) (p1 : Int32) (p2 : Int32) (Tletters : Nat → Int32) (Tlength : Int32) (Ccandidates : Int32) (Cballots : Int32) (Cseats : Int32) (Cwithdrawn : Int32) (Cvoters : Nat → Int32) (Csets : Nat → Int32) (Crank : Nat → Int32) (u : Int32 × (Int32) × (Nat → Int32) × (Nat → Int32)) (hf : fX3_readBallot N p1 p2 Tletters Ccandidates Cballots Cvoters Csets = some u) : CtI l yX3_readBallot wsX3_readBallot (zk_rm 3 65) D cI cJ cO [.ref (aT 0), .ref (aC 0), .int p1, .int p2] (zwT cI aT Tletters Tlength ++ (zwC cI aC Ccandidates Cballots Cseats Cwithdrawn Cvoters Csets Crank)) (zwT cI aT Tletters Tlength ++ (zwC cI aC Ccandidates u.2.1 Cseats Cwithdrawn u.2.2.1 u.2.2.2 Crank)) (u.1) := by
  refine zk_enter (cc := cX3_readBallot) (maxL := 7) (ret := some .boolean) (own := RX3) (Qf := fun A => QwI D (zwT cI aT Tletters Tlength ++ (zwC cI aC Ccandidates u.2.1 Cseats Cwithdrawn u.2.2.1 u.2.2.2 Crank)) (u.1) A) (by decide) rfl rfl (Nat.le_of_ble_eq_true rfl) ?_
  intro p e s m args below meth c A Q H locs ls hC hQ hw hl
  obtain ⟨hx, hb, hml, hr, hts, hown, hlocks, hN, hK, hA⟩ := hC
  have hl : lv_has ls 7 [(0, .ref (aT 0)), (1, .ref (aC 0)), (2, .int p1), (3, .int p2)] := hl
  have hiX0 : ∀ w ∈ u_ws RX0 TX0 7, w ∈ wsX3_readBallot := by decide +kernel
  have hiX3 : ∀ w ∈ u_ws RX3 TX3 2, w ∈ wsX3_readBallot := by decide +kernel
  have hq0 := hts (.initialized RX4) (by decide +kernel)
  have hq1 := hts (.static yX4_isVoters) (by decide +kernel)
  have hq2 := hts (.initialized RX0) (by decide +kernel)
  have hq3 := hts (.instanceMethod yX0_allVoters) (by decide +kernel)
  have hq4 := hts (.selects RX0 yX0_allVoters yX0_allVoters) (by decide +kernel)
  have hq5 := hts (.instanceMethod yX0_addBallot) (by decide +kernel)
  have hq6 := hts (.selects RX0 yX0_addBallot yX0_addBallot) (by decide +kernel)
  have hq7 := hts (.fieldLink RX3 9 "LoadCouncil$Text" "letters" "[I") (by decide +kernel)
  have b27 : ∀ (x2 : Int32) (x3 : Int32) (x4 : Int32) (Cballots : Int32) (Cvoters : Nat → Int32) (Csets : Nat → Int32), fX3_readBallot_b27 N x2 x3 x4 Tletters Ccandidates Cballots Cvoters Csets = some u → ∀ (H : Heap) (locs : List Loc) (ls : Array Slot), Wd D A s.heap (zwT cI aT Tletters Tlength ++ (zwC cI aC Ccandidates Cballots Cseats Cwithdrawn Cvoters Csets Crank)) H locs → lv_has ls 7 [(0, .ref (aT 0)), (1, .ref (aC 0)), (2, .int x2), (3, .int x3), (4, .int x4)] → W p l e (zk_rm 3 65) s m args below meth c H locs 0 0 Q (F0 m 27 ls []) := by
    intro x2 x3 x4 Cballots Cvoters Csets hf H locs ls hw hl
    unfold fX3_readBallot_b27 at hf
    refine lv_aload_n hx hb dX3_readBallot_27 rfl (lv_at hl 0 rfl) ?_
    refine lv_iload_n hx hb dX3_readBallot_28 rfl (lv_at hl 2 rfl) ?_
    refine lv_iload hx hb dX3_readBallot_29 (lv_at hl 4 rfl) ?_
    obtain ⟨u1, e2, hf⟩ := zk_bd hf
    refine zk_calli (wc := zwT cI aT Tletters Tlength) (wr := zwC cI aC Ccandidates Cballots Cseats Cwithdrawn Cvoters Csets Crank) hw hA [0, 1] [2, 3, 4, 5] rfl rfl (by decide) (by decide) (va_runV (C := RX3) (As := [.int x2, .int x4]) (rest := []) ⟨hx, hb, hml, hown, hts⟩ (kX3_number l D cI cJ cO N aT x2 x4 Tletters Tlength u1 e2 H.size) (cwV 2 hts gX3_readBallot_X3_number rfl rfl rfl (by decide +kernel) ⟨Nat.le_of_ble_eq_true rfl, Nat.le_of_ble_eq_true rfl⟩) (zk_preV (wc := zwT cI aT Tletters Tlength) hN hK hw [0, 1] rfl (by decide) 0 3 rfl rfl) rfl rfl hl.1 rfl (lv_room (Nat.le_of_ble_eq_true rfl)) dX3_readBallot_31 ⟨Nat.zero_le _, Nat.zero_le _⟩) (fun H locs hw => ?_)
    have hw : Wd D A s.heap (zwC cI aC Ccandidates Cballots Cseats Cwithdrawn Cvoters Csets Crank ++ (zwT cI aT Tletters Tlength)) H locs := hw
    refine lv_istore (lv' := [(5, .int u1), (0, .ref (aT 0)), (1, .ref (aC 0)), (2, .int x2), (3, .int x3), (4, .int x4)]) hx hb dX3_readBallot_34 hl (by decide) rfl (fun ls hl => ?_)
    refine lv_aload_n hx hb dX3_readBallot_36 rfl (lv_at hl 1 rfl) ?_
    refine lv_aload_n hx hb dX3_readBallot_37 rfl (lv_at hl 2 rfl) ?_
    refine va_getN (D := D) (ci := 0) (v := .int Ccandidates) (C := RX0) (T := TX0) (N := 7) hx hb hts hiX0 hown hK hw.1 0 rfl rfl 0 (by decide) (va_Nw.use rfl (nwF_X3_32 hN)) (fun _ h9 => h9) rfl dX3_readBallot_38 ?_
    refine lv_iload hx hb dX3_readBallot_41 (lv_at hl 5 rfl) ?_
    refine lv_iconst (v := 1) hx hb dX3_readBallot_43 (by decide) ?_
    refine lv_iadd hx hb dX3_readBallot_44 ?_
    refine lv_iload_n hx hb dX3_readBallot_45 rfl (lv_at hl 4 rfl) ?_
    obtain ⟨u3, e4, hf⟩ := zk_bd hf
    refine zk_calli (wc := zwT cI aT Tletters Tlength) (wr := zwC cI aC Ccandidates Cballots Cseats Cwithdrawn Cvoters Csets Crank) hw hA [4, 5] [0, 1, 2, 3] rfl rfl (by decide) (by decide) (va_runV (C := RX3) (As := [.int Ccandidates, .int (x4 + (1 : Int32)), .int x3]) (rest := []) ⟨hx, hb, hml, hown, hts⟩ (kX3_risingSet l D cI cJ cO N aT Ccandidates (x4 + (1 : Int32)) x3 Tletters Tlength u3 e4 H.size) (cwV 3 hts gX3_readBallot_X3_risingSet rfl rfl rfl (by decide +kernel) ⟨Nat.le_of_ble_eq_true rfl, Nat.le_of_ble_eq_true rfl⟩) (zk_preV (wc := zwT cI aT Tletters Tlength) hN hK hw [4, 5] rfl (by decide) 4 3 rfl rfl) rfl rfl hl.1 rfl (lv_room (Nat.le_of_ble_eq_true rfl)) dX3_readBallot_46 ⟨Nat.zero_le _, Nat.zero_le _⟩) (fun H locs hw => ?_)
    have hw : Wd D A s.heap (zwC cI aC Ccandidates Cballots Cseats Cwithdrawn Cvoters Csets Crank ++ (zwT cI aT Tletters Tlength)) H locs := hw
    refine lv_istore (lv' := [(6, .int u3), (5, .int u1), (0, .ref (aT 0)), (1, .ref (aC 0)), (2, .int x2), (3, .int x3), (4, .int x4)]) hx hb dX3_readBallot_49 hl (by decide) rfl (fun ls hl => ?_)
    refine lv_iload hx hb dX3_readBallot_51 (lv_at hl 1 rfl) ?_
    obtain ⟨u5, e6, hf⟩ := zk_bd hf
    refine zk_calli (wc := []) (wr := zwC cI aC Ccandidates Cballots Cseats Cwithdrawn Cvoters Csets Crank ++ (zwT cI aT Tletters Tlength)) hw hA [] [0, 1, 2, 3, 4, 5] rfl rfl (by decide) (by decide) (va_runSN (As := [.int u1]) (rest := []) ⟨hx, hb, hml, hown, hts⟩ (kX4_isVoters l D cI cJ cO N u1 u5 e6 H.size) ⟨va_cnB 1 hts ggX3_readBallot_X4_isVoters rfl rfl rfl (nwM_X3_52 hN) hq0 (by decide +kernel) ⟨Nat.le_of_ble_eq_true rfl, Nat.le_of_ble_eq_true rfl⟩, hq1, trivial⟩ (zk_preS (wc := []) hN hK hw [] rfl (by decide)) rfl rfl hl.1 rfl (lv_room (Nat.le_of_ble_eq_true rfl)) dX3_readBallot_53 ⟨Nat.zero_le _, Nat.zero_le _⟩) (fun H locs hw => ?_)
    have hw : Wd D A s.heap (zwC cI aC Ccandidates Cballots Cseats Cwithdrawn Cvoters Csets Crank ++ (zwT cI aT Tletters Tlength)) H locs := hw
    refine lv_if_eq (tgt := 85) hx hb dX3_readBallot_56 (by decide) (fun c7 => ?_) (fun c7 => ?_)
    · replace hf := zk_t c7 hf
      refine lv_iconst (v := 0) hx hb dX3_readBallot_85 (by decide) ?_
      cases hf
      exact zk_iret hx hb hr hlocks rfl hQ hw [4, 5, 0, 1, 2, 3] rfl (by decide) dX3_readBallot_86
    · replace hf := zk_f c7 hf
      refine lv_iload hx hb dX3_readBallot_59 (lv_at hl 0 rfl) ?_
      refine lv_if_eq (tgt := 85) hx hb dX3_readBallot_61 (by decide) (fun c8 => ?_) (fun c8 => ?_)
      · replace hf := zk_t c8 hf
        refine lv_iconst (v := 0) hx hb dX3_readBallot_85 (by decide) ?_
        cases hf
        exact zk_iret hx hb hr hlocks rfl hQ hw [4, 5, 0, 1, 2, 3] rfl (by decide) dX3_readBallot_86
      · replace hf := zk_f c8 hf
        refine lv_aload_n hx hb dX3_readBallot_64 rfl (lv_at hl 3 rfl) ?_
        refine va_getN (D := D) (ci := 0) (v := .int Cballots) (C := RX0) (T := TX0) (N := 7) hx hb hts hiX0 hown hK hw.1 0 rfl rfl 1 (by decide) (va_Nw.use rfl (nwF_X3_56 hN)) (fun _ h9 => h9) rfl dX3_readBallot_65 ?_
        refine lv_bipush (v := 10) hx hb dX3_readBallot_68 (by decide) ?_
        refine lv_icmp_ge (tgt := 85) hx hb dX3_readBallot_70 (by decide) (fun c9 => ?_) (fun c9 => ?_)
        · replace hf := zk_t c9 hf
          refine lv_iconst (v := 0) hx hb dX3_readBallot_85 (by decide) ?_
          cases hf
          exact zk_iret hx hb hr hlocks rfl hQ hw [4, 5, 0, 1, 2, 3] rfl (by decide) dX3_readBallot_86
        · replace hf := zk_f c9 hf
          refine lv_aload_n hx hb dX3_readBallot_73 rfl (lv_at hl 3 rfl) ?_
          obtain ⟨u10, e11, hf⟩ := zk_bd hf
          refine zk_calli (wc := zwC cI aC Ccandidates Cballots Cseats Cwithdrawn Cvoters Csets Crank) (wr := zwT cI aT Tletters Tlength) hw hA [0, 1, 2, 3] [4, 5] rfl rfl (by decide) (by decide) (va_runVN (C := RX0) (As := []) (rest := []) ⟨hx, hb, hml, hown, hts⟩ (kX0_allVoters l D cI cJ cO N aC Ccandidates Cballots Cseats Cwithdrawn Cvoters Csets Crank u10 e11 H.size) ⟨va_cnB 0 hts ggX3_readBallot_X0_allVoters rfl rfl rfl (nwM_X3_59 hN) hq2 (by decide +kernel) ⟨Nat.le_of_ble_eq_true rfl, Nat.le_of_ble_eq_true rfl⟩, hq3, hq4⟩ (zk_preV (wc := zwC cI aC Ccandidates Cballots Cseats Cwithdrawn Cvoters Csets Crank) hN hK hw [0, 1, 2, 3] rfl (by decide) 0 0 rfl rfl) rfl rfl hl.1 rfl (lv_room (Nat.le_of_ble_eq_true rfl)) dX3_readBallot_74 ⟨Nat.zero_le _, Nat.zero_le _⟩) (fun H locs hw => ?_)
          have hw : Wd D A s.heap (zwT cI aT Tletters Tlength ++ (zwC cI aC Ccandidates Cballots Cseats Cwithdrawn Cvoters Csets Crank)) H locs := hw
          refine lv_iload hx hb dX3_readBallot_77 (lv_at hl 1 rfl) ?_
          refine lv_iadd hx hb dX3_readBallot_79 ?_
          refine lv_bipush (v := 40) hx hb dX3_readBallot_80 (by decide) ?_
          refine lv_icmp_le (tgt := 87) hx hb dX3_readBallot_82 (by decide) (fun c12 => ?_) (fun c12 => ?_)
          · replace hf := zk_t c12 hf
            refine lv_aload_n hx hb dX3_readBallot_87 rfl (lv_at hl 3 rfl) ?_
            refine lv_iload hx hb dX3_readBallot_88 (lv_at hl 1 rfl) ?_
            refine lv_iload hx hb dX3_readBallot_90 (lv_at hl 0 rfl) ?_
            obtain ⟨u13, e14, hf⟩ := zk_bd hf
            refine zk_callv (wc := zwC cI aC Ccandidates Cballots Cseats Cwithdrawn Cvoters Csets Crank) (wr := zwT cI aT Tletters Tlength) hw hA [2, 3, 4, 5] [0, 1] rfl rfl (by decide) (by decide) (va_runVN (C := RX0) (As := [.int u1, .int u3]) (rest := []) ⟨hx, hb, hml, hown, hts⟩ (kX0_addBallot l D cI cJ cO N aC u1 u3 Ccandidates Cballots Cseats Cwithdrawn Cvoters Csets Crank u13 e14 H.size) ⟨va_cnB 2 hts ggX3_readBallot_X0_addBallot rfl rfl rfl (nwM_X3_63 hN) hq2 (by decide +kernel) ⟨Nat.le_of_ble_eq_true rfl, Nat.le_of_ble_eq_true rfl⟩, hq5, hq6⟩ (zk_preV (wc := zwC cI aC Ccandidates Cballots Cseats Cwithdrawn Cvoters Csets Crank) hN hK hw [2, 3, 4, 5] rfl (by decide) 2 0 rfl rfl) rfl rfl hl.1 rfl (lv_room (Nat.le_of_ble_eq_true rfl)) dX3_readBallot_92 ⟨Nat.zero_le _, Nat.zero_le _⟩) (fun H locs hw => ?_)
            have hw : Wd D A s.heap (zwT cI aT Tletters Tlength ++ (zwC cI aC Ccandidates u13.1 Cseats Cwithdrawn u13.2.1 u13.2.2 Crank)) H locs := hw
            refine lv_iconst (v := 1) hx hb dX3_readBallot_95 (by decide) ?_
            cases hf
            exact zk_iret hx hb hr hlocks rfl hQ hw [0, 1, 2, 3, 4, 5] rfl (by decide) dX3_readBallot_96
          · replace hf := zk_f c12 hf
            refine lv_iconst (v := 0) hx hb dX3_readBallot_85 (by decide) ?_
            cases hf
            exact zk_iret hx hb hr hlocks rfl hQ hw [0, 1, 2, 3, 4, 5] rfl (by decide) dX3_readBallot_86
  have b3 : ∀ (n3 : Nat), ∀ (x2 : Int32) (x3 : Int32) (x4 : Int32) (Cballots : Int32) (Cvoters : Nat → Int32) (Csets : Nat → Int32), fX3_readBallot_b3 N n3 x2 x3 x4 Tletters Ccandidates Cballots Cvoters Csets = some u → ∀ (H : Heap) (locs : List Loc) (ls : Array Slot), Wd D A s.heap (zwT cI aT Tletters Tlength ++ (zwC cI aC Ccandidates Cballots Cseats Cwithdrawn Cvoters Csets Crank)) H locs → lv_has ls 7 [(0, .ref (aT 0)), (1, .ref (aC 0)), (2, .int x2), (3, .int x3), (4, .int x4)] → W p l e (zk_rm 3 65) s m args below meth c H locs 0 0 Q (F0 m 3 ls []) := by
    intro n3
    induction n3 with
    | zero =>
      intro x2 x3 x4 Cballots Cvoters Csets hf
      exact zk_none hf
    | succ n3 ih3 =>
      intro x2 x3 x4 Cballots Cvoters Csets hf H locs ls hw hl
      rw [fX3_readBallot_b3] at hf
      refine lv_iload hx hb dX3_readBallot_3 (lv_at hl 4 rfl) ?_
      refine lv_iload_n hx hb dX3_readBallot_5 rfl (lv_at hl 3 rfl) ?_
      refine lv_icmp_ge (tgt := 27) hx hb dX3_readBallot_6 (by decide) (fun c15 => ?_) (fun c15 => ?_)
      · replace hf := zk_t c15 hf
        exact b27 x2 x3 x4 Cballots Cvoters Csets hf H locs ls hw (lv_sub hl [0, 1, 2, 3, 4] rfl)
      · replace hf := zk_f c15 hf
        refine lv_aload_n hx hb dX3_readBallot_9 rfl (lv_at hl 0 rfl) ?_
        refine va_get (D := D) (ci := 3) (v := .ref (aT 1)) (C := RX3) (T := TX3) (N := 2) hx hb hts hiX3 hown hK hw.1 0 rfl rfl 0 (by decide) hq7 (fun _ h9 => h9) rfl dX3_readBallot_10 ?_
        refine lv_iload hx hb dX3_readBallot_13 (lv_at hl 4 rfl) ?_
        obtain ⟨h16, hf⟩ := zk_ck hf
        refine zk_iald hx hb hK hw 1 rfl h16 (j := x4.toNatClampNeg) rfl dX3_readBallot_15 ?_
        refine lv_bipush (v := 44) hx hb dX3_readBallot_16 (by decide) ?_
        refine lv_icmp_eq (tgt := 27) hx hb dX3_readBallot_18 (by decide) (fun c17 => ?_) (fun c17 => ?_)
        · replace hf := zk_t c17 hf
          exact b27 x2 x3 x4 Cballots Cvoters Csets hf H locs ls hw (lv_sub hl [0, 1, 2, 3, 4] rfl)
        · replace hf := zk_f c17 hf
          refine lv_iinc (v := (x4 + (1 : Int32))) (lv' := [(4, .int (x4 + (1 : Int32))), (0, .ref (aT 0)), (1, .ref (aC 0)), (2, .int x2), (3, .int x3)]) hx hb dX3_readBallot_21 hl (k := 4) rfl rfl (by decide) rfl (fun ls hl => ?_)
          refine lv_goto (tgt := 3) hx hb dX3_readBallot_24 (by decide) ?_
          exact ih3 x2 x3 (x4 + (1 : Int32)) Cballots Cvoters Csets hf H locs ls hw (lv_sub hl [1, 2, 3, 4, 0] rfl)
  unfold fX3_readBallot at hf
  refine lv_iload_n hx hb dX3_readBallot_0 rfl (lv_at hl 2 rfl) ?_
  refine lv_istore (lv' := [(4, .int p1), (0, .ref (aT 0)), (1, .ref (aC 0)), (2, .int p1), (3, .int p2)]) hx hb dX3_readBallot_1 hl (by decide) rfl (fun ls hl => ?_)
  exact b3 N p1 p2 p1 Cballots Cvoters Csets hf H locs ls hw (lv_sub hl [1, 2, 3, 4, 0] rfl)
set_option maxHeartbeats 4000000 in
set_option maxRecDepth 100000 in
theorem kX3_readSeats (l : Launch) (D : va_G) (cI cJ cO : ClassId) (N : Nat) (aT aC : Nat → Nat) (p1 : Int32) (p2 : Int32) (Tletters : Nat → Int32) (Tlength : Int32) (Ccandidates : Int32) (Cballots : Int32) (Cseats : Int32) (Cwithdrawn : Int32) (Cvoters : Nat → Int32) (Csets : Nat → Int32) (Crank : Nat → Int32) (u : Int32 × (Int32)) (hf : fX3_readSeats N p1 p2 Tletters Cseats = some u) : CtI l yX3_readSeats wsX3_readSeats (zk_rm 1 25) D cI cJ cO [.ref (aT 0), .ref (aC 0), .int p1, .int p2] (zwT cI aT Tletters Tlength ++ (zwC cI aC Ccandidates Cballots Cseats Cwithdrawn Cvoters Csets Crank)) (zwT cI aT Tletters Tlength ++ (zwC cI aC Ccandidates Cballots u.2 Cwithdrawn Cvoters Csets Crank)) (u.1) := by
  refine zk_enter (cc := cX3_readSeats) (maxL := 5) (ret := some .boolean) (own := RX3) (Qf := fun A => QwI D (zwT cI aT Tletters Tlength ++ (zwC cI aC Ccandidates Cballots u.2 Cwithdrawn Cvoters Csets Crank)) (u.1) A) (by decide) rfl rfl (Nat.le_of_ble_eq_true rfl) ?_
  intro p e s m args below meth c A Q H locs ls hC hQ hw hl
  obtain ⟨hx, hb, hml, hr, hts, hown, hlocks, hN, hK, hA⟩ := hC
  have hl : lv_has ls 5 [(0, .ref (aT 0)), (1, .ref (aC 0)), (2, .int p1), (3, .int p2)] := hl
  have hiX0 : ∀ w ∈ u_ws RX0 TX0 7, w ∈ wsX3_readSeats := by decide +kernel
  unfold fX3_readSeats at hf
  refine lv_aload_n hx hb dX3_readSeats_0 rfl (lv_at hl 0 rfl) ?_
  refine lv_iload_n hx hb dX3_readSeats_1 rfl (lv_at hl 2 rfl) ?_
  refine lv_iload_n hx hb dX3_readSeats_2 rfl (lv_at hl 3 rfl) ?_
  obtain ⟨u1, e2, hf⟩ := zk_bd hf
  refine zk_calli (wc := zwT cI aT Tletters Tlength) (wr := zwC cI aC Ccandidates Cballots Cseats Cwithdrawn Cvoters Csets Crank) hw hA [0, 1] [2, 3, 4, 5] rfl rfl (by decide) (by decide) (va_runV (C := RX3) (As := [.int p1, .int p2]) (rest := []) ⟨hx, hb, hml, hown, hts⟩ (kX3_number l D cI cJ cO N aT p1 p2 Tletters Tlength u1 e2 H.size) (cwV 2 hts gX3_readSeats_X3_number rfl rfl rfl (by decide +kernel) ⟨Nat.le_of_ble_eq_true rfl, Nat.le_of_ble_eq_true rfl⟩) (zk_preV (wc := zwT cI aT Tletters Tlength) hN hK hw [0, 1] rfl (by decide) 0 3 rfl rfl) rfl rfl hl.1 rfl (lv_room (Nat.le_of_ble_eq_true rfl)) dX3_readSeats_3 ⟨Nat.zero_le _, Nat.zero_le _⟩) (fun H locs hw => ?_)
  have hw : Wd D A s.heap (zwC cI aC Ccandidates Cballots Cseats Cwithdrawn Cvoters Csets Crank ++ (zwT cI aT Tletters Tlength)) H locs := hw
  refine lv_istore (lv' := [(4, .int u1), (0, .ref (aT 0)), (1, .ref (aC 0)), (2, .int p1), (3, .int p2)]) hx hb dX3_readSeats_6 hl (by decide) rfl (fun ls hl => ?_)
  refine lv_iload hx hb dX3_readSeats_8 (lv_at hl 0 rfl) ?_
  refine lv_iconst (v := 1) hx hb dX3_readSeats_10 (by decide) ?_
  refine lv_icmp_lt (tgt := 21) hx hb dX3_readSeats_11 (by decide) (fun c3 => ?_) (fun c3 => ?_)
  · replace hf := zk_t c3 hf
    refine lv_iconst (v := 0) hx hb dX3_readSeats_21 (by decide) ?_
    cases hf
    exact zk_iret hx hb hr hlocks rfl hQ hw [4, 5, 0, 1, 2, 3] rfl (by decide) dX3_readSeats_22
  · replace hf := zk_f c3 hf
    refine lv_iload hx hb dX3_readSeats_14 (lv_at hl 0 rfl) ?_
    refine lv_bipush (v := 8) hx hb dX3_readSeats_16 (by decide) ?_
    refine lv_icmp_le (tgt := 23) hx hb dX3_readSeats_18 (by decide) (fun c4 => ?_) (fun c4 => ?_)
    · replace hf := zk_t c4 hf
      refine lv_aload_n hx hb dX3_readSeats_23 rfl (lv_at hl 2 rfl) ?_
      refine lv_iload hx hb dX3_readSeats_24 (lv_at hl 0 rfl) ?_
      refine va_putN (D := D) (ci := 0) (v := .int u1) (C := RX0) (T := TX0) (N := 7) hx hb hts hiX0 tyX0 tyX0_ok nmX0 hown hK hw.1 hw.2.1 hw.2.2 0 rfl rfl 2 (by decide) (va_Nw.use rfl (nwF_X3_67 hN)) (fun _ h9 => h9) rfl (tyX0_ok 2 (by decide)) rfl rfl (Nat.le_of_ble_eq_true rfl) dX3_readSeats_26 (fun H locs hP hD hS => ?_)
      have hw : Wd D A s.heap (zwC cI aC Ccandidates Cballots u1 Cwithdrawn Cvoters Csets Crank ++ (zwT cI aT Tletters Tlength)) H locs := ⟨hP, hD, hS⟩
      clear hP hD hS
      refine lv_iconst (v := 1) hx hb dX3_readSeats_29 (by decide) ?_
      cases hf
      exact zk_iret hx hb hr hlocks rfl hQ hw [4, 5, 0, 1, 2, 3] rfl (by decide) dX3_readSeats_30
    · replace hf := zk_f c4 hf
      refine lv_iconst (v := 0) hx hb dX3_readSeats_21 (by decide) ?_
      cases hf
      exact zk_iret hx hb hr hlocks rfl hQ hw [4, 5, 0, 1, 2, 3] rfl (by decide) dX3_readSeats_22
set_option maxHeartbeats 4000000 in
set_option maxRecDepth 100000 in
theorem kX3_readRank (l : Launch) (D : va_G) (cI cJ cO : ClassId) (N : Nat) (aT aC : Nat → Nat) (p1 : Int32) (p2 : Int32) (Tletters : Nat → Int32) (Tlength : Int32) (Ccandidates : Int32) (Cballots : Int32) (Cseats : Int32) (Cwithdrawn : Int32) (Cvoters : Nat → Int32) (Csets : Nat → Int32) (Crank : Nat → Int32) (u : Int32 × (Nat → Int32)) (hf : fX3_readRank N p1 p2 Tletters Ccandidates Crank = some u) : CtI l yX3_readRank wsX3_readRank (zk_rm 1 21) D cI cJ cO [.ref (aT 0), .ref (aC 0), .int p1, .int p2] (zwT cI aT Tletters Tlength ++ (zwC cI aC Ccandidates Cballots Cseats Cwithdrawn Cvoters Csets Crank)) (zwT cI aT Tletters Tlength ++ (zwC cI aC Ccandidates Cballots Cseats Cwithdrawn Cvoters Csets u.2)) (u.1) := by
  refine zk_enter (cc := cX3_readRank) (maxL := 7) (ret := some .boolean) (own := RX3) (Qf := fun A => QwI D (zwT cI aT Tletters Tlength ++ (zwC cI aC Ccandidates Cballots Cseats Cwithdrawn Cvoters Csets u.2)) (u.1) A) (by decide) rfl rfl (Nat.le_of_ble_eq_true rfl) ?_
  intro p e s m args below meth c A Q H locs ls hC hQ hw hl
  obtain ⟨hx, hb, hml, hr, hts, hown, hlocks, hN, hK, hA⟩ := hC
  have hl : lv_has ls 7 [(0, .ref (aT 0)), (1, .ref (aC 0)), (2, .int p1), (3, .int p2)] := hl
  have hiX0 : ∀ w ∈ u_ws RX0 TX0 7, w ∈ wsX3_readRank := by decide +kernel
  have hiX3 : ∀ w ∈ u_ws RX3 TX3 2, w ∈ wsX3_readRank := by decide +kernel
  have hq0 := hts (.fieldLink RX3 9 "LoadCouncil$Text" "letters" "[I") (by decide +kernel)
  have hq1 := hts (.initialized RX4) (by decide +kernel)
  have hq2 := hts (.static yX4_hasBit) (by decide +kernel)
  have b18 : ∀ (n18 : Nat), ∀ (x2 : Int32) (x4 : Int32) (x5 : Int32) (Crank : Nat → Int32), fX3_readRank_b18 N n18 x2 x4 x5 Tletters Ccandidates Crank = some u → ∀ (H : Heap) (locs : List Loc) (ls : Array Slot), Wd D A s.heap (zwT cI aT Tletters Tlength ++ (zwC cI aC Ccandidates Cballots Cseats Cwithdrawn Cvoters Csets Crank)) H locs → lv_has ls 7 [(0, .ref (aT 0)), (1, .ref (aC 0)), (2, .int x2), (4, .int x4), (5, .int x5)] → W p l e (zk_rm 1 21) s m args below meth c H locs 0 0 Q (F0 m 18 ls []) := by
    intro n18
    induction n18 with
    | zero =>
      intro x2 x4 x5 Crank hf
      exact zk_none hf
    | succ n18 ih18 =>
      intro x2 x4 x5 Crank hf H locs ls hw hl
      rw [fX3_readRank_b18] at hf
      refine lv_iload hx hb dX3_readRank_18 (lv_at hl 4 rfl) ?_
      refine lv_aload_n hx hb dX3_readRank_20 rfl (lv_at hl 1 rfl) ?_
      refine va_getN (D := D) (ci := 0) (v := .int Ccandidates) (C := RX0) (T := TX0) (N := 7) hx hb hts hiX0 hown hK hw.1 2 rfl rfl 0 (by decide) (va_Nw.use rfl (nwF_X3_32 hN)) (fun _ h9 => h9) rfl dX3_readRank_21 ?_
      refine lv_icmp_ge (tgt := 91) hx hb dX3_readRank_24 (by decide) (fun c1 => ?_) (fun c1 => ?_)
      · replace hf := zk_t c1 hf
        refine lv_iconst (v := 1) hx hb dX3_readRank_91 (by decide) ?_
        cases hf
        exact zk_iret hx hb hr hlocks rfl hQ hw [0, 1, 2, 3, 4, 5] rfl (by decide) dX3_readRank_92
      · replace hf := zk_f c1 hf
        refine lv_aload_n hx hb dX3_readRank_27 rfl (lv_at hl 0 rfl) ?_
        refine va_get (D := D) (ci := 3) (v := .ref (aT 1)) (C := RX3) (T := TX3) (N := 2) hx hb hts hiX3 hown hK hw.1 0 rfl rfl 0 (by decide) hq0 (fun _ h9 => h9) rfl dX3_readRank_28 ?_
        refine lv_iload_n hx hb dX3_readRank_31 rfl (lv_at hl 2 rfl) ?_
        refine lv_iload hx hb dX3_readRank_32 (lv_at hl 4 rfl) ?_
        refine lv_iadd hx hb dX3_readRank_34 ?_
        obtain ⟨h2, hf⟩ := zk_ck hf
        refine zk_iald hx hb hK hw 1 rfl h2 (j := (x2 + x5).toNatClampNeg) rfl dX3_readRank_35 ?_
        refine lv_bipush (v := 97) hx hb dX3_readRank_36 (by decide) ?_
        refine lv_isub hx hb dX3_readRank_38 ?_
        refine lv_istore (lv' := [(6, .int ((Tletters ((x2 + x5).toNatClampNeg)) - (97 : Int32))), (0, .ref (aT 0)), (1, .ref (aC 0)), (2, .int x2), (4, .int x4), (5, .int x5)]) hx hb dX3_readRank_39 hl (by decide) rfl (fun ls hl => ?_)
        refine lv_iload hx hb dX3_readRank_41 (lv_at hl 0 rfl) ?_
        refine lv_if_lt (tgt := 65) hx hb dX3_readRank_43 (by decide) (fun c3 => ?_) (fun c3 => ?_)
        · replace hf := zk_t c3 hf
          refine lv_iconst (v := 0) hx hb dX3_readRank_65 (by decide) ?_
          cases hf
          exact zk_iret hx hb hr hlocks rfl hQ hw [0, 1, 2, 3, 4, 5] rfl (by decide) dX3_readRank_66
        · replace hf := zk_f c3 hf
          refine lv_iload hx hb dX3_readRank_46 (lv_at hl 0 rfl) ?_
          refine lv_aload_n hx hb dX3_readRank_48 rfl (lv_at hl 2 rfl) ?_
          refine va_getN (D := D) (ci := 0) (v := .int Ccandidates) (C := RX0) (T := TX0) (N := 7) hx hb hts hiX0 hown hK hw.1 2 rfl rfl 0 (by decide) (va_Nw.use rfl (nwF_X3_32 hN)) (fun _ h9 => h9) rfl dX3_readRank_49 ?_
          refine lv_icmp_ge (tgt := 65) hx hb dX3_readRank_52 (by decide) (fun c4 => ?_) (fun c4 => ?_)
          · replace hf := zk_t c4 hf
            refine lv_iconst (v := 0) hx hb dX3_readRank_65 (by decide) ?_
            cases hf
            exact zk_iret hx hb hr hlocks rfl hQ hw [0, 1, 2, 3, 4, 5] rfl (by decide) dX3_readRank_66
          · replace hf := zk_f c4 hf
            refine lv_iload hx hb dX3_readRank_55 (lv_at hl 4 rfl) ?_
            refine lv_iload hx hb dX3_readRank_57 (lv_at hl 0 rfl) ?_
            obtain ⟨u5, e6, hf⟩ := zk_bd hf
            refine zk_calli (wc := []) (wr := zwT cI aT Tletters Tlength ++ (zwC cI aC Ccandidates Cballots Cseats Cwithdrawn Cvoters Csets Crank)) hw hA [] [0, 1, 2, 3, 4, 5] rfl rfl (by decide) (by decide) (va_runSN (As := [.int x4, .int ((Tletters ((x2 + x5).toNatClampNeg)) - (97 : Int32))]) (rest := []) ⟨hx, hb, hml, hown, hts⟩ (kX4_hasBit l D cI cJ cO N x4 ((Tletters ((x2 + x5).toNatClampNeg)) - (97 : Int32)) u5 e6 H.size) ⟨va_cnB 2 hts ggX3_readRank_X4_hasBit rfl rfl rfl (nwM_X3_70 hN) hq1 (by decide +kernel) ⟨Nat.le_of_ble_eq_true rfl, Nat.le_of_ble_eq_true rfl⟩, hq2, trivial⟩ (zk_preS (wc := []) hN hK hw [] rfl (by decide)) rfl rfl hl.1 rfl (lv_room (Nat.le_of_ble_eq_true rfl)) dX3_readRank_59 ⟨Nat.zero_le _, Nat.zero_le _⟩) (fun H locs hw => ?_)
            have hw : Wd D A s.heap (zwT cI aT Tletters Tlength ++ (zwC cI aC Ccandidates Cballots Cseats Cwithdrawn Cvoters Csets Crank)) H locs := hw
            refine lv_if_eq (tgt := 67) hx hb dX3_readRank_62 (by decide) (fun c7 => ?_) (fun c7 => ?_)
            · replace hf := zk_t c7 hf
              refine lv_iload hx hb dX3_readRank_67 (lv_at hl 4 rfl) ?_
              refine lv_iconst (v := 1) hx hb dX3_readRank_69 (by decide) ?_
              refine lv_iload hx hb dX3_readRank_70 (lv_at hl 0 rfl) ?_
              refine lv_ishl hx hb dX3_readRank_72 ?_
              refine lv_ior hx hb dX3_readRank_73 ?_
              refine lv_istore (lv' := [(4, .int (x4 ||| ((1 : Int32) <<< (((Tletters ((x2 + x5).toNatClampNeg)) - (97 : Int32)) &&& 31)))), (6, .int ((Tletters ((x2 + x5).toNatClampNeg)) - (97 : Int32))), (0, .ref (aT 0)), (1, .ref (aC 0)), (2, .int x2), (5, .int x5)]) hx hb dX3_readRank_74 hl (by decide) rfl (fun ls hl => ?_)
              refine lv_aload_n hx hb dX3_readRank_76 rfl (lv_at hl 3 rfl) ?_
              refine va_getN (D := D) (ci := 0) (v := .ref (aC 3)) (C := RX0) (T := TX0) (N := 7) hx hb hts hiX0 hown hK hw.1 2 rfl rfl 6 (by decide) (va_Nw.use rfl (nwF_X3_74 hN)) (fun _ h9 => h9) rfl dX3_readRank_77 ?_
              refine lv_iload hx hb dX3_readRank_80 (lv_at hl 5 rfl) ?_
              refine lv_iload hx hb dX3_readRank_82 (lv_at hl 1 rfl) ?_
              obtain ⟨h8, hf⟩ := zk_ck hf
              refine zk_iast hx hb hK hw 5 rfl h8 (j := x5.toNatClampNeg) rfl dX3_readRank_84 (fun H locs hw => ?_)
              have hw : Wd D A s.heap (zwT cI aT Tletters Tlength ++ (zwC cI aC Ccandidates Cballots Cseats Cwithdrawn Cvoters Csets (upd Crank x5.toNatClampNeg ((Tletters ((x2 + x5).toNatClampNeg)) - (97 : Int32))))) H locs := hw
              refine lv_iinc (v := (x5 + (1 : Int32))) (lv' := [(5, .int (x5 + (1 : Int32))), (4, .int (x4 ||| ((1 : Int32) <<< (((Tletters ((x2 + x5).toNatClampNeg)) - (97 : Int32)) &&& 31)))), (6, .int ((Tletters ((x2 + x5).toNatClampNeg)) - (97 : Int32))), (0, .ref (aT 0)), (1, .ref (aC 0)), (2, .int x2)]) hx hb dX3_readRank_85 hl (k := 5) rfl rfl (by decide) rfl (fun ls hl => ?_)
              refine lv_goto (tgt := 18) hx hb dX3_readRank_88 (by decide) ?_
              exact ih18 x2 (x4 ||| ((1 : Int32) <<< (((Tletters ((x2 + x5).toNatClampNeg)) - (97 : Int32)) &&& 31))) (x5 + (1 : Int32)) (upd Crank x5.toNatClampNeg ((Tletters ((x2 + x5).toNatClampNeg)) - (97 : Int32))) hf H locs ls hw (lv_sub hl [3, 4, 5, 1, 0] rfl)
            · replace hf := zk_f c7 hf
              refine lv_iconst (v := 0) hx hb dX3_readRank_65 (by decide) ?_
              cases hf
              exact zk_iret hx hb hr hlocks rfl hQ hw [0, 1, 2, 3, 4, 5] rfl (by decide) dX3_readRank_66
  unfold fX3_readRank at hf
  refine lv_iload_n hx hb dX3_readRank_0 rfl (lv_at hl 3 rfl) ?_
  refine lv_iload_n hx hb dX3_readRank_1 rfl (lv_at hl 2 rfl) ?_
  refine lv_isub hx hb dX3_readRank_2 ?_
  refine lv_aload_n hx hb dX3_readRank_3 rfl (lv_at hl 1 rfl) ?_
  refine va_getN (D := D) (ci := 0) (v := .int Ccandidates) (C := RX0) (T := TX0) (N := 7) hx hb hts hiX0 hown hK hw.1 2 rfl rfl 0 (by decide) (va_Nw.use rfl (nwF_X3_32 hN)) (fun _ h9 => h9) rfl dX3_readRank_4 ?_
  refine lv_icmp_eq (tgt := 12) hx hb dX3_readRank_7 (by decide) (fun c9 => ?_) (fun c9 => ?_)
  · replace hf := zk_t c9 hf
    refine lv_iconst (v := 0) hx hb dX3_readRank_12 (by decide) ?_
    refine lv_istore (lv' := [(4, .int (0 : Int32)), (0, .ref (aT 0)), (1, .ref (aC 0)), (2, .int p1), (3, .int p2)]) hx hb dX3_readRank_13 hl (by decide) rfl (fun ls hl => ?_)
    refine lv_iconst (v := 0) hx hb dX3_readRank_15 (by decide) ?_
    refine lv_istore (lv' := [(5, .int (0 : Int32)), (4, .int (0 : Int32)), (0, .ref (aT 0)), (1, .ref (aC 0)), (2, .int p1), (3, .int p2)]) hx hb dX3_readRank_16 hl (by decide) rfl (fun ls hl => ?_)
    exact b18 N p1 (0 : Int32) (0 : Int32) Crank hf H locs ls hw (lv_sub hl [2, 3, 4, 1, 0] rfl)
  · replace hf := zk_f c9 hf
    refine lv_iconst (v := 0) hx hb dX3_readRank_10 (by decide) ?_
    cases hf
    exact zk_iret hx hb hr hlocks rfl hQ hw [0, 1, 2, 3, 4, 5] rfl (by decide) dX3_readRank_11
set_option maxHeartbeats 4000000 in
set_option maxRecDepth 100000 in
theorem kX3_readItem (l : Launch) (D : va_G) (cI cJ cO : ClassId) (N : Nat) (aT aC : Nat → Nat) (p1 : Int32) (p2 : Int32) (Tletters : Nat → Int32) (Tlength : Int32) (Ccandidates : Int32) (Cballots : Int32) (Cseats : Int32) (Cwithdrawn : Int32) (Cvoters : Nat → Int32) (Csets : Nat → Int32) (Crank : Nat → Int32) (u : Int32 × (Int32) × (Int32) × (Int32) × (Int32) × (Nat → Int32) × (Nat → Int32) × (Nat → Int32)) (hf : fX3_readItem N p1 p2 Tletters Ccandidates Cballots Cseats Cwithdrawn Cvoters Csets Crank = some u) : CtI l yX3_readItem wsX3_readItem (zk_rm 4 91) D cI cJ cO [.ref (aT 0), .ref (aC 0), .int p1, .int p2] (zwT cI aT Tletters Tlength ++ (zwC cI aC Ccandidates Cballots Cseats Cwithdrawn Cvoters Csets Crank)) (zwT cI aT Tletters Tlength ++ (zwC cI aC u.2.1 u.2.2.1 u.2.2.2.1 u.2.2.2.2.1 u.2.2.2.2.2.1 u.2.2.2.2.2.2.1 u.2.2.2.2.2.2.2)) (u.1) := by
  refine zk_enter (cc := cX3_readItem) (maxL := 5) (ret := some .boolean) (own := RX3) (Qf := fun A => QwI D (zwT cI aT Tletters Tlength ++ (zwC cI aC u.2.1 u.2.2.1 u.2.2.2.1 u.2.2.2.2.1 u.2.2.2.2.2.1 u.2.2.2.2.2.2.1 u.2.2.2.2.2.2.2)) (u.1) A) (by decide) rfl rfl (Nat.le_of_ble_eq_true rfl) ?_
  intro p e s m args below meth c A Q H locs ls hC hQ hw hl
  obtain ⟨hx, hb, hml, hr, hts, hown, hlocks, hN, hK, hA⟩ := hC
  have hl : lv_has ls 5 [(0, .ref (aT 0)), (1, .ref (aC 0)), (2, .int p1), (3, .int p2)] := hl
  have hiX3 : ∀ w ∈ u_ws RX3 TX3 2, w ∈ wsX3_readItem := by decide +kernel
  have hiX0 : ∀ w ∈ u_ws RX0 TX0 7, w ∈ wsX3_readItem := by decide +kernel
  have hq0 := hts (.fieldLink RX3 9 "LoadCouncil$Text" "letters" "[I") (by decide +kernel)
  unfold fX3_readItem at hf
  refine lv_iload_n hx hb dX3_readItem_0 rfl (lv_at hl 2 rfl) ?_
  refine lv_iload_n hx hb dX3_readItem_1 rfl (lv_at hl 3 rfl) ?_
  refine lv_icmp_lt (tgt := 7) hx hb dX3_readItem_2 (by decide) (fun c1 => ?_) (fun c1 => ?_)
  · replace hf := zk_t c1 hf
    refine lv_aload_n hx hb dX3_readItem_7 rfl (lv_at hl 0 rfl) ?_
    refine va_get (D := D) (ci := 3) (v := .ref (aT 1)) (C := RX3) (T := TX3) (N := 2) hx hb hts hiX3 hown hK hw.1 0 rfl rfl 0 (by decide) hq0 (fun _ h9 => h9) rfl dX3_readItem_8 ?_
    refine lv_iload_n hx hb dX3_readItem_11 rfl (lv_at hl 2 rfl) ?_
    obtain ⟨h2, hf⟩ := zk_ck hf
    refine zk_iald hx hb hK hw 1 rfl h2 (j := p1.toNatClampNeg) rfl dX3_readItem_12 ?_
    refine lv_istore (lv' := [(4, .int (Tletters p1.toNatClampNeg)), (0, .ref (aT 0)), (1, .ref (aC 0)), (2, .int p1), (3, .int p2)]) hx hb dX3_readItem_13 hl (by decide) rfl (fun ls hl => ?_)
    refine lv_iload hx hb dX3_readItem_15 (lv_at hl 0 rfl) ?_
    refine lv_bipush (v := 110) hx hb dX3_readItem_17 (by decide) ?_
    refine lv_icmp_ne (tgt := 32) hx hb dX3_readItem_19 (by decide) (fun c3 => ?_) (fun c3 => ?_)
    · replace hf := zk_f c3 hf
      refine lv_aload_n hx hb dX3_readItem_32 rfl (lv_at hl 2 rfl) ?_
      refine va_getN (D := D) (ci := 0) (v := .int Ccandidates) (C := RX0) (T := TX0) (N := 7) hx hb hts hiX0 hown hK hw.1 2 rfl rfl 0 (by decide) (va_Nw.use rfl (nwF_X3_32 hN)) (fun _ h9 => h9) rfl dX3_readItem_33 ?_
      refine lv_if_ne (tgt := 41) hx hb dX3_readItem_36 (by decide) (fun c4 => ?_) (fun c4 => ?_)
      · replace hf := zk_f c4 hf
        refine lv_iload hx hb dX3_readItem_41 (lv_at hl 0 rfl) ?_
        by_cases c5 : (Tletters p1.toNatClampNeg) = 98
        · replace hf := zk_t c5 hf
          refine lv_lookup (tgt := 76) (off := 33) hx hb dX3_readItem_43 (by decide) (by rw [c5]; rfl) (by decide) ?_
          refine lv_aload_n hx hb dX3_readItem_76 rfl (lv_at hl 1 rfl) ?_
          refine lv_aload_n hx hb dX3_readItem_77 rfl (lv_at hl 2 rfl) ?_
          refine lv_iload_n hx hb dX3_readItem_78 rfl (lv_at hl 3 rfl) ?_
          refine lv_iconst (v := 1) hx hb dX3_readItem_79 (by decide) ?_
          refine lv_iadd hx hb dX3_readItem_80 ?_
          refine lv_iload_n hx hb dX3_readItem_81 rfl (lv_at hl 4 rfl) ?_
          obtain ⟨u6, e7, hf⟩ := zk_bd hf
          refine zk_calli (wc := zwT cI aT Tletters Tlength ++ (zwC cI aC Ccandidates Cballots Cseats Cwithdrawn Cvoters Csets Crank)) (wr := []) hw hA [0, 1, 2, 3, 4, 5] [] rfl rfl (by decide) (by decide) (va_runV (C := RX3) (As := [.ref (aC 0), .int (p1 + (1 : Int32)), .int p2]) (rest := []) ⟨hx, hb, hml, hown, hts⟩ (kX3_readBallot l D cI cJ cO N aT aC (p1 + (1 : Int32)) p2 Tletters Tlength Ccandidates Cballots Cseats Cwithdrawn Cvoters Csets Crank u6 e7 H.size) (cwV 3 hts gX3_readItem_X3_readBallot rfl rfl rfl (by decide +kernel) ⟨Nat.le_of_ble_eq_true rfl, Nat.le_of_ble_eq_true rfl⟩) (zk_preV (wc := zwT cI aT Tletters Tlength ++ (zwC cI aC Ccandidates Cballots Cseats Cwithdrawn Cvoters Csets Crank)) hN hK hw [0, 1, 2, 3, 4, 5] rfl (by decide) 0 3 rfl rfl) rfl rfl hl.1 rfl (lv_room (Nat.le_of_ble_eq_true rfl)) dX3_readItem_82 ⟨Nat.zero_le _, Nat.zero_le _⟩) (fun H locs hw => ?_)
          have hw : Wd D A s.heap (zwT cI aT Tletters Tlength ++ (zwC cI aC Ccandidates u6.2.1 Cseats Cwithdrawn u6.2.2.1 u6.2.2.2 Crank)) H locs := hw
          obtain ⟨h8, hf⟩ := zk_ck hf
          cases hf
          exact zk_iret hx hb hr hlocks (zk_nb h8) hQ hw [0, 1, 2, 3, 4, 5] rfl (by decide) dX3_readItem_85
        · replace hf := zk_f c5 hf
          by_cases c9 : (Tletters p1.toNatClampNeg) = 107
          · replace hf := zk_t c9 hf
            refine lv_lookup (tgt := 86) (off := 43) hx hb dX3_readItem_43 (by decide) (by rw [c9]; rfl) (by decide) ?_
            refine lv_aload_n hx hb dX3_readItem_86 rfl (lv_at hl 1 rfl) ?_
            refine lv_aload_n hx hb dX3_readItem_87 rfl (lv_at hl 2 rfl) ?_
            refine lv_iload_n hx hb dX3_readItem_88 rfl (lv_at hl 3 rfl) ?_
            refine lv_iconst (v := 1) hx hb dX3_readItem_89 (by decide) ?_
            refine lv_iadd hx hb dX3_readItem_90 ?_
            refine lv_iload_n hx hb dX3_readItem_91 rfl (lv_at hl 4 rfl) ?_
            obtain ⟨u10, e11, hf⟩ := zk_bd hf
            refine zk_calli (wc := zwT cI aT Tletters Tlength ++ (zwC cI aC Ccandidates Cballots Cseats Cwithdrawn Cvoters Csets Crank)) (wr := []) hw hA [0, 1, 2, 3, 4, 5] [] rfl rfl (by decide) (by decide) (va_runV (C := RX3) (As := [.ref (aC 0), .int (p1 + (1 : Int32)), .int p2]) (rest := []) ⟨hx, hb, hml, hown, hts⟩ (kX3_readSeats l D cI cJ cO N aT aC (p1 + (1 : Int32)) p2 Tletters Tlength Ccandidates Cballots Cseats Cwithdrawn Cvoters Csets Crank u10 e11 H.size) (cwV 3 hts gX3_readItem_X3_readSeats rfl rfl rfl (by decide +kernel) ⟨Nat.le_of_ble_eq_true rfl, Nat.le_of_ble_eq_true rfl⟩) (zk_preV (wc := zwT cI aT Tletters Tlength ++ (zwC cI aC Ccandidates Cballots Cseats Cwithdrawn Cvoters Csets Crank)) hN hK hw [0, 1, 2, 3, 4, 5] rfl (by decide) 0 3 rfl rfl) rfl rfl hl.1 rfl (lv_room (Nat.le_of_ble_eq_true rfl)) dX3_readItem_92 ⟨Nat.zero_le _, Nat.zero_le _⟩) (fun H locs hw => ?_)
            have hw : Wd D A s.heap (zwT cI aT Tletters Tlength ++ (zwC cI aC Ccandidates Cballots u10.2 Cwithdrawn Cvoters Csets Crank)) H locs := hw
            obtain ⟨h12, hf⟩ := zk_ck hf
            cases hf
            exact zk_iret hx hb hr hlocks (zk_nb h12) hQ hw [0, 1, 2, 3, 4, 5] rfl (by decide) dX3_readItem_95
          · replace hf := zk_f c9 hf
            by_cases c13 : (Tletters p1.toNatClampNeg) = 111
            · replace hf := zk_t c13 hf
              refine lv_lookup (tgt := 96) (off := 53) hx hb dX3_readItem_43 (by decide) (by rw [c13]; rfl) (by decide) ?_
              refine lv_aload_n hx hb dX3_readItem_96 rfl (lv_at hl 1 rfl) ?_
              refine lv_aload_n hx hb dX3_readItem_97 rfl (lv_at hl 2 rfl) ?_
              refine lv_iload_n hx hb dX3_readItem_98 rfl (lv_at hl 3 rfl) ?_
              refine lv_iconst (v := 1) hx hb dX3_readItem_99 (by decide) ?_
              refine lv_iadd hx hb dX3_readItem_100 ?_
              refine lv_iload_n hx hb dX3_readItem_101 rfl (lv_at hl 4 rfl) ?_
              obtain ⟨u14, e15, hf⟩ := zk_bd hf
              refine zk_calli (wc := zwT cI aT Tletters Tlength ++ (zwC cI aC Ccandidates Cballots Cseats Cwithdrawn Cvoters Csets Crank)) (wr := []) hw hA [0, 1, 2, 3, 4, 5] [] rfl rfl (by decide) (by decide) (va_runV (C := RX3) (As := [.ref (aC 0), .int (p1 + (1 : Int32)), .int p2]) (rest := []) ⟨hx, hb, hml, hown, hts⟩ (kX3_readRank l D cI cJ cO N aT aC (p1 + (1 : Int32)) p2 Tletters Tlength Ccandidates Cballots Cseats Cwithdrawn Cvoters Csets Crank u14 e15 H.size) (cwV 3 hts gX3_readItem_X3_readRank rfl rfl rfl (by decide +kernel) ⟨Nat.le_of_ble_eq_true rfl, Nat.le_of_ble_eq_true rfl⟩) (zk_preV (wc := zwT cI aT Tletters Tlength ++ (zwC cI aC Ccandidates Cballots Cseats Cwithdrawn Cvoters Csets Crank)) hN hK hw [0, 1, 2, 3, 4, 5] rfl (by decide) 0 3 rfl rfl) rfl rfl hl.1 rfl (lv_room (Nat.le_of_ble_eq_true rfl)) dX3_readItem_102 ⟨Nat.zero_le _, Nat.zero_le _⟩) (fun H locs hw => ?_)
              have hw : Wd D A s.heap (zwT cI aT Tletters Tlength ++ (zwC cI aC Ccandidates Cballots Cseats Cwithdrawn Cvoters Csets u14.2)) H locs := hw
              obtain ⟨h16, hf⟩ := zk_ck hf
              cases hf
              exact zk_iret hx hb hr hlocks (zk_nb h16) hQ hw [0, 1, 2, 3, 4, 5] rfl (by decide) dX3_readItem_105
            · replace hf := zk_f c13 hf
              refine lv_lookup (tgt := 106) (off := 63) hx hb dX3_readItem_43 (by decide) (by show Op.lookupswitch.offset [(98, 33), (107, 43), (111, 53)] 63 _ = _; rw [lv_osw c5 (k := 98) (a := 98) rfl, lv_osw c9 (k := 107) (a := 107) rfl, lv_osw c13 (k := 111) (a := 111) rfl]; rfl) (by decide) ?_
              refine lv_iconst (v := 0) hx hb dX3_readItem_106 (by decide) ?_
              cases hf
              exact zk_iret hx hb hr hlocks rfl hQ hw [0, 1, 2, 3, 4, 5] rfl (by decide) dX3_readItem_107
      · replace hf := zk_t c4 hf
        refine lv_iconst (v := 0) hx hb dX3_readItem_39 (by decide) ?_
        cases hf
        exact zk_iret hx hb hr hlocks rfl hQ hw [0, 1, 2, 3, 4, 5] rfl (by decide) dX3_readItem_40
    · replace hf := zk_t c3 hf
      refine lv_aload_n hx hb dX3_readItem_22 rfl (lv_at hl 1 rfl) ?_
      refine lv_aload_n hx hb dX3_readItem_23 rfl (lv_at hl 2 rfl) ?_
      refine lv_iload_n hx hb dX3_readItem_24 rfl (lv_at hl 3 rfl) ?_
      refine lv_iconst (v := 1) hx hb dX3_readItem_25 (by decide) ?_
      refine lv_iadd hx hb dX3_readItem_26 ?_
      refine lv_iload_n hx hb dX3_readItem_27 rfl (lv_at hl 4 rfl) ?_
      obtain ⟨u17, e18, hf⟩ := zk_bd hf
      refine zk_calli (wc := zwT cI aT Tletters Tlength ++ (zwC cI aC Ccandidates Cballots Cseats Cwithdrawn Cvoters Csets Crank)) (wr := []) hw hA [0, 1, 2, 3, 4, 5] [] rfl rfl (by decide) (by decide) (va_runV (C := RX3) (As := [.ref (aC 0), .int (p1 + (1 : Int32)), .int p2]) (rest := []) ⟨hx, hb, hml, hown, hts⟩ (kX3_readCandidates l D cI cJ cO N aT aC (p1 + (1 : Int32)) p2 Tletters Tlength Ccandidates Cballots Cseats Cwithdrawn Cvoters Csets Crank u17 e18 H.size) (cwV 3 hts gX3_readItem_X3_readCandidates rfl rfl rfl (by decide +kernel) ⟨Nat.le_of_ble_eq_true rfl, Nat.le_of_ble_eq_true rfl⟩) (zk_preV (wc := zwT cI aT Tletters Tlength ++ (zwC cI aC Ccandidates Cballots Cseats Cwithdrawn Cvoters Csets Crank)) hN hK hw [0, 1, 2, 3, 4, 5] rfl (by decide) 0 3 rfl rfl) rfl rfl hl.1 rfl (lv_room (Nat.le_of_ble_eq_true rfl)) dX3_readItem_28 ⟨Nat.zero_le _, Nat.zero_le _⟩) (fun H locs hw => ?_)
      have hw : Wd D A s.heap (zwT cI aT Tletters Tlength ++ (zwC cI aC u17.2.1 u17.2.2.1 u17.2.2.2.1 u17.2.2.2.2.1 Cvoters Csets u17.2.2.2.2.2)) H locs := hw
      obtain ⟨h19, hf⟩ := zk_ck hf
      cases hf
      exact zk_iret hx hb hr hlocks (zk_nb h19) hQ hw [0, 1, 2, 3, 4, 5] rfl (by decide) dX3_readItem_31
  · replace hf := zk_f c1 hf
    refine lv_iconst (v := 0) hx hb dX3_readItem_5 (by decide) ?_
    cases hf
    exact zk_iret hx hb hr hlocks rfl hQ hw [0, 1, 2, 3, 4, 5] rfl (by decide) dX3_readItem_6
set_option maxHeartbeats 4000000 in
set_option maxRecDepth 100000 in
theorem kX3_readInto (l : Launch) (D : va_G) (cI cJ cO : ClassId) (N : Nat) (aT aC : Nat → Nat) (Tletters : Nat → Int32) (Tlength : Int32) (Ccandidates : Int32) (Cballots : Int32) (Cseats : Int32) (Cwithdrawn : Int32) (Cvoters : Nat → Int32) (Csets : Nat → Int32) (Crank : Nat → Int32) (u : Int32 × (Int32) × (Int32) × (Int32) × (Int32) × (Nat → Int32) × (Nat → Int32) × (Nat → Int32)) (hf : fX3_readInto N Tletters Tlength Ccandidates Cballots Cseats Cwithdrawn Cvoters Csets Crank = some u) : CtI l yX3_readInto wsX3_readInto (zk_rm 5 115) D cI cJ cO [.ref (aT 0), .ref (aC 0)] (zwT cI aT Tletters Tlength ++ (zwC cI aC Ccandidates Cballots Cseats Cwithdrawn Cvoters Csets Crank)) (zwT cI aT Tletters Tlength ++ (zwC cI aC u.2.1 u.2.2.1 u.2.2.2.1 u.2.2.2.2.1 u.2.2.2.2.2.1 u.2.2.2.2.2.2.1 u.2.2.2.2.2.2.2)) (u.1) := by
  refine zk_enter (cc := cX3_readInto) (maxL := 4) (ret := some .int) (own := RX3) (Qf := fun A => QwI D (zwT cI aT Tletters Tlength ++ (zwC cI aC u.2.1 u.2.2.1 u.2.2.2.1 u.2.2.2.2.1 u.2.2.2.2.2.1 u.2.2.2.2.2.2.1 u.2.2.2.2.2.2.2)) (u.1) A) (by decide) rfl rfl (Nat.le_of_ble_eq_true rfl) ?_
  intro p e s m args below meth c A Q H locs ls hC hQ hw hl
  obtain ⟨hx, hb, hml, hr, hts, hown, hlocks, hN, hK, hA⟩ := hC
  have hl : lv_has ls 4 [(0, .ref (aT 0)), (1, .ref (aC 0))] := hl
  have hiX3 : ∀ w ∈ u_ws RX3 TX3 2, w ∈ wsX3_readInto := by decide +kernel
  have hq0 := hts (.fieldLink RX3 15 "LoadCouncil$Text" "length" "I") (by decide +kernel)
  have hq1 := hts (.fieldLink RX3 9 "LoadCouncil$Text" "letters" "[I") (by decide +kernel)
  have hq2 := hts (.initialized RX0) (by decide +kernel)
  have hq3 := hts (.instanceMethod yX0_beginWith) (by decide +kernel)
  have hq4 := hts (.selects RX0 yX0_beginWith yX0_beginWith) (by decide +kernel)
  have b50 : ∀ (x2 : Int32) (Ccandidates : Int32) (Cballots : Int32) (Cseats : Int32) (Cwithdrawn : Int32) (Cvoters : Nat → Int32) (Csets : Nat → Int32) (Crank : Nat → Int32), fX3_readInto_b50 N x2 Tlength Ccandidates Cballots Cseats Cwithdrawn Cvoters Csets Crank = some u → ∀ (H : Heap) (locs : List Loc) (ls : Array Slot), Wd D A s.heap (zwT cI aT Tletters Tlength ++ (zwC cI aC Ccandidates Cballots Cseats Cwithdrawn Cvoters Csets Crank)) H locs → lv_has ls 4 [(0, .ref (aT 0)), (2, .int x2)] → W p l e (zk_rm 5 115) s m args below meth c H locs 0 0 Q (F0 m 50 ls []) := by
    intro x2 Ccandidates Cballots Cseats Cwithdrawn Cvoters Csets Crank hf H locs ls hw hl
    unfold fX3_readInto_b50 at hf
    refine lv_iload_n hx hb dX3_readInto_50 rfl (lv_at hl 1 rfl) ?_
    refine lv_aload_n hx hb dX3_readInto_51 rfl (lv_at hl 0 rfl) ?_
    refine va_get (D := D) (ci := 3) (v := .int Tlength) (C := RX3) (T := TX3) (N := 2) hx hb hts hiX3 hown hK hw.1 0 rfl rfl 1 (by decide) hq0 (fun _ h9 => h9) rfl dX3_readInto_52 ?_
    refine lv_icmp_ge (tgt := 62) hx hb dX3_readInto_55 (by decide) (fun c1 => ?_) (fun c1 => ?_)
    · replace hf := zk_t c1 hf
      refine lv_bipush (v := (-4)) hx hb dX3_readInto_62 (by decide) ?_
      cases hf
      exact zk_iret hx hb hr hlocks rfl hQ hw [0, 1, 2, 3, 4, 5] rfl (by decide) dX3_readInto_64
    · replace hf := zk_f c1 hf
      refine lv_iload_n hx hb dX3_readInto_58 rfl (lv_at hl 1 rfl) ?_
      refine lv_goto (tgt := 64) hx hb dX3_readInto_59 (by decide) ?_
      cases hf
      exact zk_iret hx hb hr hlocks rfl hQ hw [0, 1, 2, 3, 4, 5] rfl (by decide) dX3_readInto_64
  have b9 : ∀ (n9 : Nat), ∀ (x2 : Int32) (x3 : Int32) (Ccandidates : Int32) (Cballots : Int32) (Cseats : Int32) (Cwithdrawn : Int32) (Cvoters : Nat → Int32) (Csets : Nat → Int32) (Crank : Nat → Int32), fX3_readInto_b9 N n9 x2 x3 Tletters Tlength Ccandidates Cballots Cseats Cwithdrawn Cvoters Csets Crank = some u → ∀ (H : Heap) (locs : List Loc) (ls : Array Slot), Wd D A s.heap (zwT cI aT Tletters Tlength ++ (zwC cI aC Ccandidates Cballots Cseats Cwithdrawn Cvoters Csets Crank)) H locs → lv_has ls 4 [(0, .ref (aT 0)), (1, .ref (aC 0)), (2, .int x2), (3, .int x3)] → W p l e (zk_rm 5 115) s m args below meth c H locs 0 0 Q (F0 m 9 ls []) := by
    intro n9
    induction n9 with
    | zero =>
      intro x2 x3 Ccandidates Cballots Cseats Cwithdrawn Cvoters Csets Crank hf
      exact zk_none hf
    | succ n9 ih9 =>
      have b44 : ∀ (x2 : Int32) (x3 : Int32) (Ccandidates : Int32) (Cballots : Int32) (Cseats : Int32) (Cwithdrawn : Int32) (Cvoters : Nat → Int32) (Csets : Nat → Int32) (Crank : Nat → Int32), fX3_readInto_b44 N (fun z0 z1 z2 z3 z4 z5 z6 z7 z8 z9 z10 => fX3_readInto_b9 N n9 z0 z1 z2 z3 z4 z5 z6 z7 z8 z9 z10) x2 x3 Tletters Tlength Ccandidates Cballots Cseats Cwithdrawn Cvoters Csets Crank = some u → ∀ (H : Heap) (locs : List Loc) (ls : Array Slot), Wd D A s.heap (zwT cI aT Tletters Tlength ++ (zwC cI aC Ccandidates Cballots Cseats Cwithdrawn Cvoters Csets Crank)) H locs → lv_has ls 4 [(0, .ref (aT 0)), (1, .ref (aC 0)), (2, .int x2), (3, .int x3)] → W p l e (zk_rm 5 115) s m args below meth c H locs 0 0 Q (F0 m 44 ls []) := by
        intro x2 x3 Ccandidates Cballots Cseats Cwithdrawn Cvoters Csets Crank hf H locs ls hw hl
        unfold fX3_readInto_b44 at hf
        refine lv_iinc (v := (x3 + (1 : Int32))) (lv' := [(3, .int (x3 + (1 : Int32))), (0, .ref (aT 0)), (1, .ref (aC 0)), (2, .int x2)]) hx hb dX3_readInto_44 hl (k := 3) rfl rfl (by decide) rfl (fun ls hl => ?_)
        refine lv_goto (tgt := 9) hx hb dX3_readInto_47 (by decide) ?_
        exact ih9 x2 (x3 + (1 : Int32)) Ccandidates Cballots Cseats Cwithdrawn Cvoters Csets Crank hf H locs ls hw (lv_sub hl [1, 2, 3, 0] rfl)
      intro x2 x3 Ccandidates Cballots Cseats Cwithdrawn Cvoters Csets Crank hf H locs ls hw hl
      rw [fX3_readInto_b9] at hf
      refine lv_iload_n hx hb dX3_readInto_9 rfl (lv_at hl 3 rfl) ?_
      refine lv_aload_n hx hb dX3_readInto_10 rfl (lv_at hl 0 rfl) ?_
      refine va_get (D := D) (ci := 3) (v := .int Tlength) (C := RX3) (T := TX3) (N := 2) hx hb hts hiX3 hown hK hw.1 0 rfl rfl 1 (by decide) hq0 (fun _ h9 => h9) rfl dX3_readInto_11 ?_
      refine lv_icmp_ge (tgt := 50) hx hb dX3_readInto_14 (by decide) (fun c2 => ?_) (fun c2 => ?_)
      · replace hf := zk_t c2 hf
        exact b50 x2 Ccandidates Cballots Cseats Cwithdrawn Cvoters Csets Crank hf H locs ls hw (lv_sub hl [0, 2] rfl)
      · replace hf := zk_f c2 hf
        refine lv_aload_n hx hb dX3_readInto_17 rfl (lv_at hl 0 rfl) ?_
        refine va_get (D := D) (ci := 3) (v := .ref (aT 1)) (C := RX3) (T := TX3) (N := 2) hx hb hts hiX3 hown hK hw.1 0 rfl rfl 0 (by decide) hq1 (fun _ h9 => h9) rfl dX3_readInto_18 ?_
        refine lv_iload_n hx hb dX3_readInto_21 rfl (lv_at hl 3 rfl) ?_
        obtain ⟨h3, hf⟩ := zk_ck hf
        refine zk_iald hx hb hK hw 1 rfl h3 (j := x3.toNatClampNeg) rfl dX3_readInto_22 ?_
        refine lv_bipush (v := 59) hx hb dX3_readInto_23 (by decide) ?_
        refine lv_icmp_ne (tgt := 44) hx hb dX3_readInto_25 (by decide) (fun c4 => ?_) (fun c4 => ?_)
        · replace hf := zk_f c4 hf
          exact b44 x2 x3 Ccandidates Cballots Cseats Cwithdrawn Cvoters Csets Crank hf H locs ls hw (lv_sub hl [0, 1, 2, 3] rfl)
        · replace hf := zk_t c4 hf
          refine lv_aload_n hx hb dX3_readInto_28 rfl (lv_at hl 0 rfl) ?_
          refine lv_aload_n hx hb dX3_readInto_29 rfl (lv_at hl 1 rfl) ?_
          refine lv_iload_n hx hb dX3_readInto_30 rfl (lv_at hl 2 rfl) ?_
          refine lv_iload_n hx hb dX3_readInto_31 rfl (lv_at hl 3 rfl) ?_
          obtain ⟨u5, e6, hf⟩ := zk_bd hf
          refine zk_calli (wc := zwT cI aT Tletters Tlength ++ (zwC cI aC Ccandidates Cballots Cseats Cwithdrawn Cvoters Csets Crank)) (wr := []) hw hA [0, 1, 2, 3, 4, 5] [] rfl rfl (by decide) (by decide) (va_runV (C := RX3) (As := [.ref (aC 0), .int x2, .int x3]) (rest := []) ⟨hx, hb, hml, hown, hts⟩ (kX3_readItem l D cI cJ cO N aT aC x2 x3 Tletters Tlength Ccandidates Cballots Cseats Cwithdrawn Cvoters Csets Crank u5 e6 H.size) (cwV 3 hts gX3_readInto_X3_readItem rfl rfl rfl (by decide +kernel) ⟨Nat.le_of_ble_eq_true rfl, Nat.le_of_ble_eq_true rfl⟩) (zk_preV (wc := zwT cI aT Tletters Tlength ++ (zwC cI aC Ccandidates Cballots Cseats Cwithdrawn Cvoters Csets Crank)) hN hK hw [0, 1, 2, 3, 4, 5] rfl (by decide) 0 3 rfl rfl) rfl rfl hl.1 rfl (lv_room (Nat.le_of_ble_eq_true rfl)) dX3_readInto_32 ⟨Nat.zero_le _, Nat.zero_le _⟩) (fun H locs hw => ?_)
          have hw : Wd D A s.heap (zwT cI aT Tletters Tlength ++ (zwC cI aC u5.2.1 u5.2.2.1 u5.2.2.2.1 u5.2.2.2.2.1 u5.2.2.2.2.2.1 u5.2.2.2.2.2.2.1 u5.2.2.2.2.2.2.2)) H locs := hw
          refine lv_if_ne (tgt := 40) hx hb dX3_readInto_35 (by decide) (fun c7 => ?_) (fun c7 => ?_)
          · replace hf := zk_f c7 hf
            refine lv_iload_n hx hb dX3_readInto_40 rfl (lv_at hl 3 rfl) ?_
            refine lv_iconst (v := 1) hx hb dX3_readInto_41 (by decide) ?_
            refine lv_iadd hx hb dX3_readInto_42 ?_
            refine lv_istore_n (lv' := [(2, .int (x3 + (1 : Int32))), (0, .ref (aT 0)), (1, .ref (aC 0)), (3, .int x3)]) hx hb dX3_readInto_43 rfl hl (by decide) rfl (fun ls hl => ?_)
            exact b44 (x3 + (1 : Int32)) x3 u5.2.1 u5.2.2.1 u5.2.2.2.1 u5.2.2.2.2.1 u5.2.2.2.2.2.1 u5.2.2.2.2.2.2.1 u5.2.2.2.2.2.2.2 hf H locs ls hw (lv_sub hl [1, 2, 0, 3] rfl)
          · replace hf := zk_t c7 hf
            refine lv_iload_n hx hb dX3_readInto_38 rfl (lv_at hl 2 rfl) ?_
            cases hf
            exact zk_iret hx hb hr hlocks rfl hQ hw [0, 1, 2, 3, 4, 5] rfl (by decide) dX3_readInto_39
  unfold fX3_readInto at hf
  refine lv_aload_n hx hb dX3_readInto_0 rfl (lv_at hl 1 rfl) ?_
  refine lv_iconst (v := 0) hx hb dX3_readInto_1 (by decide) ?_
  obtain ⟨u8, e9, hf⟩ := zk_bd hf
  refine zk_callv (wc := zwC cI aC Ccandidates Cballots Cseats Cwithdrawn Cvoters Csets Crank) (wr := zwT cI aT Tletters Tlength) hw hA [2, 3, 4, 5] [0, 1] rfl rfl (by decide) (by decide) (va_runVN (C := RX0) (As := [.int (0 : Int32)]) (rest := []) ⟨hx, hb, hml, hown, hts⟩ (kX0_beginWith l D cI cJ cO N aC (0 : Int32) Ccandidates Cballots Cseats Cwithdrawn Cvoters Csets Crank u8 e9 H.size) ⟨va_cnB 1 hts ggX3_readInto_X0_beginWith rfl rfl rfl (nwM_X3_19 hN) hq2 (by decide +kernel) ⟨Nat.le_of_ble_eq_true rfl, Nat.le_of_ble_eq_true rfl⟩, hq3, hq4⟩ (zk_preV (wc := zwC cI aC Ccandidates Cballots Cseats Cwithdrawn Cvoters Csets Crank) hN hK hw [2, 3, 4, 5] rfl (by decide) 2 0 rfl rfl) rfl rfl hl.1 rfl (lv_room (Nat.le_of_ble_eq_true rfl)) dX3_readInto_2 ⟨Nat.zero_le _, Nat.zero_le _⟩) (fun H locs hw => ?_)
  have hw : Wd D A s.heap (zwT cI aT Tletters Tlength ++ (zwC cI aC u8.1 u8.2.1 u8.2.2.1 u8.2.2.2.1 Cvoters Csets u8.2.2.2.2)) H locs := hw
  refine lv_iconst (v := 0) hx hb dX3_readInto_5 (by decide) ?_
  refine lv_istore_n (lv' := [(2, .int (0 : Int32)), (0, .ref (aT 0)), (1, .ref (aC 0))]) hx hb dX3_readInto_6 rfl hl (by decide) rfl (fun ls hl => ?_)
  refine lv_iconst (v := 0) hx hb dX3_readInto_7 (by decide) ?_
  refine lv_istore_n (lv' := [(3, .int (0 : Int32)), (2, .int (0 : Int32)), (0, .ref (aT 0)), (1, .ref (aC 0))]) hx hb dX3_readInto_8 rfl hl (by decide) rfl (fun ls hl => ?_)
  exact b9 N (0 : Int32) (0 : Int32) u8.1 u8.2.1 u8.2.2.1 u8.2.2.2.1 Cvoters Csets u8.2.2.2.2 hf H locs ls hw (lv_sub hl [2, 3, 1, 0] rfl)
set_option maxHeartbeats 4000000 in
set_option maxRecDepth 100000 in
theorem kX4_write (l : Launch) (D : va_G) (cI cJ cO : ClassId) (N : Nat) (aL aT : Nat → Nat) (aN aR aP aE : Nat → Nat) (p0 : Int32) (Tletters : Nat → Int32) (Tlength : Int32) (u : Int32 × (Nat → Int32) × (Int32)) (hf : fX4_write N p0 Tletters Tlength = some u) : CtI l yX4_write wsX4_write (zk_rm 1 21) D cI cJ cO [.ref (aL 0), .int p0] (zwL aL (aT 0) (aN 0) (aR 0) (aP 0) (aE 0) ++ (zwT cI aT Tletters Tlength)) (zwL aL (aT 0) (aN 0) (aR 0) (aP 0) (aE 0) ++ (zwT cI aT u.2.1 u.2.2)) (u.1) := by
  refine zk_enter (cc := cX4_write) (maxL := 2) (ret := some .int) (own := RX4) (Qf := fun A => QwI D (zwL aL (aT 0) (aN 0) (aR 0) (aP 0) (aE 0) ++ (zwT cI aT u.2.1 u.2.2)) (u.1) A) (by decide) rfl rfl (Nat.le_of_ble_eq_true rfl) ?_
  intro p e s m args below meth c A Q H locs ls hC hQ hw hl
  obtain ⟨hx, hb, hml, hr, hts, hown, hlocks, hN, hK, hA⟩ := hC
  have hl : lv_has ls 2 [(0, .ref (aL 0)), (1, .int p0)] := hl
  have hiX4 : ∀ w ∈ u_ws RX4 TX4 5, w ∈ wsX4_write := by decide +kernel
  have hiX3 : ∀ w ∈ u_ws RX3 TX3 2, w ∈ wsX4_write := by decide +kernel
  have hq0 := hts (.fieldLink RX4 12 "LoadCouncil" "text" "LLoadCouncil$Text;") (by decide +kernel)
  have hq1 := hts (.initialized RX3) (by decide +kernel)
  have hq2 := hts (.instanceMethod yX3_add) (by decide +kernel)
  have hq3 := hts (.selects RX3 yX3_add yX3_add) (by decide +kernel)
  unfold fX4_write at hf
  refine lv_iload_n hx hb dX4_write_0 rfl (lv_at hl 1 rfl) ?_
  refine lv_bipush (v := 32) hx hb dX4_write_1 (by decide) ?_
  refine lv_icmp_lt (tgt := 12) hx hb dX4_write_3 (by decide) (fun c1 => ?_) (fun c1 => ?_)
  · replace hf := zk_t c1 hf
    refine lv_iconst (v := (-1)) hx hb dX4_write_12 (by decide) ?_
    cases hf
    exact zk_iret hx hb hr hlocks rfl hQ hw [0, 1, 2] rfl (by decide) dX4_write_13
  · replace hf := zk_f c1 hf
    refine lv_iload_n hx hb dX4_write_6 rfl (lv_at hl 1 rfl) ?_
    refine lv_bipush (v := 126) hx hb dX4_write_7 (by decide) ?_
    refine lv_icmp_le (tgt := 14) hx hb dX4_write_9 (by decide) (fun c2 => ?_) (fun c2 => ?_)
    · replace hf := zk_t c2 hf
      refine lv_aload_n hx hb dX4_write_14 rfl (lv_at hl 0 rfl) ?_
      refine va_get (D := D) (ci := 4) (v := .ref (aT 0)) (C := RX4) (T := TX4) (N := 5) hx hb hts hiX4 hown hK hw.1 0 rfl rfl 0 (by decide) hq0 (fun _ h9 => h9) rfl dX4_write_15 ?_
      refine lv_iload_n hx hb dX4_write_18 rfl (lv_at hl 1 rfl) ?_
      obtain ⟨u3, e4, hf⟩ := zk_bd hf
      refine zk_calli (wc := zwT cI aT Tletters Tlength) (wr := zwL aL (aT 0) (aN 0) (aR 0) (aP 0) (aE 0)) hw hA [1, 2] [0] rfl rfl (by decide) (by decide) (va_runVN (C := RX3) (As := [.int p0]) (rest := []) ⟨hx, hb, hml, hown, hts⟩ (kX3_add l D cI cJ cO N aT p0 Tletters Tlength u3 e4 H.size) ⟨va_cnB 1 hts ggX4_write_X3_add rfl rfl rfl (nwM_X4_52 hN) hq1 (by decide +kernel) ⟨Nat.le_of_ble_eq_true rfl, Nat.le_of_ble_eq_true rfl⟩, hq2, hq3⟩ (zk_preV (wc := zwT cI aT Tletters Tlength) hN hK hw [1, 2] rfl (by decide) 1 3 rfl rfl) rfl rfl hl.1 rfl (lv_room (Nat.le_of_ble_eq_true rfl)) dX4_write_19 ⟨Nat.zero_le _, Nat.zero_le _⟩) (fun H locs hw => ?_)
      have hw : Wd D A s.heap (zwL aL (aT 0) (aN 0) (aR 0) (aP 0) (aE 0) ++ (zwT cI aT u3.2.1 u3.2.2)) H locs := hw
      refine lv_if_eq (tgt := 35) hx hb dX4_write_22 (by decide) (fun c5 => ?_) (fun c5 => ?_)
      · replace hf := zk_t c5 hf
        refine lv_bipush (v := (-3)) hx hb dX4_write_35 (by decide) ?_
        cases hf
        exact zk_iret hx hb hr hlocks rfl hQ hw [0, 1, 2] rfl (by decide) dX4_write_37
      · replace hf := zk_f c5 hf
        refine lv_aload_n hx hb dX4_write_25 rfl (lv_at hl 0 rfl) ?_
        refine va_get (D := D) (ci := 4) (v := .ref (aT 0)) (C := RX4) (T := TX4) (N := 5) hx hb hts hiX4 hown hK hw.1 0 rfl rfl 0 (by decide) hq0 (fun _ h9 => h9) rfl dX4_write_26 ?_
        refine va_getN (D := D) (ci := 3) (v := .int u3.2.2) (C := RX3) (T := TX3) (N := 2) hx hb hts hiX3 hown hK hw.1 1 rfl rfl 1 (by decide) (va_Nw.use rfl (nwF_X4_63 hN)) (fun _ h9 => h9) rfl dX4_write_29 ?_
        refine lv_goto (tgt := 37) hx hb dX4_write_32 (by decide) ?_
        cases hf
        exact zk_iret hx hb hr hlocks rfl hQ hw [0, 1, 2] rfl (by decide) dX4_write_37
    · replace hf := zk_f c2 hf
      refine lv_iconst (v := (-1)) hx hb dX4_write_12 (by decide) ?_
      cases hf
      exact zk_iret hx hb hr hlocks rfl hQ hw [0, 1, 2] rfl (by decide) dX4_write_13
set_option maxHeartbeats 4000000 in
set_option maxRecDepth 100000 in
theorem kX4_wipe (l : Launch) (D : va_G) (cI cJ cO : ClassId) (N : Nat) (aL aT : Nat → Nat) (aN aR aP aE : Nat → Nat) (Tletters : Nat → Int32) (Tlength : Int32) (u : Int32 × (Int32)) (hf : fX4_wipe N Tlength = some u) : CtI l yX4_wipe wsX4_wipe (zk_rm 1 20) D cI cJ cO [.ref (aL 0)] (zwL aL (aT 0) (aN 0) (aR 0) (aP 0) (aE 0) ++ (zwT cI aT Tletters Tlength)) (zwL aL (aT 0) (aN 0) (aR 0) (aP 0) (aE 0) ++ (zwT cI aT Tletters u.2)) (u.1) := by
  refine zk_enter (cc := cX4_wipe) (maxL := 2) (ret := some .int) (own := RX4) (Qf := fun A => QwI D (zwL aL (aT 0) (aN 0) (aR 0) (aP 0) (aE 0) ++ (zwT cI aT Tletters u.2)) (u.1) A) (by decide) rfl rfl (Nat.le_of_ble_eq_true rfl) ?_
  intro p e s m args below meth c A Q H locs ls hC hQ hw hl
  obtain ⟨hx, hb, hml, hr, hts, hown, hlocks, hN, hK, hA⟩ := hC
  have hl : lv_has ls 2 [(0, .ref (aL 0))] := hl
  have hiX4 : ∀ w ∈ u_ws RX4 TX4 5, w ∈ wsX4_wipe := by decide +kernel
  have hiX3 : ∀ w ∈ u_ws RX3 TX3 2, w ∈ wsX4_wipe := by decide +kernel
  have hq0 := hts (.fieldLink RX4 12 "LoadCouncil" "text" "LLoadCouncil$Text;") (by decide +kernel)
  have hq1 := hts (.initialized RX3) (by decide +kernel)
  have hq2 := hts (.instanceMethod yX3_clear) (by decide +kernel)
  have hq3 := hts (.selects RX3 yX3_clear yX3_clear) (by decide +kernel)
  unfold fX4_wipe at hf
  refine lv_aload_n hx hb dX4_wipe_0 rfl (lv_at hl 0 rfl) ?_
  refine va_get (D := D) (ci := 4) (v := .ref (aT 0)) (C := RX4) (T := TX4) (N := 5) hx hb hts hiX4 hown hK hw.1 0 rfl rfl 0 (by decide) hq0 (fun _ h9 => h9) rfl dX4_wipe_1 ?_
  refine va_getN (D := D) (ci := 3) (v := .int Tlength) (C := RX3) (T := TX3) (N := 2) hx hb hts hiX3 hown hK hw.1 1 rfl rfl 1 (by decide) (va_Nw.use rfl (nwF_X4_63 hN)) (fun _ h9 => h9) rfl dX4_wipe_4 ?_
  refine lv_istore_n (lv' := [(1, .int Tlength), (0, .ref (aL 0))]) hx hb dX4_wipe_7 rfl hl (by decide) rfl (fun ls hl => ?_)
  refine lv_aload_n hx hb dX4_wipe_8 rfl (lv_at hl 1 rfl) ?_
  refine va_get (D := D) (ci := 4) (v := .ref (aT 0)) (C := RX4) (T := TX4) (N := 5) hx hb hts hiX4 hown hK hw.1 0 rfl rfl 0 (by decide) hq0 (fun _ h9 => h9) rfl dX4_wipe_9 ?_
  obtain ⟨u1, e2, hf⟩ := zk_bd hf
  refine zk_callv (wc := zwT cI aT Tletters Tlength) (wr := zwL aL (aT 0) (aN 0) (aR 0) (aP 0) (aE 0)) hw hA [1, 2] [0] rfl rfl (by decide) (by decide) (va_runVN (C := RX3) (As := []) (rest := []) ⟨hx, hb, hml, hown, hts⟩ (kX3_clear l D cI cJ cO N aT Tletters Tlength u1 e2 H.size) ⟨va_cnB 0 hts ggX4_wipe_X3_clear rfl rfl rfl (nwM_X4_60 hN) hq1 (by decide +kernel) ⟨Nat.le_of_ble_eq_true rfl, Nat.le_of_ble_eq_true rfl⟩, hq2, hq3⟩ (zk_preV (wc := zwT cI aT Tletters Tlength) hN hK hw [1, 2] rfl (by decide) 1 3 rfl rfl) rfl rfl hl.1 rfl (lv_room (Nat.le_of_ble_eq_true rfl)) dX4_wipe_12 ⟨Nat.zero_le _, Nat.zero_le _⟩) (fun H locs hw => ?_)
  have hw : Wd D A s.heap (zwL aL (aT 0) (aN 0) (aR 0) (aP 0) (aE 0) ++ (zwT cI aT Tletters u1)) H locs := hw
  refine lv_iload_n hx hb dX4_wipe_15 rfl (lv_at hl 0 rfl) ?_
  cases hf
  exact zk_iret hx hb hr hlocks rfl hQ hw [0, 1, 2] rfl (by decide) dX4_wipe_16
set_option maxHeartbeats 4000000 in
set_option maxRecDepth 100000 in
theorem kX4_fault (l : Launch) (D : va_G) (cI cJ cO : ClassId) (N : Nat) (aL aT aR : Nat → Nat) (aN aP aE : Nat → Nat) (Tletters : Nat → Int32) (Tlength : Int32) (Rcandidates : Int32) (Rballots : Int32) (Rseats : Int32) (Rwithdrawn : Int32) (Rvoters : Nat → Int32) (Rsets : Nat → Int32) (Rrank : Nat → Int32) (u : Int32 × (Int32) × (Int32) × (Int32) × (Int32) × (Nat → Int32) × (Nat → Int32) × (Nat → Int32)) (hf : fX4_fault N Tletters Tlength Rcandidates Rballots Rseats Rwithdrawn Rvoters Rsets Rrank = some u) : CtI l yX4_fault wsX4_fault (zk_rm 6 138) D cI cJ cO [.ref (aL 0)] (zwL aL (aT 0) (aN 0) (aR 0) (aP 0) (aE 0) ++ (zwT cI aT Tletters Tlength ++ (zwC cI aR Rcandidates Rballots Rseats Rwithdrawn Rvoters Rsets Rrank))) (zwL aL (aT 0) (aN 0) (aR 0) (aP 0) (aE 0) ++ (zwT cI aT Tletters Tlength ++ (zwC cI aR u.2.1 u.2.2.1 u.2.2.2.1 u.2.2.2.2.1 u.2.2.2.2.2.1 u.2.2.2.2.2.2.1 u.2.2.2.2.2.2.2))) (u.1) := by
  refine zk_enter (cc := cX4_fault) (maxL := 1) (ret := some .int) (own := RX4) (Qf := fun A => QwI D (zwL aL (aT 0) (aN 0) (aR 0) (aP 0) (aE 0) ++ (zwT cI aT Tletters Tlength ++ (zwC cI aR u.2.1 u.2.2.1 u.2.2.2.1 u.2.2.2.2.1 u.2.2.2.2.2.1 u.2.2.2.2.2.2.1 u.2.2.2.2.2.2.2))) (u.1) A) (by decide) rfl rfl (Nat.le_of_ble_eq_true rfl) ?_
  intro p e s m args below meth c A Q H locs ls hC hQ hw hl
  obtain ⟨hx, hb, hml, hr, hts, hown, hlocks, hN, hK, hA⟩ := hC
  have hl : lv_has ls 1 [(0, .ref (aL 0))] := hl
  have hiX4 : ∀ w ∈ u_ws RX4 TX4 5, w ∈ wsX4_fault := by decide +kernel
  have hq0 := hts (.fieldLink RX4 12 "LoadCouncil" "text" "LLoadCouncil$Text;") (by decide +kernel)
  have hq1 := hts (.fieldLink RX4 23 "LoadCouncil" "trial" "LLoadCouncil$Council;") (by decide +kernel)
  have hq2 := hts (.initialized RX3) (by decide +kernel)
  have hq3 := hts (.instanceMethod yX3_readInto) (by decide +kernel)
  have hq4 := hts (.selects RX3 yX3_readInto yX3_readInto) (by decide +kernel)
  unfold fX4_fault at hf
  refine lv_aload_n hx hb dX4_fault_0 rfl (lv_at hl 0 rfl) ?_
  refine va_get (D := D) (ci := 4) (v := .ref (aT 0)) (C := RX4) (T := TX4) (N := 5) hx hb hts hiX4 hown hK hw.1 0 rfl rfl 0 (by decide) hq0 (fun _ h9 => h9) rfl dX4_fault_1 ?_
  refine lv_aload_n hx hb dX4_fault_4 rfl (lv_at hl 0 rfl) ?_
  refine va_get (D := D) (ci := 4) (v := .ref (aR 0)) (C := RX4) (T := TX4) (N := 5) hx hb hts hiX4 hown hK hw.1 0 rfl rfl 2 (by decide) hq1 (fun _ h9 => h9) rfl dX4_fault_5 ?_
  obtain ⟨u1, e2, hf⟩ := zk_bd hf
  refine zk_calli (wc := zwT cI aT Tletters Tlength ++ (zwC cI aR Rcandidates Rballots Rseats Rwithdrawn Rvoters Rsets Rrank)) (wr := zwL aL (aT 0) (aN 0) (aR 0) (aP 0) (aE 0)) hw hA [1, 2, 3, 4, 5, 6] [0] rfl rfl (by decide) (by decide) (va_runVN (C := RX3) (As := [.ref (aR 0)]) (rest := []) ⟨hx, hb, hml, hown, hts⟩ (kX3_readInto l D cI cJ cO N aT aR Tletters Tlength Rcandidates Rballots Rseats Rwithdrawn Rvoters Rsets Rrank u1 e2 H.size) ⟨va_cnB 1 hts ggX4_fault_X3_readInto rfl rfl rfl (nwM_X4_56 hN) hq2 (by decide +kernel) ⟨Nat.le_of_ble_eq_true rfl, Nat.le_of_ble_eq_true rfl⟩, hq3, hq4⟩ (zk_preV (wc := zwT cI aT Tletters Tlength ++ (zwC cI aR Rcandidates Rballots Rseats Rwithdrawn Rvoters Rsets Rrank)) hN hK hw [1, 2, 3, 4, 5, 6] rfl (by decide) 1 3 rfl rfl) rfl rfl hl.1 rfl (lv_room (Nat.le_of_ble_eq_true rfl)) dX4_fault_8 ⟨Nat.zero_le _, Nat.zero_le _⟩) (fun H locs hw => ?_)
  have hw : Wd D A s.heap (zwL aL (aT 0) (aN 0) (aR 0) (aP 0) (aE 0) ++ (zwT cI aT Tletters Tlength ++ (zwC cI aR u1.2.1 u1.2.2.1 u1.2.2.2.1 u1.2.2.2.2.1 u1.2.2.2.2.2.1 u1.2.2.2.2.2.2.1 u1.2.2.2.2.2.2.2))) H locs := hw
  cases hf
  exact zk_iret hx hb hr hlocks rfl hQ hw [0, 1, 2, 3, 4, 5, 6] rfl (by decide) dX4_fault_11
set_option maxHeartbeats 4000000 in
set_option maxRecDepth 100000 in
theorem kX4_lay (l : Launch) (D : va_G) (cI cJ cO : ClassId) (N : Nat) (aL aT aP aN aR : Nat → Nat) (aE : Nat → Nat) (Tletters : Nat → Int32) (Tlength : Int32) (Pring : Nat → Option Nat) (Ptop : Int32) (Psize : Int32) (Ncandidates : Int32) (Nballots : Int32) (Nseats : Int32) (Nwithdrawn : Int32) (Nvoters : Nat → Int32) (Nsets : Nat → Int32) (Nrank : Nat → Int32) (Rcandidates : Int32) (Rballots : Int32) (Rseats : Int32) (Rwithdrawn : Int32) (Rvoters : Nat → Int32) (Rsets : Nat → Int32) (Rrank : Nat → Int32) (u : Int32 × (Int32) × (Int32) × (Int32) × (Int32) × (Int32) × (Nat → Int32) × (Nat → Int32) × (Nat → Int32) × (Int32) × (Int32) × (Int32) × (Int32) × (Nat → Int32) × (Nat → Int32) × (Nat → Int32)) (hf : fX4_lay N Tletters Tlength Psize Ncandidates Nballots Nseats Nwithdrawn Nvoters Nsets Nrank Rcandidates Rballots Rseats Rwithdrawn Rvoters Rsets Rrank = some u) : CtI l yX4_lay wsX4_lay (zk_rm 6 138) D cI cJ cO [.ref (aL 0)] (zwL aL (aT 0) (aN 0) (aR 0) (aP 0) (aE 0) ++ (zwT cI aT Tletters Tlength ++ (zwP cO aP Pring Ptop Psize ++ (zwC cI aN Ncandidates Nballots Nseats Nwithdrawn Nvoters Nsets Nrank ++ (zwC cI aR Rcandidates Rballots Rseats Rwithdrawn Rvoters Rsets Rrank))))) (zwL aL (aT 0) (aN 0) (aR 0) (aP 0) (aE 0) ++ (zwT cI aT Tletters Tlength ++ (zwP cO aP Pring Ptop u.2.1 ++ (zwC cI aN u.2.2.1 u.2.2.2.1 u.2.2.2.2.1 u.2.2.2.2.2.1 u.2.2.2.2.2.2.1 u.2.2.2.2.2.2.2.1 u.2.2.2.2.2.2.2.2.1 ++ (zwC cI aR u.2.2.2.2.2.2.2.2.2.1 u.2.2.2.2.2.2.2.2.2.2.1 u.2.2.2.2.2.2.2.2.2.2.2.1 u.2.2.2.2.2.2.2.2.2.2.2.2.1 u.2.2.2.2.2.2.2.2.2.2.2.2.2.1 u.2.2.2.2.2.2.2.2.2.2.2.2.2.2.1 u.2.2.2.2.2.2.2.2.2.2.2.2.2.2.2))))) (u.1) := by
  refine zk_enter (cc := cX4_lay) (maxL := 1) (ret := some .int) (own := RX4) (Qf := fun A => QwI D (zwL aL (aT 0) (aN 0) (aR 0) (aP 0) (aE 0) ++ (zwT cI aT Tletters Tlength ++ (zwP cO aP Pring Ptop u.2.1 ++ (zwC cI aN u.2.2.1 u.2.2.2.1 u.2.2.2.2.1 u.2.2.2.2.2.1 u.2.2.2.2.2.2.1 u.2.2.2.2.2.2.2.1 u.2.2.2.2.2.2.2.2.1 ++ (zwC cI aR u.2.2.2.2.2.2.2.2.2.1 u.2.2.2.2.2.2.2.2.2.2.1 u.2.2.2.2.2.2.2.2.2.2.2.1 u.2.2.2.2.2.2.2.2.2.2.2.2.1 u.2.2.2.2.2.2.2.2.2.2.2.2.2.1 u.2.2.2.2.2.2.2.2.2.2.2.2.2.2.1 u.2.2.2.2.2.2.2.2.2.2.2.2.2.2.2))))) (u.1) A) (by decide) rfl rfl (Nat.le_of_ble_eq_true rfl) ?_
  intro p e s m args below meth c A Q H locs ls hC hQ hw hl
  obtain ⟨hx, hb, hml, hr, hts, hown, hlocks, hN, hK, hA⟩ := hC
  have hl : lv_has ls 1 [(0, .ref (aL 0))] := hl
  have hiX4 : ∀ w ∈ u_ws RX4 TX4 5, w ∈ wsX4_lay := by decide +kernel
  have hiX0 : ∀ w ∈ u_ws RX0 TX0 7, w ∈ wsX4_lay := by decide +kernel
  have hq0 := hts (.fieldLink RX4 12 "LoadCouncil" "text" "LLoadCouncil$Text;") (by decide +kernel)
  have hq1 := hts (.fieldLink RX4 23 "LoadCouncil" "trial" "LLoadCouncil$Council;") (by decide +kernel)
  have hq2 := hts (.initialized RX3) (by decide +kernel)
  have hq3 := hts (.instanceMethod yX3_readInto) (by decide +kernel)
  have hq4 := hts (.selects RX3 yX3_readInto yX3_readInto) (by decide +kernel)
  have hq5 := hts (.fieldLink RX4 19 "LoadCouncil" "now" "LLoadCouncil$Council;") (by decide +kernel)
  have hq6 := hts (.initialized RX0) (by decide +kernel)
  have hq7 := hts (.instanceMethod yX0_copyFrom) (by decide +kernel)
  have hq8 := hts (.selects RX0 yX0_copyFrom yX0_copyFrom) (by decide +kernel)
  have hq9 := hts (.fieldLink RX4 29 "LoadCouncil" "past" "LLoadCouncil$Past;") (by decide +kernel)
  have hq10 := hts (.initialized RX2) (by decide +kernel)
  have hq11 := hts (.instanceMethod yX2_forget) (by decide +kernel)
  have hq12 := hts (.selects RX2 yX2_forget yX2_forget) (by decide +kernel)
  unfold fX4_lay at hf
  refine lv_aload_n hx hb dX4_lay_0 rfl (lv_at hl 0 rfl) ?_
  refine va_get (D := D) (ci := 4) (v := .ref (aT 0)) (C := RX4) (T := TX4) (N := 5) hx hb hts hiX4 hown hK hw.1 0 rfl rfl 0 (by decide) hq0 (fun _ h9 => h9) rfl dX4_lay_1 ?_
  refine lv_aload_n hx hb dX4_lay_4 rfl (lv_at hl 0 rfl) ?_
  refine va_get (D := D) (ci := 4) (v := .ref (aR 0)) (C := RX4) (T := TX4) (N := 5) hx hb hts hiX4 hown hK hw.1 0 rfl rfl 2 (by decide) hq1 (fun _ h9 => h9) rfl dX4_lay_5 ?_
  obtain ⟨u1, e2, hf⟩ := zk_bd hf
  refine zk_calli (wc := zwT cI aT Tletters Tlength ++ (zwC cI aR Rcandidates Rballots Rseats Rwithdrawn Rvoters Rsets Rrank)) (wr := zwL aL (aT 0) (aN 0) (aR 0) (aP 0) (aE 0) ++ (zwP cO aP Pring Ptop Psize ++ (zwC cI aN Ncandidates Nballots Nseats Nwithdrawn Nvoters Nsets Nrank))) hw hA [1, 2, 9, 10, 11, 12] [0, 3, 4, 5, 6, 7, 8] rfl rfl (by decide) (by decide) (va_runVN (C := RX3) (As := [.ref (aR 0)]) (rest := []) ⟨hx, hb, hml, hown, hts⟩ (kX3_readInto l D cI cJ cO N aT aR Tletters Tlength Rcandidates Rballots Rseats Rwithdrawn Rvoters Rsets Rrank u1 e2 H.size) ⟨va_cnB 1 hts ggX4_lay_X3_readInto rfl rfl rfl (nwM_X4_56 hN) hq2 (by decide +kernel) ⟨Nat.le_of_ble_eq_true rfl, Nat.le_of_ble_eq_true rfl⟩, hq3, hq4⟩ (zk_preV (wc := zwT cI aT Tletters Tlength ++ (zwC cI aR Rcandidates Rballots Rseats Rwithdrawn Rvoters Rsets Rrank)) hN hK hw [1, 2, 9, 10, 11, 12] rfl (by decide) 1 3 rfl rfl) rfl rfl hl.1 rfl (lv_room (Nat.le_of_ble_eq_true rfl)) dX4_lay_8 ⟨Nat.zero_le _, Nat.zero_le _⟩) (fun H locs hw => ?_)
  have hw : Wd D A s.heap (zwL aL (aT 0) (aN 0) (aR 0) (aP 0) (aE 0) ++ (zwP cO aP Pring Ptop Psize ++ (zwC cI aN Ncandidates Nballots Nseats Nwithdrawn Nvoters Nsets Nrank ++ (zwT cI aT Tletters Tlength ++ (zwC cI aR u1.2.1 u1.2.2.1 u1.2.2.2.1 u1.2.2.2.2.1 u1.2.2.2.2.2.1 u1.2.2.2.2.2.2.1 u1.2.2.2.2.2.2.2))))) H locs := hw
  refine lv_bipush (v := (-4)) hx hb dX4_lay_11 (by decide) ?_
  refine lv_icmp_ne (tgt := 26) hx hb dX4_lay_13 (by decide) (fun c3 => ?_) (fun c3 => ?_)
  · replace hf := zk_f c3 hf
    refine lv_bipush (v := (-2)) hx hb dX4_lay_26 (by decide) ?_
    cases hf
    exact zk_iret hx hb hr hlocks rfl hQ hw [0, 7, 8, 1, 2, 3, 4, 5, 6, 9, 10, 11, 12] rfl (by decide) dX4_lay_28
  · replace hf := zk_t c3 hf
    refine lv_aload_n hx hb dX4_lay_16 rfl (lv_at hl 0 rfl) ?_
    refine va_get (D := D) (ci := 4) (v := .ref (aR 0)) (C := RX4) (T := TX4) (N := 5) hx hb hts hiX4 hown hK hw.1 0 rfl rfl 2 (by decide) hq1 (fun _ h9 => h9) rfl dX4_lay_17 ?_
    refine va_getN (D := D) (ci := 0) (v := .int u1.2.1) (C := RX0) (T := TX0) (N := 7) hx hb hts hiX0 hown hK hw.1 9 rfl rfl 0 (by decide) (va_Nw.use rfl (nwF_X4_66 hN)) (fun _ h9 => h9) rfl dX4_lay_20 ?_
    refine lv_if_ne (tgt := 29) hx hb dX4_lay_23 (by decide) (fun c4 => ?_) (fun c4 => ?_)
    · replace hf := zk_f c4 hf
      refine lv_aload_n hx hb dX4_lay_29 rfl (lv_at hl 0 rfl) ?_
      refine va_get (D := D) (ci := 4) (v := .ref (aN 0)) (C := RX4) (T := TX4) (N := 5) hx hb hts hiX4 hown hK hw.1 0 rfl rfl 1 (by decide) hq5 (fun _ h9 => h9) rfl dX4_lay_30 ?_
      refine lv_aload_n hx hb dX4_lay_33 rfl (lv_at hl 0 rfl) ?_
      refine va_get (D := D) (ci := 4) (v := .ref (aR 0)) (C := RX4) (T := TX4) (N := 5) hx hb hts hiX4 hown hK hw.1 0 rfl rfl 2 (by decide) hq1 (fun _ h9 => h9) rfl dX4_lay_34 ?_
      obtain ⟨u5, e6, hf⟩ := zk_bd hf
      refine zk_callv (wc := zwC cI aN Ncandidates Nballots Nseats Nwithdrawn Nvoters Nsets Nrank ++ (zwC cI aR u1.2.1 u1.2.2.1 u1.2.2.2.1 u1.2.2.2.2.1 u1.2.2.2.2.2.1 u1.2.2.2.2.2.2.1 u1.2.2.2.2.2.2.2)) (wr := zwL aL (aT 0) (aN 0) (aR 0) (aP 0) (aE 0) ++ (zwP cO aP Pring Ptop Psize ++ (zwT cI aT Tletters Tlength))) hw hA [3, 4, 5, 6, 9, 10, 11, 12] [0, 1, 2, 7, 8] rfl rfl (by decide) (by decide) (va_runVN (C := RX0) (As := [.ref (aR 0)]) (rest := []) ⟨hx, hb, hml, hown, hts⟩ (kX0_copyFrom l D cI cJ cO N aN aR Ncandidates Nballots Nseats Nwithdrawn Nvoters Nsets Nrank u1.2.1 u1.2.2.1 u1.2.2.2.1 u1.2.2.2.2.1 u1.2.2.2.2.2.1 u1.2.2.2.2.2.2.1 u1.2.2.2.2.2.2.2 u5 e6 H.size) ⟨va_cnB 1 hts ggX4_lay_X0_copyFrom rfl rfl rfl (nwM_X4_69 hN) hq6 (by decide +kernel) ⟨Nat.le_of_ble_eq_true rfl, Nat.le_of_ble_eq_true rfl⟩, hq7, hq8⟩ (zk_preV (wc := zwC cI aN Ncandidates Nballots Nseats Nwithdrawn Nvoters Nsets Nrank ++ (zwC cI aR u1.2.1 u1.2.2.1 u1.2.2.2.1 u1.2.2.2.2.1 u1.2.2.2.2.2.1 u1.2.2.2.2.2.2.1 u1.2.2.2.2.2.2.2)) hN hK hw [3, 4, 5, 6, 9, 10, 11, 12] rfl (by decide) 3 0 rfl rfl) rfl rfl hl.1 rfl (lv_room (Nat.le_of_ble_eq_true rfl)) dX4_lay_37 ⟨Nat.zero_le _, Nat.zero_le _⟩) (fun H locs hw => ?_)
      have hw : Wd D A s.heap (zwL aL (aT 0) (aN 0) (aR 0) (aP 0) (aE 0) ++ (zwP cO aP Pring Ptop Psize ++ (zwT cI aT Tletters Tlength ++ (zwC cI aN u5.1 u5.2.1 u5.2.2.1 u5.2.2.2.1 u5.2.2.2.2.1 u5.2.2.2.2.2.1 u5.2.2.2.2.2.2 ++ (zwC cI aR u1.2.1 u1.2.2.1 u1.2.2.2.1 u1.2.2.2.2.1 u1.2.2.2.2.2.1 u1.2.2.2.2.2.2.1 u1.2.2.2.2.2.2.2))))) H locs := hw
      refine lv_aload_n hx hb dX4_lay_40 rfl (lv_at hl 0 rfl) ?_
      refine va_get (D := D) (ci := 4) (v := .ref (aP 0)) (C := RX4) (T := TX4) (N := 5) hx hb hts hiX4 hown hK hw.1 0 rfl rfl 3 (by decide) hq9 (fun _ h9 => h9) rfl dX4_lay_41 ?_
      obtain ⟨u7, e8, hf⟩ := zk_bd hf
      refine zk_callv (wc := zwP cO aP Pring Ptop Psize) (wr := zwL aL (aT 0) (aN 0) (aR 0) (aP 0) (aE 0) ++ (zwT cI aT Tletters Tlength ++ (zwC cI aN u5.1 u5.2.1 u5.2.2.1 u5.2.2.2.1 u5.2.2.2.2.1 u5.2.2.2.2.2.1 u5.2.2.2.2.2.2 ++ (zwC cI aR u1.2.1 u1.2.2.1 u1.2.2.2.1 u1.2.2.2.2.1 u1.2.2.2.2.2.1 u1.2.2.2.2.2.2.1 u1.2.2.2.2.2.2.2)))) hw hA [1, 2] [0, 3, 4, 5, 6, 7, 8, 9, 10, 11, 12] rfl rfl (by decide) (by decide) (va_runVN (C := RX2) (As := []) (rest := []) ⟨hx, hb, hml, hown, hts⟩ (kX2_forget l D cI cJ cO N aP Pring Ptop Psize u7 e8 H.size) ⟨va_cnB 0 hts ggX4_lay_X2_forget rfl rfl rfl (nwM_X4_73 hN) hq10 (by decide +kernel) ⟨Nat.le_of_ble_eq_true rfl, Nat.le_of_ble_eq_true rfl⟩, hq11, hq12⟩ (zk_preV (wc := zwP cO aP Pring Ptop Psize) hN hK hw [1, 2] rfl (by decide) 1 2 rfl rfl) rfl rfl hl.1 rfl (lv_room (Nat.le_of_ble_eq_true rfl)) dX4_lay_44 ⟨Nat.zero_le _, Nat.zero_le _⟩) (fun H locs hw => ?_)
      have hw : Wd D A s.heap (zwL aL (aT 0) (aN 0) (aR 0) (aP 0) (aE 0) ++ (zwT cI aT Tletters Tlength ++ (zwC cI aN u5.1 u5.2.1 u5.2.2.1 u5.2.2.2.1 u5.2.2.2.2.1 u5.2.2.2.2.2.1 u5.2.2.2.2.2.2 ++ (zwC cI aR u1.2.1 u1.2.2.1 u1.2.2.2.1 u1.2.2.2.2.1 u1.2.2.2.2.2.1 u1.2.2.2.2.2.2.1 u1.2.2.2.2.2.2.2 ++ (zwP cO aP Pring Ptop u7))))) H locs := hw
      refine lv_aload_n hx hb dX4_lay_47 rfl (lv_at hl 0 rfl) ?_
      refine va_get (D := D) (ci := 4) (v := .ref (aN 0)) (C := RX4) (T := TX4) (N := 5) hx hb hts hiX4 hown hK hw.1 0 rfl rfl 1 (by decide) hq5 (fun _ h9 => h9) rfl dX4_lay_48 ?_
      refine va_getN (D := D) (ci := 0) (v := .int u5.1) (C := RX0) (T := TX0) (N := 7) hx hb hts hiX0 hown hK hw.1 3 rfl rfl 0 (by decide) (va_Nw.use rfl (nwF_X4_66 hN)) (fun _ h9 => h9) rfl dX4_lay_51 ?_
      cases hf
      exact zk_iret hx hb hr hlocks rfl hQ hw [0, 1, 2, 11, 12, 3, 4, 5, 6, 7, 8, 9, 10] rfl (by decide) dX4_lay_54
    · replace hf := zk_t c4 hf
      refine lv_bipush (v := (-2)) hx hb dX4_lay_26 (by decide) ?_
      cases hf
      exact zk_iret hx hb hr hlocks rfl hQ hw [0, 7, 8, 1, 2, 3, 4, 5, 6, 9, 10, 11, 12] rfl (by decide) dX4_lay_28
set_option maxHeartbeats 4000000 in
set_option maxRecDepth 100000 in
theorem kX4_isSet (l : Launch) (D : va_G) (cI cJ cO : ClassId) (N : Nat) (aL aN : Nat → Nat) (aT aR aP aE : Nat → Nat) (p0 : Int32) (Ncandidates : Int32) (Nballots : Int32) (Nseats : Int32) (Nwithdrawn : Int32) (Nvoters : Nat → Int32) (Nsets : Nat → Int32) (Nrank : Nat → Int32) (u : Int32) (hf : fX4_isSet N p0 Ncandidates = some u) : CtI l yX4_isSet wsX4_isSet (zk_rm 0 0) D cI cJ cO [.ref (aL 0), .int p0] (zwL aL (aT 0) (aN 0) (aR 0) (aP 0) (aE 0) ++ (zwC cI aN Ncandidates Nballots Nseats Nwithdrawn Nvoters Nsets Nrank)) (zwL aL (aT 0) (aN 0) (aR 0) (aP 0) (aE 0) ++ (zwC cI aN Ncandidates Nballots Nseats Nwithdrawn Nvoters Nsets Nrank)) (u) := by
  refine zk_enter (cc := cX4_isSet) (maxL := 2) (ret := some .boolean) (own := RX4) (Qf := fun A => QwI D (zwL aL (aT 0) (aN 0) (aR 0) (aP 0) (aE 0) ++ (zwC cI aN Ncandidates Nballots Nseats Nwithdrawn Nvoters Nsets Nrank)) (u) A) (by decide) rfl rfl (Nat.le_of_ble_eq_true rfl) ?_
  intro p e s m args below meth c A Q H locs ls hC hQ hw hl
  obtain ⟨hx, hb, hml, hr, hts, hown, hlocks, hN, hK, hA⟩ := hC
  have hl : lv_has ls 2 [(0, .ref (aL 0)), (1, .int p0)] := hl
  have hiX4 : ∀ w ∈ u_ws RX4 TX4 5, w ∈ wsX4_isSet := by decide +kernel
  have hiX0 : ∀ w ∈ u_ws RX0 TX0 7, w ∈ wsX4_isSet := by decide +kernel
  have hq0 := hts (.fieldLink RX4 19 "LoadCouncil" "now" "LLoadCouncil$Council;") (by decide +kernel)
  unfold fX4_isSet at hf
  refine lv_iload_n hx hb dX4_isSet_0 rfl (lv_at hl 1 rfl) ?_
  refine lv_iconst (v := 1) hx hb dX4_isSet_1 (by decide) ?_
  refine lv_icmp_lt (tgt := 22) hx hb dX4_isSet_2 (by decide) (fun c1 => ?_) (fun c1 => ?_)
  · replace hf := zk_t c1 hf
    refine lv_iconst (v := 0) hx hb dX4_isSet_22 (by decide) ?_
    cases hf
    exact zk_iret hx hb hr hlocks rfl hQ hw [0, 1, 2, 3, 4] rfl (by decide) dX4_isSet_23
  · replace hf := zk_f c1 hf
    refine lv_iload_n hx hb dX4_isSet_5 rfl (lv_at hl 1 rfl) ?_
    refine lv_iconst (v := 1) hx hb dX4_isSet_6 (by decide) ?_
    refine lv_aload_n hx hb dX4_isSet_7 rfl (lv_at hl 0 rfl) ?_
    refine va_get (D := D) (ci := 4) (v := .ref (aN 0)) (C := RX4) (T := TX4) (N := 5) hx hb hts hiX4 hown hK hw.1 0 rfl rfl 1 (by decide) hq0 (fun _ h9 => h9) rfl dX4_isSet_8 ?_
    refine va_getN (D := D) (ci := 0) (v := .int Ncandidates) (C := RX0) (T := TX0) (N := 7) hx hb hts hiX0 hown hK hw.1 1 rfl rfl 0 (by decide) (va_Nw.use rfl (nwF_X4_66 hN)) (fun _ h9 => h9) rfl dX4_isSet_11 ?_
    refine lv_ishl hx hb dX4_isSet_14 ?_
    refine lv_icmp_ge (tgt := 22) hx hb dX4_isSet_15 (by decide) (fun c2 => ?_) (fun c2 => ?_)
    · replace hf := zk_t c2 hf
      refine lv_iconst (v := 0) hx hb dX4_isSet_22 (by decide) ?_
      cases hf
      exact zk_iret hx hb hr hlocks rfl hQ hw [0, 1, 2, 3, 4] rfl (by decide) dX4_isSet_23
    · replace hf := zk_f c2 hf
      refine lv_iconst (v := 1) hx hb dX4_isSet_18 (by decide) ?_
      refine lv_goto (tgt := 23) hx hb dX4_isSet_19 (by decide) ?_
      cases hf
      exact zk_iret hx hb hr hlocks rfl hQ hw [0, 1, 2, 3, 4] rfl (by decide) dX4_isSet_23
set_option maxHeartbeats 4000000 in
set_option maxRecDepth 100000 in
theorem kX4_ballot (l : Launch) (D : va_G) (cI cJ cO : ClassId) (N : Nat) (aL aP aN aQ : Nat → Nat) (aT aR aE : Nat → Nat) (p0 : Int32) (p1 : Int32) (Pring : Nat → Option Nat) (Ptop : Int32) (Psize : Int32) (Ncandidates : Int32) (Nballots : Int32) (Nseats : Int32) (Nwithdrawn : Int32) (Nvoters : Nat → Int32) (Nsets : Nat → Int32) (Nrank : Nat → Int32) (Qcandidates : Int32) (Qballots : Int32) (Qseats : Int32) (Qwithdrawn : Int32) (Qvoters : Nat → Int32) (Qsets : Nat → Int32) (Qrank : Nat → Int32) (hg : Pring (Ptop).toNatClampNeg = some (aQ 0)) (u : Int32 × (Int32) × (Int32) × (Int32) × (Nat → Int32) × (Nat → Int32) × (Int32) × (Int32) × (Int32) × (Int32) × (Nat → Int32) × (Nat → Int32) × (Nat → Int32)) (hf : fX4_ballot N p0 p1 Ptop Psize Ncandidates Nballots Nseats Nwithdrawn Nvoters Nsets Nrank Qcandidates Qballots Qseats Qwithdrawn Qvoters Qsets Qrank = some u) : CtI l yX4_ballot wsX4_ballot (zk_rm 3 102) D cI cJ cO [.ref (aL 0), .int p0, .int p1] (zwL aL (aT 0) (aN 0) (aR 0) (aP 0) (aE 0) ++ (zwP cO aP Pring Ptop Psize ++ (zwC cI aN Ncandidates Nballots Nseats Nwithdrawn Nvoters Nsets Nrank ++ (zwC cI aQ Qcandidates Qballots Qseats Qwithdrawn Qvoters Qsets Qrank)))) (zwL aL (aT 0) (aN 0) (aR 0) (aP 0) (aE 0) ++ (zwP cO aP Pring u.2.1 u.2.2.1 ++ (zwC cI aN Ncandidates u.2.2.2.1 Nseats Nwithdrawn u.2.2.2.2.1 u.2.2.2.2.2.1 Nrank ++ (zwC cI aQ u.2.2.2.2.2.2.1 u.2.2.2.2.2.2.2.1 u.2.2.2.2.2.2.2.2.1 u.2.2.2.2.2.2.2.2.2.1 u.2.2.2.2.2.2.2.2.2.2.1 u.2.2.2.2.2.2.2.2.2.2.2.1 u.2.2.2.2.2.2.2.2.2.2.2.2)))) (u.1) := by
  refine zk_enter (cc := cX4_ballot) (maxL := 3) (ret := some .int) (own := RX4) (Qf := fun A => QwI D (zwL aL (aT 0) (aN 0) (aR 0) (aP 0) (aE 0) ++ (zwP cO aP Pring u.2.1 u.2.2.1 ++ (zwC cI aN Ncandidates u.2.2.2.1 Nseats Nwithdrawn u.2.2.2.2.1 u.2.2.2.2.2.1 Nrank ++ (zwC cI aQ u.2.2.2.2.2.2.1 u.2.2.2.2.2.2.2.1 u.2.2.2.2.2.2.2.2.1 u.2.2.2.2.2.2.2.2.2.1 u.2.2.2.2.2.2.2.2.2.2.1 u.2.2.2.2.2.2.2.2.2.2.2.1 u.2.2.2.2.2.2.2.2.2.2.2.2)))) (u.1) A) (by decide) rfl rfl (Nat.le_of_ble_eq_true rfl) ?_
  intro p e s m args below meth c A Q H locs ls hC hQ hw hl
  obtain ⟨hx, hb, hml, hr, hts, hown, hlocks, hN, hK, hA⟩ := hC
  have hl : lv_has ls 3 [(0, .ref (aL 0)), (1, .int p0), (2, .int p1)] := hl
  have hiX4 : ∀ w ∈ u_ws RX4 TX4 5, w ∈ wsX4_ballot := by decide +kernel
  have hiX0 : ∀ w ∈ u_ws RX0 TX0 7, w ∈ wsX4_ballot := by decide +kernel
  have hq0 := hts (.fieldLink RX4 19 "LoadCouncil" "now" "LLoadCouncil$Council;") (by decide +kernel)
  have hq1 := hts (.initialized RX0) (by decide +kernel)
  have hq2 := hts (.instanceMethod yX0_allVoters) (by decide +kernel)
  have hq3 := hts (.selects RX0 yX0_allVoters yX0_allVoters) (by decide +kernel)
  have hq4 := hts (.fieldLink RX4 29 "LoadCouncil" "past" "LLoadCouncil$Past;") (by decide +kernel)
  have hq5 := hts (.initialized RX2) (by decide +kernel)
  have hq6 := hts (.instanceMethod yX2_keep) (by decide +kernel)
  have hq7 := hts (.selects RX2 yX2_keep yX2_keep) (by decide +kernel)
  have hq8 := hts (.instanceMethod yX0_addBallot) (by decide +kernel)
  have hq9 := hts (.selects RX0 yX0_addBallot yX0_addBallot) (by decide +kernel)
  unfold fX4_ballot at hf
  refine lv_iload_n hx hb dX4_ballot_0 rfl (lv_at hl 1 rfl) ?_
  obtain ⟨u1, e2, hf⟩ := zk_bd hf
  refine zk_calli (wc := []) (wr := zwL aL (aT 0) (aN 0) (aR 0) (aP 0) (aE 0) ++ (zwP cO aP Pring Ptop Psize ++ (zwC cI aN Ncandidates Nballots Nseats Nwithdrawn Nvoters Nsets Nrank ++ (zwC cI aQ Qcandidates Qballots Qseats Qwithdrawn Qvoters Qsets Qrank)))) hw hA [] [0, 1, 2, 3, 4, 5, 6, 7, 8, 9, 10] rfl rfl (by decide) (by decide) (va_runS (As := [.int p0]) (rest := []) ⟨hx, hb, hml, hown, hts⟩ (kX4_isVoters l D cI cJ cO N p0 u1 e2 H.size) (va_cwS 1 hts gX4_ballot_X4_isVoters rfl rfl rfl (by decide +kernel) ⟨Nat.le_of_ble_eq_true rfl, Nat.le_of_ble_eq_true rfl⟩) (zk_preS (wc := []) hN hK hw [] rfl (by decide)) rfl rfl hl.1 rfl (lv_room (Nat.le_of_ble_eq_true rfl)) dX4_ballot_1 ⟨Nat.zero_le _, Nat.zero_le _⟩) (fun H locs hw => ?_)
  have hw : Wd D A s.heap (zwL aL (aT 0) (aN 0) (aR 0) (aP 0) (aE 0) ++ (zwP cO aP Pring Ptop Psize ++ (zwC cI aN Ncandidates Nballots Nseats Nwithdrawn Nvoters Nsets Nrank ++ (zwC cI aQ Qcandidates Qballots Qseats Qwithdrawn Qvoters Qsets Qrank)))) H locs := hw
  refine lv_if_eq (tgt := 15) hx hb dX4_ballot_4 (by decide) (fun c3 => ?_) (fun c3 => ?_)
  · replace hf := zk_t c3 hf
    refine lv_iconst (v := (-1)) hx hb dX4_ballot_15 (by decide) ?_
    cases hf
    exact zk_iret hx hb hr hlocks rfl hQ hw [0, 1, 2, 3, 4, 5, 6, 7, 8, 9, 10] rfl (by decide) dX4_ballot_16
  · replace hf := zk_f c3 hf
    refine lv_aload_n hx hb dX4_ballot_7 rfl (lv_at hl 0 rfl) ?_
    refine lv_iload_n hx hb dX4_ballot_8 rfl (lv_at hl 2 rfl) ?_
    obtain ⟨u4, e5, hf⟩ := zk_bd hf
    refine zk_calli (wc := zwL aL (aT 0) (aN 0) (aR 0) (aP 0) (aE 0) ++ (zwC cI aN Ncandidates Nballots Nseats Nwithdrawn Nvoters Nsets Nrank)) (wr := zwP cO aP Pring Ptop Psize ++ (zwC cI aQ Qcandidates Qballots Qseats Qwithdrawn Qvoters Qsets Qrank)) hw hA [0, 3, 4, 5, 6] [1, 2, 7, 8, 9, 10] rfl rfl (by decide) (by decide) (va_runV (C := RX4) (As := [.int p1]) (rest := []) ⟨hx, hb, hml, hown, hts⟩ (kX4_isSet l D cI cJ cO N aL aN aT aR aP aE p1 Ncandidates Nballots Nseats Nwithdrawn Nvoters Nsets Nrank u4 e5 H.size) (cwV 1 hts gX4_ballot_X4_isSet rfl rfl rfl (by decide +kernel) ⟨Nat.le_of_ble_eq_true rfl, Nat.le_of_ble_eq_true rfl⟩) (zk_preV (wc := zwL aL (aT 0) (aN 0) (aR 0) (aP 0) (aE 0) ++ (zwC cI aN Ncandidates Nballots Nseats Nwithdrawn Nvoters Nsets Nrank)) hN hK hw [0, 3, 4, 5, 6] rfl (by decide) 0 4 rfl rfl) rfl rfl hl.1 rfl (lv_room (Nat.le_of_ble_eq_true rfl)) dX4_ballot_9 ⟨Nat.zero_le _, Nat.zero_le _⟩) (fun H locs hw => ?_)
    have hw : Wd D A s.heap (zwP cO aP Pring Ptop Psize ++ (zwC cI aQ Qcandidates Qballots Qseats Qwithdrawn Qvoters Qsets Qrank ++ (zwL aL (aT 0) (aN 0) (aR 0) (aP 0) (aE 0) ++ (zwC cI aN Ncandidates Nballots Nseats Nwithdrawn Nvoters Nsets Nrank)))) H locs := hw
    refine lv_if_ne (tgt := 17) hx hb dX4_ballot_12 (by decide) (fun c6 => ?_) (fun c6 => ?_)
    · replace hf := zk_f c6 hf
      refine lv_aload_n hx hb dX4_ballot_17 rfl (lv_at hl 0 rfl) ?_
      refine va_get (D := D) (ci := 4) (v := .ref (aN 0)) (C := RX4) (T := TX4) (N := 5) hx hb hts hiX4 hown hK hw.1 6 rfl rfl 1 (by decide) hq0 (fun _ h9 => h9) rfl dX4_ballot_18 ?_
      refine va_getN (D := D) (ci := 0) (v := .int Nballots) (C := RX0) (T := TX0) (N := 7) hx hb hts hiX0 hown hK hw.1 7 rfl rfl 1 (by decide) (va_Nw.use rfl (nwF_X4_82 hN)) (fun _ h9 => h9) rfl dX4_ballot_21 ?_
      refine lv_bipush (v := 10) hx hb dX4_ballot_24 (by decide) ?_
      refine lv_icmp_ge (tgt := 43) hx hb dX4_ballot_26 (by decide) (fun c7 => ?_) (fun c7 => ?_)
      · replace hf := zk_t c7 hf
        refine lv_bipush (v := (-3)) hx hb dX4_ballot_43 (by decide) ?_
        cases hf
        exact zk_iret hx hb hr hlocks rfl hQ hw [6, 0, 1, 7, 8, 9, 10, 2, 3, 4, 5] rfl (by decide) dX4_ballot_45
      · replace hf := zk_f c7 hf
        refine lv_aload_n hx hb dX4_ballot_29 rfl (lv_at hl 0 rfl) ?_
        refine va_get (D := D) (ci := 4) (v := .ref (aN 0)) (C := RX4) (T := TX4) (N := 5) hx hb hts hiX4 hown hK hw.1 6 rfl rfl 1 (by decide) hq0 (fun _ h9 => h9) rfl dX4_ballot_30 ?_
        obtain ⟨u8, e9, hf⟩ := zk_bd hf
        refine zk_calli (wc := zwC cI aN Ncandidates Nballots Nseats Nwithdrawn Nvoters Nsets Nrank) (wr := zwP cO aP Pring Ptop Psize ++ (zwC cI aQ Qcandidates Qballots Qseats Qwithdrawn Qvoters Qsets Qrank ++ (zwL aL (aT 0) (aN 0) (aR 0) (aP 0) (aE 0)))) hw hA [7, 8, 9, 10] [0, 1, 2, 3, 4, 5, 6] rfl rfl (by decide) (by decide) (va_runVN (C := RX0) (As := []) (rest := []) ⟨hx, hb, hml, hown, hts⟩ (kX0_allVoters l D cI cJ cO N aN Ncandidates Nballots Nseats Nwithdrawn Nvoters Nsets Nrank u8 e9 H.size) ⟨va_cnB 0 hts ggX4_ballot_X0_allVoters rfl rfl rfl (nwM_X4_85 hN) hq1 (by decide +kernel) ⟨Nat.le_of_ble_eq_true rfl, Nat.le_of_ble_eq_true rfl⟩, hq2, hq3⟩ (zk_preV (wc := zwC cI aN Ncandidates Nballots Nseats Nwithdrawn Nvoters Nsets Nrank) hN hK hw [7, 8, 9, 10] rfl (by decide) 7 0 rfl rfl) rfl rfl hl.1 rfl (lv_room (Nat.le_of_ble_eq_true rfl)) dX4_ballot_33 ⟨Nat.zero_le _, Nat.zero_le _⟩) (fun H locs hw => ?_)
        have hw : Wd D A s.heap (zwP cO aP Pring Ptop Psize ++ (zwC cI aQ Qcandidates Qballots Qseats Qwithdrawn Qvoters Qsets Qrank ++ (zwL aL (aT 0) (aN 0) (aR 0) (aP 0) (aE 0) ++ (zwC cI aN Ncandidates Nballots Nseats Nwithdrawn Nvoters Nsets Nrank)))) H locs := hw
        refine lv_iload_n hx hb dX4_ballot_36 rfl (lv_at hl 1 rfl) ?_
        refine lv_iadd hx hb dX4_ballot_37 ?_
        refine lv_bipush (v := 40) hx hb dX4_ballot_38 (by decide) ?_
        refine lv_icmp_le (tgt := 46) hx hb dX4_ballot_40 (by decide) (fun c10 => ?_) (fun c10 => ?_)
        · replace hf := zk_t c10 hf
          refine lv_aload_n hx hb dX4_ballot_46 rfl (lv_at hl 0 rfl) ?_
          refine va_get (D := D) (ci := 4) (v := .ref (aP 0)) (C := RX4) (T := TX4) (N := 5) hx hb hts hiX4 hown hK hw.1 6 rfl rfl 3 (by decide) hq4 (fun _ h9 => h9) rfl dX4_ballot_47 ?_
          refine lv_aload_n hx hb dX4_ballot_50 rfl (lv_at hl 0 rfl) ?_
          refine va_get (D := D) (ci := 4) (v := .ref (aN 0)) (C := RX4) (T := TX4) (N := 5) hx hb hts hiX4 hown hK hw.1 6 rfl rfl 1 (by decide) hq0 (fun _ h9 => h9) rfl dX4_ballot_51 ?_
          obtain ⟨u11, e12, hf⟩ := zk_bd hf
          refine zk_callv (wc := zwP cO aP Pring Ptop Psize ++ (zwC cI aN Ncandidates Nballots Nseats Nwithdrawn Nvoters Nsets Nrank ++ (zwC cI aQ Qcandidates Qballots Qseats Qwithdrawn Qvoters Qsets Qrank))) (wr := zwL aL (aT 0) (aN 0) (aR 0) (aP 0) (aE 0)) hw hA [0, 1, 7, 8, 9, 10, 2, 3, 4, 5] [6] rfl rfl (by decide) (by decide) (va_runVN (C := RX2) (As := [.ref (aN 0)]) (rest := []) ⟨hx, hb, hml, hown, hts⟩ (kX2_keep l D cI cJ cO N aP aN aQ Pring Ptop Psize Ncandidates Nballots Nseats Nwithdrawn Nvoters Nsets Nrank Qcandidates Qballots Qseats Qwithdrawn Qvoters Qsets Qrank hg u11 e12 H.size) ⟨va_cnB 1 hts ggX4_ballot_X2_keep rfl rfl rfl (nwM_X4_88 hN) hq5 (by decide +kernel) ⟨Nat.le_of_ble_eq_true rfl, Nat.le_of_ble_eq_true rfl⟩, hq6, hq7⟩ (zk_preV (wc := zwP cO aP Pring Ptop Psize ++ (zwC cI aN Ncandidates Nballots Nseats Nwithdrawn Nvoters Nsets Nrank ++ (zwC cI aQ Qcandidates Qballots Qseats Qwithdrawn Qvoters Qsets Qrank))) hN hK hw [0, 1, 7, 8, 9, 10, 2, 3, 4, 5] rfl (by decide) 0 2 rfl rfl) rfl rfl hl.1 rfl (lv_room (Nat.le_of_ble_eq_true rfl)) dX4_ballot_54 ⟨Nat.zero_le _, Nat.zero_le _⟩) (fun H locs hw => ?_)
          have hw : Wd D A s.heap (zwL aL (aT 0) (aN 0) (aR 0) (aP 0) (aE 0) ++ (zwP cO aP Pring u11.1 u11.2.1 ++ (zwC cI aN Ncandidates Nballots Nseats Nwithdrawn Nvoters Nsets Nrank ++ (zwC cI aQ u11.2.2.1 u11.2.2.2.1 u11.2.2.2.2.1 u11.2.2.2.2.2.1 u11.2.2.2.2.2.2.1 u11.2.2.2.2.2.2.2.1 u11.2.2.2.2.2.2.2.2)))) H locs := hw
          refine lv_aload_n hx hb dX4_ballot_57 rfl (lv_at hl 0 rfl) ?_
          refine va_get (D := D) (ci := 4) (v := .ref (aN 0)) (C := RX4) (T := TX4) (N := 5) hx hb hts hiX4 hown hK hw.1 0 rfl rfl 1 (by decide) hq0 (fun _ h9 => h9) rfl dX4_ballot_58 ?_
          refine lv_iload_n hx hb dX4_ballot_61 rfl (lv_at hl 1 rfl) ?_
          refine lv_iload_n hx hb dX4_ballot_62 rfl (lv_at hl 2 rfl) ?_
          obtain ⟨u13, e14, hf⟩ := zk_bd hf
          refine zk_callv (wc := zwC cI aN Ncandidates Nballots Nseats Nwithdrawn Nvoters Nsets Nrank) (wr := zwL aL (aT 0) (aN 0) (aR 0) (aP 0) (aE 0) ++ (zwP cO aP Pring u11.1 u11.2.1 ++ (zwC cI aQ u11.2.2.1 u11.2.2.2.1 u11.2.2.2.2.1 u11.2.2.2.2.2.1 u11.2.2.2.2.2.2.1 u11.2.2.2.2.2.2.2.1 u11.2.2.2.2.2.2.2.2))) hw hA [3, 4, 5, 6] [0, 1, 2, 7, 8, 9, 10] rfl rfl (by decide) (by decide) (va_runVN (C := RX0) (As := [.int p0, .int p1]) (rest := []) ⟨hx, hb, hml, hown, hts⟩ (kX0_addBallot l D cI cJ cO N aN p0 p1 Ncandidates Nballots Nseats Nwithdrawn Nvoters Nsets Nrank u13 e14 H.size) ⟨va_cnB 2 hts ggX4_ballot_X0_addBallot rfl rfl rfl (nwM_X4_91 hN) hq1 (by decide +kernel) ⟨Nat.le_of_ble_eq_true rfl, Nat.le_of_ble_eq_true rfl⟩, hq8, hq9⟩ (zk_preV (wc := zwC cI aN Ncandidates Nballots Nseats Nwithdrawn Nvoters Nsets Nrank) hN hK hw [3, 4, 5, 6] rfl (by decide) 3 0 rfl rfl) rfl rfl hl.1 rfl (lv_room (Nat.le_of_ble_eq_true rfl)) dX4_ballot_63 ⟨Nat.zero_le _, Nat.zero_le _⟩) (fun H locs hw => ?_)
          have hw : Wd D A s.heap (zwL aL (aT 0) (aN 0) (aR 0) (aP 0) (aE 0) ++ (zwP cO aP Pring u11.1 u11.2.1 ++ (zwC cI aQ u11.2.2.1 u11.2.2.2.1 u11.2.2.2.2.1 u11.2.2.2.2.2.1 u11.2.2.2.2.2.2.1 u11.2.2.2.2.2.2.2.1 u11.2.2.2.2.2.2.2.2 ++ (zwC cI aN Ncandidates u13.1 Nseats Nwithdrawn u13.2.1 u13.2.2 Nrank)))) H locs := hw
          refine lv_aload_n hx hb dX4_ballot_66 rfl (lv_at hl 0 rfl) ?_
          refine va_get (D := D) (ci := 4) (v := .ref (aN 0)) (C := RX4) (T := TX4) (N := 5) hx hb hts hiX4 hown hK hw.1 0 rfl rfl 1 (by decide) hq0 (fun _ h9 => h9) rfl dX4_ballot_67 ?_
          refine va_getN (D := D) (ci := 0) (v := .int u13.1) (C := RX0) (T := TX0) (N := 7) hx hb hts hiX0 hown hK hw.1 7 rfl rfl 1 (by decide) (va_Nw.use rfl (nwF_X4_82 hN)) (fun _ h9 => h9) rfl dX4_ballot_70 ?_
          refine lv_iconst (v := 1) hx hb dX4_ballot_73 (by decide) ?_
          refine lv_isub hx hb dX4_ballot_74 ?_
          cases hf
          exact zk_iret hx hb hr hlocks rfl hQ hw [0, 1, 2, 7, 8, 9, 10, 3, 4, 5, 6] rfl (by decide) dX4_ballot_75
        · replace hf := zk_f c10 hf
          refine lv_bipush (v := (-3)) hx hb dX4_ballot_43 (by decide) ?_
          cases hf
          exact zk_iret hx hb hr hlocks rfl hQ hw [6, 0, 1, 7, 8, 9, 10, 2, 3, 4, 5] rfl (by decide) dX4_ballot_45
    · replace hf := zk_t c6 hf
      refine lv_iconst (v := (-1)) hx hb dX4_ballot_15 (by decide) ?_
      cases hf
      exact zk_iret hx hb hr hlocks rfl hQ hw [6, 0, 1, 7, 8, 9, 10, 2, 3, 4, 5] rfl (by decide) dX4_ballot_16
set_option maxHeartbeats 4000000 in
set_option maxRecDepth 100000 in
theorem kX4_isBallot (l : Launch) (D : va_G) (cI cJ cO : ClassId) (N : Nat) (aL aN : Nat → Nat) (aT aR aP aE : Nat → Nat) (p0 : Int32) (Ncandidates : Int32) (Nballots : Int32) (Nseats : Int32) (Nwithdrawn : Int32) (Nvoters : Nat → Int32) (Nsets : Nat → Int32) (Nrank : Nat → Int32) (u : Int32) (hf : fX4_isBallot N p0 Nballots = some u) : CtI l yX4_isBallot wsX4_isBallot (zk_rm 0 0) D cI cJ cO [.ref (aL 0), .int p0] (zwL aL (aT 0) (aN 0) (aR 0) (aP 0) (aE 0) ++ (zwC cI aN Ncandidates Nballots Nseats Nwithdrawn Nvoters Nsets Nrank)) (zwL aL (aT 0) (aN 0) (aR 0) (aP 0) (aE 0) ++ (zwC cI aN Ncandidates Nballots Nseats Nwithdrawn Nvoters Nsets Nrank)) (u) := by
  refine zk_enter (cc := cX4_isBallot) (maxL := 2) (ret := some .boolean) (own := RX4) (Qf := fun A => QwI D (zwL aL (aT 0) (aN 0) (aR 0) (aP 0) (aE 0) ++ (zwC cI aN Ncandidates Nballots Nseats Nwithdrawn Nvoters Nsets Nrank)) (u) A) (by decide) rfl rfl (Nat.le_of_ble_eq_true rfl) ?_
  intro p e s m args below meth c A Q H locs ls hC hQ hw hl
  obtain ⟨hx, hb, hml, hr, hts, hown, hlocks, hN, hK, hA⟩ := hC
  have hl : lv_has ls 2 [(0, .ref (aL 0)), (1, .int p0)] := hl
  have hiX4 : ∀ w ∈ u_ws RX4 TX4 5, w ∈ wsX4_isBallot := by decide +kernel
  have hiX0 : ∀ w ∈ u_ws RX0 TX0 7, w ∈ wsX4_isBallot := by decide +kernel
  have hq0 := hts (.fieldLink RX4 19 "LoadCouncil" "now" "LLoadCouncil$Council;") (by decide +kernel)
  unfold fX4_isBallot at hf
  refine lv_iload_n hx hb dX4_isBallot_0 rfl (lv_at hl 1 rfl) ?_
  refine lv_if_lt (tgt := 19) hx hb dX4_isBallot_1 (by decide) (fun c1 => ?_) (fun c1 => ?_)
  · replace hf := zk_t c1 hf
    refine lv_iconst (v := 0) hx hb dX4_isBallot_19 (by decide) ?_
    cases hf
    exact zk_iret hx hb hr hlocks rfl hQ hw [0, 1, 2, 3, 4] rfl (by decide) dX4_isBallot_20
  · replace hf := zk_f c1 hf
    refine lv_iload_n hx hb dX4_isBallot_4 rfl (lv_at hl 1 rfl) ?_
    refine lv_aload_n hx hb dX4_isBallot_5 rfl (lv_at hl 0 rfl) ?_
    refine va_get (D := D) (ci := 4) (v := .ref (aN 0)) (C := RX4) (T := TX4) (N := 5) hx hb hts hiX4 hown hK hw.1 0 rfl rfl 1 (by decide) hq0 (fun _ h9 => h9) rfl dX4_isBallot_6 ?_
    refine va_getN (D := D) (ci := 0) (v := .int Nballots) (C := RX0) (T := TX0) (N := 7) hx hb hts hiX0 hown hK hw.1 1 rfl rfl 1 (by decide) (va_Nw.use rfl (nwF_X4_82 hN)) (fun _ h9 => h9) rfl dX4_isBallot_9 ?_
    refine lv_icmp_ge (tgt := 19) hx hb dX4_isBallot_12 (by decide) (fun c2 => ?_) (fun c2 => ?_)
    · replace hf := zk_t c2 hf
      refine lv_iconst (v := 0) hx hb dX4_isBallot_19 (by decide) ?_
      cases hf
      exact zk_iret hx hb hr hlocks rfl hQ hw [0, 1, 2, 3, 4] rfl (by decide) dX4_isBallot_20
    · replace hf := zk_f c2 hf
      refine lv_iconst (v := 1) hx hb dX4_isBallot_15 (by decide) ?_
      refine lv_goto (tgt := 20) hx hb dX4_isBallot_16 (by decide) ?_
      cases hf
      exact zk_iret hx hb hr hlocks rfl hQ hw [0, 1, 2, 3, 4] rfl (by decide) dX4_isBallot_20
set_option maxHeartbeats 4000000 in
set_option maxRecDepth 100000 in
theorem kX4_voters (l : Launch) (D : va_G) (cI cJ cO : ClassId) (N : Nat) (aL aP aN aQ : Nat → Nat) (aT aR aE : Nat → Nat) (p0 : Int32) (p1 : Int32) (Pring : Nat → Option Nat) (Ptop : Int32) (Psize : Int32) (Ncandidates : Int32) (Nballots : Int32) (Nseats : Int32) (Nwithdrawn : Int32) (Nvoters : Nat → Int32) (Nsets : Nat → Int32) (Nrank : Nat → Int32) (Qcandidates : Int32) (Qballots : Int32) (Qseats : Int32) (Qwithdrawn : Int32) (Qvoters : Nat → Int32) (Qsets : Nat → Int32) (Qrank : Nat → Int32) (hg : Pring (Ptop).toNatClampNeg = some (aQ 0)) (u : Int32 × (Int32) × (Int32) × (Nat → Int32) × (Int32) × (Int32) × (Int32) × (Int32) × (Nat → Int32) × (Nat → Int32) × (Nat → Int32)) (hf : fX4_voters N p0 p1 Ptop Psize Ncandidates Nballots Nseats Nwithdrawn Nvoters Nsets Nrank Qcandidates Qballots Qseats Qwithdrawn Qvoters Qsets Qrank = some u) : CtI l yX4_voters wsX4_voters (zk_rm 3 102) D cI cJ cO [.ref (aL 0), .int p0, .int p1] (zwL aL (aT 0) (aN 0) (aR 0) (aP 0) (aE 0) ++ (zwP cO aP Pring Ptop Psize ++ (zwC cI aN Ncandidates Nballots Nseats Nwithdrawn Nvoters Nsets Nrank ++ (zwC cI aQ Qcandidates Qballots Qseats Qwithdrawn Qvoters Qsets Qrank)))) (zwL aL (aT 0) (aN 0) (aR 0) (aP 0) (aE 0) ++ (zwP cO aP Pring u.2.1 u.2.2.1 ++ (zwC cI aN Ncandidates Nballots Nseats Nwithdrawn u.2.2.2.1 Nsets Nrank ++ (zwC cI aQ u.2.2.2.2.1 u.2.2.2.2.2.1 u.2.2.2.2.2.2.1 u.2.2.2.2.2.2.2.1 u.2.2.2.2.2.2.2.2.1 u.2.2.2.2.2.2.2.2.2.1 u.2.2.2.2.2.2.2.2.2.2)))) (u.1) := by
  refine zk_enter (cc := cX4_voters) (maxL := 4) (ret := some .int) (own := RX4) (Qf := fun A => QwI D (zwL aL (aT 0) (aN 0) (aR 0) (aP 0) (aE 0) ++ (zwP cO aP Pring u.2.1 u.2.2.1 ++ (zwC cI aN Ncandidates Nballots Nseats Nwithdrawn u.2.2.2.1 Nsets Nrank ++ (zwC cI aQ u.2.2.2.2.1 u.2.2.2.2.2.1 u.2.2.2.2.2.2.1 u.2.2.2.2.2.2.2.1 u.2.2.2.2.2.2.2.2.1 u.2.2.2.2.2.2.2.2.2.1 u.2.2.2.2.2.2.2.2.2.2)))) (u.1) A) (by decide) rfl rfl (Nat.le_of_ble_eq_true rfl) ?_
  intro p e s m args below meth c A Q H locs ls hC hQ hw hl
  obtain ⟨hx, hb, hml, hr, hts, hown, hlocks, hN, hK, hA⟩ := hC
  have hl : lv_has ls 4 [(0, .ref (aL 0)), (1, .int p0), (2, .int p1)] := hl
  have hiX4 : ∀ w ∈ u_ws RX4 TX4 5, w ∈ wsX4_voters := by decide +kernel
  have hiX0 : ∀ w ∈ u_ws RX0 TX0 7, w ∈ wsX4_voters := by decide +kernel
  have hq0 := hts (.fieldLink RX4 19 "LoadCouncil" "now" "LLoadCouncil$Council;") (by decide +kernel)
  have hq1 := hts (.initialized RX0) (by decide +kernel)
  have hq2 := hts (.instanceMethod yX0_allVoters) (by decide +kernel)
  have hq3 := hts (.selects RX0 yX0_allVoters yX0_allVoters) (by decide +kernel)
  have hq4 := hts (.fieldLink RX4 29 "LoadCouncil" "past" "LLoadCouncil$Past;") (by decide +kernel)
  have hq5 := hts (.initialized RX2) (by decide +kernel)
  have hq6 := hts (.instanceMethod yX2_keep) (by decide +kernel)
  have hq7 := hts (.selects RX2 yX2_keep yX2_keep) (by decide +kernel)
  unfold fX4_voters at hf
  refine lv_aload_n hx hb dX4_voters_0 rfl (lv_at hl 0 rfl) ?_
  refine lv_iload_n hx hb dX4_voters_1 rfl (lv_at hl 1 rfl) ?_
  obtain ⟨u1, e2, hf⟩ := zk_bd hf
  refine zk_calli (wc := zwL aL (aT 0) (aN 0) (aR 0) (aP 0) (aE 0) ++ (zwC cI aN Ncandidates Nballots Nseats Nwithdrawn Nvoters Nsets Nrank)) (wr := zwP cO aP Pring Ptop Psize ++ (zwC cI aQ Qcandidates Qballots Qseats Qwithdrawn Qvoters Qsets Qrank)) hw hA [0, 3, 4, 5, 6] [1, 2, 7, 8, 9, 10] rfl rfl (by decide) (by decide) (va_runV (C := RX4) (As := [.int p0]) (rest := []) ⟨hx, hb, hml, hown, hts⟩ (kX4_isBallot l D cI cJ cO N aL aN aT aR aP aE p0 Ncandidates Nballots Nseats Nwithdrawn Nvoters Nsets Nrank u1 e2 H.size) (cwV 1 hts gX4_voters_X4_isBallot rfl rfl rfl (by decide +kernel) ⟨Nat.le_of_ble_eq_true rfl, Nat.le_of_ble_eq_true rfl⟩) (zk_preV (wc := zwL aL (aT 0) (aN 0) (aR 0) (aP 0) (aE 0) ++ (zwC cI aN Ncandidates Nballots Nseats Nwithdrawn Nvoters Nsets Nrank)) hN hK hw [0, 3, 4, 5, 6] rfl (by decide) 0 4 rfl rfl) rfl rfl hl.1 rfl (lv_room (Nat.le_of_ble_eq_true rfl)) dX4_voters_2 ⟨Nat.zero_le _, Nat.zero_le _⟩) (fun H locs hw => ?_)
  have hw : Wd D A s.heap (zwP cO aP Pring Ptop Psize ++ (zwC cI aQ Qcandidates Qballots Qseats Qwithdrawn Qvoters Qsets Qrank ++ (zwL aL (aT 0) (aN 0) (aR 0) (aP 0) (aE 0) ++ (zwC cI aN Ncandidates Nballots Nseats Nwithdrawn Nvoters Nsets Nrank)))) H locs := hw
  refine lv_if_eq (tgt := 15) hx hb dX4_voters_5 (by decide) (fun c3 => ?_) (fun c3 => ?_)
  · replace hf := zk_t c3 hf
    refine lv_iconst (v := (-1)) hx hb dX4_voters_15 (by decide) ?_
    cases hf
    exact zk_iret hx hb hr hlocks rfl hQ hw [6, 0, 1, 7, 8, 9, 10, 2, 3, 4, 5] rfl (by decide) dX4_voters_16
  · replace hf := zk_f c3 hf
    refine lv_iload_n hx hb dX4_voters_8 rfl (lv_at hl 2 rfl) ?_
    obtain ⟨u4, e5, hf⟩ := zk_bd hf
    refine zk_calli (wc := []) (wr := zwP cO aP Pring Ptop Psize ++ (zwC cI aQ Qcandidates Qballots Qseats Qwithdrawn Qvoters Qsets Qrank ++ (zwL aL (aT 0) (aN 0) (aR 0) (aP 0) (aE 0) ++ (zwC cI aN Ncandidates Nballots Nseats Nwithdrawn Nvoters Nsets Nrank)))) hw hA [] [0, 1, 2, 3, 4, 5, 6, 7, 8, 9, 10] rfl rfl (by decide) (by decide) (va_runS (As := [.int p1]) (rest := []) ⟨hx, hb, hml, hown, hts⟩ (kX4_isVoters l D cI cJ cO N p1 u4 e5 H.size) (va_cwS 1 hts gX4_voters_X4_isVoters rfl rfl rfl (by decide +kernel) ⟨Nat.le_of_ble_eq_true rfl, Nat.le_of_ble_eq_true rfl⟩) (zk_preS (wc := []) hN hK hw [] rfl (by decide)) rfl rfl hl.1 rfl (lv_room (Nat.le_of_ble_eq_true rfl)) dX4_voters_9 ⟨Nat.zero_le _, Nat.zero_le _⟩) (fun H locs hw => ?_)
    have hw : Wd D A s.heap (zwP cO aP Pring Ptop Psize ++ (zwC cI aQ Qcandidates Qballots Qseats Qwithdrawn Qvoters Qsets Qrank ++ (zwL aL (aT 0) (aN 0) (aR 0) (aP 0) (aE 0) ++ (zwC cI aN Ncandidates Nballots Nseats Nwithdrawn Nvoters Nsets Nrank)))) H locs := hw
    refine lv_if_ne (tgt := 17) hx hb dX4_voters_12 (by decide) (fun c6 => ?_) (fun c6 => ?_)
    · replace hf := zk_f c6 hf
      refine lv_aload_n hx hb dX4_voters_17 rfl (lv_at hl 0 rfl) ?_
      refine va_get (D := D) (ci := 4) (v := .ref (aN 0)) (C := RX4) (T := TX4) (N := 5) hx hb hts hiX4 hown hK hw.1 6 rfl rfl 1 (by decide) hq0 (fun _ h9 => h9) rfl dX4_voters_18 ?_
      refine va_getN (D := D) (ci := 0) (v := .ref (aN 1)) (C := RX0) (T := TX0) (N := 7) hx hb hts hiX0 hown hK hw.1 7 rfl rfl 4 (by decide) (va_Nw.use rfl (nwF_X4_98 hN)) (fun _ h9 => h9) rfl dX4_voters_21 ?_
      refine lv_iload_n hx hb dX4_voters_24 rfl (lv_at hl 1 rfl) ?_
      obtain ⟨h7, hf⟩ := zk_ck hf
      refine zk_iald hx hb hK hw 8 rfl h7 (j := p0.toNatClampNeg) rfl dX4_voters_25 ?_
      refine lv_istore_n (lv' := [(3, .int (Nvoters p0.toNatClampNeg)), (0, .ref (aL 0)), (1, .int p0), (2, .int p1)]) hx hb dX4_voters_26 rfl hl (by decide) rfl (fun ls hl => ?_)
      refine lv_iload_n hx hb dX4_voters_27 rfl (lv_at hl 0 rfl) ?_
      refine lv_iload_n hx hb dX4_voters_28 rfl (lv_at hl 3 rfl) ?_
      refine lv_icmp_ne (tgt := 35) hx hb dX4_voters_29 (by decide) (fun c8 => ?_) (fun c8 => ?_)
      · replace hf := zk_f c8 hf
        refine lv_aload_n hx hb dX4_voters_35 rfl (lv_at hl 1 rfl) ?_
        refine va_get (D := D) (ci := 4) (v := .ref (aN 0)) (C := RX4) (T := TX4) (N := 5) hx hb hts hiX4 hown hK hw.1 6 rfl rfl 1 (by decide) hq0 (fun _ h9 => h9) rfl dX4_voters_36 ?_
        obtain ⟨u9, e10, hf⟩ := zk_bd hf
        refine zk_calli (wc := zwC cI aN Ncandidates Nballots Nseats Nwithdrawn Nvoters Nsets Nrank) (wr := zwP cO aP Pring Ptop Psize ++ (zwC cI aQ Qcandidates Qballots Qseats Qwithdrawn Qvoters Qsets Qrank ++ (zwL aL (aT 0) (aN 0) (aR 0) (aP 0) (aE 0)))) hw hA [7, 8, 9, 10] [0, 1, 2, 3, 4, 5, 6] rfl rfl (by decide) (by decide) (va_runVN (C := RX0) (As := []) (rest := []) ⟨hx, hb, hml, hown, hts⟩ (kX0_allVoters l D cI cJ cO N aN Ncandidates Nballots Nseats Nwithdrawn Nvoters Nsets Nrank u9 e10 H.size) ⟨va_cnB 0 hts ggX4_voters_X0_allVoters rfl rfl rfl (nwM_X4_85 hN) hq1 (by decide +kernel) ⟨Nat.le_of_ble_eq_true rfl, Nat.le_of_ble_eq_true rfl⟩, hq2, hq3⟩ (zk_preV (wc := zwC cI aN Ncandidates Nballots Nseats Nwithdrawn Nvoters Nsets Nrank) hN hK hw [7, 8, 9, 10] rfl (by decide) 7 0 rfl rfl) rfl rfl hl.1 rfl (lv_room (Nat.le_of_ble_eq_true rfl)) dX4_voters_39 ⟨Nat.zero_le _, Nat.zero_le _⟩) (fun H locs hw => ?_)
        have hw : Wd D A s.heap (zwP cO aP Pring Ptop Psize ++ (zwC cI aQ Qcandidates Qballots Qseats Qwithdrawn Qvoters Qsets Qrank ++ (zwL aL (aT 0) (aN 0) (aR 0) (aP 0) (aE 0) ++ (zwC cI aN Ncandidates Nballots Nseats Nwithdrawn Nvoters Nsets Nrank)))) H locs := hw
        refine lv_iload_n hx hb dX4_voters_42 rfl (lv_at hl 0 rfl) ?_
        refine lv_isub hx hb dX4_voters_43 ?_
        refine lv_iload_n hx hb dX4_voters_44 rfl (lv_at hl 3 rfl) ?_
        refine lv_iadd hx hb dX4_voters_45 ?_
        refine lv_bipush (v := 40) hx hb dX4_voters_46 (by decide) ?_
        refine lv_icmp_le (tgt := 54) hx hb dX4_voters_48 (by decide) (fun c11 => ?_) (fun c11 => ?_)
        · replace hf := zk_t c11 hf
          refine lv_aload_n hx hb dX4_voters_54 rfl (lv_at hl 1 rfl) ?_
          refine va_get (D := D) (ci := 4) (v := .ref (aP 0)) (C := RX4) (T := TX4) (N := 5) hx hb hts hiX4 hown hK hw.1 6 rfl rfl 3 (by decide) hq4 (fun _ h9 => h9) rfl dX4_voters_55 ?_
          refine lv_aload_n hx hb dX4_voters_58 rfl (lv_at hl 1 rfl) ?_
          refine va_get (D := D) (ci := 4) (v := .ref (aN 0)) (C := RX4) (T := TX4) (N := 5) hx hb hts hiX4 hown hK hw.1 6 rfl rfl 1 (by decide) hq0 (fun _ h9 => h9) rfl dX4_voters_59 ?_
          obtain ⟨u12, e13, hf⟩ := zk_bd hf
          refine zk_callv (wc := zwP cO aP Pring Ptop Psize ++ (zwC cI aN Ncandidates Nballots Nseats Nwithdrawn Nvoters Nsets Nrank ++ (zwC cI aQ Qcandidates Qballots Qseats Qwithdrawn Qvoters Qsets Qrank))) (wr := zwL aL (aT 0) (aN 0) (aR 0) (aP 0) (aE 0)) hw hA [0, 1, 7, 8, 9, 10, 2, 3, 4, 5] [6] rfl rfl (by decide) (by decide) (va_runVN (C := RX2) (As := [.ref (aN 0)]) (rest := []) ⟨hx, hb, hml, hown, hts⟩ (kX2_keep l D cI cJ cO N aP aN aQ Pring Ptop Psize Ncandidates Nballots Nseats Nwithdrawn Nvoters Nsets Nrank Qcandidates Qballots Qseats Qwithdrawn Qvoters Qsets Qrank hg u12 e13 H.size) ⟨va_cnB 1 hts ggX4_voters_X2_keep rfl rfl rfl (nwM_X4_88 hN) hq5 (by decide +kernel) ⟨Nat.le_of_ble_eq_true rfl, Nat.le_of_ble_eq_true rfl⟩, hq6, hq7⟩ (zk_preV (wc := zwP cO aP Pring Ptop Psize ++ (zwC cI aN Ncandidates Nballots Nseats Nwithdrawn Nvoters Nsets Nrank ++ (zwC cI aQ Qcandidates Qballots Qseats Qwithdrawn Qvoters Qsets Qrank))) hN hK hw [0, 1, 7, 8, 9, 10, 2, 3, 4, 5] rfl (by decide) 0 2 rfl rfl) rfl rfl hl.1 rfl (lv_room (Nat.le_of_ble_eq_true rfl)) dX4_voters_62 ⟨Nat.zero_le _, Nat.zero_le _⟩) (fun H locs hw => ?_)
          have hw : Wd D A s.heap (zwL aL (aT 0) (aN 0) (aR 0) (aP 0) (aE 0) ++ (zwP cO aP Pring u12.1 u12.2.1 ++ (zwC cI aN Ncandidates Nballots Nseats Nwithdrawn Nvoters Nsets Nrank ++ (zwC cI aQ u12.2.2.1 u12.2.2.2.1 u12.2.2.2.2.1 u12.2.2.2.2.2.1 u12.2.2.2.2.2.2.1 u12.2.2.2.2.2.2.2.1 u12.2.2.2.2.2.2.2.2)))) H locs := hw
          refine lv_aload_n hx hb dX4_voters_65 rfl (lv_at hl 1 rfl) ?_
          refine va_get (D := D) (ci := 4) (v := .ref (aN 0)) (C := RX4) (T := TX4) (N := 5) hx hb hts hiX4 hown hK hw.1 0 rfl rfl 1 (by decide) hq0 (fun _ h9 => h9) rfl dX4_voters_66 ?_
          refine va_getN (D := D) (ci := 0) (v := .ref (aN 1)) (C := RX0) (T := TX0) (N := 7) hx hb hts hiX0 hown hK hw.1 3 rfl rfl 4 (by decide) (va_Nw.use rfl (nwF_X4_98 hN)) (fun _ h9 => h9) rfl dX4_voters_69 ?_
          refine lv_iload_n hx hb dX4_voters_72 rfl (lv_at hl 2 rfl) ?_
          refine lv_iload_n hx hb dX4_voters_73 rfl (lv_at hl 3 rfl) ?_
          refine zk_iast hx hb hK hw 4 rfl h7 (j := p0.toNatClampNeg) rfl dX4_voters_74 (fun H locs hw => ?_)
          have hw : Wd D A s.heap (zwL aL (aT 0) (aN 0) (aR 0) (aP 0) (aE 0) ++ (zwP cO aP Pring u12.1 u12.2.1 ++ (zwC cI aN Ncandidates Nballots Nseats Nwithdrawn (upd Nvoters p0.toNatClampNeg p1) Nsets Nrank ++ (zwC cI aQ u12.2.2.1 u12.2.2.2.1 u12.2.2.2.2.1 u12.2.2.2.2.2.1 u12.2.2.2.2.2.2.1 u12.2.2.2.2.2.2.2.1 u12.2.2.2.2.2.2.2.2)))) H locs := hw
          refine lv_iload_n hx hb dX4_voters_75 rfl (lv_at hl 0 rfl) ?_
          cases hf
          exact zk_iret hx hb hr hlocks rfl hQ hw [0, 1, 2, 3, 4, 5, 6, 7, 8, 9, 10] rfl (by decide) dX4_voters_76
        · replace hf := zk_f c11 hf
          refine lv_bipush (v := (-3)) hx hb dX4_voters_51 (by decide) ?_
          cases hf
          exact zk_iret hx hb hr hlocks rfl hQ hw [6, 0, 1, 7, 8, 9, 10, 2, 3, 4, 5] rfl (by decide) dX4_voters_53
      · replace hf := zk_t c8 hf
        refine lv_bipush (v := (-2)) hx hb dX4_voters_32 (by decide) ?_
        cases hf
        exact zk_iret hx hb hr hlocks rfl hQ hw [6, 0, 1, 7, 8, 9, 10, 2, 3, 4, 5] rfl (by decide) dX4_voters_34
    · replace hf := zk_t c6 hf
      refine lv_iconst (v := (-1)) hx hb dX4_voters_15 (by decide) ?_
      cases hf
      exact zk_iret hx hb hr hlocks rfl hQ hw [6, 0, 1, 7, 8, 9, 10, 2, 3, 4, 5] rfl (by decide) dX4_voters_16
