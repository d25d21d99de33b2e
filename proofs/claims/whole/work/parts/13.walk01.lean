set_option maxHeartbeats 4000000 in
set_option maxRecDepth 100000 in
theorem kX1_isAhead (l : Launch) (D : va_G) (cI cJ cO : ClassId) (N : Nat) (aE : Nat → Nat) (p0 : Int32) (p1 : Int32) (p2 : Int32) (Eorder : Nat → Int32) (Eabove : Nat → Int64) (Ebelow : Nat → Int64) (Eelected : Int32) (Eset : Int32) (Esupport : Nat → Int32) (Eworth : Nat → Int64) (Eloads : Nat → Int64) (Eunit : Int64) (u : Int32) (hf : fX1_isAhead N p0 p1 p2 Esupport Eworth = some u) : CtI l yX1_isAhead wsX1_isAhead (zk_rm 0 0) D cI cJ cO [.ref (aE 0), .int p0, .int p1, .int p2] (zwE cI cJ aE Eorder Eabove Ebelow Eelected Eset Esupport Eworth Eloads Eunit) (zwE cI cJ aE Eorder Eabove Ebelow Eelected Eset Esupport Eworth Eloads Eunit) (u) := by
  refine zk_enter (cc := cX1_isAhead) (maxL := 4) (ret := some .boolean) (own := RX1) (Qf := fun A => QwI D (zwE cI cJ aE Eorder Eabove Ebelow Eelected Eset Esupport Eworth Eloads Eunit) (u) A) (by decide) rfl rfl (Nat.le_of_ble_eq_true rfl) ?_
  intro p e s m args below meth c A Q H locs ls hC hQ hw hl
  obtain ⟨hx, hb, hml, hr, hts, hown, hlocks, hN, hK, hA⟩ := hC
  have hl : lv_has ls 4 [(0, .ref (aE 0)), (1, .int p0), (2, .int p1), (3, .int p2)] := hl
  have hiX1 : ∀ w ∈ u_ws RX1 TX1 9, w ∈ wsX1_isAhead := by decide +kernel
  have hq0 := hts (.fieldLink RX1 25 "LoadCouncil$Election" "worth" "[J") (by decide +kernel)
  have hq1 := hts (.fieldLink RX1 22 "LoadCouncil$Election" "support" "[I") (by decide +kernel)
  have b49 : ∀ (x2 : Int32) (x3 : Int32), fX1_isAhead_b49 N x2 x3 Eworth = some u → ∀ (H : Heap) (locs : List Loc) (ls : Array Slot), Wd D A s.heap (zwE cI cJ aE Eorder Eabove Ebelow Eelected Eset Esupport Eworth Eloads Eunit) H locs → lv_has ls 4 [(0, .ref (aE 0)), (2, .int x2), (3, .int x3)] → W p l e (zk_rm 0 0) s m args below meth c H locs 0 0 Q (F0 m 49 ls []) := by
    intro x2 x3 hf H locs ls hw hl
    unfold fX1_isAhead_b49 at hf
    refine lv_aload_n hx hb dX1_isAhead_49 rfl (lv_at hl 0 rfl) ?_
    refine va_get (D := D) (ci := 1) (v := .ref (aE 5)) (C := RX1) (T := TX1) (N := 9) hx hb hts hiX1 hown hK hw.1 0 rfl rfl 6 (by decide) hq0 (fun _ h9 => h9) rfl dX1_isAhead_50 ?_
    refine lv_iload_n hx hb dX1_isAhead_53 rfl (lv_at hl 1 rfl) ?_
    obtain ⟨h1, hf⟩ := zk_ck hf
    refine zk_lald hx hb hK hw 5 rfl h1 (j := x2.toNatClampNeg) rfl dX1_isAhead_54 ?_
    refine lv_aload_n hx hb dX1_isAhead_55 rfl (lv_at hl 0 rfl) ?_
    refine va_get (D := D) (ci := 1) (v := .ref (aE 5)) (C := RX1) (T := TX1) (N := 9) hx hb hts hiX1 hown hK hw.1 0 rfl rfl 6 (by decide) hq0 (fun _ h9 => h9) rfl dX1_isAhead_56 ?_
    refine lv_iload_n hx hb dX1_isAhead_59 rfl (lv_at hl 2 rfl) ?_
    obtain ⟨h2, hf⟩ := zk_ck hf
    refine zk_lald hx hb hK hw 5 rfl h2 (j := x3.toNatClampNeg) rfl dX1_isAhead_60 ?_
    refine W.lcmp hx hb dX1_isAhead_61 ?_
    refine lv_if_le (tgt := 69) hx hb dX1_isAhead_62 (by decide) (fun c3 => ?_) (fun c3 => ?_)
    · replace hf := zk_t c3 hf
      refine lv_iconst (v := 0) hx hb dX1_isAhead_69 (by decide) ?_
      cases hf
      exact zk_iret hx hb hr hlocks rfl hQ hw [0, 1, 2, 3, 4, 5, 6] rfl (by decide) dX1_isAhead_70
    · replace hf := zk_f c3 hf
      refine lv_iconst (v := 1) hx hb dX1_isAhead_65 (by decide) ?_
      refine lv_goto (tgt := 70) hx hb dX1_isAhead_66 (by decide) ?_
      cases hf
      exact zk_iret hx hb hr hlocks rfl hQ hw [0, 1, 2, 3, 4, 5, 6] rfl (by decide) dX1_isAhead_70
  have b18 : ∀ (x2 : Int32) (x3 : Int32), fX1_isAhead_b18 N x2 x3 Esupport = some u → ∀ (H : Heap) (locs : List Loc) (ls : Array Slot), Wd D A s.heap (zwE cI cJ aE Eorder Eabove Ebelow Eelected Eset Esupport Eworth Eloads Eunit) H locs → lv_has ls 4 [(0, .ref (aE 0)), (2, .int x2), (3, .int x3)] → W p l e (zk_rm 0 0) s m args below meth c H locs 0 0 Q (F0 m 18 ls []) := by
    intro x2 x3 hf H locs ls hw hl
    unfold fX1_isAhead_b18 at hf
    refine lv_aload_n hx hb dX1_isAhead_18 rfl (lv_at hl 0 rfl) ?_
    refine va_get (D := D) (ci := 1) (v := .ref (aE 4)) (C := RX1) (T := TX1) (N := 9) hx hb hts hiX1 hown hK hw.1 0 rfl rfl 5 (by decide) hq1 (fun _ h9 => h9) rfl dX1_isAhead_19 ?_
    refine lv_iload_n hx hb dX1_isAhead_22 rfl (lv_at hl 1 rfl) ?_
    obtain ⟨h4, hf⟩ := zk_ck hf
    refine zk_iald hx hb hK hw 4 rfl h4 (j := x2.toNatClampNeg) rfl dX1_isAhead_23 ?_
    refine lv_aload_n hx hb dX1_isAhead_24 rfl (lv_at hl 0 rfl) ?_
    refine va_get (D := D) (ci := 1) (v := .ref (aE 4)) (C := RX1) (T := TX1) (N := 9) hx hb hts hiX1 hown hK hw.1 0 rfl rfl 5 (by decide) hq1 (fun _ h9 => h9) rfl dX1_isAhead_25 ?_
    refine lv_iload_n hx hb dX1_isAhead_28 rfl (lv_at hl 2 rfl) ?_
    obtain ⟨h5, hf⟩ := zk_ck hf
    refine zk_iald hx hb hK hw 4 rfl h5 (j := x3.toNatClampNeg) rfl dX1_isAhead_29 ?_
    refine lv_icmp_le (tgt := 37) hx hb dX1_isAhead_30 (by decide) (fun c6 => ?_) (fun c6 => ?_)
    · replace hf := zk_t c6 hf
      refine lv_iconst (v := 0) hx hb dX1_isAhead_37 (by decide) ?_
      cases hf
      exact zk_iret hx hb hr hlocks rfl hQ hw [0, 1, 2, 3, 4, 5, 6] rfl (by decide) dX1_isAhead_38
    · replace hf := zk_f c6 hf
      refine lv_iconst (v := 1) hx hb dX1_isAhead_33 (by decide) ?_
      refine lv_goto (tgt := 38) hx hb dX1_isAhead_34 (by decide) ?_
      cases hf
      exact zk_iret hx hb hr hlocks rfl hQ hw [0, 1, 2, 3, 4, 5, 6] rfl (by decide) dX1_isAhead_38
  unfold fX1_isAhead at hf
  refine lv_aload_n hx hb dX1_isAhead_0 rfl (lv_at hl 0 rfl) ?_
  refine va_get (D := D) (ci := 1) (v := .ref (aE 4)) (C := RX1) (T := TX1) (N := 9) hx hb hts hiX1 hown hK hw.1 0 rfl rfl 5 (by decide) hq1 (fun _ h9 => h9) rfl dX1_isAhead_1 ?_
  refine lv_iload_n hx hb dX1_isAhead_4 rfl (lv_at hl 2 rfl) ?_
  obtain ⟨h7, hf⟩ := zk_ck hf
  refine zk_iald hx hb hK hw 4 rfl h7 (j := p1.toNatClampNeg) rfl dX1_isAhead_5 ?_
  refine lv_if_eq (tgt := 18) hx hb dX1_isAhead_6 (by decide) (fun c8 => ?_) (fun c8 => ?_)
  · replace hf := zk_t c8 hf
    exact b18 p1 p2 hf H locs ls hw (lv_sub hl [0, 2, 3] rfl)
  · replace hf := zk_f c8 hf
    refine lv_aload_n hx hb dX1_isAhead_9 rfl (lv_at hl 0 rfl) ?_
    refine va_get (D := D) (ci := 1) (v := .ref (aE 4)) (C := RX1) (T := TX1) (N := 9) hx hb hts hiX1 hown hK hw.1 0 rfl rfl 5 (by decide) hq1 (fun _ h9 => h9) rfl dX1_isAhead_10 ?_
    refine lv_iload_n hx hb dX1_isAhead_13 rfl (lv_at hl 3 rfl) ?_
    obtain ⟨h9, hf⟩ := zk_ck hf
    refine zk_iald hx hb hK hw 4 rfl h9 (j := p2.toNatClampNeg) rfl dX1_isAhead_14 ?_
    refine lv_if_ne (tgt := 39) hx hb dX1_isAhead_15 (by decide) (fun c10 => ?_) (fun c10 => ?_)
    · replace hf := zk_f c10 hf
      refine lv_iload_n hx hb dX1_isAhead_39 rfl (lv_at hl 1 rfl) ?_
      refine lv_iconst (v := 1) hx hb dX1_isAhead_40 (by decide) ?_
      refine lv_icmp_eq (tgt := 49) hx hb dX1_isAhead_41 (by decide) (fun c11 => ?_) (fun c11 => ?_)
      · replace hf := zk_t c11 hf
        exact b49 p1 p2 hf H locs ls hw (lv_sub hl [0, 2, 3] rfl)
      · replace hf := zk_f c11 hf
        refine lv_iload_n hx hb dX1_isAhead_44 rfl (lv_at hl 1 rfl) ?_
        refine lv_iconst (v := 2) hx hb dX1_isAhead_45 (by decide) ?_
        refine lv_icmp_ne (tgt := 71) hx hb dX1_isAhead_46 (by decide) (fun c12 => ?_) (fun c12 => ?_)
        · replace hf := zk_f c12 hf
          refine lv_aload_n hx hb dX1_isAhead_71 rfl (lv_at hl 0 rfl) ?_
          refine va_get (D := D) (ci := 1) (v := .ref (aE 5)) (C := RX1) (T := TX1) (N := 9) hx hb hts hiX1 hown hK hw.1 0 rfl rfl 6 (by decide) hq0 (fun _ h9 => h9) rfl dX1_isAhead_72 ?_
          refine lv_iload_n hx hb dX1_isAhead_75 rfl (lv_at hl 2 rfl) ?_
          refine zk_lald hx hb hK hw 5 rfl h7 (j := p1.toNatClampNeg) rfl dX1_isAhead_76 ?_
          refine lv_aload_n hx hb dX1_isAhead_77 rfl (lv_at hl 0 rfl) ?_
          refine va_get (D := D) (ci := 1) (v := .ref (aE 4)) (C := RX1) (T := TX1) (N := 9) hx hb hts hiX1 hown hK hw.1 0 rfl rfl 5 (by decide) hq1 (fun _ h9 => h9) rfl dX1_isAhead_78 ?_
          refine lv_iload_n hx hb dX1_isAhead_81 rfl (lv_at hl 3 rfl) ?_
          refine zk_iald hx hb hK hw 4 rfl h9 (j := p2.toNatClampNeg) rfl dX1_isAhead_82 ?_
          refine lv_i2l (v := (Esupport p2.toNatClampNeg).toInt64) hx hb dX1_isAhead_83 rfl ?_
          refine lv_lmul hx hb dX1_isAhead_84 ?_
          refine lv_aload_n hx hb dX1_isAhead_85 rfl (lv_at hl 0 rfl) ?_
          refine va_get (D := D) (ci := 1) (v := .ref (aE 5)) (C := RX1) (T := TX1) (N := 9) hx hb hts hiX1 hown hK hw.1 0 rfl rfl 6 (by decide) hq0 (fun _ h9 => h9) rfl dX1_isAhead_86 ?_
          refine lv_iload_n hx hb dX1_isAhead_89 rfl (lv_at hl 3 rfl) ?_
          refine zk_lald hx hb hK hw 5 rfl h9 (j := p2.toNatClampNeg) rfl dX1_isAhead_90 ?_
          refine lv_aload_n hx hb dX1_isAhead_91 rfl (lv_at hl 0 rfl) ?_
          refine va_get (D := D) (ci := 1) (v := .ref (aE 4)) (C := RX1) (T := TX1) (N := 9) hx hb hts hiX1 hown hK hw.1 0 rfl rfl 5 (by decide) hq1 (fun _ h9 => h9) rfl dX1_isAhead_92 ?_
          refine lv_iload_n hx hb dX1_isAhead_95 rfl (lv_at hl 2 rfl) ?_
          refine zk_iald hx hb hK hw 4 rfl h7 (j := p1.toNatClampNeg) rfl dX1_isAhead_96 ?_
          refine lv_i2l (v := (Esupport p1.toNatClampNeg).toInt64) hx hb dX1_isAhead_97 rfl ?_
          refine lv_lmul hx hb dX1_isAhead_98 ?_
          refine W.lcmp hx hb dX1_isAhead_99 ?_
          refine lv_if_ge (tgt := 107) hx hb dX1_isAhead_100 (by decide) (fun c13 => ?_) (fun c13 => ?_)
          · replace hf := zk_t c13 hf
            refine lv_iconst (v := 0) hx hb dX1_isAhead_107 (by decide) ?_
            cases hf
            exact zk_iret hx hb hr hlocks rfl hQ hw [0, 1, 2, 3, 4, 5, 6] rfl (by decide) dX1_isAhead_108
          · replace hf := zk_f c13 hf
            refine lv_iconst (v := 1) hx hb dX1_isAhead_103 (by decide) ?_
            refine lv_goto (tgt := 108) hx hb dX1_isAhead_104 (by decide) ?_
            cases hf
            exact zk_iret hx hb hr hlocks rfl hQ hw [0, 1, 2, 3, 4, 5, 6] rfl (by decide) dX1_isAhead_108
        · replace hf := zk_t c12 hf
          exact b49 p1 p2 hf H locs ls hw (lv_sub hl [0, 2, 3] rfl)
    · replace hf := zk_t c10 hf
      exact b18 p1 p2 hf H locs ls hw (lv_sub hl [0, 2, 3] rfl)
set_option maxHeartbeats 4000000 in
set_option maxRecDepth 100000 in
theorem kX1_nextMember (l : Launch) (D : va_G) (cI cJ cO : ClassId) (N : Nat) (aE aC : Nat → Nat) (p1 : Int32) (Eorder : Nat → Int32) (Eabove : Nat → Int64) (Ebelow : Nat → Int64) (Eelected : Int32) (Eset : Int32) (Esupport : Nat → Int32) (Eworth : Nat → Int64) (Eloads : Nat → Int64) (Eunit : Int64) (Ccandidates : Int32) (Cballots : Int32) (Cseats : Int32) (Cwithdrawn : Int32) (Cvoters : Nat → Int32) (Csets : Nat → Int32) (Crank : Nat → Int32) (u : Int32 × (Nat → Int64)) (hf : fX1_nextMember N p1 Eset Esupport Eworth Eloads Eunit Ccandidates Cballots Cwithdrawn Cvoters Csets Crank = some u) : CtI l yX1_nextMember wsX1_nextMember (zk_rm 3 68) D cI cJ cO [.ref (aE 0), .ref (aC 0), .int p1] (zwE cI cJ aE Eorder Eabove Ebelow Eelected Eset Esupport Eworth Eloads Eunit ++ (zwC cI aC Ccandidates Cballots Cseats Cwithdrawn Cvoters Csets Crank)) (zwE cI cJ aE Eorder Eabove Ebelow Eelected Eset Esupport u.2 Eloads Eunit ++ (zwC cI aC Ccandidates Cballots Cseats Cwithdrawn Cvoters Csets Crank)) (u.1) := by
  refine zk_enter (cc := cX1_nextMember) (maxL := 6) (ret := some .int) (own := RX1) (Qf := fun A => QwI D (zwE cI cJ aE Eorder Eabove Ebelow Eelected Eset Esupport u.2 Eloads Eunit ++ (zwC cI aC Ccandidates Cballots Cseats Cwithdrawn Cvoters Csets Crank)) (u.1) A) (by decide) rfl rfl (Nat.le_of_ble_eq_true rfl) ?_
  intro p e s m args below meth c A Q H locs ls hC hQ hw hl
  obtain ⟨hx, hb, hml, hr, hts, hown, hlocks, hN, hK, hA⟩ := hC
  have hl : lv_has ls 6 [(0, .ref (aE 0)), (1, .ref (aC 0)), (2, .int p1)] := hl
  have hiX0 : ∀ w ∈ u_ws RX0 TX0 7, w ∈ wsX1_nextMember := by decide +kernel
  have hiX1 : ∀ w ∈ u_ws RX1 TX1 9, w ∈ wsX1_nextMember := by decide +kernel
  have hq0 := hts (.fieldLink RX1 45 "LoadCouncil$Election" "set" "I") (by decide +kernel)
  have hq1 := hts (.initialized RX4) (by decide +kernel)
  have hq2 := hts (.static yX4_hasBit) (by decide +kernel)
  have hq3 := hts (.fieldLink RX1 25 "LoadCouncil$Election" "worth" "[J") (by decide +kernel)
  have b6 : ∀ (n6 : Nat), ∀ (x2 : Int32) (x3 : Int32) (x4 : Int32) (Eworth : Nat → Int64), fX1_nextMember_b6 N n6 x2 x3 x4 Eset Esupport Eworth Eloads Eunit Ccandidates Cballots Cwithdrawn Cvoters Csets Crank = some u → ∀ (H : Heap) (locs : List Loc) (ls : Array Slot), Wd D A s.heap (zwE cI cJ aE Eorder Eabove Ebelow Eelected Eset Esupport Eworth Eloads Eunit ++ (zwC cI aC Ccandidates Cballots Cseats Cwithdrawn Cvoters Csets Crank)) H locs → lv_has ls 6 [(0, .ref (aE 0)), (1, .ref (aC 0)), (2, .int x2), (3, .int x3), (4, .int x4)] → W p l e (zk_rm 3 68) s m args below meth c H locs 0 0 Q (F0 m 6 ls []) := by
    intro n6
    induction n6 with
    | zero =>
      intro x2 x3 x4 Eworth hf
      exact zk_none hf
    | succ n6 ih6 =>
      have b76 : ∀ (x2 : Int32) (x3 : Int32) (x4 : Int32) (Eworth : Nat → Int64), fX1_nextMember_b76 N (fun z0 z1 z2 z3 z4 z5 z6 z7 z8 z9 z10 z11 z12 z13 => fX1_nextMember_b6 N n6 z0 z1 z2 z3 z4 z5 z6 z7 z8 z9 z10 z11 z12 z13) x2 x3 x4 Eset Esupport Eworth Eloads Eunit Ccandidates Cballots Cwithdrawn Cvoters Csets Crank = some u → ∀ (H : Heap) (locs : List Loc) (ls : Array Slot), Wd D A s.heap (zwE cI cJ aE Eorder Eabove Ebelow Eelected Eset Esupport Eworth Eloads Eunit ++ (zwC cI aC Ccandidates Cballots Cseats Cwithdrawn Cvoters Csets Crank)) H locs → lv_has ls 6 [(0, .ref (aE 0)), (1, .ref (aC 0)), (2, .int x2), (3, .int x3), (4, .int x4)] → W p l e (zk_rm 3 68) s m args below meth c H locs 0 0 Q (F0 m 76 ls []) := by
        intro x2 x3 x4 Eworth hf H locs ls hw hl
        unfold fX1_nextMember_b76 at hf
        refine lv_iinc (v := (x4 + (1 : Int32))) (lv' := [(4, .int (x4 + (1 : Int32))), (0, .ref (aE 0)), (1, .ref (aC 0)), (2, .int x2), (3, .int x3)]) hx hb dX1_nextMember_76 hl (k := 4) rfl rfl (by decide) rfl (fun ls hl => ?_)
        refine lv_goto (tgt := 6) hx hb dX1_nextMember_79 (by decide) ?_
        exact ih6 x2 x3 (x4 + (1 : Int32)) Eworth hf H locs ls hw (lv_sub hl [1, 2, 3, 4, 0] rfl)
      have b73 : ∀ (x2 : Int32) (x4 : Int32) (x5 : Int32) (Eworth : Nat → Int64), fX1_nextMember_b73 N (fun z0 z1 z2 z3 z4 z5 z6 z7 z8 z9 z10 z11 z12 z13 => fX1_nextMember_b6 N n6 z0 z1 z2 z3 z4 z5 z6 z7 z8 z9 z10 z11 z12 z13) x2 x4 x5 Eset Esupport Eworth Eloads Eunit Ccandidates Cballots Cwithdrawn Cvoters Csets Crank = some u → ∀ (H : Heap) (locs : List Loc) (ls : Array Slot), Wd D A s.heap (zwE cI cJ aE Eorder Eabove Ebelow Eelected Eset Esupport Eworth Eloads Eunit ++ (zwC cI aC Ccandidates Cballots Cseats Cwithdrawn Cvoters Csets Crank)) H locs → lv_has ls 6 [(0, .ref (aE 0)), (1, .ref (aC 0)), (2, .int x2), (4, .int x4), (5, .int x5)] → W p l e (zk_rm 3 68) s m args below meth c H locs 0 0 Q (F0 m 73 ls []) := by
        intro x2 x4 x5 Eworth hf H locs ls hw hl
        unfold fX1_nextMember_b73 at hf
        refine lv_iload hx hb dX1_nextMember_73 (lv_at hl 4 rfl) ?_
        refine lv_istore_n (lv' := [(3, .int x5), (0, .ref (aE 0)), (1, .ref (aC 0)), (2, .int x2), (4, .int x4), (5, .int x5)]) hx hb dX1_nextMember_75 rfl hl (by decide) rfl (fun ls hl => ?_)
        exact b76 x2 x5 x4 Eworth hf H locs ls hw (lv_sub hl [1, 2, 3, 0, 4] rfl)
      intro x2 x3 x4 Eworth hf H locs ls hw hl
      rw [fX1_nextMember_b6] at hf
      refine lv_iload hx hb dX1_nextMember_6 (lv_at hl 4 rfl) ?_
      refine lv_aload_n hx hb dX1_nextMember_8 rfl (lv_at hl 1 rfl) ?_
      refine va_getN (D := D) (ci := 0) (v := .int Ccandidates) (C := RX0) (T := TX0) (N := 7) hx hb hts hiX0 hown hK hw.1 7 rfl rfl 0 (by decide) (va_Nw.use rfl (nwF_X1_59 hN)) (fun _ h9 => h9) rfl dX1_nextMember_9 ?_
      refine lv_icmp_ge (tgt := 82) hx hb dX1_nextMember_12 (by decide) (fun c1 => ?_) (fun c1 => ?_)
      · replace hf := zk_t c1 hf
        refine lv_iload_n hx hb dX1_nextMember_82 rfl (lv_at hl 3 rfl) ?_
        cases hf
        exact zk_iret hx hb hr hlocks rfl hQ hw [0, 1, 2, 3, 4, 5, 6, 7, 8, 9, 10] rfl (by decide) dX1_nextMember_83
      · replace hf := zk_f c1 hf
        refine lv_aload_n hx hb dX1_nextMember_15 rfl (lv_at hl 1 rfl) ?_
        refine va_getN (D := D) (ci := 0) (v := .ref (aC 3)) (C := RX0) (T := TX0) (N := 7) hx hb hts hiX0 hown hK hw.1 7 rfl rfl 6 (by decide) (va_Nw.use rfl (nwF_X1_66 hN)) (fun _ h9 => h9) rfl dX1_nextMember_16 ?_
        refine lv_iload hx hb dX1_nextMember_19 (lv_at hl 4 rfl) ?_
        obtain ⟨h2, hf⟩ := zk_ck hf
        refine zk_iald hx hb hK hw 10 rfl h2 (j := x4.toNatClampNeg) rfl dX1_nextMember_21 ?_
        refine lv_istore (lv' := [(5, .int (Crank x4.toNatClampNeg)), (0, .ref (aE 0)), (1, .ref (aC 0)), (2, .int x2), (3, .int x3), (4, .int x4)]) hx hb dX1_nextMember_22 hl (by decide) rfl (fun ls hl => ?_)
        refine lv_aload_n hx hb dX1_nextMember_24 rfl (lv_at hl 2 rfl) ?_
        refine va_getN (D := D) (ci := 0) (v := .int Cwithdrawn) (C := RX0) (T := TX0) (N := 7) hx hb hts hiX0 hown hK hw.1 7 rfl rfl 3 (by decide) (va_Nw.use rfl (nwF_X1_69 hN)) (fun _ h9 => h9) rfl dX1_nextMember_25 ?_
        refine lv_aload_n hx hb dX1_nextMember_28 rfl (lv_at hl 1 rfl) ?_
        refine va_get (D := D) (ci := 1) (v := .int Eset) (C := RX1) (T := TX1) (N := 9) hx hb hts hiX1 hown hK hw.1 0 rfl rfl 4 (by decide) hq0 (fun _ h9 => h9) rfl dX1_nextMember_29 ?_
        refine lv_ior hx hb dX1_nextMember_32 ?_
        refine lv_iload hx hb dX1_nextMember_33 (lv_at hl 0 rfl) ?_
        obtain ⟨u3, e4, hf⟩ := zk_bd hf
        refine zk_calli (wc := []) (wr := zwE cI cJ aE Eorder Eabove Ebelow Eelected Eset Esupport Eworth Eloads Eunit ++ (zwC cI aC Ccandidates Cballots Cseats Cwithdrawn Cvoters Csets Crank)) hw hA [] [0, 1, 2, 3, 4, 5, 6, 7, 8, 9, 10] rfl rfl (by decide) (by decide) (va_runSN (As := [.int (Cwithdrawn ||| Eset), .int (Crank x4.toNatClampNeg)]) (rest := []) ⟨hx, hb, hml, hown, hts⟩ (kX4_hasBit l D cI cJ cO N (Cwithdrawn ||| Eset) (Crank x4.toNatClampNeg) u3 e4 H.size) ⟨va_cnB 2 hts ggX1_nextMember_X4_hasBit rfl rfl rfl (nwM_X1_72 hN) hq1 (by decide +kernel) ⟨Nat.le_of_ble_eq_true rfl, Nat.le_of_ble_eq_true rfl⟩, hq2, trivial⟩ (zk_preS (wc := []) hN hK hw [] rfl (by decide)) rfl rfl hl.1 rfl (lv_room (Nat.le_of_ble_eq_true rfl)) dX1_nextMember_35 ⟨Nat.zero_le _, Nat.zero_le _⟩) (fun H locs hw => ?_)
        have hw : Wd D A s.heap (zwE cI cJ aE Eorder Eabove Ebelow Eelected Eset Esupport Eworth Eloads Eunit ++ (zwC cI aC Ccandidates Cballots Cseats Cwithdrawn Cvoters Csets Crank)) H locs := hw
        refine lv_if_ne (tgt := 76) hx hb dX1_nextMember_38 (by decide) (fun c5 => ?_) (fun c5 => ?_)
        · replace hf := zk_f c5 hf
          exact b76 x2 x3 x4 Eworth hf H locs ls hw (lv_sub hl [1, 2, 3, 4, 5] rfl)
        · replace hf := zk_t c5 hf
          refine lv_aload_n hx hb dX1_nextMember_41 rfl (lv_at hl 1 rfl) ?_
          refine va_get (D := D) (ci := 1) (v := .ref (aE 5)) (C := RX1) (T := TX1) (N := 9) hx hb hts hiX1 hown hK hw.1 0 rfl rfl 6 (by decide) hq3 (fun _ h9 => h9) rfl dX1_nextMember_42 ?_
          refine lv_iload hx hb dX1_nextMember_45 (lv_at hl 0 rfl) ?_
          refine lv_aload_n hx hb dX1_nextMember_47 rfl (lv_at hl 1 rfl) ?_
          refine lv_aload_n hx hb dX1_nextMember_48 rfl (lv_at hl 2 rfl) ?_
          refine lv_iload_n hx hb dX1_nextMember_49 rfl (lv_at hl 3 rfl) ?_
          refine lv_iload hx hb dX1_nextMember_50 (lv_at hl 0 rfl) ?_
          obtain ⟨u6, e7, hf⟩ := zk_bd hf
          refine zk_calll (wc := zwE cI cJ aE Eorder Eabove Ebelow Eelected Eset Esupport Eworth Eloads Eunit ++ (zwC cI aC Ccandidates Cballots Cseats Cwithdrawn Cvoters Csets Crank)) (wr := []) hw hA [0, 1, 2, 3, 4, 5, 6, 7, 8, 9, 10] [] rfl rfl (by decide) (by decide) (va_runV (C := RX1) (As := [.ref (aC 0), .int x2, .int (Crank x4.toNatClampNeg)]) (rest := [.int (Crank x4.toNatClampNeg), .ref (aE 5)]) ⟨hx, hb, hml, hown, hts⟩ (kX1_worthOf l D cI cJ cO N aE aC x2 (Crank x4.toNatClampNeg) Eorder Eabove Ebelow Eelected Eset Esupport Eworth Eloads Eunit Ccandidates Cballots Cseats Cwithdrawn Cvoters Csets Crank u6 e7 H.size) (cwV 3 hts gX1_nextMember_X1_worthOf rfl rfl rfl (by decide +kernel) ⟨Nat.le_of_ble_eq_true rfl, Nat.le_of_ble_eq_true rfl⟩) (zk_preV (wc := zwE cI cJ aE Eorder Eabove Ebelow Eelected Eset Esupport Eworth Eloads Eunit ++ (zwC cI aC Ccandidates Cballots Cseats Cwithdrawn Cvoters Csets Crank)) hN hK hw [0, 1, 2, 3, 4, 5, 6, 7, 8, 9, 10] rfl (by decide) 0 1 rfl rfl) rfl rfl hl.1 rfl (lv_room (Nat.le_of_ble_eq_true rfl)) dX1_nextMember_52 ⟨Nat.zero_le _, Nat.zero_le _⟩) (fun H locs hw => ?_)
          have hw : Wd D A s.heap (zwE cI cJ aE Eorder Eabove Ebelow Eelected Eset Esupport Eworth Eloads Eunit ++ (zwC cI aC Ccandidates Cballots Cseats Cwithdrawn Cvoters Csets Crank)) H locs := hw
          obtain ⟨h8, hf⟩ := zk_ck hf
          refine zk_last hx hb hK hw 5 rfl h8 (j := (Crank x4.toNatClampNeg).toNatClampNeg) rfl dX1_nextMember_55 (fun H locs hw => ?_)
          have hw : Wd D A s.heap (zwE cI cJ aE Eorder Eabove Ebelow Eelected Eset Esupport (vp_updL Eworth ((Crank x4.toNatClampNeg).toNatClampNeg) u6) Eloads Eunit ++ (zwC cI aC Ccandidates Cballots Cseats Cwithdrawn Cvoters Csets Crank)) H locs := hw
          refine lv_iload_n hx hb dX1_nextMember_56 rfl (lv_at hl 4 rfl) ?_
          refine lv_bipush (v := (-4)) hx hb dX1_nextMember_57 (by decide) ?_
          refine lv_icmp_eq (tgt := 73) hx hb dX1_nextMember_59 (by decide) (fun c9 => ?_) (fun c9 => ?_)
          · replace hf := zk_t c9 hf
            exact b73 x2 x4 (Crank x4.toNatClampNeg) (vp_updL Eworth ((Crank x4.toNatClampNeg).toNatClampNeg) u6) hf H locs ls hw (lv_sub hl [1, 2, 3, 5, 0] rfl)
          · replace hf := zk_f c9 hf
            refine lv_aload_n hx hb dX1_nextMember_62 rfl (lv_at hl 1 rfl) ?_
            refine lv_iload_n hx hb dX1_nextMember_63 rfl (lv_at hl 3 rfl) ?_
            refine lv_iload hx hb dX1_nextMember_64 (lv_at hl 0 rfl) ?_
            refine lv_iload_n hx hb dX1_nextMember_66 rfl (lv_at hl 4 rfl) ?_
            obtain ⟨u10, e11, hf⟩ := zk_bd hf
            refine zk_calli (wc := zwE cI cJ aE Eorder Eabove Ebelow Eelected Eset Esupport (vp_updL Eworth ((Crank x4.toNatClampNeg).toNatClampNeg) u6) Eloads Eunit) (wr := zwC cI aC Ccandidates Cballots Cseats Cwithdrawn Cvoters Csets Crank) hw hA [0, 1, 2, 3, 4, 5, 6] [7, 8, 9, 10] rfl rfl (by decide) (by decide) (va_runV (C := RX1) (As := [.int x2, .int (Crank x4.toNatClampNeg), .int x3]) (rest := []) ⟨hx, hb, hml, hown, hts⟩ (kX1_isAhead l D cI cJ cO N aE x2 (Crank x4.toNatClampNeg) x3 Eorder Eabove Ebelow Eelected Eset Esupport (vp_updL Eworth ((Crank x4.toNatClampNeg).toNatClampNeg) u6) Eloads Eunit u10 e11 H.size) (cwV 3 hts gX1_nextMember_X1_isAhead rfl rfl rfl (by decide +kernel) ⟨Nat.le_of_ble_eq_true rfl, Nat.le_of_ble_eq_true rfl⟩) (zk_preV (wc := zwE cI cJ aE Eorder Eabove Ebelow Eelected Eset Esupport (vp_updL Eworth ((Crank x4.toNatClampNeg).toNatClampNeg) u6) Eloads Eunit) hN hK hw [0, 1, 2, 3, 4, 5, 6] rfl (by decide) 0 1 rfl rfl) rfl rfl hl.1 rfl (lv_room (Nat.le_of_ble_eq_true rfl)) dX1_nextMember_67 ⟨Nat.zero_le _, Nat.zero_le _⟩) (fun H locs hw => ?_)
            have hw : Wd D A s.heap (zwC cI aC Ccandidates Cballots Cseats Cwithdrawn Cvoters Csets Crank ++ (zwE cI cJ aE Eorder Eabove Ebelow Eelected Eset Esupport (vp_updL Eworth ((Crank x4.toNatClampNeg).toNatClampNeg) u6) Eloads Eunit)) H locs := hw
            refine lv_if_eq (tgt := 76) hx hb dX1_nextMember_70 (by decide) (fun c12 => ?_) (fun c12 => ?_)
            · replace hf := zk_t c12 hf
              exact b76 x2 x3 x4 (vp_updL Eworth ((Crank x4.toNatClampNeg).toNatClampNeg) u6) hf H locs ls ⟨P_map hw.1 [4, 5, 6, 7, 8, 9, 10, 0, 1, 2, 3] rfl, hw.2.1.sub [4, 5, 6, 7, 8, 9, 10, 0, 1, 2, 3] (by decide) rfl, hw.2.2⟩ (lv_sub hl [1, 2, 3, 4, 5] rfl)
            · replace hf := zk_f c12 hf
              exact b73 x2 x4 (Crank x4.toNatClampNeg) (vp_updL Eworth ((Crank x4.toNatClampNeg).toNatClampNeg) u6) hf H locs ls ⟨P_map hw.1 [4, 5, 6, 7, 8, 9, 10, 0, 1, 2, 3] rfl, hw.2.1.sub [4, 5, 6, 7, 8, 9, 10, 0, 1, 2, 3] (by decide) rfl, hw.2.2⟩ (lv_sub hl [1, 2, 3, 5, 0] rfl)
  unfold fX1_nextMember at hf
  refine lv_bipush (v := (-4)) hx hb dX1_nextMember_0 (by decide) ?_
  refine lv_istore_n (lv' := [(3, .int (-4 : Int32)), (0, .ref (aE 0)), (1, .ref (aC 0)), (2, .int p1)]) hx hb dX1_nextMember_2 rfl hl (by decide) rfl (fun ls hl => ?_)
  refine lv_iconst (v := 0) hx hb dX1_nextMember_3 (by decide) ?_
  refine lv_istore (lv' := [(4, .int (0 : Int32)), (3, .int (-4 : Int32)), (0, .ref (aE 0)), (1, .ref (aC 0)), (2, .int p1)]) hx hb dX1_nextMember_4 hl (by decide) rfl (fun ls hl => ?_)
  exact b6 N p1 (-4 : Int32) (0 : Int32) Eworth hf H locs ls hw (lv_sub hl [2, 3, 4, 1, 0] rfl)
set_option maxHeartbeats 4000000 in
set_option maxRecDepth 100000 in
theorem kX1_spreadLoad (l : Launch) (D : va_G) (cI cJ cO : ClassId) (N : Nat) (aE aC : Nat → Nat) (p1 : Int32) (Eorder : Nat → Int32) (Eabove : Nat → Int64) (Ebelow : Nat → Int64) (Eelected : Int32) (Eset : Int32) (Esupport : Nat → Int32) (Eworth : Nat → Int64) (Eloads : Nat → Int64) (Eunit : Int64) (Ccandidates : Int32) (Cballots : Int32) (Cseats : Int32) (Cwithdrawn : Int32) (Cvoters : Nat → Int32) (Csets : Nat → Int32) (Crank : Nat → Int32) (u : (Nat → Int64) × (Int64)) (hf : fX1_spreadLoad N p1 Esupport Eworth Eloads Eunit Cballots Csets = some u) : CtV l yX1_spreadLoad wsX1_spreadLoad (zk_rm 1 21) D cI cJ cO [.ref (aE 0), .ref (aC 0), .int p1] (zwE cI cJ aE Eorder Eabove Ebelow Eelected Eset Esupport Eworth Eloads Eunit ++ (zwC cI aC Ccandidates Cballots Cseats Cwithdrawn Cvoters Csets Crank)) (zwE cI cJ aE Eorder Eabove Ebelow Eelected Eset Esupport Eworth u.1 u.2 ++ (zwC cI aC Ccandidates Cballots Cseats Cwithdrawn Cvoters Csets Crank)) := by
  refine zk_enter (cc := cX1_spreadLoad) (maxL := 4) (ret := none) (own := RX1) (Qf := fun A => QwV D (zwE cI cJ aE Eorder Eabove Ebelow Eelected Eset Esupport Eworth u.1 u.2 ++ (zwC cI aC Ccandidates Cballots Cseats Cwithdrawn Cvoters Csets Crank)) A) (by decide) rfl rfl (Nat.le_of_ble_eq_true rfl) ?_
  intro p e s m args below meth c A Q H locs ls hC hQ hw hl
  obtain ⟨hx, hb, hml, hr, hts, hown, hlocks, hN, hK, hA⟩ := hC
  have hl : lv_has ls 4 [(0, .ref (aE 0)), (1, .ref (aC 0)), (2, .int p1)] := hl
  have hiX1 : ∀ w ∈ u_ws RX1 TX1 9, w ∈ wsX1_spreadLoad := by decide +kernel
  have hiX0 : ∀ w ∈ u_ws RX0 TX0 7, w ∈ wsX1_spreadLoad := by decide +kernel
  have hq0 := hts (.fieldLink RX1 55 "LoadCouncil$Election" "unit" "J") (by decide +kernel)
  have hq1 := hts (.fieldLink RX1 22 "LoadCouncil$Election" "support" "[I") (by decide +kernel)
  have hq2 := hts (.fieldLink RX1 28 "LoadCouncil$Election" "loads" "[J") (by decide +kernel)
  have hq3 := hts (.initialized RX4) (by decide +kernel)
  have hq4 := hts (.static yX4_hasBit) (by decide +kernel)
  have hq5 := hts (.fieldLink RX1 25 "LoadCouncil$Election" "worth" "[J") (by decide +kernel)
  have b58 : ∀ (x2 : Int32) (Eloads : Nat → Int64) (Eunit : Int64), fX1_spreadLoad_b58 N x2 Esupport Eloads Eunit = some u → ∀ (H : Heap) (locs : List Loc) (ls : Array Slot), Wd D A s.heap (zwE cI cJ aE Eorder Eabove Ebelow Eelected Eset Esupport Eworth Eloads Eunit ++ (zwC cI aC Ccandidates Cballots Cseats Cwithdrawn Cvoters Csets Crank)) H locs → lv_has ls 4 [(0, .ref (aE 0)), (2, .int x2)] → W p l e (zk_rm 1 21) s m args below meth c H locs 0 0 Q (F0 m 58 ls []) := by
    intro x2 Eloads Eunit hf H locs ls hw hl
    unfold fX1_spreadLoad_b58 at hf
    refine lv_aload_n hx hb dX1_spreadLoad_58 rfl (lv_at hl 0 rfl) ?_
    refine lv_dup hx hb dX1_spreadLoad_59 rfl ?_
    refine va_get (D := D) (ci := 1) (v := .long Eunit) (C := RX1) (T := TX1) (N := 9) hx hb hts hiX1 hown hK hw.1 0 rfl rfl 8 (by decide) hq0 (fun _ h9 => h9) rfl dX1_spreadLoad_60 ?_
    refine lv_aload_n hx hb dX1_spreadLoad_63 rfl (lv_at hl 0 rfl) ?_
    refine va_get (D := D) (ci := 1) (v := .ref (aE 4)) (C := RX1) (T := TX1) (N := 9) hx hb hts hiX1 hown hK hw.1 0 rfl rfl 5 (by decide) hq1 (fun _ h9 => h9) rfl dX1_spreadLoad_64 ?_
    refine lv_iload_n hx hb dX1_spreadLoad_67 rfl (lv_at hl 1 rfl) ?_
    obtain ⟨h1, hf⟩ := zk_ck hf
    refine zk_iald hx hb hK hw 4 rfl h1 (j := x2.toNatClampNeg) rfl dX1_spreadLoad_68 ?_
    refine lv_i2l (v := (Esupport x2.toNatClampNeg).toInt64) hx hb dX1_spreadLoad_69 rfl ?_
    refine lv_lmul hx hb dX1_spreadLoad_70 ?_
    refine va_put (D := D) (ci := 1) (v := .long (Eunit * ((Esupport x2.toNatClampNeg).toInt64))) (C := RX1) (T := TX1) (N := 9) hx hb hts hiX1 tyX1 tyX1_ok nmX1 hown hK hw.1 hw.2.1 hw.2.2 0 rfl rfl 8 (by decide) hq0 (fun _ h9 => h9) rfl (tyX1_ok 8 (by decide)) rfl rfl (Nat.le_of_ble_eq_true rfl) dX1_spreadLoad_71 (fun H locs hP hD hS => ?_)
    have hw : Wd D A s.heap (zwE cI cJ aE Eorder Eabove Ebelow Eelected Eset Esupport Eworth Eloads (Eunit * ((Esupport x2.toNatClampNeg).toInt64)) ++ (zwC cI aC Ccandidates Cballots Cseats Cwithdrawn Cvoters Csets Crank)) H locs := ⟨hP, hD, hS⟩
    clear hP hD hS
    cases hf
    exact zk_vret hx hb hr hlocks hQ hw [0, 1, 2, 3, 4, 5, 6, 7, 8, 9, 10] rfl (by decide) dX1_spreadLoad_74
  have b2 : ∀ (n2 : Nat), ∀ (x2 : Int32) (x3 : Int32) (Eloads : Nat → Int64) (Eunit : Int64), fX1_spreadLoad_b2 N n2 x2 x3 Esupport Eworth Eloads Eunit Cballots Csets = some u → ∀ (H : Heap) (locs : List Loc) (ls : Array Slot), Wd D A s.heap (zwE cI cJ aE Eorder Eabove Ebelow Eelected Eset Esupport Eworth Eloads Eunit ++ (zwC cI aC Ccandidates Cballots Cseats Cwithdrawn Cvoters Csets Crank)) H locs → lv_has ls 4 [(0, .ref (aE 0)), (1, .ref (aC 0)), (2, .int x2), (3, .int x3)] → W p l e (zk_rm 1 21) s m args below meth c H locs 0 0 Q (F0 m 2 ls []) := by
    intro n2
    induction n2 with
    | zero =>
      intro x2 x3 Eloads Eunit hf
      exact zk_none hf
    | succ n2 ih2 =>
      have b51 : ∀ (x2 : Int32) (x3 : Int32) (t1 : Int32) (t2 : Int64) (Eloads : Nat → Int64) (Eunit : Int64), fX1_spreadLoad_b51 N (fun z0 z1 z2 z3 z4 z5 z6 z7 => fX1_spreadLoad_b2 N n2 z0 z1 z2 z3 z4 z5 z6 z7) x2 x3 t1 t2 Esupport Eworth Eloads Eunit Cballots Csets = some u → ∀ (H : Heap) (locs : List Loc) (ls : Array Slot), Wd D A s.heap (zwE cI cJ aE Eorder Eabove Ebelow Eelected Eset Esupport Eworth Eloads Eunit ++ (zwC cI aC Ccandidates Cballots Cseats Cwithdrawn Cvoters Csets Crank)) H locs → lv_has ls 4 [(0, .ref (aE 0)), (1, .ref (aC 0)), (2, .int x2), (3, .int x3)] → W p l e (zk_rm 1 21) s m args below meth c H locs 0 0 Q (F0 m 51 ls [.long t2, .int t1, .ref (aE 6)]) := by
        intro x2 x3 t1 t2 Eloads Eunit hf H locs ls hw hl
        unfold fX1_spreadLoad_b51 at hf
        obtain ⟨h2, hf⟩ := zk_ck hf
        refine zk_last hx hb hK hw 6 rfl h2 (j := t1.toNatClampNeg) rfl dX1_spreadLoad_51 (fun H locs hw => ?_)
        have hw : Wd D A s.heap (zwE cI cJ aE Eorder Eabove Ebelow Eelected Eset Esupport Eworth (vp_updL Eloads t1.toNatClampNeg t2) Eunit ++ (zwC cI aC Ccandidates Cballots Cseats Cwithdrawn Cvoters Csets Crank)) H locs := hw
        refine lv_iinc (v := (x3 + (1 : Int32))) (lv' := [(3, .int (x3 + (1 : Int32))), (0, .ref (aE 0)), (1, .ref (aC 0)), (2, .int x2)]) hx hb dX1_spreadLoad_52 hl (k := 3) rfl rfl (by decide) rfl (fun ls hl => ?_)
        refine lv_goto (tgt := 2) hx hb dX1_spreadLoad_55 (by decide) ?_
        exact ih2 x2 (x3 + (1 : Int32)) (vp_updL Eloads t1.toNatClampNeg t2) Eunit hf H locs ls hw (lv_sub hl [1, 2, 3, 0] rfl)
      intro x2 x3 Eloads Eunit hf H locs ls hw hl
      rw [fX1_spreadLoad_b2] at hf
      refine lv_iload_n hx hb dX1_spreadLoad_2 rfl (lv_at hl 3 rfl) ?_
      refine lv_aload_n hx hb dX1_spreadLoad_3 rfl (lv_at hl 1 rfl) ?_
      refine va_getN (D := D) (ci := 0) (v := .int Cballots) (C := RX0) (T := TX0) (N := 7) hx hb hts hiX0 hown hK hw.1 7 rfl rfl 1 (by decide) (va_Nw.use rfl (nwF_X1_84 hN)) (fun _ h9 => h9) rfl dX1_spreadLoad_4 ?_
      refine lv_icmp_ge (tgt := 58) hx hb dX1_spreadLoad_7 (by decide) (fun c3 => ?_) (fun c3 => ?_)
      · replace hf := zk_t c3 hf
        exact b58 x2 Eloads Eunit hf H locs ls hw (lv_sub hl [0, 2] rfl)
      · replace hf := zk_f c3 hf
        refine lv_aload_n hx hb dX1_spreadLoad_10 rfl (lv_at hl 0 rfl) ?_
        refine va_get (D := D) (ci := 1) (v := .ref (aE 6)) (C := RX1) (T := TX1) (N := 9) hx hb hts hiX1 hown hK hw.1 0 rfl rfl 7 (by decide) hq2 (fun _ h9 => h9) rfl dX1_spreadLoad_11 ?_
        refine lv_iload_n hx hb dX1_spreadLoad_14 rfl (lv_at hl 3 rfl) ?_
        refine lv_aload_n hx hb dX1_spreadLoad_15 rfl (lv_at hl 1 rfl) ?_
        refine va_getN (D := D) (ci := 0) (v := .ref (aC 2)) (C := RX0) (T := TX0) (N := 7) hx hb hts hiX0 hown hK hw.1 7 rfl rfl 5 (by decide) (va_Nw.use rfl (nwF_X1_87 hN)) (fun _ h9 => h9) rfl dX1_spreadLoad_16 ?_
        refine lv_iload_n hx hb dX1_spreadLoad_19 rfl (lv_at hl 3 rfl) ?_
        obtain ⟨h4, hf⟩ := zk_ck hf
        refine zk_iald hx hb hK hw 9 rfl h4 (j := x3.toNatClampNeg) rfl dX1_spreadLoad_20 ?_
        refine lv_iload_n hx hb dX1_spreadLoad_21 rfl (lv_at hl 2 rfl) ?_
        obtain ⟨u5, e6, hf⟩ := zk_bd hf
        refine zk_calli (wc := []) (wr := zwE cI cJ aE Eorder Eabove Ebelow Eelected Eset Esupport Eworth Eloads Eunit ++ (zwC cI aC Ccandidates Cballots Cseats Cwithdrawn Cvoters Csets Crank)) hw hA [] [0, 1, 2, 3, 4, 5, 6, 7, 8, 9, 10] rfl rfl (by decide) (by decide) (va_runSN (As := [.int (Csets x3.toNatClampNeg), .int x2]) (rest := [.int x3, .ref (aE 6)]) ⟨hx, hb, hml, hown, hts⟩ (kX4_hasBit l D cI cJ cO N (Csets x3.toNatClampNeg) x2 u5 e6 H.size) ⟨va_cnB 2 hts ggX1_spreadLoad_X4_hasBit rfl rfl rfl (nwM_X1_72 hN) hq3 (by decide +kernel) ⟨Nat.le_of_ble_eq_true rfl, Nat.le_of_ble_eq_true rfl⟩, hq4, trivial⟩ (zk_preS (wc := []) hN hK hw [] rfl (by decide)) rfl rfl hl.1 rfl (lv_room (Nat.le_of_ble_eq_true rfl)) dX1_spreadLoad_22 ⟨Nat.zero_le _, Nat.zero_le _⟩) (fun H locs hw => ?_)
        have hw : Wd D A s.heap (zwE cI cJ aE Eorder Eabove Ebelow Eelected Eset Esupport Eworth Eloads Eunit ++ (zwC cI aC Ccandidates Cballots Cseats Cwithdrawn Cvoters Csets Crank)) H locs := hw
        refine lv_if_eq (tgt := 37) hx hb dX1_spreadLoad_25 (by decide) (fun c7 => ?_) (fun c7 => ?_)
        · replace hf := zk_t c7 hf
          refine lv_aload_n hx hb dX1_spreadLoad_37 rfl (lv_at hl 0 rfl) ?_
          refine va_get (D := D) (ci := 1) (v := .ref (aE 6)) (C := RX1) (T := TX1) (N := 9) hx hb hts hiX1 hown hK hw.1 0 rfl rfl 7 (by decide) hq2 (fun _ h9 => h9) rfl dX1_spreadLoad_38 ?_
          refine lv_iload_n hx hb dX1_spreadLoad_41 rfl (lv_at hl 3 rfl) ?_
          refine zk_lald hx hb hK hw 6 rfl h4 (j := x3.toNatClampNeg) rfl dX1_spreadLoad_42 ?_
          refine lv_aload_n hx hb dX1_spreadLoad_43 rfl (lv_at hl 0 rfl) ?_
          refine va_get (D := D) (ci := 1) (v := .ref (aE 4)) (C := RX1) (T := TX1) (N := 9) hx hb hts hiX1 hown hK hw.1 0 rfl rfl 5 (by decide) hq1 (fun _ h9 => h9) rfl dX1_spreadLoad_44 ?_
          refine lv_iload_n hx hb dX1_spreadLoad_47 rfl (lv_at hl 2 rfl) ?_
          obtain ⟨h8, hf⟩ := zk_ck hf
          refine zk_iald hx hb hK hw 4 rfl h8 (j := x2.toNatClampNeg) rfl dX1_spreadLoad_48 ?_
          refine lv_i2l (v := (Esupport x2.toNatClampNeg).toInt64) hx hb dX1_spreadLoad_49 rfl ?_
          refine lv_lmul hx hb dX1_spreadLoad_50 ?_
          exact b51 x2 x3 x3 ((Eloads x3.toNatClampNeg) * ((Esupport x2.toNatClampNeg).toInt64)) Eloads Eunit hf H locs ls hw (lv_sub hl [0, 1, 2, 3] rfl)
        · replace hf := zk_f c7 hf
          refine lv_aload_n hx hb dX1_spreadLoad_28 rfl (lv_at hl 0 rfl) ?_
          refine va_get (D := D) (ci := 1) (v := .ref (aE 5)) (C := RX1) (T := TX1) (N := 9) hx hb hts hiX1 hown hK hw.1 0 rfl rfl 6 (by decide) hq5 (fun _ h9 => h9) rfl dX1_spreadLoad_29 ?_
          refine lv_iload_n hx hb dX1_spreadLoad_32 rfl (lv_at hl 2 rfl) ?_
          obtain ⟨h9, hf⟩ := zk_ck hf
          refine zk_lald hx hb hK hw 5 rfl h9 (j := x2.toNatClampNeg) rfl dX1_spreadLoad_33 ?_
          refine lv_goto (tgt := 51) hx hb dX1_spreadLoad_34 (by decide) ?_
          exact b51 x2 x3 x3 (Eworth x2.toNatClampNeg) Eloads Eunit hf H locs ls hw (lv_sub hl [0, 1, 2, 3] rfl)
  unfold fX1_spreadLoad at hf
  refine lv_iconst (v := 0) hx hb dX1_spreadLoad_0 (by decide) ?_
  refine lv_istore_n (lv' := [(3, .int (0 : Int32)), (0, .ref (aE 0)), (1, .ref (aC 0)), (2, .int p1)]) hx hb dX1_spreadLoad_1 rfl hl (by decide) rfl (fun ls hl => ?_)
  exact b2 N p1 (0 : Int32) Eloads Eunit hf H locs ls hw (lv_sub hl [1, 2, 3, 0] rfl)
set_option maxHeartbeats 4000000 in
set_option maxRecDepth 100000 in
theorem kX1_elect (l : Launch) (D : va_G) (cI cJ cO : ClassId) (N : Nat) (aE aC : Nat → Nat) (p1 : Int32) (p2 : Int32) (Eorder : Nat → Int32) (Eabove : Nat → Int64) (Ebelow : Nat → Int64) (Eelected : Int32) (Eset : Int32) (Esupport : Nat → Int32) (Eworth : Nat → Int64) (Eloads : Nat → Int64) (Eunit : Int64) (Ccandidates : Int32) (Cballots : Int32) (Cseats : Int32) (Cwithdrawn : Int32) (Cvoters : Nat → Int32) (Csets : Nat → Int32) (Crank : Nat → Int32) (u : (Nat → Int32) × (Nat → Int64) × (Nat → Int64) × (Int32) × (Int32) × (Nat → Int64) × (Int64)) (hf : fX1_elect N p1 p2 Eorder Eabove Ebelow Eelected Eset Esupport Eworth Eloads Eunit Cballots Csets = some u) : CtV l yX1_elect wsX1_elect (zk_rm 2 44) D cI cJ cO [.ref (aE 0), .ref (aC 0), .int p1, .int p2] (zwE cI cJ aE Eorder Eabove Ebelow Eelected Eset Esupport Eworth Eloads Eunit ++ (zwC cI aC Ccandidates Cballots Cseats Cwithdrawn Cvoters Csets Crank)) (zwE cI cJ aE u.1 u.2.1 u.2.2.1 u.2.2.2.1 u.2.2.2.2.1 Esupport Eworth u.2.2.2.2.2.1 u.2.2.2.2.2.2 ++ (zwC cI aC Ccandidates Cballots Cseats Cwithdrawn Cvoters Csets Crank)) := by
  refine zk_enter (cc := cX1_elect) (maxL := 4) (ret := none) (own := RX1) (Qf := fun A => QwV D (zwE cI cJ aE u.1 u.2.1 u.2.2.1 u.2.2.2.1 u.2.2.2.2.1 Esupport Eworth u.2.2.2.2.2.1 u.2.2.2.2.2.2 ++ (zwC cI aC Ccandidates Cballots Cseats Cwithdrawn Cvoters Csets Crank)) A) (by decide) rfl rfl (Nat.le_of_ble_eq_true rfl) ?_
  intro p e s m args below meth c A Q H locs ls hC hQ hw hl
  obtain ⟨hx, hb, hml, hr, hts, hown, hlocks, hN, hK, hA⟩ := hC
  have hl : lv_has ls 4 [(0, .ref (aE 0)), (1, .ref (aC 0)), (2, .int p1), (3, .int p2)] := hl
  have hiX1 : ∀ w ∈ u_ws RX1 TX1 9, w ∈ wsX1_elect := by decide +kernel
  have hq0 := hts (.fieldLink RX1 52 "LoadCouncil$Election" "elected" "I") (by decide +kernel)
  have hq1 := hts (.fieldLink RX1 45 "LoadCouncil$Election" "set" "I") (by decide +kernel)
  have hq2 := hts (.fieldLink RX1 9 "LoadCouncil$Election" "order" "[I") (by decide +kernel)
  have hq3 := hts (.fieldLink RX1 15 "LoadCouncil$Election" "above" "[J") (by decide +kernel)
  have hq4 := hts (.fieldLink RX1 25 "LoadCouncil$Election" "worth" "[J") (by decide +kernel)
  have hq5 := hts (.fieldLink RX1 22 "LoadCouncil$Election" "support" "[I") (by decide +kernel)
  have hq6 := hts (.fieldLink RX1 19 "LoadCouncil$Election" "below" "[J") (by decide +kernel)
  have hq7 := hts (.fieldLink RX1 55 "LoadCouncil$Election" "unit" "J") (by decide +kernel)
  have hq8 := hts (.constantLong RX1 102 (840)) (by decide +kernel)
  have b114 : ∀ (x3 : Int32) (Eorder : Nat → Int32) (Eabove : Nat → Int64) (Ebelow : Nat → Int64) (Eelected : Int32) (Eset : Int32) (Eloads : Nat → Int64) (Eunit : Int64), fX1_elect_b114 N x3 Eorder Eabove Ebelow Eelected Eset Eloads Eunit = some u → ∀ (H : Heap) (locs : List Loc) (ls : Array Slot), Wd D A s.heap (zwE cI cJ aE Eorder Eabove Ebelow Eelected Eset Esupport Eworth Eloads Eunit ++ (zwC cI aC Ccandidates Cballots Cseats Cwithdrawn Cvoters Csets Crank)) H locs → lv_has ls 4 [(0, .ref (aE 0)), (3, .int x3)] → W p l e (zk_rm 2 44) s m args below meth c H locs 0 0 Q (F0 m 114 ls []) := by
    intro x3 Eorder Eabove Ebelow Eelected Eset Eloads Eunit hf H locs ls hw hl
    unfold fX1_elect_b114 at hf
    refine lv_aload_n hx hb dX1_elect_114 rfl (lv_at hl 0 rfl) ?_
    refine lv_dup hx hb dX1_elect_115 rfl ?_
    refine va_get (D := D) (ci := 1) (v := .int Eelected) (C := RX1) (T := TX1) (N := 9) hx hb hts hiX1 hown hK hw.1 0 rfl rfl 3 (by decide) hq0 (fun _ h9 => h9) rfl dX1_elect_116 ?_
    refine lv_iconst (v := 1) hx hb dX1_elect_119 (by decide) ?_
    refine lv_iadd hx hb dX1_elect_120 ?_
    refine va_put (D := D) (ci := 1) (v := .int (Eelected + (1 : Int32))) (C := RX1) (T := TX1) (N := 9) hx hb hts hiX1 tyX1 tyX1_ok nmX1 hown hK hw.1 hw.2.1 hw.2.2 0 rfl rfl 3 (by decide) hq0 (fun _ h9 => h9) rfl (tyX1_ok 3 (by decide)) rfl rfl (Nat.le_of_ble_eq_true rfl) dX1_elect_121 (fun H locs hP hD hS => ?_)
    have hw : Wd D A s.heap (zwE cI cJ aE Eorder Eabove Ebelow (Eelected + (1 : Int32)) Eset Esupport Eworth Eloads Eunit ++ (zwC cI aC Ccandidates Cballots Cseats Cwithdrawn Cvoters Csets Crank)) H locs := ⟨hP, hD, hS⟩
    clear hP hD hS
    refine lv_aload_n hx hb dX1_elect_124 rfl (lv_at hl 0 rfl) ?_
    refine lv_dup hx hb dX1_elect_125 rfl ?_
    refine va_get (D := D) (ci := 1) (v := .int Eset) (C := RX1) (T := TX1) (N := 9) hx hb hts hiX1 hown hK hw.1 0 rfl rfl 4 (by decide) hq1 (fun _ h9 => h9) rfl dX1_elect_126 ?_
    refine lv_iconst (v := 1) hx hb dX1_elect_129 (by decide) ?_
    refine lv_iload_n hx hb dX1_elect_130 rfl (lv_at hl 1 rfl) ?_
    refine lv_ishl hx hb dX1_elect_131 ?_
    refine lv_ior hx hb dX1_elect_132 ?_
    refine va_put (D := D) (ci := 1) (v := .int (Eset ||| ((1 : Int32) <<< (x3 &&& 31)))) (C := RX1) (T := TX1) (N := 9) hx hb hts hiX1 tyX1 tyX1_ok nmX1 hown hK hw.1 hw.2.1 hw.2.2 0 rfl rfl 4 (by decide) hq1 (fun _ h9 => h9) rfl (tyX1_ok 4 (by decide)) rfl rfl (Nat.le_of_ble_eq_true rfl) dX1_elect_133 (fun H locs hP hD hS => ?_)
    have hw : Wd D A s.heap (zwE cI cJ aE Eorder Eabove Ebelow (Eelected + (1 : Int32)) (Eset ||| ((1 : Int32) <<< (x3 &&& 31))) Esupport Eworth Eloads Eunit ++ (zwC cI aC Ccandidates Cballots Cseats Cwithdrawn Cvoters Csets Crank)) H locs := ⟨hP, hD, hS⟩
    clear hP hD hS
    cases hf
    exact zk_vret hx hb hr hlocks hQ hw [0, 1, 2, 3, 4, 5, 6, 7, 8, 9, 10] rfl (by decide) dX1_elect_136
  unfold fX1_elect at hf
  refine lv_aload_n hx hb dX1_elect_0 rfl (lv_at hl 0 rfl) ?_
  refine va_get (D := D) (ci := 1) (v := .int Eelected) (C := RX1) (T := TX1) (N := 9) hx hb hts hiX1 hown hK hw.1 0 rfl rfl 3 (by decide) hq0 (fun _ h9 => h9) rfl dX1_elect_1 ?_
  refine lv_bipush (v := 8) hx hb dX1_elect_4 (by decide) ?_
  refine lv_icmp_lt (tgt := 10) hx hb dX1_elect_6 (by decide) (fun c1 => ?_) (fun c1 => ?_)
  · replace hf := zk_t c1 hf
    refine lv_aload_n hx hb dX1_elect_10 rfl (lv_at hl 0 rfl) ?_
    refine va_get (D := D) (ci := 1) (v := .ref (aE 1)) (C := RX1) (T := TX1) (N := 9) hx hb hts hiX1 hown hK hw.1 0 rfl rfl 0 (by decide) hq2 (fun _ h9 => h9) rfl dX1_elect_11 ?_
    refine lv_aload_n hx hb dX1_elect_14 rfl (lv_at hl 0 rfl) ?_
    refine va_get (D := D) (ci := 1) (v := .int Eelected) (C := RX1) (T := TX1) (N := 9) hx hb hts hiX1 hown hK hw.1 0 rfl rfl 3 (by decide) hq0 (fun _ h9 => h9) rfl dX1_elect_15 ?_
    refine lv_iload_n hx hb dX1_elect_18 rfl (lv_at hl 3 rfl) ?_
    obtain ⟨h2, hf⟩ := zk_ck hf
    refine zk_iast hx hb hK hw 1 rfl h2 (j := Eelected.toNatClampNeg) rfl dX1_elect_19 (fun H locs hw => ?_)
    have hw : Wd D A s.heap (zwE cI cJ aE (upd Eorder Eelected.toNatClampNeg p2) Eabove Ebelow Eelected Eset Esupport Eworth Eloads Eunit ++ (zwC cI aC Ccandidates Cballots Cseats Cwithdrawn Cvoters Csets Crank)) H locs := hw
    refine lv_aload_n hx hb dX1_elect_20 rfl (lv_at hl 0 rfl) ?_
    refine va_get (D := D) (ci := 1) (v := .ref (aE 2)) (C := RX1) (T := TX1) (N := 9) hx hb hts hiX1 hown hK hw.1 0 rfl rfl 1 (by decide) hq3 (fun _ h9 => h9) rfl dX1_elect_21 ?_
    refine lv_aload_n hx hb dX1_elect_24 rfl (lv_at hl 0 rfl) ?_
    refine va_get (D := D) (ci := 1) (v := .int Eelected) (C := RX1) (T := TX1) (N := 9) hx hb hts hiX1 hown hK hw.1 0 rfl rfl 3 (by decide) hq0 (fun _ h9 => h9) rfl dX1_elect_25 ?_
    refine lv_aload_n hx hb dX1_elect_28 rfl (lv_at hl 0 rfl) ?_
    refine va_get (D := D) (ci := 1) (v := .ref (aE 5)) (C := RX1) (T := TX1) (N := 9) hx hb hts hiX1 hown hK hw.1 0 rfl rfl 6 (by decide) hq4 (fun _ h9 => h9) rfl dX1_elect_29 ?_
    refine lv_iload_n hx hb dX1_elect_32 rfl (lv_at hl 3 rfl) ?_
    obtain ⟨h3, hf⟩ := zk_ck hf
    refine zk_lald hx hb hK hw 5 rfl h3 (j := p2.toNatClampNeg) rfl dX1_elect_33 ?_
    refine zk_last hx hb hK hw 2 rfl h2 (j := Eelected.toNatClampNeg) rfl dX1_elect_34 (fun H locs hw => ?_)
    have hw : Wd D A s.heap (zwE cI cJ aE (upd Eorder Eelected.toNatClampNeg p2) (vp_updL Eabove Eelected.toNatClampNeg (Eworth p2.toNatClampNeg)) Ebelow Eelected Eset Esupport Eworth Eloads Eunit ++ (zwC cI aC Ccandidates Cballots Cseats Cwithdrawn Cvoters Csets Crank)) H locs := hw
    refine lv_aload_n hx hb dX1_elect_35 rfl (lv_at hl 0 rfl) ?_
    refine va_get (D := D) (ci := 1) (v := .ref (aE 4)) (C := RX1) (T := TX1) (N := 9) hx hb hts hiX1 hown hK hw.1 0 rfl rfl 5 (by decide) hq5 (fun _ h9 => h9) rfl dX1_elect_36 ?_
    refine lv_iload_n hx hb dX1_elect_39 rfl (lv_at hl 3 rfl) ?_
    refine zk_iald hx hb hK hw 4 rfl h3 (j := p2.toNatClampNeg) rfl dX1_elect_40 ?_
    refine lv_if_ne (tgt := 57) hx hb dX1_elect_41 (by decide) (fun c4 => ?_) (fun c4 => ?_)
    · replace hf := zk_f c4 hf
      refine lv_iload_n hx hb dX1_elect_57 rfl (lv_at hl 2 rfl) ?_
      refine lv_iconst (v := 1) hx hb dX1_elect_58 (by decide) ?_
      refine lv_icmp_ne (tgt := 75) hx hb dX1_elect_59 (by decide) (fun c5 => ?_) (fun c5 => ?_)
      · replace hf := zk_f c5 hf
        refine lv_iload_n hx hb dX1_elect_75 rfl (lv_at hl 2 rfl) ?_
        refine lv_iconst (v := 2) hx hb dX1_elect_76 (by decide) ?_
        refine lv_icmp_ne (tgt := 95) hx hb dX1_elect_77 (by decide) (fun c6 => ?_) (fun c6 => ?_)
        · replace hf := zk_f c6 hf
          refine lv_aload_n hx hb dX1_elect_95 rfl (lv_at hl 0 rfl) ?_
          refine lv_aload_n hx hb dX1_elect_96 rfl (lv_at hl 1 rfl) ?_
          refine lv_iload_n hx hb dX1_elect_97 rfl (lv_at hl 3 rfl) ?_
          obtain ⟨u7, e8, hf⟩ := zk_bd hf
          refine zk_callv (wc := zwE cI cJ aE (upd Eorder Eelected.toNatClampNeg p2) (vp_updL Eabove Eelected.toNatClampNeg (Eworth p2.toNatClampNeg)) Ebelow Eelected Eset Esupport Eworth Eloads Eunit ++ (zwC cI aC Ccandidates Cballots Cseats Cwithdrawn Cvoters Csets Crank)) (wr := []) hw hA [0, 1, 2, 3, 4, 5, 6, 7, 8, 9, 10] [] rfl rfl (by decide) (by decide) (va_runV (C := RX1) (As := [.ref (aC 0), .int p2]) (rest := []) ⟨hx, hb, hml, hown, hts⟩ (kX1_spreadLoad l D cI cJ cO N aE aC p2 (upd Eorder Eelected.toNatClampNeg p2) (vp_updL Eabove Eelected.toNatClampNeg (Eworth p2.toNatClampNeg)) Ebelow Eelected Eset Esupport Eworth Eloads Eunit Ccandidates Cballots Cseats Cwithdrawn Cvoters Csets Crank u7 e8 H.size) (cwV 2 hts gX1_elect_X1_spreadLoad rfl rfl rfl (by decide +kernel) ⟨Nat.le_of_ble_eq_true rfl, Nat.le_of_ble_eq_true rfl⟩) (zk_preV (wc := zwE cI cJ aE (upd Eorder Eelected.toNatClampNeg p2) (vp_updL Eabove Eelected.toNatClampNeg (Eworth p2.toNatClampNeg)) Ebelow Eelected Eset Esupport Eworth Eloads Eunit ++ (zwC cI aC Ccandidates Cballots Cseats Cwithdrawn Cvoters Csets Crank)) hN hK hw [0, 1, 2, 3, 4, 5, 6, 7, 8, 9, 10] rfl (by decide) 0 1 rfl rfl) rfl rfl hl.1 rfl (lv_room (Nat.le_of_ble_eq_true rfl)) dX1_elect_98 ⟨Nat.zero_le _, Nat.zero_le _⟩) (fun H locs hw => ?_)
          have hw : Wd D A s.heap (zwE cI cJ aE (upd Eorder Eelected.toNatClampNeg p2) (vp_updL Eabove Eelected.toNatClampNeg (Eworth p2.toNatClampNeg)) Ebelow Eelected Eset Esupport Eworth u7.1 u7.2 ++ (zwC cI aC Ccandidates Cballots Cseats Cwithdrawn Cvoters Csets Crank)) H locs := hw
          refine lv_aload_n hx hb dX1_elect_101 rfl (lv_at hl 0 rfl) ?_
          refine va_get (D := D) (ci := 1) (v := .ref (aE 3)) (C := RX1) (T := TX1) (N := 9) hx hb hts hiX1 hown hK hw.1 0 rfl rfl 2 (by decide) hq6 (fun _ h9 => h9) rfl dX1_elect_102 ?_
          refine lv_aload_n hx hb dX1_elect_105 rfl (lv_at hl 0 rfl) ?_
          refine va_get (D := D) (ci := 1) (v := .int Eelected) (C := RX1) (T := TX1) (N := 9) hx hb hts hiX1 hown hK hw.1 0 rfl rfl 3 (by decide) hq0 (fun _ h9 => h9) rfl dX1_elect_106 ?_
          refine lv_aload_n hx hb dX1_elect_109 rfl (lv_at hl 0 rfl) ?_
          refine va_get (D := D) (ci := 1) (v := .long u7.2) (C := RX1) (T := TX1) (N := 9) hx hb hts hiX1 hown hK hw.1 0 rfl rfl 8 (by decide) hq7 (fun _ h9 => h9) rfl dX1_elect_110 ?_
          refine zk_last hx hb hK hw 3 rfl h2 (j := Eelected.toNatClampNeg) rfl dX1_elect_113 (fun H locs hw => ?_)
          have hw : Wd D A s.heap (zwE cI cJ aE (upd Eorder Eelected.toNatClampNeg p2) (vp_updL Eabove Eelected.toNatClampNeg (Eworth p2.toNatClampNeg)) (vp_updL Ebelow Eelected.toNatClampNeg u7.2) Eelected Eset Esupport Eworth u7.1 u7.2 ++ (zwC cI aC Ccandidates Cballots Cseats Cwithdrawn Cvoters Csets Crank)) H locs := hw
          exact b114 p2 (upd Eorder Eelected.toNatClampNeg p2) (vp_updL Eabove Eelected.toNatClampNeg (Eworth p2.toNatClampNeg)) (vp_updL Ebelow Eelected.toNatClampNeg u7.2) Eelected Eset u7.1 u7.2 hf H locs ls hw (lv_sub hl [0, 3] rfl)
        · replace hf := zk_t c6 hf
          refine lv_aload_n hx hb dX1_elect_80 rfl (lv_at hl 0 rfl) ?_
          refine va_get (D := D) (ci := 1) (v := .ref (aE 3)) (C := RX1) (T := TX1) (N := 9) hx hb hts hiX1 hown hK hw.1 0 rfl rfl 2 (by decide) hq6 (fun _ h9 => h9) rfl dX1_elect_81 ?_
          refine lv_aload_n hx hb dX1_elect_84 rfl (lv_at hl 0 rfl) ?_
          refine va_get (D := D) (ci := 1) (v := .int Eelected) (C := RX1) (T := TX1) (N := 9) hx hb hts hiX1 hown hK hw.1 0 rfl rfl 3 (by decide) hq0 (fun _ h9 => h9) rfl dX1_elect_85 ?_
          refine lv_ldc2 hx hb hown hq8 dX1_elect_88 ?_
          refine zk_last hx hb hK hw 3 rfl h2 (j := Eelected.toNatClampNeg) rfl dX1_elect_91 (fun H locs hw => ?_)
          have hw : Wd D A s.heap (zwE cI cJ aE (upd Eorder Eelected.toNatClampNeg p2) (vp_updL Eabove Eelected.toNatClampNeg (Eworth p2.toNatClampNeg)) (vp_updL Ebelow Eelected.toNatClampNeg (840 : Int64)) Eelected Eset Esupport Eworth Eloads Eunit ++ (zwC cI aC Ccandidates Cballots Cseats Cwithdrawn Cvoters Csets Crank)) H locs := hw
          refine lv_goto (tgt := 114) hx hb dX1_elect_92 (by decide) ?_
          exact b114 p2 (upd Eorder Eelected.toNatClampNeg p2) (vp_updL Eabove Eelected.toNatClampNeg (Eworth p2.toNatClampNeg)) (vp_updL Ebelow Eelected.toNatClampNeg (840 : Int64)) Eelected Eset Eloads Eunit hf H locs ls hw (lv_sub hl [0, 3] rfl)
      · replace hf := zk_t c5 hf
        refine lv_aload_n hx hb dX1_elect_62 rfl (lv_at hl 0 rfl) ?_
        refine va_get (D := D) (ci := 1) (v := .ref (aE 3)) (C := RX1) (T := TX1) (N := 9) hx hb hts hiX1 hown hK hw.1 0 rfl rfl 2 (by decide) hq6 (fun _ h9 => h9) rfl dX1_elect_63 ?_
        refine lv_aload_n hx hb dX1_elect_66 rfl (lv_at hl 0 rfl) ?_
        refine va_get (D := D) (ci := 1) (v := .int Eelected) (C := RX1) (T := TX1) (N := 9) hx hb hts hiX1 hown hK hw.1 0 rfl rfl 3 (by decide) hq0 (fun _ h9 => h9) rfl dX1_elect_67 ?_
        refine lv_lconst (v := 1) hx hb dX1_elect_70 (by decide) ?_
        refine zk_last hx hb hK hw 3 rfl h2 (j := Eelected.toNatClampNeg) rfl dX1_elect_71 (fun H locs hw => ?_)
        have hw : Wd D A s.heap (zwE cI cJ aE (upd Eorder Eelected.toNatClampNeg p2) (vp_updL Eabove Eelected.toNatClampNeg (Eworth p2.toNatClampNeg)) (vp_updL Ebelow Eelected.toNatClampNeg (1 : Int64)) Eelected Eset Esupport Eworth Eloads Eunit ++ (zwC cI aC Ccandidates Cballots Cseats Cwithdrawn Cvoters Csets Crank)) H locs := hw
        refine lv_goto (tgt := 114) hx hb dX1_elect_72 (by decide) ?_
        exact b114 p2 (upd Eorder Eelected.toNatClampNeg p2) (vp_updL Eabove Eelected.toNatClampNeg (Eworth p2.toNatClampNeg)) (vp_updL Ebelow Eelected.toNatClampNeg (1 : Int64)) Eelected Eset Eloads Eunit hf H locs ls hw (lv_sub hl [0, 3] rfl)
    · replace hf := zk_t c4 hf
      refine lv_aload_n hx hb dX1_elect_44 rfl (lv_at hl 0 rfl) ?_
      refine va_get (D := D) (ci := 1) (v := .ref (aE 3)) (C := RX1) (T := TX1) (N := 9) hx hb hts hiX1 hown hK hw.1 0 rfl rfl 2 (by decide) hq6 (fun _ h9 => h9) rfl dX1_elect_45 ?_
      refine lv_aload_n hx hb dX1_elect_48 rfl (lv_at hl 0 rfl) ?_
      refine va_get (D := D) (ci := 1) (v := .int Eelected) (C := RX1) (T := TX1) (N := 9) hx hb hts hiX1 hown hK hw.1 0 rfl rfl 3 (by decide) hq0 (fun _ h9 => h9) rfl dX1_elect_49 ?_
      refine lv_lconst (v := 0) hx hb dX1_elect_52 (by decide) ?_
      refine zk_last hx hb hK hw 3 rfl h2 (j := Eelected.toNatClampNeg) rfl dX1_elect_53 (fun H locs hw => ?_)
      have hw : Wd D A s.heap (zwE cI cJ aE (upd Eorder Eelected.toNatClampNeg p2) (vp_updL Eabove Eelected.toNatClampNeg (Eworth p2.toNatClampNeg)) (vp_updL Ebelow Eelected.toNatClampNeg (0 : Int64)) Eelected Eset Esupport Eworth Eloads Eunit ++ (zwC cI aC Ccandidates Cballots Cseats Cwithdrawn Cvoters Csets Crank)) H locs := hw
      refine lv_goto (tgt := 114) hx hb dX1_elect_54 (by decide) ?_
      exact b114 p2 (upd Eorder Eelected.toNatClampNeg p2) (vp_updL Eabove Eelected.toNatClampNeg (Eworth p2.toNatClampNeg)) (vp_updL Ebelow Eelected.toNatClampNeg (0 : Int64)) Eelected Eset Eloads Eunit hf H locs ls hw (lv_sub hl [0, 3] rfl)
  · replace hf := zk_f c1 hf
    cases hf
    exact zk_vret hx hb hr hlocks hQ hw [0, 1, 2, 3, 4, 5, 6, 7, 8, 9, 10] rfl (by decide) dX1_elect_9
set_option maxHeartbeats 4000000 in
set_option maxRecDepth 100000 in
theorem kX1_hold (l : Launch) (D : va_G) (cI cJ cO : ClassId) (N : Nat) (aE aC : Nat → Nat) (p1 : Int32) (Eorder : Nat → Int32) (Eabove : Nat → Int64) (Ebelow : Nat → Int64) (Eelected : Int32) (Eset : Int32) (Esupport : Nat → Int32) (Eworth : Nat → Int64) (Eloads : Nat → Int64) (Eunit : Int64) (Ccandidates : Int32) (Cballots : Int32) (Cseats : Int32) (Cwithdrawn : Int32) (Cvoters : Nat → Int32) (Csets : Nat → Int32) (Crank : Nat → Int32) (u : Int32 × (Nat → Int32) × (Nat → Int64) × (Nat → Int64) × (Int32) × (Int32) × (Nat → Int32) × (Nat → Int64) × (Nat → Int64) × (Int64)) (hf : fX1_hold N p1 Eorder Eabove Ebelow Eelected Eset Esupport Eworth Eloads Eunit Ccandidates Cballots Cseats Cwithdrawn Cvoters Csets Crank = some u) : CtI l yX1_hold wsX1_hold (zk_rm 4 93) D cI cJ cO [.ref (aE 0), .ref (aC 0), .int p1] (zwE cI cJ aE Eorder Eabove Ebelow Eelected Eset Esupport Eworth Eloads Eunit ++ (zwC cI aC Ccandidates Cballots Cseats Cwithdrawn Cvoters Csets Crank)) (zwE cI cJ aE u.2.1 u.2.2.1 u.2.2.2.1 u.2.2.2.2.1 u.2.2.2.2.2.1 u.2.2.2.2.2.2.1 u.2.2.2.2.2.2.2.1 u.2.2.2.2.2.2.2.2.1 u.2.2.2.2.2.2.2.2.2 ++ (zwC cI aC Ccandidates Cballots Cseats Cwithdrawn Cvoters Csets Crank)) (u.1) := by
  refine zk_enter (cc := cX1_hold) (maxL := 5) (ret := some .int) (own := RX1) (Qf := fun A => QwI D (zwE cI cJ aE u.2.1 u.2.2.1 u.2.2.2.1 u.2.2.2.2.1 u.2.2.2.2.2.1 u.2.2.2.2.2.2.1 u.2.2.2.2.2.2.2.1 u.2.2.2.2.2.2.2.2.1 u.2.2.2.2.2.2.2.2.2 ++ (zwC cI aC Ccandidates Cballots Cseats Cwithdrawn Cvoters Csets Crank)) (u.1) A) (by decide) rfl rfl (Nat.le_of_ble_eq_true rfl) ?_
  intro p e s m args below meth c A Q H locs ls hC hQ hw hl
  obtain ⟨hx, hb, hml, hr, hts, hown, hlocks, hN, hK, hA⟩ := hC
  have hl : lv_has ls 5 [(0, .ref (aE 0)), (1, .ref (aC 0)), (2, .int p1)] := hl
  have hiX0 : ∀ w ∈ u_ws RX0 TX0 7, w ∈ wsX1_hold := by decide +kernel
  have hiX1 : ∀ w ∈ u_ws RX1 TX1 9, w ∈ wsX1_hold := by decide +kernel
  have hq0 := hts (.fieldLink RX1 45 "LoadCouncil$Election" "set" "I") (by decide +kernel)
  have b7 : ∀ (n7 : Nat), ∀ (x2 : Int32) (x3 : Int32) (Eorder : Nat → Int32) (Eabove : Nat → Int64) (Ebelow : Nat → Int64) (Eelected : Int32) (Eset : Int32) (Esupport : Nat → Int32) (Eworth : Nat → Int64) (Eloads : Nat → Int64) (Eunit : Int64), fX1_hold_b7 N n7 x2 x3 Eorder Eabove Ebelow Eelected Eset Esupport Eworth Eloads Eunit Ccandidates Cballots Cseats Cwithdrawn Cvoters Csets Crank = some u → ∀ (H : Heap) (locs : List Loc) (ls : Array Slot), Wd D A s.heap (zwE cI cJ aE Eorder Eabove Ebelow Eelected Eset Esupport Eworth Eloads Eunit ++ (zwC cI aC Ccandidates Cballots Cseats Cwithdrawn Cvoters Csets Crank)) H locs → lv_has ls 5 [(0, .ref (aE 0)), (1, .ref (aC 0)), (2, .int x2), (3, .int x3)] → W p l e (zk_rm 4 93) s m args below meth c H locs 0 0 Q (F0 m 7 ls []) := by
    intro n7
    induction n7 with
    | zero =>
      intro x2 x3 Eorder Eabove Ebelow Eelected Eset Esupport Eworth Eloads Eunit hf
      exact zk_none hf
    | succ n7 ih7 =>
      intro x2 x3 Eorder Eabove Ebelow Eelected Eset Esupport Eworth Eloads Eunit hf H locs ls hw hl
      rw [fX1_hold_b7] at hf
      refine lv_iload_n hx hb dX1_hold_7 rfl (lv_at hl 3 rfl) ?_
      refine lv_aload_n hx hb dX1_hold_8 rfl (lv_at hl 1 rfl) ?_
      refine va_getN (D := D) (ci := 0) (v := .int Cseats) (C := RX0) (T := TX0) (N := 7) hx hb hts hiX0 hown hK hw.1 7 rfl rfl 2 (by decide) (va_Nw.use rfl (nwF_X1_35 hN)) (fun _ h9 => h9) rfl dX1_hold_9 ?_
      refine lv_icmp_ge (tgt := 49) hx hb dX1_hold_12 (by decide) (fun c1 => ?_) (fun c1 => ?_)
      · replace hf := zk_t c1 hf
        refine lv_aload_n hx hb dX1_hold_49 rfl (lv_at hl 0 rfl) ?_
        refine va_get (D := D) (ci := 1) (v := .int Eset) (C := RX1) (T := TX1) (N := 9) hx hb hts hiX1 hown hK hw.1 0 rfl rfl 4 (by decide) hq0 (fun _ h9 => h9) rfl dX1_hold_50 ?_
        cases hf
        exact zk_iret hx hb hr hlocks rfl hQ hw [0, 1, 2, 3, 4, 5, 6, 7, 8, 9, 10] rfl (by decide) dX1_hold_53
      · replace hf := zk_f c1 hf
        refine lv_aload_n hx hb dX1_hold_15 rfl (lv_at hl 0 rfl) ?_
        refine lv_aload_n hx hb dX1_hold_16 rfl (lv_at hl 1 rfl) ?_
        refine lv_iload_n hx hb dX1_hold_17 rfl (lv_at hl 2 rfl) ?_
        obtain ⟨u2, e3, hf⟩ := zk_bd hf
        refine zk_calli (wc := zwE cI cJ aE Eorder Eabove Ebelow Eelected Eset Esupport Eworth Eloads Eunit ++ (zwC cI aC Ccandidates Cballots Cseats Cwithdrawn Cvoters Csets Crank)) (wr := []) hw hA [0, 1, 2, 3, 4, 5, 6, 7, 8, 9, 10] [] rfl rfl (by decide) (by decide) (va_runV (C := RX1) (As := [.ref (aC 0), .int x2]) (rest := []) ⟨hx, hb, hml, hown, hts⟩ (kX1_nextMember l D cI cJ cO N aE aC x2 Eorder Eabove Ebelow Eelected Eset Esupport Eworth Eloads Eunit Ccandidates Cballots Cseats Cwithdrawn Cvoters Csets Crank u2 e3 H.size) (cwV 2 hts gX1_hold_X1_nextMember rfl rfl rfl (by decide +kernel) ⟨Nat.le_of_ble_eq_true rfl, Nat.le_of_ble_eq_true rfl⟩) (zk_preV (wc := zwE cI cJ aE Eorder Eabove Ebelow Eelected Eset Esupport Eworth Eloads Eunit ++ (zwC cI aC Ccandidates Cballots Cseats Cwithdrawn Cvoters Csets Crank)) hN hK hw [0, 1, 2, 3, 4, 5, 6, 7, 8, 9, 10] rfl (by decide) 0 1 rfl rfl) rfl rfl hl.1 rfl (lv_room (Nat.le_of_ble_eq_true rfl)) dX1_hold_18 ⟨Nat.zero_le _, Nat.zero_le _⟩) (fun H locs hw => ?_)
        have hw : Wd D A s.heap (zwE cI cJ aE Eorder Eabove Ebelow Eelected Eset Esupport u2.2 Eloads Eunit ++ (zwC cI aC Ccandidates Cballots Cseats Cwithdrawn Cvoters Csets Crank)) H locs := hw
        refine lv_istore (lv' := [(4, .int u2.1), (0, .ref (aE 0)), (1, .ref (aC 0)), (2, .int x2), (3, .int x3)]) hx hb dX1_hold_21 hl (by decide) rfl (fun ls hl => ?_)
        refine lv_iload hx hb dX1_hold_23 (lv_at hl 0 rfl) ?_
        refine lv_bipush (v := (-4)) hx hb dX1_hold_25 (by decide) ?_
        refine lv_icmp_ne (tgt := 35) hx hb dX1_hold_27 (by decide) (fun c4 => ?_) (fun c4 => ?_)
        · replace hf := zk_f c4 hf
          refine lv_aload_n hx hb dX1_hold_35 rfl (lv_at hl 1 rfl) ?_
          refine lv_aload_n hx hb dX1_hold_36 rfl (lv_at hl 2 rfl) ?_
          refine lv_iload_n hx hb dX1_hold_37 rfl (lv_at hl 3 rfl) ?_
          refine lv_iload hx hb dX1_hold_38 (lv_at hl 0 rfl) ?_
          obtain ⟨u5, e6, hf⟩ := zk_bd hf
          refine zk_callv (wc := zwE cI cJ aE Eorder Eabove Ebelow Eelected Eset Esupport u2.2 Eloads Eunit ++ (zwC cI aC Ccandidates Cballots Cseats Cwithdrawn Cvoters Csets Crank)) (wr := []) hw hA [0, 1, 2, 3, 4, 5, 6, 7, 8, 9, 10] [] rfl rfl (by decide) (by decide) (va_runV (C := RX1) (As := [.ref (aC 0), .int x2, .int u2.1]) (rest := []) ⟨hx, hb, hml, hown, hts⟩ (kX1_elect l D cI cJ cO N aE aC x2 u2.1 Eorder Eabove Ebelow Eelected Eset Esupport u2.2 Eloads Eunit Ccandidates Cballots Cseats Cwithdrawn Cvoters Csets Crank u5 e6 H.size) (cwV 3 hts gX1_hold_X1_elect rfl rfl rfl (by decide +kernel) ⟨Nat.le_of_ble_eq_true rfl, Nat.le_of_ble_eq_true rfl⟩) (zk_preV (wc := zwE cI cJ aE Eorder Eabove Ebelow Eelected Eset Esupport u2.2 Eloads Eunit ++ (zwC cI aC Ccandidates Cballots Cseats Cwithdrawn Cvoters Csets Crank)) hN hK hw [0, 1, 2, 3, 4, 5, 6, 7, 8, 9, 10] rfl (by decide) 0 1 rfl rfl) rfl rfl hl.1 rfl (lv_room (Nat.le_of_ble_eq_true rfl)) dX1_hold_40 ⟨Nat.zero_le _, Nat.zero_le _⟩) (fun H locs hw => ?_)
          have hw : Wd D A s.heap (zwE cI cJ aE u5.1 u5.2.1 u5.2.2.1 u5.2.2.2.1 u5.2.2.2.2.1 Esupport u2.2 u5.2.2.2.2.2.1 u5.2.2.2.2.2.2 ++ (zwC cI aC Ccandidates Cballots Cseats Cwithdrawn Cvoters Csets Crank)) H locs := hw
          refine lv_iinc (v := (x3 + (1 : Int32))) (lv' := [(3, .int (x3 + (1 : Int32))), (4, .int u2.1), (0, .ref (aE 0)), (1, .ref (aC 0)), (2, .int x2)]) hx hb dX1_hold_43 hl (k := 4) rfl rfl (by decide) rfl (fun ls hl => ?_)
          refine lv_goto (tgt := 7) hx hb dX1_hold_46 (by decide) ?_
          exact ih7 x2 (x3 + (1 : Int32)) u5.1 u5.2.1 u5.2.2.1 u5.2.2.2.1 u5.2.2.2.2.1 Esupport u2.2 u5.2.2.2.2.2.1 u5.2.2.2.2.2.2 hf H locs ls hw (lv_sub hl [2, 3, 4, 0] rfl)
        · replace hf := zk_t c4 hf
          refine lv_aload_n hx hb dX1_hold_30 rfl (lv_at hl 1 rfl) ?_
          refine va_get (D := D) (ci := 1) (v := .int Eset) (C := RX1) (T := TX1) (N := 9) hx hb hts hiX1 hown hK hw.1 0 rfl rfl 4 (by decide) hq0 (fun _ h9 => h9) rfl dX1_hold_31 ?_
          cases hf
          exact zk_iret hx hb hr hlocks rfl hQ hw [0, 1, 2, 3, 4, 5, 6, 7, 8, 9, 10] rfl (by decide) dX1_hold_34
  unfold fX1_hold at hf
  refine lv_aload_n hx hb dX1_hold_0 rfl (lv_at hl 0 rfl) ?_
  refine lv_aload_n hx hb dX1_hold_1 rfl (lv_at hl 1 rfl) ?_
  obtain ⟨u7, e8, hf⟩ := zk_bd hf
  refine zk_callv (wc := zwE cI cJ aE Eorder Eabove Ebelow Eelected Eset Esupport Eworth Eloads Eunit ++ (zwC cI aC Ccandidates Cballots Cseats Cwithdrawn Cvoters Csets Crank)) (wr := []) hw hA [0, 1, 2, 3, 4, 5, 6, 7, 8, 9, 10] [] rfl rfl (by decide) (by decide) (va_runV (C := RX1) (As := [.ref (aC 0)]) (rest := []) ⟨hx, hb, hml, hown, hts⟩ (kX1_begin l D cI cJ cO N aE aC Eorder Eabove Ebelow Eelected Eset Esupport Eworth Eloads Eunit Ccandidates Cballots Cseats Cwithdrawn Cvoters Csets Crank u7 e8 H.size) (cwV 1 hts gX1_hold_X1_begin rfl rfl rfl (by decide +kernel) ⟨Nat.le_of_ble_eq_true rfl, Nat.le_of_ble_eq_true rfl⟩) (zk_preV (wc := zwE cI cJ aE Eorder Eabove Ebelow Eelected Eset Esupport Eworth Eloads Eunit ++ (zwC cI aC Ccandidates Cballots Cseats Cwithdrawn Cvoters Csets Crank)) hN hK hw [0, 1, 2, 3, 4, 5, 6, 7, 8, 9, 10] rfl (by decide) 0 1 rfl rfl) rfl rfl hl.1 rfl (lv_room (Nat.le_of_ble_eq_true rfl)) dX1_hold_2 ⟨Nat.zero_le _, Nat.zero_le _⟩) (fun H locs hw => ?_)
  have hw : Wd D A s.heap (zwE cI cJ aE Eorder Eabove Ebelow u7.1 u7.2.1 u7.2.2.1 Eworth u7.2.2.2.1 u7.2.2.2.2 ++ (zwC cI aC Ccandidates Cballots Cseats Cwithdrawn Cvoters Csets Crank)) H locs := hw
  refine lv_iconst (v := 0) hx hb dX1_hold_5 (by decide) ?_
  refine lv_istore_n (lv' := [(3, .int (0 : Int32)), (0, .ref (aE 0)), (1, .ref (aC 0)), (2, .int p1)]) hx hb dX1_hold_6 rfl hl (by decide) rfl (fun ls hl => ?_)
  exact b7 N p1 (0 : Int32) Eorder Eabove Ebelow u7.1 u7.2.1 u7.2.2.1 Eworth u7.2.2.2.1 u7.2.2.2.2 hf H locs ls hw (lv_sub hl [1, 2, 3, 0] rfl)
set_option maxHeartbeats 4000000 in
set_option maxRecDepth 100000 in
theorem kX2_forget (l : Launch) (D : va_G) (cI cJ cO : ClassId) (N : Nat) (aP : Nat → Nat) (Pring : Nat → Option Nat) (Ptop : Int32) (Psize : Int32) (u : (Int32)) (hf : fX2_forget N Psize = some u) : CtV l yX2_forget wsX2_forget (zk_rm 0 0) D cI cJ cO [.ref (aP 0)] (zwP cO aP Pring Ptop Psize) (zwP cO aP Pring Ptop u) := by
  refine zk_enter (cc := cX2_forget) (maxL := 1) (ret := none) (own := RX2) (Qf := fun A => QwV D (zwP cO aP Pring Ptop u) A) (by decide) rfl rfl (Nat.le_of_ble_eq_true rfl) ?_
  intro p e s m args below meth c A Q H locs ls hC hQ hw hl
  obtain ⟨hx, hb, hml, hr, hts, hown, hlocks, hN, hK, hA⟩ := hC
  have hl : lv_has ls 1 [(0, .ref (aP 0))] := hl
  have hiX2 : ∀ w ∈ u_ws RX2 TX2 3, w ∈ wsX2_forget := by decide +kernel
  have hq0 := hts (.fieldLink RX2 18 "LoadCouncil$Past" "size" "I") (by decide +kernel)
  unfold fX2_forget at hf
  refine lv_aload_n hx hb dX2_forget_0 rfl (lv_at hl 0 rfl) ?_
  refine lv_iconst (v := 0) hx hb dX2_forget_1 (by decide) ?_
  refine va_put (D := D) (ci := 2) (v := .int (0 : Int32)) (C := RX2) (T := TX2) (N := 3) hx hb hts hiX2 tyX2 tyX2_ok nmX2 hown hK hw.1 hw.2.1 hw.2.2 0 rfl rfl 2 (by decide) hq0 (fun _ h9 => h9) rfl (tyX2_ok 2 (by decide)) rfl rfl (Nat.le_of_ble_eq_true rfl) dX2_forget_2 (fun H locs hP hD hS => ?_)
  have hw : Wd D A s.heap (zwP cO aP Pring Ptop (0 : Int32)) H locs := ⟨hP, hD, hS⟩
  clear hP hD hS
  cases hf
  exact zk_vret hx hb hr hlocks hQ hw [0, 1] rfl (by decide) dX2_forget_5
set_option maxHeartbeats 4000000 in
set_option maxRecDepth 100000 in
theorem kX2_keep (l : Launch) (D : va_G) (cI cJ cO : ClassId) (N : Nat) (aP aC aQ : Nat → Nat) (Pring : Nat → Option Nat) (Ptop : Int32) (Psize : Int32) (Ccandidates : Int32) (Cballots : Int32) (Cseats : Int32) (Cwithdrawn : Int32) (Cvoters : Nat → Int32) (Csets : Nat → Int32) (Crank : Nat → Int32) (Qcandidates : Int32) (Qballots : Int32) (Qseats : Int32) (Qwithdrawn : Int32) (Qvoters : Nat → Int32) (Qsets : Nat → Int32) (Qrank : Nat → Int32) (hg : Pring (Ptop).toNatClampNeg = some (aQ 0)) (u : (Int32) × (Int32) × (Int32) × (Int32) × (Int32) × (Int32) × (Nat → Int32) × (Nat → Int32) × (Nat → Int32)) (hf : fX2_keep N Ptop Psize Ccandidates Cballots Cseats Cwithdrawn Cvoters Csets Crank Qcandidates Qballots Qseats Qwithdrawn Qvoters Qsets Qrank = some u) : CtV l yX2_keep wsX2_keep (zk_rm 2 81) D cI cJ cO [.ref (aP 0), .ref (aC 0)] (zwP cO aP Pring Ptop Psize ++ (zwC cI aC Ccandidates Cballots Cseats Cwithdrawn Cvoters Csets Crank ++ (zwC cI aQ Qcandidates Qballots Qseats Qwithdrawn Qvoters Qsets Qrank))) (zwP cO aP Pring u.1 u.2.1 ++ (zwC cI aC Ccandidates Cballots Cseats Cwithdrawn Cvoters Csets Crank ++ (zwC cI aQ u.2.2.1 u.2.2.2.1 u.2.2.2.2.1 u.2.2.2.2.2.1 u.2.2.2.2.2.2.1 u.2.2.2.2.2.2.2.1 u.2.2.2.2.2.2.2.2))) := by
  refine zk_enter (cc := cX2_keep) (maxL := 2) (ret := none) (own := RX2) (Qf := fun A => QwV D (zwP cO aP Pring u.1 u.2.1 ++ (zwC cI aC Ccandidates Cballots Cseats Cwithdrawn Cvoters Csets Crank ++ (zwC cI aQ u.2.2.1 u.2.2.2.1 u.2.2.2.2.1 u.2.2.2.2.2.1 u.2.2.2.2.2.2.1 u.2.2.2.2.2.2.2.1 u.2.2.2.2.2.2.2.2))) A) (by decide) rfl rfl (Nat.le_of_ble_eq_true rfl) ?_
  intro p e s m args below meth c A Q H locs ls hC hQ hw hl
  obtain ⟨hx, hb, hml, hr, hts, hown, hlocks, hN, hK, hA⟩ := hC
  have hl : lv_has ls 2 [(0, .ref (aP 0)), (1, .ref (aC 0))] := hl
  have hiX2 : ∀ w ∈ u_ws RX2 TX2 3, w ∈ wsX2_keep := by decide +kernel
  have hq0 := hts (.fieldLink RX2 11 "LoadCouncil$Past" "ring" "[LLoadCouncil$Council;") (by decide +kernel)
  have hq1 := hts (.fieldLink RX2 22 "LoadCouncil$Past" "top" "I") (by decide +kernel)
  have hq2 := hts (.initialized RX0) (by decide +kernel)
  have hq3 := hts (.instanceMethod yX0_copyFrom) (by decide +kernel)
  have hq4 := hts (.selects RX0 yX0_copyFrom yX0_copyFrom) (by decide +kernel)
  have hq5 := hts (.fieldLink RX2 18 "LoadCouncil$Past" "size" "I") (by decide +kernel)
  have hq6 := hts (.methodLink RX2 29 Lib.Math.min.name) (by decide +kernel)
  have hq7 := hts (.static Lib.Math.min.name) (by decide +kernel)
  have hq8 := hts (.initialized "java/lang/Math") (by decide +kernel)
  have hq9 := hts (.code Lib.Math.min.name Lib.Math.min.code 2 (some .int)) (by decide +kernel)
  unfold fX2_keep at hf
  refine lv_aload_n hx hb dX2_keep_0 rfl (lv_at hl 0 rfl) ?_
  refine va_get (D := D) (ci := 2) (v := .ref (aP 1)) (C := RX2) (T := TX2) (N := 3) hx hb hts hiX2 hown hK hw.1 0 rfl rfl 0 (by decide) hq0 (fun _ h9 => h9) rfl dX2_keep_1 ?_
  refine lv_aload_n hx hb dX2_keep_4 rfl (lv_at hl 0 rfl) ?_
  refine va_get (D := D) (ci := 2) (v := .int Ptop) (C := RX2) (T := TX2) (N := 3) hx hb hts hiX2 hown hK hw.1 0 rfl rfl 1 (by decide) hq1 (fun _ h9 => h9) rfl dX2_keep_5 ?_
  obtain ⟨h1, hf⟩ := zk_ck hf
  refine zk_aald hx hb hK hw 1 rfl h1 (y := aQ 0) hg dX2_keep_8 ?_
  refine lv_aload_n hx hb dX2_keep_9 rfl (lv_at hl 1 rfl) ?_
  obtain ⟨u2, e3, hf⟩ := zk_bd hf
  refine zk_callv (wc := zwC cI aQ Qcandidates Qballots Qseats Qwithdrawn Qvoters Qsets Qrank ++ (zwC cI aC Ccandidates Cballots Cseats Cwithdrawn Cvoters Csets Crank)) (wr := zwP cO aP Pring Ptop Psize) hw hA [6, 7, 8, 9, 2, 3, 4, 5] [0, 1] rfl rfl (by decide) (by decide) (va_runVN (C := RX0) (As := [.ref (aC 0)]) (rest := []) ⟨hx, hb, hml, hown, hts⟩ (kX0_copyFrom l D cI cJ cO N aQ aC Qcandidates Qballots Qseats Qwithdrawn Qvoters Qsets Qrank Ccandidates Cballots Cseats Cwithdrawn Cvoters Csets Crank u2 e3 H.size) ⟨va_cnB 1 hts ggX2_keep_X0_copyFrom rfl rfl rfl (nwM_X2_25 hN) hq2 (by decide +kernel) ⟨Nat.le_of_ble_eq_true rfl, Nat.le_of_ble_eq_true rfl⟩, hq3, hq4⟩ (zk_preV (wc := zwC cI aQ Qcandidates Qballots Qseats Qwithdrawn Qvoters Qsets Qrank ++ (zwC cI aC Ccandidates Cballots Cseats Cwithdrawn Cvoters Csets Crank)) hN hK hw [6, 7, 8, 9, 2, 3, 4, 5] rfl (by decide) 6 0 rfl rfl) rfl rfl hl.1 rfl (lv_room (Nat.le_of_ble_eq_true rfl)) dX2_keep_10 ⟨Nat.zero_le _, Nat.zero_le _⟩) (fun H locs hw => ?_)
  have hw : Wd D A s.heap (zwP cO aP Pring Ptop Psize ++ (zwC cI aQ u2.1 u2.2.1 u2.2.2.1 u2.2.2.2.1 u2.2.2.2.2.1 u2.2.2.2.2.2.1 u2.2.2.2.2.2.2 ++ (zwC cI aC Ccandidates Cballots Cseats Cwithdrawn Cvoters Csets Crank))) H locs := hw
  refine lv_aload_n hx hb dX2_keep_13 rfl (lv_at hl 0 rfl) ?_
  refine lv_aload_n hx hb dX2_keep_14 rfl (lv_at hl 0 rfl) ?_
  refine va_get (D := D) (ci := 2) (v := .int Ptop) (C := RX2) (T := TX2) (N := 3) hx hb hts hiX2 hown hK hw.1 0 rfl rfl 1 (by decide) hq1 (fun _ h9 => h9) rfl dX2_keep_15 ?_
  refine lv_iconst (v := 1) hx hb dX2_keep_18 (by decide) ?_
  refine lv_iadd hx hb dX2_keep_19 ?_
  refine lv_bipush (v := 6) hx hb dX2_keep_20 (by decide) ?_
  refine lv_irem hx hb dX2_keep_22 (by decide) ?_
  refine va_put (D := D) (ci := 2) (v := .int ((Ptop + (1 : Int32)) - (Ptop + (1 : Int32)) / (6 : Int32) * (6 : Int32))) (C := RX2) (T := TX2) (N := 3) hx hb hts hiX2 tyX2 tyX2_ok nmX2 hown hK hw.1 hw.2.1 hw.2.2 0 rfl rfl 1 (by decide) hq1 (fun _ h9 => h9) rfl (tyX2_ok 1 (by decide)) rfl rfl (Nat.le_of_ble_eq_true rfl) dX2_keep_23 (fun H locs hP hD hS => ?_)
  have hw : Wd D A s.heap (zwP cO aP Pring ((Ptop + (1 : Int32)) - (Ptop + (1 : Int32)) / (6 : Int32) * (6 : Int32)) Psize ++ (zwC cI aQ u2.1 u2.2.1 u2.2.2.1 u2.2.2.2.1 u2.2.2.2.2.1 u2.2.2.2.2.2.1 u2.2.2.2.2.2.2 ++ (zwC cI aC Ccandidates Cballots Cseats Cwithdrawn Cvoters Csets Crank))) H locs := ⟨hP, hD, hS⟩
  clear hP hD hS
  refine lv_aload_n hx hb dX2_keep_26 rfl (lv_at hl 0 rfl) ?_
  refine lv_aload_n hx hb dX2_keep_27 rfl (lv_at hl 0 rfl) ?_
  refine va_get (D := D) (ci := 2) (v := .int Psize) (C := RX2) (T := TX2) (N := 3) hx hb hts hiX2 hown hK hw.1 0 rfl rfl 2 (by decide) hq5 (fun _ h9 => h9) rfl dX2_keep_28 ?_
  refine lv_iconst (v := 1) hx hb dX2_keep_31 (by decide) ?_
  refine lv_iadd hx hb dX2_keep_32 ?_
  refine lv_bipush (v := 6) hx hb dX2_keep_33 (by decide) ?_
  refine va_mmin hx hb (hml.trans hl.1.symm) hown hq6 hq7 hq8 hq9 (Nat.le_of_ble_eq_true rfl) (Nat.le_of_ble_eq_true rfl) (Nat.zero_le _) (Nat.zero_le _) dX2_keep_35 ?_
  refine va_put (D := D) (ci := 2) (v := .int (if (6 : Int32) < (Psize + (1 : Int32)) then (6 : Int32) else (Psize + (1 : Int32)))) (C := RX2) (T := TX2) (N := 3) hx hb hts hiX2 tyX2 tyX2_ok nmX2 hown hK hw.1 hw.2.1 hw.2.2 0 rfl rfl 2 (by decide) hq5 (fun _ h9 => h9) rfl (tyX2_ok 2 (by decide)) rfl rfl (Nat.le_of_ble_eq_true rfl) dX2_keep_38 (fun H locs hP hD hS => ?_)
  have hw : Wd D A s.heap (zwP cO aP Pring ((Ptop + (1 : Int32)) - (Ptop + (1 : Int32)) / (6 : Int32) * (6 : Int32)) (if (6 : Int32) < (Psize + (1 : Int32)) then (6 : Int32) else (Psize + (1 : Int32))) ++ (zwC cI aQ u2.1 u2.2.1 u2.2.2.1 u2.2.2.2.1 u2.2.2.2.2.1 u2.2.2.2.2.2.1 u2.2.2.2.2.2.2 ++ (zwC cI aC Ccandidates Cballots Cseats Cwithdrawn Cvoters Csets Crank))) H locs := ⟨hP, hD, hS⟩
  clear hP hD hS
  cases hf
  exact zk_vret hx hb hr hlocks hQ hw [0, 1, 6, 7, 8, 9, 2, 3, 4, 5] rfl (by decide) dX2_keep_41
set_option maxHeartbeats 4000000 in
set_option maxRecDepth 100000 in
theorem kX2_bringBack (l : Launch) (D : va_G) (cI cJ cO : ClassId) (N : Nat) (aP aC aQ : Nat → Nat) (Pring : Nat → Option Nat) (Ptop : Int32) (Psize : Int32) (Ccandidates : Int32) (Cballots : Int32) (Cseats : Int32) (Cwithdrawn : Int32) (Cvoters : Nat → Int32) (Csets : Nat → Int32) (Crank : Nat → Int32) (Qcandidates : Int32) (Qballots : Int32) (Qseats : Int32) (Qwithdrawn : Int32) (Qvoters : Nat → Int32) (Qsets : Nat → Int32) (Qrank : Nat → Int32) (hg : Pring (((Ptop + (6 : Int32)) - (1 : Int32)) - ((Ptop + (6 : Int32)) - (1 : Int32)) / (6 : Int32) * (6 : Int32)).toNatClampNeg = some (aQ 0)) (u : (Int32) × (Int32) × (Int32) × (Int32) × (Int32) × (Int32) × (Nat → Int32) × (Nat → Int32) × (Nat → Int32)) (hf : fX2_bringBack N Ptop Psize Ccandidates Cballots Cseats Cwithdrawn Cvoters Csets Crank Qcandidates Qballots Qseats Qwithdrawn Qvoters Qsets Qrank = some u) : CtV l yX2_bringBack wsX2_bringBack (zk_rm 2 81) D cI cJ cO [.ref (aP 0), .ref (aC 0)] (zwP cO aP Pring Ptop Psize ++ (zwC cI aC Ccandidates Cballots Cseats Cwithdrawn Cvoters Csets Crank ++ (zwC cI aQ Qcandidates Qballots Qseats Qwithdrawn Qvoters Qsets Qrank))) (zwP cO aP Pring u.1 u.2.1 ++ (zwC cI aC u.2.2.1 u.2.2.2.1 u.2.2.2.2.1 u.2.2.2.2.2.1 u.2.2.2.2.2.2.1 u.2.2.2.2.2.2.2.1 u.2.2.2.2.2.2.2.2 ++ (zwC cI aQ Qcandidates Qballots Qseats Qwithdrawn Qvoters Qsets Qrank))) := by
  refine zk_enter (cc := cX2_bringBack) (maxL := 2) (ret := none) (own := RX2) (Qf := fun A => QwV D (zwP cO aP Pring u.1 u.2.1 ++ (zwC cI aC u.2.2.1 u.2.2.2.1 u.2.2.2.2.1 u.2.2.2.2.2.1 u.2.2.2.2.2.2.1 u.2.2.2.2.2.2.2.1 u.2.2.2.2.2.2.2.2 ++ (zwC cI aQ Qcandidates Qballots Qseats Qwithdrawn Qvoters Qsets Qrank))) A) (by decide) rfl rfl (Nat.le_of_ble_eq_true rfl) ?_
  intro p e s m args below meth c A Q H locs ls hC hQ hw hl
  obtain ⟨hx, hb, hml, hr, hts, hown, hlocks, hN, hK, hA⟩ := hC
  have hl : lv_has ls 2 [(0, .ref (aP 0)), (1, .ref (aC 0))] := hl
  have hiX2 : ∀ w ∈ u_ws RX2 TX2 3, w ∈ wsX2_bringBack := by decide +kernel
  have hq0 := hts (.fieldLink RX2 22 "LoadCouncil$Past" "top" "I") (by decide +kernel)
  have hq1 := hts (.fieldLink RX2 18 "LoadCouncil$Past" "size" "I") (by decide +kernel)
  have hq2 := hts (.fieldLink RX2 11 "LoadCouncil$Past" "ring" "[LLoadCouncil$Council;") (by decide +kernel)
  have hq3 := hts (.initialized RX0) (by decide +kernel)
  have hq4 := hts (.instanceMethod yX0_copyFrom) (by decide +kernel)
  have hq5 := hts (.selects RX0 yX0_copyFrom yX0_copyFrom) (by decide +kernel)
  unfold fX2_bringBack at hf
  refine lv_aload_n hx hb dX2_bringBack_0 rfl (lv_at hl 0 rfl) ?_
  refine lv_aload_n hx hb dX2_bringBack_1 rfl (lv_at hl 0 rfl) ?_
  refine va_get (D := D) (ci := 2) (v := .int Ptop) (C := RX2) (T := TX2) (N := 3) hx hb hts hiX2 hown hK hw.1 0 rfl rfl 1 (by decide) hq0 (fun _ h9 => h9) rfl dX2_bringBack_2 ?_
  refine lv_bipush (v := 6) hx hb dX2_bringBack_5 (by decide) ?_
  refine lv_iadd hx hb dX2_bringBack_7 ?_
  refine lv_iconst (v := 1) hx hb dX2_bringBack_8 (by decide) ?_
  refine lv_isub hx hb dX2_bringBack_9 ?_
  refine lv_bipush (v := 6) hx hb dX2_bringBack_10 (by decide) ?_
  refine lv_irem hx hb dX2_bringBack_12 (by decide) ?_
  refine va_put (D := D) (ci := 2) (v := .int (((Ptop + (6 : Int32)) - (1 : Int32)) - ((Ptop + (6 : Int32)) - (1 : Int32)) / (6 : Int32) * (6 : Int32))) (C := RX2) (T := TX2) (N := 3) hx hb hts hiX2 tyX2 tyX2_ok nmX2 hown hK hw.1 hw.2.1 hw.2.2 0 rfl rfl 1 (by decide) hq0 (fun _ h9 => h9) rfl (tyX2_ok 1 (by decide)) rfl rfl (Nat.le_of_ble_eq_true rfl) dX2_bringBack_13 (fun H locs hP hD hS => ?_)
  have hw : Wd D A s.heap (zwP cO aP Pring (((Ptop + (6 : Int32)) - (1 : Int32)) - ((Ptop + (6 : Int32)) - (1 : Int32)) / (6 : Int32) * (6 : Int32)) Psize ++ (zwC cI aC Ccandidates Cballots Cseats Cwithdrawn Cvoters Csets Crank ++ (zwC cI aQ Qcandidates Qballots Qseats Qwithdrawn Qvoters Qsets Qrank))) H locs := ⟨hP, hD, hS⟩
  clear hP hD hS
  refine lv_aload_n hx hb dX2_bringBack_16 rfl (lv_at hl 0 rfl) ?_
  refine lv_dup hx hb dX2_bringBack_17 rfl ?_
  refine va_get (D := D) (ci := 2) (v := .int Psize) (C := RX2) (T := TX2) (N := 3) hx hb hts hiX2 hown hK hw.1 0 rfl rfl 2 (by decide) hq1 (fun _ h9 => h9) rfl dX2_bringBack_18 ?_
  refine lv_iconst (v := 1) hx hb dX2_bringBack_21 (by decide) ?_
  refine lv_isub hx hb dX2_bringBack_22 ?_
  refine va_put (D := D) (ci := 2) (v := .int (Psize - (1 : Int32))) (C := RX2) (T := TX2) (N := 3) hx hb hts hiX2 tyX2 tyX2_ok nmX2 hown hK hw.1 hw.2.1 hw.2.2 0 rfl rfl 2 (by decide) hq1 (fun _ h9 => h9) rfl (tyX2_ok 2 (by decide)) rfl rfl (Nat.le_of_ble_eq_true rfl) dX2_bringBack_23 (fun H locs hP hD hS => ?_)
  have hw : Wd D A s.heap (zwP cO aP Pring (((Ptop + (6 : Int32)) - (1 : Int32)) - ((Ptop + (6 : Int32)) - (1 : Int32)) / (6 : Int32) * (6 : Int32)) (Psize - (1 : Int32)) ++ (zwC cI aC Ccandidates Cballots Cseats Cwithdrawn Cvoters Csets Crank ++ (zwC cI aQ Qcandidates Qballots Qseats Qwithdrawn Qvoters Qsets Qrank))) H locs := ⟨hP, hD, hS⟩
  clear hP hD hS
  refine lv_aload_n hx hb dX2_bringBack_26 rfl (lv_at hl 1 rfl) ?_
  refine lv_aload_n hx hb dX2_bringBack_27 rfl (lv_at hl 0 rfl) ?_
  refine va_get (D := D) (ci := 2) (v := .ref (aP 1)) (C := RX2) (T := TX2) (N := 3) hx hb hts hiX2 hown hK hw.1 0 rfl rfl 0 (by decide) hq2 (fun _ h9 => h9) rfl dX2_bringBack_28 ?_
  refine lv_aload_n hx hb dX2_bringBack_31 rfl (lv_at hl 0 rfl) ?_
  refine va_get (D := D) (ci := 2) (v := .int (((Ptop + (6 : Int32)) - (1 : Int32)) - ((Ptop + (6 : Int32)) - (1 : Int32)) / (6 : Int32) * (6 : Int32))) (C := RX2) (T := TX2) (N := 3) hx hb hts hiX2 hown hK hw.1 0 rfl rfl 1 (by decide) hq0 (fun _ h9 => h9) rfl dX2_bringBack_32 ?_
  obtain ⟨h1, hf⟩ := zk_ck hf
  refine zk_aald hx hb hK hw 1 rfl h1 (y := aQ 0) hg dX2_bringBack_35 ?_
  obtain ⟨u2, e3, hf⟩ := zk_bd hf
  refine zk_callv (wc := zwC cI aC Ccandidates Cballots Cseats Cwithdrawn Cvoters Csets Crank ++ (zwC cI aQ Qcandidates Qballots Qseats Qwithdrawn Qvoters Qsets Qrank)) (wr := zwP cO aP Pring (((Ptop + (6 : Int32)) - (1 : Int32)) - ((Ptop + (6 : Int32)) - (1 : Int32)) / (6 : Int32) * (6 : Int32)) (Psize - (1 : Int32))) hw hA [2, 3, 4, 5, 6, 7, 8, 9] [0, 1] rfl rfl (by decide) (by decide) (va_runVN (C := RX0) (As := [.ref (aQ 0)]) (rest := []) ⟨hx, hb, hml, hown, hts⟩ (kX0_copyFrom l D cI cJ cO N aC aQ Ccandidates Cballots Cseats Cwithdrawn Cvoters Csets Crank Qcandidates Qballots Qseats Qwithdrawn Qvoters Qsets Qrank u2 e3 H.size) ⟨va_cnB 1 hts ggX2_bringBack_X0_copyFrom rfl rfl rfl (nwM_X2_25 hN) hq3 (by decide +kernel) ⟨Nat.le_of_ble_eq_true rfl, Nat.le_of_ble_eq_true rfl⟩, hq4, hq5⟩ (zk_preV (wc := zwC cI aC Ccandidates Cballots Cseats Cwithdrawn Cvoters Csets Crank ++ (zwC cI aQ Qcandidates Qballots Qseats Qwithdrawn Qvoters Qsets Qrank)) hN hK hw [2, 3, 4, 5, 6, 7, 8, 9] rfl (by decide) 2 0 rfl rfl) rfl rfl hl.1 rfl (lv_room (Nat.le_of_ble_eq_true rfl)) dX2_bringBack_36 ⟨Nat.zero_le _, Nat.zero_le _⟩) (fun H locs hw => ?_)
  have hw : Wd D A s.heap (zwP cO aP Pring (((Ptop + (6 : Int32)) - (1 : Int32)) - ((Ptop + (6 : Int32)) - (1 : Int32)) / (6 : Int32) * (6 : Int32)) (Psize - (1 : Int32)) ++ (zwC cI aC u2.1 u2.2.1 u2.2.2.1 u2.2.2.2.1 u2.2.2.2.2.1 u2.2.2.2.2.2.1 u2.2.2.2.2.2.2 ++ (zwC cI aQ Qcandidates Qballots Qseats Qwithdrawn Qvoters Qsets Qrank))) H locs := hw
  cases hf
  exact zk_vret hx hb hr hlocks hQ hw [0, 1, 2, 3, 4, 5, 6, 7, 8, 9] rfl (by decide) dX2_bringBack_39
set_option maxHeartbeats 4000000 in
set_option maxRecDepth 100000 in
theorem kX3_add (l : Launch) (D : va_G) (cI cJ cO : ClassId) (N : Nat) (aT : Nat → Nat) (p0 : Int32) (Tletters : Nat → Int32) (Tlength : Int32) (u : Int32 × (Nat → Int32) × (Int32)) (hf : fX3_add N p0 Tletters Tlength = some u) : CtI l yX3_add wsX3_add (zk_rm 0 0) D cI cJ cO [.ref (aT 0), .int p0] (zwT cI aT Tletters Tlength) (zwT cI aT u.2.1 u.2.2) (u.1) := by
  refine zk_enter (cc := cX3_add) (maxL := 2) (ret := some .boolean) (own := RX3) (Qf := fun A => QwI D (zwT cI aT u.2.1 u.2.2) (u.1) A) (by decide) rfl rfl (Nat.le_of_ble_eq_true rfl) ?_
  intro p e s m args below meth c A Q H locs ls hC hQ hw hl
  obtain ⟨hx, hb, hml, hr, hts, hown, hlocks, hN, hK, hA⟩ := hC
  have hl : lv_has ls 2 [(0, .ref (aT 0)), (1, .int p0)] := hl
  have hiX3 : ∀ w ∈ u_ws RX3 TX3 2, w ∈ wsX3_add := by decide +kernel
  have hq0 := hts (.fieldLink RX3 15 "LoadCouncil$Text" "length" "I") (by decide +kernel)
  have hq1 := hts (.fieldLink RX3 9 "LoadCouncil$Text" "letters" "[I") (by decide +kernel)
  unfold fX3_add at hf
  refine lv_aload_n hx hb dX3_add_0 rfl (lv_at hl 0 rfl) ?_
  refine va_get (D := D) (ci := 3) (v := .int Tlength) (C := RX3) (T := TX3) (N := 2) hx hb hts hiX3 hown hK hw.1 0 rfl rfl 1 (by decide) hq0 (fun _ h9 => h9) rfl dX3_add_1 ?_
  refine lv_sipush (v := 200) hx hb dX3_add_4 (by decide) ?_
  refine lv_icmp_lt (tgt := 12) hx hb dX3_add_7 (by decide) (fun c1 => ?_) (fun c1 => ?_)
  · replace hf := zk_t c1 hf
    refine lv_aload_n hx hb dX3_add_12 rfl (lv_at hl 0 rfl) ?_
    refine va_get (D := D) (ci := 3) (v := .ref (aT 1)) (C := RX3) (T := TX3) (N := 2) hx hb hts hiX3 hown hK hw.1 0 rfl rfl 0 (by decide) hq1 (fun _ h9 => h9) rfl dX3_add_13 ?_
    refine lv_aload_n hx hb dX3_add_16 rfl (lv_at hl 0 rfl) ?_
    refine va_get (D := D) (ci := 3) (v := .int Tlength) (C := RX3) (T := TX3) (N := 2) hx hb hts hiX3 hown hK hw.1 0 rfl rfl 1 (by decide) hq0 (fun _ h9 => h9) rfl dX3_add_17 ?_
    refine lv_iload_n hx hb dX3_add_20 rfl (lv_at hl 1 rfl) ?_
    obtain ⟨h2, hf⟩ := zk_ck hf
    refine zk_iast hx hb hK hw 1 rfl h2 (j := Tlength.toNatClampNeg) rfl dX3_add_21 (fun H locs hw => ?_)
    have hw : Wd D A s.heap (zwT cI aT (upd Tletters Tlength.toNatClampNeg p0) Tlength) H locs := hw
    refine lv_aload_n hx hb dX3_add_22 rfl (lv_at hl 0 rfl) ?_
    refine lv_dup hx hb dX3_add_23 rfl ?_
    refine va_get (D := D) (ci := 3) (v := .int Tlength) (C := RX3) (T := TX3) (N := 2) hx hb hts hiX3 hown hK hw.1 0 rfl rfl 1 (by decide) hq0 (fun _ h9 => h9) rfl dX3_add_24 ?_
    refine lv_iconst (v := 1) hx hb dX3_add_27 (by decide) ?_
    refine lv_iadd hx hb dX3_add_28 ?_
    refine va_put (D := D) (ci := 3) (v := .int (Tlength + (1 : Int32))) (C := RX3) (T := TX3) (N := 2) hx hb hts hiX3 tyX3 tyX3_ok nmX3 hown hK hw.1 hw.2.1 hw.2.2 0 rfl rfl 1 (by decide) hq0 (fun _ h9 => h9) rfl (tyX3_ok 1 (by decide)) rfl rfl (Nat.le_of_ble_eq_true rfl) dX3_add_29 (fun H locs hP hD hS => ?_)
    have hw : Wd D A s.heap (zwT cI aT (upd Tletters Tlength.toNatClampNeg p0) (Tlength + (1 : Int32))) H locs := ⟨hP, hD, hS⟩
    clear hP hD hS
    refine lv_iconst (v := 1) hx hb dX3_add_32 (by decide) ?_
    cases hf
    exact zk_iret hx hb hr hlocks rfl hQ hw [0, 1] rfl (by decide) dX3_add_33
  · replace hf := zk_f c1 hf
    refine lv_iconst (v := 0) hx hb dX3_add_10 (by decide) ?_
    cases hf
    exact zk_iret hx hb hr hlocks rfl hQ hw [0, 1] rfl (by decide) dX3_add_11
set_option maxHeartbeats 4000000 in
set_option maxRecDepth 100000 in
theorem kX3_clear (l : Launch) (D : va_G) (cI cJ cO : ClassId) (N : Nat) (aT : Nat → Nat) (Tletters : Nat → Int32) (Tlength : Int32) (u : (Int32)) (hf : fX3_clear N Tlength = some u) : CtV l yX3_clear wsX3_clear (zk_rm 0 0) D cI cJ cO [.ref (aT 0)] (zwT cI aT Tletters Tlength) (zwT cI aT Tletters u) := by
  refine zk_enter (cc := cX3_clear) (maxL := 1) (ret := none) (own := RX3) (Qf := fun A => QwV D (zwT cI aT Tletters u) A) (by decide) rfl rfl (Nat.le_of_ble_eq_true rfl) ?_
  intro p e s m args below meth c A Q H locs ls hC hQ hw hl
  obtain ⟨hx, hb, hml, hr, hts, hown, hlocks, hN, hK, hA⟩ := hC
  have hl : lv_has ls 1 [(0, .ref (aT 0))] := hl
  have hiX3 : ∀ w ∈ u_ws RX3 TX3 2, w ∈ wsX3_clear := by decide +kernel
  have hq0 := hts (.fieldLink RX3 15 "LoadCouncil$Text" "length" "I") (by decide +kernel)
  unfold fX3_clear at hf
  refine lv_aload_n hx hb dX3_clear_0 rfl (lv_at hl 0 rfl) ?_
  refine lv_iconst (v := 0) hx hb dX3_clear_1 (by decide) ?_
  refine va_put (D := D) (ci := 3) (v := .int (0 : Int32)) (C := RX3) (T := TX3) (N := 2) hx hb hts hiX3 tyX3 tyX3_ok nmX3 hown hK hw.1 hw.2.1 hw.2.2 0 rfl rfl 1 (by decide) hq0 (fun _ h9 => h9) rfl (tyX3_ok 1 (by decide)) rfl rfl (Nat.le_of_ble_eq_true rfl) dX3_clear_2 (fun H locs hP hD hS => ?_)
  have hw : Wd D A s.heap (zwT cI aT Tletters (0 : Int32)) H locs := ⟨hP, hD, hS⟩
  clear hP hD hS
  cases hf
  exact zk_vret hx hb hr hlocks hQ hw [0, 1] rfl (by decide) dX3_clear_5
set_option maxHeartbeats 4000000 in
set_option maxRecDepth 100000 in
theorem kX3_number (l : Launch) (D : va_G) (cI cJ cO : ClassId) (N : Nat) (aT : Nat → Nat) (p0 : Int32) (p1 : Int32) (Tletters : Nat → Int32) (Tlength : Int32) (u : Int32) (hf : fX3_number N p0 p1 Tletters = some u) : CtI l yX3_number wsX3_number (zk_rm 0 0) D cI cJ cO [.ref (aT 0), .int p0, .int p1] (zwT cI aT Tletters Tlength) (zwT cI aT Tletters Tlength) (u) := by
  refine zk_enter (cc := cX3_number) (maxL := 6) (ret := some .int) (own := RX3) (Qf := fun A => QwI D (zwT cI aT Tletters Tlength) (u) A) (by decide) rfl rfl (Nat.le_of_ble_eq_true rfl) ?_
  intro p e s m args below meth c A Q H locs ls hC hQ hw hl
  obtain ⟨hx, hb, hml, hr, hts, hown, hlocks, hN, hK, hA⟩ := hC
  have hl : lv_has ls 6 [(0, .ref (aT 0)), (1, .int p0), (2, .int p1)] := hl
  have hiX3 : ∀ w ∈ u_ws RX3 TX3 2, w ∈ wsX3_number := by decide +kernel
  have hq0 := hts (.fieldLink RX3 9 "LoadCouncil$Text" "letters" "[I") (by decide +kernel)
  have b21 : ∀ (n21 : Nat), ∀ (x2 : Int32) (x3 : Int32) (x4 : Int32), fX3_number_b21 N n21 x2 x3 x4 Tletters = some u → ∀ (H : Heap) (locs : List Loc) (ls : Array Slot), Wd D A s.heap (zwT cI aT Tletters Tlength) H locs → lv_has ls 6 [(0, .ref (aT 0)), (2, .int x2), (3, .int x3), (4, .int x4)] → W p l e (zk_rm 0 0) s m args below meth c H locs 0 0 Q (F0 m 21 ls []) := by
    intro n21
    induction n21 with
    | zero =>
      intro x2 x3 x4 hf
      exact zk_none hf
    | succ n21 ih21 =>
      intro x2 x3 x4 hf H locs ls hw hl
      rw [fX3_number_b21] at hf
      refine lv_iload hx hb dX3_number_21 (lv_at hl 3 rfl) ?_
      refine lv_iload_n hx hb dX3_number_23 rfl (lv_at hl 1 rfl) ?_
      refine lv_icmp_ge (tgt := 67) hx hb dX3_number_24 (by decide) (fun c1 => ?_) (fun c1 => ?_)
      · replace hf := zk_t c1 hf
        refine lv_iload_n hx hb dX3_number_67 rfl (lv_at hl 2 rfl) ?_
        cases hf
        exact zk_iret hx hb hr hlocks rfl hQ hw [0, 1] rfl (by decide) dX3_number_68
      · replace hf := zk_f c1 hf
        refine lv_aload_n hx hb dX3_number_27 rfl (lv_at hl 0 rfl) ?_
        refine va_get (D := D) (ci := 3) (v := .ref (aT 1)) (C := RX3) (T := TX3) (N := 2) hx hb hts hiX3 hown hK hw.1 0 rfl rfl 0 (by decide) hq0 (fun _ h9 => h9) rfl dX3_number_28 ?_
        refine lv_iload hx hb dX3_number_31 (lv_at hl 3 rfl) ?_
        obtain ⟨h2, hf⟩ := zk_ck hf
        refine zk_iald hx hb hK hw 1 rfl h2 (j := x4.toNatClampNeg) rfl dX3_number_33 ?_
        refine lv_bipush (v := 48) hx hb dX3_number_34 (by decide) ?_
        refine lv_isub hx hb dX3_number_36 ?_
        refine lv_istore (lv' := [(5, .int ((Tletters x4.toNatClampNeg) - (48 : Int32))), (0, .ref (aT 0)), (2, .int x2), (3, .int x3), (4, .int x4)]) hx hb dX3_number_37 hl (by decide) rfl (fun ls hl => ?_)
        refine lv_iload hx hb dX3_number_39 (lv_at hl 0 rfl) ?_
        refine lv_if_lt (tgt := 51) hx hb dX3_number_41 (by decide) (fun c3 => ?_) (fun c3 => ?_)
        · replace hf := zk_t c3 hf
          refine lv_iconst (v := (-1)) hx hb dX3_number_51 (by decide) ?_
          cases hf
          exact zk_iret hx hb hr hlocks rfl hQ hw [0, 1] rfl (by decide) dX3_number_52
        · replace hf := zk_f c3 hf
          refine lv_iload hx hb dX3_number_44 (lv_at hl 0 rfl) ?_
          refine lv_bipush (v := 9) hx hb dX3_number_46 (by decide) ?_
          refine lv_icmp_le (tgt := 53) hx hb dX3_number_48 (by decide) (fun c4 => ?_) (fun c4 => ?_)
          · replace hf := zk_t c4 hf
            refine lv_iload_n hx hb dX3_number_53 rfl (lv_at hl 3 rfl) ?_
            refine lv_bipush (v := 10) hx hb dX3_number_54 (by decide) ?_
            refine lv_imul hx hb dX3_number_56 ?_
            refine lv_iload hx hb dX3_number_57 (lv_at hl 0 rfl) ?_
            refine lv_iadd hx hb dX3_number_59 ?_
            refine lv_istore_n (lv' := [(3, .int ((x3 * (10 : Int32)) + ((Tletters x4.toNatClampNeg) - (48 : Int32)))), (5, .int ((Tletters x4.toNatClampNeg) - (48 : Int32))), (0, .ref (aT 0)), (2, .int x2), (4, .int x4)]) hx hb dX3_number_60 rfl hl (by decide) rfl (fun ls hl => ?_)
            refine lv_iinc (v := (x4 + (1 : Int32))) (lv' := [(4, .int (x4 + (1 : Int32))), (3, .int ((x3 * (10 : Int32)) + ((Tletters x4.toNatClampNeg) - (48 : Int32)))), (5, .int ((Tletters x4.toNatClampNeg) - (48 : Int32))), (0, .ref (aT 0)), (2, .int x2)]) hx hb dX3_number_61 hl (k := 4) rfl rfl (by decide) rfl (fun ls hl => ?_)
            refine lv_goto (tgt := 21) hx hb dX3_number_64 (by decide) ?_
            exact ih21 x2 ((x3 * (10 : Int32)) + ((Tletters x4.toNatClampNeg) - (48 : Int32))) (x4 + (1 : Int32)) hf H locs ls hw (lv_sub hl [3, 4, 1, 0] rfl)
          · replace hf := zk_f c4 hf
            refine lv_iconst (v := (-1)) hx hb dX3_number_51 (by decide) ?_
            cases hf
            exact zk_iret hx hb hr hlocks rfl hQ hw [0, 1] rfl (by decide) dX3_number_52
  unfold fX3_number at hf
  refine lv_iload_n hx hb dX3_number_0 rfl (lv_at hl 2 rfl) ?_
  refine lv_iload_n hx hb dX3_number_1 rfl (lv_at hl 1 rfl) ?_
  refine lv_isub hx hb dX3_number_2 ?_
  refine lv_iconst (v := 1) hx hb dX3_number_3 (by decide) ?_
  refine lv_icmp_lt (tgt := 14) hx hb dX3_number_4 (by decide) (fun c5 => ?_) (fun c5 => ?_)
  · replace hf := zk_t c5 hf
    refine lv_iconst (v := (-1)) hx hb dX3_number_14 (by decide) ?_
    cases hf
    exact zk_iret hx hb hr hlocks rfl hQ hw [0, 1] rfl (by decide) dX3_number_15
  · replace hf := zk_f c5 hf
    refine lv_iload_n hx hb dX3_number_7 rfl (lv_at hl 2 rfl) ?_
    refine lv_iload_n hx hb dX3_number_8 rfl (lv_at hl 1 rfl) ?_
    refine lv_isub hx hb dX3_number_9 ?_
    refine lv_iconst (v := 2) hx hb dX3_number_10 (by decide) ?_
    refine lv_icmp_le (tgt := 16) hx hb dX3_number_11 (by decide) (fun c6 => ?_) (fun c6 => ?_)
    · replace hf := zk_t c6 hf
      refine lv_iconst (v := 0) hx hb dX3_number_16 (by decide) ?_
      refine lv_istore_n (lv' := [(3, .int (0 : Int32)), (0, .ref (aT 0)), (1, .int p0), (2, .int p1)]) hx hb dX3_number_17 rfl hl (by decide) rfl (fun ls hl => ?_)
      refine lv_iload_n hx hb dX3_number_18 rfl (lv_at hl 2 rfl) ?_
      refine lv_istore (lv' := [(4, .int p0), (3, .int (0 : Int32)), (0, .ref (aT 0)), (1, .int p0), (2, .int p1)]) hx hb dX3_number_19 hl (by decide) rfl (fun ls hl => ?_)
      exact b21 N p1 (0 : Int32) p0 hf H locs ls hw (lv_sub hl [2, 4, 1, 0] rfl)
    · replace hf := zk_f c6 hf
      refine lv_iconst (v := (-1)) hx hb dX3_number_14 (by decide) ?_
      cases hf
      exact zk_iret hx hb hr hlocks rfl hQ hw [0, 1] rfl (by decide) dX3_number_15
set_option maxHeartbeats 4000000 in
set_option maxRecDepth 100000 in
theorem kX3_readCandidates (l : Launch) (D : va_G) (cI cJ cO : ClassId) (N : Nat) (aT aC : Nat → Nat) (p1 : Int32) (p2 : Int32) (Tletters : Nat → Int32) (Tlength : Int32) (Ccandidates : Int32) (Cballots : Int32) (Cseats : Int32) (Cwithdrawn : Int32) (Cvoters : Nat → Int32) (Csets : Nat → Int32) (Crank : Nat → Int32) (u : Int32 × (Int32) × (Int32) × (Int32) × (Int32) × (Nat → Int32)) (hf : fX3_readCandidates N p1 p2 Tletters Ccandidates Cballots Cseats Cwithdrawn Crank = some u) : CtI l yX3_readCandidates wsX3_readCandidates (zk_rm 1 25) D cI cJ cO [.ref (aT 0), .ref (aC 0), .int p1, .int p2] (zwT cI aT Tletters Tlength ++ (zwC cI aC Ccandidates Cballots Cseats Cwithdrawn Cvoters Csets Crank)) (zwT cI aT Tletters Tlength ++ (zwC cI aC u.2.1 u.2.2.1 u.2.2.2.1 u.2.2.2.2.1 Cvoters Csets u.2.2.2.2.2)) (u.1) := by
  refine zk_enter (cc := cX3_readCandidates) (maxL := 5) (ret := some .boolean) (own := RX3) (Qf := fun A => QwI D (zwT cI aT Tletters Tlength ++ (zwC cI aC u.2.1 u.2.2.1 u.2.2.2.1 u.2.2.2.2.1 Cvoters Csets u.2.2.2.2.2)) (u.1) A) (by decide) rfl rfl (Nat.le_of_ble_eq_true rfl) ?_
  intro p e s m args below meth c A Q H locs ls hC hQ hw hl
  obtain ⟨hx, hb, hml, hr, hts, hown, hlocks, hN, hK, hA⟩ := hC
  have hl : lv_has ls 5 [(0, .ref (aT 0)), (1, .ref (aC 0)), (2, .int p1), (3, .int p2)] := hl
  have hiX0 : ∀ w ∈ u_ws RX0 TX0 7, w ∈ wsX3_readCandidates := by decide +kernel
  have hq0 := hts (.initialized RX0) (by decide +kernel)
  have hq1 := hts (.instanceMethod yX0_beginWith) (by decide +kernel)
  have hq2 := hts (.selects RX0 yX0_beginWith yX0_beginWith) (by decide +kernel)
  unfold fX3_readCandidates at hf
  refine lv_aload_n hx hb dX3_readCandidates_0 rfl (lv_at hl 0 rfl) ?_
  refine lv_iload_n hx hb dX3_readCandidates_1 rfl (lv_at hl 2 rfl) ?_
  refine lv_iload_n hx hb dX3_readCandidates_2 rfl (lv_at hl 3 rfl) ?_
  obtain ⟨u1, e2, hf⟩ := zk_bd hf
  refine zk_calli (wc := zwT cI aT Tletters Tlength) (wr := zwC cI aC Ccandidates Cballots Cseats Cwithdrawn Cvoters Csets Crank) hw hA [0, 1] [2, 3, 4, 5] rfl rfl (by decide) (by decide) (va_runV (C := RX3) (As := [.int p1, .int p2]) (rest := []) ⟨hx, hb, hml, hown, hts⟩ (kX3_number l D cI cJ cO N aT p1 p2 Tletters Tlength u1 e2 H.size) (cwV 2 hts gX3_readCandidates_X3_number rfl rfl rfl (by decide +kernel) ⟨Nat.le_of_ble_eq_true rfl, Nat.le_of_ble_eq_true rfl⟩) (zk_preV (wc := zwT cI aT Tletters Tlength) hN hK hw [0, 1] rfl (by decide) 0 3 rfl rfl) rfl rfl hl.1 rfl (lv_room (Nat.le_of_ble_eq_true rfl)) dX3_readCandidates_3 ⟨Nat.zero_le _, Nat.zero_le _⟩) (fun H locs hw => ?_)
  have hw : Wd D A s.heap (zwC cI aC Ccandidates Cballots Cseats Cwithdrawn Cvoters Csets Crank ++ (zwT cI aT Tletters Tlength)) H locs := hw
  refine lv_istore (lv' := [(4, .int u1), (0, .ref (aT 0)), (1, .ref (aC 0)), (2, .int p1), (3, .int p2)]) hx hb dX3_readCandidates_6 hl (by decide) rfl (fun ls hl => ?_)
  refine lv_aload_n hx hb dX3_readCandidates_8 rfl (lv_at hl 2 rfl) ?_
  refine va_getN (D := D) (ci := 0) (v := .int Ccandidates) (C := RX0) (T := TX0) (N := 7) hx hb hts hiX0 hown hK hw.1 0 rfl rfl 0 (by decide) (va_Nw.use rfl (nwF_X3_32 hN)) (fun _ h9 => h9) rfl dX3_readCandidates_9 ?_
  refine lv_if_ne (tgt := 28) hx hb dX3_readCandidates_12 (by decide) (fun c3 => ?_) (fun c3 => ?_)
  · replace hf := zk_f c3 hf
    refine lv_iconst (v := 0) hx hb dX3_readCandidates_28 (by decide) ?_
    cases hf
    exact zk_iret hx hb hr hlocks rfl hQ hw [4, 5, 0, 1, 2, 3] rfl (by decide) dX3_readCandidates_29
  · replace hf := zk_t c3 hf
    refine lv_iload hx hb dX3_readCandidates_15 (lv_at hl 0 rfl) ?_
    refine lv_iconst (v := 1) hx hb dX3_readCandidates_17 (by decide) ?_
    refine lv_icmp_lt (tgt := 28) hx hb dX3_readCandidates_18 (by decide) (fun c4 => ?_) (fun c4 => ?_)
    · replace hf := zk_t c4 hf
      refine lv_iconst (v := 0) hx hb dX3_readCandidates_28 (by decide) ?_
      cases hf
      exact zk_iret hx hb hr hlocks rfl hQ hw [4, 5, 0, 1, 2, 3] rfl (by decide) dX3_readCandidates_29
    · replace hf := zk_f c4 hf
      refine lv_iload hx hb dX3_readCandidates_21 (lv_at hl 0 rfl) ?_
      refine lv_bipush (v := 8) hx hb dX3_readCandidates_23 (by decide) ?_
      refine lv_icmp_le (tgt := 30) hx hb dX3_readCandidates_25 (by decide) (fun c5 => ?_) (fun c5 => ?_)
      · replace hf := zk_t c5 hf
        refine lv_aload_n hx hb dX3_readCandidates_30 rfl (lv_at hl 2 rfl) ?_
        refine lv_iload hx hb dX3_readCandidates_31 (lv_at hl 0 rfl) ?_
        obtain ⟨u6, e7, hf⟩ := zk_bd hf
        refine zk_callv (wc := zwC cI aC Ccandidates Cballots Cseats Cwithdrawn Cvoters Csets Crank) (wr := zwT cI aT Tletters Tlength) hw hA [0, 1, 2, 3] [4, 5] rfl rfl (by decide) (by decide) (va_runVN (C := RX0) (As := [.int u1]) (rest := []) ⟨hx, hb, hml, hown, hts⟩ (kX0_beginWith l D cI cJ cO N aC u1 Ccandidates Cballots Cseats Cwithdrawn Cvoters Csets Crank u6 e7 H.size) ⟨va_cnB 1 hts ggX3_readCandidates_X0_beginWith rfl rfl rfl (nwM_X3_19 hN) hq0 (by decide +kernel) ⟨Nat.le_of_ble_eq_true rfl, Nat.le_of_ble_eq_true rfl⟩, hq1, hq2⟩ (zk_preV (wc := zwC cI aC Ccandidates Cballots Cseats Cwithdrawn Cvoters Csets Crank) hN hK hw [0, 1, 2, 3] rfl (by decide) 0 0 rfl rfl) rfl rfl hl.1 rfl (lv_room (Nat.le_of_ble_eq_true rfl)) dX3_readCandidates_33 ⟨Nat.zero_le _, Nat.zero_le _⟩) (fun H locs hw => ?_)
        have hw : Wd D A s.heap (zwT cI aT Tletters Tlength ++ (zwC cI aC u6.1 u6.2.1 u6.2.2.1 u6.2.2.2.1 Cvoters Csets u6.2.2.2.2)) H locs := hw
        refine lv_iconst (v := 1) hx hb dX3_readCandidates_36 (by decide) ?_
        cases hf
        exact zk_iret hx hb hr hlocks rfl hQ hw [0, 1, 2, 3, 4, 5] rfl (by decide) dX3_readCandidates_37
      · replace hf := zk_f c5 hf
        refine lv_iconst (v := 0) hx hb dX3_readCandidates_28 (by decide) ?_
        cases hf
        exact zk_iret hx hb hr hlocks rfl hQ hw [4, 5, 0, 1, 2, 3] rfl (by decide) dX3_readCandidates_29
