set_option maxHeartbeats 4000000 in
set_option maxRecDepth 100000 in
theorem kX4_count (l : Launch) (D : va_G) (cI cJ cO : ClassId) (N : Nat) (aL aT aP aN : Nat → Nat) (aR aE : Nat → Nat) (p0 : Int32) (Tletters : Nat → Int32) (Tlength : Int32) (Pring : Nat → Option Nat) (Ptop : Int32) (Psize : Int32) (Ncandidates : Int32) (Nballots : Int32) (Nseats : Int32) (Nwithdrawn : Int32) (Nvoters : Nat → Int32) (Nsets : Nat → Int32) (Nrank : Nat → Int32) (u : Int32) (hf : fX4_count N p0 Tlength Psize Ncandidates Nballots Nseats Nwithdrawn Nvoters Nsets = some u) : CtI l yX4_count wsX4_count (zk_rm 3 65) D cI cJ cO [.ref (aL 0), .int p0] (zwL aL (aT 0) (aN 0) (aR 0) (aP 0) (aE 0) ++ (zwT cI aT Tletters Tlength ++ (zwP cO aP Pring Ptop Psize ++ (zwC cI aN Ncandidates Nballots Nseats Nwithdrawn Nvoters Nsets Nrank)))) (zwL aL (aT 0) (aN 0) (aR 0) (aP 0) (aE 0) ++ (zwT cI aT Tletters Tlength ++ (zwP cO aP Pring Ptop Psize ++ (zwC cI aN Ncandidates Nballots Nseats Nwithdrawn Nvoters Nsets Nrank)))) (u) := by
  refine zk_enter (cc := cX4_count) (maxL := 2) (ret := some .int) (own := RX4) (Qf := fun A => QwI D (zwL aL (aT 0) (aN 0) (aR 0) (aP 0) (aE 0) ++ (zwT cI aT Tletters Tlength ++ (zwP cO aP Pring Ptop Psize ++ (zwC cI aN Ncandidates Nballots Nseats Nwithdrawn Nvoters Nsets Nrank)))) (u) A) (by decide) rfl rfl (Nat.le_of_ble_eq_true rfl) ?_
  intro p e s m args below meth c A Q H locs ls hC hQ hw hl
  obtain ⟨hx, hb, hml, hr, hts, hown, hlocks, hN, hK, hA⟩ := hC
  have hl : lv_has ls 2 [(0, .ref (aL 0)), (1, .int p0)] := hl
  have hiX4 : ∀ w ∈ u_ws RX4 TX4 5, w ∈ wsX4_count := by decide +kernel
  have hiX0 : ∀ w ∈ u_ws RX0 TX0 7, w ∈ wsX4_count := by decide +kernel
  have hiX2 : ∀ w ∈ u_ws RX2 TX2 3, w ∈ wsX4_count := by decide +kernel
  have hiX3 : ∀ w ∈ u_ws RX3 TX3 2, w ∈ wsX4_count := by decide +kernel
  have hq0 := hts (.fieldLink RX4 19 "LoadCouncil" "now" "LLoadCouncil$Council;") (by decide +kernel)
  have hq1 := hts (.initialized RX0) (by decide +kernel)
  have hq2 := hts (.instanceMethod yX0_allVoters) (by decide +kernel)
  have hq3 := hts (.selects RX0 yX0_allVoters yX0_allVoters) (by decide +kernel)
  have hq4 := hts (.fieldLink RX4 29 "LoadCouncil" "past" "LLoadCouncil$Past;") (by decide +kernel)
  have hq5 := hts (.fieldLink RX4 12 "LoadCouncil" "text" "LLoadCouncil$Text;") (by decide +kernel)
  unfold fX4_count at hf
  refine lv_iload_n hx hb dX4_count_0 rfl (lv_at hl 1 rfl) ?_
  by_cases c1 : p0 = 0
  · replace hf := zk_t c1 hf
    refine lv_tableIn (tgt := 44) (off := 43) hx hb dX4_count_1 (by rw [c1]; decide) (by rw [c1]; decide) (by rw [c1]; rfl) (by decide) ?_
    refine lv_aload_n hx hb dX4_count_44 rfl (lv_at hl 0 rfl) ?_
    refine va_get (D := D) (ci := 4) (v := .ref (aN 0)) (C := RX4) (T := TX4) (N := 5) hx hb hts hiX4 hown hK hw.1 0 rfl rfl 1 (by decide) hq0 (fun _ h9 => h9) rfl dX4_count_45 ?_
    refine va_getN (D := D) (ci := 0) (v := .int Ncandidates) (C := RX0) (T := TX0) (N := 7) hx hb hts hiX0 hown hK hw.1 5 rfl rfl 0 (by decide) (va_Nw.use rfl (nwF_X4_66 hN)) (fun _ h9 => h9) rfl dX4_count_48 ?_
    cases hf
    exact zk_iret hx hb hr hlocks rfl hQ hw [0, 1, 2, 3, 4, 5, 6, 7, 8] rfl (by decide) dX4_count_51
  · replace hf := zk_f c1 hf
    by_cases c2 : p0 = 1
    · replace hf := zk_t c2 hf
      refine lv_tableIn (tgt := 52) (off := 51) hx hb dX4_count_1 (by rw [c2]; decide) (by rw [c2]; decide) (by rw [c2]; rfl) (by decide) ?_
      refine lv_aload_n hx hb dX4_count_52 rfl (lv_at hl 0 rfl) ?_
      refine va_get (D := D) (ci := 4) (v := .ref (aN 0)) (C := RX4) (T := TX4) (N := 5) hx hb hts hiX4 hown hK hw.1 0 rfl rfl 1 (by decide) hq0 (fun _ h9 => h9) rfl dX4_count_53 ?_
      refine va_getN (D := D) (ci := 0) (v := .int Nballots) (C := RX0) (T := TX0) (N := 7) hx hb hts hiX0 hown hK hw.1 5 rfl rfl 1 (by decide) (va_Nw.use rfl (nwF_X4_82 hN)) (fun _ h9 => h9) rfl dX4_count_56 ?_
      cases hf
      exact zk_iret hx hb hr hlocks rfl hQ hw [0, 1, 2, 3, 4, 5, 6, 7, 8] rfl (by decide) dX4_count_59
    · replace hf := zk_f c2 hf
      by_cases c3 : p0 = 2
      · replace hf := zk_t c3 hf
        refine lv_tableIn (tgt := 60) (off := 59) hx hb dX4_count_1 (by rw [c3]; decide) (by rw [c3]; decide) (by rw [c3]; rfl) (by decide) ?_
        refine lv_aload_n hx hb dX4_count_60 rfl (lv_at hl 0 rfl) ?_
        refine va_get (D := D) (ci := 4) (v := .ref (aN 0)) (C := RX4) (T := TX4) (N := 5) hx hb hts hiX4 hown hK hw.1 0 rfl rfl 1 (by decide) hq0 (fun _ h9 => h9) rfl dX4_count_61 ?_
        obtain ⟨u4, e5, hf⟩ := zk_bd hf
        refine zk_calli (wc := zwC cI aN Ncandidates Nballots Nseats Nwithdrawn Nvoters Nsets Nrank) (wr := zwL aL (aT 0) (aN 0) (aR 0) (aP 0) (aE 0) ++ (zwT cI aT Tletters Tlength ++ (zwP cO aP Pring Ptop Psize))) hw hA [5, 6, 7, 8] [0, 1, 2, 3, 4] rfl rfl (by decide) (by decide) (va_runVN (C := RX0) (As := []) (rest := []) ⟨hx, hb, hml, hown, hts⟩ (kX0_allVoters l D cI cJ cO N aN Ncandidates Nballots Nseats Nwithdrawn Nvoters Nsets Nrank u4 e5 H.size) ⟨va_cnB 0 hts ggX4_count_X0_allVoters rfl rfl rfl (nwM_X4_85 hN) hq1 (by decide +kernel) ⟨Nat.le_of_ble_eq_true rfl, Nat.le_of_ble_eq_true rfl⟩, hq2, hq3⟩ (zk_preV (wc := zwC cI aN Ncandidates Nballots Nseats Nwithdrawn Nvoters Nsets Nrank) hN hK hw [5, 6, 7, 8] rfl (by decide) 5 0 rfl rfl) rfl rfl hl.1 rfl (lv_room (Nat.le_of_ble_eq_true rfl)) dX4_count_64 ⟨Nat.zero_le _, Nat.zero_le _⟩) (fun H locs hw => ?_)
        have hw : Wd D A s.heap (zwL aL (aT 0) (aN 0) (aR 0) (aP 0) (aE 0) ++ (zwT cI aT Tletters Tlength ++ (zwP cO aP Pring Ptop Psize ++ (zwC cI aN Ncandidates Nballots Nseats Nwithdrawn Nvoters Nsets Nrank)))) H locs := hw
        cases hf
        exact zk_iret hx hb hr hlocks rfl hQ hw [0, 1, 2, 3, 4, 5, 6, 7, 8] rfl (by decide) dX4_count_67
      · replace hf := zk_f c3 hf
        by_cases c6 : p0 = 3
        · replace hf := zk_t c6 hf
          refine lv_tableIn (tgt := 68) (off := 67) hx hb dX4_count_1 (by rw [c6]; decide) (by rw [c6]; decide) (by rw [c6]; rfl) (by decide) ?_
          refine lv_aload_n hx hb dX4_count_68 rfl (lv_at hl 0 rfl) ?_
          refine va_get (D := D) (ci := 4) (v := .ref (aN 0)) (C := RX4) (T := TX4) (N := 5) hx hb hts hiX4 hown hK hw.1 0 rfl rfl 1 (by decide) hq0 (fun _ h9 => h9) rfl dX4_count_69 ?_
          refine va_getN (D := D) (ci := 0) (v := .int Nseats) (C := RX0) (T := TX0) (N := 7) hx hb hts hiX0 hown hK hw.1 5 rfl rfl 2 (by decide) (va_Nw.use rfl (nwF_X4_105 hN)) (fun _ h9 => h9) rfl dX4_count_72 ?_
          cases hf
          exact zk_iret hx hb hr hlocks rfl hQ hw [0, 1, 2, 3, 4, 5, 6, 7, 8] rfl (by decide) dX4_count_75
        · replace hf := zk_f c6 hf
          by_cases c7 : p0 = 4
          · replace hf := zk_t c7 hf
            refine lv_tableIn (tgt := 76) (off := 75) hx hb dX4_count_1 (by rw [c7]; decide) (by rw [c7]; decide) (by rw [c7]; rfl) (by decide) ?_
            refine lv_aload_n hx hb dX4_count_76 rfl (lv_at hl 0 rfl) ?_
            refine va_get (D := D) (ci := 4) (v := .ref (aN 0)) (C := RX4) (T := TX4) (N := 5) hx hb hts hiX4 hown hK hw.1 0 rfl rfl 1 (by decide) hq0 (fun _ h9 => h9) rfl dX4_count_77 ?_
            refine va_getN (D := D) (ci := 0) (v := .int Nwithdrawn) (C := RX0) (T := TX0) (N := 7) hx hb hts hiX0 hown hK hw.1 5 rfl rfl 3 (by decide) (va_Nw.use rfl (nwF_X4_114 hN)) (fun _ h9 => h9) rfl dX4_count_80 ?_
            obtain ⟨u8, e9, hf⟩ := zk_bd hf
            refine zk_calli (wc := []) (wr := zwL aL (aT 0) (aN 0) (aR 0) (aP 0) (aE 0) ++ (zwT cI aT Tletters Tlength ++ (zwP cO aP Pring Ptop Psize ++ (zwC cI aN Ncandidates Nballots Nseats Nwithdrawn Nvoters Nsets Nrank)))) hw hA [] [0, 1, 2, 3, 4, 5, 6, 7, 8] rfl rfl (by decide) (by decide) (va_runS (As := [.int Nwithdrawn]) (rest := []) ⟨hx, hb, hml, hown, hts⟩ (kJ6_bitCount_0f7a4 l D cI cJ cO N Nwithdrawn u8 e9 H.size) (va_cwS 1 hts gX4_count_J6_bitCount_0f7a4 rfl rfl rfl (by decide +kernel) ⟨Nat.le_of_ble_eq_true rfl, Nat.le_of_ble_eq_true rfl⟩) (zk_preS (wc := []) hN hK hw [] rfl (by decide)) rfl rfl hl.1 rfl (lv_room (Nat.le_of_ble_eq_true rfl)) dX4_count_83 ⟨Nat.zero_le _, Nat.zero_le _⟩) (fun H locs hw => ?_)
            have hw : Wd D A s.heap (zwL aL (aT 0) (aN 0) (aR 0) (aP 0) (aE 0) ++ (zwT cI aT Tletters Tlength ++ (zwP cO aP Pring Ptop Psize ++ (zwC cI aN Ncandidates Nballots Nseats Nwithdrawn Nvoters Nsets Nrank)))) H locs := hw
            cases hf
            exact zk_iret hx hb hr hlocks rfl hQ hw [0, 1, 2, 3, 4, 5, 6, 7, 8] rfl (by decide) dX4_count_86
          · replace hf := zk_f c7 hf
            by_cases c10 : p0 = 5
            · replace hf := zk_t c10 hf
              refine lv_tableIn (tgt := 87) (off := 86) hx hb dX4_count_1 (by rw [c10]; decide) (by rw [c10]; decide) (by rw [c10]; rfl) (by decide) ?_
              refine lv_aload_n hx hb dX4_count_87 rfl (lv_at hl 0 rfl) ?_
              refine va_get (D := D) (ci := 4) (v := .ref (aP 0)) (C := RX4) (T := TX4) (N := 5) hx hb hts hiX4 hown hK hw.1 0 rfl rfl 3 (by decide) hq4 (fun _ h9 => h9) rfl dX4_count_88 ?_
              refine va_getN (D := D) (ci := 2) (v := .int Psize) (C := RX2) (T := TX2) (N := 3) hx hb hts hiX2 hown hK hw.1 3 rfl rfl 2 (by decide) (va_Nw.use rfl (nwF_X4_130 hN)) (fun _ h9 => h9) rfl dX4_count_91 ?_
              cases hf
              exact zk_iret hx hb hr hlocks rfl hQ hw [0, 1, 2, 3, 4, 5, 6, 7, 8] rfl (by decide) dX4_count_94
            · replace hf := zk_f c10 hf
              by_cases c11 : p0 = 6
              · replace hf := zk_t c11 hf
                refine lv_tableIn (tgt := 95) (off := 94) hx hb dX4_count_1 (by rw [c11]; decide) (by rw [c11]; decide) (by rw [c11]; rfl) (by decide) ?_
                refine lv_aload_n hx hb dX4_count_95 rfl (lv_at hl 0 rfl) ?_
                refine va_get (D := D) (ci := 4) (v := .ref (aT 0)) (C := RX4) (T := TX4) (N := 5) hx hb hts hiX4 hown hK hw.1 0 rfl rfl 0 (by decide) hq5 (fun _ h9 => h9) rfl dX4_count_96 ?_
                refine va_getN (D := D) (ci := 3) (v := .int Tlength) (C := RX3) (T := TX3) (N := 2) hx hb hts hiX3 hown hK hw.1 1 rfl rfl 1 (by decide) (va_Nw.use rfl (nwF_X4_63 hN)) (fun _ h9 => h9) rfl dX4_count_99 ?_
                cases hf
                exact zk_iret hx hb hr hlocks rfl hQ hw [0, 1, 2, 3, 4, 5, 6, 7, 8] rfl (by decide) dX4_count_102
              · replace hf := zk_f c11 hf
                refine lv_tableOut (tgt := 103) hx hb dX4_count_1 (by have n0 := lv_neT c1 (k := 0) (a := 0) rfl; have n1 := lv_neT c2 (k := 1) (a := 1) rfl; have n2 := lv_neT c3 (k := 2) (a := 2) rfl; have n3 := lv_neT c6 (k := 3) (a := 3) rfl; have n4 := lv_neT c7 (k := 4) (a := 4) rfl; have n5 := lv_neT c10 (k := 5) (a := 5) rfl; have n6 := lv_neT c11 (k := 6) (a := 6) rfl; omega) (by decide) ?_
                refine lv_iconst (v := (-1)) hx hb dX4_count_103 (by decide) ?_
                cases hf
                exact zk_iret hx hb hr hlocks rfl hQ hw [0, 1, 2, 3, 4, 5, 6, 7, 8] rfl (by decide) dX4_count_104
set_option maxHeartbeats 4000000 in
set_option maxRecDepth 100000 in
theorem kX5_in (l : Launch) (D : va_G) (cI cJ cO : ClassId) (N : Nat) (p0 : Int32) (p1 : Int32) (p2 : Int32) (u : Int32) (hf : fX5_in N p0 p1 p2 = some u) : CtI l yX5_in wsX5_in (zk_rm 0 0) D cI cJ cO [.int p0, .int p1, .int p2] ([]) ([]) (u) := by
  refine zk_enter (cc := cX5_in) (maxL := 3) (ret := some .boolean) (own := RX5) (Qf := fun A => QwI D ([]) (u) A) (by decide) rfl rfl (Nat.le_of_ble_eq_true rfl) ?_
  intro p e s m args below meth c A Q H locs ls hC hQ hw hl
  obtain ⟨hx, hb, hml, hr, hts, hown, hlocks, hN, hK, hA⟩ := hC
  have hl : lv_has ls 3 [(0, .int p0), (1, .int p1), (2, .int p2)] := hl
  unfold fX5_in at hf
  refine lv_iload_n hx hb dX5_in_0 rfl (lv_at hl 0 rfl) ?_
  refine lv_iload_n hx hb dX5_in_1 rfl (lv_at hl 1 rfl) ?_
  refine lv_icmp_lt (tgt := 14) hx hb dX5_in_2 (by decide) (fun c1 => ?_) (fun c1 => ?_)
  · replace hf := zk_t c1 hf
    refine lv_iconst (v := 0) hx hb dX5_in_14 (by decide) ?_
    cases hf
    exact zk_iret hx hb hr hlocks rfl hQ hw [] rfl (by decide) dX5_in_15
  · replace hf := zk_f c1 hf
    refine lv_iload_n hx hb dX5_in_5 rfl (lv_at hl 0 rfl) ?_
    refine lv_iload_n hx hb dX5_in_6 rfl (lv_at hl 2 rfl) ?_
    refine lv_icmp_gt (tgt := 14) hx hb dX5_in_7 (by decide) (fun c2 => ?_) (fun c2 => ?_)
    · replace hf := zk_t c2 hf
      refine lv_iconst (v := 0) hx hb dX5_in_14 (by decide) ?_
      cases hf
      exact zk_iret hx hb hr hlocks rfl hQ hw [] rfl (by decide) dX5_in_15
    · replace hf := zk_f c2 hf
      refine lv_iconst (v := 1) hx hb dX5_in_10 (by decide) ?_
      refine lv_goto (tgt := 15) hx hb dX5_in_11 (by decide) ?_
      cases hf
      exact zk_iret hx hb hr hlocks rfl hQ hw [] rfl (by decide) dX5_in_15
set_option maxHeartbeats 4000000 in
set_option maxRecDepth 100000 in
theorem kX5_has (l : Launch) (D : va_G) (cI cJ cO : ClassId) (N : Nat) (p0 : Int32) (p1 : Int32) (u : Int32) (hf : fX5_has N p0 p1 = some u) : CtI l yX5_has wsX5_has (zk_rm 0 0) D cI cJ cO [.int p0, .int p1] ([]) ([]) (u) := by
  refine zk_enter (cc := cX5_has) (maxL := 2) (ret := some .boolean) (own := RX5) (Qf := fun A => QwI D ([]) (u) A) (by decide) rfl rfl (Nat.le_of_ble_eq_true rfl) ?_
  intro p e s m args below meth c A Q H locs ls hC hQ hw hl
  obtain ⟨hx, hb, hml, hr, hts, hown, hlocks, hN, hK, hA⟩ := hC
  have hl : lv_has ls 2 [(0, .int p0), (1, .int p1)] := hl
  unfold fX5_has at hf
  refine lv_iload_n hx hb dX5_has_0 rfl (lv_at hl 0 rfl) ?_
  refine lv_iload_n hx hb dX5_has_1 rfl (lv_at hl 1 rfl) ?_
  refine lv_ishr hx hb dX5_has_2 ?_
  refine lv_iconst (v := 1) hx hb dX5_has_3 (by decide) ?_
  refine lv_iand hx hb dX5_has_4 ?_
  refine lv_iconst (v := 1) hx hb dX5_has_5 (by decide) ?_
  refine lv_icmp_ne (tgt := 13) hx hb dX5_has_6 (by decide) (fun c1 => ?_) (fun c1 => ?_)
  · replace hf := zk_f c1 hf
    refine lv_iconst (v := 0) hx hb dX5_has_13 (by decide) ?_
    cases hf
    exact zk_iret hx hb hr hlocks rfl hQ hw [] rfl (by decide) dX5_has_14
  · replace hf := zk_t c1 hf
    refine lv_iconst (v := 1) hx hb dX5_has_9 (by decide) ?_
    refine lv_goto (tgt := 14) hx hb dX5_has_10 (by decide) ?_
    cases hf
    exact zk_iret hx hb hr hlocks rfl hQ hw [] rfl (by decide) dX5_has_14
set_option maxHeartbeats 4000000 in
set_option maxRecDepth 100000 in
theorem kX5_ones (l : Launch) (D : va_G) (cI cJ cO : ClassId) (N : Nat) (p0 : Int32) (u : Int32) (hf : fX5_ones N p0 = some u) : CtI l yX5_ones wsX5_ones (zk_rm 0 0) D cI cJ cO [.int p0] ([]) ([]) (u) := by
  refine zk_enter (cc := cX5_ones) (maxL := 3) (ret := some .int) (own := RX5) (Qf := fun A => QwI D ([]) (u) A) (by decide) rfl rfl (Nat.le_of_ble_eq_true rfl) ?_
  intro p e s m args below meth c A Q H locs ls hC hQ hw hl
  obtain ⟨hx, hb, hml, hr, hts, hown, hlocks, hN, hK, hA⟩ := hC
  have hl : lv_has ls 3 [(0, .int p0)] := hl
  have b4 : ∀ (n4 : Nat), ∀ (x0 : Int32) (x1 : Int32) (x2 : Int32), fX5_ones_b4 N n4 x0 x1 x2 = some u → ∀ (H : Heap) (locs : List Loc) (ls : Array Slot), Wd D A s.heap ([]) H locs → lv_has ls 3 [(0, .int x0), (1, .int x1), (2, .int x2)] → W p l e (zk_rm 0 0) s m args below meth c H locs 0 0 Q (F0 m 4 ls []) := by
    intro n4
    induction n4 with
    | zero =>
      intro x0 x1 x2 hf
      exact zk_none hf
    | succ n4 ih4 =>
      intro x0 x1 x2 hf H locs ls hw hl
      rw [fX5_ones_b4] at hf
      refine lv_iload_n hx hb dX5_ones_4 rfl (lv_at hl 2 rfl) ?_
      refine lv_bipush (v := 11) hx hb dX5_ones_5 (by decide) ?_
      refine lv_icmp_ge (tgt := 24) hx hb dX5_ones_7 (by decide) (fun c1 => ?_) (fun c1 => ?_)
      · replace hf := zk_t c1 hf
        refine lv_iload_n hx hb dX5_ones_24 rfl (lv_at hl 1 rfl) ?_
        cases hf
        exact zk_iret hx hb hr hlocks rfl hQ hw [] rfl (by decide) dX5_ones_25
      · replace hf := zk_f c1 hf
        refine lv_iload_n hx hb dX5_ones_10 rfl (lv_at hl 1 rfl) ?_
        refine lv_iload_n hx hb dX5_ones_11 rfl (lv_at hl 0 rfl) ?_
        refine lv_iload_n hx hb dX5_ones_12 rfl (lv_at hl 2 rfl) ?_
        refine lv_ishr hx hb dX5_ones_13 ?_
        refine lv_iconst (v := 1) hx hb dX5_ones_14 (by decide) ?_
        refine lv_iand hx hb dX5_ones_15 ?_
        refine lv_iadd hx hb dX5_ones_16 ?_
        refine lv_istore_n (lv' := [(1, .int (x1 + ((x0 >>> (x2 &&& 31)) &&& (1 : Int32)))), (0, .int x0), (2, .int x2)]) hx hb dX5_ones_17 rfl hl (by decide) rfl (fun ls hl => ?_)
        refine lv_iinc (v := (x2 + (1 : Int32))) (lv' := [(2, .int (x2 + (1 : Int32))), (1, .int (x1 + ((x0 >>> (x2 &&& 31)) &&& (1 : Int32)))), (0, .int x0)]) hx hb dX5_ones_18 hl (k := 2) rfl rfl (by decide) rfl (fun ls hl => ?_)
        refine lv_goto (tgt := 4) hx hb dX5_ones_21 (by decide) ?_
        exact ih4 x0 (x1 + ((x0 >>> (x2 &&& 31)) &&& (1 : Int32))) (x2 + (1 : Int32)) hf H locs ls hw (lv_sub hl [2, 1, 0] rfl)
  unfold fX5_ones at hf
  refine lv_iconst (v := 0) hx hb dX5_ones_0 (by decide) ?_
  refine lv_istore_n (lv' := [(1, .int (0 : Int32)), (0, .int p0)]) hx hb dX5_ones_1 rfl hl (by decide) rfl (fun ls hl => ?_)
  refine lv_iconst (v := 0) hx hb dX5_ones_2 (by decide) ?_
  refine lv_istore_n (lv' := [(2, .int (0 : Int32)), (1, .int (0 : Int32)), (0, .int p0)]) hx hb dX5_ones_3 rfl hl (by decide) rfl (fun ls hl => ?_)
  exact b4 N p0 (0 : Int32) (0 : Int32) hf H locs ls hw (lv_sub hl [2, 1, 0] rfl)
set_option maxHeartbeats 4000000 in
set_option maxRecDepth 100000 in
theorem kX5_adds (l : Launch) (D : va_G) (cI cJ cO : ClassId) (N : Nat) (aM : Nat → Nat) (p0 : Int32) (p1 : Int32) (Mnow : Nat → Int32) (Mread : Nat → Int32) (Mpast : Nat → Int32) (Mchanges : Int32) (Mtext : Nat → Int32) (Mletters : Int32) (Mheads : Nat → Int32) (Msets : Nat → Int32) (Mballots : Int32) (Mranks : Nat → Int32) (Mloads : Nat → Int64) (Mbelow : Int64) (Morder : Nat → Int32) (Melected : Int32) (Mmembers : Int32) (Mabove : Nat → Int64) (Munder : Nat → Int64) (Mspot : Int32) (Mvalue : Int32) (u : (Nat → Int32)) (hf : fX5_adds N p0 p1 Mnow = some u) : CtV l yX5_adds wsX5_adds (zk_rm 0 0) D cI cJ cO [.ref (aM 0), .int p0, .int p1] (zwM cI cJ aM Mnow Mread Mpast Mchanges Mtext Mletters Mheads Msets Mballots Mranks Mloads Mbelow Morder Melected Mmembers Mabove Munder Mspot Mvalue) (zwM cI cJ aM u Mread Mpast Mchanges Mtext Mletters Mheads Msets Mballots Mranks Mloads Mbelow Morder Melected Mmembers Mabove Munder Mspot Mvalue) := by
  refine zk_enter (cc := cX5_adds) (maxL := 3) (ret := none) (own := RX5) (Qf := fun A => QwV D (zwM cI cJ aM u Mread Mpast Mchanges Mtext Mletters Mheads Msets Mballots Mranks Mloads Mbelow Morder Melected Mmembers Mabove Munder Mspot Mvalue) A) (by decide) rfl rfl (Nat.le_of_ble_eq_true rfl) ?_
  intro p e s m args below meth c A Q H locs ls hC hQ hw hl
  obtain ⟨hx, hb, hml, hr, hts, hown, hlocks, hN, hK, hA⟩ := hC
  have hl : lv_has ls 3 [(0, .ref (aM 0)), (1, .int p0), (2, .int p1)] := hl
  have hiX5 : ∀ w ∈ u_ws RX5 TX5 19, w ∈ wsX5_adds := by decide +kernel
  have hq0 := hts (.fieldLink RX5 7 "LoadCouncilModel" "now" "[I") (by decide +kernel)
  unfold fX5_adds at hf
  refine lv_aload_n hx hb dX5_adds_0 rfl (lv_at hl 0 rfl) ?_
  refine va_get (D := D) (ci := 5) (v := .ref (aM 1)) (C := RX5) (T := TX5) (N := 19) hx hb hts hiX5 hown hK hw.1 0 rfl rfl 0 (by decide) hq0 (fun _ h9 => h9) rfl dX5_adds_1 ?_
  refine lv_iconst (v := 2) hx hb dX5_adds_4 (by decide) ?_
  refine lv_aload_n hx hb dX5_adds_5 rfl (lv_at hl 0 rfl) ?_
  refine va_get (D := D) (ci := 5) (v := .ref (aM 1)) (C := RX5) (T := TX5) (N := 19) hx hb hts hiX5 hown hK hw.1 0 rfl rfl 0 (by decide) hq0 (fun _ h9 => h9) rfl dX5_adds_6 ?_
  refine lv_iconst (v := 1) hx hb dX5_adds_9 (by decide) ?_
  refine zk_iald hx hb hK hw 1 rfl (zk_in (by decide)) (j := 1) rfl dX5_adds_10 ?_
  refine lv_iadd hx hb dX5_adds_11 ?_
  refine lv_iload_n hx hb dX5_adds_12 rfl (lv_at hl 1 rfl) ?_
  obtain ⟨h1, hf⟩ := zk_ck hf
  refine zk_iast hx hb hK hw 1 rfl h1 (j := ((2 : Int32) + (Mnow 1)).toNatClampNeg) rfl dX5_adds_13 (fun H locs hw => ?_)
  have hw : Wd D A s.heap (zwM cI cJ aM (upd Mnow (((2 : Int32) + (Mnow 1)).toNatClampNeg) p0) Mread Mpast Mchanges Mtext Mletters Mheads Msets Mballots Mranks Mloads Mbelow Morder Melected Mmembers Mabove Munder Mspot Mvalue) H locs := hw
  refine lv_aload_n hx hb dX5_adds_14 rfl (lv_at hl 0 rfl) ?_
  refine va_get (D := D) (ci := 5) (v := .ref (aM 1)) (C := RX5) (T := TX5) (N := 19) hx hb hts hiX5 hown hK hw.1 0 rfl rfl 0 (by decide) hq0 (fun _ h9 => h9) rfl dX5_adds_15 ?_
  refine lv_bipush (v := 12) hx hb dX5_adds_18 (by decide) ?_
  refine lv_aload_n hx hb dX5_adds_20 rfl (lv_at hl 0 rfl) ?_
  refine va_get (D := D) (ci := 5) (v := .ref (aM 1)) (C := RX5) (T := TX5) (N := 19) hx hb hts hiX5 hown hK hw.1 0 rfl rfl 0 (by decide) hq0 (fun _ h9 => h9) rfl dX5_adds_21 ?_
  refine lv_iconst (v := 1) hx hb dX5_adds_24 (by decide) ?_
  refine zk_iald hx hb hK hw 1 rfl (zk_in (by decide)) (j := 1) rfl dX5_adds_25 ?_
  refine lv_iadd hx hb dX5_adds_26 ?_
  refine lv_iload_n hx hb dX5_adds_27 rfl (lv_at hl 2 rfl) ?_
  obtain ⟨h2, hf⟩ := zk_ck hf
  refine zk_iast hx hb hK hw 1 rfl h2 (j := ((12 : Int32) + ((upd Mnow (((2 : Int32) + (Mnow 1)).toNatClampNeg) p0) 1)).toNatClampNeg) rfl dX5_adds_28 (fun H locs hw => ?_)
  have hw : Wd D A s.heap (zwM cI cJ aM (upd (upd Mnow (((2 : Int32) + (Mnow 1)).toNatClampNeg) p0) (((12 : Int32) + ((upd Mnow (((2 : Int32) + (Mnow 1)).toNatClampNeg) p0) 1)).toNatClampNeg) p1) Mread Mpast Mchanges Mtext Mletters Mheads Msets Mballots Mranks Mloads Mbelow Morder Melected Mmembers Mabove Munder Mspot Mvalue) H locs := hw
  refine lv_aload_n hx hb dX5_adds_29 rfl (lv_at hl 0 rfl) ?_
  refine va_get (D := D) (ci := 5) (v := .ref (aM 1)) (C := RX5) (T := TX5) (N := 19) hx hb hts hiX5 hown hK hw.1 0 rfl rfl 0 (by decide) hq0 (fun _ h9 => h9) rfl dX5_adds_30 ?_
  refine lv_iconst (v := 1) hx hb dX5_adds_33 (by decide) ?_
  refine lv_dup2_11 hx hb dX5_adds_34 rfl rfl ?_
  refine zk_iald hx hb hK hw 1 rfl (zk_in (by decide)) (j := 1) rfl dX5_adds_35 ?_
  refine lv_iconst (v := 1) hx hb dX5_adds_36 (by decide) ?_
  refine lv_iadd hx hb dX5_adds_37 ?_
  refine zk_iast hx hb hK hw 1 rfl (zk_in (by decide)) (j := 1) rfl dX5_adds_38 (fun H locs hw => ?_)
  have hw : Wd D A s.heap (zwM cI cJ aM (upd (upd (upd Mnow (((2 : Int32) + (Mnow 1)).toNatClampNeg) p0) (((12 : Int32) + ((upd Mnow (((2 : Int32) + (Mnow 1)).toNatClampNeg) p0) 1)).toNatClampNeg) p1) 1 (((upd (upd Mnow (((2 : Int32) + (Mnow 1)).toNatClampNeg) p0) (((12 : Int32) + ((upd Mnow (((2 : Int32) + (Mnow 1)).toNatClampNeg) p0) 1)).toNatClampNeg) p1) 1) + (1 : Int32))) Mread Mpast Mchanges Mtext Mletters Mheads Msets Mballots Mranks Mloads Mbelow Morder Melected Mmembers Mabove Munder Mspot Mvalue) H locs := hw
  cases hf
  exact zk_vret hx hb hr hlocks hQ hw [0, 1, 2, 3, 4, 5, 6, 7, 8, 9, 10, 11] rfl (by decide) dX5_adds_39
set_option maxHeartbeats 4000000 in
set_option maxRecDepth 100000 in
theorem kX5_isCandidate (l : Launch) (D : va_G) (cI cJ cO : ClassId) (N : Nat) (aM : Nat → Nat) (p0 : Int32) (Mnow : Nat → Int32) (Mread : Nat → Int32) (Mpast : Nat → Int32) (Mchanges : Int32) (Mtext : Nat → Int32) (Mletters : Int32) (Mheads : Nat → Int32) (Msets : Nat → Int32) (Mballots : Int32) (Mranks : Nat → Int32) (Mloads : Nat → Int64) (Mbelow : Int64) (Morder : Nat → Int32) (Melected : Int32) (Mmembers : Int32) (Mabove : Nat → Int64) (Munder : Nat → Int64) (Mspot : Int32) (Mvalue : Int32) (u : Int32) (hf : fX5_isCandidate N p0 Mnow = some u) : CtI l yX5_isCandidate wsX5_isCandidate (zk_rm 1 22) D cI cJ cO [.ref (aM 0), .int p0] (zwM cI cJ aM Mnow Mread Mpast Mchanges Mtext Mletters Mheads Msets Mballots Mranks Mloads Mbelow Morder Melected Mmembers Mabove Munder Mspot Mvalue) (zwM cI cJ aM Mnow Mread Mpast Mchanges Mtext Mletters Mheads Msets Mballots Mranks Mloads Mbelow Morder Melected Mmembers Mabove Munder Mspot Mvalue) (u) := by
  refine zk_enter (cc := cX5_isCandidate) (maxL := 2) (ret := some .boolean) (own := RX5) (Qf := fun A => QwI D (zwM cI cJ aM Mnow Mread Mpast Mchanges Mtext Mletters Mheads Msets Mballots Mranks Mloads Mbelow Morder Melected Mmembers Mabove Munder Mspot Mvalue) (u) A) (by decide) rfl rfl (Nat.le_of_ble_eq_true rfl) ?_
  intro p e s m args below meth c A Q H locs ls hC hQ hw hl
  obtain ⟨hx, hb, hml, hr, hts, hown, hlocks, hN, hK, hA⟩ := hC
  have hl : lv_has ls 2 [(0, .ref (aM 0)), (1, .int p0)] := hl
  have hiX5 : ∀ w ∈ u_ws RX5 TX5 19, w ∈ wsX5_isCandidate := by decide +kernel
  have hq0 := hts (.fieldLink RX5 7 "LoadCouncilModel" "now" "[I") (by decide +kernel)
  unfold fX5_isCandidate at hf
  refine lv_iload_n hx hb dX5_isCandidate_0 rfl (lv_at hl 1 rfl) ?_
  refine lv_iconst (v := 0) hx hb dX5_isCandidate_1 (by decide) ?_
  refine lv_aload_n hx hb dX5_isCandidate_2 rfl (lv_at hl 0 rfl) ?_
  refine va_get (D := D) (ci := 5) (v := .ref (aM 1)) (C := RX5) (T := TX5) (N := 19) hx hb hts hiX5 hown hK hw.1 0 rfl rfl 0 (by decide) hq0 (fun _ h9 => h9) rfl dX5_isCandidate_3 ?_
  refine lv_iconst (v := 0) hx hb dX5_isCandidate_6 (by decide) ?_
  refine zk_iald hx hb hK hw 1 rfl (zk_in (by decide)) (j := 0) rfl dX5_isCandidate_7 ?_
  refine lv_iconst (v := 1) hx hb dX5_isCandidate_8 (by decide) ?_
  refine lv_isub hx hb dX5_isCandidate_9 ?_
  obtain ⟨u1, e2, hf⟩ := zk_bd hf
  refine zk_calli (wc := []) (wr := zwM cI cJ aM Mnow Mread Mpast Mchanges Mtext Mletters Mheads Msets Mballots Mranks Mloads Mbelow Morder Melected Mmembers Mabove Munder Mspot Mvalue) hw hA [] [0, 1, 2, 3, 4, 5, 6, 7, 8, 9, 10, 11] rfl rfl (by decide) (by decide) (va_runS (As := [.int p0, .int (0 : Int32), .int ((Mnow 0) - (1 : Int32))]) (rest := []) ⟨hx, hb, hml, hown, hts⟩ (kX5_in l D cI cJ cO N p0 (0 : Int32) ((Mnow 0) - (1 : Int32)) u1 e2 H.size) (va_cwS 3 hts gX5_isCandidate_X5_in rfl rfl rfl (by decide +kernel) ⟨Nat.le_of_ble_eq_true rfl, Nat.le_of_ble_eq_true rfl⟩) (zk_preS (wc := []) hN hK hw [] rfl (by decide)) rfl rfl hl.1 rfl (lv_room (Nat.le_of_ble_eq_true rfl)) dX5_isCandidate_10 ⟨Nat.zero_le _, Nat.zero_le _⟩) (fun H locs hw => ?_)
  have hw : Wd D A s.heap (zwM cI cJ aM Mnow Mread Mpast Mchanges Mtext Mletters Mheads Msets Mballots Mranks Mloads Mbelow Morder Melected Mmembers Mabove Munder Mspot Mvalue) H locs := hw
  obtain ⟨h3, hf⟩ := zk_ck hf
  cases hf
  exact zk_iret hx hb hr hlocks (zk_nb h3) hQ hw [0, 1, 2, 3, 4, 5, 6, 7, 8, 9, 10, 11] rfl (by decide) dX5_isCandidate_13
set_option maxHeartbeats 4000000 in
set_option maxRecDepth 100000 in
theorem kX5_isBallot (l : Launch) (D : va_G) (cI cJ cO : ClassId) (N : Nat) (aM : Nat → Nat) (p0 : Int32) (Mnow : Nat → Int32) (Mread : Nat → Int32) (Mpast : Nat → Int32) (Mchanges : Int32) (Mtext : Nat → Int32) (Mletters : Int32) (Mheads : Nat → Int32) (Msets : Nat → Int32) (Mballots : Int32) (Mranks : Nat → Int32) (Mloads : Nat → Int64) (Mbelow : Int64) (Morder : Nat → Int32) (Melected : Int32) (Mmembers : Int32) (Mabove : Nat → Int64) (Munder : Nat → Int64) (Mspot : Int32) (Mvalue : Int32) (u : Int32) (hf : fX5_isBallot N p0 Mnow = some u) : CtI l yX5_isBallot wsX5_isBallot (zk_rm 1 22) D cI cJ cO [.ref (aM 0), .int p0] (zwM cI cJ aM Mnow Mread Mpast Mchanges Mtext Mletters Mheads Msets Mballots Mranks Mloads Mbelow Morder Melected Mmembers Mabove Munder Mspot Mvalue) (zwM cI cJ aM Mnow Mread Mpast Mchanges Mtext Mletters Mheads Msets Mballots Mranks Mloads Mbelow Morder Melected Mmembers Mabove Munder Mspot Mvalue) (u) := by
  refine zk_enter (cc := cX5_isBallot) (maxL := 2) (ret := some .boolean) (own := RX5) (Qf := fun A => QwI D (zwM cI cJ aM Mnow Mread Mpast Mchanges Mtext Mletters Mheads Msets Mballots Mranks Mloads Mbelow Morder Melected Mmembers Mabove Munder Mspot Mvalue) (u) A) (by decide) rfl rfl (Nat.le_of_ble_eq_true rfl) ?_
  intro p e s m args below meth c A Q H locs ls hC hQ hw hl
  obtain ⟨hx, hb, hml, hr, hts, hown, hlocks, hN, hK, hA⟩ := hC
  have hl : lv_has ls 2 [(0, .ref (aM 0)), (1, .int p0)] := hl
  have hiX5 : ∀ w ∈ u_ws RX5 TX5 19, w ∈ wsX5_isBallot := by decide +kernel
  have hq0 := hts (.fieldLink RX5 7 "LoadCouncilModel" "now" "[I") (by decide +kernel)
  unfold fX5_isBallot at hf
  refine lv_iload_n hx hb dX5_isBallot_0 rfl (lv_at hl 1 rfl) ?_
  refine lv_iconst (v := 0) hx hb dX5_isBallot_1 (by decide) ?_
  refine lv_aload_n hx hb dX5_isBallot_2 rfl (lv_at hl 0 rfl) ?_
  refine va_get (D := D) (ci := 5) (v := .ref (aM 1)) (C := RX5) (T := TX5) (N := 19) hx hb hts hiX5 hown hK hw.1 0 rfl rfl 0 (by decide) hq0 (fun _ h9 => h9) rfl dX5_isBallot_3 ?_
  refine lv_iconst (v := 1) hx hb dX5_isBallot_6 (by decide) ?_
  refine zk_iald hx hb hK hw 1 rfl (zk_in (by decide)) (j := 1) rfl dX5_isBallot_7 ?_
  refine lv_iconst (v := 1) hx hb dX5_isBallot_8 (by decide) ?_
  refine lv_isub hx hb dX5_isBallot_9 ?_
  obtain ⟨u1, e2, hf⟩ := zk_bd hf
  refine zk_calli (wc := []) (wr := zwM cI cJ aM Mnow Mread Mpast Mchanges Mtext Mletters Mheads Msets Mballots Mranks Mloads Mbelow Morder Melected Mmembers Mabove Munder Mspot Mvalue) hw hA [] [0, 1, 2, 3, 4, 5, 6, 7, 8, 9, 10, 11] rfl rfl (by decide) (by decide) (va_runS (As := [.int p0, .int (0 : Int32), .int ((Mnow 1) - (1 : Int32))]) (rest := []) ⟨hx, hb, hml, hown, hts⟩ (kX5_in l D cI cJ cO N p0 (0 : Int32) ((Mnow 1) - (1 : Int32)) u1 e2 H.size) (va_cwS 3 hts gX5_isBallot_X5_in rfl rfl rfl (by decide +kernel) ⟨Nat.le_of_ble_eq_true rfl, Nat.le_of_ble_eq_true rfl⟩) (zk_preS (wc := []) hN hK hw [] rfl (by decide)) rfl rfl hl.1 rfl (lv_room (Nat.le_of_ble_eq_true rfl)) dX5_isBallot_10 ⟨Nat.zero_le _, Nat.zero_le _⟩) (fun H locs hw => ?_)
  have hw : Wd D A s.heap (zwM cI cJ aM Mnow Mread Mpast Mchanges Mtext Mletters Mheads Msets Mballots Mranks Mloads Mbelow Morder Melected Mmembers Mabove Munder Mspot Mvalue) H locs := hw
  obtain ⟨h3, hf⟩ := zk_ck hf
  cases hf
  exact zk_iret hx hb hr hlocks (zk_nb h3) hQ hw [0, 1, 2, 3, 4, 5, 6, 7, 8, 9, 10, 11] rfl (by decide) dX5_isBallot_13
set_option maxHeartbeats 4000000 in
set_option maxRecDepth 100000 in
theorem kX5_isSet (l : Launch) (D : va_G) (cI cJ cO : ClassId) (N : Nat) (aM : Nat → Nat) (p0 : Int32) (Mnow : Nat → Int32) (Mread : Nat → Int32) (Mpast : Nat → Int32) (Mchanges : Int32) (Mtext : Nat → Int32) (Mletters : Int32) (Mheads : Nat → Int32) (Msets : Nat → Int32) (Mballots : Int32) (Mranks : Nat → Int32) (Mloads : Nat → Int64) (Mbelow : Int64) (Morder : Nat → Int32) (Melected : Int32) (Mmembers : Int32) (Mabove : Nat → Int64) (Munder : Nat → Int64) (Mspot : Int32) (Mvalue : Int32) (u : Int32) (hf : fX5_isSet N p0 Mnow = some u) : CtI l yX5_isSet wsX5_isSet (zk_rm 1 22) D cI cJ cO [.ref (aM 0), .int p0] (zwM cI cJ aM Mnow Mread Mpast Mchanges Mtext Mletters Mheads Msets Mballots Mranks Mloads Mbelow Morder Melected Mmembers Mabove Munder Mspot Mvalue) (zwM cI cJ aM Mnow Mread Mpast Mchanges Mtext Mletters Mheads Msets Mballots Mranks Mloads Mbelow Morder Melected Mmembers Mabove Munder Mspot Mvalue) (u) := by
  refine zk_enter (cc := cX5_isSet) (maxL := 2) (ret := some .boolean) (own := RX5) (Qf := fun A => QwI D (zwM cI cJ aM Mnow Mread Mpast Mchanges Mtext Mletters Mheads Msets Mballots Mranks Mloads Mbelow Morder Melected Mmembers Mabove Munder Mspot Mvalue) (u) A) (by decide) rfl rfl (Nat.le_of_ble_eq_true rfl) ?_
  intro p e s m args below meth c A Q H locs ls hC hQ hw hl
  obtain ⟨hx, hb, hml, hr, hts, hown, hlocks, hN, hK, hA⟩ := hC
  have hl : lv_has ls 2 [(0, .ref (aM 0)), (1, .int p0)] := hl
  have hiX5 : ∀ w ∈ u_ws RX5 TX5 19, w ∈ wsX5_isSet := by decide +kernel
  have hq0 := hts (.fieldLink RX5 7 "LoadCouncilModel" "now" "[I") (by decide +kernel)
  unfold fX5_isSet at hf
  refine lv_iload_n hx hb dX5_isSet_0 rfl (lv_at hl 1 rfl) ?_
  refine lv_iconst (v := 1) hx hb dX5_isSet_1 (by decide) ?_
  refine lv_iconst (v := 1) hx hb dX5_isSet_2 (by decide) ?_
  refine lv_aload_n hx hb dX5_isSet_3 rfl (lv_at hl 0 rfl) ?_
  refine va_get (D := D) (ci := 5) (v := .ref (aM 1)) (C := RX5) (T := TX5) (N := 19) hx hb hts hiX5 hown hK hw.1 0 rfl rfl 0 (by decide) hq0 (fun _ h9 => h9) rfl dX5_isSet_4 ?_
  refine lv_iconst (v := 0) hx hb dX5_isSet_7 (by decide) ?_
  refine zk_iald hx hb hK hw 1 rfl (zk_in (by decide)) (j := 0) rfl dX5_isSet_8 ?_
  refine lv_ishl hx hb dX5_isSet_9 ?_
  refine lv_iconst (v := 1) hx hb dX5_isSet_10 (by decide) ?_
  refine lv_isub hx hb dX5_isSet_11 ?_
  obtain ⟨u1, e2, hf⟩ := zk_bd hf
  refine zk_calli (wc := []) (wr := zwM cI cJ aM Mnow Mread Mpast Mchanges Mtext Mletters Mheads Msets Mballots Mranks Mloads Mbelow Morder Melected Mmembers Mabove Munder Mspot Mvalue) hw hA [] [0, 1, 2, 3, 4, 5, 6, 7, 8, 9, 10, 11] rfl rfl (by decide) (by decide) (va_runS (As := [.int p0, .int (1 : Int32), .int (((1 : Int32) <<< ((Mnow 0) &&& 31)) - (1 : Int32))]) (rest := []) ⟨hx, hb, hml, hown, hts⟩ (kX5_in l D cI cJ cO N p0 (1 : Int32) (((1 : Int32) <<< ((Mnow 0) &&& 31)) - (1 : Int32)) u1 e2 H.size) (va_cwS 3 hts gX5_isSet_X5_in rfl rfl rfl (by decide +kernel) ⟨Nat.le_of_ble_eq_true rfl, Nat.le_of_ble_eq_true rfl⟩) (zk_preS (wc := []) hN hK hw [] rfl (by decide)) rfl rfl hl.1 rfl (lv_room (Nat.le_of_ble_eq_true rfl)) dX5_isSet_12 ⟨Nat.zero_le _, Nat.zero_le _⟩) (fun H locs hw => ?_)
  have hw : Wd D A s.heap (zwM cI cJ aM Mnow Mread Mpast Mchanges Mtext Mletters Mheads Msets Mballots Mranks Mloads Mbelow Morder Melected Mmembers Mabove Munder Mspot Mvalue) H locs := hw
  obtain ⟨h3, hf⟩ := zk_ck hf
  cases hf
  exact zk_iret hx hb hr hlocks (zk_nb h3) hQ hw [0, 1, 2, 3, 4, 5, 6, 7, 8, 9, 10, 11] rfl (by decide) dX5_isSet_15
set_option maxHeartbeats 4000000 in
set_option maxRecDepth 100000 in
theorem kX5_isLaw (l : Launch) (D : va_G) (cI cJ cO : ClassId) (N : Nat) (p0 : Int32) (u : Int32) (hf : fX5_isLaw N p0 = some u) : CtI l yX5_isLaw wsX5_isLaw (zk_rm 1 22) D cI cJ cO [.int p0] ([]) ([]) (u) := by
  refine zk_enter (cc := cX5_isLaw) (maxL := 1) (ret := some .boolean) (own := RX5) (Qf := fun A => QwI D ([]) (u) A) (by decide) rfl rfl (Nat.le_of_ble_eq_true rfl) ?_
  intro p e s m args below meth c A Q H locs ls hC hQ hw hl
  obtain ⟨hx, hb, hml, hr, hts, hown, hlocks, hN, hK, hA⟩ := hC
  have hl : lv_has ls 1 [(0, .int p0)] := hl
  unfold fX5_isLaw at hf
  refine lv_iload_n hx hb dX5_isLaw_0 rfl (lv_at hl 0 rfl) ?_
  refine lv_iconst (v := 0) hx hb dX5_isLaw_1 (by decide) ?_
  refine lv_iconst (v := 3) hx hb dX5_isLaw_2 (by decide) ?_
  obtain ⟨u1, e2, hf⟩ := zk_bd hf
  refine zk_calli (wc := []) (wr := []) hw hA [] [] rfl rfl (by decide) (by decide) (va_runS (As := [.int p0, .int (0 : Int32), .int (3 : Int32)]) (rest := []) ⟨hx, hb, hml, hown, hts⟩ (kX5_in l D cI cJ cO N p0 (0 : Int32) (3 : Int32) u1 e2 H.size) (va_cwS 3 hts gX5_isLaw_X5_in rfl rfl rfl (by decide +kernel) ⟨Nat.le_of_ble_eq_true rfl, Nat.le_of_ble_eq_true rfl⟩) (zk_preS (wc := []) hN hK hw [] rfl (by decide)) rfl rfl hl.1 rfl (lv_room (Nat.le_of_ble_eq_true rfl)) dX5_isLaw_3 ⟨Nat.zero_le _, Nat.zero_le _⟩) (fun H locs hw => ?_)
  have hw : Wd D A s.heap ([]) H locs := hw
  obtain ⟨h3, hf⟩ := zk_ck hf
  cases hf
  exact zk_iret hx hb hr hlocks (zk_nb h3) hQ hw [] rfl (by decide) dX5_isLaw_6
set_option maxHeartbeats 4000000 in
set_option maxRecDepth 100000 in
theorem kX5_allVoters (l : Launch) (D : va_G) (cI cJ cO : ClassId) (N : Nat) (aM : Nat → Nat) (Mnow : Nat → Int32) (Mread : Nat → Int32) (Mpast : Nat → Int32) (Mchanges : Int32) (Mtext : Nat → Int32) (Mletters : Int32) (Mheads : Nat → Int32) (Msets : Nat → Int32) (Mballots : Int32) (Mranks : Nat → Int32) (Mloads : Nat → Int64) (Mbelow : Int64) (Morder : Nat → Int32) (Melected : Int32) (Mmembers : Int32) (Mabove : Nat → Int64) (Munder : Nat → Int64) (Mspot : Int32) (Mvalue : Int32) (u : Int32) (hf : fX5_allVoters N Mnow = some u) : CtI l yX5_allVoters wsX5_allVoters (zk_rm 0 0) D cI cJ cO [.ref (aM 0)] (zwM cI cJ aM Mnow Mread Mpast Mchanges Mtext Mletters Mheads Msets Mballots Mranks Mloads Mbelow Morder Melected Mmembers Mabove Munder Mspot Mvalue) (zwM cI cJ aM Mnow Mread Mpast Mchanges Mtext Mletters Mheads Msets Mballots Mranks Mloads Mbelow Morder Melected Mmembers Mabove Munder Mspot Mvalue) (u) := by
  refine zk_enter (cc := cX5_allVoters) (maxL := 3) (ret := some .int) (own := RX5) (Qf := fun A => QwI D (zwM cI cJ aM Mnow Mread Mpast Mchanges Mtext Mletters Mheads Msets Mballots Mranks Mloads Mbelow Morder Melected Mmembers Mabove Munder Mspot Mvalue) (u) A) (by decide) rfl rfl (Nat.le_of_ble_eq_true rfl) ?_
  intro p e s m args below meth c A Q H locs ls hC hQ hw hl
  obtain ⟨hx, hb, hml, hr, hts, hown, hlocks, hN, hK, hA⟩ := hC
  have hl : lv_has ls 3 [(0, .ref (aM 0))] := hl
  have hiX5 : ∀ w ∈ u_ws RX5 TX5 19, w ∈ wsX5_allVoters := by decide +kernel
  have hq0 := hts (.fieldLink RX5 7 "LoadCouncilModel" "now" "[I") (by decide +kernel)
  have b4 : ∀ (n4 : Nat), ∀ (x1 : Int32) (x2 : Int32), fX5_allVoters_b4 N n4 x1 x2 Mnow = some u → ∀ (H : Heap) (locs : List Loc) (ls : Array Slot), Wd D A s.heap (zwM cI cJ aM Mnow Mread Mpast Mchanges Mtext Mletters Mheads Msets Mballots Mranks Mloads Mbelow Morder Melected Mmembers Mabove Munder Mspot Mvalue) H locs → lv_has ls 3 [(0, .ref (aM 0)), (1, .int x1), (2, .int x2)] → W p l e (zk_rm 0 0) s m args below meth c H locs 0 0 Q (F0 m 4 ls []) := by
    intro n4
    induction n4 with
    | zero =>
      intro x1 x2 hf
      exact zk_none hf
    | succ n4 ih4 =>
      intro x1 x2 hf H locs ls hw hl
      rw [fX5_allVoters_b4] at hf
      refine lv_iload_n hx hb dX5_allVoters_4 rfl (lv_at hl 2 rfl) ?_
      refine lv_aload_n hx hb dX5_allVoters_5 rfl (lv_at hl 0 rfl) ?_
      refine va_get (D := D) (ci := 5) (v := .ref (aM 1)) (C := RX5) (T := TX5) (N := 19) hx hb hts hiX5 hown hK hw.1 0 rfl rfl 0 (by decide) hq0 (fun _ h9 => h9) rfl dX5_allVoters_6 ?_
      refine lv_iconst (v := 1) hx hb dX5_allVoters_9 (by decide) ?_
      refine zk_iald hx hb hK hw 1 rfl (zk_in (by decide)) (j := 1) rfl dX5_allVoters_10 ?_
      refine lv_icmp_ge (tgt := 31) hx hb dX5_allVoters_11 (by decide) (fun c1 => ?_) (fun c1 => ?_)
      · replace hf := zk_t c1 hf
        refine lv_iload_n hx hb dX5_allVoters_31 rfl (lv_at hl 1 rfl) ?_
        cases hf
        exact zk_iret hx hb hr hlocks rfl hQ hw [0, 1, 2, 3, 4, 5, 6, 7, 8, 9, 10, 11] rfl (by decide) dX5_allVoters_32
      · replace hf := zk_f c1 hf
        refine lv_iload_n hx hb dX5_allVoters_14 rfl (lv_at hl 1 rfl) ?_
        refine lv_aload_n hx hb dX5_allVoters_15 rfl (lv_at hl 0 rfl) ?_
        refine va_get (D := D) (ci := 5) (v := .ref (aM 1)) (C := RX5) (T := TX5) (N := 19) hx hb hts hiX5 hown hK hw.1 0 rfl rfl 0 (by decide) hq0 (fun _ h9 => h9) rfl dX5_allVoters_16 ?_
        refine lv_iconst (v := 2) hx hb dX5_allVoters_19 (by decide) ?_
        refine lv_iload_n hx hb dX5_allVoters_20 rfl (lv_at hl 2 rfl) ?_
        refine lv_iadd hx hb dX5_allVoters_21 ?_
        obtain ⟨h2, hf⟩ := zk_ck hf
        refine zk_iald hx hb hK hw 1 rfl h2 (j := ((2 : Int32) + x2).toNatClampNeg) rfl dX5_allVoters_22 ?_
        refine lv_iadd hx hb dX5_allVoters_23 ?_
        refine lv_istore_n (lv' := [(1, .int (x1 + (Mnow (((2 : Int32) + x2).toNatClampNeg)))), (0, .ref (aM 0)), (2, .int x2)]) hx hb dX5_allVoters_24 rfl hl (by decide) rfl (fun ls hl => ?_)
        refine lv_iinc (v := (x2 + (1 : Int32))) (lv' := [(2, .int (x2 + (1 : Int32))), (1, .int (x1 + (Mnow (((2 : Int32) + x2).toNatClampNeg)))), (0, .ref (aM 0))]) hx hb dX5_allVoters_25 hl (k := 2) rfl rfl (by decide) rfl (fun ls hl => ?_)
        refine lv_goto (tgt := 4) hx hb dX5_allVoters_28 (by decide) ?_
        exact ih4 (x1 + (Mnow (((2 : Int32) + x2).toNatClampNeg))) (x2 + (1 : Int32)) hf H locs ls hw (lv_sub hl [2, 1, 0] rfl)
  unfold fX5_allVoters at hf
  refine lv_iconst (v := 0) hx hb dX5_allVoters_0 (by decide) ?_
  refine lv_istore_n (lv' := [(1, .int (0 : Int32)), (0, .ref (aM 0))]) hx hb dX5_allVoters_1 rfl hl (by decide) rfl (fun ls hl => ?_)
  refine lv_iconst (v := 0) hx hb dX5_allVoters_2 (by decide) ?_
  refine lv_istore_n (lv' := [(2, .int (0 : Int32)), (1, .int (0 : Int32)), (0, .ref (aM 0))]) hx hb dX5_allVoters_3 rfl hl (by decide) rfl (fun ls hl => ?_)
  exact b4 N (0 : Int32) (0 : Int32) hf H locs ls hw (lv_sub hl [2, 1, 0] rfl)
set_option maxHeartbeats 4000000 in
set_option maxRecDepth 100000 in
theorem kX5_write (l : Launch) (D : va_G) (cI cJ cO : ClassId) (N : Nat) (aM : Nat → Nat) (p0 : Int32) (Mnow : Nat → Int32) (Mread : Nat → Int32) (Mpast : Nat → Int32) (Mchanges : Int32) (Mtext : Nat → Int32) (Mletters : Int32) (Mheads : Nat → Int32) (Msets : Nat → Int32) (Mballots : Int32) (Mranks : Nat → Int32) (Mloads : Nat → Int64) (Mbelow : Int64) (Morder : Nat → Int32) (Melected : Int32) (Mmembers : Int32) (Mabove : Nat → Int64) (Munder : Nat → Int64) (Mspot : Int32) (Mvalue : Int32) (u : Int32 × (Nat → Int32) × (Int32)) (hf : fX5_write N p0 Mtext Mletters = some u) : CtI l yX5_write wsX5_write (zk_rm 1 22) D cI cJ cO [.ref (aM 0), .int p0] (zwM cI cJ aM Mnow Mread Mpast Mchanges Mtext Mletters Mheads Msets Mballots Mranks Mloads Mbelow Morder Melected Mmembers Mabove Munder Mspot Mvalue) (zwM cI cJ aM Mnow Mread Mpast Mchanges u.2.1 u.2.2 Mheads Msets Mballots Mranks Mloads Mbelow Morder Melected Mmembers Mabove Munder Mspot Mvalue) (u.1) := by
  refine zk_enter (cc := cX5_write) (maxL := 2) (ret := some .int) (own := RX5) (Qf := fun A => QwI D (zwM cI cJ aM Mnow Mread Mpast Mchanges u.2.1 u.2.2 Mheads Msets Mballots Mranks Mloads Mbelow Morder Melected Mmembers Mabove Munder Mspot Mvalue) (u.1) A) (by decide) rfl rfl (Nat.le_of_ble_eq_true rfl) ?_
  intro p e s m args below meth c A Q H locs ls hC hQ hw hl
  obtain ⟨hx, hb, hml, hr, hts, hown, hlocks, hN, hK, hA⟩ := hC
  have hl : lv_has ls 2 [(0, .ref (aM 0)), (1, .int p0)] := hl
  have hiX5 : ∀ w ∈ u_ws RX5 TX5 19, w ∈ wsX5_write := by decide +kernel
  have hq0 := hts (.fieldLink RX5 52 "LoadCouncilModel" "letters" "I") (by decide +kernel)
  have hq1 := hts (.fieldLink RX5 19 "LoadCouncilModel" "text" "[I") (by decide +kernel)
  unfold fX5_write at hf
  refine lv_iload_n hx hb dX5_write_0 rfl (lv_at hl 1 rfl) ?_
  refine lv_bipush (v := 32) hx hb dX5_write_1 (by decide) ?_
  refine lv_bipush (v := 126) hx hb dX5_write_3 (by decide) ?_
  obtain ⟨u1, e2, hf⟩ := zk_bd hf
  refine zk_calli (wc := []) (wr := zwM cI cJ aM Mnow Mread Mpast Mchanges Mtext Mletters Mheads Msets Mballots Mranks Mloads Mbelow Morder Melected Mmembers Mabove Munder Mspot Mvalue) hw hA [] [0, 1, 2, 3, 4, 5, 6, 7, 8, 9, 10, 11] rfl rfl (by decide) (by decide) (va_runS (As := [.int p0, .int (32 : Int32), .int (126 : Int32)]) (rest := []) ⟨hx, hb, hml, hown, hts⟩ (kX5_in l D cI cJ cO N p0 (32 : Int32) (126 : Int32) u1 e2 H.size) (va_cwS 3 hts gX5_write_X5_in rfl rfl rfl (by decide +kernel) ⟨Nat.le_of_ble_eq_true rfl, Nat.le_of_ble_eq_true rfl⟩) (zk_preS (wc := []) hN hK hw [] rfl (by decide)) rfl rfl hl.1 rfl (lv_room (Nat.le_of_ble_eq_true rfl)) dX5_write_5 ⟨Nat.zero_le _, Nat.zero_le _⟩) (fun H locs hw => ?_)
  have hw : Wd D A s.heap (zwM cI cJ aM Mnow Mread Mpast Mchanges Mtext Mletters Mheads Msets Mballots Mranks Mloads Mbelow Morder Melected Mmembers Mabove Munder Mspot Mvalue) H locs := hw
  refine lv_if_ne (tgt := 13) hx hb dX5_write_8 (by decide) (fun c3 => ?_) (fun c3 => ?_)
  · replace hf := zk_f c3 hf
    refine lv_aload_n hx hb dX5_write_13 rfl (lv_at hl 0 rfl) ?_
    refine va_get (D := D) (ci := 5) (v := .int Mletters) (C := RX5) (T := TX5) (N := 19) hx hb hts hiX5 hown hK hw.1 0 rfl rfl 5 (by decide) hq0 (fun _ h9 => h9) rfl dX5_write_14 ?_
    refine lv_sipush (v := 200) hx hb dX5_write_17 (by decide) ?_
    refine lv_icmp_ne (tgt := 26) hx hb dX5_write_20 (by decide) (fun c4 => ?_) (fun c4 => ?_)
    · replace hf := zk_f c4 hf
      refine lv_aload_n hx hb dX5_write_26 rfl (lv_at hl 0 rfl) ?_
      refine va_get (D := D) (ci := 5) (v := .ref (aM 4)) (C := RX5) (T := TX5) (N := 19) hx hb hts hiX5 hown hK hw.1 0 rfl rfl 4 (by decide) hq1 (fun _ h9 => h9) rfl dX5_write_27 ?_
      refine lv_aload_n hx hb dX5_write_30 rfl (lv_at hl 0 rfl) ?_
      refine va_get (D := D) (ci := 5) (v := .int Mletters) (C := RX5) (T := TX5) (N := 19) hx hb hts hiX5 hown hK hw.1 0 rfl rfl 5 (by decide) hq0 (fun _ h9 => h9) rfl dX5_write_31 ?_
      refine lv_iload_n hx hb dX5_write_34 rfl (lv_at hl 1 rfl) ?_
      obtain ⟨h5, hf⟩ := zk_ck hf
      refine zk_iast hx hb hK hw 4 rfl h5 (j := Mletters.toNatClampNeg) rfl dX5_write_35 (fun H locs hw => ?_)
      have hw : Wd D A s.heap (zwM cI cJ aM Mnow Mread Mpast Mchanges (upd Mtext Mletters.toNatClampNeg p0) Mletters Mheads Msets Mballots Mranks Mloads Mbelow Morder Melected Mmembers Mabove Munder Mspot Mvalue) H locs := hw
      refine lv_aload_n hx hb dX5_write_36 rfl (lv_at hl 0 rfl) ?_
      refine lv_dup hx hb dX5_write_37 rfl ?_
      refine va_get (D := D) (ci := 5) (v := .int Mletters) (C := RX5) (T := TX5) (N := 19) hx hb hts hiX5 hown hK hw.1 0 rfl rfl 5 (by decide) hq0 (fun _ h9 => h9) rfl dX5_write_38 ?_
      refine lv_iconst (v := 1) hx hb dX5_write_41 (by decide) ?_
      refine lv_iadd hx hb dX5_write_42 ?_
      refine va_put (D := D) (ci := 5) (v := .int (Mletters + (1 : Int32))) (C := RX5) (T := TX5) (N := 19) hx hb hts hiX5 tyX5 tyX5_ok nmX5 hown hK hw.1 hw.2.1 hw.2.2 0 rfl rfl 5 (by decide) hq0 (fun _ h9 => h9) rfl (tyX5_ok 5 (by decide)) rfl rfl (Nat.le_of_ble_eq_true rfl) dX5_write_43 (fun H locs hP hD hS => ?_)
      have hw : Wd D A s.heap (zwM cI cJ aM Mnow Mread Mpast Mchanges (upd Mtext Mletters.toNatClampNeg p0) (Mletters + (1 : Int32)) Mheads Msets Mballots Mranks Mloads Mbelow Morder Melected Mmembers Mabove Munder Mspot Mvalue) H locs := ⟨hP, hD, hS⟩
      clear hP hD hS
      refine lv_aload_n hx hb dX5_write_46 rfl (lv_at hl 0 rfl) ?_
      refine va_get (D := D) (ci := 5) (v := .int (Mletters + (1 : Int32))) (C := RX5) (T := TX5) (N := 19) hx hb hts hiX5 hown hK hw.1 0 rfl rfl 5 (by decide) hq0 (fun _ h9 => h9) rfl dX5_write_47 ?_
      cases hf
      exact zk_iret hx hb hr hlocks rfl hQ hw [0, 1, 2, 3, 4, 5, 6, 7, 8, 9, 10, 11] rfl (by decide) dX5_write_50
    · replace hf := zk_t c4 hf
      refine lv_bipush (v := (-3)) hx hb dX5_write_23 (by decide) ?_
      cases hf
      exact zk_iret hx hb hr hlocks rfl hQ hw [0, 1, 2, 3, 4, 5, 6, 7, 8, 9, 10, 11] rfl (by decide) dX5_write_25
  · replace hf := zk_t c3 hf
    refine lv_iconst (v := (-1)) hx hb dX5_write_11 (by decide) ?_
    cases hf
    exact zk_iret hx hb hr hlocks rfl hQ hw [0, 1, 2, 3, 4, 5, 6, 7, 8, 9, 10, 11] rfl (by decide) dX5_write_12
set_option maxHeartbeats 4000000 in
set_option maxRecDepth 100000 in
theorem kX5_wipe (l : Launch) (D : va_G) (cI cJ cO : ClassId) (N : Nat) (aM : Nat → Nat) (Mnow : Nat → Int32) (Mread : Nat → Int32) (Mpast : Nat → Int32) (Mchanges : Int32) (Mtext : Nat → Int32) (Mletters : Int32) (Mheads : Nat → Int32) (Msets : Nat → Int32) (Mballots : Int32) (Mranks : Nat → Int32) (Mloads : Nat → Int64) (Mbelow : Int64) (Morder : Nat → Int32) (Melected : Int32) (Mmembers : Int32) (Mabove : Nat → Int64) (Munder : Nat → Int64) (Mspot : Int32) (Mvalue : Int32) (u : Int32 × (Int32)) (hf : fX5_wipe N Mletters = some u) : CtI l yX5_wipe wsX5_wipe (zk_rm 0 0) D cI cJ cO [.ref (aM 0)] (zwM cI cJ aM Mnow Mread Mpast Mchanges Mtext Mletters Mheads Msets Mballots Mranks Mloads Mbelow Morder Melected Mmembers Mabove Munder Mspot Mvalue) (zwM cI cJ aM Mnow Mread Mpast Mchanges Mtext u.2 Mheads Msets Mballots Mranks Mloads Mbelow Morder Melected Mmembers Mabove Munder Mspot Mvalue) (u.1) := by
  refine zk_enter (cc := cX5_wipe) (maxL := 2) (ret := some .int) (own := RX5) (Qf := fun A => QwI D (zwM cI cJ aM Mnow Mread Mpast Mchanges Mtext u.2 Mheads Msets Mballots Mranks Mloads Mbelow Morder Melected Mmembers Mabove Munder Mspot Mvalue) (u.1) A) (by decide) rfl rfl (Nat.le_of_ble_eq_true rfl) ?_
  intro p e s m args below meth c A Q H locs ls hC hQ hw hl
  obtain ⟨hx, hb, hml, hr, hts, hown, hlocks, hN, hK, hA⟩ := hC
  have hl : lv_has ls 2 [(0, .ref (aM 0))] := hl
  have hiX5 : ∀ w ∈ u_ws RX5 TX5 19, w ∈ wsX5_wipe := by decide +kernel
  have hq0 := hts (.fieldLink RX5 52 "LoadCouncilModel" "letters" "I") (by decide +kernel)
  unfold fX5_wipe at hf
  refine lv_aload_n hx hb dX5_wipe_0 rfl (lv_at hl 0 rfl) ?_
  refine va_get (D := D) (ci := 5) (v := .int Mletters) (C := RX5) (T := TX5) (N := 19) hx hb hts hiX5 hown hK hw.1 0 rfl rfl 5 (by decide) hq0 (fun _ h9 => h9) rfl dX5_wipe_1 ?_
  refine lv_istore_n (lv' := [(1, .int Mletters), (0, .ref (aM 0))]) hx hb dX5_wipe_4 rfl hl (by decide) rfl (fun ls hl => ?_)
  refine lv_aload_n hx hb dX5_wipe_5 rfl (lv_at hl 1 rfl) ?_
  refine lv_iconst (v := 0) hx hb dX5_wipe_6 (by decide) ?_
  refine va_put (D := D) (ci := 5) (v := .int (0 : Int32)) (C := RX5) (T := TX5) (N := 19) hx hb hts hiX5 tyX5 tyX5_ok nmX5 hown hK hw.1 hw.2.1 hw.2.2 0 rfl rfl 5 (by decide) hq0 (fun _ h9 => h9) rfl (tyX5_ok 5 (by decide)) rfl rfl (Nat.le_of_ble_eq_true rfl) dX5_wipe_7 (fun H locs hP hD hS => ?_)
  have hw : Wd D A s.heap (zwM cI cJ aM Mnow Mread Mpast Mchanges Mtext (0 : Int32) Mheads Msets Mballots Mranks Mloads Mbelow Morder Melected Mmembers Mabove Munder Mspot Mvalue) H locs := ⟨hP, hD, hS⟩
  clear hP hD hS
  refine lv_iload_n hx hb dX5_wipe_10 rfl (lv_at hl 0 rfl) ?_
  cases hf
  exact zk_iret hx hb hr hlocks rfl hQ hw [0, 1, 2, 3, 4, 5, 6, 7, 8, 9, 10, 11] rfl (by decide) dX5_wipe_11
set_option maxHeartbeats 4000000 in
set_option maxRecDepth 100000 in
theorem kX5_letterAt (l : Launch) (D : va_G) (cI cJ cO : ClassId) (N : Nat) (aM : Nat → Nat) (p0 : Int32) (Mnow : Nat → Int32) (Mread : Nat → Int32) (Mpast : Nat → Int32) (Mchanges : Int32) (Mtext : Nat → Int32) (Mletters : Int32) (Mheads : Nat → Int32) (Msets : Nat → Int32) (Mballots : Int32) (Mranks : Nat → Int32) (Mloads : Nat → Int64) (Mbelow : Int64) (Morder : Nat → Int32) (Melected : Int32) (Mmembers : Int32) (Mabove : Nat → Int64) (Munder : Nat → Int64) (Mspot : Int32) (Mvalue : Int32) (u : Int32) (hf : fX5_letterAt N p0 Mtext Mletters = some u) : CtI l yX5_letterAt wsX5_letterAt (zk_rm 0 0) D cI cJ cO [.ref (aM 0), .int p0] (zwM cI cJ aM Mnow Mread Mpast Mchanges Mtext Mletters Mheads Msets Mballots Mranks Mloads Mbelow Morder Melected Mmembers Mabove Munder Mspot Mvalue) (zwM cI cJ aM Mnow Mread Mpast Mchanges Mtext Mletters Mheads Msets Mballots Mranks Mloads Mbelow Morder Melected Mmembers Mabove Munder Mspot Mvalue) (u) := by
  refine zk_enter (cc := cX5_letterAt) (maxL := 2) (ret := some .int) (own := RX5) (Qf := fun A => QwI D (zwM cI cJ aM Mnow Mread Mpast Mchanges Mtext Mletters Mheads Msets Mballots Mranks Mloads Mbelow Morder Melected Mmembers Mabove Munder Mspot Mvalue) (u) A) (by decide) rfl rfl (Nat.le_of_ble_eq_true rfl) ?_
  intro p e s m args below meth c A Q H locs ls hC hQ hw hl
  obtain ⟨hx, hb, hml, hr, hts, hown, hlocks, hN, hK, hA⟩ := hC
  have hl : lv_has ls 2 [(0, .ref (aM 0)), (1, .int p0)] := hl
  have hiX5 : ∀ w ∈ u_ws RX5 TX5 19, w ∈ wsX5_letterAt := by decide +kernel
  have hq0 := hts (.fieldLink RX5 52 "LoadCouncilModel" "letters" "I") (by decide +kernel)
  have hq1 := hts (.fieldLink RX5 19 "LoadCouncilModel" "text" "[I") (by decide +kernel)
  unfold fX5_letterAt at hf
  refine lv_iload_n hx hb dX5_letterAt_0 rfl (lv_at hl 1 rfl) ?_
  refine lv_aload_n hx hb dX5_letterAt_1 rfl (lv_at hl 0 rfl) ?_
  refine va_get (D := D) (ci := 5) (v := .int Mletters) (C := RX5) (T := TX5) (N := 19) hx hb hts hiX5 hown hK hw.1 0 rfl rfl 5 (by decide) hq0 (fun _ h9 => h9) rfl dX5_letterAt_2 ?_
  refine lv_icmp_ge (tgt := 17) hx hb dX5_letterAt_5 (by decide) (fun c1 => ?_) (fun c1 => ?_)
  · replace hf := zk_t c1 hf
    refine lv_bipush (v := (-4)) hx hb dX5_letterAt_17 (by decide) ?_
    cases hf
    exact zk_iret hx hb hr hlocks rfl hQ hw [0, 1, 2, 3, 4, 5, 6, 7, 8, 9, 10, 11] rfl (by decide) dX5_letterAt_19
  · replace hf := zk_f c1 hf
    refine lv_aload_n hx hb dX5_letterAt_8 rfl (lv_at hl 0 rfl) ?_
    refine va_get (D := D) (ci := 5) (v := .ref (aM 4)) (C := RX5) (T := TX5) (N := 19) hx hb hts hiX5 hown hK hw.1 0 rfl rfl 4 (by decide) hq1 (fun _ h9 => h9) rfl dX5_letterAt_9 ?_
    refine lv_iload_n hx hb dX5_letterAt_12 rfl (lv_at hl 1 rfl) ?_
    obtain ⟨h2, hf⟩ := zk_ck hf
    refine zk_iald hx hb hK hw 4 rfl h2 (j := p0.toNatClampNeg) rfl dX5_letterAt_13 ?_
    refine lv_goto (tgt := 19) hx hb dX5_letterAt_14 (by decide) ?_
    cases hf
    exact zk_iret hx hb hr hlocks rfl hQ hw [0, 1, 2, 3, 4, 5, 6, 7, 8, 9, 10, 11] rfl (by decide) dX5_letterAt_19
set_option maxHeartbeats 4000000 in
set_option maxRecDepth 100000 in
theorem kX5_takesNumber (l : Launch) (D : va_G) (cI cJ cO : ClassId) (N : Nat) (aM : Nat → Nat) (p0 : Int32) (p1 : Int32) (Mnow : Nat → Int32) (Mread : Nat → Int32) (Mpast : Nat → Int32) (Mchanges : Int32) (Mtext : Nat → Int32) (Mletters : Int32) (Mheads : Nat → Int32) (Msets : Nat → Int32) (Mballots : Int32) (Mranks : Nat → Int32) (Mloads : Nat → Int64) (Mbelow : Int64) (Morder : Nat → Int32) (Melected : Int32) (Mmembers : Int32) (Mabove : Nat → Int64) (Munder : Nat → Int64) (Mspot : Int32) (Mvalue : Int32) (u : Int32 × (Int32) × (Int32)) (hf : fX5_takesNumber N p0 p1 Mtext Mletters Mspot Mvalue = some u) : CtI l yX5_takesNumber wsX5_takesNumber (zk_rm 1 22) D cI cJ cO [.ref (aM 0), .int p0, .int p1] (zwM cI cJ aM Mnow Mread Mpast Mchanges Mtext Mletters Mheads Msets Mballots Mranks Mloads Mbelow Morder Melected Mmembers Mabove Munder Mspot Mvalue) (zwM cI cJ aM Mnow Mread Mpast Mchanges Mtext Mletters Mheads Msets Mballots Mranks Mloads Mbelow Morder Melected Mmembers Mabove Munder u.2.1 u.2.2) (u.1) := by
  refine zk_enter (cc := cX5_takesNumber) (maxL := 4) (ret := some .boolean) (own := RX5) (Qf := fun A => QwI D (zwM cI cJ aM Mnow Mread Mpast Mchanges Mtext Mletters Mheads Msets Mballots Mranks Mloads Mbelow Morder Melected Mmembers Mabove Munder u.2.1 u.2.2) (u.1) A) (by decide) rfl rfl (Nat.le_of_ble_eq_true rfl) ?_
  intro p e s m args below meth c A Q H locs ls hC hQ hw hl
  obtain ⟨hx, hb, hml, hr, hts, hown, hlocks, hN, hK, hA⟩ := hC
  have hl : lv_has ls 4 [(0, .ref (aM 0)), (1, .int p0), (2, .int p1)] := hl
  have hiX5 : ∀ w ∈ u_ws RX5 TX5 19, w ∈ wsX5_takesNumber := by decide +kernel
  have hq0 := hts (.fieldLink RX5 56 "LoadCouncilModel" "spot" "I") (by decide +kernel)
  have hq1 := hts (.fieldLink RX5 59 "LoadCouncilModel" "value" "I") (by decide +kernel)
  have hq2 := hts (.fieldLink RX5 19 "LoadCouncilModel" "text" "[I") (by decide +kernel)
  have b75 : ∀ (x1 : Int32) (x2 : Int32) (x3 : Int32) (Mspot : Int32) (Mvalue : Int32), fX5_takesNumber_b75 N x1 x2 x3 Mspot Mvalue = some u → ∀ (H : Heap) (locs : List Loc) (ls : Array Slot), Wd D A s.heap (zwM cI cJ aM Mnow Mread Mpast Mchanges Mtext Mletters Mheads Msets Mballots Mranks Mloads Mbelow Morder Melected Mmembers Mabove Munder Mspot Mvalue) H locs → lv_has ls 4 [(0, .ref (aM 0)), (1, .int x1), (2, .int x2), (3, .int x3)] → W p l e (zk_rm 1 22) s m args below meth c H locs 0 0 Q (F0 m 75 ls []) := by
    intro x1 x2 x3 Mspot Mvalue hf H locs ls hw hl
    unfold fX5_takesNumber_b75 at hf
    refine lv_aload_n hx hb dX5_takesNumber_75 rfl (lv_at hl 0 rfl) ?_
    refine va_get (D := D) (ci := 5) (v := .int Mspot) (C := RX5) (T := TX5) (N := 19) hx hb hts hiX5 hown hK hw.1 0 rfl rfl 17 (by decide) hq0 (fun _ h9 => h9) rfl dX5_takesNumber_76 ?_
    refine lv_iload_n hx hb dX5_takesNumber_79 rfl (lv_at hl 3 rfl) ?_
    refine lv_icmp_le (tgt := 99) hx hb dX5_takesNumber_80 (by decide) (fun c1 => ?_) (fun c1 => ?_)
    · replace hf := zk_t c1 hf
      refine lv_iconst (v := 0) hx hb dX5_takesNumber_99 (by decide) ?_
      cases hf
      exact zk_iret hx hb hr hlocks rfl hQ hw [0, 1, 2, 3, 4, 5, 6, 7, 8, 9, 10, 11] rfl (by decide) dX5_takesNumber_100
    · replace hf := zk_f c1 hf
      refine lv_aload_n hx hb dX5_takesNumber_83 rfl (lv_at hl 0 rfl) ?_
      refine va_get (D := D) (ci := 5) (v := .int Mvalue) (C := RX5) (T := TX5) (N := 19) hx hb hts hiX5 hown hK hw.1 0 rfl rfl 18 (by decide) hq1 (fun _ h9 => h9) rfl dX5_takesNumber_84 ?_
      refine lv_iload_n hx hb dX5_takesNumber_87 rfl (lv_at hl 1 rfl) ?_
      refine lv_iload_n hx hb dX5_takesNumber_88 rfl (lv_at hl 2 rfl) ?_
      obtain ⟨u2, e3, hf⟩ := zk_bd hf
      refine zk_calli (wc := []) (wr := zwM cI cJ aM Mnow Mread Mpast Mchanges Mtext Mletters Mheads Msets Mballots Mranks Mloads Mbelow Morder Melected Mmembers Mabove Munder Mspot Mvalue) hw hA [] [0, 1, 2, 3, 4, 5, 6, 7, 8, 9, 10, 11] rfl rfl (by decide) (by decide) (va_runS (As := [.int Mvalue, .int x1, .int x2]) (rest := []) ⟨hx, hb, hml, hown, hts⟩ (kX5_in l D cI cJ cO N Mvalue x1 x2 u2 e3 H.size) (va_cwS 3 hts gX5_takesNumber_X5_in rfl rfl rfl (by decide +kernel) ⟨Nat.le_of_ble_eq_true rfl, Nat.le_of_ble_eq_true rfl⟩) (zk_preS (wc := []) hN hK hw [] rfl (by decide)) rfl rfl hl.1 rfl (lv_room (Nat.le_of_ble_eq_true rfl)) dX5_takesNumber_89 ⟨Nat.zero_le _, Nat.zero_le _⟩) (fun H locs hw => ?_)
      have hw : Wd D A s.heap (zwM cI cJ aM Mnow Mread Mpast Mchanges Mtext Mletters Mheads Msets Mballots Mranks Mloads Mbelow Morder Melected Mmembers Mabove Munder Mspot Mvalue) H locs := hw
      refine lv_if_eq (tgt := 99) hx hb dX5_takesNumber_92 (by decide) (fun c4 => ?_) (fun c4 => ?_)
      · replace hf := zk_t c4 hf
        refine lv_iconst (v := 0) hx hb dX5_takesNumber_99 (by decide) ?_
        cases hf
        exact zk_iret hx hb hr hlocks rfl hQ hw [0, 1, 2, 3, 4, 5, 6, 7, 8, 9, 10, 11] rfl (by decide) dX5_takesNumber_100
      · replace hf := zk_f c4 hf
        refine lv_iconst (v := 1) hx hb dX5_takesNumber_95 (by decide) ?_
        refine lv_goto (tgt := 100) hx hb dX5_takesNumber_96 (by decide) ?_
        cases hf
        exact zk_iret hx hb hr hlocks rfl hQ hw [0, 1, 2, 3, 4, 5, 6, 7, 8, 9, 10, 11] rfl (by decide) dX5_takesNumber_100
  have b10 : ∀ (n10 : Nat), ∀ (x1 : Int32) (x2 : Int32) (x3 : Int32) (Mspot : Int32) (Mvalue : Int32), fX5_takesNumber_b10 N n10 x1 x2 x3 Mtext Mletters Mspot Mvalue = some u → ∀ (H : Heap) (locs : List Loc) (ls : Array Slot), Wd D A s.heap (zwM cI cJ aM Mnow Mread Mpast Mchanges Mtext Mletters Mheads Msets Mballots Mranks Mloads Mbelow Morder Melected Mmembers Mabove Munder Mspot Mvalue) H locs → lv_has ls 4 [(0, .ref (aM 0)), (1, .int x1), (2, .int x2), (3, .int x3)] → W p l e (zk_rm 1 22) s m args below meth c H locs 0 0 Q (F0 m 10 ls []) := by
    intro n10
    induction n10 with
    | zero =>
      intro x1 x2 x3 Mspot Mvalue hf
      exact zk_none hf
    | succ n10 ih10 =>
      intro x1 x2 x3 Mspot Mvalue hf H locs ls hw hl
      rw [fX5_takesNumber_b10] at hf
      refine lv_aload_n hx hb dX5_takesNumber_10 rfl (lv_at hl 0 rfl) ?_
      refine lv_aload_n hx hb dX5_takesNumber_11 rfl (lv_at hl 0 rfl) ?_
      refine va_get (D := D) (ci := 5) (v := .int Mspot) (C := RX5) (T := TX5) (N := 19) hx hb hts hiX5 hown hK hw.1 0 rfl rfl 17 (by decide) hq0 (fun _ h9 => h9) rfl dX5_takesNumber_12 ?_
      obtain ⟨u5, e6, hf⟩ := zk_bd hf
      refine zk_calli (wc := zwM cI cJ aM Mnow Mread Mpast Mchanges Mtext Mletters Mheads Msets Mballots Mranks Mloads Mbelow Morder Melected Mmembers Mabove Munder Mspot Mvalue) (wr := []) hw hA [0, 1, 2, 3, 4, 5, 6, 7, 8, 9, 10, 11] [] rfl rfl (by decide) (by decide) (va_runV (C := RX5) (As := [.int Mspot]) (rest := []) ⟨hx, hb, hml, hown, hts⟩ (kX5_letterAt l D cI cJ cO N aM Mspot Mnow Mread Mpast Mchanges Mtext Mletters Mheads Msets Mballots Mranks Mloads Mbelow Morder Melected Mmembers Mabove Munder Mspot Mvalue u5 e6 H.size) (cwV 1 hts gX5_takesNumber_X5_letterAt rfl rfl rfl (by decide +kernel) ⟨Nat.le_of_ble_eq_true rfl, Nat.le_of_ble_eq_true rfl⟩) (zk_preV (wc := zwM cI cJ aM Mnow Mread Mpast Mchanges Mtext Mletters Mheads Msets Mballots Mranks Mloads Mbelow Morder Melected Mmembers Mabove Munder Mspot Mvalue) hN hK hw [0, 1, 2, 3, 4, 5, 6, 7, 8, 9, 10, 11] rfl (by decide) 0 5 rfl rfl) rfl rfl hl.1 rfl (lv_room (Nat.le_of_ble_eq_true rfl)) dX5_takesNumber_15 ⟨Nat.zero_le _, Nat.zero_le _⟩) (fun H locs hw => ?_)
      have hw : Wd D A s.heap (zwM cI cJ aM Mnow Mread Mpast Mchanges Mtext Mletters Mheads Msets Mballots Mranks Mloads Mbelow Morder Melected Mmembers Mabove Munder Mspot Mvalue) H locs := hw
      refine lv_bipush (v := 48) hx hb dX5_takesNumber_18 (by decide) ?_
      refine lv_bipush (v := 57) hx hb dX5_takesNumber_20 (by decide) ?_
      obtain ⟨u7, e8, hf⟩ := zk_bd hf
      refine zk_calli (wc := []) (wr := zwM cI cJ aM Mnow Mread Mpast Mchanges Mtext Mletters Mheads Msets Mballots Mranks Mloads Mbelow Morder Melected Mmembers Mabove Munder Mspot Mvalue) hw hA [] [0, 1, 2, 3, 4, 5, 6, 7, 8, 9, 10, 11] rfl rfl (by decide) (by decide) (va_runS (As := [.int u5, .int (48 : Int32), .int (57 : Int32)]) (rest := []) ⟨hx, hb, hml, hown, hts⟩ (kX5_in l D cI cJ cO N u5 (48 : Int32) (57 : Int32) u7 e8 H.size) (va_cwS 3 hts gX5_takesNumber_X5_in rfl rfl rfl (by decide +kernel) ⟨Nat.le_of_ble_eq_true rfl, Nat.le_of_ble_eq_true rfl⟩) (zk_preS (wc := []) hN hK hw [] rfl (by decide)) rfl rfl hl.1 rfl (lv_room (Nat.le_of_ble_eq_true rfl)) dX5_takesNumber_22 ⟨Nat.zero_le _, Nat.zero_le _⟩) (fun H locs hw => ?_)
      have hw : Wd D A s.heap (zwM cI cJ aM Mnow Mread Mpast Mchanges Mtext Mletters Mheads Msets Mballots Mranks Mloads Mbelow Morder Melected Mmembers Mabove Munder Mspot Mvalue) H locs := hw
      refine lv_if_eq (tgt := 75) hx hb dX5_takesNumber_25 (by decide) (fun c9 => ?_) (fun c9 => ?_)
      · replace hf := zk_t c9 hf
        exact b75 x1 x2 x3 Mspot Mvalue hf H locs ls hw (lv_sub hl [0, 1, 2, 3] rfl)
      · replace hf := zk_f c9 hf
        refine lv_aload_n hx hb dX5_takesNumber_28 rfl (lv_at hl 0 rfl) ?_
        refine va_get (D := D) (ci := 5) (v := .int Mspot) (C := RX5) (T := TX5) (N := 19) hx hb hts hiX5 hown hK hw.1 0 rfl rfl 17 (by decide) hq0 (fun _ h9 => h9) rfl dX5_takesNumber_29 ?_
        refine lv_iload_n hx hb dX5_takesNumber_32 rfl (lv_at hl 3 rfl) ?_
        refine lv_iconst (v := 2) hx hb dX5_takesNumber_33 (by decide) ?_
        refine lv_iadd hx hb dX5_takesNumber_34 ?_
        refine lv_icmp_ge (tgt := 75) hx hb dX5_takesNumber_35 (by decide) (fun c10 => ?_) (fun c10 => ?_)
        · replace hf := zk_t c10 hf
          exact b75 x1 x2 x3 Mspot Mvalue hf H locs ls hw (lv_sub hl [0, 1, 2, 3] rfl)
        · replace hf := zk_f c10 hf
          refine lv_aload_n hx hb dX5_takesNumber_38 rfl (lv_at hl 0 rfl) ?_
          refine lv_bipush (v := 10) hx hb dX5_takesNumber_39 (by decide) ?_
          refine lv_aload_n hx hb dX5_takesNumber_41 rfl (lv_at hl 0 rfl) ?_
          refine va_get (D := D) (ci := 5) (v := .int Mvalue) (C := RX5) (T := TX5) (N := 19) hx hb hts hiX5 hown hK hw.1 0 rfl rfl 18 (by decide) hq1 (fun _ h9 => h9) rfl dX5_takesNumber_42 ?_
          refine lv_imul hx hb dX5_takesNumber_45 ?_
          refine lv_aload_n hx hb dX5_takesNumber_46 rfl (lv_at hl 0 rfl) ?_
          refine va_get (D := D) (ci := 5) (v := .ref (aM 4)) (C := RX5) (T := TX5) (N := 19) hx hb hts hiX5 hown hK hw.1 0 rfl rfl 4 (by decide) hq2 (fun _ h9 => h9) rfl dX5_takesNumber_47 ?_
          refine lv_aload_n hx hb dX5_takesNumber_50 rfl (lv_at hl 0 rfl) ?_
          refine va_get (D := D) (ci := 5) (v := .int Mspot) (C := RX5) (T := TX5) (N := 19) hx hb hts hiX5 hown hK hw.1 0 rfl rfl 17 (by decide) hq0 (fun _ h9 => h9) rfl dX5_takesNumber_51 ?_
          obtain ⟨h11, hf⟩ := zk_ck hf
          refine zk_iald hx hb hK hw 4 rfl h11 (j := Mspot.toNatClampNeg) rfl dX5_takesNumber_54 ?_
          refine lv_iadd hx hb dX5_takesNumber_55 ?_
          refine lv_bipush (v := 48) hx hb dX5_takesNumber_56 (by decide) ?_
          refine lv_isub hx hb dX5_takesNumber_58 ?_
          refine va_put (D := D) (ci := 5) (v := .int ((((10 : Int32) * Mvalue) + (Mtext Mspot.toNatClampNeg)) - (48 : Int32))) (C := RX5) (T := TX5) (N := 19) hx hb hts hiX5 tyX5 tyX5_ok nmX5 hown hK hw.1 hw.2.1 hw.2.2 0 rfl rfl 18 (by decide) hq1 (fun _ h9 => h9) rfl (tyX5_ok 18 (by decide)) rfl rfl (Nat.le_of_ble_eq_true rfl) dX5_takesNumber_59 (fun H locs hP hD hS => ?_)
          have hw : Wd D A s.heap (zwM cI cJ aM Mnow Mread Mpast Mchanges Mtext Mletters Mheads Msets Mballots Mranks Mloads Mbelow Morder Melected Mmembers Mabove Munder Mspot ((((10 : Int32) * Mvalue) + (Mtext Mspot.toNatClampNeg)) - (48 : Int32))) H locs := ⟨hP, hD, hS⟩
          clear hP hD hS
          refine lv_aload_n hx hb dX5_takesNumber_62 rfl (lv_at hl 0 rfl) ?_
          refine lv_dup hx hb dX5_takesNumber_63 rfl ?_
          refine va_get (D := D) (ci := 5) (v := .int Mspot) (C := RX5) (T := TX5) (N := 19) hx hb hts hiX5 hown hK hw.1 0 rfl rfl 17 (by decide) hq0 (fun _ h9 => h9) rfl dX5_takesNumber_64 ?_
          refine lv_iconst (v := 1) hx hb dX5_takesNumber_67 (by decide) ?_
          refine lv_iadd hx hb dX5_takesNumber_68 ?_
          refine va_put (D := D) (ci := 5) (v := .int (Mspot + (1 : Int32))) (C := RX5) (T := TX5) (N := 19) hx hb hts hiX5 tyX5 tyX5_ok nmX5 hown hK hw.1 hw.2.1 hw.2.2 0 rfl rfl 17 (by decide) hq0 (fun _ h9 => h9) rfl (tyX5_ok 17 (by decide)) rfl rfl (Nat.le_of_ble_eq_true rfl) dX5_takesNumber_69 (fun H locs hP hD hS => ?_)
          have hw : Wd D A s.heap (zwM cI cJ aM Mnow Mread Mpast Mchanges Mtext Mletters Mheads Msets Mballots Mranks Mloads Mbelow Morder Melected Mmembers Mabove Munder (Mspot + (1 : Int32)) ((((10 : Int32) * Mvalue) + (Mtext Mspot.toNatClampNeg)) - (48 : Int32))) H locs := ⟨hP, hD, hS⟩
          clear hP hD hS
          refine lv_goto (tgt := 10) hx hb dX5_takesNumber_72 (by decide) ?_
          exact ih10 x1 x2 x3 (Mspot + (1 : Int32)) ((((10 : Int32) * Mvalue) + (Mtext Mspot.toNatClampNeg)) - (48 : Int32)) hf H locs ls hw (lv_sub hl [0, 1, 2, 3] rfl)
  unfold fX5_takesNumber at hf
  refine lv_aload_n hx hb dX5_takesNumber_0 rfl (lv_at hl 0 rfl) ?_
  refine va_get (D := D) (ci := 5) (v := .int Mspot) (C := RX5) (T := TX5) (N := 19) hx hb hts hiX5 hown hK hw.1 0 rfl rfl 17 (by decide) hq0 (fun _ h9 => h9) rfl dX5_takesNumber_1 ?_
  refine lv_istore_n (lv' := [(3, .int Mspot), (0, .ref (aM 0)), (1, .int p0), (2, .int p1)]) hx hb dX5_takesNumber_4 rfl hl (by decide) rfl (fun ls hl => ?_)
  refine lv_aload_n hx hb dX5_takesNumber_5 rfl (lv_at hl 1 rfl) ?_
  refine lv_iconst (v := 0) hx hb dX5_takesNumber_6 (by decide) ?_
  refine va_put (D := D) (ci := 5) (v := .int (0 : Int32)) (C := RX5) (T := TX5) (N := 19) hx hb hts hiX5 tyX5 tyX5_ok nmX5 hown hK hw.1 hw.2.1 hw.2.2 0 rfl rfl 18 (by decide) hq1 (fun _ h9 => h9) rfl (tyX5_ok 18 (by decide)) rfl rfl (Nat.le_of_ble_eq_true rfl) dX5_takesNumber_7 (fun H locs hP hD hS => ?_)
  have hw : Wd D A s.heap (zwM cI cJ aM Mnow Mread Mpast Mchanges Mtext Mletters Mheads Msets Mballots Mranks Mloads Mbelow Morder Melected Mmembers Mabove Munder Mspot (0 : Int32)) H locs := ⟨hP, hD, hS⟩
  clear hP hD hS
  exact b10 N p0 p1 Mspot Mspot (0 : Int32) hf H locs ls hw (lv_sub hl [1, 2, 3, 0] rfl)
set_option maxHeartbeats 4000000 in
set_option maxRecDepth 100000 in
theorem kX5_takes (l : Launch) (D : va_G) (cI cJ cO : ClassId) (N : Nat) (aM : Nat → Nat) (p0 : Int32) (Mnow : Nat → Int32) (Mread : Nat → Int32) (Mpast : Nat → Int32) (Mchanges : Int32) (Mtext : Nat → Int32) (Mletters : Int32) (Mheads : Nat → Int32) (Msets : Nat → Int32) (Mballots : Int32) (Mranks : Nat → Int32) (Mloads : Nat → Int64) (Mbelow : Int64) (Morder : Nat → Int32) (Melected : Int32) (Mmembers : Int32) (Mabove : Nat → Int64) (Munder : Nat → Int64) (Mspot : Int32) (Mvalue : Int32) (u : Int32 × (Int32)) (hf : fX5_takes N p0 Mtext Mletters Mspot = some u) : CtI l yX5_takes wsX5_takes (zk_rm 1 21) D cI cJ cO [.ref (aM 0), .int p0] (zwM cI cJ aM Mnow Mread Mpast Mchanges Mtext Mletters Mheads Msets Mballots Mranks Mloads Mbelow Morder Melected Mmembers Mabove Munder Mspot Mvalue) (zwM cI cJ aM Mnow Mread Mpast Mchanges Mtext Mletters Mheads Msets Mballots Mranks Mloads Mbelow Morder Melected Mmembers Mabove Munder u.2 Mvalue) (u.1) := by
  refine zk_enter (cc := cX5_takes) (maxL := 3) (ret := some .boolean) (own := RX5) (Qf := fun A => QwI D (zwM cI cJ aM Mnow Mread Mpast Mchanges Mtext Mletters Mheads Msets Mballots Mranks Mloads Mbelow Morder Melected Mmembers Mabove Munder u.2 Mvalue) (u.1) A) (by decide) rfl rfl (Nat.le_of_ble_eq_true rfl) ?_
  intro p e s m args below meth c A Q H locs ls hC hQ hw hl
  obtain ⟨hx, hb, hml, hr, hts, hown, hlocks, hN, hK, hA⟩ := hC
  have hl : lv_has ls 3 [(0, .ref (aM 0)), (1, .int p0)] := hl
  have hiX5 : ∀ w ∈ u_ws RX5 TX5 19, w ∈ wsX5_takes := by decide +kernel
  have hq0 := hts (.fieldLink RX5 56 "LoadCouncilModel" "spot" "I") (by decide +kernel)
  have b17 : ∀ (t0 : Int32) (Mspot : Int32), fX5_takes_b17 N t0 Mspot = some u → ∀ (H : Heap) (locs : List Loc) (ls : Array Slot), Wd D A s.heap (zwM cI cJ aM Mnow Mread Mpast Mchanges Mtext Mletters Mheads Msets Mballots Mranks Mloads Mbelow Morder Melected Mmembers Mabove Munder Mspot Mvalue) H locs → lv_has ls 3 [(0, .ref (aM 0))] → W p l e (zk_rm 1 21) s m args below meth c H locs 0 0 Q (F0 m 17 ls [.int t0]) := by
    intro t0 Mspot hf H locs ls hw hl
    unfold fX5_takes_b17 at hf
    refine lv_istore_n (lv' := [(2, .int t0), (0, .ref (aM 0))]) hx hb dX5_takes_17 rfl hl (by decide) rfl (fun ls hl => ?_)
    refine lv_aload_n hx hb dX5_takes_18 rfl (lv_at hl 1 rfl) ?_
    refine lv_dup hx hb dX5_takes_19 rfl ?_
    refine va_get (D := D) (ci := 5) (v := .int Mspot) (C := RX5) (T := TX5) (N := 19) hx hb hts hiX5 hown hK hw.1 0 rfl rfl 17 (by decide) hq0 (fun _ h9 => h9) rfl dX5_takes_20 ?_
    refine lv_iload_n hx hb dX5_takes_23 rfl (lv_at hl 0 rfl) ?_
    refine lv_if_eq (tgt := 31) hx hb dX5_takes_24 (by decide) (fun c1 => ?_) (fun c1 => ?_)
    · replace hf := zk_t c1 hf
      refine lv_iconst (v := 0) hx hb dX5_takes_31 (by decide) ?_
      refine lv_iadd hx hb dX5_takes_32 ?_
      refine va_put (D := D) (ci := 5) (v := .int (Mspot + (0 : Int32))) (C := RX5) (T := TX5) (N := 19) hx hb hts hiX5 tyX5 tyX5_ok nmX5 hown hK hw.1 hw.2.1 hw.2.2 0 rfl rfl 17 (by decide) hq0 (fun _ h9 => h9) rfl (tyX5_ok 17 (by decide)) rfl rfl (Nat.le_of_ble_eq_true rfl) dX5_takes_33 (fun H locs hP hD hS => ?_)
      have hw : Wd D A s.heap (zwM cI cJ aM Mnow Mread Mpast Mchanges Mtext Mletters Mheads Msets Mballots Mranks Mloads Mbelow Morder Melected Mmembers Mabove Munder (Mspot + (0 : Int32)) Mvalue) H locs := ⟨hP, hD, hS⟩
      clear hP hD hS
      refine lv_iload_n hx hb dX5_takes_36 rfl (lv_at hl 0 rfl) ?_
      obtain ⟨h2, hf⟩ := zk_ck hf
      cases hf
      exact zk_iret hx hb hr hlocks (zk_nb h2) hQ hw [0, 1, 2, 3, 4, 5, 6, 7, 8, 9, 10, 11] rfl (by decide) dX5_takes_37
    · replace hf := zk_f c1 hf
      refine lv_iconst (v := 1) hx hb dX5_takes_27 (by decide) ?_
      refine lv_goto (tgt := 32) hx hb dX5_takes_28 (by decide) ?_
      refine lv_iadd hx hb dX5_takes_32 ?_
      refine va_put (D := D) (ci := 5) (v := .int (Mspot + (1 : Int32))) (C := RX5) (T := TX5) (N := 19) hx hb hts hiX5 tyX5 tyX5_ok nmX5 hown hK hw.1 hw.2.1 hw.2.2 0 rfl rfl 17 (by decide) hq0 (fun _ h9 => h9) rfl (tyX5_ok 17 (by decide)) rfl rfl (Nat.le_of_ble_eq_true rfl) dX5_takes_33 (fun H locs hP hD hS => ?_)
      have hw : Wd D A s.heap (zwM cI cJ aM Mnow Mread Mpast Mchanges Mtext Mletters Mheads Msets Mballots Mranks Mloads Mbelow Morder Melected Mmembers Mabove Munder (Mspot + (1 : Int32)) Mvalue) H locs := ⟨hP, hD, hS⟩
      clear hP hD hS
      refine lv_iload_n hx hb dX5_takes_36 rfl (lv_at hl 0 rfl) ?_
      obtain ⟨h3, hf⟩ := zk_ck hf
      cases hf
      exact zk_iret hx hb hr hlocks (zk_nb h3) hQ hw [0, 1, 2, 3, 4, 5, 6, 7, 8, 9, 10, 11] rfl (by decide) dX5_takes_37
  unfold fX5_takes at hf
  refine lv_aload_n hx hb dX5_takes_0 rfl (lv_at hl 0 rfl) ?_
  refine lv_aload_n hx hb dX5_takes_1 rfl (lv_at hl 0 rfl) ?_
  refine va_get (D := D) (ci := 5) (v := .int Mspot) (C := RX5) (T := TX5) (N := 19) hx hb hts hiX5 hown hK hw.1 0 rfl rfl 17 (by decide) hq0 (fun _ h9 => h9) rfl dX5_takes_2 ?_
  obtain ⟨u4, e5, hf⟩ := zk_bd hf
  refine zk_calli (wc := zwM cI cJ aM Mnow Mread Mpast Mchanges Mtext Mletters Mheads Msets Mballots Mranks Mloads Mbelow Morder Melected Mmembers Mabove Munder Mspot Mvalue) (wr := []) hw hA [0, 1, 2, 3, 4, 5, 6, 7, 8, 9, 10, 11] [] rfl rfl (by decide) (by decide) (va_runV (C := RX5) (As := [.int Mspot]) (rest := []) ⟨hx, hb, hml, hown, hts⟩ (kX5_letterAt l D cI cJ cO N aM Mspot Mnow Mread Mpast Mchanges Mtext Mletters Mheads Msets Mballots Mranks Mloads Mbelow Morder Melected Mmembers Mabove Munder Mspot Mvalue u4 e5 H.size) (cwV 1 hts gX5_takes_X5_letterAt rfl rfl rfl (by decide +kernel) ⟨Nat.le_of_ble_eq_true rfl, Nat.le_of_ble_eq_true rfl⟩) (zk_preV (wc := zwM cI cJ aM Mnow Mread Mpast Mchanges Mtext Mletters Mheads Msets Mballots Mranks Mloads Mbelow Morder Melected Mmembers Mabove Munder Mspot Mvalue) hN hK hw [0, 1, 2, 3, 4, 5, 6, 7, 8, 9, 10, 11] rfl (by decide) 0 5 rfl rfl) rfl rfl hl.1 rfl (lv_room (Nat.le_of_ble_eq_true rfl)) dX5_takes_5 ⟨Nat.zero_le _, Nat.zero_le _⟩) (fun H locs hw => ?_)
  have hw : Wd D A s.heap (zwM cI cJ aM Mnow Mread Mpast Mchanges Mtext Mletters Mheads Msets Mballots Mranks Mloads Mbelow Morder Melected Mmembers Mabove Munder Mspot Mvalue) H locs := hw
  refine lv_iload_n hx hb dX5_takes_8 rfl (lv_at hl 1 rfl) ?_
  refine lv_icmp_ne (tgt := 16) hx hb dX5_takes_9 (by decide) (fun c6 => ?_) (fun c6 => ?_)
  · replace hf := zk_f c6 hf
    refine lv_iconst (v := 0) hx hb dX5_takes_16 (by decide) ?_
    exact b17 (0 : Int32) Mspot hf H locs ls hw (lv_sub hl [0] rfl)
  · replace hf := zk_t c6 hf
    refine lv_iconst (v := 1) hx hb dX5_takes_12 (by decide) ?_
    refine lv_goto (tgt := 17) hx hb dX5_takes_13 (by decide) ?_
    exact b17 (1 : Int32) Mspot hf H locs ls hw (lv_sub hl [0] rfl)
set_option maxHeartbeats 4000000 in
set_option maxRecDepth 100000 in
theorem kX5_isName (l : Launch) (D : va_G) (cI cJ cO : ClassId) (N : Nat) (aM : Nat → Nat) (Mnow : Nat → Int32) (Mread : Nat → Int32) (Mpast : Nat → Int32) (Mchanges : Int32) (Mtext : Nat → Int32) (Mletters : Int32) (Mheads : Nat → Int32) (Msets : Nat → Int32) (Mballots : Int32) (Mranks : Nat → Int32) (Mloads : Nat → Int64) (Mbelow : Int64) (Morder : Nat → Int32) (Melected : Int32) (Mmembers : Int32) (Mabove : Nat → Int64) (Munder : Nat → Int64) (Mspot : Int32) (Mvalue : Int32) (u : Int32) (hf : fX5_isName N Mread Mtext Mletters Mspot = some u) : CtI l yX5_isName wsX5_isName (zk_rm 1 22) D cI cJ cO [.ref (aM 0)] (zwM cI cJ aM Mnow Mread Mpast Mchanges Mtext Mletters Mheads Msets Mballots Mranks Mloads Mbelow Morder Melected Mmembers Mabove Munder Mspot Mvalue) (zwM cI cJ aM Mnow Mread Mpast Mchanges Mtext Mletters Mheads Msets Mballots Mranks Mloads Mbelow Morder Melected Mmembers Mabove Munder Mspot Mvalue) (u) := by
  refine zk_enter (cc := cX5_isName) (maxL := 1) (ret := some .boolean) (own := RX5) (Qf := fun A => QwI D (zwM cI cJ aM Mnow Mread Mpast Mchanges Mtext Mletters Mheads Msets Mballots Mranks Mloads Mbelow Morder Melected Mmembers Mabove Munder Mspot Mvalue) (u) A) (by decide) rfl rfl (Nat.le_of_ble_eq_true rfl) ?_
  intro p e s m args below meth c A Q H locs ls hC hQ hw hl
  obtain ⟨hx, hb, hml, hr, hts, hown, hlocks, hN, hK, hA⟩ := hC
  have hl : lv_has ls 1 [(0, .ref (aM 0))] := hl
  have hiX5 : ∀ w ∈ u_ws RX5 TX5 19, w ∈ wsX5_isName := by decide +kernel
  have hq0 := hts (.fieldLink RX5 56 "LoadCouncilModel" "spot" "I") (by decide +kernel)
  have hq1 := hts (.fieldLink RX5 13 "LoadCouncilModel" "read" "[I") (by decide +kernel)
  unfold fX5_isName at hf
  refine lv_aload_n hx hb dX5_isName_0 rfl (lv_at hl 0 rfl) ?_
  refine lv_aload_n hx hb dX5_isName_1 rfl (lv_at hl 0 rfl) ?_
  refine va_get (D := D) (ci := 5) (v := .int Mspot) (C := RX5) (T := TX5) (N := 19) hx hb hts hiX5 hown hK hw.1 0 rfl rfl 17 (by decide) hq0 (fun _ h9 => h9) rfl dX5_isName_2 ?_
  obtain ⟨u1, e2, hf⟩ := zk_bd hf
  refine zk_calli (wc := zwM cI cJ aM Mnow Mread Mpast Mchanges Mtext Mletters Mheads Msets Mballots Mranks Mloads Mbelow Morder Melected Mmembers Mabove Munder Mspot Mvalue) (wr := []) hw hA [0, 1, 2, 3, 4, 5, 6, 7, 8, 9, 10, 11] [] rfl rfl (by decide) (by decide) (va_runV (C := RX5) (As := [.int Mspot]) (rest := []) ⟨hx, hb, hml, hown, hts⟩ (kX5_letterAt l D cI cJ cO N aM Mspot Mnow Mread Mpast Mchanges Mtext Mletters Mheads Msets Mballots Mranks Mloads Mbelow Morder Melected Mmembers Mabove Munder Mspot Mvalue u1 e2 H.size) (cwV 1 hts gX5_isName_X5_letterAt rfl rfl rfl (by decide +kernel) ⟨Nat.le_of_ble_eq_true rfl, Nat.le_of_ble_eq_true rfl⟩) (zk_preV (wc := zwM cI cJ aM Mnow Mread Mpast Mchanges Mtext Mletters Mheads Msets Mballots Mranks Mloads Mbelow Morder Melected Mmembers Mabove Munder Mspot Mvalue) hN hK hw [0, 1, 2, 3, 4, 5, 6, 7, 8, 9, 10, 11] rfl (by decide) 0 5 rfl rfl) rfl rfl hl.1 rfl (lv_room (Nat.le_of_ble_eq_true rfl)) dX5_isName_5 ⟨Nat.zero_le _, Nat.zero_le _⟩) (fun H locs hw => ?_)
  have hw : Wd D A s.heap (zwM cI cJ aM Mnow Mread Mpast Mchanges Mtext Mletters Mheads Msets Mballots Mranks Mloads Mbelow Morder Melected Mmembers Mabove Munder Mspot Mvalue) H locs := hw
  refine lv_bipush (v := 97) hx hb dX5_isName_8 (by decide) ?_
  refine lv_bipush (v := 97) hx hb dX5_isName_10 (by decide) ?_
  refine lv_aload_n hx hb dX5_isName_12 rfl (lv_at hl 0 rfl) ?_
  refine va_get (D := D) (ci := 5) (v := .ref (aM 2)) (C := RX5) (T := TX5) (N := 19) hx hb hts hiX5 hown hK hw.1 0 rfl rfl 1 (by decide) hq1 (fun _ h9 => h9) rfl dX5_isName_13 ?_
  refine lv_iconst (v := 0) hx hb dX5_isName_16 (by decide) ?_
  refine zk_iald hx hb hK hw 2 rfl (zk_in (by decide)) (j := 0) rfl dX5_isName_17 ?_
  refine lv_iadd hx hb dX5_isName_18 ?_
  refine lv_iconst (v := 1) hx hb dX5_isName_19 (by decide) ?_
  refine lv_isub hx hb dX5_isName_20 ?_
  obtain ⟨u3, e4, hf⟩ := zk_bd hf
  refine zk_calli (wc := []) (wr := zwM cI cJ aM Mnow Mread Mpast Mchanges Mtext Mletters Mheads Msets Mballots Mranks Mloads Mbelow Morder Melected Mmembers Mabove Munder Mspot Mvalue) hw hA [] [0, 1, 2, 3, 4, 5, 6, 7, 8, 9, 10, 11] rfl rfl (by decide) (by decide) (va_runS (As := [.int u1, .int (97 : Int32), .int (((97 : Int32) + (Mread 0)) - (1 : Int32))]) (rest := []) ⟨hx, hb, hml, hown, hts⟩ (kX5_in l D cI cJ cO N u1 (97 : Int32) (((97 : Int32) + (Mread 0)) - (1 : Int32)) u3 e4 H.size) (va_cwS 3 hts gX5_isName_X5_in rfl rfl rfl (by decide +kernel) ⟨Nat.le_of_ble_eq_true rfl, Nat.le_of_ble_eq_true rfl⟩) (zk_preS (wc := []) hN hK hw [] rfl (by decide)) rfl rfl hl.1 rfl (lv_room (Nat.le_of_ble_eq_true rfl)) dX5_isName_21 ⟨Nat.zero_le _, Nat.zero_le _⟩) (fun H locs hw => ?_)
  have hw : Wd D A s.heap (zwM cI cJ aM Mnow Mread Mpast Mchanges Mtext Mletters Mheads Msets Mballots Mranks Mloads Mbelow Morder Melected Mmembers Mabove Munder Mspot Mvalue) H locs := hw
  obtain ⟨h5, hf⟩ := zk_ck hf
  cases hf
  exact zk_iret hx hb hr hlocks (zk_nb h5) hQ hw [0, 1, 2, 3, 4, 5, 6, 7, 8, 9, 10, 11] rfl (by decide) dX5_isName_24
set_option maxHeartbeats 4000000 in
set_option maxRecDepth 100000 in
theorem kX5_takesSet (l : Launch) (D : va_G) (cI cJ cO : ClassId) (N : Nat) (aM : Nat → Nat) (Mnow : Nat → Int32) (Mread : Nat → Int32) (Mpast : Nat → Int32) (Mchanges : Int32) (Mtext : Nat → Int32) (Mletters : Int32) (Mheads : Nat → Int32) (Msets : Nat → Int32) (Mballots : Int32) (Mranks : Nat → Int32) (Mloads : Nat → Int64) (Mbelow : Int64) (Morder : Nat → Int32) (Melected : Int32) (Mmembers : Int32) (Mabove : Nat → Int64) (Munder : Nat → Int64) (Mspot : Int32) (Mvalue : Int32) (u : Int32 × (Int32) × (Int32)) (hf : fX5_takesSet N Mread Mtext Mletters Mspot Mvalue = some u) : CtI l yX5_takesSet wsX5_takesSet (zk_rm 2 42) D cI cJ cO [.ref (aM 0)] (zwM cI cJ aM Mnow Mread Mpast Mchanges Mtext Mletters Mheads Msets Mballots Mranks Mloads Mbelow Morder Melected Mmembers Mabove Munder Mspot Mvalue) (zwM cI cJ aM Mnow Mread Mpast Mchanges Mtext Mletters Mheads Msets Mballots Mranks Mloads Mbelow Morder Melected Mmembers Mabove Munder u.2.1 u.2.2) (u.1) := by
  refine zk_enter (cc := cX5_takesSet) (maxL := 2) (ret := some .boolean) (own := RX5) (Qf := fun A => QwI D (zwM cI cJ aM Mnow Mread Mpast Mchanges Mtext Mletters Mheads Msets Mballots Mranks Mloads Mbelow Morder Melected Mmembers Mabove Munder u.2.1 u.2.2) (u.1) A) (by decide) rfl rfl (Nat.le_of_ble_eq_true rfl) ?_
  intro p e s m args below meth c A Q H locs ls hC hQ hw hl
  obtain ⟨hx, hb, hml, hr, hts, hown, hlocks, hN, hK, hA⟩ := hC
  have hl : lv_has ls 2 [(0, .ref (aM 0))] := hl
  have hiX5 : ∀ w ∈ u_ws RX5 TX5 19, w ∈ wsX5_takesSet := by decide +kernel
  have hq0 := hts (.fieldLink RX5 59 "LoadCouncilModel" "value" "I") (by decide +kernel)
  have hq1 := hts (.fieldLink RX5 19 "LoadCouncilModel" "text" "[I") (by decide +kernel)
  have hq2 := hts (.fieldLink RX5 56 "LoadCouncilModel" "spot" "I") (by decide +kernel)
  have b68 : ∀ (Mspot : Int32) (Mvalue : Int32), fX5_takesSet_b68 N Mspot Mvalue = some u → ∀ (H : Heap) (locs : List Loc) (ls : Array Slot), Wd D A s.heap (zwM cI cJ aM Mnow Mread Mpast Mchanges Mtext Mletters Mheads Msets Mballots Mranks Mloads Mbelow Morder Melected Mmembers Mabove Munder Mspot Mvalue) H locs → lv_has ls 2 [(0, .ref (aM 0))] → W p l e (zk_rm 2 42) s m args below meth c H locs 0 0 Q (F0 m 68 ls []) := by
    intro Mspot Mvalue hf H locs ls hw hl
    unfold fX5_takesSet_b68 at hf
    refine lv_aload_n hx hb dX5_takesSet_68 rfl (lv_at hl 0 rfl) ?_
    refine va_get (D := D) (ci := 5) (v := .int Mvalue) (C := RX5) (T := TX5) (N := 19) hx hb hts hiX5 hown hK hw.1 0 rfl rfl 18 (by decide) hq0 (fun _ h9 => h9) rfl dX5_takesSet_69 ?_
    refine lv_if_le (tgt := 79) hx hb dX5_takesSet_72 (by decide) (fun c1 => ?_) (fun c1 => ?_)
    · replace hf := zk_t c1 hf
      refine lv_iconst (v := 0) hx hb dX5_takesSet_79 (by decide) ?_
      cases hf
      exact zk_iret hx hb hr hlocks rfl hQ hw [0, 1, 2, 3, 4, 5, 6, 7, 8, 9, 10, 11] rfl (by decide) dX5_takesSet_80
    · replace hf := zk_f c1 hf
      refine lv_iconst (v := 1) hx hb dX5_takesSet_75 (by decide) ?_
      refine lv_goto (tgt := 80) hx hb dX5_takesSet_76 (by decide) ?_
      cases hf
      exact zk_iret hx hb hr hlocks rfl hQ hw [0, 1, 2, 3, 4, 5, 6, 7, 8, 9, 10, 11] rfl (by decide) dX5_takesSet_80
  have b7 : ∀ (n7 : Nat), ∀ (x1 : Int32) (Mspot : Int32) (Mvalue : Int32), fX5_takesSet_b7 N n7 x1 Mread Mtext Mletters Mspot Mvalue = some u → ∀ (H : Heap) (locs : List Loc) (ls : Array Slot), Wd D A s.heap (zwM cI cJ aM Mnow Mread Mpast Mchanges Mtext Mletters Mheads Msets Mballots Mranks Mloads Mbelow Morder Melected Mmembers Mabove Munder Mspot Mvalue) H locs → lv_has ls 2 [(0, .ref (aM 0)), (1, .int x1)] → W p l e (zk_rm 2 42) s m args below meth c H locs 0 0 Q (F0 m 7 ls []) := by
    intro n7
    induction n7 with
    | zero =>
      intro x1 Mspot Mvalue hf
      exact zk_none hf
    | succ n7 ih7 =>
      intro x1 Mspot Mvalue hf H locs ls hw hl
      rw [fX5_takesSet_b7] at hf
      refine lv_aload_n hx hb dX5_takesSet_7 rfl (lv_at hl 0 rfl) ?_
      obtain ⟨u2, e3, hf⟩ := zk_bd hf
      refine zk_calli (wc := zwM cI cJ aM Mnow Mread Mpast Mchanges Mtext Mletters Mheads Msets Mballots Mranks Mloads Mbelow Morder Melected Mmembers Mabove Munder Mspot Mvalue) (wr := []) hw hA [0, 1, 2, 3, 4, 5, 6, 7, 8, 9, 10, 11] [] rfl rfl (by decide) (by decide) (va_runV (C := RX5) (As := []) (rest := []) ⟨hx, hb, hml, hown, hts⟩ (kX5_isName l D cI cJ cO N aM Mnow Mread Mpast Mchanges Mtext Mletters Mheads Msets Mballots Mranks Mloads Mbelow Morder Melected Mmembers Mabove Munder Mspot Mvalue u2 e3 H.size) (cwV 0 hts gX5_takesSet_X5_isName rfl rfl rfl (by decide +kernel) ⟨Nat.le_of_ble_eq_true rfl, Nat.le_of_ble_eq_true rfl⟩) (zk_preV (wc := zwM cI cJ aM Mnow Mread Mpast Mchanges Mtext Mletters Mheads Msets Mballots Mranks Mloads Mbelow Morder Melected Mmembers Mabove Munder Mspot Mvalue) hN hK hw [0, 1, 2, 3, 4, 5, 6, 7, 8, 9, 10, 11] rfl (by decide) 0 5 rfl rfl) rfl rfl hl.1 rfl (lv_room (Nat.le_of_ble_eq_true rfl)) dX5_takesSet_8 ⟨Nat.zero_le _, Nat.zero_le _⟩) (fun H locs hw => ?_)
      have hw : Wd D A s.heap (zwM cI cJ aM Mnow Mread Mpast Mchanges Mtext Mletters Mheads Msets Mballots Mranks Mloads Mbelow Morder Melected Mmembers Mabove Munder Mspot Mvalue) H locs := hw
      refine lv_if_eq (tgt := 68) hx hb dX5_takesSet_11 (by decide) (fun c4 => ?_) (fun c4 => ?_)
      · replace hf := zk_t c4 hf
        exact b68 Mspot Mvalue hf H locs ls hw (lv_sub hl [0] rfl)
      · replace hf := zk_f c4 hf
        refine lv_aload_n hx hb dX5_takesSet_14 rfl (lv_at hl 0 rfl) ?_
        refine va_get (D := D) (ci := 5) (v := .ref (aM 4)) (C := RX5) (T := TX5) (N := 19) hx hb hts hiX5 hown hK hw.1 0 rfl rfl 4 (by decide) hq1 (fun _ h9 => h9) rfl dX5_takesSet_15 ?_
        refine lv_aload_n hx hb dX5_takesSet_18 rfl (lv_at hl 0 rfl) ?_
        refine va_get (D := D) (ci := 5) (v := .int Mspot) (C := RX5) (T := TX5) (N := 19) hx hb hts hiX5 hown hK hw.1 0 rfl rfl 17 (by decide) hq2 (fun _ h9 => h9) rfl dX5_takesSet_19 ?_
        obtain ⟨h5, hf⟩ := zk_ck hf
        refine zk_iald hx hb hK hw 4 rfl h5 (j := Mspot.toNatClampNeg) rfl dX5_takesSet_22 ?_
        refine lv_bipush (v := 97) hx hb dX5_takesSet_23 (by decide) ?_
        refine lv_isub hx hb dX5_takesSet_25 ?_
        refine lv_iload_n hx hb dX5_takesSet_26 rfl (lv_at hl 1 rfl) ?_
        refine lv_icmp_le (tgt := 68) hx hb dX5_takesSet_27 (by decide) (fun c6 => ?_) (fun c6 => ?_)
        · replace hf := zk_t c6 hf
          exact b68 Mspot Mvalue hf H locs ls hw (lv_sub hl [0] rfl)
        · replace hf := zk_f c6 hf
          refine lv_aload_n hx hb dX5_takesSet_30 rfl (lv_at hl 0 rfl) ?_
          refine va_get (D := D) (ci := 5) (v := .ref (aM 4)) (C := RX5) (T := TX5) (N := 19) hx hb hts hiX5 hown hK hw.1 0 rfl rfl 4 (by decide) hq1 (fun _ h9 => h9) rfl dX5_takesSet_31 ?_
          refine lv_aload_n hx hb dX5_takesSet_34 rfl (lv_at hl 0 rfl) ?_
          refine va_get (D := D) (ci := 5) (v := .int Mspot) (C := RX5) (T := TX5) (N := 19) hx hb hts hiX5 hown hK hw.1 0 rfl rfl 17 (by decide) hq2 (fun _ h9 => h9) rfl dX5_takesSet_35 ?_
          refine zk_iald hx hb hK hw 4 rfl h5 (j := Mspot.toNatClampNeg) rfl dX5_takesSet_38 ?_
          refine lv_bipush (v := 97) hx hb dX5_takesSet_39 (by decide) ?_
          refine lv_isub hx hb dX5_takesSet_41 ?_
          refine lv_istore_n (lv' := [(1, .int ((Mtext Mspot.toNatClampNeg) - (97 : Int32))), (0, .ref (aM 0))]) hx hb dX5_takesSet_42 rfl hl (by decide) rfl (fun ls hl => ?_)
          refine lv_aload_n hx hb dX5_takesSet_43 rfl (lv_at hl 1 rfl) ?_
          refine lv_dup hx hb dX5_takesSet_44 rfl ?_
          refine va_get (D := D) (ci := 5) (v := .int Mvalue) (C := RX5) (T := TX5) (N := 19) hx hb hts hiX5 hown hK hw.1 0 rfl rfl 18 (by decide) hq0 (fun _ h9 => h9) rfl dX5_takesSet_45 ?_
          refine lv_iconst (v := 1) hx hb dX5_takesSet_48 (by decide) ?_
          refine lv_iload_n hx hb dX5_takesSet_49 rfl (lv_at hl 0 rfl) ?_
          refine lv_ishl hx hb dX5_takesSet_50 ?_
          refine lv_ior hx hb dX5_takesSet_51 ?_
          refine va_put (D := D) (ci := 5) (v := .int (Mvalue ||| ((1 : Int32) <<< (((Mtext Mspot.toNatClampNeg) - (97 : Int32)) &&& 31)))) (C := RX5) (T := TX5) (N := 19) hx hb hts hiX5 tyX5 tyX5_ok nmX5 hown hK hw.1 hw.2.1 hw.2.2 0 rfl rfl 18 (by decide) hq0 (fun _ h9 => h9) rfl (tyX5_ok 18 (by decide)) rfl rfl (Nat.le_of_ble_eq_true rfl) dX5_takesSet_52 (fun H locs hP hD hS => ?_)
          have hw : Wd D A s.heap (zwM cI cJ aM Mnow Mread Mpast Mchanges Mtext Mletters Mheads Msets Mballots Mranks Mloads Mbelow Morder Melected Mmembers Mabove Munder Mspot (Mvalue ||| ((1 : Int32) <<< (((Mtext Mspot.toNatClampNeg) - (97 : Int32)) &&& 31)))) H locs := ⟨hP, hD, hS⟩
          clear hP hD hS
          refine lv_aload_n hx hb dX5_takesSet_55 rfl (lv_at hl 1 rfl) ?_
          refine lv_dup hx hb dX5_takesSet_56 rfl ?_
          refine va_get (D := D) (ci := 5) (v := .int Mspot) (C := RX5) (T := TX5) (N := 19) hx hb hts hiX5 hown hK hw.1 0 rfl rfl 17 (by decide) hq2 (fun _ h9 => h9) rfl dX5_takesSet_57 ?_
          refine lv_iconst (v := 1) hx hb dX5_takesSet_60 (by decide) ?_
          refine lv_iadd hx hb dX5_takesSet_61 ?_
          refine va_put (D := D) (ci := 5) (v := .int (Mspot + (1 : Int32))) (C := RX5) (T := TX5) (N := 19) hx hb hts hiX5 tyX5 tyX5_ok nmX5 hown hK hw.1 hw.2.1 hw.2.2 0 rfl rfl 17 (by decide) hq2 (fun _ h9 => h9) rfl (tyX5_ok 17 (by decide)) rfl rfl (Nat.le_of_ble_eq_true rfl) dX5_takesSet_62 (fun H locs hP hD hS => ?_)
          have hw : Wd D A s.heap (zwM cI cJ aM Mnow Mread Mpast Mchanges Mtext Mletters Mheads Msets Mballots Mranks Mloads Mbelow Morder Melected Mmembers Mabove Munder (Mspot + (1 : Int32)) (Mvalue ||| ((1 : Int32) <<< (((Mtext Mspot.toNatClampNeg) - (97 : Int32)) &&& 31)))) H locs := ⟨hP, hD, hS⟩
          clear hP hD hS
          refine lv_goto (tgt := 7) hx hb dX5_takesSet_65 (by decide) ?_
          exact ih7 ((Mtext Mspot.toNatClampNeg) - (97 : Int32)) (Mspot + (1 : Int32)) (Mvalue ||| ((1 : Int32) <<< (((Mtext Mspot.toNatClampNeg) - (97 : Int32)) &&& 31))) hf H locs ls hw (lv_sub hl [1, 0] rfl)
  unfold fX5_takesSet at hf
  refine lv_aload_n hx hb dX5_takesSet_0 rfl (lv_at hl 0 rfl) ?_
  refine lv_iconst (v := 0) hx hb dX5_takesSet_1 (by decide) ?_
  refine va_put (D := D) (ci := 5) (v := .int (0 : Int32)) (C := RX5) (T := TX5) (N := 19) hx hb hts hiX5 tyX5 tyX5_ok nmX5 hown hK hw.1 hw.2.1 hw.2.2 0 rfl rfl 18 (by decide) hq0 (fun _ h9 => h9) rfl (tyX5_ok 18 (by decide)) rfl rfl (Nat.le_of_ble_eq_true rfl) dX5_takesSet_2 (fun H locs hP hD hS => ?_)
  have hw : Wd D A s.heap (zwM cI cJ aM Mnow Mread Mpast Mchanges Mtext Mletters Mheads Msets Mballots Mranks Mloads Mbelow Morder Melected Mmembers Mabove Munder Mspot (0 : Int32)) H locs := ⟨hP, hD, hS⟩
  clear hP hD hS
  refine lv_iconst (v := (-1)) hx hb dX5_takesSet_5 (by decide) ?_
  refine lv_istore_n (lv' := [(1, .int (-1 : Int32)), (0, .ref (aM 0))]) hx hb dX5_takesSet_6 rfl hl (by decide) rfl (fun ls hl => ?_)
  exact b7 N (-1 : Int32) Mspot (0 : Int32) hf H locs ls hw (lv_sub hl [1, 0] rfl)
set_option maxHeartbeats 4000000 in
set_option maxRecDepth 100000 in
theorem kX5_readVoters (l : Launch) (D : va_G) (cI cJ cO : ClassId) (N : Nat) (aM : Nat → Nat) (Mnow : Nat → Int32) (Mread : Nat → Int32) (Mpast : Nat → Int32) (Mchanges : Int32) (Mtext : Nat → Int32) (Mletters : Int32) (Mheads : Nat → Int32) (Msets : Nat → Int32) (Mballots : Int32) (Mranks : Nat → Int32) (Mloads : Nat → Int64) (Mbelow : Int64) (Morder : Nat → Int32) (Melected : Int32) (Mmembers : Int32) (Mabove : Nat → Int64) (Munder : Nat → Int64) (Mspot : Int32) (Mvalue : Int32) (u : Int32) (hf : fX5_readVoters N Mread = some u) : CtI l yX5_readVoters wsX5_readVoters (zk_rm 0 0) D cI cJ cO [.ref (aM 0)] (zwM cI cJ aM Mnow Mread Mpast Mchanges Mtext Mletters Mheads Msets Mballots Mranks Mloads Mbelow Morder Melected Mmembers Mabove Munder Mspot Mvalue) (zwM cI cJ aM Mnow Mread Mpast Mchanges Mtext Mletters Mheads Msets Mballots Mranks Mloads Mbelow Morder Melected Mmembers Mabove Munder Mspot Mvalue) (u) := by
  refine zk_enter (cc := cX5_readVoters) (maxL := 3) (ret := some .int) (own := RX5) (Qf := fun A => QwI D (zwM cI cJ aM Mnow Mread Mpast Mchanges Mtext Mletters Mheads Msets Mballots Mranks Mloads Mbelow Morder Melected Mmembers Mabove Munder Mspot Mvalue) (u) A) (by decide) rfl rfl (Nat.le_of_ble_eq_true rfl) ?_
  intro p e s m args below meth c A Q H locs ls hC hQ hw hl
  obtain ⟨hx, hb, hml, hr, hts, hown, hlocks, hN, hK, hA⟩ := hC
  have hl : lv_has ls 3 [(0, .ref (aM 0))] := hl
  have hiX5 : ∀ w ∈ u_ws RX5 TX5 19, w ∈ wsX5_readVoters := by decide +kernel
  have hq0 := hts (.fieldLink RX5 13 "LoadCouncilModel" "read" "[I") (by decide +kernel)
  have b4 : ∀ (n4 : Nat), ∀ (x1 : Int32) (x2 : Int32), fX5_readVoters_b4 N n4 x1 x2 Mread = some u → ∀ (H : Heap) (locs : List Loc) (ls : Array Slot), Wd D A s.heap (zwM cI cJ aM Mnow Mread Mpast Mchanges Mtext Mletters Mheads Msets Mballots Mranks Mloads Mbelow Morder Melected Mmembers Mabove Munder Mspot Mvalue) H locs → lv_has ls 3 [(0, .ref (aM 0)), (1, .int x1), (2, .int x2)] → W p l e (zk_rm 0 0) s m args below meth c H locs 0 0 Q (F0 m 4 ls []) := by
    intro n4
    induction n4 with
    | zero =>
      intro x1 x2 hf
      exact zk_none hf
    | succ n4 ih4 =>
      intro x1 x2 hf H locs ls hw hl
      rw [fX5_readVoters_b4] at hf
      refine lv_iload_n hx hb dX5_readVoters_4 rfl (lv_at hl 2 rfl) ?_
      refine lv_aload_n hx hb dX5_readVoters_5 rfl (lv_at hl 0 rfl) ?_
      refine va_get (D := D) (ci := 5) (v := .ref (aM 2)) (C := RX5) (T := TX5) (N := 19) hx hb hts hiX5 hown hK hw.1 0 rfl rfl 1 (by decide) hq0 (fun _ h9 => h9) rfl dX5_readVoters_6 ?_
      refine lv_iconst (v := 1) hx hb dX5_readVoters_9 (by decide) ?_
      refine zk_iald hx hb hK hw 2 rfl (zk_in (by decide)) (j := 1) rfl dX5_readVoters_10 ?_
      refine lv_icmp_ge (tgt := 31) hx hb dX5_readVoters_11 (by decide) (fun c1 => ?_) (fun c1 => ?_)
      · replace hf := zk_t c1 hf
        refine lv_iload_n hx hb dX5_readVoters_31 rfl (lv_at hl 1 rfl) ?_
        cases hf
        exact zk_iret hx hb hr hlocks rfl hQ hw [0, 1, 2, 3, 4, 5, 6, 7, 8, 9, 10, 11] rfl (by decide) dX5_readVoters_32
      · replace hf := zk_f c1 hf
        refine lv_iload_n hx hb dX5_readVoters_14 rfl (lv_at hl 1 rfl) ?_
        refine lv_aload_n hx hb dX5_readVoters_15 rfl (lv_at hl 0 rfl) ?_
        refine va_get (D := D) (ci := 5) (v := .ref (aM 2)) (C := RX5) (T := TX5) (N := 19) hx hb hts hiX5 hown hK hw.1 0 rfl rfl 1 (by decide) hq0 (fun _ h9 => h9) rfl dX5_readVoters_16 ?_
        refine lv_iconst (v := 2) hx hb dX5_readVoters_19 (by decide) ?_
        refine lv_iload_n hx hb dX5_readVoters_20 rfl (lv_at hl 2 rfl) ?_
        refine lv_iadd hx hb dX5_readVoters_21 ?_
        obtain ⟨h2, hf⟩ := zk_ck hf
        refine zk_iald hx hb hK hw 2 rfl h2 (j := ((2 : Int32) + x2).toNatClampNeg) rfl dX5_readVoters_22 ?_
        refine lv_iadd hx hb dX5_readVoters_23 ?_
        refine lv_istore_n (lv' := [(1, .int (x1 + (Mread (((2 : Int32) + x2).toNatClampNeg)))), (0, .ref (aM 0)), (2, .int x2)]) hx hb dX5_readVoters_24 rfl hl (by decide) rfl (fun ls hl => ?_)
        refine lv_iinc (v := (x2 + (1 : Int32))) (lv' := [(2, .int (x2 + (1 : Int32))), (1, .int (x1 + (Mread (((2 : Int32) + x2).toNatClampNeg)))), (0, .ref (aM 0))]) hx hb dX5_readVoters_25 hl (k := 2) rfl rfl (by decide) rfl (fun ls hl => ?_)
        refine lv_goto (tgt := 4) hx hb dX5_readVoters_28 (by decide) ?_
        exact ih4 (x1 + (Mread (((2 : Int32) + x2).toNatClampNeg))) (x2 + (1 : Int32)) hf H locs ls hw (lv_sub hl [2, 1, 0] rfl)
  unfold fX5_readVoters at hf
  refine lv_iconst (v := 0) hx hb dX5_readVoters_0 (by decide) ?_
  refine lv_istore_n (lv' := [(1, .int (0 : Int32)), (0, .ref (aM 0))]) hx hb dX5_readVoters_1 rfl hl (by decide) rfl (fun ls hl => ?_)
  refine lv_iconst (v := 0) hx hb dX5_readVoters_2 (by decide) ?_
  refine lv_istore_n (lv' := [(2, .int (0 : Int32)), (1, .int (0 : Int32)), (0, .ref (aM 0))]) hx hb dX5_readVoters_3 rfl hl (by decide) rfl (fun ls hl => ?_)
  exact b4 N (0 : Int32) (0 : Int32) hf H locs ls hw (lv_sub hl [2, 1, 0] rfl)
set_option maxHeartbeats 4000000 in
set_option maxRecDepth 100000 in
theorem kX5_takesBallot (l : Launch) (D : va_G) (cI cJ cO : ClassId) (N : Nat) (aM : Nat → Nat) (Mnow : Nat → Int32) (Mread : Nat → Int32) (Mpast : Nat → Int32) (Mchanges : Int32) (Mtext : Nat → Int32) (Mletters : Int32) (Mheads : Nat → Int32) (Msets : Nat → Int32) (Mballots : Int32) (Mranks : Nat → Int32) (Mloads : Nat → Int64) (Mbelow : Int64) (Morder : Nat → Int32) (Melected : Int32) (Mmembers : Int32) (Mabove : Nat → Int64) (Munder : Nat → Int64) (Mspot : Int32) (Mvalue : Int32) (u : Int32 × (Nat → Int32) × (Int32) × (Int32)) (hf : fX5_takesBallot N Mread Mtext Mletters Mspot Mvalue = some u) : CtI l yX5_takesBallot wsX5_takesBallot (zk_rm 3 63) D cI cJ cO [.ref (aM 0)] (zwM cI cJ aM Mnow Mread Mpast Mchanges Mtext Mletters Mheads Msets Mballots Mranks Mloads Mbelow Morder Melected Mmembers Mabove Munder Mspot Mvalue) (zwM cI cJ aM Mnow u.2.1 Mpast Mchanges Mtext Mletters Mheads Msets Mballots Mranks Mloads Mbelow Morder Melected Mmembers Mabove Munder u.2.2.1 u.2.2.2) (u.1) := by
  refine zk_enter (cc := cX5_takesBallot) (maxL := 2) (ret := some .boolean) (own := RX5) (Qf := fun A => QwI D (zwM cI cJ aM Mnow u.2.1 Mpast Mchanges Mtext Mletters Mheads Msets Mballots Mranks Mloads Mbelow Morder Melected Mmembers Mabove Munder u.2.2.1 u.2.2.2) (u.1) A) (by decide) rfl rfl (Nat.le_of_ble_eq_true rfl) ?_
  intro p e s m args below meth c A Q H locs ls hC hQ hw hl
  obtain ⟨hx, hb, hml, hr, hts, hown, hlocks, hN, hK, hA⟩ := hC
  have hl : lv_has ls 2 [(0, .ref (aM 0))] := hl
  have hiX5 : ∀ w ∈ u_ws RX5 TX5 19, w ∈ wsX5_takesBallot := by decide +kernel
  have hq0 := hts (.fieldLink RX5 13 "LoadCouncilModel" "read" "[I") (by decide +kernel)
  have hq1 := hts (.fieldLink RX5 59 "LoadCouncilModel" "value" "I") (by decide +kernel)
  unfold fX5_takesBallot at hf
  refine lv_aload_n hx hb dX5_takesBallot_0 rfl (lv_at hl 0 rfl) ?_
  refine lv_iconst (v := 1) hx hb dX5_takesBallot_1 (by decide) ?_
  refine lv_bipush (v := 20) hx hb dX5_takesBallot_2 (by decide) ?_
  obtain ⟨u1, e2, hf⟩ := zk_bd hf
  refine zk_calli (wc := zwM cI cJ aM Mnow Mread Mpast Mchanges Mtext Mletters Mheads Msets Mballots Mranks Mloads Mbelow Morder Melected Mmembers Mabove Munder Mspot Mvalue) (wr := []) hw hA [0, 1, 2, 3, 4, 5, 6, 7, 8, 9, 10, 11] [] rfl rfl (by decide) (by decide) (va_runV (C := RX5) (As := [.int (1 : Int32), .int (20 : Int32)]) (rest := []) ⟨hx, hb, hml, hown, hts⟩ (kX5_takesNumber l D cI cJ cO N aM (1 : Int32) (20 : Int32) Mnow Mread Mpast Mchanges Mtext Mletters Mheads Msets Mballots Mranks Mloads Mbelow Morder Melected Mmembers Mabove Munder Mspot Mvalue u1 e2 H.size) (cwV 2 hts gX5_takesBallot_X5_takesNumber rfl rfl rfl (by decide +kernel) ⟨Nat.le_of_ble_eq_true rfl, Nat.le_of_ble_eq_true rfl⟩) (zk_preV (wc := zwM cI cJ aM Mnow Mread Mpast Mchanges Mtext Mletters Mheads Msets Mballots Mranks Mloads Mbelow Morder Melected Mmembers Mabove Munder Mspot Mvalue) hN hK hw [0, 1, 2, 3, 4, 5, 6, 7, 8, 9, 10, 11] rfl (by decide) 0 5 rfl rfl) rfl rfl hl.1 rfl (lv_room (Nat.le_of_ble_eq_true rfl)) dX5_takesBallot_4 ⟨Nat.zero_le _, Nat.zero_le _⟩) (fun H locs hw => ?_)
  have hw : Wd D A s.heap (zwM cI cJ aM Mnow Mread Mpast Mchanges Mtext Mletters Mheads Msets Mballots Mranks Mloads Mbelow Morder Melected Mmembers Mabove Munder u1.2.1 u1.2.2) H locs := hw
  refine lv_if_eq (tgt := 21) hx hb dX5_takesBallot_7 (by decide) (fun c3 => ?_) (fun c3 => ?_)
  · replace hf := zk_t c3 hf
    refine lv_iconst (v := 0) hx hb dX5_takesBallot_21 (by decide) ?_
    cases hf
    exact zk_iret hx hb hr hlocks rfl hQ hw [0, 1, 2, 3, 4, 5, 6, 7, 8, 9, 10, 11] rfl (by decide) dX5_takesBallot_22
  · replace hf := zk_f c3 hf
    refine lv_aload_n hx hb dX5_takesBallot_10 rfl (lv_at hl 0 rfl) ?_
    refine va_get (D := D) (ci := 5) (v := .ref (aM 2)) (C := RX5) (T := TX5) (N := 19) hx hb hts hiX5 hown hK hw.1 0 rfl rfl 1 (by decide) hq0 (fun _ h9 => h9) rfl dX5_takesBallot_11 ?_
    refine lv_iconst (v := 1) hx hb dX5_takesBallot_14 (by decide) ?_
    refine zk_iald hx hb hK hw 2 rfl (zk_in (by decide)) (j := 1) rfl dX5_takesBallot_15 ?_
    refine lv_bipush (v := 10) hx hb dX5_takesBallot_16 (by decide) ?_
    refine lv_icmp_ne (tgt := 23) hx hb dX5_takesBallot_18 (by decide) (fun c4 => ?_) (fun c4 => ?_)
    · replace hf := zk_f c4 hf
      refine lv_aload_n hx hb dX5_takesBallot_23 rfl (lv_at hl 0 rfl) ?_
      refine va_get (D := D) (ci := 5) (v := .int u1.2.2) (C := RX5) (T := TX5) (N := 19) hx hb hts hiX5 hown hK hw.1 0 rfl rfl 18 (by decide) hq1 (fun _ h9 => h9) rfl dX5_takesBallot_24 ?_
      refine lv_istore_n (lv' := [(1, .int u1.2.2), (0, .ref (aM 0))]) hx hb dX5_takesBallot_27 rfl hl (by decide) rfl (fun ls hl => ?_)
      refine lv_aload_n hx hb dX5_takesBallot_28 rfl (lv_at hl 1 rfl) ?_
      refine lv_bipush (v := 44) hx hb dX5_takesBallot_29 (by decide) ?_
      obtain ⟨u5, e6, hf⟩ := zk_bd hf
      refine zk_calli (wc := zwM cI cJ aM Mnow Mread Mpast Mchanges Mtext Mletters Mheads Msets Mballots Mranks Mloads Mbelow Morder Melected Mmembers Mabove Munder u1.2.1 u1.2.2) (wr := []) hw hA [0, 1, 2, 3, 4, 5, 6, 7, 8, 9, 10, 11] [] rfl rfl (by decide) (by decide) (va_runV (C := RX5) (As := [.int (44 : Int32)]) (rest := []) ⟨hx, hb, hml, hown, hts⟩ (kX5_takes l D cI cJ cO N aM (44 : Int32) Mnow Mread Mpast Mchanges Mtext Mletters Mheads Msets Mballots Mranks Mloads Mbelow Morder Melected Mmembers Mabove Munder u1.2.1 u1.2.2 u5 e6 H.size) (cwV 1 hts gX5_takesBallot_X5_takes rfl rfl rfl (by decide +kernel) ⟨Nat.le_of_ble_eq_true rfl, Nat.le_of_ble_eq_true rfl⟩) (zk_preV (wc := zwM cI cJ aM Mnow Mread Mpast Mchanges Mtext Mletters Mheads Msets Mballots Mranks Mloads Mbelow Morder Melected Mmembers Mabove Munder u1.2.1 u1.2.2) hN hK hw [0, 1, 2, 3, 4, 5, 6, 7, 8, 9, 10, 11] rfl (by decide) 0 5 rfl rfl) rfl rfl hl.1 rfl (lv_room (Nat.le_of_ble_eq_true rfl)) dX5_takesBallot_31 ⟨Nat.zero_le _, Nat.zero_le _⟩) (fun H locs hw => ?_)
      have hw : Wd D A s.heap (zwM cI cJ aM Mnow Mread Mpast Mchanges Mtext Mletters Mheads Msets Mballots Mranks Mloads Mbelow Morder Melected Mmembers Mabove Munder u5.2 u1.2.2) H locs := hw
      refine lv_if_eq (tgt := 55) hx hb dX5_takesBallot_34 (by decide) (fun c7 => ?_) (fun c7 => ?_)
      · replace hf := zk_t c7 hf
        refine lv_iconst (v := 0) hx hb dX5_takesBallot_55 (by decide) ?_
        cases hf
        exact zk_iret hx hb hr hlocks rfl hQ hw [0, 1, 2, 3, 4, 5, 6, 7, 8, 9, 10, 11] rfl (by decide) dX5_takesBallot_56
      · replace hf := zk_f c7 hf
        refine lv_aload_n hx hb dX5_takesBallot_37 rfl (lv_at hl 1 rfl) ?_
        obtain ⟨u8, e9, hf⟩ := zk_bd hf
        refine zk_calli (wc := zwM cI cJ aM Mnow Mread Mpast Mchanges Mtext Mletters Mheads Msets Mballots Mranks Mloads Mbelow Morder Melected Mmembers Mabove Munder u5.2 u1.2.2) (wr := []) hw hA [0, 1, 2, 3, 4, 5, 6, 7, 8, 9, 10, 11] [] rfl rfl (by decide) (by decide) (va_runV (C := RX5) (As := []) (rest := []) ⟨hx, hb, hml, hown, hts⟩ (kX5_takesSet l D cI cJ cO N aM Mnow Mread Mpast Mchanges Mtext Mletters Mheads Msets Mballots Mranks Mloads Mbelow Morder Melected Mmembers Mabove Munder u5.2 u1.2.2 u8 e9 H.size) (cwV 0 hts gX5_takesBallot_X5_takesSet rfl rfl rfl (by decide +kernel) ⟨Nat.le_of_ble_eq_true rfl, Nat.le_of_ble_eq_true rfl⟩) (zk_preV (wc := zwM cI cJ aM Mnow Mread Mpast Mchanges Mtext Mletters Mheads Msets Mballots Mranks Mloads Mbelow Morder Melected Mmembers Mabove Munder u5.2 u1.2.2) hN hK hw [0, 1, 2, 3, 4, 5, 6, 7, 8, 9, 10, 11] rfl (by decide) 0 5 rfl rfl) rfl rfl hl.1 rfl (lv_room (Nat.le_of_ble_eq_true rfl)) dX5_takesBallot_38 ⟨Nat.zero_le _, Nat.zero_le _⟩) (fun H locs hw => ?_)
        have hw : Wd D A s.heap (zwM cI cJ aM Mnow Mread Mpast Mchanges Mtext Mletters Mheads Msets Mballots Mranks Mloads Mbelow Morder Melected Mmembers Mabove Munder u8.2.1 u8.2.2) H locs := hw
        refine lv_if_eq (tgt := 55) hx hb dX5_takesBallot_41 (by decide) (fun c10 => ?_) (fun c10 => ?_)
        · replace hf := zk_t c10 hf
          refine lv_iconst (v := 0) hx hb dX5_takesBallot_55 (by decide) ?_
          cases hf
          exact zk_iret hx hb hr hlocks rfl hQ hw [0, 1, 2, 3, 4, 5, 6, 7, 8, 9, 10, 11] rfl (by decide) dX5_takesBallot_56
        · replace hf := zk_f c10 hf
          refine lv_aload_n hx hb dX5_takesBallot_44 rfl (lv_at hl 1 rfl) ?_
          obtain ⟨u11, e12, hf⟩ := zk_bd hf
          refine zk_calli (wc := zwM cI cJ aM Mnow Mread Mpast Mchanges Mtext Mletters Mheads Msets Mballots Mranks Mloads Mbelow Morder Melected Mmembers Mabove Munder u8.2.1 u8.2.2) (wr := []) hw hA [0, 1, 2, 3, 4, 5, 6, 7, 8, 9, 10, 11] [] rfl rfl (by decide) (by decide) (va_runV (C := RX5) (As := []) (rest := []) ⟨hx, hb, hml, hown, hts⟩ (kX5_readVoters l D cI cJ cO N aM Mnow Mread Mpast Mchanges Mtext Mletters Mheads Msets Mballots Mranks Mloads Mbelow Morder Melected Mmembers Mabove Munder u8.2.1 u8.2.2 u11 e12 H.size) (cwV 0 hts gX5_takesBallot_X5_readVoters rfl rfl rfl (by decide +kernel) ⟨Nat.le_of_ble_eq_true rfl, Nat.le_of_ble_eq_true rfl⟩) (zk_preV (wc := zwM cI cJ aM Mnow Mread Mpast Mchanges Mtext Mletters Mheads Msets Mballots Mranks Mloads Mbelow Morder Melected Mmembers Mabove Munder u8.2.1 u8.2.2) hN hK hw [0, 1, 2, 3, 4, 5, 6, 7, 8, 9, 10, 11] rfl (by decide) 0 5 rfl rfl) rfl rfl hl.1 rfl (lv_room (Nat.le_of_ble_eq_true rfl)) dX5_takesBallot_45 ⟨Nat.zero_le _, Nat.zero_le _⟩) (fun H locs hw => ?_)
          have hw : Wd D A s.heap (zwM cI cJ aM Mnow Mread Mpast Mchanges Mtext Mletters Mheads Msets Mballots Mranks Mloads Mbelow Morder Melected Mmembers Mabove Munder u8.2.1 u8.2.2) H locs := hw
          refine lv_iload_n hx hb dX5_takesBallot_48 rfl (lv_at hl 0 rfl) ?_
          refine lv_iadd hx hb dX5_takesBallot_49 ?_
          refine lv_bipush (v := 40) hx hb dX5_takesBallot_50 (by decide) ?_
          refine lv_icmp_le (tgt := 57) hx hb dX5_takesBallot_52 (by decide) (fun c13 => ?_) (fun c13 => ?_)
          · replace hf := zk_t c13 hf
            refine lv_aload_n hx hb dX5_takesBallot_57 rfl (lv_at hl 1 rfl) ?_
            refine va_get (D := D) (ci := 5) (v := .ref (aM 2)) (C := RX5) (T := TX5) (N := 19) hx hb hts hiX5 hown hK hw.1 0 rfl rfl 1 (by decide) hq0 (fun _ h9 => h9) rfl dX5_takesBallot_58 ?_
            refine lv_iconst (v := 2) hx hb dX5_takesBallot_61 (by decide) ?_
            refine lv_aload_n hx hb dX5_takesBallot_62 rfl (lv_at hl 1 rfl) ?_
            refine va_get (D := D) (ci := 5) (v := .ref (aM 2)) (C := RX5) (T := TX5) (N := 19) hx hb hts hiX5 hown hK hw.1 0 rfl rfl 1 (by decide) hq0 (fun _ h9 => h9) rfl dX5_takesBallot_63 ?_
            refine lv_iconst (v := 1) hx hb dX5_takesBallot_66 (by decide) ?_
            refine zk_iald hx hb hK hw 2 rfl (zk_in (by decide)) (j := 1) rfl dX5_takesBallot_67 ?_
            refine lv_iadd hx hb dX5_takesBallot_68 ?_
            refine lv_iload_n hx hb dX5_takesBallot_69 rfl (lv_at hl 0 rfl) ?_
            obtain ⟨h14, hf⟩ := zk_ck hf
            refine zk_iast hx hb hK hw 2 rfl h14 (j := ((2 : Int32) + (Mread 1)).toNatClampNeg) rfl dX5_takesBallot_70 (fun H locs hw => ?_)
            have hw : Wd D A s.heap (zwM cI cJ aM Mnow (upd Mread (((2 : Int32) + (Mread 1)).toNatClampNeg) u1.2.2) Mpast Mchanges Mtext Mletters Mheads Msets Mballots Mranks Mloads Mbelow Morder Melected Mmembers Mabove Munder u8.2.1 u8.2.2) H locs := hw
            refine lv_aload_n hx hb dX5_takesBallot_71 rfl (lv_at hl 1 rfl) ?_
            refine va_get (D := D) (ci := 5) (v := .ref (aM 2)) (C := RX5) (T := TX5) (N := 19) hx hb hts hiX5 hown hK hw.1 0 rfl rfl 1 (by decide) hq0 (fun _ h9 => h9) rfl dX5_takesBallot_72 ?_
            refine lv_bipush (v := 12) hx hb dX5_takesBallot_75 (by decide) ?_
            refine lv_aload_n hx hb dX5_takesBallot_77 rfl (lv_at hl 1 rfl) ?_
            refine va_get (D := D) (ci := 5) (v := .ref (aM 2)) (C := RX5) (T := TX5) (N := 19) hx hb hts hiX5 hown hK hw.1 0 rfl rfl 1 (by decide) hq0 (fun _ h9 => h9) rfl dX5_takesBallot_78 ?_
            refine lv_iconst (v := 1) hx hb dX5_takesBallot_81 (by decide) ?_
            refine zk_iald hx hb hK hw 2 rfl (zk_in (by decide)) (j := 1) rfl dX5_takesBallot_82 ?_
            refine lv_iadd hx hb dX5_takesBallot_83 ?_
            refine lv_aload_n hx hb dX5_takesBallot_84 rfl (lv_at hl 1 rfl) ?_
            refine va_get (D := D) (ci := 5) (v := .int u8.2.2) (C := RX5) (T := TX5) (N := 19) hx hb hts hiX5 hown hK hw.1 0 rfl rfl 18 (by decide) hq1 (fun _ h9 => h9) rfl dX5_takesBallot_85 ?_
            obtain ⟨h15, hf⟩ := zk_ck hf
            refine zk_iast hx hb hK hw 2 rfl h15 (j := ((12 : Int32) + ((upd Mread (((2 : Int32) + (Mread 1)).toNatClampNeg) u1.2.2) 1)).toNatClampNeg) rfl dX5_takesBallot_88 (fun H locs hw => ?_)
            have hw : Wd D A s.heap (zwM cI cJ aM Mnow (upd (upd Mread (((2 : Int32) + (Mread 1)).toNatClampNeg) u1.2.2) (((12 : Int32) + ((upd Mread (((2 : Int32) + (Mread 1)).toNatClampNeg) u1.2.2) 1)).toNatClampNeg) u8.2.2) Mpast Mchanges Mtext Mletters Mheads Msets Mballots Mranks Mloads Mbelow Morder Melected Mmembers Mabove Munder u8.2.1 u8.2.2) H locs := hw
            refine lv_aload_n hx hb dX5_takesBallot_89 rfl (lv_at hl 1 rfl) ?_
            refine va_get (D := D) (ci := 5) (v := .ref (aM 2)) (C := RX5) (T := TX5) (N := 19) hx hb hts hiX5 hown hK hw.1 0 rfl rfl 1 (by decide) hq0 (fun _ h9 => h9) rfl dX5_takesBallot_90 ?_
            refine lv_iconst (v := 1) hx hb dX5_takesBallot_93 (by decide) ?_
            refine lv_dup2_11 hx hb dX5_takesBallot_94 rfl rfl ?_
            refine zk_iald hx hb hK hw 2 rfl (zk_in (by decide)) (j := 1) rfl dX5_takesBallot_95 ?_
            refine lv_iconst (v := 1) hx hb dX5_takesBallot_96 (by decide) ?_
            refine lv_iadd hx hb dX5_takesBallot_97 ?_
            refine zk_iast hx hb hK hw 2 rfl (zk_in (by decide)) (j := 1) rfl dX5_takesBallot_98 (fun H locs hw => ?_)
            have hw : Wd D A s.heap (zwM cI cJ aM Mnow (upd (upd (upd Mread (((2 : Int32) + (Mread 1)).toNatClampNeg) u1.2.2) (((12 : Int32) + ((upd Mread (((2 : Int32) + (Mread 1)).toNatClampNeg) u1.2.2) 1)).toNatClampNeg) u8.2.2) 1 (((upd (upd Mread (((2 : Int32) + (Mread 1)).toNatClampNeg) u1.2.2) (((12 : Int32) + ((upd Mread (((2 : Int32) + (Mread 1)).toNatClampNeg) u1.2.2) 1)).toNatClampNeg) u8.2.2) 1) + (1 : Int32))) Mpast Mchanges Mtext Mletters Mheads Msets Mballots Mranks Mloads Mbelow Morder Melected Mmembers Mabove Munder u8.2.1 u8.2.2) H locs := hw
            refine lv_iconst (v := 1) hx hb dX5_takesBallot_99 (by decide) ?_
            cases hf
            exact zk_iret hx hb hr hlocks rfl hQ hw [0, 1, 2, 3, 4, 5, 6, 7, 8, 9, 10, 11] rfl (by decide) dX5_takesBallot_100
          · replace hf := zk_f c13 hf
            refine lv_iconst (v := 0) hx hb dX5_takesBallot_55 (by decide) ?_
            cases hf
            exact zk_iret hx hb hr hlocks rfl hQ hw [0, 1, 2, 3, 4, 5, 6, 7, 8, 9, 10, 11] rfl (by decide) dX5_takesBallot_56
    · replace hf := zk_t c4 hf
      refine lv_iconst (v := 0) hx hb dX5_takesBallot_21 (by decide) ?_
      cases hf
      exact zk_iret hx hb hr hlocks rfl hQ hw [0, 1, 2, 3, 4, 5, 6, 7, 8, 9, 10, 11] rfl (by decide) dX5_takesBallot_22
