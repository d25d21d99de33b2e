/-! the law: its loop -/
theorem q_4n {L : Nat} (h : L ≤ 2048) : (nI L - 4).toInt = (L : Int) - 4 := by
  rcases (show 4 ≤ L ∨ L = 0 ∨ L = 1 ∨ L = 2 ∨ L = 3 by omega) with z | rfl | rfl | rfl | rfl
  · rw [show (4 : Int32) = nI 4 from rfl, q_subn z, nI_toInt (by omega)]; omega
  · decide
  · decide
  · decide
  · decide
set_option maxHeartbeats 4000000 in
set_option maxRecDepth 100000 in
theorem law_loop {p : Program} {l : Launch} {e : Env} {s : State} {m : MethodId} {below : List Frame} {meth : Method} {c : Code} {b L : Nat} {xs : Nat → Int32} {D : va_G} {cI cJ cO : ClassId} (C : LC p s m c b L xs D cI cJ cO) (hr : meth.sig.returnType = ret) (hlocks : meth.locks = false) {a am : Nat} : ∀ (n i : Nat), i ≤ L → L + 1 ≤ i + n → ∀ (H : Heap) (locs : List Loc), LH D (fun q : Nat => s.heap.size ≤ q) s.heap cI cJ cO a am H locs → ∀ (ls : Array Slot), lv_has ls 4 [(0, .ref b), (1, .ref a), (2, .ref am), (3, .int (nI i))] → W p l e room_1 s m #[Value.ref b] below meth c H locs 56 1112 (lw_Z below #[Value.ref b] s) (F0 m 18 ls []) := by
  have C0 := C
  obtain ⟨hx, hb, hml, hown, hts, hN, hK, hX, hbl, hL⟩ := C
  have hbA : ¬ (fun q : Nat => s.heap.size ≤ q) b := Nat.not_le.mpr hbl
  intro n
  induction n with
  | zero =>
    intro i h1 h2
    exact absurd h2 (by omega)
  | succ n ih =>
    intro i h1 h2 H locs h ls hl
    have hS : va_S (fun q : Nat => s.heap.size ≤ q) s.heap H locs := by
      obtain ⟨_, _, _, _, _, _, _, _, _, _, _, _, _, _, _, _, _, _, _, _, _, _, _, _, _, _, _, _, _, _, _, _, _, _, _, _, _, _, _, _, _, _, _, _, _, _, _, _, _, _, _, _, _, _, _, _, _, _, _, _, _, _, hw, _⟩ := h
      exact hw.2.2
    refine lv_iload_n hx hb dL_law_18 rfl (lv_at hl 3 rfl) ?_
    refine lv_aload_n hx hb dL_law_19 rfl (lv_at hl 0 rfl) ?_
    refine va_slen hx hb hX hbl hbA hS dL_law_20 ?_
    refine lv_iconst (v := 4) hx hb dL_law_21 (by decide) ?_
    refine lv_isub hx hb dL_law_22 ?_
    refine lv_icmp_gt (tgt := 879) hx hb dL_law_23 (by decide) (fun c1 => ?_) (fun c1 => ?_)
    · refine lv_iconst (v := 1) hx hb dL_law_879 (by decide) ?_
      refine va_forget (fun q hq => hS.2.2 q hq) ?_
      refine W.widen (k := 600000) (n := 7302249) (Nat.le_of_ble_eq_true rfl) (Nat.le_of_ble_eq_true rfl) ?_
      exact lw_ret hx hb hr hlocks dL_law_880
    · have hi : i + 4 ≤ L := by
        have e1 : (Int32.ofNat L - 4).toInt = (L : Int) - 4 := q_4n hL
        rw [fa_lt, e1, nI_toInt (by omega)] at c1
        omega
      have kk : ∀ (H : Heap) (locs : List Loc), LH D (fun q : Nat => s.heap.size ≤ q) s.heap cI cJ cO a am H locs → W p l e room_1 s m #[Value.ref b] below meth c H locs 56 1112 (lw_Z below #[Value.ref b] s) (F0 m 873 ls []) := fun H locs h => by
        refine lv_iinc (v := nI (i + 4)) (lv' := [(3, .int (nI (i + 4))), (0, .ref b), (1, .ref a), (2, .ref am)]) hx hb dL_law_873 hl (k := 3) rfl (nI_add i 4) (by decide) rfl (fun ls hl => ?_)
        refine lv_goto (tgt := 18) hx hb dL_law_876 (by decide) ?_
        exact ih (i + 4) (by omega) (by omega) H locs h ls (lv_sub hl [1, 2, 3, 0] rfl)
      refine lv_aload_n hx hb dL_law_26 rfl (lv_at hl 0 rfl) ?_
      refine lv_iload_n hx hb dL_law_27 rfl (lv_at hl 3 rfl) ?_
      refine va_sld hx hb hX hbl hbA hS (vp_in_nI (by omega) (by omega)) dL_law_28 ?_
      refine lv_bipush (v := 31) hx hb dL_law_29 (by decide) ?_
      refine lv_iand hx hb dL_law_31 ?_
      obtain ⟨j, hj, ej⟩ := pk_andE (xs (nI i).toNatClampNeg) (m := 31) 5 (by decide)
      rw [ej]
      rcases (show j = 0 ∨ j = 1 ∨ j = 2 ∨ j = 3 ∨ j = 4 ∨ j = 5 ∨ j = 6 ∨ j = 7 ∨ j = 8 ∨ j = 9 ∨ j = 10 ∨ j = 11 ∨ j = 12 ∨ j = 13 ∨ j = 14 ∨ j = 15 ∨ j = 16 ∨ j = 17 ∨ j = 18 ∨ j = 19 ∨ j = 20 ∨ j = 21 ∨ j = 22 ∨ j = 23 ∨ j = 24 ∨ j = 25 ∨ 26 ≤ j by omega) with rfl | rfl | rfl | rfl | rfl | rfl | rfl | rfl | rfl | rfl | rfl | rfl | rfl | rfl | rfl | rfl | rfl | rfl | rfl | rfl | rfl | rfl | rfl | rfl | rfl | rfl | hj2
      · refine lv_tableIn (off := 120) (tgt := 152) hx hb dL_law_32 (by decide) (by decide) rfl (by decide) ?_
        exact lop_write C0 hi h hl kk
      · refine lv_tableIn (off := 143) (tgt := 175) hx hb dL_law_32 (by decide) (by decide) rfl (by decide) ?_
        exact lop_wipe C0 hi h hl kk
      · refine lv_tableIn (off := 156) (tgt := 188) hx hb dL_law_32 (by decide) (by decide) rfl (by decide) ?_
        exact lop_fault C0 hi h hl kk
      · refine lv_tableIn (off := 169) (tgt := 201) hx hb dL_law_32 (by decide) (by decide) rfl (by decide) ?_
        exact lop_lay C0 hi h hl kk
      · refine lv_tableIn (off := 182) (tgt := 214) hx hb dL_law_32 (by decide) (by decide) rfl (by decide) ?_
        exact lop_ballot C0 hi h hl kk
      · refine lv_tableIn (off := 215) (tgt := 247) hx hb dL_law_32 (by decide) (by decide) rfl (by decide) ?_
        exact lop_voters C0 hi h hl kk
      · refine lv_tableIn (off := 248) (tgt := 280) hx hb dL_law_32 (by decide) (by decide) rfl (by decide) ?_
        exact lop_approve C0 hi h hl kk
      · refine lv_tableIn (off := 281) (tgt := 313) hx hb dL_law_32 (by decide) (by decide) rfl (by decide) ?_
        exact lop_seats C0 hi h hl kk
      · refine lv_tableIn (off := 304) (tgt := 336) hx hb dL_law_32 (by decide) (by decide) rfl (by decide) ?_
        exact lop_withdraw C0 hi h hl kk
      · refine lv_tableIn (off := 337) (tgt := 369) hx hb dL_law_32 (by decide) (by decide) rfl (by decide) ?_
        exact lop_prefer C0 hi h hl kk
      · refine lv_tableIn (off := 360) (tgt := 392) hx hb dL_law_32 (by decide) (by decide) rfl (by decide) ?_
        exact lop_undo C0 hi h hl kk
      · refine lv_tableIn (off := 373) (tgt := 405) hx hb dL_law_32 (by decide) (by decide) rfl (by decide) ?_
        exact lop_candidate C0 hi h hl kk
      · refine lv_tableIn (off := 406) (tgt := 438) hx hb dL_law_32 (by decide) (by decide) rfl (by decide) ?_
        exact lop_vote C0 hi h hl kk
      · refine lv_tableIn (off := 439) (tgt := 471) hx hb dL_law_32 (by decide) (by decide) rfl (by decide) ?_
        exact lop_member C0 hi h hl kk
      · refine lv_tableIn (off := 472) (tgt := 504) hx hb dL_law_32 (by decide) (by decide) rfl (by decide) ?_
        exact lop_members C0 hi h hl kk
      · refine lv_tableIn (off := 495) (tgt := 527) hx hb dL_law_32 (by decide) (by decide) rfl (by decide) ?_
        exact lop_came C0 hi h hl kk
      · refine lv_tableIn (off := 539) (tgt := 571) hx hb dL_law_32 (by decide) (by decide) rfl (by decide) ?_
        exact lop_load C0 hi h hl kk
      · refine lv_tableIn (off := 573) (tgt := 605) hx hb dL_law_32 (by decide) (by decide) rfl (by decide) ?_
        exact lop_greatest C0 hi h hl kk
      · refine lv_tableIn (off := 597) (tgt := 629) hx hb dL_law_32 (by decide) (by decide) rfl (by decide) ?_
        exact lop_agrees C0 hi h hl kk
      · refine lv_tableIn (off := 630) (tgt := 662) hx hb dL_law_32 (by decide) (by decide) rfl (by decide) ?_
        exact lop_shorts C0 hi h hl kk
      · refine lv_tableIn (off := 663) (tgt := 695) hx hb dL_law_32 (by decide) (by decide) rfl (by decide) ?_
        exact lop_joins C0 hi h hl kk
      · refine lv_tableIn (off := 696) (tgt := 728) hx hb dL_law_32 (by decide) (by decide) rfl (by decide) ?_
        exact lop_matters C0 hi h hl kk
      · refine lv_tableIn (off := 719) (tgt := 751) hx hb dL_law_32 (by decide) (by decide) rfl (by decide) ?_
        exact lop_rather C0 hi h hl kk
      · refine lv_tableIn (off := 762) (tgt := 794) hx hb dL_law_32 (by decide) (by decide) rfl (by decide) ?_
        exact lop_decided C0 hi h hl kk
      · refine lv_tableIn (off := 785) (tgt := 817) hx hb dL_law_32 (by decide) (by decide) rfl (by decide) ?_
        exact lop_both C0 hi h hl kk
      · refine lv_tableIn (off := 818) (tgt := 850) hx hb dL_law_32 (by decide) (by decide) rfl (by decide) ?_
        exact lop_count C0 hi h hl kk
      · refine lv_tableOut (tgt := 873) hx hb dL_law_32 (Or.inr ?_) (by decide) ?_
        · rw [nI_toInt (by omega)]; omega
        · exact kk H locs h
