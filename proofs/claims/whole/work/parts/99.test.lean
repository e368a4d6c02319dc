abbrev rm_J_floorDiv : Room := { frames := 0, cells := 0, slots := 0, locals := 0 }
set_option maxHeartbeats 4000000 in
set_option maxRecDepth 100000 in
theorem K_J_floorDiv {l : Launch} {D : va_G} {cI : ClassId} {lo : Nat} (p0 : Int64) (p2 : Int64) (h0 : ¬ p2 = 0) : ROl l D cI lo yJ9_floorDiv_f86c9 wsJ9_floorDiv_f86c9 rm_J_floorDiv [.long p0, .long p2] (fun H => True) (m_J_floorDiv p0 p2) := by
  refine ofW_ROl (cc := cJ9_floorDiv_f86c9) (maxL := 6) (by decide +kernel) rfl (Nat.le_of_ble_eq_true rfl) ?_
  intro p e s m args below meth c Q hx hb hml hown hts hE hP hret ls hl
  have hown : s.vm.findClass RJ9 = some m.cls := hown
  have hA : ∀ q : Nat, (fun _ : Nat => False) q → lo ≤ q := fun _ h => h.elim
  have hS : va_S (fun _ : Nat => False) s.heap s.heap [] := va_S.rf
  have hl : lv_has ls 6 [(0, .long p0), (2, .long p2)] := hl
  have hM : (m_J_floorDiv p0 p2) = (m_J_floorDiv p0 p2) := rfl
  refine lv_lload_n hx hb dJ9_floorDiv_f86c9_0 rfl (lv_at hl 0 rfl) ?_
  refine lv_lload_n hx hb dJ9_floorDiv_f86c9_1 rfl (lv_at hl 1 rfl) ?_
  refine lv_ldiv hx hb dJ9_floorDiv_f86c9_2 (by assumption) ?_
  refine lv_lstore (lv' := [(4, .long (p0 / p2)), (0, .long p0), (2, .long p2)]) hx hb dJ9_floorDiv_f86c9_3 hl (by decide) rfl (fun ls hl => ?_)
  refine lv_lload_n hx hb dJ9_floorDiv_f86c9_5 rfl (lv_at hl 1 rfl) ?_
  refine lv_lload_n hx hb dJ9_floorDiv_f86c9_6 rfl (lv_at hl 2 rfl) ?_
  refine lv_lxor hx hb dJ9_floorDiv_f86c9_7 ?_
  refine lv_lconst (v := 0) hx hb dJ9_floorDiv_f86c9_8 (by decide) ?_
  refine W.lcmp hx hb dJ9_floorDiv_f86c9_9 ?_
  refine lv_if_ge (tgt := 27) hx hb dJ9_floorDiv_f86c9_10 (by decide) (fun c_1 => ?_) (fun c_1 => ?_)
  · have hM := hM.trans (if_pos c_1)
    refine lv_lload hx hb dJ9_floorDiv_f86c9_27 (lv_at hl 0 rfl) ?_
    have hM : (m_J_floorDiv p0 p2) = (p0 / p2) := hM
    exact hret _ _ ls dJ9_floorDiv_f86c9_29 hM.symm
  · have hM := hM.trans (if_neg c_1)
    refine lv_lload hx hb dJ9_floorDiv_f86c9_13 (lv_at hl 0 rfl) ?_
    refine lv_lload_n hx hb dJ9_floorDiv_f86c9_15 rfl (lv_at hl 2 rfl) ?_
    refine lv_lmul hx hb dJ9_floorDiv_f86c9_16 ?_
    refine lv_lload_n hx hb dJ9_floorDiv_f86c9_17 rfl (lv_at hl 1 rfl) ?_
    refine W.lcmp hx hb dJ9_floorDiv_f86c9_18 ?_
    refine lv_if_eq (tgt := 27) hx hb dJ9_floorDiv_f86c9_19 (by decide) (fun c_2 => ?_) (fun c_2 => ?_)
    · have hM := hM.trans (if_pos c_2)
      refine lv_lload hx hb dJ9_floorDiv_f86c9_27 (lv_at hl 0 rfl) ?_
      have hM : (m_J_floorDiv p0 p2) = (p0 / p2) := hM
      exact hret _ _ ls dJ9_floorDiv_f86c9_29 hM.symm
    · have hM := hM.trans (if_neg c_2)
      refine lv_lload hx hb dJ9_floorDiv_f86c9_22 (lv_at hl 0 rfl) ?_
      refine lv_lconst (v := 1) hx hb dJ9_floorDiv_f86c9_24 (by decide) ?_
      refine lv_lsub hx hb dJ9_floorDiv_f86c9_25 ?_
      have hM : (m_J_floorDiv p0 p2) = ((p0 / p2) - 1) := hM
      exact hret _ _ ls dJ9_floorDiv_f86c9_26 hM.symm
abbrev rm_T_up : Room := { frames := 1, cells := 0, slots := 0, locals := 25 }
set_option maxHeartbeats 4000000 in
set_option maxRecDepth 100000 in
theorem K_T_up {l : Launch} {D : va_G} {cI : ClassId} {lo : Nat} (p0 : Int64) (p2 : Int64) : ROl l D cI lo yX4_up wsX4_up rm_T_up [.long p0, .long p2] (fun H => True) (m_T_up p0 p2) := by
  refine ofW_ROl (cc := cX4_up) (maxL := 4) (by decide +kernel) rfl (Nat.le_of_ble_eq_true rfl) ?_
  intro p e s m args below meth c Q hx hb hml hown hts hE hP hret ls hl
  have hown : s.vm.findClass RX4 = some m.cls := hown
  have hA : ∀ q : Nat, (fun _ : Nat => False) q → lo ≤ q := fun _ h => h.elim
  have hS : va_S (fun _ : Nat => False) s.heap s.heap [] := va_S.rf
  have hl : lv_has ls 4 [(0, .long p0), (2, .long p2)] := hl
  have hM : (m_T_up p0 p2) = (m_T_up p0 p2) := rfl
  refine lv_lload_n hx hb dX4_up_0 rfl (lv_at hl 1 rfl) ?_
  refine lv_lconst (v := 0) hx hb dX4_up_1 (by decide) ?_
  refine W.lcmp hx hb dX4_up_2 ?_
  refine lv_if_le (tgt := 16) hx hb dX4_up_3 (by decide) (fun c_1 => ?_) (fun c_1 => ?_)
  · have hM := hM.trans (if_pos c_1)
    refine lv_lconst (v := 0) hx hb dX4_up_16 (by decide) ?_
    have hM : (m_T_up p0 p2) = 0 := hM
    exact hret _ _ ls dX4_up_17 hM.symm
  · have hM := hM.trans (if_neg c_1)
    have nz := lg_nz c_1
    refine lv_lload_n hx hb dX4_up_6 rfl (lv_at hl 0 rfl) ?_
    refine lv_lneg hx hb dX4_up_7 ?_
    refine lv_lload_n hx hb dX4_up_8 rfl (lv_at hl 1 rfl) ?_
    refine runS_l (va_runS (As := [.long (-p0), .long p2]) (rest := []) ⟨hx, hb, hml, hown, hts⟩ (K_J_floorDiv (-p0) p2 (by assumption)) (va_cwS 2 hts gX4_up_J9_floorDiv_f86c9 rfl rfl rfl (by decide +kernel) ⟨Nat.le_of_ble_eq_true rfl, Nat.le_of_ble_eq_true rfl⟩) (preS_of hE hA hS trivial) rfl rfl hl.1 rfl (lv_room (Nat.le_of_ble_eq_true rfl)) dX4_up_9 ⟨Nat.zero_le _, Nat.zero_le _⟩) ?_
    refine lv_lneg hx hb dX4_up_12 ?_
    refine lv_goto (tgt := 17) hx hb dX4_up_13 (by decide) ?_
    have hM : (m_T_up p0 p2) = (-(m_J_floorDiv (-p0) p2)) := hM
    exact hret _ _ ls dX4_up_17 hM.symm
abbrev rm_M_turnOfRelease : Room := { frames := 2, cells := 0, slots := 0, locals := 48 }
set_option maxHeartbeats 4000000 in
set_option maxRecDepth 100000 in
theorem K_M_turnOfRelease {l : Launch} {D : va_G} {cI : ClassId} {lo : Nat} {g : Nat → Nat} (hg : wI g 1 6 lo) (sM : St) (p1 : Int32) (p2 : Int32) : ROi l D cI lo yX1_turnOfRelease wsX1_turnOfRelease rm_M_turnOfRelease [.ref (g 1), .int p1, .int p2] (fun H => va_P D vwCl (cellM cI g sM) H) (m_M_turnOfRelease sM p1 p2) := by
  refine ofW_ROi (cc := cX1_turnOfRelease) (maxL := 7) (ty := .int) (by decide +kernel) rfl (Nat.le_of_ble_eq_true rfl) ?_
  intro p e s m args below meth c Q hx hb hml hown hts hE hP hret ls hl
  have hown : s.vm.findClass RX1 = some m.cls := hown
  have hPM := hP
  have hA : ∀ q : Nat, (fun _ : Nat => False) q → lo ≤ q := fun _ h => h.elim
  have hS : va_S (fun _ : Nat => False) s.heap s.heap [] := va_S.rf
  have hinM : ∀ w ∈ wsX10, w ∈ wsX1_turnOfRelease := fun w h => List.mem_cons_of_mem _ (List.mem_append_right _ h)
  have hl : lv_has ls 7 [(0, .ref (g 1)), (1, .int p1), (2, .int p2)] := hl
  have hM : (m_M_turnOfRelease sM p1 p2) = (m_M_turnOfRelease sM p1 p2) := rfl
  refine lv_ldc2 (own := RX1) (index := 58) (v := 100) hx hb hown (hts (.constantLong RX1 58 (100)) (List.mem_of_getElem? (i := 1) rfl)) dX1_turnOfRelease_0 ?_
  refine lv_iload_n hx hb dX1_turnOfRelease_3 rfl (lv_at hl 2 rfl) ?_
  refine lv_i2l (v := (Int32.toInt64 p2)) hx hb dX1_turnOfRelease_4 rfl ?_
  refine lv_ladd hx hb dX1_turnOfRelease_5 ?_
  refine lv_ldc2 (own := RX1) (index := 60) (v := 2) hx hb hown (hts (.constantLong RX1 60 (2)) (List.mem_of_getElem? (i := 2) rfl)) dX1_turnOfRelease_6 ?_
  refine lv_lmul hx hb dX1_turnOfRelease_9 ?_
  refine lv_iload_n hx hb dX1_turnOfRelease_10 rfl (lv_at hl 1 rfl) ?_
  refine lv_i2l (v := (Int32.toInt64 p1)) hx hb dX1_turnOfRelease_11 rfl ?_
  refine lv_lmul hx hb dX1_turnOfRelease_12 ?_
  refine lv_lstore_n (lv' := [(3, .long (((100 + (Int32.toInt64 p2)) * 2) * (Int32.toInt64 p1))), (0, .ref (g 1)), (1, .int p1), (2, .int p2)]) hx hb dX1_turnOfRelease_13 rfl hl (by decide) rfl (fun ls hl => ?_)
  refine lv_lload_n hx hb dX1_turnOfRelease_14 rfl (lv_at hl 0 rfl) ?_
  refine lv_aload_n hx hb dX1_turnOfRelease_15 rfl (lv_at hl 1 rfl) ?_
  refine va_get (D := D) (ci := 1) (v := .ref (g 2)) (C := RX1) (T := TX1) (N := 6) hx hb hts hinM hown hE.1 hPM 0 rfl rfl 0 (by decide) (hts (.fieldLink RX1 11 "WallStones$Machine" "number" "[I") (List.mem_of_getElem? (i := 3) rfl)) (fun _ h9 => h9) rfl dX1_turnOfRelease_16 ?_
  refine lv_iconst (v := 1) hx hb dX1_turnOfRelease_19 (by decide) ?_
  refine va_iald hx hb hE.1 hPM 1 0 rfl rfl (vp_in_iff.mpr (by decide)) dX1_turnOfRelease_20 ?_
  refine W.eq (congrArg (fun z => F0 m 21 ls [.int (sM 1 z), .long (((100 + (Int32.toInt64 p2)) * 2) * (Int32.toInt64 p1))]) cl_1) ?_
  refine lv_i2l (v := (Int32.toInt64 (sM 1 1))) hx hb dX1_turnOfRelease_21 rfl ?_
  refine lv_ldc2 (own := RX1) (index := 60) (v := 2) hx hb hown (hts (.constantLong RX1 60 (2)) (List.mem_of_getElem? (i := 2) rfl)) dX1_turnOfRelease_22 ?_
  refine lv_iload_n hx hb dX1_turnOfRelease_25 rfl (lv_at hl 2 rfl) ?_
  refine lv_i2l (v := (Int32.toInt64 p1)) hx hb dX1_turnOfRelease_26 rfl ?_
  refine lv_lmul hx hb dX1_turnOfRelease_27 ?_
  refine lv_ladd hx hb dX1_turnOfRelease_28 ?_
  refine runS_l (va_runSN (As := [.long (((100 + (Int32.toInt64 p2)) * 2) * (Int32.toInt64 p1)), .long ((Int32.toInt64 (sM 1 1)) + (2 * (Int32.toInt64 p1)))]) (rest := []) ⟨hx, hb, hml, hown, hts⟩ (K_T_up (((100 + (Int32.toInt64 p2)) * 2) * (Int32.toInt64 p1)) ((Int32.toInt64 (sM 1 1)) + (2 * (Int32.toInt64 p1)))) ⟨va_cnB 2 hts gX1_turnOfRelease_X4_up_n62 rfl rfl rfl hE.2.1.2.2.2.2.1 (hts (.initialized RX4) (List.mem_of_getElem? (i := 6) rfl)) (by decide +kernel) ⟨Nat.le_of_ble_eq_true rfl, Nat.le_of_ble_eq_true rfl⟩, (hts (.static yX4_up) (List.mem_of_getElem? (i := 5) rfl)), trivial⟩ (preS_of hE hA hS trivial) rfl rfl hl.1 rfl (lv_room (Nat.le_of_ble_eq_true rfl)) dX1_turnOfRelease_29 ⟨Nat.zero_le _, Nat.zero_le _⟩) ?_
  refine lv_lstore (lv' := [(5, .long (m_T_up (((100 + (Int32.toInt64 p2)) * 2) * (Int32.toInt64 p1)) ((Int32.toInt64 (sM 1 1)) + (2 * (Int32.toInt64 p1))))), (3, .long (((100 + (Int32.toInt64 p2)) * 2) * (Int32.toInt64 p1))), (0, .ref (g 1)), (1, .int p1), (2, .int p2)]) hx hb dX1_turnOfRelease_32 hl (by decide) rfl (fun ls hl => ?_)
  refine lv_lload hx hb dX1_turnOfRelease_34 (lv_at hl 0 rfl) ?_
  refine lv_lconst (v := 1) hx hb dX1_turnOfRelease_36 (by decide) ?_
  refine W.lcmp hx hb dX1_turnOfRelease_37 ?_
  refine lv_if_lt (tgt := 56) hx hb dX1_turnOfRelease_38 (by decide) (fun c_1 => ?_) (fun c_1 => ?_)
  · have hM := hM.trans (if_pos c_1)
    refine lv_sipush (v := 161) hx hb dX1_turnOfRelease_56 (by decide) ?_
    have hM : (m_M_turnOfRelease sM p1 p2) = 161 := hM
    exact hret _ _ ls rfl dX1_turnOfRelease_59 hM.symm
  · have hM := hM.trans (if_neg c_1)
    refine lv_lload hx hb dX1_turnOfRelease_41 (lv_at hl 0 rfl) ?_
    refine lv_ldc2 (own := RX1) (index := 65) (v := 160) hx hb hown (hts (.constantLong RX1 65 (160)) (List.mem_of_getElem? (i := 4) rfl)) dX1_turnOfRelease_43 ?_
    refine W.lcmp hx hb dX1_turnOfRelease_46 ?_
    refine lv_if_gt (tgt := 56) hx hb dX1_turnOfRelease_47 (by decide) (fun c_2 => ?_) (fun c_2 => ?_)
    · have hM := hM.trans (if_pos c_2)
      refine lv_sipush (v := 161) hx hb dX1_turnOfRelease_56 (by decide) ?_
      have hM : (m_M_turnOfRelease sM p1 p2) = 161 := hM
      exact hret _ _ ls rfl dX1_turnOfRelease_59 hM.symm
    · have hM := hM.trans (if_neg c_2)
      refine lv_lload hx hb dX1_turnOfRelease_50 (lv_at hl 0 rfl) ?_
      refine lv_l2i (v := (Int64.toInt32 (m_T_up (((100 + (Int32.toInt64 p2)) * 2) * (Int32.toInt64 p1)) ((Int32.toInt64 (sM 1 1)) + (2 * (Int32.toInt64 p1)))))) hx hb dX1_turnOfRelease_52 rfl ?_
      refine lv_goto (tgt := 59) hx hb dX1_turnOfRelease_53 (by decide) ?_
      have hM : (m_M_turnOfRelease sM p1 p2) = (Int64.toInt32 (m_T_up (((100 + (Int32.toInt64 p2)) * 2) * (Int32.toInt64 p1)) ((Int32.toInt64 (sM 1 1)) + (2 * (Int32.toInt64 p1))))) := hM
      exact hret _ _ ls rfl dX1_turnOfRelease_59 hM.symm
abbrev rm_T_within : Room := { frames := 0, cells := 0, slots := 0, locals := 0 }
set_option maxHeartbeats 4000000 in
set_option maxRecDepth 100000 in
theorem K_T_within {l : Launch} {D : va_G} {cI : ClassId} {lo : Nat} (p0 : Int32) (p1 : Int32) (p2 : Int32) : ROi l D cI lo yX4_within wsX4_within rm_T_within [.int p0, .int p1, .int p2] (fun H => True) (m_T_within p0 p1 p2) := by
  refine ofW_ROi (cc := cX4_within) (maxL := 3) (ty := .boolean) (by decide +kernel) rfl (Nat.le_of_ble_eq_true rfl) ?_
  intro p e s m args below meth c Q hx hb hml hown hts hE hP hret ls hl
  have hown : s.vm.findClass RX4 = some m.cls := hown
  have hA : ∀ q : Nat, (fun _ : Nat => False) q → lo ≤ q := fun _ h => h.elim
  have hS : va_S (fun _ : Nat => False) s.heap s.heap [] := va_S.rf
  have hl : lv_has ls 3 [(0, .int p0), (1, .int p1), (2, .int p2)] := hl
  have hM : (m_T_within p0 p1 p2) = (m_T_within p0 p1 p2) := rfl
  refine lv_iload_n hx hb dX4_within_0 rfl (lv_at hl 0 rfl) ?_
  refine lv_iload_n hx hb dX4_within_1 rfl (lv_at hl 1 rfl) ?_
  refine lv_icmp_lt (tgt := 14) hx hb dX4_within_2 (by decide) (fun c_1 => ?_) (fun c_1 => ?_)
  · have hM := hM.trans (if_pos c_1)
    refine lv_iconst (v := 0) hx hb dX4_within_14 (by decide) ?_
    have hM : (m_T_within p0 p1 p2) = 0 := hM
    exact hret _ _ ls (by decide) dX4_within_15 hM.symm
  · have hM := hM.trans (if_neg c_1)
    refine lv_iload_n hx hb dX4_within_5 rfl (lv_at hl 0 rfl) ?_
    refine lv_iload_n hx hb dX4_within_6 rfl (lv_at hl 2 rfl) ?_
    refine lv_icmp_gt (tgt := 14) hx hb dX4_within_7 (by decide) (fun c_2 => ?_) (fun c_2 => ?_)
    · have hM := hM.trans (if_pos c_2)
      refine lv_iconst (v := 0) hx hb dX4_within_14 (by decide) ?_
      have hM : (m_T_within p0 p1 p2) = 0 := hM
      exact hret _ _ ls (by decide) dX4_within_15 hM.symm
    · have hM := hM.trans (if_neg c_2)
      refine lv_iconst (v := 1) hx hb dX4_within_10 (by decide) ?_
      refine lv_goto (tgt := 15) hx hb dX4_within_11 (by decide) ?_
      have hM : (m_T_within p0 p1 p2) = 1 := hM
      exact hret _ _ ls (by decide) dX4_within_15 hM.symm
abbrev rm_T_down : Room := { frames := 1, cells := 0, slots := 0, locals := 25 }
set_option maxHeartbeats 4000000 in
set_option maxRecDepth 100000 in
theorem K_T_down {l : Launch} {D : va_G} {cI : ClassId} {lo : Nat} (p0 : Int64) (p2 : Int64) : ROl l D cI lo yX4_down wsX4_down rm_T_down [.long p0, .long p2] (fun H => True) (m_T_down p0 p2) := by
  refine ofW_ROl (cc := cX4_down) (maxL := 4) (by decide +kernel) rfl (Nat.le_of_ble_eq_true rfl) ?_
  intro p e s m args below meth c Q hx hb hml hown hts hE hP hret ls hl
  have hown : s.vm.findClass RX4 = some m.cls := hown
  have hA : ∀ q : Nat, (fun _ : Nat => False) q → lo ≤ q := fun _ h => h.elim
  have hS : va_S (fun _ : Nat => False) s.heap s.heap [] := va_S.rf
  have hl : lv_has ls 4 [(0, .long p0), (2, .long p2)] := hl
  have hM : (m_T_down p0 p2) = (m_T_down p0 p2) := rfl
  refine lv_lload_n hx hb dX4_down_0 rfl (lv_at hl 1 rfl) ?_
  refine lv_lconst (v := 0) hx hb dX4_down_1 (by decide) ?_
  refine W.lcmp hx hb dX4_down_2 ?_
  refine lv_if_le (tgt := 14) hx hb dX4_down_3 (by decide) (fun c_1 => ?_) (fun c_1 => ?_)
  · have hM := hM.trans (if_pos c_1)
    refine lv_lconst (v := 0) hx hb dX4_down_14 (by decide) ?_
    have hM : (m_T_down p0 p2) = 0 := hM
    exact hret _ _ ls dX4_down_15 hM.symm
  · have hM := hM.trans (if_neg c_1)
    have nz := lg_nz c_1
    refine lv_lload_n hx hb dX4_down_6 rfl (lv_at hl 0 rfl) ?_
    refine lv_lload_n hx hb dX4_down_7 rfl (lv_at hl 1 rfl) ?_
    refine runS_l (va_runS (As := [.long p0, .long p2]) (rest := []) ⟨hx, hb, hml, hown, hts⟩ (K_J_floorDiv p0 p2 (by assumption)) (va_cwS 2 hts gX4_down_J9_floorDiv_f86c9 rfl rfl rfl (by decide +kernel) ⟨Nat.le_of_ble_eq_true rfl, Nat.le_of_ble_eq_true rfl⟩) (preS_of hE hA hS trivial) rfl rfl hl.1 rfl (lv_room (Nat.le_of_ble_eq_true rfl)) dX4_down_8 ⟨Nat.zero_le _, Nat.zero_le _⟩) ?_
    refine lv_goto (tgt := 15) hx hb dX4_down_11 (by decide) ?_
    have hM : (m_T_down p0 p2) = (m_J_floorDiv p0 p2) := hM
    exact hret _ _ ls dX4_down_15 hM.symm
abbrev rm_M_speedFor : Room := { frames := 2, cells := 0, slots := 0, locals := 48 }
set_option maxHeartbeats 4000000 in
set_option maxRecDepth 100000 in
theorem K_M_speedFor {l : Launch} {D : va_G} {cI : ClassId} {lo : Nat} {g : Nat → Nat} (hg : wI g 1 6 lo) (sM : St) (p1 : Int32) (p2 : Int32) : ROl l D cI lo yX1_speedFor wsX1_speedFor rm_M_speedFor [.ref (g 1), .int p1, .int p2] (fun H => va_P D vwCl (cellM cI g sM) H) (m_M_speedFor sM p1 p2) := by
  refine ofW_ROl (cc := cX1_speedFor) (maxL := 9) (by decide +kernel) rfl (Nat.le_of_ble_eq_true rfl) ?_
  intro p e s m args below meth c Q hx hb hml hown hts hE hP hret ls hl
  have hown : s.vm.findClass RX1 = some m.cls := hown
  have hPM := hP
  have hA : ∀ q : Nat, (fun _ : Nat => False) q → lo ≤ q := fun _ h => h.elim
  have hS : va_S (fun _ : Nat => False) s.heap s.heap [] := va_S.rf
  have hinM : ∀ w ∈ wsX10, w ∈ wsX1_speedFor := fun w h => List.mem_cons_of_mem _ (List.mem_append_right _ h)
  have hl : lv_has ls 9 [(0, .ref (g 1)), (1, .int p1), (2, .int p2)] := hl
  have hM : (m_M_speedFor sM p1 p2) = (m_M_speedFor sM p1 p2) := rfl
  refine lv_aload_n hx hb dX1_speedFor_0 rfl (lv_at hl 0 rfl) ?_
  refine va_get (D := D) (ci := 1) (v := .ref (g 2)) (C := RX1) (T := TX1) (N := 6) hx hb hts hinM hown hE.1 hPM 0 rfl rfl 0 (by decide) (hts (.fieldLink RX1 11 "WallStones$Machine" "number" "[I") (List.mem_of_getElem? (i := 1) rfl)) (fun _ h9 => h9) rfl dX1_speedFor_1 ?_
  refine lv_iconst (v := 1) hx hb dX1_speedFor_4 (by decide) ?_
  refine va_iald hx hb hE.1 hPM 1 0 rfl rfl (vp_in_iff.mpr (by decide)) dX1_speedFor_5 ?_
  refine W.eq (congrArg (fun z => F0 m 6 ls [.int (sM 1 z)]) cl_1) ?_
  refine lv_iload_n hx hb dX1_speedFor_6 rfl (lv_at hl 2 rfl) ?_
  refine lv_iadd hx hb dX1_speedFor_7 ?_
  refine lv_i2l (v := (Int32.toInt64 ((sM 1 1) + p2))) hx hb dX1_speedFor_8 rfl ?_
  refine lv_lstore_n (lv' := [(3, .long (Int32.toInt64 ((sM 1 1) + p2))), (0, .ref (g 1)), (1, .int p1), (2, .int p2)]) hx hb dX1_speedFor_9 rfl hl (by decide) rfl (fun ls hl => ?_)
  refine lv_lload_n hx hb dX1_speedFor_10 rfl (lv_at hl 0 rfl) ?_
  refine lv_lload_n hx hb dX1_speedFor_11 rfl (lv_at hl 0 rfl) ?_
  refine lv_lmul hx hb dX1_speedFor_12 ?_
  refine lv_lstore (lv' := [(5, .long ((Int32.toInt64 ((sM 1 1) + p2)) * (Int32.toInt64 ((sM 1 1) + p2)))), (3, .long (Int32.toInt64 ((sM 1 1) + p2))), (0, .ref (g 1)), (1, .int p1), (2, .int p2)]) hx hb dX1_speedFor_13 hl (by decide) rfl (fun ls hl => ?_)
  refine lv_aload_n hx hb dX1_speedFor_15 rfl (lv_at hl 2 rfl) ?_
  refine va_get (D := D) (ci := 1) (v := .ref (g 2)) (C := RX1) (T := TX1) (N := 6) hx hb hts hinM hown hE.1 hPM 0 rfl rfl 0 (by decide) (hts (.fieldLink RX1 11 "WallStones$Machine" "number" "[I") (List.mem_of_getElem? (i := 1) rfl)) (fun _ h9 => h9) rfl dX1_speedFor_16 ?_
  refine lv_iconst (v := 2) hx hb dX1_speedFor_19 (by decide) ?_
  refine va_iald hx hb hE.1 hPM 1 0 rfl rfl (vp_in_iff.mpr (by decide)) dX1_speedFor_20 ?_
  refine W.eq (congrArg (fun z => F0 m 21 ls [.int (sM 1 z)]) cl_2) ?_
  refine lv_i2l (v := (Int32.toInt64 (sM 1 2))) hx hb dX1_speedFor_21 rfl ?_
  refine lv_aload_n hx hb dX1_speedFor_22 rfl (lv_at hl 2 rfl) ?_
  refine va_get (D := D) (ci := 1) (v := .ref (g 2)) (C := RX1) (T := TX1) (N := 6) hx hb hts hinM hown hE.1 hPM 0 rfl rfl 0 (by decide) (hts (.fieldLink RX1 11 "WallStones$Machine" "number" "[I") (List.mem_of_getElem? (i := 1) rfl)) (fun _ h9 => h9) rfl dX1_speedFor_23 ?_
  refine lv_iconst (v := 0) hx hb dX1_speedFor_26 (by decide) ?_
  refine va_iald hx hb hE.1 hPM 1 0 rfl rfl (vp_in_iff.mpr (by decide)) dX1_speedFor_27 ?_
  refine W.eq (congrArg (fun z => F0 m 28 ls [.int (sM 1 z), .long (Int32.toInt64 (sM 1 2))]) cl_0) ?_
  refine lv_i2l (v := (Int32.toInt64 (sM 1 0))) hx hb dX1_speedFor_28 rfl ?_
  refine lv_lmul hx hb dX1_speedFor_29 ?_
  refine lv_aload_n hx hb dX1_speedFor_30 rfl (lv_at hl 2 rfl) ?_
  refine va_get (D := D) (ci := 1) (v := .ref (g 2)) (C := RX1) (T := TX1) (N := 6) hx hb hts hinM hown hE.1 hPM 0 rfl rfl 0 (by decide) (hts (.fieldLink RX1 11 "WallStones$Machine" "number" "[I") (List.mem_of_getElem? (i := 1) rfl)) (fun _ h9 => h9) rfl dX1_speedFor_31 ?_
  refine lv_iconst (v := 0) hx hb dX1_speedFor_34 (by decide) ?_
  refine va_iald hx hb hE.1 hPM 1 0 rfl rfl (vp_in_iff.mpr (by decide)) dX1_speedFor_35 ?_
  refine W.eq (congrArg (fun z => F0 m 36 ls [.int (sM 1 z), .long ((Int32.toInt64 (sM 1 2)) * (Int32.toInt64 (sM 1 0)))]) cl_0) ?_
  refine lv_i2l (v := (Int32.toInt64 (sM 1 0))) hx hb dX1_speedFor_36 rfl ?_
  refine lv_lmul hx hb dX1_speedFor_37 ?_
  refine lv_aload_n hx hb dX1_speedFor_38 rfl (lv_at hl 2 rfl) ?_
  refine va_get (D := D) (ci := 1) (v := .ref (g 2)) (C := RX1) (T := TX1) (N := 6) hx hb hts hinM hown hE.1 hPM 0 rfl rfl 0 (by decide) (hts (.fieldLink RX1 11 "WallStones$Machine" "number" "[I") (List.mem_of_getElem? (i := 1) rfl)) (fun _ h9 => h9) rfl dX1_speedFor_39 ?_
  refine lv_bipush (v := 7) hx hb dX1_speedFor_42 (by decide) ?_
  refine va_iald hx hb hE.1 hPM 1 0 rfl rfl (vp_in_iff.mpr (by decide)) dX1_speedFor_44 ?_
  refine W.eq (congrArg (fun z => F0 m 45 ls [.int (sM 1 z), .long (((Int32.toInt64 (sM 1 2)) * (Int32.toInt64 (sM 1 0))) * (Int32.toInt64 (sM 1 0)))]) cl_7) ?_
  refine lv_i2l (v := (Int32.toInt64 (sM 1 7))) hx hb dX1_speedFor_45 rfl ?_
  refine lv_lload hx hb dX1_speedFor_46 (lv_at hl 0 rfl) ?_
  refine lv_lmul hx hb dX1_speedFor_48 ?_
  refine lv_ladd hx hb dX1_speedFor_49 ?_
  refine lv_lstore (lv' := [(7, .long ((((Int32.toInt64 (sM 1 2)) * (Int32.toInt64 (sM 1 0))) * (Int32.toInt64 (sM 1 0))) + ((Int32.toInt64 (sM 1 7)) * ((Int32.toInt64 ((sM 1 1) + p2)) * (Int32.toInt64 ((sM 1 1) + p2)))))), (5, .long ((Int32.toInt64 ((sM 1 1) + p2)) * (Int32.toInt64 ((sM 1 1) + p2)))), (3, .long (Int32.toInt64 ((sM 1 1) + p2))), (0, .ref (g 1)), (1, .int p1), (2, .int p2)]) hx hb dX1_speedFor_50 hl (by decide) rfl (fun ls hl => ?_)
  refine lv_ldc2 (own := RX1) (index := 60) (v := 2) hx hb hown (hts (.constantLong RX1 60 (2)) (List.mem_of_getElem? (i := 2) rfl)) dX1_speedFor_52 ?_
  refine lv_iload_n hx hb dX1_speedFor_55 rfl (lv_at hl 4 rfl) ?_
  refine lv_i2l (v := (Int32.toInt64 p1)) hx hb dX1_speedFor_56 rfl ?_
  refine lv_lmul hx hb dX1_speedFor_57 ?_
  refine lv_lload hx hb dX1_speedFor_58 (lv_at hl 1 rfl) ?_
  refine lv_lmul hx hb dX1_speedFor_60 ?_
  refine lv_lload hx hb dX1_speedFor_61 (lv_at hl 0 rfl) ?_
  refine runS_l (va_runSN (As := [.long ((2 * (Int32.toInt64 p1)) * ((Int32.toInt64 ((sM 1 1) + p2)) * (Int32.toInt64 ((sM 1 1) + p2)))), .long ((((Int32.toInt64 (sM 1 2)) * (Int32.toInt64 (sM 1 0))) * (Int32.toInt64 (sM 1 0))) + ((Int32.toInt64 (sM 1 7)) * ((Int32.toInt64 ((sM 1 1) + p2)) * (Int32.toInt64 ((sM 1 1) + p2)))))]) (rest := []) ⟨hx, hb, hml, hown, hts⟩ (K_T_down ((2 * (Int32.toInt64 p1)) * ((Int32.toInt64 ((sM 1 1) + p2)) * (Int32.toInt64 ((sM 1 1) + p2)))) ((((Int32.toInt64 (sM 1 2)) * (Int32.toInt64 (sM 1 0))) * (Int32.toInt64 (sM 1 0))) + ((Int32.toInt64 (sM 1 7)) * ((Int32.toInt64 ((sM 1 1) + p2)) * (Int32.toInt64 ((sM 1 1) + p2)))))) ⟨va_cnB 2 hts gX1_speedFor_X4_down_n54 rfl rfl rfl hE.2.1.2.2.2.1 (hts (.initialized RX4) (List.mem_of_getElem? (i := 4) rfl)) (by decide +kernel) ⟨Nat.le_of_ble_eq_true rfl, Nat.le_of_ble_eq_true rfl⟩, (hts (.static yX4_down) (List.mem_of_getElem? (i := 3) rfl)), trivial⟩ (preS_of hE hA hS trivial) rfl rfl hl.1 rfl (lv_room (Nat.le_of_ble_eq_true rfl)) dX1_speedFor_63 ⟨Nat.zero_le _, Nat.zero_le _⟩) ?_
  have hM : (m_M_speedFor sM p1 p2) = (m_T_down ((2 * (Int32.toInt64 p1)) * ((Int32.toInt64 ((sM 1 1) + p2)) * (Int32.toInt64 ((sM 1 1) + p2)))) ((((Int32.toInt64 (sM 1 2)) * (Int32.toInt64 (sM 1 0))) * (Int32.toInt64 (sM 1 0))) + ((Int32.toInt64 (sM 1 7)) * ((Int32.toInt64 ((sM 1 1) + p2)) * (Int32.toInt64 ((sM 1 1) + p2)))))) := hM
  exact hret _ _ ls dX1_speedFor_66 hM.symm
abbrev rm_T_sineOf : Room := { frames := 2, cells := 0, slots := 0, locals := 48 }
set_option maxHeartbeats 4000000 in
set_option maxRecDepth 100000 in
theorem K_T_sineOf {l : Launch} {D : va_G} {cI : ClassId} {lo : Nat} (p0 : Int32) : ROi l D cI lo yX4_sineOf wsX4_sineOf rm_T_sineOf [.int p0] (fun H => True) (m_T_sineOf p0) := by
  refine ofW_ROi (cc := cX4_sineOf) (maxL := 5) (ty := .int) (by decide +kernel) rfl (Nat.le_of_ble_eq_true rfl) ?_
  intro p e s m args below meth c Q hx hb hml hown hts hE hP hret ls hl
  have hown : s.vm.findClass RX4 = some m.cls := hown
  have hA : ∀ q : Nat, (fun _ : Nat => False) q → lo ≤ q := fun _ h => h.elim
  have hS : va_S (fun _ : Nat => False) s.heap s.heap [] := va_S.rf
  have hl : lv_has ls 5 [(0, .int p0)] := hl
  have hM : (m_T_sineOf p0) = (m_T_sineOf p0) := rfl
  refine lv_iload_n hx hb dX4_sineOf_0 rfl (lv_at hl 0 rfl) ?_
  refine va_mabs hx hb (by rw [hml]; exact hl.1.symm) hown (hts (.methodLink RX4 189 Lib.Math.abs.name) (List.mem_of_getElem? (i := 1) rfl)) (hts (.static Lib.Math.abs.name) (List.mem_of_getElem? (i := 2) rfl)) (hts (.initialized "java/lang/Math") (List.mem_of_getElem? (i := 3) rfl)) (hts (.code Lib.Math.abs.name Lib.Math.abs.code 1 (some .int)) (List.mem_of_getElem? (i := 4) rfl)) (Nat.le_of_ble_eq_true rfl) (Nat.le_of_ble_eq_true rfl) (Nat.zero_le _) (Nat.zero_le _) dX4_sineOf_1 ?_
  refine lv_istore_n (lv' := [(1, .int (if 0 ≤ p0 then p0 else 0 - p0)), (0, .int p0)]) hx hb dX4_sineOf_4 rfl hl (by decide) rfl (fun ls hl => ?_)
  refine lv_iload_n hx hb dX4_sineOf_5 rfl (lv_at hl 0 rfl) ?_
  refine lv_i2l (v := (Int32.toInt64 (if 0 ≤ p0 then p0 else 0 - p0))) hx hb dX4_sineOf_6 rfl ?_
  refine lv_sipush (v := 180) hx hb dX4_sineOf_7 (by decide) ?_
  refine lv_iload_n hx hb dX4_sineOf_10 rfl (lv_at hl 0 rfl) ?_
  refine lv_isub hx hb dX4_sineOf_11 ?_
  refine lv_i2l (v := (Int32.toInt64 (180 - (if 0 ≤ p0 then p0 else 0 - p0)))) hx hb dX4_sineOf_12 rfl ?_
  refine lv_lmul hx hb dX4_sineOf_13 ?_
  refine lv_lstore_n (lv' := [(2, .long ((Int32.toInt64 (if 0 ≤ p0 then p0 else 0 - p0)) * (Int32.toInt64 (180 - (if 0 ≤ p0 then p0 else 0 - p0))))), (1, .int (if 0 ≤ p0 then p0 else 0 - p0)), (0, .int p0)]) hx hb dX4_sineOf_14 rfl hl (by decide) rfl (fun ls hl => ?_)
  refine lv_ldc2 (own := RX4) (index := 227) (v := 4000) hx hb hown (hts (.constantLong RX4 227 (4000)) (List.mem_of_getElem? (i := 5) rfl)) dX4_sineOf_15 ?_
  refine lv_lload_n hx hb dX4_sineOf_18 rfl (lv_at hl 0 rfl) ?_
  refine lv_lmul hx hb dX4_sineOf_19 ?_
  refine lv_ldc2 (own := RX4) (index := 229) (v := 40500) hx hb hown (hts (.constantLong RX4 229 (40500)) (List.mem_of_getElem? (i := 6) rfl)) dX4_sineOf_20 ?_
  refine lv_lload_n hx hb dX4_sineOf_23 rfl (lv_at hl 0 rfl) ?_
  refine lv_lsub hx hb dX4_sineOf_24 ?_
  refine runS_l (va_runS (As := [.long (4000 * ((Int32.toInt64 (if 0 ≤ p0 then p0 else 0 - p0)) * (Int32.toInt64 (180 - (if 0 ≤ p0 then p0 else 0 - p0))))), .long (40500 - ((Int32.toInt64 (if 0 ≤ p0 then p0 else 0 - p0)) * (Int32.toInt64 (180 - (if 0 ≤ p0 then p0 else 0 - p0)))))]) (rest := []) ⟨hx, hb, hml, hown, hts⟩ (K_T_down (4000 * ((Int32.toInt64 (if 0 ≤ p0 then p0 else 0 - p0)) * (Int32.toInt64 (180 - (if 0 ≤ p0 then p0 else 0 - p0))))) (40500 - ((Int32.toInt64 (if 0 ≤ p0 then p0 else 0 - p0)) * (Int32.toInt64 (180 - (if 0 ≤ p0 then p0 else 0 - p0)))))) (va_cwS 2 hts gX4_sineOf_X4_down rfl rfl rfl (by decide +kernel) ⟨Nat.le_of_ble_eq_true rfl, Nat.le_of_ble_eq_true rfl⟩) (preS_of hE hA hS trivial) rfl rfl hl.1 rfl (lv_room (Nat.le_of_ble_eq_true rfl)) dX4_sineOf_25 ⟨Nat.zero_le _, Nat.zero_le _⟩) ?_
  refine lv_l2i (v := (Int64.toInt32 (m_T_down (4000 * ((Int32.toInt64 (if 0 ≤ p0 then p0 else 0 - p0)) * (Int32.toInt64 (180 - (if 0 ≤ p0 then p0 else 0 - p0))))) (40500 - ((Int32.toInt64 (if 0 ≤ p0 then p0 else 0 - p0)) * (Int32.toInt64 (180 - (if 0 ≤ p0 then p0 else 0 - p0)))))))) hx hb dX4_sineOf_28 rfl ?_
  refine lv_istore (lv' := [(4, .int (Int64.toInt32 (m_T_down (4000 * ((Int32.toInt64 (if 0 ≤ p0 then p0 else 0 - p0)) * (Int32.toInt64 (180 - (if 0 ≤ p0 then p0 else 0 - p0))))) (40500 - ((Int32.toInt64 (if 0 ≤ p0 then p0 else 0 - p0)) * (Int32.toInt64 (180 - (if 0 ≤ p0 then p0 else 0 - p0)))))))), (2, .long ((Int32.toInt64 (if 0 ≤ p0 then p0 else 0 - p0)) * (Int32.toInt64 (180 - (if 0 ≤ p0 then p0 else 0 - p0))))), (1, .int (if 0 ≤ p0 then p0 else 0 - p0)), (0, .int p0)]) hx hb dX4_sineOf_29 hl (by decide) rfl (fun ls hl => ?_)
  refine lv_iload_n hx hb dX4_sineOf_31 rfl (lv_at hl 3 rfl) ?_
  refine lv_if_ge (tgt := 41) hx hb dX4_sineOf_32 (by decide) (fun c_1 => ?_) (fun c_1 => ?_)
  · have hM := hM.trans (if_pos c_1)
    refine lv_iload hx hb dX4_sineOf_41 (lv_at hl 0 rfl) ?_
    have hM : (m_T_sineOf p0) = (Int64.toInt32 (m_T_down (4000 * ((Int32.toInt64 (if 0 ≤ p0 then p0 else 0 - p0)) * (Int32.toInt64 (180 - (if 0 ≤ p0 then p0 else 0 - p0))))) (40500 - ((Int32.toInt64 (if 0 ≤ p0 then p0 else 0 - p0)) * (Int32.toInt64 (180 - (if 0 ≤ p0 then p0 else 0 - p0))))))) := hM
    exact hret _ _ ls rfl dX4_sineOf_43 hM.symm
  · have hM := hM.trans (if_neg c_1)
    refine lv_iload hx hb dX4_sineOf_35 (lv_at hl 0 rfl) ?_
    refine lv_ineg hx hb dX4_sineOf_37 ?_
    refine lv_goto (tgt := 43) hx hb dX4_sineOf_38 (by decide) ?_
    have hM : (m_T_sineOf p0) = (-(Int64.toInt32 (m_T_down (4000 * ((Int32.toInt64 (if 0 ≤ p0 then p0 else 0 - p0)) * (Int32.toInt64 (180 - (if 0 ≤ p0 then p0 else 0 - p0))))) (40500 - ((Int32.toInt64 (if 0 ≤ p0 then p0 else 0 - p0)) * (Int32.toInt64 (180 - (if 0 ≤ p0 then p0 else 0 - p0)))))))) := hM
    exact hret _ _ ls rfl dX4_sineOf_43 hM.symm
abbrev rm_M_flightOf : Room := { frames := 2, cells := 0, slots := 0, locals := 48 }
set_option maxHeartbeats 4000000 in
set_option maxRecDepth 100000 in
theorem K_M_flightOf {l : Launch} {D : va_G} {cI : ClassId} {lo : Nat} {g : Nat → Nat} (hg : wI g 1 6 lo) (sM : St) (p1 : Int32) (p2 : Int32) : ROi l D cI lo yX1_flightOf wsX1_flightOf rm_M_flightOf [.ref (g 1), .int p1, .int p2] (fun H => va_P D vwCl (cellM cI g sM) H) (m_M_flightOf sM p1 p2) := by
  refine ofW_ROi (cc := cX1_flightOf) (maxL := 5) (ty := .int) (by decide +kernel) rfl (Nat.le_of_ble_eq_true rfl) ?_
  intro p e s m args below meth c Q hx hb hml hown hts hE hP hret ls hl
  have hown : s.vm.findClass RX1 = some m.cls := hown
  have hPM := hP
  have hA : ∀ q : Nat, (fun _ : Nat => False) q → lo ≤ q := fun _ h => h.elim
  have hS : va_S (fun _ : Nat => False) s.heap s.heap [] := va_S.rf
  have hinM : ∀ w ∈ wsX10, w ∈ wsX1_flightOf := fun w h => List.mem_cons_of_mem _ (List.mem_append_right _ h)
  have hl : lv_has ls 5 [(0, .ref (g 1)), (1, .int p1), (2, .int p2)] := hl
  have hM : (m_M_flightOf sM p1 p2) = (m_M_flightOf sM p1 p2) := rfl
  refine lv_lconst (v := 0) hx hb dX1_flightOf_0 (by decide) ?_
  refine lv_iload_n hx hb dX1_flightOf_1 rfl (lv_at hl 2 rfl) ?_
  refine lv_i2l (v := (Int32.toInt64 p2)) hx hb dX1_flightOf_2 rfl ?_
  refine lv_iload_n hx hb dX1_flightOf_3 rfl (lv_at hl 2 rfl) ?_
  refine lv_i2l (v := (Int32.toInt64 p2)) hx hb dX1_flightOf_4 rfl ?_
  refine lv_iload_n hx hb dX1_flightOf_5 rfl (lv_at hl 2 rfl) ?_
  refine lv_i2l (v := (Int32.toInt64 p2)) hx hb dX1_flightOf_6 rfl ?_
  refine lv_lmul hx hb dX1_flightOf_7 ?_
  refine lv_ldc2 (own := RX1) (index := 92) (v := 20) hx hb hown (hts (.constantLong RX1 92 (20)) (List.mem_of_getElem? (i := 1) rfl)) dX1_flightOf_8 ?_
  refine lv_aload_n hx hb dX1_flightOf_11 rfl (lv_at hl 0 rfl) ?_
  refine va_get (D := D) (ci := 1) (v := .ref (g 2)) (C := RX1) (T := TX1) (N := 6) hx hb hts hinM hown hE.1 hPM 0 rfl rfl 0 (by decide) (hts (.fieldLink RX1 11 "WallStones$Machine" "number" "[I") (List.mem_of_getElem? (i := 2) rfl)) (fun _ h9 => h9) rfl dX1_flightOf_12 ?_
  refine lv_bipush (v := 7) hx hb dX1_flightOf_15 (by decide) ?_
  refine va_iald hx hb hE.1 hPM 1 0 rfl rfl (vp_in_iff.mpr (by decide)) dX1_flightOf_17 ?_
  refine W.eq (congrArg (fun z => F0 m 18 ls [.int (sM 1 z), .long 20, .long ((Int32.toInt64 p2) * (Int32.toInt64 p2)), .long (Int32.toInt64 p2), .long 0]) cl_7) ?_
  refine lv_i2l (v := (Int32.toInt64 (sM 1 7))) hx hb dX1_flightOf_18 rfl ?_
  refine lv_lmul hx hb dX1_flightOf_19 ?_
  refine lv_ldc2 (own := RX1) (index := 94) (v := 2000) hx hb hown (hts (.constantLong RX1 94 (2000)) (List.mem_of_getElem? (i := 3) rfl)) dX1_flightOf_20 ?_
  refine lv_ladd hx hb dX1_flightOf_23 ?_
  refine runS_l (va_runSN (As := [.long ((Int32.toInt64 p2) * (Int32.toInt64 p2)), .long ((20 * (Int32.toInt64 (sM 1 7))) + 2000)]) (rest := [.long (Int32.toInt64 p2), .long 0]) ⟨hx, hb, hml, hown, hts⟩ (K_T_down ((Int32.toInt64 p2) * (Int32.toInt64 p2)) ((20 * (Int32.toInt64 (sM 1 7))) + 2000)) ⟨va_cnB 2 hts gX1_flightOf_X4_down_n54 rfl rfl rfl hE.2.1.2.2.2.1 (hts (.initialized RX4) (List.mem_of_getElem? (i := 13) rfl)) (by decide +kernel) ⟨Nat.le_of_ble_eq_true rfl, Nat.le_of_ble_eq_true rfl⟩, (hts (.static yX4_down) (List.mem_of_getElem? (i := 12) rfl)), trivial⟩ (preS_of hE hA hS trivial) rfl rfl hl.1 rfl (lv_room (Nat.le_of_ble_eq_true rfl)) dX1_flightOf_24 ⟨Nat.zero_le _, Nat.zero_le _⟩) ?_
  refine lv_lsub hx hb dX1_flightOf_27 ?_
  refine va_mmax_long hx hb (by rw [hml]; exact hl.1.symm) hown (hts (.methodLink RX1 96 Lib.MathLoose.max_long.x) (List.mem_of_getElem? (i := 4) rfl)) (hts (.static Lib.MathLoose.max_long.x) (List.mem_of_getElem? (i := 5) rfl)) (hts (.initialized "java/lang/Math") (List.mem_of_getElem? (i := 6) rfl)) (hts (.code Lib.MathLoose.max_long.x Lib.MathLoose.max_long.code 4 (some .long)) (List.mem_of_getElem? (i := 7) rfl)) (Nat.le_of_ble_eq_true rfl) (Nat.le_of_ble_eq_true rfl) (Nat.zero_le _) (Nat.zero_le _) dX1_flightOf_28 ?_
  refine lv_lstore_n (lv' := [(3, .long (if ((Int32.toInt64 p2) - (m_T_down ((Int32.toInt64 p2) * (Int32.toInt64 p2)) ((20 * (Int32.toInt64 (sM 1 7))) + 2000))) < 0 then 0 else ((Int32.toInt64 p2) - (m_T_down ((Int32.toInt64 p2) * (Int32.toInt64 p2)) ((20 * (Int32.toInt64 (sM 1 7))) + 2000))))), (0, .ref (g 1)), (1, .int p1), (2, .int p2)]) hx hb dX1_flightOf_31 rfl hl (by decide) rfl (fun ls hl => ?_)
  refine lv_iload_n hx hb dX1_flightOf_32 rfl (lv_at hl 2 rfl) ?_
  refine lv_iconst (v := 1) hx hb dX1_flightOf_33 (by decide) ?_
  refine lv_icmp_lt (tgt := 47) hx hb dX1_flightOf_34 (by decide) (fun c_1 => ?_) (fun c_1 => ?_)
  · have hM := hM.trans (if_pos c_1)
    have t_1 : p1.toInt < 1 := lt_t c_1
    refine lv_iload_n hx hb dX1_flightOf_47 rfl (lv_at hl 2 rfl) ?_
    refine lv_iconst (v := 2) hx hb dX1_flightOf_48 (by decide) ?_
    refine lv_icmp_lt (tgt := 74) hx hb dX1_flightOf_49 (by decide) (fun c_2 => ?_) (fun c_2 => ?_)
    · have hM := hM.trans (if_pos c_2)
      have t_2 : p1.toInt < 2 := lt_t c_2
      refine lv_lload_n hx hb dX1_flightOf_74 rfl (lv_at hl 0 rfl) ?_
      refine lv_l2i (v := (Int64.toInt32 (if ((Int32.toInt64 p2) - (m_T_down ((Int32.toInt64 p2) * (Int32.toInt64 p2)) ((20 * (Int32.toInt64 (sM 1 7))) + 2000))) < 0 then 0 else ((Int32.toInt64 p2) - (m_T_down ((Int32.toInt64 p2) * (Int32.toInt64 p2)) ((20 * (Int32.toInt64 (sM 1 7))) + 2000)))))) hx hb dX1_flightOf_75 rfl ?_
      have hM : (m_M_flightOf sM p1 p2) = (Int64.toInt32 (if ((Int32.toInt64 p2) - (m_T_down ((Int32.toInt64 p2) * (Int32.toInt64 p2)) ((20 * (Int32.toInt64 (sM 1 7))) + 2000))) < 0 then 0 else ((Int32.toInt64 p2) - (m_T_down ((Int32.toInt64 p2) * (Int32.toInt64 p2)) ((20 * (Int32.toInt64 (sM 1 7))) + 2000))))) := hM
      exact hret _ _ ls rfl dX1_flightOf_76 hM.symm
    · have hM := hM.trans (if_neg c_2)
      have t_2 : 2 ≤ p1.toInt := nlt_t c_2
      refine lv_lconst (v := 0) hx hb dX1_flightOf_52 (by decide) ?_
      refine lv_lload_n hx hb dX1_flightOf_53 rfl (lv_at hl 0 rfl) ?_
      refine lv_ldc2 (own := RX1) (index := 60) (v := 2) hx hb hown (hts (.constantLong RX1 60 (2)) (List.mem_of_getElem? (i := 9) rfl)) dX1_flightOf_54 ?_
      refine lv_lload_n hx hb dX1_flightOf_57 rfl (lv_at hl 0 rfl) ?_
      refine lv_ldc2 (own := RX1) (index := 100) (v := 25) hx hb hown (hts (.constantLong RX1 100 (25)) (List.mem_of_getElem? (i := 10) rfl)) dX1_flightOf_58 ?_
      refine runS_l (va_runSN (As := [.long (if ((Int32.toInt64 p2) - (m_T_down ((Int32.toInt64 p2) * (Int32.toInt64 p2)) ((20 * (Int32.toInt64 (sM 1 7))) + 2000))) < 0 then 0 else ((Int32.toInt64 p2) - (m_T_down ((Int32.toInt64 p2) * (Int32.toInt64 p2)) ((20 * (Int32.toInt64 (sM 1 7))) + 2000)))), .long 25]) (rest := [.long 2, .long (if ((Int32.toInt64 p2) - (m_T_down ((Int32.toInt64 p2) * (Int32.toInt64 p2)) ((20 * (Int32.toInt64 (sM 1 7))) + 2000))) < 0 then 0 else ((Int32.toInt64 p2) - (m_T_down ((Int32.toInt64 p2) * (Int32.toInt64 p2)) ((20 * (Int32.toInt64 (sM 1 7))) + 2000)))), .long 0]) ⟨hx, hb, hml, hown, hts⟩ (K_T_down (if ((Int32.toInt64 p2) - (m_T_down ((Int32.toInt64 p2) * (Int32.toInt64 p2)) ((20 * (Int32.toInt64 (sM 1 7))) + 2000))) < 0 then 0 else ((Int32.toInt64 p2) - (m_T_down ((Int32.toInt64 p2) * (Int32.toInt64 p2)) ((20 * (Int32.toInt64 (sM 1 7))) + 2000)))) 25) ⟨va_cnB 2 hts gX1_flightOf_X4_down_n54 rfl rfl rfl hE.2.1.2.2.2.1 (hts (.initialized RX4) (List.mem_of_getElem? (i := 13) rfl)) (by decide +kernel) ⟨Nat.le_of_ble_eq_true rfl, Nat.le_of_ble_eq_true rfl⟩, (hts (.static yX4_down) (List.mem_of_getElem? (i := 12) rfl)), trivial⟩ (preS_of hE hA hS trivial) rfl rfl hl.1 rfl (lv_room (Nat.le_of_ble_eq_true rfl)) dX1_flightOf_61 ⟨Nat.zero_le _, Nat.zero_le _⟩) ?_
      refine lv_lmul hx hb dX1_flightOf_64 ?_
      refine lv_lsub hx hb dX1_flightOf_65 ?_
      refine lv_ldc2 (own := RX1) (index := 102) (v := 3) hx hb hown (hts (.constantLong RX1 102 (3)) (List.mem_of_getElem? (i := 11) rfl)) dX1_flightOf_66 ?_
      refine lv_lsub hx hb dX1_flightOf_69 ?_
      refine va_mmax_long hx hb (by rw [hml]; exact hl.1.symm) hown (hts (.methodLink RX1 96 Lib.MathLoose.max_long.x) (List.mem_of_getElem? (i := 4) rfl)) (hts (.static Lib.MathLoose.max_long.x) (List.mem_of_getElem? (i := 5) rfl)) (hts (.initialized "java/lang/Math") (List.mem_of_getElem? (i := 6) rfl)) (hts (.code Lib.MathLoose.max_long.x Lib.MathLoose.max_long.code 4 (some .long)) (List.mem_of_getElem? (i := 7) rfl)) (Nat.le_of_ble_eq_true rfl) (Nat.le_of_ble_eq_true rfl) (Nat.zero_le _) (Nat.zero_le _) dX1_flightOf_70 ?_
      refine lv_lstore_n (lv' := [(3, .long (if (((if ((Int32.toInt64 p2) - (m_T_down ((Int32.toInt64 p2) * (Int32.toInt64 p2)) ((20 * (Int32.toInt64 (sM 1 7))) + 2000))) < 0 then 0 else ((Int32.toInt64 p2) - (m_T_down ((Int32.toInt64 p2) * (Int32.toInt64 p2)) ((20 * (Int32.toInt64 (sM 1 7))) + 2000)))) - (2 * (m_T_down (if ((Int32.toInt64 p2) - (m_T_down ((Int32.toInt64 p2) * (Int32.toInt64 p2)) ((20 * (Int32.toInt64 (sM 1 7))) + 2000))) < 0 then 0 else ((Int32.toInt64 p2) - (m_T_down ((Int32.toInt64 p2) * (Int32.toInt64 p2)) ((20 * (Int32.toInt64 (sM 1 7))) + 2000)))) 25))) - 3) < 0 then 0 else (((if ((Int32.toInt64 p2) - (m_T_down ((Int32.toInt64 p2) * (Int32.toInt64 p2)) ((20 * (Int32.toInt64 (sM 1 7))) + 2000))) < 0 then 0 else ((Int32.toInt64 p2) - (m_T_down ((Int32.toInt64 p2) * (Int32.toInt64 p2)) ((20 * (Int32.toInt64 (sM 1 7))) + 2000)))) - (2 * (m_T_down (if ((Int32.toInt64 p2) - (m_T_down ((Int32.toInt64 p2) * (Int32.toInt64 p2)) ((20 * (Int32.toInt64 (sM 1 7))) + 2000))) < 0 then 0 else ((Int32.toInt64 p2) - (m_T_down ((Int32.toInt64 p2) * (Int32.toInt64 p2)) ((20 * (Int32.toInt64 (sM 1 7))) + 2000)))) 25))) - 3))), (0, .ref (g 1)), (1, .int p1), (2, .int p2)]) hx hb dX1_flightOf_73 rfl hl (by decide) rfl (fun ls hl => ?_)
      refine lv_lload_n hx hb dX1_flightOf_74 rfl (lv_at hl 0 rfl) ?_
      refine lv_l2i (v := (Int64.toInt32 (if (((if ((Int32.toInt64 p2) - (m_T_down ((Int32.toInt64 p2) * (Int32.toInt64 p2)) ((20 * (Int32.toInt64 (sM 1 7))) + 2000))) < 0 then 0 else ((Int32.toInt64 p2) - (m_T_down ((Int32.toInt64 p2) * (Int32.toInt64 p2)) ((20 * (Int32.toInt64 (sM 1 7))) + 2000)))) - (2 * (m_T_down (if ((Int32.toInt64 p2) - (m_T_down ((Int32.toInt64 p2) * (Int32.toInt64 p2)) ((20 * (Int32.toInt64 (sM 1 7))) + 2000))) < 0 then 0 else ((Int32.toInt64 p2) - (m_T_down ((Int32.toInt64 p2) * (Int32.toInt64 p2)) ((20 * (Int32.toInt64 (sM 1 7))) + 2000)))) 25))) - 3) < 0 then 0 else (((if ((Int32.toInt64 p2) - (m_T_down ((Int32.toInt64 p2) * (Int32.toInt64 p2)) ((20 * (Int32.toInt64 (sM 1 7))) + 2000))) < 0 then 0 else ((Int32.toInt64 p2) - (m_T_down ((Int32.toInt64 p2) * (Int32.toInt64 p2)) ((20 * (Int32.toInt64 (sM 1 7))) + 2000)))) - (2 * (m_T_down (if ((Int32.toInt64 p2) - (m_T_down ((Int32.toInt64 p2) * (Int32.toInt64 p2)) ((20 * (Int32.toInt64 (sM 1 7))) + 2000))) < 0 then 0 else ((Int32.toInt64 p2) - (m_T_down ((Int32.toInt64 p2) * (Int32.toInt64 p2)) ((20 * (Int32.toInt64 (sM 1 7))) + 2000)))) 25))) - 3)))) hx hb dX1_flightOf_75 rfl ?_
      have hM : (m_M_flightOf sM p1 p2) = (Int64.toInt32 (if (((if ((Int32.toInt64 p2) - (m_T_down ((Int32.toInt64 p2) * (Int32.toInt64 p2)) ((20 * (Int32.toInt64 (sM 1 7))) + 2000))) < 0 then 0 else ((Int32.toInt64 p2) - (m_T_down ((Int32.toInt64 p2) * (Int32.toInt64 p2)) ((20 * (Int32.toInt64 (sM 1 7))) + 2000)))) - (2 * (m_T_down (if ((Int32.toInt64 p2) - (m_T_down ((Int32.toInt64 p2) * (Int32.toInt64 p2)) ((20 * (Int32.toInt64 (sM 1 7))) + 2000))) < 0 then 0 else ((Int32.toInt64 p2) - (m_T_down ((Int32.toInt64 p2) * (Int32.toInt64 p2)) ((20 * (Int32.toInt64 (sM 1 7))) + 2000)))) 25))) - 3) < 0 then 0 else (((if ((Int32.toInt64 p2) - (m_T_down ((Int32.toInt64 p2) * (Int32.toInt64 p2)) ((20 * (Int32.toInt64 (sM 1 7))) + 2000))) < 0 then 0 else ((Int32.toInt64 p2) - (m_T_down ((Int32.toInt64 p2) * (Int32.toInt64 p2)) ((20 * (Int32.toInt64 (sM 1 7))) + 2000)))) - (2 * (m_T_down (if ((Int32.toInt64 p2) - (m_T_down ((Int32.toInt64 p2) * (Int32.toInt64 p2)) ((20 * (Int32.toInt64 (sM 1 7))) + 2000))) < 0 then 0 else ((Int32.toInt64 p2) - (m_T_down ((Int32.toInt64 p2) * (Int32.toInt64 p2)) ((20 * (Int32.toInt64 (sM 1 7))) + 2000)))) 25))) - 3))) := hM
      exact hret _ _ ls rfl dX1_flightOf_76 hM.symm
  · have hM := hM.trans (if_neg c_1)
    have t_1 : 1 ≤ p1.toInt := nlt_t c_1
    refine lv_lload_n hx hb dX1_flightOf_37 rfl (lv_at hl 0 rfl) ?_
    refine lv_lload_n hx hb dX1_flightOf_38 rfl (lv_at hl 0 rfl) ?_
    refine lv_ldc2 (own := RX1) (index := 98) (v := 8) hx hb hown (hts (.constantLong RX1 98 (8)) (List.mem_of_getElem? (i := 8) rfl)) dX1_flightOf_39 ?_
    refine runS_l (va_runSN (As := [.long (if ((Int32.toInt64 p2) - (m_T_down ((Int32.toInt64 p2) * (Int32.toInt64 p2)) ((20 * (Int32.toInt64 (sM 1 7))) + 2000))) < 0 then 0 else ((Int32.toInt64 p2) - (m_T_down ((Int32.toInt64 p2) * (Int32.toInt64 p2)) ((20 * (Int32.toInt64 (sM 1 7))) + 2000)))), .long 8]) (rest := [.long (if ((Int32.toInt64 p2) - (m_T_down ((Int32.toInt64 p2) * (Int32.toInt64 p2)) ((20 * (Int32.toInt64 (sM 1 7))) + 2000))) < 0 then 0 else ((Int32.toInt64 p2) - (m_T_down ((Int32.toInt64 p2) * (Int32.toInt64 p2)) ((20 * (Int32.toInt64 (sM 1 7))) + 2000))))]) ⟨hx, hb, hml, hown, hts⟩ (K_T_up (if ((Int32.toInt64 p2) - (m_T_down ((Int32.toInt64 p2) * (Int32.toInt64 p2)) ((20 * (Int32.toInt64 (sM 1 7))) + 2000))) < 0 then 0 else ((Int32.toInt64 p2) - (m_T_down ((Int32.toInt64 p2) * (Int32.toInt64 p2)) ((20 * (Int32.toInt64 (sM 1 7))) + 2000)))) 8) ⟨va_cnB 2 hts gX1_flightOf_X4_up_n62 rfl rfl rfl hE.2.1.2.2.2.2.1 (hts (.initialized RX4) (List.mem_of_getElem? (i := 13) rfl)) (by decide +kernel) ⟨Nat.le_of_ble_eq_true rfl, Nat.le_of_ble_eq_true rfl⟩, (hts (.static yX4_up) (List.mem_of_getElem? (i := 19) rfl)), trivial⟩ (preS_of hE hA hS trivial) rfl rfl hl.1 rfl (lv_room (Nat.le_of_ble_eq_true rfl)) dX1_flightOf_42 ⟨Nat.zero_le _, Nat.zero_le _⟩) ?_
    refine lv_lsub hx hb dX1_flightOf_45 ?_
    refine lv_lstore_n (lv' := [(3, .long ((if ((Int32.toInt64 p2) - (m_T_down ((Int32.toInt64 p2) * (Int32.toInt64 p2)) ((20 * (Int32.toInt64 (sM 1 7))) + 2000))) < 0 then 0 else ((Int32.toInt64 p2) - (m_T_down ((Int32.toInt64 p2) * (Int32.toInt64 p2)) ((20 * (Int32.toInt64 (sM 1 7))) + 2000)))) - (m_T_up (if ((Int32.toInt64 p2) - (m_T_down ((Int32.toInt64 p2) * (Int32.toInt64 p2)) ((20 * (Int32.toInt64 (sM 1 7))) + 2000))) < 0 then 0 else ((Int32.toInt64 p2) - (m_T_down ((Int32.toInt64 p2) * (Int32.toInt64 p2)) ((20 * (Int32.toInt64 (sM 1 7))) + 2000)))) 8))), (0, .ref (g 1)), (1, .int p1), (2, .int p2)]) hx hb dX1_flightOf_46 rfl hl (by decide) rfl (fun ls hl => ?_)
    refine lv_iload_n hx hb dX1_flightOf_47 rfl (lv_at hl 2 rfl) ?_
    refine lv_iconst (v := 2) hx hb dX1_flightOf_48 (by decide) ?_
    refine lv_icmp_lt (tgt := 74) hx hb dX1_flightOf_49 (by decide) (fun c_3 => ?_) (fun c_3 => ?_)
    · have hM := hM.trans (if_pos c_3)
      have t_3 : p1.toInt < 2 := lt_t c_3
      refine lv_lload_n hx hb dX1_flightOf_74 rfl (lv_at hl 0 rfl) ?_
      refine lv_l2i (v := (Int64.toInt32 ((if ((Int32.toInt64 p2) - (m_T_down ((Int32.toInt64 p2) * (Int32.toInt64 p2)) ((20 * (Int32.toInt64 (sM 1 7))) + 2000))) < 0 then 0 else ((Int32.toInt64 p2) - (m_T_down ((Int32.toInt64 p2) * (Int32.toInt64 p2)) ((20 * (Int32.toInt64 (sM 1 7))) + 2000)))) - (m_T_up (if ((Int32.toInt64 p2) - (m_T_down ((Int32.toInt64 p2) * (Int32.toInt64 p2)) ((20 * (Int32.toInt64 (sM 1 7))) + 2000))) < 0 then 0 else ((Int32.toInt64 p2) - (m_T_down ((Int32.toInt64 p2) * (Int32.toInt64 p2)) ((20 * (Int32.toInt64 (sM 1 7))) + 2000)))) 8)))) hx hb dX1_flightOf_75 rfl ?_
      have hM : (m_M_flightOf sM p1 p2) = (Int64.toInt32 ((if ((Int32.toInt64 p2) - (m_T_down ((Int32.toInt64 p2) * (Int32.toInt64 p2)) ((20 * (Int32.toInt64 (sM 1 7))) + 2000))) < 0 then 0 else ((Int32.toInt64 p2) - (m_T_down ((Int32.toInt64 p2) * (Int32.toInt64 p2)) ((20 * (Int32.toInt64 (sM 1 7))) + 2000)))) - (m_T_up (if ((Int32.toInt64 p2) - (m_T_down ((Int32.toInt64 p2) * (Int32.toInt64 p2)) ((20 * (Int32.toInt64 (sM 1 7))) + 2000))) < 0 then 0 else ((Int32.toInt64 p2) - (m_T_down ((Int32.toInt64 p2) * (Int32.toInt64 p2)) ((20 * (Int32.toInt64 (sM 1 7))) + 2000)))) 8))) := hM
      exact hret _ _ ls rfl dX1_flightOf_76 hM.symm
    · have hM := hM.trans (if_neg c_3)
      have t_3 : 2 ≤ p1.toInt := nlt_t c_3
      refine lv_lconst (v := 0) hx hb dX1_flightOf_52 (by decide) ?_
      refine lv_lload_n hx hb dX1_flightOf_53 rfl (lv_at hl 0 rfl) ?_
      refine lv_ldc2 (own := RX1) (index := 60) (v := 2) hx hb hown (hts (.constantLong RX1 60 (2)) (List.mem_of_getElem? (i := 9) rfl)) dX1_flightOf_54 ?_
      refine lv_lload_n hx hb dX1_flightOf_57 rfl (lv_at hl 0 rfl) ?_
      refine lv_ldc2 (own := RX1) (index := 100) (v := 25) hx hb hown (hts (.constantLong RX1 100 (25)) (List.mem_of_getElem? (i := 10) rfl)) dX1_flightOf_58 ?_
      refine runS_l (va_runSN (As := [.long ((if ((Int32.toInt64 p2) - (m_T_down ((Int32.toInt64 p2) * (Int32.toInt64 p2)) ((20 * (Int32.toInt64 (sM 1 7))) + 2000))) < 0 then 0 else ((Int32.toInt64 p2) - (m_T_down ((Int32.toInt64 p2) * (Int32.toInt64 p2)) ((20 * (Int32.toInt64 (sM 1 7))) + 2000)))) - (m_T_up (if ((Int32.toInt64 p2) - (m_T_down ((Int32.toInt64 p2) * (Int32.toInt64 p2)) ((20 * (Int32.toInt64 (sM 1 7))) + 2000))) < 0 then 0 else ((Int32.toInt64 p2) - (m_T_down ((Int32.toInt64 p2) * (Int32.toInt64 p2)) ((20 * (Int32.toInt64 (sM 1 7))) + 2000)))) 8)), .long 25]) (rest := [.long 2, .long ((if ((Int32.toInt64 p2) - (m_T_down ((Int32.toInt64 p2) * (Int32.toInt64 p2)) ((20 * (Int32.toInt64 (sM 1 7))) + 2000))) < 0 then 0 else ((Int32.toInt64 p2) - (m_T_down ((Int32.toInt64 p2) * (Int32.toInt64 p2)) ((20 * (Int32.toInt64 (sM 1 7))) + 2000)))) - (m_T_up (if ((Int32.toInt64 p2) - (m_T_down ((Int32.toInt64 p2) * (Int32.toInt64 p2)) ((20 * (Int32.toInt64 (sM 1 7))) + 2000))) < 0 then 0 else ((Int32.toInt64 p2) - (m_T_down ((Int32.toInt64 p2) * (Int32.toInt64 p2)) ((20 * (Int32.toInt64 (sM 1 7))) + 2000)))) 8)), .long 0]) ⟨hx, hb, hml, hown, hts⟩ (K_T_down ((if ((Int32.toInt64 p2) - (m_T_down ((Int32.toInt64 p2) * (Int32.toInt64 p2)) ((20 * (Int32.toInt64 (sM 1 7))) + 2000))) < 0 then 0 else ((Int32.toInt64 p2) - (m_T_down ((Int32.toInt64 p2) * (Int32.toInt64 p2)) ((20 * (Int32.toInt64 (sM 1 7))) + 2000)))) - (m_T_up (if ((Int32.toInt64 p2) - (m_T_down ((Int32.toInt64 p2) * (Int32.toInt64 p2)) ((20 * (Int32.toInt64 (sM 1 7))) + 2000))) < 0 then 0 else ((Int32.toInt64 p2) - (m_T_down ((Int32.toInt64 p2) * (Int32.toInt64 p2)) ((20 * (Int32.toInt64 (sM 1 7))) + 2000)))) 8)) 25) ⟨va_cnB 2 hts gX1_flightOf_X4_down_n54 rfl rfl rfl hE.2.1.2.2.2.1 (hts (.initialized RX4) (List.mem_of_getElem? (i := 13) rfl)) (by decide +kernel) ⟨Nat.le_of_ble_eq_true rfl, Nat.le_of_ble_eq_true rfl⟩, (hts (.static yX4_down) (List.mem_of_getElem? (i := 12) rfl)), trivial⟩ (preS_of hE hA hS trivial) rfl rfl hl.1 rfl (lv_room (Nat.le_of_ble_eq_true rfl)) dX1_flightOf_61 ⟨Nat.zero_le _, Nat.zero_le _⟩) ?_
      refine lv_lmul hx hb dX1_flightOf_64 ?_
      refine lv_lsub hx hb dX1_flightOf_65 ?_
      refine lv_ldc2 (own := RX1) (index := 102) (v := 3) hx hb hown (hts (.constantLong RX1 102 (3)) (List.mem_of_getElem? (i := 11) rfl)) dX1_flightOf_66 ?_
      refine lv_lsub hx hb dX1_flightOf_69 ?_
      refine va_mmax_long hx hb (by rw [hml]; exact hl.1.symm) hown (hts (.methodLink RX1 96 Lib.MathLoose.max_long.x) (List.mem_of_getElem? (i := 4) rfl)) (hts (.static Lib.MathLoose.max_long.x) (List.mem_of_getElem? (i := 5) rfl)) (hts (.initialized "java/lang/Math") (List.mem_of_getElem? (i := 6) rfl)) (hts (.code Lib.MathLoose.max_long.x Lib.MathLoose.max_long.code 4 (some .long)) (List.mem_of_getElem? (i := 7) rfl)) (Nat.le_of_ble_eq_true rfl) (Nat.le_of_ble_eq_true rfl) (Nat.zero_le _) (Nat.zero_le _) dX1_flightOf_70 ?_
      refine lv_lstore_n (lv' := [(3, .long (if ((((if ((Int32.toInt64 p2) - (m_T_down ((Int32.toInt64 p2) * (Int32.toInt64 p2)) ((20 * (Int32.toInt64 (sM 1 7))) + 2000))) < 0 then 0 else ((Int32.toInt64 p2) - (m_T_down ((Int32.toInt64 p2) * (Int32.toInt64 p2)) ((20 * (Int32.toInt64 (sM 1 7))) + 2000)))) - (m_T_up (if ((Int32.toInt64 p2) - (m_T_down ((Int32.toInt64 p2) * (Int32.toInt64 p2)) ((20 * (Int32.toInt64 (sM 1 7))) + 2000))) < 0 then 0 else ((Int32.toInt64 p2) - (m_T_down ((Int32.toInt64 p2) * (Int32.toInt64 p2)) ((20 * (Int32.toInt64 (sM 1 7))) + 2000)))) 8)) - (2 * (m_T_down ((if ((Int32.toInt64 p2) - (m_T_down ((Int32.toInt64 p2) * (Int32.toInt64 p2)) ((20 * (Int32.toInt64 (sM 1 7))) + 2000))) < 0 then 0 else ((Int32.toInt64 p2) - (m_T_down ((Int32.toInt64 p2) * (Int32.toInt64 p2)) ((20 * (Int32.toInt64 (sM 1 7))) + 2000)))) - (m_T_up (if ((Int32.toInt64 p2) - (m_T_down ((Int32.toInt64 p2) * (Int32.toInt64 p2)) ((20 * (Int32.toInt64 (sM 1 7))) + 2000))) < 0 then 0 else ((Int32.toInt64 p2) - (m_T_down ((Int32.toInt64 p2) * (Int32.toInt64 p2)) ((20 * (Int32.toInt64 (sM 1 7))) + 2000)))) 8)) 25))) - 3) < 0 then 0 else ((((if ((Int32.toInt64 p2) - (m_T_down ((Int32.toInt64 p2) * (Int32.toInt64 p2)) ((20 * (Int32.toInt64 (sM 1 7))) + 2000))) < 0 then 0 else ((Int32.toInt64 p2) - (m_T_down ((Int32.toInt64 p2) * (Int32.toInt64 p2)) ((20 * (Int32.toInt64 (sM 1 7))) + 2000)))) - (m_T_up (if ((Int32.toInt64 p2) - (m_T_down ((Int32.toInt64 p2) * (Int32.toInt64 p2)) ((20 * (Int32.toInt64 (sM 1 7))) + 2000))) < 0 then 0 else ((Int32.toInt64 p2) - (m_T_down ((Int32.toInt64 p2) * (Int32.toInt64 p2)) ((20 * (Int32.toInt64 (sM 1 7))) + 2000)))) 8)) - (2 * (m_T_down ((if ((Int32.toInt64 p2) - (m_T_down ((Int32.toInt64 p2) * (Int32.toInt64 p2)) ((20 * (Int32.toInt64 (sM 1 7))) + 2000))) < 0 then 0 else ((Int32.toInt64 p2) - (m_T_down ((Int32.toInt64 p2) * (Int32.toInt64 p2)) ((20 * (Int32.toInt64 (sM 1 7))) + 2000)))) - (m_T_up (if ((Int32.toInt64 p2) - (m_T_down ((Int32.toInt64 p2) * (Int32.toInt64 p2)) ((20 * (Int32.toInt64 (sM 1 7))) + 2000))) < 0 then 0 else ((Int32.toInt64 p2) - (m_T_down ((Int32.toInt64 p2) * (Int32.toInt64 p2)) ((20 * (Int32.toInt64 (sM 1 7))) + 2000)))) 8)) 25))) - 3))), (0, .ref (g 1)), (1, .int p1), (2, .int p2)]) hx hb dX1_flightOf_73 rfl hl (by decide) rfl (fun ls hl => ?_)
      refine lv_lload_n hx hb dX1_flightOf_74 rfl (lv_at hl 0 rfl) ?_
      refine lv_l2i (v := (Int64.toInt32 (if ((((if ((Int32.toInt64 p2) - (m_T_down ((Int32.toInt64 p2) * (Int32.toInt64 p2)) ((20 * (Int32.toInt64 (sM 1 7))) + 2000))) < 0 then 0 else ((Int32.toInt64 p2) - (m_T_down ((Int32.toInt64 p2) * (Int32.toInt64 p2)) ((20 * (Int32.toInt64 (sM 1 7))) + 2000)))) - (m_T_up (if ((Int32.toInt64 p2) - (m_T_down ((Int32.toInt64 p2) * (Int32.toInt64 p2)) ((20 * (Int32.toInt64 (sM 1 7))) + 2000))) < 0 then 0 else ((Int32.toInt64 p2) - (m_T_down ((Int32.toInt64 p2) * (Int32.toInt64 p2)) ((20 * (Int32.toInt64 (sM 1 7))) + 2000)))) 8)) - (2 * (m_T_down ((if ((Int32.toInt64 p2) - (m_T_down ((Int32.toInt64 p2) * (Int32.toInt64 p2)) ((20 * (Int32.toInt64 (sM 1 7))) + 2000))) < 0 then 0 else ((Int32.toInt64 p2) - (m_T_down ((Int32.toInt64 p2) * (Int32.toInt64 p2)) ((20 * (Int32.toInt64 (sM 1 7))) + 2000)))) - (m_T_up (if ((Int32.toInt64 p2) - (m_T_down ((Int32.toInt64 p2) * (Int32.toInt64 p2)) ((20 * (Int32.toInt64 (sM 1 7))) + 2000))) < 0 then 0 else ((Int32.toInt64 p2) - (m_T_down ((Int32.toInt64 p2) * (Int32.toInt64 p2)) ((20 * (Int32.toInt64 (sM 1 7))) + 2000)))) 8)) 25))) - 3) < 0 then 0 else ((((if ((Int32.toInt64 p2) - (m_T_down ((Int32.toInt64 p2) * (Int32.toInt64 p2)) ((20 * (Int32.toInt64 (sM 1 7))) + 2000))) < 0 then 0 else ((Int32.toInt64 p2) - (m_T_down ((Int32.toInt64 p2) * (Int32.toInt64 p2)) ((20 * (Int32.toInt64 (sM 1 7))) + 2000)))) - (m_T_up (if ((Int32.toInt64 p2) - (m_T_down ((Int32.toInt64 p2) * (Int32.toInt64 p2)) ((20 * (Int32.toInt64 (sM 1 7))) + 2000))) < 0 then 0 else ((Int32.toInt64 p2) - (m_T_down ((Int32.toInt64 p2) * (Int32.toInt64 p2)) ((20 * (Int32.toInt64 (sM 1 7))) + 2000)))) 8)) - (2 * (m_T_down ((if ((Int32.toInt64 p2) - (m_T_down ((Int32.toInt64 p2) * (Int32.toInt64 p2)) ((20 * (Int32.toInt64 (sM 1 7))) + 2000))) < 0 then 0 else ((Int32.toInt64 p2) - (m_T_down ((Int32.toInt64 p2) * (Int32.toInt64 p2)) ((20 * (Int32.toInt64 (sM 1 7))) + 2000)))) - (m_T_up (if ((Int32.toInt64 p2) - (m_T_down ((Int32.toInt64 p2) * (Int32.toInt64 p2)) ((20 * (Int32.toInt64 (sM 1 7))) + 2000))) < 0 then 0 else ((Int32.toInt64 p2) - (m_T_down ((Int32.toInt64 p2) * (Int32.toInt64 p2)) ((20 * (Int32.toInt64 (sM 1 7))) + 2000)))) 8)) 25))) - 3)))) hx hb dX1_flightOf_75 rfl ?_
      have hM : (m_M_flightOf sM p1 p2) = (Int64.toInt32 (if ((((if ((Int32.toInt64 p2) - (m_T_down ((Int32.toInt64 p2) * (Int32.toInt64 p2)) ((20 * (Int32.toInt64 (sM 1 7))) + 2000))) < 0 then 0 else ((Int32.toInt64 p2) - (m_T_down ((Int32.toInt64 p2) * (Int32.toInt64 p2)) ((20 * (Int32.toInt64 (sM 1 7))) + 2000)))) - (m_T_up (if ((Int32.toInt64 p2) - (m_T_down ((Int32.toInt64 p2) * (Int32.toInt64 p2)) ((20 * (Int32.toInt64 (sM 1 7))) + 2000))) < 0 then 0 else ((Int32.toInt64 p2) - (m_T_down ((Int32.toInt64 p2) * (Int32.toInt64 p2)) ((20 * (Int32.toInt64 (sM 1 7))) + 2000)))) 8)) - (2 * (m_T_down ((if ((Int32.toInt64 p2) - (m_T_down ((Int32.toInt64 p2) * (Int32.toInt64 p2)) ((20 * (Int32.toInt64 (sM 1 7))) + 2000))) < 0 then 0 else ((Int32.toInt64 p2) - (m_T_down ((Int32.toInt64 p2) * (Int32.toInt64 p2)) ((20 * (Int32.toInt64 (sM 1 7))) + 2000)))) - (m_T_up (if ((Int32.toInt64 p2) - (m_T_down ((Int32.toInt64 p2) * (Int32.toInt64 p2)) ((20 * (Int32.toInt64 (sM 1 7))) + 2000))) < 0 then 0 else ((Int32.toInt64 p2) - (m_T_down ((Int32.toInt64 p2) * (Int32.toInt64 p2)) ((20 * (Int32.toInt64 (sM 1 7))) + 2000)))) 8)) 25))) - 3) < 0 then 0 else ((((if ((Int32.toInt64 p2) - (m_T_down ((Int32.toInt64 p2) * (Int32.toInt64 p2)) ((20 * (Int32.toInt64 (sM 1 7))) + 2000))) < 0 then 0 else ((Int32.toInt64 p2) - (m_T_down ((Int32.toInt64 p2) * (Int32.toInt64 p2)) ((20 * (Int32.toInt64 (sM 1 7))) + 2000)))) - (m_T_up (if ((Int32.toInt64 p2) - (m_T_down ((Int32.toInt64 p2) * (Int32.toInt64 p2)) ((20 * (Int32.toInt64 (sM 1 7))) + 2000))) < 0 then 0 else ((Int32.toInt64 p2) - (m_T_down ((Int32.toInt64 p2) * (Int32.toInt64 p2)) ((20 * (Int32.toInt64 (sM 1 7))) + 2000)))) 8)) - (2 * (m_T_down ((if ((Int32.toInt64 p2) - (m_T_down ((Int32.toInt64 p2) * (Int32.toInt64 p2)) ((20 * (Int32.toInt64 (sM 1 7))) + 2000))) < 0 then 0 else ((Int32.toInt64 p2) - (m_T_down ((Int32.toInt64 p2) * (Int32.toInt64 p2)) ((20 * (Int32.toInt64 (sM 1 7))) + 2000)))) - (m_T_up (if ((Int32.toInt64 p2) - (m_T_down ((Int32.toInt64 p2) * (Int32.toInt64 p2)) ((20 * (Int32.toInt64 (sM 1 7))) + 2000))) < 0 then 0 else ((Int32.toInt64 p2) - (m_T_down ((Int32.toInt64 p2) * (Int32.toInt64 p2)) ((20 * (Int32.toInt64 (sM 1 7))) + 2000)))) 8)) 25))) - 3))) := hM
      exact hret _ _ ls rfl dX1_flightOf_76 hM.symm
abbrev rm_M_reckonRelease : Room := { frames := 3, cells := 0, slots := 0, locals := 76 }
set_option maxHeartbeats 4000000 in
set_option maxRecDepth 100000 in
theorem K_M_reckonRelease {l : Launch} {D : va_G} {cI : ClassId} {lo : Nat} {g : Nat → Nat} (hg : wI g 1 6 lo) (sM : St) (p1 : Int32) (p2 : Int32) (p3 : Int32) (h0 : 0 ≤ p1.toInt ∧ p1.toInt ≤ 160) : WRv l D cI lo yX1_reckonRelease wsX1_reckonRelease rm_M_reckonRelease [.ref (g 1), .int p1, .int p2, .int p3] (fun H => va_P D vwCl (cellM cI g sM) H) (fun H => va_P D vwCl (cellM cI g (m_M_reckonRelease sM p1 p2 p3)) H) (wA g 1 6) := by
  refine ofW_WRv (cc := cX1_reckonRelease) (maxL := 10) (by decide +kernel) rfl (Nat.le_of_ble_eq_true rfl) ?_
  intro p e s m args below meth c Q hx hb hml hown hts hE hP hret ls hl
  have hown : s.vm.findClass RX1 = some m.cls := hown
  have hPM := hP
  have hA := wA.lo hg
  have hS : va_S (wA g 1 6) s.heap s.heap [] := va_S.rf
  obtain ⟨H, hH⟩ : ∃ z, z = s.heap := ⟨_, rfl⟩
  obtain ⟨locs, hlocs⟩ : ∃ z : List Loc, z = [] := ⟨_, rfl⟩
  have hPM : va_P D vwCl (cellM cI g sM) H := by rw [hH]; exact hPM
  have hS : va_S (wA g 1 6) s.heap H locs := by rw [hH, hlocs]; exact va_S.rf
  have gW : W p l e rm_M_reckonRelease s m args below meth c H locs 0 0 Q (F0 m 0 ls []) → W p l e rm_M_reckonRelease s m args below meth c s.heap [] 0 0 Q (F0 m 0 ls []) := by rw [hH, hlocs]; exact id
  refine gW ?_
  have hinM : ∀ w ∈ wsX10, w ∈ wsX1_reckonRelease := fun w h => List.mem_cons_of_mem _ (List.mem_append_right _ h)
  have hl : lv_has ls 10 [(0, .ref (g 1)), (1, .int p1), (2, .int p2), (3, .int p3)] := hl
  have J_121 : ∀ (sM_121 : St) (x9_121 : Int32) (H : Heap) (locs : List Loc) (ls : Array Slot), va_P D vwCl (cellM cI g sM_121) H → va_S (wA g 1 6) s.heap H locs → lv_has ls 10 [(0, .ref (g 1)), (9, .int x9_121)] → (m_M_reckonRelease sM p1 p2 p3) = b_M_reckonRelease_121 sM_121 x9_121 → W p l e rm_M_reckonRelease s m args below meth c H locs 0 0 Q (F0 m 121 ls []) := by
    intro sM_121 x9_121 H locs ls hPM hS hl hM
    refine lv_aload_n hx hb dX1_reckonRelease_121 rfl (lv_at hl 0 rfl) ?_
    refine va_get (D := D) (ci := 1) (v := .ref (g 4)) (C := RX1) (T := TX1) (N := 6) hx hb hts hinM hown hE.1 hPM 0 rfl rfl 2 (by decide) (hts (.fieldLink RX1 18 "WallStones$Machine" "reckoning" "[I") (List.mem_of_getElem? (i := 2) rfl)) (fun _ h9 => h9) rfl dX1_reckonRelease_122 ?_
    refine lv_bipush (v := 6) hx hb dX1_reckonRelease_125 (by decide) ?_
    refine lv_iconst (v := 0) hx hb dX1_reckonRelease_127 (by decide) ?_
    refine lv_iload hx hb dX1_reckonRelease_128 (lv_at hl 1 rfl) ?_
    refine lv_aload_n hx hb dX1_reckonRelease_130 rfl (lv_at hl 0 rfl) ?_
    refine va_get (D := D) (ci := 1) (v := .int (sM_121 0 5)) (C := RX1) (T := TX1) (N := 6) hx hb hts hinM hown hE.1 hPM 0 rfl rfl 5 (by decide) (hts (.fieldLink RX1 41 "WallStones$Machine" "windNow" "I") (List.mem_of_getElem? (i := 5) rfl)) (fun _ h9 => h9) rfl dX1_reckonRelease_131 ?_
    refine lv_iload hx hb dX1_reckonRelease_134 (lv_at hl 1 rfl) ?_
    refine lv_imul hx hb dX1_reckonRelease_136 ?_
    refine lv_bipush (v := 100) hx hb dX1_reckonRelease_137 (by decide) ?_
    refine lv_idiv hx hb dX1_reckonRelease_139 (by decide) ?_
    refine lv_iadd hx hb dX1_reckonRelease_140 ?_
    refine va_mmax hx hb (by rw [hml]; exact hl.1.symm) hown (hts (.methodLink RX1 87 Lib.Math.max.name) (List.mem_of_getElem? (i := 6) rfl)) (hts (.static Lib.Math.max.name) (List.mem_of_getElem? (i := 7) rfl)) (hts (.initialized "java/lang/Math") (List.mem_of_getElem? (i := 8) rfl)) (hts (.code Lib.Math.max.name Lib.Math.max.code 2 (some .int)) (List.mem_of_getElem? (i := 9) rfl)) (Nat.le_of_ble_eq_true rfl) (Nat.le_of_ble_eq_true rfl) (Nat.zero_le _) (Nat.zero_le _) dX1_reckonRelease_141 ?_
    refine va_iast hx hb hE.1 hPM (wD_of hg (c := 1) (n := 5) (by decide) (by decide) rfl) hS 3 0 rfl rfl (vp_in_iff.mpr (by decide)) dX1_reckonRelease_144 (fun H locs hPn _ hS => ?_)
    rw [cl_6] at hPn
    have hPM : va_P D vwCl (cellM cI g (up sM_121 3 6 (if 0 < (x9_121 + (((sM_121 0 5) * x9_121) / 100)) then (x9_121 + (((sM_121 0 5) * x9_121) / 100)) else 0))) H := (congrArg (fun z => va_P D vwCl z H) setM_M3).mp hPn
    have hM : (m_M_reckonRelease sM p1 p2 p3) = (up sM_121 3 6 (if 0 < (x9_121 + (((sM_121 0 5) * x9_121) / 100)) then (x9_121 + (((sM_121 0 5) * x9_121) / 100)) else 0)) := hM
    exact hret H locs _ ls dX1_reckonRelease_145 (by rw [hM]; exact hPM) hS
  have J_87 : ∀ (sM_87 : St) (x5_87 : Int64) (x7_87 : Int64) (H : Heap) (locs : List Loc) (ls : Array Slot), va_P D vwCl (cellM cI g sM_87) H → va_S (wA g 1 6) s.heap H locs → lv_has ls 10 [(0, .ref (g 1)), (5, .long x5_87), (7, .long x7_87)] → (m_M_reckonRelease sM p1 p2 p3) = b_M_reckonRelease_87 sM_87 x5_87 x7_87 → W p l e rm_M_reckonRelease s m args below meth c H locs 0 0 Q (F0 m 87 ls []) := by
    intro sM_87 x5_87 x7_87 H locs ls hPM hS hl hM
    refine lv_aload_n hx hb dX1_reckonRelease_87 rfl (lv_at hl 0 rfl) ?_
    refine va_get (D := D) (ci := 1) (v := .ref (g 4)) (C := RX1) (T := TX1) (N := 6) hx hb hts hinM hown hE.1 hPM 0 rfl rfl 2 (by decide) (hts (.fieldLink RX1 18 "WallStones$Machine" "reckoning" "[I") (List.mem_of_getElem? (i := 2) rfl)) (fun _ h9 => h9) rfl dX1_reckonRelease_88 ?_
    refine lv_iconst (v := 4) hx hb dX1_reckonRelease_91 (by decide) ?_
    refine lv_lload hx hb dX1_reckonRelease_92 (lv_at hl 1 rfl) ?_
    refine lv_l2i (v := (Int64.toInt32 x5_87)) hx hb dX1_reckonRelease_94 rfl ?_
    refine va_iast hx hb hE.1 hPM (wD_of hg (c := 1) (n := 5) (by decide) (by decide) rfl) hS 3 0 rfl rfl (vp_in_iff.mpr (by decide)) dX1_reckonRelease_95 (fun H locs hPn _ hS => ?_)
    rw [cl_4] at hPn
    have hPM : va_P D vwCl (cellM cI g (up sM_87 3 4 (Int64.toInt32 x5_87))) H := (congrArg (fun z => va_P D vwCl z H) setM_M3).mp hPn
    refine lv_aload_n hx hb dX1_reckonRelease_96 rfl (lv_at hl 0 rfl) ?_
    refine va_get (D := D) (ci := 1) (v := .ref (g 4)) (C := RX1) (T := TX1) (N := 6) hx hb hts hinM hown hE.1 hPM 0 rfl rfl 2 (by decide) (hts (.fieldLink RX1 18 "WallStones$Machine" "reckoning" "[I") (List.mem_of_getElem? (i := 2) rfl)) (fun _ h9 => h9) rfl dX1_reckonRelease_97 ?_
    refine lv_iconst (v := 5) hx hb dX1_reckonRelease_100 (by decide) ?_
    refine lv_lload hx hb dX1_reckonRelease_101 (lv_at hl 2 rfl) ?_
    refine lv_l2i (v := (Int64.toInt32 x7_87)) hx hb dX1_reckonRelease_103 rfl ?_
    refine va_iast hx hb hE.1 hPM (wD_of hg (c := 1) (n := 5) (by decide) (by decide) rfl) hS 3 0 rfl rfl (vp_in_iff.mpr (by decide)) dX1_reckonRelease_104 (fun H locs hPn _ hS => ?_)
    rw [cl_5] at hPn
    have hPM : va_P D vwCl (cellM cI g (up (up sM_87 3 4 (Int64.toInt32 x5_87)) 3 5 (Int64.toInt32 x7_87))) H := (congrArg (fun z => va_P D vwCl z H) setM_M3).mp hPn
    refine lv_aload_n hx hb dX1_reckonRelease_105 rfl (lv_at hl 0 rfl) ?_
    refine lv_aload_n hx hb dX1_reckonRelease_106 rfl (lv_at hl 0 rfl) ?_
    refine va_get (D := D) (ci := 1) (v := .ref (g 2)) (C := RX1) (T := TX1) (N := 6) hx hb hts hinM hown hE.1 hPM 0 rfl rfl 0 (by decide) (hts (.fieldLink RX1 11 "WallStones$Machine" "number" "[I") (List.mem_of_getElem? (i := 1) rfl)) (fun _ h9 => h9) rfl dX1_reckonRelease_107 ?_
    refine lv_bipush (v := 8) hx hb dX1_reckonRelease_110 (by decide) ?_
    refine va_iald hx hb hE.1 hPM 1 0 rfl rfl (vp_in_iff.mpr (by decide)) dX1_reckonRelease_112 ?_
    refine W.eq (congrArg (fun z => F0 m 113 ls [.int (sM_87 1 z), .ref (g 1)]) cl_8) ?_
    refine lv_lload hx hb dX1_reckonRelease_113 (lv_at hl 2 rfl) ?_
    refine lv_l2i (v := (Int64.toInt32 x7_87)) hx hb dX1_reckonRelease_115 rfl ?_
    refine runS_i (va_runV (As := [.int (sM_87 1 8), .int (Int64.toInt32 x7_87)]) (rest := []) ⟨hx, hb, hml, hown, hts⟩ (K_M_flightOf hg (up (up sM_87 3 4 (Int64.toInt32 x5_87)) 3 5 (Int64.toInt32 x7_87)) (sM_87 1 8) (Int64.toInt32 x7_87)) (cwV 2 hts gX1_reckonRelease_X1_flightOf rfl rfl rfl (by decide +kernel) ⟨Nat.le_of_ble_eq_true rfl, Nat.le_of_ble_eq_true rfl⟩) (preV_of hE hA hS hPM (va_recv hE.1 hPM (ci := 1) (q0 := 0) rfl rfl)) rfl rfl hl.1 rfl (lv_room (Nat.le_of_ble_eq_true rfl)) dX1_reckonRelease_116 ⟨Nat.zero_le _, Nat.zero_le _⟩) ?_
    refine lv_istore (lv' := [(9, .int (m_M_flightOf (up (up sM_87 3 4 (Int64.toInt32 x5_87)) 3 5 (Int64.toInt32 x7_87)) (sM_87 1 8) (Int64.toInt32 x7_87))), (0, .ref (g 1)), (5, .long x5_87), (7, .long x7_87)]) hx hb dX1_reckonRelease_119 hl (by decide) rfl (fun ls hl => ?_)
    exact J_121 (up (up sM_87 3 4 (Int64.toInt32 x5_87)) 3 5 (Int64.toInt32 x7_87)) (m_M_flightOf (up (up sM_87 3 4 (Int64.toInt32 x5_87)) 3 5 (Int64.toInt32 x7_87)) (sM_87 1 8) (Int64.toInt32 x7_87)) H locs ls hPM hS (lv_sub hl [1, 0] rfl) hM
  have J_68 : ∀ (sM_68 : St) (x4_68 : Int32) (x5_68 : Int64) (H : Heap) (locs : List Loc) (ls : Array Slot), va_P D vwCl (cellM cI g sM_68) H → va_S (wA g 1 6) s.heap H locs → lv_has ls 10 [(0, .ref (g 1)), (4, .int x4_68), (5, .long x5_68)] → (m_M_reckonRelease sM p1 p2 p3) = b_M_reckonRelease_68 sM_68 x4_68 x5_68 → W p l e rm_M_reckonRelease s m args below meth c H locs 0 0 Q (F0 m 68 ls []) := by
    intro sM_68 x4_68 x5_68 H locs ls hPM hS hl hM
    refine lv_lload hx hb dX1_reckonRelease_68 (lv_at hl 2 rfl) ?_
    refine lv_iconst (v := 2) hx hb dX1_reckonRelease_70 (by decide) ?_
    refine lv_iload hx hb dX1_reckonRelease_71 (lv_at hl 1 rfl) ?_
    refine lv_imul hx hb dX1_reckonRelease_73 ?_
    refine runS_i (va_runSN (As := [.int (2 * x4_68)]) (rest := [.long x5_68]) ⟨hx, hb, hml, hown, hts⟩ (K_T_sineOf (2 * x4_68)) ⟨va_cnB 1 hts gX1_reckonRelease_X4_sineOf_n45 rfl rfl rfl hE.2.1.2.2.1 (hts (.initialized RX4) (List.mem_of_getElem? (i := 11) rfl)) (by decide +kernel) ⟨Nat.le_of_ble_eq_true rfl, Nat.le_of_ble_eq_true rfl⟩, (hts (.static yX4_sineOf) (List.mem_of_getElem? (i := 25) rfl)), trivial⟩ (preS_of hE hA hS trivial) rfl rfl hl.1 rfl (lv_room (Nat.le_of_ble_eq_true rfl)) dX1_reckonRelease_74 ⟨Nat.zero_le _, Nat.zero_le _⟩) ?_
    refine lv_i2l (v := (Int32.toInt64 (m_T_sineOf (2 * x4_68)))) hx hb dX1_reckonRelease_77 rfl ?_
    refine lv_lmul hx hb dX1_reckonRelease_78 ?_
    refine lv_ldc2 (own := RX1) (index := 82) (v := 8000) hx hb hown (hts (.constantLong RX1 82 (8000)) (List.mem_of_getElem? (i := 4) rfl)) dX1_reckonRelease_79 ?_
    refine runS_l (va_runSN (As := [.long (x5_68 * (Int32.toInt64 (m_T_sineOf (2 * x4_68)))), .long 8000]) (rest := []) ⟨hx, hb, hml, hown, hts⟩ (K_T_down (x5_68 * (Int32.toInt64 (m_T_sineOf (2 * x4_68)))) 8000) ⟨va_cnB 2 hts gX1_reckonRelease_X4_down_n54 rfl rfl rfl hE.2.1.2.2.2.1 (hts (.initialized RX4) (List.mem_of_getElem? (i := 11) rfl)) (by decide +kernel) ⟨Nat.le_of_ble_eq_true rfl, Nat.le_of_ble_eq_true rfl⟩, (hts (.static yX4_down) (List.mem_of_getElem? (i := 19) rfl)), trivial⟩ (preS_of hE hA hS trivial) rfl rfl hl.1 rfl (lv_room (Nat.le_of_ble_eq_true rfl)) dX1_reckonRelease_82 ⟨Nat.zero_le _, Nat.zero_le _⟩) ?_
    refine lv_lstore (lv' := [(7, .long (m_T_down (x5_68 * (Int32.toInt64 (m_T_sineOf (2 * x4_68)))) 8000)), (0, .ref (g 1)), (4, .int x4_68), (5, .long x5_68)]) hx hb dX1_reckonRelease_85 hl (by decide) rfl (fun ls hl => ?_)
    exact J_87 sM_68 x5_68 (m_T_down (x5_68 * (Int32.toInt64 (m_T_sineOf (2 * x4_68)))) 8000) H locs ls hPM hS (lv_sub hl [1, 3, 0] rfl) hM
  have J_16 : ∀ (sM_16 : St) (x4_16 : Int32) (H : Heap) (locs : List Loc) (ls : Array Slot), va_P D vwCl (cellM cI g sM_16) H → va_S (wA g 1 6) s.heap H locs → lv_has ls 10 [(0, .ref (g 1)), (1, .int p1), (2, .int p2), (4, .int x4_16)] → (m_M_reckonRelease sM p1 p2 p3) = b_M_reckonRelease_16 sM_16 p1 p2 x4_16 → W p l e rm_M_reckonRelease s m args below meth c H locs 0 0 Q (F0 m 16 ls []) := by
    intro sM_16 x4_16 H locs ls hPM hS hl hM
    refine lv_aload_n hx hb dX1_reckonRelease_16 rfl (lv_at hl 0 rfl) ?_
    refine va_get (D := D) (ci := 1) (v := .ref (g 4)) (C := RX1) (T := TX1) (N := 6) hx hb hts hinM hown hE.1 hPM 0 rfl rfl 2 (by decide) (hts (.fieldLink RX1 18 "WallStones$Machine" "reckoning" "[I") (List.mem_of_getElem? (i := 2) rfl)) (fun _ h9 => h9) rfl dX1_reckonRelease_17 ?_
    refine lv_iconst (v := 0) hx hb dX1_reckonRelease_20 (by decide) ?_
    refine lv_iload_n hx hb dX1_reckonRelease_21 rfl (lv_at hl 1 rfl) ?_
    refine va_iast hx hb hE.1 hPM (wD_of hg (c := 1) (n := 5) (by decide) (by decide) rfl) hS 3 0 rfl rfl (vp_in_iff.mpr (by decide)) dX1_reckonRelease_22 (fun H locs hPn _ hS => ?_)
    rw [cl_0] at hPn
    have hPM : va_P D vwCl (cellM cI g (up sM_16 3 0 p1)) H := (congrArg (fun z => va_P D vwCl z H) setM_M3).mp hPn
    refine lv_aload_n hx hb dX1_reckonRelease_23 rfl (lv_at hl 0 rfl) ?_
    refine va_get (D := D) (ci := 1) (v := .ref (g 4)) (C := RX1) (T := TX1) (N := 6) hx hb hts hinM hown hE.1 hPM 0 rfl rfl 2 (by decide) (hts (.fieldLink RX1 18 "WallStones$Machine" "reckoning" "[I") (List.mem_of_getElem? (i := 2) rfl)) (fun _ h9 => h9) rfl dX1_reckonRelease_24 ?_
    refine lv_iconst (v := 2) hx hb dX1_reckonRelease_27 (by decide) ?_
    refine lv_aload_n hx hb dX1_reckonRelease_28 rfl (lv_at hl 0 rfl) ?_
    refine va_get (D := D) (ci := 1) (v := .ref (g 3)) (C := RX1) (T := TX1) (N := 6) hx hb hts hinM hown hE.1 hPM 0 rfl rfl 1 (by decide) (hts (.fieldLink RX1 15 "WallStones$Machine" "given" "[I") (List.mem_of_getElem? (i := 3) rfl)) (fun _ h9 => h9) rfl dX1_reckonRelease_29 ?_
    refine lv_iload_n hx hb dX1_reckonRelease_32 rfl (lv_at hl 1 rfl) ?_
    refine va_iald hx hb hE.1 hPM 2 0 rfl rfl (vp_in_iff.mpr (by omega)) dX1_reckonRelease_33 ?_
    refine W.eq (g2 := F0 m 34 ls [.int (sM_16 2 (Int32.toNatClampNeg p1)), .int 2, .ref (g 4)]) rfl ?_
    refine va_iast hx hb hE.1 hPM (wD_of hg (c := 1) (n := 5) (by decide) (by decide) rfl) hS 3 0 rfl rfl (vp_in_iff.mpr (by decide)) dX1_reckonRelease_34 (fun H locs hPn _ hS => ?_)
    rw [cl_2] at hPn
    have hPM : va_P D vwCl (cellM cI g (up (up sM_16 3 0 p1) 3 2 (sM_16 2 (Int32.toNatClampNeg p1)))) H := (congrArg (fun z => va_P D vwCl z H) setM_M3).mp hPn
    refine lv_aload_n hx hb dX1_reckonRelease_35 rfl (lv_at hl 0 rfl) ?_
    refine va_get (D := D) (ci := 1) (v := .ref (g 4)) (C := RX1) (T := TX1) (N := 6) hx hb hts hinM hown hE.1 hPM 0 rfl rfl 2 (by decide) (hts (.fieldLink RX1 18 "WallStones$Machine" "reckoning" "[I") (List.mem_of_getElem? (i := 2) rfl)) (fun _ h9 => h9) rfl dX1_reckonRelease_36 ?_
    refine lv_iconst (v := 3) hx hb dX1_reckonRelease_39 (by decide) ?_
    refine lv_iload hx hb dX1_reckonRelease_40 (lv_at hl 3 rfl) ?_
    refine va_iast hx hb hE.1 hPM (wD_of hg (c := 1) (n := 5) (by decide) (by decide) rfl) hS 3 0 rfl rfl (vp_in_iff.mpr (by decide)) dX1_reckonRelease_42 (fun H locs hPn _ hS => ?_)
    rw [cl_3] at hPn
    have hPM : va_P D vwCl (cellM cI g (up (up (up sM_16 3 0 p1) 3 2 (sM_16 2 (Int32.toNatClampNeg p1))) 3 3 x4_16)) H := (congrArg (fun z => va_P D vwCl z H) setM_M3).mp hPn
    refine lv_iload hx hb dX1_reckonRelease_43 (lv_at hl 3 rfl) ?_
    refine lv_iconst (v := 1) hx hb dX1_reckonRelease_45 (by decide) ?_
    refine lv_bipush (v := 89) hx hb dX1_reckonRelease_46 (by decide) ?_
    refine runS_i (va_runSN (As := [.int x4_16, .int 1, .int 89]) (rest := []) ⟨hx, hb, hml, hown, hts⟩ (K_T_within x4_16 1 89) ⟨va_cnB 3 hts gX1_reckonRelease_X4_within_n27 rfl rfl rfl hE.2.1.2.1 (hts (.initialized RX4) (List.mem_of_getElem? (i := 11) rfl)) (by decide +kernel) ⟨Nat.le_of_ble_eq_true rfl, Nat.le_of_ble_eq_true rfl⟩, (hts (.static yX4_within) (List.mem_of_getElem? (i := 10) rfl)), trivial⟩ (preS_of hE hA hS trivial) rfl rfl hl.1 rfl (lv_room (Nat.le_of_ble_eq_true rfl)) dX1_reckonRelease_48 ⟨Nat.zero_le _, Nat.zero_le _⟩) ?_
    refine lv_if_ne (tgt := 55) hx hb dX1_reckonRelease_51 (by decide) (fun c_1 => ?_) (fun c_1 => ?_)
    · have hM := hM.trans (if_neg c_1)
      have t_1 : (m_T_within x4_16 1 89).toInt ≠ 0 := ne_t c_1
      have u_1 : 1 ≤ x4_16.toInt ∧ x4_16.toInt ≤ 89 := within_t c_1
      refine lv_aload_n hx hb dX1_reckonRelease_55 rfl (lv_at hl 0 rfl) ?_
      refine lv_aload_n hx hb dX1_reckonRelease_56 rfl (lv_at hl 0 rfl) ?_
      refine va_get (D := D) (ci := 1) (v := .ref (g 3)) (C := RX1) (T := TX1) (N := 6) hx hb hts hinM hown hE.1 hPM 0 rfl rfl 1 (by decide) (hts (.fieldLink RX1 15 "WallStones$Machine" "given" "[I") (List.mem_of_getElem? (i := 3) rfl)) (fun _ h9 => h9) rfl dX1_reckonRelease_57 ?_
      refine lv_iload_n hx hb dX1_reckonRelease_60 rfl (lv_at hl 1 rfl) ?_
      refine va_iald hx hb hE.1 hPM 2 0 rfl rfl (vp_in_iff.mpr (by omega)) dX1_reckonRelease_61 ?_
      refine W.eq (g2 := F0 m 62 ls [.int (sM_16 2 (Int32.toNatClampNeg p1)), .ref (g 1)]) rfl ?_
      refine lv_iload_n hx hb dX1_reckonRelease_62 rfl (lv_at hl 2 rfl) ?_
      refine runS_l (va_runV (As := [.int (sM_16 2 (Int32.toNatClampNeg p1)), .int p2]) (rest := []) ⟨hx, hb, hml, hown, hts⟩ (K_M_speedFor hg (up (up (up sM_16 3 0 p1) 3 2 (sM_16 2 (Int32.toNatClampNeg p1))) 3 3 x4_16) (sM_16 2 (Int32.toNatClampNeg p1)) p2) (cwV 2 hts gX1_reckonRelease_X1_speedFor rfl rfl rfl (by decide +kernel) ⟨Nat.le_of_ble_eq_true rfl, Nat.le_of_ble_eq_true rfl⟩) (preV_of hE hA hS hPM (va_recv hE.1 hPM (ci := 1) (q0 := 0) rfl rfl)) rfl rfl hl.1 rfl (lv_room (Nat.le_of_ble_eq_true rfl)) dX1_reckonRelease_63 ⟨Nat.zero_le _, Nat.zero_le _⟩) ?_
      refine lv_lstore (lv' := [(5, .long (m_M_speedFor (up (up (up sM_16 3 0 p1) 3 2 (sM_16 2 (Int32.toNatClampNeg p1))) 3 3 x4_16) (sM_16 2 (Int32.toNatClampNeg p1)) p2)), (0, .ref (g 1)), (1, .int p1), (2, .int p2), (4, .int x4_16)]) hx hb dX1_reckonRelease_66 hl (by decide) rfl (fun ls hl => ?_)
      exact J_68 (up (up (up sM_16 3 0 p1) 3 2 (sM_16 2 (Int32.toNatClampNeg p1))) 3 3 x4_16) x4_16 (m_M_speedFor (up (up (up sM_16 3 0 p1) 3 2 (sM_16 2 (Int32.toNatClampNeg p1))) 3 3 x4_16) (sM_16 2 (Int32.toNatClampNeg p1)) p2) H locs ls hPM hS (lv_sub hl [1, 4, 0] rfl) hM
    · have hM := hM.trans (if_pos c_1)
      have t_1 : (m_T_within x4_16 1 89).toInt = 0 := eq_t c_1
      have hM : (m_M_reckonRelease sM p1 p2 p3) = (up (up (up sM_16 3 0 p1) 3 2 (sM_16 2 (Int32.toNatClampNeg p1))) 3 3 x4_16) := hM
      exact hret H locs _ ls dX1_reckonRelease_54 (by rw [hM]; exact hPM) hS
  have hM : (m_M_reckonRelease sM p1 p2 p3) = (m_M_reckonRelease sM p1 p2 p3) := rfl
  refine lv_sipush (v := 180) hx hb dX1_reckonRelease_0 (by decide) ?_
  refine lv_iload_n hx hb dX1_reckonRelease_3 rfl (lv_at hl 1 rfl) ?_
  refine lv_aload_n hx hb dX1_reckonRelease_4 rfl (lv_at hl 0 rfl) ?_
  refine va_get (D := D) (ci := 1) (v := .ref (g 2)) (C := RX1) (T := TX1) (N := 6) hx hb hts hinM hown hE.1 hPM 0 rfl rfl 0 (by decide) (hts (.fieldLink RX1 11 "WallStones$Machine" "number" "[I") (List.mem_of_getElem? (i := 1) rfl)) (fun _ h9 => h9) rfl dX1_reckonRelease_5 ?_
  refine lv_iconst (v := 5) hx hb dX1_reckonRelease_8 (by decide) ?_
  refine va_iald hx hb hE.1 hPM 1 0 rfl rfl (vp_in_iff.mpr (by decide)) dX1_reckonRelease_9 ?_
  refine W.eq (congrArg (fun z => F0 m 10 ls [.int (sM 1 z), .int p1, .int 180]) cl_5) ?_
  refine lv_isub hx hb dX1_reckonRelease_10 ?_
  refine lv_isub hx hb dX1_reckonRelease_11 ?_
  refine lv_iload_n hx hb dX1_reckonRelease_12 rfl (lv_at hl 3 rfl) ?_
  refine lv_isub hx hb dX1_reckonRelease_13 ?_
  refine lv_istore (lv' := [(4, .int ((180 - (p1 - (sM 1 5))) - p3)), (0, .ref (g 1)), (1, .int p1), (2, .int p2), (3, .int p3)]) hx hb dX1_reckonRelease_14 hl (by decide) rfl (fun ls hl => ?_)
  exact J_16 sM ((180 - (p1 - (sM 1 5))) - p3) H locs ls hPM hS (lv_sub hl [1, 2, 3, 0] rfl) hM
