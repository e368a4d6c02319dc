abbrev rm_M_slingNow : Room := { frames := 0, cells := 0, slots := 0, locals := 0 }
set_option maxHeartbeats 4000000 in
set_option maxRecDepth 100000 in
theorem K_M_slingNow {l : Launch} {D : va_G} {cI : ClassId} {lo : Nat} {g : Nat → Nat} (hg : wI g 1 6 lo) (sM : St) : ROi l D cI lo yX1_slingNow wsX1_slingNow rm_M_slingNow [.ref (g 1)] (fun H => va_P D vwCl (cellM cI g sM) H) (m_M_slingNow sM) := by
  refine ofW_ROi (cc := cX1_slingNow) (maxL := 1) (ty := .int) (by decide +kernel) rfl (Nat.le_of_ble_eq_true rfl) ?_
  intro p e s m args below meth c Q hx hb hml hown hts hE hP hret ls hl
  have hown : s.vm.findClass RX1 = some m.cls := hown
  have hPM := hP
  have hA : ∀ q : Nat, (fun _ : Nat => False) q → lo ≤ q := fun _ h => h.elim
  have hS : va_S (fun _ : Nat => False) s.heap s.heap [] := va_S.rf
  have hinM : ∀ w ∈ wsX10, w ∈ wsX1_slingNow := fun w h => List.mem_cons_of_mem _ (List.mem_append_right _ h)
  have hl : lv_has ls 1 [(0, .ref (g 1))] := hl
  have hM : (m_M_slingNow sM) = (m_M_slingNow sM) := rfl
  refine lv_aload_n hx hb dX1_slingNow_0 rfl (lv_at hl 0 rfl) ?_
  refine va_get (D := D) (ci := 1) (v := .ref (g 2)) (C := RX1) (T := TX1) (N := 6) hx hb hts hinM hown hE.1 hPM 0 rfl rfl 0 (by decide) (hts (.fieldLink RX1 11 "WallStones$Machine" "number" "[I") (List.mem_of_getElem? (i := 1) rfl)) (fun _ h9 => h9) rfl dX1_slingNow_1 ?_
  refine lv_iconst (v := 3) hx hb dX1_slingNow_4 (by decide) ?_
  refine va_iald hx hb hE.1 hPM 1 0 rfl rfl (vp_in_iff.mpr (by decide)) dX1_slingNow_5 ?_
  refine W.eq (congrArg (fun z => F0 m 6 ls [.int (sM 1 z)]) cl_3) ?_
  have hM : (m_M_slingNow sM) = ((sM 1 3) : Int32) := hM
  exact hret _ _ ls (nr_i _) dX1_slingNow_6 hM.symm
abbrev rm_J_floorDiv : Room := { frames := 0, cells := 0, slots := 0, locals := 0 }
set_option maxHeartbeats 4000000 in
set_option maxRecDepth 100000 in
theorem K_J_floorDiv {l : Launch} {D : va_G} {cI : ClassId} {lo : Nat} (p0 : Int64) (p2 : Int64) (h0 : ¬ p2 = 0) : ROl l D cI lo yJ9_floorDiv_f86c9 wsJ9_floorDiv_f86c9 rm_J_floorDiv [.long p0, .long p2] (fun H => True) (m_J_floorDiv p0 p2) := by
  refine ofW_ROl (cc := cJ9_floorDiv_f86c9) (maxL := 6) (by decide +kernel) rfl (Nat.le_of_ble_eq_true rfl) ?_
  intro p e s m args below meth c Q hx hb hml hown hts hE hP hret ls hl
  have hown : s.vm.findClass RJ9 = some m.cls := hown
  have hA : ∀ q : Nat, (fun _ : Nat => False) q → lo ≤ q := fun _ h => h.elim
  have hS : va_S (fun _ : Nat => False) s.heap s.heap [] := va_S.rf
  have hl : lv_has ls 6 [(0, .long p0), (2, .long p2)] := hl
  have hM : (m_J_floorDiv p0 p2) = (m_J_floorDiv p0 p2) := rfl
  refine lv_lload_n hx hb dJ9_floorDiv_f86c9_0 rfl (lv_at hl 0 rfl) ?_
  refine lv_lload_n hx hb dJ9_floorDiv_f86c9_1 rfl (lv_at hl 1 rfl) ?_
  refine lv_ldiv hx hb dJ9_floorDiv_f86c9_2 (by assumption) ?_
  refine lv_lstore (lv' := [(4, .long (p0 / p2)), (0, .long p0), (2, .long p2)]) hx hb dJ9_floorDiv_f86c9_3 hl (by decide) rfl (fun ls hl => ?_)
  refine lv_lload_n hx hb dJ9_floorDiv_f86c9_5 rfl (lv_at hl 1 rfl) ?_
  refine lv_lload_n hx hb dJ9_floorDiv_f86c9_6 rfl (lv_at hl 2 rfl) ?_
  refine lv_lxor hx hb dJ9_floorDiv_f86c9_7 ?_
  refine lv_lconst (v := 0) hx hb dJ9_floorDiv_f86c9_8 (by decide) ?_
  refine W.lcmp hx hb dJ9_floorDiv_f86c9_9 ?_
  refine lv_if_ge (tgt := 27) hx hb dJ9_floorDiv_f86c9_10 (by decide) (fun c_1 => ?_) (fun c_1 => ?_)
  · have hM := hM.trans (if_pos c_1)
    refine lv_lload hx hb dJ9_floorDiv_f86c9_27 (lv_at hl 0 rfl) ?_
    have hM : (m_J_floorDiv p0 p2) = ((p0 / p2) : Int64) := hM
    exact hret _ _ ls dJ9_floorDiv_f86c9_29 hM.symm
  · have hM := hM.trans (if_neg c_1)
    refine lv_lload hx hb dJ9_floorDiv_f86c9_13 (lv_at hl 0 rfl) ?_
    refine lv_lload_n hx hb dJ9_floorDiv_f86c9_15 rfl (lv_at hl 2 rfl) ?_
    refine lv_lmul hx hb dJ9_floorDiv_f86c9_16 ?_
    refine lv_lload_n hx hb dJ9_floorDiv_f86c9_17 rfl (lv_at hl 1 rfl) ?_
    refine W.lcmp hx hb dJ9_floorDiv_f86c9_18 ?_
    refine lv_if_eq (tgt := 27) hx hb dJ9_floorDiv_f86c9_19 (by decide) (fun c_2 => ?_) (fun c_2 => ?_)
    · have hM := hM.trans (if_pos c_2)
      refine lv_lload hx hb dJ9_floorDiv_f86c9_27 (lv_at hl 0 rfl) ?_
      have hM : (m_J_floorDiv p0 p2) = ((p0 / p2) : Int64) := hM
      exact hret _ _ ls dJ9_floorDiv_f86c9_29 hM.symm
    · have hM := hM.trans (if_neg c_2)
      refine lv_lload hx hb dJ9_floorDiv_f86c9_22 (lv_at hl 0 rfl) ?_
      refine lv_lconst (v := 1) hx hb dJ9_floorDiv_f86c9_24 (by decide) ?_
      refine lv_lsub hx hb dJ9_floorDiv_f86c9_25 ?_
      have hM : (m_J_floorDiv p0 p2) = (((p0 / p2) - 1) : Int64) := hM
      exact hret _ _ ls dJ9_floorDiv_f86c9_26 hM.symm
abbrev rm_T_up : Room := { frames := 1, cells := 0, slots := 0, locals := 25 }
set_option maxHeartbeats 4000000 in
set_option maxRecDepth 100000 in
theorem K_T_up {l : Launch} {D : va_G} {cI : ClassId} {lo : Nat} (p0 : Int64) (p2 : Int64) : ROl l D cI lo yX4_up wsX4_up rm_T_up [.long p0, .long p2] (fun H => True) (m_T_up p0 p2) := by
  refine ofW_ROl (cc := cX4_up) (maxL := 4) (by decide +kernel) rfl (Nat.le_of_ble_eq_true rfl) ?_
  intro p e s m args below meth c Q hx hb hml hown hts hE hP hret ls hl
  have hown : s.vm.findClass RX4 = some m.cls := hown
  have hA : ∀ q : Nat, (fun _ : Nat => False) q → lo ≤ q := fun _ h => h.elim
  have hS : va_S (fun _ : Nat => False) s.heap s.heap [] := va_S.rf
  have hl : lv_has ls 4 [(0, .long p0), (2, .long p2)] := hl
  have hM : (m_T_up p0 p2) = (m_T_up p0 p2) := rfl
  refine lv_lload_n hx hb dX4_up_0 rfl (lv_at hl 1 rfl) ?_
  refine lv_lconst (v := 0) hx hb dX4_up_1 (by decide) ?_
  refine W.lcmp hx hb dX4_up_2 ?_
  refine lv_if_le (tgt := 16) hx hb dX4_up_3 (by decide) (fun c_1 => ?_) (fun c_1 => ?_)
  · have hM := hM.trans (if_pos c_1)
    refine lv_lconst (v := 0) hx hb dX4_up_16 (by decide) ?_
    have hM : (m_T_up p0 p2) = (0 : Int64) := hM
    exact hret _ _ ls dX4_up_17 hM.symm
  · have hM := hM.trans (if_neg c_1)
    have nz := lg_nz c_1
    refine lv_lload_n hx hb dX4_up_6 rfl (lv_at hl 0 rfl) ?_
    refine lv_lneg hx hb dX4_up_7 ?_
    refine lv_lload_n hx hb dX4_up_8 rfl (lv_at hl 1 rfl) ?_
    refine runS_l (va_runS (As := [.long (-p0), .long p2]) (rest := []) ⟨hx, hb, hml, hown, hts⟩ (K_J_floorDiv (-p0) p2 (by assumption)) (va_cwS 2 hts gX4_up_J9_floorDiv_f86c9 rfl rfl rfl (by decide +kernel) ⟨Nat.le_of_ble_eq_true rfl, Nat.le_of_ble_eq_true rfl⟩) (preS_of hE hA hS trivial) rfl rfl hl.1 rfl (lv_room (Nat.le_of_ble_eq_true rfl)) dX4_up_9 ⟨Nat.zero_le _, Nat.zero_le _⟩) ?_
    refine lv_lneg hx hb dX4_up_12 ?_
    refine lv_goto (tgt := 17) hx hb dX4_up_13 (by decide) ?_
    have hM : (m_T_up p0 p2) = ((-(m_J_floorDiv (-p0) p2)) : Int64) := hM
    exact hret _ _ ls dX4_up_17 hM.symm
abbrev rm_M_turnOfRelease : Room := { frames := 2, cells := 0, slots := 0, locals := 48 }
set_option maxHeartbeats 4000000 in
set_option maxRecDepth 100000 in
theorem K_M_turnOfRelease {l : Launch} {D : va_G} {cI : ClassId} {lo : Nat} {g : Nat → Nat} (hg : wI g 1 6 lo) (sM : St) (p1 : Int32) (p2 : Int32) : ROi l D cI lo yX1_turnOfRelease wsX1_turnOfRelease rm_M_turnOfRelease [.ref (g 1), .int p1, .int p2] (fun H => va_P D vwCl (cellM cI g sM) H) (m_M_turnOfRelease sM p1 p2) := by
  refine ofW_ROi (cc := cX1_turnOfRelease) (maxL := 7) (ty := .int) (by decide +kernel) rfl (Nat.le_of_ble_eq_true rfl) ?_
  intro p e s m args below meth c Q hx hb hml hown hts hE hP hret ls hl
  have hown : s.vm.findClass RX1 = some m.cls := hown
  have hPM := hP
  have hA : ∀ q : Nat, (fun _ : Nat => False) q → lo ≤ q := fun _ h => h.elim
  have hS : va_S (fun _ : Nat => False) s.heap s.heap [] := va_S.rf
  have hinM : ∀ w ∈ wsX10, w ∈ wsX1_turnOfRelease := fun w h => List.mem_cons_of_mem _ (List.mem_append_right _ h)
  have hl : lv_has ls 7 [(0, .ref (g 1)), (1, .int p1), (2, .int p2)] := hl
  have hM : (m_M_turnOfRelease sM p1 p2) = (m_M_turnOfRelease sM p1 p2) := rfl
  refine lv_ldc2 (own := RX1) (index := 58) (v := 100) hx hb hown (hts (.constantLong RX1 58 (100)) (List.mem_of_getElem? (i := 1) rfl)) dX1_turnOfRelease_0 ?_
  refine lv_iload_n hx hb dX1_turnOfRelease_3 rfl (lv_at hl 2 rfl) ?_
  refine lv_i2l (v := (Int32.toInt64 p2)) hx hb dX1_turnOfRelease_4 rfl ?_
  refine lv_ladd hx hb dX1_turnOfRelease_5 ?_
  refine lv_ldc2 (own := RX1) (index := 60) (v := 2) hx hb hown (hts (.constantLong RX1 60 (2)) (List.mem_of_getElem? (i := 2) rfl)) dX1_turnOfRelease_6 ?_
  refine lv_lmul hx hb dX1_turnOfRelease_9 ?_
  refine lv_iload_n hx hb dX1_turnOfRelease_10 rfl (lv_at hl 1 rfl) ?_
  refine lv_i2l (v := (Int32.toInt64 p1)) hx hb dX1_turnOfRelease_11 rfl ?_
  refine lv_lmul hx hb dX1_turnOfRelease_12 ?_
  refine lv_lstore_n (lv' := [(3, .long (((100 + (Int32.toInt64 p2)) * 2) * (Int32.toInt64 p1))), (0, .ref (g 1)), (1, .int p1), (2, .int p2)]) hx hb dX1_turnOfRelease_13 rfl hl (by decide) rfl (fun ls hl => ?_)
  refine lv_lload_n hx hb dX1_turnOfRelease_14 rfl (lv_at hl 0 rfl) ?_
  refine lv_aload_n hx hb dX1_turnOfRelease_15 rfl (lv_at hl 1 rfl) ?_
  refine va_get (D := D) (ci := 1) (v := .ref (g 2)) (C := RX1) (T := TX1) (N := 6) hx hb hts hinM hown hE.1 hPM 0 rfl rfl 0 (by decide) (hts (.fieldLink RX1 11 "WallStones$Machine" "number" "[I") (List.mem_of_getElem? (i := 3) rfl)) (fun _ h9 => h9) rfl dX1_turnOfRelease_16 ?_
  refine lv_iconst (v := 1) hx hb dX1_turnOfRelease_19 (by decide) ?_
  refine va_iald hx hb hE.1 hPM 1 0 rfl rfl (vp_in_iff.mpr (by decide)) dX1_turnOfRelease_20 ?_
  refine W.eq (congrArg (fun z => F0 m 21 ls [.int (sM 1 z), .long (((100 + (Int32.toInt64 p2)) * 2) * (Int32.toInt64 p1))]) cl_1) ?_
  refine lv_i2l (v := (Int32.toInt64 (sM 1 1))) hx hb dX1_turnOfRelease_21 rfl ?_
  refine lv_ldc2 (own := RX1) (index := 60) (v := 2) hx hb hown (hts (.constantLong RX1 60 (2)) (List.mem_of_getElem? (i := 2) rfl)) dX1_turnOfRelease_22 ?_
  refine lv_iload_n hx hb dX1_turnOfRelease_25 rfl (lv_at hl 2 rfl) ?_
  refine lv_i2l (v := (Int32.toInt64 p1)) hx hb dX1_turnOfRelease_26 rfl ?_
  refine lv_lmul hx hb dX1_turnOfRelease_27 ?_
  refine lv_ladd hx hb dX1_turnOfRelease_28 ?_
  refine runS_l (va_runSN (As := [.long (((100 + (Int32.toInt64 p2)) * 2) * (Int32.toInt64 p1)), .long ((Int32.toInt64 (sM 1 1)) + (2 * (Int32.toInt64 p1)))]) (rest := []) ⟨hx, hb, hml, hown, hts⟩ (K_T_up (((100 + (Int32.toInt64 p2)) * 2) * (Int32.toInt64 p1)) ((Int32.toInt64 (sM 1 1)) + (2 * (Int32.toInt64 p1)))) ⟨va_cnB 2 hts gX1_turnOfRelease_X4_up_n62 rfl rfl rfl hE.2.1.2.2.2.2.1 (hts (.initialized RX4) (List.mem_of_getElem? (i := 6) rfl)) (by decide +kernel) ⟨Nat.le_of_ble_eq_true rfl, Nat.le_of_ble_eq_true rfl⟩, (hts (.static yX4_up) (List.mem_of_getElem? (i := 5) rfl)), trivial⟩ (preS_of hE hA hS trivial) rfl rfl hl.1 rfl (lv_room (Nat.le_of_ble_eq_true rfl)) dX1_turnOfRelease_29 ⟨Nat.zero_le _, Nat.zero_le _⟩) ?_
  refine lv_lstore (lv' := [(5, .long (m_T_up (((100 + (Int32.toInt64 p2)) * 2) * (Int32.toInt64 p1)) ((Int32.toInt64 (sM 1 1)) + (2 * (Int32.toInt64 p1))))), (3, .long (((100 + (Int32.toInt64 p2)) * 2) * (Int32.toInt64 p1))), (0, .ref (g 1)), (1, .int p1), (2, .int p2)]) hx hb dX1_turnOfRelease_32 hl (by decide) rfl (fun ls hl => ?_)
  refine lv_lload hx hb dX1_turnOfRelease_34 (lv_at hl 0 rfl) ?_
  refine lv_lconst (v := 1) hx hb dX1_turnOfRelease_36 (by decide) ?_
  refine W.lcmp hx hb dX1_turnOfRelease_37 ?_
  refine lv_if_lt (tgt := 56) hx hb dX1_turnOfRelease_38 (by decide) (fun c_1 => ?_) (fun c_1 => ?_)
  · have hM := hM.trans (if_pos c_1)
    refine lv_sipush (v := 161) hx hb dX1_turnOfRelease_56 (by decide) ?_
    have hM : (m_M_turnOfRelease sM p1 p2) = (161 : Int32) := hM
    exact hret _ _ ls (nr_i _) dX1_turnOfRelease_59 hM.symm
  · have hM := hM.trans (if_neg c_1)
    refine lv_lload hx hb dX1_turnOfRelease_41 (lv_at hl 0 rfl) ?_
    refine lv_ldc2 (own := RX1) (index := 65) (v := 160) hx hb hown (hts (.constantLong RX1 65 (160)) (List.mem_of_getElem? (i := 4) rfl)) dX1_turnOfRelease_43 ?_
    refine W.lcmp hx hb dX1_turnOfRelease_46 ?_
    refine lv_if_gt (tgt := 56) hx hb dX1_turnOfRelease_47 (by decide) (fun c_2 => ?_) (fun c_2 => ?_)
    · have hM := hM.trans (if_pos c_2)
      refine lv_sipush (v := 161) hx hb dX1_turnOfRelease_56 (by decide) ?_
      have hM : (m_M_turnOfRelease sM p1 p2) = (161 : Int32) := hM
      exact hret _ _ ls (nr_i _) dX1_turnOfRelease_59 hM.symm
    · have hM := hM.trans (if_neg c_2)
      refine lv_lload hx hb dX1_turnOfRelease_50 (lv_at hl 0 rfl) ?_
      refine lv_l2i (v := (Int64.toInt32 (m_T_up (((100 + (Int32.toInt64 p2)) * 2) * (Int32.toInt64 p1)) ((Int32.toInt64 (sM 1 1)) + (2 * (Int32.toInt64 p1)))))) hx hb dX1_turnOfRelease_52 rfl ?_
      refine lv_goto (tgt := 59) hx hb dX1_turnOfRelease_53 (by decide) ?_
      have hM : (m_M_turnOfRelease sM p1 p2) = ((Int64.toInt32 (m_T_up (((100 + (Int32.toInt64 p2)) * 2) * (Int32.toInt64 p1)) ((Int32.toInt64 (sM 1 1)) + (2 * (Int32.toInt64 p1))))) : Int32) := hM
      exact hret _ _ ls (nr_i _) dX1_turnOfRelease_59 hM.symm
abbrev rm_T_within : Room := { frames := 0, cells := 0, slots := 0, locals := 0 }
set_option maxHeartbeats 4000000 in
set_option maxRecDepth 100000 in
theorem K_T_within {l : Launch} {D : va_G} {cI : ClassId} {lo : Nat} (p0 : Int32) (p1 : Int32) (p2 : Int32) : ROi l D cI lo yX4_within wsX4_within rm_T_within [.int p0, .int p1, .int p2] (fun H => True) (m_T_within p0 p1 p2) := by
  refine ofW_ROi (cc := cX4_within) (maxL := 3) (ty := .boolean) (by decide +kernel) rfl (Nat.le_of_ble_eq_true rfl) ?_
  intro p e s m args below meth c Q hx hb hml hown hts hE hP hret ls hl
  have hown : s.vm.findClass RX4 = some m.cls := hown
  have hA : ∀ q : Nat, (fun _ : Nat => False) q → lo ≤ q := fun _ h => h.elim
  have hS : va_S (fun _ : Nat => False) s.heap s.heap [] := va_S.rf
  have hl : lv_has ls 3 [(0, .int p0), (1, .int p1), (2, .int p2)] := hl
  have hM : (m_T_within p0 p1 p2) = (m_T_within p0 p1 p2) := rfl
  refine lv_iload_n hx hb dX4_within_0 rfl (lv_at hl 0 rfl) ?_
  refine lv_iload_n hx hb dX4_within_1 rfl (lv_at hl 1 rfl) ?_
  refine lv_icmp_lt (tgt := 14) hx hb dX4_within_2 (by decide) (fun c_1 => ?_) (fun c_1 => ?_)
  · have hM := hM.trans (if_pos c_1)
    refine lv_iconst (v := 0) hx hb dX4_within_14 (by decide) ?_
    have hM : (m_T_within p0 p1 p2) = (0 : Int32) := hM
    exact hret _ _ ls (by decide) dX4_within_15 hM.symm
  · have hM := hM.trans (if_neg c_1)
    refine lv_iload_n hx hb dX4_within_5 rfl (lv_at hl 0 rfl) ?_
    refine lv_iload_n hx hb dX4_within_6 rfl (lv_at hl 2 rfl) ?_
    refine lv_icmp_gt (tgt := 14) hx hb dX4_within_7 (by decide) (fun c_2 => ?_) (fun c_2 => ?_)
    · have hM := hM.trans (if_pos c_2)
      refine lv_iconst (v := 0) hx hb dX4_within_14 (by decide) ?_
      have hM : (m_T_within p0 p1 p2) = (0 : Int32) := hM
      exact hret _ _ ls (by decide) dX4_within_15 hM.symm
    · have hM := hM.trans (if_neg c_2)
      refine lv_iconst (v := 1) hx hb dX4_within_10 (by decide) ?_
      refine lv_goto (tgt := 15) hx hb dX4_within_11 (by decide) ?_
      have hM : (m_T_within p0 p1 p2) = (1 : Int32) := hM
      exact hret _ _ ls (by decide) dX4_within_15 hM.symm
abbrev rm_T_down : Room := { frames := 1, cells := 0, slots := 0, locals := 25 }
set_option maxHeartbeats 4000000 in
set_option maxRecDepth 100000 in
theorem K_T_down {l : Launch} {D : va_G} {cI : ClassId} {lo : Nat} (p0 : Int64) (p2 : Int64) : ROl l D cI lo yX4_down wsX4_down rm_T_down [.long p0, .long p2] (fun H => True) (m_T_down p0 p2) := by
  refine ofW_ROl (cc := cX4_down) (maxL := 4) (by decide +kernel) rfl (Nat.le_of_ble_eq_true rfl) ?_
  intro p e s m args below meth c Q hx hb hml hown hts hE hP hret ls hl
  have hown : s.vm.findClass RX4 = some m.cls := hown
  have hA : ∀ q : Nat, (fun _ : Nat => False) q → lo ≤ q := fun _ h => h.elim
  have hS : va_S (fun _ : Nat => False) s.heap s.heap [] := va_S.rf
  have hl : lv_has ls 4 [(0, .long p0), (2, .long p2)] := hl
  have hM : (m_T_down p0 p2) = (m_T_down p0 p2) := rfl
  refine lv_lload_n hx hb dX4_down_0 rfl (lv_at hl 1 rfl) ?_
  refine lv_lconst (v := 0) hx hb dX4_down_1 (by decide) ?_
  refine W.lcmp hx hb dX4_down_2 ?_
  refine lv_if_le (tgt := 14) hx hb dX4_down_3 (by decide) (fun c_1 => ?_) (fun c_1 => ?_)
  · have hM := hM.trans (if_pos c_1)
    refine lv_lconst (v := 0) hx hb dX4_down_14 (by decide) ?_
    have hM : (m_T_down p0 p2) = (0 : Int64) := hM
    exact hret _ _ ls dX4_down_15 hM.symm
  · have hM := hM.trans (if_neg c_1)
    have nz := lg_nz c_1
    refine lv_lload_n hx hb dX4_down_6 rfl (lv_at hl 0 rfl) ?_
    refine lv_lload_n hx hb dX4_down_7 rfl (lv_at hl 1 rfl) ?_
    refine runS_l (va_runS (As := [.long p0, .long p2]) (rest := []) ⟨hx, hb, hml, hown, hts⟩ (K_J_floorDiv p0 p2 (by assumption)) (va_cwS 2 hts gX4_down_J9_floorDiv_f86c9 rfl rfl rfl (by decide +kernel) ⟨Nat.le_of_ble_eq_true rfl, Nat.le_of_ble_eq_true rfl⟩) (preS_of hE hA hS trivial) rfl rfl hl.1 rfl (lv_room (Nat.le_of_ble_eq_true rfl)) dX4_down_8 ⟨Nat.zero_le _, Nat.zero_le _⟩) ?_
    refine lv_goto (tgt := 15) hx hb dX4_down_11 (by decide) ?_
    have hM : (m_T_down p0 p2) = ((m_J_floorDiv p0 p2) : Int64) := hM
    exact hret _ _ ls dX4_down_15 hM.symm
abbrev rm_M_speedFor : Room := { frames := 2, cells := 0, slots := 0, locals := 48 }
set_option maxHeartbeats 4000000 in
set_option maxRecDepth 100000 in
theorem K_M_speedFor {l : Launch} {D : va_G} {cI : ClassId} {lo : Nat} {g : Nat → Nat} (hg : wI g 1 6 lo) (sM : St) (p1 : Int32) (p2 : Int32) : ROl l D cI lo yX1_speedFor wsX1_speedFor rm_M_speedFor [.ref (g 1), .int p1, .int p2] (fun H => va_P D vwCl (cellM cI g sM) H) (m_M_speedFor sM p1 p2) := by
  refine ofW_ROl (cc := cX1_speedFor) (maxL := 9) (by decide +kernel) rfl (Nat.le_of_ble_eq_true rfl) ?_
  intro p e s m args below meth c Q hx hb hml hown hts hE hP hret ls hl
  have hown : s.vm.findClass RX1 = some m.cls := hown
  have hPM := hP
  have hA : ∀ q : Nat, (fun _ : Nat => False) q → lo ≤ q := fun _ h => h.elim
  have hS : va_S (fun _ : Nat => False) s.heap s.heap [] := va_S.rf
  have hinM : ∀ w ∈ wsX10, w ∈ wsX1_speedFor := fun w h => List.mem_cons_of_mem _ (List.mem_append_right _ h)
  have hl : lv_has ls 9 [(0, .ref (g 1)), (1, .int p1), (2, .int p2)] := hl
  have hM : (m_M_speedFor sM p1 p2) = (m_M_speedFor sM p1 p2) := rfl
  refine lv_aload_n hx hb dX1_speedFor_0 rfl (lv_at hl 0 rfl) ?_
  refine va_get (D := D) (ci := 1) (v := .ref (g 2)) (C := RX1) (T := TX1) (N := 6) hx hb hts hinM hown hE.1 hPM 0 rfl rfl 0 (by decide) (hts (.fieldLink RX1 11 "WallStones$Machine" "number" "[I") (List.mem_of_getElem? (i := 1) rfl)) (fun _ h9 => h9) rfl dX1_speedFor_1 ?_
  refine lv_iconst (v := 1) hx hb dX1_speedFor_4 (by decide) ?_
  refine va_iald hx hb hE.1 hPM 1 0 rfl rfl (vp_in_iff.mpr (by decide)) dX1_speedFor_5 ?_
  refine W.eq (congrArg (fun z => F0 m 6 ls [.int (sM 1 z)]) cl_1) ?_
  refine lv_iload_n hx hb dX1_speedFor_6 rfl (lv_at hl 2 rfl) ?_
  refine lv_iadd hx hb dX1_speedFor_7 ?_
  refine lv_i2l (v := (Int32.toInt64 ((sM 1 1) + p2))) hx hb dX1_speedFor_8 rfl ?_
  refine lv_lstore_n (lv' := [(3, .long (Int32.toInt64 ((sM 1 1) + p2))), (0, .ref (g 1)), (1, .int p1), (2, .int p2)]) hx hb dX1_speedFor_9 rfl hl (by decide) rfl (fun ls hl => ?_)
  refine lv_lload_n hx hb dX1_speedFor_10 rfl (lv_at hl 0 rfl) ?_
  refine lv_lload_n hx hb dX1_speedFor_11 rfl (lv_at hl 0 rfl) ?_
  refine lv_lmul hx hb dX1_speedFor_12 ?_
  refine lv_lstore (lv' := [(5, .long ((Int32.toInt64 ((sM 1 1) + p2)) * (Int32.toInt64 ((sM 1 1) + p2)))), (3, .long (Int32.toInt64 ((sM 1 1) + p2))), (0, .ref (g 1)), (1, .int p1), (2, .int p2)]) hx hb dX1_speedFor_13 hl (by decide) rfl (fun ls hl => ?_)
  refine lv_aload_n hx hb dX1_speedFor_15 rfl (lv_at hl 2 rfl) ?_
  refine va_get (D := D) (ci := 1) (v := .ref (g 2)) (C := RX1) (T := TX1) (N := 6) hx hb hts hinM hown hE.1 hPM 0 rfl rfl 0 (by decide) (hts (.fieldLink RX1 11 "WallStones$Machine" "number" "[I") (List.mem_of_getElem? (i := 1) rfl)) (fun _ h9 => h9) rfl dX1_speedFor_16 ?_
  refine lv_iconst (v := 2) hx hb dX1_speedFor_19 (by decide) ?_
  refine va_iald hx hb hE.1 hPM 1 0 rfl rfl (vp_in_iff.mpr (by decide)) dX1_speedFor_20 ?_
  refine W.eq (congrArg (fun z => F0 m 21 ls [.int (sM 1 z)]) cl_2) ?_
  refine lv_i2l (v := (Int32.toInt64 (sM 1 2))) hx hb dX1_speedFor_21 rfl ?_
  refine lv_aload_n hx hb dX1_speedFor_22 rfl (lv_at hl 2 rfl) ?_
  refine va_get (D := D) (ci := 1) (v := .ref (g 2)) (C := RX1) (T := TX1) (N := 6) hx hb hts hinM hown hE.1 hPM 0 rfl rfl 0 (by decide) (hts (.fieldLink RX1 11 "WallStones$Machine" "number" "[I") (List.mem_of_getElem? (i := 1) rfl)) (fun _ h9 => h9) rfl dX1_speedFor_23 ?_
  refine lv_iconst (v := 0) hx hb dX1_speedFor_26 (by decide) ?_
  refine va_iald hx hb hE.1 hPM 1 0 rfl rfl (vp_in_iff.mpr (by decide)) dX1_speedFor_27 ?_
  refine W.eq (congrArg (fun z => F0 m 28 ls [.int (sM 1 z), .long (Int32.toInt64 (sM 1 2))]) cl_0) ?_
  refine lv_i2l (v := (Int32.toInt64 (sM 1 0))) hx hb dX1_speedFor_28 rfl ?_
  refine lv_lmul hx hb dX1_speedFor_29 ?_
  refine lv_aload_n hx hb dX1_speedFor_30 rfl (lv_at hl 2 rfl) ?_
  refine va_get (D := D) (ci := 1) (v := .ref (g 2)) (C := RX1) (T := TX1) (N := 6) hx hb hts hinM hown hE.1 hPM 0 rfl rfl 0 (by decide) (hts (.fieldLink RX1 11 "WallStones$Machine" "number" "[I") (List.mem_of_getElem? (i := 1) rfl)) (fun _ h9 => h9) rfl dX1_speedFor_31 ?_
  refine lv_iconst (v := 0) hx hb dX1_speedFor_34 (by decide) ?_
  refine va_iald hx hb hE.1 hPM 1 0 rfl rfl (vp_in_iff.mpr (by decide)) dX1_speedFor_35 ?_
  refine W.eq (congrArg (fun z => F0 m 36 ls [.int (sM 1 z), .long ((Int32.toInt64 (sM 1 2)) * (Int32.toInt64 (sM 1 0)))]) cl_0) ?_
  refine lv_i2l (v := (Int32.toInt64 (sM 1 0))) hx hb dX1_speedFor_36 rfl ?_
  refine lv_lmul hx hb dX1_speedFor_37 ?_
  refine lv_aload_n hx hb dX1_speedFor_38 rfl (lv_at hl 2 rfl) ?_
  refine va_get (D := D) (ci := 1) (v := .ref (g 2)) (C := RX1) (T := TX1) (N := 6) hx hb hts hinM hown hE.1 hPM 0 rfl rfl 0 (by decide) (hts (.fieldLink RX1 11 "WallStones$Machine" "number" "[I") (List.mem_of_getElem? (i := 1) rfl)) (fun _ h9 => h9) rfl dX1_speedFor_39 ?_
  refine lv_bipush (v := 7) hx hb dX1_speedFor_42 (by decide) ?_
  refine va_iald hx hb hE.1 hPM 1 0 rfl rfl (vp_in_iff.mpr (by decide)) dX1_speedFor_44 ?_
  refine W.eq (congrArg (fun z => F0 m 45 ls [.int (sM 1 z), .long (((Int32.toInt64 (sM 1 2)) * (Int32.toInt64 (sM 1 0))) * (Int32.toInt64 (sM 1 0)))]) cl_7) ?_
  refine lv_i2l (v := (Int32.toInt64 (sM 1 7))) hx hb dX1_speedFor_45 rfl ?_
  refine lv_lload hx hb dX1_speedFor_46 (lv_at hl 0 rfl) ?_
  refine lv_lmul hx hb dX1_speedFor_48 ?_
  refine lv_ladd hx hb dX1_speedFor_49 ?_
  refine lv_lstore (lv' := [(7, .long ((((Int32.toInt64 (sM 1 2)) * (Int32.toInt64 (sM 1 0))) * (Int32.toInt64 (sM 1 0))) + ((Int32.toInt64 (sM 1 7)) * ((Int32.toInt64 ((sM 1 1) + p2)) * (Int32.toInt64 ((sM 1 1) + p2)))))), (5, .long ((Int32.toInt64 ((sM 1 1) + p2)) * (Int32.toInt64 ((sM 1 1) + p2)))), (3, .long (Int32.toInt64 ((sM 1 1) + p2))), (0, .ref (g 1)), (1, .int p1), (2, .int p2)]) hx hb dX1_speedFor_50 hl (by decide) rfl (fun ls hl => ?_)
  refine lv_ldc2 (own := RX1) (index := 60) (v := 2) hx hb hown (hts (.constantLong RX1 60 (2)) (List.mem_of_getElem? (i := 2) rfl)) dX1_speedFor_52 ?_
  refine lv_iload_n hx hb dX1_speedFor_55 rfl (lv_at hl 4 rfl) ?_
  refine lv_i2l (v := (Int32.toInt64 p1)) hx hb dX1_speedFor_56 rfl ?_
  refine lv_lmul hx hb dX1_speedFor_57 ?_
  refine lv_lload hx hb dX1_speedFor_58 (lv_at hl 1 rfl) ?_
  refine lv_lmul hx hb dX1_speedFor_60 ?_
  refine lv_lload hx hb dX1_speedFor_61 (lv_at hl 0 rfl) ?_
  refine runS_l (va_runSN (As := [.long ((2 * (Int32.toInt64 p1)) * ((Int32.toInt64 ((sM 1 1) + p2)) * (Int32.toInt64 ((sM 1 1) + p2)))), .long ((((Int32.toInt64 (sM 1 2)) * (Int32.toInt64 (sM 1 0))) * (Int32.toInt64 (sM 1 0))) + ((Int32.toInt64 (sM 1 7)) * ((Int32.toInt64 ((sM 1 1) + p2)) * (Int32.toInt64 ((sM 1 1) + p2)))))]) (rest := []) ⟨hx, hb, hml, hown, hts⟩ (K_T_down ((2 * (Int32.toInt64 p1)) * ((Int32.toInt64 ((sM 1 1) + p2)) * (Int32.toInt64 ((sM 1 1) + p2)))) ((((Int32.toInt64 (sM 1 2)) * (Int32.toInt64 (sM 1 0))) * (Int32.toInt64 (sM 1 0))) + ((Int32.toInt64 (sM 1 7)) * ((Int32.toInt64 ((sM 1 1) + p2)) * (Int32.toInt64 ((sM 1 1) + p2)))))) ⟨va_cnB 2 hts gX1_speedFor_X4_down_n54 rfl rfl rfl hE.2.1.2.2.2.1 (hts (.initialized RX4) (List.mem_of_getElem? (i := 4) rfl)) (by decide +kernel) ⟨Nat.le_of_ble_eq_true rfl, Nat.le_of_ble_eq_true rfl⟩, (hts (.static yX4_down) (List.mem_of_getElem? (i := 3) rfl)), trivial⟩ (preS_of hE hA hS trivial) rfl rfl hl.1 rfl (lv_room (Nat.le_of_ble_eq_true rfl)) dX1_speedFor_63 ⟨Nat.zero_le _, Nat.zero_le _⟩) ?_
  have hM : (m_M_speedFor sM p1 p2) = ((m_T_down ((2 * (Int32.toInt64 p1)) * ((Int32.toInt64 ((sM 1 1) + p2)) * (Int32.toInt64 ((sM 1 1) + p2)))) ((((Int32.toInt64 (sM 1 2)) * (Int32.toInt64 (sM 1 0))) * (Int32.toInt64 (sM 1 0))) + ((Int32.toInt64 (sM 1 7)) * ((Int32.toInt64 ((sM 1 1) + p2)) * (Int32.toInt64 ((sM 1 1) + p2)))))) : Int64) := hM
  exact hret _ _ ls dX1_speedFor_66 hM.symm
abbrev rm_T_sineOf : Room := { frames := 2, cells := 0, slots := 0, locals := 48 }
set_option maxHeartbeats 4000000 in
set_option maxRecDepth 100000 in
theorem K_T_sineOf {l : Launch} {D : va_G} {cI : ClassId} {lo : Nat} (p0 : Int32) : ROi l D cI lo yX4_sineOf wsX4_sineOf rm_T_sineOf [.int p0] (fun H => True) (m_T_sineOf p0) := by
  refine ofW_ROi (cc := cX4_sineOf) (maxL := 5) (ty := .int) (by decide +kernel) rfl (Nat.le_of_ble_eq_true rfl) ?_
  intro p e s m args below meth c Q hx hb hml hown hts hE hP hret ls hl
  have hown : s.vm.findClass RX4 = some m.cls := hown
  have hA : ∀ q : Nat, (fun _ : Nat => False) q → lo ≤ q := fun _ h => h.elim
  have hS : va_S (fun _ : Nat => False) s.heap s.heap [] := va_S.rf
  have hl : lv_has ls 5 [(0, .int p0)] := hl
  have hM : (m_T_sineOf p0) = (m_T_sineOf p0) := rfl
  refine lv_iload_n hx hb dX4_sineOf_0 rfl (lv_at hl 0 rfl) ?_
  refine va_mabs hx hb (by rw [hml]; exact hl.1.symm) hown (hts (.methodLink RX4 189 Lib.Math.abs.name) (List.mem_of_getElem? (i := 1) rfl)) (hts (.static Lib.Math.abs.name) (List.mem_of_getElem? (i := 2) rfl)) (hts (.initialized "java/lang/Math") (List.mem_of_getElem? (i := 3) rfl)) (hts (.code Lib.Math.abs.name Lib.Math.abs.code 1 (some .int)) (List.mem_of_getElem? (i := 4) rfl)) (Nat.le_of_ble_eq_true rfl) (Nat.le_of_ble_eq_true rfl) (Nat.zero_le _) (Nat.zero_le _) dX4_sineOf_1 ?_
  refine lv_istore_n (lv' := [(1, .int (if 0 ≤ p0 then p0 else 0 - p0)), (0, .int p0)]) hx hb dX4_sineOf_4 rfl hl (by decide) rfl (fun ls hl => ?_)
  refine lv_iload_n hx hb dX4_sineOf_5 rfl (lv_at hl 0 rfl) ?_
  refine lv_i2l (v := (Int32.toInt64 (if 0 ≤ p0 then p0 else 0 - p0))) hx hb dX4_sineOf_6 rfl ?_
  refine lv_sipush (v := 180) hx hb dX4_sineOf_7 (by decide) ?_
  refine lv_iload_n hx hb dX4_sineOf_10 rfl (lv_at hl 0 rfl) ?_
  refine lv_isub hx hb dX4_sineOf_11 ?_
  refine lv_i2l (v := (Int32.toInt64 (180 - (if 0 ≤ p0 then p0 else 0 - p0)))) hx hb dX4_sineOf_12 rfl ?_
  refine lv_lmul hx hb dX4_sineOf_13 ?_
  refine lv_lstore_n (lv' := [(2, .long ((Int32.toInt64 (if 0 ≤ p0 then p0 else 0 - p0)) * (Int32.toInt64 (180 - (if 0 ≤ p0 then p0 else 0 - p0))))), (1, .int (if 0 ≤ p0 then p0 else 0 - p0)), (0, .int p0)]) hx hb dX4_sineOf_14 rfl hl (by decide) rfl (fun ls hl => ?_)
  refine lv_ldc2 (own := RX4) (index := 227) (v := 4000) hx hb hown (hts (.constantLong RX4 227 (4000)) (List.mem_of_getElem? (i := 5) rfl)) dX4_sineOf_15 ?_
  refine lv_lload_n hx hb dX4_sineOf_18 rfl (lv_at hl 0 rfl) ?_
  refine lv_lmul hx hb dX4_sineOf_19 ?_
  refine lv_ldc2 (own := RX4) (index := 229) (v := 40500) hx hb hown (hts (.constantLong RX4 229 (40500)) (List.mem_of_getElem? (i := 6) rfl)) dX4_sineOf_20 ?_
  refine lv_lload_n hx hb dX4_sineOf_23 rfl (lv_at hl 0 rfl) ?_
  refine lv_lsub hx hb dX4_sineOf_24 ?_
  refine runS_l (va_runS (As := [.long (4000 * ((Int32.toInt64 (if 0 ≤ p0 then p0 else 0 - p0)) * (Int32.toInt64 (180 - (if 0 ≤ p0 then p0 else 0 - p0))))), .long (40500 - ((Int32.toInt64 (if 0 ≤ p0 then p0 else 0 - p0)) * (Int32.toInt64 (180 - (if 0 ≤ p0 then p0 else 0 - p0)))))]) (rest := []) ⟨hx, hb, hml, hown, hts⟩ (K_T_down (4000 * ((Int32.toInt64 (if 0 ≤ p0 then p0 else 0 - p0)) * (Int32.toInt64 (180 - (if 0 ≤ p0 then p0 else 0 - p0))))) (40500 - ((Int32.toInt64 (if 0 ≤ p0 then p0 else 0 - p0)) * (Int32.toInt64 (180 - (if 0 ≤ p0 then p0 else 0 - p0)))))) (va_cwS 2 hts gX4_sineOf_X4_down rfl rfl rfl (by decide +kernel) ⟨Nat.le_of_ble_eq_true rfl, Nat.le_of_ble_eq_true rfl⟩) (preS_of hE hA hS trivial) rfl rfl hl.1 rfl (lv_room (Nat.le_of_ble_eq_true rfl)) dX4_sineOf_25 ⟨Nat.zero_le _, Nat.zero_le _⟩) ?_
  refine lv_l2i (v := (Int64.toInt32 (m_T_down (4000 * ((Int32.toInt64 (if 0 ≤ p0 then p0 else 0 - p0)) * (Int32.toInt64 (180 - (if 0 ≤ p0 then p0 else 0 - p0))))) (40500 - ((Int32.toInt64 (if 0 ≤ p0 then p0 else 0 - p0)) * (Int32.toInt64 (180 - (if 0 ≤ p0 then p0 else 0 - p0)))))))) hx hb dX4_sineOf_28 rfl ?_
  refine lv_istore (lv' := [(4, .int (Int64.toInt32 (m_T_down (4000 * ((Int32.toInt64 (if 0 ≤ p0 then p0 else 0 - p0)) * (Int32.toInt64 (180 - (if 0 ≤ p0 then p0 else 0 - p0))))) (40500 - ((Int32.toInt64 (if 0 ≤ p0 then p0 else 0 - p0)) * (Int32.toInt64 (180 - (if 0 ≤ p0 then p0 else 0 - p0)))))))), (2, .long ((Int32.toInt64 (if 0 ≤ p0 then p0 else 0 - p0)) * (Int32.toInt64 (180 - (if 0 ≤ p0 then p0 else 0 - p0))))), (1, .int (if 0 ≤ p0 then p0 else 0 - p0)), (0, .int p0)]) hx hb dX4_sineOf_29 hl (by decide) rfl (fun ls hl => ?_)
  refine lv_iload_n hx hb dX4_sineOf_31 rfl (lv_at hl 3 rfl) ?_
  refine lv_if_ge (tgt := 41) hx hb dX4_sineOf_32 (by decide) (fun c_1 => ?_) (fun c_1 => ?_)
  · have hM := hM.trans (if_pos c_1)
    refine lv_iload hx hb dX4_sineOf_41 (lv_at hl 0 rfl) ?_
    have hM : (m_T_sineOf p0) = ((Int64.toInt32 (m_T_down (4000 * ((Int32.toInt64 (if 0 ≤ p0 then p0 else 0 - p0)) * (Int32.toInt64 (180 - (if 0 ≤ p0 then p0 else 0 - p0))))) (40500 - ((Int32.toInt64 (if 0 ≤ p0 then p0 else 0 - p0)) * (Int32.toInt64 (180 - (if 0 ≤ p0 then p0 else 0 - p0))))))) : Int32) := hM
    exact hret _ _ ls (nr_i _) dX4_sineOf_43 hM.symm
  · have hM := hM.trans (if_neg c_1)
    refine lv_iload hx hb dX4_sineOf_35 (lv_at hl 0 rfl) ?_
    refine lv_ineg hx hb dX4_sineOf_37 ?_
    refine lv_goto (tgt := 43) hx hb dX4_sineOf_38 (by decide) ?_
    have hM : (m_T_sineOf p0) = ((-(Int64.toInt32 (m_T_down (4000 * ((Int32.toInt64 (if 0 ≤ p0 then p0 else 0 - p0)) * (Int32.toInt64 (180 - (if 0 ≤ p0 then p0 else 0 - p0))))) (40500 - ((Int32.toInt64 (if 0 ≤ p0 then p0 else 0 - p0)) * (Int32.toInt64 (180 - (if 0 ≤ p0 then p0 else 0 - p0)))))))) : Int32) := hM
    exact hret _ _ ls (nr_i _) dX4_sineOf_43 hM.symm
abbrev rm_M_flightOf : Room := { frames := 2, cells := 0, slots := 0, locals := 48 }
set_option maxHeartbeats 4000000 in
set_option maxRecDepth 100000 in
theorem K_M_flightOf {l : Launch} {D : va_G} {cI : ClassId} {lo : Nat} {g : Nat → Nat} (hg : wI g 1 6 lo) (sM : St) (p1 : Int32) (p2 : Int32) : ROi l D cI lo yX1_flightOf wsX1_flightOf rm_M_flightOf [.ref (g 1), .int p1, .int p2] (fun H => va_P D vwCl (cellM cI g sM) H) (m_M_flightOf sM p1 p2) := by
  refine ofW_ROi (cc := cX1_flightOf) (maxL := 5) (ty := .int) (by decide +kernel) rfl (Nat.le_of_ble_eq_true rfl) ?_
  intro p e s m args below meth c Q hx hb hml hown hts hE hP hret ls hl
  have hown : s.vm.findClass RX1 = some m.cls := hown
  have hPM := hP
  have hA : ∀ q : Nat, (fun _ : Nat => False) q → lo ≤ q := fun _ h => h.elim
  have hS : va_S (fun _ : Nat => False) s.heap s.heap [] := va_S.rf
  have hinM : ∀ w ∈ wsX10, w ∈ wsX1_flightOf := fun w h => List.mem_cons_of_mem _ (List.mem_append_right _ h)
  have hl : lv_has ls 5 [(0, .ref (g 1)), (1, .int p1), (2, .int p2)] := hl
  have hM : (m_M_flightOf sM p1 p2) = (m_M_flightOf sM p1 p2) := rfl
  refine lv_lconst (v := 0) hx hb dX1_flightOf_0 (by decide) ?_
  refine lv_iload_n hx hb dX1_flightOf_1 rfl (lv_at hl 2 rfl) ?_
  refine lv_i2l (v := (Int32.toInt64 p2)) hx hb dX1_flightOf_2 rfl ?_
  refine lv_iload_n hx hb dX1_flightOf_3 rfl (lv_at hl 2 rfl) ?_
  refine lv_i2l (v := (Int32.toInt64 p2)) hx hb dX1_flightOf_4 rfl ?_
  refine lv_iload_n hx hb dX1_flightOf_5 rfl (lv_at hl 2 rfl) ?_
  refine lv_i2l (v := (Int32.toInt64 p2)) hx hb dX1_flightOf_6 rfl ?_
  refine lv_lmul hx hb dX1_flightOf_7 ?_
  refine lv_ldc2 (own := RX1) (index := 92) (v := 20) hx hb hown (hts (.constantLong RX1 92 (20)) (List.mem_of_getElem? (i := 1) rfl)) dX1_flightOf_8 ?_
  refine lv_aload_n hx hb dX1_flightOf_11 rfl (lv_at hl 0 rfl) ?_
  refine va_get (D := D) (ci := 1) (v := .ref (g 2)) (C := RX1) (T := TX1) (N := 6) hx hb hts hinM hown hE.1 hPM 0 rfl rfl 0 (by decide) (hts (.fieldLink RX1 11 "WallStones$Machine" "number" "[I") (List.mem_of_getElem? (i := 2) rfl)) (fun _ h9 => h9) rfl dX1_flightOf_12 ?_
  refine lv_bipush (v := 7) hx hb dX1_flightOf_15 (by decide) ?_
  refine va_iald hx hb hE.1 hPM 1 0 rfl rfl (vp_in_iff.mpr (by decide)) dX1_flightOf_17 ?_
  refine W.eq (congrArg (fun z => F0 m 18 ls [.int (sM 1 z), .long 20, .long ((Int32.toInt64 p2) * (Int32.toInt64 p2)), .long (Int32.toInt64 p2), .long 0]) cl_7) ?_
  refine lv_i2l (v := (Int32.toInt64 (sM 1 7))) hx hb dX1_flightOf_18 rfl ?_
  refine lv_lmul hx hb dX1_flightOf_19 ?_
  refine lv_ldc2 (own := RX1) (index := 94) (v := 2000) hx hb hown (hts (.constantLong RX1 94 (2000)) (List.mem_of_getElem? (i := 3) rfl)) dX1_flightOf_20 ?_
  refine lv_ladd hx hb dX1_flightOf_23 ?_
  refine runS_l (va_runSN (As := [.long ((Int32.toInt64 p2) * (Int32.toInt64 p2)), .long ((20 * (Int32.toInt64 (sM 1 7))) + 2000)]) (rest := [.long (Int32.toInt64 p2), .long 0]) ⟨hx, hb, hml, hown, hts⟩ (K_T_down ((Int32.toInt64 p2) * (Int32.toInt64 p2)) ((20 * (Int32.toInt64 (sM 1 7))) + 2000)) ⟨va_cnB 2 hts gX1_flightOf_X4_down_n54 rfl rfl rfl hE.2.1.2.2.2.1 (hts (.initialized RX4) (List.mem_of_getElem? (i := 13) rfl)) (by decide +kernel) ⟨Nat.le_of_ble_eq_true rfl, Nat.le_of_ble_eq_true rfl⟩, (hts (.static yX4_down) (List.mem_of_getElem? (i := 12) rfl)), trivial⟩ (preS_of hE hA hS trivial) rfl rfl hl.1 rfl (lv_room (Nat.le_of_ble_eq_true rfl)) dX1_flightOf_24 ⟨Nat.zero_le _, Nat.zero_le _⟩) ?_
  refine lv_lsub hx hb dX1_flightOf_27 ?_
  refine va_mmax_long hx hb (by rw [hml]; exact hl.1.symm) hown (hts (.methodLink RX1 96 Lib.MathLoose.max_long.x) (List.mem_of_getElem? (i := 4) rfl)) (hts (.static Lib.MathLoose.max_long.x) (List.mem_of_getElem? (i := 5) rfl)) (hts (.initialized "java/lang/Math") (List.mem_of_getElem? (i := 6) rfl)) (hts (.code Lib.MathLoose.max_long.x Lib.MathLoose.max_long.code 4 (some .long)) (List.mem_of_getElem? (i := 7) rfl)) (Nat.le_of_ble_eq_true rfl) (Nat.le_of_ble_eq_true rfl) (Nat.zero_le _) (Nat.zero_le _) dX1_flightOf_28 ?_
  refine lv_lstore_n (lv' := [(3, .long (if ((Int32.toInt64 p2) - (m_T_down ((Int32.toInt64 p2) * (Int32.toInt64 p2)) ((20 * (Int32.toInt64 (sM 1 7))) + 2000))) < 0 then 0 else ((Int32.toInt64 p2) - (m_T_down ((Int32.toInt64 p2) * (Int32.toInt64 p2)) ((20 * (Int32.toInt64 (sM 1 7))) + 2000))))), (0, .ref (g 1)), (1, .int p1), (2, .int p2)]) hx hb dX1_flightOf_31 rfl hl (by decide) rfl (fun ls hl => ?_)
  refine lv_iload_n hx hb dX1_flightOf_32 rfl (lv_at hl 2 rfl) ?_
  refine lv_iconst (v := 1) hx hb dX1_flightOf_33 (by decide) ?_
  refine lv_icmp_lt (tgt := 47) hx hb dX1_flightOf_34 (by decide) (fun c_1 => ?_) (fun c_1 => ?_)
  · have hM := hM.trans (if_pos c_1)
    have t_1 := lt_t c_1
    rw [tl_1] at t_1
    refine lv_iload_n hx hb dX1_flightOf_47 rfl (lv_at hl 2 rfl) ?_
    refine lv_iconst (v := 2) hx hb dX1_flightOf_48 (by decide) ?_
    refine lv_icmp_lt (tgt := 74) hx hb dX1_flightOf_49 (by decide) (fun c_2 => ?_) (fun c_2 => ?_)
    · have hM := hM.trans (if_pos c_2)
      have t_2 := lt_t c_2
      rw [tl_2] at t_2
      refine lv_lload_n hx hb dX1_flightOf_74 rfl (lv_at hl 0 rfl) ?_
      refine lv_l2i (v := (Int64.toInt32 (if ((Int32.toInt64 p2) - (m_T_down ((Int32.toInt64 p2) * (Int32.toInt64 p2)) ((20 * (Int32.toInt64 (sM 1 7))) + 2000))) < 0 then 0 else ((Int32.toInt64 p2) - (m_T_down ((Int32.toInt64 p2) * (Int32.toInt64 p2)) ((20 * (Int32.toInt64 (sM 1 7))) + 2000)))))) hx hb dX1_flightOf_75 rfl ?_
      have hM : (m_M_flightOf sM p1 p2) = ((Int64.toInt32 (if ((Int32.toInt64 p2) - (m_T_down ((Int32.toInt64 p2) * (Int32.toInt64 p2)) ((20 * (Int32.toInt64 (sM 1 7))) + 2000))) < 0 then 0 else ((Int32.toInt64 p2) - (m_T_down ((Int32.toInt64 p2) * (Int32.toInt64 p2)) ((20 * (Int32.toInt64 (sM 1 7))) + 2000))))) : Int32) := hM
      exact hret _ _ ls (nr_i _) dX1_flightOf_76 hM.symm
    · have hM := hM.trans (if_neg c_2)
      have t_2 := nlt_t c_2
      rw [tl_2] at t_2
      refine lv_lconst (v := 0) hx hb dX1_flightOf_52 (by decide) ?_
      refine lv_lload_n hx hb dX1_flightOf_53 rfl (lv_at hl 0 rfl) ?_
      refine lv_ldc2 (own := RX1) (index := 60) (v := 2) hx hb hown (hts (.constantLong RX1 60 (2)) (List.mem_of_getElem? (i := 9) rfl)) dX1_flightOf_54 ?_
      refine lv_lload_n hx hb dX1_flightOf_57 rfl (lv_at hl 0 rfl) ?_
      refine lv_ldc2 (own := RX1) (index := 100) (v := 25) hx hb hown (hts (.constantLong RX1 100 (25)) (List.mem_of_getElem? (i := 10) rfl)) dX1_flightOf_58 ?_
      refine runS_l (va_runSN (As := [.long (if ((Int32.toInt64 p2) - (m_T_down ((Int32.toInt64 p2) * (Int32.toInt64 p2)) ((20 * (Int32.toInt64 (sM 1 7))) + 2000))) < 0 then 0 else ((Int32.toInt64 p2) - (m_T_down ((Int32.toInt64 p2) * (Int32.toInt64 p2)) ((20 * (Int32.toInt64 (sM 1 7))) + 2000)))), .long 25]) (rest := [.long 2, .long (if ((Int32.toInt64 p2) - (m_T_down ((Int32.toInt64 p2) * (Int32.toInt64 p2)) ((20 * (Int32.toInt64 (sM 1 7))) + 2000))) < 0 then 0 else ((Int32.toInt64 p2) - (m_T_down ((Int32.toInt64 p2) * (Int32.toInt64 p2)) ((20 * (Int32.toInt64 (sM 1 7))) + 2000)))), .long 0]) ⟨hx, hb, hml, hown, hts⟩ (K_T_down (if ((Int32.toInt64 p2) - (m_T_down ((Int32.toInt64 p2) * (Int32.toInt64 p2)) ((20 * (Int32.toInt64 (sM 1 7))) + 2000))) < 0 then 0 else ((Int32.toInt64 p2) - (m_T_down ((Int32.toInt64 p2) * (Int32.toInt64 p2)) ((20 * (Int32.toInt64 (sM 1 7))) + 2000)))) 25) ⟨va_cnB 2 hts gX1_flightOf_X4_down_n54 rfl rfl rfl hE.2.1.2.2.2.1 (hts (.initialized RX4) (List.mem_of_getElem? (i := 13) rfl)) (by decide +kernel) ⟨Nat.le_of_ble_eq_true rfl, Nat.le_of_ble_eq_true rfl⟩, (hts (.static yX4_down) (List.mem_of_getElem? (i := 12) rfl)), trivial⟩ (preS_of hE hA hS trivial) rfl rfl hl.1 rfl (lv_room (Nat.le_of_ble_eq_true rfl)) dX1_flightOf_61 ⟨Nat.zero_le _, Nat.zero_le _⟩) ?_
      refine lv_lmul hx hb dX1_flightOf_64 ?_
      refine lv_lsub hx hb dX1_flightOf_65 ?_
      refine lv_ldc2 (own := RX1) (index := 102) (v := 3) hx hb hown (hts (.constantLong RX1 102 (3)) (List.mem_of_getElem? (i := 11) rfl)) dX1_flightOf_66 ?_
      refine lv_lsub hx hb dX1_flightOf_69 ?_
      refine va_mmax_long hx hb (by rw [hml]; exact hl.1.symm) hown (hts (.methodLink RX1 96 Lib.MathLoose.max_long.x) (List.mem_of_getElem? (i := 4) rfl)) (hts (.static Lib.MathLoose.max_long.x) (List.mem_of_getElem? (i := 5) rfl)) (hts (.initialized "java/lang/Math") (List.mem_of_getElem? (i := 6) rfl)) (hts (.code Lib.MathLoose.max_long.x Lib.MathLoose.max_long.code 4 (some .long)) (List.mem_of_getElem? (i := 7) rfl)) (Nat.le_of_ble_eq_true rfl) (Nat.le_of_ble_eq_true rfl) (Nat.zero_le _) (Nat.zero_le _) dX1_flightOf_70 ?_
      refine lv_lstore_n (lv' := [(3, .long (if (((if ((Int32.toInt64 p2) - (m_T_down ((Int32.toInt64 p2) * (Int32.toInt64 p2)) ((20 * (Int32.toInt64 (sM 1 7))) + 2000))) < 0 then 0 else ((Int32.toInt64 p2) - (m_T_down ((Int32.toInt64 p2) * (Int32.toInt64 p2)) ((20 * (Int32.toInt64 (sM 1 7))) + 2000)))) - (2 * (m_T_down (if ((Int32.toInt64 p2) - (m_T_down ((Int32.toInt64 p2) * (Int32.toInt64 p2)) ((20 * (Int32.toInt64 (sM 1 7))) + 2000))) < 0 then 0 else ((Int32.toInt64 p2) - (m_T_down ((Int32.toInt64 p2) * (Int32.toInt64 p2)) ((20 * (Int32.toInt64 (sM 1 7))) + 2000)))) 25))) - 3) < 0 then 0 else (((if ((Int32.toInt64 p2) - (m_T_down ((Int32.toInt64 p2) * (Int32.toInt64 p2)) ((20 * (Int32.toInt64 (sM 1 7))) + 2000))) < 0 then 0 else ((Int32.toInt64 p2) - (m_T_down ((Int32.toInt64 p2) * (Int32.toInt64 p2)) ((20 * (Int32.toInt64 (sM 1 7))) + 2000)))) - (2 * (m_T_down (if ((Int32.toInt64 p2) - (m_T_down ((Int32.toInt64 p2) * (Int32.toInt64 p2)) ((20 * (Int32.toInt64 (sM 1 7))) + 2000))) < 0 then 0 else ((Int32.toInt64 p2) - (m_T_down ((Int32.toInt64 p2) * (Int32.toInt64 p2)) ((20 * (Int32.toInt64 (sM 1 7))) + 2000)))) 25))) - 3))), (0, .ref (g 1)), (1, .int p1), (2, .int p2)]) hx hb dX1_flightOf_73 rfl hl (by decide) rfl (fun ls hl => ?_)
      refine lv_lload_n hx hb dX1_flightOf_74 rfl (lv_at hl 0 rfl) ?_
      refine lv_l2i (v := (Int64.toInt32 (if (((if ((Int32.toInt64 p2) - (m_T_down ((Int32.toInt64 p2) * (Int32.toInt64 p2)) ((20 * (Int32.toInt64 (sM 1 7))) + 2000))) < 0 then 0 else ((Int32.toInt64 p2) - (m_T_down ((Int32.toInt64 p2) * (Int32.toInt64 p2)) ((20 * (Int32.toInt64 (sM 1 7))) + 2000)))) - (2 * (m_T_down (if ((Int32.toInt64 p2) - (m_T_down ((Int32.toInt64 p2) * (Int32.toInt64 p2)) ((20 * (Int32.toInt64 (sM 1 7))) + 2000))) < 0 then 0 else ((Int32.toInt64 p2) - (m_T_down ((Int32.toInt64 p2) * (Int32.toInt64 p2)) ((20 * (Int32.toInt64 (sM 1 7))) + 2000)))) 25))) - 3) < 0 then 0 else (((if ((Int32.toInt64 p2) - (m_T_down ((Int32.toInt64 p2) * (Int32.toInt64 p2)) ((20 * (Int32.toInt64 (sM 1 7))) + 2000))) < 0 then 0 else ((Int32.toInt64 p2) - (m_T_down ((Int32.toInt64 p2) * (Int32.toInt64 p2)) ((20 * (Int32.toInt64 (sM 1 7))) + 2000)))) - (2 * (m_T_down (if ((Int32.toInt64 p2) - (m_T_down ((Int32.toInt64 p2) * (Int32.toInt64 p2)) ((20 * (Int32.toInt64 (sM 1 7))) + 2000))) < 0 then 0 else ((Int32.toInt64 p2) - (m_T_down ((Int32.toInt64 p2) * (Int32.toInt64 p2)) ((20 * (Int32.toInt64 (sM 1 7))) + 2000)))) 25))) - 3)))) hx hb dX1_flightOf_75 rfl ?_
      have hM : (m_M_flightOf sM p1 p2) = ((Int64.toInt32 (if (((if ((Int32.toInt64 p2) - (m_T_down ((Int32.toInt64 p2) * (Int32.toInt64 p2)) ((20 * (Int32.toInt64 (sM 1 7))) + 2000))) < 0 then 0 else ((Int32.toInt64 p2) - (m_T_down ((Int32.toInt64 p2) * (Int32.toInt64 p2)) ((20 * (Int32.toInt64 (sM 1 7))) + 2000)))) - (2 * (m_T_down (if ((Int32.toInt64 p2) - (m_T_down ((Int32.toInt64 p2) * (Int32.toInt64 p2)) ((20 * (Int32.toInt64 (sM 1 7))) + 2000))) < 0 then 0 else ((Int32.toInt64 p2) - (m_T_down ((Int32.toInt64 p2) * (Int32.toInt64 p2)) ((20 * (Int32.toInt64 (sM 1 7))) + 2000)))) 25))) - 3) < 0 then 0 else (((if ((Int32.toInt64 p2) - (m_T_down ((Int32.toInt64 p2) * (Int32.toInt64 p2)) ((20 * (Int32.toInt64 (sM 1 7))) + 2000))) < 0 then 0 else ((Int32.toInt64 p2) - (m_T_down ((Int32.toInt64 p2) * (Int32.toInt64 p2)) ((20 * (Int32.toInt64 (sM 1 7))) + 2000)))) - (2 * (m_T_down (if ((Int32.toInt64 p2) - (m_T_down ((Int32.toInt64 p2) * (Int32.toInt64 p2)) ((20 * (Int32.toInt64 (sM 1 7))) + 2000))) < 0 then 0 else ((Int32.toInt64 p2) - (m_T_down ((Int32.toInt64 p2) * (Int32.toInt64 p2)) ((20 * (Int32.toInt64 (sM 1 7))) + 2000)))) 25))) - 3))) : Int32) := hM
      exact hret _ _ ls (nr_i _) dX1_flightOf_76 hM.symm
  · have hM := hM.trans (if_neg c_1)
    have t_1 := nlt_t c_1
    rw [tl_1] at t_1
    refine lv_lload_n hx hb dX1_flightOf_37 rfl (lv_at hl 0 rfl) ?_
    refine lv_lload_n hx hb dX1_flightOf_38 rfl (lv_at hl 0 rfl) ?_
    refine lv_ldc2 (own := RX1) (index := 98) (v := 8) hx hb hown (hts (.constantLong RX1 98 (8)) (List.mem_of_getElem? (i := 8) rfl)) dX1_flightOf_39 ?_
    refine runS_l (va_runSN (As := [.long (if ((Int32.toInt64 p2) - (m_T_down ((Int32.toInt64 p2) * (Int32.toInt64 p2)) ((20 * (Int32.toInt64 (sM 1 7))) + 2000))) < 0 then 0 else ((Int32.toInt64 p2) - (m_T_down ((Int32.toInt64 p2) * (Int32.toInt64 p2)) ((20 * (Int32.toInt64 (sM 1 7))) + 2000)))), .long 8]) (rest := [.long (if ((Int32.toInt64 p2) - (m_T_down ((Int32.toInt64 p2) * (Int32.toInt64 p2)) ((20 * (Int32.toInt64 (sM 1 7))) + 2000))) < 0 then 0 else ((Int32.toInt64 p2) - (m_T_down ((Int32.toInt64 p2) * (Int32.toInt64 p2)) ((20 * (Int32.toInt64 (sM 1 7))) + 2000))))]) ⟨hx, hb, hml, hown, hts⟩ (K_T_up (if ((Int32.toInt64 p2) - (m_T_down ((Int32.toInt64 p2) * (Int32.toInt64 p2)) ((20 * (Int32.toInt64 (sM 1 7))) + 2000))) < 0 then 0 else ((Int32.toInt64 p2) - (m_T_down ((Int32.toInt64 p2) * (Int32.toInt64 p2)) ((20 * (Int32.toInt64 (sM 1 7))) + 2000)))) 8) ⟨va_cnB 2 hts gX1_flightOf_X4_up_n62 rfl rfl rfl hE.2.1.2.2.2.2.1 (hts (.initialized RX4) (List.mem_of_getElem? (i := 13) rfl)) (by decide +kernel) ⟨Nat.le_of_ble_eq_true rfl, Nat.le_of_ble_eq_true rfl⟩, (hts (.static yX4_up) (List.mem_of_getElem? (i := 19) rfl)), trivial⟩ (preS_of hE hA hS trivial) rfl rfl hl.1 rfl (lv_room (Nat.le_of_ble_eq_true rfl)) dX1_flightOf_42 ⟨Nat.zero_le _, Nat.zero_le _⟩) ?_
    refine lv_lsub hx hb dX1_flightOf_45 ?_
    refine lv_lstore_n (lv' := [(3, .long ((if ((Int32.toInt64 p2) - (m_T_down ((Int32.toInt64 p2) * (Int32.toInt64 p2)) ((20 * (Int32.toInt64 (sM 1 7))) + 2000))) < 0 then 0 else ((Int32.toInt64 p2) - (m_T_down ((Int32.toInt64 p2) * (Int32.toInt64 p2)) ((20 * (Int32.toInt64 (sM 1 7))) + 2000)))) - (m_T_up (if ((Int32.toInt64 p2) - (m_T_down ((Int32.toInt64 p2) * (Int32.toInt64 p2)) ((20 * (Int32.toInt64 (sM 1 7))) + 2000))) < 0 then 0 else ((Int32.toInt64 p2) - (m_T_down ((Int32.toInt64 p2) * (Int32.toInt64 p2)) ((20 * (Int32.toInt64 (sM 1 7))) + 2000)))) 8))), (0, .ref (g 1)), (1, .int p1), (2, .int p2)]) hx hb dX1_flightOf_46 rfl hl (by decide) rfl (fun ls hl => ?_)
    refine lv_iload_n hx hb dX1_flightOf_47 rfl (lv_at hl 2 rfl) ?_
    refine lv_iconst (v := 2) hx hb dX1_flightOf_48 (by decide) ?_
    refine lv_icmp_lt (tgt := 74) hx hb dX1_flightOf_49 (by decide) (fun c_3 => ?_) (fun c_3 => ?_)
    · have hM := hM.trans (if_pos c_3)
      have t_3 := lt_t c_3
      rw [tl_2] at t_3
      refine lv_lload_n hx hb dX1_flightOf_74 rfl (lv_at hl 0 rfl) ?_
      refine lv_l2i (v := (Int64.toInt32 ((if ((Int32.toInt64 p2) - (m_T_down ((Int32.toInt64 p2) * (Int32.toInt64 p2)) ((20 * (Int32.toInt64 (sM 1 7))) + 2000))) < 0 then 0 else ((Int32.toInt64 p2) - (m_T_down ((Int32.toInt64 p2) * (Int32.toInt64 p2)) ((20 * (Int32.toInt64 (sM 1 7))) + 2000)))) - (m_T_up (if ((Int32.toInt64 p2) - (m_T_down ((Int32.toInt64 p2) * (Int32.toInt64 p2)) ((20 * (Int32.toInt64 (sM 1 7))) + 2000))) < 0 then 0 else ((Int32.toInt64 p2) - (m_T_down ((Int32.toInt64 p2) * (Int32.toInt64 p2)) ((20 * (Int32.toInt64 (sM 1 7))) + 2000)))) 8)))) hx hb dX1_flightOf_75 rfl ?_
      have hM : (m_M_flightOf sM p1 p2) = ((Int64.toInt32 ((if ((Int32.toInt64 p2) - (m_T_down ((Int32.toInt64 p2) * (Int32.toInt64 p2)) ((20 * (Int32.toInt64 (sM 1 7))) + 2000))) < 0 then 0 else ((Int32.toInt64 p2) - (m_T_down ((Int32.toInt64 p2) * (Int32.toInt64 p2)) ((20 * (Int32.toInt64 (sM 1 7))) + 2000)))) - (m_T_up (if ((Int32.toInt64 p2) - (m_T_down ((Int32.toInt64 p2) * (Int32.toInt64 p2)) ((20 * (Int32.toInt64 (sM 1 7))) + 2000))) < 0 then 0 else ((Int32.toInt64 p2) - (m_T_down ((Int32.toInt64 p2) * (Int32.toInt64 p2)) ((20 * (Int32.toInt64 (sM 1 7))) + 2000)))) 8))) : Int32) := hM
      exact hret _ _ ls (nr_i _) dX1_flightOf_76 hM.symm
    · have hM := hM.trans (if_neg c_3)
      have t_3 := nlt_t c_3
      rw [tl_2] at t_3
      refine lv_lconst (v := 0) hx hb dX1_flightOf_52 (by decide) ?_
      refine lv_lload_n hx hb dX1_flightOf_53 rfl (lv_at hl 0 rfl) ?_
      refine lv_ldc2 (own := RX1) (index := 60) (v := 2) hx hb hown (hts (.constantLong RX1 60 (2)) (List.mem_of_getElem? (i := 9) rfl)) dX1_flightOf_54 ?_
      refine lv_lload_n hx hb dX1_flightOf_57 rfl (lv_at hl 0 rfl) ?_
      refine lv_ldc2 (own := RX1) (index := 100) (v := 25) hx hb hown (hts (.constantLong RX1 100 (25)) (List.mem_of_getElem? (i := 10) rfl)) dX1_flightOf_58 ?_
      refine runS_l (va_runSN (As := [.long ((if ((Int32.toInt64 p2) - (m_T_down ((Int32.toInt64 p2) * (Int32.toInt64 p2)) ((20 * (Int32.toInt64 (sM 1 7))) + 2000))) < 0 then 0 else ((Int32.toInt64 p2) - (m_T_down ((Int32.toInt64 p2) * (Int32.toInt64 p2)) ((20 * (Int32.toInt64 (sM 1 7))) + 2000)))) - (m_T_up (if ((Int32.toInt64 p2) - (m_T_down ((Int32.toInt64 p2) * (Int32.toInt64 p2)) ((20 * (Int32.toInt64 (sM 1 7))) + 2000))) < 0 then 0 else ((Int32.toInt64 p2) - (m_T_down ((Int32.toInt64 p2) * (Int32.toInt64 p2)) ((20 * (Int32.toInt64 (sM 1 7))) + 2000)))) 8)), .long 25]) (rest := [.long 2, .long ((if ((Int32.toInt64 p2) - (m_T_down ((Int32.toInt64 p2) * (Int32.toInt64 p2)) ((20 * (Int32.toInt64 (sM 1 7))) + 2000))) < 0 then 0 else ((Int32.toInt64 p2) - (m_T_down ((Int32.toInt64 p2) * (Int32.toInt64 p2)) ((20 * (Int32.toInt64 (sM 1 7))) + 2000)))) - (m_T_up (if ((Int32.toInt64 p2) - (m_T_down ((Int32.toInt64 p2) * (Int32.toInt64 p2)) ((20 * (Int32.toInt64 (sM 1 7))) + 2000))) < 0 then 0 else ((Int32.toInt64 p2) - (m_T_down ((Int32.toInt64 p2) * (Int32.toInt64 p2)) ((20 * (Int32.toInt64 (sM 1 7))) + 2000)))) 8)), .long 0]) ⟨hx, hb, hml, hown, hts⟩ (K_T_down ((if ((Int32.toInt64 p2) - (m_T_down ((Int32.toInt64 p2) * (Int32.toInt64 p2)) ((20 * (Int32.toInt64 (sM 1 7))) + 2000))) < 0 then 0 else ((Int32.toInt64 p2) - (m_T_down ((Int32.toInt64 p2) * (Int32.toInt64 p2)) ((20 * (Int32.toInt64 (sM 1 7))) + 2000)))) - (m_T_up (if ((Int32.toInt64 p2) - (m_T_down ((Int32.toInt64 p2) * (Int32.toInt64 p2)) ((20 * (Int32.toInt64 (sM 1 7))) + 2000))) < 0 then 0 else ((Int32.toInt64 p2) - (m_T_down ((Int32.toInt64 p2) * (Int32.toInt64 p2)) ((20 * (Int32.toInt64 (sM 1 7))) + 2000)))) 8)) 25) ⟨va_cnB 2 hts gX1_flightOf_X4_down_n54 rfl rfl rfl hE.2.1.2.2.2.1 (hts (.initialized RX4) (List.mem_of_getElem? (i := 13) rfl)) (by decide +kernel) ⟨Nat.le_of_ble_eq_true rfl, Nat.le_of_ble_eq_true rfl⟩, (hts (.static yX4_down) (List.mem_of_getElem? (i := 12) rfl)), trivial⟩ (preS_of hE hA hS trivial) rfl rfl hl.1 rfl (lv_room (Nat.le_of_ble_eq_true rfl)) dX1_flightOf_61 ⟨Nat.zero_le _, Nat.zero_le _⟩) ?_
      refine lv_lmul hx hb dX1_flightOf_64 ?_
      refine lv_lsub hx hb dX1_flightOf_65 ?_
      refine lv_ldc2 (own := RX1) (index := 102) (v := 3) hx hb hown (hts (.constantLong RX1 102 (3)) (List.mem_of_getElem? (i := 11) rfl)) dX1_flightOf_66 ?_
      refine lv_lsub hx hb dX1_flightOf_69 ?_
      refine va_mmax_long hx hb (by rw [hml]; exact hl.1.symm) hown (hts (.methodLink RX1 96 Lib.MathLoose.max_long.x) (List.mem_of_getElem? (i := 4) rfl)) (hts (.static Lib.MathLoose.max_long.x) (List.mem_of_getElem? (i := 5) rfl)) (hts (.initialized "java/lang/Math") (List.mem_of_getElem? (i := 6) rfl)) (hts (.code Lib.MathLoose.max_long.x Lib.MathLoose.max_long.code 4 (some .long)) (List.mem_of_getElem? (i := 7) rfl)) (Nat.le_of_ble_eq_true rfl) (Nat.le_of_ble_eq_true rfl) (Nat.zero_le _) (Nat.zero_le _) dX1_flightOf_70 ?_
      refine lv_lstore_n (lv' := [(3, .long (if ((((if ((Int32.toInt64 p2) - (m_T_down ((Int32.toInt64 p2) * (Int32.toInt64 p2)) ((20 * (Int32.toInt64 (sM 1 7))) + 2000))) < 0 then 0 else ((Int32.toInt64 p2) - (m_T_down ((Int32.toInt64 p2) * (Int32.toInt64 p2)) ((20 * (Int32.toInt64 (sM 1 7))) + 2000)))) - (m_T_up (if ((Int32.toInt64 p2) - (m_T_down ((Int32.toInt64 p2) * (Int32.toInt64 p2)) ((20 * (Int32.toInt64 (sM 1 7))) + 2000))) < 0 then 0 else ((Int32.toInt64 p2) - (m_T_down ((Int32.toInt64 p2) * (Int32.toInt64 p2)) ((20 * (Int32.toInt64 (sM 1 7))) + 2000)))) 8)) - (2 * (m_T_down ((if ((Int32.toInt64 p2) - (m_T_down ((Int32.toInt64 p2) * (Int32.toInt64 p2)) ((20 * (Int32.toInt64 (sM 1 7))) + 2000))) < 0 then 0 else ((Int32.toInt64 p2) - (m_T_down ((Int32.toInt64 p2) * (Int32.toInt64 p2)) ((20 * (Int32.toInt64 (sM 1 7))) + 2000)))) - (m_T_up (if ((Int32.toInt64 p2) - (m_T_down ((Int32.toInt64 p2) * (Int32.toInt64 p2)) ((20 * (Int32.toInt64 (sM 1 7))) + 2000))) < 0 then 0 else ((Int32.toInt64 p2) - (m_T_down ((Int32.toInt64 p2) * (Int32.toInt64 p2)) ((20 * (Int32.toInt64 (sM 1 7))) + 2000)))) 8)) 25))) - 3) < 0 then 0 else ((((if ((Int32.toInt64 p2) - (m_T_down ((Int32.toInt64 p2) * (Int32.toInt64 p2)) ((20 * (Int32.toInt64 (sM 1 7))) + 2000))) < 0 then 0 else ((Int32.toInt64 p2) - (m_T_down ((Int32.toInt64 p2) * (Int32.toInt64 p2)) ((20 * (Int32.toInt64 (sM 1 7))) + 2000)))) - (m_T_up (if ((Int32.toInt64 p2) - (m_T_down ((Int32.toInt64 p2) * (Int32.toInt64 p2)) ((20 * (Int32.toInt64 (sM 1 7))) + 2000))) < 0 then 0 else ((Int32.toInt64 p2) - (m_T_down ((Int32.toInt64 p2) * (Int32.toInt64 p2)) ((20 * (Int32.toInt64 (sM 1 7))) + 2000)))) 8)) - (2 * (m_T_down ((if ((Int32.toInt64 p2) - (m_T_down ((Int32.toInt64 p2) * (Int32.toInt64 p2)) ((20 * (Int32.toInt64 (sM 1 7))) + 2000))) < 0 then 0 else ((Int32.toInt64 p2) - (m_T_down ((Int32.toInt64 p2) * (Int32.toInt64 p2)) ((20 * (Int32.toInt64 (sM 1 7))) + 2000)))) - (m_T_up (if ((Int32.toInt64 p2) - (m_T_down ((Int32.toInt64 p2) * (Int32.toInt64 p2)) ((20 * (Int32.toInt64 (sM 1 7))) + 2000))) < 0 then 0 else ((Int32.toInt64 p2) - (m_T_down ((Int32.toInt64 p2) * (Int32.toInt64 p2)) ((20 * (Int32.toInt64 (sM 1 7))) + 2000)))) 8)) 25))) - 3))), (0, .ref (g 1)), (1, .int p1), (2, .int p2)]) hx hb dX1_flightOf_73 rfl hl (by decide) rfl (fun ls hl => ?_)
      refine lv_lload_n hx hb dX1_flightOf_74 rfl (lv_at hl 0 rfl) ?_
      refine lv_l2i (v := (Int64.toInt32 (if ((((if ((Int32.toInt64 p2) - (m_T_down ((Int32.toInt64 p2) * (Int32.toInt64 p2)) ((20 * (Int32.toInt64 (sM 1 7))) + 2000))) < 0 then 0 else ((Int32.toInt64 p2) - (m_T_down ((Int32.toInt64 p2) * (Int32.toInt64 p2)) ((20 * (Int32.toInt64 (sM 1 7))) + 2000)))) - (m_T_up (if ((Int32.toInt64 p2) - (m_T_down ((Int32.toInt64 p2) * (Int32.toInt64 p2)) ((20 * (Int32.toInt64 (sM 1 7))) + 2000))) < 0 then 0 else ((Int32.toInt64 p2) - (m_T_down ((Int32.toInt64 p2) * (Int32.toInt64 p2)) ((20 * (Int32.toInt64 (sM 1 7))) + 2000)))) 8)) - (2 * (m_T_down ((if ((Int32.toInt64 p2) - (m_T_down ((Int32.toInt64 p2) * (Int32.toInt64 p2)) ((20 * (Int32.toInt64 (sM 1 7))) + 2000))) < 0 then 0 else ((Int32.toInt64 p2) - (m_T_down ((Int32.toInt64 p2) * (Int32.toInt64 p2)) ((20 * (Int32.toInt64 (sM 1 7))) + 2000)))) - (m_T_up (if ((Int32.toInt64 p2) - (m_T_down ((Int32.toInt64 p2) * (Int32.toInt64 p2)) ((20 * (Int32.toInt64 (sM 1 7))) + 2000))) < 0 then 0 else ((Int32.toInt64 p2) - (m_T_down ((Int32.toInt64 p2) * (Int32.toInt64 p2)) ((20 * (Int32.toInt64 (sM 1 7))) + 2000)))) 8)) 25))) - 3) < 0 then 0 else ((((if ((Int32.toInt64 p2) - (m_T_down ((Int32.toInt64 p2) * (Int32.toInt64 p2)) ((20 * (Int32.toInt64 (sM 1 7))) + 2000))) < 0 then 0 else ((Int32.toInt64 p2) - (m_T_down ((Int32.toInt64 p2) * (Int32.toInt64 p2)) ((20 * (Int32.toInt64 (sM 1 7))) + 2000)))) - (m_T_up (if ((Int32.toInt64 p2) - (m_T_down ((Int32.toInt64 p2) * (Int32.toInt64 p2)) ((20 * (Int32.toInt64 (sM 1 7))) + 2000))) < 0 then 0 else ((Int32.toInt64 p2) - (m_T_down ((Int32.toInt64 p2) * (Int32.toInt64 p2)) ((20 * (Int32.toInt64 (sM 1 7))) + 2000)))) 8)) - (2 * (m_T_down ((if ((Int32.toInt64 p2) - (m_T_down ((Int32.toInt64 p2) * (Int32.toInt64 p2)) ((20 * (Int32.toInt64 (sM 1 7))) + 2000))) < 0 then 0 else ((Int32.toInt64 p2) - (m_T_down ((Int32.toInt64 p2) * (Int32.toInt64 p2)) ((20 * (Int32.toInt64 (sM 1 7))) + 2000)))) - (m_T_up (if ((Int32.toInt64 p2) - (m_T_down ((Int32.toInt64 p2) * (Int32.toInt64 p2)) ((20 * (Int32.toInt64 (sM 1 7))) + 2000))) < 0 then 0 else ((Int32.toInt64 p2) - (m_T_down ((Int32.toInt64 p2) * (Int32.toInt64 p2)) ((20 * (Int32.toInt64 (sM 1 7))) + 2000)))) 8)) 25))) - 3)))) hx hb dX1_flightOf_75 rfl ?_
      have hM : (m_M_flightOf sM p1 p2) = ((Int64.toInt32 (if ((((if ((Int32.toInt64 p2) - (m_T_down ((Int32.toInt64 p2) * (Int32.toInt64 p2)) ((20 * (Int32.toInt64 (sM 1 7))) + 2000))) < 0 then 0 else ((Int32.toInt64 p2) - (m_T_down ((Int32.toInt64 p2) * (Int32.toInt64 p2)) ((20 * (Int32.toInt64 (sM 1 7))) + 2000)))) - (m_T_up (if ((Int32.toInt64 p2) - (m_T_down ((Int32.toInt64 p2) * (Int32.toInt64 p2)) ((20 * (Int32.toInt64 (sM 1 7))) + 2000))) < 0 then 0 else ((Int32.toInt64 p2) - (m_T_down ((Int32.toInt64 p2) * (Int32.toInt64 p2)) ((20 * (Int32.toInt64 (sM 1 7))) + 2000)))) 8)) - (2 * (m_T_down ((if ((Int32.toInt64 p2) - (m_T_down ((Int32.toInt64 p2) * (Int32.toInt64 p2)) ((20 * (Int32.toInt64 (sM 1 7))) + 2000))) < 0 then 0 else ((Int32.toInt64 p2) - (m_T_down ((Int32.toInt64 p2) * (Int32.toInt64 p2)) ((20 * (Int32.toInt64 (sM 1 7))) + 2000)))) - (m_T_up (if ((Int32.toInt64 p2) - (m_T_down ((Int32.toInt64 p2) * (Int32.toInt64 p2)) ((20 * (Int32.toInt64 (sM 1 7))) + 2000))) < 0 then 0 else ((Int32.toInt64 p2) - (m_T_down ((Int32.toInt64 p2) * (Int32.toInt64 p2)) ((20 * (Int32.toInt64 (sM 1 7))) + 2000)))) 8)) 25))) - 3) < 0 then 0 else ((((if ((Int32.toInt64 p2) - (m_T_down ((Int32.toInt64 p2) * (Int32.toInt64 p2)) ((20 * (Int32.toInt64 (sM 1 7))) + 2000))) < 0 then 0 else ((Int32.toInt64 p2) - (m_T_down ((Int32.toInt64 p2) * (Int32.toInt64 p2)) ((20 * (Int32.toInt64 (sM 1 7))) + 2000)))) - (m_T_up (if ((Int32.toInt64 p2) - (m_T_down ((Int32.toInt64 p2) * (Int32.toInt64 p2)) ((20 * (Int32.toInt64 (sM 1 7))) + 2000))) < 0 then 0 else ((Int32.toInt64 p2) - (m_T_down ((Int32.toInt64 p2) * (Int32.toInt64 p2)) ((20 * (Int32.toInt64 (sM 1 7))) + 2000)))) 8)) - (2 * (m_T_down ((if ((Int32.toInt64 p2) - (m_T_down ((Int32.toInt64 p2) * (Int32.toInt64 p2)) ((20 * (Int32.toInt64 (sM 1 7))) + 2000))) < 0 then 0 else ((Int32.toInt64 p2) - (m_T_down ((Int32.toInt64 p2) * (Int32.toInt64 p2)) ((20 * (Int32.toInt64 (sM 1 7))) + 2000)))) - (m_T_up (if ((Int32.toInt64 p2) - (m_T_down ((Int32.toInt64 p2) * (Int32.toInt64 p2)) ((20 * (Int32.toInt64 (sM 1 7))) + 2000))) < 0 then 0 else ((Int32.toInt64 p2) - (m_T_down ((Int32.toInt64 p2) * (Int32.toInt64 p2)) ((20 * (Int32.toInt64 (sM 1 7))) + 2000)))) 8)) 25))) - 3))) : Int32) := hM
      exact hret _ _ ls (nr_i _) dX1_flightOf_76 hM.symm
abbrev rm_M_reckonRelease : Room := { frames := 3, cells := 0, slots := 0, locals := 76 }
set_option maxHeartbeats 4000000 in
set_option maxRecDepth 100000 in
theorem K_M_reckonRelease {l : Launch} {D : va_G} {cI : ClassId} {lo : Nat} {g : Nat → Nat} (hg : wI g 1 6 lo) (sM : St) (p1 : Int32) (p2 : Int32) (p3 : Int32) (h0 : 0 ≤ p1.toInt ∧ p1.toInt ≤ 160) : WRv l D cI lo yX1_reckonRelease wsX1_reckonRelease rm_M_reckonRelease [.ref (g 1), .int p1, .int p2, .int p3] (fun H => va_P D vwCl (cellM cI g sM) H) (fun H => va_P D vwCl (cellM cI g (m_M_reckonRelease sM p1 p2 p3)) H) (wA g 1 6) := by
  refine ofW_WRv (cc := cX1_reckonRelease) (maxL := 10) (by decide +kernel) rfl (Nat.le_of_ble_eq_true rfl) ?_
  intro p e s m args below meth c Q hx hb hml hown hts hE hP hret ls hl
  have hown : s.vm.findClass RX1 = some m.cls := hown
  have hPM := hP
  have hA := wA.lo hg
  have hS : va_S (wA g 1 6) s.heap s.heap [] := va_S.rf
  obtain ⟨H, hH⟩ : ∃ z, z = s.heap := ⟨_, rfl⟩
  obtain ⟨locs, hlocs⟩ : ∃ z : List Loc, z = [] := ⟨_, rfl⟩
  have hPM : va_P D vwCl (cellM cI g sM) H := by rw [hH]; exact hPM
  have hS : va_S (wA g 1 6) s.heap H locs := by rw [hH, hlocs]; exact va_S.rf
  have gW : W p l e rm_M_reckonRelease s m args below meth c H locs 0 0 Q (F0 m 0 ls []) → W p l e rm_M_reckonRelease s m args below meth c s.heap [] 0 0 Q (F0 m 0 ls []) := by rw [hH, hlocs]; exact id
  refine gW ?_
  have hinM : ∀ w ∈ wsX10, w ∈ wsX1_reckonRelease := fun w h => List.mem_cons_of_mem _ (List.mem_append_right _ h)
  have hl : lv_has ls 10 [(0, .ref (g 1)), (1, .int p1), (2, .int p2), (3, .int p3)] := hl
  have J_121 : ∀ (sM_121 : St) (x9_121 : Int32) (H : Heap) (locs : List Loc) (ls : Array Slot), va_P D vwCl (cellM cI g sM_121) H → va_S (wA g 1 6) s.heap H locs → lv_has ls 10 [(0, .ref (g 1)), (9, .int x9_121)] → (m_M_reckonRelease sM p1 p2 p3) = b_M_reckonRelease_121 sM_121 x9_121 → W p l e rm_M_reckonRelease s m args below meth c H locs 0 0 Q (F0 m 121 ls []) := by
    intro sM_121 x9_121 H locs ls hPM hS hl hM
    refine lv_aload_n hx hb dX1_reckonRelease_121 rfl (lv_at hl 0 rfl) ?_
    refine va_get (D := D) (ci := 1) (v := .ref (g 4)) (C := RX1) (T := TX1) (N := 6) hx hb hts hinM hown hE.1 hPM 0 rfl rfl 2 (by decide) (hts (.fieldLink RX1 18 "WallStones$Machine" "reckoning" "[I") (List.mem_of_getElem? (i := 2) rfl)) (fun _ h9 => h9) rfl dX1_reckonRelease_122 ?_
    refine lv_bipush (v := 6) hx hb dX1_reckonRelease_125 (by decide) ?_
    refine lv_iconst (v := 0) hx hb dX1_reckonRelease_127 (by decide) ?_
    refine lv_iload hx hb dX1_reckonRelease_128 (lv_at hl 1 rfl) ?_
    refine lv_aload_n hx hb dX1_reckonRelease_130 rfl (lv_at hl 0 rfl) ?_
    refine va_get (D := D) (ci := 1) (v := .int (sM_121 0 5)) (C := RX1) (T := TX1) (N := 6) hx hb hts hinM hown hE.1 hPM 0 rfl rfl 5 (by decide) (hts (.fieldLink RX1 41 "WallStones$Machine" "windNow" "I") (List.mem_of_getElem? (i := 5) rfl)) (fun _ h9 => h9) rfl dX1_reckonRelease_131 ?_
    refine lv_iload hx hb dX1_reckonRelease_134 (lv_at hl 1 rfl) ?_
    refine lv_imul hx hb dX1_reckonRelease_136 ?_
    refine lv_bipush (v := 100) hx hb dX1_reckonRelease_137 (by decide) ?_
    refine lv_idiv hx hb dX1_reckonRelease_139 (by decide) ?_
    refine lv_iadd hx hb dX1_reckonRelease_140 ?_
    refine va_mmax hx hb (by rw [hml]; exact hl.1.symm) hown (hts (.methodLink RX1 87 Lib.Math.max.name) (List.mem_of_getElem? (i := 6) rfl)) (hts (.static Lib.Math.max.name) (List.mem_of_getElem? (i := 7) rfl)) (hts (.initialized "java/lang/Math") (List.mem_of_getElem? (i := 8) rfl)) (hts (.code Lib.Math.max.name Lib.Math.max.code 2 (some .int)) (List.mem_of_getElem? (i := 9) rfl)) (Nat.le_of_ble_eq_true rfl) (Nat.le_of_ble_eq_true rfl) (Nat.zero_le _) (Nat.zero_le _) dX1_reckonRelease_141 ?_
    refine va_iast hx hb hE.1 hPM (wD_of hg (c := 1) (n := 5) (by decide) (by decide) rfl) hS 3 0 rfl rfl (vp_in_iff.mpr (by decide)) dX1_reckonRelease_144 (fun H locs hPn _ hS => ?_)
    rw [cl_6] at hPn
    have hPM : va_P D vwCl (cellM cI g (up sM_121 3 6 (if 0 < (x9_121 + (((sM_121 0 5) * x9_121) / 100)) then (x9_121 + (((sM_121 0 5) * x9_121) / 100)) else 0))) H := (congrArg (fun z => va_P D vwCl z H) setM_M3).mp hPn
    have hM : (m_M_reckonRelease sM p1 p2 p3) = ((up sM_121 3 6 (if 0 < (x9_121 + (((sM_121 0 5) * x9_121) / 100)) then (x9_121 + (((sM_121 0 5) * x9_121) / 100)) else 0)) : St) := hM
    exact hret H locs _ ls dX1_reckonRelease_145 (rP_s1 (P := fun (z0 : St) => va_P D vwCl (cellM cI g z0) H) hM hPM) hS
  have J_87 : ∀ (sM_87 : St) (x5_87 : Int64) (x7_87 : Int64) (H : Heap) (locs : List Loc) (ls : Array Slot), va_P D vwCl (cellM cI g sM_87) H → va_S (wA g 1 6) s.heap H locs → lv_has ls 10 [(0, .ref (g 1)), (5, .long x5_87), (7, .long x7_87)] → (m_M_reckonRelease sM p1 p2 p3) = b_M_reckonRelease_87 sM_87 x5_87 x7_87 → W p l e rm_M_reckonRelease s m args below meth c H locs 0 0 Q (F0 m 87 ls []) := by
    intro sM_87 x5_87 x7_87 H locs ls hPM hS hl hM
    refine lv_aload_n hx hb dX1_reckonRelease_87 rfl (lv_at hl 0 rfl) ?_
    refine va_get (D := D) (ci := 1) (v := .ref (g 4)) (C := RX1) (T := TX1) (N := 6) hx hb hts hinM hown hE.1 hPM 0 rfl rfl 2 (by decide) (hts (.fieldLink RX1 18 "WallStones$Machine" "reckoning" "[I") (List.mem_of_getElem? (i := 2) rfl)) (fun _ h9 => h9) rfl dX1_reckonRelease_88 ?_
    refine lv_iconst (v := 4) hx hb dX1_reckonRelease_91 (by decide) ?_
    refine lv_lload hx hb dX1_reckonRelease_92 (lv_at hl 1 rfl) ?_
    refine lv_l2i (v := (Int64.toInt32 x5_87)) hx hb dX1_reckonRelease_94 rfl ?_
    refine va_iast hx hb hE.1 hPM (wD_of hg (c := 1) (n := 5) (by decide) (by decide) rfl) hS 3 0 rfl rfl (vp_in_iff.mpr (by decide)) dX1_reckonRelease_95 (fun H locs hPn _ hS => ?_)
    rw [cl_4] at hPn
    have hPM : va_P D vwCl (cellM cI g (up sM_87 3 4 (Int64.toInt32 x5_87))) H := (congrArg (fun z => va_P D vwCl z H) setM_M3).mp hPn
    refine lv_aload_n hx hb dX1_reckonRelease_96 rfl (lv_at hl 0 rfl) ?_
    refine va_get (D := D) (ci := 1) (v := .ref (g 4)) (C := RX1) (T := TX1) (N := 6) hx hb hts hinM hown hE.1 hPM 0 rfl rfl 2 (by decide) (hts (.fieldLink RX1 18 "WallStones$Machine" "reckoning" "[I") (List.mem_of_getElem? (i := 2) rfl)) (fun _ h9 => h9) rfl dX1_reckonRelease_97 ?_
    refine lv_iconst (v := 5) hx hb dX1_reckonRelease_100 (by decide) ?_
    refine lv_lload hx hb dX1_reckonRelease_101 (lv_at hl 2 rfl) ?_
    refine lv_l2i (v := (Int64.toInt32 x7_87)) hx hb dX1_reckonRelease_103 rfl ?_
    refine va_iast hx hb hE.1 hPM (wD_of hg (c := 1) (n := 5) (by decide) (by decide) rfl) hS 3 0 rfl rfl (vp_in_iff.mpr (by decide)) dX1_reckonRelease_104 (fun H locs hPn _ hS => ?_)
    rw [cl_5] at hPn
    have hPM : va_P D vwCl (cellM cI g (up (up sM_87 3 4 (Int64.toInt32 x5_87)) 3 5 (Int64.toInt32 x7_87))) H := (congrArg (fun z => va_P D vwCl z H) setM_M3).mp hPn
    refine lv_aload_n hx hb dX1_reckonRelease_105 rfl (lv_at hl 0 rfl) ?_
    refine lv_aload_n hx hb dX1_reckonRelease_106 rfl (lv_at hl 0 rfl) ?_
    refine va_get (D := D) (ci := 1) (v := .ref (g 2)) (C := RX1) (T := TX1) (N := 6) hx hb hts hinM hown hE.1 hPM 0 rfl rfl 0 (by decide) (hts (.fieldLink RX1 11 "WallStones$Machine" "number" "[I") (List.mem_of_getElem? (i := 1) rfl)) (fun _ h9 => h9) rfl dX1_reckonRelease_107 ?_
    refine lv_bipush (v := 8) hx hb dX1_reckonRelease_110 (by decide) ?_
    refine va_iald hx hb hE.1 hPM 1 0 rfl rfl (vp_in_iff.mpr (by decide)) dX1_reckonRelease_112 ?_
    refine W.eq (congrArg (fun z => F0 m 113 ls [.int (sM_87 1 z), .ref (g 1)]) cl_8) ?_
    refine lv_lload hx hb dX1_reckonRelease_113 (lv_at hl 2 rfl) ?_
    refine lv_l2i (v := (Int64.toInt32 x7_87)) hx hb dX1_reckonRelease_115 rfl ?_
    refine runS_i (va_runV (As := [.int (sM_87 1 8), .int (Int64.toInt32 x7_87)]) (rest := []) ⟨hx, hb, hml, hown, hts⟩ (K_M_flightOf hg (up (up sM_87 3 4 (Int64.toInt32 x5_87)) 3 5 (Int64.toInt32 x7_87)) (sM_87 1 8) (Int64.toInt32 x7_87)) (cwV 2 hts gX1_reckonRelease_X1_flightOf rfl rfl rfl (by decide +kernel) ⟨Nat.le_of_ble_eq_true rfl, Nat.le_of_ble_eq_true rfl⟩) (preV_of hE hA hS hPM (va_recv hE.1 hPM (ci := 1) (q0 := 0) rfl rfl)) rfl rfl hl.1 rfl (lv_room (Nat.le_of_ble_eq_true rfl)) dX1_reckonRelease_116 ⟨Nat.zero_le _, Nat.zero_le _⟩) ?_
    refine lv_istore (lv' := [(9, .int (m_M_flightOf (up (up sM_87 3 4 (Int64.toInt32 x5_87)) 3 5 (Int64.toInt32 x7_87)) (sM_87 1 8) (Int64.toInt32 x7_87))), (0, .ref (g 1)), (5, .long x5_87), (7, .long x7_87)]) hx hb dX1_reckonRelease_119 hl (by decide) rfl (fun ls hl => ?_)
    exact J_121 (up (up sM_87 3 4 (Int64.toInt32 x5_87)) 3 5 (Int64.toInt32 x7_87)) (m_M_flightOf (up (up sM_87 3 4 (Int64.toInt32 x5_87)) 3 5 (Int64.toInt32 x7_87)) (sM_87 1 8) (Int64.toInt32 x7_87)) H locs ls hPM hS (lv_sub hl [1, 0] rfl) hM
  have J_68 : ∀ (sM_68 : St) (x4_68 : Int32) (x5_68 : Int64) (H : Heap) (locs : List Loc) (ls : Array Slot), va_P D vwCl (cellM cI g sM_68) H → va_S (wA g 1 6) s.heap H locs → lv_has ls 10 [(0, .ref (g 1)), (4, .int x4_68), (5, .long x5_68)] → (m_M_reckonRelease sM p1 p2 p3) = b_M_reckonRelease_68 sM_68 x4_68 x5_68 → W p l e rm_M_reckonRelease s m args below meth c H locs 0 0 Q (F0 m 68 ls []) := by
    intro sM_68 x4_68 x5_68 H locs ls hPM hS hl hM
    refine lv_lload hx hb dX1_reckonRelease_68 (lv_at hl 2 rfl) ?_
    refine lv_iconst (v := 2) hx hb dX1_reckonRelease_70 (by decide) ?_
    refine lv_iload hx hb dX1_reckonRelease_71 (lv_at hl 1 rfl) ?_
    refine lv_imul hx hb dX1_reckonRelease_73 ?_
    refine runS_i (va_runSN (As := [.int (2 * x4_68)]) (rest := [.long x5_68]) ⟨hx, hb, hml, hown, hts⟩ (K_T_sineOf (2 * x4_68)) ⟨va_cnB 1 hts gX1_reckonRelease_X4_sineOf_n45 rfl rfl rfl hE.2.1.2.2.1 (hts (.initialized RX4) (List.mem_of_getElem? (i := 11) rfl)) (by decide +kernel) ⟨Nat.le_of_ble_eq_true rfl, Nat.le_of_ble_eq_true rfl⟩, (hts (.static yX4_sineOf) (List.mem_of_getElem? (i := 25) rfl)), trivial⟩ (preS_of hE hA hS trivial) rfl rfl hl.1 rfl (lv_room (Nat.le_of_ble_eq_true rfl)) dX1_reckonRelease_74 ⟨Nat.zero_le _, Nat.zero_le _⟩) ?_
    refine lv_i2l (v := (Int32.toInt64 (m_T_sineOf (2 * x4_68)))) hx hb dX1_reckonRelease_77 rfl ?_
    refine lv_lmul hx hb dX1_reckonRelease_78 ?_
    refine lv_ldc2 (own := RX1) (index := 82) (v := 8000) hx hb hown (hts (.constantLong RX1 82 (8000)) (List.mem_of_getElem? (i := 4) rfl)) dX1_reckonRelease_79 ?_
    refine runS_l (va_runSN (As := [.long (x5_68 * (Int32.toInt64 (m_T_sineOf (2 * x4_68)))), .long 8000]) (rest := []) ⟨hx, hb, hml, hown, hts⟩ (K_T_down (x5_68 * (Int32.toInt64 (m_T_sineOf (2 * x4_68)))) 8000) ⟨va_cnB 2 hts gX1_reckonRelease_X4_down_n54 rfl rfl rfl hE.2.1.2.2.2.1 (hts (.initialized RX4) (List.mem_of_getElem? (i := 11) rfl)) (by decide +kernel) ⟨Nat.le_of_ble_eq_true rfl, Nat.le_of_ble_eq_true rfl⟩, (hts (.static yX4_down) (List.mem_of_getElem? (i := 19) rfl)), trivial⟩ (preS_of hE hA hS trivial) rfl rfl hl.1 rfl (lv_room (Nat.le_of_ble_eq_true rfl)) dX1_reckonRelease_82 ⟨Nat.zero_le _, Nat.zero_le _⟩) ?_
    refine lv_lstore (lv' := [(7, .long (m_T_down (x5_68 * (Int32.toInt64 (m_T_sineOf (2 * x4_68)))) 8000)), (0, .ref (g 1)), (4, .int x4_68), (5, .long x5_68)]) hx hb dX1_reckonRelease_85 hl (by decide) rfl (fun ls hl => ?_)
    exact J_87 sM_68 x5_68 (m_T_down (x5_68 * (Int32.toInt64 (m_T_sineOf (2 * x4_68)))) 8000) H locs ls hPM hS (lv_sub hl [1, 3, 0] rfl) hM
  have J_16 : ∀ (sM_16 : St) (x4_16 : Int32) (H : Heap) (locs : List Loc) (ls : Array Slot), va_P D vwCl (cellM cI g sM_16) H → va_S (wA g 1 6) s.heap H locs → lv_has ls 10 [(0, .ref (g 1)), (1, .int p1), (2, .int p2), (4, .int x4_16)] → (m_M_reckonRelease sM p1 p2 p3) = b_M_reckonRelease_16 sM_16 p1 p2 x4_16 → W p l e rm_M_reckonRelease s m args below meth c H locs 0 0 Q (F0 m 16 ls []) := by
    intro sM_16 x4_16 H locs ls hPM hS hl hM
    refine lv_aload_n hx hb dX1_reckonRelease_16 rfl (lv_at hl 0 rfl) ?_
    refine va_get (D := D) (ci := 1) (v := .ref (g 4)) (C := RX1) (T := TX1) (N := 6) hx hb hts hinM hown hE.1 hPM 0 rfl rfl 2 (by decide) (hts (.fieldLink RX1 18 "WallStones$Machine" "reckoning" "[I") (List.mem_of_getElem? (i := 2) rfl)) (fun _ h9 => h9) rfl dX1_reckonRelease_17 ?_
    refine lv_iconst (v := 0) hx hb dX1_reckonRelease_20 (by decide) ?_
    refine lv_iload_n hx hb dX1_reckonRelease_21 rfl (lv_at hl 1 rfl) ?_
    refine va_iast hx hb hE.1 hPM (wD_of hg (c := 1) (n := 5) (by decide) (by decide) rfl) hS 3 0 rfl rfl (vp_in_iff.mpr (by decide)) dX1_reckonRelease_22 (fun H locs hPn _ hS => ?_)
    rw [cl_0] at hPn
    have hPM : va_P D vwCl (cellM cI g (up sM_16 3 0 p1)) H := (congrArg (fun z => va_P D vwCl z H) setM_M3).mp hPn
    refine lv_aload_n hx hb dX1_reckonRelease_23 rfl (lv_at hl 0 rfl) ?_
    refine va_get (D := D) (ci := 1) (v := .ref (g 4)) (C := RX1) (T := TX1) (N := 6) hx hb hts hinM hown hE.1 hPM 0 rfl rfl 2 (by decide) (hts (.fieldLink RX1 18 "WallStones$Machine" "reckoning" "[I") (List.mem_of_getElem? (i := 2) rfl)) (fun _ h9 => h9) rfl dX1_reckonRelease_24 ?_
    refine lv_iconst (v := 2) hx hb dX1_reckonRelease_27 (by decide) ?_
    refine lv_aload_n hx hb dX1_reckonRelease_28 rfl (lv_at hl 0 rfl) ?_
    refine va_get (D := D) (ci := 1) (v := .ref (g 3)) (C := RX1) (T := TX1) (N := 6) hx hb hts hinM hown hE.1 hPM 0 rfl rfl 1 (by decide) (hts (.fieldLink RX1 15 "WallStones$Machine" "given" "[I") (List.mem_of_getElem? (i := 3) rfl)) (fun _ h9 => h9) rfl dX1_reckonRelease_29 ?_
    refine lv_iload_n hx hb dX1_reckonRelease_32 rfl (lv_at hl 1 rfl) ?_
    refine va_iald hx hb hE.1 hPM 2 0 rfl rfl (vp_in_iff.mpr (by omega)) dX1_reckonRelease_33 ?_
    refine W.eq (g2 := F0 m 34 ls [.int (sM_16 2 (Int32.toNatClampNeg p1)), .int 2, .ref (g 4)]) rfl ?_
    refine va_iast hx hb hE.1 hPM (wD_of hg (c := 1) (n := 5) (by decide) (by decide) rfl) hS 3 0 rfl rfl (vp_in_iff.mpr (by decide)) dX1_reckonRelease_34 (fun H locs hPn _ hS => ?_)
    rw [cl_2] at hPn
    have hPM : va_P D vwCl (cellM cI g (up (up sM_16 3 0 p1) 3 2 (sM_16 2 (Int32.toNatClampNeg p1)))) H := (congrArg (fun z => va_P D vwCl z H) setM_M3).mp hPn
    refine lv_aload_n hx hb dX1_reckonRelease_35 rfl (lv_at hl 0 rfl) ?_
    refine va_get (D := D) (ci := 1) (v := .ref (g 4)) (C := RX1) (T := TX1) (N := 6) hx hb hts hinM hown hE.1 hPM 0 rfl rfl 2 (by decide) (hts (.fieldLink RX1 18 "WallStones$Machine" "reckoning" "[I") (List.mem_of_getElem? (i := 2) rfl)) (fun _ h9 => h9) rfl dX1_reckonRelease_36 ?_
    refine lv_iconst (v := 3) hx hb dX1_reckonRelease_39 (by decide) ?_
    refine lv_iload hx hb dX1_reckonRelease_40 (lv_at hl 3 rfl) ?_
    refine va_iast hx hb hE.1 hPM (wD_of hg (c := 1) (n := 5) (by decide) (by decide) rfl) hS 3 0 rfl rfl (vp_in_iff.mpr (by decide)) dX1_reckonRelease_42 (fun H locs hPn _ hS => ?_)
    rw [cl_3] at hPn
    have hPM : va_P D vwCl (cellM cI g (up (up (up sM_16 3 0 p1) 3 2 (sM_16 2 (Int32.toNatClampNeg p1))) 3 3 x4_16)) H := (congrArg (fun z => va_P D vwCl z H) setM_M3).mp hPn
    refine lv_iload hx hb dX1_reckonRelease_43 (lv_at hl 3 rfl) ?_
    refine lv_iconst (v := 1) hx hb dX1_reckonRelease_45 (by decide) ?_
    refine lv_bipush (v := 89) hx hb dX1_reckonRelease_46 (by decide) ?_
    refine runS_i (va_runSN (As := [.int x4_16, .int 1, .int 89]) (rest := []) ⟨hx, hb, hml, hown, hts⟩ (K_T_within x4_16 1 89) ⟨va_cnB 3 hts gX1_reckonRelease_X4_within_n27 rfl rfl rfl hE.2.1.2.1 (hts (.initialized RX4) (List.mem_of_getElem? (i := 11) rfl)) (by decide +kernel) ⟨Nat.le_of_ble_eq_true rfl, Nat.le_of_ble_eq_true rfl⟩, (hts (.static yX4_within) (List.mem_of_getElem? (i := 10) rfl)), trivial⟩ (preS_of hE hA hS trivial) rfl rfl hl.1 rfl (lv_room (Nat.le_of_ble_eq_true rfl)) dX1_reckonRelease_48 ⟨Nat.zero_le _, Nat.zero_le _⟩) ?_
    refine lv_if_ne (tgt := 55) hx hb dX1_reckonRelease_51 (by decide) (fun c_1 => ?_) (fun c_1 => ?_)
    · have hM := hM.trans (if_neg c_1)
      have t_1 := ne_t c_1
      rw [tl_0] at t_1
      have u_1 := within_t c_1
      rw [tl_1, tl_89] at u_1
      refine lv_aload_n hx hb dX1_reckonRelease_55 rfl (lv_at hl 0 rfl) ?_
      refine lv_aload_n hx hb dX1_reckonRelease_56 rfl (lv_at hl 0 rfl) ?_
      refine va_get (D := D) (ci := 1) (v := .ref (g 3)) (C := RX1) (T := TX1) (N := 6) hx hb hts hinM hown hE.1 hPM 0 rfl rfl 1 (by decide) (hts (.fieldLink RX1 15 "WallStones$Machine" "given" "[I") (List.mem_of_getElem? (i := 3) rfl)) (fun _ h9 => h9) rfl dX1_reckonRelease_57 ?_
      refine lv_iload_n hx hb dX1_reckonRelease_60 rfl (lv_at hl 1 rfl) ?_
      refine va_iald hx hb hE.1 hPM 2 0 rfl rfl (vp_in_iff.mpr (by omega)) dX1_reckonRelease_61 ?_
      refine W.eq (g2 := F0 m 62 ls [.int (sM_16 2 (Int32.toNatClampNeg p1)), .ref (g 1)]) rfl ?_
      refine lv_iload_n hx hb dX1_reckonRelease_62 rfl (lv_at hl 2 rfl) ?_
      refine runS_l (va_runV (As := [.int (sM_16 2 (Int32.toNatClampNeg p1)), .int p2]) (rest := []) ⟨hx, hb, hml, hown, hts⟩ (K_M_speedFor hg (up (up (up sM_16 3 0 p1) 3 2 (sM_16 2 (Int32.toNatClampNeg p1))) 3 3 x4_16) (sM_16 2 (Int32.toNatClampNeg p1)) p2) (cwV 2 hts gX1_reckonRelease_X1_speedFor rfl rfl rfl (by decide +kernel) ⟨Nat.le_of_ble_eq_true rfl, Nat.le_of_ble_eq_true rfl⟩) (preV_of hE hA hS hPM (va_recv hE.1 hPM (ci := 1) (q0 := 0) rfl rfl)) rfl rfl hl.1 rfl (lv_room (Nat.le_of_ble_eq_true rfl)) dX1_reckonRelease_63 ⟨Nat.zero_le _, Nat.zero_le _⟩) ?_
      refine lv_lstore (lv' := [(5, .long (m_M_speedFor (up (up (up sM_16 3 0 p1) 3 2 (sM_16 2 (Int32.toNatClampNeg p1))) 3 3 x4_16) (sM_16 2 (Int32.toNatClampNeg p1)) p2)), (0, .ref (g 1)), (1, .int p1), (2, .int p2), (4, .int x4_16)]) hx hb dX1_reckonRelease_66 hl (by decide) rfl (fun ls hl => ?_)
      exact J_68 (up (up (up sM_16 3 0 p1) 3 2 (sM_16 2 (Int32.toNatClampNeg p1))) 3 3 x4_16) x4_16 (m_M_speedFor (up (up (up sM_16 3 0 p1) 3 2 (sM_16 2 (Int32.toNatClampNeg p1))) 3 3 x4_16) (sM_16 2 (Int32.toNatClampNeg p1)) p2) H locs ls hPM hS (lv_sub hl [1, 4, 0] rfl) hM
    · have hM := hM.trans (if_pos c_1)
      have t_1 := eq_t c_1
      rw [tl_0] at t_1
      have hM : (m_M_reckonRelease sM p1 p2 p3) = ((up (up (up sM_16 3 0 p1) 3 2 (sM_16 2 (Int32.toNatClampNeg p1))) 3 3 x4_16) : St) := hM
      exact hret H locs _ ls dX1_reckonRelease_54 (rP_s1 (P := fun (z0 : St) => va_P D vwCl (cellM cI g z0) H) hM hPM) hS
  have hM : (m_M_reckonRelease sM p1 p2 p3) = (m_M_reckonRelease sM p1 p2 p3) := rfl
  refine lv_sipush (v := 180) hx hb dX1_reckonRelease_0 (by decide) ?_
  refine lv_iload_n hx hb dX1_reckonRelease_3 rfl (lv_at hl 1 rfl) ?_
  refine lv_aload_n hx hb dX1_reckonRelease_4 rfl (lv_at hl 0 rfl) ?_
  refine va_get (D := D) (ci := 1) (v := .ref (g 2)) (C := RX1) (T := TX1) (N := 6) hx hb hts hinM hown hE.1 hPM 0 rfl rfl 0 (by decide) (hts (.fieldLink RX1 11 "WallStones$Machine" "number" "[I") (List.mem_of_getElem? (i := 1) rfl)) (fun _ h9 => h9) rfl dX1_reckonRelease_5 ?_
  refine lv_iconst (v := 5) hx hb dX1_reckonRelease_8 (by decide) ?_
  refine va_iald hx hb hE.1 hPM 1 0 rfl rfl (vp_in_iff.mpr (by decide)) dX1_reckonRelease_9 ?_
  refine W.eq (congrArg (fun z => F0 m 10 ls [.int (sM 1 z), .int p1, .int 180]) cl_5) ?_
  refine lv_isub hx hb dX1_reckonRelease_10 ?_
  refine lv_isub hx hb dX1_reckonRelease_11 ?_
  refine lv_iload_n hx hb dX1_reckonRelease_12 rfl (lv_at hl 3 rfl) ?_
  refine lv_isub hx hb dX1_reckonRelease_13 ?_
  refine lv_istore (lv' := [(4, .int ((180 - (p1 - (sM 1 5))) - p3)), (0, .ref (g 1)), (1, .int p1), (2, .int p2), (3, .int p3)]) hx hb dX1_reckonRelease_14 hl (by decide) rfl (fun ls hl => ?_)
  exact J_16 sM ((180 - (p1 - (sM 1 5))) - p3) H locs ls hPM hS (lv_sub hl [1, 2, 3, 0] rfl) hM
abbrev rm_M_reckon : Room := { frames := 4, cells := 0, slots := 0, locals := 105 }
set_option maxHeartbeats 4000000 in
set_option maxRecDepth 100000 in
theorem K_M_reckon {l : Launch} {D : va_G} {cI : ClassId} {lo : Nat} {g : Nat → Nat} (hg : wI g 1 6 lo) (sM : St) (p1 : Int32) (p2 : Int32) : WRi l D cI lo yX1_reckon wsX1_reckon rm_M_reckon [.ref (g 1), .int p1, .int p2] (fun H => va_P D vwCl (cellM cI g sM) H) (m_M_reckon sM p1 p2).1 (fun H => va_P D vwCl (cellM cI g (m_M_reckon sM p1 p2).2) H) (wA g 1 6) := by
  refine ofW_WRi (cc := cX1_reckon) (maxL := 4) (ty := .int) (by decide +kernel) rfl (Nat.le_of_ble_eq_true rfl) ?_
  intro p e s m args below meth c Q hx hb hml hown hts hE hP hret ls hl
  have hown : s.vm.findClass RX1 = some m.cls := hown
  have hPM := hP
  have hA := wA.lo hg
  have hS : va_S (wA g 1 6) s.heap s.heap [] := va_S.rf
  obtain ⟨H, hH⟩ : ∃ z, z = s.heap := ⟨_, rfl⟩
  obtain ⟨locs, hlocs⟩ : ∃ z : List Loc, z = [] := ⟨_, rfl⟩
  have hPM : va_P D vwCl (cellM cI g sM) H := by rw [hH]; exact hPM
  have hS : va_S (wA g 1 6) s.heap H locs := by rw [hH, hlocs]; exact va_S.rf
  have gW : W p l e rm_M_reckon s m args below meth c H locs 0 0 Q (F0 m 0 ls []) → W p l e rm_M_reckon s m args below meth c s.heap [] 0 0 Q (F0 m 0 ls []) := by rw [hH, hlocs]; exact id
  refine gW ?_
  have hinM : ∀ w ∈ wsX10, w ∈ wsX1_reckon := fun w h => List.mem_cons_of_mem _ (List.mem_append_right _ h)
  have hl : lv_has ls 4 [(0, .ref (g 1)), (1, .int p1), (2, .int p2)] := hl
  have L_2 : ∀ (n : Nat) (sM_2 : St) (x3_2 : Int32) (H : Heap) (locs : List Loc) (ls : Array Slot), 0 ≤ x3_2.toInt ∧ x3_2.toInt ≤ 7 → (7 - x3_2.toInt).toNat < n → va_P D vwCl (cellM cI g sM_2) H → va_S (wA g 1 6) s.heap H locs → lv_has ls 4 [(0, .ref (g 1)), (1, .int p1), (2, .int p2), (3, .int x3_2)] → (∀ (H : Heap) (locs : List Loc) (ls : Array Slot), va_P D vwCl (cellM cI g (wl g_M_reckon_2 n (sM_2, x3_2)).1) H → va_S (wA g 1 6) s.heap H locs → lv_has ls 4 [(0, .ref (g 1)), (1, .int p1), (2, .int p2)] → W p l e rm_M_reckon s m args below meth c H locs 0 0 Q (F0 m 25 ls [])) → W p l e rm_M_reckon s m args below meth c H locs 0 0 Q (F0 m 2 ls []) := by
    intro n
    induction n with
    | zero =>
      intro sM_2 x3_2 H locs ls i2_0 hn2 hPM hS hl kk
      exact absurd hn2 (Nat.not_lt_zero _)
    | succ n ih =>
      intro sM_2 x3_2 H locs ls i2_0 hn2 hPM hS hl kk
      have hM : g_M_reckon_2 (sM_2, x3_2) = g_M_reckon_2 (sM_2, x3_2) := rfl
      refine lv_iload_n hx hb dX1_reckon_2 rfl (lv_at hl 3 rfl) ?_
      refine lv_aload_n hx hb dX1_reckon_3 rfl (lv_at hl 0 rfl) ?_
      refine va_get (D := D) (ci := 1) (v := .ref (g 4)) (C := RX1) (T := TX1) (N := 6) hx hb hts hinM hown hE.1 hPM 0 rfl rfl 2 (by decide) (hts (.fieldLink RX1 18 "WallStones$Machine" "reckoning" "[I") (List.mem_of_getElem? (i := 1) rfl)) (fun _ h9 => h9) rfl dX1_reckon_4 ?_
      refine va_alen hx hb hE.1 hPM 3 0 rfl rfl (v := 7) rfl dX1_reckon_7 ?_
      refine lv_icmp_ge (tgt := 25) hx hb dX1_reckon_8 (by decide) (fun c_1 => ?_) (fun c_1 => ?_)
      · have hM := hM.trans (if_pos c_1)
        have t_1 := le_t c_1
        rw [tl_7] at t_1
        rw [wl_none hM] at kk
        exact kk H locs ls hPM hS (lv_sub hl [0, 1, 2] rfl)
      · have hM := hM.trans (if_neg c_1)
        have t_1 := nle_t c_1
        rw [tl_7] at t_1
        refine lv_aload_n hx hb dX1_reckon_11 rfl (lv_at hl 0 rfl) ?_
        refine va_get (D := D) (ci := 1) (v := .ref (g 4)) (C := RX1) (T := TX1) (N := 6) hx hb hts hinM hown hE.1 hPM 0 rfl rfl 2 (by decide) (hts (.fieldLink RX1 18 "WallStones$Machine" "reckoning" "[I") (List.mem_of_getElem? (i := 1) rfl)) (fun _ h9 => h9) rfl dX1_reckon_12 ?_
        refine lv_iload_n hx hb dX1_reckon_15 rfl (lv_at hl 3 rfl) ?_
        refine lv_bipush (v := (-9)) hx hb dX1_reckon_16 (by decide) ?_
        refine va_iast hx hb hE.1 hPM (wD_of hg (c := 1) (n := 5) (by decide) (by decide) rfl) hS 3 0 rfl rfl (vp_in_iff.mpr (by omega)) dX1_reckon_18 (fun H locs hPn _ hS => ?_)
        have hPM : va_P D vwCl (cellM cI g (up sM_2 3 (Int32.toNatClampNeg x3_2) (-9))) H := (congrArg (fun z => va_P D vwCl z H) setM_M3).mp hPn
        refine lv_iinc (v := (x3_2 + 1)) (lv' := [(3, .int (x3_2 + 1)), (0, .ref (g 1)), (1, .int p1), (2, .int p2)]) hx hb dX1_reckon_19 hl (k := 3) rfl rfl (by decide) rfl (fun ls hl => ?_)
        refine lv_goto (tgt := 2) hx hb dX1_reckon_22 (by decide) ?_
        have := t_inc (x := x3_2) (by omega)
        rw [wl_some hM] at kk
        exact ih (up sM_2 3 (Int32.toNatClampNeg x3_2) (-9)) (x3_2 + 1) H locs ls (by omega) (by omega) hPM hS (lv_sub hl [1, 2, 3, 0] rfl) kk
  have J_25 : ∀ (sM_25 : St) (H : Heap) (locs : List Loc) (ls : Array Slot), va_P D vwCl (cellM cI g sM_25) H → va_S (wA g 1 6) s.heap H locs → lv_has ls 4 [(0, .ref (g 1)), (1, .int p1), (2, .int p2)] → (m_M_reckon sM p1 p2) = b_M_reckon_25 sM_25 p1 p2 → W p l e rm_M_reckon s m args below meth c H locs 0 0 Q (F0 m 25 ls []) := by
    intro sM_25 H locs ls hPM hS hl hM
    refine lv_aload_n hx hb dX1_reckon_25 rfl (lv_at hl 0 rfl) ?_
    refine lv_iload_n hx hb dX1_reckon_26 rfl (lv_at hl 1 rfl) ?_
    refine lv_iload_n hx hb dX1_reckon_27 rfl (lv_at hl 2 rfl) ?_
    refine runS_i (va_runV (As := [.int p1, .int p2]) (rest := []) ⟨hx, hb, hml, hown, hts⟩ (K_M_turnOfRelease hg sM_25 p1 p2) (cwV 2 hts gX1_reckon_X1_turnOfRelease rfl rfl rfl (by decide +kernel) ⟨Nat.le_of_ble_eq_true rfl, Nat.le_of_ble_eq_true rfl⟩) (preV_of hE hA hS hPM (va_recv hE.1 hPM (ci := 1) (q0 := 0) rfl rfl)) rfl rfl hl.1 rfl (lv_room (Nat.le_of_ble_eq_true rfl)) dX1_reckon_28 ⟨Nat.zero_le _, Nat.zero_le _⟩) ?_
    have w2 : 1 ≤ (m_M_turnOfRelease sM_25 p1 p2).toInt ∧ (m_M_turnOfRelease sM_25 p1 p2).toInt ≤ 161 := TR_t
    refine lv_istore_n (lv' := [(3, .int (m_M_turnOfRelease sM_25 p1 p2)), (0, .ref (g 1)), (1, .int p1), (2, .int p2)]) hx hb dX1_reckon_31 rfl hl (by decide) rfl (fun ls hl => ?_)
    refine lv_aload_n hx hb dX1_reckon_32 rfl (lv_at hl 1 rfl) ?_
    refine va_get (D := D) (ci := 1) (v := .int (sM_25 0 4)) (C := RX1) (T := TX1) (N := 6) hx hb hts hinM hown hE.1 hPM 0 rfl rfl 4 (by decide) (hts (.fieldLink RX1 49 "WallStones$Machine" "stallTurn" "I") (List.mem_of_getElem? (i := 2) rfl)) (fun _ h9 => h9) rfl dX1_reckon_33 ?_
    refine lv_sipush (v := 161) hx hb dX1_reckon_36 (by decide) ?_
    refine lv_icmp_ge (tgt := 63) hx hb dX1_reckon_39 (by decide) (fun c_3 => ?_) (fun c_3 => ?_)
    · have hM := hM.trans (if_pos c_3)
      have t_3 := le_t c_3
      rw [tl_161] at t_3
      refine lv_iload_n hx hb dX1_reckon_63 rfl (lv_at hl 0 rfl) ?_
      refine lv_sipush (v := 161) hx hb dX1_reckon_64 (by decide) ?_
      refine lv_icmp_ge (tgt := 77) hx hb dX1_reckon_67 (by decide) (fun c_4 => ?_) (fun c_4 => ?_)
      · have hM := hM.trans (if_pos c_4)
        have t_4 := le_t c_4
        rw [tl_161] at t_4
        refine lv_aload_n hx hb dX1_reckon_77 rfl (lv_at hl 1 rfl) ?_
        refine va_get (D := D) (ci := 1) (v := .ref (g 4)) (C := RX1) (T := TX1) (N := 6) hx hb hts hinM hown hE.1 hPM 0 rfl rfl 2 (by decide) (hts (.fieldLink RX1 18 "WallStones$Machine" "reckoning" "[I") (List.mem_of_getElem? (i := 1) rfl)) (fun _ h9 => h9) rfl dX1_reckon_78 ?_
        refine lv_bipush (v := 6) hx hb dX1_reckon_81 (by decide) ?_
        refine va_iald hx hb hE.1 hPM 3 0 rfl rfl (vp_in_iff.mpr (by decide)) dX1_reckon_83 ?_
        refine W.eq (congrArg (fun z => F0 m 84 ls [.int (sM_25 3 z)]) cl_6) ?_
        have hM : (m_M_reckon sM p1 p2) = (((sM_25 3 6), sM_25) : Int32 × St) := hM
        exact hret (sM_25 3 6) H locs _ ls (nr_i _) dX1_reckon_84 (ret1 hM) (rP_v1 (P := fun (z0 : St) => va_P D vwCl (cellM cI g z0) H) hM hPM) hS
      · have hM := hM.trans (if_neg c_4)
        have t_4 := nle_t c_4
        rw [tl_161] at t_4
        refine lv_aload_n hx hb dX1_reckon_70 rfl (lv_at hl 1 rfl) ?_
        refine lv_iload_n hx hb dX1_reckon_71 rfl (lv_at hl 0 rfl) ?_
        refine lv_iload_n hx hb dX1_reckon_72 rfl (lv_at hl 2 rfl) ?_
        refine lv_iload_n hx hb dX1_reckon_73 rfl (lv_at hl 3 rfl) ?_
        refine runW_v (va_runV (As := [.int (m_M_turnOfRelease sM_25 p1 p2), .int p1, .int p2]) (rest := []) ⟨hx, hb, hml, hown, hts⟩ (K_M_reckonRelease hg sM_25 (m_M_turnOfRelease sM_25 p1 p2) p1 p2 (by omega)) (cwV 3 hts gX1_reckon_X1_reckonRelease rfl rfl rfl (by decide +kernel) ⟨Nat.le_of_ble_eq_true rfl, Nat.le_of_ble_eq_true rfl⟩) (preV_of hE hA hS hPM (va_recv hE.1 hPM (ci := 1) (q0 := 0) rfl rfl)) rfl rfl hl.1 rfl (lv_room (Nat.le_of_ble_eq_true rfl)) dX1_reckon_74 ⟨Nat.zero_le _, Nat.zero_le _⟩) hS (fun _ h9 => h9) (fun H locs hQ hk hS => ?_)
        have hPM : va_P D vwCl (cellM cI g (m_M_reckonRelease sM_25 (m_M_turnOfRelease sM_25 p1 p2) p1 p2)) H := hQ
        refine lv_aload_n hx hb dX1_reckon_77 rfl (lv_at hl 1 rfl) ?_
        refine va_get (D := D) (ci := 1) (v := .ref (g 4)) (C := RX1) (T := TX1) (N := 6) hx hb hts hinM hown hE.1 hPM 0 rfl rfl 2 (by decide) (hts (.fieldLink RX1 18 "WallStones$Machine" "reckoning" "[I") (List.mem_of_getElem? (i := 1) rfl)) (fun _ h9 => h9) rfl dX1_reckon_78 ?_
        refine lv_bipush (v := 6) hx hb dX1_reckon_81 (by decide) ?_
        refine va_iald hx hb hE.1 hPM 3 0 rfl rfl (vp_in_iff.mpr (by decide)) dX1_reckon_83 ?_
        refine W.eq (congrArg (fun z => F0 m 84 ls [.int ((m_M_reckonRelease sM_25 (m_M_turnOfRelease sM_25 p1 p2) p1 p2) 3 z)]) cl_6) ?_
        have hM : (m_M_reckon sM p1 p2) = ((((m_M_reckonRelease sM_25 (m_M_turnOfRelease sM_25 p1 p2) p1 p2) 3 6), (m_M_reckonRelease sM_25 (m_M_turnOfRelease sM_25 p1 p2) p1 p2)) : Int32 × St) := hM
        exact hret ((m_M_reckonRelease sM_25 (m_M_turnOfRelease sM_25 p1 p2) p1 p2) 3 6) H locs _ ls (nr_i _) dX1_reckon_84 (ret1 hM) (rP_v1 (P := fun (z0 : St) => va_P D vwCl (cellM cI g z0) H) hM hPM) hS
    · have hM := hM.trans (if_neg c_3)
      have t_3 := nle_t c_3
      rw [tl_161] at t_3
      refine lv_aload_n hx hb dX1_reckon_42 rfl (lv_at hl 1 rfl) ?_
      refine va_get (D := D) (ci := 1) (v := .int (sM_25 0 4)) (C := RX1) (T := TX1) (N := 6) hx hb hts hinM hown hE.1 hPM 0 rfl rfl 4 (by decide) (hts (.fieldLink RX1 49 "WallStones$Machine" "stallTurn" "I") (List.mem_of_getElem? (i := 2) rfl)) (fun _ h9 => h9) rfl dX1_reckon_43 ?_
      refine lv_iload_n hx hb dX1_reckon_46 rfl (lv_at hl 0 rfl) ?_
      refine lv_icmp_gt (tgt := 63) hx hb dX1_reckon_47 (by decide) (fun c_5 => ?_) (fun c_5 => ?_)
      · have hM := hM.trans (if_pos c_5)
        have t_5 := lt_t c_5
        refine lv_iload_n hx hb dX1_reckon_63 rfl (lv_at hl 0 rfl) ?_
        refine lv_sipush (v := 161) hx hb dX1_reckon_64 (by decide) ?_
        refine lv_icmp_ge (tgt := 77) hx hb dX1_reckon_67 (by decide) (fun c_6 => ?_) (fun c_6 => ?_)
        · have hM := hM.trans (if_pos c_6)
          have t_6 := le_t c_6
          rw [tl_161] at t_6
          refine lv_aload_n hx hb dX1_reckon_77 rfl (lv_at hl 1 rfl) ?_
          refine va_get (D := D) (ci := 1) (v := .ref (g 4)) (C := RX1) (T := TX1) (N := 6) hx hb hts hinM hown hE.1 hPM 0 rfl rfl 2 (by decide) (hts (.fieldLink RX1 18 "WallStones$Machine" "reckoning" "[I") (List.mem_of_getElem? (i := 1) rfl)) (fun _ h9 => h9) rfl dX1_reckon_78 ?_
          refine lv_bipush (v := 6) hx hb dX1_reckon_81 (by decide) ?_
          refine va_iald hx hb hE.1 hPM 3 0 rfl rfl (vp_in_iff.mpr (by decide)) dX1_reckon_83 ?_
          refine W.eq (congrArg (fun z => F0 m 84 ls [.int (sM_25 3 z)]) cl_6) ?_
          have hM : (m_M_reckon sM p1 p2) = (((sM_25 3 6), sM_25) : Int32 × St) := hM
          exact hret (sM_25 3 6) H locs _ ls (nr_i _) dX1_reckon_84 (ret1 hM) (rP_v1 (P := fun (z0 : St) => va_P D vwCl (cellM cI g z0) H) hM hPM) hS
        · have hM := hM.trans (if_neg c_6)
          have t_6 := nle_t c_6
          rw [tl_161] at t_6
          refine lv_aload_n hx hb dX1_reckon_70 rfl (lv_at hl 1 rfl) ?_
          refine lv_iload_n hx hb dX1_reckon_71 rfl (lv_at hl 0 rfl) ?_
          refine lv_iload_n hx hb dX1_reckon_72 rfl (lv_at hl 2 rfl) ?_
          refine lv_iload_n hx hb dX1_reckon_73 rfl (lv_at hl 3 rfl) ?_
          refine runW_v (va_runV (As := [.int (m_M_turnOfRelease sM_25 p1 p2), .int p1, .int p2]) (rest := []) ⟨hx, hb, hml, hown, hts⟩ (K_M_reckonRelease hg sM_25 (m_M_turnOfRelease sM_25 p1 p2) p1 p2 (by omega)) (cwV 3 hts gX1_reckon_X1_reckonRelease rfl rfl rfl (by decide +kernel) ⟨Nat.le_of_ble_eq_true rfl, Nat.le_of_ble_eq_true rfl⟩) (preV_of hE hA hS hPM (va_recv hE.1 hPM (ci := 1) (q0 := 0) rfl rfl)) rfl rfl hl.1 rfl (lv_room (Nat.le_of_ble_eq_true rfl)) dX1_reckon_74 ⟨Nat.zero_le _, Nat.zero_le _⟩) hS (fun _ h9 => h9) (fun H locs hQ hk hS => ?_)
          have hPM : va_P D vwCl (cellM cI g (m_M_reckonRelease sM_25 (m_M_turnOfRelease sM_25 p1 p2) p1 p2)) H := hQ
          refine lv_aload_n hx hb dX1_reckon_77 rfl (lv_at hl 1 rfl) ?_
          refine va_get (D := D) (ci := 1) (v := .ref (g 4)) (C := RX1) (T := TX1) (N := 6) hx hb hts hinM hown hE.1 hPM 0 rfl rfl 2 (by decide) (hts (.fieldLink RX1 18 "WallStones$Machine" "reckoning" "[I") (List.mem_of_getElem? (i := 1) rfl)) (fun _ h9 => h9) rfl dX1_reckon_78 ?_
          refine lv_bipush (v := 6) hx hb dX1_reckon_81 (by decide) ?_
          refine va_iald hx hb hE.1 hPM 3 0 rfl rfl (vp_in_iff.mpr (by decide)) dX1_reckon_83 ?_
          refine W.eq (congrArg (fun z => F0 m 84 ls [.int ((m_M_reckonRelease sM_25 (m_M_turnOfRelease sM_25 p1 p2) p1 p2) 3 z)]) cl_6) ?_
          have hM : (m_M_reckon sM p1 p2) = ((((m_M_reckonRelease sM_25 (m_M_turnOfRelease sM_25 p1 p2) p1 p2) 3 6), (m_M_reckonRelease sM_25 (m_M_turnOfRelease sM_25 p1 p2) p1 p2)) : Int32 × St) := hM
          exact hret ((m_M_reckonRelease sM_25 (m_M_turnOfRelease sM_25 p1 p2) p1 p2) 3 6) H locs _ ls (nr_i _) dX1_reckon_84 (ret1 hM) (rP_v1 (P := fun (z0 : St) => va_P D vwCl (cellM cI g z0) H) hM hPM) hS
      · have hM := hM.trans (if_neg c_5)
        have t_5 := nlt_t c_5
        refine lv_aload_n hx hb dX1_reckon_50 rfl (lv_at hl 1 rfl) ?_
        refine va_get (D := D) (ci := 1) (v := .ref (g 4)) (C := RX1) (T := TX1) (N := 6) hx hb hts hinM hown hE.1 hPM 0 rfl rfl 2 (by decide) (hts (.fieldLink RX1 18 "WallStones$Machine" "reckoning" "[I") (List.mem_of_getElem? (i := 1) rfl)) (fun _ h9 => h9) rfl dX1_reckon_51 ?_
        refine lv_iconst (v := 1) hx hb dX1_reckon_54 (by decide) ?_
        refine lv_aload_n hx hb dX1_reckon_55 rfl (lv_at hl 1 rfl) ?_
        refine va_get (D := D) (ci := 1) (v := .int (sM_25 0 4)) (C := RX1) (T := TX1) (N := 6) hx hb hts hinM hown hE.1 hPM 0 rfl rfl 4 (by decide) (hts (.fieldLink RX1 49 "WallStones$Machine" "stallTurn" "I") (List.mem_of_getElem? (i := 2) rfl)) (fun _ h9 => h9) rfl dX1_reckon_56 ?_
        refine va_iast hx hb hE.1 hPM (wD_of hg (c := 1) (n := 5) (by decide) (by decide) rfl) hS 3 0 rfl rfl (vp_in_iff.mpr (by decide)) dX1_reckon_59 (fun H locs hPn _ hS => ?_)
        rw [cl_1] at hPn
        have hPM : va_P D vwCl (cellM cI g (up sM_25 3 1 (sM_25 0 4))) H := (congrArg (fun z => va_P D vwCl z H) setM_M3).mp hPn
        refine lv_goto (tgt := 77) hx hb dX1_reckon_60 (by decide) ?_
        refine lv_aload_n hx hb dX1_reckon_77 rfl (lv_at hl 1 rfl) ?_
        refine va_get (D := D) (ci := 1) (v := .ref (g 4)) (C := RX1) (T := TX1) (N := 6) hx hb hts hinM hown hE.1 hPM 0 rfl rfl 2 (by decide) (hts (.fieldLink RX1 18 "WallStones$Machine" "reckoning" "[I") (List.mem_of_getElem? (i := 1) rfl)) (fun _ h9 => h9) rfl dX1_reckon_78 ?_
        refine lv_bipush (v := 6) hx hb dX1_reckon_81 (by decide) ?_
        refine va_iald hx hb hE.1 hPM 3 0 rfl rfl (vp_in_iff.mpr (by decide)) dX1_reckon_83 ?_
        refine W.eq (congrArg (fun z => F0 m 84 ls [.int ((up sM_25 3 1 (sM_25 0 4)) 3 z)]) cl_6) ?_
        have hM : (m_M_reckon sM p1 p2) = ((((up sM_25 3 1 (sM_25 0 4)) 3 6), (up sM_25 3 1 (sM_25 0 4))) : Int32 × St) := hM
        exact hret ((up sM_25 3 1 (sM_25 0 4)) 3 6) H locs _ ls (nr_i _) dX1_reckon_84 (ret1 hM) (rP_v1 (P := fun (z0 : St) => va_P D vwCl (cellM cI g z0) H) hM hPM) hS
  have hM : (m_M_reckon sM p1 p2) = (m_M_reckon sM p1 p2) := rfl
  refine lv_iconst (v := 0) hx hb dX1_reckon_0 (by decide) ?_
  refine lv_istore_n (lv' := [(3, .int 0), (0, .ref (g 1)), (1, .int p1), (2, .int p2)]) hx hb dX1_reckon_1 rfl hl (by decide) rfl (fun ls hl => ?_)
  have z7 := tl_0
  refine L_2 8 sM 0 H locs ls (by omega) (by omega) hPM hS (lv_sub hl [1, 2, 3, 0] rfl) (fun H locs ls hPM hS hl => ?_)
  exact J_25 (wl g_M_reckon_2 8 (sM, 0)).1 H locs ls hPM hS (lv_sub hl [0, 1, 2] rfl) hM
abbrev rm_M_takes : Room := { frames := 1, cells := 0, slots := 0, locals := 22 }
set_option maxHeartbeats 4000000 in
set_option maxRecDepth 100000 in
theorem K_M_takes {l : Launch} {D : va_G} {cI : ClassId} {lo : Nat} {g : Nat → Nat} (hg : wI g 1 6 lo) (sM : St) (p1 : Int32) (p2 : Int32) : ROi l D cI lo yX1_takes wsX1_takes rm_M_takes [.ref (g 1), .int p1, .int p2] (fun H => va_P D vwCl (cellM cI g sM) H) (m_M_takes sM p1 p2) := by
  refine ofW_ROi (cc := cX1_takes) (maxL := 3) (ty := .boolean) (by decide +kernel) rfl (Nat.le_of_ble_eq_true rfl) ?_
  intro p e s m args below meth c Q hx hb hml hown hts hE hP hret ls hl
  have hown : s.vm.findClass RX1 = some m.cls := hown
  have hPM := hP
  have hA : ∀ q : Nat, (fun _ : Nat => False) q → lo ≤ q := fun _ h => h.elim
  have hS : va_S (fun _ : Nat => False) s.heap s.heap [] := va_S.rf
  have hl : lv_has ls 3 [(0, .ref (g 1)), (1, .int p1), (2, .int p2)] := hl
  have hM : (m_M_takes sM p1 p2) = (m_M_takes sM p1 p2) := rfl
  refine lv_iload_n hx hb dX1_takes_0 rfl (lv_at hl 1 rfl) ?_
  refine lv_iconst (v := 0) hx hb dX1_takes_1 (by decide) ?_
  refine lv_bipush (v := 8) hx hb dX1_takes_2 (by decide) ?_
  refine runS_i (va_runSN (As := [.int p1, .int 0, .int 8]) (rest := []) ⟨hx, hb, hml, hown, hts⟩ (K_T_within p1 0 8) ⟨va_cnB 3 hts gX1_takes_X4_within_n27 rfl rfl rfl hE.2.1.2.1 (hts (.initialized RX4) (List.mem_of_getElem? (i := 4) rfl)) (by decide +kernel) ⟨Nat.le_of_ble_eq_true rfl, Nat.le_of_ble_eq_true rfl⟩, (hts (.static yX4_within) (List.mem_of_getElem? (i := 3) rfl)), trivial⟩ (preS_of hE hA hS trivial) rfl rfl hl.1 rfl (lv_room (Nat.le_of_ble_eq_true rfl)) dX1_takes_4 ⟨Nat.zero_le _, Nat.zero_le _⟩) ?_
  refine lv_if_eq (tgt := 31) hx hb dX1_takes_7 (by decide) (fun c_1 => ?_) (fun c_1 => ?_)
  · have hM := hM.trans (if_pos c_1)
    have t_1 := eq_t c_1
    rw [tl_0] at t_1
    refine lv_iconst (v := 0) hx hb dX1_takes_31 (by decide) ?_
    have hM : (m_M_takes sM p1 p2) = (0 : Int32) := hM
    exact hret _ _ ls (by decide) dX1_takes_32 hM.symm
  · have hM := hM.trans (if_neg c_1)
    have t_1 := ne_t c_1
    rw [tl_0] at t_1
    have u_1 := within_t c_1
    rw [tl_0, tl_8] at u_1
    refine lv_iload_n hx hb dX1_takes_10 rfl (lv_at hl 2 rfl) ?_
    obtain ⟨tzML, hZzML, hTzML⟩ := hE.2.2.1
    refine va_gets hx hb (hZzML.narrow hA) hS hown (hts (.fieldLink RX1 31 "WallStones$Machine" "LEAST" "[I") (List.mem_of_getElem? (i := 1) rfl)) (fun _ h9 => h9) dX1_takes_11 ?_
    refine lv_iload_n hx hb dX1_takes_14 rfl (lv_at hl 1 rfl) ?_
    refine va_ti hx hb (hTzML.narrow hA) hS (i := p1) (vp_in_iff.mpr (by omega)) (v := .int (zML (Int32.toNatClampNeg p1))) rfl dX1_takes_15 ?_
    obtain ⟨tzMM, hZzMM, hTzMM⟩ := hE.2.2.2.1
    refine va_gets hx hb (hZzMM.narrow hA) hS hown (hts (.fieldLink RX1 34 "WallStones$Machine" "MOST" "[I") (List.mem_of_getElem? (i := 2) rfl)) (fun _ h9 => h9) dX1_takes_16 ?_
    refine lv_iload_n hx hb dX1_takes_19 rfl (lv_at hl 1 rfl) ?_
    refine va_ti hx hb (hTzMM.narrow hA) hS (i := p1) (vp_in_iff.mpr (by omega)) (v := .int (zMM (Int32.toNatClampNeg p1))) rfl dX1_takes_20 ?_
    refine runS_i (va_runSN (As := [.int p2, .int (zML (Int32.toNatClampNeg p1)), .int (zMM (Int32.toNatClampNeg p1))]) (rest := []) ⟨hx, hb, hml, hown, hts⟩ (K_T_within p2 (zML (Int32.toNatClampNeg p1)) (zMM (Int32.toNatClampNeg p1))) ⟨va_cnB 3 hts gX1_takes_X4_within_n27 rfl rfl rfl hE.2.1.2.1 (hts (.initialized RX4) (List.mem_of_getElem? (i := 4) rfl)) (by decide +kernel) ⟨Nat.le_of_ble_eq_true rfl, Nat.le_of_ble_eq_true rfl⟩, (hts (.static yX4_within) (List.mem_of_getElem? (i := 3) rfl)), trivial⟩ (preS_of hE hA hS trivial) rfl rfl hl.1 rfl (lv_room (Nat.le_of_ble_eq_true rfl)) dX1_takes_21 ⟨Nat.zero_le _, Nat.zero_le _⟩) ?_
    refine lv_if_eq (tgt := 31) hx hb dX1_takes_24 (by decide) (fun c_2 => ?_) (fun c_2 => ?_)
    · have hM := hM.trans (if_pos c_2)
      have t_2 := eq_t c_2
      rw [tl_0] at t_2
      refine lv_iconst (v := 0) hx hb dX1_takes_31 (by decide) ?_
      have hM : (m_M_takes sM p1 p2) = (0 : Int32) := hM
      exact hret _ _ ls (by decide) dX1_takes_32 hM.symm
    · have hM := hM.trans (if_neg c_2)
      have t_2 := ne_t c_2
      rw [tl_0] at t_2
      have u_2 := within_t c_2
      refine lv_iconst (v := 1) hx hb dX1_takes_27 (by decide) ?_
      refine lv_goto (tgt := 32) hx hb dX1_takes_28 (by decide) ?_
      have hM : (m_M_takes sM p1 p2) = (1 : Int32) := hM
      exact hret _ _ ls (by decide) dX1_takes_32 hM.symm
abbrev rm_M_turnBeam : Room := { frames := 3, cells := 0, slots := 0, locals := 72 }
set_option maxHeartbeats 4000000 in
set_option maxRecDepth 100000 in
theorem K_M_turnBeam {l : Launch} {D : va_G} {cI : ClassId} {lo : Nat} {g : Nat → Nat} (hg : wI g 1 6 lo) (sM : St) : WRv l D cI lo yX1_turnBeam wsX1_turnBeam rm_M_turnBeam [.ref (g 1)] (fun H => va_P D vwCl (cellM cI g sM) H) (fun H => va_P D vwCl (cellM cI g (m_M_turnBeam sM)) H) (wA g 1 6) := by
  refine ofW_WRv (cc := cX1_turnBeam) (maxL := 6) (by decide +kernel) rfl (Nat.le_of_ble_eq_true rfl) ?_
  intro p e s m args below meth c Q hx hb hml hown hts hE hP hret ls hl
  have hown : s.vm.findClass RX1 = some m.cls := hown
  have hPM := hP
  have hA := wA.lo hg
  have hS : va_S (wA g 1 6) s.heap s.heap [] := va_S.rf
  obtain ⟨H, hH⟩ : ∃ z, z = s.heap := ⟨_, rfl⟩
  obtain ⟨locs, hlocs⟩ : ∃ z : List Loc, z = [] := ⟨_, rfl⟩
  have hPM : va_P D vwCl (cellM cI g sM) H := by rw [hH]; exact hPM
  have hS : va_S (wA g 1 6) s.heap H locs := by rw [hH, hlocs]; exact va_S.rf
  have gW : W p l e rm_M_turnBeam s m args below meth c H locs 0 0 Q (F0 m 0 ls []) → W p l e rm_M_turnBeam s m args below meth c s.heap [] 0 0 Q (F0 m 0 ls []) := by rw [hH, hlocs]; exact id
  refine gW ?_
  have hinM : ∀ w ∈ wsX10, w ∈ wsX1_turnBeam := fun w h => List.mem_cons_of_mem _ (List.mem_append_right _ h)
  have hl : lv_has ls 6 [(0, .ref (g 1))] := hl
  have L_55 : ∀ (n : Nat) (sM_55 : St) (x1_55 : Int64) (x3_55 : Int32) (x4_55 : Int32) (H : Heap) (locs : List Loc) (ls : Array Slot), 1 - 1 ≤ x4_55.toInt ∧ x4_55.toInt ≤ 160 → (x4_55.toInt - (1 - 1)).toNat < n → va_P D vwCl (cellM cI g sM_55) H → va_S (wA g 1 6) s.heap H locs → lv_has ls 6 [(0, .ref (g 1)), (1, .long x1_55), (3, .int x3_55), (4, .int x4_55)] → (∀ (H : Heap) (locs : List Loc) (ls : Array Slot), va_P D vwCl (cellM cI g (wl (g_M_turnBeam_55 x1_55 x3_55) n (sM_55, x4_55)).1) H → va_S (wA g 1 6) s.heap H locs → lv_has ls 6 [] → W p l e rm_M_turnBeam s m args below meth c H locs 0 0 Q (F0 m 129 ls [])) → W p l e rm_M_turnBeam s m args below meth c H locs 0 0 Q (F0 m 55 ls []) := by
    intro n
    induction n with
    | zero =>
      intro sM_55 x1_55 x3_55 x4_55 H locs ls i55_0 hn55 hPM hS hl kk
      exact absurd hn55 (Nat.not_lt_zero _)
    | succ n ih =>
      intro sM_55 x1_55 x3_55 x4_55 H locs ls i55_0 hn55 hPM hS hl kk
      have hM : (g_M_turnBeam_55 x1_55 x3_55) (sM_55, x4_55) = (g_M_turnBeam_55 x1_55 x3_55) (sM_55, x4_55) := rfl
      refine lv_iload hx hb dX1_turnBeam_55 (lv_at hl 3 rfl) ?_
      refine lv_iconst (v := 1) hx hb dX1_turnBeam_57 (by decide) ?_
      refine lv_icmp_lt (tgt := 129) hx hb dX1_turnBeam_58 (by decide) (fun c_1 => ?_) (fun c_1 => ?_)
      · have hM := hM.trans (if_pos c_1)
        have t_1 := lt_t c_1
        rw [tl_1] at t_1
        rw [wl_none hM] at kk
        exact kk H locs ls hPM hS (lv_sub hl [] rfl)
      · have hM := hM.trans (if_neg c_1)
        have t_1 := nlt_t c_1
        rw [tl_1] at t_1
        refine lv_iload hx hb dX1_turnBeam_61 (lv_at hl 3 rfl) ?_
        refine lv_aload_n hx hb dX1_turnBeam_63 rfl (lv_at hl 0 rfl) ?_
        refine va_get (D := D) (ci := 1) (v := .ref (g 2)) (C := RX1) (T := TX1) (N := 6) hx hb hts hinM hown hE.1 hPM 0 rfl rfl 0 (by decide) (hts (.fieldLink RX1 11 "WallStones$Machine" "number" "[I") (List.mem_of_getElem? (i := 1) rfl)) (fun _ h9 => h9) rfl dX1_turnBeam_64 ?_
        refine lv_iconst (v := 5) hx hb dX1_turnBeam_67 (by decide) ?_
        refine va_iald hx hb hE.1 hPM 1 0 rfl rfl (vp_in_iff.mpr (by decide)) dX1_turnBeam_68 ?_
        refine W.eq (congrArg (fun z => F0 m 69 ls [.int (sM_55 1 z), .int x4_55]) cl_5) ?_
        refine lv_isub hx hb dX1_turnBeam_69 ?_
        refine runS_i (va_runSN (As := [.int (x4_55 - (sM_55 1 5))]) (rest := []) ⟨hx, hb, hml, hown, hts⟩ (K_T_sineOf (x4_55 - (sM_55 1 5))) ⟨va_cnB 1 hts gX1_turnBeam_X4_sineOf_n45 rfl rfl rfl hE.2.1.2.2.1 (hts (.initialized RX4) (List.mem_of_getElem? (i := 6) rfl)) (by decide +kernel) ⟨Nat.le_of_ble_eq_true rfl, Nat.le_of_ble_eq_true rfl⟩, (hts (.static yX4_sineOf) (List.mem_of_getElem? (i := 5) rfl)), trivial⟩ (preS_of hE hA hS trivial) rfl rfl hl.1 rfl (lv_room (Nat.le_of_ble_eq_true rfl)) dX1_turnBeam_70 ⟨Nat.zero_le _, Nat.zero_le _⟩) ?_
        refine lv_iload_n hx hb dX1_turnBeam_73 rfl (lv_at hl 2 rfl) ?_
        refine lv_iadd hx hb dX1_turnBeam_74 ?_
        refine lv_istore (lv' := [(5, .int ((m_T_sineOf (x4_55 - (sM_55 1 5))) + x3_55)), (0, .ref (g 1)), (1, .long x1_55), (3, .int x3_55), (4, .int x4_55)]) hx hb dX1_turnBeam_75 hl (by decide) rfl (fun ls hl => ?_)
        refine lv_aload_n hx hb dX1_turnBeam_77 rfl (lv_at hl 1 rfl) ?_
        refine va_get (D := D) (ci := 1) (v := .ref (g 3)) (C := RX1) (T := TX1) (N := 6) hx hb hts hinM hown hE.1 hPM 0 rfl rfl 1 (by decide) (hts (.fieldLink RX1 15 "WallStones$Machine" "given" "[I") (List.mem_of_getElem? (i := 3) rfl)) (fun _ h9 => h9) rfl dX1_turnBeam_78 ?_
        refine lv_iload hx hb dX1_turnBeam_81 (lv_at hl 4 rfl) ?_
        refine lv_lload_n hx hb dX1_turnBeam_83 rfl (lv_at hl 2 rfl) ?_
        refine lv_iload hx hb dX1_turnBeam_84 (lv_at hl 0 rfl) ?_
        refine lv_i2l (v := (Int32.toInt64 ((m_T_sineOf (x4_55 - (sM_55 1 5))) + x3_55))) hx hb dX1_turnBeam_86 rfl ?_
        refine lv_lmul hx hb dX1_turnBeam_87 ?_
        refine lv_ldc2 (own := RX1) (index := 52) (v := 1000) hx hb hown (hts (.constantLong RX1 52 (1000)) (List.mem_of_getElem? (i := 4) rfl)) dX1_turnBeam_88 ?_
        refine runS_l (va_runSN (As := [.long (x1_55 * (Int32.toInt64 ((m_T_sineOf (x4_55 - (sM_55 1 5))) + x3_55))), .long 1000]) (rest := [.int x4_55, .ref (g 3)]) ⟨hx, hb, hml, hown, hts⟩ (K_T_down (x1_55 * (Int32.toInt64 ((m_T_sineOf (x4_55 - (sM_55 1 5))) + x3_55))) 1000) ⟨va_cnB 2 hts gX1_turnBeam_X4_down_n54 rfl rfl rfl hE.2.1.2.2.2.1 (hts (.initialized RX4) (List.mem_of_getElem? (i := 6) rfl)) (by decide +kernel) ⟨Nat.le_of_ble_eq_true rfl, Nat.le_of_ble_eq_true rfl⟩, (hts (.static yX4_down) (List.mem_of_getElem? (i := 15) rfl)), trivial⟩ (preS_of hE hA hS trivial) rfl rfl hl.1 rfl (lv_room (Nat.le_of_ble_eq_true rfl)) dX1_turnBeam_91 ⟨Nat.zero_le _, Nat.zero_le _⟩) ?_
        refine lv_l2i (v := (Int64.toInt32 (m_T_down (x1_55 * (Int32.toInt64 ((m_T_sineOf (x4_55 - (sM_55 1 5))) + x3_55))) 1000))) hx hb dX1_turnBeam_94 rfl ?_
        refine lv_aload_n hx hb dX1_turnBeam_95 rfl (lv_at hl 1 rfl) ?_
        refine va_get (D := D) (ci := 1) (v := .ref (g 2)) (C := RX1) (T := TX1) (N := 6) hx hb hts hinM hown hE.1 hPM 0 rfl rfl 0 (by decide) (hts (.fieldLink RX1 11 "WallStones$Machine" "number" "[I") (List.mem_of_getElem? (i := 1) rfl)) (fun _ h9 => h9) rfl dX1_turnBeam_96 ?_
        refine lv_bipush (v := 6) hx hb dX1_turnBeam_99 (by decide) ?_
        refine va_iald hx hb hE.1 hPM 1 0 rfl rfl (vp_in_iff.mpr (by decide)) dX1_turnBeam_101 ?_
        refine W.eq (congrArg (fun z => F0 m 102 ls [.int (sM_55 1 z), .int (Int64.toInt32 (m_T_down (x1_55 * (Int32.toInt64 ((m_T_sineOf (x4_55 - (sM_55 1 5))) + x3_55))) 1000)), .int x4_55, .ref (g 3)]) cl_6) ?_
        refine lv_iload hx hb dX1_turnBeam_102 (lv_at hl 4 rfl) ?_
        refine lv_imul hx hb dX1_turnBeam_104 ?_
        refine lv_isub hx hb dX1_turnBeam_105 ?_
        refine va_iast hx hb hE.1 hPM (wD_of hg (c := 1) (n := 5) (by decide) (by decide) rfl) hS 2 0 rfl rfl (vp_in_iff.mpr (by omega)) dX1_turnBeam_106 (fun H locs hPn _ hS => ?_)
        have hPM : va_P D vwCl (cellM cI g (up sM_55 2 (Int32.toNatClampNeg x4_55) ((Int64.toInt32 (m_T_down (x1_55 * (Int32.toInt64 ((m_T_sineOf (x4_55 - (sM_55 1 5))) + x3_55))) 1000)) - ((sM_55 1 6) * x4_55)))) H := (congrArg (fun z => va_P D vwCl z H) setM_M2).mp hPn
        refine lv_aload_n hx hb dX1_turnBeam_107 rfl (lv_at hl 1 rfl) ?_
        refine va_get (D := D) (ci := 1) (v := .ref (g 3)) (C := RX1) (T := TX1) (N := 6) hx hb hts hinM hown hE.1 hPM 0 rfl rfl 1 (by decide) (hts (.fieldLink RX1 15 "WallStones$Machine" "given" "[I") (List.mem_of_getElem? (i := 3) rfl)) (fun _ h9 => h9) rfl dX1_turnBeam_108 ?_
        refine lv_iload hx hb dX1_turnBeam_111 (lv_at hl 4 rfl) ?_
        refine va_iald hx hb hE.1 hPM 2 0 rfl rfl (vp_in_iff.mpr (by omega)) dX1_turnBeam_113 ?_
        refine W.eq (congrArg (fun z => F0 m 114 ls [.int z]) (up_get (s := sM_55) (k := 2) (i := (Int32.toNatClampNeg x4_55)) (x := ((Int64.toInt32 (m_T_down (x1_55 * (Int32.toInt64 ((m_T_sineOf (x4_55 - (sM_55 1 5))) + x3_55))) 1000)) - ((sM_55 1 6) * x4_55))))) ?_
        refine lv_if_gt (tgt := 123) hx hb dX1_turnBeam_114 (by decide) (fun c_2 => ?_) (fun c_2 => ?_)
        · have hM := hM.trans (if_pos c_2)
          have t_2 := lt_t c_2
          rw [tl_0] at t_2
          refine lv_iinc (v := (x4_55 + (-1))) (lv' := [(4, .int (x4_55 + (-1))), (5, .int ((m_T_sineOf (x4_55 - (sM_55 1 5))) + x3_55)), (0, .ref (g 1)), (1, .long x1_55), (3, .int x3_55)]) hx hb dX1_turnBeam_123 hl (k := 4) rfl rfl (by decide) rfl (fun ls hl => ?_)
          refine lv_goto (tgt := 55) hx hb dX1_turnBeam_126 (by decide) ?_
          have := t_dec (x := x4_55) (by omega)
          rw [wl_some hM] at kk
          exact ih (up sM_55 2 (Int32.toNatClampNeg x4_55) ((Int64.toInt32 (m_T_down (x1_55 * (Int32.toInt64 ((m_T_sineOf (x4_55 - (sM_55 1 5))) + x3_55))) 1000)) - ((sM_55 1 6) * x4_55))) x1_55 x3_55 (x4_55 + (-1)) H locs ls (by omega) (by omega) hPM hS (lv_sub hl [2, 3, 4, 0] rfl) kk
        · have hM := hM.trans (if_neg c_2)
          have t_2 := nlt_t c_2
          rw [tl_0] at t_2
          refine lv_aload_n hx hb dX1_turnBeam_117 rfl (lv_at hl 1 rfl) ?_
          refine lv_iload hx hb dX1_turnBeam_118 (lv_at hl 4 rfl) ?_
          refine va_put (D := D) (ci := 1) (v := .int x4_55) (ty := .int) (C := RX1) (T := TX1) (N := 6) hx hb hts hinM tyX1 tyX1_ok nmX1 hown hE.1 hPM (wD_of hg (c := 1) (n := 5) (by decide) (by decide) rfl) hS 0 rfl rfl 4 (by decide) (hts (.fieldLink RX1 49 "WallStones$Machine" "stallTurn" "I") (List.mem_of_getElem? (i := 2) rfl)) (fun _ h9 => h9) rfl (by decide +kernel) rfl rfl (Nat.le_of_ble_eq_true rfl) dX1_turnBeam_120 (fun H locs hPn _ hS => ?_)
          have hPM : va_P D vwCl (cellM cI g (up (up sM_55 2 (Int32.toNatClampNeg x4_55) ((Int64.toInt32 (m_T_down (x1_55 * (Int32.toInt64 ((m_T_sineOf (x4_55 - (sM_55 1 5))) + x3_55))) 1000)) - ((sM_55 1 6) * x4_55))) 0 4 x4_55)) H := (congrArg (fun z => va_P D vwCl z H) putM_M4).mp hPn
          refine lv_iinc (v := (x4_55 + (-1))) (lv' := [(4, .int (x4_55 + (-1))), (5, .int ((m_T_sineOf (x4_55 - (sM_55 1 5))) + x3_55)), (0, .ref (g 1)), (1, .long x1_55), (3, .int x3_55)]) hx hb dX1_turnBeam_123 hl (k := 4) rfl rfl (by decide) rfl (fun ls hl => ?_)
          refine lv_goto (tgt := 55) hx hb dX1_turnBeam_126 (by decide) ?_
          have := t_dec (x := x4_55) (by omega)
          rw [wl_some hM] at kk
          exact ih (up (up sM_55 2 (Int32.toNatClampNeg x4_55) ((Int64.toInt32 (m_T_down (x1_55 * (Int32.toInt64 ((m_T_sineOf (x4_55 - (sM_55 1 5))) + x3_55))) 1000)) - ((sM_55 1 6) * x4_55))) 0 4 x4_55) x1_55 x3_55 (x4_55 + (-1)) H locs ls (by omega) (by omega) hPM hS (lv_sub hl [2, 3, 4, 0] rfl) kk
  have J_129 : ∀ (sM_129 : St) (H : Heap) (locs : List Loc) (ls : Array Slot), va_P D vwCl (cellM cI g sM_129) H → va_S (wA g 1 6) s.heap H locs → lv_has ls 6 [] → (m_M_turnBeam sM) = b_M_turnBeam_129 sM_129 → W p l e rm_M_turnBeam s m args below meth c H locs 0 0 Q (F0 m 129 ls []) := by
    intro sM_129 H locs ls hPM hS hl hM
    have hM : (m_M_turnBeam sM) = (sM_129 : St) := hM
    exact hret H locs _ ls dX1_turnBeam_129 (rP_s1 (P := fun (z0 : St) => va_P D vwCl (cellM cI g z0) H) hM hPM) hS
  have hM : (m_M_turnBeam sM) = (m_M_turnBeam sM) := rfl
  refine lv_aload_n hx hb dX1_turnBeam_0 rfl (lv_at hl 0 rfl) ?_
  refine va_get (D := D) (ci := 1) (v := .ref (g 2)) (C := RX1) (T := TX1) (N := 6) hx hb hts hinM hown hE.1 hPM 0 rfl rfl 0 (by decide) (hts (.fieldLink RX1 11 "WallStones$Machine" "number" "[I") (List.mem_of_getElem? (i := 1) rfl)) (fun _ h9 => h9) rfl dX1_turnBeam_1 ?_
  refine lv_iconst (v := 2) hx hb dX1_turnBeam_4 (by decide) ?_
  refine va_iald hx hb hE.1 hPM 1 0 rfl rfl (vp_in_iff.mpr (by decide)) dX1_turnBeam_5 ?_
  refine W.eq (congrArg (fun z => F0 m 6 ls [.int (sM 1 z)]) cl_2) ?_
  refine lv_i2l (v := (Int32.toInt64 (sM 1 2))) hx hb dX1_turnBeam_6 rfl ?_
  refine lv_aload_n hx hb dX1_turnBeam_7 rfl (lv_at hl 0 rfl) ?_
  refine va_get (D := D) (ci := 1) (v := .ref (g 2)) (C := RX1) (T := TX1) (N := 6) hx hb hts hinM hown hE.1 hPM 0 rfl rfl 0 (by decide) (hts (.fieldLink RX1 11 "WallStones$Machine" "number" "[I") (List.mem_of_getElem? (i := 1) rfl)) (fun _ h9 => h9) rfl dX1_turnBeam_8 ?_
  refine lv_iconst (v := 0) hx hb dX1_turnBeam_11 (by decide) ?_
  refine va_iald hx hb hE.1 hPM 1 0 rfl rfl (vp_in_iff.mpr (by decide)) dX1_turnBeam_12 ?_
  refine W.eq (congrArg (fun z => F0 m 13 ls [.int (sM 1 z), .long (Int32.toInt64 (sM 1 2))]) cl_0) ?_
  refine lv_i2l (v := (Int32.toInt64 (sM 1 0))) hx hb dX1_turnBeam_13 rfl ?_
  refine lv_lmul hx hb dX1_turnBeam_14 ?_
  refine lv_aload_n hx hb dX1_turnBeam_15 rfl (lv_at hl 0 rfl) ?_
  refine va_get (D := D) (ci := 1) (v := .ref (g 2)) (C := RX1) (T := TX1) (N := 6) hx hb hts hinM hown hE.1 hPM 0 rfl rfl 0 (by decide) (hts (.fieldLink RX1 11 "WallStones$Machine" "number" "[I") (List.mem_of_getElem? (i := 1) rfl)) (fun _ h9 => h9) rfl dX1_turnBeam_16 ?_
  refine lv_bipush (v := 7) hx hb dX1_turnBeam_19 (by decide) ?_
  refine va_iald hx hb hE.1 hPM 1 0 rfl rfl (vp_in_iff.mpr (by decide)) dX1_turnBeam_21 ?_
  refine W.eq (congrArg (fun z => F0 m 22 ls [.int (sM 1 z), .long ((Int32.toInt64 (sM 1 2)) * (Int32.toInt64 (sM 1 0)))]) cl_7) ?_
  refine lv_i2l (v := (Int32.toInt64 (sM 1 7))) hx hb dX1_turnBeam_22 rfl ?_
  refine lv_aload_n hx hb dX1_turnBeam_23 rfl (lv_at hl 0 rfl) ?_
  refine va_get (D := D) (ci := 1) (v := .ref (g 2)) (C := RX1) (T := TX1) (N := 6) hx hb hts hinM hown hE.1 hPM 0 rfl rfl 0 (by decide) (hts (.fieldLink RX1 11 "WallStones$Machine" "number" "[I") (List.mem_of_getElem? (i := 1) rfl)) (fun _ h9 => h9) rfl dX1_turnBeam_24 ?_
  refine lv_iconst (v := 1) hx hb dX1_turnBeam_27 (by decide) ?_
  refine va_iald hx hb hE.1 hPM 1 0 rfl rfl (vp_in_iff.mpr (by decide)) dX1_turnBeam_28 ?_
  refine W.eq (congrArg (fun z => F0 m 29 ls [.int (sM 1 z), .long (Int32.toInt64 (sM 1 7)), .long ((Int32.toInt64 (sM 1 2)) * (Int32.toInt64 (sM 1 0)))]) cl_1) ?_
  refine lv_i2l (v := (Int32.toInt64 (sM 1 1))) hx hb dX1_turnBeam_29 rfl ?_
  refine lv_lmul hx hb dX1_turnBeam_30 ?_
  refine lv_lsub hx hb dX1_turnBeam_31 ?_
  refine lv_lstore_n (lv' := [(1, .long (((Int32.toInt64 (sM 1 2)) * (Int32.toInt64 (sM 1 0))) - ((Int32.toInt64 (sM 1 7)) * (Int32.toInt64 (sM 1 1))))), (0, .ref (g 1))]) hx hb dX1_turnBeam_32 rfl hl (by decide) rfl (fun ls hl => ?_)
  refine lv_aload_n hx hb dX1_turnBeam_33 rfl (lv_at hl 1 rfl) ?_
  refine va_get (D := D) (ci := 1) (v := .ref (g 2)) (C := RX1) (T := TX1) (N := 6) hx hb hts hinM hown hE.1 hPM 0 rfl rfl 0 (by decide) (hts (.fieldLink RX1 11 "WallStones$Machine" "number" "[I") (List.mem_of_getElem? (i := 1) rfl)) (fun _ h9 => h9) rfl dX1_turnBeam_34 ?_
  refine lv_iconst (v := 5) hx hb dX1_turnBeam_37 (by decide) ?_
  refine va_iald hx hb hE.1 hPM 1 0 rfl rfl (vp_in_iff.mpr (by decide)) dX1_turnBeam_38 ?_
  refine W.eq (congrArg (fun z => F0 m 39 ls [.int (sM 1 z)]) cl_5) ?_
  refine runS_i (va_runSN (As := [.int (sM 1 5)]) (rest := []) ⟨hx, hb, hml, hown, hts⟩ (K_T_sineOf (sM 1 5)) ⟨va_cnB 1 hts gX1_turnBeam_X4_sineOf_n45 rfl rfl rfl hE.2.1.2.2.1 (hts (.initialized RX4) (List.mem_of_getElem? (i := 6) rfl)) (by decide +kernel) ⟨Nat.le_of_ble_eq_true rfl, Nat.le_of_ble_eq_true rfl⟩, (hts (.static yX4_sineOf) (List.mem_of_getElem? (i := 5) rfl)), trivial⟩ (preS_of hE hA hS trivial) rfl rfl hl.1 rfl (lv_room (Nat.le_of_ble_eq_true rfl)) dX1_turnBeam_39 ⟨Nat.zero_le _, Nat.zero_le _⟩) ?_
  refine lv_istore_n (lv' := [(3, .int (m_T_sineOf (sM 1 5))), (1, .long (((Int32.toInt64 (sM 1 2)) * (Int32.toInt64 (sM 1 0))) - ((Int32.toInt64 (sM 1 7)) * (Int32.toInt64 (sM 1 1))))), (0, .ref (g 1))]) hx hb dX1_turnBeam_42 rfl hl (by decide) rfl (fun ls hl => ?_)
  refine lv_aload_n hx hb dX1_turnBeam_43 rfl (lv_at hl 2 rfl) ?_
  refine lv_sipush (v := 161) hx hb dX1_turnBeam_44 (by decide) ?_
  refine va_put (D := D) (ci := 1) (v := .int 161) (ty := .int) (C := RX1) (T := TX1) (N := 6) hx hb hts hinM tyX1 tyX1_ok nmX1 hown hE.1 hPM (wD_of hg (c := 1) (n := 5) (by decide) (by decide) rfl) hS 0 rfl rfl 4 (by decide) (hts (.fieldLink RX1 49 "WallStones$Machine" "stallTurn" "I") (List.mem_of_getElem? (i := 2) rfl)) (fun _ h9 => h9) rfl (by decide +kernel) rfl rfl (Nat.le_of_ble_eq_true rfl) dX1_turnBeam_47 (fun H locs hPn _ hS => ?_)
  have hPM : va_P D vwCl (cellM cI g (up sM 0 4 161)) H := (congrArg (fun z => va_P D vwCl z H) putM_M4).mp hPn
  refine lv_sipush (v := 160) hx hb dX1_turnBeam_50 (by decide) ?_
  refine lv_istore (lv' := [(4, .int 160), (3, .int (m_T_sineOf (sM 1 5))), (1, .long (((Int32.toInt64 (sM 1 2)) * (Int32.toInt64 (sM 1 0))) - ((Int32.toInt64 (sM 1 7)) * (Int32.toInt64 (sM 1 1))))), (0, .ref (g 1))]) hx hb dX1_turnBeam_53 hl (by decide) rfl (fun ls hl => ?_)
  have z3 := tl_160
  refine L_55 161 (up sM 0 4 161) (((Int32.toInt64 (sM 1 2)) * (Int32.toInt64 (sM 1 0))) - ((Int32.toInt64 (sM 1 7)) * (Int32.toInt64 (sM 1 1)))) (m_T_sineOf (sM 1 5)) 160 H locs ls (by omega) (by omega) hPM hS (lv_sub hl [3, 2, 1, 0] rfl) (fun H locs ls hPM hS hl => ?_)
  exact J_129 (wl (g_M_turnBeam_55 (((Int32.toInt64 (sM 1 2)) * (Int32.toInt64 (sM 1 0))) - ((Int32.toInt64 (sM 1 7)) * (Int32.toInt64 (sM 1 1)))) (m_T_sineOf (sM 1 5))) 161 ((up sM 0 4 161), 160)).1 H locs ls hPM hS (lv_sub hl [] rfl) hM
abbrev rm_M_put : Room := { frames := 4, cells := 0, slots := 0, locals := 97 }
set_option maxHeartbeats 4000000 in
set_option maxRecDepth 100000 in
theorem K_M_put {l : Launch} {D : va_G} {cI : ClassId} {lo : Nat} {g : Nat → Nat} (hg : wI g 1 6 lo) (sM : St) (p1 : Int32) (p2 : Int32) : WRi l D cI lo yX1_put wsX1_put rm_M_put [.ref (g 1), .int p1, .int p2] (fun H => va_P D vwCl (cellM cI g sM) H) (m_M_put sM p1 p2).1 (fun H => va_P D vwCl (cellM cI g (m_M_put sM p1 p2).2) H) (wA g 1 6) := by
  refine ofW_WRi (cc := cX1_put) (maxL := 4) (ty := .int) (by decide +kernel) rfl (Nat.le_of_ble_eq_true rfl) ?_
  intro p e s m args below meth c Q hx hb hml hown hts hE hP hret ls hl
  have hown : s.vm.findClass RX1 = some m.cls := hown
  have hPM := hP
  have hA := wA.lo hg
  have hS : va_S (wA g 1 6) s.heap s.heap [] := va_S.rf
  obtain ⟨H, hH⟩ : ∃ z, z = s.heap := ⟨_, rfl⟩
  obtain ⟨locs, hlocs⟩ : ∃ z : List Loc, z = [] := ⟨_, rfl⟩
  have hPM : va_P D vwCl (cellM cI g sM) H := by rw [hH]; exact hPM
  have hS : va_S (wA g 1 6) s.heap H locs := by rw [hH, hlocs]; exact va_S.rf
  have gW : W p l e rm_M_put s m args below meth c H locs 0 0 Q (F0 m 0 ls []) → W p l e rm_M_put s m args below meth c s.heap [] 0 0 Q (F0 m 0 ls []) := by rw [hH, hlocs]; exact id
  refine gW ?_
  have hinM : ∀ w ∈ wsX10, w ∈ wsX1_put := fun w h => List.mem_cons_of_mem _ (List.mem_append_right _ h)
  have hl : lv_has ls 4 [(0, .ref (g 1)), (1, .int p1), (2, .int p2)] := hl
  have hM : (m_M_put sM p1 p2) = (m_M_put sM p1 p2) := rfl
  refine lv_aload_n hx hb dX1_put_0 rfl (lv_at hl 0 rfl) ?_
  refine lv_iload_n hx hb dX1_put_1 rfl (lv_at hl 1 rfl) ?_
  refine lv_iload_n hx hb dX1_put_2 rfl (lv_at hl 2 rfl) ?_
  refine runS_i (va_runV (As := [.int p1, .int p2]) (rest := []) ⟨hx, hb, hml, hown, hts⟩ (K_M_takes hg sM p1 p2) (cwV 2 hts gX1_put_X1_takes rfl rfl rfl (by decide +kernel) ⟨Nat.le_of_ble_eq_true rfl, Nat.le_of_ble_eq_true rfl⟩) (preV_of hE hA hS hPM (va_recv hE.1 hPM (ci := 1) (q0 := 0) rfl rfl)) rfl rfl hl.1 rfl (lv_room (Nat.le_of_ble_eq_true rfl)) dX1_put_3 ⟨Nat.zero_le _, Nat.zero_le _⟩) ?_
  refine lv_if_ne (tgt := 11) hx hb dX1_put_6 (by decide) (fun c_1 => ?_) (fun c_1 => ?_)
  · have hM := hM.trans (if_neg c_1)
    have t_1 := ne_t c_1
    rw [tl_0] at t_1
    have u_1 := takes_t c_1
    refine lv_aload_n hx hb dX1_put_11 rfl (lv_at hl 0 rfl) ?_
    refine va_get (D := D) (ci := 1) (v := .ref (g 2)) (C := RX1) (T := TX1) (N := 6) hx hb hts hinM hown hE.1 hPM 0 rfl rfl 0 (by decide) (hts (.fieldLink RX1 11 "WallStones$Machine" "number" "[I") (List.mem_of_getElem? (i := 1) rfl)) (fun _ h9 => h9) rfl dX1_put_12 ?_
    refine lv_iload_n hx hb dX1_put_15 rfl (lv_at hl 1 rfl) ?_
    refine va_iald hx hb hE.1 hPM 1 0 rfl rfl (vp_in_iff.mpr (by omega)) dX1_put_16 ?_
    refine W.eq (g2 := F0 m 17 ls [.int (sM 1 (Int32.toNatClampNeg p1))]) rfl ?_
    refine lv_istore_n (lv' := [(3, .int (sM 1 (Int32.toNatClampNeg p1))), (0, .ref (g 1)), (1, .int p1), (2, .int p2)]) hx hb dX1_put_17 rfl hl (by decide) rfl (fun ls hl => ?_)
    refine lv_aload_n hx hb dX1_put_18 rfl (lv_at hl 1 rfl) ?_
    refine va_get (D := D) (ci := 1) (v := .ref (g 2)) (C := RX1) (T := TX1) (N := 6) hx hb hts hinM hown hE.1 hPM 0 rfl rfl 0 (by decide) (hts (.fieldLink RX1 11 "WallStones$Machine" "number" "[I") (List.mem_of_getElem? (i := 1) rfl)) (fun _ h9 => h9) rfl dX1_put_19 ?_
    refine lv_iload_n hx hb dX1_put_22 rfl (lv_at hl 2 rfl) ?_
    refine lv_iload_n hx hb dX1_put_23 rfl (lv_at hl 3 rfl) ?_
    refine va_iast hx hb hE.1 hPM (wD_of hg (c := 1) (n := 5) (by decide) (by decide) rfl) hS 1 0 rfl rfl (vp_in_iff.mpr (by omega)) dX1_put_24 (fun H locs hPn _ hS => ?_)
    have hPM : va_P D vwCl (cellM cI g (up sM 1 (Int32.toNatClampNeg p1) p2)) H := (congrArg (fun z => va_P D vwCl z H) setM_M1).mp hPn
    refine lv_aload_n hx hb dX1_put_25 rfl (lv_at hl 1 rfl) ?_
    refine runW_v (va_runV (As := []) (rest := []) ⟨hx, hb, hml, hown, hts⟩ (K_M_turnBeam hg (up sM 1 (Int32.toNatClampNeg p1) p2)) (cwV 0 hts gX1_put_X1_turnBeam rfl rfl rfl (by decide +kernel) ⟨Nat.le_of_ble_eq_true rfl, Nat.le_of_ble_eq_true rfl⟩) (preV_of hE hA hS hPM (va_recv hE.1 hPM (ci := 1) (q0 := 0) rfl rfl)) rfl rfl hl.1 rfl (lv_room (Nat.le_of_ble_eq_true rfl)) dX1_put_26 ⟨Nat.zero_le _, Nat.zero_le _⟩) hS (fun _ h9 => h9) (fun H locs hQ hk hS => ?_)
    have hPM : va_P D vwCl (cellM cI g (m_M_turnBeam (up sM 1 (Int32.toNatClampNeg p1) p2))) H := hQ
    refine lv_iload_n hx hb dX1_put_29 rfl (lv_at hl 0 rfl) ?_
    have hM : (m_M_put sM p1 p2) = (((sM 1 (Int32.toNatClampNeg p1)), (m_M_turnBeam (up sM 1 (Int32.toNatClampNeg p1) p2))) : Int32 × St) := hM
    exact hret (sM 1 (Int32.toNatClampNeg p1)) H locs _ ls (nr_i _) dX1_put_30 (ret1 hM) (rP_v1 (P := fun (z0 : St) => va_P D vwCl (cellM cI g z0) H) hM hPM) hS
  · have hM := hM.trans (if_pos c_1)
    have t_1 := eq_t c_1
    rw [tl_0] at t_1
    refine lv_iconst (v := (-1)) hx hb dX1_put_9 (by decide) ?_
    have hM : (m_M_put sM p1 p2) = (((-1), sM) : Int32 × St) := hM
    exact hret (-1) H locs _ ls (nr_i _) dX1_put_10 (ret1 hM) (rP_v1 (P := fun (z0 : St) => va_P D vwCl (cellM cI g z0) H) hM hPM) hS
abbrev rm_M_putWind : Room := { frames := 0, cells := 0, slots := 0, locals := 0 }
set_option maxHeartbeats 4000000 in
set_option maxRecDepth 100000 in
theorem K_M_putWind {l : Launch} {D : va_G} {cI : ClassId} {lo : Nat} {g : Nat → Nat} (hg : wI g 1 6 lo) (sM : St) (p1 : Int32) : WRi l D cI lo yX1_putWind wsX1_putWind rm_M_putWind [.ref (g 1), .int p1] (fun H => va_P D vwCl (cellM cI g sM) H) (m_M_putWind sM p1).1 (fun H => va_P D vwCl (cellM cI g (m_M_putWind sM p1).2) H) (wA g 1 6) := by
  refine ofW_WRi (cc := cX1_putWind) (maxL := 3) (ty := .int) (by decide +kernel) rfl (Nat.le_of_ble_eq_true rfl) ?_
  intro p e s m args below meth c Q hx hb hml hown hts hE hP hret ls hl
  have hown : s.vm.findClass RX1 = some m.cls := hown
  have hPM := hP
  have hA := wA.lo hg
  have hS : va_S (wA g 1 6) s.heap s.heap [] := va_S.rf
  obtain ⟨H, hH⟩ : ∃ z, z = s.heap := ⟨_, rfl⟩
  obtain ⟨locs, hlocs⟩ : ∃ z : List Loc, z = [] := ⟨_, rfl⟩
  have hPM : va_P D vwCl (cellM cI g sM) H := by rw [hH]; exact hPM
  have hS : va_S (wA g 1 6) s.heap H locs := by rw [hH, hlocs]; exact va_S.rf
  have gW : W p l e rm_M_putWind s m args below meth c H locs 0 0 Q (F0 m 0 ls []) → W p l e rm_M_putWind s m args below meth c s.heap [] 0 0 Q (F0 m 0 ls []) := by rw [hH, hlocs]; exact id
  refine gW ?_
  have hinM : ∀ w ∈ wsX10, w ∈ wsX1_putWind := fun w h => List.mem_cons_of_mem _ (List.mem_append_right _ h)
  have hl : lv_has ls 3 [(0, .ref (g 1)), (1, .int p1)] := hl
  have hM : (m_M_putWind sM p1) = (m_M_putWind sM p1) := rfl
  refine lv_aload_n hx hb dX1_putWind_0 rfl (lv_at hl 0 rfl) ?_
  refine va_get (D := D) (ci := 1) (v := .int (sM 0 5)) (C := RX1) (T := TX1) (N := 6) hx hb hts hinM hown hE.1 hPM 0 rfl rfl 5 (by decide) (hts (.fieldLink RX1 41 "WallStones$Machine" "windNow" "I") (List.mem_of_getElem? (i := 1) rfl)) (fun _ h9 => h9) rfl dX1_putWind_1 ?_
  refine lv_istore_n (lv' := [(2, .int (sM 0 5)), (0, .ref (g 1)), (1, .int p1)]) hx hb dX1_putWind_4 rfl hl (by decide) rfl (fun ls hl => ?_)
  refine lv_aload_n hx hb dX1_putWind_5 rfl (lv_at hl 1 rfl) ?_
  refine lv_iload_n hx hb dX1_putWind_6 rfl (lv_at hl 2 rfl) ?_
  refine va_put (D := D) (ci := 1) (v := .int p1) (ty := .int) (C := RX1) (T := TX1) (N := 6) hx hb hts hinM tyX1 tyX1_ok nmX1 hown hE.1 hPM (wD_of hg (c := 1) (n := 5) (by decide) (by decide) rfl) hS 0 rfl rfl 5 (by decide) (hts (.fieldLink RX1 41 "WallStones$Machine" "windNow" "I") (List.mem_of_getElem? (i := 1) rfl)) (fun _ h9 => h9) rfl (by decide +kernel) rfl rfl (Nat.le_of_ble_eq_true rfl) dX1_putWind_7 (fun H locs hPn _ hS => ?_)
  have hPM : va_P D vwCl (cellM cI g (up sM 0 5 p1)) H := (congrArg (fun z => va_P D vwCl z H) putM_M5).mp hPn
  refine lv_iload_n hx hb dX1_putWind_10 rfl (lv_at hl 0 rfl) ?_
  have hM : (m_M_putWind sM p1) = (((sM 0 5), (up sM 0 5 p1)) : Int32 × St) := hM
  exact hret (sM 0 5) H locs _ ls (nr_i _) dX1_putWind_11 (ret1 hM) (rP_v1 (P := fun (z0 : St) => va_P D vwCl (cellM cI g z0) H) hM hPM) hS
abbrev rm_M_reckonOwn : Room := { frames := 5, cells := 0, slots := 0, locals := 128 }
set_option maxHeartbeats 4000000 in
set_option maxRecDepth 100000 in
theorem K_M_reckonOwn {l : Launch} {D : va_G} {cI : ClassId} {lo : Nat} {g : Nat → Nat} (hg : wI g 1 6 lo) (sM : St) : WRi l D cI lo yX1_reckonOwn wsX1_reckonOwn rm_M_reckonOwn [.ref (g 1)] (fun H => va_P D vwCl (cellM cI g sM) H) (m_M_reckonOwn sM).1 (fun H => va_P D vwCl (cellM cI g (m_M_reckonOwn sM).2) H) (wA g 1 6) := by
  refine ofW_WRi (cc := cX1_reckonOwn) (maxL := 1) (ty := .int) (by decide +kernel) rfl (Nat.le_of_ble_eq_true rfl) ?_
  intro p e s m args below meth c Q hx hb hml hown hts hE hP hret ls hl
  have hown : s.vm.findClass RX1 = some m.cls := hown
  have hPM := hP
  have hA := wA.lo hg
  have hS : va_S (wA g 1 6) s.heap s.heap [] := va_S.rf
  obtain ⟨H, hH⟩ : ∃ z, z = s.heap := ⟨_, rfl⟩
  obtain ⟨locs, hlocs⟩ : ∃ z : List Loc, z = [] := ⟨_, rfl⟩
  have hPM : va_P D vwCl (cellM cI g sM) H := by rw [hH]; exact hPM
  have hS : va_S (wA g 1 6) s.heap H locs := by rw [hH, hlocs]; exact va_S.rf
  have gW : W p l e rm_M_reckonOwn s m args below meth c H locs 0 0 Q (F0 m 0 ls []) → W p l e rm_M_reckonOwn s m args below meth c s.heap [] 0 0 Q (F0 m 0 ls []) := by rw [hH, hlocs]; exact id
  refine gW ?_
  have hinM : ∀ w ∈ wsX10, w ∈ wsX1_reckonOwn := fun w h => List.mem_cons_of_mem _ (List.mem_append_right _ h)
  have hl : lv_has ls 1 [(0, .ref (g 1))] := hl
  have hM : (m_M_reckonOwn sM) = (m_M_reckonOwn sM) := rfl
  refine lv_aload_n hx hb dX1_reckonOwn_0 rfl (lv_at hl 0 rfl) ?_
  refine lv_aload_n hx hb dX1_reckonOwn_1 rfl (lv_at hl 0 rfl) ?_
  refine va_get (D := D) (ci := 1) (v := .ref (g 2)) (C := RX1) (T := TX1) (N := 6) hx hb hts hinM hown hE.1 hPM 0 rfl rfl 0 (by decide) (hts (.fieldLink RX1 11 "WallStones$Machine" "number" "[I") (List.mem_of_getElem? (i := 1) rfl)) (fun _ h9 => h9) rfl dX1_reckonOwn_2 ?_
  refine lv_iconst (v := 3) hx hb dX1_reckonOwn_5 (by decide) ?_
  refine va_iald hx hb hE.1 hPM 1 0 rfl rfl (vp_in_iff.mpr (by decide)) dX1_reckonOwn_6 ?_
  refine W.eq (congrArg (fun z => F0 m 7 ls [.int (sM 1 z), .ref (g 1)]) cl_3) ?_
  refine lv_aload_n hx hb dX1_reckonOwn_7 rfl (lv_at hl 0 rfl) ?_
  refine va_get (D := D) (ci := 1) (v := .ref (g 2)) (C := RX1) (T := TX1) (N := 6) hx hb hts hinM hown hE.1 hPM 0 rfl rfl 0 (by decide) (hts (.fieldLink RX1 11 "WallStones$Machine" "number" "[I") (List.mem_of_getElem? (i := 1) rfl)) (fun _ h9 => h9) rfl dX1_reckonOwn_8 ?_
  refine lv_iconst (v := 4) hx hb dX1_reckonOwn_11 (by decide) ?_
  refine va_iald hx hb hE.1 hPM 1 0 rfl rfl (vp_in_iff.mpr (by decide)) dX1_reckonOwn_12 ?_
  refine W.eq (congrArg (fun z => F0 m 13 ls [.int (sM 1 z), .int (sM 1 3), .ref (g 1)]) cl_4) ?_
  refine runW_i (va_runV (As := [.int (sM 1 3), .int (sM 1 4)]) (rest := []) ⟨hx, hb, hml, hown, hts⟩ (K_M_reckon hg sM (sM 1 3) (sM 1 4)) (cwV 2 hts gX1_reckonOwn_X1_reckon rfl rfl rfl (by decide +kernel) ⟨Nat.le_of_ble_eq_true rfl, Nat.le_of_ble_eq_true rfl⟩) (preV_of hE hA hS hPM (va_recv hE.1 hPM (ci := 1) (q0 := 0) rfl rfl)) rfl rfl hl.1 rfl (lv_room (Nat.le_of_ble_eq_true rfl)) dX1_reckonOwn_13 ⟨Nat.zero_le _, Nat.zero_le _⟩) hS (fun _ h9 => h9) (fun H locs hQ hk hS => ?_)
  have hPM : va_P D vwCl (cellM cI g (m_M_reckon sM (sM 1 3) (sM 1 4)).2) H := hQ
  have hM : (m_M_reckonOwn sM) = (((m_M_reckon sM (sM 1 3) (sM 1 4)).1, (m_M_reckon sM (sM 1 3) (sM 1 4)).2) : Int32 × St) := hM
  exact hret (m_M_reckon sM (sM 1 3) (sM 1 4)).1 H locs _ ls (nr_i _) dX1_reckonOwn_16 (ret1 hM) (rP_v1 (P := fun (z0 : St) => va_P D vwCl (cellM cI g z0) H) hM hPM) hS
abbrev rm_M_bodiesAsked : Room := { frames := 0, cells := 0, slots := 0, locals := 0 }
set_option maxHeartbeats 4000000 in
set_option maxRecDepth 100000 in
theorem K_M_bodiesAsked {l : Launch} {D : va_G} {cI : ClassId} {lo : Nat} (p0 : Int32) : ROi l D cI lo yX1_bodiesAsked wsX1_bodiesAsked rm_M_bodiesAsked [.int p0] (fun H => True) (m_M_bodiesAsked p0) := by
  refine ofW_ROi (cc := cX1_bodiesAsked) (maxL := 1) (ty := .int) (by decide +kernel) rfl (Nat.le_of_ble_eq_true rfl) ?_
  intro p e s m args below meth c Q hx hb hml hown hts hE hP hret ls hl
  have hown : s.vm.findClass RX1 = some m.cls := hown
  have hA : ∀ q : Nat, (fun _ : Nat => False) q → lo ≤ q := fun _ h => h.elim
  have hS : va_S (fun _ : Nat => False) s.heap s.heap [] := va_S.rf
  have hl : lv_has ls 1 [(0, .int p0)] := hl
  have hM : (m_M_bodiesAsked p0) = (m_M_bodiesAsked p0) := rfl
  refine lv_iload_n hx hb dX1_bodiesAsked_0 rfl (lv_at hl 0 rfl) ?_
  by_cases c_1 : p0 = 0
  · have hM := hM.trans (if_pos c_1)
    refine lv_lookup (off := 27) (tgt := 28) hx hb dX1_bodiesAsked_1 (by decide) (by rw [c_1]; decide) (by decide) ?_
    have t_1 := eq_t c_1
    rw [tl_0] at t_1
    refine lv_iconst (v := 1) hx hb dX1_bodiesAsked_28 (by decide) ?_
    have hM : (m_M_bodiesAsked p0) = (1 : Int32) := hM
    exact hret _ _ ls (nr_i _) dX1_bodiesAsked_29 hM.symm
  · have hM := hM.trans (if_neg c_1)
    have t_1 := ne_t c_1
    rw [tl_0] at t_1
    by_cases c_2 : p0 = 1
    · have hM := hM.trans (if_pos c_2)
      refine lv_lookup (off := 29) (tgt := 30) hx hb dX1_bodiesAsked_1 (by decide) (by rw [c_2]; decide) (by decide) ?_
      have t_2 := eq_t c_2
      rw [tl_1] at t_2
      refine lv_bipush (v := 11) hx hb dX1_bodiesAsked_30 (by decide) ?_
      have hM : (m_M_bodiesAsked p0) = (11 : Int32) := hM
      exact hret _ _ ls (nr_i _) dX1_bodiesAsked_32 hM.symm
    · have hM := hM.trans (if_neg c_2)
      have t_2 := ne_t c_2
      rw [tl_1] at t_2
      refine lv_lookup (off := 32) (tgt := 33) hx hb dX1_bodiesAsked_1 (by decide) (by have := t_2; simp [Op.lookupswitch.offset]; omega) (by decide) ?_
      refine lv_bipush (v := 111) hx hb dX1_bodiesAsked_33 (by decide) ?_
      have hM : (m_M_bodiesAsked p0) = (111 : Int32) := hM
      exact hret _ _ ls (nr_i _) dX1_bodiesAsked_35 hM.symm
abbrev rm_M_reckoned : Room := { frames := 1, cells := 0, slots := 0, locals := 22 }
set_option maxHeartbeats 4000000 in
set_option maxRecDepth 100000 in
theorem K_M_reckoned {l : Launch} {D : va_G} {cI : ClassId} {lo : Nat} {g : Nat → Nat} (hg : wI g 1 6 lo) (sM : St) (p1 : Int32) : ROi l D cI lo yX1_reckoned wsX1_reckoned rm_M_reckoned [.ref (g 1), .int p1] (fun H => va_P D vwCl (cellM cI g sM) H) (m_M_reckoned sM p1) := by
  refine ofW_ROi (cc := cX1_reckoned) (maxL := 2) (ty := .int) (by decide +kernel) rfl (Nat.le_of_ble_eq_true rfl) ?_
  intro p e s m args below meth c Q hx hb hml hown hts hE hP hret ls hl
  have hown : s.vm.findClass RX1 = some m.cls := hown
  have hPM := hP
  have hA : ∀ q : Nat, (fun _ : Nat => False) q → lo ≤ q := fun _ h => h.elim
  have hS : va_S (fun _ : Nat => False) s.heap s.heap [] := va_S.rf
  have hinM : ∀ w ∈ wsX10, w ∈ wsX1_reckoned := fun w h => List.mem_cons_of_mem _ (List.mem_append_right _ h)
  have hl : lv_has ls 2 [(0, .ref (g 1)), (1, .int p1)] := hl
  have hM : (m_M_reckoned sM p1) = (m_M_reckoned sM p1) := rfl
  refine lv_iload_n hx hb dX1_reckoned_0 rfl (lv_at hl 1 rfl) ?_
  refine lv_iconst (v := 0) hx hb dX1_reckoned_1 (by decide) ?_
  refine lv_bipush (v := 6) hx hb dX1_reckoned_2 (by decide) ?_
  refine runS_i (va_runSN (As := [.int p1, .int 0, .int 6]) (rest := []) ⟨hx, hb, hml, hown, hts⟩ (K_T_within p1 0 6) ⟨va_cnB 3 hts gX1_reckoned_X4_within_n27 rfl rfl rfl hE.2.1.2.1 (hts (.initialized RX4) (List.mem_of_getElem? (i := 3) rfl)) (by decide +kernel) ⟨Nat.le_of_ble_eq_true rfl, Nat.le_of_ble_eq_true rfl⟩, (hts (.static yX4_within) (List.mem_of_getElem? (i := 2) rfl)), trivial⟩ (preS_of hE hA hS trivial) rfl rfl hl.1 rfl (lv_room (Nat.le_of_ble_eq_true rfl)) dX1_reckoned_4 ⟨Nat.zero_le _, Nat.zero_le _⟩) ?_
  refine lv_if_eq (tgt := 19) hx hb dX1_reckoned_7 (by decide) (fun c_1 => ?_) (fun c_1 => ?_)
  · have hM := hM.trans (if_pos c_1)
    have t_1 := eq_t c_1
    rw [tl_0] at t_1
    refine lv_iconst (v := (-1)) hx hb dX1_reckoned_19 (by decide) ?_
    have hM : (m_M_reckoned sM p1) = ((-1) : Int32) := hM
    exact hret _ _ ls (nr_i _) dX1_reckoned_20 hM.symm
  · have hM := hM.trans (if_neg c_1)
    have t_1 := ne_t c_1
    rw [tl_0] at t_1
    have u_1 := within_t c_1
    rw [tl_0, tl_6] at u_1
    refine lv_aload_n hx hb dX1_reckoned_10 rfl (lv_at hl 0 rfl) ?_
    refine va_get (D := D) (ci := 1) (v := .ref (g 4)) (C := RX1) (T := TX1) (N := 6) hx hb hts hinM hown hE.1 hPM 0 rfl rfl 2 (by decide) (hts (.fieldLink RX1 18 "WallStones$Machine" "reckoning" "[I") (List.mem_of_getElem? (i := 1) rfl)) (fun _ h9 => h9) rfl dX1_reckoned_11 ?_
    refine lv_iload_n hx hb dX1_reckoned_14 rfl (lv_at hl 1 rfl) ?_
    refine va_iald hx hb hE.1 hPM 3 0 rfl rfl (vp_in_iff.mpr (by omega)) dX1_reckoned_15 ?_
    refine W.eq (g2 := F0 m 16 ls [.int (sM 3 (Int32.toNatClampNeg p1))]) rfl ?_
    refine lv_goto (tgt := 20) hx hb dX1_reckoned_16 (by decide) ?_
    have hM : (m_M_reckoned sM p1) = ((sM 3 (Int32.toNatClampNeg p1)) : Int32) := hM
    exact hret _ _ ls (nr_i _) dX1_reckoned_20 hM.symm
abbrev rm_M_keepTuning : Room := { frames := 0, cells := 0, slots := 0, locals := 0 }
set_option maxHeartbeats 4000000 in
set_option maxRecDepth 100000 in
theorem K_M_keepTuning {l : Launch} {D : va_G} {cI : ClassId} {lo : Nat} {g : Nat → Nat} (hg : wI g 1 6 lo) (sM : St) (p1 : Int32) (p2 : Int32) (p3 : Int32) : WRv l D cI lo yX1_keepTuning wsX1_keepTuning rm_M_keepTuning [.ref (g 1), .int p1, .int p2, .int p3] (fun H => va_P D vwCl (cellM cI g sM) H) (fun H => va_P D vwCl (cellM cI g (m_M_keepTuning sM p1 p2 p3)) H) (wA g 1 6) := by
  refine ofW_WRv (cc := cX1_keepTuning) (maxL := 4) (by decide +kernel) rfl (Nat.le_of_ble_eq_true rfl) ?_
  intro p e s m args below meth c Q hx hb hml hown hts hE hP hret ls hl
  have hown : s.vm.findClass RX1 = some m.cls := hown
  have hPM := hP
  have hA := wA.lo hg
  have hS : va_S (wA g 1 6) s.heap s.heap [] := va_S.rf
  obtain ⟨H, hH⟩ : ∃ z, z = s.heap := ⟨_, rfl⟩
  obtain ⟨locs, hlocs⟩ : ∃ z : List Loc, z = [] := ⟨_, rfl⟩
  have hPM : va_P D vwCl (cellM cI g sM) H := by rw [hH]; exact hPM
  have hS : va_S (wA g 1 6) s.heap H locs := by rw [hH, hlocs]; exact va_S.rf
  have gW : W p l e rm_M_keepTuning s m args below meth c H locs 0 0 Q (F0 m 0 ls []) → W p l e rm_M_keepTuning s m args below meth c s.heap [] 0 0 Q (F0 m 0 ls []) := by rw [hH, hlocs]; exact id
  refine gW ?_
  have hinM : ∀ w ∈ wsX10, w ∈ wsX1_keepTuning := fun w h => List.mem_cons_of_mem _ (List.mem_append_right _ h)
  have hl : lv_has ls 4 [(0, .ref (g 1)), (1, .int p1), (2, .int p2), (3, .int p3)] := hl
  have hM : (m_M_keepTuning sM p1 p2 p3) = (m_M_keepTuning sM p1 p2 p3) := rfl
  refine lv_aload_n hx hb dX1_keepTuning_0 rfl (lv_at hl 0 rfl) ?_
  refine va_get (D := D) (ci := 1) (v := .ref (g 5)) (C := RX1) (T := TX1) (N := 6) hx hb hts hinM hown hE.1 hPM 0 rfl rfl 3 (by decide) (hts (.fieldLink RX1 21 "WallStones$Machine" "tuning" "[I") (List.mem_of_getElem? (i := 1) rfl)) (fun _ h9 => h9) rfl dX1_keepTuning_1 ?_
  refine lv_iconst (v := 0) hx hb dX1_keepTuning_4 (by decide) ?_
  refine lv_iload_n hx hb dX1_keepTuning_5 rfl (lv_at hl 1 rfl) ?_
  refine va_iast hx hb hE.1 hPM (wD_of hg (c := 1) (n := 5) (by decide) (by decide) rfl) hS 4 0 rfl rfl (vp_in_iff.mpr (by decide)) dX1_keepTuning_6 (fun H locs hPn _ hS => ?_)
  rw [cl_0] at hPn
  have hPM : va_P D vwCl (cellM cI g (up sM 4 0 p1)) H := (congrArg (fun z => va_P D vwCl z H) setM_M4).mp hPn
  refine lv_aload_n hx hb dX1_keepTuning_7 rfl (lv_at hl 0 rfl) ?_
  refine va_get (D := D) (ci := 1) (v := .ref (g 5)) (C := RX1) (T := TX1) (N := 6) hx hb hts hinM hown hE.1 hPM 0 rfl rfl 3 (by decide) (hts (.fieldLink RX1 21 "WallStones$Machine" "tuning" "[I") (List.mem_of_getElem? (i := 1) rfl)) (fun _ h9 => h9) rfl dX1_keepTuning_8 ?_
  refine lv_iconst (v := 1) hx hb dX1_keepTuning_11 (by decide) ?_
  refine lv_iload_n hx hb dX1_keepTuning_12 rfl (lv_at hl 2 rfl) ?_
  refine va_iast hx hb hE.1 hPM (wD_of hg (c := 1) (n := 5) (by decide) (by decide) rfl) hS 4 0 rfl rfl (vp_in_iff.mpr (by decide)) dX1_keepTuning_13 (fun H locs hPn _ hS => ?_)
  rw [cl_1] at hPn
  have hPM : va_P D vwCl (cellM cI g (up (up sM 4 0 p1) 4 1 p2)) H := (congrArg (fun z => va_P D vwCl z H) setM_M4).mp hPn
  refine lv_aload_n hx hb dX1_keepTuning_14 rfl (lv_at hl 0 rfl) ?_
  refine va_get (D := D) (ci := 1) (v := .ref (g 5)) (C := RX1) (T := TX1) (N := 6) hx hb hts hinM hown hE.1 hPM 0 rfl rfl 3 (by decide) (hts (.fieldLink RX1 21 "WallStones$Machine" "tuning" "[I") (List.mem_of_getElem? (i := 1) rfl)) (fun _ h9 => h9) rfl dX1_keepTuning_15 ?_
  refine lv_iconst (v := 2) hx hb dX1_keepTuning_18 (by decide) ?_
  refine lv_iload_n hx hb dX1_keepTuning_19 rfl (lv_at hl 3 rfl) ?_
  refine va_iast hx hb hE.1 hPM (wD_of hg (c := 1) (n := 5) (by decide) (by decide) rfl) hS 4 0 rfl rfl (vp_in_iff.mpr (by decide)) dX1_keepTuning_20 (fun H locs hPn _ hS => ?_)
  rw [cl_2] at hPn
  have hPM : va_P D vwCl (cellM cI g (up (up (up sM 4 0 p1) 4 1 p2) 4 2 p3)) H := (congrArg (fun z => va_P D vwCl z H) setM_M4).mp hPn
  have hM : (m_M_keepTuning sM p1 p2 p3) = ((up (up (up sM 4 0 p1) 4 1 p2) 4 2 p3) : St) := hM
  exact hret H locs _ ls dX1_keepTuning_21 (rP_s1 (P := fun (z0 : St) => va_P D vwCl (cellM cI g z0) H) hM hPM) hS
abbrev rm_M_tuneTo : Room := { frames := 5, cells := 0, slots := 0, locals := 128 }
set_option maxHeartbeats 4000000 in
set_option maxRecDepth 100000 in
theorem K_M_tuneTo {l : Launch} {D : va_G} {cI : ClassId} {lo : Nat} {g : Nat → Nat} (hg : wI g 1 6 lo) (sM : St) (p1 : Int32) (p2 : Int32) (p3 : Int32) (h0 : 10 ≤ p1.toInt ∧ p1.toInt ≤ p2.toInt ∧ p2.toInt ≤ 160) : WRv l D cI lo yX1_tuneTo wsX1_tuneTo rm_M_tuneTo [.ref (g 1), .int p1, .int p2, .int p3] (fun H => va_P D vwCl (cellM cI g sM) H) (fun H => va_P D vwCl (cellM cI g (m_M_tuneTo sM p1 p2 p3)) H) (wA g 1 6) := by
  refine ofW_WRv (cc := cX1_tuneTo) (maxL := 9) (by decide +kernel) rfl (Nat.le_of_ble_eq_true rfl) ?_
  intro p e s m args below meth c Q hx hb hml hown hts hE hP hret ls hl
  have hown : s.vm.findClass RX1 = some m.cls := hown
  have hPM := hP
  have hA := wA.lo hg
  have hS : va_S (wA g 1 6) s.heap s.heap [] := va_S.rf
  obtain ⟨H, hH⟩ : ∃ z, z = s.heap := ⟨_, rfl⟩
  obtain ⟨locs, hlocs⟩ : ∃ z : List Loc, z = [] := ⟨_, rfl⟩
  have hPM : va_P D vwCl (cellM cI g sM) H := by rw [hH]; exact hPM
  have hS : va_S (wA g 1 6) s.heap H locs := by rw [hH, hlocs]; exact va_S.rf
  have gW : W p l e rm_M_tuneTo s m args below meth c H locs 0 0 Q (F0 m 0 ls []) → W p l e rm_M_tuneTo s m args below meth c s.heap [] 0 0 Q (F0 m 0 ls []) := by rw [hH, hlocs]; exact id
  refine gW ?_
  have hinM : ∀ w ∈ wsX10, w ∈ wsX1_tuneTo := fun w h => List.mem_cons_of_mem _ (List.mem_append_right _ h)
  have hl : lv_has ls 9 [(0, .ref (g 1)), (1, .int p1), (2, .int p2), (3, .int p3)] := hl
  have L_26 : ∀ (n : Nat) (sM_26 : St) (x4_26 : Int32) (x5_26 : Int32) (x6_26 : Int32) (H : Heap) (locs : List Loc) (ls : Array Slot), 0 ≤ x6_26.toInt ∧ x6_26.toInt ≤ 61 → (61 - x6_26.toInt).toNat < n → va_P D vwCl (cellM cI g sM_26) H → va_S (wA g 1 6) s.heap H locs → lv_has ls 9 [(0, .ref (g 1)), (2, .int p2), (3, .int p3), (4, .int x4_26), (5, .int x5_26), (6, .int x6_26)] → (∀ (H : Heap) (locs : List Loc) (ls : Array Slot), va_P D vwCl (cellM cI g (wl (g_M_tuneTo_26 p3 x5_26) n (sM_26, x4_26, x6_26)).1) H → va_S (wA g 1 6) s.heap H locs → lv_has ls 9 [(0, .ref (g 1)), (2, .int p2), (3, .int p3), (4, .int (wl (g_M_tuneTo_26 p3 x5_26) n (sM_26, x4_26, x6_26)).2.1), (5, .int x5_26)] → W p l e rm_M_tuneTo s m args below meth c H locs 0 0 Q (F0 m 86 ls [])) → W p l e rm_M_tuneTo s m args below meth c H locs 0 0 Q (F0 m 26 ls []) := by
    intro n
    induction n with
    | zero =>
      intro sM_26 x4_26 x5_26 x6_26 H locs ls i26_0 hn26 hPM hS hl kk
      exact absurd hn26 (Nat.not_lt_zero _)
    | succ n ih =>
      intro sM_26 x4_26 x5_26 x6_26 H locs ls i26_0 hn26 hPM hS hl kk
      have hM : (g_M_tuneTo_26 p3 x5_26) (sM_26, x4_26, x6_26) = (g_M_tuneTo_26 p3 x5_26) (sM_26, x4_26, x6_26) := rfl
      refine lv_iload hx hb dX1_tuneTo_26 (lv_at hl 5 rfl) ?_
      refine lv_bipush (v := 60) hx hb dX1_tuneTo_28 (by decide) ?_
      refine lv_icmp_gt (tgt := 86) hx hb dX1_tuneTo_30 (by decide) (fun c_1 => ?_) (fun c_1 => ?_)
      · have hM := hM.trans (if_pos c_1)
        have t_1 := lt_t c_1
        rw [tl_60] at t_1
        rw [wl_none hM] at kk
        exact kk H locs ls hPM hS (lv_sub hl [0, 1, 2, 3, 4] rfl)
      · have hM := hM.trans (if_neg c_1)
        have t_1 := nlt_t c_1
        rw [tl_60] at t_1
        refine lv_aload_n hx hb dX1_tuneTo_33 rfl (lv_at hl 0 rfl) ?_
        refine lv_iload hx hb dX1_tuneTo_34 (lv_at hl 4 rfl) ?_
        refine lv_iload hx hb dX1_tuneTo_36 (lv_at hl 5 rfl) ?_
        refine runW_i (va_runV (As := [.int x5_26, .int x6_26]) (rest := []) ⟨hx, hb, hml, hown, hts⟩ (K_M_reckon hg sM_26 x5_26 x6_26) (cwV 2 hts gX1_tuneTo_X1_reckon rfl rfl rfl (by decide +kernel) ⟨Nat.le_of_ble_eq_true rfl, Nat.le_of_ble_eq_true rfl⟩) (preV_of hE hA hS hPM (va_recv hE.1 hPM (ci := 1) (q0 := 0) rfl rfl)) rfl rfl hl.1 rfl (lv_room (Nat.le_of_ble_eq_true rfl)) dX1_tuneTo_38 ⟨Nat.zero_le _, Nat.zero_le _⟩) hS (fun _ h9 => h9) (fun H locs hQ hk hS => ?_)
        have hPM : va_P D vwCl (cellM cI g (m_M_reckon sM_26 x5_26 x6_26).2) H := hQ
        refine lv_istore (lv' := [(7, .int (m_M_reckon sM_26 x5_26 x6_26).1), (0, .ref (g 1)), (2, .int p2), (3, .int p3), (4, .int x4_26), (5, .int x5_26), (6, .int x6_26)]) hx hb dX1_tuneTo_41 hl (by decide) rfl (fun ls hl => ?_)
        refine lv_iload hx hb dX1_tuneTo_43 (lv_at hl 0 rfl) ?_
        refine lv_iload_n hx hb dX1_tuneTo_45 rfl (lv_at hl 3 rfl) ?_
        refine lv_isub hx hb dX1_tuneTo_46 ?_
        refine va_mabs hx hb (by rw [hml]; exact hl.1.symm) hown (hts (.methodLink RX1 108 Lib.Math.abs.name) (List.mem_of_getElem? (i := 2) rfl)) (hts (.static Lib.Math.abs.name) (List.mem_of_getElem? (i := 3) rfl)) (hts (.initialized "java/lang/Math") (List.mem_of_getElem? (i := 4) rfl)) (hts (.code Lib.Math.abs.name Lib.Math.abs.code 1 (some .int)) (List.mem_of_getElem? (i := 5) rfl)) (Nat.le_of_ble_eq_true rfl) (Nat.le_of_ble_eq_true rfl) (Nat.zero_le _) (Nat.zero_le _) dX1_tuneTo_47 ?_
        refine lv_istore (lv' := [(8, .int (if 0 ≤ ((m_M_reckon sM_26 x5_26 x6_26).1 - p3) then ((m_M_reckon sM_26 x5_26 x6_26).1 - p3) else 0 - ((m_M_reckon sM_26 x5_26 x6_26).1 - p3))), (7, .int (m_M_reckon sM_26 x5_26 x6_26).1), (0, .ref (g 1)), (2, .int p2), (3, .int p3), (4, .int x4_26), (5, .int x5_26), (6, .int x6_26)]) hx hb dX1_tuneTo_50 hl (by decide) rfl (fun ls hl => ?_)
        refine lv_iload hx hb dX1_tuneTo_52 (lv_at hl 1 rfl) ?_
        refine lv_bipush (v := (-9)) hx hb dX1_tuneTo_54 (by decide) ?_
        refine lv_icmp_eq (tgt := 80) hx hb dX1_tuneTo_56 (by decide) (fun c_2 => ?_) (fun c_2 => ?_)
        · have hM := hM.trans (if_pos c_2)
          have t_2 := eq_t c_2
          rw [tl_m9] at t_2
          refine lv_iinc (v := (x6_26 + 1)) (lv' := [(6, .int (x6_26 + 1)), (8, .int (if 0 ≤ ((m_M_reckon sM_26 x5_26 x6_26).1 - p3) then ((m_M_reckon sM_26 x5_26 x6_26).1 - p3) else 0 - ((m_M_reckon sM_26 x5_26 x6_26).1 - p3))), (7, .int (m_M_reckon sM_26 x5_26 x6_26).1), (0, .ref (g 1)), (2, .int p2), (3, .int p3), (4, .int x4_26), (5, .int x5_26)]) hx hb dX1_tuneTo_80 hl (k := 7) rfl rfl (by decide) rfl (fun ls hl => ?_)
          refine lv_goto (tgt := 26) hx hb dX1_tuneTo_83 (by decide) ?_
          have := t_inc (x := x6_26) (by omega)
          rw [wl_some hM] at kk
          exact ih (m_M_reckon sM_26 x5_26 x6_26).2 x4_26 x5_26 (x6_26 + 1) H locs ls (by omega) (by omega) hPM hS (lv_sub hl [3, 4, 5, 6, 7, 0] rfl) kk
        · have hM := hM.trans (if_neg c_2)
          have t_2 := ne_t c_2
          rw [tl_m9] at t_2
          refine lv_iload hx hb dX1_tuneTo_59 (lv_at hl 0 rfl) ?_
          refine lv_iload hx hb dX1_tuneTo_61 (lv_at hl 5 rfl) ?_
          refine lv_icmp_ge (tgt := 80) hx hb dX1_tuneTo_63 (by decide) (fun c_3 => ?_) (fun c_3 => ?_)
          · have hM := hM.trans (if_pos c_3)
            have t_3 := le_t c_3
            refine lv_iinc (v := (x6_26 + 1)) (lv' := [(6, .int (x6_26 + 1)), (8, .int (if 0 ≤ ((m_M_reckon sM_26 x5_26 x6_26).1 - p3) then ((m_M_reckon sM_26 x5_26 x6_26).1 - p3) else 0 - ((m_M_reckon sM_26 x5_26 x6_26).1 - p3))), (7, .int (m_M_reckon sM_26 x5_26 x6_26).1), (0, .ref (g 1)), (2, .int p2), (3, .int p3), (4, .int x4_26), (5, .int x5_26)]) hx hb dX1_tuneTo_80 hl (k := 7) rfl rfl (by decide) rfl (fun ls hl => ?_)
            refine lv_goto (tgt := 26) hx hb dX1_tuneTo_83 (by decide) ?_
            have := t_inc (x := x6_26) (by omega)
            rw [wl_some hM] at kk
            exact ih (m_M_reckon sM_26 x5_26 x6_26).2 x4_26 x5_26 (x6_26 + 1) H locs ls (by omega) (by omega) hPM hS (lv_sub hl [3, 4, 5, 6, 7, 0] rfl) kk
          · have hM := hM.trans (if_neg c_3)
            have t_3 := nle_t c_3
            refine lv_iload hx hb dX1_tuneTo_66 (lv_at hl 0 rfl) ?_
            refine lv_istore (lv' := [(4, .int (if 0 ≤ ((m_M_reckon sM_26 x5_26 x6_26).1 - p3) then ((m_M_reckon sM_26 x5_26 x6_26).1 - p3) else 0 - ((m_M_reckon sM_26 x5_26 x6_26).1 - p3))), (8, .int (if 0 ≤ ((m_M_reckon sM_26 x5_26 x6_26).1 - p3) then ((m_M_reckon sM_26 x5_26 x6_26).1 - p3) else 0 - ((m_M_reckon sM_26 x5_26 x6_26).1 - p3))), (7, .int (m_M_reckon sM_26 x5_26 x6_26).1), (0, .ref (g 1)), (2, .int p2), (3, .int p3), (5, .int x5_26), (6, .int x6_26)]) hx hb dX1_tuneTo_68 hl (by decide) rfl (fun ls hl => ?_)
            refine lv_aload_n hx hb dX1_tuneTo_70 rfl (lv_at hl 3 rfl) ?_
            refine lv_iload hx hb dX1_tuneTo_71 (lv_at hl 6 rfl) ?_
            refine lv_iload hx hb dX1_tuneTo_73 (lv_at hl 7 rfl) ?_
            refine lv_iload hx hb dX1_tuneTo_75 (lv_at hl 2 rfl) ?_
            refine runW_v (va_runV (As := [.int x5_26, .int x6_26, .int (m_M_reckon sM_26 x5_26 x6_26).1]) (rest := []) ⟨hx, hb, hml, hown, hts⟩ (K_M_keepTuning hg (m_M_reckon sM_26 x5_26 x6_26).2 x5_26 x6_26 (m_M_reckon sM_26 x5_26 x6_26).1) (cwV 3 hts gX1_tuneTo_X1_keepTuning rfl rfl rfl (by decide +kernel) ⟨Nat.le_of_ble_eq_true rfl, Nat.le_of_ble_eq_true rfl⟩) (preV_of hE hA hS hPM (va_recv hE.1 hPM (ci := 1) (q0 := 0) rfl rfl)) rfl rfl hl.1 rfl (lv_room (Nat.le_of_ble_eq_true rfl)) dX1_tuneTo_77 ⟨Nat.zero_le _, Nat.zero_le _⟩) hS (fun _ h9 => h9) (fun H locs hQ hk hS => ?_)
            have hPM : va_P D vwCl (cellM cI g (m_M_keepTuning (m_M_reckon sM_26 x5_26 x6_26).2 x5_26 x6_26 (m_M_reckon sM_26 x5_26 x6_26).1)) H := hQ
            refine lv_iinc (v := (x6_26 + 1)) (lv' := [(6, .int (x6_26 + 1)), (4, .int (if 0 ≤ ((m_M_reckon sM_26 x5_26 x6_26).1 - p3) then ((m_M_reckon sM_26 x5_26 x6_26).1 - p3) else 0 - ((m_M_reckon sM_26 x5_26 x6_26).1 - p3))), (8, .int (if 0 ≤ ((m_M_reckon sM_26 x5_26 x6_26).1 - p3) then ((m_M_reckon sM_26 x5_26 x6_26).1 - p3) else 0 - ((m_M_reckon sM_26 x5_26 x6_26).1 - p3))), (7, .int (m_M_reckon sM_26 x5_26 x6_26).1), (0, .ref (g 1)), (2, .int p2), (3, .int p3), (5, .int x5_26)]) hx hb dX1_tuneTo_80 hl (k := 7) rfl rfl (by decide) rfl (fun ls hl => ?_)
            refine lv_goto (tgt := 26) hx hb dX1_tuneTo_83 (by decide) ?_
            have := t_inc (x := x6_26) (by omega)
            rw [wl_some hM] at kk
            exact ih (m_M_keepTuning (m_M_reckon sM_26 x5_26 x6_26).2 x5_26 x6_26 (m_M_reckon sM_26 x5_26 x6_26).1) (if 0 ≤ ((m_M_reckon sM_26 x5_26 x6_26).1 - p3) then ((m_M_reckon sM_26 x5_26 x6_26).1 - p3) else 0 - ((m_M_reckon sM_26 x5_26 x6_26).1 - p3)) x5_26 (x6_26 + 1) H locs ls (by omega) (by omega) hPM hS (lv_sub hl [4, 5, 6, 1, 7, 0] rfl) kk
  have L_17 : ∀ (n : Nat) (sM_17 : St) (x4_17 : Int32) (x5_17 : Int32) (H : Heap) (locs : List Loc) (ls : Array Slot), 10 ≤ x5_17.toInt ∧ x5_17.toInt ≤ 161 → (161 - x5_17.toInt).toNat < n → va_P D vwCl (cellM cI g sM_17) H → va_S (wA g 1 6) s.heap H locs → lv_has ls 9 [(0, .ref (g 1)), (2, .int p2), (3, .int p3), (4, .int x4_17), (5, .int x5_17)] → (∀ (H : Heap) (locs : List Loc) (ls : Array Slot), va_P D vwCl (cellM cI g (wl (g_M_tuneTo_17 p2 p3) n (sM_17, x4_17, x5_17)).1) H → va_S (wA g 1 6) s.heap H locs → lv_has ls 9 [] → W p l e rm_M_tuneTo s m args below meth c H locs 0 0 Q (F0 m 92 ls [])) → W p l e rm_M_tuneTo s m args below meth c H locs 0 0 Q (F0 m 17 ls []) := by
    intro n
    induction n with
    | zero =>
      intro sM_17 x4_17 x5_17 H locs ls i17_0 hn17 hPM hS hl kk
      exact absurd hn17 (Nat.not_lt_zero _)
    | succ n ih =>
      intro sM_17 x4_17 x5_17 H locs ls i17_0 hn17 hPM hS hl kk
      have J_86 : ∀ (sM_86 : St) (x4_86 : Int32) (x5_86 : Int32) (H : Heap) (locs : List Loc) (ls : Array Slot), 10 ≤ x5_86.toInt ∧ x5_86.toInt ≤ 160 → (161 - x5_86.toInt).toNat < n + 1 → va_P D vwCl (cellM cI g sM_86) H → va_S (wA g 1 6) s.heap H locs → lv_has ls 9 [(0, .ref (g 1)), (2, .int p2), (3, .int p3), (4, .int x4_86), (5, .int x5_86)] → (g_M_tuneTo_17 p2 p3) (sM_17, x4_17, x5_17) = b_M_tuneTo_86 sM_86 p2 p3 x4_86 x5_86 → W p l e rm_M_tuneTo s m args below meth c H locs 0 0 Q (F0 m 86 ls []) := by
        intro sM_86 x4_86 x5_86 H locs ls i86_0 i86_1 hPM hS hl hM
        refine lv_iinc (v := (x5_86 + 1)) (lv' := [(5, .int (x5_86 + 1)), (0, .ref (g 1)), (2, .int p2), (3, .int p3), (4, .int x4_86)]) hx hb dX1_tuneTo_86 hl (k := 4) rfl rfl (by decide) rfl (fun ls hl => ?_)
        refine lv_goto (tgt := 17) hx hb dX1_tuneTo_89 (by decide) ?_
        have := t_inc (x := x5_86) (by omega)
        rw [wl_some hM] at kk
        exact ih sM_86 x4_86 (x5_86 + 1) H locs ls (by omega) (by omega) hPM hS (lv_sub hl [1, 2, 3, 4, 0] rfl) kk
      have hM : (g_M_tuneTo_17 p2 p3) (sM_17, x4_17, x5_17) = (g_M_tuneTo_17 p2 p3) (sM_17, x4_17, x5_17) := rfl
      refine lv_iload hx hb dX1_tuneTo_17 (lv_at hl 4 rfl) ?_
      refine lv_iload_n hx hb dX1_tuneTo_19 rfl (lv_at hl 1 rfl) ?_
      refine lv_icmp_gt (tgt := 92) hx hb dX1_tuneTo_20 (by decide) (fun c_4 => ?_) (fun c_4 => ?_)
      · have hM := hM.trans (if_pos c_4)
        have t_4 := lt_t c_4
        rw [wl_none hM] at kk
        exact kk H locs ls hPM hS (lv_sub hl [] rfl)
      · have hM := hM.trans (if_neg c_4)
        have t_4 := nlt_t c_4
        refine lv_iconst (v := 0) hx hb dX1_tuneTo_23 (by decide) ?_
        refine lv_istore (lv' := [(6, .int 0), (0, .ref (g 1)), (2, .int p2), (3, .int p3), (4, .int x4_17), (5, .int x5_17)]) hx hb dX1_tuneTo_24 hl (by decide) rfl (fun ls hl => ?_)
        have z5 := tl_0
        refine L_26 62 sM_17 x4_17 x5_17 0 H locs ls (by omega) (by omega) hPM hS (lv_sub hl [1, 2, 3, 4, 5, 0] rfl) (fun H locs ls hPM hS hl => ?_)
        exact J_86 (wl (g_M_tuneTo_26 p3 x5_17) 62 (sM_17, x4_17, 0)).1 (wl (g_M_tuneTo_26 p3 x5_17) 62 (sM_17, x4_17, 0)).2.1 x5_17 H locs ls (by omega) (by omega) hPM hS (lv_sub hl [0, 1, 2, 3, 4] rfl) hM
  have J_92 : ∀ (sM_92 : St) (H : Heap) (locs : List Loc) (ls : Array Slot), va_P D vwCl (cellM cI g sM_92) H → va_S (wA g 1 6) s.heap H locs → lv_has ls 9 [] → (m_M_tuneTo sM p1 p2 p3) = b_M_tuneTo_92 sM_92 → W p l e rm_M_tuneTo s m args below meth c H locs 0 0 Q (F0 m 92 ls []) := by
    intro sM_92 H locs ls hPM hS hl hM
    have hM : (m_M_tuneTo sM p1 p2 p3) = (sM_92 : St) := hM
    exact hret H locs _ ls dX1_tuneTo_92 (rP_s1 (P := fun (z0 : St) => va_P D vwCl (cellM cI g z0) H) hM hPM) hS
  have hM : (m_M_tuneTo sM p1 p2 p3) = (m_M_tuneTo sM p1 p2 p3) := rfl
  refine lv_aload_n hx hb dX1_tuneTo_0 rfl (lv_at hl 0 rfl) ?_
  refine lv_bipush (v := (-9)) hx hb dX1_tuneTo_1 (by decide) ?_
  refine lv_bipush (v := (-9)) hx hb dX1_tuneTo_3 (by decide) ?_
  refine lv_bipush (v := (-9)) hx hb dX1_tuneTo_5 (by decide) ?_
  refine runW_v (va_runV (As := [.int (-9), .int (-9), .int (-9)]) (rest := []) ⟨hx, hb, hml, hown, hts⟩ (K_M_keepTuning hg sM (-9) (-9) (-9)) (cwV 3 hts gX1_tuneTo_X1_keepTuning rfl rfl rfl (by decide +kernel) ⟨Nat.le_of_ble_eq_true rfl, Nat.le_of_ble_eq_true rfl⟩) (preV_of hE hA hS hPM (va_recv hE.1 hPM (ci := 1) (q0 := 0) rfl rfl)) rfl rfl hl.1 rfl (lv_room (Nat.le_of_ble_eq_true rfl)) dX1_tuneTo_7 ⟨Nat.zero_le _, Nat.zero_le _⟩) hS (fun _ h9 => h9) (fun H locs hQ hk hS => ?_)
  have hPM : va_P D vwCl (cellM cI g (m_M_keepTuning sM (-9) (-9) (-9))) H := hQ
  refine lv_ldc (own := RX1) (index := 107) (v := 1000000) hx hb hown (hts (.constant RX1 107 (1000000)) (List.mem_of_getElem? (i := 1) rfl)) dX1_tuneTo_10 ?_
  refine lv_istore (lv' := [(4, .int 1000000), (0, .ref (g 1)), (1, .int p1), (2, .int p2), (3, .int p3)]) hx hb dX1_tuneTo_12 hl (by decide) rfl (fun ls hl => ?_)
  refine lv_iload_n hx hb dX1_tuneTo_14 rfl (lv_at hl 2 rfl) ?_
  refine lv_istore (lv' := [(5, .int p1), (4, .int 1000000), (0, .ref (g 1)), (1, .int p1), (2, .int p2), (3, .int p3)]) hx hb dX1_tuneTo_15 hl (by decide) rfl (fun ls hl => ?_)
  have z6 := tl_1000000
  refine L_17 152 (m_M_keepTuning sM (-9) (-9) (-9)) 1000000 p1 H locs ls (by omega) (by omega) hPM hS (lv_sub hl [2, 4, 5, 1, 0] rfl) (fun H locs ls hPM hS hl => ?_)
  exact J_92 (wl (g_M_tuneTo_17 p2 p3) 152 ((m_M_keepTuning sM (-9) (-9) (-9)), 1000000, p1)).1 H locs ls hPM hS (lv_sub hl [] rfl) hM
abbrev rm_M_tuned : Room := { frames := 1, cells := 0, slots := 0, locals := 22 }
set_option maxHeartbeats 4000000 in
set_option maxRecDepth 100000 in
theorem K_M_tuned {l : Launch} {D : va_G} {cI : ClassId} {lo : Nat} {g : Nat → Nat} (hg : wI g 1 6 lo) (sM : St) (p1 : Int32) : ROi l D cI lo yX1_tuned wsX1_tuned rm_M_tuned [.ref (g 1), .int p1] (fun H => va_P D vwCl (cellM cI g sM) H) (m_M_tuned sM p1) := by
  refine ofW_ROi (cc := cX1_tuned) (maxL := 2) (ty := .int) (by decide +kernel) rfl (Nat.le_of_ble_eq_true rfl) ?_
  intro p e s m args below meth c Q hx hb hml hown hts hE hP hret ls hl
  have hown : s.vm.findClass RX1 = some m.cls := hown
  have hPM := hP
  have hA : ∀ q : Nat, (fun _ : Nat => False) q → lo ≤ q := fun _ h => h.elim
  have hS : va_S (fun _ : Nat => False) s.heap s.heap [] := va_S.rf
  have hinM : ∀ w ∈ wsX10, w ∈ wsX1_tuned := fun w h => List.mem_cons_of_mem _ (List.mem_append_right _ h)
  have hl : lv_has ls 2 [(0, .ref (g 1)), (1, .int p1)] := hl
  have hM : (m_M_tuned sM p1) = (m_M_tuned sM p1) := rfl
  refine lv_iload_n hx hb dX1_tuned_0 rfl (lv_at hl 1 rfl) ?_
  refine lv_iconst (v := 0) hx hb dX1_tuned_1 (by decide) ?_
  refine lv_iconst (v := 2) hx hb dX1_tuned_2 (by decide) ?_
  refine runS_i (va_runSN (As := [.int p1, .int 0, .int 2]) (rest := []) ⟨hx, hb, hml, hown, hts⟩ (K_T_within p1 0 2) ⟨va_cnB 3 hts gX1_tuned_X4_within_n27 rfl rfl rfl hE.2.1.2.1 (hts (.initialized RX4) (List.mem_of_getElem? (i := 3) rfl)) (by decide +kernel) ⟨Nat.le_of_ble_eq_true rfl, Nat.le_of_ble_eq_true rfl⟩, (hts (.static yX4_within) (List.mem_of_getElem? (i := 2) rfl)), trivial⟩ (preS_of hE hA hS trivial) rfl rfl hl.1 rfl (lv_room (Nat.le_of_ble_eq_true rfl)) dX1_tuned_3 ⟨Nat.zero_le _, Nat.zero_le _⟩) ?_
  refine lv_if_eq (tgt := 18) hx hb dX1_tuned_6 (by decide) (fun c_1 => ?_) (fun c_1 => ?_)
  · have hM := hM.trans (if_pos c_1)
    have t_1 := eq_t c_1
    rw [tl_0] at t_1
    refine lv_iconst (v := (-1)) hx hb dX1_tuned_18 (by decide) ?_
    have hM : (m_M_tuned sM p1) = ((-1) : Int32) := hM
    exact hret _ _ ls (nr_i _) dX1_tuned_19 hM.symm
  · have hM := hM.trans (if_neg c_1)
    have t_1 := ne_t c_1
    rw [tl_0] at t_1
    have u_1 := within_t c_1
    rw [tl_0, tl_2] at u_1
    refine lv_aload_n hx hb dX1_tuned_9 rfl (lv_at hl 0 rfl) ?_
    refine va_get (D := D) (ci := 1) (v := .ref (g 5)) (C := RX1) (T := TX1) (N := 6) hx hb hts hinM hown hE.1 hPM 0 rfl rfl 3 (by decide) (hts (.fieldLink RX1 21 "WallStones$Machine" "tuning" "[I") (List.mem_of_getElem? (i := 1) rfl)) (fun _ h9 => h9) rfl dX1_tuned_10 ?_
    refine lv_iload_n hx hb dX1_tuned_13 rfl (lv_at hl 1 rfl) ?_
    refine va_iald hx hb hE.1 hPM 4 0 rfl rfl (vp_in_iff.mpr (by omega)) dX1_tuned_14 ?_
    refine W.eq (g2 := F0 m 15 ls [.int (sM 4 (Int32.toNatClampNeg p1))]) rfl ?_
    refine lv_goto (tgt := 19) hx hb dX1_tuned_15 (by decide) ?_
    have hM : (m_M_tuned sM p1) = ((sM 4 (Int32.toNatClampNeg p1)) : Int32) := hM
    exact hret _ _ ls (nr_i _) dX1_tuned_19 hM.symm
abbrev rm_M_forceAt : Room := { frames := 2, cells := 0, slots := 0, locals := 48 }
set_option maxHeartbeats 4000000 in
set_option maxRecDepth 100000 in
theorem K_M_forceAt {l : Launch} {D : va_G} {cI : ClassId} {lo : Nat} {g : Nat → Nat} (hg : wI g 1 6 lo) (sM : St) (p1 : Int32) : ROi l D cI lo yX1_forceAt wsX1_forceAt rm_M_forceAt [.ref (g 1), .int p1] (fun H => va_P D vwCl (cellM cI g sM) H) (m_M_forceAt sM p1) := by
  refine ofW_ROi (cc := cX1_forceAt) (maxL := 2) (ty := .int) (by decide +kernel) rfl (Nat.le_of_ble_eq_true rfl) ?_
  intro p e s m args below meth c Q hx hb hml hown hts hE hP hret ls hl
  have hown : s.vm.findClass RX1 = some m.cls := hown
  have hPM := hP
  have hA : ∀ q : Nat, (fun _ : Nat => False) q → lo ≤ q := fun _ h => h.elim
  have hS : va_S (fun _ : Nat => False) s.heap s.heap [] := va_S.rf
  have hinM : ∀ w ∈ wsX10, w ∈ wsX1_forceAt := fun w h => List.mem_cons_of_mem _ (List.mem_append_right _ h)
  have hl : lv_has ls 2 [(0, .ref (g 1)), (1, .int p1)] := hl
  have hM : (m_M_forceAt sM p1) = (m_M_forceAt sM p1) := rfl
  refine lv_ldc2 (own := RX1) (index := 111) (v := 99) hx hb hown (hts (.constantLong RX1 111 (99)) (List.mem_of_getElem? (i := 1) rfl)) dX1_forceAt_0 ?_
  refine lv_aload_n hx hb dX1_forceAt_3 rfl (lv_at hl 0 rfl) ?_
  refine va_get (D := D) (ci := 1) (v := .ref (g 2)) (C := RX1) (T := TX1) (N := 6) hx hb hts hinM hown hE.1 hPM 0 rfl rfl 0 (by decide) (hts (.fieldLink RX1 11 "WallStones$Machine" "number" "[I") (List.mem_of_getElem? (i := 2) rfl)) (fun _ h9 => h9) rfl dX1_forceAt_4 ?_
  refine lv_bipush (v := 7) hx hb dX1_forceAt_7 (by decide) ?_
  refine va_iald hx hb hE.1 hPM 1 0 rfl rfl (vp_in_iff.mpr (by decide)) dX1_forceAt_9 ?_
  refine W.eq (congrArg (fun z => F0 m 10 ls [.int (sM 1 z), .long 99]) cl_7) ?_
  refine lv_i2l (v := (Int32.toInt64 (sM 1 7))) hx hb dX1_forceAt_10 rfl ?_
  refine lv_iload_n hx hb dX1_forceAt_11 rfl (lv_at hl 1 rfl) ?_
  refine lv_i2l (v := (Int32.toInt64 p1)) hx hb dX1_forceAt_12 rfl ?_
  refine lv_lmul hx hb dX1_forceAt_13 ?_
  refine lv_ldc2 (own := RX1) (index := 113) (v := 500) hx hb hown (hts (.constantLong RX1 113 (500)) (List.mem_of_getElem? (i := 3) rfl)) dX1_forceAt_14 ?_
  refine runS_l (va_runSN (As := [.long ((Int32.toInt64 (sM 1 7)) * (Int32.toInt64 p1)), .long 500]) (rest := [.long 99]) ⟨hx, hb, hml, hown, hts⟩ (K_T_down ((Int32.toInt64 (sM 1 7)) * (Int32.toInt64 p1)) 500) ⟨va_cnB 2 hts gX1_forceAt_X4_down_n54 rfl rfl rfl hE.2.1.2.2.2.1 (hts (.initialized RX4) (List.mem_of_getElem? (i := 9) rfl)) (by decide +kernel) ⟨Nat.le_of_ble_eq_true rfl, Nat.le_of_ble_eq_true rfl⟩, (hts (.static yX4_down) (List.mem_of_getElem? (i := 8) rfl)), trivial⟩ (preS_of hE hA hS trivial) rfl rfl hl.1 rfl (lv_room (Nat.le_of_ble_eq_true rfl)) dX1_forceAt_17 ⟨Nat.zero_le _, Nat.zero_le _⟩) ?_
  refine lv_lconst (v := 1) hx hb dX1_forceAt_20 (by decide) ?_
  refine lv_ladd hx hb dX1_forceAt_21 ?_
  refine va_mmin_long hx hb (by rw [hml]; exact hl.1.symm) hown (hts (.methodLink RX1 115 Lib.MathLoose.min_long.x) (List.mem_of_getElem? (i := 4) rfl)) (hts (.static Lib.MathLoose.min_long.x) (List.mem_of_getElem? (i := 5) rfl)) (hts (.initialized "java/lang/Math") (List.mem_of_getElem? (i := 6) rfl)) (hts (.code Lib.MathLoose.min_long.x Lib.MathLoose.min_long.code 4 (some .long)) (List.mem_of_getElem? (i := 7) rfl)) (Nat.le_of_ble_eq_true rfl) (Nat.le_of_ble_eq_true rfl) (Nat.zero_le _) (Nat.zero_le _) dX1_forceAt_22 ?_
  refine lv_l2i (v := (Int64.toInt32 (if ((m_T_down ((Int32.toInt64 (sM 1 7)) * (Int32.toInt64 p1)) 500) + 1) < 99 then ((m_T_down ((Int32.toInt64 (sM 1 7)) * (Int32.toInt64 p1)) 500) + 1) else 99))) hx hb dX1_forceAt_25 rfl ?_
  have hM : (m_M_forceAt sM p1) = ((Int64.toInt32 (if ((m_T_down ((Int32.toInt64 (sM 1 7)) * (Int32.toInt64 p1)) 500) + 1) < 99 then ((m_T_down ((Int32.toInt64 (sM 1 7)) * (Int32.toInt64 p1)) 500) + 1) else 99)) : Int32) := hM
  exact hret _ _ ls (nr_i _) dX1_forceAt_26 hM.symm
abbrev rm_M_turnsOfShot : Room := { frames := 2, cells := 0, slots := 0, locals := 48 }
set_option maxHeartbeats 4000000 in
set_option maxRecDepth 100000 in
theorem K_M_turnsOfShot {l : Launch} {D : va_G} {cI : ClassId} {lo : Nat} {g : Nat → Nat} (hg : wI g 1 6 lo) (sM : St) : ROi l D cI lo yX1_turnsOfShot wsX1_turnsOfShot rm_M_turnsOfShot [.ref (g 1)] (fun H => va_P D vwCl (cellM cI g sM) H) (m_M_turnsOfShot sM) := by
  refine ofW_ROi (cc := cX1_turnsOfShot) (maxL := 1) (ty := .int) (by decide +kernel) rfl (Nat.le_of_ble_eq_true rfl) ?_
  intro p e s m args below meth c Q hx hb hml hown hts hE hP hret ls hl
  have hown : s.vm.findClass RX1 = some m.cls := hown
  have hPM := hP
  have hA : ∀ q : Nat, (fun _ : Nat => False) q → lo ≤ q := fun _ h => h.elim
  have hS : va_S (fun _ : Nat => False) s.heap s.heap [] := va_S.rf
  have hinM : ∀ w ∈ wsX10, w ∈ wsX1_turnsOfShot := fun w h => List.mem_cons_of_mem _ (List.mem_append_right _ h)
  have hl : lv_has ls 1 [(0, .ref (g 1))] := hl
  have hM : (m_M_turnsOfShot sM) = (m_M_turnsOfShot sM) := rfl
  refine lv_aload_n hx hb dX1_turnsOfShot_0 rfl (lv_at hl 0 rfl) ?_
  refine va_get (D := D) (ci := 1) (v := .ref (g 2)) (C := RX1) (T := TX1) (N := 6) hx hb hts hinM hown hE.1 hPM 0 rfl rfl 0 (by decide) (hts (.fieldLink RX1 11 "WallStones$Machine" "number" "[I") (List.mem_of_getElem? (i := 1) rfl)) (fun _ h9 => h9) rfl dX1_turnsOfShot_1 ?_
  refine lv_iconst (v := 2) hx hb dX1_turnsOfShot_4 (by decide) ?_
  refine va_iald hx hb hE.1 hPM 1 0 rfl rfl (vp_in_iff.mpr (by decide)) dX1_turnsOfShot_5 ?_
  refine W.eq (congrArg (fun z => F0 m 6 ls [.int (sM 1 z)]) cl_2) ?_
  refine lv_i2l (v := (Int32.toInt64 (sM 1 2))) hx hb dX1_turnsOfShot_6 rfl ?_
  refine lv_aload_n hx hb dX1_turnsOfShot_7 rfl (lv_at hl 0 rfl) ?_
  refine va_get (D := D) (ci := 1) (v := .ref (g 2)) (C := RX1) (T := TX1) (N := 6) hx hb hts hinM hown hE.1 hPM 0 rfl rfl 0 (by decide) (hts (.fieldLink RX1 11 "WallStones$Machine" "number" "[I") (List.mem_of_getElem? (i := 1) rfl)) (fun _ h9 => h9) rfl dX1_turnsOfShot_8 ?_
  refine lv_iconst (v := 0) hx hb dX1_turnsOfShot_11 (by decide) ?_
  refine va_iald hx hb hE.1 hPM 1 0 rfl rfl (vp_in_iff.mpr (by decide)) dX1_turnsOfShot_12 ?_
  refine W.eq (congrArg (fun z => F0 m 13 ls [.int (sM 1 z), .long (Int32.toInt64 (sM 1 2))]) cl_0) ?_
  refine lv_i2l (v := (Int32.toInt64 (sM 1 0))) hx hb dX1_turnsOfShot_13 rfl ?_
  refine lv_lmul hx hb dX1_turnsOfShot_14 ?_
  refine lv_ldc2 (own := RX1) (index := 52) (v := 1000) hx hb hown (hts (.constantLong RX1 52 (1000)) (List.mem_of_getElem? (i := 2) rfl)) dX1_turnsOfShot_15 ?_
  refine runS_l (va_runSN (As := [.long ((Int32.toInt64 (sM 1 2)) * (Int32.toInt64 (sM 1 0))), .long 1000]) (rest := []) ⟨hx, hb, hml, hown, hts⟩ (K_T_up ((Int32.toInt64 (sM 1 2)) * (Int32.toInt64 (sM 1 0))) 1000) ⟨va_cnB 2 hts gX1_turnsOfShot_X4_up_n62 rfl rfl rfl hE.2.1.2.2.2.2.1 (hts (.initialized RX4) (List.mem_of_getElem? (i := 4) rfl)) (by decide +kernel) ⟨Nat.le_of_ble_eq_true rfl, Nat.le_of_ble_eq_true rfl⟩, (hts (.static yX4_up) (List.mem_of_getElem? (i := 3) rfl)), trivial⟩ (preS_of hE hA hS trivial) rfl rfl hl.1 rfl (lv_room (Nat.le_of_ble_eq_true rfl)) dX1_turnsOfShot_18 ⟨Nat.zero_le _, Nat.zero_le _⟩) ?_
  refine lv_l2i (v := (Int64.toInt32 (m_T_up ((Int32.toInt64 (sM 1 2)) * (Int32.toInt64 (sM 1 0))) 1000))) hx hb dX1_turnsOfShot_21 rfl ?_
  have hM : (m_M_turnsOfShot sM) = ((Int64.toInt32 (m_T_up ((Int32.toInt64 (sM 1 2)) * (Int32.toInt64 (sM 1 0))) 1000)) : Int32) := hM
  exact hret _ _ ls (nr_i _) dX1_turnsOfShot_22 hM.symm
abbrev rm_J_bitCount : Room := { frames := 0, cells := 0, slots := 0, locals := 0 }
set_option maxHeartbeats 4000000 in
set_option maxRecDepth 100000 in
theorem K_J_bitCount {l : Launch} {D : va_G} {cI : ClassId} {lo : Nat} (p0 : Int32) : ROi l D cI lo yJ6_bitCount_0f7a4 wsJ6_bitCount_0f7a4 rm_J_bitCount [.int p0] (fun H => True) (m_J_bitCount p0) := by
  refine ofW_ROi (cc := cJ6_bitCount_0f7a4) (maxL := 1) (ty := .int) (by decide +kernel) rfl (Nat.le_of_ble_eq_true rfl) ?_
  intro p e s m args below meth c Q hx hb hml hown hts hE hP hret ls hl
  have hown : s.vm.findClass RJ6 = some m.cls := hown
  have hA : ∀ q : Nat, (fun _ : Nat => False) q → lo ≤ q := fun _ h => h.elim
  have hS : va_S (fun _ : Nat => False) s.heap s.heap [] := va_S.rf
  have hl : lv_has ls 1 [(0, .int p0)] := hl
  have hM : (m_J_bitCount p0) = (m_J_bitCount p0) := rfl
  refine lv_iload_n hx hb dJ6_bitCount_0f7a4_0 rfl (lv_at hl 0 rfl) ?_
  refine lv_iload_n hx hb dJ6_bitCount_0f7a4_1 rfl (lv_at hl 0 rfl) ?_
  refine lv_iconst (v := 1) hx hb dJ6_bitCount_0f7a4_2 (by decide) ?_
  refine lv_iushr (v := ((Int32.toUInt32 p0 >>> (Int32.toUInt32 1 &&& Int32.toUInt32 31)).toInt32)) hx hb dJ6_bitCount_0f7a4_3 rfl ?_
  refine lv_ldcw (own := RJ6) (index := 265) (v := 1431655765) hx hb hown (hts (.constant RJ6 265 (1431655765)) (List.mem_of_getElem? (i := 1) rfl)) dJ6_bitCount_0f7a4_4 ?_
  refine lv_iand hx hb dJ6_bitCount_0f7a4_7 ?_
  refine lv_isub hx hb dJ6_bitCount_0f7a4_8 ?_
  refine lv_istore_n (lv' := [(0, .int (p0 - (((Int32.toUInt32 p0 >>> (Int32.toUInt32 1 &&& Int32.toUInt32 31)).toInt32) &&& 1431655765)))]) hx hb dJ6_bitCount_0f7a4_9 rfl hl (by decide) rfl (fun ls hl => ?_)
  refine lv_iload_n hx hb dJ6_bitCount_0f7a4_10 rfl (lv_at hl 0 rfl) ?_
  refine lv_ldcw (own := RJ6) (index := 266) (v := 858993459) hx hb hown (hts (.constant RJ6 266 (858993459)) (List.mem_of_getElem? (i := 2) rfl)) dJ6_bitCount_0f7a4_11 ?_
  refine lv_iand hx hb dJ6_bitCount_0f7a4_14 ?_
  refine lv_iload_n hx hb dJ6_bitCount_0f7a4_15 rfl (lv_at hl 0 rfl) ?_
  refine lv_iconst (v := 2) hx hb dJ6_bitCount_0f7a4_16 (by decide) ?_
  refine lv_iushr (v := ((Int32.toUInt32 (p0 - (((Int32.toUInt32 p0 >>> (Int32.toUInt32 1 &&& Int32.toUInt32 31)).toInt32) &&& 1431655765)) >>> (Int32.toUInt32 2 &&& Int32.toUInt32 31)).toInt32)) hx hb dJ6_bitCount_0f7a4_17 rfl ?_
  refine lv_ldcw (own := RJ6) (index := 266) (v := 858993459) hx hb hown (hts (.constant RJ6 266 (858993459)) (List.mem_of_getElem? (i := 2) rfl)) dJ6_bitCount_0f7a4_18 ?_
  refine lv_iand hx hb dJ6_bitCount_0f7a4_21 ?_
  refine lv_iadd hx hb dJ6_bitCount_0f7a4_22 ?_
  refine lv_istore_n (lv' := [(0, .int (((p0 - (((Int32.toUInt32 p0 >>> (Int32.toUInt32 1 &&& Int32.toUInt32 31)).toInt32) &&& 1431655765)) &&& 858993459) + (((Int32.toUInt32 (p0 - (((Int32.toUInt32 p0 >>> (Int32.toUInt32 1 &&& Int32.toUInt32 31)).toInt32) &&& 1431655765)) >>> (Int32.toUInt32 2 &&& Int32.toUInt32 31)).toInt32) &&& 858993459)))]) hx hb dJ6_bitCount_0f7a4_23 rfl hl (by decide) rfl (fun ls hl => ?_)
  refine lv_iload_n hx hb dJ6_bitCount_0f7a4_24 rfl (lv_at hl 0 rfl) ?_
  refine lv_iload_n hx hb dJ6_bitCount_0f7a4_25 rfl (lv_at hl 0 rfl) ?_
  refine lv_iconst (v := 4) hx hb dJ6_bitCount_0f7a4_26 (by decide) ?_
  refine lv_iushr (v := ((Int32.toUInt32 (((p0 - (((Int32.toUInt32 p0 >>> (Int32.toUInt32 1 &&& Int32.toUInt32 31)).toInt32) &&& 1431655765)) &&& 858993459) + (((Int32.toUInt32 (p0 - (((Int32.toUInt32 p0 >>> (Int32.toUInt32 1 &&& Int32.toUInt32 31)).toInt32) &&& 1431655765)) >>> (Int32.toUInt32 2 &&& Int32.toUInt32 31)).toInt32) &&& 858993459)) >>> (Int32.toUInt32 4 &&& Int32.toUInt32 31)).toInt32)) hx hb dJ6_bitCount_0f7a4_27 rfl ?_
  refine lv_iadd hx hb dJ6_bitCount_0f7a4_28 ?_
  refine lv_ldcw (own := RJ6) (index := 267) (v := 252645135) hx hb hown (hts (.constant RJ6 267 (252645135)) (List.mem_of_getElem? (i := 3) rfl)) dJ6_bitCount_0f7a4_29 ?_
  refine lv_iand hx hb dJ6_bitCount_0f7a4_32 ?_
  refine lv_istore_n (lv' := [(0, .int (((((p0 - (((Int32.toUInt32 p0 >>> (Int32.toUInt32 1 &&& Int32.toUInt32 31)).toInt32) &&& 1431655765)) &&& 858993459) + (((Int32.toUInt32 (p0 - (((Int32.toUInt32 p0 >>> (Int32.toUInt32 1 &&& Int32.toUInt32 31)).toInt32) &&& 1431655765)) >>> (Int32.toUInt32 2 &&& Int32.toUInt32 31)).toInt32) &&& 858993459)) + ((Int32.toUInt32 (((p0 - (((Int32.toUInt32 p0 >>> (Int32.toUInt32 1 &&& Int32.toUInt32 31)).toInt32) &&& 1431655765)) &&& 858993459) + (((Int32.toUInt32 (p0 - (((Int32.toUInt32 p0 >>> (Int32.toUInt32 1 &&& Int32.toUInt32 31)).toInt32) &&& 1431655765)) >>> (Int32.toUInt32 2 &&& Int32.toUInt32 31)).toInt32) &&& 858993459)) >>> (Int32.toUInt32 4 &&& Int32.toUInt32 31)).toInt32)) &&& 252645135))]) hx hb dJ6_bitCount_0f7a4_33 rfl hl (by decide) rfl (fun ls hl => ?_)
  refine lv_iload_n hx hb dJ6_bitCount_0f7a4_34 rfl (lv_at hl 0 rfl) ?_
  refine lv_iload_n hx hb dJ6_bitCount_0f7a4_35 rfl (lv_at hl 0 rfl) ?_
  refine lv_bipush (v := 8) hx hb dJ6_bitCount_0f7a4_36 (by decide) ?_
  refine lv_iushr (v := ((Int32.toUInt32 (((((p0 - (((Int32.toUInt32 p0 >>> (Int32.toUInt32 1 &&& Int32.toUInt32 31)).toInt32) &&& 1431655765)) &&& 858993459) + (((Int32.toUInt32 (p0 - (((Int32.toUInt32 p0 >>> (Int32.toUInt32 1 &&& Int32.toUInt32 31)).toInt32) &&& 1431655765)) >>> (Int32.toUInt32 2 &&& Int32.toUInt32 31)).toInt32) &&& 858993459)) + ((Int32.toUInt32 (((p0 - (((Int32.toUInt32 p0 >>> (Int32.toUInt32 1 &&& Int32.toUInt32 31)).toInt32) &&& 1431655765)) &&& 858993459) + (((Int32.toUInt32 (p0 - (((Int32.toUInt32 p0 >>> (Int32.toUInt32 1 &&& Int32.toUInt32 31)).toInt32) &&& 1431655765)) >>> (Int32.toUInt32 2 &&& Int32.toUInt32 31)).toInt32) &&& 858993459)) >>> (Int32.toUInt32 4 &&& Int32.toUInt32 31)).toInt32)) &&& 252645135) >>> (Int32.toUInt32 8 &&& Int32.toUInt32 31)).toInt32)) hx hb dJ6_bitCount_0f7a4_38 rfl ?_
  refine lv_iadd hx hb dJ6_bitCount_0f7a4_39 ?_
  refine lv_istore_n (lv' := [(0, .int ((((((p0 - (((Int32.toUInt32 p0 >>> (Int32.toUInt32 1 &&& Int32.toUInt32 31)).toInt32) &&& 1431655765)) &&& 858993459) + (((Int32.toUInt32 (p0 - (((Int32.toUInt32 p0 >>> (Int32.toUInt32 1 &&& Int32.toUInt32 31)).toInt32) &&& 1431655765)) >>> (Int32.toUInt32 2 &&& Int32.toUInt32 31)).toInt32) &&& 858993459)) + ((Int32.toUInt32 (((p0 - (((Int32.toUInt32 p0 >>> (Int32.toUInt32 1 &&& Int32.toUInt32 31)).toInt32) &&& 1431655765)) &&& 858993459) + (((Int32.toUInt32 (p0 - (((Int32.toUInt32 p0 >>> (Int32.toUInt32 1 &&& Int32.toUInt32 31)).toInt32) &&& 1431655765)) >>> (Int32.toUInt32 2 &&& Int32.toUInt32 31)).toInt32) &&& 858993459)) >>> (Int32.toUInt32 4 &&& Int32.toUInt32 31)).toInt32)) &&& 252645135) + ((Int32.toUInt32 (((((p0 - (((Int32.toUInt32 p0 >>> (Int32.toUInt32 1 &&& Int32.toUInt32 31)).toInt32) &&& 1431655765)) &&& 858993459) + (((Int32.toUInt32 (p0 - (((Int32.toUInt32 p0 >>> (Int32.toUInt32 1 &&& Int32.toUInt32 31)).toInt32) &&& 1431655765)) >>> (Int32.toUInt32 2 &&& Int32.toUInt32 31)).toInt32) &&& 858993459)) + ((Int32.toUInt32 (((p0 - (((Int32.toUInt32 p0 >>> (Int32.toUInt32 1 &&& Int32.toUInt32 31)).toInt32) &&& 1431655765)) &&& 858993459) + (((Int32.toUInt32 (p0 - (((Int32.toUInt32 p0 >>> (Int32.toUInt32 1 &&& Int32.toUInt32 31)).toInt32) &&& 1431655765)) >>> (Int32.toUInt32 2 &&& Int32.toUInt32 31)).toInt32) &&& 858993459)) >>> (Int32.toUInt32 4 &&& Int32.toUInt32 31)).toInt32)) &&& 252645135) >>> (Int32.toUInt32 8 &&& Int32.toUInt32 31)).toInt32)))]) hx hb dJ6_bitCount_0f7a4_40 rfl hl (by decide) rfl (fun ls hl => ?_)
  refine lv_iload_n hx hb dJ6_bitCount_0f7a4_41 rfl (lv_at hl 0 rfl) ?_
  refine lv_iload_n hx hb dJ6_bitCount_0f7a4_42 rfl (lv_at hl 0 rfl) ?_
  refine lv_bipush (v := 16) hx hb dJ6_bitCount_0f7a4_43 (by decide) ?_
  refine lv_iushr (v := ((Int32.toUInt32 ((((((p0 - (((Int32.toUInt32 p0 >>> (Int32.toUInt32 1 &&& Int32.toUInt32 31)).toInt32) &&& 1431655765)) &&& 858993459) + (((Int32.toUInt32 (p0 - (((Int32.toUInt32 p0 >>> (Int32.toUInt32 1 &&& Int32.toUInt32 31)).toInt32) &&& 1431655765)) >>> (Int32.toUInt32 2 &&& Int32.toUInt32 31)).toInt32) &&& 858993459)) + ((Int32.toUInt32 (((p0 - (((Int32.toUInt32 p0 >>> (Int32.toUInt32 1 &&& Int32.toUInt32 31)).toInt32) &&& 1431655765)) &&& 858993459) + (((Int32.toUInt32 (p0 - (((Int32.toUInt32 p0 >>> (Int32.toUInt32 1 &&& Int32.toUInt32 31)).toInt32) &&& 1431655765)) >>> (Int32.toUInt32 2 &&& Int32.toUInt32 31)).toInt32) &&& 858993459)) >>> (Int32.toUInt32 4 &&& Int32.toUInt32 31)).toInt32)) &&& 252645135) + ((Int32.toUInt32 (((((p0 - (((Int32.toUInt32 p0 >>> (Int32.toUInt32 1 &&& Int32.toUInt32 31)).toInt32) &&& 1431655765)) &&& 858993459) + (((Int32.toUInt32 (p0 - (((Int32.toUInt32 p0 >>> (Int32.toUInt32 1 &&& Int32.toUInt32 31)).toInt32) &&& 1431655765)) >>> (Int32.toUInt32 2 &&& Int32.toUInt32 31)).toInt32) &&& 858993459)) + ((Int32.toUInt32 (((p0 - (((Int32.toUInt32 p0 >>> (Int32.toUInt32 1 &&& Int32.toUInt32 31)).toInt32) &&& 1431655765)) &&& 858993459) + (((Int32.toUInt32 (p0 - (((Int32.toUInt32 p0 >>> (Int32.toUInt32 1 &&& Int32.toUInt32 31)).toInt32) &&& 1431655765)) >>> (Int32.toUInt32 2 &&& Int32.toUInt32 31)).toInt32) &&& 858993459)) >>> (Int32.toUInt32 4 &&& Int32.toUInt32 31)).toInt32)) &&& 252645135) >>> (Int32.toUInt32 8 &&& Int32.toUInt32 31)).toInt32)) >>> (Int32.toUInt32 16 &&& Int32.toUInt32 31)).toInt32)) hx hb dJ6_bitCount_0f7a4_45 rfl ?_
  refine lv_iadd hx hb dJ6_bitCount_0f7a4_46 ?_
  refine lv_istore_n (lv' := [(0, .int (((((((p0 - (((Int32.toUInt32 p0 >>> (Int32.toUInt32 1 &&& Int32.toUInt32 31)).toInt32) &&& 1431655765)) &&& 858993459) + (((Int32.toUInt32 (p0 - (((Int32.toUInt32 p0 >>> (Int32.toUInt32 1 &&& Int32.toUInt32 31)).toInt32) &&& 1431655765)) >>> (Int32.toUInt32 2 &&& Int32.toUInt32 31)).toInt32) &&& 858993459)) + ((Int32.toUInt32 (((p0 - (((Int32.toUInt32 p0 >>> (Int32.toUInt32 1 &&& Int32.toUInt32 31)).toInt32) &&& 1431655765)) &&& 858993459) + (((Int32.toUInt32 (p0 - (((Int32.toUInt32 p0 >>> (Int32.toUInt32 1 &&& Int32.toUInt32 31)).toInt32) &&& 1431655765)) >>> (Int32.toUInt32 2 &&& Int32.toUInt32 31)).toInt32) &&& 858993459)) >>> (Int32.toUInt32 4 &&& Int32.toUInt32 31)).toInt32)) &&& 252645135) + ((Int32.toUInt32 (((((p0 - (((Int32.toUInt32 p0 >>> (Int32.toUInt32 1 &&& Int32.toUInt32 31)).toInt32) &&& 1431655765)) &&& 858993459) + (((Int32.toUInt32 (p0 - (((Int32.toUInt32 p0 >>> (Int32.toUInt32 1 &&& Int32.toUInt32 31)).toInt32) &&& 1431655765)) >>> (Int32.toUInt32 2 &&& Int32.toUInt32 31)).toInt32) &&& 858993459)) + ((Int32.toUInt32 (((p0 - (((Int32.toUInt32 p0 >>> (Int32.toUInt32 1 &&& Int32.toUInt32 31)).toInt32) &&& 1431655765)) &&& 858993459) + (((Int32.toUInt32 (p0 - (((Int32.toUInt32 p0 >>> (Int32.toUInt32 1 &&& Int32.toUInt32 31)).toInt32) &&& 1431655765)) >>> (Int32.toUInt32 2 &&& Int32.toUInt32 31)).toInt32) &&& 858993459)) >>> (Int32.toUInt32 4 &&& Int32.toUInt32 31)).toInt32)) &&& 252645135) >>> (Int32.toUInt32 8 &&& Int32.toUInt32 31)).toInt32)) + ((Int32.toUInt32 ((((((p0 - (((Int32.toUInt32 p0 >>> (Int32.toUInt32 1 &&& Int32.toUInt32 31)).toInt32) &&& 1431655765)) &&& 858993459) + (((Int32.toUInt32 (p0 - (((Int32.toUInt32 p0 >>> (Int32.toUInt32 1 &&& Int32.toUInt32 31)).toInt32) &&& 1431655765)) >>> (Int32.toUInt32 2 &&& Int32.toUInt32 31)).toInt32) &&& 858993459)) + ((Int32.toUInt32 (((p0 - (((Int32.toUInt32 p0 >>> (Int32.toUInt32 1 &&& Int32.toUInt32 31)).toInt32) &&& 1431655765)) &&& 858993459) + (((Int32.toUInt32 (p0 - (((Int32.toUInt32 p0 >>> (Int32.toUInt32 1 &&& Int32.toUInt32 31)).toInt32) &&& 1431655765)) >>> (Int32.toUInt32 2 &&& Int32.toUInt32 31)).toInt32) &&& 858993459)) >>> (Int32.toUInt32 4 &&& Int32.toUInt32 31)).toInt32)) &&& 252645135) + ((Int32.toUInt32 (((((p0 - (((Int32.toUInt32 p0 >>> (Int32.toUInt32 1 &&& Int32.toUInt32 31)).toInt32) &&& 1431655765)) &&& 858993459) + (((Int32.toUInt32 (p0 - (((Int32.toUInt32 p0 >>> (Int32.toUInt32 1 &&& Int32.toUInt32 31)).toInt32) &&& 1431655765)) >>> (Int32.toUInt32 2 &&& Int32.toUInt32 31)).toInt32) &&& 858993459)) + ((Int32.toUInt32 (((p0 - (((Int32.toUInt32 p0 >>> (Int32.toUInt32 1 &&& Int32.toUInt32 31)).toInt32) &&& 1431655765)) &&& 858993459) + (((Int32.toUInt32 (p0 - (((Int32.toUInt32 p0 >>> (Int32.toUInt32 1 &&& Int32.toUInt32 31)).toInt32) &&& 1431655765)) >>> (Int32.toUInt32 2 &&& Int32.toUInt32 31)).toInt32) &&& 858993459)) >>> (Int32.toUInt32 4 &&& Int32.toUInt32 31)).toInt32)) &&& 252645135) >>> (Int32.toUInt32 8 &&& Int32.toUInt32 31)).toInt32)) >>> (Int32.toUInt32 16 &&& Int32.toUInt32 31)).toInt32)))]) hx hb dJ6_bitCount_0f7a4_47 rfl hl (by decide) rfl (fun ls hl => ?_)
  refine lv_iload_n hx hb dJ6_bitCount_0f7a4_48 rfl (lv_at hl 0 rfl) ?_
  refine lv_bipush (v := 63) hx hb dJ6_bitCount_0f7a4_49 (by decide) ?_
  refine lv_iand hx hb dJ6_bitCount_0f7a4_51 ?_
  have hM : (m_J_bitCount p0) = (((((((((p0 - (((Int32.toUInt32 p0 >>> (Int32.toUInt32 1 &&& Int32.toUInt32 31)).toInt32) &&& 1431655765)) &&& 858993459) + (((Int32.toUInt32 (p0 - (((Int32.toUInt32 p0 >>> (Int32.toUInt32 1 &&& Int32.toUInt32 31)).toInt32) &&& 1431655765)) >>> (Int32.toUInt32 2 &&& Int32.toUInt32 31)).toInt32) &&& 858993459)) + ((Int32.toUInt32 (((p0 - (((Int32.toUInt32 p0 >>> (Int32.toUInt32 1 &&& Int32.toUInt32 31)).toInt32) &&& 1431655765)) &&& 858993459) + (((Int32.toUInt32 (p0 - (((Int32.toUInt32 p0 >>> (Int32.toUInt32 1 &&& Int32.toUInt32 31)).toInt32) &&& 1431655765)) >>> (Int32.toUInt32 2 &&& Int32.toUInt32 31)).toInt32) &&& 858993459)) >>> (Int32.toUInt32 4 &&& Int32.toUInt32 31)).toInt32)) &&& 252645135) + ((Int32.toUInt32 (((((p0 - (((Int32.toUInt32 p0 >>> (Int32.toUInt32 1 &&& Int32.toUInt32 31)).toInt32) &&& 1431655765)) &&& 858993459) + (((Int32.toUInt32 (p0 - (((Int32.toUInt32 p0 >>> (Int32.toUInt32 1 &&& Int32.toUInt32 31)).toInt32) &&& 1431655765)) >>> (Int32.toUInt32 2 &&& Int32.toUInt32 31)).toInt32) &&& 858993459)) + ((Int32.toUInt32 (((p0 - (((Int32.toUInt32 p0 >>> (Int32.toUInt32 1 &&& Int32.toUInt32 31)).toInt32) &&& 1431655765)) &&& 858993459) + (((Int32.toUInt32 (p0 - (((Int32.toUInt32 p0 >>> (Int32.toUInt32 1 &&& Int32.toUInt32 31)).toInt32) &&& 1431655765)) >>> (Int32.toUInt32 2 &&& Int32.toUInt32 31)).toInt32) &&& 858993459)) >>> (Int32.toUInt32 4 &&& Int32.toUInt32 31)).toInt32)) &&& 252645135) >>> (Int32.toUInt32 8 &&& Int32.toUInt32 31)).toInt32)) + ((Int32.toUInt32 ((((((p0 - (((Int32.toUInt32 p0 >>> (Int32.toUInt32 1 &&& Int32.toUInt32 31)).toInt32) &&& 1431655765)) &&& 858993459) + (((Int32.toUInt32 (p0 - (((Int32.toUInt32 p0 >>> (Int32.toUInt32 1 &&& Int32.toUInt32 31)).toInt32) &&& 1431655765)) >>> (Int32.toUInt32 2 &&& Int32.toUInt32 31)).toInt32) &&& 858993459)) + ((Int32.toUInt32 (((p0 - (((Int32.toUInt32 p0 >>> (Int32.toUInt32 1 &&& Int32.toUInt32 31)).toInt32) &&& 1431655765)) &&& 858993459) + (((Int32.toUInt32 (p0 - (((Int32.toUInt32 p0 >>> (Int32.toUInt32 1 &&& Int32.toUInt32 31)).toInt32) &&& 1431655765)) >>> (Int32.toUInt32 2 &&& Int32.toUInt32 31)).toInt32) &&& 858993459)) >>> (Int32.toUInt32 4 &&& Int32.toUInt32 31)).toInt32)) &&& 252645135) + ((Int32.toUInt32 (((((p0 - (((Int32.toUInt32 p0 >>> (Int32.toUInt32 1 &&& Int32.toUInt32 31)).toInt32) &&& 1431655765)) &&& 858993459) + (((Int32.toUInt32 (p0 - (((Int32.toUInt32 p0 >>> (Int32.toUInt32 1 &&& Int32.toUInt32 31)).toInt32) &&& 1431655765)) >>> (Int32.toUInt32 2 &&& Int32.toUInt32 31)).toInt32) &&& 858993459)) + ((Int32.toUInt32 (((p0 - (((Int32.toUInt32 p0 >>> (Int32.toUInt32 1 &&& Int32.toUInt32 31)).toInt32) &&& 1431655765)) &&& 858993459) + (((Int32.toUInt32 (p0 - (((Int32.toUInt32 p0 >>> (Int32.toUInt32 1 &&& Int32.toUInt32 31)).toInt32) &&& 1431655765)) >>> (Int32.toUInt32 2 &&& Int32.toUInt32 31)).toInt32) &&& 858993459)) >>> (Int32.toUInt32 4 &&& Int32.toUInt32 31)).toInt32)) &&& 252645135) >>> (Int32.toUInt32 8 &&& Int32.toUInt32 31)).toInt32)) >>> (Int32.toUInt32 16 &&& Int32.toUInt32 31)).toInt32)) &&& 63) : Int32) := hM
  exact hret _ _ ls (nr_i _) dJ6_bitCount_0f7a4_52 hM.symm
