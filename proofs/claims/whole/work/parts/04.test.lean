def m_J_floorDiv  (p0 : Int64) (p2 : Int64) : Int64 :=
  (if 0 ≤ (lg_cmp (p0 ^^^ p2) 0) then (p0 / p2)
  else (if (lg_cmp ((p0 / p2) * p2) p0) = 0 then (p0 / p2)
  else ((p0 / p2) - 1)))
def m_T_down  (p0 : Int64) (p2 : Int64) : Int64 :=
  (if (lg_cmp p2 0) ≤ 0 then 0
  else (m_J_floorDiv p0 p2))
def m_T_within  (p0 : Int32) (p1 : Int32) (p2 : Int32) : Int32 :=
  (if p0 < p1 then 0
  else (if p2 < p0 then 0
  else 1))
def m_M_takes (sM : St) (p1 : Int32) (p2 : Int32) : Int32 :=
  (if (m_T_within p1 0 8) = 0 then 0
  else (if (m_T_within p2 (zML (Int32.toNatClampNeg p1)) (zMM (Int32.toNatClampNeg p1))) = 0 then 0
  else 1))
theorem lg_nz {y : Int64} (h : ¬ lg_cmp y 0 ≤ 0) : ¬ y = 0 := fun e => h (by rw [e]; decide)
theorem within_t {v a b : Int32} (h : ¬ m_T_within v a b = 0) : a.toInt ≤ v.toInt ∧ v.toInt ≤ b.toInt := by
  unfold m_T_within at h
  split at h
  · exact absurd rfl h
  · split at h
    · exact absurd rfl h
    · rename_i h1 h2
      exact ⟨nlt_t h1, nlt_t h2⟩
abbrev rm_J_floorDiv : Room := { frames := 0, cells := 0, slots := 0, locals := 0 }
set_option maxHeartbeats 4000000 in
set_option maxRecDepth 100000 in
theorem K_J_floorDiv {l : Launch} {D : va_G} {cI : ClassId} {lo : Nat} (p0 : Int64) (p2 : Int64) (h0 : ¬ p2 = 0) : ROl l D cI lo yJ9_floorDiv_f86c9 wsJ9_floorDiv_f86c9 rm_J_floorDiv [.long p0, .long p2] (fun H => True) (m_J_floorDiv p0 p2) := by
  refine ofW_ROl (cc := cJ9_floorDiv_f86c9) (maxL := 6) (by decide +kernel) rfl (Nat.le_of_ble_eq_true rfl) ?_
  intro p e s m args below meth c Q hx hb hml hown hts hE hP hret ls hl
  have hown : s.vm.findClass RJ9 = some m.cls := hown
  have hA : ∀ q : Nat, (fun _ : Nat => False) q → lo ≤ q := fun _ h => h.elim
  have hS : va_S (fun _ : Nat => False) s.heap s.heap [] := va_S.rf
  have hl : lv_has ls 6 [(0, .long p0), (2, .long p2)] := hl
  have hM : (m_J_floorDiv p0 p2) = (m_J_floorDiv p0 p2) := rfl
  refine lv_lload_n hx hb dJ9_floorDiv_f86c9_0 rfl (lv_at hl 0 rfl) ?_
  refine lv_lload_n hx hb dJ9_floorDiv_f86c9_1 rfl (lv_at hl 1 rfl) ?_
  refine lv_ldiv hx hb dJ9_floorDiv_f86c9_2 (by assumption) ?_
  refine lv_lstore (lv' := [(4, .long (p0 / p2)), (0, .long p0), (2, .long p2)]) hx hb dJ9_floorDiv_f86c9_3 hl (by decide) rfl (fun ls hl => ?_)
  refine lv_lload_n hx hb dJ9_floorDiv_f86c9_5 rfl (lv_at hl 1 rfl) ?_
  refine lv_lload_n hx hb dJ9_floorDiv_f86c9_6 rfl (lv_at hl 2 rfl) ?_
  refine lv_lxor hx hb dJ9_floorDiv_f86c9_7 ?_
  refine lv_lconst (v := 0) hx hb dJ9_floorDiv_f86c9_8 (by decide) ?_
  refine W.lcmp hx hb dJ9_floorDiv_f86c9_9 ?_
  refine lv_if_ge (tgt := 27) hx hb dJ9_floorDiv_f86c9_10 (by decide) (fun c_1 => ?_) (fun c_1 => ?_)
  · have hM := hM.trans (if_pos c_1)
    refine lv_lload hx hb dJ9_floorDiv_f86c9_27 (lv_at hl 0 rfl) ?_
    exact hret _ _ ls dJ9_floorDiv_f86c9_29 hM.symm
  · have hM := hM.trans (if_neg c_1)
    refine lv_lload hx hb dJ9_floorDiv_f86c9_13 (lv_at hl 0 rfl) ?_
    refine lv_lload_n hx hb dJ9_floorDiv_f86c9_15 rfl (lv_at hl 2 rfl) ?_
    refine lv_lmul hx hb dJ9_floorDiv_f86c9_16 ?_
    refine lv_lload_n hx hb dJ9_floorDiv_f86c9_17 rfl (lv_at hl 1 rfl) ?_
    refine W.lcmp hx hb dJ9_floorDiv_f86c9_18 ?_
    refine lv_if_eq (tgt := 27) hx hb dJ9_floorDiv_f86c9_19 (by decide) (fun c_2 => ?_) (fun c_2 => ?_)
    · have hM := hM.trans (if_pos c_2)
      refine lv_lload hx hb dJ9_floorDiv_f86c9_27 (lv_at hl 0 rfl) ?_
      exact hret _ _ ls dJ9_floorDiv_f86c9_29 hM.symm
    · have hM := hM.trans (if_neg c_2)
      refine lv_lload hx hb dJ9_floorDiv_f86c9_22 (lv_at hl 0 rfl) ?_
      refine lv_lconst (v := 1) hx hb dJ9_floorDiv_f86c9_24 (by decide) ?_
      refine lv_lsub hx hb dJ9_floorDiv_f86c9_25 ?_
      exact hret _ _ ls dJ9_floorDiv_f86c9_26 hM.symm
abbrev rm_T_down : Room := { frames := 1, cells := 0, slots := 0, locals := 25 }
set_option maxHeartbeats 4000000 in
set_option maxRecDepth 100000 in
theorem K_T_down {l : Launch} {D : va_G} {cI : ClassId} {lo : Nat} (p0 : Int64) (p2 : Int64) : ROl l D cI lo yX4_down wsX4_down rm_T_down [.long p0, .long p2] (fun H => True) (m_T_down p0 p2) := by
  refine ofW_ROl (cc := cX4_down) (maxL := 4) (by decide +kernel) rfl (Nat.le_of_ble_eq_true rfl) ?_
  intro p e s m args below meth c Q hx hb hml hown hts hE hP hret ls hl
  have hown : s.vm.findClass RX4 = some m.cls := hown
  have hA : ∀ q : Nat, (fun _ : Nat => False) q → lo ≤ q := fun _ h => h.elim
  have hS : va_S (fun _ : Nat => False) s.heap s.heap [] := va_S.rf
  have hl : lv_has ls 4 [(0, .long p0), (2, .long p2)] := hl
  have hM : (m_T_down p0 p2) = (m_T_down p0 p2) := rfl
  refine lv_lload_n hx hb dX4_down_0 rfl (lv_at hl 1 rfl) ?_
  refine lv_lconst (v := 0) hx hb dX4_down_1 (by decide) ?_
  refine W.lcmp hx hb dX4_down_2 ?_
  refine lv_if_le (tgt := 14) hx hb dX4_down_3 (by decide) (fun c_1 => ?_) (fun c_1 => ?_)
  · have hM := hM.trans (if_pos c_1)
    refine lv_lconst (v := 0) hx hb dX4_down_14 (by decide) ?_
    exact hret _ _ ls dX4_down_15 hM.symm
  · have hM := hM.trans (if_neg c_1)
    have nz := lg_nz c_1
    refine lv_lload_n hx hb dX4_down_6 rfl (lv_at hl 0 rfl) ?_
    refine lv_lload_n hx hb dX4_down_7 rfl (lv_at hl 1 rfl) ?_
    refine runS_l (va_runS (As := [.long p0, .long p2]) (rest := []) ⟨hx, hb, hml, hown, hts⟩ (K_J_floorDiv p0 p2 (by first | assumption | omega)) (va_cwS 2 hts gX4_down_J9_floorDiv_f86c9 rfl rfl rfl (by decide +kernel) ⟨Nat.le_of_ble_eq_true rfl, Nat.le_of_ble_eq_true rfl⟩) (preS_of hE hA hS trivial) rfl rfl hl.1 rfl (lv_room (Nat.le_of_ble_eq_true rfl)) dX4_down_8 ⟨Nat.zero_le _, Nat.zero_le _⟩) ?_
    refine lv_goto (tgt := 15) hx hb dX4_down_11 (by decide) ?_
    exact hret _ _ ls dX4_down_15 hM.symm
abbrev rm_T_within : Room := { frames := 0, cells := 0, slots := 0, locals := 0 }
set_option maxHeartbeats 4000000 in
set_option maxRecDepth 100000 in
theorem K_T_within {l : Launch} {D : va_G} {cI : ClassId} {lo : Nat} (p0 : Int32) (p1 : Int32) (p2 : Int32) : ROi l D cI lo yX4_within wsX4_within rm_T_within [.int p0, .int p1, .int p2] (fun H => True) (m_T_within p0 p1 p2) := by
  refine ofW_ROi (cc := cX4_within) (maxL := 3) (ty := .boolean) (by decide +kernel) rfl (Nat.le_of_ble_eq_true rfl) ?_
  intro p e s m args below meth c Q hx hb hml hown hts hE hP hret ls hl
  have hown : s.vm.findClass RX4 = some m.cls := hown
  have hA : ∀ q : Nat, (fun _ : Nat => False) q → lo ≤ q := fun _ h => h.elim
  have hS : va_S (fun _ : Nat => False) s.heap s.heap [] := va_S.rf
  have hl : lv_has ls 3 [(0, .int p0), (1, .int p1), (2, .int p2)] := hl
  have hM : (m_T_within p0 p1 p2) = (m_T_within p0 p1 p2) := rfl
  refine lv_iload_n hx hb dX4_within_0 rfl (lv_at hl 0 rfl) ?_
  refine lv_iload_n hx hb dX4_within_1 rfl (lv_at hl 1 rfl) ?_
  refine lv_icmp_lt (tgt := 14) hx hb dX4_within_2 (by decide) (fun c_1 => ?_) (fun c_1 => ?_)
  · have hM := hM.trans (if_pos c_1)
    refine lv_iconst (v := 0) hx hb dX4_within_14 (by decide) ?_
    exact hret _ _ ls (by decide) dX4_within_15 hM.symm
  · have hM := hM.trans (if_neg c_1)
    refine lv_iload_n hx hb dX4_within_5 rfl (lv_at hl 0 rfl) ?_
    refine lv_iload_n hx hb dX4_within_6 rfl (lv_at hl 2 rfl) ?_
    refine lv_icmp_gt (tgt := 14) hx hb dX4_within_7 (by decide) (fun c_2 => ?_) (fun c_2 => ?_)
    · have hM := hM.trans (if_pos c_2)
      refine lv_iconst (v := 0) hx hb dX4_within_14 (by decide) ?_
      exact hret _ _ ls (by decide) dX4_within_15 hM.symm
    · have hM := hM.trans (if_neg c_2)
      refine lv_iconst (v := 1) hx hb dX4_within_10 (by decide) ?_
      refine lv_goto (tgt := 15) hx hb dX4_within_11 (by decide) ?_
      exact hret _ _ ls (by decide) dX4_within_15 hM.symm
abbrev rm_M_takes : Room := { frames := 1, cells := 0, slots := 0, locals := 22 }
set_option maxHeartbeats 4000000 in
set_option maxRecDepth 100000 in
theorem K_M_takes {l : Launch} {D : va_G} {cI : ClassId} {lo : Nat} {g : Nat → Nat} (hg : wI g 1 6 lo) (sM : St) (p1 : Int32) (p2 : Int32) : ROi l D cI lo yX1_takes wsX1_takes rm_M_takes [.ref (g 1), .int p1, .int p2] (fun H => va_P D vwCl (cellM cI g sM) H) (m_M_takes sM p1 p2) := by
  refine ofW_ROi (cc := cX1_takes) (maxL := 3) (ty := .boolean) (by decide +kernel) rfl (Nat.le_of_ble_eq_true rfl) ?_
  intro p e s m args below meth c Q hx hb hml hown hts hE hP hret ls hl
  have hown : s.vm.findClass RX1 = some m.cls := hown
  have hPM := hP
  have hA : ∀ q : Nat, (fun _ : Nat => False) q → lo ≤ q := fun _ h => h.elim
  have hS : va_S (fun _ : Nat => False) s.heap s.heap [] := va_S.rf
  have hl : lv_has ls 3 [(0, .ref (g 1)), (1, .int p1), (2, .int p2)] := hl
  have hM : (m_M_takes sM p1 p2) = (m_M_takes sM p1 p2) := rfl
  refine lv_iload_n hx hb dX1_takes_0 rfl (lv_at hl 1 rfl) ?_
  refine lv_iconst (v := 0) hx hb dX1_takes_1 (by decide) ?_
  refine lv_bipush (v := 8) hx hb dX1_takes_2 (by decide) ?_
  refine runS_i (va_runSN (As := [.int p1, .int 0, .int 8]) (rest := []) ⟨hx, hb, hml, hown, hts⟩ (K_T_within p1 0 8) ⟨va_cnB 3 hts gX1_takes_X4_within_n27 rfl rfl rfl hE.2.1.2.1 (hts (.initialized RX4) (List.mem_of_getElem? (i := 4) rfl)) (by decide +kernel) ⟨Nat.le_of_ble_eq_true rfl, Nat.le_of_ble_eq_true rfl⟩, (hts (.static yX4_within) (List.mem_of_getElem? (i := 3) rfl)), trivial⟩ (preS_of hE hA hS trivial) rfl rfl hl.1 rfl (lv_room (Nat.le_of_ble_eq_true rfl)) dX1_takes_4 ⟨Nat.zero_le _, Nat.zero_le _⟩) ?_
  refine lv_if_eq (tgt := 31) hx hb dX1_takes_7 (by decide) (fun c_1 => ?_) (fun c_1 => ?_)
  · have hM := hM.trans (if_pos c_1)
    have t_1 : (m_T_within p1 0 8).toInt = 0 := eq_t c_1
    refine lv_iconst (v := 0) hx hb dX1_takes_31 (by decide) ?_
    exact hret _ _ ls (by decide) dX1_takes_32 hM.symm
  · have hM := hM.trans (if_neg c_1)
    have t_1 : (m_T_within p1 0 8).toInt ≠ 0 := ne_t c_1
    have u_1 : 0 ≤ p1.toInt ∧ p1.toInt ≤ 8 := within_t c_1
    refine lv_iload_n hx hb dX1_takes_10 rfl (lv_at hl 2 rfl) ?_
    obtain ⟨tzML, hZzML, hTzML⟩ := hE.2.2.1
    refine va_gets hx hb (hZzML.narrow hA) hS hown (hts (.fieldLink RX1 31 "WallStones$Machine" "LEAST" "[I") (List.mem_of_getElem? (i := 1) rfl)) (fun _ h9 => h9) dX1_takes_11 ?_
    refine lv_iload_n hx hb dX1_takes_14 rfl (lv_at hl 1 rfl) ?_
    refine va_ti hx hb (hTzML.narrow hA) hS (i := p1) (vp_in_iff.mpr (by omega)) (v := .int (zML (Int32.toNatClampNeg p1))) rfl dX1_takes_15 ?_
    obtain ⟨tzMM, hZzMM, hTzMM⟩ := hE.2.2.2.1
    refine va_gets hx hb (hZzMM.narrow hA) hS hown (hts (.fieldLink RX1 34 "WallStones$Machine" "MOST" "[I") (List.mem_of_getElem? (i := 2) rfl)) (fun _ h9 => h9) dX1_takes_16 ?_
    refine lv_iload_n hx hb dX1_takes_19 rfl (lv_at hl 1 rfl) ?_
    refine va_ti hx hb (hTzMM.narrow hA) hS (i := p1) (vp_in_iff.mpr (by omega)) (v := .int (zMM (Int32.toNatClampNeg p1))) rfl dX1_takes_20 ?_
    refine runS_i (va_runSN (As := [.int p2, .int (zML (Int32.toNatClampNeg p1)), .int (zMM (Int32.toNatClampNeg p1))]) (rest := []) ⟨hx, hb, hml, hown, hts⟩ (K_T_within p2 (zML (Int32.toNatClampNeg p1)) (zMM (Int32.toNatClampNeg p1))) ⟨va_cnB 3 hts gX1_takes_X4_within_n27 rfl rfl rfl hE.2.1.2.1 (hts (.initialized RX4) (List.mem_of_getElem? (i := 4) rfl)) (by decide +kernel) ⟨Nat.le_of_ble_eq_true rfl, Nat.le_of_ble_eq_true rfl⟩, (hts (.static yX4_within) (List.mem_of_getElem? (i := 3) rfl)), trivial⟩ (preS_of hE hA hS trivial) rfl rfl hl.1 rfl (lv_room (Nat.le_of_ble_eq_true rfl)) dX1_takes_21 ⟨Nat.zero_le _, Nat.zero_le _⟩) ?_
    refine lv_if_eq (tgt := 31) hx hb dX1_takes_24 (by decide) (fun c_2 => ?_) (fun c_2 => ?_)
    · have hM := hM.trans (if_pos c_2)
      have t_2 : (m_T_within p2 (zML (Int32.toNatClampNeg p1)) (zMM (Int32.toNatClampNeg p1))).toInt = 0 := eq_t c_2
      refine lv_iconst (v := 0) hx hb dX1_takes_31 (by decide) ?_
      exact hret _ _ ls (by decide) dX1_takes_32 hM.symm
    · have hM := hM.trans (if_neg c_2)
      have t_2 : (m_T_within p2 (zML (Int32.toNatClampNeg p1)) (zMM (Int32.toNatClampNeg p1))).toInt ≠ 0 := ne_t c_2
      have u_2 : (zML (Int32.toNatClampNeg p1)).toInt ≤ p2.toInt ∧ p2.toInt ≤ (zMM (Int32.toNatClampNeg p1)).toInt := within_t c_2
      refine lv_iconst (v := 1) hx hb dX1_takes_27 (by decide) ?_
      refine lv_goto (tgt := 32) hx hb dX1_takes_28 (by decide) ?_
      exact hret _ _ ls (by decide) dX1_takes_32 hM.symm
