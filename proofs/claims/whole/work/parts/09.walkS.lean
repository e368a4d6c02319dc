abbrev rm_S_takes : Room := { frames := 1, cells := 0, slots := 0, locals := 22 }
set_option maxHeartbeats 4000000 in
set_option maxRecDepth 100000 in
theorem K_S_takes {l : Launch} {D : va_G} {cI : ClassId} {lo : Nat} {g : Nat → Nat} (hg : wI g 17 19 lo) (sS : St) (p1 : Int32) (p2 : Int32) : ROi l D cI lo yX2_takes wsX2_takes rm_S_takes [.ref (g 17), .int p1, .int p2] (fun H => va_P D vwCl (cellS cI g sS) H) (m_S_takes sS p1 p2) := by
  refine ofW_ROi (cc := cX2_takes) (maxL := 3) (ty := .boolean) (by decide +kernel) rfl (Nat.le_of_ble_eq_true rfl) ?_
  intro p e s m args below meth c Q hx hb hml hown hts hE hP hret ls hl
  have hown : s.vm.findClass RX2 = some m.cls := hown
  have hPS := hP
  have hA : ∀ q : Nat, (fun _ : Nat => False) q → lo ≤ q := fun _ h => h.elim
  have hS : va_S (fun _ : Nat => False) s.heap s.heap [] := va_S.rf
  have hl : lv_has ls 3 [(0, .ref (g 17)), (1, .int p1), (2, .int p2)] := hl
  have hM : (m_S_takes sS p1 p2) = (m_S_takes sS p1 p2) := rfl
  refine lv_iload_n hx hb dX2_takes_0 rfl (lv_at hl 1 rfl) ?_
  refine lv_iconst (v := 0) hx hb dX2_takes_1 (by decide) ?_
  refine lv_iconst (v := 4) hx hb dX2_takes_2 (by decide) ?_
  refine runS_i (va_runSN (As := [.int p1, .int 0, .int 4]) (rest := []) ⟨hx, hb, hml, hown, hts⟩ (K_T_within p1 0 4) ⟨va_cnB 3 hts gX2_takes_X4_within_n19 rfl rfl rfl hE.2.1.2.2.2.2.2.1 (hts (.initialized RX4) (List.mem_of_getElem? (i := 4) rfl)) (by decide +kernel) ⟨Nat.le_of_ble_eq_true rfl, Nat.le_of_ble_eq_true rfl⟩, (hts (.static yX4_within) (List.mem_of_getElem? (i := 3) rfl)), trivial⟩ (preS_of hE hA hS trivial) rfl rfl hl.1 rfl (lv_room (Nat.le_of_ble_eq_true rfl)) dX2_takes_3 ⟨Nat.zero_le _, Nat.zero_le _⟩) ?_
  refine lv_if_eq (tgt := 30) hx hb dX2_takes_6 (by decide) (fun c_1 => ?_) (fun c_1 => ?_)
  · have hM := hM.trans (if_pos c_1)
    have t_1 := eq_t c_1
    rw [tl_0] at t_1
    refine lv_iconst (v := 0) hx hb dX2_takes_30 (by decide) ?_
    have hM : (m_S_takes sS p1 p2) = (0 : Int32) := hM
    exact hret _ _ ls (by decide) dX2_takes_31 hM.symm
  · have hM := hM.trans (if_neg c_1)
    have t_1 := ne_t c_1
    rw [tl_0] at t_1
    have u_1 := within_t c_1
    rw [tl_0, tl_4] at u_1
    refine lv_iload_n hx hb dX2_takes_9 rfl (lv_at hl 2 rfl) ?_
    obtain ⟨tzSL, hZzSL, hTzSL⟩ := hE.2.2.2.2.1
    refine va_gets hx hb (hZzSL.narrow hA) hS hown (hts (.fieldLink RX2 23 "WallStones$Siege" "LEAST" "[I") (List.mem_of_getElem? (i := 1) rfl)) (fun _ h9 => h9) dX2_takes_10 ?_
    refine lv_iload_n hx hb dX2_takes_13 rfl (lv_at hl 1 rfl) ?_
    refine va_ti hx hb (hTzSL.narrow hA) hS (i := p1) (vp_in_iff.mpr (by omega)) (v := .int (zSL (Int32.toNatClampNeg p1))) rfl dX2_takes_14 ?_
    obtain ⟨tzSM, hZzSM, hTzSM⟩ := hE.2.2.2.2.2
    refine va_gets hx hb (hZzSM.narrow hA) hS hown (hts (.fieldLink RX2 26 "WallStones$Siege" "MOST" "[I") (List.mem_of_getElem? (i := 2) rfl)) (fun _ h9 => h9) dX2_takes_15 ?_
    refine lv_iload_n hx hb dX2_takes_18 rfl (lv_at hl 1 rfl) ?_
    refine va_ti hx hb (hTzSM.narrow hA) hS (i := p1) (vp_in_iff.mpr (by omega)) (v := .int (zSM (Int32.toNatClampNeg p1))) rfl dX2_takes_19 ?_
    refine runS_i (va_runSN (As := [.int p2, .int (zSL (Int32.toNatClampNeg p1)), .int (zSM (Int32.toNatClampNeg p1))]) (rest := []) ⟨hx, hb, hml, hown, hts⟩ (K_T_within p2 (zSL (Int32.toNatClampNeg p1)) (zSM (Int32.toNatClampNeg p1))) ⟨va_cnB 3 hts gX2_takes_X4_within_n19 rfl rfl rfl hE.2.1.2.2.2.2.2.1 (hts (.initialized RX4) (List.mem_of_getElem? (i := 4) rfl)) (by decide +kernel) ⟨Nat.le_of_ble_eq_true rfl, Nat.le_of_ble_eq_true rfl⟩, (hts (.static yX4_within) (List.mem_of_getElem? (i := 3) rfl)), trivial⟩ (preS_of hE hA hS trivial) rfl rfl hl.1 rfl (lv_room (Nat.le_of_ble_eq_true rfl)) dX2_takes_20 ⟨Nat.zero_le _, Nat.zero_le _⟩) ?_
    refine lv_if_eq (tgt := 30) hx hb dX2_takes_23 (by decide) (fun c_2 => ?_) (fun c_2 => ?_)
    · have hM := hM.trans (if_pos c_2)
      have t_2 := eq_t c_2
      rw [tl_0] at t_2
      refine lv_iconst (v := 0) hx hb dX2_takes_30 (by decide) ?_
      have hM : (m_S_takes sS p1 p2) = (0 : Int32) := hM
      exact hret _ _ ls (by decide) dX2_takes_31 hM.symm
    · have hM := hM.trans (if_neg c_2)
      have t_2 := ne_t c_2
      rw [tl_0] at t_2
      have u_2 := within_t c_2
      refine lv_iconst (v := 1) hx hb dX2_takes_26 (by decide) ?_
      refine lv_goto (tgt := 31) hx hb dX2_takes_27 (by decide) ?_
      have hM : (m_S_takes sS p1 p2) = (1 : Int32) := hM
      exact hret _ _ ls (by decide) dX2_takes_31 hM.symm
abbrev rm_S_put : Room := { frames := 2, cells := 0, slots := 0, locals := 44 }
set_option maxHeartbeats 4000000 in
set_option maxRecDepth 100000 in
theorem K_S_put {l : Launch} {D : va_G} {cI : ClassId} {lo : Nat} {g : Nat → Nat} (hg : wI g 17 19 lo) (sS : St) (p1 : Int32) (p2 : Int32) : WRi l D cI lo yX2_put wsX2_put rm_S_put [.ref (g 17), .int p1, .int p2] (fun H => va_P D vwCl (cellS cI g sS) H) (m_S_put sS p1 p2).1 (fun H => va_P D vwCl (cellS cI g (m_S_put sS p1 p2).2) H) (wA g 17 19) := by
  refine ofW_WRi (cc := cX2_put) (maxL := 4) (ty := .int) (by decide +kernel) rfl (Nat.le_of_ble_eq_true rfl) ?_
  intro p e s m args below meth c Q hx hb hml hown hts hE hP hret ls hl
  have hown : s.vm.findClass RX2 = some m.cls := hown
  have hPS := hP
  have hA := wA.lo hg
  have hS : va_S (wA g 17 19) s.heap s.heap [] := va_S.rf
  obtain ⟨H, hH⟩ : ∃ z, z = s.heap := ⟨_, rfl⟩
  obtain ⟨locs, hlocs⟩ : ∃ z : List Loc, z = [] := ⟨_, rfl⟩
  have hPS : va_P D vwCl (cellS cI g sS) H := by rw [hH]; exact hPS
  have hS : va_S (wA g 17 19) s.heap H locs := by rw [hH, hlocs]; exact va_S.rf
  have gW : W p l e rm_S_put s m args below meth c H locs 0 0 Q (F0 m 0 ls []) → W p l e rm_S_put s m args below meth c s.heap [] 0 0 Q (F0 m 0 ls []) := by rw [hH, hlocs]; exact id
  refine gW ?_
  have hinS : ∀ w ∈ wsX20, w ∈ wsX2_put := fun w h => List.mem_cons_of_mem _ (List.mem_append_right _ h)
  have hl : lv_has ls 4 [(0, .ref (g 17)), (1, .int p1), (2, .int p2)] := hl
  have hM : (m_S_put sS p1 p2) = (m_S_put sS p1 p2) := rfl
  refine lv_aload_n hx hb dX2_put_0 rfl (lv_at hl 0 rfl) ?_
  refine lv_iload_n hx hb dX2_put_1 rfl (lv_at hl 1 rfl) ?_
  refine lv_iload_n hx hb dX2_put_2 rfl (lv_at hl 2 rfl) ?_
  refine runS_i (va_runV (As := [.int p1, .int p2]) (rest := []) ⟨hx, hb, hml, hown, hts⟩ (K_S_takes hg sS p1 p2) (cwV 2 hts gX2_put_X2_takes rfl rfl rfl (by decide +kernel) ⟨Nat.le_of_ble_eq_true rfl, Nat.le_of_ble_eq_true rfl⟩) (preV_of hE hA hS hPS (va_recv hE.1 hPS (ci := 2) (q0 := 0) rfl rfl)) rfl rfl hl.1 rfl (lv_room (Nat.le_of_ble_eq_true rfl)) dX2_put_3 ⟨Nat.zero_le _, Nat.zero_le _⟩) ?_
  refine lv_if_ne (tgt := 11) hx hb dX2_put_6 (by decide) (fun c_1 => ?_) (fun c_1 => ?_)
  · have hM := hM.trans (if_neg c_1)
    have t_1 := ne_t c_1
    rw [tl_0] at t_1
    have u_1 := stakes_t c_1
    refine lv_aload_n hx hb dX2_put_11 rfl (lv_at hl 0 rfl) ?_
    refine va_get (D := D) (ci := 2) (v := .ref (g 18)) (C := RX2) (T := TX2) (N := 3) hx hb hts hinS hown hE.1 hPS 0 rfl rfl 0 (by decide) (hts (.fieldLink RX2 9 "WallStones$Siege" "stored" "[I") (List.mem_of_getElem? (i := 1) rfl)) (fun _ h9 => h9) rfl dX2_put_12 ?_
    refine lv_iload_n hx hb dX2_put_15 rfl (lv_at hl 1 rfl) ?_
    refine va_iald hx hb hE.1 hPS 1 0 rfl rfl (vp_in_iff.mpr (by omega)) dX2_put_16 ?_
    refine W.eq (g2 := F0 m 17 ls [.int (sS 1 (Int32.toNatClampNeg p1))]) rfl ?_
    refine lv_istore_n (lv' := [(3, .int (sS 1 (Int32.toNatClampNeg p1))), (0, .ref (g 17)), (1, .int p1), (2, .int p2)]) hx hb dX2_put_17 rfl hl (by decide) rfl (fun ls hl => ?_)
    refine lv_aload_n hx hb dX2_put_18 rfl (lv_at hl 1 rfl) ?_
    refine va_get (D := D) (ci := 2) (v := .ref (g 18)) (C := RX2) (T := TX2) (N := 3) hx hb hts hinS hown hE.1 hPS 0 rfl rfl 0 (by decide) (hts (.fieldLink RX2 9 "WallStones$Siege" "stored" "[I") (List.mem_of_getElem? (i := 1) rfl)) (fun _ h9 => h9) rfl dX2_put_19 ?_
    refine lv_iload_n hx hb dX2_put_22 rfl (lv_at hl 2 rfl) ?_
    refine lv_iload_n hx hb dX2_put_23 rfl (lv_at hl 3 rfl) ?_
    refine va_iast hx hb hE.1 hPS (wD_of hg (c := 17) (n := 2) (by decide) (by decide) rfl) hS 1 0 rfl rfl (vp_in_iff.mpr (by omega)) dX2_put_24 (fun H locs hPn _ hS => ?_)
    have hPS : va_P D vwCl (cellS cI g (up sS 1 (Int32.toNatClampNeg p1) p2)) H := (congrArg (fun z => va_P D vwCl z H) setS_S1).mp hPn
    refine lv_iload_n hx hb dX2_put_25 rfl (lv_at hl 0 rfl) ?_
    have hM : (m_S_put sS p1 p2) = (((sS 1 (Int32.toNatClampNeg p1)), (up sS 1 (Int32.toNatClampNeg p1) p2)) : Int32 × St) := hM
    exact hret (sS 1 (Int32.toNatClampNeg p1)) H locs _ ls (nr_i _) dX2_put_26 (ret1 hM) (rP_v1 (P := fun (z0 : St) => va_P D vwCl (cellS cI g z0) H) hM hPS) hS
  · have hM := hM.trans (if_pos c_1)
    have t_1 := eq_t c_1
    rw [tl_0] at t_1
    refine lv_iconst (v := (-1)) hx hb dX2_put_9 (by decide) ?_
    have hM : (m_S_put sS p1 p2) = (((-1), sS) : Int32 × St) := hM
    exact hret (-1) H locs _ ls (nr_i _) dX2_put_10 (ret1 hM) (rP_v1 (P := fun (z0 : St) => va_P D vwCl (cellS cI g z0) H) hM hPS) hS
abbrev rm_S_stones : Room := { frames := 0, cells := 0, slots := 0, locals := 0 }
set_option maxHeartbeats 4000000 in
set_option maxRecDepth 100000 in
theorem K_S_stones {l : Launch} {D : va_G} {cI : ClassId} {lo : Nat} {g : Nat → Nat} (hg : wI g 17 19 lo) (sS : St) : ROi l D cI lo yX2_stones wsX2_stones rm_S_stones [.ref (g 17)] (fun H => va_P D vwCl (cellS cI g sS) H) (m_S_stones sS) := by
  refine ofW_ROi (cc := cX2_stones) (maxL := 1) (ty := .int) (by decide +kernel) rfl (Nat.le_of_ble_eq_true rfl) ?_
  intro p e s m args below meth c Q hx hb hml hown hts hE hP hret ls hl
  have hown : s.vm.findClass RX2 = some m.cls := hown
  have hPS := hP
  have hA : ∀ q : Nat, (fun _ : Nat => False) q → lo ≤ q := fun _ h => h.elim
  have hS : va_S (fun _ : Nat => False) s.heap s.heap [] := va_S.rf
  have hinS : ∀ w ∈ wsX20, w ∈ wsX2_stones := fun w h => List.mem_cons_of_mem _ (List.mem_append_right _ h)
  have hl : lv_has ls 1 [(0, .ref (g 17))] := hl
  have hM : (m_S_stones sS) = (m_S_stones sS) := rfl
  refine lv_aload_n hx hb dX2_stones_0 rfl (lv_at hl 0 rfl) ?_
  refine va_get (D := D) (ci := 2) (v := .ref (g 18)) (C := RX2) (T := TX2) (N := 3) hx hb hts hinS hown hE.1 hPS 0 rfl rfl 0 (by decide) (hts (.fieldLink RX2 9 "WallStones$Siege" "stored" "[I") (List.mem_of_getElem? (i := 1) rfl)) (fun _ h9 => h9) rfl dX2_stones_1 ?_
  refine lv_iconst (v := 1) hx hb dX2_stones_4 (by decide) ?_
  refine va_iald hx hb hE.1 hPS 1 0 rfl rfl (vp_in_iff.mpr (by decide)) dX2_stones_5 ?_
  refine W.eq (congrArg (fun z => F0 m 6 ls [.int (sS 1 z)]) cl_1) ?_
  have hM : (m_S_stones sS) = ((sS 1 1) : Int32) := hM
  exact hret _ _ ls (nr_i _) dX2_stones_6 hM.symm
abbrev rm_S_spendStone : Room := { frames := 1, cells := 0, slots := 0, locals := 24 }
set_option maxHeartbeats 4000000 in
set_option maxRecDepth 100000 in
theorem K_S_spendStone {l : Launch} {D : va_G} {cI : ClassId} {lo : Nat} {g : Nat → Nat} (hg : wI g 17 19 lo) (sS : St) : WRv l D cI lo yX2_spendStone wsX2_spendStone rm_S_spendStone [.ref (g 17)] (fun H => va_P D vwCl (cellS cI g sS) H) (fun H => va_P D vwCl (cellS cI g (m_S_spendStone sS)) H) (wA g 17 19) := by
  refine ofW_WRv (cc := cX2_spendStone) (maxL := 1) (by decide +kernel) rfl (Nat.le_of_ble_eq_true rfl) ?_
  intro p e s m args below meth c Q hx hb hml hown hts hE hP hret ls hl
  have hown : s.vm.findClass RX2 = some m.cls := hown
  have hPS := hP
  have hA := wA.lo hg
  have hS : va_S (wA g 17 19) s.heap s.heap [] := va_S.rf
  obtain ⟨H, hH⟩ : ∃ z, z = s.heap := ⟨_, rfl⟩
  obtain ⟨locs, hlocs⟩ : ∃ z : List Loc, z = [] := ⟨_, rfl⟩
  have hPS : va_P D vwCl (cellS cI g sS) H := by rw [hH]; exact hPS
  have hS : va_S (wA g 17 19) s.heap H locs := by rw [hH, hlocs]; exact va_S.rf
  have gW : W p l e rm_S_spendStone s m args below meth c H locs 0 0 Q (F0 m 0 ls []) → W p l e rm_S_spendStone s m args below meth c s.heap [] 0 0 Q (F0 m 0 ls []) := by rw [hH, hlocs]; exact id
  refine gW ?_
  have hinS : ∀ w ∈ wsX20, w ∈ wsX2_spendStone := fun w h => List.mem_cons_of_mem _ (List.mem_append_right _ h)
  have hl : lv_has ls 1 [(0, .ref (g 17))] := hl
  have hM : (m_S_spendStone sS) = (m_S_spendStone sS) := rfl
  refine lv_aload_n hx hb dX2_spendStone_0 rfl (lv_at hl 0 rfl) ?_
  refine va_get (D := D) (ci := 2) (v := .ref (g 18)) (C := RX2) (T := TX2) (N := 3) hx hb hts hinS hown hE.1 hPS 0 rfl rfl 0 (by decide) (hts (.fieldLink RX2 9 "WallStones$Siege" "stored" "[I") (List.mem_of_getElem? (i := 1) rfl)) (fun _ h9 => h9) rfl dX2_spendStone_1 ?_
  refine lv_iconst (v := 1) hx hb dX2_spendStone_4 (by decide) ?_
  refine lv_iconst (v := 0) hx hb dX2_spendStone_5 (by decide) ?_
  refine lv_aload_n hx hb dX2_spendStone_6 rfl (lv_at hl 0 rfl) ?_
  refine va_get (D := D) (ci := 2) (v := .ref (g 18)) (C := RX2) (T := TX2) (N := 3) hx hb hts hinS hown hE.1 hPS 0 rfl rfl 0 (by decide) (hts (.fieldLink RX2 9 "WallStones$Siege" "stored" "[I") (List.mem_of_getElem? (i := 1) rfl)) (fun _ h9 => h9) rfl dX2_spendStone_7 ?_
  refine lv_iconst (v := 1) hx hb dX2_spendStone_10 (by decide) ?_
  refine va_iald hx hb hE.1 hPS 1 0 rfl rfl (vp_in_iff.mpr (by decide)) dX2_spendStone_11 ?_
  refine W.eq (congrArg (fun z => F0 m 12 ls [.int (sS 1 z), .int 0, .int 1, .ref (g 18)]) cl_1) ?_
  refine lv_iconst (v := 1) hx hb dX2_spendStone_12 (by decide) ?_
  refine lv_isub hx hb dX2_spendStone_13 ?_
  refine va_mmax hx hb (by rw [hml]; exact hl.1.symm) hown (hts (.methodLink RX2 33 Lib.Math.max.name) (List.mem_of_getElem? (i := 2) rfl)) (hts (.static Lib.Math.max.name) (List.mem_of_getElem? (i := 3) rfl)) (hts (.initialized "java/lang/Math") (List.mem_of_getElem? (i := 4) rfl)) (hts (.code Lib.Math.max.name Lib.Math.max.code 2 (some .int)) (List.mem_of_getElem? (i := 5) rfl)) (Nat.le_of_ble_eq_true rfl) (Nat.le_of_ble_eq_true rfl) (Nat.zero_le _) (Nat.zero_le _) dX2_spendStone_14 ?_
  refine va_iast hx hb hE.1 hPS (wD_of hg (c := 17) (n := 2) (by decide) (by decide) rfl) hS 1 0 rfl rfl (vp_in_iff.mpr (by decide)) dX2_spendStone_17 (fun H locs hPn _ hS => ?_)
  rw [cl_1] at hPn
  have hPS : va_P D vwCl (cellS cI g (up sS 1 1 (if 0 < ((sS 1 1) - 1) then ((sS 1 1) - 1) else 0))) H := (congrArg (fun z => va_P D vwCl z H) setS_S1).mp hPn
  have hM : (m_S_spendStone sS) = ((up sS 1 1 (if 0 < ((sS 1 1) - 1) then ((sS 1 1) - 1) else 0)) : St) := hM
  exact hret H locs _ ls dX2_spendStone_18 (rP_s1 (P := fun (z0 : St) => va_P D vwCl (cellS cI g z0) H) hM hPS) hS
abbrev rm_S_putWet : Room := { frames := 0, cells := 0, slots := 0, locals := 0 }
set_option maxHeartbeats 4000000 in
set_option maxRecDepth 100000 in
theorem K_S_putWet {l : Launch} {D : va_G} {cI : ClassId} {lo : Nat} {g : Nat → Nat} (hg : wI g 17 19 lo) (sS : St) (p1 : Int32) (p2 : Int32) : WRv l D cI lo yX2_putWet wsX2_putWet rm_S_putWet [.ref (g 17), .int p1, .int p2] (fun H => va_P D vwCl (cellS cI g sS) H) (fun H => va_P D vwCl (cellS cI g (m_S_putWet sS p1 p2)) H) (wA g 17 19) := by
  refine ofW_WRv (cc := cX2_putWet) (maxL := 3) (by decide +kernel) rfl (Nat.le_of_ble_eq_true rfl) ?_
  intro p e s m args below meth c Q hx hb hml hown hts hE hP hret ls hl
  have hown : s.vm.findClass RX2 = some m.cls := hown
  have hPS := hP
  have hA := wA.lo hg
  have hS : va_S (wA g 17 19) s.heap s.heap [] := va_S.rf
  obtain ⟨H, hH⟩ : ∃ z, z = s.heap := ⟨_, rfl⟩
  obtain ⟨locs, hlocs⟩ : ∃ z : List Loc, z = [] := ⟨_, rfl⟩
  have hPS : va_P D vwCl (cellS cI g sS) H := by rw [hH]; exact hPS
  have hS : va_S (wA g 17 19) s.heap H locs := by rw [hH, hlocs]; exact va_S.rf
  have gW : W p l e rm_S_putWet s m args below meth c H locs 0 0 Q (F0 m 0 ls []) → W p l e rm_S_putWet s m args below meth c s.heap [] 0 0 Q (F0 m 0 ls []) := by rw [hH, hlocs]; exact id
  refine gW ?_
  have hinS : ∀ w ∈ wsX20, w ∈ wsX2_putWet := fun w h => List.mem_cons_of_mem _ (List.mem_append_right _ h)
  have hl : lv_has ls 3 [(0, .ref (g 17)), (1, .int p1), (2, .int p2)] := hl
  have hM : (m_S_putWet sS p1 p2) = (m_S_putWet sS p1 p2) := rfl
  refine lv_aload_n hx hb dX2_putWet_0 rfl (lv_at hl 0 rfl) ?_
  refine lv_iload_n hx hb dX2_putWet_1 rfl (lv_at hl 1 rfl) ?_
  refine va_put (D := D) (ci := 2) (v := .int p1) (ty := .int) (C := RX2) (T := TX2) (N := 3) hx hb hts hinS tyX2 tyX2_ok nmX2 hown hE.1 hPS (wD_of hg (c := 17) (n := 2) (by decide) (by decide) rfl) hS 0 rfl rfl 1 (by decide) (hts (.fieldLink RX2 15 "WallStones$Siege" "wetRow" "I") (List.mem_of_getElem? (i := 1) rfl)) (fun _ h9 => h9) rfl (by decide +kernel) rfl rfl (Nat.le_of_ble_eq_true rfl) dX2_putWet_2 (fun H locs hPn _ hS => ?_)
  have hPS : va_P D vwCl (cellS cI g (up sS 0 1 p1)) H := (congrArg (fun z => va_P D vwCl z H) putS_S1).mp hPn
  refine lv_aload_n hx hb dX2_putWet_5 rfl (lv_at hl 0 rfl) ?_
  refine lv_iload_n hx hb dX2_putWet_6 rfl (lv_at hl 2 rfl) ?_
  refine va_put (D := D) (ci := 2) (v := .int p2) (ty := .int) (C := RX2) (T := TX2) (N := 3) hx hb hts hinS tyX2 tyX2_ok nmX2 hown hE.1 hPS (wD_of hg (c := 17) (n := 2) (by decide) (by decide) rfl) hS 0 rfl rfl 2 (by decide) (hts (.fieldLink RX2 39 "WallStones$Siege" "wetBits" "I") (List.mem_of_getElem? (i := 2) rfl)) (fun _ h9 => h9) rfl (by decide +kernel) rfl rfl (Nat.le_of_ble_eq_true rfl) dX2_putWet_7 (fun H locs hPn _ hS => ?_)
  have hPS : va_P D vwCl (cellS cI g (up (up sS 0 1 p1) 0 2 p2)) H := (congrArg (fun z => va_P D vwCl z H) putS_S2).mp hPn
  have hM : (m_S_putWet sS p1 p2) = ((up (up sS 0 1 p1) 0 2 p2) : St) := hM
  exact hret H locs _ ls dX2_putWet_10 (rP_s1 (P := fun (z0 : St) => va_P D vwCl (cellS cI g z0) H) hM hPS) hS
abbrev rm_S_isWet : Room := { frames := 0, cells := 0, slots := 0, locals := 0 }
set_option maxHeartbeats 4000000 in
set_option maxRecDepth 100000 in
theorem K_S_isWet {l : Launch} {D : va_G} {cI : ClassId} {lo : Nat} {g : Nat → Nat} (hg : wI g 17 19 lo) (sS : St) (p1 : Int32) : ROi l D cI lo yX2_isWet wsX2_isWet rm_S_isWet [.ref (g 17), .int p1] (fun H => va_P D vwCl (cellS cI g sS) H) (m_S_isWet sS p1) := by
  refine ofW_ROi (cc := cX2_isWet) (maxL := 3) (ty := .boolean) (by decide +kernel) rfl (Nat.le_of_ble_eq_true rfl) ?_
  intro p e s m args below meth c Q hx hb hml hown hts hE hP hret ls hl
  have hown : s.vm.findClass RX2 = some m.cls := hown
  have hPS := hP
  have hA : ∀ q : Nat, (fun _ : Nat => False) q → lo ≤ q := fun _ h => h.elim
  have hS : va_S (fun _ : Nat => False) s.heap s.heap [] := va_S.rf
  have hinS : ∀ w ∈ wsX20, w ∈ wsX2_isWet := fun w h => List.mem_cons_of_mem _ (List.mem_append_right _ h)
  have hl : lv_has ls 3 [(0, .ref (g 17)), (1, .int p1)] := hl
  have hM : (m_S_isWet sS p1) = (m_S_isWet sS p1) := rfl
  refine lv_aload_n hx hb dX2_isWet_0 rfl (lv_at hl 0 rfl) ?_
  refine va_get (D := D) (ci := 2) (v := .int (sS 0 1)) (C := RX2) (T := TX2) (N := 3) hx hb hts hinS hown hE.1 hPS 0 rfl rfl 1 (by decide) (hts (.fieldLink RX2 15 "WallStones$Siege" "wetRow" "I") (List.mem_of_getElem? (i := 1) rfl)) (fun _ h9 => h9) rfl dX2_isWet_1 ?_
  refine lv_if_le (tgt := 16) hx hb dX2_isWet_4 (by decide) (fun c_1 => ?_) (fun c_1 => ?_)
  · have hM := hM.trans (if_pos c_1)
    have t_1 := le_t c_1
    rw [tl_0] at t_1
    refine lv_iconst (v := 0) hx hb dX2_isWet_16 (by decide) ?_
    refine lv_istore_n (lv' := [(2, .int 0), (0, .ref (g 17)), (1, .int p1)]) hx hb dX2_isWet_17 rfl hl (by decide) rfl (fun ls hl => ?_)
    refine lv_aload_n hx hb dX2_isWet_18 rfl (lv_at hl 1 rfl) ?_
    refine va_get (D := D) (ci := 2) (v := .int (sS 0 2)) (C := RX2) (T := TX2) (N := 3) hx hb hts hinS hown hE.1 hPS 0 rfl rfl 2 (by decide) (hts (.fieldLink RX2 39 "WallStones$Siege" "wetBits" "I") (List.mem_of_getElem? (i := 2) rfl)) (fun _ h9 => h9) rfl dX2_isWet_19 ?_
    refine lv_iload_n hx hb dX2_isWet_22 rfl (lv_at hl 0 rfl) ?_
    refine lv_ishr hx hb dX2_isWet_23 ?_
    refine lv_iconst (v := 1) hx hb dX2_isWet_24 (by decide) ?_
    refine lv_iand hx hb dX2_isWet_25 ?_
    refine lv_if_eq (tgt := 33) hx hb dX2_isWet_26 (by decide) (fun c_2 => ?_) (fun c_2 => ?_)
    · have hM := hM.trans (if_pos c_2)
      have t_2 := eq_t c_2
      rw [tl_0] at t_2
      refine lv_iconst (v := 0) hx hb dX2_isWet_33 (by decide) ?_
      have hM : (m_S_isWet sS p1) = (0 : Int32) := hM
      exact hret _ _ ls (by decide) dX2_isWet_34 hM.symm
    · have hM := hM.trans (if_neg c_2)
      have t_2 := ne_t c_2
      rw [tl_0] at t_2
      refine lv_iconst (v := 1) hx hb dX2_isWet_29 (by decide) ?_
      refine lv_goto (tgt := 34) hx hb dX2_isWet_30 (by decide) ?_
      have hM : (m_S_isWet sS p1) = (1 : Int32) := hM
      exact hret _ _ ls (by decide) dX2_isWet_34 hM.symm
  · have hM := hM.trans (if_neg c_1)
    have t_1 := nle_t c_1
    rw [tl_0] at t_1
    refine lv_iload_n hx hb dX2_isWet_7 rfl (lv_at hl 1 rfl) ?_
    refine lv_aload_n hx hb dX2_isWet_8 rfl (lv_at hl 0 rfl) ?_
    refine va_get (D := D) (ci := 2) (v := .int (sS 0 1)) (C := RX2) (T := TX2) (N := 3) hx hb hts hinS hown hE.1 hPS 0 rfl rfl 1 (by decide) (hts (.fieldLink RX2 15 "WallStones$Siege" "wetRow" "I") (List.mem_of_getElem? (i := 1) rfl)) (fun _ h9 => h9) rfl dX2_isWet_9 ?_
    refine lv_irem hx hb dX2_isWet_12 (ii_ne (b := 0) (by show _ ≠ (0 : Int); omega)) ?_
    refine lv_goto (tgt := 17) hx hb dX2_isWet_13 (by decide) ?_
    refine lv_istore_n (lv' := [(2, .int (p1 - p1 / (sS 0 1) * (sS 0 1))), (0, .ref (g 17)), (1, .int p1)]) hx hb dX2_isWet_17 rfl hl (by decide) rfl (fun ls hl => ?_)
    refine lv_aload_n hx hb dX2_isWet_18 rfl (lv_at hl 1 rfl) ?_
    refine va_get (D := D) (ci := 2) (v := .int (sS 0 2)) (C := RX2) (T := TX2) (N := 3) hx hb hts hinS hown hE.1 hPS 0 rfl rfl 2 (by decide) (hts (.fieldLink RX2 39 "WallStones$Siege" "wetBits" "I") (List.mem_of_getElem? (i := 2) rfl)) (fun _ h9 => h9) rfl dX2_isWet_19 ?_
    refine lv_iload_n hx hb dX2_isWet_22 rfl (lv_at hl 0 rfl) ?_
    refine lv_ishr hx hb dX2_isWet_23 ?_
    refine lv_iconst (v := 1) hx hb dX2_isWet_24 (by decide) ?_
    refine lv_iand hx hb dX2_isWet_25 ?_
    refine lv_if_eq (tgt := 33) hx hb dX2_isWet_26 (by decide) (fun c_3 => ?_) (fun c_3 => ?_)
    · have hM := hM.trans (if_pos c_3)
      have t_3 := eq_t c_3
      rw [tl_0] at t_3
      refine lv_iconst (v := 0) hx hb dX2_isWet_33 (by decide) ?_
      have hM : (m_S_isWet sS p1) = (0 : Int32) := hM
      exact hret _ _ ls (by decide) dX2_isWet_34 hM.symm
    · have hM := hM.trans (if_neg c_3)
      have t_3 := ne_t c_3
      rw [tl_0] at t_3
      refine lv_iconst (v := 1) hx hb dX2_isWet_29 (by decide) ?_
      refine lv_goto (tgt := 34) hx hb dX2_isWet_30 (by decide) ?_
      have hM : (m_S_isWet sS p1) = (1 : Int32) := hM
      exact hret _ _ ls (by decide) dX2_isWet_34 hM.symm
abbrev rm_S_wholeDays : Room := { frames := 2, cells := 0, slots := 0, locals := 48 }
set_option maxHeartbeats 4000000 in
set_option maxRecDepth 100000 in
theorem K_S_wholeDays {l : Launch} {D : va_G} {cI : ClassId} {lo : Nat} {g : Nat → Nat} (hg : wI g 17 19 lo) (sS : St) (p1 : Int32) (p2 : Int32) (p3 : Int32) (h0 : 0 ≤ p1.toInt ∧ p1.toInt ≤ 60) (h1 : 0 ≤ p3.toInt ∧ p3.toInt ≤ 100) : ROi l D cI lo yX2_wholeDays wsX2_wholeDays rm_S_wholeDays [.ref (g 17), .int p1, .int p2, .int p3] (fun H => va_P D vwCl (cellS cI g sS) H) (m_S_wholeDays sS p1 p2 p3) := by
  refine ofW_ROi (cc := cX2_wholeDays) (maxL := 12) (ty := .int) (by decide +kernel) rfl (Nat.le_of_ble_eq_true rfl) ?_
  intro p e s m args below meth c Q hx hb hml hown hts hE hP hret ls hl
  have hown : s.vm.findClass RX2 = some m.cls := hown
  have hPS := hP
  have hA : ∀ q : Nat, (fun _ : Nat => False) q → lo ≤ q := fun _ h => h.elim
  have hS : va_S (fun _ : Nat => False) s.heap s.heap [] := va_S.rf
  have hinS : ∀ w ∈ wsX20, w ∈ wsX2_wholeDays := fun w h => List.mem_cons_of_mem _ (List.mem_append_right _ h)
  have hl : lv_has ls 12 [(0, .ref (g 17)), (1, .int p1), (2, .int p2), (3, .int p3)] := hl
  have L_116 : ∀ (n : Nat) (x4_116 : Int32) (x5_116 : Int32) (x6_116 : Int32) (x7_116 : Int32) (x8_116 : Int32) (x9_116 : Int32) (x11_116 : Int32) (ls : Array Slot), 0 ≤ x11_116.toInt ∧ x11_116.toInt ≤ p1.toInt → (p1.toInt - x11_116.toInt).toNat < n → lv_has ls 12 [(0, .ref (g 17)), (1, .int p1), (2, .int p2), (3, .int p3), (4, .int x4_116), (5, .int x5_116), (6, .int x6_116), (7, .int x7_116), (8, .int x8_116), (9, .int x9_116), (11, .int x11_116)] → (∀ (ls : Array Slot), lv_has ls 12 [(0, .ref (g 17)), (1, .int p1), (2, .int p2), (3, .int p3), (4, .int x4_116), (5, .int x5_116), (6, .int (wl (g_S_wholeDays_116 sS p1 x9_116) n (x6_116, x7_116, x11_116)).1), (7, .int (wl (g_S_wholeDays_116 sS p1 x9_116) n (x6_116, x7_116, x11_116)).2.1), (8, .int x8_116)] → W p l e rm_S_wholeDays s m args below meth c s.heap [] 0 0 Q (F0 m 160 ls [])) → W p l e rm_S_wholeDays s m args below meth c s.heap [] 0 0 Q (F0 m 116 ls []) := by
    intro n
    induction n with
    | zero =>
      intro x4_116 x5_116 x6_116 x7_116 x8_116 x9_116 x11_116 ls i116_0 hn116 hl kk
      exact absurd hn116 (Nat.not_lt_zero _)
    | succ n ih =>
      intro x4_116 x5_116 x6_116 x7_116 x8_116 x9_116 x11_116 ls i116_0 hn116 hl kk
      have hM : (g_S_wholeDays_116 sS p1 x9_116) (x6_116, x7_116, x11_116) = (g_S_wholeDays_116 sS p1 x9_116) (x6_116, x7_116, x11_116) := rfl
      refine lv_iload hx hb dX2_wholeDays_116 (lv_at hl 10 rfl) ?_
      refine lv_iload_n hx hb dX2_wholeDays_118 rfl (lv_at hl 1 rfl) ?_
      refine lv_icmp_ge (tgt := 160) hx hb dX2_wholeDays_119 (by decide) (fun c_1 => ?_) (fun c_1 => ?_)
      · have hM := hM.trans (if_pos c_1)
        have t_1 := le_t c_1
        rw [wl_none hM] at kk
        exact kk ls (lv_sub hl [0, 1, 2, 3, 4, 5, 6, 7, 8] rfl)
      · have hM := hM.trans (if_neg c_1)
        have t_1 := nle_t c_1
        refine lv_iload hx hb dX2_wholeDays_122 (lv_at hl 7 rfl) ?_
        refine lv_iload hx hb dX2_wholeDays_124 (lv_at hl 9 rfl) ?_
        refine lv_if_eq (tgt := 133) hx hb dX2_wholeDays_126 (by decide) (fun c_2 => ?_) (fun c_2 => ?_)
        · have hM := hM.trans (if_pos c_2)
          have t_2 := eq_t c_2
          rw [tl_0] at t_2
          refine lv_iconst (v := 1) hx hb dX2_wholeDays_133 (by decide) ?_
          refine lv_iadd hx hb dX2_wholeDays_134 ?_
          refine lv_istore (lv' := [(7, .int (x7_116 + 1)), (0, .ref (g 17)), (1, .int p1), (2, .int p2), (3, .int p3), (4, .int x4_116), (5, .int x5_116), (6, .int x6_116), (8, .int x8_116), (9, .int x9_116), (11, .int x11_116)]) hx hb dX2_wholeDays_135 hl (by decide) rfl (fun ls hl => ?_)
          refine lv_iload hx hb dX2_wholeDays_137 (lv_at hl 0 rfl) ?_
          refine lv_aload_n hx hb dX2_wholeDays_139 rfl (lv_at hl 1 rfl) ?_
          refine va_get (D := D) (ci := 2) (v := .ref (g 18)) (C := RX2) (T := TX2) (N := 3) hx hb hts hinS hown hE.1 hPS 0 rfl rfl 0 (by decide) (hts (.fieldLink RX2 9 "WallStones$Siege" "stored" "[I") (List.mem_of_getElem? (i := 1) rfl)) (fun _ h9 => h9) rfl dX2_wholeDays_140 ?_
          refine lv_iconst (v := 4) hx hb dX2_wholeDays_143 (by decide) ?_
          refine va_iald hx hb hE.1 hPS 1 0 rfl rfl (vp_in_iff.mpr (by decide)) dX2_wholeDays_144 ?_
          refine W.eq (congrArg (fun z => F0 m 145 ls [.int (sS 1 z), .int (x7_116 + 1)]) cl_4) ?_
          refine lv_icmp_lt (tgt := 154) hx hb dX2_wholeDays_145 (by decide) (fun c_3 => ?_) (fun c_3 => ?_)
          · have hM := hM.trans (if_pos c_3)
            have t_3 := lt_t c_3
            refine lv_iinc (v := (x11_116 + 1)) (lv' := [(11, .int (x11_116 + 1)), (7, .int (x7_116 + 1)), (0, .ref (g 17)), (1, .int p1), (2, .int p2), (3, .int p3), (4, .int x4_116), (5, .int x5_116), (6, .int x6_116), (8, .int x8_116), (9, .int x9_116)]) hx hb dX2_wholeDays_154 hl (k := 10) rfl rfl (by decide) rfl (fun ls hl => ?_)
            refine lv_goto (tgt := 116) hx hb dX2_wholeDays_157 (by decide) ?_
            have := t_inc (x := x11_116) (by omega)
            rw [wl_some hM] at kk
            exact ih x4_116 x5_116 x6_116 (x7_116 + 1) x8_116 x9_116 (x11_116 + 1) ls (by omega) (by omega) (lv_sub hl [2, 3, 4, 5, 6, 7, 8, 1, 9, 10, 0] rfl) kk
          · have hM := hM.trans (if_neg c_3)
            have t_3 := nlt_t c_3
            refine lv_iconst (v := 0) hx hb dX2_wholeDays_148 (by decide) ?_
            refine lv_istore (lv' := [(7, .int 0), (0, .ref (g 17)), (1, .int p1), (2, .int p2), (3, .int p3), (4, .int x4_116), (5, .int x5_116), (6, .int x6_116), (8, .int x8_116), (9, .int x9_116), (11, .int x11_116)]) hx hb dX2_wholeDays_149 hl (by decide) rfl (fun ls hl => ?_)
            refine lv_iinc (v := (x6_116 + (-3))) (lv' := [(6, .int (x6_116 + (-3))), (7, .int 0), (0, .ref (g 17)), (1, .int p1), (2, .int p2), (3, .int p3), (4, .int x4_116), (5, .int x5_116), (8, .int x8_116), (9, .int x9_116), (11, .int x11_116)]) hx hb dX2_wholeDays_151 hl (k := 7) rfl rfl (by decide) rfl (fun ls hl => ?_)
            refine lv_iinc (v := (x11_116 + 1)) (lv' := [(11, .int (x11_116 + 1)), (6, .int (x6_116 + (-3))), (7, .int 0), (0, .ref (g 17)), (1, .int p1), (2, .int p2), (3, .int p3), (4, .int x4_116), (5, .int x5_116), (8, .int x8_116), (9, .int x9_116)]) hx hb dX2_wholeDays_154 hl (k := 10) rfl rfl (by decide) rfl (fun ls hl => ?_)
            refine lv_goto (tgt := 116) hx hb dX2_wholeDays_157 (by decide) ?_
            have := t_inc (x := x11_116) (by omega)
            have z4 := tl_0
            rw [wl_some hM] at kk
            exact ih x4_116 x5_116 (x6_116 + (-3)) 0 x8_116 x9_116 (x11_116 + 1) ls (by omega) (by omega) (lv_sub hl [3, 4, 5, 6, 7, 8, 1, 2, 9, 10, 0] rfl) kk
        · have hM := hM.trans (if_neg c_2)
          have t_2 := ne_t c_2
          rw [tl_0] at t_2
          refine lv_iconst (v := 2) hx hb dX2_wholeDays_129 (by decide) ?_
          refine lv_goto (tgt := 134) hx hb dX2_wholeDays_130 (by decide) ?_
          refine lv_iadd hx hb dX2_wholeDays_134 ?_
          refine lv_istore (lv' := [(7, .int (x7_116 + 2)), (0, .ref (g 17)), (1, .int p1), (2, .int p2), (3, .int p3), (4, .int x4_116), (5, .int x5_116), (6, .int x6_116), (8, .int x8_116), (9, .int x9_116), (11, .int x11_116)]) hx hb dX2_wholeDays_135 hl (by decide) rfl (fun ls hl => ?_)
          refine lv_iload hx hb dX2_wholeDays_137 (lv_at hl 0 rfl) ?_
          refine lv_aload_n hx hb dX2_wholeDays_139 rfl (lv_at hl 1 rfl) ?_
          refine va_get (D := D) (ci := 2) (v := .ref (g 18)) (C := RX2) (T := TX2) (N := 3) hx hb hts hinS hown hE.1 hPS 0 rfl rfl 0 (by decide) (hts (.fieldLink RX2 9 "WallStones$Siege" "stored" "[I") (List.mem_of_getElem? (i := 1) rfl)) (fun _ h9 => h9) rfl dX2_wholeDays_140 ?_
          refine lv_iconst (v := 4) hx hb dX2_wholeDays_143 (by decide) ?_
          refine va_iald hx hb hE.1 hPS 1 0 rfl rfl (vp_in_iff.mpr (by decide)) dX2_wholeDays_144 ?_
          refine W.eq (congrArg (fun z => F0 m 145 ls [.int (sS 1 z), .int (x7_116 + 2)]) cl_4) ?_
          refine lv_icmp_lt (tgt := 154) hx hb dX2_wholeDays_145 (by decide) (fun c_5 => ?_) (fun c_5 => ?_)
          · have hM := hM.trans (if_pos c_5)
            have t_5 := lt_t c_5
            refine lv_iinc (v := (x11_116 + 1)) (lv' := [(11, .int (x11_116 + 1)), (7, .int (x7_116 + 2)), (0, .ref (g 17)), (1, .int p1), (2, .int p2), (3, .int p3), (4, .int x4_116), (5, .int x5_116), (6, .int x6_116), (8, .int x8_116), (9, .int x9_116)]) hx hb dX2_wholeDays_154 hl (k := 10) rfl rfl (by decide) rfl (fun ls hl => ?_)
            refine lv_goto (tgt := 116) hx hb dX2_wholeDays_157 (by decide) ?_
            have := t_inc (x := x11_116) (by omega)
            rw [wl_some hM] at kk
            exact ih x4_116 x5_116 x6_116 (x7_116 + 2) x8_116 x9_116 (x11_116 + 1) ls (by omega) (by omega) (lv_sub hl [2, 3, 4, 5, 6, 7, 8, 1, 9, 10, 0] rfl) kk
          · have hM := hM.trans (if_neg c_5)
            have t_5 := nlt_t c_5
            refine lv_iconst (v := 0) hx hb dX2_wholeDays_148 (by decide) ?_
            refine lv_istore (lv' := [(7, .int 0), (0, .ref (g 17)), (1, .int p1), (2, .int p2), (3, .int p3), (4, .int x4_116), (5, .int x5_116), (6, .int x6_116), (8, .int x8_116), (9, .int x9_116), (11, .int x11_116)]) hx hb dX2_wholeDays_149 hl (by decide) rfl (fun ls hl => ?_)
            refine lv_iinc (v := (x6_116 + (-3))) (lv' := [(6, .int (x6_116 + (-3))), (7, .int 0), (0, .ref (g 17)), (1, .int p1), (2, .int p2), (3, .int p3), (4, .int x4_116), (5, .int x5_116), (8, .int x8_116), (9, .int x9_116), (11, .int x11_116)]) hx hb dX2_wholeDays_151 hl (k := 7) rfl rfl (by decide) rfl (fun ls hl => ?_)
            refine lv_iinc (v := (x11_116 + 1)) (lv' := [(11, .int (x11_116 + 1)), (6, .int (x6_116 + (-3))), (7, .int 0), (0, .ref (g 17)), (1, .int p1), (2, .int p2), (3, .int p3), (4, .int x4_116), (5, .int x5_116), (8, .int x8_116), (9, .int x9_116)]) hx hb dX2_wholeDays_154 hl (k := 10) rfl rfl (by decide) rfl (fun ls hl => ?_)
            refine lv_goto (tgt := 116) hx hb dX2_wholeDays_157 (by decide) ?_
            have := t_inc (x := x11_116) (by omega)
            have z6 := tl_0
            rw [wl_some hM] at kk
            exact ih x4_116 x5_116 (x6_116 + (-3)) 0 x8_116 x9_116 (x11_116 + 1) ls (by omega) (by omega) (lv_sub hl [3, 4, 5, 6, 7, 8, 1, 2, 9, 10, 0] rfl) kk
  have C_30 : ∀ (n : Nat) (x4_30 : Int32) (x5_30 : Int32) (x6_30 : Int32) (x7_30 : Int32) (x8_30 : Int32) (ls : Array Slot), 0 ≤ x8_30.toInt ∧ x8_30.toInt ≤ p3.toInt → (p3.toInt - x8_30.toInt).toNat < n → lv_has ls 12 [(0, .ref (g 17)), (1, .int p1), (2, .int p2), (3, .int p3), (4, .int x4_30), (5, .int x5_30), (6, .int x6_30), (7, .int x7_30), (8, .int x8_30)] → (m_S_wholeDays sS p1 p2 p3) = wc (g_S_wholeDays_30 sS p1 p2 p3) 0 n (x4_30, x5_30, x6_30, x7_30, x8_30) → W p l e rm_S_wholeDays s m args below meth c s.heap [] 0 0 Q (F0 m 30 ls []) := by
    intro n
    induction n with
    | zero =>
      intro x4_30 x5_30 x6_30 x7_30 x8_30 ls i30_0 hn30 hl hO
      exact absurd hn30 (Nat.not_lt_zero _)
    | succ n ih =>
      intro x4_30 x5_30 x6_30 x7_30 x8_30 ls i30_0 hn30 hl hO
      have J_160 : ∀ (x4_160 : Int32) (x5_160 : Int32) (x6_160 : Int32) (x7_160 : Int32) (x8_160 : Int32) (ls : Array Slot), 0 ≤ x8_160.toInt ∧ x8_160.toInt < p3.toInt → (p3.toInt - x8_160.toInt).toNat < n + 1 → lv_has ls 12 [(0, .ref (g 17)), (1, .int p1), (2, .int p2), (3, .int p3), (4, .int x4_160), (5, .int x5_160), (6, .int x6_160), (7, .int x7_160), (8, .int x8_160)] → (g_S_wholeDays_30 sS p1 p2 p3) (x4_30, x5_30, x6_30, x7_30, x8_30) = b_S_wholeDays_160 sS p1 p2 p3 x4_160 x5_160 x6_160 x7_160 x8_160 → W p l e rm_S_wholeDays s m args below meth c s.heap [] 0 0 Q (F0 m 160 ls []) := by
        intro x4_160 x5_160 x6_160 x7_160 x8_160 ls i160_0 i160_1 hl hM
        refine lv_iload hx hb dX2_wholeDays_160 (lv_at hl 6 rfl) ?_
        refine lv_if_ge (tgt := 168) hx hb dX2_wholeDays_162 (by decide) (fun c_7 => ?_) (fun c_7 => ?_)
        · have hM := hM.trans (if_pos c_7)
          have t_7 := le_t c_7
          rw [tl_0] at t_7
          refine lv_iinc (v := (x8_160 + 1)) (lv' := [(8, .int (x8_160 + 1)), (0, .ref (g 17)), (1, .int p1), (2, .int p2), (3, .int p3), (4, .int x4_160), (5, .int x5_160), (6, .int x6_160), (7, .int x7_160)]) hx hb dX2_wholeDays_168 hl (k := 8) rfl rfl (by decide) rfl (fun ls hl => ?_)
          refine lv_goto (tgt := 30) hx hb dX2_wholeDays_171 (by decide) ?_
          have := t_inc (x := x8_160) (by omega)
          exact ih x4_160 x5_160 x6_160 x7_160 (x8_160 + 1) ls (by omega) (by omega) (lv_sub hl [1, 2, 3, 4, 5, 6, 7, 8, 0] rfl) (hO.trans (wc_inl (f := (g_S_wholeDays_30 sS p1 p2 p3)) (s := (x4_30, x5_30, x6_30, x7_30, x8_30)) (t := (x4_160, x5_160, x6_160, x7_160, (x8_160 + 1))) hM))
        · have hM := hM.trans (if_neg c_7)
          have t_7 := nle_t c_7
          rw [tl_0] at t_7
          refine lv_iload hx hb dX2_wholeDays_165 (lv_at hl 8 rfl) ?_
          have hM := hO.trans (wc_inr hM)
          have hM : (m_S_wholeDays sS p1 p2 p3) = (x8_160 : Int32) := hM
          exact hret _ _ ls (nr_i _) dX2_wholeDays_167 hM.symm
      have hM : (g_S_wholeDays_30 sS p1 p2 p3) (x4_30, x5_30, x6_30, x7_30, x8_30) = (g_S_wholeDays_30 sS p1 p2 p3) (x4_30, x5_30, x6_30, x7_30, x8_30) := rfl
      refine lv_iload hx hb dX2_wholeDays_30 (lv_at hl 8 rfl) ?_
      refine lv_iload_n hx hb dX2_wholeDays_32 rfl (lv_at hl 3 rfl) ?_
      refine lv_icmp_ge (tgt := 174) hx hb dX2_wholeDays_33 (by decide) (fun c_8 => ?_) (fun c_8 => ?_)
      · have hM := hM.trans (if_pos c_8)
        have t_8 := le_t c_8
        refine lv_iload_n hx hb dX2_wholeDays_174 rfl (lv_at hl 3 rfl) ?_
        have hM := hO.trans (wc_inr hM)
        have hM : (m_S_wholeDays sS p1 p2 p3) = (p3 : Int32) := hM
        exact hret _ _ ls (nr_i _) dX2_wholeDays_175 hM.symm
      · have hM := hM.trans (if_neg c_8)
        have t_8 := nle_t c_8
        refine lv_aload_n hx hb dX2_wholeDays_36 rfl (lv_at hl 0 rfl) ?_
        refine lv_iload hx hb dX2_wholeDays_37 (lv_at hl 8 rfl) ?_
        refine runS_i (va_runV (As := [.int x8_30]) (rest := []) ⟨hx, hb, hml, hown, hts⟩ (K_S_isWet hg sS x8_30) (cwV 1 hts gX2_wholeDays_X2_isWet rfl rfl rfl (by decide +kernel) ⟨Nat.le_of_ble_eq_true rfl, Nat.le_of_ble_eq_true rfl⟩) (preV_of hE hA hS hPS (va_recv hE.1 hPS (ci := 2) (q0 := 0) rfl rfl)) rfl rfl hl.1 rfl (lv_room (Nat.le_of_ble_eq_true rfl)) dX2_wholeDays_39 ⟨Nat.zero_le _, Nat.zero_le _⟩) ?_
        refine lv_istore (lv' := [(9, .int (m_S_isWet sS x8_30)), (0, .ref (g 17)), (1, .int p1), (2, .int p2), (3, .int p3), (4, .int x4_30), (5, .int x5_30), (6, .int x6_30), (7, .int x7_30), (8, .int x8_30)]) hx hb dX2_wholeDays_42 hl (by decide) rfl (fun ls hl => ?_)
        refine lv_iload hx hb dX2_wholeDays_44 (lv_at hl 0 rfl) ?_
        refine lv_if_eq (tgt := 63) hx hb dX2_wholeDays_46 (by decide) (fun c_9 => ?_) (fun c_9 => ?_)
        · have hM := hM.trans (if_pos c_9)
          have t_9 := eq_t c_9
          rw [tl_0] at t_9
          refine lv_iload_n hx hb dX2_wholeDays_63 rfl (lv_at hl 3 rfl) ?_
          refine lv_istore (lv' := [(10, .int p2), (9, .int (m_S_isWet sS x8_30)), (0, .ref (g 17)), (1, .int p1), (2, .int p2), (3, .int p3), (4, .int x4_30), (5, .int x5_30), (6, .int x6_30), (7, .int x7_30), (8, .int x8_30)]) hx hb dX2_wholeDays_64 hl (by decide) rfl (fun ls hl => ?_)
          refine lv_iload hx hb dX2_wholeDays_66 (lv_at hl 6 rfl) ?_
          refine lv_aload_n hx hb dX2_wholeDays_68 rfl (lv_at hl 2 rfl) ?_
          refine va_get (D := D) (ci := 2) (v := .ref (g 18)) (C := RX2) (T := TX2) (N := 3) hx hb hts hinS hown hE.1 hPS 0 rfl rfl 0 (by decide) (hts (.fieldLink RX2 9 "WallStones$Siege" "stored" "[I") (List.mem_of_getElem? (i := 1) rfl)) (fun _ h9 => h9) rfl dX2_wholeDays_69 ?_
          refine lv_iconst (v := 0) hx hb dX2_wholeDays_72 (by decide) ?_
          refine va_iald hx hb hE.1 hPS 1 0 rfl rfl (vp_in_iff.mpr (by decide)) dX2_wholeDays_73 ?_
          refine W.eq (congrArg (fun z => F0 m 74 ls [.int (sS 1 z), .int x4_30]) cl_0) ?_
          refine lv_isub hx hb dX2_wholeDays_74 ?_
          refine lv_istore (lv' := [(4, .int (x4_30 - (sS 1 0))), (10, .int p2), (9, .int (m_S_isWet sS x8_30)), (0, .ref (g 17)), (1, .int p1), (2, .int p2), (3, .int p3), (5, .int x5_30), (6, .int x6_30), (7, .int x7_30), (8, .int x8_30)]) hx hb dX2_wholeDays_75 hl (by decide) rfl (fun ls hl => ?_)
          refine lv_iload hx hb dX2_wholeDays_77 (lv_at hl 0 rfl) ?_
          refine lv_if_lt (tgt := 104) hx hb dX2_wholeDays_79 (by decide) (fun c_10 => ?_) (fun c_10 => ?_)
          · have hM := hM.trans (if_pos c_10)
            have t_10 := lt_t c_10
            rw [tl_0] at t_10
            refine lv_iload hx hb dX2_wholeDays_104 (lv_at hl 10 rfl) ?_
            have hM := hO.trans (wc_inr hM)
            have hM : (m_S_wholeDays sS p1 p2 p3) = (x8_30 : Int32) := hM
            exact hret _ _ ls (nr_i _) dX2_wholeDays_106 hM.symm
          · have hM := hM.trans (if_neg c_10)
            have t_10 := nlt_t c_10
            rw [tl_0] at t_10
            refine lv_iload_n hx hb dX2_wholeDays_82 rfl (lv_at hl 4 rfl) ?_
            refine lv_iload hx hb dX2_wholeDays_83 (lv_at hl 1 rfl) ?_
            refine lv_imul hx hb dX2_wholeDays_85 ?_
            refine lv_bipush (v := 30) hx hb dX2_wholeDays_86 (by decide) ?_
            refine lv_aload_n hx hb dX2_wholeDays_88 rfl (lv_at hl 3 rfl) ?_
            refine va_get (D := D) (ci := 2) (v := .ref (g 18)) (C := RX2) (T := TX2) (N := 3) hx hb hts hinS hown hE.1 hPS 0 rfl rfl 0 (by decide) (hts (.fieldLink RX2 9 "WallStones$Siege" "stored" "[I") (List.mem_of_getElem? (i := 1) rfl)) (fun _ h9 => h9) rfl dX2_wholeDays_89 ?_
            refine lv_iconst (v := 0) hx hb dX2_wholeDays_92 (by decide) ?_
            refine va_iald hx hb hE.1 hPS 1 0 rfl rfl (vp_in_iff.mpr (by decide)) dX2_wholeDays_93 ?_
            refine W.eq (congrArg (fun z => F0 m 94 ls [.int (sS 1 z), .int 30, .int (p1 * p2)]) cl_0) ?_
            refine lv_imul hx hb dX2_wholeDays_94 ?_
            refine lv_icmp_gt (tgt := 104) hx hb dX2_wholeDays_95 (by decide) (fun c_11 => ?_) (fun c_11 => ?_)
            · have hM := hM.trans (if_pos c_11)
              have t_11 := lt_t c_11
              refine lv_iload hx hb dX2_wholeDays_104 (lv_at hl 10 rfl) ?_
              have hM := hO.trans (wc_inr hM)
              have hM : (m_S_wholeDays sS p1 p2 p3) = (x8_30 : Int32) := hM
              exact hret _ _ ls (nr_i _) dX2_wholeDays_106 hM.symm
            · have hM := hM.trans (if_neg c_11)
              have t_11 := nlt_t c_11
              refine lv_iload_n hx hb dX2_wholeDays_98 rfl (lv_at hl 4 rfl) ?_
              refine lv_iload hx hb dX2_wholeDays_99 (lv_at hl 7 rfl) ?_
              refine lv_icmp_le (tgt := 107) hx hb dX2_wholeDays_101 (by decide) (fun c_12 => ?_) (fun c_12 => ?_)
              · have hM := hM.trans (if_pos c_12)
                have t_12 := le_t c_12
                refine lv_iload hx hb dX2_wholeDays_107 (lv_at hl 7 rfl) ?_
                refine lv_iload_n hx hb dX2_wholeDays_109 rfl (lv_at hl 4 rfl) ?_
                refine lv_isub hx hb dX2_wholeDays_110 ?_
                refine lv_istore (lv' := [(5, .int (x5_30 - p1)), (4, .int (x4_30 - (sS 1 0))), (10, .int p2), (9, .int (m_S_isWet sS x8_30)), (0, .ref (g 17)), (1, .int p1), (2, .int p2), (3, .int p3), (6, .int x6_30), (7, .int x7_30), (8, .int x8_30)]) hx hb dX2_wholeDays_111 hl (by decide) rfl (fun ls hl => ?_)
                refine lv_iconst (v := 0) hx hb dX2_wholeDays_113 (by decide) ?_
                refine lv_istore (lv' := [(11, .int 0), (5, .int (x5_30 - p1)), (4, .int (x4_30 - (sS 1 0))), (10, .int p2), (9, .int (m_S_isWet sS x8_30)), (0, .ref (g 17)), (1, .int p1), (2, .int p2), (3, .int p3), (6, .int x6_30), (7, .int x7_30), (8, .int x8_30)]) hx hb dX2_wholeDays_114 hl (by decide) rfl (fun ls hl => ?_)
                have z13 := tl_0
                refine L_116 61 (x4_30 - (sS 1 0)) (x5_30 - p1) x6_30 x7_30 x8_30 (m_S_isWet sS x8_30) 0 ls (by omega) (by omega) (lv_sub hl [5, 6, 7, 8, 2, 1, 9, 10, 11, 4, 0] rfl) (fun ls hl => ?_)
                exact J_160 (x4_30 - (sS 1 0)) (x5_30 - p1) (wl (g_S_wholeDays_116 sS p1 (m_S_isWet sS x8_30)) 61 (x6_30, x7_30, 0)).1 (wl (g_S_wholeDays_116 sS p1 (m_S_isWet sS x8_30)) 61 (x6_30, x7_30, 0)).2.1 x8_30 ls (by omega) (by omega) (lv_sub hl [0, 1, 2, 3, 4, 5, 6, 7, 8] rfl) hM
              · have hM := hM.trans (if_neg c_12)
                have t_12 := nle_t c_12
                refine lv_iload hx hb dX2_wholeDays_104 (lv_at hl 10 rfl) ?_
                have hM := hO.trans (wc_inr hM)
                have hM : (m_S_wholeDays sS p1 p2 p3) = (x8_30 : Int32) := hM
                exact hret _ _ ls (nr_i _) dX2_wholeDays_106 hM.symm
        · have hM := hM.trans (if_neg c_9)
          have t_9 := ne_t c_9
          rw [tl_0] at t_9
          refine lv_iload_n hx hb dX2_wholeDays_49 rfl (lv_at hl 3 rfl) ?_
          refine lv_iload_n hx hb dX2_wholeDays_50 rfl (lv_at hl 3 rfl) ?_
          refine lv_i2l (v := (Int32.toInt64 p2)) hx hb dX2_wholeDays_51 rfl ?_
          refine lv_ldc2 (own := RX2) (index := 46) (v := 4) hx hb hown (hts (.constantLong RX2 46 (4)) (List.mem_of_getElem? (i := 2) rfl)) dX2_wholeDays_52 ?_
          refine runS_l (va_runSN (As := [.long (Int32.toInt64 p2), .long 4]) (rest := [.int p2]) ⟨hx, hb, hml, hown, hts⟩ (K_T_up (Int32.toInt64 p2) 4) ⟨va_cnB 2 hts gX2_wholeDays_X4_up_n48 rfl rfl rfl hE.2.1.2.2.2.2.2.2.1 (hts (.initialized RX4) (List.mem_of_getElem? (i := 11) rfl)) (by decide +kernel) ⟨Nat.le_of_ble_eq_true rfl, Nat.le_of_ble_eq_true rfl⟩, (hts (.static yX4_up) (List.mem_of_getElem? (i := 10) rfl)), trivial⟩ (preS_of hE hA hS trivial) rfl rfl hl.1 rfl (lv_room (Nat.le_of_ble_eq_true rfl)) dX2_wholeDays_55 ⟨Nat.zero_le _, Nat.zero_le _⟩) ?_
          refine lv_l2i (v := (Int64.toInt32 (m_T_up (Int32.toInt64 p2) 4))) hx hb dX2_wholeDays_58 rfl ?_
          refine lv_iadd hx hb dX2_wholeDays_59 ?_
          refine lv_goto (tgt := 64) hx hb dX2_wholeDays_60 (by decide) ?_
          refine lv_istore (lv' := [(10, .int (p2 + (Int64.toInt32 (m_T_up (Int32.toInt64 p2) 4)))), (9, .int (m_S_isWet sS x8_30)), (0, .ref (g 17)), (1, .int p1), (2, .int p2), (3, .int p3), (4, .int x4_30), (5, .int x5_30), (6, .int x6_30), (7, .int x7_30), (8, .int x8_30)]) hx hb dX2_wholeDays_64 hl (by decide) rfl (fun ls hl => ?_)
          refine lv_iload hx hb dX2_wholeDays_66 (lv_at hl 6 rfl) ?_
          refine lv_aload_n hx hb dX2_wholeDays_68 rfl (lv_at hl 2 rfl) ?_
          refine va_get (D := D) (ci := 2) (v := .ref (g 18)) (C := RX2) (T := TX2) (N := 3) hx hb hts hinS hown hE.1 hPS 0 rfl rfl 0 (by decide) (hts (.fieldLink RX2 9 "WallStones$Siege" "stored" "[I") (List.mem_of_getElem? (i := 1) rfl)) (fun _ h9 => h9) rfl dX2_wholeDays_69 ?_
          refine lv_iconst (v := 0) hx hb dX2_wholeDays_72 (by decide) ?_
          refine va_iald hx hb hE.1 hPS 1 0 rfl rfl (vp_in_iff.mpr (by decide)) dX2_wholeDays_73 ?_
          refine W.eq (congrArg (fun z => F0 m 74 ls [.int (sS 1 z), .int x4_30]) cl_0) ?_
          refine lv_isub hx hb dX2_wholeDays_74 ?_
          refine lv_istore (lv' := [(4, .int (x4_30 - (sS 1 0))), (10, .int (p2 + (Int64.toInt32 (m_T_up (Int32.toInt64 p2) 4)))), (9, .int (m_S_isWet sS x8_30)), (0, .ref (g 17)), (1, .int p1), (2, .int p2), (3, .int p3), (5, .int x5_30), (6, .int x6_30), (7, .int x7_30), (8, .int x8_30)]) hx hb dX2_wholeDays_75 hl (by decide) rfl (fun ls hl => ?_)
          refine lv_iload hx hb dX2_wholeDays_77 (lv_at hl 0 rfl) ?_
          refine lv_if_lt (tgt := 104) hx hb dX2_wholeDays_79 (by decide) (fun c_14 => ?_) (fun c_14 => ?_)
          · have hM := hM.trans (if_pos c_14)
            have t_14 := lt_t c_14
            rw [tl_0] at t_14
            refine lv_iload hx hb dX2_wholeDays_104 (lv_at hl 10 rfl) ?_
            have hM := hO.trans (wc_inr hM)
            have hM : (m_S_wholeDays sS p1 p2 p3) = (x8_30 : Int32) := hM
            exact hret _ _ ls (nr_i _) dX2_wholeDays_106 hM.symm
          · have hM := hM.trans (if_neg c_14)
            have t_14 := nlt_t c_14
            rw [tl_0] at t_14
            refine lv_iload_n hx hb dX2_wholeDays_82 rfl (lv_at hl 4 rfl) ?_
            refine lv_iload hx hb dX2_wholeDays_83 (lv_at hl 1 rfl) ?_
            refine lv_imul hx hb dX2_wholeDays_85 ?_
            refine lv_bipush (v := 30) hx hb dX2_wholeDays_86 (by decide) ?_
            refine lv_aload_n hx hb dX2_wholeDays_88 rfl (lv_at hl 3 rfl) ?_
            refine va_get (D := D) (ci := 2) (v := .ref (g 18)) (C := RX2) (T := TX2) (N := 3) hx hb hts hinS hown hE.1 hPS 0 rfl rfl 0 (by decide) (hts (.fieldLink RX2 9 "WallStones$Siege" "stored" "[I") (List.mem_of_getElem? (i := 1) rfl)) (fun _ h9 => h9) rfl dX2_wholeDays_89 ?_
            refine lv_iconst (v := 0) hx hb dX2_wholeDays_92 (by decide) ?_
            refine va_iald hx hb hE.1 hPS 1 0 rfl rfl (vp_in_iff.mpr (by decide)) dX2_wholeDays_93 ?_
            refine W.eq (congrArg (fun z => F0 m 94 ls [.int (sS 1 z), .int 30, .int (p1 * (p2 + (Int64.toInt32 (m_T_up (Int32.toInt64 p2) 4))))]) cl_0) ?_
            refine lv_imul hx hb dX2_wholeDays_94 ?_
            refine lv_icmp_gt (tgt := 104) hx hb dX2_wholeDays_95 (by decide) (fun c_15 => ?_) (fun c_15 => ?_)
            · have hM := hM.trans (if_pos c_15)
              have t_15 := lt_t c_15
              refine lv_iload hx hb dX2_wholeDays_104 (lv_at hl 10 rfl) ?_
              have hM := hO.trans (wc_inr hM)
              have hM : (m_S_wholeDays sS p1 p2 p3) = (x8_30 : Int32) := hM
              exact hret _ _ ls (nr_i _) dX2_wholeDays_106 hM.symm
            · have hM := hM.trans (if_neg c_15)
              have t_15 := nlt_t c_15
              refine lv_iload_n hx hb dX2_wholeDays_98 rfl (lv_at hl 4 rfl) ?_
              refine lv_iload hx hb dX2_wholeDays_99 (lv_at hl 7 rfl) ?_
              refine lv_icmp_le (tgt := 107) hx hb dX2_wholeDays_101 (by decide) (fun c_16 => ?_) (fun c_16 => ?_)
              · have hM := hM.trans (if_pos c_16)
                have t_16 := le_t c_16
                refine lv_iload hx hb dX2_wholeDays_107 (lv_at hl 7 rfl) ?_
                refine lv_iload_n hx hb dX2_wholeDays_109 rfl (lv_at hl 4 rfl) ?_
                refine lv_isub hx hb dX2_wholeDays_110 ?_
                refine lv_istore (lv' := [(5, .int (x5_30 - p1)), (4, .int (x4_30 - (sS 1 0))), (10, .int (p2 + (Int64.toInt32 (m_T_up (Int32.toInt64 p2) 4)))), (9, .int (m_S_isWet sS x8_30)), (0, .ref (g 17)), (1, .int p1), (2, .int p2), (3, .int p3), (6, .int x6_30), (7, .int x7_30), (8, .int x8_30)]) hx hb dX2_wholeDays_111 hl (by decide) rfl (fun ls hl => ?_)
                refine lv_iconst (v := 0) hx hb dX2_wholeDays_113 (by decide) ?_
                refine lv_istore (lv' := [(11, .int 0), (5, .int (x5_30 - p1)), (4, .int (x4_30 - (sS 1 0))), (10, .int (p2 + (Int64.toInt32 (m_T_up (Int32.toInt64 p2) 4)))), (9, .int (m_S_isWet sS x8_30)), (0, .ref (g 17)), (1, .int p1), (2, .int p2), (3, .int p3), (6, .int x6_30), (7, .int x7_30), (8, .int x8_30)]) hx hb dX2_wholeDays_114 hl (by decide) rfl (fun ls hl => ?_)
                have z17 := tl_0
                refine L_116 61 (x4_30 - (sS 1 0)) (x5_30 - p1) x6_30 x7_30 x8_30 (m_S_isWet sS x8_30) 0 ls (by omega) (by omega) (lv_sub hl [5, 6, 7, 8, 2, 1, 9, 10, 11, 4, 0] rfl) (fun ls hl => ?_)
                exact J_160 (x4_30 - (sS 1 0)) (x5_30 - p1) (wl (g_S_wholeDays_116 sS p1 (m_S_isWet sS x8_30)) 61 (x6_30, x7_30, 0)).1 (wl (g_S_wholeDays_116 sS p1 (m_S_isWet sS x8_30)) 61 (x6_30, x7_30, 0)).2.1 x8_30 ls (by omega) (by omega) (lv_sub hl [0, 1, 2, 3, 4, 5, 6, 7, 8] rfl) hM
              · have hM := hM.trans (if_neg c_16)
                have t_16 := nle_t c_16
                refine lv_iload hx hb dX2_wholeDays_104 (lv_at hl 10 rfl) ?_
                have hM := hO.trans (wc_inr hM)
                have hM : (m_S_wholeDays sS p1 p2 p3) = (x8_30 : Int32) := hM
                exact hret _ _ ls (nr_i _) dX2_wholeDays_106 hM.symm
  have hM : (m_S_wholeDays sS p1 p2 p3) = (m_S_wholeDays sS p1 p2 p3) := rfl
  refine lv_aload_n hx hb dX2_wholeDays_0 rfl (lv_at hl 0 rfl) ?_
  refine va_get (D := D) (ci := 2) (v := .ref (g 18)) (C := RX2) (T := TX2) (N := 3) hx hb hts hinS hown hE.1 hPS 0 rfl rfl 0 (by decide) (hts (.fieldLink RX2 9 "WallStones$Siege" "stored" "[I") (List.mem_of_getElem? (i := 1) rfl)) (fun _ h9 => h9) rfl dX2_wholeDays_1 ?_
  refine lv_iconst (v := 3) hx hb dX2_wholeDays_4 (by decide) ?_
  refine va_iald hx hb hE.1 hPS 1 0 rfl rfl (vp_in_iff.mpr (by decide)) dX2_wholeDays_5 ?_
  refine W.eq (congrArg (fun z => F0 m 6 ls [.int (sS 1 z)]) cl_3) ?_
  refine lv_istore (lv' := [(4, .int (sS 1 3)), (0, .ref (g 17)), (1, .int p1), (2, .int p2), (3, .int p3)]) hx hb dX2_wholeDays_6 hl (by decide) rfl (fun ls hl => ?_)
  refine lv_aload_n hx hb dX2_wholeDays_8 rfl (lv_at hl 1 rfl) ?_
  refine va_get (D := D) (ci := 2) (v := .ref (g 18)) (C := RX2) (T := TX2) (N := 3) hx hb hts hinS hown hE.1 hPS 0 rfl rfl 0 (by decide) (hts (.fieldLink RX2 9 "WallStones$Siege" "stored" "[I") (List.mem_of_getElem? (i := 1) rfl)) (fun _ h9 => h9) rfl dX2_wholeDays_9 ?_
  refine lv_iconst (v := 1) hx hb dX2_wholeDays_12 (by decide) ?_
  refine va_iald hx hb hE.1 hPS 1 0 rfl rfl (vp_in_iff.mpr (by decide)) dX2_wholeDays_13 ?_
  refine W.eq (congrArg (fun z => F0 m 14 ls [.int (sS 1 z)]) cl_1) ?_
  refine lv_istore (lv' := [(5, .int (sS 1 1)), (4, .int (sS 1 3)), (0, .ref (g 17)), (1, .int p1), (2, .int p2), (3, .int p3)]) hx hb dX2_wholeDays_14 hl (by decide) rfl (fun ls hl => ?_)
  refine lv_aload_n hx hb dX2_wholeDays_16 rfl (lv_at hl 2 rfl) ?_
  refine va_get (D := D) (ci := 2) (v := .ref (g 18)) (C := RX2) (T := TX2) (N := 3) hx hb hts hinS hown hE.1 hPS 0 rfl rfl 0 (by decide) (hts (.fieldLink RX2 9 "WallStones$Siege" "stored" "[I") (List.mem_of_getElem? (i := 1) rfl)) (fun _ h9 => h9) rfl dX2_wholeDays_17 ?_
  refine lv_iconst (v := 2) hx hb dX2_wholeDays_20 (by decide) ?_
  refine va_iald hx hb hE.1 hPS 1 0 rfl rfl (vp_in_iff.mpr (by decide)) dX2_wholeDays_21 ?_
  refine W.eq (congrArg (fun z => F0 m 22 ls [.int (sS 1 z)]) cl_2) ?_
  refine lv_istore (lv' := [(6, .int (sS 1 2)), (5, .int (sS 1 1)), (4, .int (sS 1 3)), (0, .ref (g 17)), (1, .int p1), (2, .int p2), (3, .int p3)]) hx hb dX2_wholeDays_22 hl (by decide) rfl (fun ls hl => ?_)
  refine lv_iconst (v := 0) hx hb dX2_wholeDays_24 (by decide) ?_
  refine lv_istore (lv' := [(7, .int 0), (6, .int (sS 1 2)), (5, .int (sS 1 1)), (4, .int (sS 1 3)), (0, .ref (g 17)), (1, .int p1), (2, .int p2), (3, .int p3)]) hx hb dX2_wholeDays_25 hl (by decide) rfl (fun ls hl => ?_)
  refine lv_iconst (v := 0) hx hb dX2_wholeDays_27 (by decide) ?_
  refine lv_istore (lv' := [(8, .int 0), (7, .int 0), (6, .int (sS 1 2)), (5, .int (sS 1 1)), (4, .int (sS 1 3)), (0, .ref (g 17)), (1, .int p1), (2, .int p2), (3, .int p3)]) hx hb dX2_wholeDays_28 hl (by decide) rfl (fun ls hl => ?_)
  have z18 := tl_0
  exact C_30 101 (sS 1 3) (sS 1 1) (sS 1 2) 0 0 ls (by omega) (by omega) (lv_sub hl [5, 6, 7, 8, 4, 3, 2, 1, 0] rfl) hM
abbrev rm_S_bestRate : Room := { frames := 3, cells := 0, slots := 0, locals := 79 }
set_option maxHeartbeats 4000000 in
set_option maxRecDepth 100000 in
theorem K_S_bestRate {l : Launch} {D : va_G} {cI : ClassId} {lo : Nat} {g : Nat → Nat} (hg : wI g 17 19 lo) (sS : St) (p1 : Int32) (p2 : Int32) (h0 : 0 ≤ p1.toInt ∧ p1.toInt ≤ 100) : ROi l D cI lo yX2_bestRate wsX2_bestRate rm_S_bestRate [.ref (g 17), .int p1, .int p2] (fun H => va_P D vwCl (cellS cI g sS) H) (m_S_bestRate sS p1 p2) := by
  refine ofW_ROi (cc := cX2_bestRate) (maxL := 4) (ty := .int) (by decide +kernel) rfl (Nat.le_of_ble_eq_true rfl) ?_
  intro p e s m args below meth c Q hx hb hml hown hts hE hP hret ls hl
  have hown : s.vm.findClass RX2 = some m.cls := hown
  have hPS := hP
  have hA : ∀ q : Nat, (fun _ : Nat => False) q → lo ≤ q := fun _ h => h.elim
  have hS : va_S (fun _ : Nat => False) s.heap s.heap [] := va_S.rf
  have hinS : ∀ w ∈ wsX20, w ∈ wsX2_bestRate := fun w h => List.mem_cons_of_mem _ (List.mem_append_right _ h)
  have hl : lv_has ls 4 [(0, .ref (g 17)), (1, .int p1), (2, .int p2)] := hl
  have C_3 : ∀ (n : Nat) (x3_3 : Int32) (ls : Array Slot), 0 - 1 ≤ x3_3.toInt ∧ x3_3.toInt ≤ 60 → (x3_3.toInt - (0 - 1)).toNat < n → lv_has ls 4 [(0, .ref (g 17)), (1, .int p1), (2, .int p2), (3, .int x3_3)] → (m_S_bestRate sS p1 p2) = wc (g_S_bestRate_3 sS p1 p2) 0 n x3_3 → W p l e rm_S_bestRate s m args below meth c s.heap [] 0 0 Q (F0 m 3 ls []) := by
    intro n
    induction n with
    | zero =>
      intro x3_3 ls i3_0 hn3 hl hO
      exact absurd hn3 (Nat.not_lt_zero _)
    | succ n ih =>
      intro x3_3 ls i3_0 hn3 hl hO
      have hM : (g_S_bestRate_3 sS p1 p2) x3_3 = (g_S_bestRate_3 sS p1 p2) x3_3 := rfl
      refine lv_iload_n hx hb dX2_bestRate_3 rfl (lv_at hl 3 rfl) ?_
      refine lv_if_lt (tgt := 26) hx hb dX2_bestRate_4 (by decide) (fun c_1 => ?_) (fun c_1 => ?_)
      · have hM := hM.trans (if_pos c_1)
        have t_1 := lt_t c_1
        rw [tl_0] at t_1
        refine lv_bipush (v := (-9)) hx hb dX2_bestRate_26 (by decide) ?_
        have hM := hO.trans (wc_inr hM)
        have hM : (m_S_bestRate sS p1 p2) = ((-9) : Int32) := hM
        exact hret _ _ ls (nr_i _) dX2_bestRate_28 hM.symm
      · have hM := hM.trans (if_neg c_1)
        have t_1 := nlt_t c_1
        rw [tl_0] at t_1
        refine lv_aload_n hx hb dX2_bestRate_7 rfl (lv_at hl 0 rfl) ?_
        refine lv_iload_n hx hb dX2_bestRate_8 rfl (lv_at hl 3 rfl) ?_
        refine lv_iload_n hx hb dX2_bestRate_9 rfl (lv_at hl 2 rfl) ?_
        refine lv_iload_n hx hb dX2_bestRate_10 rfl (lv_at hl 1 rfl) ?_
        refine runS_i (va_runV (As := [.int x3_3, .int p2, .int p1]) (rest := []) ⟨hx, hb, hml, hown, hts⟩ (K_S_wholeDays hg sS x3_3 p2 p1 (by omega) (by omega)) (cwV 3 hts gX2_bestRate_X2_wholeDays rfl rfl rfl (by decide +kernel) ⟨Nat.le_of_ble_eq_true rfl, Nat.le_of_ble_eq_true rfl⟩) (preV_of hE hA hS hPS (va_recv hE.1 hPS (ci := 2) (q0 := 0) rfl rfl)) rfl rfl hl.1 rfl (lv_room (Nat.le_of_ble_eq_true rfl)) dX2_bestRate_11 ⟨Nat.zero_le _, Nat.zero_le _⟩) ?_
        refine lv_iload_n hx hb dX2_bestRate_14 rfl (lv_at hl 1 rfl) ?_
        refine lv_icmp_ne (tgt := 20) hx hb dX2_bestRate_15 (by decide) (fun c_2 => ?_) (fun c_2 => ?_)
        · have hM := hM.trans (if_neg c_2)
          have t_2 := ne_t c_2
          refine lv_iinc (v := (x3_3 + (-1))) (lv' := [(3, .int (x3_3 + (-1))), (0, .ref (g 17)), (1, .int p1), (2, .int p2)]) hx hb dX2_bestRate_20 hl (k := 3) rfl rfl (by decide) rfl (fun ls hl => ?_)
          refine lv_goto (tgt := 3) hx hb dX2_bestRate_23 (by decide) ?_
          have := t_dec (x := x3_3) (by omega)
          exact ih (x3_3 + (-1)) ls (by omega) (by omega) (lv_sub hl [1, 2, 3, 0] rfl) (hO.trans (wc_inl (f := (g_S_bestRate_3 sS p1 p2)) (s := x3_3) (t := (x3_3 + (-1))) hM))
        · have hM := hM.trans (if_pos c_2)
          have t_2 := eq_t c_2
          refine lv_iload_n hx hb dX2_bestRate_18 rfl (lv_at hl 3 rfl) ?_
          have hM := hO.trans (wc_inr hM)
          have hM : (m_S_bestRate sS p1 p2) = (x3_3 : Int32) := hM
          exact hret _ _ ls (nr_i _) dX2_bestRate_19 hM.symm
  have hM : (m_S_bestRate sS p1 p2) = (m_S_bestRate sS p1 p2) := rfl
  refine lv_bipush (v := 60) hx hb dX2_bestRate_0 (by decide) ?_
  refine lv_istore_n (lv' := [(3, .int 60), (0, .ref (g 17)), (1, .int p1), (2, .int p2)]) hx hb dX2_bestRate_2 rfl hl (by decide) rfl (fun ls hl => ?_)
  have z3 := tl_60
  exact C_3 62 60 ls (by omega) (by omega) (lv_sub hl [1, 2, 3, 0] rfl) hM
