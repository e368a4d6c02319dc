abbrev rm_T_set : Room := { frames := 5, cells := 0, slots := 0, locals := 120 }
set_option maxHeartbeats 4000000 in
set_option maxRecDepth 100000 in
theorem K_T_set {l : Launch} {D : va_G} {cI : ClassId} {lo : Nat} {g : Nat → Nat} (hg : wI g 0 19 lo) (sT : St) (vT : Int64) (sM : St) (sB : St) (sL : St) (sS : St) (p1 : Int32) (p2 : Int32) : WRi l D cI lo yX4_set wsX4_set rm_T_set [.ref (g 0), .int p1, .int p2] (fun H => va_P D vwCl (cellT cI g sT vT) H ∧ va_P D vwCl (cellM cI g sM) H ∧ va_P D vwCl (cellB cI g sB) H ∧ va_P D vwCl (cellL cI g sL) H ∧ va_P D vwCl (cellS cI g sS) H) (m_T_set sT sM p1 p2).1 (fun H => va_P D vwCl (cellT cI g (m_T_set sT sM p1 p2).2.1 vT) H ∧ va_P D vwCl (cellM cI g (m_T_set sT sM p1 p2).2.2) H ∧ va_P D vwCl (cellB cI g sB) H ∧ va_P D vwCl (cellL cI g sL) H ∧ va_P D vwCl (cellS cI g sS) H) (wA g 0 19) := by
  refine ofW_WRi (cc := cX4_set) (maxL := 3) (ty := .int) (by decide +kernel) rfl (Nat.le_of_ble_eq_true rfl) ?_
  intro p e s m args below meth c Q hx hb hml hown hts hE hP hret ls hl
  have hown : s.vm.findClass RX4 = some m.cls := hown
  obtain ⟨hPT, hPM, hPB, hPL, hPS⟩ := hP
  have hA := wA.lo hg
  have hS : va_S (wA g 0 19) s.heap s.heap [] := va_S.rf
  obtain ⟨H, hH⟩ : ∃ z, z = s.heap := ⟨_, rfl⟩
  obtain ⟨locs, hlocs⟩ : ∃ z : List Loc, z = [] := ⟨_, rfl⟩
  have hPT : va_P D vwCl (cellT cI g sT vT) H := by rw [hH]; exact hPT
  have hPM : va_P D vwCl (cellM cI g sM) H := by rw [hH]; exact hPM
  have hPB : va_P D vwCl (cellB cI g sB) H := by rw [hH]; exact hPB
  have hPL : va_P D vwCl (cellL cI g sL) H := by rw [hH]; exact hPL
  have hPS : va_P D vwCl (cellS cI g sS) H := by rw [hH]; exact hPS
  have hS : va_S (wA g 0 19) s.heap H locs := by rw [hH, hlocs]; exact va_S.rf
  have gW : W p l e rm_T_set s m args below meth c H locs 0 0 Q (F0 m 0 ls []) → W p l e rm_T_set s m args below meth c s.heap [] 0 0 Q (F0 m 0 ls []) := by rw [hH, hlocs]; exact id
  refine gW ?_
  have hinT : ∀ w ∈ wsX40, w ∈ wsX4_set := fun w h => List.mem_cons_of_mem _ (List.mem_append_left _ (List.mem_append_right _ h))
  have hinM : ∀ w ∈ wsX10, w ∈ wsX4_set := fun w h => List.mem_cons_of_mem _ (List.mem_append_right _ h)
  have hl : lv_has ls 3 [(0, .ref (g 0)), (1, .int p1), (2, .int p2)] := hl
  have hM : (m_T_set sT sM p1 p2) = (m_T_set sT sM p1 p2) := rfl
  refine lv_aload_n hx hb dX4_set_0 rfl (lv_at hl 0 rfl) ?_
  refine va_get (D := D) (ci := 4) (v := .ref (g 1)) (C := RX4) (T := TX4) (N := 7) hx hb hts hinT hown hE.1 hPT 0 rfl rfl 0 (by decide) (hts (.fieldLink RX4 10 "WallStones" "engine" "LWallStones$Machine;") (List.mem_of_getElem? (i := 1) rfl)) (fun _ h9 => h9) rfl dX4_set_1 ?_
  refine lv_iload_n hx hb dX4_set_4 rfl (lv_at hl 1 rfl) ?_
  refine lv_iload_n hx hb dX4_set_5 rfl (lv_at hl 2 rfl) ?_
  refine runS_i (va_runV (As := [.int p1, .int p2]) (rest := []) ⟨hx, hb, hml, hown, hts⟩ (K_M_takes (hg.sub (by decide) (by decide)) sM p1 p2) (cwV 2 hts gX4_set_X1_takes rfl rfl rfl (by decide +kernel) ⟨Nat.le_of_ble_eq_true rfl, Nat.le_of_ble_eq_true rfl⟩) (preV_of hE hA hS hPM (va_recv hE.1 hPM (ci := 1) (q0 := 0) rfl rfl)) rfl rfl hl.1 rfl (lv_room (Nat.le_of_ble_eq_true rfl)) dX4_set_6 ⟨Nat.zero_le _, Nat.zero_le _⟩) ?_
  refine lv_if_ne (tgt := 14) hx hb dX4_set_9 (by decide) (fun c_1 => ?_) (fun c_1 => ?_)
  · have hM := hM.trans (if_neg c_1)
    have u_1 := takes_t c_1
    refine lv_aload_n hx hb dX4_set_14 rfl (lv_at hl 0 rfl) ?_
    refine lv_iconst (v := 0) hx hb dX4_set_15 (by decide) ?_
    refine va_put (D := D) (ci := 4) (v := .int 0) (ty := .int) (C := RX4) (T := TX4) (N := 7) hx hb hts hinT tyX4 tyX4_ok nmX4 hown hE.1 ((((hPT.app hPM).app hPB).app hPL).app hPS) (wD_of hg (c := 0) (n := 19) (by decide) (by decide) rfl) hS 0 rfl rfl 4 (by decide) (hts (.fieldLink RX4 37 "WallStones" "handling" "I") (List.mem_of_getElem? (i := 2) rfl)) (fun _ h9 => h9) rfl (by decide +kernel) rfl rfl (Nat.le_of_ble_eq_true rfl) dX4_set_16 (fun H locs hPn _ hS => ?_)
    have hPn : va_P D vwCl (((((cellT cI g (up sT 0 4 0) vT) ++ cellM cI g sM) ++ cellB cI g sB) ++ cellL cI g sL) ++ cellS cI g sS) H := (congrArg (fun z => va_P D vwCl z H) putTMBLS_T4).mp hPn
    have hPT : va_P D vwCl (cellT cI g (up sT 0 4 0) vT) H := hPn.sub [0] rfl
    have hPM : va_P D vwCl (cellM cI g sM) H := hPn.sub [1, 2, 3, 4, 5] rfl
    have hPB : va_P D vwCl (cellB cI g sB) H := hPn.sub [6, 7, 8, 9, 10, 11] rfl
    have hPL : va_P D vwCl (cellL cI g sL) H := hPn.sub [12, 13, 14, 15, 16] rfl
    have hPS : va_P D vwCl (cellS cI g sS) H := hPn.sub [17, 18] rfl
    refine lv_aload_n hx hb dX4_set_19 rfl (lv_at hl 0 rfl) ?_
    refine va_get (D := D) (ci := 4) (v := .ref (g 1)) (C := RX4) (T := TX4) (N := 7) hx hb hts hinT hown hE.1 hPT 0 rfl rfl 0 (by decide) (hts (.fieldLink RX4 10 "WallStones" "engine" "LWallStones$Machine;") (List.mem_of_getElem? (i := 1) rfl)) (fun _ h9 => h9) rfl dX4_set_20 ?_
    refine lv_iload_n hx hb dX4_set_23 rfl (lv_at hl 1 rfl) ?_
    refine lv_iload_n hx hb dX4_set_24 rfl (lv_at hl 2 rfl) ?_
    refine runW_i (va_runV (As := [.int p1, .int p2]) (rest := []) ⟨hx, hb, hml, hown, hts⟩ (K_M_put (hg.sub (by decide) (by decide)) sM p1 p2) (cwV 2 hts gX4_set_X1_put rfl rfl rfl (by decide +kernel) ⟨Nat.le_of_ble_eq_true rfl, Nat.le_of_ble_eq_true rfl⟩) (preV_of hE hA hS hPM (va_recv hE.1 hPM (ci := 1) (q0 := 0) rfl rfl)) rfl rfl hl.1 rfl (lv_room (Nat.le_of_ble_eq_true rfl)) dX4_set_25 ⟨Nat.zero_le _, Nat.zero_le _⟩) hS (fun _ h9 => wA.sub (by decide) (by decide) _ h9) (fun H locs hQ hk hS => ?_)
    have hPT : va_P D vwCl (cellT cI g (up sT 0 4 0) vT) H := wKeep hPT (wOff hg (c := 0) (n := 1) (x := 1) (y := 6) (by decide) (by decide) (by decide) (by decide) (by decide) rfl) hk
    have hPB : va_P D vwCl (cellB cI g sB) H := wKeep hPB (wOff hg (c := 6) (n := 6) (x := 1) (y := 6) (by decide) (by decide) (by decide) (by decide) (by decide) rfl) hk
    have hPL : va_P D vwCl (cellL cI g sL) H := wKeep hPL (wOff hg (c := 12) (n := 5) (x := 1) (y := 6) (by decide) (by decide) (by decide) (by decide) (by decide) rfl) hk
    have hPS : va_P D vwCl (cellS cI g sS) H := wKeep hPS (wOff hg (c := 17) (n := 2) (x := 1) (y := 6) (by decide) (by decide) (by decide) (by decide) (by decide) rfl) hk
    have hPM : va_P D vwCl (cellM cI g (m_M_put sM p1 p2).2) H := hQ
    have hM : (m_T_set sT sM p1 p2) = (((m_M_put sM p1 p2).1, (up sT 0 4 0), (m_M_put sM p1 p2).2) : Int32 × St × St) := hM
    exact hret (m_M_put sM p1 p2).1 H locs _ ls (nr_i _) dX4_set_28 (ret1 hM) (rP_v2 (P := fun (z0 : St) (z1 : St) => va_P D vwCl (cellT cI g z0 vT) H ∧ va_P D vwCl (cellM cI g z1) H ∧ va_P D vwCl (cellB cI g sB) H ∧ va_P D vwCl (cellL cI g sL) H ∧ va_P D vwCl (cellS cI g sS) H) hM ⟨hPT, hPM, hPB, hPL, hPS⟩) hS
  · have hM := hM.trans (if_pos c_1)
    refine lv_iconst (v := (-1)) hx hb dX4_set_12 (by decide) ?_
    have hM : (m_T_set sT sM p1 p2) = (((-1), sT, sM) : Int32 × St × St) := hM
    exact hret (-1) H locs _ ls (nr_i _) dX4_set_13 (ret1 hM) (rP_v2 (P := fun (z0 : St) (z1 : St) => va_P D vwCl (cellT cI g z0 vT) H ∧ va_P D vwCl (cellM cI g z1) H ∧ va_P D vwCl (cellB cI g sB) H ∧ va_P D vwCl (cellL cI g sL) H ∧ va_P D vwCl (cellS cI g sS) H) hM ⟨hPT, hPM, hPB, hPL, hPS⟩) hS
abbrev rm_T_wind : Room := { frames := 1, cells := 0, slots := 0, locals := 22 }
set_option maxHeartbeats 4000000 in
set_option maxRecDepth 100000 in
theorem K_T_wind {l : Launch} {D : va_G} {cI : ClassId} {lo : Nat} {g : Nat → Nat} (hg : wI g 0 19 lo) (sT : St) (vT : Int64) (sM : St) (sB : St) (sL : St) (sS : St) (p1 : Int32) : WRi l D cI lo yX4_wind wsX4_wind rm_T_wind [.ref (g 0), .int p1] (fun H => va_P D vwCl (cellT cI g sT vT) H ∧ va_P D vwCl (cellM cI g sM) H ∧ va_P D vwCl (cellB cI g sB) H ∧ va_P D vwCl (cellL cI g sL) H ∧ va_P D vwCl (cellS cI g sS) H) (m_T_wind sT sM p1).1 (fun H => va_P D vwCl (cellT cI g sT vT) H ∧ va_P D vwCl (cellM cI g (m_T_wind sT sM p1).2) H ∧ va_P D vwCl (cellB cI g sB) H ∧ va_P D vwCl (cellL cI g sL) H ∧ va_P D vwCl (cellS cI g sS) H) (wA g 0 19) := by
  refine ofW_WRi (cc := cX4_wind) (maxL := 2) (ty := .int) (by decide +kernel) rfl (Nat.le_of_ble_eq_true rfl) ?_
  intro p e s m args below meth c Q hx hb hml hown hts hE hP hret ls hl
  have hown : s.vm.findClass RX4 = some m.cls := hown
  obtain ⟨hPT, hPM, hPB, hPL, hPS⟩ := hP
  have hA := wA.lo hg
  have hS : va_S (wA g 0 19) s.heap s.heap [] := va_S.rf
  obtain ⟨H, hH⟩ : ∃ z, z = s.heap := ⟨_, rfl⟩
  obtain ⟨locs, hlocs⟩ : ∃ z : List Loc, z = [] := ⟨_, rfl⟩
  have hPT : va_P D vwCl (cellT cI g sT vT) H := by rw [hH]; exact hPT
  have hPM : va_P D vwCl (cellM cI g sM) H := by rw [hH]; exact hPM
  have hPB : va_P D vwCl (cellB cI g sB) H := by rw [hH]; exact hPB
  have hPL : va_P D vwCl (cellL cI g sL) H := by rw [hH]; exact hPL
  have hPS : va_P D vwCl (cellS cI g sS) H := by rw [hH]; exact hPS
  have hS : va_S (wA g 0 19) s.heap H locs := by rw [hH, hlocs]; exact va_S.rf
  have gW : W p l e rm_T_wind s m args below meth c H locs 0 0 Q (F0 m 0 ls []) → W p l e rm_T_wind s m args below meth c s.heap [] 0 0 Q (F0 m 0 ls []) := by rw [hH, hlocs]; exact id
  refine gW ?_
  have hinT : ∀ w ∈ wsX40, w ∈ wsX4_wind := fun w h => List.mem_cons_of_mem _ (List.mem_append_left _ (List.mem_append_right _ h))
  have hinM : ∀ w ∈ wsX10, w ∈ wsX4_wind := fun w h => List.mem_cons_of_mem _ (List.mem_append_right _ h)
  have hl : lv_has ls 2 [(0, .ref (g 0)), (1, .int p1)] := hl
  have hM : (m_T_wind sT sM p1) = (m_T_wind sT sM p1) := rfl
  refine lv_iload_n hx hb dX4_wind_0 rfl (lv_at hl 1 rfl) ?_
  refine lv_bipush (v := (-20)) hx hb dX4_wind_1 (by decide) ?_
  refine lv_bipush (v := 20) hx hb dX4_wind_3 (by decide) ?_
  refine runS_i (va_runS (As := [.int p1, .int (-20), .int 20]) (rest := []) ⟨hx, hb, hml, hown, hts⟩ (K_T_within p1 (-20) 20) (va_cwS 3 hts gX4_wind_X4_within rfl rfl rfl (by decide +kernel) ⟨Nat.le_of_ble_eq_true rfl, Nat.le_of_ble_eq_true rfl⟩) (preS_of hE hA hS trivial) rfl rfl hl.1 rfl (lv_room (Nat.le_of_ble_eq_true rfl)) dX4_wind_5 ⟨Nat.zero_le _, Nat.zero_le _⟩) ?_
  refine lv_if_eq (tgt := 22) hx hb dX4_wind_8 (by decide) (fun c_1 => ?_) (fun c_1 => ?_)
  · have hM := hM.trans (if_pos c_1)
    refine lv_bipush (v := (-100)) hx hb dX4_wind_22 (by decide) ?_
    have hM : (m_T_wind sT sM p1) = (((-100), sM) : Int32 × St) := hM
    exact hret (-100) H locs _ ls (nr_i _) dX4_wind_24 (ret1 hM) (rP_v1 (P := fun (z0 : St) => va_P D vwCl (cellT cI g sT vT) H ∧ va_P D vwCl (cellM cI g z0) H ∧ va_P D vwCl (cellB cI g sB) H ∧ va_P D vwCl (cellL cI g sL) H ∧ va_P D vwCl (cellS cI g sS) H) hM ⟨hPT, hPM, hPB, hPL, hPS⟩) hS
  · have hM := hM.trans (if_neg c_1)
    have u_1 := within_t c_1
    rw [tl_m20, tl_20] at u_1
    refine lv_aload_n hx hb dX4_wind_11 rfl (lv_at hl 0 rfl) ?_
    refine va_get (D := D) (ci := 4) (v := .ref (g 1)) (C := RX4) (T := TX4) (N := 7) hx hb hts hinT hown hE.1 hPT 0 rfl rfl 0 (by decide) (hts (.fieldLink RX4 10 "WallStones" "engine" "LWallStones$Machine;") (List.mem_of_getElem? (i := 1) rfl)) (fun _ h9 => h9) rfl dX4_wind_12 ?_
    refine lv_iload_n hx hb dX4_wind_15 rfl (lv_at hl 1 rfl) ?_
    refine runW_i (va_runV (As := [.int p1]) (rest := []) ⟨hx, hb, hml, hown, hts⟩ (K_M_putWind (hg.sub (by decide) (by decide)) sM p1) (cwV 1 hts gX4_wind_X1_putWind rfl rfl rfl (by decide +kernel) ⟨Nat.le_of_ble_eq_true rfl, Nat.le_of_ble_eq_true rfl⟩) (preV_of hE hA hS hPM (va_recv hE.1 hPM (ci := 1) (q0 := 0) rfl rfl)) rfl rfl hl.1 rfl (lv_room (Nat.le_of_ble_eq_true rfl)) dX4_wind_16 ⟨Nat.zero_le _, Nat.zero_le _⟩) hS (fun _ h9 => wA.sub (by decide) (by decide) _ h9) (fun H locs hQ hk hS => ?_)
    have hPT : va_P D vwCl (cellT cI g sT vT) H := wKeep hPT (wOff hg (c := 0) (n := 1) (x := 1) (y := 6) (by decide) (by decide) (by decide) (by decide) (by decide) rfl) hk
    have hPB : va_P D vwCl (cellB cI g sB) H := wKeep hPB (wOff hg (c := 6) (n := 6) (x := 1) (y := 6) (by decide) (by decide) (by decide) (by decide) (by decide) rfl) hk
    have hPL : va_P D vwCl (cellL cI g sL) H := wKeep hPL (wOff hg (c := 12) (n := 5) (x := 1) (y := 6) (by decide) (by decide) (by decide) (by decide) (by decide) rfl) hk
    have hPS : va_P D vwCl (cellS cI g sS) H := wKeep hPS (wOff hg (c := 17) (n := 2) (x := 1) (y := 6) (by decide) (by decide) (by decide) (by decide) (by decide) rfl) hk
    have hPM : va_P D vwCl (cellM cI g (m_M_putWind sM p1).2) H := hQ
    refine lv_goto (tgt := 24) hx hb dX4_wind_19 (by decide) ?_
    have hM : (m_T_wind sT sM p1) = (((m_M_putWind sM p1).1, (m_M_putWind sM p1).2) : Int32 × St) := hM
    exact hret (m_M_putWind sM p1).1 H locs _ ls (nr_i _) dX4_wind_24 (ret1 hM) (rP_v1 (P := fun (z0 : St) => va_P D vwCl (cellT cI g sT vT) H ∧ va_P D vwCl (cellM cI g z0) H ∧ va_P D vwCl (cellB cI g sB) H ∧ va_P D vwCl (cellL cI g sL) H ∧ va_P D vwCl (cellS cI g sS) H) hM ⟨hPT, hPM, hPB, hPL, hPS⟩) hS
abbrev rm_T_sine : Room := { frames := 3, cells := 0, slots := 0, locals := 72 }
set_option maxHeartbeats 4000000 in
set_option maxRecDepth 100000 in
theorem K_T_sine {l : Launch} {D : va_G} {cI : ClassId} {lo : Nat} {g : Nat → Nat} (hg : wI g 0 19 lo) (sT : St) (vT : Int64) (sM : St) (sB : St) (sL : St) (sS : St) (p1 : Int32) : ROi l D cI lo yX4_sine wsX4_sine rm_T_sine [.ref (g 0), .int p1] (fun H => va_P D vwCl (cellT cI g sT vT) H ∧ va_P D vwCl (cellM cI g sM) H ∧ va_P D vwCl (cellB cI g sB) H ∧ va_P D vwCl (cellL cI g sL) H ∧ va_P D vwCl (cellS cI g sS) H) (m_T_sine sT p1) := by
  refine ofW_ROi (cc := cX4_sine) (maxL := 2) (ty := .int) (by decide +kernel) rfl (Nat.le_of_ble_eq_true rfl) ?_
  intro p e s m args below meth c Q hx hb hml hown hts hE hP hret ls hl
  have hown : s.vm.findClass RX4 = some m.cls := hown
  obtain ⟨hPT, hPM, hPB, hPL, hPS⟩ := hP
  have hA : ∀ q : Nat, (fun _ : Nat => False) q → lo ≤ q := fun _ h => h.elim
  have hS : va_S (fun _ : Nat => False) s.heap s.heap [] := va_S.rf
  have hl : lv_has ls 2 [(0, .ref (g 0)), (1, .int p1)] := hl
  have hM : (m_T_sine sT p1) = (m_T_sine sT p1) := rfl
  refine lv_iload_n hx hb dX4_sine_0 rfl (lv_at hl 1 rfl) ?_
  refine lv_sipush (v := (-180)) hx hb dX4_sine_1 (by decide) ?_
  refine lv_sipush (v := 180) hx hb dX4_sine_4 (by decide) ?_
  refine runS_i (va_runS (As := [.int p1, .int (-180), .int 180]) (rest := []) ⟨hx, hb, hml, hown, hts⟩ (K_T_within p1 (-180) 180) (va_cwS 3 hts gX4_sine_X4_within rfl rfl rfl (by decide +kernel) ⟨Nat.le_of_ble_eq_true rfl, Nat.le_of_ble_eq_true rfl⟩) (preS_of hE hA hS trivial) rfl rfl hl.1 rfl (lv_room (Nat.le_of_ble_eq_true rfl)) dX4_sine_7 ⟨Nat.zero_le _, Nat.zero_le _⟩) ?_
  refine lv_if_eq (tgt := 20) hx hb dX4_sine_10 (by decide) (fun c_1 => ?_) (fun c_1 => ?_)
  · have hM := hM.trans (if_pos c_1)
    refine lv_sipush (v := (-2000)) hx hb dX4_sine_20 (by decide) ?_
    have hM : (m_T_sine sT p1) = ((-2000) : Int32) := hM
    exact hret _ _ ls (nr_i _) dX4_sine_23 hM.symm
  · have hM := hM.trans (if_neg c_1)
    have u_1 := within_t c_1
    rw [tl_m180, tl_180] at u_1
    refine lv_iload_n hx hb dX4_sine_13 rfl (lv_at hl 1 rfl) ?_
    refine runS_i (va_runS (As := [.int p1]) (rest := []) ⟨hx, hb, hml, hown, hts⟩ (K_T_sineOf p1) (va_cwS 1 hts gX4_sine_X4_sineOf rfl rfl rfl (by decide +kernel) ⟨Nat.le_of_ble_eq_true rfl, Nat.le_of_ble_eq_true rfl⟩) (preS_of hE hA hS trivial) rfl rfl hl.1 rfl (lv_room (Nat.le_of_ble_eq_true rfl)) dX4_sine_14 ⟨Nat.zero_le _, Nat.zero_le _⟩) ?_
    refine lv_goto (tgt := 23) hx hb dX4_sine_17 (by decide) ?_
    have hM : (m_T_sine sT p1) = ((m_T_sineOf p1) : Int32) := hM
    exact hret _ _ ls (nr_i _) dX4_sine_23 hM.symm
abbrev rm_T_throwing : Room := { frames := 6, cells := 0, slots := 0, locals := 148 }
set_option maxHeartbeats 4000000 in
set_option maxRecDepth 100000 in
theorem K_T_throwing {l : Launch} {D : va_G} {cI : ClassId} {lo : Nat} {g : Nat → Nat} (hg : wI g 0 19 lo) (sT : St) (vT : Int64) (sM : St) (sB : St) (sL : St) (sS : St) (p1 : Int32) : WRi l D cI lo yX4_throwing wsX4_throwing rm_T_throwing [.ref (g 0), .int p1] (fun H => va_P D vwCl (cellT cI g sT vT) H ∧ va_P D vwCl (cellM cI g sM) H ∧ va_P D vwCl (cellB cI g sB) H ∧ va_P D vwCl (cellL cI g sL) H ∧ va_P D vwCl (cellS cI g sS) H) (m_T_throwing sT sM p1).1 (fun H => va_P D vwCl (cellT cI g sT vT) H ∧ va_P D vwCl (cellM cI g (m_T_throwing sT sM p1).2) H ∧ va_P D vwCl (cellB cI g sB) H ∧ va_P D vwCl (cellL cI g sL) H ∧ va_P D vwCl (cellS cI g sS) H) (wA g 0 19) := by
  refine ofW_WRi (cc := cX4_throwing) (maxL := 2) (ty := .int) (by decide +kernel) rfl (Nat.le_of_ble_eq_true rfl) ?_
  intro p e s m args below meth c Q hx hb hml hown hts hE hP hret ls hl
  have hown : s.vm.findClass RX4 = some m.cls := hown
  obtain ⟨hPT, hPM, hPB, hPL, hPS⟩ := hP
  have hA := wA.lo hg
  have hS : va_S (wA g 0 19) s.heap s.heap [] := va_S.rf
  obtain ⟨H, hH⟩ : ∃ z, z = s.heap := ⟨_, rfl⟩
  obtain ⟨locs, hlocs⟩ : ∃ z : List Loc, z = [] := ⟨_, rfl⟩
  have hPT : va_P D vwCl (cellT cI g sT vT) H := by rw [hH]; exact hPT
  have hPM : va_P D vwCl (cellM cI g sM) H := by rw [hH]; exact hPM
  have hPB : va_P D vwCl (cellB cI g sB) H := by rw [hH]; exact hPB
  have hPL : va_P D vwCl (cellL cI g sL) H := by rw [hH]; exact hPL
  have hPS : va_P D vwCl (cellS cI g sS) H := by rw [hH]; exact hPS
  have hS : va_S (wA g 0 19) s.heap H locs := by rw [hH, hlocs]; exact va_S.rf
  have gW : W p l e rm_T_throwing s m args below meth c H locs 0 0 Q (F0 m 0 ls []) → W p l e rm_T_throwing s m args below meth c s.heap [] 0 0 Q (F0 m 0 ls []) := by rw [hH, hlocs]; exact id
  refine gW ?_
  have hinT : ∀ w ∈ wsX40, w ∈ wsX4_throwing := fun w h => List.mem_cons_of_mem _ (List.mem_append_left _ (List.mem_append_right _ h))
  have hinM : ∀ w ∈ wsX10, w ∈ wsX4_throwing := fun w h => List.mem_cons_of_mem _ (List.mem_append_right _ h)
  have hl : lv_has ls 2 [(0, .ref (g 0)), (1, .int p1)] := hl
  have hM : (m_T_throwing sT sM p1) = (m_T_throwing sT sM p1) := rfl
  refine lv_iload_n hx hb dX4_throwing_0 rfl (lv_at hl 1 rfl) ?_
  refine lv_iconst (v := 0) hx hb dX4_throwing_1 (by decide) ?_
  refine lv_bipush (v := 6) hx hb dX4_throwing_2 (by decide) ?_
  refine runS_i (va_runS (As := [.int p1, .int 0, .int 6]) (rest := []) ⟨hx, hb, hml, hown, hts⟩ (K_T_within p1 0 6) (va_cwS 3 hts gX4_throwing_X4_within rfl rfl rfl (by decide +kernel) ⟨Nat.le_of_ble_eq_true rfl, Nat.le_of_ble_eq_true rfl⟩) (preS_of hE hA hS trivial) rfl rfl hl.1 rfl (lv_room (Nat.le_of_ble_eq_true rfl)) dX4_throwing_4 ⟨Nat.zero_le _, Nat.zero_le _⟩) ?_
  refine lv_if_ne (tgt := 12) hx hb dX4_throwing_7 (by decide) (fun c_1 => ?_) (fun c_1 => ?_)
  · have hM := hM.trans (if_neg c_1)
    have u_1 := within_t c_1
    rw [tl_0, tl_6] at u_1
    refine lv_aload_n hx hb dX4_throwing_12 rfl (lv_at hl 0 rfl) ?_
    refine va_get (D := D) (ci := 4) (v := .ref (g 1)) (C := RX4) (T := TX4) (N := 7) hx hb hts hinT hown hE.1 hPT 0 rfl rfl 0 (by decide) (hts (.fieldLink RX4 10 "WallStones" "engine" "LWallStones$Machine;") (List.mem_of_getElem? (i := 1) rfl)) (fun _ h9 => h9) rfl dX4_throwing_13 ?_
    refine runW_i (va_runV (As := []) (rest := []) ⟨hx, hb, hml, hown, hts⟩ (K_M_reckonOwn (hg.sub (by decide) (by decide)) sM) (cwV 0 hts gX4_throwing_X1_reckonOwn rfl rfl rfl (by decide +kernel) ⟨Nat.le_of_ble_eq_true rfl, Nat.le_of_ble_eq_true rfl⟩) (preV_of hE hA hS hPM (va_recv hE.1 hPM (ci := 1) (q0 := 0) rfl rfl)) rfl rfl hl.1 rfl (lv_room (Nat.le_of_ble_eq_true rfl)) dX4_throwing_16 ⟨Nat.zero_le _, Nat.zero_le _⟩) hS (fun _ h9 => wA.sub (by decide) (by decide) _ h9) (fun H locs hQ hk hS => ?_)
    have hPT : va_P D vwCl (cellT cI g sT vT) H := wKeep hPT (wOff hg (c := 0) (n := 1) (x := 1) (y := 6) (by decide) (by decide) (by decide) (by decide) (by decide) rfl) hk
    have hPB : va_P D vwCl (cellB cI g sB) H := wKeep hPB (wOff hg (c := 6) (n := 6) (x := 1) (y := 6) (by decide) (by decide) (by decide) (by decide) (by decide) rfl) hk
    have hPL : va_P D vwCl (cellL cI g sL) H := wKeep hPL (wOff hg (c := 12) (n := 5) (x := 1) (y := 6) (by decide) (by decide) (by decide) (by decide) (by decide) rfl) hk
    have hPS : va_P D vwCl (cellS cI g sS) H := wKeep hPS (wOff hg (c := 17) (n := 2) (x := 1) (y := 6) (by decide) (by decide) (by decide) (by decide) (by decide) rfl) hk
    have hPM : va_P D vwCl (cellM cI g (m_M_reckonOwn sM).2) H := hQ
    refine lv_pop hx hb dX4_throwing_19 rfl ?_
    refine lv_aload_n hx hb dX4_throwing_20 rfl (lv_at hl 0 rfl) ?_
    refine va_get (D := D) (ci := 4) (v := .ref (g 1)) (C := RX4) (T := TX4) (N := 7) hx hb hts hinT hown hE.1 hPT 0 rfl rfl 0 (by decide) (hts (.fieldLink RX4 10 "WallStones" "engine" "LWallStones$Machine;") (List.mem_of_getElem? (i := 1) rfl)) (fun _ h9 => h9) rfl dX4_throwing_21 ?_
    refine lv_iload_n hx hb dX4_throwing_24 rfl (lv_at hl 1 rfl) ?_
    refine runS_i (va_runV (As := [.int p1]) (rest := []) ⟨hx, hb, hml, hown, hts⟩ (K_M_reckoned (hg.sub (by decide) (by decide)) (m_M_reckonOwn sM).2 p1) (cwV 1 hts gX4_throwing_X1_reckoned rfl rfl rfl (by decide +kernel) ⟨Nat.le_of_ble_eq_true rfl, Nat.le_of_ble_eq_true rfl⟩) (preV_of hE hA hS hPM (va_recv hE.1 hPM (ci := 1) (q0 := 0) rfl rfl)) rfl rfl hl.1 rfl (lv_room (Nat.le_of_ble_eq_true rfl)) dX4_throwing_25 ⟨Nat.zero_le _, Nat.zero_le _⟩) ?_
    have hM : (m_T_throwing sT sM p1) = (((m_M_reckoned (m_M_reckonOwn sM).2 p1), (m_M_reckonOwn sM).2) : Int32 × St) := hM
    exact hret (m_M_reckoned (m_M_reckonOwn sM).2 p1) H locs _ ls (nr_i _) dX4_throwing_28 (ret1 hM) (rP_v1 (P := fun (z0 : St) => va_P D vwCl (cellT cI g sT vT) H ∧ va_P D vwCl (cellM cI g z0) H ∧ va_P D vwCl (cellB cI g sB) H ∧ va_P D vwCl (cellL cI g sL) H ∧ va_P D vwCl (cellS cI g sS) H) hM ⟨hPT, hPM, hPB, hPL, hPS⟩) hS
  · have hM := hM.trans (if_pos c_1)
    refine lv_iconst (v := (-1)) hx hb dX4_throwing_10 (by decide) ?_
    have hM : (m_T_throwing sT sM p1) = (((-1), sM) : Int32 × St) := hM
    exact hret (-1) H locs _ ls (nr_i _) dX4_throwing_11 (ret1 hM) (rP_v1 (P := fun (z0 : St) => va_P D vwCl (cellT cI g sT vT) H ∧ va_P D vwCl (cellM cI g z0) H ∧ va_P D vwCl (cellB cI g sB) H ∧ va_P D vwCl (cellL cI g sL) H ∧ va_P D vwCl (cellS cI g sS) H) hM ⟨hPT, hPM, hPB, hPL, hPS⟩) hS
abbrev rm_T_flight : Room := { frames := 3, cells := 0, slots := 0, locals := 72 }
set_option maxHeartbeats 4000000 in
set_option maxRecDepth 100000 in
theorem K_T_flight {l : Launch} {D : va_G} {cI : ClassId} {lo : Nat} {g : Nat → Nat} (hg : wI g 0 19 lo) (sT : St) (vT : Int64) (sM : St) (sB : St) (sL : St) (sS : St) (p1 : Int32) (p2 : Int32) : WRi l D cI lo yX4_flight wsX4_flight rm_T_flight [.ref (g 0), .int p1, .int p2] (fun H => va_P D vwCl (cellT cI g sT vT) H ∧ va_P D vwCl (cellM cI g sM) H ∧ va_P D vwCl (cellB cI g sB) H ∧ va_P D vwCl (cellL cI g sL) H ∧ va_P D vwCl (cellS cI g sS) H) (m_T_flight sT vT sM p1 p2).1 (fun H => va_P D vwCl (cellT cI g sT (m_T_flight sT vT sM p1 p2).2) H ∧ va_P D vwCl (cellM cI g sM) H ∧ va_P D vwCl (cellB cI g sB) H ∧ va_P D vwCl (cellL cI g sL) H ∧ va_P D vwCl (cellS cI g sS) H) (wA g 0 19) := by
  refine ofW_WRi (cc := cX4_flight) (maxL := 3) (ty := .int) (by decide +kernel) rfl (Nat.le_of_ble_eq_true rfl) ?_
  intro p e s m args below meth c Q hx hb hml hown hts hE hP hret ls hl
  have hown : s.vm.findClass RX4 = some m.cls := hown
  obtain ⟨hPT, hPM, hPB, hPL, hPS⟩ := hP
  have hA := wA.lo hg
  have hS : va_S (wA g 0 19) s.heap s.heap [] := va_S.rf
  obtain ⟨H, hH⟩ : ∃ z, z = s.heap := ⟨_, rfl⟩
  obtain ⟨locs, hlocs⟩ : ∃ z : List Loc, z = [] := ⟨_, rfl⟩
  have hPT : va_P D vwCl (cellT cI g sT vT) H := by rw [hH]; exact hPT
  have hPM : va_P D vwCl (cellM cI g sM) H := by rw [hH]; exact hPM
  have hPB : va_P D vwCl (cellB cI g sB) H := by rw [hH]; exact hPB
  have hPL : va_P D vwCl (cellL cI g sL) H := by rw [hH]; exact hPL
  have hPS : va_P D vwCl (cellS cI g sS) H := by rw [hH]; exact hPS
  have hS : va_S (wA g 0 19) s.heap H locs := by rw [hH, hlocs]; exact va_S.rf
  have gW : W p l e rm_T_flight s m args below meth c H locs 0 0 Q (F0 m 0 ls []) → W p l e rm_T_flight s m args below meth c s.heap [] 0 0 Q (F0 m 0 ls []) := by rw [hH, hlocs]; exact id
  refine gW ?_
  have hinT : ∀ w ∈ wsX40, w ∈ wsX4_flight := fun w h => List.mem_cons_of_mem _ (List.mem_append_left _ (List.mem_append_right _ h))
  have hinM : ∀ w ∈ wsX10, w ∈ wsX4_flight := fun w h => List.mem_cons_of_mem _ (List.mem_append_right _ h)
  have hl : lv_has ls 3 [(0, .ref (g 0)), (1, .int p1), (2, .int p2)] := hl
  have hM : (m_T_flight sT vT sM p1 p2) = (m_T_flight sT vT sM p1 p2) := rfl
  refine lv_iload_n hx hb dX4_flight_0 rfl (lv_at hl 1 rfl) ?_
  refine lv_iconst (v := 0) hx hb dX4_flight_1 (by decide) ?_
  refine lv_iconst (v := 2) hx hb dX4_flight_2 (by decide) ?_
  refine runS_i (va_runS (As := [.int p1, .int 0, .int 2]) (rest := []) ⟨hx, hb, hml, hown, hts⟩ (K_T_within p1 0 2) (va_cwS 3 hts gX4_flight_X4_within rfl rfl rfl (by decide +kernel) ⟨Nat.le_of_ble_eq_true rfl, Nat.le_of_ble_eq_true rfl⟩) (preS_of hE hA hS trivial) rfl rfl hl.1 rfl (lv_room (Nat.le_of_ble_eq_true rfl)) dX4_flight_3 ⟨Nat.zero_le _, Nat.zero_le _⟩) ?_
  refine lv_if_eq (tgt := 20) hx hb dX4_flight_6 (by decide) (fun c_1 => ?_) (fun c_1 => ?_)
  · have hM := hM.trans (if_pos c_1)
    refine lv_iconst (v := (-1)) hx hb dX4_flight_20 (by decide) ?_
    have hM : (m_T_flight sT vT sM p1 p2) = (((-1), vT) : Int32 × Int64) := hM
    exact hret (-1) H locs _ ls (nr_i _) dX4_flight_21 (ret1 hM) (rP_v1 (P := fun (z0 : Int64) => va_P D vwCl (cellT cI g sT z0) H ∧ va_P D vwCl (cellM cI g sM) H ∧ va_P D vwCl (cellB cI g sB) H ∧ va_P D vwCl (cellL cI g sL) H ∧ va_P D vwCl (cellS cI g sS) H) hM ⟨hPT, hPM, hPB, hPL, hPS⟩) hS
  · have hM := hM.trans (if_neg c_1)
    have u_1 := within_t c_1
    rw [tl_0, tl_2] at u_1
    refine lv_iload_n hx hb dX4_flight_9 rfl (lv_at hl 2 rfl) ?_
    refine lv_iconst (v := 0) hx hb dX4_flight_10 (by decide) ?_
    refine lv_sipush (v := 20000) hx hb dX4_flight_11 (by decide) ?_
    refine runS_i (va_runS (As := [.int p2, .int 0, .int 20000]) (rest := []) ⟨hx, hb, hml, hown, hts⟩ (K_T_within p2 0 20000) (va_cwS 3 hts gX4_flight_X4_within rfl rfl rfl (by decide +kernel) ⟨Nat.le_of_ble_eq_true rfl, Nat.le_of_ble_eq_true rfl⟩) (preS_of hE hA hS trivial) rfl rfl hl.1 rfl (lv_room (Nat.le_of_ble_eq_true rfl)) dX4_flight_14 ⟨Nat.zero_le _, Nat.zero_le _⟩) ?_
    refine lv_if_ne (tgt := 22) hx hb dX4_flight_17 (by decide) (fun c_2 => ?_) (fun c_2 => ?_)
    · have hM := hM.trans (if_neg c_2)
      have u_2 := within_t c_2
      rw [tl_0, tl_20000] at u_2
      refine lv_aload_n hx hb dX4_flight_22 rfl (lv_at hl 0 rfl) ?_
      refine lv_dup hx hb dX4_flight_23 rfl ?_
      refine va_get (D := D) (ci := 4) (v := .long vT) (C := RX4) (T := TX4) (N := 7) hx hb hts hinT hown hE.1 hPT 0 rfl rfl 6 (by decide) (hts (.fieldLink RX4 67 "WallStones" "traced" "J") (List.mem_of_getElem? (i := 1) rfl)) (fun _ h9 => h9) rfl dX4_flight_24 ?_
      refine lv_iload_n hx hb dX4_flight_27 rfl (lv_at hl 1 rfl) ?_
      refine runS_i (va_runS (As := [.int p1]) (rest := [.long vT, .ref (g 0)]) ⟨hx, hb, hml, hown, hts⟩ (K_M_bodiesAsked p1) (va_cwS 1 hts gX4_flight_X1_bodiesAsked rfl rfl rfl (by decide +kernel) ⟨Nat.le_of_ble_eq_true rfl, Nat.le_of_ble_eq_true rfl⟩) (preS_of hE hA hS trivial) rfl rfl hl.1 rfl (lv_room (Nat.le_of_ble_eq_true rfl)) dX4_flight_28 ⟨Nat.zero_le _, Nat.zero_le _⟩) ?_
      refine lv_i2l (v := (Int32.toInt64 (m_M_bodiesAsked p1))) hx hb dX4_flight_31 rfl ?_
      refine lv_ladd hx hb dX4_flight_32 ?_
      refine va_put (D := D) (ci := 4) (v := .long (vT + (Int32.toInt64 (m_M_bodiesAsked p1)))) (ty := .long) (C := RX4) (T := TX4) (N := 7) hx hb hts hinT tyX4 tyX4_ok nmX4 hown hE.1 ((((hPT.app hPM).app hPB).app hPL).app hPS) (wD_of hg (c := 0) (n := 19) (by decide) (by decide) rfl) hS 0 rfl rfl 6 (by decide) (hts (.fieldLink RX4 67 "WallStones" "traced" "J") (List.mem_of_getElem? (i := 1) rfl)) (fun _ h9 => h9) rfl (by decide +kernel) rfl rfl (Nat.le_of_ble_eq_true rfl) dX4_flight_33 (fun H locs hPn _ hS => ?_)
      have hPn : va_P D vwCl (((((cellT cI g sT (vT + (Int32.toInt64 (m_M_bodiesAsked p1)))) ++ cellM cI g sM) ++ cellB cI g sB) ++ cellL cI g sL) ++ cellS cI g sS) H := (congrArg (fun z => va_P D vwCl z H) putTMBLS_T6).mp hPn
      have hPT : va_P D vwCl (cellT cI g sT (vT + (Int32.toInt64 (m_M_bodiesAsked p1)))) H := hPn.sub [0] rfl
      have hPM : va_P D vwCl (cellM cI g sM) H := hPn.sub [1, 2, 3, 4, 5] rfl
      have hPB : va_P D vwCl (cellB cI g sB) H := hPn.sub [6, 7, 8, 9, 10, 11] rfl
      have hPL : va_P D vwCl (cellL cI g sL) H := hPn.sub [12, 13, 14, 15, 16] rfl
      have hPS : va_P D vwCl (cellS cI g sS) H := hPn.sub [17, 18] rfl
      refine lv_aload_n hx hb dX4_flight_36 rfl (lv_at hl 0 rfl) ?_
      refine va_get (D := D) (ci := 4) (v := .ref (g 1)) (C := RX4) (T := TX4) (N := 7) hx hb hts hinT hown hE.1 hPT 0 rfl rfl 0 (by decide) (hts (.fieldLink RX4 10 "WallStones" "engine" "LWallStones$Machine;") (List.mem_of_getElem? (i := 2) rfl)) (fun _ h9 => h9) rfl dX4_flight_37 ?_
      refine lv_iload_n hx hb dX4_flight_40 rfl (lv_at hl 1 rfl) ?_
      refine lv_iload_n hx hb dX4_flight_41 rfl (lv_at hl 2 rfl) ?_
      refine runS_i (va_runV (As := [.int p1, .int p2]) (rest := []) ⟨hx, hb, hml, hown, hts⟩ (K_M_flightOf (hg.sub (by decide) (by decide)) sM p1 p2) (cwV 2 hts gX4_flight_X1_flightOf rfl rfl rfl (by decide +kernel) ⟨Nat.le_of_ble_eq_true rfl, Nat.le_of_ble_eq_true rfl⟩) (preV_of hE hA hS hPM (va_recv hE.1 hPM (ci := 1) (q0 := 0) rfl rfl)) rfl rfl hl.1 rfl (lv_room (Nat.le_of_ble_eq_true rfl)) dX4_flight_42 ⟨Nat.zero_le _, Nat.zero_le _⟩) ?_
      have hM : (m_T_flight sT vT sM p1 p2) = (((m_M_flightOf sM p1 p2), (vT + (Int32.toInt64 (m_M_bodiesAsked p1)))) : Int32 × Int64) := hM
      exact hret (m_M_flightOf sM p1 p2) H locs _ ls (nr_i _) dX4_flight_45 (ret1 hM) (rP_v1 (P := fun (z0 : Int64) => va_P D vwCl (cellT cI g sT z0) H ∧ va_P D vwCl (cellM cI g sM) H ∧ va_P D vwCl (cellB cI g sB) H ∧ va_P D vwCl (cellL cI g sL) H ∧ va_P D vwCl (cellS cI g sS) H) hM ⟨hPT, hPM, hPB, hPL, hPS⟩) hS
    · have hM := hM.trans (if_pos c_2)
      refine lv_iconst (v := (-1)) hx hb dX4_flight_20 (by decide) ?_
      have hM : (m_T_flight sT vT sM p1 p2) = (((-1), vT) : Int32 × Int64) := hM
      exact hret (-1) H locs _ ls (nr_i _) dX4_flight_21 (ret1 hM) (rP_v1 (P := fun (z0 : Int64) => va_P D vwCl (cellT cI g sT z0) H ∧ va_P D vwCl (cellM cI g sM) H ∧ va_P D vwCl (cellB cI g sB) H ∧ va_P D vwCl (cellL cI g sL) H ∧ va_P D vwCl (cellS cI g sS) H) hM ⟨hPT, hPM, hPB, hPL, hPS⟩) hS
abbrev rm_T_tune : Room := { frames := 6, cells := 0, slots := 0, locals := 156 }
set_option maxHeartbeats 4000000 in
set_option maxRecDepth 100000 in
theorem K_T_tune {l : Launch} {D : va_G} {cI : ClassId} {lo : Nat} {g : Nat → Nat} (hg : wI g 0 19 lo) (sT : St) (vT : Int64) (sM : St) (sB : St) (sL : St) (sS : St) (p1 : Int32) (p2 : Int32) (p3 : Int32) (p4 : Int32) : WRi l D cI lo yX4_tune wsX4_tune rm_T_tune [.ref (g 0), .int p1, .int p2, .int p3, .int p4] (fun H => va_P D vwCl (cellT cI g sT vT) H ∧ va_P D vwCl (cellM cI g sM) H ∧ va_P D vwCl (cellB cI g sB) H ∧ va_P D vwCl (cellL cI g sL) H ∧ va_P D vwCl (cellS cI g sS) H) (m_T_tune sT sM p1 p2 p3 p4).1 (fun H => va_P D vwCl (cellT cI g sT vT) H ∧ va_P D vwCl (cellM cI g (m_T_tune sT sM p1 p2 p3 p4).2) H ∧ va_P D vwCl (cellB cI g sB) H ∧ va_P D vwCl (cellL cI g sL) H ∧ va_P D vwCl (cellS cI g sS) H) (wA g 0 19) := by
  refine ofW_WRi (cc := cX4_tune) (maxL := 5) (ty := .int) (by decide +kernel) rfl (Nat.le_of_ble_eq_true rfl) ?_
  intro p e s m args below meth c Q hx hb hml hown hts hE hP hret ls hl
  have hown : s.vm.findClass RX4 = some m.cls := hown
  obtain ⟨hPT, hPM, hPB, hPL, hPS⟩ := hP
  have hA := wA.lo hg
  have hS : va_S (wA g 0 19) s.heap s.heap [] := va_S.rf
  obtain ⟨H, hH⟩ : ∃ z, z = s.heap := ⟨_, rfl⟩
  obtain ⟨locs, hlocs⟩ : ∃ z : List Loc, z = [] := ⟨_, rfl⟩
  have hPT : va_P D vwCl (cellT cI g sT vT) H := by rw [hH]; exact hPT
  have hPM : va_P D vwCl (cellM cI g sM) H := by rw [hH]; exact hPM
  have hPB : va_P D vwCl (cellB cI g sB) H := by rw [hH]; exact hPB
  have hPL : va_P D vwCl (cellL cI g sL) H := by rw [hH]; exact hPL
  have hPS : va_P D vwCl (cellS cI g sS) H := by rw [hH]; exact hPS
  have hS : va_S (wA g 0 19) s.heap H locs := by rw [hH, hlocs]; exact va_S.rf
  have gW : W p l e rm_T_tune s m args below meth c H locs 0 0 Q (F0 m 0 ls []) → W p l e rm_T_tune s m args below meth c s.heap [] 0 0 Q (F0 m 0 ls []) := by rw [hH, hlocs]; exact id
  refine gW ?_
  have hinT : ∀ w ∈ wsX40, w ∈ wsX4_tune := fun w h => List.mem_cons_of_mem _ (List.mem_append_left _ (List.mem_append_right _ h))
  have hinM : ∀ w ∈ wsX10, w ∈ wsX4_tune := fun w h => List.mem_cons_of_mem _ (List.mem_append_right _ h)
  have hl : lv_has ls 5 [(0, .ref (g 0)), (1, .int p1), (2, .int p2), (3, .int p3), (4, .int p4)] := hl
  have hM : (m_T_tune sT sM p1 p2 p3 p4) = (m_T_tune sT sM p1 p2 p3 p4) := rfl
  refine lv_aload_n hx hb dX4_tune_0 rfl (lv_at hl 0 rfl) ?_
  refine va_get (D := D) (ci := 4) (v := .ref (g 1)) (C := RX4) (T := TX4) (N := 7) hx hb hts hinT hown hE.1 hPT 0 rfl rfl 0 (by decide) (hts (.fieldLink RX4 10 "WallStones" "engine" "LWallStones$Machine;") (List.mem_of_getElem? (i := 1) rfl)) (fun _ h9 => h9) rfl dX4_tune_1 ?_
  refine lv_iconst (v := 3) hx hb dX4_tune_4 (by decide) ?_
  refine lv_iload_n hx hb dX4_tune_5 rfl (lv_at hl 1 rfl) ?_
  refine runS_i (va_runV (As := [.int 3, .int p1]) (rest := []) ⟨hx, hb, hml, hown, hts⟩ (K_M_takes (hg.sub (by decide) (by decide)) sM 3 p1) (cwV 2 hts gX4_tune_X1_takes rfl rfl rfl (by decide +kernel) ⟨Nat.le_of_ble_eq_true rfl, Nat.le_of_ble_eq_true rfl⟩) (preV_of hE hA hS hPM (va_recv hE.1 hPM (ci := 1) (q0 := 0) rfl rfl)) rfl rfl hl.1 rfl (lv_room (Nat.le_of_ble_eq_true rfl)) dX4_tune_6 ⟨Nat.zero_le _, Nat.zero_le _⟩) ?_
  refine lv_if_eq (tgt := 50) hx hb dX4_tune_9 (by decide) (fun c_1 => ?_) (fun c_1 => ?_)
  · have hM := hM.trans (if_pos c_1)
    have t_1 := eq_t c_1
    rw [tl_0] at t_1
    refine lv_iconst (v := (-1)) hx hb dX4_tune_50 (by decide) ?_
    have hM : (m_T_tune sT sM p1 p2 p3 p4) = (((-1), sM) : Int32 × St) := hM
    exact hret (-1) H locs _ ls (nr_i _) dX4_tune_51 (ret1 hM) (rP_v1 (P := fun (z0 : St) => va_P D vwCl (cellT cI g sT vT) H ∧ va_P D vwCl (cellM cI g z0) H ∧ va_P D vwCl (cellB cI g sB) H ∧ va_P D vwCl (cellL cI g sL) H ∧ va_P D vwCl (cellS cI g sS) H) hM ⟨hPT, hPM, hPB, hPL, hPS⟩) hS
  · have hM := hM.trans (if_neg c_1)
    have t_1 := ne_t c_1
    rw [tl_0] at t_1
    have u_1 := takes3_t c_1
    refine lv_aload_n hx hb dX4_tune_12 rfl (lv_at hl 0 rfl) ?_
    refine va_get (D := D) (ci := 4) (v := .ref (g 1)) (C := RX4) (T := TX4) (N := 7) hx hb hts hinT hown hE.1 hPT 0 rfl rfl 0 (by decide) (hts (.fieldLink RX4 10 "WallStones" "engine" "LWallStones$Machine;") (List.mem_of_getElem? (i := 1) rfl)) (fun _ h9 => h9) rfl dX4_tune_13 ?_
    refine lv_iconst (v := 3) hx hb dX4_tune_16 (by decide) ?_
    refine lv_iload_n hx hb dX4_tune_17 rfl (lv_at hl 2 rfl) ?_
    refine runS_i (va_runV (As := [.int 3, .int p2]) (rest := []) ⟨hx, hb, hml, hown, hts⟩ (K_M_takes (hg.sub (by decide) (by decide)) sM 3 p2) (cwV 2 hts gX4_tune_X1_takes rfl rfl rfl (by decide +kernel) ⟨Nat.le_of_ble_eq_true rfl, Nat.le_of_ble_eq_true rfl⟩) (preV_of hE hA hS hPM (va_recv hE.1 hPM (ci := 1) (q0 := 0) rfl rfl)) rfl rfl hl.1 rfl (lv_room (Nat.le_of_ble_eq_true rfl)) dX4_tune_18 ⟨Nat.zero_le _, Nat.zero_le _⟩) ?_
    refine lv_if_eq (tgt := 50) hx hb dX4_tune_21 (by decide) (fun c_2 => ?_) (fun c_2 => ?_)
    · have hM := hM.trans (if_pos c_2)
      have t_2 := eq_t c_2
      rw [tl_0] at t_2
      refine lv_iconst (v := (-1)) hx hb dX4_tune_50 (by decide) ?_
      have hM : (m_T_tune sT sM p1 p2 p3 p4) = (((-1), sM) : Int32 × St) := hM
      exact hret (-1) H locs _ ls (nr_i _) dX4_tune_51 (ret1 hM) (rP_v1 (P := fun (z0 : St) => va_P D vwCl (cellT cI g sT vT) H ∧ va_P D vwCl (cellM cI g z0) H ∧ va_P D vwCl (cellB cI g sB) H ∧ va_P D vwCl (cellL cI g sL) H ∧ va_P D vwCl (cellS cI g sS) H) hM ⟨hPT, hPM, hPB, hPL, hPS⟩) hS
    · have hM := hM.trans (if_neg c_2)
      have t_2 := ne_t c_2
      rw [tl_0] at t_2
      have u_2 := takes3_t c_2
      refine lv_iload_n hx hb dX4_tune_24 rfl (lv_at hl 1 rfl) ?_
      refine lv_iload_n hx hb dX4_tune_25 rfl (lv_at hl 2 rfl) ?_
      refine lv_icmp_gt (tgt := 50) hx hb dX4_tune_26 (by decide) (fun c_3 => ?_) (fun c_3 => ?_)
      · have hM := hM.trans (if_pos c_3)
        have t_3 := lt_t c_3
        refine lv_iconst (v := (-1)) hx hb dX4_tune_50 (by decide) ?_
        have hM : (m_T_tune sT sM p1 p2 p3 p4) = (((-1), sM) : Int32 × St) := hM
        exact hret (-1) H locs _ ls (nr_i _) dX4_tune_51 (ret1 hM) (rP_v1 (P := fun (z0 : St) => va_P D vwCl (cellT cI g sT vT) H ∧ va_P D vwCl (cellM cI g z0) H ∧ va_P D vwCl (cellB cI g sB) H ∧ va_P D vwCl (cellL cI g sL) H ∧ va_P D vwCl (cellS cI g sS) H) hM ⟨hPT, hPM, hPB, hPL, hPS⟩) hS
      · have hM := hM.trans (if_neg c_3)
        have t_3 := nlt_t c_3
        refine lv_iload_n hx hb dX4_tune_29 rfl (lv_at hl 3 rfl) ?_
        refine lv_iconst (v := 0) hx hb dX4_tune_30 (by decide) ?_
        refine lv_sipush (v := 2000) hx hb dX4_tune_31 (by decide) ?_
        refine runS_i (va_runS (As := [.int p3, .int 0, .int 2000]) (rest := []) ⟨hx, hb, hml, hown, hts⟩ (K_T_within p3 0 2000) (va_cwS 3 hts gX4_tune_X4_within rfl rfl rfl (by decide +kernel) ⟨Nat.le_of_ble_eq_true rfl, Nat.le_of_ble_eq_true rfl⟩) (preS_of hE hA hS trivial) rfl rfl hl.1 rfl (lv_room (Nat.le_of_ble_eq_true rfl)) dX4_tune_34 ⟨Nat.zero_le _, Nat.zero_le _⟩) ?_
        refine lv_if_eq (tgt := 50) hx hb dX4_tune_37 (by decide) (fun c_4 => ?_) (fun c_4 => ?_)
        · have hM := hM.trans (if_pos c_4)
          have t_4 := eq_t c_4
          rw [tl_0] at t_4
          refine lv_iconst (v := (-1)) hx hb dX4_tune_50 (by decide) ?_
          have hM : (m_T_tune sT sM p1 p2 p3 p4) = (((-1), sM) : Int32 × St) := hM
          exact hret (-1) H locs _ ls (nr_i _) dX4_tune_51 (ret1 hM) (rP_v1 (P := fun (z0 : St) => va_P D vwCl (cellT cI g sT vT) H ∧ va_P D vwCl (cellM cI g z0) H ∧ va_P D vwCl (cellB cI g sB) H ∧ va_P D vwCl (cellL cI g sL) H ∧ va_P D vwCl (cellS cI g sS) H) hM ⟨hPT, hPM, hPB, hPL, hPS⟩) hS
        · have hM := hM.trans (if_neg c_4)
          have t_4 := ne_t c_4
          rw [tl_0] at t_4
          have u_4 := within_t c_4
          rw [tl_0, tl_2000] at u_4
          refine lv_iload hx hb dX4_tune_40 (lv_at hl 4 rfl) ?_
          refine lv_iconst (v := 0) hx hb dX4_tune_42 (by decide) ?_
          refine lv_iconst (v := 2) hx hb dX4_tune_43 (by decide) ?_
          refine runS_i (va_runS (As := [.int p4, .int 0, .int 2]) (rest := []) ⟨hx, hb, hml, hown, hts⟩ (K_T_within p4 0 2) (va_cwS 3 hts gX4_tune_X4_within rfl rfl rfl (by decide +kernel) ⟨Nat.le_of_ble_eq_true rfl, Nat.le_of_ble_eq_true rfl⟩) (preS_of hE hA hS trivial) rfl rfl hl.1 rfl (lv_room (Nat.le_of_ble_eq_true rfl)) dX4_tune_44 ⟨Nat.zero_le _, Nat.zero_le _⟩) ?_
          refine lv_if_ne (tgt := 52) hx hb dX4_tune_47 (by decide) (fun c_5 => ?_) (fun c_5 => ?_)
          · have hM := hM.trans (if_neg c_5)
            have t_5 := ne_t c_5
            rw [tl_0] at t_5
            have u_5 := within_t c_5
            rw [tl_0, tl_2] at u_5
            refine lv_aload_n hx hb dX4_tune_52 rfl (lv_at hl 0 rfl) ?_
            refine va_get (D := D) (ci := 4) (v := .ref (g 1)) (C := RX4) (T := TX4) (N := 7) hx hb hts hinT hown hE.1 hPT 0 rfl rfl 0 (by decide) (hts (.fieldLink RX4 10 "WallStones" "engine" "LWallStones$Machine;") (List.mem_of_getElem? (i := 1) rfl)) (fun _ h9 => h9) rfl dX4_tune_53 ?_
            refine lv_iload_n hx hb dX4_tune_56 rfl (lv_at hl 1 rfl) ?_
            refine lv_iload_n hx hb dX4_tune_57 rfl (lv_at hl 2 rfl) ?_
            refine lv_iload_n hx hb dX4_tune_58 rfl (lv_at hl 3 rfl) ?_
            refine runW_v (va_runV (As := [.int p1, .int p2, .int p3]) (rest := []) ⟨hx, hb, hml, hown, hts⟩ (K_M_tuneTo (hg.sub (by decide) (by decide)) sM p1 p2 p3 (by omega)) (cwV 3 hts gX4_tune_X1_tuneTo rfl rfl rfl (by decide +kernel) ⟨Nat.le_of_ble_eq_true rfl, Nat.le_of_ble_eq_true rfl⟩) (preV_of hE hA hS hPM (va_recv hE.1 hPM (ci := 1) (q0 := 0) rfl rfl)) rfl rfl hl.1 rfl (lv_room (Nat.le_of_ble_eq_true rfl)) dX4_tune_59 ⟨Nat.zero_le _, Nat.zero_le _⟩) hS (fun _ h9 => wA.sub (by decide) (by decide) _ h9) (fun H locs hQ hk hS => ?_)
            have hPT : va_P D vwCl (cellT cI g sT vT) H := wKeep hPT (wOff hg (c := 0) (n := 1) (x := 1) (y := 6) (by decide) (by decide) (by decide) (by decide) (by decide) rfl) hk
            have hPB : va_P D vwCl (cellB cI g sB) H := wKeep hPB (wOff hg (c := 6) (n := 6) (x := 1) (y := 6) (by decide) (by decide) (by decide) (by decide) (by decide) rfl) hk
            have hPL : va_P D vwCl (cellL cI g sL) H := wKeep hPL (wOff hg (c := 12) (n := 5) (x := 1) (y := 6) (by decide) (by decide) (by decide) (by decide) (by decide) rfl) hk
            have hPS : va_P D vwCl (cellS cI g sS) H := wKeep hPS (wOff hg (c := 17) (n := 2) (x := 1) (y := 6) (by decide) (by decide) (by decide) (by decide) (by decide) rfl) hk
            have hPM : va_P D vwCl (cellM cI g (m_M_tuneTo sM p1 p2 p3)) H := hQ
            refine lv_aload_n hx hb dX4_tune_62 rfl (lv_at hl 0 rfl) ?_
            refine va_get (D := D) (ci := 4) (v := .ref (g 1)) (C := RX4) (T := TX4) (N := 7) hx hb hts hinT hown hE.1 hPT 0 rfl rfl 0 (by decide) (hts (.fieldLink RX4 10 "WallStones" "engine" "LWallStones$Machine;") (List.mem_of_getElem? (i := 1) rfl)) (fun _ h9 => h9) rfl dX4_tune_63 ?_
            refine lv_iload hx hb dX4_tune_66 (lv_at hl 4 rfl) ?_
            refine runS_i (va_runV (As := [.int p4]) (rest := []) ⟨hx, hb, hml, hown, hts⟩ (K_M_tuned (hg.sub (by decide) (by decide)) (m_M_tuneTo sM p1 p2 p3) p4) (cwV 1 hts gX4_tune_X1_tuned rfl rfl rfl (by decide +kernel) ⟨Nat.le_of_ble_eq_true rfl, Nat.le_of_ble_eq_true rfl⟩) (preV_of hE hA hS hPM (va_recv hE.1 hPM (ci := 1) (q0 := 0) rfl rfl)) rfl rfl hl.1 rfl (lv_room (Nat.le_of_ble_eq_true rfl)) dX4_tune_68 ⟨Nat.zero_le _, Nat.zero_le _⟩) ?_
            have hM : (m_T_tune sT sM p1 p2 p3 p4) = (((m_M_tuned (m_M_tuneTo sM p1 p2 p3) p4), (m_M_tuneTo sM p1 p2 p3)) : Int32 × St) := hM
            exact hret (m_M_tuned (m_M_tuneTo sM p1 p2 p3) p4) H locs _ ls (nr_i _) dX4_tune_71 (ret1 hM) (rP_v1 (P := fun (z0 : St) => va_P D vwCl (cellT cI g sT vT) H ∧ va_P D vwCl (cellM cI g z0) H ∧ va_P D vwCl (cellB cI g sB) H ∧ va_P D vwCl (cellL cI g sL) H ∧ va_P D vwCl (cellS cI g sS) H) hM ⟨hPT, hPM, hPB, hPL, hPS⟩) hS
          · have hM := hM.trans (if_pos c_5)
            have t_5 := eq_t c_5
            rw [tl_0] at t_5
            refine lv_iconst (v := (-1)) hx hb dX4_tune_50 (by decide) ?_
            have hM : (m_T_tune sT sM p1 p2 p3 p4) = (((-1), sM) : Int32 × St) := hM
            exact hret (-1) H locs _ ls (nr_i _) dX4_tune_51 (ret1 hM) (rP_v1 (P := fun (z0 : St) => va_P D vwCl (cellT cI g sT vT) H ∧ va_P D vwCl (cellM cI g z0) H ∧ va_P D vwCl (cellB cI g sB) H ∧ va_P D vwCl (cellL cI g sL) H ∧ va_P D vwCl (cellS cI g sS) H) hM ⟨hPT, hPM, hPB, hPL, hPS⟩) hS
abbrev rm_T_spread : Room := { frames := 1, cells := 0, slots := 0, locals := 22 }
set_option maxHeartbeats 4000000 in
set_option maxRecDepth 100000 in
theorem K_T_spread {l : Launch} {D : va_G} {cI : ClassId} {lo : Nat} {g : Nat → Nat} (hg : wI g 0 19 lo) (sT : St) (vT : Int64) (sM : St) (sB : St) (sL : St) (sS : St) (p1 : Int32) : WRi l D cI lo yX4_spread wsX4_spread rm_T_spread [.ref (g 0), .int p1] (fun H => va_P D vwCl (cellT cI g sT vT) H ∧ va_P D vwCl (cellM cI g sM) H ∧ va_P D vwCl (cellB cI g sB) H ∧ va_P D vwCl (cellL cI g sL) H ∧ va_P D vwCl (cellS cI g sS) H) (m_T_spread sT sB p1).1 (fun H => va_P D vwCl (cellT cI g sT vT) H ∧ va_P D vwCl (cellM cI g sM) H ∧ va_P D vwCl (cellB cI g (m_T_spread sT sB p1).2) H ∧ va_P D vwCl (cellL cI g sL) H ∧ va_P D vwCl (cellS cI g sS) H) (wA g 0 19) := by
  refine ofW_WRi (cc := cX4_spread) (maxL := 2) (ty := .int) (by decide +kernel) rfl (Nat.le_of_ble_eq_true rfl) ?_
  intro p e s m args below meth c Q hx hb hml hown hts hE hP hret ls hl
  have hown : s.vm.findClass RX4 = some m.cls := hown
  obtain ⟨hPT, hPM, hPB, hPL, hPS⟩ := hP
  have hA := wA.lo hg
  have hS : va_S (wA g 0 19) s.heap s.heap [] := va_S.rf
  obtain ⟨H, hH⟩ : ∃ z, z = s.heap := ⟨_, rfl⟩
  obtain ⟨locs, hlocs⟩ : ∃ z : List Loc, z = [] := ⟨_, rfl⟩
  have hPT : va_P D vwCl (cellT cI g sT vT) H := by rw [hH]; exact hPT
  have hPM : va_P D vwCl (cellM cI g sM) H := by rw [hH]; exact hPM
  have hPB : va_P D vwCl (cellB cI g sB) H := by rw [hH]; exact hPB
  have hPL : va_P D vwCl (cellL cI g sL) H := by rw [hH]; exact hPL
  have hPS : va_P D vwCl (cellS cI g sS) H := by rw [hH]; exact hPS
  have hS : va_S (wA g 0 19) s.heap H locs := by rw [hH, hlocs]; exact va_S.rf
  have gW : W p l e rm_T_spread s m args below meth c H locs 0 0 Q (F0 m 0 ls []) → W p l e rm_T_spread s m args below meth c s.heap [] 0 0 Q (F0 m 0 ls []) := by rw [hH, hlocs]; exact id
  refine gW ?_
  have hinT : ∀ w ∈ wsX40, w ∈ wsX4_spread := fun w h => List.mem_cons_of_mem _ (List.mem_append_left _ (List.mem_append_right _ h))
  have hinB : ∀ w ∈ wsX00, w ∈ wsX4_spread := fun w h => List.mem_cons_of_mem _ (List.mem_append_right _ h)
  have hl : lv_has ls 2 [(0, .ref (g 0)), (1, .int p1)] := hl
  have hM : (m_T_spread sT sB p1) = (m_T_spread sT sB p1) := rfl
  refine lv_iload_n hx hb dX4_spread_0 rfl (lv_at hl 1 rfl) ?_
  refine lv_iconst (v := 0) hx hb dX4_spread_1 (by decide) ?_
  refine lv_bipush (v := 50) hx hb dX4_spread_2 (by decide) ?_
  refine runS_i (va_runS (As := [.int p1, .int 0, .int 50]) (rest := []) ⟨hx, hb, hml, hown, hts⟩ (K_T_within p1 0 50) (va_cwS 3 hts gX4_spread_X4_within rfl rfl rfl (by decide +kernel) ⟨Nat.le_of_ble_eq_true rfl, Nat.le_of_ble_eq_true rfl⟩) (preS_of hE hA hS trivial) rfl rfl hl.1 rfl (lv_room (Nat.le_of_ble_eq_true rfl)) dX4_spread_4 ⟨Nat.zero_le _, Nat.zero_le _⟩) ?_
  refine lv_if_eq (tgt := 21) hx hb dX4_spread_7 (by decide) (fun c_1 => ?_) (fun c_1 => ?_)
  · have hM := hM.trans (if_pos c_1)
    refine lv_iconst (v := (-1)) hx hb dX4_spread_21 (by decide) ?_
    have hM : (m_T_spread sT sB p1) = (((-1), sB) : Int32 × St) := hM
    exact hret (-1) H locs _ ls (nr_i _) dX4_spread_22 (ret1 hM) (rP_v1 (P := fun (z0 : St) => va_P D vwCl (cellT cI g sT vT) H ∧ va_P D vwCl (cellM cI g sM) H ∧ va_P D vwCl (cellB cI g z0) H ∧ va_P D vwCl (cellL cI g sL) H ∧ va_P D vwCl (cellS cI g sS) H) hM ⟨hPT, hPM, hPB, hPL, hPS⟩) hS
  · have hM := hM.trans (if_neg c_1)
    have u_1 := within_t c_1
    rw [tl_0, tl_50] at u_1
    refine lv_aload_n hx hb dX4_spread_10 rfl (lv_at hl 0 rfl) ?_
    refine va_get (D := D) (ci := 4) (v := .ref (g 6)) (C := RX4) (T := TX4) (N := 7) hx hb hts hinT hown hE.1 hPT 0 rfl rfl 1 (by decide) (hts (.fieldLink RX4 19 "WallStones" "book" "LWallStones$Book;") (List.mem_of_getElem? (i := 1) rfl)) (fun _ h9 => h9) rfl dX4_spread_11 ?_
    refine lv_iload_n hx hb dX4_spread_14 rfl (lv_at hl 1 rfl) ?_
    refine runW_i (va_runV (As := [.int p1]) (rest := []) ⟨hx, hb, hml, hown, hts⟩ (K_B_putSpread (hg.sub (by decide) (by decide)) sB p1) (cwV 1 hts gX4_spread_X0_putSpread rfl rfl rfl (by decide +kernel) ⟨Nat.le_of_ble_eq_true rfl, Nat.le_of_ble_eq_true rfl⟩) (preV_of hE hA hS hPB (va_recv hE.1 hPB (ci := 0) (q0 := 0) rfl rfl)) rfl rfl hl.1 rfl (lv_room (Nat.le_of_ble_eq_true rfl)) dX4_spread_15 ⟨Nat.zero_le _, Nat.zero_le _⟩) hS (fun _ h9 => wA.sub (by decide) (by decide) _ h9) (fun H locs hQ hk hS => ?_)
    have hPT : va_P D vwCl (cellT cI g sT vT) H := wKeep hPT (wOff hg (c := 0) (n := 1) (x := 6) (y := 12) (by decide) (by decide) (by decide) (by decide) (by decide) rfl) hk
    have hPM : va_P D vwCl (cellM cI g sM) H := wKeep hPM (wOff hg (c := 1) (n := 5) (x := 6) (y := 12) (by decide) (by decide) (by decide) (by decide) (by decide) rfl) hk
    have hPL : va_P D vwCl (cellL cI g sL) H := wKeep hPL (wOff hg (c := 12) (n := 5) (x := 6) (y := 12) (by decide) (by decide) (by decide) (by decide) (by decide) rfl) hk
    have hPS : va_P D vwCl (cellS cI g sS) H := wKeep hPS (wOff hg (c := 17) (n := 2) (x := 6) (y := 12) (by decide) (by decide) (by decide) (by decide) (by decide) rfl) hk
    have hPB : va_P D vwCl (cellB cI g (m_B_putSpread sB p1).2) H := hQ
    refine lv_goto (tgt := 22) hx hb dX4_spread_18 (by decide) ?_
    have hM : (m_T_spread sT sB p1) = (((m_B_putSpread sB p1).1, (m_B_putSpread sB p1).2) : Int32 × St) := hM
    exact hret (m_B_putSpread sB p1).1 H locs _ ls (nr_i _) dX4_spread_22 (ret1 hM) (rP_v1 (P := fun (z0 : St) => va_P D vwCl (cellT cI g sT vT) H ∧ va_P D vwCl (cellM cI g sM) H ∧ va_P D vwCl (cellB cI g z0) H ∧ va_P D vwCl (cellL cI g sL) H ∧ va_P D vwCl (cellS cI g sS) H) hM ⟨hPT, hPM, hPB, hPL, hPS⟩) hS
abbrev rm_T_shot : Room := { frames := 1, cells := 0, slots := 0, locals := 22 }
set_option maxHeartbeats 4000000 in
set_option maxRecDepth 100000 in
theorem K_T_shot {l : Launch} {D : va_G} {cI : ClassId} {lo : Nat} {g : Nat → Nat} (hg : wI g 0 19 lo) (sT : St) (vT : Int64) (sM : St) (sB : St) (sL : St) (sS : St) (p1 : Int32) (p2 : Int32) (h0 : okB sB) : WRi l D cI lo yX4_shot wsX4_shot rm_T_shot [.ref (g 0), .int p1, .int p2] (fun H => va_P D vwCl (cellT cI g sT vT) H ∧ va_P D vwCl (cellM cI g sM) H ∧ va_P D vwCl (cellB cI g sB) H ∧ va_P D vwCl (cellL cI g sL) H ∧ va_P D vwCl (cellS cI g sS) H) (m_T_shot sT sB p1 p2).1 (fun H => va_P D vwCl (cellT cI g sT vT) H ∧ va_P D vwCl (cellM cI g sM) H ∧ va_P D vwCl (cellB cI g (m_T_shot sT sB p1 p2).2) H ∧ va_P D vwCl (cellL cI g sL) H ∧ va_P D vwCl (cellS cI g sS) H) (wA g 0 19) := by
  refine ofW_WRi (cc := cX4_shot) (maxL := 3) (ty := .int) (by decide +kernel) rfl (Nat.le_of_ble_eq_true rfl) ?_
  intro p e s m args below meth c Q hx hb hml hown hts hE hP hret ls hl
  have hown : s.vm.findClass RX4 = some m.cls := hown
  obtain ⟨hPT, hPM, hPB, hPL, hPS⟩ := hP
  have hA := wA.lo hg
  have hS : va_S (wA g 0 19) s.heap s.heap [] := va_S.rf
  obtain ⟨H, hH⟩ : ∃ z, z = s.heap := ⟨_, rfl⟩
  obtain ⟨locs, hlocs⟩ : ∃ z : List Loc, z = [] := ⟨_, rfl⟩
  have hPT : va_P D vwCl (cellT cI g sT vT) H := by rw [hH]; exact hPT
  have hPM : va_P D vwCl (cellM cI g sM) H := by rw [hH]; exact hPM
  have hPB : va_P D vwCl (cellB cI g sB) H := by rw [hH]; exact hPB
  have hPL : va_P D vwCl (cellL cI g sL) H := by rw [hH]; exact hPL
  have hPS : va_P D vwCl (cellS cI g sS) H := by rw [hH]; exact hPS
  have hS : va_S (wA g 0 19) s.heap H locs := by rw [hH, hlocs]; exact va_S.rf
  have gW : W p l e rm_T_shot s m args below meth c H locs 0 0 Q (F0 m 0 ls []) → W p l e rm_T_shot s m args below meth c s.heap [] 0 0 Q (F0 m 0 ls []) := by rw [hH, hlocs]; exact id
  refine gW ?_
  have hinT : ∀ w ∈ wsX40, w ∈ wsX4_shot := fun w h => List.mem_cons_of_mem _ (List.mem_append_left _ (List.mem_append_right _ h))
  have hinB : ∀ w ∈ wsX00, w ∈ wsX4_shot := fun w h => List.mem_cons_of_mem _ (List.mem_append_right _ h)
  have hl : lv_has ls 3 [(0, .ref (g 0)), (1, .int p1), (2, .int p2)] := hl
  have nh0 := okB_lin h0
  have hM : (m_T_shot sT sB p1 p2) = (m_T_shot sT sB p1 p2) := rfl
  refine lv_iload_n hx hb dX4_shot_0 rfl (lv_at hl 1 rfl) ?_
  refine lv_iconst (v := 0) hx hb dX4_shot_1 (by decide) ?_
  refine lv_bipush (v := 60) hx hb dX4_shot_2 (by decide) ?_
  refine runS_i (va_runS (As := [.int p1, .int 0, .int 60]) (rest := []) ⟨hx, hb, hml, hown, hts⟩ (K_T_within p1 0 60) (va_cwS 3 hts gX4_shot_X4_within rfl rfl rfl (by decide +kernel) ⟨Nat.le_of_ble_eq_true rfl, Nat.le_of_ble_eq_true rfl⟩) (preS_of hE hA hS trivial) rfl rfl hl.1 rfl (lv_room (Nat.le_of_ble_eq_true rfl)) dX4_shot_4 ⟨Nat.zero_le _, Nat.zero_le _⟩) ?_
  refine lv_if_eq (tgt := 21) hx hb dX4_shot_7 (by decide) (fun c_1 => ?_) (fun c_1 => ?_)
  · have hM := hM.trans (if_pos c_1)
    refine lv_iconst (v := (-1)) hx hb dX4_shot_21 (by decide) ?_
    have hM : (m_T_shot sT sB p1 p2) = (((-1), sB) : Int32 × St) := hM
    exact hret (-1) H locs _ ls (nr_i _) dX4_shot_22 (ret1 hM) (rP_v1 (P := fun (z0 : St) => va_P D vwCl (cellT cI g sT vT) H ∧ va_P D vwCl (cellM cI g sM) H ∧ va_P D vwCl (cellB cI g z0) H ∧ va_P D vwCl (cellL cI g sL) H ∧ va_P D vwCl (cellS cI g sS) H) hM ⟨hPT, hPM, hPB, hPL, hPS⟩) hS
  · have hM := hM.trans (if_neg c_1)
    have u_1 := within_t c_1
    rw [tl_0, tl_60] at u_1
    refine lv_iload_n hx hb dX4_shot_10 rfl (lv_at hl 2 rfl) ?_
    refine lv_iconst (v := 0) hx hb dX4_shot_11 (by decide) ?_
    refine lv_sipush (v := 2000) hx hb dX4_shot_12 (by decide) ?_
    refine runS_i (va_runS (As := [.int p2, .int 0, .int 2000]) (rest := []) ⟨hx, hb, hml, hown, hts⟩ (K_T_within p2 0 2000) (va_cwS 3 hts gX4_shot_X4_within rfl rfl rfl (by decide +kernel) ⟨Nat.le_of_ble_eq_true rfl, Nat.le_of_ble_eq_true rfl⟩) (preS_of hE hA hS trivial) rfl rfl hl.1 rfl (lv_room (Nat.le_of_ble_eq_true rfl)) dX4_shot_15 ⟨Nat.zero_le _, Nat.zero_le _⟩) ?_
    refine lv_if_ne (tgt := 23) hx hb dX4_shot_18 (by decide) (fun c_2 => ?_) (fun c_2 => ?_)
    · have hM := hM.trans (if_neg c_2)
      have u_2 := within_t c_2
      rw [tl_0, tl_2000] at u_2
      refine lv_aload_n hx hb dX4_shot_23 rfl (lv_at hl 0 rfl) ?_
      refine va_get (D := D) (ci := 4) (v := .ref (g 6)) (C := RX4) (T := TX4) (N := 7) hx hb hts hinT hown hE.1 hPT 0 rfl rfl 1 (by decide) (hts (.fieldLink RX4 19 "WallStones" "book" "LWallStones$Book;") (List.mem_of_getElem? (i := 1) rfl)) (fun _ h9 => h9) rfl dX4_shot_24 ?_
      refine lv_iload_n hx hb dX4_shot_27 rfl (lv_at hl 1 rfl) ?_
      refine lv_iload_n hx hb dX4_shot_28 rfl (lv_at hl 2 rfl) ?_
      refine runW_i (va_runV (As := [.int p1, .int p2]) (rest := []) ⟨hx, hb, hml, hown, hts⟩ (K_B_tell (hg.sub (by decide) (by decide)) sB p1 p2 (by omega)) (cwV 2 hts gX4_shot_X0_tell rfl rfl rfl (by decide +kernel) ⟨Nat.le_of_ble_eq_true rfl, Nat.le_of_ble_eq_true rfl⟩) (preV_of hE hA hS hPB (va_recv hE.1 hPB (ci := 0) (q0 := 0) rfl rfl)) rfl rfl hl.1 rfl (lv_room (Nat.le_of_ble_eq_true rfl)) dX4_shot_29 ⟨Nat.zero_le _, Nat.zero_le _⟩) hS (fun _ h9 => wA.sub (by decide) (by decide) _ h9) (fun H locs hQ hk hS => ?_)
      have hPT : va_P D vwCl (cellT cI g sT vT) H := wKeep hPT (wOff hg (c := 0) (n := 1) (x := 6) (y := 12) (by decide) (by decide) (by decide) (by decide) (by decide) rfl) hk
      have hPM : va_P D vwCl (cellM cI g sM) H := wKeep hPM (wOff hg (c := 1) (n := 5) (x := 6) (y := 12) (by decide) (by decide) (by decide) (by decide) (by decide) rfl) hk
      have hPL : va_P D vwCl (cellL cI g sL) H := wKeep hPL (wOff hg (c := 12) (n := 5) (x := 6) (y := 12) (by decide) (by decide) (by decide) (by decide) (by decide) rfl) hk
      have hPS : va_P D vwCl (cellS cI g sS) H := wKeep hPS (wOff hg (c := 17) (n := 2) (x := 6) (y := 12) (by decide) (by decide) (by decide) (by decide) (by decide) rfl) hk
      have hPB : va_P D vwCl (cellB cI g (m_B_tell sB p1 p2).2) H := hQ
      refine lv_if_eq (tgt := 45) hx hb dX4_shot_32 (by decide) (fun c_3 => ?_) (fun c_3 => ?_)
      · have hM := hM.trans (if_pos c_3)
        refine lv_bipush (v := (-3)) hx hb dX4_shot_45 (by decide) ?_
        have hM : (m_T_shot sT sB p1 p2) = (((-3), (m_B_tell sB p1 p2).2) : Int32 × St) := hM
        exact hret (-3) H locs _ ls (nr_i _) dX4_shot_47 (ret1 hM) (rP_v1 (P := fun (z0 : St) => va_P D vwCl (cellT cI g sT vT) H ∧ va_P D vwCl (cellM cI g sM) H ∧ va_P D vwCl (cellB cI g z0) H ∧ va_P D vwCl (cellL cI g sL) H ∧ va_P D vwCl (cellS cI g sS) H) hM ⟨hPT, hPM, hPB, hPL, hPS⟩) hS
      · have hM := hM.trans (if_neg c_3)
        refine lv_aload_n hx hb dX4_shot_35 rfl (lv_at hl 0 rfl) ?_
        refine va_get (D := D) (ci := 4) (v := .ref (g 6)) (C := RX4) (T := TX4) (N := 7) hx hb hts hinT hown hE.1 hPT 0 rfl rfl 1 (by decide) (hts (.fieldLink RX4 19 "WallStones" "book" "LWallStones$Book;") (List.mem_of_getElem? (i := 1) rfl)) (fun _ h9 => h9) rfl dX4_shot_36 ?_
        refine runS_i (va_runV (As := []) (rest := []) ⟨hx, hb, hml, hown, hts⟩ (K_B_told (hg.sub (by decide) (by decide)) (m_B_tell sB p1 p2).2) (cwV 0 hts gX4_shot_X0_told rfl rfl rfl (by decide +kernel) ⟨Nat.le_of_ble_eq_true rfl, Nat.le_of_ble_eq_true rfl⟩) (preV_of hE hA hS hPB (va_recv hE.1 hPB (ci := 0) (q0 := 0) rfl rfl)) rfl rfl hl.1 rfl (lv_room (Nat.le_of_ble_eq_true rfl)) dX4_shot_39 ⟨Nat.zero_le _, Nat.zero_le _⟩) ?_
        refine lv_goto (tgt := 47) hx hb dX4_shot_42 (by decide) ?_
        have hM : (m_T_shot sT sB p1 p2) = (((m_B_told (m_B_tell sB p1 p2).2), (m_B_tell sB p1 p2).2) : Int32 × St) := hM
        exact hret (m_B_told (m_B_tell sB p1 p2).2) H locs _ ls (nr_i _) dX4_shot_47 (ret1 hM) (rP_v1 (P := fun (z0 : St) => va_P D vwCl (cellT cI g sT vT) H ∧ va_P D vwCl (cellM cI g sM) H ∧ va_P D vwCl (cellB cI g z0) H ∧ va_P D vwCl (cellL cI g sL) H ∧ va_P D vwCl (cellS cI g sS) H) hM ⟨hPT, hPM, hPB, hPL, hPS⟩) hS
    · have hM := hM.trans (if_pos c_2)
      refine lv_iconst (v := (-1)) hx hb dX4_shot_21 (by decide) ?_
      have hM : (m_T_shot sT sB p1 p2) = (((-1), sB) : Int32 × St) := hM
      exact hret (-1) H locs _ ls (nr_i _) dX4_shot_22 (ret1 hM) (rP_v1 (P := fun (z0 : St) => va_P D vwCl (cellT cI g sT vT) H ∧ va_P D vwCl (cellM cI g sM) H ∧ va_P D vwCl (cellB cI g z0) H ∧ va_P D vwCl (cellL cI g sL) H ∧ va_P D vwCl (cellS cI g sS) H) hM ⟨hPT, hPM, hPB, hPL, hPS⟩) hS
abbrev rm_T_clear : Room := { frames := 1, cells := 0, slots := 0, locals := 21 }
set_option maxHeartbeats 4000000 in
set_option maxRecDepth 100000 in
theorem K_T_clear {l : Launch} {D : va_G} {cI : ClassId} {lo : Nat} {g : Nat → Nat} (hg : wI g 0 19 lo) (sT : St) (vT : Int64) (sM : St) (sB : St) (sL : St) (sS : St) : WRi l D cI lo yX4_clear wsX4_clear rm_T_clear [.ref (g 0)] (fun H => va_P D vwCl (cellT cI g sT vT) H ∧ va_P D vwCl (cellM cI g sM) H ∧ va_P D vwCl (cellB cI g sB) H ∧ va_P D vwCl (cellL cI g sL) H ∧ va_P D vwCl (cellS cI g sS) H) (m_T_clear sT sB).1 (fun H => va_P D vwCl (cellT cI g sT vT) H ∧ va_P D vwCl (cellM cI g sM) H ∧ va_P D vwCl (cellB cI g (m_T_clear sT sB).2) H ∧ va_P D vwCl (cellL cI g sL) H ∧ va_P D vwCl (cellS cI g sS) H) (wA g 0 19) := by
  refine ofW_WRi (cc := cX4_clear) (maxL := 1) (ty := .int) (by decide +kernel) rfl (Nat.le_of_ble_eq_true rfl) ?_
  intro p e s m args below meth c Q hx hb hml hown hts hE hP hret ls hl
  have hown : s.vm.findClass RX4 = some m.cls := hown
  obtain ⟨hPT, hPM, hPB, hPL, hPS⟩ := hP
  have hA := wA.lo hg
  have hS : va_S (wA g 0 19) s.heap s.heap [] := va_S.rf
  obtain ⟨H, hH⟩ : ∃ z, z = s.heap := ⟨_, rfl⟩
  obtain ⟨locs, hlocs⟩ : ∃ z : List Loc, z = [] := ⟨_, rfl⟩
  have hPT : va_P D vwCl (cellT cI g sT vT) H := by rw [hH]; exact hPT
  have hPM : va_P D vwCl (cellM cI g sM) H := by rw [hH]; exact hPM
  have hPB : va_P D vwCl (cellB cI g sB) H := by rw [hH]; exact hPB
  have hPL : va_P D vwCl (cellL cI g sL) H := by rw [hH]; exact hPL
  have hPS : va_P D vwCl (cellS cI g sS) H := by rw [hH]; exact hPS
  have hS : va_S (wA g 0 19) s.heap H locs := by rw [hH, hlocs]; exact va_S.rf
  have gW : W p l e rm_T_clear s m args below meth c H locs 0 0 Q (F0 m 0 ls []) → W p l e rm_T_clear s m args below meth c s.heap [] 0 0 Q (F0 m 0 ls []) := by rw [hH, hlocs]; exact id
  refine gW ?_
  have hinT : ∀ w ∈ wsX40, w ∈ wsX4_clear := fun w h => List.mem_cons_of_mem _ (List.mem_append_left _ (List.mem_append_right _ h))
  have hinB : ∀ w ∈ wsX00, w ∈ wsX4_clear := fun w h => List.mem_cons_of_mem _ (List.mem_append_right _ h)
  have hl : lv_has ls 1 [(0, .ref (g 0))] := hl
  have hM : (m_T_clear sT sB) = (m_T_clear sT sB) := rfl
  refine lv_aload_n hx hb dX4_clear_0 rfl (lv_at hl 0 rfl) ?_
  refine va_get (D := D) (ci := 4) (v := .ref (g 6)) (C := RX4) (T := TX4) (N := 7) hx hb hts hinT hown hE.1 hPT 0 rfl rfl 1 (by decide) (hts (.fieldLink RX4 19 "WallStones" "book" "LWallStones$Book;") (List.mem_of_getElem? (i := 1) rfl)) (fun _ h9 => h9) rfl dX4_clear_1 ?_
  refine runW_i (va_runV (As := []) (rest := []) ⟨hx, hb, hml, hown, hts⟩ (K_B_forgetShots (hg.sub (by decide) (by decide)) sB) (cwV 0 hts gX4_clear_X0_forgetShots rfl rfl rfl (by decide +kernel) ⟨Nat.le_of_ble_eq_true rfl, Nat.le_of_ble_eq_true rfl⟩) (preV_of hE hA hS hPB (va_recv hE.1 hPB (ci := 0) (q0 := 0) rfl rfl)) rfl rfl hl.1 rfl (lv_room (Nat.le_of_ble_eq_true rfl)) dX4_clear_4 ⟨Nat.zero_le _, Nat.zero_le _⟩) hS (fun _ h9 => wA.sub (by decide) (by decide) _ h9) (fun H locs hQ hk hS => ?_)
  have hPT : va_P D vwCl (cellT cI g sT vT) H := wKeep hPT (wOff hg (c := 0) (n := 1) (x := 6) (y := 12) (by decide) (by decide) (by decide) (by decide) (by decide) rfl) hk
  have hPM : va_P D vwCl (cellM cI g sM) H := wKeep hPM (wOff hg (c := 1) (n := 5) (x := 6) (y := 12) (by decide) (by decide) (by decide) (by decide) (by decide) rfl) hk
  have hPL : va_P D vwCl (cellL cI g sL) H := wKeep hPL (wOff hg (c := 12) (n := 5) (x := 6) (y := 12) (by decide) (by decide) (by decide) (by decide) (by decide) rfl) hk
  have hPS : va_P D vwCl (cellS cI g sS) H := wKeep hPS (wOff hg (c := 17) (n := 2) (x := 6) (y := 12) (by decide) (by decide) (by decide) (by decide) (by decide) rfl) hk
  have hPB : va_P D vwCl (cellB cI g (m_B_forgetShots sB).2) H := hQ
  have hM : (m_T_clear sT sB) = (((m_B_forgetShots sB).1, (m_B_forgetShots sB).2) : Int32 × St) := hM
  exact hret (m_B_forgetShots sB).1 H locs _ ls (nr_i _) dX4_clear_7 (ret1 hM) (rP_v1 (P := fun (z0 : St) => va_P D vwCl (cellT cI g sT vT) H ∧ va_P D vwCl (cellM cI g sM) H ∧ va_P D vwCl (cellB cI g z0) H ∧ va_P D vwCl (cellL cI g sL) H ∧ va_P D vwCl (cellS cI g sS) H) hM ⟨hPT, hPM, hPB, hPL, hPS⟩) hS
abbrev rm_T_left : Room := { frames := 6, cells := 0, slots := 0, locals := 152 }
set_option maxHeartbeats 4000000 in
set_option maxRecDepth 100000 in
theorem K_T_left {l : Launch} {D : va_G} {cI : ClassId} {lo : Nat} {g : Nat → Nat} (hg : wI g 0 19 lo) (sT : St) (vT : Int64) (sM : St) (sB : St) (sL : St) (sS : St) (h0 : okB sB) : WRi l D cI lo yX4_left wsX4_left rm_T_left [.ref (g 0)] (fun H => va_P D vwCl (cellT cI g sT vT) H ∧ va_P D vwCl (cellM cI g sM) H ∧ va_P D vwCl (cellB cI g sB) H ∧ va_P D vwCl (cellL cI g sL) H ∧ va_P D vwCl (cellS cI g sS) H) (m_T_left sT sM sB).1 (fun H => va_P D vwCl (cellT cI g sT vT) H ∧ va_P D vwCl (cellM cI g (m_T_left sT sM sB).2.1) H ∧ va_P D vwCl (cellB cI g (m_T_left sT sM sB).2.2) H ∧ va_P D vwCl (cellL cI g sL) H ∧ va_P D vwCl (cellS cI g sS) H) (wA g 0 19) := by
  refine ofW_WRi (cc := cX4_left) (maxL := 1) (ty := .int) (by decide +kernel) rfl (Nat.le_of_ble_eq_true rfl) ?_
  intro p e s m args below meth c Q hx hb hml hown hts hE hP hret ls hl
  have hown : s.vm.findClass RX4 = some m.cls := hown
  obtain ⟨hPT, hPM, hPB, hPL, hPS⟩ := hP
  have hA := wA.lo hg
  have hS : va_S (wA g 0 19) s.heap s.heap [] := va_S.rf
  obtain ⟨H, hH⟩ : ∃ z, z = s.heap := ⟨_, rfl⟩
  obtain ⟨locs, hlocs⟩ : ∃ z : List Loc, z = [] := ⟨_, rfl⟩
  have hPT : va_P D vwCl (cellT cI g sT vT) H := by rw [hH]; exact hPT
  have hPM : va_P D vwCl (cellM cI g sM) H := by rw [hH]; exact hPM
  have hPB : va_P D vwCl (cellB cI g sB) H := by rw [hH]; exact hPB
  have hPL : va_P D vwCl (cellL cI g sL) H := by rw [hH]; exact hPL
  have hPS : va_P D vwCl (cellS cI g sS) H := by rw [hH]; exact hPS
  have hS : va_S (wA g 0 19) s.heap H locs := by rw [hH, hlocs]; exact va_S.rf
  have gW : W p l e rm_T_left s m args below meth c H locs 0 0 Q (F0 m 0 ls []) → W p l e rm_T_left s m args below meth c s.heap [] 0 0 Q (F0 m 0 ls []) := by rw [hH, hlocs]; exact id
  refine gW ?_
  have hinT : ∀ w ∈ wsX40, w ∈ wsX4_left := fun w h => List.mem_cons_of_mem _ (List.mem_append_left _ (List.mem_append_left _ (List.mem_append_right _ h)))
  have hinM : ∀ w ∈ wsX10, w ∈ wsX4_left := fun w h => List.mem_cons_of_mem _ (List.mem_append_right _ h)
  have hinB : ∀ w ∈ wsX00, w ∈ wsX4_left := fun w h => List.mem_cons_of_mem _ (List.mem_append_left _ (List.mem_append_right _ h))
  have hl : lv_has ls 1 [(0, .ref (g 0))] := hl
  have nh0 := okB_lin h0
  have hM : (m_T_left sT sM sB) = (m_T_left sT sM sB) := rfl
  refine lv_aload_n hx hb dX4_left_0 rfl (lv_at hl 0 rfl) ?_
  refine va_get (D := D) (ci := 4) (v := .ref (g 6)) (C := RX4) (T := TX4) (N := 7) hx hb hts hinT hown hE.1 hPT 0 rfl rfl 1 (by decide) (hts (.fieldLink RX4 19 "WallStones" "book" "LWallStones$Book;") (List.mem_of_getElem? (i := 1) rfl)) (fun _ h9 => h9) rfl dX4_left_1 ?_
  refine lv_aload_n hx hb dX4_left_4 rfl (lv_at hl 0 rfl) ?_
  refine va_get (D := D) (ci := 4) (v := .ref (g 1)) (C := RX4) (T := TX4) (N := 7) hx hb hts hinT hown hE.1 hPT 0 rfl rfl 0 (by decide) (hts (.fieldLink RX4 10 "WallStones" "engine" "LWallStones$Machine;") (List.mem_of_getElem? (i := 2) rfl)) (fun _ h9 => h9) rfl dX4_left_5 ?_
  refine runW_v (P := fun H => va_P D vwCl (cellM cI g (m_B_study sM sB).1) H ∧ va_P D vwCl (cellB cI g (m_B_study sM sB).2) H) (va_runV (As := [.ref (g 1)]) (rest := []) ⟨hx, hb, hml, hown, hts⟩ (K_B_study (hg.sub (by decide) (by decide)) sM sB (by assumption)) (cwV 1 hts gX4_left_X0_study rfl rfl rfl (by decide +kernel) ⟨Nat.le_of_ble_eq_true rfl, Nat.le_of_ble_eq_true rfl⟩) (preV_of hE hA hS ⟨hPM, hPB⟩ (va_recv hE.1 hPB (ci := 0) (q0 := 0) rfl rfl)) rfl rfl hl.1 rfl (lv_room (Nat.le_of_ble_eq_true rfl)) dX4_left_8 ⟨Nat.zero_le _, Nat.zero_le _⟩) hS (fun _ h9 => wA.sub (by decide) (by decide) _ h9) (fun H locs hQ hk hS => ?_)
  have hPT : va_P D vwCl (cellT cI g sT vT) H := wKeep hPT (wOff hg (c := 0) (n := 1) (x := 1) (y := 12) (by decide) (by decide) (by decide) (by decide) (by decide) rfl) hk
  have hPL : va_P D vwCl (cellL cI g sL) H := wKeep hPL (wOff hg (c := 12) (n := 5) (x := 1) (y := 12) (by decide) (by decide) (by decide) (by decide) (by decide) rfl) hk
  have hPS : va_P D vwCl (cellS cI g sS) H := wKeep hPS (wOff hg (c := 17) (n := 2) (x := 1) (y := 12) (by decide) (by decide) (by decide) (by decide) (by decide) rfl) hk
  obtain ⟨hPM, hPB⟩ := hQ
  refine lv_aload_n hx hb dX4_left_11 rfl (lv_at hl 0 rfl) ?_
  refine va_get (D := D) (ci := 4) (v := .ref (g 6)) (C := RX4) (T := TX4) (N := 7) hx hb hts hinT hown hE.1 hPT 0 rfl rfl 1 (by decide) (hts (.fieldLink RX4 19 "WallStones" "book" "LWallStones$Book;") (List.mem_of_getElem? (i := 1) rfl)) (fun _ h9 => h9) rfl dX4_left_12 ?_
  refine runS_i (va_runV (As := []) (rest := []) ⟨hx, hb, hml, hown, hts⟩ (K_B_pairsLeft (hg.sub (by decide) (by decide)) (m_B_study sM sB).2) (cwV 0 hts gX4_left_X0_pairsLeft rfl rfl rfl (by decide +kernel) ⟨Nat.le_of_ble_eq_true rfl, Nat.le_of_ble_eq_true rfl⟩) (preV_of hE hA hS hPB (va_recv hE.1 hPB (ci := 0) (q0 := 0) rfl rfl)) rfl rfl hl.1 rfl (lv_room (Nat.le_of_ble_eq_true rfl)) dX4_left_15 ⟨Nat.zero_le _, Nat.zero_le _⟩) ?_
  have hM : (m_T_left sT sM sB) = (((m_B_pairsLeft (m_B_study sM sB).2), (m_B_study sM sB).1, (m_B_study sM sB).2) : Int32 × St × St) := hM
  exact hret (m_B_pairsLeft (m_B_study sM sB).2) H locs _ ls (nr_i _) dX4_left_18 (ret1 hM) (rP_v2 (P := fun (z0 : St) (z1 : St) => va_P D vwCl (cellT cI g sT vT) H ∧ va_P D vwCl (cellM cI g z0) H ∧ va_P D vwCl (cellB cI g z1) H ∧ va_P D vwCl (cellL cI g sL) H ∧ va_P D vwCl (cellS cI g sS) H) hM ⟨hPT, hPM, hPB, hPL, hPS⟩) hS
abbrev rm_T_span : Room := { frames := 6, cells := 0, slots := 0, locals := 152 }
set_option maxHeartbeats 4000000 in
set_option maxRecDepth 100000 in
theorem K_T_span {l : Launch} {D : va_G} {cI : ClassId} {lo : Nat} {g : Nat → Nat} (hg : wI g 0 19 lo) (sT : St) (vT : Int64) (sM : St) (sB : St) (sL : St) (sS : St) (p1 : Int32) (p2 : Int32) (h0 : okB sB) : WRi l D cI lo yX4_span wsX4_span rm_T_span [.ref (g 0), .int p1, .int p2] (fun H => va_P D vwCl (cellT cI g sT vT) H ∧ va_P D vwCl (cellM cI g sM) H ∧ va_P D vwCl (cellB cI g sB) H ∧ va_P D vwCl (cellL cI g sL) H ∧ va_P D vwCl (cellS cI g sS) H) (m_T_span sT sM sB p1 p2).1 (fun H => va_P D vwCl (cellT cI g sT vT) H ∧ va_P D vwCl (cellM cI g (m_T_span sT sM sB p1 p2).2.1) H ∧ va_P D vwCl (cellB cI g (m_T_span sT sM sB p1 p2).2.2) H ∧ va_P D vwCl (cellL cI g sL) H ∧ va_P D vwCl (cellS cI g sS) H) (wA g 0 19) := by
  refine ofW_WRi (cc := cX4_span) (maxL := 3) (ty := .int) (by decide +kernel) rfl (Nat.le_of_ble_eq_true rfl) ?_
  intro p e s m args below meth c Q hx hb hml hown hts hE hP hret ls hl
  have hown : s.vm.findClass RX4 = some m.cls := hown
  obtain ⟨hPT, hPM, hPB, hPL, hPS⟩ := hP
  have hA := wA.lo hg
  have hS : va_S (wA g 0 19) s.heap s.heap [] := va_S.rf
  obtain ⟨H, hH⟩ : ∃ z, z = s.heap := ⟨_, rfl⟩
  obtain ⟨locs, hlocs⟩ : ∃ z : List Loc, z = [] := ⟨_, rfl⟩
  have hPT : va_P D vwCl (cellT cI g sT vT) H := by rw [hH]; exact hPT
  have hPM : va_P D vwCl (cellM cI g sM) H := by rw [hH]; exact hPM
  have hPB : va_P D vwCl (cellB cI g sB) H := by rw [hH]; exact hPB
  have hPL : va_P D vwCl (cellL cI g sL) H := by rw [hH]; exact hPL
  have hPS : va_P D vwCl (cellS cI g sS) H := by rw [hH]; exact hPS
  have hS : va_S (wA g 0 19) s.heap H locs := by rw [hH, hlocs]; exact va_S.rf
  have gW : W p l e rm_T_span s m args below meth c H locs 0 0 Q (F0 m 0 ls []) → W p l e rm_T_span s m args below meth c s.heap [] 0 0 Q (F0 m 0 ls []) := by rw [hH, hlocs]; exact id
  refine gW ?_
  have hinT : ∀ w ∈ wsX40, w ∈ wsX4_span := fun w h => List.mem_cons_of_mem _ (List.mem_append_left _ (List.mem_append_left _ (List.mem_append_right _ h)))
  have hinM : ∀ w ∈ wsX10, w ∈ wsX4_span := fun w h => List.mem_cons_of_mem _ (List.mem_append_right _ h)
  have hinB : ∀ w ∈ wsX00, w ∈ wsX4_span := fun w h => List.mem_cons_of_mem _ (List.mem_append_left _ (List.mem_append_right _ h))
  have hl : lv_has ls 3 [(0, .ref (g 0)), (1, .int p1), (2, .int p2)] := hl
  have nh0 := okB_lin h0
  have hM : (m_T_span sT sM sB p1 p2) = (m_T_span sT sM sB p1 p2) := rfl
  refine lv_iload_n hx hb dX4_span_0 rfl (lv_at hl 1 rfl) ?_
  refine lv_iconst (v := 0) hx hb dX4_span_1 (by decide) ?_
  refine lv_bipush (v := 60) hx hb dX4_span_2 (by decide) ?_
  refine runS_i (va_runS (As := [.int p1, .int 0, .int 60]) (rest := []) ⟨hx, hb, hml, hown, hts⟩ (K_T_within p1 0 60) (va_cwS 3 hts gX4_span_X4_within rfl rfl rfl (by decide +kernel) ⟨Nat.le_of_ble_eq_true rfl, Nat.le_of_ble_eq_true rfl⟩) (preS_of hE hA hS trivial) rfl rfl hl.1 rfl (lv_room (Nat.le_of_ble_eq_true rfl)) dX4_span_4 ⟨Nat.zero_le _, Nat.zero_le _⟩) ?_
  refine lv_if_eq (tgt := 19) hx hb dX4_span_7 (by decide) (fun c_1 => ?_) (fun c_1 => ?_)
  · have hM := hM.trans (if_pos c_1)
    refine lv_sipush (v := (-2000)) hx hb dX4_span_19 (by decide) ?_
    have hM : (m_T_span sT sM sB p1 p2) = (((-2000), sM, sB) : Int32 × St × St) := hM
    exact hret (-2000) H locs _ ls (nr_i _) dX4_span_22 (ret1 hM) (rP_v2 (P := fun (z0 : St) (z1 : St) => va_P D vwCl (cellT cI g sT vT) H ∧ va_P D vwCl (cellM cI g z0) H ∧ va_P D vwCl (cellB cI g z1) H ∧ va_P D vwCl (cellL cI g sL) H ∧ va_P D vwCl (cellS cI g sS) H) hM ⟨hPT, hPM, hPB, hPL, hPS⟩) hS
  · have hM := hM.trans (if_neg c_1)
    have u_1 := within_t c_1
    rw [tl_0, tl_60] at u_1
    refine lv_iload_n hx hb dX4_span_10 rfl (lv_at hl 2 rfl) ?_
    refine lv_iconst (v := 0) hx hb dX4_span_11 (by decide) ?_
    refine lv_iconst (v := 1) hx hb dX4_span_12 (by decide) ?_
    refine runS_i (va_runS (As := [.int p2, .int 0, .int 1]) (rest := []) ⟨hx, hb, hml, hown, hts⟩ (K_T_within p2 0 1) (va_cwS 3 hts gX4_span_X4_within rfl rfl rfl (by decide +kernel) ⟨Nat.le_of_ble_eq_true rfl, Nat.le_of_ble_eq_true rfl⟩) (preS_of hE hA hS trivial) rfl rfl hl.1 rfl (lv_room (Nat.le_of_ble_eq_true rfl)) dX4_span_13 ⟨Nat.zero_le _, Nat.zero_le _⟩) ?_
    refine lv_if_ne (tgt := 23) hx hb dX4_span_16 (by decide) (fun c_2 => ?_) (fun c_2 => ?_)
    · have hM := hM.trans (if_neg c_2)
      have u_2 := within_t c_2
      rw [tl_0, tl_1] at u_2
      refine lv_aload_n hx hb dX4_span_23 rfl (lv_at hl 0 rfl) ?_
      refine va_get (D := D) (ci := 4) (v := .ref (g 6)) (C := RX4) (T := TX4) (N := 7) hx hb hts hinT hown hE.1 hPT 0 rfl rfl 1 (by decide) (hts (.fieldLink RX4 19 "WallStones" "book" "LWallStones$Book;") (List.mem_of_getElem? (i := 1) rfl)) (fun _ h9 => h9) rfl dX4_span_24 ?_
      refine lv_aload_n hx hb dX4_span_27 rfl (lv_at hl 0 rfl) ?_
      refine va_get (D := D) (ci := 4) (v := .ref (g 1)) (C := RX4) (T := TX4) (N := 7) hx hb hts hinT hown hE.1 hPT 0 rfl rfl 0 (by decide) (hts (.fieldLink RX4 10 "WallStones" "engine" "LWallStones$Machine;") (List.mem_of_getElem? (i := 2) rfl)) (fun _ h9 => h9) rfl dX4_span_28 ?_
      refine runW_v (P := fun H => va_P D vwCl (cellM cI g (m_B_study sM sB).1) H ∧ va_P D vwCl (cellB cI g (m_B_study sM sB).2) H) (va_runV (As := [.ref (g 1)]) (rest := []) ⟨hx, hb, hml, hown, hts⟩ (K_B_study (hg.sub (by decide) (by decide)) sM sB (by assumption)) (cwV 1 hts gX4_span_X0_study rfl rfl rfl (by decide +kernel) ⟨Nat.le_of_ble_eq_true rfl, Nat.le_of_ble_eq_true rfl⟩) (preV_of hE hA hS ⟨hPM, hPB⟩ (va_recv hE.1 hPB (ci := 0) (q0 := 0) rfl rfl)) rfl rfl hl.1 rfl (lv_room (Nat.le_of_ble_eq_true rfl)) dX4_span_31 ⟨Nat.zero_le _, Nat.zero_le _⟩) hS (fun _ h9 => wA.sub (by decide) (by decide) _ h9) (fun H locs hQ hk hS => ?_)
      have hPT : va_P D vwCl (cellT cI g sT vT) H := wKeep hPT (wOff hg (c := 0) (n := 1) (x := 1) (y := 12) (by decide) (by decide) (by decide) (by decide) (by decide) rfl) hk
      have hPL : va_P D vwCl (cellL cI g sL) H := wKeep hPL (wOff hg (c := 12) (n := 5) (x := 1) (y := 12) (by decide) (by decide) (by decide) (by decide) (by decide) rfl) hk
      have hPS : va_P D vwCl (cellS cI g sS) H := wKeep hPS (wOff hg (c := 17) (n := 2) (x := 1) (y := 12) (by decide) (by decide) (by decide) (by decide) (by decide) rfl) hk
      obtain ⟨hPM, hPB⟩ := hQ
      refine lv_aload_n hx hb dX4_span_34 rfl (lv_at hl 0 rfl) ?_
      refine va_get (D := D) (ci := 4) (v := .ref (g 6)) (C := RX4) (T := TX4) (N := 7) hx hb hts hinT hown hE.1 hPT 0 rfl rfl 1 (by decide) (hts (.fieldLink RX4 19 "WallStones" "book" "LWallStones$Book;") (List.mem_of_getElem? (i := 1) rfl)) (fun _ h9 => h9) rfl dX4_span_35 ?_
      refine lv_iload_n hx hb dX4_span_38 rfl (lv_at hl 1 rfl) ?_
      refine runS_i (va_runV (As := [.int p1]) (rest := []) ⟨hx, hb, hml, hown, hts⟩ (K_B_places (hg.sub (by decide) (by decide)) (m_B_study sM sB).2 p1 (by omega)) (cwV 1 hts gX4_span_X0_places rfl rfl rfl (by decide +kernel) ⟨Nat.le_of_ble_eq_true rfl, Nat.le_of_ble_eq_true rfl⟩) (preV_of hE hA hS hPB (va_recv hE.1 hPB (ci := 0) (q0 := 0) rfl rfl)) rfl rfl hl.1 rfl (lv_room (Nat.le_of_ble_eq_true rfl)) dX4_span_39 ⟨Nat.zero_le _, Nat.zero_le _⟩) ?_
      refine lv_if_ne (tgt := 49) hx hb dX4_span_42 (by decide) (fun c_3 => ?_) (fun c_3 => ?_)
      · have hM := hM.trans (if_neg c_3)
        refine lv_iload_n hx hb dX4_span_49 rfl (lv_at hl 2 rfl) ?_
        refine lv_if_ne (tgt := 64) hx hb dX4_span_50 (by decide) (fun c_4 => ?_) (fun c_4 => ?_)
        · have hM := hM.trans (if_neg c_4)
          refine lv_aload_n hx hb dX4_span_64 rfl (lv_at hl 0 rfl) ?_
          refine va_get (D := D) (ci := 4) (v := .ref (g 6)) (C := RX4) (T := TX4) (N := 7) hx hb hts hinT hown hE.1 hPT 0 rfl rfl 1 (by decide) (hts (.fieldLink RX4 19 "WallStones" "book" "LWallStones$Book;") (List.mem_of_getElem? (i := 1) rfl)) (fun _ h9 => h9) rfl dX4_span_65 ?_
          refine lv_iload_n hx hb dX4_span_68 rfl (lv_at hl 1 rfl) ?_
          refine runS_i (va_runV (As := [.int p1]) (rest := []) ⟨hx, hb, hml, hown, hts⟩ (K_B_greatestPlace (hg.sub (by decide) (by decide)) (m_B_study sM sB).2 p1 (by omega)) (cwV 1 hts gX4_span_X0_greatestPlace rfl rfl rfl (by decide +kernel) ⟨Nat.le_of_ble_eq_true rfl, Nat.le_of_ble_eq_true rfl⟩) (preV_of hE hA hS hPB (va_recv hE.1 hPB (ci := 0) (q0 := 0) rfl rfl)) rfl rfl hl.1 rfl (lv_room (Nat.le_of_ble_eq_true rfl)) dX4_span_69 ⟨Nat.zero_le _, Nat.zero_le _⟩) ?_
          have hM : (m_T_span sT sM sB p1 p2) = (((m_B_greatestPlace (m_B_study sM sB).2 p1), (m_B_study sM sB).1, (m_B_study sM sB).2) : Int32 × St × St) := hM
          exact hret (m_B_greatestPlace (m_B_study sM sB).2 p1) H locs _ ls (nr_i _) dX4_span_72 (ret1 hM) (rP_v2 (P := fun (z0 : St) (z1 : St) => va_P D vwCl (cellT cI g sT vT) H ∧ va_P D vwCl (cellM cI g z0) H ∧ va_P D vwCl (cellB cI g z1) H ∧ va_P D vwCl (cellL cI g sL) H ∧ va_P D vwCl (cellS cI g sS) H) hM ⟨hPT, hPM, hPB, hPL, hPS⟩) hS
        · have hM := hM.trans (if_pos c_4)
          refine lv_aload_n hx hb dX4_span_53 rfl (lv_at hl 0 rfl) ?_
          refine va_get (D := D) (ci := 4) (v := .ref (g 6)) (C := RX4) (T := TX4) (N := 7) hx hb hts hinT hown hE.1 hPT 0 rfl rfl 1 (by decide) (hts (.fieldLink RX4 19 "WallStones" "book" "LWallStones$Book;") (List.mem_of_getElem? (i := 1) rfl)) (fun _ h9 => h9) rfl dX4_span_54 ?_
          refine lv_iload_n hx hb dX4_span_57 rfl (lv_at hl 1 rfl) ?_
          refine runS_i (va_runV (As := [.int p1]) (rest := []) ⟨hx, hb, hml, hown, hts⟩ (K_B_leastPlace (hg.sub (by decide) (by decide)) (m_B_study sM sB).2 p1 (by omega)) (cwV 1 hts gX4_span_X0_leastPlace rfl rfl rfl (by decide +kernel) ⟨Nat.le_of_ble_eq_true rfl, Nat.le_of_ble_eq_true rfl⟩) (preV_of hE hA hS hPB (va_recv hE.1 hPB (ci := 0) (q0 := 0) rfl rfl)) rfl rfl hl.1 rfl (lv_room (Nat.le_of_ble_eq_true rfl)) dX4_span_58 ⟨Nat.zero_le _, Nat.zero_le _⟩) ?_
          refine lv_goto (tgt := 72) hx hb dX4_span_61 (by decide) ?_
          have hM : (m_T_span sT sM sB p1 p2) = (((m_B_leastPlace (m_B_study sM sB).2 p1), (m_B_study sM sB).1, (m_B_study sM sB).2) : Int32 × St × St) := hM
          exact hret (m_B_leastPlace (m_B_study sM sB).2 p1) H locs _ ls (nr_i _) dX4_span_72 (ret1 hM) (rP_v2 (P := fun (z0 : St) (z1 : St) => va_P D vwCl (cellT cI g sT vT) H ∧ va_P D vwCl (cellM cI g z0) H ∧ va_P D vwCl (cellB cI g z1) H ∧ va_P D vwCl (cellL cI g sL) H ∧ va_P D vwCl (cellS cI g sS) H) hM ⟨hPT, hPM, hPB, hPL, hPS⟩) hS
      · have hM := hM.trans (if_pos c_3)
        refine lv_sipush (v := (-1000)) hx hb dX4_span_45 (by decide) ?_
        have hM : (m_T_span sT sM sB p1 p2) = (((-1000), (m_B_study sM sB).1, (m_B_study sM sB).2) : Int32 × St × St) := hM
        exact hret (-1000) H locs _ ls (nr_i _) dX4_span_48 (ret1 hM) (rP_v2 (P := fun (z0 : St) (z1 : St) => va_P D vwCl (cellT cI g sT vT) H ∧ va_P D vwCl (cellM cI g z0) H ∧ va_P D vwCl (cellB cI g z1) H ∧ va_P D vwCl (cellL cI g sL) H ∧ va_P D vwCl (cellS cI g sS) H) hM ⟨hPT, hPM, hPB, hPL, hPS⟩) hS
    · have hM := hM.trans (if_pos c_2)
      refine lv_sipush (v := (-2000)) hx hb dX4_span_19 (by decide) ?_
      have hM : (m_T_span sT sM sB p1 p2) = (((-2000), sM, sB) : Int32 × St × St) := hM
      exact hret (-2000) H locs _ ls (nr_i _) dX4_span_22 (ret1 hM) (rP_v2 (P := fun (z0 : St) (z1 : St) => va_P D vwCl (cellT cI g sT vT) H ∧ va_P D vwCl (cellM cI g z0) H ∧ va_P D vwCl (cellB cI g z1) H ∧ va_P D vwCl (cellL cI g sL) H ∧ va_P D vwCl (cellS cI g sS) H) hM ⟨hPT, hPM, hPB, hPL, hPS⟩) hS
abbrev rm_T_next : Room := { frames := 6, cells := 0, slots := 0, locals := 152 }
set_option maxHeartbeats 4000000 in
set_option maxRecDepth 100000 in
theorem K_T_next {l : Launch} {D : va_G} {cI : ClassId} {lo : Nat} {g : Nat → Nat} (hg : wI g 0 19 lo) (sT : St) (vT : Int64) (sM : St) (sB : St) (sL : St) (sS : St) (h0 : okB sB) : WRi l D cI lo yX4_next wsX4_next rm_T_next [.ref (g 0)] (fun H => va_P D vwCl (cellT cI g sT vT) H ∧ va_P D vwCl (cellM cI g sM) H ∧ va_P D vwCl (cellB cI g sB) H ∧ va_P D vwCl (cellL cI g sL) H ∧ va_P D vwCl (cellS cI g sS) H) (m_T_next sT sM sB).1 (fun H => va_P D vwCl (cellT cI g sT vT) H ∧ va_P D vwCl (cellM cI g (m_T_next sT sM sB).2.1) H ∧ va_P D vwCl (cellB cI g (m_T_next sT sM sB).2.2) H ∧ va_P D vwCl (cellL cI g sL) H ∧ va_P D vwCl (cellS cI g sS) H) (wA g 0 19) := by
  refine ofW_WRi (cc := cX4_next) (maxL := 1) (ty := .int) (by decide +kernel) rfl (Nat.le_of_ble_eq_true rfl) ?_
  intro p e s m args below meth c Q hx hb hml hown hts hE hP hret ls hl
  have hown : s.vm.findClass RX4 = some m.cls := hown
  obtain ⟨hPT, hPM, hPB, hPL, hPS⟩ := hP
  have hA := wA.lo hg
  have hS : va_S (wA g 0 19) s.heap s.heap [] := va_S.rf
  obtain ⟨H, hH⟩ : ∃ z, z = s.heap := ⟨_, rfl⟩
  obtain ⟨locs, hlocs⟩ : ∃ z : List Loc, z = [] := ⟨_, rfl⟩
  have hPT : va_P D vwCl (cellT cI g sT vT) H := by rw [hH]; exact hPT
  have hPM : va_P D vwCl (cellM cI g sM) H := by rw [hH]; exact hPM
  have hPB : va_P D vwCl (cellB cI g sB) H := by rw [hH]; exact hPB
  have hPL : va_P D vwCl (cellL cI g sL) H := by rw [hH]; exact hPL
  have hPS : va_P D vwCl (cellS cI g sS) H := by rw [hH]; exact hPS
  have hS : va_S (wA g 0 19) s.heap H locs := by rw [hH, hlocs]; exact va_S.rf
  have gW : W p l e rm_T_next s m args below meth c H locs 0 0 Q (F0 m 0 ls []) → W p l e rm_T_next s m args below meth c s.heap [] 0 0 Q (F0 m 0 ls []) := by rw [hH, hlocs]; exact id
  refine gW ?_
  have hinT : ∀ w ∈ wsX40, w ∈ wsX4_next := fun w h => List.mem_cons_of_mem _ (List.mem_append_left _ (List.mem_append_left _ (List.mem_append_right _ h)))
  have hinM : ∀ w ∈ wsX10, w ∈ wsX4_next := fun w h => List.mem_cons_of_mem _ (List.mem_append_right _ h)
  have hinB : ∀ w ∈ wsX00, w ∈ wsX4_next := fun w h => List.mem_cons_of_mem _ (List.mem_append_left _ (List.mem_append_right _ h))
  have hl : lv_has ls 1 [(0, .ref (g 0))] := hl
  have nh0 := okB_lin h0
  have hM : (m_T_next sT sM sB) = (m_T_next sT sM sB) := rfl
  refine lv_aload_n hx hb dX4_next_0 rfl (lv_at hl 0 rfl) ?_
  refine va_get (D := D) (ci := 4) (v := .ref (g 6)) (C := RX4) (T := TX4) (N := 7) hx hb hts hinT hown hE.1 hPT 0 rfl rfl 1 (by decide) (hts (.fieldLink RX4 19 "WallStones" "book" "LWallStones$Book;") (List.mem_of_getElem? (i := 1) rfl)) (fun _ h9 => h9) rfl dX4_next_1 ?_
  refine lv_aload_n hx hb dX4_next_4 rfl (lv_at hl 0 rfl) ?_
  refine va_get (D := D) (ci := 4) (v := .ref (g 1)) (C := RX4) (T := TX4) (N := 7) hx hb hts hinT hown hE.1 hPT 0 rfl rfl 0 (by decide) (hts (.fieldLink RX4 10 "WallStones" "engine" "LWallStones$Machine;") (List.mem_of_getElem? (i := 2) rfl)) (fun _ h9 => h9) rfl dX4_next_5 ?_
  refine runW_v (P := fun H => va_P D vwCl (cellM cI g (m_B_study sM sB).1) H ∧ va_P D vwCl (cellB cI g (m_B_study sM sB).2) H) (va_runV (As := [.ref (g 1)]) (rest := []) ⟨hx, hb, hml, hown, hts⟩ (K_B_study (hg.sub (by decide) (by decide)) sM sB (by assumption)) (cwV 1 hts gX4_next_X0_study rfl rfl rfl (by decide +kernel) ⟨Nat.le_of_ble_eq_true rfl, Nat.le_of_ble_eq_true rfl⟩) (preV_of hE hA hS ⟨hPM, hPB⟩ (va_recv hE.1 hPB (ci := 0) (q0 := 0) rfl rfl)) rfl rfl hl.1 rfl (lv_room (Nat.le_of_ble_eq_true rfl)) dX4_next_8 ⟨Nat.zero_le _, Nat.zero_le _⟩) hS (fun _ h9 => wA.sub (by decide) (by decide) _ h9) (fun H locs hQ hk hS => ?_)
  have hPT : va_P D vwCl (cellT cI g sT vT) H := wKeep hPT (wOff hg (c := 0) (n := 1) (x := 1) (y := 12) (by decide) (by decide) (by decide) (by decide) (by decide) rfl) hk
  have hPL : va_P D vwCl (cellL cI g sL) H := wKeep hPL (wOff hg (c := 12) (n := 5) (x := 1) (y := 12) (by decide) (by decide) (by decide) (by decide) (by decide) rfl) hk
  have hPS : va_P D vwCl (cellS cI g sS) H := wKeep hPS (wOff hg (c := 17) (n := 2) (x := 1) (y := 12) (by decide) (by decide) (by decide) (by decide) (by decide) rfl) hk
  obtain ⟨hPM, hPB⟩ := hQ
  refine lv_aload_n hx hb dX4_next_11 rfl (lv_at hl 0 rfl) ?_
  refine va_get (D := D) (ci := 4) (v := .ref (g 6)) (C := RX4) (T := TX4) (N := 7) hx hb hts hinT hown hE.1 hPT 0 rfl rfl 1 (by decide) (hts (.fieldLink RX4 19 "WallStones" "book" "LWallStones$Book;") (List.mem_of_getElem? (i := 1) rfl)) (fun _ h9 => h9) rfl dX4_next_12 ?_
  refine runS_i (va_runV (As := []) (rest := []) ⟨hx, hb, hml, hown, hts⟩ (K_B_widestHook (hg.sub (by decide) (by decide)) (m_B_study sM sB).2) (cwV 0 hts gX4_next_X0_widestHook rfl rfl rfl (by decide +kernel) ⟨Nat.le_of_ble_eq_true rfl, Nat.le_of_ble_eq_true rfl⟩) (preV_of hE hA hS hPB (va_recv hE.1 hPB (ci := 0) (q0 := 0) rfl rfl)) rfl rfl hl.1 rfl (lv_room (Nat.le_of_ble_eq_true rfl)) dX4_next_15 ⟨Nat.zero_le _, Nat.zero_le _⟩) ?_
  have hM : (m_T_next sT sM sB) = (((m_B_widestHook (m_B_study sM sB).2), (m_B_study sM sB).1, (m_B_study sM sB).2) : Int32 × St × St) := hM
  exact hret (m_B_widestHook (m_B_study sM sB).2) H locs _ ls (nr_i _) dX4_next_18 (ret1 hM) (rP_v2 (P := fun (z0 : St) (z1 : St) => va_P D vwCl (cellT cI g sT vT) H ∧ va_P D vwCl (cellM cI g z0) H ∧ va_P D vwCl (cellB cI g z1) H ∧ va_P D vwCl (cellL cI g sL) H ∧ va_P D vwCl (cellS cI g sS) H) hM ⟨hPT, hPM, hPB, hPL, hPS⟩) hS
abbrev rm_T_surest : Room := { frames := 6, cells := 0, slots := 0, locals := 152 }
set_option maxHeartbeats 4000000 in
set_option maxRecDepth 100000 in
theorem K_T_surest {l : Launch} {D : va_G} {cI : ClassId} {lo : Nat} {g : Nat → Nat} (hg : wI g 0 19 lo) (sT : St) (vT : Int64) (sM : St) (sB : St) (sL : St) (sS : St) (p1 : Int32) (p2 : Int32) (h0 : okB sB) : WRi l D cI lo yX4_surest wsX4_surest rm_T_surest [.ref (g 0), .int p1, .int p2] (fun H => va_P D vwCl (cellT cI g sT vT) H ∧ va_P D vwCl (cellM cI g sM) H ∧ va_P D vwCl (cellB cI g sB) H ∧ va_P D vwCl (cellL cI g sL) H ∧ va_P D vwCl (cellS cI g sS) H) (m_T_surest sT sM sB p1 p2).1 (fun H => va_P D vwCl (cellT cI g sT vT) H ∧ va_P D vwCl (cellM cI g (m_T_surest sT sM sB p1 p2).2.1) H ∧ va_P D vwCl (cellB cI g (m_T_surest sT sM sB p1 p2).2.2) H ∧ va_P D vwCl (cellL cI g sL) H ∧ va_P D vwCl (cellS cI g sS) H) (wA g 0 19) := by
  refine ofW_WRi (cc := cX4_surest) (maxL := 4) (ty := .int) (by decide +kernel) rfl (Nat.le_of_ble_eq_true rfl) ?_
  intro p e s m args below meth c Q hx hb hml hown hts hE hP hret ls hl
  have hown : s.vm.findClass RX4 = some m.cls := hown
  obtain ⟨hPT, hPM, hPB, hPL, hPS⟩ := hP
  have hA := wA.lo hg
  have hS : va_S (wA g 0 19) s.heap s.heap [] := va_S.rf
  obtain ⟨H, hH⟩ : ∃ z, z = s.heap := ⟨_, rfl⟩
  obtain ⟨locs, hlocs⟩ : ∃ z : List Loc, z = [] := ⟨_, rfl⟩
  have hPT : va_P D vwCl (cellT cI g sT vT) H := by rw [hH]; exact hPT
  have hPM : va_P D vwCl (cellM cI g sM) H := by rw [hH]; exact hPM
  have hPB : va_P D vwCl (cellB cI g sB) H := by rw [hH]; exact hPB
  have hPL : va_P D vwCl (cellL cI g sL) H := by rw [hH]; exact hPL
  have hPS : va_P D vwCl (cellS cI g sS) H := by rw [hH]; exact hPS
  have hS : va_S (wA g 0 19) s.heap H locs := by rw [hH, hlocs]; exact va_S.rf
  have gW : W p l e rm_T_surest s m args below meth c H locs 0 0 Q (F0 m 0 ls []) → W p l e rm_T_surest s m args below meth c s.heap [] 0 0 Q (F0 m 0 ls []) := by rw [hH, hlocs]; exact id
  refine gW ?_
  have hinT : ∀ w ∈ wsX40, w ∈ wsX4_surest := fun w h => List.mem_cons_of_mem _ (List.mem_append_left _ (List.mem_append_left _ (List.mem_append_right _ h)))
  have hinM : ∀ w ∈ wsX10, w ∈ wsX4_surest := fun w h => List.mem_cons_of_mem _ (List.mem_append_right _ h)
  have hinB : ∀ w ∈ wsX00, w ∈ wsX4_surest := fun w h => List.mem_cons_of_mem _ (List.mem_append_left _ (List.mem_append_right _ h))
  have hl : lv_has ls 4 [(0, .ref (g 0)), (1, .int p1), (2, .int p2)] := hl
  have nh0 := okB_lin h0
  have hM : (m_T_surest sT sM sB p1 p2) = (m_T_surest sT sM sB p1 p2) := rfl
  refine lv_iload_n hx hb dX4_surest_0 rfl (lv_at hl 1 rfl) ?_
  refine lv_iconst (v := 0) hx hb dX4_surest_1 (by decide) ?_
  refine lv_sipush (v := 2000) hx hb dX4_surest_2 (by decide) ?_
  refine runS_i (va_runS (As := [.int p1, .int 0, .int 2000]) (rest := []) ⟨hx, hb, hml, hown, hts⟩ (K_T_within p1 0 2000) (va_cwS 3 hts gX4_surest_X4_within rfl rfl rfl (by decide +kernel) ⟨Nat.le_of_ble_eq_true rfl, Nat.le_of_ble_eq_true rfl⟩) (preS_of hE hA hS trivial) rfl rfl hl.1 rfl (lv_room (Nat.le_of_ble_eq_true rfl)) dX4_surest_5 ⟨Nat.zero_le _, Nat.zero_le _⟩) ?_
  refine lv_if_eq (tgt := 20) hx hb dX4_surest_8 (by decide) (fun c_1 => ?_) (fun c_1 => ?_)
  · have hM := hM.trans (if_pos c_1)
    have t_1 := eq_t c_1
    rw [tl_0] at t_1
    refine lv_iconst (v := (-1)) hx hb dX4_surest_20 (by decide) ?_
    have hM : (m_T_surest sT sM sB p1 p2) = (((-1), sM, sB) : Int32 × St × St) := hM
    exact hret (-1) H locs _ ls (nr_i _) dX4_surest_21 (ret1 hM) (rP_v2 (P := fun (z0 : St) (z1 : St) => va_P D vwCl (cellT cI g sT vT) H ∧ va_P D vwCl (cellM cI g z0) H ∧ va_P D vwCl (cellB cI g z1) H ∧ va_P D vwCl (cellL cI g sL) H ∧ va_P D vwCl (cellS cI g sS) H) hM ⟨hPT, hPM, hPB, hPL, hPS⟩) hS
  · have hM := hM.trans (if_neg c_1)
    have t_1 := ne_t c_1
    rw [tl_0] at t_1
    have u_1 := within_t c_1
    rw [tl_0, tl_2000] at u_1
    refine lv_iload_n hx hb dX4_surest_11 rfl (lv_at hl 2 rfl) ?_
    refine lv_iconst (v := 0) hx hb dX4_surest_12 (by decide) ?_
    refine lv_iconst (v := 1) hx hb dX4_surest_13 (by decide) ?_
    refine runS_i (va_runS (As := [.int p2, .int 0, .int 1]) (rest := []) ⟨hx, hb, hml, hown, hts⟩ (K_T_within p2 0 1) (va_cwS 3 hts gX4_surest_X4_within rfl rfl rfl (by decide +kernel) ⟨Nat.le_of_ble_eq_true rfl, Nat.le_of_ble_eq_true rfl⟩) (preS_of hE hA hS trivial) rfl rfl hl.1 rfl (lv_room (Nat.le_of_ble_eq_true rfl)) dX4_surest_14 ⟨Nat.zero_le _, Nat.zero_le _⟩) ?_
    refine lv_if_ne (tgt := 22) hx hb dX4_surest_17 (by decide) (fun c_2 => ?_) (fun c_2 => ?_)
    · have hM := hM.trans (if_neg c_2)
      have t_2 := ne_t c_2
      rw [tl_0] at t_2
      have u_2 := within_t c_2
      rw [tl_0, tl_1] at u_2
      refine lv_aload_n hx hb dX4_surest_22 rfl (lv_at hl 0 rfl) ?_
      refine va_get (D := D) (ci := 4) (v := .ref (g 6)) (C := RX4) (T := TX4) (N := 7) hx hb hts hinT hown hE.1 hPT 0 rfl rfl 1 (by decide) (hts (.fieldLink RX4 19 "WallStones" "book" "LWallStones$Book;") (List.mem_of_getElem? (i := 1) rfl)) (fun _ h9 => h9) rfl dX4_surest_23 ?_
      refine lv_aload_n hx hb dX4_surest_26 rfl (lv_at hl 0 rfl) ?_
      refine va_get (D := D) (ci := 4) (v := .ref (g 1)) (C := RX4) (T := TX4) (N := 7) hx hb hts hinT hown hE.1 hPT 0 rfl rfl 0 (by decide) (hts (.fieldLink RX4 10 "WallStones" "engine" "LWallStones$Machine;") (List.mem_of_getElem? (i := 2) rfl)) (fun _ h9 => h9) rfl dX4_surest_27 ?_
      refine runW_v (P := fun H => va_P D vwCl (cellM cI g (m_B_study sM sB).1) H ∧ va_P D vwCl (cellB cI g (m_B_study sM sB).2) H) (va_runV (As := [.ref (g 1)]) (rest := []) ⟨hx, hb, hml, hown, hts⟩ (K_B_study (hg.sub (by decide) (by decide)) sM sB (by assumption)) (cwV 1 hts gX4_surest_X0_study rfl rfl rfl (by decide +kernel) ⟨Nat.le_of_ble_eq_true rfl, Nat.le_of_ble_eq_true rfl⟩) (preV_of hE hA hS ⟨hPM, hPB⟩ (va_recv hE.1 hPB (ci := 0) (q0 := 0) rfl rfl)) rfl rfl hl.1 rfl (lv_room (Nat.le_of_ble_eq_true rfl)) dX4_surest_30 ⟨Nat.zero_le _, Nat.zero_le _⟩) hS (fun _ h9 => wA.sub (by decide) (by decide) _ h9) (fun H locs hQ hk hS => ?_)
      have hPT : va_P D vwCl (cellT cI g sT vT) H := wKeep hPT (wOff hg (c := 0) (n := 1) (x := 1) (y := 12) (by decide) (by decide) (by decide) (by decide) (by decide) rfl) hk
      have hPL : va_P D vwCl (cellL cI g sL) H := wKeep hPL (wOff hg (c := 12) (n := 5) (x := 1) (y := 12) (by decide) (by decide) (by decide) (by decide) (by decide) rfl) hk
      have hPS : va_P D vwCl (cellS cI g sS) H := wKeep hPS (wOff hg (c := 17) (n := 2) (x := 1) (y := 12) (by decide) (by decide) (by decide) (by decide) (by decide) rfl) hk
      obtain ⟨hPM, hPB⟩ := hQ
      refine lv_aload_n hx hb dX4_surest_33 rfl (lv_at hl 0 rfl) ?_
      refine va_get (D := D) (ci := 4) (v := .ref (g 6)) (C := RX4) (T := TX4) (N := 7) hx hb hts hinT hown hE.1 hPT 0 rfl rfl 1 (by decide) (hts (.fieldLink RX4 19 "WallStones" "book" "LWallStones$Book;") (List.mem_of_getElem? (i := 1) rfl)) (fun _ h9 => h9) rfl dX4_surest_34 ?_
      refine lv_iload_n hx hb dX4_surest_37 rfl (lv_at hl 1 rfl) ?_
      refine runS_i (va_runV (As := [.int p1]) (rest := []) ⟨hx, hb, hml, hown, hts⟩ (K_B_surestHook (hg.sub (by decide) (by decide)) (m_B_study sM sB).2 p1) (cwV 1 hts gX4_surest_X0_surestHook rfl rfl rfl (by decide +kernel) ⟨Nat.le_of_ble_eq_true rfl, Nat.le_of_ble_eq_true rfl⟩) (preV_of hE hA hS hPB (va_recv hE.1 hPB (ci := 0) (q0 := 0) rfl rfl)) rfl rfl hl.1 rfl (lv_room (Nat.le_of_ble_eq_true rfl)) dX4_surest_38 ⟨Nat.zero_le _, Nat.zero_le _⟩) ?_
      have w3 : (m_B_surestHook (m_B_study sM sB).2 p1).toInt = -9 ∨ (0 ≤ (m_B_surestHook (m_B_study sM sB).2 p1).toInt ∧ (m_B_surestHook (m_B_study sM sB).2 p1).toInt ≤ 60) := SH_t
      refine lv_istore_n (lv' := [(3, .int (m_B_surestHook (m_B_study sM sB).2 p1)), (0, .ref (g 0)), (1, .int p1), (2, .int p2)]) hx hb dX4_surest_41 rfl hl (by decide) rfl (fun ls hl => ?_)
      refine lv_iload_n hx hb dX4_surest_42 rfl (lv_at hl 0 rfl) ?_
      refine lv_bipush (v := (-9)) hx hb dX4_surest_43 (by decide) ?_
      refine lv_icmp_eq (tgt := 52) hx hb dX4_surest_45 (by decide) (fun c_4 => ?_) (fun c_4 => ?_)
      · have hM := hM.trans (if_pos c_4)
        have t_4 := eq_t c_4
        rw [tl_m9] at t_4
        refine lv_iload_n hx hb dX4_surest_52 rfl (lv_at hl 0 rfl) ?_
        refine lv_goto (tgt := 65) hx hb dX4_surest_53 (by decide) ?_
        have hM : (m_T_surest sT sM sB p1 p2) = (((m_B_surestHook (m_B_study sM sB).2 p1), (m_B_study sM sB).1, (m_B_study sM sB).2) : Int32 × St × St) := hM
        exact hret (m_B_surestHook (m_B_study sM sB).2 p1) H locs _ ls (nr_i _) dX4_surest_65 (ret1 hM) (rP_v2 (P := fun (z0 : St) (z1 : St) => va_P D vwCl (cellT cI g sT vT) H ∧ va_P D vwCl (cellM cI g z0) H ∧ va_P D vwCl (cellB cI g z1) H ∧ va_P D vwCl (cellL cI g sL) H ∧ va_P D vwCl (cellS cI g sS) H) hM ⟨hPT, hPM, hPB, hPL, hPS⟩) hS
      · have hM := hM.trans (if_neg c_4)
        have t_4 := ne_t c_4
        rw [tl_m9] at t_4
        refine lv_iload_n hx hb dX4_surest_48 rfl (lv_at hl 3 rfl) ?_
        refine lv_if_ne (tgt := 56) hx hb dX4_surest_49 (by decide) (fun c_5 => ?_) (fun c_5 => ?_)
        · have hM := hM.trans (if_neg c_5)
          have t_5 := ne_t c_5
          rw [tl_0] at t_5
          refine lv_aload_n hx hb dX4_surest_56 rfl (lv_at hl 1 rfl) ?_
          refine va_get (D := D) (ci := 4) (v := .ref (g 6)) (C := RX4) (T := TX4) (N := 7) hx hb hts hinT hown hE.1 hPT 0 rfl rfl 1 (by decide) (hts (.fieldLink RX4 19 "WallStones" "book" "LWallStones$Book;") (List.mem_of_getElem? (i := 1) rfl)) (fun _ h9 => h9) rfl dX4_surest_57 ?_
          refine lv_iload_n hx hb dX4_surest_60 rfl (lv_at hl 0 rfl) ?_
          refine lv_iload_n hx hb dX4_surest_61 rfl (lv_at hl 2 rfl) ?_
          refine runS_i (va_runV (As := [.int (m_B_surestHook (m_B_study sM sB).2 p1), .int p1]) (rest := []) ⟨hx, hb, hml, hown, hts⟩ (K_B_farthestMiss (hg.sub (by decide) (by decide)) (m_B_study sM sB).2 (m_B_surestHook (m_B_study sM sB).2 p1) p1 (by omega)) (cwV 2 hts gX4_surest_X0_farthestMiss rfl rfl rfl (by decide +kernel) ⟨Nat.le_of_ble_eq_true rfl, Nat.le_of_ble_eq_true rfl⟩) (preV_of hE hA hS hPB (va_recv hE.1 hPB (ci := 0) (q0 := 0) rfl rfl)) rfl rfl hl.1 rfl (lv_room (Nat.le_of_ble_eq_true rfl)) dX4_surest_62 ⟨Nat.zero_le _, Nat.zero_le _⟩) ?_
          have hM : (m_T_surest sT sM sB p1 p2) = (((m_B_farthestMiss (m_B_study sM sB).2 (m_B_surestHook (m_B_study sM sB).2 p1) p1), (m_B_study sM sB).1, (m_B_study sM sB).2) : Int32 × St × St) := hM
          exact hret (m_B_farthestMiss (m_B_study sM sB).2 (m_B_surestHook (m_B_study sM sB).2 p1) p1) H locs _ ls (nr_i _) dX4_surest_65 (ret1 hM) (rP_v2 (P := fun (z0 : St) (z1 : St) => va_P D vwCl (cellT cI g sT vT) H ∧ va_P D vwCl (cellM cI g z0) H ∧ va_P D vwCl (cellB cI g z1) H ∧ va_P D vwCl (cellL cI g sL) H ∧ va_P D vwCl (cellS cI g sS) H) hM ⟨hPT, hPM, hPB, hPL, hPS⟩) hS
        · have hM := hM.trans (if_pos c_5)
          have t_5 := eq_t c_5
          rw [tl_0] at t_5
          refine lv_iload_n hx hb dX4_surest_52 rfl (lv_at hl 0 rfl) ?_
          refine lv_goto (tgt := 65) hx hb dX4_surest_53 (by decide) ?_
          have hM : (m_T_surest sT sM sB p1 p2) = (((m_B_surestHook (m_B_study sM sB).2 p1), (m_B_study sM sB).1, (m_B_study sM sB).2) : Int32 × St × St) := hM
          exact hret (m_B_surestHook (m_B_study sM sB).2 p1) H locs _ ls (nr_i _) dX4_surest_65 (ret1 hM) (rP_v2 (P := fun (z0 : St) (z1 : St) => va_P D vwCl (cellT cI g sT vT) H ∧ va_P D vwCl (cellM cI g z0) H ∧ va_P D vwCl (cellB cI g z1) H ∧ va_P D vwCl (cellL cI g sL) H ∧ va_P D vwCl (cellS cI g sS) H) hM ⟨hPT, hPM, hPB, hPL, hPS⟩) hS
    · have hM := hM.trans (if_pos c_2)
      have t_2 := eq_t c_2
      rw [tl_0] at t_2
      refine lv_iconst (v := (-1)) hx hb dX4_surest_20 (by decide) ?_
      have hM : (m_T_surest sT sM sB p1 p2) = (((-1), sM, sB) : Int32 × St × St) := hM
      exact hret (-1) H locs _ ls (nr_i _) dX4_surest_21 (ret1 hM) (rP_v2 (P := fun (z0 : St) (z1 : St) => va_P D vwCl (cellT cI g sT vT) H ∧ va_P D vwCl (cellM cI g z0) H ∧ va_P D vwCl (cellB cI g z1) H ∧ va_P D vwCl (cellL cI g sL) H ∧ va_P D vwCl (cellS cI g sS) H) hM ⟨hPT, hPM, hPB, hPL, hPS⟩) hS
abbrev rm_T_wall : Room := { frames := 1, cells := 0, slots := 0, locals := 23 }
set_option maxHeartbeats 4000000 in
set_option maxRecDepth 100000 in
theorem K_T_wall {l : Launch} {D : va_G} {cI : ClassId} {lo : Nat} {g : Nat → Nat} (hg : wI g 0 19 lo) (sT : St) (vT : Int64) (sM : St) (sB : St) (sL : St) (sS : St) (p1 : Int32) (p2 : Int32) : WRi l D cI lo yX4_wall wsX4_wall rm_T_wall [.ref (g 0), .int p1, .int p2] (fun H => va_P D vwCl (cellT cI g sT vT) H ∧ va_P D vwCl (cellM cI g sM) H ∧ va_P D vwCl (cellB cI g sB) H ∧ va_P D vwCl (cellL cI g sL) H ∧ va_P D vwCl (cellS cI g sS) H) (m_T_wall sT sL p1 p2).1 (fun H => va_P D vwCl (cellT cI g sT vT) H ∧ va_P D vwCl (cellM cI g sM) H ∧ va_P D vwCl (cellB cI g sB) H ∧ va_P D vwCl (cellL cI g (m_T_wall sT sL p1 p2).2) H ∧ va_P D vwCl (cellS cI g sS) H) (wA g 0 19) := by
  refine ofW_WRi (cc := cX4_wall) (maxL := 3) (ty := .int) (by decide +kernel) rfl (Nat.le_of_ble_eq_true rfl) ?_
  intro p e s m args below meth c Q hx hb hml hown hts hE hP hret ls hl
  have hown : s.vm.findClass RX4 = some m.cls := hown
  obtain ⟨hPT, hPM, hPB, hPL, hPS⟩ := hP
  have hA := wA.lo hg
  have hS : va_S (wA g 0 19) s.heap s.heap [] := va_S.rf
  obtain ⟨H, hH⟩ : ∃ z, z = s.heap := ⟨_, rfl⟩
  obtain ⟨locs, hlocs⟩ : ∃ z : List Loc, z = [] := ⟨_, rfl⟩
  have hPT : va_P D vwCl (cellT cI g sT vT) H := by rw [hH]; exact hPT
  have hPM : va_P D vwCl (cellM cI g sM) H := by rw [hH]; exact hPM
  have hPB : va_P D vwCl (cellB cI g sB) H := by rw [hH]; exact hPB
  have hPL : va_P D vwCl (cellL cI g sL) H := by rw [hH]; exact hPL
  have hPS : va_P D vwCl (cellS cI g sS) H := by rw [hH]; exact hPS
  have hS : va_S (wA g 0 19) s.heap H locs := by rw [hH, hlocs]; exact va_S.rf
  have gW : W p l e rm_T_wall s m args below meth c H locs 0 0 Q (F0 m 0 ls []) → W p l e rm_T_wall s m args below meth c s.heap [] 0 0 Q (F0 m 0 ls []) := by rw [hH, hlocs]; exact id
  refine gW ?_
  have hinT : ∀ w ∈ wsX40, w ∈ wsX4_wall := fun w h => List.mem_cons_of_mem _ (List.mem_append_left _ (List.mem_append_right _ h))
  have hinL : ∀ w ∈ wsX30, w ∈ wsX4_wall := fun w h => List.mem_cons_of_mem _ (List.mem_append_right _ h)
  have hl : lv_has ls 3 [(0, .ref (g 0)), (1, .int p1), (2, .int p2)] := hl
  have hM : (m_T_wall sT sL p1 p2) = (m_T_wall sT sL p1 p2) := rfl
  refine lv_iload_n hx hb dX4_wall_0 rfl (lv_at hl 1 rfl) ?_
  refine lv_iconst (v := 1) hx hb dX4_wall_1 (by decide) ?_
  refine lv_bipush (v := 8) hx hb dX4_wall_2 (by decide) ?_
  refine runS_i (va_runS (As := [.int p1, .int 1, .int 8]) (rest := []) ⟨hx, hb, hml, hown, hts⟩ (K_T_within p1 1 8) (va_cwS 3 hts gX4_wall_X4_within rfl rfl rfl (by decide +kernel) ⟨Nat.le_of_ble_eq_true rfl, Nat.le_of_ble_eq_true rfl⟩) (preS_of hE hA hS trivial) rfl rfl hl.1 rfl (lv_room (Nat.le_of_ble_eq_true rfl)) dX4_wall_4 ⟨Nat.zero_le _, Nat.zero_le _⟩) ?_
  refine lv_if_eq (tgt := 20) hx hb dX4_wall_7 (by decide) (fun c_1 => ?_) (fun c_1 => ?_)
  · have hM := hM.trans (if_pos c_1)
    refine lv_iconst (v := (-1)) hx hb dX4_wall_20 (by decide) ?_
    have hM : (m_T_wall sT sL p1 p2) = (((-1), sL) : Int32 × St) := hM
    exact hret (-1) H locs _ ls (nr_i _) dX4_wall_21 (ret1 hM) (rP_v1 (P := fun (z0 : St) => va_P D vwCl (cellT cI g sT vT) H ∧ va_P D vwCl (cellM cI g sM) H ∧ va_P D vwCl (cellB cI g sB) H ∧ va_P D vwCl (cellL cI g z0) H ∧ va_P D vwCl (cellS cI g sS) H) hM ⟨hPT, hPM, hPB, hPL, hPS⟩) hS
  · have hM := hM.trans (if_neg c_1)
    have u_1 := within_t c_1
    rw [tl_1, tl_8] at u_1
    refine lv_iload_n hx hb dX4_wall_10 rfl (lv_at hl 2 rfl) ?_
    refine lv_iconst (v := 1) hx hb dX4_wall_11 (by decide) ?_
    refine lv_bipush (v := 6) hx hb dX4_wall_12 (by decide) ?_
    refine runS_i (va_runS (As := [.int p2, .int 1, .int 6]) (rest := []) ⟨hx, hb, hml, hown, hts⟩ (K_T_within p2 1 6) (va_cwS 3 hts gX4_wall_X4_within rfl rfl rfl (by decide +kernel) ⟨Nat.le_of_ble_eq_true rfl, Nat.le_of_ble_eq_true rfl⟩) (preS_of hE hA hS trivial) rfl rfl hl.1 rfl (lv_room (Nat.le_of_ble_eq_true rfl)) dX4_wall_14 ⟨Nat.zero_le _, Nat.zero_le _⟩) ?_
    refine lv_if_ne (tgt := 22) hx hb dX4_wall_17 (by decide) (fun c_2 => ?_) (fun c_2 => ?_)
    · have hM := hM.trans (if_neg c_2)
      have u_2 := within_t c_2
      rw [tl_1, tl_6] at u_2
      refine lv_aload_n hx hb dX4_wall_22 rfl (lv_at hl 0 rfl) ?_
      refine va_get (D := D) (ci := 4) (v := .ref (g 12)) (C := RX4) (T := TX4) (N := 7) hx hb hts hinT hown hE.1 hPT 0 rfl rfl 2 (by decide) (hts (.fieldLink RX4 26 "WallStones" "stones" "LWallStones$Wall;") (List.mem_of_getElem? (i := 1) rfl)) (fun _ h9 => h9) rfl dX4_wall_23 ?_
      refine lv_iload_n hx hb dX4_wall_26 rfl (lv_at hl 1 rfl) ?_
      refine lv_iload_n hx hb dX4_wall_27 rfl (lv_at hl 2 rfl) ?_
      refine runW_v (va_runV (As := [.int p1, .int p2]) (rest := []) ⟨hx, hb, hml, hown, hts⟩ (K_L_build (hg.sub (by decide) (by decide)) sL p1 p2) (cwV 2 hts gX4_wall_X3_build rfl rfl rfl (by decide +kernel) ⟨Nat.le_of_ble_eq_true rfl, Nat.le_of_ble_eq_true rfl⟩) (preV_of hE hA hS hPL (va_recv hE.1 hPL (ci := 3) (q0 := 0) rfl rfl)) rfl rfl hl.1 rfl (lv_room (Nat.le_of_ble_eq_true rfl)) dX4_wall_28 ⟨Nat.zero_le _, Nat.zero_le _⟩) hS (fun _ h9 => wA.sub (by decide) (by decide) _ h9) (fun H locs hQ hk hS => ?_)
      have hPT : va_P D vwCl (cellT cI g sT vT) H := wKeep hPT (wOff hg (c := 0) (n := 1) (x := 12) (y := 17) (by decide) (by decide) (by decide) (by decide) (by decide) rfl) hk
      have hPM : va_P D vwCl (cellM cI g sM) H := wKeep hPM (wOff hg (c := 1) (n := 5) (x := 12) (y := 17) (by decide) (by decide) (by decide) (by decide) (by decide) rfl) hk
      have hPB : va_P D vwCl (cellB cI g sB) H := wKeep hPB (wOff hg (c := 6) (n := 6) (x := 12) (y := 17) (by decide) (by decide) (by decide) (by decide) (by decide) rfl) hk
      have hPS : va_P D vwCl (cellS cI g sS) H := wKeep hPS (wOff hg (c := 17) (n := 2) (x := 12) (y := 17) (by decide) (by decide) (by decide) (by decide) (by decide) rfl) hk
      have hPL : va_P D vwCl (cellL cI g (m_L_build sL p1 p2)) H := hQ
      refine lv_iload_n hx hb dX4_wall_31 rfl (lv_at hl 1 rfl) ?_
      refine lv_iload_n hx hb dX4_wall_32 rfl (lv_at hl 2 rfl) ?_
      refine lv_imul hx hb dX4_wall_33 ?_
      have hM : (m_T_wall sT sL p1 p2) = (((p1 * p2), (m_L_build sL p1 p2)) : Int32 × St) := hM
      exact hret (p1 * p2) H locs _ ls (nr_i _) dX4_wall_34 (ret1 hM) (rP_v1 (P := fun (z0 : St) => va_P D vwCl (cellT cI g sT vT) H ∧ va_P D vwCl (cellM cI g sM) H ∧ va_P D vwCl (cellB cI g sB) H ∧ va_P D vwCl (cellL cI g z0) H ∧ va_P D vwCl (cellS cI g sS) H) hM ⟨hPT, hPM, hPB, hPL, hPS⟩) hS
    · have hM := hM.trans (if_pos c_2)
      refine lv_iconst (v := (-1)) hx hb dX4_wall_20 (by decide) ?_
      have hM : (m_T_wall sT sL p1 p2) = (((-1), sL) : Int32 × St) := hM
      exact hret (-1) H locs _ ls (nr_i _) dX4_wall_21 (ret1 hM) (rP_v1 (P := fun (z0 : St) => va_P D vwCl (cellT cI g sT vT) H ∧ va_P D vwCl (cellM cI g sM) H ∧ va_P D vwCl (cellB cI g sB) H ∧ va_P D vwCl (cellL cI g z0) H ∧ va_P D vwCl (cellS cI g sS) H) hM ⟨hPT, hPM, hPB, hPL, hPS⟩) hS
abbrev rm_T_strength : Room := { frames := 2, cells := 0, slots := 0, locals := 46 }
set_option maxHeartbeats 4000000 in
set_option maxRecDepth 100000 in
theorem K_T_strength {l : Launch} {D : va_G} {cI : ClassId} {lo : Nat} {g : Nat → Nat} (hg : wI g 0 19 lo) (sT : St) (vT : Int64) (sM : St) (sB : St) (sL : St) (sS : St) (p1 : Int32) (p2 : Int32) (p3 : Int32) (h0 : okL sL) : WRi l D cI lo yX4_strength wsX4_strength rm_T_strength [.ref (g 0), .int p1, .int p2, .int p3] (fun H => va_P D vwCl (cellT cI g sT vT) H ∧ va_P D vwCl (cellM cI g sM) H ∧ va_P D vwCl (cellB cI g sB) H ∧ va_P D vwCl (cellL cI g sL) H ∧ va_P D vwCl (cellS cI g sS) H) (m_T_strength sT sL p1 p2 p3).1 (fun H => va_P D vwCl (cellT cI g sT vT) H ∧ va_P D vwCl (cellM cI g sM) H ∧ va_P D vwCl (cellB cI g sB) H ∧ va_P D vwCl (cellL cI g (m_T_strength sT sL p1 p2 p3).2) H ∧ va_P D vwCl (cellS cI g sS) H) (wA g 0 19) := by
  refine ofW_WRi (cc := cX4_strength) (maxL := 4) (ty := .int) (by decide +kernel) rfl (Nat.le_of_ble_eq_true rfl) ?_
  intro p e s m args below meth c Q hx hb hml hown hts hE hP hret ls hl
  have hown : s.vm.findClass RX4 = some m.cls := hown
  obtain ⟨hPT, hPM, hPB, hPL, hPS⟩ := hP
  have hA := wA.lo hg
  have hS : va_S (wA g 0 19) s.heap s.heap [] := va_S.rf
  obtain ⟨H, hH⟩ : ∃ z, z = s.heap := ⟨_, rfl⟩
  obtain ⟨locs, hlocs⟩ : ∃ z : List Loc, z = [] := ⟨_, rfl⟩
  have hPT : va_P D vwCl (cellT cI g sT vT) H := by rw [hH]; exact hPT
  have hPM : va_P D vwCl (cellM cI g sM) H := by rw [hH]; exact hPM
  have hPB : va_P D vwCl (cellB cI g sB) H := by rw [hH]; exact hPB
  have hPL : va_P D vwCl (cellL cI g sL) H := by rw [hH]; exact hPL
  have hPS : va_P D vwCl (cellS cI g sS) H := by rw [hH]; exact hPS
  have hS : va_S (wA g 0 19) s.heap H locs := by rw [hH, hlocs]; exact va_S.rf
  have gW : W p l e rm_T_strength s m args below meth c H locs 0 0 Q (F0 m 0 ls []) → W p l e rm_T_strength s m args below meth c s.heap [] 0 0 Q (F0 m 0 ls []) := by rw [hH, hlocs]; exact id
  refine gW ?_
  have hinT : ∀ w ∈ wsX40, w ∈ wsX4_strength := fun w h => List.mem_cons_of_mem _ (List.mem_append_left _ (List.mem_append_right _ h))
  have hinL : ∀ w ∈ wsX30, w ∈ wsX4_strength := fun w h => List.mem_cons_of_mem _ (List.mem_append_right _ h)
  have hl : lv_has ls 4 [(0, .ref (g 0)), (1, .int p1), (2, .int p2), (3, .int p3)] := hl
  have nh0 := okL_lin h0
  have hM : (m_T_strength sT sL p1 p2 p3) = (m_T_strength sT sL p1 p2 p3) := rfl
  refine lv_aload_n hx hb dX4_strength_0 rfl (lv_at hl 0 rfl) ?_
  refine va_get (D := D) (ci := 4) (v := .ref (g 12)) (C := RX4) (T := TX4) (N := 7) hx hb hts hinT hown hE.1 hPT 0 rfl rfl 2 (by decide) (hts (.fieldLink RX4 26 "WallStones" "stones" "LWallStones$Wall;") (List.mem_of_getElem? (i := 1) rfl)) (fun _ h9 => h9) rfl dX4_strength_1 ?_
  refine lv_iload_n hx hb dX4_strength_4 rfl (lv_at hl 1 rfl) ?_
  refine lv_iload_n hx hb dX4_strength_5 rfl (lv_at hl 2 rfl) ?_
  refine runS_i (va_runV (As := [.int p1, .int p2]) (rest := []) ⟨hx, hb, hml, hown, hts⟩ (K_L_has (hg.sub (by decide) (by decide)) sL p1 p2) (cwV 2 hts gX4_strength_X3_has rfl rfl rfl (by decide +kernel) ⟨Nat.le_of_ble_eq_true rfl, Nat.le_of_ble_eq_true rfl⟩) (preV_of hE hA hS hPL (va_recv hE.1 hPL (ci := 3) (q0 := 0) rfl rfl)) rfl rfl hl.1 rfl (lv_room (Nat.le_of_ble_eq_true rfl)) dX4_strength_6 ⟨Nat.zero_le _, Nat.zero_le _⟩) ?_
  refine lv_if_eq (tgt := 22) hx hb dX4_strength_9 (by decide) (fun c_1 => ?_) (fun c_1 => ?_)
  · have hM := hM.trans (if_pos c_1)
    refine lv_iconst (v := (-1)) hx hb dX4_strength_22 (by decide) ?_
    have hM : (m_T_strength sT sL p1 p2 p3) = (((-1), sL) : Int32 × St) := hM
    exact hret (-1) H locs _ ls (nr_i _) dX4_strength_23 (ret1 hM) (rP_v1 (P := fun (z0 : St) => va_P D vwCl (cellT cI g sT vT) H ∧ va_P D vwCl (cellM cI g sM) H ∧ va_P D vwCl (cellB cI g sB) H ∧ va_P D vwCl (cellL cI g z0) H ∧ va_P D vwCl (cellS cI g sS) H) hM ⟨hPT, hPM, hPB, hPL, hPS⟩) hS
  · have hM := hM.trans (if_neg c_1)
    have u_1 := has_t c_1
    refine lv_iload_n hx hb dX4_strength_12 rfl (lv_at hl 3 rfl) ?_
    refine lv_iconst (v := 1) hx hb dX4_strength_13 (by decide) ?_
    refine lv_bipush (v := 99) hx hb dX4_strength_14 (by decide) ?_
    refine runS_i (va_runS (As := [.int p3, .int 1, .int 99]) (rest := []) ⟨hx, hb, hml, hown, hts⟩ (K_T_within p3 1 99) (va_cwS 3 hts gX4_strength_X4_within rfl rfl rfl (by decide +kernel) ⟨Nat.le_of_ble_eq_true rfl, Nat.le_of_ble_eq_true rfl⟩) (preS_of hE hA hS trivial) rfl rfl hl.1 rfl (lv_room (Nat.le_of_ble_eq_true rfl)) dX4_strength_16 ⟨Nat.zero_le _, Nat.zero_le _⟩) ?_
    refine lv_if_ne (tgt := 24) hx hb dX4_strength_19 (by decide) (fun c_2 => ?_) (fun c_2 => ?_)
    · have hM := hM.trans (if_neg c_2)
      have u_2 := within_t c_2
      rw [tl_1, tl_99] at u_2
      refine lv_aload_n hx hb dX4_strength_24 rfl (lv_at hl 0 rfl) ?_
      refine va_get (D := D) (ci := 4) (v := .ref (g 12)) (C := RX4) (T := TX4) (N := 7) hx hb hts hinT hown hE.1 hPT 0 rfl rfl 2 (by decide) (hts (.fieldLink RX4 26 "WallStones" "stones" "LWallStones$Wall;") (List.mem_of_getElem? (i := 1) rfl)) (fun _ h9 => h9) rfl dX4_strength_25 ?_
      refine lv_iload_n hx hb dX4_strength_28 rfl (lv_at hl 1 rfl) ?_
      refine lv_iload_n hx hb dX4_strength_29 rfl (lv_at hl 2 rfl) ?_
      refine runS_i (va_runV (As := [.int p1, .int p2]) (rest := []) ⟨hx, hb, hml, hown, hts⟩ (K_L_stands (hg.sub (by decide) (by decide)) sL p1 p2 (by assumption)) (cwV 2 hts gX4_strength_X3_stands rfl rfl rfl (by decide +kernel) ⟨Nat.le_of_ble_eq_true rfl, Nat.le_of_ble_eq_true rfl⟩) (preV_of hE hA hS hPL (va_recv hE.1 hPL (ci := 3) (q0 := 0) rfl rfl)) rfl rfl hl.1 rfl (lv_room (Nat.le_of_ble_eq_true rfl)) dX4_strength_30 ⟨Nat.zero_le _, Nat.zero_le _⟩) ?_
      refine lv_if_eq (tgt := 49) hx hb dX4_strength_33 (by decide) (fun c_3 => ?_) (fun c_3 => ?_)
      · have hM := hM.trans (if_pos c_3)
        refine lv_bipush (v := (-2)) hx hb dX4_strength_49 (by decide) ?_
        have hM : (m_T_strength sT sL p1 p2 p3) = (((-2), sL) : Int32 × St) := hM
        exact hret (-2) H locs _ ls (nr_i _) dX4_strength_51 (ret1 hM) (rP_v1 (P := fun (z0 : St) => va_P D vwCl (cellT cI g sT vT) H ∧ va_P D vwCl (cellM cI g sM) H ∧ va_P D vwCl (cellB cI g sB) H ∧ va_P D vwCl (cellL cI g z0) H ∧ va_P D vwCl (cellS cI g sS) H) hM ⟨hPT, hPM, hPB, hPL, hPS⟩) hS
      · have hM := hM.trans (if_neg c_3)
        have u_3 := stands_t c_3
        refine lv_aload_n hx hb dX4_strength_36 rfl (lv_at hl 0 rfl) ?_
        refine va_get (D := D) (ci := 4) (v := .ref (g 12)) (C := RX4) (T := TX4) (N := 7) hx hb hts hinT hown hE.1 hPT 0 rfl rfl 2 (by decide) (hts (.fieldLink RX4 26 "WallStones" "stones" "LWallStones$Wall;") (List.mem_of_getElem? (i := 1) rfl)) (fun _ h9 => h9) rfl dX4_strength_37 ?_
        refine lv_iload_n hx hb dX4_strength_40 rfl (lv_at hl 1 rfl) ?_
        refine lv_iload_n hx hb dX4_strength_41 rfl (lv_at hl 2 rfl) ?_
        refine lv_iload_n hx hb dX4_strength_42 rfl (lv_at hl 3 rfl) ?_
        refine runW_i (va_runV (As := [.int p1, .int p2, .int p3]) (rest := []) ⟨hx, hb, hml, hown, hts⟩ (K_L_putStrength (hg.sub (by decide) (by decide)) sL p1 p2 p3 (by assumption)) (cwV 3 hts gX4_strength_X3_putStrength rfl rfl rfl (by decide +kernel) ⟨Nat.le_of_ble_eq_true rfl, Nat.le_of_ble_eq_true rfl⟩) (preV_of hE hA hS hPL (va_recv hE.1 hPL (ci := 3) (q0 := 0) rfl rfl)) rfl rfl hl.1 rfl (lv_room (Nat.le_of_ble_eq_true rfl)) dX4_strength_43 ⟨Nat.zero_le _, Nat.zero_le _⟩) hS (fun _ h9 => wA.sub (by decide) (by decide) _ h9) (fun H locs hQ hk hS => ?_)
        have hPT : va_P D vwCl (cellT cI g sT vT) H := wKeep hPT (wOff hg (c := 0) (n := 1) (x := 12) (y := 17) (by decide) (by decide) (by decide) (by decide) (by decide) rfl) hk
        have hPM : va_P D vwCl (cellM cI g sM) H := wKeep hPM (wOff hg (c := 1) (n := 5) (x := 12) (y := 17) (by decide) (by decide) (by decide) (by decide) (by decide) rfl) hk
        have hPB : va_P D vwCl (cellB cI g sB) H := wKeep hPB (wOff hg (c := 6) (n := 6) (x := 12) (y := 17) (by decide) (by decide) (by decide) (by decide) (by decide) rfl) hk
        have hPS : va_P D vwCl (cellS cI g sS) H := wKeep hPS (wOff hg (c := 17) (n := 2) (x := 12) (y := 17) (by decide) (by decide) (by decide) (by decide) (by decide) rfl) hk
        have hPL : va_P D vwCl (cellL cI g (m_L_putStrength sL p1 p2 p3).2) H := hQ
        refine lv_goto (tgt := 51) hx hb dX4_strength_46 (by decide) ?_
        have hM : (m_T_strength sT sL p1 p2 p3) = (((m_L_putStrength sL p1 p2 p3).1, (m_L_putStrength sL p1 p2 p3).2) : Int32 × St) := hM
        exact hret (m_L_putStrength sL p1 p2 p3).1 H locs _ ls (nr_i _) dX4_strength_51 (ret1 hM) (rP_v1 (P := fun (z0 : St) => va_P D vwCl (cellT cI g sT vT) H ∧ va_P D vwCl (cellM cI g sM) H ∧ va_P D vwCl (cellB cI g sB) H ∧ va_P D vwCl (cellL cI g z0) H ∧ va_P D vwCl (cellS cI g sS) H) hM ⟨hPT, hPM, hPB, hPL, hPS⟩) hS
    · have hM := hM.trans (if_pos c_2)
      refine lv_iconst (v := (-1)) hx hb dX4_strength_22 (by decide) ?_
      have hM : (m_T_strength sT sL p1 p2 p3) = (((-1), sL) : Int32 × St) := hM
      exact hret (-1) H locs _ ls (nr_i _) dX4_strength_23 (ret1 hM) (rP_v1 (P := fun (z0 : St) => va_P D vwCl (cellT cI g sT vT) H ∧ va_P D vwCl (cellM cI g sM) H ∧ va_P D vwCl (cellB cI g sB) H ∧ va_P D vwCl (cellL cI g z0) H ∧ va_P D vwCl (cellS cI g sS) H) hM ⟨hPT, hPM, hPB, hPL, hPS⟩) hS
abbrev rm_T_prop : Room := { frames := 2, cells := 0, slots := 0, locals := 45 }
set_option maxHeartbeats 4000000 in
set_option maxRecDepth 100000 in
theorem K_T_prop {l : Launch} {D : va_G} {cI : ClassId} {lo : Nat} {g : Nat → Nat} (hg : wI g 0 19 lo) (sT : St) (vT : Int64) (sM : St) (sB : St) (sL : St) (sS : St) (p1 : Int32) (p2 : Int32) (h0 : okL sL) : WRi l D cI lo yX4_prop wsX4_prop rm_T_prop [.ref (g 0), .int p1, .int p2] (fun H => va_P D vwCl (cellT cI g sT vT) H ∧ va_P D vwCl (cellM cI g sM) H ∧ va_P D vwCl (cellB cI g sB) H ∧ va_P D vwCl (cellL cI g sL) H ∧ va_P D vwCl (cellS cI g sS) H) (m_T_prop sT sL p1 p2).1 (fun H => va_P D vwCl (cellT cI g sT vT) H ∧ va_P D vwCl (cellM cI g sM) H ∧ va_P D vwCl (cellB cI g sB) H ∧ va_P D vwCl (cellL cI g (m_T_prop sT sL p1 p2).2) H ∧ va_P D vwCl (cellS cI g sS) H) (wA g 0 19) := by
  refine ofW_WRi (cc := cX4_prop) (maxL := 3) (ty := .int) (by decide +kernel) rfl (Nat.le_of_ble_eq_true rfl) ?_
  intro p e s m args below meth c Q hx hb hml hown hts hE hP hret ls hl
  have hown : s.vm.findClass RX4 = some m.cls := hown
  obtain ⟨hPT, hPM, hPB, hPL, hPS⟩ := hP
  have hA := wA.lo hg
  have hS : va_S (wA g 0 19) s.heap s.heap [] := va_S.rf
  obtain ⟨H, hH⟩ : ∃ z, z = s.heap := ⟨_, rfl⟩
  obtain ⟨locs, hlocs⟩ : ∃ z : List Loc, z = [] := ⟨_, rfl⟩
  have hPT : va_P D vwCl (cellT cI g sT vT) H := by rw [hH]; exact hPT
  have hPM : va_P D vwCl (cellM cI g sM) H := by rw [hH]; exact hPM
  have hPB : va_P D vwCl (cellB cI g sB) H := by rw [hH]; exact hPB
  have hPL : va_P D vwCl (cellL cI g sL) H := by rw [hH]; exact hPL
  have hPS : va_P D vwCl (cellS cI g sS) H := by rw [hH]; exact hPS
  have hS : va_S (wA g 0 19) s.heap H locs := by rw [hH, hlocs]; exact va_S.rf
  have gW : W p l e rm_T_prop s m args below meth c H locs 0 0 Q (F0 m 0 ls []) → W p l e rm_T_prop s m args below meth c s.heap [] 0 0 Q (F0 m 0 ls []) := by rw [hH, hlocs]; exact id
  refine gW ?_
  have hinT : ∀ w ∈ wsX40, w ∈ wsX4_prop := fun w h => List.mem_cons_of_mem _ (List.mem_append_left _ (List.mem_append_right _ h))
  have hinL : ∀ w ∈ wsX30, w ∈ wsX4_prop := fun w h => List.mem_cons_of_mem _ (List.mem_append_right _ h)
  have hl : lv_has ls 3 [(0, .ref (g 0)), (1, .int p1), (2, .int p2)] := hl
  have nh0 := okL_lin h0
  have hM : (m_T_prop sT sL p1 p2) = (m_T_prop sT sL p1 p2) := rfl
  refine lv_aload_n hx hb dX4_prop_0 rfl (lv_at hl 0 rfl) ?_
  refine va_get (D := D) (ci := 4) (v := .ref (g 12)) (C := RX4) (T := TX4) (N := 7) hx hb hts hinT hown hE.1 hPT 0 rfl rfl 2 (by decide) (hts (.fieldLink RX4 26 "WallStones" "stones" "LWallStones$Wall;") (List.mem_of_getElem? (i := 1) rfl)) (fun _ h9 => h9) rfl dX4_prop_1 ?_
  refine lv_iload_n hx hb dX4_prop_4 rfl (lv_at hl 1 rfl) ?_
  refine lv_iload_n hx hb dX4_prop_5 rfl (lv_at hl 2 rfl) ?_
  refine runS_i (va_runV (As := [.int p1, .int p2]) (rest := []) ⟨hx, hb, hml, hown, hts⟩ (K_L_has (hg.sub (by decide) (by decide)) sL p1 p2) (cwV 2 hts gX4_prop_X3_has rfl rfl rfl (by decide +kernel) ⟨Nat.le_of_ble_eq_true rfl, Nat.le_of_ble_eq_true rfl⟩) (preV_of hE hA hS hPL (va_recv hE.1 hPL (ci := 3) (q0 := 0) rfl rfl)) rfl rfl hl.1 rfl (lv_room (Nat.le_of_ble_eq_true rfl)) dX4_prop_6 ⟨Nat.zero_le _, Nat.zero_le _⟩) ?_
  refine lv_if_ne (tgt := 14) hx hb dX4_prop_9 (by decide) (fun c_1 => ?_) (fun c_1 => ?_)
  · have hM := hM.trans (if_neg c_1)
    have u_1 := has_t c_1
    refine lv_aload_n hx hb dX4_prop_14 rfl (lv_at hl 0 rfl) ?_
    refine va_get (D := D) (ci := 4) (v := .ref (g 12)) (C := RX4) (T := TX4) (N := 7) hx hb hts hinT hown hE.1 hPT 0 rfl rfl 2 (by decide) (hts (.fieldLink RX4 26 "WallStones" "stones" "LWallStones$Wall;") (List.mem_of_getElem? (i := 1) rfl)) (fun _ h9 => h9) rfl dX4_prop_15 ?_
    refine lv_iload_n hx hb dX4_prop_18 rfl (lv_at hl 1 rfl) ?_
    refine lv_iload_n hx hb dX4_prop_19 rfl (lv_at hl 2 rfl) ?_
    refine runS_i (va_runV (As := [.int p1, .int p2]) (rest := []) ⟨hx, hb, hml, hown, hts⟩ (K_L_stands (hg.sub (by decide) (by decide)) sL p1 p2 (by assumption)) (cwV 2 hts gX4_prop_X3_stands rfl rfl rfl (by decide +kernel) ⟨Nat.le_of_ble_eq_true rfl, Nat.le_of_ble_eq_true rfl⟩) (preV_of hE hA hS hPL (va_recv hE.1 hPL (ci := 3) (q0 := 0) rfl rfl)) rfl rfl hl.1 rfl (lv_room (Nat.le_of_ble_eq_true rfl)) dX4_prop_20 ⟨Nat.zero_le _, Nat.zero_le _⟩) ?_
    refine lv_if_eq (tgt := 38) hx hb dX4_prop_23 (by decide) (fun c_2 => ?_) (fun c_2 => ?_)
    · have hM := hM.trans (if_pos c_2)
      refine lv_bipush (v := (-2)) hx hb dX4_prop_38 (by decide) ?_
      have hM : (m_T_prop sT sL p1 p2) = (((-2), sL) : Int32 × St) := hM
      exact hret (-2) H locs _ ls (nr_i _) dX4_prop_40 (ret1 hM) (rP_v1 (P := fun (z0 : St) => va_P D vwCl (cellT cI g sT vT) H ∧ va_P D vwCl (cellM cI g sM) H ∧ va_P D vwCl (cellB cI g sB) H ∧ va_P D vwCl (cellL cI g z0) H ∧ va_P D vwCl (cellS cI g sS) H) hM ⟨hPT, hPM, hPB, hPL, hPS⟩) hS
    · have hM := hM.trans (if_neg c_2)
      have u_2 := stands_t c_2
      refine lv_aload_n hx hb dX4_prop_26 rfl (lv_at hl 0 rfl) ?_
      refine va_get (D := D) (ci := 4) (v := .ref (g 12)) (C := RX4) (T := TX4) (N := 7) hx hb hts hinT hown hE.1 hPT 0 rfl rfl 2 (by decide) (hts (.fieldLink RX4 26 "WallStones" "stones" "LWallStones$Wall;") (List.mem_of_getElem? (i := 1) rfl)) (fun _ h9 => h9) rfl dX4_prop_27 ?_
      refine lv_iload_n hx hb dX4_prop_30 rfl (lv_at hl 1 rfl) ?_
      refine lv_iload_n hx hb dX4_prop_31 rfl (lv_at hl 2 rfl) ?_
      refine runW_i (va_runV (As := [.int p1, .int p2]) (rest := []) ⟨hx, hb, hml, hown, hts⟩ (K_L_putProp (hg.sub (by decide) (by decide)) sL p1 p2 (by assumption)) (cwV 2 hts gX4_prop_X3_putProp rfl rfl rfl (by decide +kernel) ⟨Nat.le_of_ble_eq_true rfl, Nat.le_of_ble_eq_true rfl⟩) (preV_of hE hA hS hPL (va_recv hE.1 hPL (ci := 3) (q0 := 0) rfl rfl)) rfl rfl hl.1 rfl (lv_room (Nat.le_of_ble_eq_true rfl)) dX4_prop_32 ⟨Nat.zero_le _, Nat.zero_le _⟩) hS (fun _ h9 => wA.sub (by decide) (by decide) _ h9) (fun H locs hQ hk hS => ?_)
      have hPT : va_P D vwCl (cellT cI g sT vT) H := wKeep hPT (wOff hg (c := 0) (n := 1) (x := 12) (y := 17) (by decide) (by decide) (by decide) (by decide) (by decide) rfl) hk
      have hPM : va_P D vwCl (cellM cI g sM) H := wKeep hPM (wOff hg (c := 1) (n := 5) (x := 12) (y := 17) (by decide) (by decide) (by decide) (by decide) (by decide) rfl) hk
      have hPB : va_P D vwCl (cellB cI g sB) H := wKeep hPB (wOff hg (c := 6) (n := 6) (x := 12) (y := 17) (by decide) (by decide) (by decide) (by decide) (by decide) rfl) hk
      have hPS : va_P D vwCl (cellS cI g sS) H := wKeep hPS (wOff hg (c := 17) (n := 2) (x := 12) (y := 17) (by decide) (by decide) (by decide) (by decide) (by decide) rfl) hk
      have hPL : va_P D vwCl (cellL cI g (m_L_putProp sL p1 p2).2) H := hQ
      refine lv_goto (tgt := 40) hx hb dX4_prop_35 (by decide) ?_
      have hM : (m_T_prop sT sL p1 p2) = (((m_L_putProp sL p1 p2).1, (m_L_putProp sL p1 p2).2) : Int32 × St) := hM
      exact hret (m_L_putProp sL p1 p2).1 H locs _ ls (nr_i _) dX4_prop_40 (ret1 hM) (rP_v1 (P := fun (z0 : St) => va_P D vwCl (cellT cI g sT vT) H ∧ va_P D vwCl (cellM cI g sM) H ∧ va_P D vwCl (cellB cI g sB) H ∧ va_P D vwCl (cellL cI g z0) H ∧ va_P D vwCl (cellS cI g sS) H) hM ⟨hPT, hPM, hPB, hPL, hPS⟩) hS
  · have hM := hM.trans (if_pos c_1)
    refine lv_iconst (v := (-1)) hx hb dX4_prop_12 (by decide) ?_
    have hM : (m_T_prop sT sL p1 p2) = (((-1), sL) : Int32 × St) := hM
    exact hret (-1) H locs _ ls (nr_i _) dX4_prop_13 (ret1 hM) (rP_v1 (P := fun (z0 : St) => va_P D vwCl (cellT cI g sT vT) H ∧ va_P D vwCl (cellM cI g sM) H ∧ va_P D vwCl (cellB cI g sB) H ∧ va_P D vwCl (cellL cI g z0) H ∧ va_P D vwCl (cellS cI g sS) H) hM ⟨hPT, hPM, hPB, hPL, hPS⟩) hS
abbrev rm_T_hit : Room := { frames := 3, cells := 0, slots := 0, locals := 69 }
set_option maxHeartbeats 4000000 in
set_option maxRecDepth 100000 in
theorem K_T_hit {l : Launch} {D : va_G} {cI : ClassId} {lo : Nat} {g : Nat → Nat} (hg : wI g 0 19 lo) (sT : St) (vT : Int64) (sM : St) (sB : St) (sL : St) (sS : St) (p1 : Int32) (p2 : Int32) (p3 : Int32) (h0 : okL sL) : WRi l D cI lo yX4_hit wsX4_hit rm_T_hit [.ref (g 0), .int p1, .int p2, .int p3] (fun H => va_P D vwCl (cellT cI g sT vT) H ∧ va_P D vwCl (cellM cI g sM) H ∧ va_P D vwCl (cellB cI g sB) H ∧ va_P D vwCl (cellL cI g sL) H ∧ va_P D vwCl (cellS cI g sS) H) (m_T_hit sT sL p1 p2 p3).1 (fun H => va_P D vwCl (cellT cI g sT vT) H ∧ va_P D vwCl (cellM cI g sM) H ∧ va_P D vwCl (cellB cI g sB) H ∧ va_P D vwCl (cellL cI g (m_T_hit sT sL p1 p2 p3).2) H ∧ va_P D vwCl (cellS cI g sS) H) (wA g 0 19) := by
  refine ofW_WRi (cc := cX4_hit) (maxL := 4) (ty := .int) (by decide +kernel) rfl (Nat.le_of_ble_eq_true rfl) ?_
  intro p e s m args below meth c Q hx hb hml hown hts hE hP hret ls hl
  have hown : s.vm.findClass RX4 = some m.cls := hown
  obtain ⟨hPT, hPM, hPB, hPL, hPS⟩ := hP
  have hA := wA.lo hg
  have hS : va_S (wA g 0 19) s.heap s.heap [] := va_S.rf
  obtain ⟨H, hH⟩ : ∃ z, z = s.heap := ⟨_, rfl⟩
  obtain ⟨locs, hlocs⟩ : ∃ z : List Loc, z = [] := ⟨_, rfl⟩
  have hPT : va_P D vwCl (cellT cI g sT vT) H := by rw [hH]; exact hPT
  have hPM : va_P D vwCl (cellM cI g sM) H := by rw [hH]; exact hPM
  have hPB : va_P D vwCl (cellB cI g sB) H := by rw [hH]; exact hPB
  have hPL : va_P D vwCl (cellL cI g sL) H := by rw [hH]; exact hPL
  have hPS : va_P D vwCl (cellS cI g sS) H := by rw [hH]; exact hPS
  have hS : va_S (wA g 0 19) s.heap H locs := by rw [hH, hlocs]; exact va_S.rf
  have gW : W p l e rm_T_hit s m args below meth c H locs 0 0 Q (F0 m 0 ls []) → W p l e rm_T_hit s m args below meth c s.heap [] 0 0 Q (F0 m 0 ls []) := by rw [hH, hlocs]; exact id
  refine gW ?_
  have hinT : ∀ w ∈ wsX40, w ∈ wsX4_hit := fun w h => List.mem_cons_of_mem _ (List.mem_append_left _ (List.mem_append_right _ h))
  have hinL : ∀ w ∈ wsX30, w ∈ wsX4_hit := fun w h => List.mem_cons_of_mem _ (List.mem_append_right _ h)
  have hl : lv_has ls 4 [(0, .ref (g 0)), (1, .int p1), (2, .int p2), (3, .int p3)] := hl
  have nh0 := okL_lin h0
  have hM : (m_T_hit sT sL p1 p2 p3) = (m_T_hit sT sL p1 p2 p3) := rfl
  refine lv_aload_n hx hb dX4_hit_0 rfl (lv_at hl 0 rfl) ?_
  refine va_get (D := D) (ci := 4) (v := .ref (g 12)) (C := RX4) (T := TX4) (N := 7) hx hb hts hinT hown hE.1 hPT 0 rfl rfl 2 (by decide) (hts (.fieldLink RX4 26 "WallStones" "stones" "LWallStones$Wall;") (List.mem_of_getElem? (i := 1) rfl)) (fun _ h9 => h9) rfl dX4_hit_1 ?_
  refine lv_iload_n hx hb dX4_hit_4 rfl (lv_at hl 1 rfl) ?_
  refine lv_iload_n hx hb dX4_hit_5 rfl (lv_at hl 2 rfl) ?_
  refine runS_i (va_runV (As := [.int p1, .int p2]) (rest := []) ⟨hx, hb, hml, hown, hts⟩ (K_L_has (hg.sub (by decide) (by decide)) sL p1 p2) (cwV 2 hts gX4_hit_X3_has rfl rfl rfl (by decide +kernel) ⟨Nat.le_of_ble_eq_true rfl, Nat.le_of_ble_eq_true rfl⟩) (preV_of hE hA hS hPL (va_recv hE.1 hPL (ci := 3) (q0 := 0) rfl rfl)) rfl rfl hl.1 rfl (lv_room (Nat.le_of_ble_eq_true rfl)) dX4_hit_6 ⟨Nat.zero_le _, Nat.zero_le _⟩) ?_
  refine lv_if_eq (tgt := 22) hx hb dX4_hit_9 (by decide) (fun c_1 => ?_) (fun c_1 => ?_)
  · have hM := hM.trans (if_pos c_1)
    refine lv_iconst (v := (-1)) hx hb dX4_hit_22 (by decide) ?_
    have hM : (m_T_hit sT sL p1 p2 p3) = (((-1), sL) : Int32 × St) := hM
    exact hret (-1) H locs _ ls (nr_i _) dX4_hit_23 (ret1 hM) (rP_v1 (P := fun (z0 : St) => va_P D vwCl (cellT cI g sT vT) H ∧ va_P D vwCl (cellM cI g sM) H ∧ va_P D vwCl (cellB cI g sB) H ∧ va_P D vwCl (cellL cI g z0) H ∧ va_P D vwCl (cellS cI g sS) H) hM ⟨hPT, hPM, hPB, hPL, hPS⟩) hS
  · have hM := hM.trans (if_neg c_1)
    have u_1 := has_t c_1
    refine lv_iload_n hx hb dX4_hit_12 rfl (lv_at hl 3 rfl) ?_
    refine lv_iconst (v := 1) hx hb dX4_hit_13 (by decide) ?_
    refine lv_bipush (v := 99) hx hb dX4_hit_14 (by decide) ?_
    refine runS_i (va_runS (As := [.int p3, .int 1, .int 99]) (rest := []) ⟨hx, hb, hml, hown, hts⟩ (K_T_within p3 1 99) (va_cwS 3 hts gX4_hit_X4_within rfl rfl rfl (by decide +kernel) ⟨Nat.le_of_ble_eq_true rfl, Nat.le_of_ble_eq_true rfl⟩) (preS_of hE hA hS trivial) rfl rfl hl.1 rfl (lv_room (Nat.le_of_ble_eq_true rfl)) dX4_hit_16 ⟨Nat.zero_le _, Nat.zero_le _⟩) ?_
    refine lv_if_ne (tgt := 24) hx hb dX4_hit_19 (by decide) (fun c_2 => ?_) (fun c_2 => ?_)
    · have hM := hM.trans (if_neg c_2)
      have u_2 := within_t c_2
      rw [tl_1, tl_99] at u_2
      refine lv_aload_n hx hb dX4_hit_24 rfl (lv_at hl 0 rfl) ?_
      refine va_get (D := D) (ci := 4) (v := .ref (g 12)) (C := RX4) (T := TX4) (N := 7) hx hb hts hinT hown hE.1 hPT 0 rfl rfl 2 (by decide) (hts (.fieldLink RX4 26 "WallStones" "stones" "LWallStones$Wall;") (List.mem_of_getElem? (i := 1) rfl)) (fun _ h9 => h9) rfl dX4_hit_25 ?_
      refine lv_iload_n hx hb dX4_hit_28 rfl (lv_at hl 1 rfl) ?_
      refine lv_iload_n hx hb dX4_hit_29 rfl (lv_at hl 2 rfl) ?_
      refine runS_i (va_runV (As := [.int p1, .int p2]) (rest := []) ⟨hx, hb, hml, hown, hts⟩ (K_L_stands (hg.sub (by decide) (by decide)) sL p1 p2 (by assumption)) (cwV 2 hts gX4_hit_X3_stands rfl rfl rfl (by decide +kernel) ⟨Nat.le_of_ble_eq_true rfl, Nat.le_of_ble_eq_true rfl⟩) (preV_of hE hA hS hPL (va_recv hE.1 hPL (ci := 3) (q0 := 0) rfl rfl)) rfl rfl hl.1 rfl (lv_room (Nat.le_of_ble_eq_true rfl)) dX4_hit_30 ⟨Nat.zero_le _, Nat.zero_le _⟩) ?_
      refine lv_if_eq (tgt := 49) hx hb dX4_hit_33 (by decide) (fun c_3 => ?_) (fun c_3 => ?_)
      · have hM := hM.trans (if_pos c_3)
        refine lv_bipush (v := (-2)) hx hb dX4_hit_49 (by decide) ?_
        have hM : (m_T_hit sT sL p1 p2 p3) = (((-2), sL) : Int32 × St) := hM
        exact hret (-2) H locs _ ls (nr_i _) dX4_hit_51 (ret1 hM) (rP_v1 (P := fun (z0 : St) => va_P D vwCl (cellT cI g sT vT) H ∧ va_P D vwCl (cellM cI g sM) H ∧ va_P D vwCl (cellB cI g sB) H ∧ va_P D vwCl (cellL cI g z0) H ∧ va_P D vwCl (cellS cI g sS) H) hM ⟨hPT, hPM, hPB, hPL, hPS⟩) hS
      · have hM := hM.trans (if_neg c_3)
        have u_3 := stands_t c_3
        refine lv_aload_n hx hb dX4_hit_36 rfl (lv_at hl 0 rfl) ?_
        refine va_get (D := D) (ci := 4) (v := .ref (g 12)) (C := RX4) (T := TX4) (N := 7) hx hb hts hinT hown hE.1 hPT 0 rfl rfl 2 (by decide) (hts (.fieldLink RX4 26 "WallStones" "stones" "LWallStones$Wall;") (List.mem_of_getElem? (i := 1) rfl)) (fun _ h9 => h9) rfl dX4_hit_37 ?_
        refine lv_iload_n hx hb dX4_hit_40 rfl (lv_at hl 1 rfl) ?_
        refine lv_iload_n hx hb dX4_hit_41 rfl (lv_at hl 2 rfl) ?_
        refine lv_iload_n hx hb dX4_hit_42 rfl (lv_at hl 3 rfl) ?_
        refine runW_i (va_runV (As := [.int p1, .int p2, .int p3]) (rest := []) ⟨hx, hb, hml, hown, hts⟩ (K_L_strike (hg.sub (by decide) (by decide)) sL p1 p2 p3 (by assumption)) (cwV 3 hts gX4_hit_X3_strike rfl rfl rfl (by decide +kernel) ⟨Nat.le_of_ble_eq_true rfl, Nat.le_of_ble_eq_true rfl⟩) (preV_of hE hA hS hPL (va_recv hE.1 hPL (ci := 3) (q0 := 0) rfl rfl)) rfl rfl hl.1 rfl (lv_room (Nat.le_of_ble_eq_true rfl)) dX4_hit_43 ⟨Nat.zero_le _, Nat.zero_le _⟩) hS (fun _ h9 => wA.sub (by decide) (by decide) _ h9) (fun H locs hQ hk hS => ?_)
        have hPT : va_P D vwCl (cellT cI g sT vT) H := wKeep hPT (wOff hg (c := 0) (n := 1) (x := 12) (y := 17) (by decide) (by decide) (by decide) (by decide) (by decide) rfl) hk
        have hPM : va_P D vwCl (cellM cI g sM) H := wKeep hPM (wOff hg (c := 1) (n := 5) (x := 12) (y := 17) (by decide) (by decide) (by decide) (by decide) (by decide) rfl) hk
        have hPB : va_P D vwCl (cellB cI g sB) H := wKeep hPB (wOff hg (c := 6) (n := 6) (x := 12) (y := 17) (by decide) (by decide) (by decide) (by decide) (by decide) rfl) hk
        have hPS : va_P D vwCl (cellS cI g sS) H := wKeep hPS (wOff hg (c := 17) (n := 2) (x := 12) (y := 17) (by decide) (by decide) (by decide) (by decide) (by decide) rfl) hk
        have hPL : va_P D vwCl (cellL cI g (m_L_strike sL p1 p2 p3).2) H := hQ
        have v4 : okL (m_L_strike sL p1 p2 p3).2 := okL_strike (by assumption)
        have w4_4 : ((m_L_strike sL p1 p2 p3).2 0 4).toInt = (sL 0 4).toInt := congrArg Int32.toInt (fr_L_strike (by omega))
        have w4_5 : ((m_L_strike sL p1 p2 p3).2 0 5).toInt = (sL 0 5).toInt := congrArg Int32.toInt (fr_L_strike (by omega))
        refine lv_goto (tgt := 51) hx hb dX4_hit_46 (by decide) ?_
        have hM : (m_T_hit sT sL p1 p2 p3) = (((m_L_strike sL p1 p2 p3).1, (m_L_strike sL p1 p2 p3).2) : Int32 × St) := hM
        exact hret (m_L_strike sL p1 p2 p3).1 H locs _ ls (nr_i _) dX4_hit_51 (ret1 hM) (rP_v1 (P := fun (z0 : St) => va_P D vwCl (cellT cI g sT vT) H ∧ va_P D vwCl (cellM cI g sM) H ∧ va_P D vwCl (cellB cI g sB) H ∧ va_P D vwCl (cellL cI g z0) H ∧ va_P D vwCl (cellS cI g sS) H) hM ⟨hPT, hPM, hPB, hPL, hPS⟩) hS
    · have hM := hM.trans (if_pos c_2)
      refine lv_iconst (v := (-1)) hx hb dX4_hit_22 (by decide) ?_
      have hM : (m_T_hit sT sL p1 p2 p3) = (((-1), sL) : Int32 × St) := hM
      exact hret (-1) H locs _ ls (nr_i _) dX4_hit_23 (ret1 hM) (rP_v1 (P := fun (z0 : St) => va_P D vwCl (cellT cI g sT vT) H ∧ va_P D vwCl (cellM cI g sM) H ∧ va_P D vwCl (cellB cI g sB) H ∧ va_P D vwCl (cellL cI g z0) H ∧ va_P D vwCl (cellS cI g sS) H) hM ⟨hPT, hPM, hPB, hPL, hPS⟩) hS
abbrev rm_T_cell : Room := { frames := 2, cells := 0, slots := 0, locals := 44 }
set_option maxHeartbeats 4000000 in
set_option maxRecDepth 100000 in
theorem K_T_cell {l : Launch} {D : va_G} {cI : ClassId} {lo : Nat} {g : Nat → Nat} (hg : wI g 0 19 lo) (sT : St) (vT : Int64) (sM : St) (sB : St) (sL : St) (sS : St) (p1 : Int32) (p2 : Int32) (p3 : Int32) (h0 : okL sL) : ROi l D cI lo yX4_cell wsX4_cell rm_T_cell [.ref (g 0), .int p1, .int p2, .int p3] (fun H => va_P D vwCl (cellT cI g sT vT) H ∧ va_P D vwCl (cellM cI g sM) H ∧ va_P D vwCl (cellB cI g sB) H ∧ va_P D vwCl (cellL cI g sL) H ∧ va_P D vwCl (cellS cI g sS) H) (m_T_cell sT sL p1 p2 p3) := by
  refine ofW_ROi (cc := cX4_cell) (maxL := 4) (ty := .int) (by decide +kernel) rfl (Nat.le_of_ble_eq_true rfl) ?_
  intro p e s m args below meth c Q hx hb hml hown hts hE hP hret ls hl
  have hown : s.vm.findClass RX4 = some m.cls := hown
  obtain ⟨hPT, hPM, hPB, hPL, hPS⟩ := hP
  have hA : ∀ q : Nat, (fun _ : Nat => False) q → lo ≤ q := fun _ h => h.elim
  have hS : va_S (fun _ : Nat => False) s.heap s.heap [] := va_S.rf
  have hinT : ∀ w ∈ wsX40, w ∈ wsX4_cell := fun w h => List.mem_cons_of_mem _ (List.mem_append_left _ (List.mem_append_right _ h))
  have hinL : ∀ w ∈ wsX30, w ∈ wsX4_cell := fun w h => List.mem_cons_of_mem _ (List.mem_append_right _ h)
  have hl : lv_has ls 4 [(0, .ref (g 0)), (1, .int p1), (2, .int p2), (3, .int p3)] := hl
  have nh0 := okL_lin h0
  have hM : (m_T_cell sT sL p1 p2 p3) = (m_T_cell sT sL p1 p2 p3) := rfl
  refine lv_aload_n hx hb dX4_cell_0 rfl (lv_at hl 0 rfl) ?_
  refine va_get (D := D) (ci := 4) (v := .ref (g 12)) (C := RX4) (T := TX4) (N := 7) hx hb hts hinT hown hE.1 hPT 0 rfl rfl 2 (by decide) (hts (.fieldLink RX4 26 "WallStones" "stones" "LWallStones$Wall;") (List.mem_of_getElem? (i := 1) rfl)) (fun _ h9 => h9) rfl dX4_cell_1 ?_
  refine lv_iload_n hx hb dX4_cell_4 rfl (lv_at hl 1 rfl) ?_
  refine lv_iload_n hx hb dX4_cell_5 rfl (lv_at hl 2 rfl) ?_
  refine runS_i (va_runV (As := [.int p1, .int p2]) (rest := []) ⟨hx, hb, hml, hown, hts⟩ (K_L_has (hg.sub (by decide) (by decide)) sL p1 p2) (cwV 2 hts gX4_cell_X3_has rfl rfl rfl (by decide +kernel) ⟨Nat.le_of_ble_eq_true rfl, Nat.le_of_ble_eq_true rfl⟩) (preV_of hE hA hS hPL (va_recv hE.1 hPL (ci := 3) (q0 := 0) rfl rfl)) rfl rfl hl.1 rfl (lv_room (Nat.le_of_ble_eq_true rfl)) dX4_cell_6 ⟨Nat.zero_le _, Nat.zero_le _⟩) ?_
  refine lv_if_ne (tgt := 14) hx hb dX4_cell_9 (by decide) (fun c_1 => ?_) (fun c_1 => ?_)
  · have hM := hM.trans (if_neg c_1)
    have u_1 := has_t c_1
    refine lv_iload_n hx hb dX4_cell_14 rfl (lv_at hl 3 rfl) ?_
    by_cases c_2 : p3 = 0
    · have hM := hM.trans (if_pos c_2)
      refine lv_tableIn (tgt := 40) hx hb dX4_cell_15 (by rw [c_2]; decide) (by rw [c_2]; decide) (by rw [c_2]; rfl) (by decide) ?_
      have t_2 := eq_t c_2
      rw [tl_0] at t_2
      refine lv_aload_n hx hb dX4_cell_40 rfl (lv_at hl 0 rfl) ?_
      refine va_get (D := D) (ci := 4) (v := .ref (g 12)) (C := RX4) (T := TX4) (N := 7) hx hb hts hinT hown hE.1 hPT 0 rfl rfl 2 (by decide) (hts (.fieldLink RX4 26 "WallStones" "stones" "LWallStones$Wall;") (List.mem_of_getElem? (i := 1) rfl)) (fun _ h9 => h9) rfl dX4_cell_41 ?_
      refine lv_iload_n hx hb dX4_cell_44 rfl (lv_at hl 1 rfl) ?_
      refine lv_iload_n hx hb dX4_cell_45 rfl (lv_at hl 2 rfl) ?_
      refine runS_i (va_runV (As := [.int p1, .int p2]) (rest := []) ⟨hx, hb, hml, hown, hts⟩ (K_L_stands (hg.sub (by decide) (by decide)) sL p1 p2 (by assumption)) (cwV 2 hts gX4_cell_X3_stands rfl rfl rfl (by decide +kernel) ⟨Nat.le_of_ble_eq_true rfl, Nat.le_of_ble_eq_true rfl⟩) (preV_of hE hA hS hPL (va_recv hE.1 hPL (ci := 3) (q0 := 0) rfl rfl)) rfl rfl hl.1 rfl (lv_room (Nat.le_of_ble_eq_true rfl)) dX4_cell_46 ⟨Nat.zero_le _, Nat.zero_le _⟩) ?_
      refine lv_if_eq (tgt := 56) hx hb dX4_cell_49 (by decide) (fun c_3 => ?_) (fun c_3 => ?_)
      · have hM := hM.trans (if_pos c_3)
        refine lv_iconst (v := 0) hx hb dX4_cell_56 (by decide) ?_
        have hM : (m_T_cell sT sL p1 p2 p3) = (0 : Int32) := hM
        exact hret _ _ ls (nr_i _) dX4_cell_57 hM.symm
      · have hM := hM.trans (if_neg c_3)
        have u_3 := stands_t c_3
        refine lv_iconst (v := 1) hx hb dX4_cell_52 (by decide) ?_
        refine lv_goto (tgt := 57) hx hb dX4_cell_53 (by decide) ?_
        have hM : (m_T_cell sT sL p1 p2 p3) = (1 : Int32) := hM
        exact hret _ _ ls (nr_i _) dX4_cell_57 hM.symm
    · have hM := hM.trans (if_neg c_2)
      have t_2 := ne_t c_2
      rw [tl_0] at t_2
      by_cases c_4 : p3 = 1
      · have hM := hM.trans (if_pos c_4)
        refine lv_tableIn (tgt := 58) hx hb dX4_cell_15 (by rw [c_4]; decide) (by rw [c_4]; decide) (by rw [c_4]; rfl) (by decide) ?_
        have t_4 := eq_t c_4
        rw [tl_1] at t_4
        refine lv_aload_n hx hb dX4_cell_58 rfl (lv_at hl 0 rfl) ?_
        refine va_get (D := D) (ci := 4) (v := .ref (g 12)) (C := RX4) (T := TX4) (N := 7) hx hb hts hinT hown hE.1 hPT 0 rfl rfl 2 (by decide) (hts (.fieldLink RX4 26 "WallStones" "stones" "LWallStones$Wall;") (List.mem_of_getElem? (i := 1) rfl)) (fun _ h9 => h9) rfl dX4_cell_59 ?_
        refine lv_iload_n hx hb dX4_cell_62 rfl (lv_at hl 1 rfl) ?_
        refine lv_iload_n hx hb dX4_cell_63 rfl (lv_at hl 2 rfl) ?_
        refine runS_i (va_runV (As := [.int p1, .int p2]) (rest := []) ⟨hx, hb, hml, hown, hts⟩ (K_L_strengthAt (hg.sub (by decide) (by decide)) sL p1 p2 (by assumption)) (cwV 2 hts gX4_cell_X3_strengthAt rfl rfl rfl (by decide +kernel) ⟨Nat.le_of_ble_eq_true rfl, Nat.le_of_ble_eq_true rfl⟩) (preV_of hE hA hS hPL (va_recv hE.1 hPL (ci := 3) (q0 := 0) rfl rfl)) rfl rfl hl.1 rfl (lv_room (Nat.le_of_ble_eq_true rfl)) dX4_cell_64 ⟨Nat.zero_le _, Nat.zero_le _⟩) ?_
        have hM : (m_T_cell sT sL p1 p2 p3) = ((m_L_strengthAt sL p1 p2) : Int32) := hM
        exact hret _ _ ls (nr_i _) dX4_cell_67 hM.symm
      · have hM := hM.trans (if_neg c_4)
        have t_4 := ne_t c_4
        rw [tl_1] at t_4
        by_cases c_5 : p3 = 2
        · have hM := hM.trans (if_pos c_5)
          refine lv_tableIn (tgt := 68) hx hb dX4_cell_15 (by rw [c_5]; decide) (by rw [c_5]; decide) (by rw [c_5]; rfl) (by decide) ?_
          have t_5 := eq_t c_5
          rw [tl_2] at t_5
          refine lv_aload_n hx hb dX4_cell_68 rfl (lv_at hl 0 rfl) ?_
          refine va_get (D := D) (ci := 4) (v := .ref (g 12)) (C := RX4) (T := TX4) (N := 7) hx hb hts hinT hown hE.1 hPT 0 rfl rfl 2 (by decide) (hts (.fieldLink RX4 26 "WallStones" "stones" "LWallStones$Wall;") (List.mem_of_getElem? (i := 1) rfl)) (fun _ h9 => h9) rfl dX4_cell_69 ?_
          refine lv_iload_n hx hb dX4_cell_72 rfl (lv_at hl 1 rfl) ?_
          refine lv_iload_n hx hb dX4_cell_73 rfl (lv_at hl 2 rfl) ?_
          refine runS_i (va_runV (As := [.int p1, .int p2]) (rest := []) ⟨hx, hb, hml, hown, hts⟩ (K_L_isPropped (hg.sub (by decide) (by decide)) sL p1 p2 (by assumption)) (cwV 2 hts gX4_cell_X3_isPropped rfl rfl rfl (by decide +kernel) ⟨Nat.le_of_ble_eq_true rfl, Nat.le_of_ble_eq_true rfl⟩) (preV_of hE hA hS hPL (va_recv hE.1 hPL (ci := 3) (q0 := 0) rfl rfl)) rfl rfl hl.1 rfl (lv_room (Nat.le_of_ble_eq_true rfl)) dX4_cell_74 ⟨Nat.zero_le _, Nat.zero_le _⟩) ?_
          refine lv_if_eq (tgt := 84) hx hb dX4_cell_77 (by decide) (fun c_6 => ?_) (fun c_6 => ?_)
          · have hM := hM.trans (if_pos c_6)
            refine lv_iconst (v := 0) hx hb dX4_cell_84 (by decide) ?_
            have hM : (m_T_cell sT sL p1 p2 p3) = (0 : Int32) := hM
            exact hret _ _ ls (nr_i _) dX4_cell_85 hM.symm
          · have hM := hM.trans (if_neg c_6)
            refine lv_iconst (v := 1) hx hb dX4_cell_80 (by decide) ?_
            refine lv_goto (tgt := 85) hx hb dX4_cell_81 (by decide) ?_
            have hM : (m_T_cell sT sL p1 p2 p3) = (1 : Int32) := hM
            exact hret _ _ ls (nr_i _) dX4_cell_85 hM.symm
        · have hM := hM.trans (if_neg c_5)
          have t_5 := ne_t c_5
          rw [tl_2] at t_5
          refine lv_tableOut (tgt := 86) hx hb dX4_cell_15 (by omega) (by decide) ?_
          refine lv_iconst (v := (-1)) hx hb dX4_cell_86 (by decide) ?_
          have hM : (m_T_cell sT sL p1 p2 p3) = ((-1) : Int32) := hM
          exact hret _ _ ls (nr_i _) dX4_cell_87 hM.symm
  · have hM := hM.trans (if_pos c_1)
    refine lv_iconst (v := (-1)) hx hb dX4_cell_12 (by decide) ?_
    have hM : (m_T_cell sT sL p1 p2 p3) = ((-1) : Int32) := hM
    exact hret _ _ ls (nr_i _) dX4_cell_13 hM.symm
abbrev rm_T_level : Room := { frames := 1, cells := 0, slots := 0, locals := 22 }
set_option maxHeartbeats 4000000 in
set_option maxRecDepth 100000 in
theorem K_T_level {l : Launch} {D : va_G} {cI : ClassId} {lo : Nat} {g : Nat → Nat} (hg : wI g 0 19 lo) (sT : St) (vT : Int64) (sM : St) (sB : St) (sL : St) (sS : St) (p1 : Int32) : WRi l D cI lo yX4_level wsX4_level rm_T_level [.ref (g 0), .int p1] (fun H => va_P D vwCl (cellT cI g sT vT) H ∧ va_P D vwCl (cellM cI g sM) H ∧ va_P D vwCl (cellB cI g sB) H ∧ va_P D vwCl (cellL cI g sL) H ∧ va_P D vwCl (cellS cI g sS) H) (m_T_level sT sL p1).1 (fun H => va_P D vwCl (cellT cI g sT vT) H ∧ va_P D vwCl (cellM cI g sM) H ∧ va_P D vwCl (cellB cI g sB) H ∧ va_P D vwCl (cellL cI g (m_T_level sT sL p1).2) H ∧ va_P D vwCl (cellS cI g sS) H) (wA g 0 19) := by
  refine ofW_WRi (cc := cX4_level) (maxL := 2) (ty := .int) (by decide +kernel) rfl (Nat.le_of_ble_eq_true rfl) ?_
  intro p e s m args below meth c Q hx hb hml hown hts hE hP hret ls hl
  have hown : s.vm.findClass RX4 = some m.cls := hown
  obtain ⟨hPT, hPM, hPB, hPL, hPS⟩ := hP
  have hA := wA.lo hg
  have hS : va_S (wA g 0 19) s.heap s.heap [] := va_S.rf
  obtain ⟨H, hH⟩ : ∃ z, z = s.heap := ⟨_, rfl⟩
  obtain ⟨locs, hlocs⟩ : ∃ z : List Loc, z = [] := ⟨_, rfl⟩
  have hPT : va_P D vwCl (cellT cI g sT vT) H := by rw [hH]; exact hPT
  have hPM : va_P D vwCl (cellM cI g sM) H := by rw [hH]; exact hPM
  have hPB : va_P D vwCl (cellB cI g sB) H := by rw [hH]; exact hPB
  have hPL : va_P D vwCl (cellL cI g sL) H := by rw [hH]; exact hPL
  have hPS : va_P D vwCl (cellS cI g sS) H := by rw [hH]; exact hPS
  have hS : va_S (wA g 0 19) s.heap H locs := by rw [hH, hlocs]; exact va_S.rf
  have gW : W p l e rm_T_level s m args below meth c H locs 0 0 Q (F0 m 0 ls []) → W p l e rm_T_level s m args below meth c s.heap [] 0 0 Q (F0 m 0 ls []) := by rw [hH, hlocs]; exact id
  refine gW ?_
  have hinT : ∀ w ∈ wsX40, w ∈ wsX4_level := fun w h => List.mem_cons_of_mem _ (List.mem_append_left _ (List.mem_append_right _ h))
  have hinL : ∀ w ∈ wsX30, w ∈ wsX4_level := fun w h => List.mem_cons_of_mem _ (List.mem_append_right _ h)
  have hl : lv_has ls 2 [(0, .ref (g 0)), (1, .int p1)] := hl
  have hM : (m_T_level sT sL p1) = (m_T_level sT sL p1) := rfl
  refine lv_iload_n hx hb dX4_level_0 rfl (lv_at hl 1 rfl) ?_
  refine lv_iconst (v := 0) hx hb dX4_level_1 (by decide) ?_
  refine lv_iconst (v := 2) hx hb dX4_level_2 (by decide) ?_
  refine runS_i (va_runS (As := [.int p1, .int 0, .int 2]) (rest := []) ⟨hx, hb, hml, hown, hts⟩ (K_T_within p1 0 2) (va_cwS 3 hts gX4_level_X4_within rfl rfl rfl (by decide +kernel) ⟨Nat.le_of_ble_eq_true rfl, Nat.le_of_ble_eq_true rfl⟩) (preS_of hE hA hS trivial) rfl rfl hl.1 rfl (lv_room (Nat.le_of_ble_eq_true rfl)) dX4_level_3 ⟨Nat.zero_le _, Nat.zero_le _⟩) ?_
  refine lv_if_eq (tgt := 20) hx hb dX4_level_6 (by decide) (fun c_1 => ?_) (fun c_1 => ?_)
  · have hM := hM.trans (if_pos c_1)
    refine lv_iconst (v := (-1)) hx hb dX4_level_20 (by decide) ?_
    have hM : (m_T_level sT sL p1) = (((-1), sL) : Int32 × St) := hM
    exact hret (-1) H locs _ ls (nr_i _) dX4_level_21 (ret1 hM) (rP_v1 (P := fun (z0 : St) => va_P D vwCl (cellT cI g sT vT) H ∧ va_P D vwCl (cellM cI g sM) H ∧ va_P D vwCl (cellB cI g sB) H ∧ va_P D vwCl (cellL cI g z0) H ∧ va_P D vwCl (cellS cI g sS) H) hM ⟨hPT, hPM, hPB, hPL, hPS⟩) hS
  · have hM := hM.trans (if_neg c_1)
    have u_1 := within_t c_1
    rw [tl_0, tl_2] at u_1
    refine lv_aload_n hx hb dX4_level_9 rfl (lv_at hl 0 rfl) ?_
    refine va_get (D := D) (ci := 4) (v := .ref (g 12)) (C := RX4) (T := TX4) (N := 7) hx hb hts hinT hown hE.1 hPT 0 rfl rfl 2 (by decide) (hts (.fieldLink RX4 26 "WallStones" "stones" "LWallStones$Wall;") (List.mem_of_getElem? (i := 1) rfl)) (fun _ h9 => h9) rfl dX4_level_10 ?_
    refine lv_iload_n hx hb dX4_level_13 rfl (lv_at hl 1 rfl) ?_
    refine runW_i (va_runV (As := [.int p1]) (rest := []) ⟨hx, hb, hml, hown, hts⟩ (K_L_putLevel (hg.sub (by decide) (by decide)) sL p1) (cwV 1 hts gX4_level_X3_putLevel rfl rfl rfl (by decide +kernel) ⟨Nat.le_of_ble_eq_true rfl, Nat.le_of_ble_eq_true rfl⟩) (preV_of hE hA hS hPL (va_recv hE.1 hPL (ci := 3) (q0 := 0) rfl rfl)) rfl rfl hl.1 rfl (lv_room (Nat.le_of_ble_eq_true rfl)) dX4_level_14 ⟨Nat.zero_le _, Nat.zero_le _⟩) hS (fun _ h9 => wA.sub (by decide) (by decide) _ h9) (fun H locs hQ hk hS => ?_)
    have hPT : va_P D vwCl (cellT cI g sT vT) H := wKeep hPT (wOff hg (c := 0) (n := 1) (x := 12) (y := 17) (by decide) (by decide) (by decide) (by decide) (by decide) rfl) hk
    have hPM : va_P D vwCl (cellM cI g sM) H := wKeep hPM (wOff hg (c := 1) (n := 5) (x := 12) (y := 17) (by decide) (by decide) (by decide) (by decide) (by decide) rfl) hk
    have hPB : va_P D vwCl (cellB cI g sB) H := wKeep hPB (wOff hg (c := 6) (n := 6) (x := 12) (y := 17) (by decide) (by decide) (by decide) (by decide) (by decide) rfl) hk
    have hPS : va_P D vwCl (cellS cI g sS) H := wKeep hPS (wOff hg (c := 17) (n := 2) (x := 12) (y := 17) (by decide) (by decide) (by decide) (by decide) (by decide) rfl) hk
    have hPL : va_P D vwCl (cellL cI g (m_L_putLevel sL p1).2) H := hQ
    refine lv_goto (tgt := 21) hx hb dX4_level_17 (by decide) ?_
    have hM : (m_T_level sT sL p1) = (((m_L_putLevel sL p1).1, (m_L_putLevel sL p1).2) : Int32 × St) := hM
    exact hret (m_L_putLevel sL p1).1 H locs _ ls (nr_i _) dX4_level_21 (ret1 hM) (rP_v1 (P := fun (z0 : St) => va_P D vwCl (cellT cI g sT vT) H ∧ va_P D vwCl (cellM cI g sM) H ∧ va_P D vwCl (cellB cI g sB) H ∧ va_P D vwCl (cellL cI g z0) H ∧ va_P D vwCl (cellS cI g sS) H) hM ⟨hPT, hPM, hPB, hPL, hPS⟩) hS
abbrev rm_T_open : Room := { frames := 3, cells := 0, slots := 0, locals := 62 }
set_option maxHeartbeats 4000000 in
set_option maxRecDepth 100000 in
theorem K_T_open {l : Launch} {D : va_G} {cI : ClassId} {lo : Nat} {g : Nat → Nat} (hg : wI g 0 19 lo) (sT : St) (vT : Int64) (sM : St) (sB : St) (sL : St) (sS : St) (h0 : okL sL) : ROi l D cI lo yX4_open wsX4_open rm_T_open [.ref (g 0)] (fun H => va_P D vwCl (cellT cI g sT vT) H ∧ va_P D vwCl (cellM cI g sM) H ∧ va_P D vwCl (cellB cI g sB) H ∧ va_P D vwCl (cellL cI g sL) H ∧ va_P D vwCl (cellS cI g sS) H) (m_T_open sT sL) := by
  refine ofW_ROi (cc := cX4_open) (maxL := 1) (ty := .int) (by decide +kernel) rfl (Nat.le_of_ble_eq_true rfl) ?_
  intro p e s m args below meth c Q hx hb hml hown hts hE hP hret ls hl
  have hown : s.vm.findClass RX4 = some m.cls := hown
  obtain ⟨hPT, hPM, hPB, hPL, hPS⟩ := hP
  have hA : ∀ q : Nat, (fun _ : Nat => False) q → lo ≤ q := fun _ h => h.elim
  have hS : va_S (fun _ : Nat => False) s.heap s.heap [] := va_S.rf
  have hinT : ∀ w ∈ wsX40, w ∈ wsX4_open := fun w h => List.mem_cons_of_mem _ (List.mem_append_left _ (List.mem_append_right _ h))
  have hinL : ∀ w ∈ wsX30, w ∈ wsX4_open := fun w h => List.mem_cons_of_mem _ (List.mem_append_right _ h)
  have hl : lv_has ls 1 [(0, .ref (g 0))] := hl
  have nh0 := okL_lin h0
  have hM : (m_T_open sT sL) = (m_T_open sT sL) := rfl
  refine lv_aload_n hx hb dX4_open_0 rfl (lv_at hl 0 rfl) ?_
  refine va_get (D := D) (ci := 4) (v := .ref (g 12)) (C := RX4) (T := TX4) (N := 7) hx hb hts hinT hown hE.1 hPT 0 rfl rfl 2 (by decide) (hts (.fieldLink RX4 26 "WallStones" "stones" "LWallStones$Wall;") (List.mem_of_getElem? (i := 1) rfl)) (fun _ h9 => h9) rfl dX4_open_1 ?_
  refine runS_i (va_runV (As := []) (rest := []) ⟨hx, hb, hml, hown, hts⟩ (K_L_firstOpen (hg.sub (by decide) (by decide)) sL (by assumption)) (cwV 0 hts gX4_open_X3_firstOpen rfl rfl rfl (by decide +kernel) ⟨Nat.le_of_ble_eq_true rfl, Nat.le_of_ble_eq_true rfl⟩) (preV_of hE hA hS hPL (va_recv hE.1 hPL (ci := 3) (q0 := 0) rfl rfl)) rfl rfl hl.1 rfl (lv_room (Nat.le_of_ble_eq_true rfl)) dX4_open_4 ⟨Nat.zero_le _, Nat.zero_le _⟩) ?_
  have hM : (m_T_open sT sL) = ((m_L_firstOpen sL) : Int32) := hM
  exact hret _ _ ls (nr_i _) dX4_open_7 hM.symm
abbrev rm_T_soonest : Room := { frames := 5, cells := 0, slots := 0, locals := 123 }
set_option maxHeartbeats 4000000 in
set_option maxRecDepth 100000 in
theorem K_T_soonest {l : Launch} {D : va_G} {cI : ClassId} {lo : Nat} {g : Nat → Nat} (hg : wI g 0 19 lo) (sT : St) (vT : Int64) (sM : St) (sB : St) (sL : St) (sS : St) (p1 : Int32) (p2 : Int32) (h0 : okL sL) : ROi l D cI lo yX4_soonest wsX4_soonest rm_T_soonest [.ref (g 0), .int p1, .int p2] (fun H => va_P D vwCl (cellT cI g sT vT) H ∧ va_P D vwCl (cellM cI g sM) H ∧ va_P D vwCl (cellB cI g sB) H ∧ va_P D vwCl (cellL cI g sL) H ∧ va_P D vwCl (cellS cI g sS) H) (m_T_soonest sT sL p1 p2) := by
  refine ofW_ROi (cc := cX4_soonest) (maxL := 4) (ty := .int) (by decide +kernel) rfl (Nat.le_of_ble_eq_true rfl) ?_
  intro p e s m args below meth c Q hx hb hml hown hts hE hP hret ls hl
  have hown : s.vm.findClass RX4 = some m.cls := hown
  obtain ⟨hPT, hPM, hPB, hPL, hPS⟩ := hP
  have hA : ∀ q : Nat, (fun _ : Nat => False) q → lo ≤ q := fun _ h => h.elim
  have hS : va_S (fun _ : Nat => False) s.heap s.heap [] := va_S.rf
  have hinT : ∀ w ∈ wsX40, w ∈ wsX4_soonest := fun w h => List.mem_cons_of_mem _ (List.mem_append_left _ (List.mem_append_right _ h))
  have hinL : ∀ w ∈ wsX30, w ∈ wsX4_soonest := fun w h => List.mem_cons_of_mem _ (List.mem_append_right _ h)
  have hl : lv_has ls 4 [(0, .ref (g 0)), (1, .int p1), (2, .int p2)] := hl
  have nh0 := okL_lin h0
  have hM : (m_T_soonest sT sL p1 p2) = (m_T_soonest sT sL p1 p2) := rfl
  refine lv_iload_n hx hb dX4_soonest_0 rfl (lv_at hl 1 rfl) ?_
  refine lv_iconst (v := 1) hx hb dX4_soonest_1 (by decide) ?_
  refine lv_bipush (v := 99) hx hb dX4_soonest_2 (by decide) ?_
  refine runS_i (va_runS (As := [.int p1, .int 1, .int 99]) (rest := []) ⟨hx, hb, hml, hown, hts⟩ (K_T_within p1 1 99) (va_cwS 3 hts gX4_soonest_X4_within rfl rfl rfl (by decide +kernel) ⟨Nat.le_of_ble_eq_true rfl, Nat.le_of_ble_eq_true rfl⟩) (preS_of hE hA hS trivial) rfl rfl hl.1 rfl (lv_room (Nat.le_of_ble_eq_true rfl)) dX4_soonest_4 ⟨Nat.zero_le _, Nat.zero_le _⟩) ?_
  refine lv_if_eq (tgt := 19) hx hb dX4_soonest_7 (by decide) (fun c_1 => ?_) (fun c_1 => ?_)
  · have hM := hM.trans (if_pos c_1)
    refine lv_iconst (v := (-1)) hx hb dX4_soonest_19 (by decide) ?_
    have hM : (m_T_soonest sT sL p1 p2) = ((-1) : Int32) := hM
    exact hret _ _ ls (nr_i _) dX4_soonest_20 hM.symm
  · have hM := hM.trans (if_neg c_1)
    have u_1 := within_t c_1
    rw [tl_1, tl_99] at u_1
    refine lv_iload_n hx hb dX4_soonest_10 rfl (lv_at hl 2 rfl) ?_
    refine lv_iconst (v := 0) hx hb dX4_soonest_11 (by decide) ?_
    refine lv_iconst (v := 1) hx hb dX4_soonest_12 (by decide) ?_
    refine runS_i (va_runS (As := [.int p2, .int 0, .int 1]) (rest := []) ⟨hx, hb, hml, hown, hts⟩ (K_T_within p2 0 1) (va_cwS 3 hts gX4_soonest_X4_within rfl rfl rfl (by decide +kernel) ⟨Nat.le_of_ble_eq_true rfl, Nat.le_of_ble_eq_true rfl⟩) (preS_of hE hA hS trivial) rfl rfl hl.1 rfl (lv_room (Nat.le_of_ble_eq_true rfl)) dX4_soonest_13 ⟨Nat.zero_le _, Nat.zero_le _⟩) ?_
    refine lv_if_ne (tgt := 21) hx hb dX4_soonest_16 (by decide) (fun c_2 => ?_) (fun c_2 => ?_)
    · have hM := hM.trans (if_neg c_2)
      have u_2 := within_t c_2
      rw [tl_0, tl_1] at u_2
      refine lv_aload_n hx hb dX4_soonest_21 rfl (lv_at hl 0 rfl) ?_
      refine va_get (D := D) (ci := 4) (v := .ref (g 12)) (C := RX4) (T := TX4) (N := 7) hx hb hts hinT hown hE.1 hPT 0 rfl rfl 2 (by decide) (hts (.fieldLink RX4 26 "WallStones" "stones" "LWallStones$Wall;") (List.mem_of_getElem? (i := 1) rfl)) (fun _ h9 => h9) rfl dX4_soonest_22 ?_
      refine lv_iload_n hx hb dX4_soonest_25 rfl (lv_at hl 1 rfl) ?_
      refine runS_i (va_runV (As := [.int p1]) (rest := []) ⟨hx, hb, hml, hown, hts⟩ (K_L_soonestColumn (hg.sub (by decide) (by decide)) sL p1 (by assumption)) (cwV 1 hts gX4_soonest_X3_soonestColumn rfl rfl rfl (by decide +kernel) ⟨Nat.le_of_ble_eq_true rfl, Nat.le_of_ble_eq_true rfl⟩) (preV_of hE hA hS hPL (va_recv hE.1 hPL (ci := 3) (q0 := 0) rfl rfl)) rfl rfl hl.1 rfl (lv_room (Nat.le_of_ble_eq_true rfl)) dX4_soonest_26 ⟨Nat.zero_le _, Nat.zero_le _⟩) ?_
      refine lv_istore_n (lv' := [(3, .int (m_L_soonestColumn sL p1)), (0, .ref (g 0)), (1, .int p1), (2, .int p2)]) hx hb dX4_soonest_29 rfl hl (by decide) rfl (fun ls hl => ?_)
      refine lv_iload_n hx hb dX4_soonest_30 rfl (lv_at hl 3 rfl) ?_
      refine lv_if_ne (tgt := 38) hx hb dX4_soonest_31 (by decide) (fun c_3 => ?_) (fun c_3 => ?_)
      · have hM := hM.trans (if_neg c_3)
        refine lv_aload_n hx hb dX4_soonest_38 rfl (lv_at hl 1 rfl) ?_
        refine va_get (D := D) (ci := 4) (v := .ref (g 12)) (C := RX4) (T := TX4) (N := 7) hx hb hts hinT hown hE.1 hPT 0 rfl rfl 2 (by decide) (hts (.fieldLink RX4 26 "WallStones" "stones" "LWallStones$Wall;") (List.mem_of_getElem? (i := 1) rfl)) (fun _ h9 => h9) rfl dX4_soonest_39 ?_
        refine lv_iload_n hx hb dX4_soonest_42 rfl (lv_at hl 0 rfl) ?_
        refine lv_iload_n hx hb dX4_soonest_43 rfl (lv_at hl 2 rfl) ?_
        refine runS_i (va_runV (As := [.int (m_L_soonestColumn sL p1), .int p1]) (rest := []) ⟨hx, hb, hml, hown, hts⟩ (K_L_hitsToOpen (hg.sub (by decide) (by decide)) sL (m_L_soonestColumn sL p1) p1 (by assumption)) (cwV 2 hts gX4_soonest_X3_hitsToOpen rfl rfl rfl (by decide +kernel) ⟨Nat.le_of_ble_eq_true rfl, Nat.le_of_ble_eq_true rfl⟩) (preV_of hE hA hS hPL (va_recv hE.1 hPL (ci := 3) (q0 := 0) rfl rfl)) rfl rfl hl.1 rfl (lv_room (Nat.le_of_ble_eq_true rfl)) dX4_soonest_44 ⟨Nat.zero_le _, Nat.zero_le _⟩) ?_
        have hM : (m_T_soonest sT sL p1 p2) = ((m_L_hitsToOpen sL (m_L_soonestColumn sL p1) p1) : Int32) := hM
        exact hret _ _ ls (nr_i _) dX4_soonest_47 hM.symm
      · have hM := hM.trans (if_pos c_3)
        refine lv_iload_n hx hb dX4_soonest_34 rfl (lv_at hl 0 rfl) ?_
        refine lv_goto (tgt := 47) hx hb dX4_soonest_35 (by decide) ?_
        have hM : (m_T_soonest sT sL p1 p2) = ((m_L_soonestColumn sL p1) : Int32) := hM
        exact hret _ _ ls (nr_i _) dX4_soonest_47 hM.symm
    · have hM := hM.trans (if_pos c_2)
      refine lv_iconst (v := (-1)) hx hb dX4_soonest_19 (by decide) ?_
      have hM : (m_T_soonest sT sL p1 p2) = ((-1) : Int32) := hM
      exact hret _ _ ls (nr_i _) dX4_soonest_20 hM.symm
abbrev rm_T_scatter : Room := { frames := 2, cells := 0, slots := 0, locals := 47 }
set_option maxHeartbeats 4000000 in
set_option maxRecDepth 100000 in
theorem K_T_scatter {l : Launch} {D : va_G} {cI : ClassId} {lo : Nat} {g : Nat → Nat} (hg : wI g 0 19 lo) (sT : St) (vT : Int64) (sM : St) (sB : St) (sL : St) (sS : St) (p1 : Int32) (p2 : Int32) (p3 : Int32) (h0 : okL sL) : WRi l D cI lo yX4_scatter wsX4_scatter rm_T_scatter [.ref (g 0), .int p1, .int p2, .int p3] (fun H => va_P D vwCl (cellT cI g sT vT) H ∧ va_P D vwCl (cellM cI g sM) H ∧ va_P D vwCl (cellB cI g sB) H ∧ va_P D vwCl (cellL cI g sL) H ∧ va_P D vwCl (cellS cI g sS) H) (m_T_scatter sT sL p1 p2 p3).1 (fun H => va_P D vwCl (cellT cI g sT vT) H ∧ va_P D vwCl (cellM cI g sM) H ∧ va_P D vwCl (cellB cI g sB) H ∧ va_P D vwCl (cellL cI g (m_T_scatter sT sL p1 p2 p3).2) H ∧ va_P D vwCl (cellS cI g sS) H) (wA g 0 19) := by
  refine ofW_WRi (cc := cX4_scatter) (maxL := 4) (ty := .int) (by decide +kernel) rfl (Nat.le_of_ble_eq_true rfl) ?_
  intro p e s m args below meth c Q hx hb hml hown hts hE hP hret ls hl
  have hown : s.vm.findClass RX4 = some m.cls := hown
  obtain ⟨hPT, hPM, hPB, hPL, hPS⟩ := hP
  have hA := wA.lo hg
  have hS : va_S (wA g 0 19) s.heap s.heap [] := va_S.rf
  obtain ⟨H, hH⟩ : ∃ z, z = s.heap := ⟨_, rfl⟩
  obtain ⟨locs, hlocs⟩ : ∃ z : List Loc, z = [] := ⟨_, rfl⟩
  have hPT : va_P D vwCl (cellT cI g sT vT) H := by rw [hH]; exact hPT
  have hPM : va_P D vwCl (cellM cI g sM) H := by rw [hH]; exact hPM
  have hPB : va_P D vwCl (cellB cI g sB) H := by rw [hH]; exact hPB
  have hPL : va_P D vwCl (cellL cI g sL) H := by rw [hH]; exact hPL
  have hPS : va_P D vwCl (cellS cI g sS) H := by rw [hH]; exact hPS
  have hS : va_S (wA g 0 19) s.heap H locs := by rw [hH, hlocs]; exact va_S.rf
  have gW : W p l e rm_T_scatter s m args below meth c H locs 0 0 Q (F0 m 0 ls []) → W p l e rm_T_scatter s m args below meth c s.heap [] 0 0 Q (F0 m 0 ls []) := by rw [hH, hlocs]; exact id
  refine gW ?_
  have hinT : ∀ w ∈ wsX40, w ∈ wsX4_scatter := fun w h => List.mem_cons_of_mem _ (List.mem_append_left _ (List.mem_append_right _ h))
  have hinL : ∀ w ∈ wsX30, w ∈ wsX4_scatter := fun w h => List.mem_cons_of_mem _ (List.mem_append_right _ h)
  have hl : lv_has ls 4 [(0, .ref (g 0)), (1, .int p1), (2, .int p2), (3, .int p3)] := hl
  have nh0 := okL_lin h0
  have hM : (m_T_scatter sT sL p1 p2 p3) = (m_T_scatter sT sL p1 p2 p3) := rfl
  refine lv_iload_n hx hb dX4_scatter_0 rfl (lv_at hl 1 rfl) ?_
  refine lv_iconst (v := (-1)) hx hb dX4_scatter_1 (by decide) ?_
  refine lv_iconst (v := 1) hx hb dX4_scatter_2 (by decide) ?_
  refine runS_i (va_runS (As := [.int p1, .int (-1), .int 1]) (rest := []) ⟨hx, hb, hml, hown, hts⟩ (K_T_within p1 (-1) 1) (va_cwS 3 hts gX4_scatter_X4_within rfl rfl rfl (by decide +kernel) ⟨Nat.le_of_ble_eq_true rfl, Nat.le_of_ble_eq_true rfl⟩) (preS_of hE hA hS trivial) rfl rfl hl.1 rfl (lv_room (Nat.le_of_ble_eq_true rfl)) dX4_scatter_3 ⟨Nat.zero_le _, Nat.zero_le _⟩) ?_
  refine lv_if_eq (tgt := 28) hx hb dX4_scatter_6 (by decide) (fun c_1 => ?_) (fun c_1 => ?_)
  · have hM := hM.trans (if_pos c_1)
    refine lv_iconst (v := (-1)) hx hb dX4_scatter_28 (by decide) ?_
    have hM : (m_T_scatter sT sL p1 p2 p3) = (((-1), sL) : Int32 × St) := hM
    exact hret (-1) H locs _ ls (nr_i _) dX4_scatter_29 (ret1 hM) (rP_v1 (P := fun (z0 : St) => va_P D vwCl (cellT cI g sT vT) H ∧ va_P D vwCl (cellM cI g sM) H ∧ va_P D vwCl (cellB cI g sB) H ∧ va_P D vwCl (cellL cI g z0) H ∧ va_P D vwCl (cellS cI g sS) H) hM ⟨hPT, hPM, hPB, hPL, hPS⟩) hS
  · have hM := hM.trans (if_neg c_1)
    have u_1 := within_t c_1
    rw [tl_m1, tl_1] at u_1
    refine lv_iload_n hx hb dX4_scatter_9 rfl (lv_at hl 2 rfl) ?_
    refine lv_iconst (v := (-1)) hx hb dX4_scatter_10 (by decide) ?_
    refine lv_iconst (v := 1) hx hb dX4_scatter_11 (by decide) ?_
    refine runS_i (va_runS (As := [.int p2, .int (-1), .int 1]) (rest := []) ⟨hx, hb, hml, hown, hts⟩ (K_T_within p2 (-1) 1) (va_cwS 3 hts gX4_scatter_X4_within rfl rfl rfl (by decide +kernel) ⟨Nat.le_of_ble_eq_true rfl, Nat.le_of_ble_eq_true rfl⟩) (preS_of hE hA hS trivial) rfl rfl hl.1 rfl (lv_room (Nat.le_of_ble_eq_true rfl)) dX4_scatter_12 ⟨Nat.zero_le _, Nat.zero_le _⟩) ?_
    refine lv_if_eq (tgt := 28) hx hb dX4_scatter_15 (by decide) (fun c_2 => ?_) (fun c_2 => ?_)
    · have hM := hM.trans (if_pos c_2)
      refine lv_iconst (v := (-1)) hx hb dX4_scatter_28 (by decide) ?_
      have hM : (m_T_scatter sT sL p1 p2 p3) = (((-1), sL) : Int32 × St) := hM
      exact hret (-1) H locs _ ls (nr_i _) dX4_scatter_29 (ret1 hM) (rP_v1 (P := fun (z0 : St) => va_P D vwCl (cellT cI g sT vT) H ∧ va_P D vwCl (cellM cI g sM) H ∧ va_P D vwCl (cellB cI g sB) H ∧ va_P D vwCl (cellL cI g z0) H ∧ va_P D vwCl (cellS cI g sS) H) hM ⟨hPT, hPM, hPB, hPL, hPS⟩) hS
    · have hM := hM.trans (if_neg c_2)
      have u_2 := within_t c_2
      rw [tl_m1, tl_1] at u_2
      refine lv_iload_n hx hb dX4_scatter_18 rfl (lv_at hl 3 rfl) ?_
      refine lv_iconst (v := 0) hx hb dX4_scatter_19 (by decide) ?_
      refine lv_bipush (v := 9) hx hb dX4_scatter_20 (by decide) ?_
      refine runS_i (va_runS (As := [.int p3, .int 0, .int 9]) (rest := []) ⟨hx, hb, hml, hown, hts⟩ (K_T_within p3 0 9) (va_cwS 3 hts gX4_scatter_X4_within rfl rfl rfl (by decide +kernel) ⟨Nat.le_of_ble_eq_true rfl, Nat.le_of_ble_eq_true rfl⟩) (preS_of hE hA hS trivial) rfl rfl hl.1 rfl (lv_room (Nat.le_of_ble_eq_true rfl)) dX4_scatter_22 ⟨Nat.zero_le _, Nat.zero_le _⟩) ?_
      refine lv_if_ne (tgt := 30) hx hb dX4_scatter_25 (by decide) (fun c_3 => ?_) (fun c_3 => ?_)
      · have hM := hM.trans (if_neg c_3)
        have u_3 := within_t c_3
        rw [tl_0, tl_9] at u_3
        refine lv_aload_n hx hb dX4_scatter_30 rfl (lv_at hl 0 rfl) ?_
        refine va_get (D := D) (ci := 4) (v := .ref (g 12)) (C := RX4) (T := TX4) (N := 7) hx hb hts hinT hown hE.1 hPT 0 rfl rfl 2 (by decide) (hts (.fieldLink RX4 26 "WallStones" "stones" "LWallStones$Wall;") (List.mem_of_getElem? (i := 1) rfl)) (fun _ h9 => h9) rfl dX4_scatter_31 ?_
        refine lv_iload_n hx hb dX4_scatter_34 rfl (lv_at hl 1 rfl) ?_
        refine lv_iload_n hx hb dX4_scatter_35 rfl (lv_at hl 2 rfl) ?_
        refine lv_iload_n hx hb dX4_scatter_36 rfl (lv_at hl 3 rfl) ?_
        refine runW_i (va_runV (As := [.int p1, .int p2, .int p3]) (rest := []) ⟨hx, hb, hml, hown, hts⟩ (K_L_putWeight (hg.sub (by decide) (by decide)) sL p1 p2 p3 (by omega)) (cwV 3 hts gX4_scatter_X3_putWeight rfl rfl rfl (by decide +kernel) ⟨Nat.le_of_ble_eq_true rfl, Nat.le_of_ble_eq_true rfl⟩) (preV_of hE hA hS hPL (va_recv hE.1 hPL (ci := 3) (q0 := 0) rfl rfl)) rfl rfl hl.1 rfl (lv_room (Nat.le_of_ble_eq_true rfl)) dX4_scatter_37 ⟨Nat.zero_le _, Nat.zero_le _⟩) hS (fun _ h9 => wA.sub (by decide) (by decide) _ h9) (fun H locs hQ hk hS => ?_)
        have hPT : va_P D vwCl (cellT cI g sT vT) H := wKeep hPT (wOff hg (c := 0) (n := 1) (x := 12) (y := 17) (by decide) (by decide) (by decide) (by decide) (by decide) rfl) hk
        have hPM : va_P D vwCl (cellM cI g sM) H := wKeep hPM (wOff hg (c := 1) (n := 5) (x := 12) (y := 17) (by decide) (by decide) (by decide) (by decide) (by decide) rfl) hk
        have hPB : va_P D vwCl (cellB cI g sB) H := wKeep hPB (wOff hg (c := 6) (n := 6) (x := 12) (y := 17) (by decide) (by decide) (by decide) (by decide) (by decide) rfl) hk
        have hPS : va_P D vwCl (cellS cI g sS) H := wKeep hPS (wOff hg (c := 17) (n := 2) (x := 12) (y := 17) (by decide) (by decide) (by decide) (by decide) (by decide) rfl) hk
        have hPL : va_P D vwCl (cellL cI g (m_L_putWeight sL p1 p2 p3).2) H := hQ
        have hM : (m_T_scatter sT sL p1 p2 p3) = (((m_L_putWeight sL p1 p2 p3).1, (m_L_putWeight sL p1 p2 p3).2) : Int32 × St) := hM
        exact hret (m_L_putWeight sL p1 p2 p3).1 H locs _ ls (nr_i _) dX4_scatter_40 (ret1 hM) (rP_v1 (P := fun (z0 : St) => va_P D vwCl (cellT cI g sT vT) H ∧ va_P D vwCl (cellM cI g sM) H ∧ va_P D vwCl (cellB cI g sB) H ∧ va_P D vwCl (cellL cI g z0) H ∧ va_P D vwCl (cellS cI g sS) H) hM ⟨hPT, hPM, hPB, hPL, hPS⟩) hS
      · have hM := hM.trans (if_pos c_3)
        refine lv_iconst (v := (-1)) hx hb dX4_scatter_28 (by decide) ?_
        have hM : (m_T_scatter sT sL p1 p2 p3) = (((-1), sL) : Int32 × St) := hM
        exact hret (-1) H locs _ ls (nr_i _) dX4_scatter_29 (ret1 hM) (rP_v1 (P := fun (z0 : St) => va_P D vwCl (cellT cI g sT vT) H ∧ va_P D vwCl (cellM cI g sM) H ∧ va_P D vwCl (cellB cI g sB) H ∧ va_P D vwCl (cellL cI g z0) H ∧ va_P D vwCl (cellS cI g sS) H) hM ⟨hPT, hPM, hPB, hPL, hPS⟩) hS
abbrev rm_T_worth : Room := { frames := 5, cells := 0, slots := 0, locals := 122 }
set_option maxHeartbeats 4000000 in
set_option maxRecDepth 100000 in
theorem K_T_worth {l : Launch} {D : va_G} {cI : ClassId} {lo : Nat} {g : Nat → Nat} (hg : wI g 0 19 lo) (sT : St) (vT : Int64) (sM : St) (sB : St) (sL : St) (sS : St) (p1 : Int32) (p2 : Int32) (p3 : Int32) (h0 : okL sL) : WRi l D cI lo yX4_worth wsX4_worth rm_T_worth [.ref (g 0), .int p1, .int p2, .int p3] (fun H => va_P D vwCl (cellT cI g sT vT) H ∧ va_P D vwCl (cellM cI g sM) H ∧ va_P D vwCl (cellB cI g sB) H ∧ va_P D vwCl (cellL cI g sL) H ∧ va_P D vwCl (cellS cI g sS) H) (m_T_worth sT sL p1 p2 p3).1 (fun H => va_P D vwCl (cellT cI g sT vT) H ∧ va_P D vwCl (cellM cI g sM) H ∧ va_P D vwCl (cellB cI g sB) H ∧ va_P D vwCl (cellL cI g (m_T_worth sT sL p1 p2 p3).2) H ∧ va_P D vwCl (cellS cI g sS) H) (wA g 0 19) := by
  refine ofW_WRi (cc := cX4_worth) (maxL := 4) (ty := .int) (by decide +kernel) rfl (Nat.le_of_ble_eq_true rfl) ?_
  intro p e s m args below meth c Q hx hb hml hown hts hE hP hret ls hl
  have hown : s.vm.findClass RX4 = some m.cls := hown
  obtain ⟨hPT, hPM, hPB, hPL, hPS⟩ := hP
  have hA := wA.lo hg
  have hS : va_S (wA g 0 19) s.heap s.heap [] := va_S.rf
  obtain ⟨H, hH⟩ : ∃ z, z = s.heap := ⟨_, rfl⟩
  obtain ⟨locs, hlocs⟩ : ∃ z : List Loc, z = [] := ⟨_, rfl⟩
  have hPT : va_P D vwCl (cellT cI g sT vT) H := by rw [hH]; exact hPT
  have hPM : va_P D vwCl (cellM cI g sM) H := by rw [hH]; exact hPM
  have hPB : va_P D vwCl (cellB cI g sB) H := by rw [hH]; exact hPB
  have hPL : va_P D vwCl (cellL cI g sL) H := by rw [hH]; exact hPL
  have hPS : va_P D vwCl (cellS cI g sS) H := by rw [hH]; exact hPS
  have hS : va_S (wA g 0 19) s.heap H locs := by rw [hH, hlocs]; exact va_S.rf
  have gW : W p l e rm_T_worth s m args below meth c H locs 0 0 Q (F0 m 0 ls []) → W p l e rm_T_worth s m args below meth c s.heap [] 0 0 Q (F0 m 0 ls []) := by rw [hH, hlocs]; exact id
  refine gW ?_
  have hinT : ∀ w ∈ wsX40, w ∈ wsX4_worth := fun w h => List.mem_cons_of_mem _ (List.mem_append_left _ (List.mem_append_right _ h))
  have hinL : ∀ w ∈ wsX30, w ∈ wsX4_worth := fun w h => List.mem_cons_of_mem _ (List.mem_append_right _ h)
  have hl : lv_has ls 4 [(0, .ref (g 0)), (1, .int p1), (2, .int p2), (3, .int p3)] := hl
  have nh0 := okL_lin h0
  have hM : (m_T_worth sT sL p1 p2 p3) = (m_T_worth sT sL p1 p2 p3) := rfl
  refine lv_aload_n hx hb dX4_worth_0 rfl (lv_at hl 0 rfl) ?_
  refine va_get (D := D) (ci := 4) (v := .ref (g 12)) (C := RX4) (T := TX4) (N := 7) hx hb hts hinT hown hE.1 hPT 0 rfl rfl 2 (by decide) (hts (.fieldLink RX4 26 "WallStones" "stones" "LWallStones$Wall;") (List.mem_of_getElem? (i := 1) rfl)) (fun _ h9 => h9) rfl dX4_worth_1 ?_
  refine lv_iload_n hx hb dX4_worth_4 rfl (lv_at hl 1 rfl) ?_
  refine lv_iload_n hx hb dX4_worth_5 rfl (lv_at hl 2 rfl) ?_
  refine runS_i (va_runV (As := [.int p1, .int p2]) (rest := []) ⟨hx, hb, hml, hown, hts⟩ (K_L_has (hg.sub (by decide) (by decide)) sL p1 p2) (cwV 2 hts gX4_worth_X3_has rfl rfl rfl (by decide +kernel) ⟨Nat.le_of_ble_eq_true rfl, Nat.le_of_ble_eq_true rfl⟩) (preV_of hE hA hS hPL (va_recv hE.1 hPL (ci := 3) (q0 := 0) rfl rfl)) rfl rfl hl.1 rfl (lv_room (Nat.le_of_ble_eq_true rfl)) dX4_worth_6 ⟨Nat.zero_le _, Nat.zero_le _⟩) ?_
  refine lv_if_eq (tgt := 22) hx hb dX4_worth_9 (by decide) (fun c_1 => ?_) (fun c_1 => ?_)
  · have hM := hM.trans (if_pos c_1)
    refine lv_iconst (v := (-1)) hx hb dX4_worth_22 (by decide) ?_
    have hM : (m_T_worth sT sL p1 p2 p3) = (((-1), sL) : Int32 × St) := hM
    exact hret (-1) H locs _ ls (nr_i _) dX4_worth_23 (ret1 hM) (rP_v1 (P := fun (z0 : St) => va_P D vwCl (cellT cI g sT vT) H ∧ va_P D vwCl (cellM cI g sM) H ∧ va_P D vwCl (cellB cI g sB) H ∧ va_P D vwCl (cellL cI g z0) H ∧ va_P D vwCl (cellS cI g sS) H) hM ⟨hPT, hPM, hPB, hPL, hPS⟩) hS
  · have hM := hM.trans (if_neg c_1)
    have u_1 := has_t c_1
    refine lv_iload_n hx hb dX4_worth_12 rfl (lv_at hl 3 rfl) ?_
    refine lv_iconst (v := 1) hx hb dX4_worth_13 (by decide) ?_
    refine lv_bipush (v := 99) hx hb dX4_worth_14 (by decide) ?_
    refine runS_i (va_runS (As := [.int p3, .int 1, .int 99]) (rest := []) ⟨hx, hb, hml, hown, hts⟩ (K_T_within p3 1 99) (va_cwS 3 hts gX4_worth_X4_within rfl rfl rfl (by decide +kernel) ⟨Nat.le_of_ble_eq_true rfl, Nat.le_of_ble_eq_true rfl⟩) (preS_of hE hA hS trivial) rfl rfl hl.1 rfl (lv_room (Nat.le_of_ble_eq_true rfl)) dX4_worth_16 ⟨Nat.zero_le _, Nat.zero_le _⟩) ?_
    refine lv_if_ne (tgt := 24) hx hb dX4_worth_19 (by decide) (fun c_2 => ?_) (fun c_2 => ?_)
    · have hM := hM.trans (if_neg c_2)
      have u_2 := within_t c_2
      rw [tl_1, tl_99] at u_2
      refine lv_aload_n hx hb dX4_worth_24 rfl (lv_at hl 0 rfl) ?_
      refine va_get (D := D) (ci := 4) (v := .ref (g 12)) (C := RX4) (T := TX4) (N := 7) hx hb hts hinT hown hE.1 hPT 0 rfl rfl 2 (by decide) (hts (.fieldLink RX4 26 "WallStones" "stones" "LWallStones$Wall;") (List.mem_of_getElem? (i := 1) rfl)) (fun _ h9 => h9) rfl dX4_worth_25 ?_
      refine lv_iload_n hx hb dX4_worth_28 rfl (lv_at hl 1 rfl) ?_
      refine lv_iload_n hx hb dX4_worth_29 rfl (lv_at hl 2 rfl) ?_
      refine lv_iload_n hx hb dX4_worth_30 rfl (lv_at hl 3 rfl) ?_
      refine runW_i (va_runV (As := [.int p1, .int p2, .int p3]) (rest := []) ⟨hx, hb, hml, hown, hts⟩ (K_L_worthOf (hg.sub (by decide) (by decide)) sL p1 p2 p3 (by assumption)) (cwV 3 hts gX4_worth_X3_worthOf rfl rfl rfl (by decide +kernel) ⟨Nat.le_of_ble_eq_true rfl, Nat.le_of_ble_eq_true rfl⟩) (preV_of hE hA hS hPL (va_recv hE.1 hPL (ci := 3) (q0 := 0) rfl rfl)) rfl rfl hl.1 rfl (lv_room (Nat.le_of_ble_eq_true rfl)) dX4_worth_31 ⟨Nat.zero_le _, Nat.zero_le _⟩) hS (fun _ h9 => wA.sub (by decide) (by decide) _ h9) (fun H locs hQ hk hS => ?_)
      have hPT : va_P D vwCl (cellT cI g sT vT) H := wKeep hPT (wOff hg (c := 0) (n := 1) (x := 12) (y := 17) (by decide) (by decide) (by decide) (by decide) (by decide) rfl) hk
      have hPM : va_P D vwCl (cellM cI g sM) H := wKeep hPM (wOff hg (c := 1) (n := 5) (x := 12) (y := 17) (by decide) (by decide) (by decide) (by decide) (by decide) rfl) hk
      have hPB : va_P D vwCl (cellB cI g sB) H := wKeep hPB (wOff hg (c := 6) (n := 6) (x := 12) (y := 17) (by decide) (by decide) (by decide) (by decide) (by decide) rfl) hk
      have hPS : va_P D vwCl (cellS cI g sS) H := wKeep hPS (wOff hg (c := 17) (n := 2) (x := 12) (y := 17) (by decide) (by decide) (by decide) (by decide) (by decide) rfl) hk
      have hPL : va_P D vwCl (cellL cI g (m_L_worthOf sL p1 p2 p3).2) H := hQ
      have v3 : okL (m_L_worthOf sL p1 p2 p3).2 := okL_worthOf (by assumption)
      have w3_4 : ((m_L_worthOf sL p1 p2 p3).2 0 4).toInt = (sL 0 4).toInt := congrArg Int32.toInt (fr_L_worthOf (by omega))
      have w3_5 : ((m_L_worthOf sL p1 p2 p3).2 0 5).toInt = (sL 0 5).toInt := congrArg Int32.toInt (fr_L_worthOf (by omega))
      have hM : (m_T_worth sT sL p1 p2 p3) = (((m_L_worthOf sL p1 p2 p3).1, (m_L_worthOf sL p1 p2 p3).2) : Int32 × St) := hM
      exact hret (m_L_worthOf sL p1 p2 p3).1 H locs _ ls (nr_i _) dX4_worth_34 (ret1 hM) (rP_v1 (P := fun (z0 : St) => va_P D vwCl (cellT cI g sT vT) H ∧ va_P D vwCl (cellM cI g sM) H ∧ va_P D vwCl (cellB cI g sB) H ∧ va_P D vwCl (cellL cI g z0) H ∧ va_P D vwCl (cellS cI g sS) H) hM ⟨hPT, hPM, hPB, hPL, hPS⟩) hS
    · have hM := hM.trans (if_pos c_2)
      refine lv_iconst (v := (-1)) hx hb dX4_worth_22 (by decide) ?_
      have hM : (m_T_worth sT sL p1 p2 p3) = (((-1), sL) : Int32 × St) := hM
      exact hret (-1) H locs _ ls (nr_i _) dX4_worth_23 (ret1 hM) (rP_v1 (P := fun (z0 : St) => va_P D vwCl (cellT cI g sT vT) H ∧ va_P D vwCl (cellM cI g sM) H ∧ va_P D vwCl (cellB cI g sB) H ∧ va_P D vwCl (cellL cI g z0) H ∧ va_P D vwCl (cellS cI g sS) H) hM ⟨hPT, hPM, hPB, hPL, hPS⟩) hS
abbrev rm_T_aim : Room := { frames := 6, cells := 0, slots := 0, locals := 147 }
set_option maxHeartbeats 4000000 in
set_option maxRecDepth 100000 in
theorem K_T_aim {l : Launch} {D : va_G} {cI : ClassId} {lo : Nat} {g : Nat → Nat} (hg : wI g 0 19 lo) (sT : St) (vT : Int64) (sM : St) (sB : St) (sL : St) (sS : St) (p1 : Int32) (p2 : Int32) (h0 : okL sL) : WRi l D cI lo yX4_aim wsX4_aim rm_T_aim [.ref (g 0), .int p1, .int p2] (fun H => va_P D vwCl (cellT cI g sT vT) H ∧ va_P D vwCl (cellM cI g sM) H ∧ va_P D vwCl (cellB cI g sB) H ∧ va_P D vwCl (cellL cI g sL) H ∧ va_P D vwCl (cellS cI g sS) H) (m_T_aim sT sL p1 p2).1 (fun H => va_P D vwCl (cellT cI g sT vT) H ∧ va_P D vwCl (cellM cI g sM) H ∧ va_P D vwCl (cellB cI g sB) H ∧ va_P D vwCl (cellL cI g (m_T_aim sT sL p1 p2).2) H ∧ va_P D vwCl (cellS cI g sS) H) (wA g 0 19) := by
  refine ofW_WRi (cc := cX4_aim) (maxL := 4) (ty := .int) (by decide +kernel) rfl (Nat.le_of_ble_eq_true rfl) ?_
  intro p e s m args below meth c Q hx hb hml hown hts hE hP hret ls hl
  have hown : s.vm.findClass RX4 = some m.cls := hown
  obtain ⟨hPT, hPM, hPB, hPL, hPS⟩ := hP
  have hA := wA.lo hg
  have hS : va_S (wA g 0 19) s.heap s.heap [] := va_S.rf
  obtain ⟨H, hH⟩ : ∃ z, z = s.heap := ⟨_, rfl⟩
  obtain ⟨locs, hlocs⟩ : ∃ z : List Loc, z = [] := ⟨_, rfl⟩
  have hPT : va_P D vwCl (cellT cI g sT vT) H := by rw [hH]; exact hPT
  have hPM : va_P D vwCl (cellM cI g sM) H := by rw [hH]; exact hPM
  have hPB : va_P D vwCl (cellB cI g sB) H := by rw [hH]; exact hPB
  have hPL : va_P D vwCl (cellL cI g sL) H := by rw [hH]; exact hPL
  have hPS : va_P D vwCl (cellS cI g sS) H := by rw [hH]; exact hPS
  have hS : va_S (wA g 0 19) s.heap H locs := by rw [hH, hlocs]; exact va_S.rf
  have gW : W p l e rm_T_aim s m args below meth c H locs 0 0 Q (F0 m 0 ls []) → W p l e rm_T_aim s m args below meth c s.heap [] 0 0 Q (F0 m 0 ls []) := by rw [hH, hlocs]; exact id
  refine gW ?_
  have hinT : ∀ w ∈ wsX40, w ∈ wsX4_aim := fun w h => List.mem_cons_of_mem _ (List.mem_append_left _ (List.mem_append_right _ h))
  have hinL : ∀ w ∈ wsX30, w ∈ wsX4_aim := fun w h => List.mem_cons_of_mem _ (List.mem_append_right _ h)
  have hl : lv_has ls 4 [(0, .ref (g 0)), (1, .int p1), (2, .int p2)] := hl
  have nh0 := okL_lin h0
  have hM : (m_T_aim sT sL p1 p2) = (m_T_aim sT sL p1 p2) := rfl
  refine lv_iload_n hx hb dX4_aim_0 rfl (lv_at hl 1 rfl) ?_
  refine lv_iconst (v := 1) hx hb dX4_aim_1 (by decide) ?_
  refine lv_bipush (v := 99) hx hb dX4_aim_2 (by decide) ?_
  refine runS_i (va_runS (As := [.int p1, .int 1, .int 99]) (rest := []) ⟨hx, hb, hml, hown, hts⟩ (K_T_within p1 1 99) (va_cwS 3 hts gX4_aim_X4_within rfl rfl rfl (by decide +kernel) ⟨Nat.le_of_ble_eq_true rfl, Nat.le_of_ble_eq_true rfl⟩) (preS_of hE hA hS trivial) rfl rfl hl.1 rfl (lv_room (Nat.le_of_ble_eq_true rfl)) dX4_aim_4 ⟨Nat.zero_le _, Nat.zero_le _⟩) ?_
  refine lv_if_eq (tgt := 19) hx hb dX4_aim_7 (by decide) (fun c_1 => ?_) (fun c_1 => ?_)
  · have hM := hM.trans (if_pos c_1)
    refine lv_iconst (v := (-1)) hx hb dX4_aim_19 (by decide) ?_
    have hM : (m_T_aim sT sL p1 p2) = (((-1), sL) : Int32 × St) := hM
    exact hret (-1) H locs _ ls (nr_i _) dX4_aim_20 (ret1 hM) (rP_v1 (P := fun (z0 : St) => va_P D vwCl (cellT cI g sT vT) H ∧ va_P D vwCl (cellM cI g sM) H ∧ va_P D vwCl (cellB cI g sB) H ∧ va_P D vwCl (cellL cI g z0) H ∧ va_P D vwCl (cellS cI g sS) H) hM ⟨hPT, hPM, hPB, hPL, hPS⟩) hS
  · have hM := hM.trans (if_neg c_1)
    have u_1 := within_t c_1
    rw [tl_1, tl_99] at u_1
    refine lv_iload_n hx hb dX4_aim_10 rfl (lv_at hl 2 rfl) ?_
    refine lv_iconst (v := 0) hx hb dX4_aim_11 (by decide) ?_
    refine lv_iconst (v := 1) hx hb dX4_aim_12 (by decide) ?_
    refine runS_i (va_runS (As := [.int p2, .int 0, .int 1]) (rest := []) ⟨hx, hb, hml, hown, hts⟩ (K_T_within p2 0 1) (va_cwS 3 hts gX4_aim_X4_within rfl rfl rfl (by decide +kernel) ⟨Nat.le_of_ble_eq_true rfl, Nat.le_of_ble_eq_true rfl⟩) (preS_of hE hA hS trivial) rfl rfl hl.1 rfl (lv_room (Nat.le_of_ble_eq_true rfl)) dX4_aim_13 ⟨Nat.zero_le _, Nat.zero_le _⟩) ?_
    refine lv_if_ne (tgt := 21) hx hb dX4_aim_16 (by decide) (fun c_2 => ?_) (fun c_2 => ?_)
    · have hM := hM.trans (if_neg c_2)
      have u_2 := within_t c_2
      rw [tl_0, tl_1] at u_2
      refine lv_aload_n hx hb dX4_aim_21 rfl (lv_at hl 0 rfl) ?_
      refine va_get (D := D) (ci := 4) (v := .ref (g 12)) (C := RX4) (T := TX4) (N := 7) hx hb hts hinT hown hE.1 hPT 0 rfl rfl 2 (by decide) (hts (.fieldLink RX4 26 "WallStones" "stones" "LWallStones$Wall;") (List.mem_of_getElem? (i := 1) rfl)) (fun _ h9 => h9) rfl dX4_aim_22 ?_
      refine lv_iload_n hx hb dX4_aim_25 rfl (lv_at hl 1 rfl) ?_
      refine runW_i (va_runV (As := [.int p1]) (rest := []) ⟨hx, hb, hml, hown, hts⟩ (K_L_bestAim (hg.sub (by decide) (by decide)) sL p1 (by assumption)) (cwV 1 hts gX4_aim_X3_bestAim rfl rfl rfl (by decide +kernel) ⟨Nat.le_of_ble_eq_true rfl, Nat.le_of_ble_eq_true rfl⟩) (preV_of hE hA hS hPL (va_recv hE.1 hPL (ci := 3) (q0 := 0) rfl rfl)) rfl rfl hl.1 rfl (lv_room (Nat.le_of_ble_eq_true rfl)) dX4_aim_26 ⟨Nat.zero_le _, Nat.zero_le _⟩) hS (fun _ h9 => wA.sub (by decide) (by decide) _ h9) (fun H locs hQ hk hS => ?_)
      have hPT : va_P D vwCl (cellT cI g sT vT) H := wKeep hPT (wOff hg (c := 0) (n := 1) (x := 12) (y := 17) (by decide) (by decide) (by decide) (by decide) (by decide) rfl) hk
      have hPM : va_P D vwCl (cellM cI g sM) H := wKeep hPM (wOff hg (c := 1) (n := 5) (x := 12) (y := 17) (by decide) (by decide) (by decide) (by decide) (by decide) rfl) hk
      have hPB : va_P D vwCl (cellB cI g sB) H := wKeep hPB (wOff hg (c := 6) (n := 6) (x := 12) (y := 17) (by decide) (by decide) (by decide) (by decide) (by decide) rfl) hk
      have hPS : va_P D vwCl (cellS cI g sS) H := wKeep hPS (wOff hg (c := 17) (n := 2) (x := 12) (y := 17) (by decide) (by decide) (by decide) (by decide) (by decide) rfl) hk
      have hPL : va_P D vwCl (cellL cI g (m_L_bestAim sL p1).2) H := hQ
      have v3 : okL (m_L_bestAim sL p1).2 := okL_bestAim (by assumption)
      have w3_4 : ((m_L_bestAim sL p1).2 0 4).toInt = (sL 0 4).toInt := congrArg Int32.toInt (fr_L_bestAim (by omega))
      have w3_5 : ((m_L_bestAim sL p1).2 0 5).toInt = (sL 0 5).toInt := congrArg Int32.toInt (fr_L_bestAim (by omega))
      refine lv_istore_n (lv' := [(3, .int (m_L_bestAim sL p1).1), (0, .ref (g 0)), (1, .int p1), (2, .int p2)]) hx hb dX4_aim_29 rfl hl (by decide) rfl (fun ls hl => ?_)
      refine lv_iload_n hx hb dX4_aim_30 rfl (lv_at hl 3 rfl) ?_
      refine lv_if_ne (tgt := 38) hx hb dX4_aim_31 (by decide) (fun c_4 => ?_) (fun c_4 => ?_)
      · have hM := hM.trans (if_neg c_4)
        refine lv_aload_n hx hb dX4_aim_38 rfl (lv_at hl 1 rfl) ?_
        refine va_get (D := D) (ci := 4) (v := .ref (g 12)) (C := RX4) (T := TX4) (N := 7) hx hb hts hinT hown hE.1 hPT 0 rfl rfl 2 (by decide) (hts (.fieldLink RX4 26 "WallStones" "stones" "LWallStones$Wall;") (List.mem_of_getElem? (i := 1) rfl)) (fun _ h9 => h9) rfl dX4_aim_39 ?_
        refine lv_aload_n hx hb dX4_aim_42 rfl (lv_at hl 1 rfl) ?_
        refine va_get (D := D) (ci := 4) (v := .ref (g 12)) (C := RX4) (T := TX4) (N := 7) hx hb hts hinT hown hE.1 hPT 0 rfl rfl 2 (by decide) (hts (.fieldLink RX4 26 "WallStones" "stones" "LWallStones$Wall;") (List.mem_of_getElem? (i := 1) rfl)) (fun _ h9 => h9) rfl dX4_aim_43 ?_
        refine lv_iload_n hx hb dX4_aim_46 rfl (lv_at hl 0 rfl) ?_
        refine runS_i (va_runV (As := [.int (m_L_bestAim sL p1).1]) (rest := [.ref (g 12)]) ⟨hx, hb, hml, hown, hts⟩ (K_L_columnOf (hg.sub (by decide) (by decide)) (m_L_bestAim sL p1).2 (m_L_bestAim sL p1).1) (cwV 1 hts gX4_aim_X3_columnOf rfl rfl rfl (by decide +kernel) ⟨Nat.le_of_ble_eq_true rfl, Nat.le_of_ble_eq_true rfl⟩) (preV_of hE hA hS hPL (va_recv hE.1 hPL (ci := 3) (q0 := 0) rfl rfl)) rfl rfl hl.1 rfl (lv_room (Nat.le_of_ble_eq_true rfl)) dX4_aim_47 ⟨Nat.zero_le _, Nat.zero_le _⟩) ?_
        refine lv_aload_n hx hb dX4_aim_50 rfl (lv_at hl 1 rfl) ?_
        refine va_get (D := D) (ci := 4) (v := .ref (g 12)) (C := RX4) (T := TX4) (N := 7) hx hb hts hinT hown hE.1 hPT 0 rfl rfl 2 (by decide) (hts (.fieldLink RX4 26 "WallStones" "stones" "LWallStones$Wall;") (List.mem_of_getElem? (i := 1) rfl)) (fun _ h9 => h9) rfl dX4_aim_51 ?_
        refine lv_iload_n hx hb dX4_aim_54 rfl (lv_at hl 0 rfl) ?_
        refine runS_i (va_runV (As := [.int (m_L_bestAim sL p1).1]) (rest := [.int (m_L_columnOf (m_L_bestAim sL p1).2 (m_L_bestAim sL p1).1), .ref (g 12)]) ⟨hx, hb, hml, hown, hts⟩ (K_L_rowOf (hg.sub (by decide) (by decide)) (m_L_bestAim sL p1).2 (m_L_bestAim sL p1).1) (cwV 1 hts gX4_aim_X3_rowOf rfl rfl rfl (by decide +kernel) ⟨Nat.le_of_ble_eq_true rfl, Nat.le_of_ble_eq_true rfl⟩) (preV_of hE hA hS hPL (va_recv hE.1 hPL (ci := 3) (q0 := 0) rfl rfl)) rfl rfl hl.1 rfl (lv_room (Nat.le_of_ble_eq_true rfl)) dX4_aim_55 ⟨Nat.zero_le _, Nat.zero_le _⟩) ?_
        refine lv_iload_n hx hb dX4_aim_58 rfl (lv_at hl 2 rfl) ?_
        refine runW_i (va_runV (As := [.int (m_L_columnOf (m_L_bestAim sL p1).2 (m_L_bestAim sL p1).1), .int (m_L_rowOf (m_L_bestAim sL p1).2 (m_L_bestAim sL p1).1), .int p1]) (rest := []) ⟨hx, hb, hml, hown, hts⟩ (K_L_worthOf (hg.sub (by decide) (by decide)) (m_L_bestAim sL p1).2 (m_L_columnOf (m_L_bestAim sL p1).2 (m_L_bestAim sL p1).1) (m_L_rowOf (m_L_bestAim sL p1).2 (m_L_bestAim sL p1).1) p1 (by assumption)) (cwV 3 hts gX4_aim_X3_worthOf rfl rfl rfl (by decide +kernel) ⟨Nat.le_of_ble_eq_true rfl, Nat.le_of_ble_eq_true rfl⟩) (preV_of hE hA hS hPL (va_recv hE.1 hPL (ci := 3) (q0 := 0) rfl rfl)) rfl rfl hl.1 rfl (lv_room (Nat.le_of_ble_eq_true rfl)) dX4_aim_59 ⟨Nat.zero_le _, Nat.zero_le _⟩) hS (fun _ h9 => wA.sub (by decide) (by decide) _ h9) (fun H locs hQ hk hS => ?_)
        have hPT : va_P D vwCl (cellT cI g sT vT) H := wKeep hPT (wOff hg (c := 0) (n := 1) (x := 12) (y := 17) (by decide) (by decide) (by decide) (by decide) (by decide) rfl) hk
        have hPM : va_P D vwCl (cellM cI g sM) H := wKeep hPM (wOff hg (c := 1) (n := 5) (x := 12) (y := 17) (by decide) (by decide) (by decide) (by decide) (by decide) rfl) hk
        have hPB : va_P D vwCl (cellB cI g sB) H := wKeep hPB (wOff hg (c := 6) (n := 6) (x := 12) (y := 17) (by decide) (by decide) (by decide) (by decide) (by decide) rfl) hk
        have hPS : va_P D vwCl (cellS cI g sS) H := wKeep hPS (wOff hg (c := 17) (n := 2) (x := 12) (y := 17) (by decide) (by decide) (by decide) (by decide) (by decide) rfl) hk
        have hPL : va_P D vwCl (cellL cI g (m_L_worthOf (m_L_bestAim sL p1).2 (m_L_columnOf (m_L_bestAim sL p1).2 (m_L_bestAim sL p1).1) (m_L_rowOf (m_L_bestAim sL p1).2 (m_L_bestAim sL p1).1) p1).2) H := hQ
        have v5 : okL (m_L_worthOf (m_L_bestAim sL p1).2 (m_L_columnOf (m_L_bestAim sL p1).2 (m_L_bestAim sL p1).1) (m_L_rowOf (m_L_bestAim sL p1).2 (m_L_bestAim sL p1).1) p1).2 := okL_worthOf (by assumption)
        have w5_4 : ((m_L_worthOf (m_L_bestAim sL p1).2 (m_L_columnOf (m_L_bestAim sL p1).2 (m_L_bestAim sL p1).1) (m_L_rowOf (m_L_bestAim sL p1).2 (m_L_bestAim sL p1).1) p1).2 0 4).toInt = ((m_L_bestAim sL p1).2 0 4).toInt := congrArg Int32.toInt (fr_L_worthOf (by omega))
        have w5_5 : ((m_L_worthOf (m_L_bestAim sL p1).2 (m_L_columnOf (m_L_bestAim sL p1).2 (m_L_bestAim sL p1).1) (m_L_rowOf (m_L_bestAim sL p1).2 (m_L_bestAim sL p1).1) p1).2 0 5).toInt = ((m_L_bestAim sL p1).2 0 5).toInt := congrArg Int32.toInt (fr_L_worthOf (by omega))
        have hM : (m_T_aim sT sL p1 p2) = (((m_L_worthOf (m_L_bestAim sL p1).2 (m_L_columnOf (m_L_bestAim sL p1).2 (m_L_bestAim sL p1).1) (m_L_rowOf (m_L_bestAim sL p1).2 (m_L_bestAim sL p1).1) p1).1, (m_L_worthOf (m_L_bestAim sL p1).2 (m_L_columnOf (m_L_bestAim sL p1).2 (m_L_bestAim sL p1).1) (m_L_rowOf (m_L_bestAim sL p1).2 (m_L_bestAim sL p1).1) p1).2) : Int32 × St) := hM
        exact hret (m_L_worthOf (m_L_bestAim sL p1).2 (m_L_columnOf (m_L_bestAim sL p1).2 (m_L_bestAim sL p1).1) (m_L_rowOf (m_L_bestAim sL p1).2 (m_L_bestAim sL p1).1) p1).1 H locs _ ls (nr_i _) dX4_aim_62 (ret1 hM) (rP_v1 (P := fun (z0 : St) => va_P D vwCl (cellT cI g sT vT) H ∧ va_P D vwCl (cellM cI g sM) H ∧ va_P D vwCl (cellB cI g sB) H ∧ va_P D vwCl (cellL cI g z0) H ∧ va_P D vwCl (cellS cI g sS) H) hM ⟨hPT, hPM, hPB, hPL, hPS⟩) hS
      · have hM := hM.trans (if_pos c_4)
        refine lv_iload_n hx hb dX4_aim_34 rfl (lv_at hl 0 rfl) ?_
        refine lv_goto (tgt := 62) hx hb dX4_aim_35 (by decide) ?_
        have hM : (m_T_aim sT sL p1 p2) = (((m_L_bestAim sL p1).1, (m_L_bestAim sL p1).2) : Int32 × St) := hM
        exact hret (m_L_bestAim sL p1).1 H locs _ ls (nr_i _) dX4_aim_62 (ret1 hM) (rP_v1 (P := fun (z0 : St) => va_P D vwCl (cellT cI g sT vT) H ∧ va_P D vwCl (cellM cI g sM) H ∧ va_P D vwCl (cellB cI g sB) H ∧ va_P D vwCl (cellL cI g z0) H ∧ va_P D vwCl (cellS cI g sS) H) hM ⟨hPT, hPM, hPB, hPL, hPS⟩) hS
    · have hM := hM.trans (if_pos c_2)
      refine lv_iconst (v := (-1)) hx hb dX4_aim_19 (by decide) ?_
      have hM : (m_T_aim sT sL p1 p2) = (((-1), sL) : Int32 × St) := hM
      exact hret (-1) H locs _ ls (nr_i _) dX4_aim_20 (ret1 hM) (rP_v1 (P := fun (z0 : St) => va_P D vwCl (cellT cI g sT vT) H ∧ va_P D vwCl (cellM cI g sM) H ∧ va_P D vwCl (cellB cI g sB) H ∧ va_P D vwCl (cellL cI g z0) H ∧ va_P D vwCl (cellS cI g sS) H) hM ⟨hPT, hPM, hPB, hPL, hPS⟩) hS
abbrev rm_T_wound : Room := { frames := 0, cells := 0, slots := 0, locals := 0 }
set_option maxHeartbeats 4000000 in
set_option maxRecDepth 100000 in
theorem K_T_wound {l : Launch} {D : va_G} {cI : ClassId} {lo : Nat} {g : Nat → Nat} (hg : wI g 0 19 lo) (sT : St) (vT : Int64) (sM : St) (sB : St) (sL : St) (sS : St) : WRi l D cI lo yX4_wound wsX4_wound rm_T_wound [.ref (g 0)] (fun H => va_P D vwCl (cellT cI g sT vT) H ∧ va_P D vwCl (cellM cI g sM) H ∧ va_P D vwCl (cellB cI g sB) H ∧ va_P D vwCl (cellL cI g sL) H ∧ va_P D vwCl (cellS cI g sS) H) (m_T_wound sT).1 (fun H => va_P D vwCl (cellT cI g (m_T_wound sT).2 vT) H ∧ va_P D vwCl (cellM cI g sM) H ∧ va_P D vwCl (cellB cI g sB) H ∧ va_P D vwCl (cellL cI g sL) H ∧ va_P D vwCl (cellS cI g sS) H) (wA g 0 19) := by
  refine ofW_WRi (cc := cX4_wound) (maxL := 1) (ty := .int) (by decide +kernel) rfl (Nat.le_of_ble_eq_true rfl) ?_
  intro p e s m args below meth c Q hx hb hml hown hts hE hP hret ls hl
  have hown : s.vm.findClass RX4 = some m.cls := hown
  obtain ⟨hPT, hPM, hPB, hPL, hPS⟩ := hP
  have hA := wA.lo hg
  have hS : va_S (wA g 0 19) s.heap s.heap [] := va_S.rf
  obtain ⟨H, hH⟩ : ∃ z, z = s.heap := ⟨_, rfl⟩
  obtain ⟨locs, hlocs⟩ : ∃ z : List Loc, z = [] := ⟨_, rfl⟩
  have hPT : va_P D vwCl (cellT cI g sT vT) H := by rw [hH]; exact hPT
  have hPM : va_P D vwCl (cellM cI g sM) H := by rw [hH]; exact hPM
  have hPB : va_P D vwCl (cellB cI g sB) H := by rw [hH]; exact hPB
  have hPL : va_P D vwCl (cellL cI g sL) H := by rw [hH]; exact hPL
  have hPS : va_P D vwCl (cellS cI g sS) H := by rw [hH]; exact hPS
  have hS : va_S (wA g 0 19) s.heap H locs := by rw [hH, hlocs]; exact va_S.rf
  have gW : W p l e rm_T_wound s m args below meth c H locs 0 0 Q (F0 m 0 ls []) → W p l e rm_T_wound s m args below meth c s.heap [] 0 0 Q (F0 m 0 ls []) := by rw [hH, hlocs]; exact id
  refine gW ?_
  have hinT : ∀ w ∈ wsX40, w ∈ wsX4_wound := fun w h => List.mem_cons_of_mem _ (List.mem_append_right _ h)
  have hl : lv_has ls 1 [(0, .ref (g 0))] := hl
  have hM : (m_T_wound sT) = (m_T_wound sT) := rfl
  refine lv_aload_n hx hb dX4_wound_0 rfl (lv_at hl 0 rfl) ?_
  refine va_get (D := D) (ci := 4) (v := .int (sT 0 4)) (C := RX4) (T := TX4) (N := 7) hx hb hts hinT hown hE.1 hPT 0 rfl rfl 4 (by decide) (hts (.fieldLink RX4 37 "WallStones" "handling" "I") (List.mem_of_getElem? (i := 1) rfl)) (fun _ h9 => h9) rfl dX4_wound_1 ?_
  refine lv_if_eq (tgt := 10) hx hb dX4_wound_4 (by decide) (fun c_1 => ?_) (fun c_1 => ?_)
  · have hM := hM.trans (if_pos c_1)
    refine lv_aload_n hx hb dX4_wound_10 rfl (lv_at hl 0 rfl) ?_
    refine lv_iconst (v := 1) hx hb dX4_wound_11 (by decide) ?_
    refine va_put (D := D) (ci := 4) (v := .int 1) (ty := .int) (C := RX4) (T := TX4) (N := 7) hx hb hts hinT tyX4 tyX4_ok nmX4 hown hE.1 ((((hPT.app hPM).app hPB).app hPL).app hPS) (wD_of hg (c := 0) (n := 19) (by decide) (by decide) rfl) hS 0 rfl rfl 4 (by decide) (hts (.fieldLink RX4 37 "WallStones" "handling" "I") (List.mem_of_getElem? (i := 1) rfl)) (fun _ h9 => h9) rfl (by decide +kernel) rfl rfl (Nat.le_of_ble_eq_true rfl) dX4_wound_12 (fun H locs hPn _ hS => ?_)
    have hPn : va_P D vwCl (((((cellT cI g (up sT 0 4 1) vT) ++ cellM cI g sM) ++ cellB cI g sB) ++ cellL cI g sL) ++ cellS cI g sS) H := (congrArg (fun z => va_P D vwCl z H) putTMBLS_T4).mp hPn
    have hPT : va_P D vwCl (cellT cI g (up sT 0 4 1) vT) H := hPn.sub [0] rfl
    have hPM : va_P D vwCl (cellM cI g sM) H := hPn.sub [1, 2, 3, 4, 5] rfl
    have hPB : va_P D vwCl (cellB cI g sB) H := hPn.sub [6, 7, 8, 9, 10, 11] rfl
    have hPL : va_P D vwCl (cellL cI g sL) H := hPn.sub [12, 13, 14, 15, 16] rfl
    have hPS : va_P D vwCl (cellS cI g sS) H := hPn.sub [17, 18] rfl
    refine lv_aload_n hx hb dX4_wound_15 rfl (lv_at hl 0 rfl) ?_
    refine va_get (D := D) (ci := 4) (v := .int 1) (C := RX4) (T := TX4) (N := 7) hx hb hts hinT hown hE.1 hPT 0 rfl rfl 4 (by decide) (hts (.fieldLink RX4 37 "WallStones" "handling" "I") (List.mem_of_getElem? (i := 1) rfl)) (fun _ h9 => h9) rfl dX4_wound_16 ?_
    have hM : (m_T_wound sT) = ((1, (up sT 0 4 1)) : Int32 × St) := hM
    exact hret 1 H locs _ ls (nr_i _) dX4_wound_19 (ret1 hM) (rP_v1 (P := fun (z0 : St) => va_P D vwCl (cellT cI g z0 vT) H ∧ va_P D vwCl (cellM cI g sM) H ∧ va_P D vwCl (cellB cI g sB) H ∧ va_P D vwCl (cellL cI g sL) H ∧ va_P D vwCl (cellS cI g sS) H) hM ⟨hPT, hPM, hPB, hPL, hPS⟩) hS
  · have hM := hM.trans (if_neg c_1)
    refine lv_bipush (v := (-2)) hx hb dX4_wound_7 (by decide) ?_
    have hM : (m_T_wound sT) = (((-2), sT) : Int32 × St) := hM
    exact hret (-2) H locs _ ls (nr_i _) dX4_wound_9 (ret1 hM) (rP_v1 (P := fun (z0 : St) => va_P D vwCl (cellT cI g z0 vT) H ∧ va_P D vwCl (cellM cI g sM) H ∧ va_P D vwCl (cellB cI g sB) H ∧ va_P D vwCl (cellL cI g sL) H ∧ va_P D vwCl (cellS cI g sS) H) hM ⟨hPT, hPM, hPB, hPL, hPS⟩) hS
abbrev rm_T_sling : Room := { frames := 0, cells := 0, slots := 0, locals := 0 }
set_option maxHeartbeats 4000000 in
set_option maxRecDepth 100000 in
theorem K_T_sling {l : Launch} {D : va_G} {cI : ClassId} {lo : Nat} {g : Nat → Nat} (hg : wI g 0 19 lo) (sT : St) (vT : Int64) (sM : St) (sB : St) (sL : St) (sS : St) : WRi l D cI lo yX4_sling wsX4_sling rm_T_sling [.ref (g 0)] (fun H => va_P D vwCl (cellT cI g sT vT) H ∧ va_P D vwCl (cellM cI g sM) H ∧ va_P D vwCl (cellB cI g sB) H ∧ va_P D vwCl (cellL cI g sL) H ∧ va_P D vwCl (cellS cI g sS) H) (m_T_sling sT).1 (fun H => va_P D vwCl (cellT cI g (m_T_sling sT).2 vT) H ∧ va_P D vwCl (cellM cI g sM) H ∧ va_P D vwCl (cellB cI g sB) H ∧ va_P D vwCl (cellL cI g sL) H ∧ va_P D vwCl (cellS cI g sS) H) (wA g 0 19) := by
  refine ofW_WRi (cc := cX4_sling) (maxL := 1) (ty := .int) (by decide +kernel) rfl (Nat.le_of_ble_eq_true rfl) ?_
  intro p e s m args below meth c Q hx hb hml hown hts hE hP hret ls hl
  have hown : s.vm.findClass RX4 = some m.cls := hown
  obtain ⟨hPT, hPM, hPB, hPL, hPS⟩ := hP
  have hA := wA.lo hg
  have hS : va_S (wA g 0 19) s.heap s.heap [] := va_S.rf
  obtain ⟨H, hH⟩ : ∃ z, z = s.heap := ⟨_, rfl⟩
  obtain ⟨locs, hlocs⟩ : ∃ z : List Loc, z = [] := ⟨_, rfl⟩
  have hPT : va_P D vwCl (cellT cI g sT vT) H := by rw [hH]; exact hPT
  have hPM : va_P D vwCl (cellM cI g sM) H := by rw [hH]; exact hPM
  have hPB : va_P D vwCl (cellB cI g sB) H := by rw [hH]; exact hPB
  have hPL : va_P D vwCl (cellL cI g sL) H := by rw [hH]; exact hPL
  have hPS : va_P D vwCl (cellS cI g sS) H := by rw [hH]; exact hPS
  have hS : va_S (wA g 0 19) s.heap H locs := by rw [hH, hlocs]; exact va_S.rf
  have gW : W p l e rm_T_sling s m args below meth c H locs 0 0 Q (F0 m 0 ls []) → W p l e rm_T_sling s m args below meth c s.heap [] 0 0 Q (F0 m 0 ls []) := by rw [hH, hlocs]; exact id
  refine gW ?_
  have hinT : ∀ w ∈ wsX40, w ∈ wsX4_sling := fun w h => List.mem_cons_of_mem _ (List.mem_append_right _ h)
  have hl : lv_has ls 1 [(0, .ref (g 0))] := hl
  have hM : (m_T_sling sT) = (m_T_sling sT) := rfl
  refine lv_aload_n hx hb dX4_sling_0 rfl (lv_at hl 0 rfl) ?_
  refine va_get (D := D) (ci := 4) (v := .int (sT 0 4)) (C := RX4) (T := TX4) (N := 7) hx hb hts hinT hown hE.1 hPT 0 rfl rfl 4 (by decide) (hts (.fieldLink RX4 37 "WallStones" "handling" "I") (List.mem_of_getElem? (i := 1) rfl)) (fun _ h9 => h9) rfl dX4_sling_1 ?_
  refine lv_iconst (v := 1) hx hb dX4_sling_4 (by decide) ?_
  refine lv_icmp_eq (tgt := 11) hx hb dX4_sling_5 (by decide) (fun c_1 => ?_) (fun c_1 => ?_)
  · have hM := hM.trans (if_pos c_1)
    refine lv_aload_n hx hb dX4_sling_11 rfl (lv_at hl 0 rfl) ?_
    refine lv_iconst (v := 2) hx hb dX4_sling_12 (by decide) ?_
    refine va_put (D := D) (ci := 4) (v := .int 2) (ty := .int) (C := RX4) (T := TX4) (N := 7) hx hb hts hinT tyX4 tyX4_ok nmX4 hown hE.1 ((((hPT.app hPM).app hPB).app hPL).app hPS) (wD_of hg (c := 0) (n := 19) (by decide) (by decide) rfl) hS 0 rfl rfl 4 (by decide) (hts (.fieldLink RX4 37 "WallStones" "handling" "I") (List.mem_of_getElem? (i := 1) rfl)) (fun _ h9 => h9) rfl (by decide +kernel) rfl rfl (Nat.le_of_ble_eq_true rfl) dX4_sling_13 (fun H locs hPn _ hS => ?_)
    have hPn : va_P D vwCl (((((cellT cI g (up sT 0 4 2) vT) ++ cellM cI g sM) ++ cellB cI g sB) ++ cellL cI g sL) ++ cellS cI g sS) H := (congrArg (fun z => va_P D vwCl z H) putTMBLS_T4).mp hPn
    have hPT : va_P D vwCl (cellT cI g (up sT 0 4 2) vT) H := hPn.sub [0] rfl
    have hPM : va_P D vwCl (cellM cI g sM) H := hPn.sub [1, 2, 3, 4, 5] rfl
    have hPB : va_P D vwCl (cellB cI g sB) H := hPn.sub [6, 7, 8, 9, 10, 11] rfl
    have hPL : va_P D vwCl (cellL cI g sL) H := hPn.sub [12, 13, 14, 15, 16] rfl
    have hPS : va_P D vwCl (cellS cI g sS) H := hPn.sub [17, 18] rfl
    refine lv_aload_n hx hb dX4_sling_16 rfl (lv_at hl 0 rfl) ?_
    refine va_get (D := D) (ci := 4) (v := .int 2) (C := RX4) (T := TX4) (N := 7) hx hb hts hinT hown hE.1 hPT 0 rfl rfl 4 (by decide) (hts (.fieldLink RX4 37 "WallStones" "handling" "I") (List.mem_of_getElem? (i := 1) rfl)) (fun _ h9 => h9) rfl dX4_sling_17 ?_
    have hM : (m_T_sling sT) = ((2, (up sT 0 4 2)) : Int32 × St) := hM
    exact hret 2 H locs _ ls (nr_i _) dX4_sling_20 (ret1 hM) (rP_v1 (P := fun (z0 : St) => va_P D vwCl (cellT cI g z0 vT) H ∧ va_P D vwCl (cellM cI g sM) H ∧ va_P D vwCl (cellB cI g sB) H ∧ va_P D vwCl (cellL cI g sL) H ∧ va_P D vwCl (cellS cI g sS) H) hM ⟨hPT, hPM, hPB, hPL, hPS⟩) hS
  · have hM := hM.trans (if_neg c_1)
    refine lv_bipush (v := (-2)) hx hb dX4_sling_8 (by decide) ?_
    have hM : (m_T_sling sT) = (((-2), sT) : Int32 × St) := hM
    exact hret (-2) H locs _ ls (nr_i _) dX4_sling_10 (ret1 hM) (rP_v1 (P := fun (z0 : St) => va_P D vwCl (cellT cI g z0 vT) H ∧ va_P D vwCl (cellM cI g sM) H ∧ va_P D vwCl (cellB cI g sB) H ∧ va_P D vwCl (cellL cI g sL) H ∧ va_P D vwCl (cellS cI g sS) H) hM ⟨hPT, hPM, hPB, hPL, hPS⟩) hS
abbrev rm_T_near : Room := { frames := 1, cells := 0, slots := 0, locals := 22 }
set_option maxHeartbeats 4000000 in
set_option maxRecDepth 100000 in
theorem K_T_near {l : Launch} {D : va_G} {cI : ClassId} {lo : Nat} {g : Nat → Nat} (hg : wI g 0 19 lo) (sT : St) (vT : Int64) (sM : St) (sB : St) (sL : St) (sS : St) (p1 : Int32) : WRi l D cI lo yX4_near wsX4_near rm_T_near [.ref (g 0), .int p1] (fun H => va_P D vwCl (cellT cI g sT vT) H ∧ va_P D vwCl (cellM cI g sM) H ∧ va_P D vwCl (cellB cI g sB) H ∧ va_P D vwCl (cellL cI g sL) H ∧ va_P D vwCl (cellS cI g sS) H) (m_T_near sT p1).1 (fun H => va_P D vwCl (cellT cI g (m_T_near sT p1).2 vT) H ∧ va_P D vwCl (cellM cI g sM) H ∧ va_P D vwCl (cellB cI g sB) H ∧ va_P D vwCl (cellL cI g sL) H ∧ va_P D vwCl (cellS cI g sS) H) (wA g 0 19) := by
  refine ofW_WRi (cc := cX4_near) (maxL := 2) (ty := .int) (by decide +kernel) rfl (Nat.le_of_ble_eq_true rfl) ?_
  intro p e s m args below meth c Q hx hb hml hown hts hE hP hret ls hl
  have hown : s.vm.findClass RX4 = some m.cls := hown
  obtain ⟨hPT, hPM, hPB, hPL, hPS⟩ := hP
  have hA := wA.lo hg
  have hS : va_S (wA g 0 19) s.heap s.heap [] := va_S.rf
  obtain ⟨H, hH⟩ : ∃ z, z = s.heap := ⟨_, rfl⟩
  obtain ⟨locs, hlocs⟩ : ∃ z : List Loc, z = [] := ⟨_, rfl⟩
  have hPT : va_P D vwCl (cellT cI g sT vT) H := by rw [hH]; exact hPT
  have hPM : va_P D vwCl (cellM cI g sM) H := by rw [hH]; exact hPM
  have hPB : va_P D vwCl (cellB cI g sB) H := by rw [hH]; exact hPB
  have hPL : va_P D vwCl (cellL cI g sL) H := by rw [hH]; exact hPL
  have hPS : va_P D vwCl (cellS cI g sS) H := by rw [hH]; exact hPS
  have hS : va_S (wA g 0 19) s.heap H locs := by rw [hH, hlocs]; exact va_S.rf
  have gW : W p l e rm_T_near s m args below meth c H locs 0 0 Q (F0 m 0 ls []) → W p l e rm_T_near s m args below meth c s.heap [] 0 0 Q (F0 m 0 ls []) := by rw [hH, hlocs]; exact id
  refine gW ?_
  have hinT : ∀ w ∈ wsX40, w ∈ wsX4_near := fun w h => List.mem_cons_of_mem _ (List.mem_append_right _ h)
  have hl : lv_has ls 2 [(0, .ref (g 0)), (1, .int p1)] := hl
  have hM : (m_T_near sT p1) = (m_T_near sT p1) := rfl
  refine lv_iload_n hx hb dX4_near_0 rfl (lv_at hl 1 rfl) ?_
  refine lv_iconst (v := 0) hx hb dX4_near_1 (by decide) ?_
  refine lv_sipush (v := 200) hx hb dX4_near_2 (by decide) ?_
  refine runS_i (va_runS (As := [.int p1, .int 0, .int 200]) (rest := []) ⟨hx, hb, hml, hown, hts⟩ (K_T_within p1 0 200) (va_cwS 3 hts gX4_near_X4_within rfl rfl rfl (by decide +kernel) ⟨Nat.le_of_ble_eq_true rfl, Nat.le_of_ble_eq_true rfl⟩) (preS_of hE hA hS trivial) rfl rfl hl.1 rfl (lv_room (Nat.le_of_ble_eq_true rfl)) dX4_near_5 ⟨Nat.zero_le _, Nat.zero_le _⟩) ?_
  refine lv_if_ne (tgt := 13) hx hb dX4_near_8 (by decide) (fun c_1 => ?_) (fun c_1 => ?_)
  · have hM := hM.trans (if_neg c_1)
    have u_1 := within_t c_1
    rw [tl_0, tl_200] at u_1
    refine lv_aload_n hx hb dX4_near_13 rfl (lv_at hl 0 rfl) ?_
    refine va_get (D := D) (ci := 4) (v := .int (sT 0 4)) (C := RX4) (T := TX4) (N := 7) hx hb hts hinT hown hE.1 hPT 0 rfl rfl 4 (by decide) (hts (.fieldLink RX4 37 "WallStones" "handling" "I") (List.mem_of_getElem? (i := 1) rfl)) (fun _ h9 => h9) rfl dX4_near_14 ?_
    refine lv_iconst (v := 2) hx hb dX4_near_17 (by decide) ?_
    refine lv_icmp_eq (tgt := 29) hx hb dX4_near_18 (by decide) (fun c_2 => ?_) (fun c_2 => ?_)
    · have hM := hM.trans (if_pos c_2)
      refine lv_aload_n hx hb dX4_near_29 rfl (lv_at hl 0 rfl) ?_
      refine lv_iload_n hx hb dX4_near_30 rfl (lv_at hl 1 rfl) ?_
      refine lv_if_ne (tgt := 38) hx hb dX4_near_31 (by decide) (fun c_3 => ?_) (fun c_3 => ?_)
      · have hM := hM.trans (if_neg c_3)
        refine lv_iconst (v := 2) hx hb dX4_near_38 (by decide) ?_
        refine va_put (D := D) (ci := 4) (v := .int 2) (ty := .int) (C := RX4) (T := TX4) (N := 7) hx hb hts hinT tyX4 tyX4_ok nmX4 hown hE.1 ((((hPT.app hPM).app hPB).app hPL).app hPS) (wD_of hg (c := 0) (n := 19) (by decide) (by decide) rfl) hS 0 rfl rfl 4 (by decide) (hts (.fieldLink RX4 37 "WallStones" "handling" "I") (List.mem_of_getElem? (i := 1) rfl)) (fun _ h9 => h9) rfl (by decide +kernel) rfl rfl (Nat.le_of_ble_eq_true rfl) dX4_near_39 (fun H locs hPn _ hS => ?_)
        have hPn : va_P D vwCl (((((cellT cI g (up sT 0 4 2) vT) ++ cellM cI g sM) ++ cellB cI g sB) ++ cellL cI g sL) ++ cellS cI g sS) H := (congrArg (fun z => va_P D vwCl z H) putTMBLS_T4).mp hPn
        have hPT : va_P D vwCl (cellT cI g (up sT 0 4 2) vT) H := hPn.sub [0] rfl
        have hPM : va_P D vwCl (cellM cI g sM) H := hPn.sub [1, 2, 3, 4, 5] rfl
        have hPB : va_P D vwCl (cellB cI g sB) H := hPn.sub [6, 7, 8, 9, 10, 11] rfl
        have hPL : va_P D vwCl (cellL cI g sL) H := hPn.sub [12, 13, 14, 15, 16] rfl
        have hPS : va_P D vwCl (cellS cI g sS) H := hPn.sub [17, 18] rfl
        refine lv_aload_n hx hb dX4_near_42 rfl (lv_at hl 0 rfl) ?_
        refine va_get (D := D) (ci := 4) (v := .int 2) (C := RX4) (T := TX4) (N := 7) hx hb hts hinT hown hE.1 hPT 0 rfl rfl 4 (by decide) (hts (.fieldLink RX4 37 "WallStones" "handling" "I") (List.mem_of_getElem? (i := 1) rfl)) (fun _ h9 => h9) rfl dX4_near_43 ?_
        have hM : (m_T_near sT p1) = ((2, (up sT 0 4 2)) : Int32 × St) := hM
        exact hret 2 H locs _ ls (nr_i _) dX4_near_46 (ret1 hM) (rP_v1 (P := fun (z0 : St) => va_P D vwCl (cellT cI g z0 vT) H ∧ va_P D vwCl (cellM cI g sM) H ∧ va_P D vwCl (cellB cI g sB) H ∧ va_P D vwCl (cellL cI g sL) H ∧ va_P D vwCl (cellS cI g sS) H) hM ⟨hPT, hPM, hPB, hPL, hPS⟩) hS
      · have hM := hM.trans (if_pos c_3)
        refine lv_iconst (v := 3) hx hb dX4_near_34 (by decide) ?_
        refine lv_goto (tgt := 39) hx hb dX4_near_35 (by decide) ?_
        refine va_put (D := D) (ci := 4) (v := .int 3) (ty := .int) (C := RX4) (T := TX4) (N := 7) hx hb hts hinT tyX4 tyX4_ok nmX4 hown hE.1 ((((hPT.app hPM).app hPB).app hPL).app hPS) (wD_of hg (c := 0) (n := 19) (by decide) (by decide) rfl) hS 0 rfl rfl 4 (by decide) (hts (.fieldLink RX4 37 "WallStones" "handling" "I") (List.mem_of_getElem? (i := 1) rfl)) (fun _ h9 => h9) rfl (by decide +kernel) rfl rfl (Nat.le_of_ble_eq_true rfl) dX4_near_39 (fun H locs hPn _ hS => ?_)
        have hPn : va_P D vwCl (((((cellT cI g (up sT 0 4 3) vT) ++ cellM cI g sM) ++ cellB cI g sB) ++ cellL cI g sL) ++ cellS cI g sS) H := (congrArg (fun z => va_P D vwCl z H) putTMBLS_T4).mp hPn
        have hPT : va_P D vwCl (cellT cI g (up sT 0 4 3) vT) H := hPn.sub [0] rfl
        have hPM : va_P D vwCl (cellM cI g sM) H := hPn.sub [1, 2, 3, 4, 5] rfl
        have hPB : va_P D vwCl (cellB cI g sB) H := hPn.sub [6, 7, 8, 9, 10, 11] rfl
        have hPL : va_P D vwCl (cellL cI g sL) H := hPn.sub [12, 13, 14, 15, 16] rfl
        have hPS : va_P D vwCl (cellS cI g sS) H := hPn.sub [17, 18] rfl
        refine lv_aload_n hx hb dX4_near_42 rfl (lv_at hl 0 rfl) ?_
        refine va_get (D := D) (ci := 4) (v := .int 3) (C := RX4) (T := TX4) (N := 7) hx hb hts hinT hown hE.1 hPT 0 rfl rfl 4 (by decide) (hts (.fieldLink RX4 37 "WallStones" "handling" "I") (List.mem_of_getElem? (i := 1) rfl)) (fun _ h9 => h9) rfl dX4_near_43 ?_
        have hM : (m_T_near sT p1) = ((3, (up sT 0 4 3)) : Int32 × St) := hM
        exact hret 3 H locs _ ls (nr_i _) dX4_near_46 (ret1 hM) (rP_v1 (P := fun (z0 : St) => va_P D vwCl (cellT cI g z0 vT) H ∧ va_P D vwCl (cellM cI g sM) H ∧ va_P D vwCl (cellB cI g sB) H ∧ va_P D vwCl (cellL cI g sL) H ∧ va_P D vwCl (cellS cI g sS) H) hM ⟨hPT, hPM, hPB, hPL, hPS⟩) hS
    · have hM := hM.trans (if_neg c_2)
      refine lv_aload_n hx hb dX4_near_21 rfl (lv_at hl 0 rfl) ?_
      refine va_get (D := D) (ci := 4) (v := .int (sT 0 4)) (C := RX4) (T := TX4) (N := 7) hx hb hts hinT hown hE.1 hPT 0 rfl rfl 4 (by decide) (hts (.fieldLink RX4 37 "WallStones" "handling" "I") (List.mem_of_getElem? (i := 1) rfl)) (fun _ h9 => h9) rfl dX4_near_22 ?_
      refine lv_iconst (v := 3) hx hb dX4_near_25 (by decide) ?_
      refine lv_icmp_ne (tgt := 42) hx hb dX4_near_26 (by decide) (fun c_4 => ?_) (fun c_4 => ?_)
      · have hM := hM.trans (if_neg c_4)
        refine lv_aload_n hx hb dX4_near_42 rfl (lv_at hl 0 rfl) ?_
        refine va_get (D := D) (ci := 4) (v := .int (sT 0 4)) (C := RX4) (T := TX4) (N := 7) hx hb hts hinT hown hE.1 hPT 0 rfl rfl 4 (by decide) (hts (.fieldLink RX4 37 "WallStones" "handling" "I") (List.mem_of_getElem? (i := 1) rfl)) (fun _ h9 => h9) rfl dX4_near_43 ?_
        have hM : (m_T_near sT p1) = (((sT 0 4), sT) : Int32 × St) := hM
        exact hret (sT 0 4) H locs _ ls (nr_i _) dX4_near_46 (ret1 hM) (rP_v1 (P := fun (z0 : St) => va_P D vwCl (cellT cI g z0 vT) H ∧ va_P D vwCl (cellM cI g sM) H ∧ va_P D vwCl (cellB cI g sB) H ∧ va_P D vwCl (cellL cI g sL) H ∧ va_P D vwCl (cellS cI g sS) H) hM ⟨hPT, hPM, hPB, hPL, hPS⟩) hS
      · have hM := hM.trans (if_pos c_4)
        refine lv_aload_n hx hb dX4_near_29 rfl (lv_at hl 0 rfl) ?_
        refine lv_iload_n hx hb dX4_near_30 rfl (lv_at hl 1 rfl) ?_
        refine lv_if_ne (tgt := 38) hx hb dX4_near_31 (by decide) (fun c_5 => ?_) (fun c_5 => ?_)
        · have hM := hM.trans (if_neg c_5)
          refine lv_iconst (v := 2) hx hb dX4_near_38 (by decide) ?_
          refine va_put (D := D) (ci := 4) (v := .int 2) (ty := .int) (C := RX4) (T := TX4) (N := 7) hx hb hts hinT tyX4 tyX4_ok nmX4 hown hE.1 ((((hPT.app hPM).app hPB).app hPL).app hPS) (wD_of hg (c := 0) (n := 19) (by decide) (by decide) rfl) hS 0 rfl rfl 4 (by decide) (hts (.fieldLink RX4 37 "WallStones" "handling" "I") (List.mem_of_getElem? (i := 1) rfl)) (fun _ h9 => h9) rfl (by decide +kernel) rfl rfl (Nat.le_of_ble_eq_true rfl) dX4_near_39 (fun H locs hPn _ hS => ?_)
          have hPn : va_P D vwCl (((((cellT cI g (up sT 0 4 2) vT) ++ cellM cI g sM) ++ cellB cI g sB) ++ cellL cI g sL) ++ cellS cI g sS) H := (congrArg (fun z => va_P D vwCl z H) putTMBLS_T4).mp hPn
          have hPT : va_P D vwCl (cellT cI g (up sT 0 4 2) vT) H := hPn.sub [0] rfl
          have hPM : va_P D vwCl (cellM cI g sM) H := hPn.sub [1, 2, 3, 4, 5] rfl
          have hPB : va_P D vwCl (cellB cI g sB) H := hPn.sub [6, 7, 8, 9, 10, 11] rfl
          have hPL : va_P D vwCl (cellL cI g sL) H := hPn.sub [12, 13, 14, 15, 16] rfl
          have hPS : va_P D vwCl (cellS cI g sS) H := hPn.sub [17, 18] rfl
          refine lv_aload_n hx hb dX4_near_42 rfl (lv_at hl 0 rfl) ?_
          refine va_get (D := D) (ci := 4) (v := .int 2) (C := RX4) (T := TX4) (N := 7) hx hb hts hinT hown hE.1 hPT 0 rfl rfl 4 (by decide) (hts (.fieldLink RX4 37 "WallStones" "handling" "I") (List.mem_of_getElem? (i := 1) rfl)) (fun _ h9 => h9) rfl dX4_near_43 ?_
          have hM : (m_T_near sT p1) = ((2, (up sT 0 4 2)) : Int32 × St) := hM
          exact hret 2 H locs _ ls (nr_i _) dX4_near_46 (ret1 hM) (rP_v1 (P := fun (z0 : St) => va_P D vwCl (cellT cI g z0 vT) H ∧ va_P D vwCl (cellM cI g sM) H ∧ va_P D vwCl (cellB cI g sB) H ∧ va_P D vwCl (cellL cI g sL) H ∧ va_P D vwCl (cellS cI g sS) H) hM ⟨hPT, hPM, hPB, hPL, hPS⟩) hS
        · have hM := hM.trans (if_pos c_5)
          refine lv_iconst (v := 3) hx hb dX4_near_34 (by decide) ?_
          refine lv_goto (tgt := 39) hx hb dX4_near_35 (by decide) ?_
          refine va_put (D := D) (ci := 4) (v := .int 3) (ty := .int) (C := RX4) (T := TX4) (N := 7) hx hb hts hinT tyX4 tyX4_ok nmX4 hown hE.1 ((((hPT.app hPM).app hPB).app hPL).app hPS) (wD_of hg (c := 0) (n := 19) (by decide) (by decide) rfl) hS 0 rfl rfl 4 (by decide) (hts (.fieldLink RX4 37 "WallStones" "handling" "I") (List.mem_of_getElem? (i := 1) rfl)) (fun _ h9 => h9) rfl (by decide +kernel) rfl rfl (Nat.le_of_ble_eq_true rfl) dX4_near_39 (fun H locs hPn _ hS => ?_)
          have hPn : va_P D vwCl (((((cellT cI g (up sT 0 4 3) vT) ++ cellM cI g sM) ++ cellB cI g sB) ++ cellL cI g sL) ++ cellS cI g sS) H := (congrArg (fun z => va_P D vwCl z H) putTMBLS_T4).mp hPn
          have hPT : va_P D vwCl (cellT cI g (up sT 0 4 3) vT) H := hPn.sub [0] rfl
          have hPM : va_P D vwCl (cellM cI g sM) H := hPn.sub [1, 2, 3, 4, 5] rfl
          have hPB : va_P D vwCl (cellB cI g sB) H := hPn.sub [6, 7, 8, 9, 10, 11] rfl
          have hPL : va_P D vwCl (cellL cI g sL) H := hPn.sub [12, 13, 14, 15, 16] rfl
          have hPS : va_P D vwCl (cellS cI g sS) H := hPn.sub [17, 18] rfl
          refine lv_aload_n hx hb dX4_near_42 rfl (lv_at hl 0 rfl) ?_
          refine va_get (D := D) (ci := 4) (v := .int 3) (C := RX4) (T := TX4) (N := 7) hx hb hts hinT hown hE.1 hPT 0 rfl rfl 4 (by decide) (hts (.fieldLink RX4 37 "WallStones" "handling" "I") (List.mem_of_getElem? (i := 1) rfl)) (fun _ h9 => h9) rfl dX4_near_43 ?_
          have hM : (m_T_near sT p1) = ((3, (up sT 0 4 3)) : Int32 × St) := hM
          exact hret 3 H locs _ ls (nr_i _) dX4_near_46 (ret1 hM) (rP_v1 (P := fun (z0 : St) => va_P D vwCl (cellT cI g z0 vT) H ∧ va_P D vwCl (cellM cI g sM) H ∧ va_P D vwCl (cellB cI g sB) H ∧ va_P D vwCl (cellL cI g sL) H ∧ va_P D vwCl (cellS cI g sS) H) hM ⟨hPT, hPM, hPB, hPL, hPS⟩) hS
  · have hM := hM.trans (if_pos c_1)
    refine lv_iconst (v := (-1)) hx hb dX4_near_11 (by decide) ?_
    have hM : (m_T_near sT p1) = (((-1), sT) : Int32 × St) := hM
    exact hret (-1) H locs _ ls (nr_i _) dX4_near_12 (ret1 hM) (rP_v1 (P := fun (z0 : St) => va_P D vwCl (cellT cI g z0 vT) H ∧ va_P D vwCl (cellM cI g sM) H ∧ va_P D vwCl (cellB cI g sB) H ∧ va_P D vwCl (cellL cI g sL) H ∧ va_P D vwCl (cellS cI g sS) H) hM ⟨hPT, hPM, hPB, hPL, hPS⟩) hS
abbrev rm_T_loose : Room := { frames := 6, cells := 0, slots := 0, locals := 148 }
set_option maxHeartbeats 4000000 in
set_option maxRecDepth 100000 in
theorem K_T_loose {l : Launch} {D : va_G} {cI : ClassId} {lo : Nat} {g : Nat → Nat} (hg : wI g 0 19 lo) (sT : St) (vT : Int64) (sM : St) (sB : St) (sL : St) (sS : St) (p1 : Int32) (p2 : Int32) (p3 : Int32) (h0 : okL sL) : WRi l D cI lo yX4_loose wsX4_loose rm_T_loose [.ref (g 0), .int p1, .int p2, .int p3] (fun H => va_P D vwCl (cellT cI g sT vT) H ∧ va_P D vwCl (cellM cI g sM) H ∧ va_P D vwCl (cellB cI g sB) H ∧ va_P D vwCl (cellL cI g sL) H ∧ va_P D vwCl (cellS cI g sS) H) (m_T_loose sT sM sL sS p1 p2 p3).1 (fun H => va_P D vwCl (cellT cI g (m_T_loose sT sM sL sS p1 p2 p3).2.1 vT) H ∧ va_P D vwCl (cellM cI g (m_T_loose sT sM sL sS p1 p2 p3).2.2.1) H ∧ va_P D vwCl (cellB cI g sB) H ∧ va_P D vwCl (cellL cI g (m_T_loose sT sM sL sS p1 p2 p3).2.2.2.1) H ∧ va_P D vwCl (cellS cI g (m_T_loose sT sM sL sS p1 p2 p3).2.2.2.2) H) (wA g 0 19) := by
  refine ofW_WRi (cc := cX4_loose) (maxL := 5) (ty := .int) (by decide +kernel) rfl (Nat.le_of_ble_eq_true rfl) ?_
  intro p e s m args below meth c Q hx hb hml hown hts hE hP hret ls hl
  have hown : s.vm.findClass RX4 = some m.cls := hown
  obtain ⟨hPT, hPM, hPB, hPL, hPS⟩ := hP
  have hA := wA.lo hg
  have hS : va_S (wA g 0 19) s.heap s.heap [] := va_S.rf
  obtain ⟨H, hH⟩ : ∃ z, z = s.heap := ⟨_, rfl⟩
  obtain ⟨locs, hlocs⟩ : ∃ z : List Loc, z = [] := ⟨_, rfl⟩
  have hPT : va_P D vwCl (cellT cI g sT vT) H := by rw [hH]; exact hPT
  have hPM : va_P D vwCl (cellM cI g sM) H := by rw [hH]; exact hPM
  have hPB : va_P D vwCl (cellB cI g sB) H := by rw [hH]; exact hPB
  have hPL : va_P D vwCl (cellL cI g sL) H := by rw [hH]; exact hPL
  have hPS : va_P D vwCl (cellS cI g sS) H := by rw [hH]; exact hPS
  have hS : va_S (wA g 0 19) s.heap H locs := by rw [hH, hlocs]; exact va_S.rf
  have gW : W p l e rm_T_loose s m args below meth c H locs 0 0 Q (F0 m 0 ls []) → W p l e rm_T_loose s m args below meth c s.heap [] 0 0 Q (F0 m 0 ls []) := by rw [hH, hlocs]; exact id
  refine gW ?_
  have hinT : ∀ w ∈ wsX40, w ∈ wsX4_loose := fun w h => List.mem_cons_of_mem _ (List.mem_append_left _ (List.mem_append_left _ (List.mem_append_left _ (List.mem_append_right _ h))))
  have hinM : ∀ w ∈ wsX10, w ∈ wsX4_loose := fun w h => List.mem_cons_of_mem _ (List.mem_append_right _ h)
  have hinL : ∀ w ∈ wsX30, w ∈ wsX4_loose := fun w h => List.mem_cons_of_mem _ (List.mem_append_left _ (List.mem_append_left _ (List.mem_append_right _ h)))
  have hinS : ∀ w ∈ wsX20, w ∈ wsX4_loose := fun w h => List.mem_cons_of_mem _ (List.mem_append_left _ (List.mem_append_right _ h))
  have hl : lv_has ls 5 [(0, .ref (g 0)), (1, .int p1), (2, .int p2), (3, .int p3)] := hl
  have nh0 := okL_lin h0
  have hM : (m_T_loose sT sM sL sS p1 p2 p3) = (m_T_loose sT sM sL sS p1 p2 p3) := rfl
  refine lv_aload_n hx hb dX4_loose_0 rfl (lv_at hl 0 rfl) ?_
  refine va_get (D := D) (ci := 4) (v := .ref (g 12)) (C := RX4) (T := TX4) (N := 7) hx hb hts hinT hown hE.1 hPT 0 rfl rfl 2 (by decide) (hts (.fieldLink RX4 26 "WallStones" "stones" "LWallStones$Wall;") (List.mem_of_getElem? (i := 1) rfl)) (fun _ h9 => h9) rfl dX4_loose_1 ?_
  refine lv_iload_n hx hb dX4_loose_4 rfl (lv_at hl 1 rfl) ?_
  refine lv_iload_n hx hb dX4_loose_5 rfl (lv_at hl 2 rfl) ?_
  refine runS_i (va_runV (As := [.int p1, .int p2]) (rest := []) ⟨hx, hb, hml, hown, hts⟩ (K_L_has (hg.sub (by decide) (by decide)) sL p1 p2) (cwV 2 hts gX4_loose_X3_has rfl rfl rfl (by decide +kernel) ⟨Nat.le_of_ble_eq_true rfl, Nat.le_of_ble_eq_true rfl⟩) (preV_of hE hA hS hPL (va_recv hE.1 hPL (ci := 3) (q0 := 0) rfl rfl)) rfl rfl hl.1 rfl (lv_room (Nat.le_of_ble_eq_true rfl)) dX4_loose_6 ⟨Nat.zero_le _, Nat.zero_le _⟩) ?_
  refine lv_if_eq (tgt := 23) hx hb dX4_loose_9 (by decide) (fun c_1 => ?_) (fun c_1 => ?_)
  · have hM := hM.trans (if_pos c_1)
    refine lv_iconst (v := (-1)) hx hb dX4_loose_23 (by decide) ?_
    have hM : (m_T_loose sT sM sL sS p1 p2 p3) = (((-1), sT, sM, sL, sS) : Int32 × St × St × St × St) := hM
    exact hret (-1) H locs _ ls (nr_i _) dX4_loose_24 (ret1 hM) (rP_v4 (P := fun (z0 : St) (z1 : St) (z2 : St) (z3 : St) => va_P D vwCl (cellT cI g z0 vT) H ∧ va_P D vwCl (cellM cI g z1) H ∧ va_P D vwCl (cellB cI g sB) H ∧ va_P D vwCl (cellL cI g z2) H ∧ va_P D vwCl (cellS cI g z3) H) hM ⟨hPT, hPM, hPB, hPL, hPS⟩) hS
  · have hM := hM.trans (if_neg c_1)
    have u_1 := has_t c_1
    refine lv_iload_n hx hb dX4_loose_12 rfl (lv_at hl 3 rfl) ?_
    refine lv_iconst (v := 0) hx hb dX4_loose_13 (by decide) ?_
    refine lv_sipush (v := 2000) hx hb dX4_loose_14 (by decide) ?_
    refine runS_i (va_runS (As := [.int p3, .int 0, .int 2000]) (rest := []) ⟨hx, hb, hml, hown, hts⟩ (K_T_within p3 0 2000) (va_cwS 3 hts gX4_loose_X4_within rfl rfl rfl (by decide +kernel) ⟨Nat.le_of_ble_eq_true rfl, Nat.le_of_ble_eq_true rfl⟩) (preS_of hE hA hS trivial) rfl rfl hl.1 rfl (lv_room (Nat.le_of_ble_eq_true rfl)) dX4_loose_17 ⟨Nat.zero_le _, Nat.zero_le _⟩) ?_
    refine lv_if_ne (tgt := 25) hx hb dX4_loose_20 (by decide) (fun c_2 => ?_) (fun c_2 => ?_)
    · have hM := hM.trans (if_neg c_2)
      have u_2 := within_t c_2
      rw [tl_0, tl_2000] at u_2
      refine lv_aload_n hx hb dX4_loose_25 rfl (lv_at hl 0 rfl) ?_
      refine va_get (D := D) (ci := 4) (v := .int (sT 0 4)) (C := RX4) (T := TX4) (N := 7) hx hb hts hinT hown hE.1 hPT 0 rfl rfl 4 (by decide) (hts (.fieldLink RX4 37 "WallStones" "handling" "I") (List.mem_of_getElem? (i := 2) rfl)) (fun _ h9 => h9) rfl dX4_loose_26 ?_
      refine lv_iconst (v := 3) hx hb dX4_loose_29 (by decide) ?_
      refine lv_icmp_ne (tgt := 43) hx hb dX4_loose_30 (by decide) (fun c_3 => ?_) (fun c_3 => ?_)
      · have hM := hM.trans (if_neg c_3)
        refine lv_bipush (v := (-2)) hx hb dX4_loose_43 (by decide) ?_
        have hM : (m_T_loose sT sM sL sS p1 p2 p3) = (((-2), sT, sM, sL, sS) : Int32 × St × St × St × St) := hM
        exact hret (-2) H locs _ ls (nr_i _) dX4_loose_45 (ret1 hM) (rP_v4 (P := fun (z0 : St) (z1 : St) (z2 : St) (z3 : St) => va_P D vwCl (cellT cI g z0 vT) H ∧ va_P D vwCl (cellM cI g z1) H ∧ va_P D vwCl (cellB cI g sB) H ∧ va_P D vwCl (cellL cI g z2) H ∧ va_P D vwCl (cellS cI g z3) H) hM ⟨hPT, hPM, hPB, hPL, hPS⟩) hS
      · have hM := hM.trans (if_pos c_3)
        refine lv_aload_n hx hb dX4_loose_33 rfl (lv_at hl 0 rfl) ?_
        refine va_get (D := D) (ci := 4) (v := .ref (g 17)) (C := RX4) (T := TX4) (N := 7) hx hb hts hinT hown hE.1 hPT 0 rfl rfl 3 (by decide) (hts (.fieldLink RX4 33 "WallStones" "siege" "LWallStones$Siege;") (List.mem_of_getElem? (i := 3) rfl)) (fun _ h9 => h9) rfl dX4_loose_34 ?_
        refine runS_i (va_runV (As := []) (rest := []) ⟨hx, hb, hml, hown, hts⟩ (K_S_stones (hg.sub (by decide) (by decide)) sS) (cwV 0 hts gX4_loose_X2_stones rfl rfl rfl (by decide +kernel) ⟨Nat.le_of_ble_eq_true rfl, Nat.le_of_ble_eq_true rfl⟩) (preV_of hE hA hS hPS (va_recv hE.1 hPS (ci := 2) (q0 := 0) rfl rfl)) rfl rfl hl.1 rfl (lv_room (Nat.le_of_ble_eq_true rfl)) dX4_loose_37 ⟨Nat.zero_le _, Nat.zero_le _⟩) ?_
        refine lv_if_ne (tgt := 46) hx hb dX4_loose_40 (by decide) (fun c_4 => ?_) (fun c_4 => ?_)
        · have hM := hM.trans (if_neg c_4)
          refine lv_aload_n hx hb dX4_loose_46 rfl (lv_at hl 0 rfl) ?_
          refine lv_iconst (v := 0) hx hb dX4_loose_47 (by decide) ?_
          refine va_put (D := D) (ci := 4) (v := .int 0) (ty := .int) (C := RX4) (T := TX4) (N := 7) hx hb hts hinT tyX4 tyX4_ok nmX4 hown hE.1 ((((hPT.app hPM).app hPB).app hPL).app hPS) (wD_of hg (c := 0) (n := 19) (by decide) (by decide) rfl) hS 0 rfl rfl 4 (by decide) (hts (.fieldLink RX4 37 "WallStones" "handling" "I") (List.mem_of_getElem? (i := 2) rfl)) (fun _ h9 => h9) rfl (by decide +kernel) rfl rfl (Nat.le_of_ble_eq_true rfl) dX4_loose_48 (fun H locs hPn _ hS => ?_)
          have hPn : va_P D vwCl (((((cellT cI g (up sT 0 4 0) vT) ++ cellM cI g sM) ++ cellB cI g sB) ++ cellL cI g sL) ++ cellS cI g sS) H := (congrArg (fun z => va_P D vwCl z H) putTMBLS_T4).mp hPn
          have hPT : va_P D vwCl (cellT cI g (up sT 0 4 0) vT) H := hPn.sub [0] rfl
          have hPM : va_P D vwCl (cellM cI g sM) H := hPn.sub [1, 2, 3, 4, 5] rfl
          have hPB : va_P D vwCl (cellB cI g sB) H := hPn.sub [6, 7, 8, 9, 10, 11] rfl
          have hPL : va_P D vwCl (cellL cI g sL) H := hPn.sub [12, 13, 14, 15, 16] rfl
          have hPS : va_P D vwCl (cellS cI g sS) H := hPn.sub [17, 18] rfl
          refine lv_aload_n hx hb dX4_loose_51 rfl (lv_at hl 0 rfl) ?_
          refine lv_dup hx hb dX4_loose_52 rfl ?_
          refine va_get (D := D) (ci := 4) (v := .int (sT 0 5)) (C := RX4) (T := TX4) (N := 7) hx hb hts hinT hown hE.1 hPT 0 rfl rfl 5 (by decide) (hts (.fieldLink RX4 183 "WallStones" "loosed" "I") (List.mem_of_getElem? (i := 4) rfl)) (fun _ h9 => h9) rfl dX4_loose_53 ?_
          refine lv_iconst (v := 1) hx hb dX4_loose_56 (by decide) ?_
          refine lv_iadd hx hb dX4_loose_57 ?_
          refine va_put (D := D) (ci := 4) (v := .int ((sT 0 5) + 1)) (ty := .int) (C := RX4) (T := TX4) (N := 7) hx hb hts hinT tyX4 tyX4_ok nmX4 hown hE.1 ((((hPT.app hPM).app hPB).app hPL).app hPS) (wD_of hg (c := 0) (n := 19) (by decide) (by decide) rfl) hS 0 rfl rfl 5 (by decide) (hts (.fieldLink RX4 183 "WallStones" "loosed" "I") (List.mem_of_getElem? (i := 4) rfl)) (fun _ h9 => h9) rfl (by decide +kernel) rfl rfl (Nat.le_of_ble_eq_true rfl) dX4_loose_58 (fun H locs hPn _ hS => ?_)
          have hPn : va_P D vwCl (((((cellT cI g (up (up sT 0 4 0) 0 5 ((sT 0 5) + 1)) vT) ++ cellM cI g sM) ++ cellB cI g sB) ++ cellL cI g sL) ++ cellS cI g sS) H := (congrArg (fun z => va_P D vwCl z H) putTMBLS_T5).mp hPn
          have hPT : va_P D vwCl (cellT cI g (up (up sT 0 4 0) 0 5 ((sT 0 5) + 1)) vT) H := hPn.sub [0] rfl
          have hPM : va_P D vwCl (cellM cI g sM) H := hPn.sub [1, 2, 3, 4, 5] rfl
          have hPB : va_P D vwCl (cellB cI g sB) H := hPn.sub [6, 7, 8, 9, 10, 11] rfl
          have hPL : va_P D vwCl (cellL cI g sL) H := hPn.sub [12, 13, 14, 15, 16] rfl
          have hPS : va_P D vwCl (cellS cI g sS) H := hPn.sub [17, 18] rfl
          refine lv_aload_n hx hb dX4_loose_61 rfl (lv_at hl 0 rfl) ?_
          refine va_get (D := D) (ci := 4) (v := .ref (g 17)) (C := RX4) (T := TX4) (N := 7) hx hb hts hinT hown hE.1 hPT 0 rfl rfl 3 (by decide) (hts (.fieldLink RX4 33 "WallStones" "siege" "LWallStones$Siege;") (List.mem_of_getElem? (i := 3) rfl)) (fun _ h9 => h9) rfl dX4_loose_62 ?_
          refine runW_v (va_runV (As := []) (rest := []) ⟨hx, hb, hml, hown, hts⟩ (K_S_spendStone (hg.sub (by decide) (by decide)) sS) (cwV 0 hts gX4_loose_X2_spendStone rfl rfl rfl (by decide +kernel) ⟨Nat.le_of_ble_eq_true rfl, Nat.le_of_ble_eq_true rfl⟩) (preV_of hE hA hS hPS (va_recv hE.1 hPS (ci := 2) (q0 := 0) rfl rfl)) rfl rfl hl.1 rfl (lv_room (Nat.le_of_ble_eq_true rfl)) dX4_loose_65 ⟨Nat.zero_le _, Nat.zero_le _⟩) hS (fun _ h9 => wA.sub (by decide) (by decide) _ h9) (fun H locs hQ hk hS => ?_)
          have hPT : va_P D vwCl (cellT cI g (up (up sT 0 4 0) 0 5 ((sT 0 5) + 1)) vT) H := wKeep hPT (wOff hg (c := 0) (n := 1) (x := 17) (y := 19) (by decide) (by decide) (by decide) (by decide) (by decide) rfl) hk
          have hPM : va_P D vwCl (cellM cI g sM) H := wKeep hPM (wOff hg (c := 1) (n := 5) (x := 17) (y := 19) (by decide) (by decide) (by decide) (by decide) (by decide) rfl) hk
          have hPB : va_P D vwCl (cellB cI g sB) H := wKeep hPB (wOff hg (c := 6) (n := 6) (x := 17) (y := 19) (by decide) (by decide) (by decide) (by decide) (by decide) rfl) hk
          have hPL : va_P D vwCl (cellL cI g sL) H := wKeep hPL (wOff hg (c := 12) (n := 5) (x := 17) (y := 19) (by decide) (by decide) (by decide) (by decide) (by decide) rfl) hk
          have hPS : va_P D vwCl (cellS cI g (m_S_spendStone sS)) H := hQ
          refine lv_aload_n hx hb dX4_loose_68 rfl (lv_at hl 0 rfl) ?_
          refine va_get (D := D) (ci := 4) (v := .ref (g 1)) (C := RX4) (T := TX4) (N := 7) hx hb hts hinT hown hE.1 hPT 0 rfl rfl 0 (by decide) (hts (.fieldLink RX4 10 "WallStones" "engine" "LWallStones$Machine;") (List.mem_of_getElem? (i := 5) rfl)) (fun _ h9 => h9) rfl dX4_loose_69 ?_
          refine runW_i (va_runV (As := []) (rest := []) ⟨hx, hb, hml, hown, hts⟩ (K_M_reckonOwn (hg.sub (by decide) (by decide)) sM) (cwV 0 hts gX4_loose_X1_reckonOwn rfl rfl rfl (by decide +kernel) ⟨Nat.le_of_ble_eq_true rfl, Nat.le_of_ble_eq_true rfl⟩) (preV_of hE hA hS hPM (va_recv hE.1 hPM (ci := 1) (q0 := 0) rfl rfl)) rfl rfl hl.1 rfl (lv_room (Nat.le_of_ble_eq_true rfl)) dX4_loose_72 ⟨Nat.zero_le _, Nat.zero_le _⟩) hS (fun _ h9 => wA.sub (by decide) (by decide) _ h9) (fun H locs hQ hk hS => ?_)
          have hPT : va_P D vwCl (cellT cI g (up (up sT 0 4 0) 0 5 ((sT 0 5) + 1)) vT) H := wKeep hPT (wOff hg (c := 0) (n := 1) (x := 1) (y := 6) (by decide) (by decide) (by decide) (by decide) (by decide) rfl) hk
          have hPB : va_P D vwCl (cellB cI g sB) H := wKeep hPB (wOff hg (c := 6) (n := 6) (x := 1) (y := 6) (by decide) (by decide) (by decide) (by decide) (by decide) rfl) hk
          have hPL : va_P D vwCl (cellL cI g sL) H := wKeep hPL (wOff hg (c := 12) (n := 5) (x := 1) (y := 6) (by decide) (by decide) (by decide) (by decide) (by decide) rfl) hk
          have hPS : va_P D vwCl (cellS cI g (m_S_spendStone sS)) H := wKeep hPS (wOff hg (c := 17) (n := 2) (x := 1) (y := 6) (by decide) (by decide) (by decide) (by decide) (by decide) rfl) hk
          have hPM : va_P D vwCl (cellM cI g (m_M_reckonOwn sM).2) H := hQ
          refine lv_istore (lv' := [(4, .int (m_M_reckonOwn sM).1), (0, .ref (g 0)), (1, .int p1), (2, .int p2), (3, .int p3)]) hx hb dX4_loose_75 hl (by decide) rfl (fun ls hl => ?_)
          refine lv_iload hx hb dX4_loose_77 (lv_at hl 0 rfl) ?_
          refine lv_bipush (v := (-9)) hx hb dX4_loose_79 (by decide) ?_
          refine lv_icmp_ne (tgt := 87) hx hb dX4_loose_81 (by decide) (fun c_5 => ?_) (fun c_5 => ?_)
          · have hM := hM.trans (if_neg c_5)
            refine lv_aload_n hx hb dX4_loose_87 rfl (lv_at hl 1 rfl) ?_
            refine va_get (D := D) (ci := 4) (v := .ref (g 12)) (C := RX4) (T := TX4) (N := 7) hx hb hts hinT hown hE.1 hPT 0 rfl rfl 2 (by decide) (hts (.fieldLink RX4 26 "WallStones" "stones" "LWallStones$Wall;") (List.mem_of_getElem? (i := 1) rfl)) (fun _ h9 => h9) rfl dX4_loose_88 ?_
            refine lv_iload_n hx hb dX4_loose_91 rfl (lv_at hl 2 rfl) ?_
            refine lv_iload_n hx hb dX4_loose_92 rfl (lv_at hl 3 rfl) ?_
            refine runS_i (va_runV (As := [.int p1, .int p2]) (rest := []) ⟨hx, hb, hml, hown, hts⟩ (K_L_stands (hg.sub (by decide) (by decide)) sL p1 p2 (by assumption)) (cwV 2 hts gX4_loose_X3_stands rfl rfl rfl (by decide +kernel) ⟨Nat.le_of_ble_eq_true rfl, Nat.le_of_ble_eq_true rfl⟩) (preV_of hE hA hS hPL (va_recv hE.1 hPL (ci := 3) (q0 := 0) rfl rfl)) rfl rfl hl.1 rfl (lv_room (Nat.le_of_ble_eq_true rfl)) dX4_loose_93 ⟨Nat.zero_le _, Nat.zero_le _⟩) ?_
            refine lv_if_eq (tgt := 129) hx hb dX4_loose_96 (by decide) (fun c_6 => ?_) (fun c_6 => ?_)
            · have hM := hM.trans (if_pos c_6)
              refine lv_iload hx hb dX4_loose_129 (lv_at hl 0 rfl) ?_
              have hM : (m_T_loose sT sM sL sS p1 p2 p3) = (((m_M_reckonOwn sM).1, (up (up sT 0 4 0) 0 5 ((sT 0 5) + 1)), (m_M_reckonOwn sM).2, sL, (m_S_spendStone sS)) : Int32 × St × St × St × St) := hM
              exact hret (m_M_reckonOwn sM).1 H locs _ ls (nr_i _) dX4_loose_131 (ret1 hM) (rP_v4 (P := fun (z0 : St) (z1 : St) (z2 : St) (z3 : St) => va_P D vwCl (cellT cI g z0 vT) H ∧ va_P D vwCl (cellM cI g z1) H ∧ va_P D vwCl (cellB cI g sB) H ∧ va_P D vwCl (cellL cI g z2) H ∧ va_P D vwCl (cellS cI g z3) H) hM ⟨hPT, hPM, hPB, hPL, hPS⟩) hS
            · have hM := hM.trans (if_neg c_6)
              have u_6 := stands_t c_6
              refine lv_iload hx hb dX4_loose_99 (lv_at hl 0 rfl) ?_
              refine lv_iload_n hx hb dX4_loose_101 rfl (lv_at hl 4 rfl) ?_
              refine lv_isub hx hb dX4_loose_102 ?_
              refine va_mabs hx hb (by rw [hml]; exact hl.1.symm) hown (hts (.methodLink RX4 189 Lib.Math.abs.name) (List.mem_of_getElem? (i := 6) rfl)) (hts (.static Lib.Math.abs.name) (List.mem_of_getElem? (i := 7) rfl)) (hts (.initialized "java/lang/Math") (List.mem_of_getElem? (i := 8) rfl)) (hts (.code Lib.Math.abs.name Lib.Math.abs.code 1 (some .int)) (List.mem_of_getElem? (i := 9) rfl)) (Nat.le_of_ble_eq_true rfl) (Nat.le_of_ble_eq_true rfl) (Nat.zero_le _) (Nat.zero_le _) dX4_loose_103 ?_
              refine lv_iconst (v := 5) hx hb dX4_loose_106 (by decide) ?_
              refine lv_icmp_gt (tgt := 129) hx hb dX4_loose_107 (by decide) (fun c_7 => ?_) (fun c_7 => ?_)
              · have hM := hM.trans (if_pos c_7)
                refine lv_iload hx hb dX4_loose_129 (lv_at hl 0 rfl) ?_
                have hM : (m_T_loose sT sM sL sS p1 p2 p3) = (((m_M_reckonOwn sM).1, (up (up sT 0 4 0) 0 5 ((sT 0 5) + 1)), (m_M_reckonOwn sM).2, sL, (m_S_spendStone sS)) : Int32 × St × St × St × St) := hM
                exact hret (m_M_reckonOwn sM).1 H locs _ ls (nr_i _) dX4_loose_131 (ret1 hM) (rP_v4 (P := fun (z0 : St) (z1 : St) (z2 : St) (z3 : St) => va_P D vwCl (cellT cI g z0 vT) H ∧ va_P D vwCl (cellM cI g z1) H ∧ va_P D vwCl (cellB cI g sB) H ∧ va_P D vwCl (cellL cI g z2) H ∧ va_P D vwCl (cellS cI g z3) H) hM ⟨hPT, hPM, hPB, hPL, hPS⟩) hS
              · have hM := hM.trans (if_neg c_7)
                refine lv_aload_n hx hb dX4_loose_110 rfl (lv_at hl 1 rfl) ?_
                refine va_get (D := D) (ci := 4) (v := .ref (g 12)) (C := RX4) (T := TX4) (N := 7) hx hb hts hinT hown hE.1 hPT 0 rfl rfl 2 (by decide) (hts (.fieldLink RX4 26 "WallStones" "stones" "LWallStones$Wall;") (List.mem_of_getElem? (i := 1) rfl)) (fun _ h9 => h9) rfl dX4_loose_111 ?_
                refine lv_iload_n hx hb dX4_loose_114 rfl (lv_at hl 2 rfl) ?_
                refine lv_iload_n hx hb dX4_loose_115 rfl (lv_at hl 3 rfl) ?_
                refine lv_aload_n hx hb dX4_loose_116 rfl (lv_at hl 1 rfl) ?_
                refine va_get (D := D) (ci := 4) (v := .ref (g 1)) (C := RX4) (T := TX4) (N := 7) hx hb hts hinT hown hE.1 hPT 0 rfl rfl 0 (by decide) (hts (.fieldLink RX4 10 "WallStones" "engine" "LWallStones$Machine;") (List.mem_of_getElem? (i := 5) rfl)) (fun _ h9 => h9) rfl dX4_loose_117 ?_
                refine lv_iload hx hb dX4_loose_120 (lv_at hl 0 rfl) ?_
                refine runS_i (va_runV (As := [.int (m_M_reckonOwn sM).1]) (rest := [.int p2, .int p1, .ref (g 12)]) ⟨hx, hb, hml, hown, hts⟩ (K_M_forceAt (hg.sub (by decide) (by decide)) (m_M_reckonOwn sM).2 (m_M_reckonOwn sM).1) (cwV 1 hts gX4_loose_X1_forceAt rfl rfl rfl (by decide +kernel) ⟨Nat.le_of_ble_eq_true rfl, Nat.le_of_ble_eq_true rfl⟩) (preV_of hE hA hS hPM (va_recv hE.1 hPM (ci := 1) (q0 := 0) rfl rfl)) rfl rfl hl.1 rfl (lv_room (Nat.le_of_ble_eq_true rfl)) dX4_loose_122 ⟨Nat.zero_le _, Nat.zero_le _⟩) ?_
                refine runW_i (va_runV (As := [.int p1, .int p2, .int (m_M_forceAt (m_M_reckonOwn sM).2 (m_M_reckonOwn sM).1)]) (rest := []) ⟨hx, hb, hml, hown, hts⟩ (K_L_strike (hg.sub (by decide) (by decide)) sL p1 p2 (m_M_forceAt (m_M_reckonOwn sM).2 (m_M_reckonOwn sM).1) (by assumption)) (cwV 3 hts gX4_loose_X3_strike rfl rfl rfl (by decide +kernel) ⟨Nat.le_of_ble_eq_true rfl, Nat.le_of_ble_eq_true rfl⟩) (preV_of hE hA hS hPL (va_recv hE.1 hPL (ci := 3) (q0 := 0) rfl rfl)) rfl rfl hl.1 rfl (lv_room (Nat.le_of_ble_eq_true rfl)) dX4_loose_125 ⟨Nat.zero_le _, Nat.zero_le _⟩) hS (fun _ h9 => wA.sub (by decide) (by decide) _ h9) (fun H locs hQ hk hS => ?_)
                have hPT : va_P D vwCl (cellT cI g (up (up sT 0 4 0) 0 5 ((sT 0 5) + 1)) vT) H := wKeep hPT (wOff hg (c := 0) (n := 1) (x := 12) (y := 17) (by decide) (by decide) (by decide) (by decide) (by decide) rfl) hk
                have hPM : va_P D vwCl (cellM cI g (m_M_reckonOwn sM).2) H := wKeep hPM (wOff hg (c := 1) (n := 5) (x := 12) (y := 17) (by decide) (by decide) (by decide) (by decide) (by decide) rfl) hk
                have hPB : va_P D vwCl (cellB cI g sB) H := wKeep hPB (wOff hg (c := 6) (n := 6) (x := 12) (y := 17) (by decide) (by decide) (by decide) (by decide) (by decide) rfl) hk
                have hPS : va_P D vwCl (cellS cI g (m_S_spendStone sS)) H := wKeep hPS (wOff hg (c := 17) (n := 2) (x := 12) (y := 17) (by decide) (by decide) (by decide) (by decide) (by decide) rfl) hk
                have hPL : va_P D vwCl (cellL cI g (m_L_strike sL p1 p2 (m_M_forceAt (m_M_reckonOwn sM).2 (m_M_reckonOwn sM).1)).2) H := hQ
                have v8 : okL (m_L_strike sL p1 p2 (m_M_forceAt (m_M_reckonOwn sM).2 (m_M_reckonOwn sM).1)).2 := okL_strike (by assumption)
                have w8_4 : ((m_L_strike sL p1 p2 (m_M_forceAt (m_M_reckonOwn sM).2 (m_M_reckonOwn sM).1)).2 0 4).toInt = (sL 0 4).toInt := congrArg Int32.toInt (fr_L_strike (by omega))
                have w8_5 : ((m_L_strike sL p1 p2 (m_M_forceAt (m_M_reckonOwn sM).2 (m_M_reckonOwn sM).1)).2 0 5).toInt = (sL 0 5).toInt := congrArg Int32.toInt (fr_L_strike (by omega))
                refine lv_pop hx hb dX4_loose_128 rfl ?_
                refine lv_iload hx hb dX4_loose_129 (lv_at hl 0 rfl) ?_
                have hM : (m_T_loose sT sM sL sS p1 p2 p3) = (((m_M_reckonOwn sM).1, (up (up sT 0 4 0) 0 5 ((sT 0 5) + 1)), (m_M_reckonOwn sM).2, (m_L_strike sL p1 p2 (m_M_forceAt (m_M_reckonOwn sM).2 (m_M_reckonOwn sM).1)).2, (m_S_spendStone sS)) : Int32 × St × St × St × St) := hM
                exact hret (m_M_reckonOwn sM).1 H locs _ ls (nr_i _) dX4_loose_131 (ret1 hM) (rP_v4 (P := fun (z0 : St) (z1 : St) (z2 : St) (z3 : St) => va_P D vwCl (cellT cI g z0 vT) H ∧ va_P D vwCl (cellM cI g z1) H ∧ va_P D vwCl (cellB cI g sB) H ∧ va_P D vwCl (cellL cI g z2) H ∧ va_P D vwCl (cellS cI g z3) H) hM ⟨hPT, hPM, hPB, hPL, hPS⟩) hS
          · have hM := hM.trans (if_pos c_5)
            refine lv_bipush (v := (-3)) hx hb dX4_loose_84 (by decide) ?_
            have hM : (m_T_loose sT sM sL sS p1 p2 p3) = (((-3), (up (up sT 0 4 0) 0 5 ((sT 0 5) + 1)), (m_M_reckonOwn sM).2, sL, (m_S_spendStone sS)) : Int32 × St × St × St × St) := hM
            exact hret (-3) H locs _ ls (nr_i _) dX4_loose_86 (ret1 hM) (rP_v4 (P := fun (z0 : St) (z1 : St) (z2 : St) (z3 : St) => va_P D vwCl (cellT cI g z0 vT) H ∧ va_P D vwCl (cellM cI g z1) H ∧ va_P D vwCl (cellB cI g sB) H ∧ va_P D vwCl (cellL cI g z2) H ∧ va_P D vwCl (cellS cI g z3) H) hM ⟨hPT, hPM, hPB, hPL, hPS⟩) hS
        · have hM := hM.trans (if_pos c_4)
          refine lv_bipush (v := (-2)) hx hb dX4_loose_43 (by decide) ?_
          have hM : (m_T_loose sT sM sL sS p1 p2 p3) = (((-2), sT, sM, sL, sS) : Int32 × St × St × St × St) := hM
          exact hret (-2) H locs _ ls (nr_i _) dX4_loose_45 (ret1 hM) (rP_v4 (P := fun (z0 : St) (z1 : St) (z2 : St) (z3 : St) => va_P D vwCl (cellT cI g z0 vT) H ∧ va_P D vwCl (cellM cI g z1) H ∧ va_P D vwCl (cellB cI g sB) H ∧ va_P D vwCl (cellL cI g z2) H ∧ va_P D vwCl (cellS cI g z3) H) hM ⟨hPT, hPM, hPB, hPL, hPS⟩) hS
    · have hM := hM.trans (if_pos c_2)
      refine lv_iconst (v := (-1)) hx hb dX4_loose_23 (by decide) ?_
      have hM : (m_T_loose sT sM sL sS p1 p2 p3) = (((-1), sT, sM, sL, sS) : Int32 × St × St × St × St) := hM
      exact hret (-1) H locs _ ls (nr_i _) dX4_loose_24 (ret1 hM) (rP_v4 (P := fun (z0 : St) (z1 : St) (z2 : St) (z3 : St) => va_P D vwCl (cellT cI g z0 vT) H ∧ va_P D vwCl (cellM cI g z1) H ∧ va_P D vwCl (cellB cI g sB) H ∧ va_P D vwCl (cellL cI g z2) H ∧ va_P D vwCl (cellS cI g z3) H) hM ⟨hPT, hPM, hPB, hPL, hPS⟩) hS
abbrev rm_T_store : Room := { frames := 3, cells := 0, slots := 0, locals := 67 }
set_option maxHeartbeats 4000000 in
set_option maxRecDepth 100000 in
theorem K_T_store {l : Launch} {D : va_G} {cI : ClassId} {lo : Nat} {g : Nat → Nat} (hg : wI g 0 19 lo) (sT : St) (vT : Int64) (sM : St) (sB : St) (sL : St) (sS : St) (p1 : Int32) (p2 : Int32) : WRi l D cI lo yX4_store wsX4_store rm_T_store [.ref (g 0), .int p1, .int p2] (fun H => va_P D vwCl (cellT cI g sT vT) H ∧ va_P D vwCl (cellM cI g sM) H ∧ va_P D vwCl (cellB cI g sB) H ∧ va_P D vwCl (cellL cI g sL) H ∧ va_P D vwCl (cellS cI g sS) H) (m_T_store sT sS p1 p2).1 (fun H => va_P D vwCl (cellT cI g sT vT) H ∧ va_P D vwCl (cellM cI g sM) H ∧ va_P D vwCl (cellB cI g sB) H ∧ va_P D vwCl (cellL cI g sL) H ∧ va_P D vwCl (cellS cI g (m_T_store sT sS p1 p2).2) H) (wA g 0 19) := by
  refine ofW_WRi (cc := cX4_store) (maxL := 3) (ty := .int) (by decide +kernel) rfl (Nat.le_of_ble_eq_true rfl) ?_
  intro p e s m args below meth c Q hx hb hml hown hts hE hP hret ls hl
  have hown : s.vm.findClass RX4 = some m.cls := hown
  obtain ⟨hPT, hPM, hPB, hPL, hPS⟩ := hP
  have hA := wA.lo hg
  have hS : va_S (wA g 0 19) s.heap s.heap [] := va_S.rf
  obtain ⟨H, hH⟩ : ∃ z, z = s.heap := ⟨_, rfl⟩
  obtain ⟨locs, hlocs⟩ : ∃ z : List Loc, z = [] := ⟨_, rfl⟩
  have hPT : va_P D vwCl (cellT cI g sT vT) H := by rw [hH]; exact hPT
  have hPM : va_P D vwCl (cellM cI g sM) H := by rw [hH]; exact hPM
  have hPB : va_P D vwCl (cellB cI g sB) H := by rw [hH]; exact hPB
  have hPL : va_P D vwCl (cellL cI g sL) H := by rw [hH]; exact hPL
  have hPS : va_P D vwCl (cellS cI g sS) H := by rw [hH]; exact hPS
  have hS : va_S (wA g 0 19) s.heap H locs := by rw [hH, hlocs]; exact va_S.rf
  have gW : W p l e rm_T_store s m args below meth c H locs 0 0 Q (F0 m 0 ls []) → W p l e rm_T_store s m args below meth c s.heap [] 0 0 Q (F0 m 0 ls []) := by rw [hH, hlocs]; exact id
  refine gW ?_
  have hinT : ∀ w ∈ wsX40, w ∈ wsX4_store := fun w h => List.mem_cons_of_mem _ (List.mem_append_left _ (List.mem_append_right _ h))
  have hinS : ∀ w ∈ wsX20, w ∈ wsX4_store := fun w h => List.mem_cons_of_mem _ (List.mem_append_right _ h)
  have hl : lv_has ls 3 [(0, .ref (g 0)), (1, .int p1), (2, .int p2)] := hl
  have hM : (m_T_store sT sS p1 p2) = (m_T_store sT sS p1 p2) := rfl
  refine lv_aload_n hx hb dX4_store_0 rfl (lv_at hl 0 rfl) ?_
  refine va_get (D := D) (ci := 4) (v := .ref (g 17)) (C := RX4) (T := TX4) (N := 7) hx hb hts hinT hown hE.1 hPT 0 rfl rfl 3 (by decide) (hts (.fieldLink RX4 33 "WallStones" "siege" "LWallStones$Siege;") (List.mem_of_getElem? (i := 1) rfl)) (fun _ h9 => h9) rfl dX4_store_1 ?_
  refine lv_iload_n hx hb dX4_store_4 rfl (lv_at hl 1 rfl) ?_
  refine lv_iload_n hx hb dX4_store_5 rfl (lv_at hl 2 rfl) ?_
  refine runS_i (va_runV (As := [.int p1, .int p2]) (rest := []) ⟨hx, hb, hml, hown, hts⟩ (K_S_takes (hg.sub (by decide) (by decide)) sS p1 p2) (cwV 2 hts gX4_store_X2_takes rfl rfl rfl (by decide +kernel) ⟨Nat.le_of_ble_eq_true rfl, Nat.le_of_ble_eq_true rfl⟩) (preV_of hE hA hS hPS (va_recv hE.1 hPS (ci := 2) (q0 := 0) rfl rfl)) rfl rfl hl.1 rfl (lv_room (Nat.le_of_ble_eq_true rfl)) dX4_store_6 ⟨Nat.zero_le _, Nat.zero_le _⟩) ?_
  refine lv_if_eq (tgt := 24) hx hb dX4_store_9 (by decide) (fun c_1 => ?_) (fun c_1 => ?_)
  · have hM := hM.trans (if_pos c_1)
    refine lv_iconst (v := (-1)) hx hb dX4_store_24 (by decide) ?_
    have hM : (m_T_store sT sS p1 p2) = (((-1), sS) : Int32 × St) := hM
    exact hret (-1) H locs _ ls (nr_i _) dX4_store_25 (ret1 hM) (rP_v1 (P := fun (z0 : St) => va_P D vwCl (cellT cI g sT vT) H ∧ va_P D vwCl (cellM cI g sM) H ∧ va_P D vwCl (cellB cI g sB) H ∧ va_P D vwCl (cellL cI g sL) H ∧ va_P D vwCl (cellS cI g z0) H) hM ⟨hPT, hPM, hPB, hPL, hPS⟩) hS
  · have hM := hM.trans (if_neg c_1)
    have u_1 := stakes_t c_1
    refine lv_aload_n hx hb dX4_store_12 rfl (lv_at hl 0 rfl) ?_
    refine va_get (D := D) (ci := 4) (v := .ref (g 17)) (C := RX4) (T := TX4) (N := 7) hx hb hts hinT hown hE.1 hPT 0 rfl rfl 3 (by decide) (hts (.fieldLink RX4 33 "WallStones" "siege" "LWallStones$Siege;") (List.mem_of_getElem? (i := 1) rfl)) (fun _ h9 => h9) rfl dX4_store_13 ?_
    refine lv_iload_n hx hb dX4_store_16 rfl (lv_at hl 1 rfl) ?_
    refine lv_iload_n hx hb dX4_store_17 rfl (lv_at hl 2 rfl) ?_
    refine runW_i (va_runV (As := [.int p1, .int p2]) (rest := []) ⟨hx, hb, hml, hown, hts⟩ (K_S_put (hg.sub (by decide) (by decide)) sS p1 p2) (cwV 2 hts gX4_store_X2_put rfl rfl rfl (by decide +kernel) ⟨Nat.le_of_ble_eq_true rfl, Nat.le_of_ble_eq_true rfl⟩) (preV_of hE hA hS hPS (va_recv hE.1 hPS (ci := 2) (q0 := 0) rfl rfl)) rfl rfl hl.1 rfl (lv_room (Nat.le_of_ble_eq_true rfl)) dX4_store_18 ⟨Nat.zero_le _, Nat.zero_le _⟩) hS (fun _ h9 => wA.sub (by decide) (by decide) _ h9) (fun H locs hQ hk hS => ?_)
    have hPT : va_P D vwCl (cellT cI g sT vT) H := wKeep hPT (wOff hg (c := 0) (n := 1) (x := 17) (y := 19) (by decide) (by decide) (by decide) (by decide) (by decide) rfl) hk
    have hPM : va_P D vwCl (cellM cI g sM) H := wKeep hPM (wOff hg (c := 1) (n := 5) (x := 17) (y := 19) (by decide) (by decide) (by decide) (by decide) (by decide) rfl) hk
    have hPB : va_P D vwCl (cellB cI g sB) H := wKeep hPB (wOff hg (c := 6) (n := 6) (x := 17) (y := 19) (by decide) (by decide) (by decide) (by decide) (by decide) rfl) hk
    have hPL : va_P D vwCl (cellL cI g sL) H := wKeep hPL (wOff hg (c := 12) (n := 5) (x := 17) (y := 19) (by decide) (by decide) (by decide) (by decide) (by decide) rfl) hk
    have hPS : va_P D vwCl (cellS cI g (m_S_put sS p1 p2).2) H := hQ
    refine lv_goto (tgt := 25) hx hb dX4_store_21 (by decide) ?_
    have hM : (m_T_store sT sS p1 p2) = (((m_S_put sS p1 p2).1, (m_S_put sS p1 p2).2) : Int32 × St) := hM
    exact hret (m_S_put sS p1 p2).1 H locs _ ls (nr_i _) dX4_store_25 (ret1 hM) (rP_v1 (P := fun (z0 : St) => va_P D vwCl (cellT cI g sT vT) H ∧ va_P D vwCl (cellM cI g sM) H ∧ va_P D vwCl (cellB cI g sB) H ∧ va_P D vwCl (cellL cI g sL) H ∧ va_P D vwCl (cellS cI g z0) H) hM ⟨hPT, hPM, hPB, hPL, hPS⟩) hS
abbrev rm_T_wet : Room := { frames := 1, cells := 0, slots := 0, locals := 22 }
set_option maxHeartbeats 4000000 in
set_option maxRecDepth 100000 in
theorem K_T_wet {l : Launch} {D : va_G} {cI : ClassId} {lo : Nat} {g : Nat → Nat} (hg : wI g 0 19 lo) (sT : St) (vT : Int64) (sM : St) (sB : St) (sL : St) (sS : St) (p1 : Int32) (p2 : Int32) : WRi l D cI lo yX4_wet wsX4_wet rm_T_wet [.ref (g 0), .int p1, .int p2] (fun H => va_P D vwCl (cellT cI g sT vT) H ∧ va_P D vwCl (cellM cI g sM) H ∧ va_P D vwCl (cellB cI g sB) H ∧ va_P D vwCl (cellL cI g sL) H ∧ va_P D vwCl (cellS cI g sS) H) (m_T_wet sT sS p1 p2).1 (fun H => va_P D vwCl (cellT cI g sT vT) H ∧ va_P D vwCl (cellM cI g sM) H ∧ va_P D vwCl (cellB cI g sB) H ∧ va_P D vwCl (cellL cI g sL) H ∧ va_P D vwCl (cellS cI g (m_T_wet sT sS p1 p2).2) H) (wA g 0 19) := by
  refine ofW_WRi (cc := cX4_wet) (maxL := 3) (ty := .int) (by decide +kernel) rfl (Nat.le_of_ble_eq_true rfl) ?_
  intro p e s m args below meth c Q hx hb hml hown hts hE hP hret ls hl
  have hown : s.vm.findClass RX4 = some m.cls := hown
  obtain ⟨hPT, hPM, hPB, hPL, hPS⟩ := hP
  have hA := wA.lo hg
  have hS : va_S (wA g 0 19) s.heap s.heap [] := va_S.rf
  obtain ⟨H, hH⟩ : ∃ z, z = s.heap := ⟨_, rfl⟩
  obtain ⟨locs, hlocs⟩ : ∃ z : List Loc, z = [] := ⟨_, rfl⟩
  have hPT : va_P D vwCl (cellT cI g sT vT) H := by rw [hH]; exact hPT
  have hPM : va_P D vwCl (cellM cI g sM) H := by rw [hH]; exact hPM
  have hPB : va_P D vwCl (cellB cI g sB) H := by rw [hH]; exact hPB
  have hPL : va_P D vwCl (cellL cI g sL) H := by rw [hH]; exact hPL
  have hPS : va_P D vwCl (cellS cI g sS) H := by rw [hH]; exact hPS
  have hS : va_S (wA g 0 19) s.heap H locs := by rw [hH, hlocs]; exact va_S.rf
  have gW : W p l e rm_T_wet s m args below meth c H locs 0 0 Q (F0 m 0 ls []) → W p l e rm_T_wet s m args below meth c s.heap [] 0 0 Q (F0 m 0 ls []) := by rw [hH, hlocs]; exact id
  refine gW ?_
  have hinT : ∀ w ∈ wsX40, w ∈ wsX4_wet := fun w h => List.mem_cons_of_mem _ (List.mem_append_left _ (List.mem_append_right _ h))
  have hinS : ∀ w ∈ wsX20, w ∈ wsX4_wet := fun w h => List.mem_cons_of_mem _ (List.mem_append_right _ h)
  have hl : lv_has ls 3 [(0, .ref (g 0)), (1, .int p1), (2, .int p2)] := hl
  have hM : (m_T_wet sT sS p1 p2) = (m_T_wet sT sS p1 p2) := rfl
  refine lv_iload_n hx hb dX4_wet_0 rfl (lv_at hl 1 rfl) ?_
  refine lv_iconst (v := 1) hx hb dX4_wet_1 (by decide) ?_
  refine lv_bipush (v := 20) hx hb dX4_wet_2 (by decide) ?_
  refine runS_i (va_runS (As := [.int p1, .int 1, .int 20]) (rest := []) ⟨hx, hb, hml, hown, hts⟩ (K_T_within p1 1 20) (va_cwS 3 hts gX4_wet_X4_within rfl rfl rfl (by decide +kernel) ⟨Nat.le_of_ble_eq_true rfl, Nat.le_of_ble_eq_true rfl⟩) (preS_of hE hA hS trivial) rfl rfl hl.1 rfl (lv_room (Nat.le_of_ble_eq_true rfl)) dX4_wet_4 ⟨Nat.zero_le _, Nat.zero_le _⟩) ?_
  refine lv_if_eq (tgt := 23) hx hb dX4_wet_7 (by decide) (fun c_1 => ?_) (fun c_1 => ?_)
  · have hM := hM.trans (if_pos c_1)
    refine lv_iconst (v := (-1)) hx hb dX4_wet_23 (by decide) ?_
    have hM : (m_T_wet sT sS p1 p2) = (((-1), sS) : Int32 × St) := hM
    exact hret (-1) H locs _ ls (nr_i _) dX4_wet_24 (ret1 hM) (rP_v1 (P := fun (z0 : St) => va_P D vwCl (cellT cI g sT vT) H ∧ va_P D vwCl (cellM cI g sM) H ∧ va_P D vwCl (cellB cI g sB) H ∧ va_P D vwCl (cellL cI g sL) H ∧ va_P D vwCl (cellS cI g z0) H) hM ⟨hPT, hPM, hPB, hPL, hPS⟩) hS
  · have hM := hM.trans (if_neg c_1)
    have u_1 := within_t c_1
    rw [tl_1, tl_20] at u_1
    refine lv_iload_n hx hb dX4_wet_10 rfl (lv_at hl 2 rfl) ?_
    refine lv_iconst (v := 0) hx hb dX4_wet_11 (by decide) ?_
    refine lv_iconst (v := 1) hx hb dX4_wet_12 (by decide) ?_
    refine lv_iload_n hx hb dX4_wet_13 rfl (lv_at hl 1 rfl) ?_
    refine lv_ishl hx hb dX4_wet_14 ?_
    refine lv_iconst (v := 1) hx hb dX4_wet_15 (by decide) ?_
    refine lv_isub hx hb dX4_wet_16 ?_
    refine runS_i (va_runS (As := [.int p2, .int 0, .int ((1 <<< (p1 &&& 31)) - 1)]) (rest := []) ⟨hx, hb, hml, hown, hts⟩ (K_T_within p2 0 ((1 <<< (p1 &&& 31)) - 1)) (va_cwS 3 hts gX4_wet_X4_within rfl rfl rfl (by decide +kernel) ⟨Nat.le_of_ble_eq_true rfl, Nat.le_of_ble_eq_true rfl⟩) (preS_of hE hA hS trivial) rfl rfl hl.1 rfl (lv_room (Nat.le_of_ble_eq_true rfl)) dX4_wet_17 ⟨Nat.zero_le _, Nat.zero_le _⟩) ?_
    refine lv_if_ne (tgt := 25) hx hb dX4_wet_20 (by decide) (fun c_2 => ?_) (fun c_2 => ?_)
    · have hM := hM.trans (if_neg c_2)
      have u_2 := within_t c_2
      rw [tl_0] at u_2
      refine lv_aload_n hx hb dX4_wet_25 rfl (lv_at hl 0 rfl) ?_
      refine va_get (D := D) (ci := 4) (v := .ref (g 17)) (C := RX4) (T := TX4) (N := 7) hx hb hts hinT hown hE.1 hPT 0 rfl rfl 3 (by decide) (hts (.fieldLink RX4 33 "WallStones" "siege" "LWallStones$Siege;") (List.mem_of_getElem? (i := 1) rfl)) (fun _ h9 => h9) rfl dX4_wet_26 ?_
      refine lv_iload_n hx hb dX4_wet_29 rfl (lv_at hl 1 rfl) ?_
      refine lv_iload_n hx hb dX4_wet_30 rfl (lv_at hl 2 rfl) ?_
      refine runW_v (va_runV (As := [.int p1, .int p2]) (rest := []) ⟨hx, hb, hml, hown, hts⟩ (K_S_putWet (hg.sub (by decide) (by decide)) sS p1 p2) (cwV 2 hts gX4_wet_X2_putWet rfl rfl rfl (by decide +kernel) ⟨Nat.le_of_ble_eq_true rfl, Nat.le_of_ble_eq_true rfl⟩) (preV_of hE hA hS hPS (va_recv hE.1 hPS (ci := 2) (q0 := 0) rfl rfl)) rfl rfl hl.1 rfl (lv_room (Nat.le_of_ble_eq_true rfl)) dX4_wet_31 ⟨Nat.zero_le _, Nat.zero_le _⟩) hS (fun _ h9 => wA.sub (by decide) (by decide) _ h9) (fun H locs hQ hk hS => ?_)
      have hPT : va_P D vwCl (cellT cI g sT vT) H := wKeep hPT (wOff hg (c := 0) (n := 1) (x := 17) (y := 19) (by decide) (by decide) (by decide) (by decide) (by decide) rfl) hk
      have hPM : va_P D vwCl (cellM cI g sM) H := wKeep hPM (wOff hg (c := 1) (n := 5) (x := 17) (y := 19) (by decide) (by decide) (by decide) (by decide) (by decide) rfl) hk
      have hPB : va_P D vwCl (cellB cI g sB) H := wKeep hPB (wOff hg (c := 6) (n := 6) (x := 17) (y := 19) (by decide) (by decide) (by decide) (by decide) (by decide) rfl) hk
      have hPL : va_P D vwCl (cellL cI g sL) H := wKeep hPL (wOff hg (c := 12) (n := 5) (x := 17) (y := 19) (by decide) (by decide) (by decide) (by decide) (by decide) rfl) hk
      have hPS : va_P D vwCl (cellS cI g (m_S_putWet sS p1 p2)) H := hQ
      refine lv_iload_n hx hb dX4_wet_34 rfl (lv_at hl 1 rfl) ?_
      have hM : (m_T_wet sT sS p1 p2) = ((p1, (m_S_putWet sS p1 p2)) : Int32 × St) := hM
      exact hret p1 H locs _ ls (nr_i _) dX4_wet_35 (ret1 hM) (rP_v1 (P := fun (z0 : St) => va_P D vwCl (cellT cI g sT vT) H ∧ va_P D vwCl (cellM cI g sM) H ∧ va_P D vwCl (cellB cI g sB) H ∧ va_P D vwCl (cellL cI g sL) H ∧ va_P D vwCl (cellS cI g z0) H) hM ⟨hPT, hPM, hPB, hPL, hPS⟩) hS
    · have hM := hM.trans (if_pos c_2)
      refine lv_iconst (v := (-1)) hx hb dX4_wet_23 (by decide) ?_
      have hM : (m_T_wet sT sS p1 p2) = (((-1), sS) : Int32 × St) := hM
      exact hret (-1) H locs _ ls (nr_i _) dX4_wet_24 (ret1 hM) (rP_v1 (P := fun (z0 : St) => va_P D vwCl (cellT cI g sT vT) H ∧ va_P D vwCl (cellM cI g sM) H ∧ va_P D vwCl (cellB cI g sB) H ∧ va_P D vwCl (cellL cI g sL) H ∧ va_P D vwCl (cellS cI g z0) H) hM ⟨hPT, hPM, hPB, hPL, hPS⟩) hS
abbrev rm_T_lasts : Room := { frames := 3, cells := 0, slots := 0, locals := 79 }
set_option maxHeartbeats 4000000 in
set_option maxRecDepth 100000 in
theorem K_T_lasts {l : Launch} {D : va_G} {cI : ClassId} {lo : Nat} {g : Nat → Nat} (hg : wI g 0 19 lo) (sT : St) (vT : Int64) (sM : St) (sB : St) (sL : St) (sS : St) (p1 : Int32) : ROi l D cI lo yX4_lasts wsX4_lasts rm_T_lasts [.ref (g 0), .int p1] (fun H => va_P D vwCl (cellT cI g sT vT) H ∧ va_P D vwCl (cellM cI g sM) H ∧ va_P D vwCl (cellB cI g sB) H ∧ va_P D vwCl (cellL cI g sL) H ∧ va_P D vwCl (cellS cI g sS) H) (m_T_lasts sT sM sS p1) := by
  refine ofW_ROi (cc := cX4_lasts) (maxL := 2) (ty := .int) (by decide +kernel) rfl (Nat.le_of_ble_eq_true rfl) ?_
  intro p e s m args below meth c Q hx hb hml hown hts hE hP hret ls hl
  have hown : s.vm.findClass RX4 = some m.cls := hown
  obtain ⟨hPT, hPM, hPB, hPL, hPS⟩ := hP
  have hA : ∀ q : Nat, (fun _ : Nat => False) q → lo ≤ q := fun _ h => h.elim
  have hS : va_S (fun _ : Nat => False) s.heap s.heap [] := va_S.rf
  have hinT : ∀ w ∈ wsX40, w ∈ wsX4_lasts := fun w h => List.mem_cons_of_mem _ (List.mem_append_left _ (List.mem_append_left _ (List.mem_append_right _ h)))
  have hinM : ∀ w ∈ wsX10, w ∈ wsX4_lasts := fun w h => List.mem_cons_of_mem _ (List.mem_append_left _ (List.mem_append_right _ h))
  have hinS : ∀ w ∈ wsX20, w ∈ wsX4_lasts := fun w h => List.mem_cons_of_mem _ (List.mem_append_right _ h)
  have hl : lv_has ls 2 [(0, .ref (g 0)), (1, .int p1)] := hl
  have hM : (m_T_lasts sT sM sS p1) = (m_T_lasts sT sM sS p1) := rfl
  refine lv_iload_n hx hb dX4_lasts_0 rfl (lv_at hl 1 rfl) ?_
  refine lv_iconst (v := 0) hx hb dX4_lasts_1 (by decide) ?_
  refine lv_bipush (v := 60) hx hb dX4_lasts_2 (by decide) ?_
  refine runS_i (va_runS (As := [.int p1, .int 0, .int 60]) (rest := []) ⟨hx, hb, hml, hown, hts⟩ (K_T_within p1 0 60) (va_cwS 3 hts gX4_lasts_X4_within rfl rfl rfl (by decide +kernel) ⟨Nat.le_of_ble_eq_true rfl, Nat.le_of_ble_eq_true rfl⟩) (preS_of hE hA hS trivial) rfl rfl hl.1 rfl (lv_room (Nat.le_of_ble_eq_true rfl)) dX4_lasts_4 ⟨Nat.zero_le _, Nat.zero_le _⟩) ?_
  refine lv_if_ne (tgt := 12) hx hb dX4_lasts_7 (by decide) (fun c_1 => ?_) (fun c_1 => ?_)
  · have hM := hM.trans (if_neg c_1)
    have u_1 := within_t c_1
    rw [tl_0, tl_60] at u_1
    refine lv_aload_n hx hb dX4_lasts_12 rfl (lv_at hl 0 rfl) ?_
    refine va_get (D := D) (ci := 4) (v := .ref (g 17)) (C := RX4) (T := TX4) (N := 7) hx hb hts hinT hown hE.1 hPT 0 rfl rfl 3 (by decide) (hts (.fieldLink RX4 33 "WallStones" "siege" "LWallStones$Siege;") (List.mem_of_getElem? (i := 1) rfl)) (fun _ h9 => h9) rfl dX4_lasts_13 ?_
    refine lv_iload_n hx hb dX4_lasts_16 rfl (lv_at hl 1 rfl) ?_
    refine lv_aload_n hx hb dX4_lasts_17 rfl (lv_at hl 0 rfl) ?_
    refine va_get (D := D) (ci := 4) (v := .ref (g 1)) (C := RX4) (T := TX4) (N := 7) hx hb hts hinT hown hE.1 hPT 0 rfl rfl 0 (by decide) (hts (.fieldLink RX4 10 "WallStones" "engine" "LWallStones$Machine;") (List.mem_of_getElem? (i := 2) rfl)) (fun _ h9 => h9) rfl dX4_lasts_18 ?_
    refine runS_i (va_runV (As := []) (rest := [.int p1, .ref (g 17)]) ⟨hx, hb, hml, hown, hts⟩ (K_M_turnsOfShot (hg.sub (by decide) (by decide)) sM) (cwV 0 hts gX4_lasts_X1_turnsOfShot rfl rfl rfl (by decide +kernel) ⟨Nat.le_of_ble_eq_true rfl, Nat.le_of_ble_eq_true rfl⟩) (preV_of hE hA hS hPM (va_recv hE.1 hPM (ci := 1) (q0 := 0) rfl rfl)) rfl rfl hl.1 rfl (lv_room (Nat.le_of_ble_eq_true rfl)) dX4_lasts_21 ⟨Nat.zero_le _, Nat.zero_le _⟩) ?_
    refine lv_bipush (v := 100) hx hb dX4_lasts_24 (by decide) ?_
    have z2 := tl_100
    refine runS_i (va_runV (As := [.int p1, .int (m_M_turnsOfShot sM), .int 100]) (rest := []) ⟨hx, hb, hml, hown, hts⟩ (K_S_wholeDays (hg.sub (by decide) (by decide)) sS p1 (m_M_turnsOfShot sM) 100 (by omega) (by omega)) (cwV 3 hts gX4_lasts_X2_wholeDays rfl rfl rfl (by decide +kernel) ⟨Nat.le_of_ble_eq_true rfl, Nat.le_of_ble_eq_true rfl⟩) (preV_of hE hA hS hPS (va_recv hE.1 hPS (ci := 2) (q0 := 0) rfl rfl)) rfl rfl hl.1 rfl (lv_room (Nat.le_of_ble_eq_true rfl)) dX4_lasts_26 ⟨Nat.zero_le _, Nat.zero_le _⟩) ?_
    have hM : (m_T_lasts sT sM sS p1) = ((m_S_wholeDays sS p1 (m_M_turnsOfShot sM) 100) : Int32) := hM
    exact hret _ _ ls (nr_i _) dX4_lasts_29 hM.symm
  · have hM := hM.trans (if_pos c_1)
    refine lv_iconst (v := (-1)) hx hb dX4_lasts_10 (by decide) ?_
    have hM : (m_T_lasts sT sM sS p1) = ((-1) : Int32) := hM
    exact hret _ _ ls (nr_i _) dX4_lasts_11 hM.symm
abbrev rm_T_rate : Room := { frames := 4, cells := 0, slots := 0, locals := 102 }
set_option maxHeartbeats 4000000 in
set_option maxRecDepth 100000 in
theorem K_T_rate {l : Launch} {D : va_G} {cI : ClassId} {lo : Nat} {g : Nat → Nat} (hg : wI g 0 19 lo) (sT : St) (vT : Int64) (sM : St) (sB : St) (sL : St) (sS : St) (p1 : Int32) : ROi l D cI lo yX4_rate wsX4_rate rm_T_rate [.ref (g 0), .int p1] (fun H => va_P D vwCl (cellT cI g sT vT) H ∧ va_P D vwCl (cellM cI g sM) H ∧ va_P D vwCl (cellB cI g sB) H ∧ va_P D vwCl (cellL cI g sL) H ∧ va_P D vwCl (cellS cI g sS) H) (m_T_rate sT sM sS p1) := by
  refine ofW_ROi (cc := cX4_rate) (maxL := 2) (ty := .int) (by decide +kernel) rfl (Nat.le_of_ble_eq_true rfl) ?_
  intro p e s m args below meth c Q hx hb hml hown hts hE hP hret ls hl
  have hown : s.vm.findClass RX4 = some m.cls := hown
  obtain ⟨hPT, hPM, hPB, hPL, hPS⟩ := hP
  have hA : ∀ q : Nat, (fun _ : Nat => False) q → lo ≤ q := fun _ h => h.elim
  have hS : va_S (fun _ : Nat => False) s.heap s.heap [] := va_S.rf
  have hinT : ∀ w ∈ wsX40, w ∈ wsX4_rate := fun w h => List.mem_cons_of_mem _ (List.mem_append_left _ (List.mem_append_left _ (List.mem_append_right _ h)))
  have hinM : ∀ w ∈ wsX10, w ∈ wsX4_rate := fun w h => List.mem_cons_of_mem _ (List.mem_append_left _ (List.mem_append_right _ h))
  have hinS : ∀ w ∈ wsX20, w ∈ wsX4_rate := fun w h => List.mem_cons_of_mem _ (List.mem_append_right _ h)
  have hl : lv_has ls 2 [(0, .ref (g 0)), (1, .int p1)] := hl
  have hM : (m_T_rate sT sM sS p1) = (m_T_rate sT sM sS p1) := rfl
  refine lv_iload_n hx hb dX4_rate_0 rfl (lv_at hl 1 rfl) ?_
  refine lv_iconst (v := 1) hx hb dX4_rate_1 (by decide) ?_
  refine lv_bipush (v := 100) hx hb dX4_rate_2 (by decide) ?_
  refine runS_i (va_runS (As := [.int p1, .int 1, .int 100]) (rest := []) ⟨hx, hb, hml, hown, hts⟩ (K_T_within p1 1 100) (va_cwS 3 hts gX4_rate_X4_within rfl rfl rfl (by decide +kernel) ⟨Nat.le_of_ble_eq_true rfl, Nat.le_of_ble_eq_true rfl⟩) (preS_of hE hA hS trivial) rfl rfl hl.1 rfl (lv_room (Nat.le_of_ble_eq_true rfl)) dX4_rate_4 ⟨Nat.zero_le _, Nat.zero_le _⟩) ?_
  refine lv_if_eq (tgt := 28) hx hb dX4_rate_7 (by decide) (fun c_1 => ?_) (fun c_1 => ?_)
  · have hM := hM.trans (if_pos c_1)
    refine lv_iconst (v := (-1)) hx hb dX4_rate_28 (by decide) ?_
    have hM : (m_T_rate sT sM sS p1) = ((-1) : Int32) := hM
    exact hret _ _ ls (nr_i _) dX4_rate_29 hM.symm
  · have hM := hM.trans (if_neg c_1)
    have u_1 := within_t c_1
    rw [tl_1, tl_100] at u_1
    refine lv_aload_n hx hb dX4_rate_10 rfl (lv_at hl 0 rfl) ?_
    refine va_get (D := D) (ci := 4) (v := .ref (g 17)) (C := RX4) (T := TX4) (N := 7) hx hb hts hinT hown hE.1 hPT 0 rfl rfl 3 (by decide) (hts (.fieldLink RX4 33 "WallStones" "siege" "LWallStones$Siege;") (List.mem_of_getElem? (i := 1) rfl)) (fun _ h9 => h9) rfl dX4_rate_11 ?_
    refine lv_iload_n hx hb dX4_rate_14 rfl (lv_at hl 1 rfl) ?_
    refine lv_aload_n hx hb dX4_rate_15 rfl (lv_at hl 0 rfl) ?_
    refine va_get (D := D) (ci := 4) (v := .ref (g 1)) (C := RX4) (T := TX4) (N := 7) hx hb hts hinT hown hE.1 hPT 0 rfl rfl 0 (by decide) (hts (.fieldLink RX4 10 "WallStones" "engine" "LWallStones$Machine;") (List.mem_of_getElem? (i := 2) rfl)) (fun _ h9 => h9) rfl dX4_rate_16 ?_
    refine runS_i (va_runV (As := []) (rest := [.int p1, .ref (g 17)]) ⟨hx, hb, hml, hown, hts⟩ (K_M_turnsOfShot (hg.sub (by decide) (by decide)) sM) (cwV 0 hts gX4_rate_X1_turnsOfShot rfl rfl rfl (by decide +kernel) ⟨Nat.le_of_ble_eq_true rfl, Nat.le_of_ble_eq_true rfl⟩) (preV_of hE hA hS hPM (va_recv hE.1 hPM (ci := 1) (q0 := 0) rfl rfl)) rfl rfl hl.1 rfl (lv_room (Nat.le_of_ble_eq_true rfl)) dX4_rate_19 ⟨Nat.zero_le _, Nat.zero_le _⟩) ?_
    refine runS_i (va_runV (As := [.int p1, .int (m_M_turnsOfShot sM)]) (rest := []) ⟨hx, hb, hml, hown, hts⟩ (K_S_bestRate (hg.sub (by decide) (by decide)) sS p1 (m_M_turnsOfShot sM) (by omega)) (cwV 2 hts gX4_rate_X2_bestRate rfl rfl rfl (by decide +kernel) ⟨Nat.le_of_ble_eq_true rfl, Nat.le_of_ble_eq_true rfl⟩) (preV_of hE hA hS hPS (va_recv hE.1 hPS (ci := 2) (q0 := 0) rfl rfl)) rfl rfl hl.1 rfl (lv_room (Nat.le_of_ble_eq_true rfl)) dX4_rate_22 ⟨Nat.zero_le _, Nat.zero_le _⟩) ?_
    refine lv_goto (tgt := 29) hx hb dX4_rate_25 (by decide) ?_
    have hM : (m_T_rate sT sM sS p1) = ((m_S_bestRate sS p1 (m_M_turnsOfShot sM)) : Int32) := hM
    exact hret _ _ ls (nr_i _) dX4_rate_29 hM.symm
abbrev rm_T_count : Room := { frames := 3, cells := 0, slots := 0, locals := 63 }
set_option maxHeartbeats 4000000 in
set_option maxRecDepth 100000 in
theorem K_T_count {l : Launch} {D : va_G} {cI : ClassId} {lo : Nat} {g : Nat → Nat} (hg : wI g 0 19 lo) (sT : St) (vT : Int64) (sM : St) (sB : St) (sL : St) (sS : St) (p1 : Int32) (h0 : okL sL) : ROi l D cI lo yX4_count wsX4_count rm_T_count [.ref (g 0), .int p1] (fun H => va_P D vwCl (cellT cI g sT vT) H ∧ va_P D vwCl (cellM cI g sM) H ∧ va_P D vwCl (cellB cI g sB) H ∧ va_P D vwCl (cellL cI g sL) H ∧ va_P D vwCl (cellS cI g sS) H) (m_T_count sT sB sL sS p1) := by
  refine ofW_ROi (cc := cX4_count) (maxL := 2) (ty := .int) (by decide +kernel) rfl (Nat.le_of_ble_eq_true rfl) ?_
  intro p e s m args below meth c Q hx hb hml hown hts hE hP hret ls hl
  have hown : s.vm.findClass RX4 = some m.cls := hown
  obtain ⟨hPT, hPM, hPB, hPL, hPS⟩ := hP
  have hA : ∀ q : Nat, (fun _ : Nat => False) q → lo ≤ q := fun _ h => h.elim
  have hS : va_S (fun _ : Nat => False) s.heap s.heap [] := va_S.rf
  have hinT : ∀ w ∈ wsX40, w ∈ wsX4_count := fun w h => List.mem_cons_of_mem _ (List.mem_append_left _ (List.mem_append_left _ (List.mem_append_left _ (List.mem_append_right _ h))))
  have hinB : ∀ w ∈ wsX00, w ∈ wsX4_count := fun w h => List.mem_cons_of_mem _ (List.mem_append_left _ (List.mem_append_right _ h))
  have hinL : ∀ w ∈ wsX30, w ∈ wsX4_count := fun w h => List.mem_cons_of_mem _ (List.mem_append_left _ (List.mem_append_left _ (List.mem_append_right _ h)))
  have hinS : ∀ w ∈ wsX20, w ∈ wsX4_count := fun w h => List.mem_cons_of_mem _ (List.mem_append_right _ h)
  have hl : lv_has ls 2 [(0, .ref (g 0)), (1, .int p1)] := hl
  have nh0 := okL_lin h0
  have hM : (m_T_count sT sB sL sS p1) = (m_T_count sT sB sL sS p1) := rfl
  refine lv_iload_n hx hb dX4_count_0 rfl (lv_at hl 1 rfl) ?_
  by_cases c_1 : p1 = 0
  · have hM := hM.trans (if_pos c_1)
    refine lv_tableIn (tgt := 48) hx hb dX4_count_1 (by rw [c_1]; decide) (by rw [c_1]; decide) (by rw [c_1]; rfl) (by decide) ?_
    have t_1 := eq_t c_1
    rw [tl_0] at t_1
    refine lv_aload_n hx hb dX4_count_48 rfl (lv_at hl 0 rfl) ?_
    refine va_get (D := D) (ci := 4) (v := .int (sT 0 4)) (C := RX4) (T := TX4) (N := 7) hx hb hts hinT hown hE.1 hPT 0 rfl rfl 4 (by decide) (hts (.fieldLink RX4 37 "WallStones" "handling" "I") (List.mem_of_getElem? (i := 1) rfl)) (fun _ h9 => h9) rfl dX4_count_49 ?_
    have hM : (m_T_count sT sB sL sS p1) = ((sT 0 4) : Int32) := hM
    exact hret _ _ ls (nr_i _) dX4_count_52 hM.symm
  · have hM := hM.trans (if_neg c_1)
    have t_1 := ne_t c_1
    rw [tl_0] at t_1
    by_cases c_2 : p1 = 1
    · have hM := hM.trans (if_pos c_2)
      refine lv_tableIn (tgt := 53) hx hb dX4_count_1 (by rw [c_2]; decide) (by rw [c_2]; decide) (by rw [c_2]; rfl) (by decide) ?_
      have t_2 := eq_t c_2
      rw [tl_1] at t_2
      refine lv_aload_n hx hb dX4_count_53 rfl (lv_at hl 0 rfl) ?_
      refine va_get (D := D) (ci := 4) (v := .ref (g 12)) (C := RX4) (T := TX4) (N := 7) hx hb hts hinT hown hE.1 hPT 0 rfl rfl 2 (by decide) (hts (.fieldLink RX4 26 "WallStones" "stones" "LWallStones$Wall;") (List.mem_of_getElem? (i := 2) rfl)) (fun _ h9 => h9) rfl dX4_count_54 ?_
      refine runS_i (va_runV (As := []) (rest := []) ⟨hx, hb, hml, hown, hts⟩ (K_L_wide (hg.sub (by decide) (by decide)) sL) (cwV 0 hts gX4_count_X3_wide rfl rfl rfl (by decide +kernel) ⟨Nat.le_of_ble_eq_true rfl, Nat.le_of_ble_eq_true rfl⟩) (preV_of hE hA hS hPL (va_recv hE.1 hPL (ci := 3) (q0 := 0) rfl rfl)) rfl rfl hl.1 rfl (lv_room (Nat.le_of_ble_eq_true rfl)) dX4_count_57 ⟨Nat.zero_le _, Nat.zero_le _⟩) ?_
      have hM : (m_T_count sT sB sL sS p1) = ((m_L_wide sL) : Int32) := hM
      exact hret _ _ ls (nr_i _) dX4_count_60 hM.symm
    · have hM := hM.trans (if_neg c_2)
      have t_2 := ne_t c_2
      rw [tl_1] at t_2
      by_cases c_3 : p1 = 2
      · have hM := hM.trans (if_pos c_3)
        refine lv_tableIn (tgt := 61) hx hb dX4_count_1 (by rw [c_3]; decide) (by rw [c_3]; decide) (by rw [c_3]; rfl) (by decide) ?_
        have t_3 := eq_t c_3
        rw [tl_2] at t_3
        refine lv_aload_n hx hb dX4_count_61 rfl (lv_at hl 0 rfl) ?_
        refine va_get (D := D) (ci := 4) (v := .ref (g 12)) (C := RX4) (T := TX4) (N := 7) hx hb hts hinT hown hE.1 hPT 0 rfl rfl 2 (by decide) (hts (.fieldLink RX4 26 "WallStones" "stones" "LWallStones$Wall;") (List.mem_of_getElem? (i := 2) rfl)) (fun _ h9 => h9) rfl dX4_count_62 ?_
        refine runS_i (va_runV (As := []) (rest := []) ⟨hx, hb, hml, hown, hts⟩ (K_L_high (hg.sub (by decide) (by decide)) sL) (cwV 0 hts gX4_count_X3_high rfl rfl rfl (by decide +kernel) ⟨Nat.le_of_ble_eq_true rfl, Nat.le_of_ble_eq_true rfl⟩) (preV_of hE hA hS hPL (va_recv hE.1 hPL (ci := 3) (q0 := 0) rfl rfl)) rfl rfl hl.1 rfl (lv_room (Nat.le_of_ble_eq_true rfl)) dX4_count_65 ⟨Nat.zero_le _, Nat.zero_le _⟩) ?_
        have hM : (m_T_count sT sB sL sS p1) = ((m_L_high sL) : Int32) := hM
        exact hret _ _ ls (nr_i _) dX4_count_68 hM.symm
      · have hM := hM.trans (if_neg c_3)
        have t_3 := ne_t c_3
        rw [tl_2] at t_3
        by_cases c_4 : p1 = 3
        · have hM := hM.trans (if_pos c_4)
          refine lv_tableIn (tgt := 69) hx hb dX4_count_1 (by rw [c_4]; decide) (by rw [c_4]; decide) (by rw [c_4]; rfl) (by decide) ?_
          have t_4 := eq_t c_4
          rw [tl_3] at t_4
          refine lv_aload_n hx hb dX4_count_69 rfl (lv_at hl 0 rfl) ?_
          refine va_get (D := D) (ci := 4) (v := .ref (g 12)) (C := RX4) (T := TX4) (N := 7) hx hb hts hinT hown hE.1 hPT 0 rfl rfl 2 (by decide) (hts (.fieldLink RX4 26 "WallStones" "stones" "LWallStones$Wall;") (List.mem_of_getElem? (i := 2) rfl)) (fun _ h9 => h9) rfl dX4_count_70 ?_
          refine runS_i (va_runV (As := []) (rest := []) ⟨hx, hb, hml, hown, hts⟩ (K_L_standingCells (hg.sub (by decide) (by decide)) sL (by assumption)) (cwV 0 hts gX4_count_X3_standingCells rfl rfl rfl (by decide +kernel) ⟨Nat.le_of_ble_eq_true rfl, Nat.le_of_ble_eq_true rfl⟩) (preV_of hE hA hS hPL (va_recv hE.1 hPL (ci := 3) (q0 := 0) rfl rfl)) rfl rfl hl.1 rfl (lv_room (Nat.le_of_ble_eq_true rfl)) dX4_count_73 ⟨Nat.zero_le _, Nat.zero_le _⟩) ?_
          have hM : (m_T_count sT sB sL sS p1) = ((m_L_standingCells sL) : Int32) := hM
          exact hret _ _ ls (nr_i _) dX4_count_76 hM.symm
        · have hM := hM.trans (if_neg c_4)
          have t_4 := ne_t c_4
          rw [tl_3] at t_4
          by_cases c_5 : p1 = 4
          · have hM := hM.trans (if_pos c_5)
            refine lv_tableIn (tgt := 77) hx hb dX4_count_1 (by rw [c_5]; decide) (by rw [c_5]; decide) (by rw [c_5]; rfl) (by decide) ?_
            have t_5 := eq_t c_5
            rw [tl_4] at t_5
            refine lv_aload_n hx hb dX4_count_77 rfl (lv_at hl 0 rfl) ?_
            refine va_get (D := D) (ci := 4) (v := .ref (g 6)) (C := RX4) (T := TX4) (N := 7) hx hb hts hinT hown hE.1 hPT 0 rfl rfl 1 (by decide) (hts (.fieldLink RX4 19 "WallStones" "book" "LWallStones$Book;") (List.mem_of_getElem? (i := 3) rfl)) (fun _ h9 => h9) rfl dX4_count_78 ?_
            refine runS_i (va_runV (As := []) (rest := []) ⟨hx, hb, hml, hown, hts⟩ (K_B_told (hg.sub (by decide) (by decide)) sB) (cwV 0 hts gX4_count_X0_told rfl rfl rfl (by decide +kernel) ⟨Nat.le_of_ble_eq_true rfl, Nat.le_of_ble_eq_true rfl⟩) (preV_of hE hA hS hPB (va_recv hE.1 hPB (ci := 0) (q0 := 0) rfl rfl)) rfl rfl hl.1 rfl (lv_room (Nat.le_of_ble_eq_true rfl)) dX4_count_81 ⟨Nat.zero_le _, Nat.zero_le _⟩) ?_
            have hM : (m_T_count sT sB sL sS p1) = ((m_B_told sB) : Int32) := hM
            exact hret _ _ ls (nr_i _) dX4_count_84 hM.symm
          · have hM := hM.trans (if_neg c_5)
            have t_5 := ne_t c_5
            rw [tl_4] at t_5
            by_cases c_6 : p1 = 5
            · have hM := hM.trans (if_pos c_6)
              refine lv_tableIn (tgt := 85) hx hb dX4_count_1 (by rw [c_6]; decide) (by rw [c_6]; decide) (by rw [c_6]; rfl) (by decide) ?_
              have t_6 := eq_t c_6
              rw [tl_5] at t_6
              refine lv_aload_n hx hb dX4_count_85 rfl (lv_at hl 0 rfl) ?_
              refine va_get (D := D) (ci := 4) (v := .int (sT 0 5)) (C := RX4) (T := TX4) (N := 7) hx hb hts hinT hown hE.1 hPT 0 rfl rfl 5 (by decide) (hts (.fieldLink RX4 183 "WallStones" "loosed" "I") (List.mem_of_getElem? (i := 4) rfl)) (fun _ h9 => h9) rfl dX4_count_86 ?_
              have hM : (m_T_count sT sB sL sS p1) = ((sT 0 5) : Int32) := hM
              exact hret _ _ ls (nr_i _) dX4_count_89 hM.symm
            · have hM := hM.trans (if_neg c_6)
              have t_6 := ne_t c_6
              rw [tl_5] at t_6
              by_cases c_7 : p1 = 6
              · have hM := hM.trans (if_pos c_7)
                refine lv_tableIn (tgt := 90) hx hb dX4_count_1 (by rw [c_7]; decide) (by rw [c_7]; decide) (by rw [c_7]; rfl) (by decide) ?_
                have t_7 := eq_t c_7
                rw [tl_6] at t_7
                refine lv_aload_n hx hb dX4_count_90 rfl (lv_at hl 0 rfl) ?_
                refine va_get (D := D) (ci := 4) (v := .ref (g 17)) (C := RX4) (T := TX4) (N := 7) hx hb hts hinT hown hE.1 hPT 0 rfl rfl 3 (by decide) (hts (.fieldLink RX4 33 "WallStones" "siege" "LWallStones$Siege;") (List.mem_of_getElem? (i := 5) rfl)) (fun _ h9 => h9) rfl dX4_count_91 ?_
                refine runS_i (va_runV (As := []) (rest := []) ⟨hx, hb, hml, hown, hts⟩ (K_S_stones (hg.sub (by decide) (by decide)) sS) (cwV 0 hts gX4_count_X2_stones rfl rfl rfl (by decide +kernel) ⟨Nat.le_of_ble_eq_true rfl, Nat.le_of_ble_eq_true rfl⟩) (preV_of hE hA hS hPS (va_recv hE.1 hPS (ci := 2) (q0 := 0) rfl rfl)) rfl rfl hl.1 rfl (lv_room (Nat.le_of_ble_eq_true rfl)) dX4_count_94 ⟨Nat.zero_le _, Nat.zero_le _⟩) ?_
                have hM : (m_T_count sT sB sL sS p1) = ((m_S_stones sS) : Int32) := hM
                exact hret _ _ ls (nr_i _) dX4_count_97 hM.symm
              · have hM := hM.trans (if_neg c_7)
                have t_7 := ne_t c_7
                rw [tl_6] at t_7
                by_cases c_8 : p1 = 7
                · have hM := hM.trans (if_pos c_8)
                  refine lv_tableIn (tgt := 98) hx hb dX4_count_1 (by rw [c_8]; decide) (by rw [c_8]; decide) (by rw [c_8]; rfl) (by decide) ?_
                  have t_8 := eq_t c_8
                  rw [tl_7] at t_8
                  refine lv_aload_n hx hb dX4_count_98 rfl (lv_at hl 0 rfl) ?_
                  refine va_get (D := D) (ci := 4) (v := .ref (g 12)) (C := RX4) (T := TX4) (N := 7) hx hb hts hinT hown hE.1 hPT 0 rfl rfl 2 (by decide) (hts (.fieldLink RX4 26 "WallStones" "stones" "LWallStones$Wall;") (List.mem_of_getElem? (i := 2) rfl)) (fun _ h9 => h9) rfl dX4_count_99 ?_
                  refine runS_i (va_runV (As := []) (rest := []) ⟨hx, hb, hml, hown, hts⟩ (K_L_openColumns (hg.sub (by decide) (by decide)) sL (by assumption)) (cwV 0 hts gX4_count_X3_openColumns rfl rfl rfl (by decide +kernel) ⟨Nat.le_of_ble_eq_true rfl, Nat.le_of_ble_eq_true rfl⟩) (preV_of hE hA hS hPL (va_recv hE.1 hPL (ci := 3) (q0 := 0) rfl rfl)) rfl rfl hl.1 rfl (lv_room (Nat.le_of_ble_eq_true rfl)) dX4_count_102 ⟨Nat.zero_le _, Nat.zero_le _⟩) ?_
                  have hM : (m_T_count sT sB sL sS p1) = ((m_L_openColumns sL) : Int32) := hM
                  exact hret _ _ ls (nr_i _) dX4_count_105 hM.symm
                · have hM := hM.trans (if_neg c_8)
                  have t_8 := ne_t c_8
                  rw [tl_7] at t_8
                  refine lv_tableOut (tgt := 106) hx hb dX4_count_1 (by omega) (by decide) ?_
                  refine lv_iconst (v := (-1)) hx hb dX4_count_106 (by decide) ?_
                  have hM : (m_T_count sT sB sL sS p1) = ((-1) : Int32) := hM
                  exact hret _ _ ls (nr_i _) dX4_count_107 hM.symm
abbrev rm_T_trace : Room := { frames := 0, cells := 0, slots := 0, locals := 0 }
set_option maxHeartbeats 4000000 in
set_option maxRecDepth 100000 in
theorem K_T_trace {l : Launch} {D : va_G} {cI : ClassId} {lo : Nat} {g : Nat → Nat} (hg : wI g 0 19 lo) (sT : St) (vT : Int64) (sM : St) (sB : St) (sL : St) (sS : St) : ROl l D cI lo yX4_trace wsX4_trace rm_T_trace [.ref (g 0)] (fun H => va_P D vwCl (cellT cI g sT vT) H ∧ va_P D vwCl (cellM cI g sM) H ∧ va_P D vwCl (cellB cI g sB) H ∧ va_P D vwCl (cellL cI g sL) H ∧ va_P D vwCl (cellS cI g sS) H) (m_T_trace sT vT) := by
  refine ofW_ROl (cc := cX4_trace) (maxL := 1) (by decide +kernel) rfl (Nat.le_of_ble_eq_true rfl) ?_
  intro p e s m args below meth c Q hx hb hml hown hts hE hP hret ls hl
  have hown : s.vm.findClass RX4 = some m.cls := hown
  obtain ⟨hPT, hPM, hPB, hPL, hPS⟩ := hP
  have hA : ∀ q : Nat, (fun _ : Nat => False) q → lo ≤ q := fun _ h => h.elim
  have hS : va_S (fun _ : Nat => False) s.heap s.heap [] := va_S.rf
  have hinT : ∀ w ∈ wsX40, w ∈ wsX4_trace := fun w h => List.mem_cons_of_mem _ (List.mem_append_right _ h)
  have hl : lv_has ls 1 [(0, .ref (g 0))] := hl
  have hM : (m_T_trace sT vT) = (m_T_trace sT vT) := rfl
  refine lv_aload_n hx hb dX4_trace_0 rfl (lv_at hl 0 rfl) ?_
  refine va_get (D := D) (ci := 4) (v := .long vT) (C := RX4) (T := TX4) (N := 7) hx hb hts hinT hown hE.1 hPT 0 rfl rfl 6 (by decide) (hts (.fieldLink RX4 67 "WallStones" "traced" "J") (List.mem_of_getElem? (i := 1) rfl)) (fun _ h9 => h9) rfl dX4_trace_1 ?_
  have hM : (m_T_trace sT vT) = (vT : Int64) := hM
  exact hret _ _ ls dX4_trace_4 hM.symm
