abbrev rm_B_putSpread : Room := { frames := 0, cells := 0, slots := 0, locals := 0 }
set_option maxHeartbeats 4000000 in
set_option maxRecDepth 100000 in
theorem K_B_putSpread {l : Launch} {D : va_G} {cI : ClassId} {lo : Nat} {g : Nat → Nat} (hg : wI g 6 12 lo) (sB : St) (p1 : Int32) : WRi l D cI lo yX0_putSpread wsX0_putSpread rm_B_putSpread [.ref (g 6), .int p1] (fun H => va_P D vwCl (cellB cI g sB) H) (m_B_putSpread sB p1).1 (fun H => va_P D vwCl (cellB cI g (m_B_putSpread sB p1).2) H) (wA g 6 12) := by
  refine ofW_WRi (cc := cX0_putSpread) (maxL := 3) (ty := .int) (by decide +kernel) rfl (Nat.le_of_ble_eq_true rfl) ?_
  intro p e s m args below meth c Q hx hb hml hown hts hE hP hret ls hl
  have hown : s.vm.findClass RX0 = some m.cls := hown
  have hPB := hP
  have hA := wA.lo hg
  have hS : va_S (wA g 6 12) s.heap s.heap [] := va_S.rf
  obtain ⟨H, hH⟩ : ∃ z, z = s.heap := ⟨_, rfl⟩
  obtain ⟨locs, hlocs⟩ : ∃ z : List Loc, z = [] := ⟨_, rfl⟩
  have hPB : va_P D vwCl (cellB cI g sB) H := by rw [hH]; exact hPB
  have hS : va_S (wA g 6 12) s.heap H locs := by rw [hH, hlocs]; exact va_S.rf
  have gW : W p l e rm_B_putSpread s m args below meth c H locs 0 0 Q (F0 m 0 ls []) → W p l e rm_B_putSpread s m args below meth c s.heap [] 0 0 Q (F0 m 0 ls []) := by rw [hH, hlocs]; exact id
  refine gW ?_
  have hinB : ∀ w ∈ wsX00, w ∈ wsX0_putSpread := fun w h => List.mem_cons_of_mem _ (List.mem_append_right _ h)
  have hl : lv_has ls 3 [(0, .ref (g 6)), (1, .int p1)] := hl
  have hM : (m_B_putSpread sB p1) = (m_B_putSpread sB p1) := rfl
  refine lv_aload_n hx hb dX0_putSpread_0 rfl (lv_at hl 0 rfl) ?_
  refine va_get (D := D) (ci := 0) (v := .int (sB 0 6)) (C := RX0) (T := TX0) (N := 7) hx hb hts hinB hown hE.1 hPB 0 rfl rfl 6 (by decide) (hts (.fieldLink RX0 29 "WallStones$Book" "spreadNow" "I") (List.mem_of_getElem? (i := 1) rfl)) (fun _ h9 => h9) rfl dX0_putSpread_1 ?_
  refine lv_istore_n (lv' := [(2, .int (sB 0 6)), (0, .ref (g 6)), (1, .int p1)]) hx hb dX0_putSpread_4 rfl hl (by decide) rfl (fun ls hl => ?_)
  refine lv_aload_n hx hb dX0_putSpread_5 rfl (lv_at hl 1 rfl) ?_
  refine lv_iload_n hx hb dX0_putSpread_6 rfl (lv_at hl 2 rfl) ?_
  refine va_put (D := D) (ci := 0) (v := .int p1) (ty := .int) (C := RX0) (T := TX0) (N := 7) hx hb hts hinB tyX0 tyX0_ok nmX0 hown hE.1 hPB (wD_of hg (c := 6) (n := 6) (by decide) (by decide) rfl) hS 0 rfl rfl 6 (by decide) (hts (.fieldLink RX0 29 "WallStones$Book" "spreadNow" "I") (List.mem_of_getElem? (i := 1) rfl)) (fun _ h9 => h9) rfl (by decide +kernel) rfl rfl (Nat.le_of_ble_eq_true rfl) dX0_putSpread_7 (fun H locs hPn _ hS => ?_)
  have hPB : va_P D vwCl (cellB cI g (up sB 0 6 p1)) H := (congrArg (fun z => va_P D vwCl z H) putB_B6).mp hPn
  refine lv_iload_n hx hb dX0_putSpread_10 rfl (lv_at hl 0 rfl) ?_
  have hM : (m_B_putSpread sB p1) = (((sB 0 6), (up sB 0 6 p1)) : Int32 × St) := hM
  exact hret (sB 0 6) H locs _ ls (nr_i _) dX0_putSpread_11 (ret1 hM) (rP_v1 (P := fun (z0 : St) => va_P D vwCl (cellB cI g z0) H) hM hPB) hS
abbrev rm_B_tell : Room := { frames := 0, cells := 0, slots := 0, locals := 0 }
set_option maxHeartbeats 4000000 in
set_option maxRecDepth 100000 in
theorem K_B_tell {l : Launch} {D : va_G} {cI : ClassId} {lo : Nat} {g : Nat → Nat} (hg : wI g 6 12 lo) (sB : St) (p1 : Int32) (p2 : Int32) (h0 : 0 ≤ (sB 0 5).toInt) : WRi l D cI lo yX0_tell wsX0_tell rm_B_tell [.ref (g 6), .int p1, .int p2] (fun H => va_P D vwCl (cellB cI g sB) H) (m_B_tell sB p1 p2).1 (fun H => va_P D vwCl (cellB cI g (m_B_tell sB p1 p2).2) H) (wA g 6 12) := by
  refine ofW_WRi (cc := cX0_tell) (maxL := 3) (ty := .boolean) (by decide +kernel) rfl (Nat.le_of_ble_eq_true rfl) ?_
  intro p e s m args below meth c Q hx hb hml hown hts hE hP hret ls hl
  have hown : s.vm.findClass RX0 = some m.cls := hown
  have hPB := hP
  have hA := wA.lo hg
  have hS : va_S (wA g 6 12) s.heap s.heap [] := va_S.rf
  obtain ⟨H, hH⟩ : ∃ z, z = s.heap := ⟨_, rfl⟩
  obtain ⟨locs, hlocs⟩ : ∃ z : List Loc, z = [] := ⟨_, rfl⟩
  have hPB : va_P D vwCl (cellB cI g sB) H := by rw [hH]; exact hPB
  have hS : va_S (wA g 6 12) s.heap H locs := by rw [hH, hlocs]; exact va_S.rf
  have gW : W p l e rm_B_tell s m args below meth c H locs 0 0 Q (F0 m 0 ls []) → W p l e rm_B_tell s m args below meth c s.heap [] 0 0 Q (F0 m 0 ls []) := by rw [hH, hlocs]; exact id
  refine gW ?_
  have hinB : ∀ w ∈ wsX00, w ∈ wsX0_tell := fun w h => List.mem_cons_of_mem _ (List.mem_append_right _ h)
  have hl : lv_has ls 3 [(0, .ref (g 6)), (1, .int p1), (2, .int p2)] := hl
  have hM : (m_B_tell sB p1 p2) = (m_B_tell sB p1 p2) := rfl
  refine lv_aload_n hx hb dX0_tell_0 rfl (lv_at hl 0 rfl) ?_
  refine va_get (D := D) (ci := 0) (v := .int (sB 0 5)) (C := RX0) (T := TX0) (N := 7) hx hb hts hinB hown hE.1 hPB 0 rfl rfl 5 (by decide) (hts (.fieldLink RX0 33 "WallStones$Book" "shots" "I") (List.mem_of_getElem? (i := 1) rfl)) (fun _ h9 => h9) rfl dX0_tell_1 ?_
  refine lv_aload_n hx hb dX0_tell_4 rfl (lv_at hl 0 rfl) ?_
  refine va_get (D := D) (ci := 0) (v := .ref (g 8)) (C := RX0) (T := TX0) (N := 7) hx hb hts hinB hown hE.1 hPB 0 rfl rfl 1 (by decide) (hts (.fieldLink RX0 17 "WallStones$Book" "shotHook" "[I") (List.mem_of_getElem? (i := 2) rfl)) (fun _ h9 => h9) rfl dX0_tell_5 ?_
  refine va_alen hx hb hE.1 hPB 2 0 rfl rfl (v := 16) rfl dX0_tell_8 ?_
  refine lv_icmp_ge (tgt := 24) hx hb dX0_tell_9 (by decide) (fun c_1 => ?_) (fun c_1 => ?_)
  · have hM := hM.trans (if_pos c_1)
    have t_1 := le_t c_1
    rw [tl_16] at t_1
    refine lv_iconst (v := 0) hx hb dX0_tell_24 (by decide) ?_
    have hM : (m_B_tell sB p1 p2) = ((0, sB) : Int32 × St) := hM
    exact hret 0 H locs _ ls (by decide) dX0_tell_25 (ret1 hM) (rP_v1 (P := fun (z0 : St) => va_P D vwCl (cellB cI g z0) H) hM hPB) hS
  · have hM := hM.trans (if_neg c_1)
    have t_1 := nle_t c_1
    rw [tl_16] at t_1
    refine lv_aload_n hx hb dX0_tell_12 rfl (lv_at hl 0 rfl) ?_
    refine va_get (D := D) (ci := 0) (v := .int (sB 0 5)) (C := RX0) (T := TX0) (N := 7) hx hb hts hinB hown hE.1 hPB 0 rfl rfl 5 (by decide) (hts (.fieldLink RX0 33 "WallStones$Book" "shots" "I") (List.mem_of_getElem? (i := 1) rfl)) (fun _ h9 => h9) rfl dX0_tell_13 ?_
    refine lv_aload_n hx hb dX0_tell_16 rfl (lv_at hl 0 rfl) ?_
    refine va_get (D := D) (ci := 0) (v := .ref (g 9)) (C := RX0) (T := TX0) (N := 7) hx hb hts hinB hown hE.1 hPB 0 rfl rfl 2 (by decide) (hts (.fieldLink RX0 20 "WallStones$Book" "shotFell" "[I") (List.mem_of_getElem? (i := 3) rfl)) (fun _ h9 => h9) rfl dX0_tell_17 ?_
    refine va_alen hx hb hE.1 hPB 3 0 rfl rfl (v := 16) rfl dX0_tell_20 ?_
    refine lv_icmp_lt (tgt := 26) hx hb dX0_tell_21 (by decide) (fun c_2 => ?_) (fun c_2 => ?_)
    · have hM := hM.trans (if_pos c_2)
      have t_2 := lt_t c_2
      rw [tl_16] at t_2
      refine lv_aload_n hx hb dX0_tell_26 rfl (lv_at hl 0 rfl) ?_
      refine va_get (D := D) (ci := 0) (v := .ref (g 8)) (C := RX0) (T := TX0) (N := 7) hx hb hts hinB hown hE.1 hPB 0 rfl rfl 1 (by decide) (hts (.fieldLink RX0 17 "WallStones$Book" "shotHook" "[I") (List.mem_of_getElem? (i := 2) rfl)) (fun _ h9 => h9) rfl dX0_tell_27 ?_
      refine lv_aload_n hx hb dX0_tell_30 rfl (lv_at hl 0 rfl) ?_
      refine va_get (D := D) (ci := 0) (v := .int (sB 0 5)) (C := RX0) (T := TX0) (N := 7) hx hb hts hinB hown hE.1 hPB 0 rfl rfl 5 (by decide) (hts (.fieldLink RX0 33 "WallStones$Book" "shots" "I") (List.mem_of_getElem? (i := 1) rfl)) (fun _ h9 => h9) rfl dX0_tell_31 ?_
      refine lv_iload_n hx hb dX0_tell_34 rfl (lv_at hl 1 rfl) ?_
      refine va_iast hx hb hE.1 hPB (wD_of hg (c := 6) (n := 6) (by decide) (by decide) rfl) hS 2 0 rfl rfl (vp_in_iff.mpr (by omega)) dX0_tell_35 (fun H locs hPn _ hS => ?_)
      have hPB : va_P D vwCl (cellB cI g (up sB 2 (Int32.toNatClampNeg (sB 0 5)) p1)) H := (congrArg (fun z => va_P D vwCl z H) setB_B2).mp hPn
      refine lv_aload_n hx hb dX0_tell_36 rfl (lv_at hl 0 rfl) ?_
      refine va_get (D := D) (ci := 0) (v := .ref (g 9)) (C := RX0) (T := TX0) (N := 7) hx hb hts hinB hown hE.1 hPB 0 rfl rfl 2 (by decide) (hts (.fieldLink RX0 20 "WallStones$Book" "shotFell" "[I") (List.mem_of_getElem? (i := 3) rfl)) (fun _ h9 => h9) rfl dX0_tell_37 ?_
      refine lv_aload_n hx hb dX0_tell_40 rfl (lv_at hl 0 rfl) ?_
      refine va_get (D := D) (ci := 0) (v := .int (sB 0 5)) (C := RX0) (T := TX0) (N := 7) hx hb hts hinB hown hE.1 hPB 0 rfl rfl 5 (by decide) (hts (.fieldLink RX0 33 "WallStones$Book" "shots" "I") (List.mem_of_getElem? (i := 1) rfl)) (fun _ h9 => h9) rfl dX0_tell_41 ?_
      refine lv_iload_n hx hb dX0_tell_44 rfl (lv_at hl 2 rfl) ?_
      refine va_iast hx hb hE.1 hPB (wD_of hg (c := 6) (n := 6) (by decide) (by decide) rfl) hS 3 0 rfl rfl (vp_in_iff.mpr (by omega)) dX0_tell_45 (fun H locs hPn _ hS => ?_)
      have hPB : va_P D vwCl (cellB cI g (up (up sB 2 (Int32.toNatClampNeg (sB 0 5)) p1) 3 (Int32.toNatClampNeg (sB 0 5)) p2)) H := (congrArg (fun z => va_P D vwCl z H) setB_B3).mp hPn
      refine lv_aload_n hx hb dX0_tell_46 rfl (lv_at hl 0 rfl) ?_
      refine lv_dup hx hb dX0_tell_47 rfl ?_
      refine va_get (D := D) (ci := 0) (v := .int (sB 0 5)) (C := RX0) (T := TX0) (N := 7) hx hb hts hinB hown hE.1 hPB 0 rfl rfl 5 (by decide) (hts (.fieldLink RX0 33 "WallStones$Book" "shots" "I") (List.mem_of_getElem? (i := 1) rfl)) (fun _ h9 => h9) rfl dX0_tell_48 ?_
      refine lv_iconst (v := 1) hx hb dX0_tell_51 (by decide) ?_
      refine lv_iadd hx hb dX0_tell_52 ?_
      refine va_put (D := D) (ci := 0) (v := .int ((sB 0 5) + 1)) (ty := .int) (C := RX0) (T := TX0) (N := 7) hx hb hts hinB tyX0 tyX0_ok nmX0 hown hE.1 hPB (wD_of hg (c := 6) (n := 6) (by decide) (by decide) rfl) hS 0 rfl rfl 5 (by decide) (hts (.fieldLink RX0 33 "WallStones$Book" "shots" "I") (List.mem_of_getElem? (i := 1) rfl)) (fun _ h9 => h9) rfl (by decide +kernel) rfl rfl (Nat.le_of_ble_eq_true rfl) dX0_tell_53 (fun H locs hPn _ hS => ?_)
      have hPB : va_P D vwCl (cellB cI g (up (up (up sB 2 (Int32.toNatClampNeg (sB 0 5)) p1) 3 (Int32.toNatClampNeg (sB 0 5)) p2) 0 5 ((sB 0 5) + 1))) H := (congrArg (fun z => va_P D vwCl z H) putB_B5).mp hPn
      refine lv_iconst (v := 1) hx hb dX0_tell_56 (by decide) ?_
      have hM : (m_B_tell sB p1 p2) = ((1, (up (up (up sB 2 (Int32.toNatClampNeg (sB 0 5)) p1) 3 (Int32.toNatClampNeg (sB 0 5)) p2) 0 5 ((sB 0 5) + 1))) : Int32 × St) := hM
      exact hret 1 H locs _ ls (by decide) dX0_tell_57 (ret1 hM) (rP_v1 (P := fun (z0 : St) => va_P D vwCl (cellB cI g z0) H) hM hPB) hS
    · have hM := hM.trans (if_neg c_2)
      have t_2 := nlt_t c_2
      rw [tl_16] at t_2
      refine lv_iconst (v := 0) hx hb dX0_tell_24 (by decide) ?_
      have hM : (m_B_tell sB p1 p2) = ((0, sB) : Int32 × St) := hM
      exact hret 0 H locs _ ls (by decide) dX0_tell_25 (ret1 hM) (rP_v1 (P := fun (z0 : St) => va_P D vwCl (cellB cI g z0) H) hM hPB) hS
abbrev rm_B_told : Room := { frames := 0, cells := 0, slots := 0, locals := 0 }
set_option maxHeartbeats 4000000 in
set_option maxRecDepth 100000 in
theorem K_B_told {l : Launch} {D : va_G} {cI : ClassId} {lo : Nat} {g : Nat → Nat} (hg : wI g 6 12 lo) (sB : St) : ROi l D cI lo yX0_told wsX0_told rm_B_told [.ref (g 6)] (fun H => va_P D vwCl (cellB cI g sB) H) (m_B_told sB) := by
  refine ofW_ROi (cc := cX0_told) (maxL := 1) (ty := .int) (by decide +kernel) rfl (Nat.le_of_ble_eq_true rfl) ?_
  intro p e s m args below meth c Q hx hb hml hown hts hE hP hret ls hl
  have hown : s.vm.findClass RX0 = some m.cls := hown
  have hPB := hP
  have hA : ∀ q : Nat, (fun _ : Nat => False) q → lo ≤ q := fun _ h => h.elim
  have hS : va_S (fun _ : Nat => False) s.heap s.heap [] := va_S.rf
  have hinB : ∀ w ∈ wsX00, w ∈ wsX0_told := fun w h => List.mem_cons_of_mem _ (List.mem_append_right _ h)
  have hl : lv_has ls 1 [(0, .ref (g 6))] := hl
  have hM : (m_B_told sB) = (m_B_told sB) := rfl
  refine lv_aload_n hx hb dX0_told_0 rfl (lv_at hl 0 rfl) ?_
  refine va_get (D := D) (ci := 0) (v := .int (sB 0 5)) (C := RX0) (T := TX0) (N := 7) hx hb hts hinB hown hE.1 hPB 0 rfl rfl 5 (by decide) (hts (.fieldLink RX0 33 "WallStones$Book" "shots" "I") (List.mem_of_getElem? (i := 1) rfl)) (fun _ h9 => h9) rfl dX0_told_1 ?_
  have hM : (m_B_told sB) = ((sB 0 5) : Int32) := hM
  exact hret _ _ ls (nr_i _) dX0_told_4 hM.symm
abbrev rm_B_forgetShots : Room := { frames := 0, cells := 0, slots := 0, locals := 0 }
set_option maxHeartbeats 4000000 in
set_option maxRecDepth 100000 in
theorem K_B_forgetShots {l : Launch} {D : va_G} {cI : ClassId} {lo : Nat} {g : Nat → Nat} (hg : wI g 6 12 lo) (sB : St) : WRi l D cI lo yX0_forgetShots wsX0_forgetShots rm_B_forgetShots [.ref (g 6)] (fun H => va_P D vwCl (cellB cI g sB) H) (m_B_forgetShots sB).1 (fun H => va_P D vwCl (cellB cI g (m_B_forgetShots sB).2) H) (wA g 6 12) := by
  refine ofW_WRi (cc := cX0_forgetShots) (maxL := 2) (ty := .int) (by decide +kernel) rfl (Nat.le_of_ble_eq_true rfl) ?_
  intro p e s m args below meth c Q hx hb hml hown hts hE hP hret ls hl
  have hown : s.vm.findClass RX0 = some m.cls := hown
  have hPB := hP
  have hA := wA.lo hg
  have hS : va_S (wA g 6 12) s.heap s.heap [] := va_S.rf
  obtain ⟨H, hH⟩ : ∃ z, z = s.heap := ⟨_, rfl⟩
  obtain ⟨locs, hlocs⟩ : ∃ z : List Loc, z = [] := ⟨_, rfl⟩
  have hPB : va_P D vwCl (cellB cI g sB) H := by rw [hH]; exact hPB
  have hS : va_S (wA g 6 12) s.heap H locs := by rw [hH, hlocs]; exact va_S.rf
  have gW : W p l e rm_B_forgetShots s m args below meth c H locs 0 0 Q (F0 m 0 ls []) → W p l e rm_B_forgetShots s m args below meth c s.heap [] 0 0 Q (F0 m 0 ls []) := by rw [hH, hlocs]; exact id
  refine gW ?_
  have hinB : ∀ w ∈ wsX00, w ∈ wsX0_forgetShots := fun w h => List.mem_cons_of_mem _ (List.mem_append_right _ h)
  have hl : lv_has ls 2 [(0, .ref (g 6))] := hl
  have hM : (m_B_forgetShots sB) = (m_B_forgetShots sB) := rfl
  refine lv_aload_n hx hb dX0_forgetShots_0 rfl (lv_at hl 0 rfl) ?_
  refine va_get (D := D) (ci := 0) (v := .int (sB 0 5)) (C := RX0) (T := TX0) (N := 7) hx hb hts hinB hown hE.1 hPB 0 rfl rfl 5 (by decide) (hts (.fieldLink RX0 33 "WallStones$Book" "shots" "I") (List.mem_of_getElem? (i := 1) rfl)) (fun _ h9 => h9) rfl dX0_forgetShots_1 ?_
  refine lv_istore_n (lv' := [(1, .int (sB 0 5)), (0, .ref (g 6))]) hx hb dX0_forgetShots_4 rfl hl (by decide) rfl (fun ls hl => ?_)
  refine lv_aload_n hx hb dX0_forgetShots_5 rfl (lv_at hl 1 rfl) ?_
  refine lv_iconst (v := 0) hx hb dX0_forgetShots_6 (by decide) ?_
  refine va_put (D := D) (ci := 0) (v := .int 0) (ty := .int) (C := RX0) (T := TX0) (N := 7) hx hb hts hinB tyX0 tyX0_ok nmX0 hown hE.1 hPB (wD_of hg (c := 6) (n := 6) (by decide) (by decide) rfl) hS 0 rfl rfl 5 (by decide) (hts (.fieldLink RX0 33 "WallStones$Book" "shots" "I") (List.mem_of_getElem? (i := 1) rfl)) (fun _ h9 => h9) rfl (by decide +kernel) rfl rfl (Nat.le_of_ble_eq_true rfl) dX0_forgetShots_7 (fun H locs hPn _ hS => ?_)
  have hPB : va_P D vwCl (cellB cI g (up sB 0 5 0)) H := (congrArg (fun z => va_P D vwCl z H) putB_B5).mp hPn
  refine lv_iload_n hx hb dX0_forgetShots_10 rfl (lv_at hl 0 rfl) ?_
  have hM : (m_B_forgetShots sB) = (((sB 0 5), (up sB 0 5 0)) : Int32 × St) := hM
  exact hret (sB 0 5) H locs _ ls (nr_i _) dX0_forgetShots_11 (ret1 hM) (rP_v1 (P := fun (z0 : St) => va_P D vwCl (cellB cI g z0) H) hM hPB) hS
abbrev rm_B_scaled : Room := { frames := 2, cells := 0, slots := 0, locals := 48 }
set_option maxHeartbeats 4000000 in
set_option maxRecDepth 100000 in
theorem K_B_scaled {l : Launch} {D : va_G} {cI : ClassId} {lo : Nat} {g : Nat → Nat} (hg : wI g 6 12 lo) (sB : St) (p1 : Int32) (p2 : Int32) (h0 : 0 ≤ p2.toInt ∧ p2.toInt ≤ 60) : ROi l D cI lo yX0_scaled wsX0_scaled rm_B_scaled [.ref (g 6), .int p1, .int p2] (fun H => va_P D vwCl (cellB cI g sB) H) (m_B_scaled sB p1 p2) := by
  refine ofW_ROi (cc := cX0_scaled) (maxL := 3) (ty := .int) (by decide +kernel) rfl (Nat.le_of_ble_eq_true rfl) ?_
  intro p e s m args below meth c Q hx hb hml hown hts hE hP hret ls hl
  have hown : s.vm.findClass RX0 = some m.cls := hown
  have hPB := hP
  have hA : ∀ q : Nat, (fun _ : Nat => False) q → lo ≤ q := fun _ h => h.elim
  have hS : va_S (fun _ : Nat => False) s.heap s.heap [] := va_S.rf
  have hinB : ∀ w ∈ wsX00, w ∈ wsX0_scaled := fun w h => List.mem_cons_of_mem _ (List.mem_append_right _ h)
  have hl : lv_has ls 3 [(0, .ref (g 6)), (1, .int p1), (2, .int p2)] := hl
  have hM : (m_B_scaled sB p1 p2) = (m_B_scaled sB p1 p2) := rfl
  refine lv_aload_n hx hb dX0_scaled_0 rfl (lv_at hl 0 rfl) ?_
  refine va_get (D := D) (ci := 0) (v := .ref (g 7)) (C := RX0) (T := TX0) (N := 7) hx hb hts hinB hown hE.1 hPB 0 rfl rfl 0 (by decide) (hts (.fieldLink RX0 11 "WallStones$Book" "ranges" "[I") (List.mem_of_getElem? (i := 1) rfl)) (fun _ h9 => h9) rfl dX0_scaled_1 ?_
  refine lv_iload_n hx hb dX0_scaled_4 rfl (lv_at hl 2 rfl) ?_
  refine va_iald hx hb hE.1 hPB 1 0 rfl rfl (vp_in_iff.mpr (by omega)) dX0_scaled_5 ?_
  refine W.eq (g2 := F0 m 6 ls [.int (sB 1 (Int32.toNatClampNeg p2))]) rfl ?_
  refine lv_i2l (v := (Int32.toInt64 (sB 1 (Int32.toNatClampNeg p2)))) hx hb dX0_scaled_6 rfl ?_
  refine lv_bipush (v := 85) hx hb dX0_scaled_7 (by decide) ?_
  refine lv_iload_n hx hb dX0_scaled_9 rfl (lv_at hl 1 rfl) ?_
  refine lv_iadd hx hb dX0_scaled_10 ?_
  refine lv_i2l (v := (Int32.toInt64 (85 + p1))) hx hb dX0_scaled_11 rfl ?_
  refine lv_lmul hx hb dX0_scaled_12 ?_
  refine lv_ldc2 (own := RX0) (index := 59) (v := 100) hx hb hown (hts (.constantLong RX0 59 (100)) (List.mem_of_getElem? (i := 2) rfl)) dX0_scaled_13 ?_
  refine runS_l (va_runSN (As := [.long ((Int32.toInt64 (sB 1 (Int32.toNatClampNeg p2))) * (Int32.toInt64 (85 + p1))), .long 100]) (rest := []) ⟨hx, hb, hml, hown, hts⟩ (K_T_down ((Int32.toInt64 (sB 1 (Int32.toNatClampNeg p2))) * (Int32.toInt64 (85 + p1))) 100) ⟨va_cnB 2 hts gX0_scaled_X4_down_n61 rfl rfl rfl hE.2.1.1 (hts (.initialized RX4) (List.mem_of_getElem? (i := 4) rfl)) (by decide +kernel) ⟨Nat.le_of_ble_eq_true rfl, Nat.le_of_ble_eq_true rfl⟩, (hts (.static yX4_down) (List.mem_of_getElem? (i := 3) rfl)), trivial⟩ (preS_of hE hA hS trivial) rfl rfl hl.1 rfl (lv_room (Nat.le_of_ble_eq_true rfl)) dX0_scaled_16 ⟨Nat.zero_le _, Nat.zero_le _⟩) ?_
  refine lv_l2i (v := (Int64.toInt32 (m_T_down ((Int32.toInt64 (sB 1 (Int32.toNatClampNeg p2))) * (Int32.toInt64 (85 + p1))) 100))) hx hb dX0_scaled_19 rfl ?_
  have hM : (m_B_scaled sB p1 p2) = ((Int64.toInt32 (m_T_down ((Int32.toInt64 (sB 1 (Int32.toNatClampNeg p2))) * (Int32.toInt64 (85 + p1))) 100)) : Int32) := hM
  exact hret _ _ ls (nr_i _) dX0_scaled_20 hM.symm
abbrev rm_B_bear : Room := { frames := 3, cells := 0, slots := 0, locals := 70 }
set_option maxHeartbeats 4000000 in
set_option maxRecDepth 100000 in
theorem K_B_bear {l : Launch} {D : va_G} {cI : ClassId} {lo : Nat} {g : Nat → Nat} (hg : wI g 6 12 lo) (sB : St) (p1 : Int32) (p2 : Int32) (p3 : Int32) (h0 : 0 ≤ p1.toInt ∧ p1.toInt ≤ 30) (h1 : 0 ≤ p2.toInt ∧ p2.toInt ≤ 60) : WRv l D cI lo yX0_bear wsX0_bear rm_B_bear [.ref (g 6), .int p1, .int p2, .int p3] (fun H => va_P D vwCl (cellB cI g sB) H) (fun H => va_P D vwCl (cellB cI g (m_B_bear sB p1 p2 p3)) H) (wA g 6 12) := by
  refine ofW_WRv (cc := cX0_bear) (maxL := 5) (by decide +kernel) rfl (Nat.le_of_ble_eq_true rfl) ?_
  intro p e s m args below meth c Q hx hb hml hown hts hE hP hret ls hl
  have hown : s.vm.findClass RX0 = some m.cls := hown
  have hPB := hP
  have hA := wA.lo hg
  have hS : va_S (wA g 6 12) s.heap s.heap [] := va_S.rf
  obtain ⟨H, hH⟩ : ∃ z, z = s.heap := ⟨_, rfl⟩
  obtain ⟨locs, hlocs⟩ : ∃ z : List Loc, z = [] := ⟨_, rfl⟩
  have hPB : va_P D vwCl (cellB cI g sB) H := by rw [hH]; exact hPB
  have hS : va_S (wA g 6 12) s.heap H locs := by rw [hH, hlocs]; exact va_S.rf
  have gW : W p l e rm_B_bear s m args below meth c H locs 0 0 Q (F0 m 0 ls []) → W p l e rm_B_bear s m args below meth c s.heap [] 0 0 Q (F0 m 0 ls []) := by rw [hH, hlocs]; exact id
  refine gW ?_
  have hinB : ∀ w ∈ wsX00, w ∈ wsX0_bear := fun w h => List.mem_cons_of_mem _ (List.mem_append_right _ h)
  have hl : lv_has ls 5 [(0, .ref (g 6)), (1, .int p1), (2, .int p2), (3, .int p3)] := hl
  have hM : (m_B_bear sB p1 p2 p3) = (m_B_bear sB p1 p2 p3) := rfl
  refine lv_aload_n hx hb dX0_bear_0 rfl (lv_at hl 0 rfl) ?_
  refine va_get (D := D) (ci := 0) (v := .ref (g 7)) (C := RX0) (T := TX0) (N := 7) hx hb hts hinB hown hE.1 hPB 0 rfl rfl 0 (by decide) (hts (.fieldLink RX0 11 "WallStones$Book" "ranges" "[I") (List.mem_of_getElem? (i := 1) rfl)) (fun _ h9 => h9) rfl dX0_bear_1 ?_
  refine lv_iload_n hx hb dX0_bear_4 rfl (lv_at hl 2 rfl) ?_
  refine va_iald hx hb hE.1 hPB 1 0 rfl rfl (vp_in_iff.mpr (by omega)) dX0_bear_5 ?_
  refine W.eq (g2 := F0 m 6 ls [.int (sB 1 (Int32.toNatClampNeg p2))]) rfl ?_
  refine lv_bipush (v := (-9)) hx hb dX0_bear_6 (by decide) ?_
  refine lv_icmp_ne (tgt := 20) hx hb dX0_bear_8 (by decide) (fun c_1 => ?_) (fun c_1 => ?_)
  · have hM := hM.trans (if_neg c_1)
    have t_1 := ne_t c_1
    rw [tl_m9] at t_1
    refine lv_iload_n hx hb dX0_bear_20 rfl (lv_at hl 3 rfl) ?_
    refine lv_aload_n hx hb dX0_bear_21 rfl (lv_at hl 0 rfl) ?_
    refine lv_iload_n hx hb dX0_bear_22 rfl (lv_at hl 1 rfl) ?_
    refine lv_iload_n hx hb dX0_bear_23 rfl (lv_at hl 2 rfl) ?_
    refine runS_i (va_runV (As := [.int p1, .int p2]) (rest := [.int p3]) ⟨hx, hb, hml, hown, hts⟩ (K_B_scaled hg sB p1 p2 (by omega)) (cwV 2 hts gX0_bear_X0_scaled rfl rfl rfl (by decide +kernel) ⟨Nat.le_of_ble_eq_true rfl, Nat.le_of_ble_eq_true rfl⟩) (preV_of hE hA hS hPB (va_recv hE.1 hPB (ci := 0) (q0 := 0) rfl rfl)) rfl rfl hl.1 rfl (lv_room (Nat.le_of_ble_eq_true rfl)) dX0_bear_24 ⟨Nat.zero_le _, Nat.zero_le _⟩) ?_
    refine lv_isub hx hb dX0_bear_27 ?_
    refine lv_istore (lv' := [(4, .int (p3 - (m_B_scaled sB p1 p2))), (0, .ref (g 6)), (1, .int p1), (2, .int p2), (3, .int p3)]) hx hb dX0_bear_28 hl (by decide) rfl (fun ls hl => ?_)
    refine lv_aload_n hx hb dX0_bear_30 rfl (lv_at hl 1 rfl) ?_
    refine va_get (D := D) (ci := 0) (v := .ref (g 10)) (C := RX0) (T := TX0) (N := 7) hx hb hts hinB hown hE.1 hPB 0 rfl rfl 3 (by decide) (hts (.fieldLink RX0 23 "WallStones$Book" "leastDrift" "[I") (List.mem_of_getElem? (i := 3) rfl)) (fun _ h9 => h9) rfl dX0_bear_31 ?_
    refine lv_iload_n hx hb dX0_bear_34 rfl (lv_at hl 2 rfl) ?_
    refine lv_aload_n hx hb dX0_bear_35 rfl (lv_at hl 1 rfl) ?_
    refine va_get (D := D) (ci := 0) (v := .ref (g 10)) (C := RX0) (T := TX0) (N := 7) hx hb hts hinB hown hE.1 hPB 0 rfl rfl 3 (by decide) (hts (.fieldLink RX0 23 "WallStones$Book" "leastDrift" "[I") (List.mem_of_getElem? (i := 3) rfl)) (fun _ h9 => h9) rfl dX0_bear_36 ?_
    refine lv_iload_n hx hb dX0_bear_39 rfl (lv_at hl 2 rfl) ?_
    refine va_iald hx hb hE.1 hPB 4 0 rfl rfl (vp_in_iff.mpr (by omega)) dX0_bear_40 ?_
    refine W.eq (g2 := F0 m 41 ls [.int (sB 4 (Int32.toNatClampNeg p1)), .int p1, .ref (g 10)]) rfl ?_
    refine lv_iload hx hb dX0_bear_41 (lv_at hl 0 rfl) ?_
    refine lv_aload_n hx hb dX0_bear_43 rfl (lv_at hl 1 rfl) ?_
    refine va_get (D := D) (ci := 0) (v := .int (sB 0 6)) (C := RX0) (T := TX0) (N := 7) hx hb hts hinB hown hE.1 hPB 0 rfl rfl 6 (by decide) (hts (.fieldLink RX0 29 "WallStones$Book" "spreadNow" "I") (List.mem_of_getElem? (i := 4) rfl)) (fun _ h9 => h9) rfl dX0_bear_44 ?_
    refine lv_isub hx hb dX0_bear_47 ?_
    refine va_mmax hx hb (by rw [hml]; exact hl.1.symm) hown (hts (.methodLink RX0 51 Lib.Math.max.name) (List.mem_of_getElem? (i := 5) rfl)) (hts (.static Lib.Math.max.name) (List.mem_of_getElem? (i := 6) rfl)) (hts (.initialized "java/lang/Math") (List.mem_of_getElem? (i := 7) rfl)) (hts (.code Lib.Math.max.name Lib.Math.max.code 2 (some .int)) (List.mem_of_getElem? (i := 8) rfl)) (Nat.le_of_ble_eq_true rfl) (Nat.le_of_ble_eq_true rfl) (Nat.zero_le _) (Nat.zero_le _) dX0_bear_48 ?_
    refine va_iast hx hb hE.1 hPB (wD_of hg (c := 6) (n := 6) (by decide) (by decide) rfl) hS 4 0 rfl rfl (vp_in_iff.mpr (by omega)) dX0_bear_51 (fun H locs hPn _ hS => ?_)
    have hPB : va_P D vwCl (cellB cI g (up sB 4 (Int32.toNatClampNeg p1) (if (sB 4 (Int32.toNatClampNeg p1)) < ((p3 - (m_B_scaled sB p1 p2)) - (sB 0 6)) then ((p3 - (m_B_scaled sB p1 p2)) - (sB 0 6)) else (sB 4 (Int32.toNatClampNeg p1))))) H := (congrArg (fun z => va_P D vwCl z H) setB_B4).mp hPn
    refine lv_aload_n hx hb dX0_bear_52 rfl (lv_at hl 1 rfl) ?_
    refine va_get (D := D) (ci := 0) (v := .ref (g 11)) (C := RX0) (T := TX0) (N := 7) hx hb hts hinB hown hE.1 hPB 0 rfl rfl 4 (by decide) (hts (.fieldLink RX0 26 "WallStones$Book" "greatestDrift" "[I") (List.mem_of_getElem? (i := 2) rfl)) (fun _ h9 => h9) rfl dX0_bear_53 ?_
    refine lv_iload_n hx hb dX0_bear_56 rfl (lv_at hl 2 rfl) ?_
    refine lv_aload_n hx hb dX0_bear_57 rfl (lv_at hl 1 rfl) ?_
    refine va_get (D := D) (ci := 0) (v := .ref (g 11)) (C := RX0) (T := TX0) (N := 7) hx hb hts hinB hown hE.1 hPB 0 rfl rfl 4 (by decide) (hts (.fieldLink RX0 26 "WallStones$Book" "greatestDrift" "[I") (List.mem_of_getElem? (i := 2) rfl)) (fun _ h9 => h9) rfl dX0_bear_58 ?_
    refine lv_iload_n hx hb dX0_bear_61 rfl (lv_at hl 2 rfl) ?_
    refine va_iald hx hb hE.1 hPB 5 0 rfl rfl (vp_in_iff.mpr (by omega)) dX0_bear_62 ?_
    refine W.eq (g2 := F0 m 63 ls [.int (sB 5 (Int32.toNatClampNeg p1)), .int p1, .ref (g 11)]) rfl ?_
    refine lv_iload hx hb dX0_bear_63 (lv_at hl 0 rfl) ?_
    refine lv_aload_n hx hb dX0_bear_65 rfl (lv_at hl 1 rfl) ?_
    refine va_get (D := D) (ci := 0) (v := .int (sB 0 6)) (C := RX0) (T := TX0) (N := 7) hx hb hts hinB hown hE.1 hPB 0 rfl rfl 6 (by decide) (hts (.fieldLink RX0 29 "WallStones$Book" "spreadNow" "I") (List.mem_of_getElem? (i := 4) rfl)) (fun _ h9 => h9) rfl dX0_bear_66 ?_
    refine lv_iadd hx hb dX0_bear_69 ?_
    refine va_mmin hx hb (by rw [hml]; exact hl.1.symm) hown (hts (.methodLink RX0 56 Lib.Math.min.name) (List.mem_of_getElem? (i := 9) rfl)) (hts (.static Lib.Math.min.name) (List.mem_of_getElem? (i := 10) rfl)) (hts (.initialized "java/lang/Math") (List.mem_of_getElem? (i := 7) rfl)) (hts (.code Lib.Math.min.name Lib.Math.min.code 2 (some .int)) (List.mem_of_getElem? (i := 11) rfl)) (Nat.le_of_ble_eq_true rfl) (Nat.le_of_ble_eq_true rfl) (Nat.zero_le _) (Nat.zero_le _) dX0_bear_70 ?_
    refine va_iast hx hb hE.1 hPB (wD_of hg (c := 6) (n := 6) (by decide) (by decide) rfl) hS 5 0 rfl rfl (vp_in_iff.mpr (by omega)) dX0_bear_73 (fun H locs hPn _ hS => ?_)
    have hPB : va_P D vwCl (cellB cI g (up (up sB 4 (Int32.toNatClampNeg p1) (if (sB 4 (Int32.toNatClampNeg p1)) < ((p3 - (m_B_scaled sB p1 p2)) - (sB 0 6)) then ((p3 - (m_B_scaled sB p1 p2)) - (sB 0 6)) else (sB 4 (Int32.toNatClampNeg p1)))) 5 (Int32.toNatClampNeg p1) (if ((p3 - (m_B_scaled sB p1 p2)) + (sB 0 6)) < (sB 5 (Int32.toNatClampNeg p1)) then ((p3 - (m_B_scaled sB p1 p2)) + (sB 0 6)) else (sB 5 (Int32.toNatClampNeg p1))))) H := (congrArg (fun z => va_P D vwCl z H) setB_B5).mp hPn
    have hM : (m_B_bear sB p1 p2 p3) = ((up (up sB 4 (Int32.toNatClampNeg p1) (if (sB 4 (Int32.toNatClampNeg p1)) < ((p3 - (m_B_scaled sB p1 p2)) - (sB 0 6)) then ((p3 - (m_B_scaled sB p1 p2)) - (sB 0 6)) else (sB 4 (Int32.toNatClampNeg p1)))) 5 (Int32.toNatClampNeg p1) (if ((p3 - (m_B_scaled sB p1 p2)) + (sB 0 6)) < (sB 5 (Int32.toNatClampNeg p1)) then ((p3 - (m_B_scaled sB p1 p2)) + (sB 0 6)) else (sB 5 (Int32.toNatClampNeg p1)))) : St) := hM
    exact hret H locs _ ls dX0_bear_74 (rP_s1 (P := fun (z0 : St) => va_P D vwCl (cellB cI g z0) H) hM hPB) hS
  · have hM := hM.trans (if_pos c_1)
    have t_1 := eq_t c_1
    rw [tl_m9] at t_1
    refine lv_aload_n hx hb dX0_bear_11 rfl (lv_at hl 0 rfl) ?_
    refine va_get (D := D) (ci := 0) (v := .ref (g 11)) (C := RX0) (T := TX0) (N := 7) hx hb hts hinB hown hE.1 hPB 0 rfl rfl 4 (by decide) (hts (.fieldLink RX0 26 "WallStones$Book" "greatestDrift" "[I") (List.mem_of_getElem? (i := 2) rfl)) (fun _ h9 => h9) rfl dX0_bear_12 ?_
    refine lv_iload_n hx hb dX0_bear_15 rfl (lv_at hl 1 rfl) ?_
    refine lv_bipush (v := (-13)) hx hb dX0_bear_16 (by decide) ?_
    refine va_iast hx hb hE.1 hPB (wD_of hg (c := 6) (n := 6) (by decide) (by decide) rfl) hS 5 0 rfl rfl (vp_in_iff.mpr (by omega)) dX0_bear_18 (fun H locs hPn _ hS => ?_)
    have hPB : va_P D vwCl (cellB cI g (up sB 5 (Int32.toNatClampNeg p1) (-13))) H := (congrArg (fun z => va_P D vwCl z H) setB_B5).mp hPn
    have hM : (m_B_bear sB p1 p2 p3) = ((up sB 5 (Int32.toNatClampNeg p1) (-13)) : St) := hM
    exact hret H locs _ ls dX0_bear_19 (rP_s1 (P := fun (z0 : St) => va_P D vwCl (cellB cI g z0) H) hM hPB) hS
abbrev rm_B_study : Room := { frames := 5, cells := 0, slots := 0, locals := 128 }
set_option maxHeartbeats 4000000 in
set_option maxRecDepth 100000 in
theorem K_B_study {l : Launch} {D : va_G} {cI : ClassId} {lo : Nat} {g : Nat → Nat} (hg : wI g 1 12 lo) (sM : St) (sB : St) (h0 : okB sB) : WRv l D cI lo yX0_study wsX0_study rm_B_study [.ref (g 6), .ref (g 1)] (fun H => va_P D vwCl (cellM cI g sM) H ∧ va_P D vwCl (cellB cI g sB) H) (fun H => va_P D vwCl (cellM cI g (m_B_study sM sB).1) H ∧ va_P D vwCl (cellB cI g (m_B_study sM sB).2) H) (wA g 1 12) := by
  refine ofW_WRv (cc := cX0_study) (maxL := 5) (by decide +kernel) rfl (Nat.le_of_ble_eq_true rfl) ?_
  intro p e s m args below meth c Q hx hb hml hown hts hE hP hret ls hl
  have hown : s.vm.findClass RX0 = some m.cls := hown
  obtain ⟨hPM, hPB⟩ := hP
  have hA := wA.lo hg
  have hS : va_S (wA g 1 12) s.heap s.heap [] := va_S.rf
  obtain ⟨H, hH⟩ : ∃ z, z = s.heap := ⟨_, rfl⟩
  obtain ⟨locs, hlocs⟩ : ∃ z : List Loc, z = [] := ⟨_, rfl⟩
  have hPM : va_P D vwCl (cellM cI g sM) H := by rw [hH]; exact hPM
  have hPB : va_P D vwCl (cellB cI g sB) H := by rw [hH]; exact hPB
  have hS : va_S (wA g 1 12) s.heap H locs := by rw [hH, hlocs]; exact va_S.rf
  have gW : W p l e rm_B_study s m args below meth c H locs 0 0 Q (F0 m 0 ls []) → W p l e rm_B_study s m args below meth c s.heap [] 0 0 Q (F0 m 0 ls []) := by rw [hH, hlocs]; exact id
  refine gW ?_
  have hinM : ∀ w ∈ wsX10, w ∈ wsX0_study := fun w h => List.mem_cons_of_mem _ (List.mem_append_right _ h)
  have hinB : ∀ w ∈ wsX00, w ∈ wsX0_study := fun w h => List.mem_cons_of_mem _ (List.mem_append_left _ (List.mem_append_right _ h))
  have hl : lv_has ls 5 [(0, .ref (g 6)), (1, .ref (g 1))] := hl
  have nh0 := okB_lin h0
  have L_61 : ∀ (n : Nat) (sM_61 : St) (sB_61 : St) (x3_61 : Int32) (x4_61 : Int32) (H : Heap) (locs : List Loc) (ls : Array Slot), 0 ≤ x4_61.toInt ∧ x4_61.toInt ≤ (sB_61 0 5).toInt → okB sB_61 → 0 ≤ x3_61.toInt ∧ x3_61.toInt ≤ 30 → ((sB_61 0 5).toInt - x4_61.toInt).toNat < n → va_P D vwCl (cellM cI g sM_61) H → va_P D vwCl (cellB cI g sB_61) H → va_S (wA g 1 12) s.heap H locs → lv_has ls 5 [(0, .ref (g 6)), (3, .int x3_61), (4, .int x4_61)] → (∀ (H : Heap) (locs : List Loc) (ls : Array Slot), 0 ≤ (wl (g_B_study_61 sM_61 x3_61) n (sB_61, x4_61)).2.toInt ∧ (wl (g_B_study_61 sM_61 x3_61) n (sB_61, x4_61)).2.toInt ≤ ((wl (g_B_study_61 sM_61 x3_61) n (sB_61, x4_61)).1 0 5).toInt → okB (wl (g_B_study_61 sM_61 x3_61) n (sB_61, x4_61)).1 → 0 ≤ x3_61.toInt ∧ x3_61.toInt ≤ 30 → va_P D vwCl (cellM cI g sM_61) H → va_P D vwCl (cellB cI g (wl (g_B_study_61 sM_61 x3_61) n (sB_61, x4_61)).1) H → va_S (wA g 1 12) s.heap H locs → lv_has ls 5 [(0, .ref (g 6)), (3, .int x3_61)] → W p l e rm_B_study s m args below meth c H locs 0 0 Q (F0 m 95 ls [])) → W p l e rm_B_study s m args below meth c H locs 0 0 Q (F0 m 61 ls []) := by
    intro n
    induction n with
    | zero =>
      intro sM_61 sB_61 x3_61 x4_61 H locs ls i61_0 i61_1 i61_2 hn61 hPM hPB hS hl kk
      exact absurd hn61 (Nat.not_lt_zero _)
    | succ n ih =>
      intro sM_61 sB_61 x3_61 x4_61 H locs ls i61_0 i61_1 i61_2 hn61 hPM hPB hS hl kk
      have ni61_1 := okB_lin i61_1
      have hM : (g_B_study_61 sM_61 x3_61) (sB_61, x4_61) = (g_B_study_61 sM_61 x3_61) (sB_61, x4_61) := rfl
      refine lv_iload hx hb dX0_study_61 (lv_at hl 2 rfl) ?_
      refine lv_aload_n hx hb dX0_study_63 rfl (lv_at hl 0 rfl) ?_
      refine va_get (D := D) (ci := 0) (v := .int (sB_61 0 5)) (C := RX0) (T := TX0) (N := 7) hx hb hts hinB hown hE.1 hPB 0 rfl rfl 5 (by decide) (hts (.fieldLink RX0 33 "WallStones$Book" "shots" "I") (List.mem_of_getElem? (i := 4) rfl)) (fun _ h9 => h9) rfl dX0_study_64 ?_
      refine lv_icmp_ge (tgt := 95) hx hb dX0_study_67 (by decide) (fun c_1 => ?_) (fun c_1 => ?_)
      · have hM := hM.trans (if_pos c_1)
        have t_1 := le_t c_1
        rw [wl_none hM] at kk
        try dsimp only at kk
        exact kk H locs ls (by omega) (by assumption) (by omega) hPM hPB hS (lv_sub hl [0, 1] rfl)
      · have hM := hM.trans (if_neg c_1)
        have t_1 := nle_t c_1
        refine lv_aload_n hx hb dX0_study_70 rfl (lv_at hl 0 rfl) ?_
        refine lv_iload_n hx hb dX0_study_71 rfl (lv_at hl 1 rfl) ?_
        refine lv_aload_n hx hb dX0_study_72 rfl (lv_at hl 0 rfl) ?_
        refine va_get (D := D) (ci := 0) (v := .ref (g 8)) (C := RX0) (T := TX0) (N := 7) hx hb hts hinB hown hE.1 hPB 0 rfl rfl 1 (by decide) (hts (.fieldLink RX0 17 "WallStones$Book" "shotHook" "[I") (List.mem_of_getElem? (i := 5) rfl)) (fun _ h9 => h9) rfl dX0_study_73 ?_
        refine lv_iload hx hb dX0_study_76 (lv_at hl 2 rfl) ?_
        refine va_iald hx hb hE.1 hPB 2 0 rfl rfl (vp_in_iff.mpr (by omega)) dX0_study_78 ?_
        refine W.eq (g2 := F0 m 79 ls [.int (sB_61 2 (Int32.toNatClampNeg x4_61)), .int x3_61, .ref (g 6)]) rfl ?_
        refine lv_aload_n hx hb dX0_study_79 rfl (lv_at hl 0 rfl) ?_
        refine va_get (D := D) (ci := 0) (v := .ref (g 9)) (C := RX0) (T := TX0) (N := 7) hx hb hts hinB hown hE.1 hPB 0 rfl rfl 2 (by decide) (hts (.fieldLink RX0 20 "WallStones$Book" "shotFell" "[I") (List.mem_of_getElem? (i := 6) rfl)) (fun _ h9 => h9) rfl dX0_study_80 ?_
        refine lv_iload hx hb dX0_study_83 (lv_at hl 2 rfl) ?_
        refine va_iald hx hb hE.1 hPB 3 0 rfl rfl (vp_in_iff.mpr (by omega)) dX0_study_85 ?_
        refine W.eq (g2 := F0 m 86 ls [.int (sB_61 3 (Int32.toNatClampNeg x4_61)), .int (sB_61 2 (Int32.toNatClampNeg x4_61)), .int x3_61, .ref (g 6)]) rfl ?_
        refine runW_v (va_runV (As := [.int x3_61, .int (sB_61 2 (Int32.toNatClampNeg x4_61)), .int (sB_61 3 (Int32.toNatClampNeg x4_61))]) (rest := []) ⟨hx, hb, hml, hown, hts⟩ (K_B_bear (hg.sub (by decide) (by decide)) sB_61 x3_61 (sB_61 2 (Int32.toNatClampNeg x4_61)) (sB_61 3 (Int32.toNatClampNeg x4_61)) (by omega) (okB_h (by assumption) (by omega) (by omega))) (cwV 3 hts gX0_study_X0_bear rfl rfl rfl (by decide +kernel) ⟨Nat.le_of_ble_eq_true rfl, Nat.le_of_ble_eq_true rfl⟩) (preV_of hE hA hS hPB (va_recv hE.1 hPB (ci := 0) (q0 := 0) rfl rfl)) rfl rfl hl.1 rfl (lv_room (Nat.le_of_ble_eq_true rfl)) dX0_study_86 ⟨Nat.zero_le _, Nat.zero_le _⟩) hS (fun _ h9 => wA.sub (by decide) (by decide) _ h9) (fun H locs hQ hk hS => ?_)
        have hPM : va_P D vwCl (cellM cI g sM_61) H := wKeep hPM (wOff hg (c := 1) (n := 5) (x := 6) (y := 12) (by decide) (by decide) (by decide) (by decide) (by decide) rfl) hk
        have hPB : va_P D vwCl (cellB cI g (m_B_bear sB_61 x3_61 (sB_61 2 (Int32.toNatClampNeg x4_61)) (sB_61 3 (Int32.toNatClampNeg x4_61)))) H := hQ
        have w2 : ((m_B_bear sB_61 x3_61 (sB_61 2 (Int32.toNatClampNeg x4_61)) (sB_61 3 (Int32.toNatClampNeg x4_61))) 0 5).toInt = (sB_61 0 5).toInt := congrArg Int32.toInt (fr_B_bear (by decide))
        have v2 : okB (m_B_bear sB_61 x3_61 (sB_61 2 (Int32.toNatClampNeg x4_61)) (sB_61 3 (Int32.toNatClampNeg x4_61))) := okB_bear (by assumption)
        refine lv_iinc (v := (x4_61 + 1)) (lv' := [(4, .int (x4_61 + 1)), (0, .ref (g 6)), (3, .int x3_61)]) hx hb dX0_study_89 hl (k := 2) rfl rfl (by decide) rfl (fun ls hl => ?_)
        refine lv_goto (tgt := 61) hx hb dX0_study_92 (by decide) ?_
        have := t_inc (x := x4_61) (by omega)
        rw [wl_some hM] at kk
        exact ih sM_61 (m_B_bear sB_61 x3_61 (sB_61 2 (Int32.toNatClampNeg x4_61)) (sB_61 3 (Int32.toNatClampNeg x4_61))) x3_61 (x4_61 + 1) H locs ls (by omega) (by assumption) (by omega) (by omega) hPM hPB hS (lv_sub hl [1, 2, 0] rfl) kk
  have L_7 : ∀ (n : Nat) (sM_7 : St) (sB_7 : St) (x2_7 : Int32) (x3_7 : Int32) (H : Heap) (locs : List Loc) (ls : Array Slot), 0 ≤ x3_7.toInt ∧ x3_7.toInt ≤ 61 → okB sB_7 → (61 - x3_7.toInt).toNat < n → va_P D vwCl (cellM cI g sM_7) H → va_P D vwCl (cellB cI g sB_7) H → va_S (wA g 1 12) s.heap H locs → lv_has ls 5 [(0, .ref (g 6)), (1, .ref (g 1)), (2, .int x2_7), (3, .int x3_7)] → (∀ (H : Heap) (locs : List Loc) (ls : Array Slot), 0 ≤ (wl (g_B_study_7 x2_7) n (sM_7, sB_7, x3_7)).2.2.toInt ∧ (wl (g_B_study_7 x2_7) n (sM_7, sB_7, x3_7)).2.2.toInt ≤ 61 → okB (wl (g_B_study_7 x2_7) n (sM_7, sB_7, x3_7)).2.1 → va_P D vwCl (cellM cI g (wl (g_B_study_7 x2_7) n (sM_7, sB_7, x3_7)).1) H → va_P D vwCl (cellB cI g (wl (g_B_study_7 x2_7) n (sM_7, sB_7, x3_7)).2.1) H → va_S (wA g 1 12) s.heap H locs → lv_has ls 5 [(0, .ref (g 6))] → W p l e rm_B_study s m args below meth c H locs 0 0 Q (F0 m 34 ls [])) → W p l e rm_B_study s m args below meth c H locs 0 0 Q (F0 m 7 ls []) := by
    intro n
    induction n with
    | zero =>
      intro sM_7 sB_7 x2_7 x3_7 H locs ls i7_0 i7_1 hn7 hPM hPB hS hl kk
      exact absurd hn7 (Nat.not_lt_zero _)
    | succ n ih =>
      intro sM_7 sB_7 x2_7 x3_7 H locs ls i7_0 i7_1 hn7 hPM hPB hS hl kk
      have ni7_1 := okB_lin i7_1
      have hM : (g_B_study_7 x2_7) (sM_7, sB_7, x3_7) = (g_B_study_7 x2_7) (sM_7, sB_7, x3_7) := rfl
      refine lv_iload_n hx hb dX0_study_7 rfl (lv_at hl 3 rfl) ?_
      refine lv_aload_n hx hb dX0_study_8 rfl (lv_at hl 0 rfl) ?_
      refine va_get (D := D) (ci := 0) (v := .ref (g 7)) (C := RX0) (T := TX0) (N := 7) hx hb hts hinB hown hE.1 hPB 0 rfl rfl 0 (by decide) (hts (.fieldLink RX0 11 "WallStones$Book" "ranges" "[I") (List.mem_of_getElem? (i := 1) rfl)) (fun _ h9 => h9) rfl dX0_study_9 ?_
      refine va_alen hx hb hE.1 hPB 1 0 rfl rfl (v := 61) rfl dX0_study_12 ?_
      refine lv_icmp_ge (tgt := 34) hx hb dX0_study_13 (by decide) (fun c_3 => ?_) (fun c_3 => ?_)
      · have hM := hM.trans (if_pos c_3)
        have t_3 := le_t c_3
        rw [tl_61] at t_3
        rw [wl_none hM] at kk
        try dsimp only at kk
        exact kk H locs ls (by omega) (by assumption) hPM hPB hS (lv_sub hl [0] rfl)
      · have hM := hM.trans (if_neg c_3)
        have t_3 := nle_t c_3
        rw [tl_61] at t_3
        refine lv_aload_n hx hb dX0_study_16 rfl (lv_at hl 0 rfl) ?_
        refine va_get (D := D) (ci := 0) (v := .ref (g 7)) (C := RX0) (T := TX0) (N := 7) hx hb hts hinB hown hE.1 hPB 0 rfl rfl 0 (by decide) (hts (.fieldLink RX0 11 "WallStones$Book" "ranges" "[I") (List.mem_of_getElem? (i := 1) rfl)) (fun _ h9 => h9) rfl dX0_study_17 ?_
        refine lv_iload_n hx hb dX0_study_20 rfl (lv_at hl 3 rfl) ?_
        refine lv_aload_n hx hb dX0_study_21 rfl (lv_at hl 1 rfl) ?_
        refine lv_iload_n hx hb dX0_study_22 rfl (lv_at hl 2 rfl) ?_
        refine lv_iload_n hx hb dX0_study_23 rfl (lv_at hl 3 rfl) ?_
        refine runW_i (va_runV (As := [.int x2_7, .int x3_7]) (rest := [.int x3_7, .ref (g 7)]) ⟨hx, hb, hml, hown, hts⟩ (K_M_reckon (hg.sub (by decide) (by decide)) sM_7 x2_7 x3_7) (cwV 2 hts gX0_study_X1_reckon rfl rfl rfl (by decide +kernel) ⟨Nat.le_of_ble_eq_true rfl, Nat.le_of_ble_eq_true rfl⟩) (preV_of hE hA hS hPM (va_recv hE.1 hPM (ci := 1) (q0 := 0) rfl rfl)) rfl rfl hl.1 rfl (lv_room (Nat.le_of_ble_eq_true rfl)) dX0_study_24 ⟨Nat.zero_le _, Nat.zero_le _⟩) hS (fun _ h9 => wA.sub (by decide) (by decide) _ h9) (fun H locs hQ hk hS => ?_)
        have hPB : va_P D vwCl (cellB cI g sB_7) H := wKeep hPB (wOff hg (c := 6) (n := 6) (x := 1) (y := 6) (by decide) (by decide) (by decide) (by decide) (by decide) rfl) hk
        have hPM : va_P D vwCl (cellM cI g (m_M_reckon sM_7 x2_7 x3_7).2) H := hQ
        refine va_iast hx hb hE.1 (hPM.app hPB) (wD_of hg (c := 1) (n := 11) (by decide) (by decide) rfl) hS 6 0 rfl rfl (vp_in_iff.mpr (by omega)) dX0_study_27 (fun H locs hPn _ hS => ?_)
        have hPn : va_P D vwCl ((cellM cI g (m_M_reckon sM_7 x2_7 x3_7).2) ++ cellB cI g (up sB_7 1 (Int32.toNatClampNeg x3_7) (m_M_reckon sM_7 x2_7 x3_7).1)) H := (congrArg (fun z => va_P D vwCl z H) setMB_B1).mp hPn
        have hPM : va_P D vwCl (cellM cI g (m_M_reckon sM_7 x2_7 x3_7).2) H := hPn.sub [0, 1, 2, 3, 4] rfl
        have hPB : va_P D vwCl (cellB cI g (up sB_7 1 (Int32.toNatClampNeg x3_7) (m_M_reckon sM_7 x2_7 x3_7).1)) H := hPn.sub [5, 6, 7, 8, 9, 10] rfl
        refine lv_iinc (v := (x3_7 + 1)) (lv' := [(3, .int (x3_7 + 1)), (0, .ref (g 6)), (1, .ref (g 1)), (2, .int x2_7)]) hx hb dX0_study_28 hl (k := 3) rfl rfl (by decide) rfl (fun ls hl => ?_)
        refine lv_goto (tgt := 7) hx hb dX0_study_31 (by decide) ?_
        have := t_inc (x := x3_7) (by omega)
        rw [wl_some hM] at kk
        exact ih (m_M_reckon sM_7 x2_7 x3_7).2 (up sB_7 1 (Int32.toNatClampNeg x3_7) (m_M_reckon sM_7 x2_7 x3_7).1) x2_7 (x3_7 + 1) H locs ls (by omega) (by assumption) (by omega) hPM hPB hS (lv_sub hl [1, 2, 3, 0] rfl) kk
  have L_36 : ∀ (n : Nat) (sM_36 : St) (sB_36 : St) (x3_36 : Int32) (H : Heap) (locs : List Loc) (ls : Array Slot), 0 ≤ x3_36.toInt ∧ x3_36.toInt ≤ 31 → okB sB_36 → (31 - x3_36.toInt).toNat < n → va_P D vwCl (cellM cI g sM_36) H → va_P D vwCl (cellB cI g sB_36) H → va_S (wA g 1 12) s.heap H locs → lv_has ls 5 [(0, .ref (g 6)), (3, .int x3_36)] → (∀ (H : Heap) (locs : List Loc) (ls : Array Slot), 0 ≤ (wl (g_B_study_36 sM_36) n (sB_36, x3_36)).2.toInt ∧ (wl (g_B_study_36 sM_36) n (sB_36, x3_36)).2.toInt ≤ 31 → okB (wl (g_B_study_36 sM_36) n (sB_36, x3_36)).1 → va_P D vwCl (cellM cI g sM_36) H → va_P D vwCl (cellB cI g (wl (g_B_study_36 sM_36) n (sB_36, x3_36)).1) H → va_S (wA g 1 12) s.heap H locs → lv_has ls 5 [] → W p l e rm_B_study s m args below meth c H locs 0 0 Q (F0 m 101 ls [])) → W p l e rm_B_study s m args below meth c H locs 0 0 Q (F0 m 36 ls []) := by
    intro n
    induction n with
    | zero =>
      intro sM_36 sB_36 x3_36 H locs ls i36_0 i36_1 hn36 hPM hPB hS hl kk
      exact absurd hn36 (Nat.not_lt_zero _)
    | succ n ih =>
      intro sM_36 sB_36 x3_36 H locs ls i36_0 i36_1 hn36 hPM hPB hS hl kk
      have ni36_1 := okB_lin i36_1
      have J_95 : ∀ (sB_95 : St) (x3_95 : Int32) (H : Heap) (locs : List Loc) (ls : Array Slot), okB sB_95 → 0 ≤ x3_95.toInt ∧ x3_95.toInt ≤ 30 → (31 - x3_95.toInt).toNat < n + 1 → va_P D vwCl (cellM cI g sM_36) H → va_P D vwCl (cellB cI g sB_95) H → va_S (wA g 1 12) s.heap H locs → lv_has ls 5 [(0, .ref (g 6)), (3, .int x3_95)] → (g_B_study_36 sM_36) (sB_36, x3_36) = b_B_study_95 sM_36 sB_95 x3_95 → W p l e rm_B_study s m args below meth c H locs 0 0 Q (F0 m 95 ls []) := by
        intro sB_95 x3_95 H locs ls i95_0 i95_1 i95_2 hPM hPB hS hl hM
        have ni95_0 := okB_lin i95_0
        refine lv_iinc (v := (x3_95 + 1)) (lv' := [(3, .int (x3_95 + 1)), (0, .ref (g 6))]) hx hb dX0_study_95 hl (k := 1) rfl rfl (by decide) rfl (fun ls hl => ?_)
        refine lv_goto (tgt := 36) hx hb dX0_study_98 (by decide) ?_
        have := t_inc (x := x3_95) (by omega)
        rw [wl_some hM] at kk
        exact ih sM_36 sB_95 (x3_95 + 1) H locs ls (by omega) (by assumption) (by omega) hPM hPB hS (lv_sub hl [1, 0] rfl) kk
      have hM : (g_B_study_36 sM_36) (sB_36, x3_36) = (g_B_study_36 sM_36) (sB_36, x3_36) := rfl
      refine lv_iload_n hx hb dX0_study_36 rfl (lv_at hl 1 rfl) ?_
      refine lv_bipush (v := 31) hx hb dX0_study_37 (by decide) ?_
      refine lv_icmp_ge (tgt := 101) hx hb dX0_study_39 (by decide) (fun c_4 => ?_) (fun c_4 => ?_)
      · have hM := hM.trans (if_pos c_4)
        have t_4 := le_t c_4
        rw [tl_31] at t_4
        rw [wl_none hM] at kk
        try dsimp only at kk
        exact kk H locs ls (by omega) (by assumption) hPM hPB hS (lv_sub hl [] rfl)
      · have hM := hM.trans (if_neg c_4)
        have t_4 := nle_t c_4
        rw [tl_31] at t_4
        refine lv_aload_n hx hb dX0_study_42 rfl (lv_at hl 0 rfl) ?_
        refine va_get (D := D) (ci := 0) (v := .ref (g 10)) (C := RX0) (T := TX0) (N := 7) hx hb hts hinB hown hE.1 hPB 0 rfl rfl 3 (by decide) (hts (.fieldLink RX0 23 "WallStones$Book" "leastDrift" "[I") (List.mem_of_getElem? (i := 2) rfl)) (fun _ h9 => h9) rfl dX0_study_43 ?_
        refine lv_iload_n hx hb dX0_study_46 rfl (lv_at hl 1 rfl) ?_
        refine lv_bipush (v := (-12)) hx hb dX0_study_47 (by decide) ?_
        refine va_iast hx hb hE.1 (hPM.app hPB) (wD_of hg (c := 1) (n := 11) (by decide) (by decide) rfl) hS 9 0 rfl rfl (vp_in_iff.mpr (by omega)) dX0_study_49 (fun H locs hPn _ hS => ?_)
        have hPn : va_P D vwCl ((cellM cI g sM_36) ++ cellB cI g (up sB_36 4 (Int32.toNatClampNeg x3_36) (-12))) H := (congrArg (fun z => va_P D vwCl z H) setMB_B4).mp hPn
        have hPM : va_P D vwCl (cellM cI g sM_36) H := hPn.sub [0, 1, 2, 3, 4] rfl
        have hPB : va_P D vwCl (cellB cI g (up sB_36 4 (Int32.toNatClampNeg x3_36) (-12))) H := hPn.sub [5, 6, 7, 8, 9, 10] rfl
        refine lv_aload_n hx hb dX0_study_50 rfl (lv_at hl 0 rfl) ?_
        refine va_get (D := D) (ci := 0) (v := .ref (g 11)) (C := RX0) (T := TX0) (N := 7) hx hb hts hinB hown hE.1 hPB 0 rfl rfl 4 (by decide) (hts (.fieldLink RX0 26 "WallStones$Book" "greatestDrift" "[I") (List.mem_of_getElem? (i := 3) rfl)) (fun _ h9 => h9) rfl dX0_study_51 ?_
        refine lv_iload_n hx hb dX0_study_54 rfl (lv_at hl 1 rfl) ?_
        refine lv_bipush (v := 12) hx hb dX0_study_55 (by decide) ?_
        refine va_iast hx hb hE.1 (hPM.app hPB) (wD_of hg (c := 1) (n := 11) (by decide) (by decide) rfl) hS 10 0 rfl rfl (vp_in_iff.mpr (by omega)) dX0_study_57 (fun H locs hPn _ hS => ?_)
        have hPn : va_P D vwCl ((cellM cI g sM_36) ++ cellB cI g (up (up sB_36 4 (Int32.toNatClampNeg x3_36) (-12)) 5 (Int32.toNatClampNeg x3_36) 12)) H := (congrArg (fun z => va_P D vwCl z H) setMB_B5).mp hPn
        have hPM : va_P D vwCl (cellM cI g sM_36) H := hPn.sub [0, 1, 2, 3, 4] rfl
        have hPB : va_P D vwCl (cellB cI g (up (up sB_36 4 (Int32.toNatClampNeg x3_36) (-12)) 5 (Int32.toNatClampNeg x3_36) 12)) H := hPn.sub [5, 6, 7, 8, 9, 10] rfl
        refine lv_iconst (v := 0) hx hb dX0_study_58 (by decide) ?_
        refine lv_istore (lv' := [(4, .int 0), (0, .ref (g 6)), (3, .int x3_36)]) hx hb dX0_study_59 hl (by decide) rfl (fun ls hl => ?_)
        have z5 := tl_0
        have q6 : ((up (up sB_36 4 (Int32.toNatClampNeg x3_36) (-12)) 5 (Int32.toNatClampNeg x3_36) 12) 0 5).toInt = (sB_36 0 5).toInt := rfl
        have q7 : ((up (up sB_36 4 (Int32.toNatClampNeg x3_36) (-12)) 5 (Int32.toNatClampNeg x3_36) 12) 0 5).toInt = (sB_36 0 5).toInt := rfl
        refine L_61 17 sM_36 (up (up sB_36 4 (Int32.toNatClampNeg x3_36) (-12)) 5 (Int32.toNatClampNeg x3_36) 12) x3_36 0 H locs ls (by omega) (by assumption) (by omega) (by omega) hPM hPB hS (lv_sub hl [1, 2, 0] rfl) (fun H locs ls k0 k1 k2 hPM hPB hS hl => ?_)
        have nk1 := okB_lin k1
        exact J_95 (wl (g_B_study_61 sM_36 x3_36) 17 ((up (up sB_36 4 (Int32.toNatClampNeg x3_36) (-12)) 5 (Int32.toNatClampNeg x3_36) 12), 0)).1 x3_36 H locs ls (by assumption) (by omega) (by omega) hPM hPB hS (lv_sub hl [0, 1] rfl) hM
  have J_101 : ∀ (sM_101 : St) (sB_101 : St) (H : Heap) (locs : List Loc) (ls : Array Slot), va_P D vwCl (cellM cI g sM_101) H → va_P D vwCl (cellB cI g sB_101) H → va_S (wA g 1 12) s.heap H locs → lv_has ls 5 [] → (m_B_study sM sB) = b_B_study_101 sM_101 sB_101 → W p l e rm_B_study s m args below meth c H locs 0 0 Q (F0 m 101 ls []) := by
    intro sM_101 sB_101 H locs ls hPM hPB hS hl hM
    have hM : (m_B_study sM sB) = ((sM_101, sB_101) : St × St) := hM
    exact hret H locs _ ls dX0_study_101 (rP_s2 (P := fun (z0 : St) (z1 : St) => va_P D vwCl (cellM cI g z0) H ∧ va_P D vwCl (cellB cI g z1) H) hM ⟨hPM, hPB⟩) hS
  have J_34 : ∀ (sM_34 : St) (sB_34 : St) (H : Heap) (locs : List Loc) (ls : Array Slot), okB sB_34 → va_P D vwCl (cellM cI g sM_34) H → va_P D vwCl (cellB cI g sB_34) H → va_S (wA g 1 12) s.heap H locs → lv_has ls 5 [(0, .ref (g 6))] → (m_B_study sM sB) = b_B_study_34 sM_34 sB_34 → W p l e rm_B_study s m args below meth c H locs 0 0 Q (F0 m 34 ls []) := by
    intro sM_34 sB_34 H locs ls i34_0 hPM hPB hS hl hM
    have ni34_0 := okB_lin i34_0
    refine lv_iconst (v := 0) hx hb dX0_study_34 (by decide) ?_
    refine lv_istore_n (lv' := [(3, .int 0), (0, .ref (g 6))]) hx hb dX0_study_35 rfl hl (by decide) rfl (fun ls hl => ?_)
    have z8 := tl_0
    refine L_36 32 sM_34 sB_34 0 H locs ls (by omega) (by assumption) (by omega) hPM hPB hS (lv_sub hl [1, 0] rfl) (fun H locs ls k0 k1 hPM hPB hS hl => ?_)
    have nk1 := okB_lin k1
    exact J_101 sM_34 (wl (g_B_study_36 sM_34) 32 (sB_34, 0)).1 H locs ls hPM hPB hS (lv_sub hl [] rfl) hM
  have hM : (m_B_study sM sB) = (m_B_study sM sB) := rfl
  refine lv_aload_n hx hb dX0_study_0 rfl (lv_at hl 1 rfl) ?_
  refine runS_i (va_runV (As := []) (rest := []) ⟨hx, hb, hml, hown, hts⟩ (K_M_slingNow (hg.sub (by decide) (by decide)) sM) (cwV 0 hts gX0_study_X1_slingNow rfl rfl rfl (by decide +kernel) ⟨Nat.le_of_ble_eq_true rfl, Nat.le_of_ble_eq_true rfl⟩) (preV_of hE hA hS hPM (va_recv hE.1 hPM (ci := 1) (q0 := 0) rfl rfl)) rfl rfl hl.1 rfl (lv_room (Nat.le_of_ble_eq_true rfl)) dX0_study_1 ⟨Nat.zero_le _, Nat.zero_le _⟩) ?_
  refine lv_istore_n (lv' := [(2, .int (m_M_slingNow sM)), (0, .ref (g 6)), (1, .ref (g 1))]) hx hb dX0_study_4 rfl hl (by decide) rfl (fun ls hl => ?_)
  refine lv_iconst (v := 0) hx hb dX0_study_5 (by decide) ?_
  refine lv_istore_n (lv' := [(3, .int 0), (2, .int (m_M_slingNow sM)), (0, .ref (g 6)), (1, .ref (g 1))]) hx hb dX0_study_6 rfl hl (by decide) rfl (fun ls hl => ?_)
  have z9 := tl_0
  refine L_7 62 sM sB (m_M_slingNow sM) 0 H locs ls (by omega) (by assumption) (by omega) hPM hPB hS (lv_sub hl [2, 3, 1, 0] rfl) (fun H locs ls k0 k1 hPM hPB hS hl => ?_)
  have nk1 := okB_lin k1
  exact J_34 (wl (g_B_study_7 (m_M_slingNow sM)) 62 (sM, sB, 0)).1 (wl (g_B_study_7 (m_M_slingNow sM)) 62 (sM, sB, 0)).2.1 H locs ls (by assumption) hPM hPB hS (lv_sub hl [0] rfl) hM
abbrev rm_B_isLeft : Room := { frames := 0, cells := 0, slots := 0, locals := 0 }
set_option maxHeartbeats 4000000 in
set_option maxRecDepth 100000 in
theorem K_B_isLeft {l : Launch} {D : va_G} {cI : ClassId} {lo : Nat} {g : Nat → Nat} (hg : wI g 6 12 lo) (sB : St) (p1 : Int32) (h0 : 0 ≤ p1.toInt ∧ p1.toInt ≤ 30) : ROi l D cI lo yX0_isLeft wsX0_isLeft rm_B_isLeft [.ref (g 6), .int p1] (fun H => va_P D vwCl (cellB cI g sB) H) (m_B_isLeft sB p1) := by
  refine ofW_ROi (cc := cX0_isLeft) (maxL := 2) (ty := .boolean) (by decide +kernel) rfl (Nat.le_of_ble_eq_true rfl) ?_
  intro p e s m args below meth c Q hx hb hml hown hts hE hP hret ls hl
  have hown : s.vm.findClass RX0 = some m.cls := hown
  have hPB := hP
  have hA : ∀ q : Nat, (fun _ : Nat => False) q → lo ≤ q := fun _ h => h.elim
  have hS : va_S (fun _ : Nat => False) s.heap s.heap [] := va_S.rf
  have hinB : ∀ w ∈ wsX00, w ∈ wsX0_isLeft := fun w h => List.mem_cons_of_mem _ (List.mem_append_right _ h)
  have hl : lv_has ls 2 [(0, .ref (g 6)), (1, .int p1)] := hl
  have hM : (m_B_isLeft sB p1) = (m_B_isLeft sB p1) := rfl
  refine lv_aload_n hx hb dX0_isLeft_0 rfl (lv_at hl 0 rfl) ?_
  refine va_get (D := D) (ci := 0) (v := .ref (g 10)) (C := RX0) (T := TX0) (N := 7) hx hb hts hinB hown hE.1 hPB 0 rfl rfl 3 (by decide) (hts (.fieldLink RX0 23 "WallStones$Book" "leastDrift" "[I") (List.mem_of_getElem? (i := 1) rfl)) (fun _ h9 => h9) rfl dX0_isLeft_1 ?_
  refine lv_iload_n hx hb dX0_isLeft_4 rfl (lv_at hl 1 rfl) ?_
  refine va_iald hx hb hE.1 hPB 4 0 rfl rfl (vp_in_iff.mpr (by omega)) dX0_isLeft_5 ?_
  refine W.eq (g2 := F0 m 6 ls [.int (sB 4 (Int32.toNatClampNeg p1))]) rfl ?_
  refine lv_aload_n hx hb dX0_isLeft_6 rfl (lv_at hl 0 rfl) ?_
  refine va_get (D := D) (ci := 0) (v := .ref (g 11)) (C := RX0) (T := TX0) (N := 7) hx hb hts hinB hown hE.1 hPB 0 rfl rfl 4 (by decide) (hts (.fieldLink RX0 26 "WallStones$Book" "greatestDrift" "[I") (List.mem_of_getElem? (i := 2) rfl)) (fun _ h9 => h9) rfl dX0_isLeft_7 ?_
  refine lv_iload_n hx hb dX0_isLeft_10 rfl (lv_at hl 1 rfl) ?_
  refine va_iald hx hb hE.1 hPB 5 0 rfl rfl (vp_in_iff.mpr (by omega)) dX0_isLeft_11 ?_
  refine W.eq (g2 := F0 m 12 ls [.int (sB 5 (Int32.toNatClampNeg p1)), .int (sB 4 (Int32.toNatClampNeg p1))]) rfl ?_
  refine lv_icmp_gt (tgt := 19) hx hb dX0_isLeft_12 (by decide) (fun c_1 => ?_) (fun c_1 => ?_)
  · have hM := hM.trans (if_pos c_1)
    have t_1 := lt_t c_1
    refine lv_iconst (v := 0) hx hb dX0_isLeft_19 (by decide) ?_
    have hM : (m_B_isLeft sB p1) = (0 : Int32) := hM
    exact hret _ _ ls (by decide) dX0_isLeft_20 hM.symm
  · have hM := hM.trans (if_neg c_1)
    have t_1 := nlt_t c_1
    refine lv_iconst (v := 1) hx hb dX0_isLeft_15 (by decide) ?_
    refine lv_goto (tgt := 20) hx hb dX0_isLeft_16 (by decide) ?_
    have hM : (m_B_isLeft sB p1) = (1 : Int32) := hM
    exact hret _ _ ls (by decide) dX0_isLeft_20 hM.symm
abbrev rm_B_pairsLeft : Room := { frames := 1, cells := 0, slots := 0, locals := 21 }
set_option maxHeartbeats 4000000 in
set_option maxRecDepth 100000 in
theorem K_B_pairsLeft {l : Launch} {D : va_G} {cI : ClassId} {lo : Nat} {g : Nat → Nat} (hg : wI g 6 12 lo) (sB : St) : ROi l D cI lo yX0_pairsLeft wsX0_pairsLeft rm_B_pairsLeft [.ref (g 6)] (fun H => va_P D vwCl (cellB cI g sB) H) (m_B_pairsLeft sB) := by
  refine ofW_ROi (cc := cX0_pairsLeft) (maxL := 3) (ty := .int) (by decide +kernel) rfl (Nat.le_of_ble_eq_true rfl) ?_
  intro p e s m args below meth c Q hx hb hml hown hts hE hP hret ls hl
  have hown : s.vm.findClass RX0 = some m.cls := hown
  have hPB := hP
  have hA : ∀ q : Nat, (fun _ : Nat => False) q → lo ≤ q := fun _ h => h.elim
  have hS : va_S (fun _ : Nat => False) s.heap s.heap [] := va_S.rf
  have hinB : ∀ w ∈ wsX00, w ∈ wsX0_pairsLeft := fun w h => List.mem_cons_of_mem _ (List.mem_append_right _ h)
  have hl : lv_has ls 3 [(0, .ref (g 6))] := hl
  have L_4 : ∀ (n : Nat) (x1_4 : Int32) (x2_4 : Int32) (ls : Array Slot), 0 ≤ x2_4.toInt ∧ x2_4.toInt ≤ 31 → (31 - x2_4.toInt).toNat < n → lv_has ls 3 [(0, .ref (g 6)), (1, .int x1_4), (2, .int x2_4)] → (∀ (ls : Array Slot), lv_has ls 3 [(1, .int (wl (g_B_pairsLeft_4 sB) n (x1_4, x2_4)).1)] → W p l e rm_B_pairsLeft s m args below meth c s.heap [] 0 0 Q (F0 m 46 ls [])) → W p l e rm_B_pairsLeft s m args below meth c s.heap [] 0 0 Q (F0 m 4 ls []) := by
    intro n
    induction n with
    | zero =>
      intro x1_4 x2_4 ls i4_0 hn4 hl kk
      exact absurd hn4 (Nat.not_lt_zero _)
    | succ n ih =>
      intro x1_4 x2_4 ls i4_0 hn4 hl kk
      have hM : (g_B_pairsLeft_4 sB) (x1_4, x2_4) = (g_B_pairsLeft_4 sB) (x1_4, x2_4) := rfl
      refine lv_iload_n hx hb dX0_pairsLeft_4 rfl (lv_at hl 2 rfl) ?_
      refine lv_bipush (v := 31) hx hb dX0_pairsLeft_5 (by decide) ?_
      refine lv_icmp_ge (tgt := 46) hx hb dX0_pairsLeft_7 (by decide) (fun c_1 => ?_) (fun c_1 => ?_)
      · have hM := hM.trans (if_pos c_1)
        have t_1 := le_t c_1
        rw [tl_31] at t_1
        rw [wl_none hM] at kk
        exact kk ls (lv_sub hl [1] rfl)
      · have hM := hM.trans (if_neg c_1)
        have t_1 := nle_t c_1
        rw [tl_31] at t_1
        refine lv_iload_n hx hb dX0_pairsLeft_10 rfl (lv_at hl 1 rfl) ?_
        refine lv_aload_n hx hb dX0_pairsLeft_11 rfl (lv_at hl 0 rfl) ?_
        refine lv_iload_n hx hb dX0_pairsLeft_12 rfl (lv_at hl 2 rfl) ?_
        refine runS_i (va_runV (As := [.int x2_4]) (rest := [.int x1_4]) ⟨hx, hb, hml, hown, hts⟩ (K_B_isLeft hg sB x2_4 (by omega)) (cwV 1 hts gX0_pairsLeft_X0_isLeft rfl rfl rfl (by decide +kernel) ⟨Nat.le_of_ble_eq_true rfl, Nat.le_of_ble_eq_true rfl⟩) (preV_of hE hA hS hPB (va_recv hE.1 hPB (ci := 0) (q0 := 0) rfl rfl)) rfl rfl hl.1 rfl (lv_room (Nat.le_of_ble_eq_true rfl)) dX0_pairsLeft_13 ⟨Nat.zero_le _, Nat.zero_le _⟩) ?_
        refine lv_if_eq (tgt := 37) hx hb dX0_pairsLeft_16 (by decide) (fun c_2 => ?_) (fun c_2 => ?_)
        · have hM := hM.trans (if_pos c_2)
          have t_2 := eq_t c_2
          rw [tl_0] at t_2
          refine lv_iconst (v := 0) hx hb dX0_pairsLeft_37 (by decide) ?_
          refine lv_iadd hx hb dX0_pairsLeft_38 ?_
          refine lv_istore_n (lv' := [(1, .int (x1_4 + 0)), (0, .ref (g 6)), (2, .int x2_4)]) hx hb dX0_pairsLeft_39 rfl hl (by decide) rfl (fun ls hl => ?_)
          refine lv_iinc (v := (x2_4 + 1)) (lv' := [(2, .int (x2_4 + 1)), (1, .int (x1_4 + 0)), (0, .ref (g 6))]) hx hb dX0_pairsLeft_40 hl (k := 2) rfl rfl (by decide) rfl (fun ls hl => ?_)
          refine lv_goto (tgt := 4) hx hb dX0_pairsLeft_43 (by decide) ?_
          have := t_inc (x := x2_4) (by omega)
          rw [wl_some hM] at kk
          exact ih (x1_4 + 0) (x2_4 + 1) ls (by omega) (by omega) (lv_sub hl [2, 1, 0] rfl) kk
        · have hM := hM.trans (if_neg c_2)
          have t_2 := ne_t c_2
          rw [tl_0] at t_2
          refine lv_aload_n hx hb dX0_pairsLeft_19 rfl (lv_at hl 0 rfl) ?_
          refine va_get (D := D) (ci := 0) (v := .ref (g 11)) (C := RX0) (T := TX0) (N := 7) hx hb hts hinB hown hE.1 hPB 0 rfl rfl 4 (by decide) (hts (.fieldLink RX0 26 "WallStones$Book" "greatestDrift" "[I") (List.mem_of_getElem? (i := 1) rfl)) (fun _ h9 => h9) rfl dX0_pairsLeft_20 ?_
          refine lv_iload_n hx hb dX0_pairsLeft_23 rfl (lv_at hl 2 rfl) ?_
          refine va_iald hx hb hE.1 hPB 5 0 rfl rfl (vp_in_iff.mpr (by omega)) dX0_pairsLeft_24 ?_
          refine W.eq (g2 := F0 m 25 ls [.int (sB 5 (Int32.toNatClampNeg x2_4)), .int x1_4]) rfl ?_
          refine lv_aload_n hx hb dX0_pairsLeft_25 rfl (lv_at hl 0 rfl) ?_
          refine va_get (D := D) (ci := 0) (v := .ref (g 10)) (C := RX0) (T := TX0) (N := 7) hx hb hts hinB hown hE.1 hPB 0 rfl rfl 3 (by decide) (hts (.fieldLink RX0 23 "WallStones$Book" "leastDrift" "[I") (List.mem_of_getElem? (i := 2) rfl)) (fun _ h9 => h9) rfl dX0_pairsLeft_26 ?_
          refine lv_iload_n hx hb dX0_pairsLeft_29 rfl (lv_at hl 2 rfl) ?_
          refine va_iald hx hb hE.1 hPB 4 0 rfl rfl (vp_in_iff.mpr (by omega)) dX0_pairsLeft_30 ?_
          refine W.eq (g2 := F0 m 31 ls [.int (sB 4 (Int32.toNatClampNeg x2_4)), .int (sB 5 (Int32.toNatClampNeg x2_4)), .int x1_4]) rfl ?_
          refine lv_isub hx hb dX0_pairsLeft_31 ?_
          refine lv_iconst (v := 1) hx hb dX0_pairsLeft_32 (by decide) ?_
          refine lv_iadd hx hb dX0_pairsLeft_33 ?_
          refine lv_goto (tgt := 38) hx hb dX0_pairsLeft_34 (by decide) ?_
          refine lv_iadd hx hb dX0_pairsLeft_38 ?_
          refine lv_istore_n (lv' := [(1, .int (x1_4 + (((sB 5 (Int32.toNatClampNeg x2_4)) - (sB 4 (Int32.toNatClampNeg x2_4))) + 1))), (0, .ref (g 6)), (2, .int x2_4)]) hx hb dX0_pairsLeft_39 rfl hl (by decide) rfl (fun ls hl => ?_)
          refine lv_iinc (v := (x2_4 + 1)) (lv' := [(2, .int (x2_4 + 1)), (1, .int (x1_4 + (((sB 5 (Int32.toNatClampNeg x2_4)) - (sB 4 (Int32.toNatClampNeg x2_4))) + 1))), (0, .ref (g 6))]) hx hb dX0_pairsLeft_40 hl (k := 2) rfl rfl (by decide) rfl (fun ls hl => ?_)
          refine lv_goto (tgt := 4) hx hb dX0_pairsLeft_43 (by decide) ?_
          have := t_inc (x := x2_4) (by omega)
          rw [wl_some hM] at kk
          exact ih (x1_4 + (((sB 5 (Int32.toNatClampNeg x2_4)) - (sB 4 (Int32.toNatClampNeg x2_4))) + 1)) (x2_4 + 1) ls (by omega) (by omega) (lv_sub hl [2, 1, 0] rfl) kk
  have J_46 : ∀ (x1_46 : Int32) (ls : Array Slot), lv_has ls 3 [(1, .int x1_46)] → (m_B_pairsLeft sB) = b_B_pairsLeft_46 sB x1_46 → W p l e rm_B_pairsLeft s m args below meth c s.heap [] 0 0 Q (F0 m 46 ls []) := by
    intro x1_46 ls hl hM
    refine lv_iload_n hx hb dX0_pairsLeft_46 rfl (lv_at hl 0 rfl) ?_
    have hM : (m_B_pairsLeft sB) = (x1_46 : Int32) := hM
    exact hret _ _ ls (nr_i _) dX0_pairsLeft_47 hM.symm
  have hM : (m_B_pairsLeft sB) = (m_B_pairsLeft sB) := rfl
  refine lv_iconst (v := 0) hx hb dX0_pairsLeft_0 (by decide) ?_
  refine lv_istore_n (lv' := [(1, .int 0), (0, .ref (g 6))]) hx hb dX0_pairsLeft_1 rfl hl (by decide) rfl (fun ls hl => ?_)
  refine lv_iconst (v := 0) hx hb dX0_pairsLeft_2 (by decide) ?_
  refine lv_istore_n (lv' := [(2, .int 0), (1, .int 0), (0, .ref (g 6))]) hx hb dX0_pairsLeft_3 rfl hl (by decide) rfl (fun ls hl => ?_)
  have z3 := tl_0
  refine L_4 32 0 0 ls (by omega) (by omega) (lv_sub hl [2, 1, 0] rfl) (fun ls hl => ?_)
  exact J_46 (wl (g_B_pairsLeft_4 sB) 32 (0, 0)).1 ls (lv_sub hl [0] rfl) hM
abbrev rm_B_places : Room := { frames := 2, cells := 0, slots := 0, locals := 43 }
set_option maxHeartbeats 4000000 in
set_option maxRecDepth 100000 in
theorem K_B_places {l : Launch} {D : va_G} {cI : ClassId} {lo : Nat} {g : Nat → Nat} (hg : wI g 6 12 lo) (sB : St) (p1 : Int32) (h0 : 0 ≤ p1.toInt ∧ p1.toInt ≤ 60) : ROi l D cI lo yX0_places wsX0_places rm_B_places [.ref (g 6), .int p1] (fun H => va_P D vwCl (cellB cI g sB) H) (m_B_places sB p1) := by
  refine ofW_ROi (cc := cX0_places) (maxL := 2) (ty := .boolean) (by decide +kernel) rfl (Nat.le_of_ble_eq_true rfl) ?_
  intro p e s m args below meth c Q hx hb hml hown hts hE hP hret ls hl
  have hown : s.vm.findClass RX0 = some m.cls := hown
  have hPB := hP
  have hA : ∀ q : Nat, (fun _ : Nat => False) q → lo ≤ q := fun _ h => h.elim
  have hS : va_S (fun _ : Nat => False) s.heap s.heap [] := va_S.rf
  have hinB : ∀ w ∈ wsX00, w ∈ wsX0_places := fun w h => List.mem_cons_of_mem _ (List.mem_append_right _ h)
  have hl : lv_has ls 2 [(0, .ref (g 6)), (1, .int p1)] := hl
  have hM : (m_B_places sB p1) = (m_B_places sB p1) := rfl
  refine lv_aload_n hx hb dX0_places_0 rfl (lv_at hl 0 rfl) ?_
  refine va_get (D := D) (ci := 0) (v := .ref (g 7)) (C := RX0) (T := TX0) (N := 7) hx hb hts hinB hown hE.1 hPB 0 rfl rfl 0 (by decide) (hts (.fieldLink RX0 11 "WallStones$Book" "ranges" "[I") (List.mem_of_getElem? (i := 1) rfl)) (fun _ h9 => h9) rfl dX0_places_1 ?_
  refine lv_iload_n hx hb dX0_places_4 rfl (lv_at hl 1 rfl) ?_
  refine va_iald hx hb hE.1 hPB 1 0 rfl rfl (vp_in_iff.mpr (by omega)) dX0_places_5 ?_
  refine W.eq (g2 := F0 m 6 ls [.int (sB 1 (Int32.toNatClampNeg p1))]) rfl ?_
  refine lv_bipush (v := (-9)) hx hb dX0_places_6 (by decide) ?_
  refine lv_icmp_eq (tgt := 22) hx hb dX0_places_8 (by decide) (fun c_1 => ?_) (fun c_1 => ?_)
  · have hM := hM.trans (if_pos c_1)
    have t_1 := eq_t c_1
    rw [tl_m9] at t_1
    refine lv_iconst (v := 0) hx hb dX0_places_22 (by decide) ?_
    have hM : (m_B_places sB p1) = (0 : Int32) := hM
    exact hret _ _ ls (by decide) dX0_places_23 hM.symm
  · have hM := hM.trans (if_neg c_1)
    have t_1 := ne_t c_1
    rw [tl_m9] at t_1
    refine lv_aload_n hx hb dX0_places_11 rfl (lv_at hl 0 rfl) ?_
    refine runS_i (va_runV (As := []) (rest := []) ⟨hx, hb, hml, hown, hts⟩ (K_B_pairsLeft hg sB) (cwV 0 hts gX0_places_X0_pairsLeft rfl rfl rfl (by decide +kernel) ⟨Nat.le_of_ble_eq_true rfl, Nat.le_of_ble_eq_true rfl⟩) (preV_of hE hA hS hPB (va_recv hE.1 hPB (ci := 0) (q0 := 0) rfl rfl)) rfl rfl hl.1 rfl (lv_room (Nat.le_of_ble_eq_true rfl)) dX0_places_12 ⟨Nat.zero_le _, Nat.zero_le _⟩) ?_
    refine lv_if_le (tgt := 22) hx hb dX0_places_15 (by decide) (fun c_2 => ?_) (fun c_2 => ?_)
    · have hM := hM.trans (if_pos c_2)
      have t_2 := le_t c_2
      rw [tl_0] at t_2
      refine lv_iconst (v := 0) hx hb dX0_places_22 (by decide) ?_
      have hM : (m_B_places sB p1) = (0 : Int32) := hM
      exact hret _ _ ls (by decide) dX0_places_23 hM.symm
    · have hM := hM.trans (if_neg c_2)
      have t_2 := nle_t c_2
      rw [tl_0] at t_2
      refine lv_iconst (v := 1) hx hb dX0_places_18 (by decide) ?_
      refine lv_goto (tgt := 23) hx hb dX0_places_19 (by decide) ?_
      have hM : (m_B_places sB p1) = (1 : Int32) := hM
      exact hret _ _ ls (by decide) dX0_places_23 hM.symm
abbrev rm_B_leastPlace : Room := { frames := 3, cells := 0, slots := 0, locals := 70 }
set_option maxHeartbeats 4000000 in
set_option maxRecDepth 100000 in
theorem K_B_leastPlace {l : Launch} {D : va_G} {cI : ClassId} {lo : Nat} {g : Nat → Nat} (hg : wI g 6 12 lo) (sB : St) (p1 : Int32) (h0 : 0 ≤ p1.toInt ∧ p1.toInt ≤ 60) : ROi l D cI lo yX0_leastPlace wsX0_leastPlace rm_B_leastPlace [.ref (g 6), .int p1] (fun H => va_P D vwCl (cellB cI g sB) H) (m_B_leastPlace sB p1) := by
  refine ofW_ROi (cc := cX0_leastPlace) (maxL := 4) (ty := .int) (by decide +kernel) rfl (Nat.le_of_ble_eq_true rfl) ?_
  intro p e s m args below meth c Q hx hb hml hown hts hE hP hret ls hl
  have hown : s.vm.findClass RX0 = some m.cls := hown
  have hPB := hP
  have hA : ∀ q : Nat, (fun _ : Nat => False) q → lo ≤ q := fun _ h => h.elim
  have hS : va_S (fun _ : Nat => False) s.heap s.heap [] := va_S.rf
  have hinB : ∀ w ∈ wsX00, w ∈ wsX0_leastPlace := fun w h => List.mem_cons_of_mem _ (List.mem_append_right _ h)
  have hl : lv_has ls 4 [(0, .ref (g 6)), (1, .int p1)] := hl
  have L_5 : ∀ (n : Nat) (x2_5 : Int32) (x3_5 : Int32) (ls : Array Slot), 0 ≤ x3_5.toInt ∧ x3_5.toInt ≤ 31 → (31 - x3_5.toInt).toNat < n → lv_has ls 4 [(0, .ref (g 6)), (1, .int p1), (2, .int x2_5), (3, .int x3_5)] → (∀ (ls : Array Slot), lv_has ls 4 [(2, .int (wl (g_B_leastPlace_5 sB p1) n (x2_5, x3_5)).1)] → W p l e rm_B_leastPlace s m args below meth c s.heap [] 0 0 Q (F0 m 43 ls [])) → W p l e rm_B_leastPlace s m args below meth c s.heap [] 0 0 Q (F0 m 5 ls []) := by
    intro n
    induction n with
    | zero =>
      intro x2_5 x3_5 ls i5_0 hn5 hl kk
      exact absurd hn5 (Nat.not_lt_zero _)
    | succ n ih =>
      intro x2_5 x3_5 ls i5_0 hn5 hl kk
      have hM : (g_B_leastPlace_5 sB p1) (x2_5, x3_5) = (g_B_leastPlace_5 sB p1) (x2_5, x3_5) := rfl
      refine lv_iload_n hx hb dX0_leastPlace_5 rfl (lv_at hl 3 rfl) ?_
      refine lv_bipush (v := 31) hx hb dX0_leastPlace_6 (by decide) ?_
      refine lv_icmp_ge (tgt := 43) hx hb dX0_leastPlace_8 (by decide) (fun c_1 => ?_) (fun c_1 => ?_)
      · have hM := hM.trans (if_pos c_1)
        have t_1 := le_t c_1
        rw [tl_31] at t_1
        rw [wl_none hM] at kk
        exact kk ls (lv_sub hl [2] rfl)
      · have hM := hM.trans (if_neg c_1)
        have t_1 := nle_t c_1
        rw [tl_31] at t_1
        refine lv_aload_n hx hb dX0_leastPlace_11 rfl (lv_at hl 0 rfl) ?_
        refine lv_iload_n hx hb dX0_leastPlace_12 rfl (lv_at hl 3 rfl) ?_
        refine runS_i (va_runV (As := [.int x3_5]) (rest := []) ⟨hx, hb, hml, hown, hts⟩ (K_B_isLeft hg sB x3_5 (by omega)) (cwV 1 hts gX0_leastPlace_X0_isLeft rfl rfl rfl (by decide +kernel) ⟨Nat.le_of_ble_eq_true rfl, Nat.le_of_ble_eq_true rfl⟩) (preV_of hE hA hS hPB (va_recv hE.1 hPB (ci := 0) (q0 := 0) rfl rfl)) rfl rfl hl.1 rfl (lv_room (Nat.le_of_ble_eq_true rfl)) dX0_leastPlace_13 ⟨Nat.zero_le _, Nat.zero_le _⟩) ?_
        refine lv_if_eq (tgt := 37) hx hb dX0_leastPlace_16 (by decide) (fun c_2 => ?_) (fun c_2 => ?_)
        · have hM := hM.trans (if_pos c_2)
          have t_2 := eq_t c_2
          rw [tl_0] at t_2
          refine lv_iinc (v := (x3_5 + 1)) (lv' := [(3, .int (x3_5 + 1)), (0, .ref (g 6)), (1, .int p1), (2, .int x2_5)]) hx hb dX0_leastPlace_37 hl (k := 3) rfl rfl (by decide) rfl (fun ls hl => ?_)
          refine lv_goto (tgt := 5) hx hb dX0_leastPlace_40 (by decide) ?_
          have := t_inc (x := x3_5) (by omega)
          rw [wl_some hM] at kk
          exact ih x2_5 (x3_5 + 1) ls (by omega) (by omega) (lv_sub hl [1, 2, 3, 0] rfl) kk
        · have hM := hM.trans (if_neg c_2)
          have t_2 := ne_t c_2
          rw [tl_0] at t_2
          refine lv_iload_n hx hb dX0_leastPlace_19 rfl (lv_at hl 2 rfl) ?_
          refine lv_aload_n hx hb dX0_leastPlace_20 rfl (lv_at hl 0 rfl) ?_
          refine lv_iload_n hx hb dX0_leastPlace_21 rfl (lv_at hl 3 rfl) ?_
          refine lv_iload_n hx hb dX0_leastPlace_22 rfl (lv_at hl 1 rfl) ?_
          refine runS_i (va_runV (As := [.int x3_5, .int p1]) (rest := [.int x2_5]) ⟨hx, hb, hml, hown, hts⟩ (K_B_scaled hg sB x3_5 p1 (by omega)) (cwV 2 hts gX0_leastPlace_X0_scaled rfl rfl rfl (by decide +kernel) ⟨Nat.le_of_ble_eq_true rfl, Nat.le_of_ble_eq_true rfl⟩) (preV_of hE hA hS hPB (va_recv hE.1 hPB (ci := 0) (q0 := 0) rfl rfl)) rfl rfl hl.1 rfl (lv_room (Nat.le_of_ble_eq_true rfl)) dX0_leastPlace_23 ⟨Nat.zero_le _, Nat.zero_le _⟩) ?_
          refine lv_aload_n hx hb dX0_leastPlace_26 rfl (lv_at hl 0 rfl) ?_
          refine va_get (D := D) (ci := 0) (v := .ref (g 10)) (C := RX0) (T := TX0) (N := 7) hx hb hts hinB hown hE.1 hPB 0 rfl rfl 3 (by decide) (hts (.fieldLink RX0 23 "WallStones$Book" "leastDrift" "[I") (List.mem_of_getElem? (i := 2) rfl)) (fun _ h9 => h9) rfl dX0_leastPlace_27 ?_
          refine lv_iload_n hx hb dX0_leastPlace_30 rfl (lv_at hl 3 rfl) ?_
          refine va_iald hx hb hE.1 hPB 4 0 rfl rfl (vp_in_iff.mpr (by omega)) dX0_leastPlace_31 ?_
          refine W.eq (g2 := F0 m 32 ls [.int (sB 4 (Int32.toNatClampNeg x3_5)), .int (m_B_scaled sB x3_5 p1), .int x2_5]) rfl ?_
          refine lv_iadd hx hb dX0_leastPlace_32 ?_
          refine va_mmin hx hb (by rw [hml]; exact hl.1.symm) hown (hts (.methodLink RX0 56 Lib.Math.min.name) (List.mem_of_getElem? (i := 3) rfl)) (hts (.static Lib.Math.min.name) (List.mem_of_getElem? (i := 4) rfl)) (hts (.initialized "java/lang/Math") (List.mem_of_getElem? (i := 5) rfl)) (hts (.code Lib.Math.min.name Lib.Math.min.code 2 (some .int)) (List.mem_of_getElem? (i := 6) rfl)) (Nat.le_of_ble_eq_true rfl) (Nat.le_of_ble_eq_true rfl) (Nat.zero_le _) (Nat.zero_le _) dX0_leastPlace_33 ?_
          refine lv_istore_n (lv' := [(2, .int (if ((m_B_scaled sB x3_5 p1) + (sB 4 (Int32.toNatClampNeg x3_5))) < x2_5 then ((m_B_scaled sB x3_5 p1) + (sB 4 (Int32.toNatClampNeg x3_5))) else x2_5)), (0, .ref (g 6)), (1, .int p1), (3, .int x3_5)]) hx hb dX0_leastPlace_36 rfl hl (by decide) rfl (fun ls hl => ?_)
          refine lv_iinc (v := (x3_5 + 1)) (lv' := [(3, .int (x3_5 + 1)), (2, .int (if ((m_B_scaled sB x3_5 p1) + (sB 4 (Int32.toNatClampNeg x3_5))) < x2_5 then ((m_B_scaled sB x3_5 p1) + (sB 4 (Int32.toNatClampNeg x3_5))) else x2_5)), (0, .ref (g 6)), (1, .int p1)]) hx hb dX0_leastPlace_37 hl (k := 3) rfl rfl (by decide) rfl (fun ls hl => ?_)
          refine lv_goto (tgt := 5) hx hb dX0_leastPlace_40 (by decide) ?_
          have := t_inc (x := x3_5) (by omega)
          rw [wl_some hM] at kk
          exact ih (if ((m_B_scaled sB x3_5 p1) + (sB 4 (Int32.toNatClampNeg x3_5))) < x2_5 then ((m_B_scaled sB x3_5 p1) + (sB 4 (Int32.toNatClampNeg x3_5))) else x2_5) (x3_5 + 1) ls (by omega) (by omega) (lv_sub hl [2, 3, 1, 0] rfl) kk
  have J_43 : ∀ (x2_43 : Int32) (ls : Array Slot), lv_has ls 4 [(2, .int x2_43)] → (m_B_leastPlace sB p1) = b_B_leastPlace_43 sB x2_43 → W p l e rm_B_leastPlace s m args below meth c s.heap [] 0 0 Q (F0 m 43 ls []) := by
    intro x2_43 ls hl hM
    refine lv_iload_n hx hb dX0_leastPlace_43 rfl (lv_at hl 0 rfl) ?_
    have hM : (m_B_leastPlace sB p1) = (x2_43 : Int32) := hM
    exact hret _ _ ls (nr_i _) dX0_leastPlace_44 hM.symm
  have hM : (m_B_leastPlace sB p1) = (m_B_leastPlace sB p1) := rfl
  refine lv_ldc (own := RX0) (index := 72) (v := 1000000) hx hb hown (hts (.constant RX0 72 (1000000)) (List.mem_of_getElem? (i := 1) rfl)) dX0_leastPlace_0 ?_
  refine lv_istore_n (lv' := [(2, .int 1000000), (0, .ref (g 6)), (1, .int p1)]) hx hb dX0_leastPlace_2 rfl hl (by decide) rfl (fun ls hl => ?_)
  refine lv_iconst (v := 0) hx hb dX0_leastPlace_3 (by decide) ?_
  refine lv_istore_n (lv' := [(3, .int 0), (2, .int 1000000), (0, .ref (g 6)), (1, .int p1)]) hx hb dX0_leastPlace_4 rfl hl (by decide) rfl (fun ls hl => ?_)
  have z3 := tl_0
  have z4 := tl_1000000
  refine L_5 32 1000000 0 ls (by omega) (by omega) (lv_sub hl [2, 3, 1, 0] rfl) (fun ls hl => ?_)
  exact J_43 (wl (g_B_leastPlace_5 sB p1) 32 (1000000, 0)).1 ls (lv_sub hl [0] rfl) hM
abbrev rm_B_greatestPlace : Room := { frames := 3, cells := 0, slots := 0, locals := 70 }
set_option maxHeartbeats 4000000 in
set_option maxRecDepth 100000 in
theorem K_B_greatestPlace {l : Launch} {D : va_G} {cI : ClassId} {lo : Nat} {g : Nat → Nat} (hg : wI g 6 12 lo) (sB : St) (p1 : Int32) (h0 : 0 ≤ p1.toInt ∧ p1.toInt ≤ 60) : ROi l D cI lo yX0_greatestPlace wsX0_greatestPlace rm_B_greatestPlace [.ref (g 6), .int p1] (fun H => va_P D vwCl (cellB cI g sB) H) (m_B_greatestPlace sB p1) := by
  refine ofW_ROi (cc := cX0_greatestPlace) (maxL := 4) (ty := .int) (by decide +kernel) rfl (Nat.le_of_ble_eq_true rfl) ?_
  intro p e s m args below meth c Q hx hb hml hown hts hE hP hret ls hl
  have hown : s.vm.findClass RX0 = some m.cls := hown
  have hPB := hP
  have hA : ∀ q : Nat, (fun _ : Nat => False) q → lo ≤ q := fun _ h => h.elim
  have hS : va_S (fun _ : Nat => False) s.heap s.heap [] := va_S.rf
  have hinB : ∀ w ∈ wsX00, w ∈ wsX0_greatestPlace := fun w h => List.mem_cons_of_mem _ (List.mem_append_right _ h)
  have hl : lv_has ls 4 [(0, .ref (g 6)), (1, .int p1)] := hl
  have L_5 : ∀ (n : Nat) (x2_5 : Int32) (x3_5 : Int32) (ls : Array Slot), 0 ≤ x3_5.toInt ∧ x3_5.toInt ≤ 31 → (31 - x3_5.toInt).toNat < n → lv_has ls 4 [(0, .ref (g 6)), (1, .int p1), (2, .int x2_5), (3, .int x3_5)] → (∀ (ls : Array Slot), lv_has ls 4 [(2, .int (wl (g_B_greatestPlace_5 sB p1) n (x2_5, x3_5)).1)] → W p l e rm_B_greatestPlace s m args below meth c s.heap [] 0 0 Q (F0 m 43 ls [])) → W p l e rm_B_greatestPlace s m args below meth c s.heap [] 0 0 Q (F0 m 5 ls []) := by
    intro n
    induction n with
    | zero =>
      intro x2_5 x3_5 ls i5_0 hn5 hl kk
      exact absurd hn5 (Nat.not_lt_zero _)
    | succ n ih =>
      intro x2_5 x3_5 ls i5_0 hn5 hl kk
      have hM : (g_B_greatestPlace_5 sB p1) (x2_5, x3_5) = (g_B_greatestPlace_5 sB p1) (x2_5, x3_5) := rfl
      refine lv_iload_n hx hb dX0_greatestPlace_5 rfl (lv_at hl 3 rfl) ?_
      refine lv_bipush (v := 31) hx hb dX0_greatestPlace_6 (by decide) ?_
      refine lv_icmp_ge (tgt := 43) hx hb dX0_greatestPlace_8 (by decide) (fun c_1 => ?_) (fun c_1 => ?_)
      · have hM := hM.trans (if_pos c_1)
        have t_1 := le_t c_1
        rw [tl_31] at t_1
        rw [wl_none hM] at kk
        exact kk ls (lv_sub hl [2] rfl)
      · have hM := hM.trans (if_neg c_1)
        have t_1 := nle_t c_1
        rw [tl_31] at t_1
        refine lv_aload_n hx hb dX0_greatestPlace_11 rfl (lv_at hl 0 rfl) ?_
        refine lv_iload_n hx hb dX0_greatestPlace_12 rfl (lv_at hl 3 rfl) ?_
        refine runS_i (va_runV (As := [.int x3_5]) (rest := []) ⟨hx, hb, hml, hown, hts⟩ (K_B_isLeft hg sB x3_5 (by omega)) (cwV 1 hts gX0_greatestPlace_X0_isLeft rfl rfl rfl (by decide +kernel) ⟨Nat.le_of_ble_eq_true rfl, Nat.le_of_ble_eq_true rfl⟩) (preV_of hE hA hS hPB (va_recv hE.1 hPB (ci := 0) (q0 := 0) rfl rfl)) rfl rfl hl.1 rfl (lv_room (Nat.le_of_ble_eq_true rfl)) dX0_greatestPlace_13 ⟨Nat.zero_le _, Nat.zero_le _⟩) ?_
        refine lv_if_eq (tgt := 37) hx hb dX0_greatestPlace_16 (by decide) (fun c_2 => ?_) (fun c_2 => ?_)
        · have hM := hM.trans (if_pos c_2)
          have t_2 := eq_t c_2
          rw [tl_0] at t_2
          refine lv_iinc (v := (x3_5 + 1)) (lv' := [(3, .int (x3_5 + 1)), (0, .ref (g 6)), (1, .int p1), (2, .int x2_5)]) hx hb dX0_greatestPlace_37 hl (k := 3) rfl rfl (by decide) rfl (fun ls hl => ?_)
          refine lv_goto (tgt := 5) hx hb dX0_greatestPlace_40 (by decide) ?_
          have := t_inc (x := x3_5) (by omega)
          rw [wl_some hM] at kk
          exact ih x2_5 (x3_5 + 1) ls (by omega) (by omega) (lv_sub hl [1, 2, 3, 0] rfl) kk
        · have hM := hM.trans (if_neg c_2)
          have t_2 := ne_t c_2
          rw [tl_0] at t_2
          refine lv_iload_n hx hb dX0_greatestPlace_19 rfl (lv_at hl 2 rfl) ?_
          refine lv_aload_n hx hb dX0_greatestPlace_20 rfl (lv_at hl 0 rfl) ?_
          refine lv_iload_n hx hb dX0_greatestPlace_21 rfl (lv_at hl 3 rfl) ?_
          refine lv_iload_n hx hb dX0_greatestPlace_22 rfl (lv_at hl 1 rfl) ?_
          refine runS_i (va_runV (As := [.int x3_5, .int p1]) (rest := [.int x2_5]) ⟨hx, hb, hml, hown, hts⟩ (K_B_scaled hg sB x3_5 p1 (by omega)) (cwV 2 hts gX0_greatestPlace_X0_scaled rfl rfl rfl (by decide +kernel) ⟨Nat.le_of_ble_eq_true rfl, Nat.le_of_ble_eq_true rfl⟩) (preV_of hE hA hS hPB (va_recv hE.1 hPB (ci := 0) (q0 := 0) rfl rfl)) rfl rfl hl.1 rfl (lv_room (Nat.le_of_ble_eq_true rfl)) dX0_greatestPlace_23 ⟨Nat.zero_le _, Nat.zero_le _⟩) ?_
          refine lv_aload_n hx hb dX0_greatestPlace_26 rfl (lv_at hl 0 rfl) ?_
          refine va_get (D := D) (ci := 0) (v := .ref (g 11)) (C := RX0) (T := TX0) (N := 7) hx hb hts hinB hown hE.1 hPB 0 rfl rfl 4 (by decide) (hts (.fieldLink RX0 26 "WallStones$Book" "greatestDrift" "[I") (List.mem_of_getElem? (i := 2) rfl)) (fun _ h9 => h9) rfl dX0_greatestPlace_27 ?_
          refine lv_iload_n hx hb dX0_greatestPlace_30 rfl (lv_at hl 3 rfl) ?_
          refine va_iald hx hb hE.1 hPB 5 0 rfl rfl (vp_in_iff.mpr (by omega)) dX0_greatestPlace_31 ?_
          refine W.eq (g2 := F0 m 32 ls [.int (sB 5 (Int32.toNatClampNeg x3_5)), .int (m_B_scaled sB x3_5 p1), .int x2_5]) rfl ?_
          refine lv_iadd hx hb dX0_greatestPlace_32 ?_
          refine va_mmax hx hb (by rw [hml]; exact hl.1.symm) hown (hts (.methodLink RX0 51 Lib.Math.max.name) (List.mem_of_getElem? (i := 3) rfl)) (hts (.static Lib.Math.max.name) (List.mem_of_getElem? (i := 4) rfl)) (hts (.initialized "java/lang/Math") (List.mem_of_getElem? (i := 5) rfl)) (hts (.code Lib.Math.max.name Lib.Math.max.code 2 (some .int)) (List.mem_of_getElem? (i := 6) rfl)) (Nat.le_of_ble_eq_true rfl) (Nat.le_of_ble_eq_true rfl) (Nat.zero_le _) (Nat.zero_le _) dX0_greatestPlace_33 ?_
          refine lv_istore_n (lv' := [(2, .int (if x2_5 < ((m_B_scaled sB x3_5 p1) + (sB 5 (Int32.toNatClampNeg x3_5))) then ((m_B_scaled sB x3_5 p1) + (sB 5 (Int32.toNatClampNeg x3_5))) else x2_5)), (0, .ref (g 6)), (1, .int p1), (3, .int x3_5)]) hx hb dX0_greatestPlace_36 rfl hl (by decide) rfl (fun ls hl => ?_)
          refine lv_iinc (v := (x3_5 + 1)) (lv' := [(3, .int (x3_5 + 1)), (2, .int (if x2_5 < ((m_B_scaled sB x3_5 p1) + (sB 5 (Int32.toNatClampNeg x3_5))) then ((m_B_scaled sB x3_5 p1) + (sB 5 (Int32.toNatClampNeg x3_5))) else x2_5)), (0, .ref (g 6)), (1, .int p1)]) hx hb dX0_greatestPlace_37 hl (k := 3) rfl rfl (by decide) rfl (fun ls hl => ?_)
          refine lv_goto (tgt := 5) hx hb dX0_greatestPlace_40 (by decide) ?_
          have := t_inc (x := x3_5) (by omega)
          rw [wl_some hM] at kk
          exact ih (if x2_5 < ((m_B_scaled sB x3_5 p1) + (sB 5 (Int32.toNatClampNeg x3_5))) then ((m_B_scaled sB x3_5 p1) + (sB 5 (Int32.toNatClampNeg x3_5))) else x2_5) (x3_5 + 1) ls (by omega) (by omega) (lv_sub hl [2, 3, 1, 0] rfl) kk
  have J_43 : ∀ (x2_43 : Int32) (ls : Array Slot), lv_has ls 4 [(2, .int x2_43)] → (m_B_greatestPlace sB p1) = b_B_greatestPlace_43 sB x2_43 → W p l e rm_B_greatestPlace s m args below meth c s.heap [] 0 0 Q (F0 m 43 ls []) := by
    intro x2_43 ls hl hM
    refine lv_iload_n hx hb dX0_greatestPlace_43 rfl (lv_at hl 0 rfl) ?_
    have hM : (m_B_greatestPlace sB p1) = (x2_43 : Int32) := hM
    exact hret _ _ ls (nr_i _) dX0_greatestPlace_44 hM.symm
  have hM : (m_B_greatestPlace sB p1) = (m_B_greatestPlace sB p1) := rfl
  refine lv_ldc (own := RX0) (index := 73) (v := (-1000000)) hx hb hown (hts (.constant RX0 73 (-1000000)) (List.mem_of_getElem? (i := 1) rfl)) dX0_greatestPlace_0 ?_
  refine lv_istore_n (lv' := [(2, .int (-1000000)), (0, .ref (g 6)), (1, .int p1)]) hx hb dX0_greatestPlace_2 rfl hl (by decide) rfl (fun ls hl => ?_)
  refine lv_iconst (v := 0) hx hb dX0_greatestPlace_3 (by decide) ?_
  refine lv_istore_n (lv' := [(3, .int 0), (2, .int (-1000000)), (0, .ref (g 6)), (1, .int p1)]) hx hb dX0_greatestPlace_4 rfl hl (by decide) rfl (fun ls hl => ?_)
  have z3 := tl_m1000000
  have z4 := tl_0
  refine L_5 32 (-1000000) 0 ls (by omega) (by omega) (lv_sub hl [2, 3, 1, 0] rfl) (fun ls hl => ?_)
  exact J_43 (wl (g_B_greatestPlace_5 sB p1) 32 ((-1000000), 0)).1 ls (lv_sub hl [0] rfl) hM
abbrev rm_B_widestHook : Room := { frames := 4, cells := 0, slots := 0, locals := 93 }
set_option maxHeartbeats 4000000 in
set_option maxRecDepth 100000 in
theorem K_B_widestHook {l : Launch} {D : va_G} {cI : ClassId} {lo : Nat} {g : Nat → Nat} (hg : wI g 6 12 lo) (sB : St) : ROi l D cI lo yX0_widestHook wsX0_widestHook rm_B_widestHook [.ref (g 6)] (fun H => va_P D vwCl (cellB cI g sB) H) (m_B_widestHook sB) := by
  refine ofW_ROi (cc := cX0_widestHook) (maxL := 5) (ty := .int) (by decide +kernel) rfl (Nat.le_of_ble_eq_true rfl) ?_
  intro p e s m args below meth c Q hx hb hml hown hts hE hP hret ls hl
  have hown : s.vm.findClass RX0 = some m.cls := hown
  have hPB := hP
  have hA : ∀ q : Nat, (fun _ : Nat => False) q → lo ≤ q := fun _ h => h.elim
  have hS : va_S (fun _ : Nat => False) s.heap s.heap [] := va_S.rf
  have hinB : ∀ w ∈ wsX00, w ∈ wsX0_widestHook := fun w h => List.mem_cons_of_mem _ (List.mem_append_right _ h)
  have hl : lv_has ls 5 [(0, .ref (g 6))] := hl
  have L_7 : ∀ (n : Nat) (x1_7 : Int32) (x2_7 : Int32) (x3_7 : Int32) (ls : Array Slot), 0 ≤ x3_7.toInt ∧ x3_7.toInt ≤ 61 → (61 - x3_7.toInt).toNat < n → lv_has ls 5 [(0, .ref (g 6)), (1, .int x1_7), (2, .int x2_7), (3, .int x3_7)] → (∀ (ls : Array Slot), lv_has ls 5 [(1, .int (wl (g_B_widestHook_7 sB) n (x1_7, x2_7, x3_7)).1)] → W p l e rm_B_widestHook s m args below meth c s.heap [] 0 0 Q (F0 m 58 ls [])) → W p l e rm_B_widestHook s m args below meth c s.heap [] 0 0 Q (F0 m 7 ls []) := by
    intro n
    induction n with
    | zero =>
      intro x1_7 x2_7 x3_7 ls i7_0 hn7 hl kk
      exact absurd hn7 (Nat.not_lt_zero _)
    | succ n ih =>
      intro x1_7 x2_7 x3_7 ls i7_0 hn7 hl kk
      have hM : (g_B_widestHook_7 sB) (x1_7, x2_7, x3_7) = (g_B_widestHook_7 sB) (x1_7, x2_7, x3_7) := rfl
      refine lv_iload_n hx hb dX0_widestHook_7 rfl (lv_at hl 3 rfl) ?_
      refine lv_aload_n hx hb dX0_widestHook_8 rfl (lv_at hl 0 rfl) ?_
      refine va_get (D := D) (ci := 0) (v := .ref (g 7)) (C := RX0) (T := TX0) (N := 7) hx hb hts hinB hown hE.1 hPB 0 rfl rfl 0 (by decide) (hts (.fieldLink RX0 11 "WallStones$Book" "ranges" "[I") (List.mem_of_getElem? (i := 1) rfl)) (fun _ h9 => h9) rfl dX0_widestHook_9 ?_
      refine va_alen hx hb hE.1 hPB 1 0 rfl rfl (v := 61) rfl dX0_widestHook_12 ?_
      refine lv_icmp_ge (tgt := 58) hx hb dX0_widestHook_13 (by decide) (fun c_1 => ?_) (fun c_1 => ?_)
      · have hM := hM.trans (if_pos c_1)
        have t_1 := le_t c_1
        rw [tl_61] at t_1
        rw [wl_none hM] at kk
        exact kk ls (lv_sub hl [1] rfl)
      · have hM := hM.trans (if_neg c_1)
        have t_1 := nle_t c_1
        rw [tl_61] at t_1
        refine lv_aload_n hx hb dX0_widestHook_16 rfl (lv_at hl 0 rfl) ?_
        refine lv_iload_n hx hb dX0_widestHook_17 rfl (lv_at hl 3 rfl) ?_
        refine runS_i (va_runV (As := [.int x3_7]) (rest := []) ⟨hx, hb, hml, hown, hts⟩ (K_B_places hg sB x3_7 (by omega)) (cwV 1 hts gX0_widestHook_X0_places rfl rfl rfl (by decide +kernel) ⟨Nat.le_of_ble_eq_true rfl, Nat.le_of_ble_eq_true rfl⟩) (preV_of hE hA hS hPB (va_recv hE.1 hPB (ci := 0) (q0 := 0) rfl rfl)) rfl rfl hl.1 rfl (lv_room (Nat.le_of_ble_eq_true rfl)) dX0_widestHook_18 ⟨Nat.zero_le _, Nat.zero_le _⟩) ?_
        refine lv_if_eq (tgt := 38) hx hb dX0_widestHook_21 (by decide) (fun c_2 => ?_) (fun c_2 => ?_)
        · have hM := hM.trans (if_pos c_2)
          have t_2 := eq_t c_2
          rw [tl_0] at t_2
          refine lv_iconst (v := (-1)) hx hb dX0_widestHook_38 (by decide) ?_
          refine lv_istore (lv' := [(4, .int (-1)), (0, .ref (g 6)), (1, .int x1_7), (2, .int x2_7), (3, .int x3_7)]) hx hb dX0_widestHook_39 hl (by decide) rfl (fun ls hl => ?_)
          refine lv_iload hx hb dX0_widestHook_41 (lv_at hl 0 rfl) ?_
          refine lv_iload_n hx hb dX0_widestHook_43 rfl (lv_at hl 3 rfl) ?_
          refine lv_icmp_le (tgt := 52) hx hb dX0_widestHook_44 (by decide) (fun c_3 => ?_) (fun c_3 => ?_)
          · have hM := hM.trans (if_pos c_3)
            have t_3 := le_t c_3
            rw [tl_m1] at t_3
            refine lv_iinc (v := (x3_7 + 1)) (lv' := [(3, .int (x3_7 + 1)), (4, .int (-1)), (0, .ref (g 6)), (1, .int x1_7), (2, .int x2_7)]) hx hb dX0_widestHook_52 hl (k := 4) rfl rfl (by decide) rfl (fun ls hl => ?_)
            refine lv_goto (tgt := 7) hx hb dX0_widestHook_55 (by decide) ?_
            have := t_inc (x := x3_7) (by omega)
            rw [wl_some hM] at kk
            exact ih x1_7 x2_7 (x3_7 + 1) ls (by omega) (by omega) (lv_sub hl [2, 3, 4, 0] rfl) kk
          · have hM := hM.trans (if_neg c_3)
            have t_3 := nle_t c_3
            rw [tl_m1] at t_3
            refine lv_iload hx hb dX0_widestHook_47 (lv_at hl 0 rfl) ?_
            refine lv_istore_n (lv' := [(2, .int (-1)), (4, .int (-1)), (0, .ref (g 6)), (1, .int x1_7), (3, .int x3_7)]) hx hb dX0_widestHook_49 rfl hl (by decide) rfl (fun ls hl => ?_)
            refine lv_iload_n hx hb dX0_widestHook_50 rfl (lv_at hl 4 rfl) ?_
            refine lv_istore_n (lv' := [(1, .int x3_7), (2, .int (-1)), (4, .int (-1)), (0, .ref (g 6)), (3, .int x3_7)]) hx hb dX0_widestHook_51 rfl hl (by decide) rfl (fun ls hl => ?_)
            refine lv_iinc (v := (x3_7 + 1)) (lv' := [(3, .int (x3_7 + 1)), (1, .int x3_7), (2, .int (-1)), (4, .int (-1)), (0, .ref (g 6))]) hx hb dX0_widestHook_52 hl (k := 4) rfl rfl (by decide) rfl (fun ls hl => ?_)
            refine lv_goto (tgt := 7) hx hb dX0_widestHook_55 (by decide) ?_
            have := t_inc (x := x3_7) (by omega)
            have z4 := tl_m1
            rw [wl_some hM] at kk
            exact ih x3_7 (-1) (x3_7 + 1) ls (by omega) (by omega) (lv_sub hl [4, 1, 2, 0] rfl) kk
        · have hM := hM.trans (if_neg c_2)
          have t_2 := ne_t c_2
          rw [tl_0] at t_2
          refine lv_aload_n hx hb dX0_widestHook_24 rfl (lv_at hl 0 rfl) ?_
          refine lv_iload_n hx hb dX0_widestHook_25 rfl (lv_at hl 3 rfl) ?_
          refine runS_i (va_runV (As := [.int x3_7]) (rest := []) ⟨hx, hb, hml, hown, hts⟩ (K_B_greatestPlace hg sB x3_7 (by omega)) (cwV 1 hts gX0_widestHook_X0_greatestPlace rfl rfl rfl (by decide +kernel) ⟨Nat.le_of_ble_eq_true rfl, Nat.le_of_ble_eq_true rfl⟩) (preV_of hE hA hS hPB (va_recv hE.1 hPB (ci := 0) (q0 := 0) rfl rfl)) rfl rfl hl.1 rfl (lv_room (Nat.le_of_ble_eq_true rfl)) dX0_widestHook_26 ⟨Nat.zero_le _, Nat.zero_le _⟩) ?_
          refine lv_aload_n hx hb dX0_widestHook_29 rfl (lv_at hl 0 rfl) ?_
          refine lv_iload_n hx hb dX0_widestHook_30 rfl (lv_at hl 3 rfl) ?_
          refine runS_i (va_runV (As := [.int x3_7]) (rest := [.int (m_B_greatestPlace sB x3_7)]) ⟨hx, hb, hml, hown, hts⟩ (K_B_leastPlace hg sB x3_7 (by omega)) (cwV 1 hts gX0_widestHook_X0_leastPlace rfl rfl rfl (by decide +kernel) ⟨Nat.le_of_ble_eq_true rfl, Nat.le_of_ble_eq_true rfl⟩) (preV_of hE hA hS hPB (va_recv hE.1 hPB (ci := 0) (q0 := 0) rfl rfl)) rfl rfl hl.1 rfl (lv_room (Nat.le_of_ble_eq_true rfl)) dX0_widestHook_31 ⟨Nat.zero_le _, Nat.zero_le _⟩) ?_
          refine lv_isub hx hb dX0_widestHook_34 ?_
          refine lv_goto (tgt := 39) hx hb dX0_widestHook_35 (by decide) ?_
          refine lv_istore (lv' := [(4, .int ((m_B_greatestPlace sB x3_7) - (m_B_leastPlace sB x3_7))), (0, .ref (g 6)), (1, .int x1_7), (2, .int x2_7), (3, .int x3_7)]) hx hb dX0_widestHook_39 hl (by decide) rfl (fun ls hl => ?_)
          refine lv_iload hx hb dX0_widestHook_41 (lv_at hl 0 rfl) ?_
          refine lv_iload_n hx hb dX0_widestHook_43 rfl (lv_at hl 3 rfl) ?_
          refine lv_icmp_le (tgt := 52) hx hb dX0_widestHook_44 (by decide) (fun c_5 => ?_) (fun c_5 => ?_)
          · have hM := hM.trans (if_pos c_5)
            have t_5 := le_t c_5
            refine lv_iinc (v := (x3_7 + 1)) (lv' := [(3, .int (x3_7 + 1)), (4, .int ((m_B_greatestPlace sB x3_7) - (m_B_leastPlace sB x3_7))), (0, .ref (g 6)), (1, .int x1_7), (2, .int x2_7)]) hx hb dX0_widestHook_52 hl (k := 4) rfl rfl (by decide) rfl (fun ls hl => ?_)
            refine lv_goto (tgt := 7) hx hb dX0_widestHook_55 (by decide) ?_
            have := t_inc (x := x3_7) (by omega)
            rw [wl_some hM] at kk
            exact ih x1_7 x2_7 (x3_7 + 1) ls (by omega) (by omega) (lv_sub hl [2, 3, 4, 0] rfl) kk
          · have hM := hM.trans (if_neg c_5)
            have t_5 := nle_t c_5
            refine lv_iload hx hb dX0_widestHook_47 (lv_at hl 0 rfl) ?_
            refine lv_istore_n (lv' := [(2, .int ((m_B_greatestPlace sB x3_7) - (m_B_leastPlace sB x3_7))), (4, .int ((m_B_greatestPlace sB x3_7) - (m_B_leastPlace sB x3_7))), (0, .ref (g 6)), (1, .int x1_7), (3, .int x3_7)]) hx hb dX0_widestHook_49 rfl hl (by decide) rfl (fun ls hl => ?_)
            refine lv_iload_n hx hb dX0_widestHook_50 rfl (lv_at hl 4 rfl) ?_
            refine lv_istore_n (lv' := [(1, .int x3_7), (2, .int ((m_B_greatestPlace sB x3_7) - (m_B_leastPlace sB x3_7))), (4, .int ((m_B_greatestPlace sB x3_7) - (m_B_leastPlace sB x3_7))), (0, .ref (g 6)), (3, .int x3_7)]) hx hb dX0_widestHook_51 rfl hl (by decide) rfl (fun ls hl => ?_)
            refine lv_iinc (v := (x3_7 + 1)) (lv' := [(3, .int (x3_7 + 1)), (1, .int x3_7), (2, .int ((m_B_greatestPlace sB x3_7) - (m_B_leastPlace sB x3_7))), (4, .int ((m_B_greatestPlace sB x3_7) - (m_B_leastPlace sB x3_7))), (0, .ref (g 6))]) hx hb dX0_widestHook_52 hl (k := 4) rfl rfl (by decide) rfl (fun ls hl => ?_)
            refine lv_goto (tgt := 7) hx hb dX0_widestHook_55 (by decide) ?_
            have := t_inc (x := x3_7) (by omega)
            rw [wl_some hM] at kk
            exact ih x3_7 ((m_B_greatestPlace sB x3_7) - (m_B_leastPlace sB x3_7)) (x3_7 + 1) ls (by omega) (by omega) (lv_sub hl [4, 1, 2, 0] rfl) kk
  have J_58 : ∀ (x1_58 : Int32) (ls : Array Slot), lv_has ls 5 [(1, .int x1_58)] → (m_B_widestHook sB) = b_B_widestHook_58 sB x1_58 → W p l e rm_B_widestHook s m args below meth c s.heap [] 0 0 Q (F0 m 58 ls []) := by
    intro x1_58 ls hl hM
    refine lv_iload_n hx hb dX0_widestHook_58 rfl (lv_at hl 0 rfl) ?_
    have hM : (m_B_widestHook sB) = (x1_58 : Int32) := hM
    exact hret _ _ ls (nr_i _) dX0_widestHook_59 hM.symm
  have hM : (m_B_widestHook sB) = (m_B_widestHook sB) := rfl
  refine lv_bipush (v := (-9)) hx hb dX0_widestHook_0 (by decide) ?_
  refine lv_istore_n (lv' := [(1, .int (-9)), (0, .ref (g 6))]) hx hb dX0_widestHook_2 rfl hl (by decide) rfl (fun ls hl => ?_)
  refine lv_iconst (v := (-1)) hx hb dX0_widestHook_3 (by decide) ?_
  refine lv_istore_n (lv' := [(2, .int (-1)), (1, .int (-9)), (0, .ref (g 6))]) hx hb dX0_widestHook_4 rfl hl (by decide) rfl (fun ls hl => ?_)
  refine lv_iconst (v := 0) hx hb dX0_widestHook_5 (by decide) ?_
  refine lv_istore_n (lv' := [(3, .int 0), (2, .int (-1)), (1, .int (-9)), (0, .ref (g 6))]) hx hb dX0_widestHook_6 rfl hl (by decide) rfl (fun ls hl => ?_)
  have z6 := tl_m1
  have z7 := tl_m9
  have z8 := tl_0
  refine L_7 62 (-9) (-1) 0 ls (by omega) (by omega) (lv_sub hl [3, 2, 1, 0] rfl) (fun ls hl => ?_)
  exact J_58 (wl (g_B_widestHook_7 sB) 62 ((-9), (-1), 0)).1 ls (lv_sub hl [0] rfl) hM
abbrev rm_B_farthestMiss : Room := { frames := 4, cells := 0, slots := 0, locals := 93 }
set_option maxHeartbeats 4000000 in
set_option maxRecDepth 100000 in
theorem K_B_farthestMiss {l : Launch} {D : va_G} {cI : ClassId} {lo : Nat} {g : Nat → Nat} (hg : wI g 6 12 lo) (sB : St) (p1 : Int32) (p2 : Int32) (h0 : 0 ≤ p1.toInt ∧ p1.toInt ≤ 60) : ROi l D cI lo yX0_farthestMiss wsX0_farthestMiss rm_B_farthestMiss [.ref (g 6), .int p1, .int p2] (fun H => va_P D vwCl (cellB cI g sB) H) (m_B_farthestMiss sB p1 p2) := by
  refine ofW_ROi (cc := cX0_farthestMiss) (maxL := 3) (ty := .int) (by decide +kernel) rfl (Nat.le_of_ble_eq_true rfl) ?_
  intro p e s m args below meth c Q hx hb hml hown hts hE hP hret ls hl
  have hown : s.vm.findClass RX0 = some m.cls := hown
  have hPB := hP
  have hA : ∀ q : Nat, (fun _ : Nat => False) q → lo ≤ q := fun _ h => h.elim
  have hS : va_S (fun _ : Nat => False) s.heap s.heap [] := va_S.rf
  have hinB : ∀ w ∈ wsX00, w ∈ wsX0_farthestMiss := fun w h => List.mem_cons_of_mem _ (List.mem_append_right _ h)
  have hl : lv_has ls 3 [(0, .ref (g 6)), (1, .int p1), (2, .int p2)] := hl
  have hM : (m_B_farthestMiss sB p1 p2) = (m_B_farthestMiss sB p1 p2) := rfl
  refine lv_aload_n hx hb dX0_farthestMiss_0 rfl (lv_at hl 0 rfl) ?_
  refine lv_iload_n hx hb dX0_farthestMiss_1 rfl (lv_at hl 1 rfl) ?_
  refine runS_i (va_runV (As := [.int p1]) (rest := []) ⟨hx, hb, hml, hown, hts⟩ (K_B_leastPlace hg sB p1 (by omega)) (cwV 1 hts gX0_farthestMiss_X0_leastPlace rfl rfl rfl (by decide +kernel) ⟨Nat.le_of_ble_eq_true rfl, Nat.le_of_ble_eq_true rfl⟩) (preV_of hE hA hS hPB (va_recv hE.1 hPB (ci := 0) (q0 := 0) rfl rfl)) rfl rfl hl.1 rfl (lv_room (Nat.le_of_ble_eq_true rfl)) dX0_farthestMiss_2 ⟨Nat.zero_le _, Nat.zero_le _⟩) ?_
  refine lv_iload_n hx hb dX0_farthestMiss_5 rfl (lv_at hl 2 rfl) ?_
  refine lv_isub hx hb dX0_farthestMiss_6 ?_
  refine va_mabs hx hb (by rw [hml]; exact hl.1.symm) hown (hts (.methodLink RX0 84 Lib.Math.abs.name) (List.mem_of_getElem? (i := 1) rfl)) (hts (.static Lib.Math.abs.name) (List.mem_of_getElem? (i := 2) rfl)) (hts (.initialized "java/lang/Math") (List.mem_of_getElem? (i := 3) rfl)) (hts (.code Lib.Math.abs.name Lib.Math.abs.code 1 (some .int)) (List.mem_of_getElem? (i := 4) rfl)) (Nat.le_of_ble_eq_true rfl) (Nat.le_of_ble_eq_true rfl) (Nat.zero_le _) (Nat.zero_le _) dX0_farthestMiss_7 ?_
  refine lv_aload_n hx hb dX0_farthestMiss_10 rfl (lv_at hl 0 rfl) ?_
  refine lv_iload_n hx hb dX0_farthestMiss_11 rfl (lv_at hl 1 rfl) ?_
  refine runS_i (va_runV (As := [.int p1]) (rest := [.int (if 0 ≤ ((m_B_leastPlace sB p1) - p2) then ((m_B_leastPlace sB p1) - p2) else 0 - ((m_B_leastPlace sB p1) - p2))]) ⟨hx, hb, hml, hown, hts⟩ (K_B_greatestPlace hg sB p1 (by omega)) (cwV 1 hts gX0_farthestMiss_X0_greatestPlace rfl rfl rfl (by decide +kernel) ⟨Nat.le_of_ble_eq_true rfl, Nat.le_of_ble_eq_true rfl⟩) (preV_of hE hA hS hPB (va_recv hE.1 hPB (ci := 0) (q0 := 0) rfl rfl)) rfl rfl hl.1 rfl (lv_room (Nat.le_of_ble_eq_true rfl)) dX0_farthestMiss_12 ⟨Nat.zero_le _, Nat.zero_le _⟩) ?_
  refine lv_iload_n hx hb dX0_farthestMiss_15 rfl (lv_at hl 2 rfl) ?_
  refine lv_isub hx hb dX0_farthestMiss_16 ?_
  refine va_mabs hx hb (by rw [hml]; exact hl.1.symm) hown (hts (.methodLink RX0 84 Lib.Math.abs.name) (List.mem_of_getElem? (i := 1) rfl)) (hts (.static Lib.Math.abs.name) (List.mem_of_getElem? (i := 2) rfl)) (hts (.initialized "java/lang/Math") (List.mem_of_getElem? (i := 3) rfl)) (hts (.code Lib.Math.abs.name Lib.Math.abs.code 1 (some .int)) (List.mem_of_getElem? (i := 4) rfl)) (Nat.le_of_ble_eq_true rfl) (Nat.le_of_ble_eq_true rfl) (Nat.zero_le _) (Nat.zero_le _) dX0_farthestMiss_17 ?_
  refine va_mmax hx hb (by rw [hml]; exact hl.1.symm) hown (hts (.methodLink RX0 51 Lib.Math.max.name) (List.mem_of_getElem? (i := 5) rfl)) (hts (.static Lib.Math.max.name) (List.mem_of_getElem? (i := 6) rfl)) (hts (.initialized "java/lang/Math") (List.mem_of_getElem? (i := 3) rfl)) (hts (.code Lib.Math.max.name Lib.Math.max.code 2 (some .int)) (List.mem_of_getElem? (i := 7) rfl)) (Nat.le_of_ble_eq_true rfl) (Nat.le_of_ble_eq_true rfl) (Nat.zero_le _) (Nat.zero_le _) dX0_farthestMiss_20 ?_
  have hM : (m_B_farthestMiss sB p1 p2) = ((if (if 0 ≤ ((m_B_leastPlace sB p1) - p2) then ((m_B_leastPlace sB p1) - p2) else 0 - ((m_B_leastPlace sB p1) - p2)) < (if 0 ≤ ((m_B_greatestPlace sB p1) - p2) then ((m_B_greatestPlace sB p1) - p2) else 0 - ((m_B_greatestPlace sB p1) - p2)) then (if 0 ≤ ((m_B_greatestPlace sB p1) - p2) then ((m_B_greatestPlace sB p1) - p2) else 0 - ((m_B_greatestPlace sB p1) - p2)) else (if 0 ≤ ((m_B_leastPlace sB p1) - p2) then ((m_B_leastPlace sB p1) - p2) else 0 - ((m_B_leastPlace sB p1) - p2))) : Int32) := hM
  exact hret _ _ ls (nr_i _) dX0_farthestMiss_23 hM.symm
abbrev rm_B_surestHook : Room := { frames := 5, cells := 0, slots := 0, locals := 115 }
set_option maxHeartbeats 4000000 in
set_option maxRecDepth 100000 in
theorem K_B_surestHook {l : Launch} {D : va_G} {cI : ClassId} {lo : Nat} {g : Nat → Nat} (hg : wI g 6 12 lo) (sB : St) (p1 : Int32) : ROi l D cI lo yX0_surestHook wsX0_surestHook rm_B_surestHook [.ref (g 6), .int p1] (fun H => va_P D vwCl (cellB cI g sB) H) (m_B_surestHook sB p1) := by
  refine ofW_ROi (cc := cX0_surestHook) (maxL := 6) (ty := .int) (by decide +kernel) rfl (Nat.le_of_ble_eq_true rfl) ?_
  intro p e s m args below meth c Q hx hb hml hown hts hE hP hret ls hl
  have hown : s.vm.findClass RX0 = some m.cls := hown
  have hPB := hP
  have hA : ∀ q : Nat, (fun _ : Nat => False) q → lo ≤ q := fun _ h => h.elim
  have hS : va_S (fun _ : Nat => False) s.heap s.heap [] := va_S.rf
  have hinB : ∀ w ∈ wsX00, w ∈ wsX0_surestHook := fun w h => List.mem_cons_of_mem _ (List.mem_append_right _ h)
  have hl : lv_has ls 6 [(0, .ref (g 6)), (1, .int p1)] := hl
  have L_9 : ∀ (n : Nat) (x2_9 : Int32) (x3_9 : Int32) (x4_9 : Int32) (ls : Array Slot), 0 ≤ x4_9.toInt ∧ x4_9.toInt ≤ 61 → (61 - x4_9.toInt).toNat < n → lv_has ls 6 [(0, .ref (g 6)), (1, .int p1), (2, .int x2_9), (3, .int x3_9), (4, .int x4_9)] → (∀ (ls : Array Slot), lv_has ls 6 [(2, .int (wl (g_B_surestHook_9 sB p1) n (x2_9, x3_9, x4_9)).1)] → W p l e rm_B_surestHook s m args below meth c s.heap [] 0 0 Q (F0 m 60 ls [])) → W p l e rm_B_surestHook s m args below meth c s.heap [] 0 0 Q (F0 m 9 ls []) := by
    intro n
    induction n with
    | zero =>
      intro x2_9 x3_9 x4_9 ls i9_0 hn9 hl kk
      exact absurd hn9 (Nat.not_lt_zero _)
    | succ n ih =>
      intro x2_9 x3_9 x4_9 ls i9_0 hn9 hl kk
      have hM : (g_B_surestHook_9 sB p1) (x2_9, x3_9, x4_9) = (g_B_surestHook_9 sB p1) (x2_9, x3_9, x4_9) := rfl
      refine lv_iload hx hb dX0_surestHook_9 (lv_at hl 4 rfl) ?_
      refine lv_aload_n hx hb dX0_surestHook_11 rfl (lv_at hl 0 rfl) ?_
      refine va_get (D := D) (ci := 0) (v := .ref (g 7)) (C := RX0) (T := TX0) (N := 7) hx hb hts hinB hown hE.1 hPB 0 rfl rfl 0 (by decide) (hts (.fieldLink RX0 11 "WallStones$Book" "ranges" "[I") (List.mem_of_getElem? (i := 2) rfl)) (fun _ h9 => h9) rfl dX0_surestHook_12 ?_
      refine va_alen hx hb hE.1 hPB 1 0 rfl rfl (v := 61) rfl dX0_surestHook_15 ?_
      refine lv_icmp_ge (tgt := 60) hx hb dX0_surestHook_16 (by decide) (fun c_1 => ?_) (fun c_1 => ?_)
      · have hM := hM.trans (if_pos c_1)
        have t_1 := le_t c_1
        rw [tl_61] at t_1
        rw [wl_none hM] at kk
        exact kk ls (lv_sub hl [2] rfl)
      · have hM := hM.trans (if_neg c_1)
        have t_1 := nle_t c_1
        rw [tl_61] at t_1
        refine lv_aload_n hx hb dX0_surestHook_19 rfl (lv_at hl 0 rfl) ?_
        refine lv_iload hx hb dX0_surestHook_20 (lv_at hl 4 rfl) ?_
        refine runS_i (va_runV (As := [.int x4_9]) (rest := []) ⟨hx, hb, hml, hown, hts⟩ (K_B_places hg sB x4_9 (by omega)) (cwV 1 hts gX0_surestHook_X0_places rfl rfl rfl (by decide +kernel) ⟨Nat.le_of_ble_eq_true rfl, Nat.le_of_ble_eq_true rfl⟩) (preV_of hE hA hS hPB (va_recv hE.1 hPB (ci := 0) (q0 := 0) rfl rfl)) rfl rfl hl.1 rfl (lv_room (Nat.le_of_ble_eq_true rfl)) dX0_surestHook_22 ⟨Nat.zero_le _, Nat.zero_le _⟩) ?_
        refine lv_if_eq (tgt := 38) hx hb dX0_surestHook_25 (by decide) (fun c_2 => ?_) (fun c_2 => ?_)
        · have hM := hM.trans (if_pos c_2)
          have t_2 := eq_t c_2
          rw [tl_0] at t_2
          refine lv_ldc (own := RX0) (index := 72) (v := 1000000) hx hb hown (hts (.constant RX0 72 (1000000)) (List.mem_of_getElem? (i := 1) rfl)) dX0_surestHook_38 ?_
          refine lv_istore (lv' := [(5, .int 1000000), (0, .ref (g 6)), (1, .int p1), (2, .int x2_9), (3, .int x3_9), (4, .int x4_9)]) hx hb dX0_surestHook_40 hl (by decide) rfl (fun ls hl => ?_)
          refine lv_iload hx hb dX0_surestHook_42 (lv_at hl 0 rfl) ?_
          refine lv_iload_n hx hb dX0_surestHook_44 rfl (lv_at hl 4 rfl) ?_
          refine lv_icmp_ge (tgt := 54) hx hb dX0_surestHook_45 (by decide) (fun c_3 => ?_) (fun c_3 => ?_)
          · have hM := hM.trans (if_pos c_3)
            have t_3 := le_t c_3
            rw [tl_1000000] at t_3
            refine lv_iinc (v := (x4_9 + 1)) (lv' := [(4, .int (x4_9 + 1)), (5, .int 1000000), (0, .ref (g 6)), (1, .int p1), (2, .int x2_9), (3, .int x3_9)]) hx hb dX0_surestHook_54 hl (k := 5) rfl rfl (by decide) rfl (fun ls hl => ?_)
            refine lv_goto (tgt := 9) hx hb dX0_surestHook_57 (by decide) ?_
            have := t_inc (x := x4_9) (by omega)
            rw [wl_some hM] at kk
            exact ih x2_9 x3_9 (x4_9 + 1) ls (by omega) (by omega) (lv_sub hl [2, 3, 4, 5, 0] rfl) kk
          · have hM := hM.trans (if_neg c_3)
            have t_3 := nle_t c_3
            rw [tl_1000000] at t_3
            refine lv_iload hx hb dX0_surestHook_48 (lv_at hl 0 rfl) ?_
            refine lv_istore_n (lv' := [(3, .int 1000000), (5, .int 1000000), (0, .ref (g 6)), (1, .int p1), (2, .int x2_9), (4, .int x4_9)]) hx hb dX0_surestHook_50 rfl hl (by decide) rfl (fun ls hl => ?_)
            refine lv_iload hx hb dX0_surestHook_51 (lv_at hl 5 rfl) ?_
            refine lv_istore_n (lv' := [(2, .int x4_9), (3, .int 1000000), (5, .int 1000000), (0, .ref (g 6)), (1, .int p1), (4, .int x4_9)]) hx hb dX0_surestHook_53 rfl hl (by decide) rfl (fun ls hl => ?_)
            refine lv_iinc (v := (x4_9 + 1)) (lv' := [(4, .int (x4_9 + 1)), (2, .int x4_9), (3, .int 1000000), (5, .int 1000000), (0, .ref (g 6)), (1, .int p1)]) hx hb dX0_surestHook_54 hl (k := 5) rfl rfl (by decide) rfl (fun ls hl => ?_)
            refine lv_goto (tgt := 9) hx hb dX0_surestHook_57 (by decide) ?_
            have := t_inc (x := x4_9) (by omega)
            have z4 := tl_1000000
            rw [wl_some hM] at kk
            exact ih x4_9 1000000 (x4_9 + 1) ls (by omega) (by omega) (lv_sub hl [4, 5, 1, 2, 0] rfl) kk
        · have hM := hM.trans (if_neg c_2)
          have t_2 := ne_t c_2
          rw [tl_0] at t_2
          refine lv_aload_n hx hb dX0_surestHook_28 rfl (lv_at hl 0 rfl) ?_
          refine lv_iload hx hb dX0_surestHook_29 (lv_at hl 4 rfl) ?_
          refine lv_iload_n hx hb dX0_surestHook_31 rfl (lv_at hl 1 rfl) ?_
          refine runS_i (va_runV (As := [.int x4_9, .int p1]) (rest := []) ⟨hx, hb, hml, hown, hts⟩ (K_B_farthestMiss hg sB x4_9 p1 (by omega)) (cwV 2 hts gX0_surestHook_X0_farthestMiss rfl rfl rfl (by decide +kernel) ⟨Nat.le_of_ble_eq_true rfl, Nat.le_of_ble_eq_true rfl⟩) (preV_of hE hA hS hPB (va_recv hE.1 hPB (ci := 0) (q0 := 0) rfl rfl)) rfl rfl hl.1 rfl (lv_room (Nat.le_of_ble_eq_true rfl)) dX0_surestHook_32 ⟨Nat.zero_le _, Nat.zero_le _⟩) ?_
          refine lv_goto (tgt := 40) hx hb dX0_surestHook_35 (by decide) ?_
          refine lv_istore (lv' := [(5, .int (m_B_farthestMiss sB x4_9 p1)), (0, .ref (g 6)), (1, .int p1), (2, .int x2_9), (3, .int x3_9), (4, .int x4_9)]) hx hb dX0_surestHook_40 hl (by decide) rfl (fun ls hl => ?_)
          refine lv_iload hx hb dX0_surestHook_42 (lv_at hl 0 rfl) ?_
          refine lv_iload_n hx hb dX0_surestHook_44 rfl (lv_at hl 4 rfl) ?_
          refine lv_icmp_ge (tgt := 54) hx hb dX0_surestHook_45 (by decide) (fun c_5 => ?_) (fun c_5 => ?_)
          · have hM := hM.trans (if_pos c_5)
            have t_5 := le_t c_5
            refine lv_iinc (v := (x4_9 + 1)) (lv' := [(4, .int (x4_9 + 1)), (5, .int (m_B_farthestMiss sB x4_9 p1)), (0, .ref (g 6)), (1, .int p1), (2, .int x2_9), (3, .int x3_9)]) hx hb dX0_surestHook_54 hl (k := 5) rfl rfl (by decide) rfl (fun ls hl => ?_)
            refine lv_goto (tgt := 9) hx hb dX0_surestHook_57 (by decide) ?_
            have := t_inc (x := x4_9) (by omega)
            rw [wl_some hM] at kk
            exact ih x2_9 x3_9 (x4_9 + 1) ls (by omega) (by omega) (lv_sub hl [2, 3, 4, 5, 0] rfl) kk
          · have hM := hM.trans (if_neg c_5)
            have t_5 := nle_t c_5
            refine lv_iload hx hb dX0_surestHook_48 (lv_at hl 0 rfl) ?_
            refine lv_istore_n (lv' := [(3, .int (m_B_farthestMiss sB x4_9 p1)), (5, .int (m_B_farthestMiss sB x4_9 p1)), (0, .ref (g 6)), (1, .int p1), (2, .int x2_9), (4, .int x4_9)]) hx hb dX0_surestHook_50 rfl hl (by decide) rfl (fun ls hl => ?_)
            refine lv_iload hx hb dX0_surestHook_51 (lv_at hl 5 rfl) ?_
            refine lv_istore_n (lv' := [(2, .int x4_9), (3, .int (m_B_farthestMiss sB x4_9 p1)), (5, .int (m_B_farthestMiss sB x4_9 p1)), (0, .ref (g 6)), (1, .int p1), (4, .int x4_9)]) hx hb dX0_surestHook_53 rfl hl (by decide) rfl (fun ls hl => ?_)
            refine lv_iinc (v := (x4_9 + 1)) (lv' := [(4, .int (x4_9 + 1)), (2, .int x4_9), (3, .int (m_B_farthestMiss sB x4_9 p1)), (5, .int (m_B_farthestMiss sB x4_9 p1)), (0, .ref (g 6)), (1, .int p1)]) hx hb dX0_surestHook_54 hl (k := 5) rfl rfl (by decide) rfl (fun ls hl => ?_)
            refine lv_goto (tgt := 9) hx hb dX0_surestHook_57 (by decide) ?_
            have := t_inc (x := x4_9) (by omega)
            rw [wl_some hM] at kk
            exact ih x4_9 (m_B_farthestMiss sB x4_9 p1) (x4_9 + 1) ls (by omega) (by omega) (lv_sub hl [4, 5, 1, 2, 0] rfl) kk
  have J_60 : ∀ (x2_60 : Int32) (ls : Array Slot), lv_has ls 6 [(2, .int x2_60)] → (m_B_surestHook sB p1) = b_B_surestHook_60 sB x2_60 → W p l e rm_B_surestHook s m args below meth c s.heap [] 0 0 Q (F0 m 60 ls []) := by
    intro x2_60 ls hl hM
    refine lv_iload_n hx hb dX0_surestHook_60 rfl (lv_at hl 0 rfl) ?_
    have hM : (m_B_surestHook sB p1) = (x2_60 : Int32) := hM
    exact hret _ _ ls (nr_i _) dX0_surestHook_61 hM.symm
  have hM : (m_B_surestHook sB p1) = (m_B_surestHook sB p1) := rfl
  refine lv_bipush (v := (-9)) hx hb dX0_surestHook_0 (by decide) ?_
  refine lv_istore_n (lv' := [(2, .int (-9)), (0, .ref (g 6)), (1, .int p1)]) hx hb dX0_surestHook_2 rfl hl (by decide) rfl (fun ls hl => ?_)
  refine lv_ldc (own := RX0) (index := 72) (v := 1000000) hx hb hown (hts (.constant RX0 72 (1000000)) (List.mem_of_getElem? (i := 1) rfl)) dX0_surestHook_3 ?_
  refine lv_istore_n (lv' := [(3, .int 1000000), (2, .int (-9)), (0, .ref (g 6)), (1, .int p1)]) hx hb dX0_surestHook_5 rfl hl (by decide) rfl (fun ls hl => ?_)
  refine lv_iconst (v := 0) hx hb dX0_surestHook_6 (by decide) ?_
  refine lv_istore (lv' := [(4, .int 0), (3, .int 1000000), (2, .int (-9)), (0, .ref (g 6)), (1, .int p1)]) hx hb dX0_surestHook_7 hl (by decide) rfl (fun ls hl => ?_)
  have z6 := tl_m9
  have z7 := tl_0
  have z8 := tl_1000000
  refine L_9 62 (-9) 1000000 0 ls (by omega) (by omega) (lv_sub hl [3, 4, 2, 1, 0] rfl) (fun ls hl => ?_)
  exact J_60 (wl (g_B_surestHook_9 sB p1) 62 ((-9), 1000000, 0)).1 ls (lv_sub hl [0] rfl) hM
