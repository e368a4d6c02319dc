abbrev rm_R_findLeft : Room := { frames := 4, cells := 0, slots := 0, locals := 92 }
set_option maxHeartbeats 4000000 in
set_option maxRecDepth 100000 in
theorem K_R_findLeft {l : Launch} {D : va_G} {cI : ClassId} {lo : Nat} {g : Nat → Nat} (hg : wI g 0 16 lo) (sR : St) (vR : Int64) (h0 : okR sR) : WRi l D cI lo yX5_findLeft wsX5_findLeft rm_R_findLeft [.ref (g 0)] (fun H => va_P D vwCl (cellR cI g sR vR) H) (m_R_findLeft sR).1 (fun H => va_P D vwCl (cellR cI g (m_R_findLeft sR).2 vR) H) (wA g 0 16) := by
  refine ofW_WRi (cc := cX5_findLeft) (maxL := 5) (ty := .int) (by decide +kernel) rfl (Nat.le_of_ble_eq_true rfl) ?_
  intro p e s m args below meth c Q hx hb hml hown hts hE hP hret ls hl
  have hown : s.vm.findClass RX5 = some m.cls := hown
  have hPR := hP
  have hA := wA.lo hg
  have hS : va_S (wA g 0 16) s.heap s.heap [] := va_S.rf
  obtain ⟨H, hH⟩ : ∃ z, z = s.heap := ⟨_, rfl⟩
  obtain ⟨locs, hlocs⟩ : ∃ z : List Loc, z = [] := ⟨_, rfl⟩
  have hPR : va_P D vwCl (cellR cI g sR vR) H := by rw [hH]; exact hPR
  have hS : va_S (wA g 0 16) s.heap H locs := by rw [hH, hlocs]; exact va_S.rf
  have gW : W p l e rm_R_findLeft s m args below meth c H locs 0 0 Q (F0 m 0 ls []) → W p l e rm_R_findLeft s m args below meth c s.heap [] 0 0 Q (F0 m 0 ls []) := by rw [hH, hlocs]; exact id
  refine gW ?_
  have hinR : ∀ w ∈ wsX50, w ∈ wsX5_findLeft := fun w h => List.mem_cons_of_mem _ (List.mem_append_right _ h)
  have hl : lv_has ls 5 [(0, .ref (g 0))] := hl
  have nh0 := okR_lin h0
  have L_55 : ∀ (n : Nat) (sR_55 : St) (x1_55 : Int32) (x2_55 : Int32) (x3_55 : Int32) (H : Heap) (locs : List Loc) (ls : Array Slot), 0 ≤ x3_55.toInt ∧ x3_55.toInt ≤ (sR_55 0 3).toInt → okR sR_55 → 0 ≤ x2_55.toInt ∧ x2_55.toInt ≤ 774 → ((sR_55 0 3).toInt - x3_55.toInt).toNat < n → va_P D vwCl (cellR cI g sR_55 vR) H → va_S (wA g 0 16) s.heap H locs → lv_has ls 5 [(0, .ref (g 0)), (1, .int x1_55), (2, .int x2_55), (3, .int x3_55)] → (∀ (H : Heap) (locs : List Loc) (ls : Array Slot), 0 ≤ (wl (g_R_findLeft_55 x2_55) n (sR_55, x3_55)).2.toInt ∧ (wl (g_R_findLeft_55 x2_55) n (sR_55, x3_55)).2.toInt ≤ ((wl (g_R_findLeft_55 x2_55) n (sR_55, x3_55)).1 0 3).toInt → okR (wl (g_R_findLeft_55 x2_55) n (sR_55, x3_55)).1 → 0 ≤ x2_55.toInt ∧ x2_55.toInt ≤ 774 → va_P D vwCl (cellR cI g (wl (g_R_findLeft_55 x2_55) n (sR_55, x3_55)).1 vR) H → va_S (wA g 0 16) s.heap H locs → lv_has ls 5 [(0, .ref (g 0)), (1, .int x1_55), (2, .int x2_55)] → W p l e rm_R_findLeft s m args below meth c H locs 0 0 Q (F0 m 128 ls [])) → W p l e rm_R_findLeft s m args below meth c H locs 0 0 Q (F0 m 55 ls []) := by
    intro n
    induction n with
    | zero =>
      intro sR_55 x1_55 x2_55 x3_55 H locs ls i55_0 i55_1 i55_2 hn55 hPR hS hl kk
      exact absurd hn55 (Nat.not_lt_zero _)
    | succ n ih =>
      intro sR_55 x1_55 x2_55 x3_55 H locs ls i55_0 i55_1 i55_2 hn55 hPR hS hl kk
      have ni55_1 := okR_lin i55_1
      have hM : (g_R_findLeft_55 x2_55) (sR_55, x3_55) = (g_R_findLeft_55 x2_55) (sR_55, x3_55) := rfl
      refine lv_iload_n hx hb dX5_findLeft_55 rfl (lv_at hl 3 rfl) ?_
      refine lv_aload_n hx hb dX5_findLeft_56 rfl (lv_at hl 0 rfl) ?_
      refine va_get (D := D) (ci := 5) (v := .int (sR_55 0 3)) (C := RX5) (T := TX5) (N := 33) hx hb hts hinR hown hE.1 hPR 0 rfl rfl 3 (by decide) (hts (.fieldLink RX5 141 "WallStonesModel" "shots" "I") (List.mem_of_getElem? (i := 5) rfl)) (fun _ h9 => h9) rfl dX5_findLeft_57 ?_
      refine lv_icmp_ge (tgt := 128) hx hb dX5_findLeft_60 (by decide) (fun c_1 => ?_) (fun c_1 => ?_)
      · have hM := hM.trans (if_pos c_1)
        have t_1 := le_t c_1
        rw [wl_none hM] at kk
        try dsimp only at kk
        exact kk H locs ls (by omega) (by assumption) (by omega) hPR hS (lv_sub hl [0, 1, 2] rfl)
      · have hM := hM.trans (if_neg c_1)
        have t_1 := nle_t c_1
        refine lv_aload_n hx hb dX5_findLeft_63 rfl (lv_at hl 0 rfl) ?_
        refine va_get (D := D) (ci := 5) (v := .ref (g 9)) (C := RX5) (T := TX5) (N := 33) hx hb hts hinR hown hE.1 hPR 0 rfl rfl 26 (by decide) (hts (.fieldLink RX5 47 "WallStonesModel" "book" "[I") (List.mem_of_getElem? (i := 2) rfl)) (fun _ h9 => h9) rfl dX5_findLeft_64 ?_
        refine lv_aload_n hx hb dX5_findLeft_67 rfl (lv_at hl 0 rfl) ?_
        refine va_get (D := D) (ci := 5) (v := .ref (g 2)) (C := RX5) (T := TX5) (N := 33) hx hb hts hinR hown hE.1 hPR 0 rfl rfl 4 (by decide) (hts (.fieldLink RX5 17 "WallStonesModel" "shotHook" "[I") (List.mem_of_getElem? (i := 6) rfl)) (fun _ h9 => h9) rfl dX5_findLeft_68 ?_
        refine lv_iload_n hx hb dX5_findLeft_71 rfl (lv_at hl 3 rfl) ?_
        refine va_iald hx hb hE.1 hPR 2 0 rfl rfl (vp_in_iff.mpr (by omega)) dX5_findLeft_72 ?_
        refine W.eq (g2 := F0 m 73 ls [.int (sR_55 5 (Int32.toNatClampNeg x3_55)), .ref (g 9)]) rfl ?_
        refine va_iald hx hb hE.1 hPR 9 0 rfl rfl (okR_h (by assumption) (by omega) (by omega)) dX5_findLeft_73 ?_
        refine W.eq (g2 := F0 m 74 ls [.int (sR_55 27 (Int32.toNatClampNeg (sR_55 5 (Int32.toNatClampNeg x3_55))))]) rfl ?_
        refine lv_istore (lv' := [(4, .int (sR_55 27 (Int32.toNatClampNeg (sR_55 5 (Int32.toNatClampNeg x3_55))))), (0, .ref (g 0)), (1, .int x1_55), (2, .int x2_55), (3, .int x3_55)]) hx hb dX5_findLeft_74 hl (by decide) rfl (fun ls hl => ?_)
        refine lv_aload_n hx hb dX5_findLeft_76 rfl (lv_at hl 1 rfl) ?_
        refine va_get (D := D) (ci := 5) (v := .ref (g 10)) (C := RX5) (T := TX5) (N := 33) hx hb hts hinR hown hE.1 hPR 0 rfl rfl 27 (by decide) (hts (.fieldLink RX5 50 "WallStonesModel" "isLeft" "[I") (List.mem_of_getElem? (i := 4) rfl)) (fun _ h9 => h9) rfl dX5_findLeft_77 ?_
        refine lv_iload_n hx hb dX5_findLeft_80 rfl (lv_at hl 3 rfl) ?_
        refine lv_iload hx hb dX5_findLeft_81 (lv_at hl 0 rfl) ?_
        refine lv_bipush (v := (-9)) hx hb dX5_findLeft_83 (by decide) ?_
        refine lv_icmp_eq (tgt := 111) hx hb dX5_findLeft_85 (by decide) (fun c_2 => ?_) (fun c_2 => ?_)
        · have hM := hM.trans (if_pos c_2)
          have t_2 := eq_t c_2
          rw [tl_m9] at t_2
          refine lv_iconst (v := 0) hx hb dX5_findLeft_111 (by decide) ?_
          refine lv_goto (tgt := 121) hx hb dX5_findLeft_112 (by decide) ?_
          refine va_iast hx hb hE.1 hPR (wD_of hg (c := 0) (n := 16) (by decide) (by decide) rfl) hS 10 0 rfl rfl (vp_in_iff.mpr (by omega)) dX5_findLeft_121 (fun H locs hPn _ hS => ?_)
          have hPR : va_P D vwCl (cellR cI g (up sR_55 28 (Int32.toNatClampNeg x2_55) 0) vR) H := (congrArg (fun z => va_P D vwCl z H) setR_R28).mp hPn
          refine lv_iinc (v := (x3_55 + 1)) (lv' := [(3, .int (x3_55 + 1)), (4, .int (sR_55 27 (Int32.toNatClampNeg (sR_55 5 (Int32.toNatClampNeg x3_55))))), (0, .ref (g 0)), (1, .int x1_55), (2, .int x2_55)]) hx hb dX5_findLeft_122 hl (k := 4) rfl rfl (by decide) rfl (fun ls hl => ?_)
          refine lv_goto (tgt := 55) hx hb dX5_findLeft_125 (by decide) ?_
          have q3 : ((up sR_55 28 (Int32.toNatClampNeg x2_55) 0) 0 3).toInt = (sR_55 0 3).toInt := rfl
          have q4 : ((up sR_55 28 (Int32.toNatClampNeg x2_55) 0) 0 3).toInt = (sR_55 0 3).toInt := rfl
          have := t_inc (x := x3_55) (by omega)
          rw [wl_some hM] at kk
          exact ih (up sR_55 28 (Int32.toNatClampNeg x2_55) 0) x1_55 x2_55 (x3_55 + 1) H locs ls (by omega) (by assumption) (by omega) (by omega) hPR hS (lv_sub hl [2, 3, 4, 0] rfl) kk
        · have hM := hM.trans (if_neg c_2)
          have t_2 := ne_t c_2
          rw [tl_m9] at t_2
          refine lv_iload hx hb dX5_findLeft_88 (lv_at hl 0 rfl) ?_
          refine lv_iload_n hx hb dX5_findLeft_90 rfl (lv_at hl 3 rfl) ?_
          refine runS_i (va_runS (As := [.int (sR_55 27 (Int32.toNatClampNeg (sR_55 5 (Int32.toNatClampNeg x3_55)))), .int x2_55]) (rest := [.int x2_55, .ref (g 10)]) ⟨hx, hb, hml, hown, hts⟩ (K_R_lands (sR_55 27 (Int32.toNatClampNeg (sR_55 5 (Int32.toNatClampNeg x3_55)))) x2_55) (va_cwS 2 hts gX5_findLeft_X5_lands rfl rfl rfl (by decide +kernel) ⟨Nat.le_of_ble_eq_true rfl, Nat.le_of_ble_eq_true rfl⟩) (preS_of hE hA hS trivial) rfl rfl hl.1 rfl (lv_room (Nat.le_of_ble_eq_true rfl)) dX5_findLeft_91 ⟨Nat.zero_le _, Nat.zero_le _⟩) ?_
          refine lv_aload_n hx hb dX5_findLeft_94 rfl (lv_at hl 1 rfl) ?_
          refine va_get (D := D) (ci := 5) (v := .ref (g 3)) (C := RX5) (T := TX5) (N := 33) hx hb hts hinR hown hE.1 hPR 0 rfl rfl 5 (by decide) (hts (.fieldLink RX5 20 "WallStonesModel" "shotFell" "[I") (List.mem_of_getElem? (i := 7) rfl)) (fun _ h9 => h9) rfl dX5_findLeft_95 ?_
          refine lv_iload_n hx hb dX5_findLeft_98 rfl (lv_at hl 4 rfl) ?_
          refine va_iald hx hb hE.1 hPR 3 0 rfl rfl (vp_in_iff.mpr (by omega)) dX5_findLeft_99 ?_
          refine W.eq (g2 := F0 m 100 ls [.int (sR_55 6 (Int32.toNatClampNeg x3_55)), .int (m_R_lands (sR_55 27 (Int32.toNatClampNeg (sR_55 5 (Int32.toNatClampNeg x3_55)))) x2_55), .int x2_55, .ref (g 10)]) rfl ?_
          refine lv_isub hx hb dX5_findLeft_100 ?_
          refine runS_i (va_runS (As := [.int ((m_R_lands (sR_55 27 (Int32.toNatClampNeg (sR_55 5 (Int32.toNatClampNeg x3_55)))) x2_55) - (sR_55 6 (Int32.toNatClampNeg x3_55)))]) (rest := [.int x2_55, .ref (g 10)]) ⟨hx, hb, hml, hown, hts⟩ (K_R_size ((m_R_lands (sR_55 27 (Int32.toNatClampNeg (sR_55 5 (Int32.toNatClampNeg x3_55)))) x2_55) - (sR_55 6 (Int32.toNatClampNeg x3_55)))) (va_cwS 1 hts gX5_findLeft_X5_size rfl rfl rfl (by decide +kernel) ⟨Nat.le_of_ble_eq_true rfl, Nat.le_of_ble_eq_true rfl⟩) (preS_of hE hA hS trivial) rfl rfl hl.1 rfl (lv_room (Nat.le_of_ble_eq_true rfl)) dX5_findLeft_101 ⟨Nat.zero_le _, Nat.zero_le _⟩) ?_
          refine lv_aload_n hx hb dX5_findLeft_104 rfl (lv_at hl 1 rfl) ?_
          refine va_get (D := D) (ci := 5) (v := .int (sR_55 0 2)) (C := RX5) (T := TX5) (N := 33) hx hb hts hinR hown hE.1 hPR 0 rfl rfl 2 (by decide) (hts (.fieldLink RX5 13 "WallStonesModel" "spread" "I") (List.mem_of_getElem? (i := 8) rfl)) (fun _ h9 => h9) rfl dX5_findLeft_105 ?_
          refine lv_icmp_le (tgt := 115) hx hb dX5_findLeft_108 (by decide) (fun c_5 => ?_) (fun c_5 => ?_)
          · have hM := hM.trans (if_pos c_5)
            have t_5 := le_t c_5
            refine lv_aload_n hx hb dX5_findLeft_115 rfl (lv_at hl 1 rfl) ?_
            refine va_get (D := D) (ci := 5) (v := .ref (g 10)) (C := RX5) (T := TX5) (N := 33) hx hb hts hinR hown hE.1 hPR 0 rfl rfl 27 (by decide) (hts (.fieldLink RX5 50 "WallStonesModel" "isLeft" "[I") (List.mem_of_getElem? (i := 4) rfl)) (fun _ h9 => h9) rfl dX5_findLeft_116 ?_
            refine lv_iload_n hx hb dX5_findLeft_119 rfl (lv_at hl 3 rfl) ?_
            refine va_iald hx hb hE.1 hPR 10 0 rfl rfl (vp_in_iff.mpr (by omega)) dX5_findLeft_120 ?_
            refine W.eq (g2 := F0 m 121 ls [.int (sR_55 28 (Int32.toNatClampNeg x2_55)), .int x2_55, .ref (g 10)]) rfl ?_
            refine va_iast hx hb hE.1 hPR (wD_of hg (c := 0) (n := 16) (by decide) (by decide) rfl) hS 10 0 rfl rfl (vp_in_iff.mpr (by omega)) dX5_findLeft_121 (fun H locs hPn _ hS => ?_)
            have hPR : va_P D vwCl (cellR cI g (up sR_55 28 (Int32.toNatClampNeg x2_55) (sR_55 28 (Int32.toNatClampNeg x2_55))) vR) H := (congrArg (fun z => va_P D vwCl z H) setR_R28).mp hPn
            refine lv_iinc (v := (x3_55 + 1)) (lv' := [(3, .int (x3_55 + 1)), (4, .int (sR_55 27 (Int32.toNatClampNeg (sR_55 5 (Int32.toNatClampNeg x3_55))))), (0, .ref (g 0)), (1, .int x1_55), (2, .int x2_55)]) hx hb dX5_findLeft_122 hl (k := 4) rfl rfl (by decide) rfl (fun ls hl => ?_)
            refine lv_goto (tgt := 55) hx hb dX5_findLeft_125 (by decide) ?_
            have q6 : ((up sR_55 28 (Int32.toNatClampNeg x2_55) (sR_55 28 (Int32.toNatClampNeg x2_55))) 0 3).toInt = (sR_55 0 3).toInt := rfl
            have q7 : ((up sR_55 28 (Int32.toNatClampNeg x2_55) (sR_55 28 (Int32.toNatClampNeg x2_55))) 0 3).toInt = (sR_55 0 3).toInt := rfl
            have := t_inc (x := x3_55) (by omega)
            rw [wl_some hM] at kk
            exact ih (up sR_55 28 (Int32.toNatClampNeg x2_55) (sR_55 28 (Int32.toNatClampNeg x2_55))) x1_55 x2_55 (x3_55 + 1) H locs ls (by omega) (by assumption) (by omega) (by omega) hPR hS (lv_sub hl [2, 3, 4, 0] rfl) kk
          · have hM := hM.trans (if_neg c_5)
            have t_5 := nle_t c_5
            refine lv_iconst (v := 0) hx hb dX5_findLeft_111 (by decide) ?_
            refine lv_goto (tgt := 121) hx hb dX5_findLeft_112 (by decide) ?_
            refine va_iast hx hb hE.1 hPR (wD_of hg (c := 0) (n := 16) (by decide) (by decide) rfl) hS 10 0 rfl rfl (vp_in_iff.mpr (by omega)) dX5_findLeft_121 (fun H locs hPn _ hS => ?_)
            have hPR : va_P D vwCl (cellR cI g (up sR_55 28 (Int32.toNatClampNeg x2_55) 0) vR) H := (congrArg (fun z => va_P D vwCl z H) setR_R28).mp hPn
            refine lv_iinc (v := (x3_55 + 1)) (lv' := [(3, .int (x3_55 + 1)), (4, .int (sR_55 27 (Int32.toNatClampNeg (sR_55 5 (Int32.toNatClampNeg x3_55))))), (0, .ref (g 0)), (1, .int x1_55), (2, .int x2_55)]) hx hb dX5_findLeft_122 hl (k := 4) rfl rfl (by decide) rfl (fun ls hl => ?_)
            refine lv_goto (tgt := 55) hx hb dX5_findLeft_125 (by decide) ?_
            have q8 : ((up sR_55 28 (Int32.toNatClampNeg x2_55) 0) 0 3).toInt = (sR_55 0 3).toInt := rfl
            have q9 : ((up sR_55 28 (Int32.toNatClampNeg x2_55) 0) 0 3).toInt = (sR_55 0 3).toInt := rfl
            have := t_inc (x := x3_55) (by omega)
            rw [wl_some hM] at kk
            exact ih (up sR_55 28 (Int32.toNatClampNeg x2_55) 0) x1_55 x2_55 (x3_55 + 1) H locs ls (by omega) (by assumption) (by omega) (by omega) hPR hS (lv_sub hl [2, 3, 4, 0] rfl) kk
  have L_2 : ∀ (n : Nat) (sR_2 : St) (x1_2 : Int32) (H : Heap) (locs : List Loc) (ls : Array Slot), 0 ≤ x1_2.toInt ∧ x1_2.toInt ≤ 61 → okR sR_2 → (61 - x1_2.toInt).toNat < n → va_P D vwCl (cellR cI g sR_2 vR) H → va_S (wA g 0 16) s.heap H locs → lv_has ls 5 [(0, .ref (g 0)), (1, .int x1_2)] → (∀ (H : Heap) (locs : List Loc) (ls : Array Slot), 0 ≤ (wl g_R_findLeft_2 n (sR_2, x1_2)).2.toInt ∧ (wl g_R_findLeft_2 n (sR_2, x1_2)).2.toInt ≤ 61 → okR (wl g_R_findLeft_2 n (sR_2, x1_2)).1 → va_P D vwCl (cellR cI g (wl g_R_findLeft_2 n (sR_2, x1_2)).1 vR) H → va_S (wA g 0 16) s.heap H locs → lv_has ls 5 [(0, .ref (g 0))] → W p l e rm_R_findLeft s m args below meth c H locs 0 0 Q (F0 m 35 ls [])) → W p l e rm_R_findLeft s m args below meth c H locs 0 0 Q (F0 m 2 ls []) := by
    intro n
    induction n with
    | zero =>
      intro sR_2 x1_2 H locs ls i2_0 i2_1 hn2 hPR hS hl kk
      exact absurd hn2 (Nat.not_lt_zero _)
    | succ n ih =>
      intro sR_2 x1_2 H locs ls i2_0 i2_1 hn2 hPR hS hl kk
      have ni2_1 := okR_lin i2_1
      have hM : g_R_findLeft_2 (sR_2, x1_2) = g_R_findLeft_2 (sR_2, x1_2) := rfl
      refine lv_iload_n hx hb dX5_findLeft_2 rfl (lv_at hl 1 rfl) ?_
      refine lv_bipush (v := 61) hx hb dX5_findLeft_3 (by decide) ?_
      refine lv_icmp_ge (tgt := 35) hx hb dX5_findLeft_5 (by decide) (fun c_10 => ?_) (fun c_10 => ?_)
      · have hM := hM.trans (if_pos c_10)
        have t_10 := le_t c_10
        rw [tl_61] at t_10
        rw [wl_none hM] at kk
        try dsimp only at kk
        exact kk H locs ls (by omega) (by assumption) hPR hS (lv_sub hl [0] rfl)
      · have hM := hM.trans (if_neg c_10)
        have t_10 := nle_t c_10
        rw [tl_61] at t_10
        refine lv_aload_n hx hb dX5_findLeft_8 rfl (lv_at hl 0 rfl) ?_
        refine lv_aload_n hx hb dX5_findLeft_9 rfl (lv_at hl 0 rfl) ?_
        refine va_get (D := D) (ci := 5) (v := .ref (g 1)) (C := RX5) (T := TX5) (N := 33) hx hb hts hinR hown hE.1 hPR 0 rfl rfl 0 (by decide) (hts (.fieldLink RX5 7 "WallStonesModel" "told" "[I") (List.mem_of_getElem? (i := 1) rfl)) (fun _ h9 => h9) rfl dX5_findLeft_10 ?_
        refine lv_iconst (v := 3) hx hb dX5_findLeft_13 (by decide) ?_
        refine va_iald hx hb hE.1 hPR 1 0 rfl rfl (vp_in_iff.mpr (by decide)) dX5_findLeft_14 ?_
        refine W.eq (congrArg (fun z => F0 m 15 ls [.int (sR_2 1 z), .ref (g 0)]) cl_3) ?_
        refine lv_iload_n hx hb dX5_findLeft_15 rfl (lv_at hl 1 rfl) ?_
        refine runW_v (va_runV (As := [.int (sR_2 1 3), .int x1_2]) (rest := []) ⟨hx, hb, hml, hown, hts⟩ (K_R_step hg sR_2 vR (sR_2 1 3) x1_2 (by assumption) (by omega)) (cwV 2 hts gX5_findLeft_X5_step rfl rfl rfl (by decide +kernel) ⟨Nat.le_of_ble_eq_true rfl, Nat.le_of_ble_eq_true rfl⟩) (preV_of hE hA hS hPR (va_recv hE.1 hPR (ci := 5) (q0 := 0) rfl rfl)) rfl rfl hl.1 rfl (lv_room (Nat.le_of_ble_eq_true rfl)) dX5_findLeft_16 ⟨Nat.zero_le _, Nat.zero_le _⟩) hS (fun _ h9 => h9) (fun H locs hQ hk hS => ?_)
        have hPR : va_P D vwCl (cellR cI g (m_R_step sR_2 (sR_2 1 3) x1_2) vR) H := hQ
        have v11 : okR (m_R_step sR_2 (sR_2 1 3) x1_2) := okR_step (by assumption)
        have w11_3 : ((m_R_step sR_2 (sR_2 1 3) x1_2) 0 3).toInt = (sR_2 0 3).toInt := congrArg Int32.toInt (fr_R_step (by omega))
        have w11_6 : ((m_R_step sR_2 (sR_2 1 3) x1_2) 0 6).toInt = (sR_2 0 6).toInt := congrArg Int32.toInt (fr_R_step (by omega))
        have w11_7 : ((m_R_step sR_2 (sR_2 1 3) x1_2) 0 7).toInt = (sR_2 0 7).toInt := congrArg Int32.toInt (fr_R_step (by omega))
        have w11_11 : ((m_R_step sR_2 (sR_2 1 3) x1_2) 0 11).toInt = (sR_2 0 11).toInt := congrArg Int32.toInt (fr_R_step (by omega))
        have w11_16 : ((m_R_step sR_2 (sR_2 1 3) x1_2) 0 16).toInt = (sR_2 0 16).toInt := congrArg Int32.toInt (fr_R_step (by omega))
        refine lv_aload_n hx hb dX5_findLeft_19 rfl (lv_at hl 0 rfl) ?_
        refine va_get (D := D) (ci := 5) (v := .ref (g 9)) (C := RX5) (T := TX5) (N := 33) hx hb hts hinR hown hE.1 hPR 0 rfl rfl 26 (by decide) (hts (.fieldLink RX5 47 "WallStonesModel" "book" "[I") (List.mem_of_getElem? (i := 2) rfl)) (fun _ h9 => h9) rfl dX5_findLeft_20 ?_
        refine lv_iload_n hx hb dX5_findLeft_23 rfl (lv_at hl 1 rfl) ?_
        refine lv_aload_n hx hb dX5_findLeft_24 rfl (lv_at hl 0 rfl) ?_
        refine va_get (D := D) (ci := 5) (v := .int ((m_R_step sR_2 (sR_2 1 3) x1_2) 0 25)) (C := RX5) (T := TX5) (N := 33) hx hb hts hinR hown hE.1 hPR 0 rfl rfl 25 (by decide) (hts (.fieldLink RX5 115 "WallStonesModel" "range" "I") (List.mem_of_getElem? (i := 3) rfl)) (fun _ h9 => h9) rfl dX5_findLeft_25 ?_
        refine va_iast hx hb hE.1 hPR (wD_of hg (c := 0) (n := 16) (by decide) (by decide) rfl) hS 9 0 rfl rfl (vp_in_iff.mpr (by omega)) dX5_findLeft_28 (fun H locs hPn _ hS => ?_)
        have hPR : va_P D vwCl (cellR cI g (up (m_R_step sR_2 (sR_2 1 3) x1_2) 27 (Int32.toNatClampNeg x1_2) ((m_R_step sR_2 (sR_2 1 3) x1_2) 0 25)) vR) H := (congrArg (fun z => va_P D vwCl z H) setR_R27).mp hPn
        refine lv_iinc (v := (x1_2 + 1)) (lv' := [(1, .int (x1_2 + 1)), (0, .ref (g 0))]) hx hb dX5_findLeft_29 hl (k := 1) rfl rfl (by decide) rfl (fun ls hl => ?_)
        refine lv_goto (tgt := 2) hx hb dX5_findLeft_32 (by decide) ?_
        have := t_inc (x := x1_2) (by omega)
        rw [wl_some hM] at kk
        exact ih (up (m_R_step sR_2 (sR_2 1 3) x1_2) 27 (Int32.toNatClampNeg x1_2) ((m_R_step sR_2 (sR_2 1 3) x1_2) 0 25)) (x1_2 + 1) H locs ls (by omega) (by assumption) (by omega) hPR hS (lv_sub hl [1, 0] rfl) kk
  have L_39 : ∀ (n : Nat) (sR_39 : St) (x1_39 : Int32) (x2_39 : Int32) (H : Heap) (locs : List Loc) (ls : Array Slot), 0 ≤ x2_39.toInt ∧ x2_39.toInt ≤ 775 → okR sR_39 → (775 - x2_39.toInt).toNat < n → va_P D vwCl (cellR cI g sR_39 vR) H → va_S (wA g 0 16) s.heap H locs → lv_has ls 5 [(0, .ref (g 0)), (1, .int x1_39), (2, .int x2_39)] → (∀ (H : Heap) (locs : List Loc) (ls : Array Slot), 0 ≤ (wl g_R_findLeft_39 n (sR_39, x1_39, x2_39)).2.2.toInt ∧ (wl g_R_findLeft_39 n (sR_39, x1_39, x2_39)).2.2.toInt ≤ 775 → okR (wl g_R_findLeft_39 n (sR_39, x1_39, x2_39)).1 → va_P D vwCl (cellR cI g (wl g_R_findLeft_39 n (sR_39, x1_39, x2_39)).1 vR) H → va_S (wA g 0 16) s.heap H locs → lv_has ls 5 [(1, .int (wl g_R_findLeft_39 n (sR_39, x1_39, x2_39)).2.1)] → W p l e rm_R_findLeft s m args below meth c H locs 0 0 Q (F0 m 143 ls [])) → W p l e rm_R_findLeft s m args below meth c H locs 0 0 Q (F0 m 39 ls []) := by
    intro n
    induction n with
    | zero =>
      intro sR_39 x1_39 x2_39 H locs ls i39_0 i39_1 hn39 hPR hS hl kk
      exact absurd hn39 (Nat.not_lt_zero _)
    | succ n ih =>
      intro sR_39 x1_39 x2_39 H locs ls i39_0 i39_1 hn39 hPR hS hl kk
      have ni39_1 := okR_lin i39_1
      have J_128 : ∀ (sR_128 : St) (x1_128 : Int32) (x2_128 : Int32) (H : Heap) (locs : List Loc) (ls : Array Slot), okR sR_128 → 0 ≤ x2_128.toInt ∧ x2_128.toInt ≤ 774 → (775 - x2_128.toInt).toNat < n + 1 → va_P D vwCl (cellR cI g sR_128 vR) H → va_S (wA g 0 16) s.heap H locs → lv_has ls 5 [(0, .ref (g 0)), (1, .int x1_128), (2, .int x2_128)] → g_R_findLeft_39 (sR_39, x1_39, x2_39) = b_R_findLeft_128 sR_128 x1_128 x2_128 → W p l e rm_R_findLeft s m args below meth c H locs 0 0 Q (F0 m 128 ls []) := by
        intro sR_128 x1_128 x2_128 H locs ls i128_0 i128_1 i128_2 hPR hS hl hM
        have ni128_0 := okR_lin i128_0
        refine lv_iload_n hx hb dX5_findLeft_128 rfl (lv_at hl 1 rfl) ?_
        refine lv_aload_n hx hb dX5_findLeft_129 rfl (lv_at hl 0 rfl) ?_
        refine va_get (D := D) (ci := 5) (v := .ref (g 10)) (C := RX5) (T := TX5) (N := 33) hx hb hts hinR hown hE.1 hPR 0 rfl rfl 27 (by decide) (hts (.fieldLink RX5 50 "WallStonesModel" "isLeft" "[I") (List.mem_of_getElem? (i := 4) rfl)) (fun _ h9 => h9) rfl dX5_findLeft_130 ?_
        refine lv_iload_n hx hb dX5_findLeft_133 rfl (lv_at hl 2 rfl) ?_
        refine va_iald hx hb hE.1 hPR 10 0 rfl rfl (vp_in_iff.mpr (by omega)) dX5_findLeft_134 ?_
        refine W.eq (g2 := F0 m 135 ls [.int (sR_128 28 (Int32.toNatClampNeg x2_128)), .int x1_128]) rfl ?_
        refine lv_iadd hx hb dX5_findLeft_135 ?_
        refine lv_istore_n (lv' := [(1, .int (x1_128 + (sR_128 28 (Int32.toNatClampNeg x2_128)))), (0, .ref (g 0)), (2, .int x2_128)]) hx hb dX5_findLeft_136 rfl hl (by decide) rfl (fun ls hl => ?_)
        refine lv_iinc (v := (x2_128 + 1)) (lv' := [(2, .int (x2_128 + 1)), (1, .int (x1_128 + (sR_128 28 (Int32.toNatClampNeg x2_128)))), (0, .ref (g 0))]) hx hb dX5_findLeft_137 hl (k := 2) rfl rfl (by decide) rfl (fun ls hl => ?_)
        refine lv_goto (tgt := 39) hx hb dX5_findLeft_140 (by decide) ?_
        have := t_inc (x := x2_128) (by omega)
        rw [wl_some hM] at kk
        exact ih sR_128 (x1_128 + (sR_128 28 (Int32.toNatClampNeg x2_128))) (x2_128 + 1) H locs ls (by omega) (by assumption) (by omega) hPR hS (lv_sub hl [2, 1, 0] rfl) kk
      have hM : g_R_findLeft_39 (sR_39, x1_39, x2_39) = g_R_findLeft_39 (sR_39, x1_39, x2_39) := rfl
      refine lv_iload_n hx hb dX5_findLeft_39 rfl (lv_at hl 2 rfl) ?_
      refine lv_sipush (v := 775) hx hb dX5_findLeft_40 (by decide) ?_
      refine lv_icmp_ge (tgt := 143) hx hb dX5_findLeft_43 (by decide) (fun c_12 => ?_) (fun c_12 => ?_)
      · have hM := hM.trans (if_pos c_12)
        have t_12 := le_t c_12
        rw [tl_775] at t_12
        rw [wl_none hM] at kk
        try dsimp only at kk
        exact kk H locs ls (by omega) (by assumption) hPR hS (lv_sub hl [1] rfl)
      · have hM := hM.trans (if_neg c_12)
        have t_12 := nle_t c_12
        rw [tl_775] at t_12
        refine lv_aload_n hx hb dX5_findLeft_46 rfl (lv_at hl 0 rfl) ?_
        refine va_get (D := D) (ci := 5) (v := .ref (g 10)) (C := RX5) (T := TX5) (N := 33) hx hb hts hinR hown hE.1 hPR 0 rfl rfl 27 (by decide) (hts (.fieldLink RX5 50 "WallStonesModel" "isLeft" "[I") (List.mem_of_getElem? (i := 4) rfl)) (fun _ h9 => h9) rfl dX5_findLeft_47 ?_
        refine lv_iload_n hx hb dX5_findLeft_50 rfl (lv_at hl 2 rfl) ?_
        refine lv_iconst (v := 1) hx hb dX5_findLeft_51 (by decide) ?_
        refine va_iast hx hb hE.1 hPR (wD_of hg (c := 0) (n := 16) (by decide) (by decide) rfl) hS 10 0 rfl rfl (vp_in_iff.mpr (by omega)) dX5_findLeft_52 (fun H locs hPn _ hS => ?_)
        have hPR : va_P D vwCl (cellR cI g (up sR_39 28 (Int32.toNatClampNeg x2_39) 1) vR) H := (congrArg (fun z => va_P D vwCl z H) setR_R28).mp hPn
        refine lv_iconst (v := 0) hx hb dX5_findLeft_53 (by decide) ?_
        refine lv_istore_n (lv' := [(3, .int 0), (0, .ref (g 0)), (1, .int x1_39), (2, .int x2_39)]) hx hb dX5_findLeft_54 rfl hl (by decide) rfl (fun ls hl => ?_)
        have z13 := tl_0
        have q14 : ((up sR_39 28 (Int32.toNatClampNeg x2_39) 1) 0 3).toInt = (sR_39 0 3).toInt := rfl
        have q15 : ((up sR_39 28 (Int32.toNatClampNeg x2_39) 1) 0 3).toInt = (sR_39 0 3).toInt := rfl
        refine L_55 17 (up sR_39 28 (Int32.toNatClampNeg x2_39) 1) x1_39 x2_39 0 H locs ls (by omega) (by assumption) (by omega) (by omega) hPR hS (lv_sub hl [1, 2, 3, 0] rfl) (fun H locs ls k0 k1 k2 hPR hS hl => ?_)
        have nk1 := okR_lin k1
        exact J_128 (wl (g_R_findLeft_55 x2_39) 17 ((up sR_39 28 (Int32.toNatClampNeg x2_39) 1), 0)).1 x1_39 x2_39 H locs ls (by assumption) (by omega) (by omega) hPR hS (lv_sub hl [0, 1, 2] rfl) hM
  have J_143 : ∀ (sR_143 : St) (x1_143 : Int32) (H : Heap) (locs : List Loc) (ls : Array Slot), va_P D vwCl (cellR cI g sR_143 vR) H → va_S (wA g 0 16) s.heap H locs → lv_has ls 5 [(1, .int x1_143)] → (m_R_findLeft sR) = b_R_findLeft_143 sR_143 x1_143 → W p l e rm_R_findLeft s m args below meth c H locs 0 0 Q (F0 m 143 ls []) := by
    intro sR_143 x1_143 H locs ls hPR hS hl hM
    refine lv_iload_n hx hb dX5_findLeft_143 rfl (lv_at hl 0 rfl) ?_
    have hM : (m_R_findLeft sR) = ((x1_143, sR_143) : Int32 × St) := hM
    exact hret x1_143 H locs _ ls (nr_i _) dX5_findLeft_144 (ret1 hM) (rP_v1 (P := fun (z0 : St) => va_P D vwCl (cellR cI g z0 vR) H) hM hPR) hS
  have J_35 : ∀ (sR_35 : St) (H : Heap) (locs : List Loc) (ls : Array Slot), okR sR_35 → va_P D vwCl (cellR cI g sR_35 vR) H → va_S (wA g 0 16) s.heap H locs → lv_has ls 5 [(0, .ref (g 0))] → (m_R_findLeft sR) = b_R_findLeft_35 sR_35 → W p l e rm_R_findLeft s m args below meth c H locs 0 0 Q (F0 m 35 ls []) := by
    intro sR_35 H locs ls i35_0 hPR hS hl hM
    have ni35_0 := okR_lin i35_0
    refine lv_iconst (v := 0) hx hb dX5_findLeft_35 (by decide) ?_
    refine lv_istore_n (lv' := [(1, .int 0), (0, .ref (g 0))]) hx hb dX5_findLeft_36 rfl hl (by decide) rfl (fun ls hl => ?_)
    refine lv_iconst (v := 0) hx hb dX5_findLeft_37 (by decide) ?_
    refine lv_istore_n (lv' := [(2, .int 0), (1, .int 0), (0, .ref (g 0))]) hx hb dX5_findLeft_38 rfl hl (by decide) rfl (fun ls hl => ?_)
    have z16 := tl_0
    refine L_39 776 sR_35 0 0 H locs ls (by omega) (by assumption) (by omega) hPR hS (lv_sub hl [2, 1, 0] rfl) (fun H locs ls k0 k1 hPR hS hl => ?_)
    have nk1 := okR_lin k1
    exact J_143 (wl g_R_findLeft_39 776 (sR_35, 0, 0)).1 (wl g_R_findLeft_39 776 (sR_35, 0, 0)).2.1 H locs ls hPR hS (lv_sub hl [0] rfl) hM
  have hM : (m_R_findLeft sR) = (m_R_findLeft sR) := rfl
  refine lv_iconst (v := 0) hx hb dX5_findLeft_0 (by decide) ?_
  refine lv_istore_n (lv' := [(1, .int 0), (0, .ref (g 0))]) hx hb dX5_findLeft_1 rfl hl (by decide) rfl (fun ls hl => ?_)
  have z17 := tl_0
  refine L_2 62 sR 0 H locs ls (by omega) (by assumption) (by omega) hPR hS (lv_sub hl [1, 0] rfl) (fun H locs ls k0 k1 hPR hS hl => ?_)
  have nk1 := okR_lin k1
  exact J_35 (wl g_R_findLeft_2 62 (sR, 0)).1 H locs ls (by assumption) hPR hS (lv_sub hl [0] rfl) hM
abbrev rm_R_left : Room := { frames := 5, cells := 0, slots := 0, locals := 116 }
set_option maxHeartbeats 4000000 in
set_option maxRecDepth 100000 in
theorem K_R_left {l : Launch} {D : va_G} {cI : ClassId} {lo : Nat} {g : Nat → Nat} (hg : wI g 0 16 lo) (sR : St) (vR : Int64) (h0 : okR sR) : WRi l D cI lo yX5_left wsX5_left rm_R_left [.ref (g 0)] (fun H => va_P D vwCl (cellR cI g sR vR) H) (m_R_left sR).1 (fun H => va_P D vwCl (cellR cI g (m_R_left sR).2 vR) H) (wA g 0 16) := by
  refine ofW_WRi (cc := cX5_left) (maxL := 1) (ty := .int) (by decide +kernel) rfl (Nat.le_of_ble_eq_true rfl) ?_
  intro p e s m args below meth c Q hx hb hml hown hts hE hP hret ls hl
  have hown : s.vm.findClass RX5 = some m.cls := hown
  have hPR := hP
  have hA := wA.lo hg
  have hS : va_S (wA g 0 16) s.heap s.heap [] := va_S.rf
  obtain ⟨H, hH⟩ : ∃ z, z = s.heap := ⟨_, rfl⟩
  obtain ⟨locs, hlocs⟩ : ∃ z : List Loc, z = [] := ⟨_, rfl⟩
  have hPR : va_P D vwCl (cellR cI g sR vR) H := by rw [hH]; exact hPR
  have hS : va_S (wA g 0 16) s.heap H locs := by rw [hH, hlocs]; exact va_S.rf
  have gW : W p l e rm_R_left s m args below meth c H locs 0 0 Q (F0 m 0 ls []) → W p l e rm_R_left s m args below meth c s.heap [] 0 0 Q (F0 m 0 ls []) := by rw [hH, hlocs]; exact id
  refine gW ?_
  have hinR : ∀ w ∈ wsX50, w ∈ wsX5_left := fun w h => List.mem_cons_of_mem _ (List.mem_append_right _ h)
  have hl : lv_has ls 1 [(0, .ref (g 0))] := hl
  have nh0 := okR_lin h0
  have hM : (m_R_left sR) = (m_R_left sR) := rfl
  refine lv_aload_n hx hb dX5_left_0 rfl (lv_at hl 0 rfl) ?_
  refine runW_i (va_runV (As := []) (rest := []) ⟨hx, hb, hml, hown, hts⟩ (K_R_findLeft hg sR vR (by assumption)) (cwV 0 hts gX5_left_X5_findLeft rfl rfl rfl (by decide +kernel) ⟨Nat.le_of_ble_eq_true rfl, Nat.le_of_ble_eq_true rfl⟩) (preV_of hE hA hS hPR (va_recv hE.1 hPR (ci := 5) (q0 := 0) rfl rfl)) rfl rfl hl.1 rfl (lv_room (Nat.le_of_ble_eq_true rfl)) dX5_left_1 ⟨Nat.zero_le _, Nat.zero_le _⟩) hS (fun _ h9 => h9) (fun H locs hQ hk hS => ?_)
  have hPR : va_P D vwCl (cellR cI g (m_R_findLeft sR).2 vR) H := hQ
  have v1 : okR (m_R_findLeft sR).2 := okR_findLeft (by assumption)
  have w1_3 : ((m_R_findLeft sR).2 0 3).toInt = (sR 0 3).toInt := congrArg Int32.toInt (fr_R_findLeft (by omega))
  have w1_6 : ((m_R_findLeft sR).2 0 6).toInt = (sR 0 6).toInt := congrArg Int32.toInt (fr_R_findLeft (by omega))
  have w1_7 : ((m_R_findLeft sR).2 0 7).toInt = (sR 0 7).toInt := congrArg Int32.toInt (fr_R_findLeft (by omega))
  have w1_11 : ((m_R_findLeft sR).2 0 11).toInt = (sR 0 11).toInt := congrArg Int32.toInt (fr_R_findLeft (by omega))
  have w1_16 : ((m_R_findLeft sR).2 0 16).toInt = (sR 0 16).toInt := congrArg Int32.toInt (fr_R_findLeft (by omega))
  have hM : (m_R_left sR) = (((m_R_findLeft sR).1, (m_R_findLeft sR).2) : Int32 × St) := hM
  exact hret (m_R_findLeft sR).1 H locs _ ls (nr_i _) dX5_left_4 (ret1 hM) (rP_v1 (P := fun (z0 : St) => va_P D vwCl (cellR cI g z0 vR) H) hM hPR) hS
abbrev rm_R_spanOf : Room := { frames := 1, cells := 0, slots := 0, locals := 21 }
set_option maxHeartbeats 4000000 in
set_option maxRecDepth 100000 in
theorem K_R_spanOf {l : Launch} {D : va_G} {cI : ClassId} {lo : Nat} {g : Nat → Nat} (hg : wI g 0 16 lo) (sR : St) (vR : Int64) (p1 : Int32) (p2 : Int32) (h0 : 0 ≤ p1.toInt ∧ p1.toInt ≤ 60) : ROi l D cI lo yX5_spanOf wsX5_spanOf rm_R_spanOf [.ref (g 0), .int p1, .int p2] (fun H => va_P D vwCl (cellR cI g sR vR) H) (m_R_spanOf sR p1 p2) := by
  refine ofW_ROi (cc := cX5_spanOf) (maxL := 6) (ty := .int) (by decide +kernel) rfl (Nat.le_of_ble_eq_true rfl) ?_
  intro p e s m args below meth c Q hx hb hml hown hts hE hP hret ls hl
  have hown : s.vm.findClass RX5 = some m.cls := hown
  have hPR := hP
  have hA : ∀ q : Nat, (fun _ : Nat => False) q → lo ≤ q := fun _ h => h.elim
  have hS : va_S (fun _ : Nat => False) s.heap s.heap [] := va_S.rf
  have hinR : ∀ w ∈ wsX50, w ∈ wsX5_spanOf := fun w h => List.mem_cons_of_mem _ (List.mem_append_right _ h)
  have hl : lv_has ls 6 [(0, .ref (g 0)), (1, .int p1), (2, .int p2)] := hl
  have L_7 : ∀ (n : Nat) (x3_7 : Int32) (x4_7 : Int32) (ls : Array Slot), 0 ≤ x4_7.toInt ∧ x4_7.toInt ≤ 775 → (775 - x4_7.toInt).toNat < n → lv_has ls 6 [(0, .ref (g 0)), (1, .int p1), (2, .int p2), (3, .int x3_7), (4, .int x4_7)] → (∀ (ls : Array Slot), lv_has ls 6 [(3, .int (wl (g_R_spanOf_7 sR p1 p2) n (x3_7, x4_7)).1)] → W p l e rm_R_spanOf s m args below meth c s.heap [] 0 0 Q (F0 m 89 ls [])) → W p l e rm_R_spanOf s m args below meth c s.heap [] 0 0 Q (F0 m 7 ls []) := by
    intro n
    induction n with
    | zero =>
      intro x3_7 x4_7 ls i7_0 hn7 hl kk
      exact absurd hn7 (Nat.not_lt_zero _)
    | succ n ih =>
      intro x3_7 x4_7 ls i7_0 hn7 hl kk
      have hM : (g_R_spanOf_7 sR p1 p2) (x3_7, x4_7) = (g_R_spanOf_7 sR p1 p2) (x3_7, x4_7) := rfl
      refine lv_iload hx hb dX5_spanOf_7 (lv_at hl 4 rfl) ?_
      refine lv_sipush (v := 775) hx hb dX5_spanOf_9 (by decide) ?_
      refine lv_icmp_ge (tgt := 89) hx hb dX5_spanOf_12 (by decide) (fun c_1 => ?_) (fun c_1 => ?_)
      · have hM := hM.trans (if_pos c_1)
        have t_1 := le_t c_1
        rw [tl_775] at t_1
        rw [wl_none hM] at kk
        exact kk ls (lv_sub hl [3] rfl)
      · have hM := hM.trans (if_neg c_1)
        have t_1 := nle_t c_1
        rw [tl_775] at t_1
        refine lv_aload_n hx hb dX5_spanOf_15 rfl (lv_at hl 0 rfl) ?_
        refine va_get (D := D) (ci := 5) (v := .ref (g 10)) (C := RX5) (T := TX5) (N := 33) hx hb hts hinR hown hE.1 hPR 0 rfl rfl 27 (by decide) (hts (.fieldLink RX5 50 "WallStonesModel" "isLeft" "[I") (List.mem_of_getElem? (i := 1) rfl)) (fun _ h9 => h9) rfl dX5_spanOf_16 ?_
        refine lv_iload hx hb dX5_spanOf_19 (lv_at hl 4 rfl) ?_
        refine va_iald hx hb hE.1 hPR 10 0 rfl rfl (vp_in_iff.mpr (by omega)) dX5_spanOf_21 ?_
        refine W.eq (g2 := F0 m 22 ls [.int (sR 28 (Int32.toNatClampNeg x4_7))]) rfl ?_
        refine lv_iconst (v := 1) hx hb dX5_spanOf_22 (by decide) ?_
        refine lv_icmp_ne (tgt := 83) hx hb dX5_spanOf_23 (by decide) (fun c_2 => ?_) (fun c_2 => ?_)
        · have hM := hM.trans (if_neg c_2)
          have t_2 := ne_t c_2
          rw [tl_1] at t_2
          refine lv_iinc (v := (x4_7 + 1)) (lv' := [(4, .int (x4_7 + 1)), (0, .ref (g 0)), (1, .int p1), (2, .int p2), (3, .int x3_7)]) hx hb dX5_spanOf_83 hl (k := 4) rfl rfl (by decide) rfl (fun ls hl => ?_)
          refine lv_goto (tgt := 7) hx hb dX5_spanOf_86 (by decide) ?_
          have := t_inc (x := x4_7) (by omega)
          rw [wl_some hM] at kk
          exact ih x3_7 (x4_7 + 1) ls (by omega) (by omega) (lv_sub hl [1, 2, 3, 4, 0] rfl) kk
        · have hM := hM.trans (if_pos c_2)
          have t_2 := eq_t c_2
          rw [tl_1] at t_2
          refine lv_aload_n hx hb dX5_spanOf_26 rfl (lv_at hl 0 rfl) ?_
          refine va_get (D := D) (ci := 5) (v := .ref (g 9)) (C := RX5) (T := TX5) (N := 33) hx hb hts hinR hown hE.1 hPR 0 rfl rfl 26 (by decide) (hts (.fieldLink RX5 47 "WallStonesModel" "book" "[I") (List.mem_of_getElem? (i := 2) rfl)) (fun _ h9 => h9) rfl dX5_spanOf_27 ?_
          refine lv_iload_n hx hb dX5_spanOf_30 rfl (lv_at hl 1 rfl) ?_
          refine va_iald hx hb hE.1 hPR 9 0 rfl rfl (vp_in_iff.mpr (by omega)) dX5_spanOf_31 ?_
          refine W.eq (g2 := F0 m 32 ls [.int (sR 27 (Int32.toNatClampNeg p1))]) rfl ?_
          refine lv_bipush (v := (-9)) hx hb dX5_spanOf_32 (by decide) ?_
          refine lv_icmp_eq (tgt := 83) hx hb dX5_spanOf_34 (by decide) (fun c_3 => ?_) (fun c_3 => ?_)
          · have hM := hM.trans (if_pos c_3)
            have t_3 := eq_t c_3
            rw [tl_m9] at t_3
            refine lv_iinc (v := (x4_7 + 1)) (lv' := [(4, .int (x4_7 + 1)), (0, .ref (g 0)), (1, .int p1), (2, .int p2), (3, .int x3_7)]) hx hb dX5_spanOf_83 hl (k := 4) rfl rfl (by decide) rfl (fun ls hl => ?_)
            refine lv_goto (tgt := 7) hx hb dX5_spanOf_86 (by decide) ?_
            have := t_inc (x := x4_7) (by omega)
            rw [wl_some hM] at kk
            exact ih x3_7 (x4_7 + 1) ls (by omega) (by omega) (lv_sub hl [1, 2, 3, 4, 0] rfl) kk
          · have hM := hM.trans (if_neg c_3)
            have t_3 := ne_t c_3
            rw [tl_m9] at t_3
            refine lv_aload_n hx hb dX5_spanOf_37 rfl (lv_at hl 0 rfl) ?_
            refine va_get (D := D) (ci := 5) (v := .ref (g 9)) (C := RX5) (T := TX5) (N := 33) hx hb hts hinR hown hE.1 hPR 0 rfl rfl 26 (by decide) (hts (.fieldLink RX5 47 "WallStonesModel" "book" "[I") (List.mem_of_getElem? (i := 2) rfl)) (fun _ h9 => h9) rfl dX5_spanOf_38 ?_
            refine lv_iload_n hx hb dX5_spanOf_41 rfl (lv_at hl 1 rfl) ?_
            refine va_iald hx hb hE.1 hPR 9 0 rfl rfl (vp_in_iff.mpr (by omega)) dX5_spanOf_42 ?_
            refine W.eq (g2 := F0 m 43 ls [.int (sR 27 (Int32.toNatClampNeg p1))]) rfl ?_
            refine lv_iload hx hb dX5_spanOf_43 (lv_at hl 4 rfl) ?_
            refine runS_i (va_runS (As := [.int (sR 27 (Int32.toNatClampNeg p1)), .int x4_7]) (rest := []) ⟨hx, hb, hml, hown, hts⟩ (K_R_lands (sR 27 (Int32.toNatClampNeg p1)) x4_7) (va_cwS 2 hts gX5_spanOf_X5_lands rfl rfl rfl (by decide +kernel) ⟨Nat.le_of_ble_eq_true rfl, Nat.le_of_ble_eq_true rfl⟩) (preS_of hE hA hS trivial) rfl rfl hl.1 rfl (lv_room (Nat.le_of_ble_eq_true rfl)) dX5_spanOf_45 ⟨Nat.zero_le _, Nat.zero_le _⟩) ?_
            refine lv_istore (lv' := [(5, .int (m_R_lands (sR 27 (Int32.toNatClampNeg p1)) x4_7)), (0, .ref (g 0)), (1, .int p1), (2, .int p2), (3, .int x3_7), (4, .int x4_7)]) hx hb dX5_spanOf_48 hl (by decide) rfl (fun ls hl => ?_)
            refine lv_iload_n hx hb dX5_spanOf_50 rfl (lv_at hl 4 rfl) ?_
            refine lv_sipush (v := (-1000)) hx hb dX5_spanOf_51 (by decide) ?_
            refine lv_icmp_eq (tgt := 76) hx hb dX5_spanOf_54 (by decide) (fun c_4 => ?_) (fun c_4 => ?_)
            · have hM := hM.trans (if_pos c_4)
              have t_4 := eq_t c_4
              rw [tl_m1000] at t_4
              refine lv_iload hx hb dX5_spanOf_76 (lv_at hl 0 rfl) ?_
              refine lv_goto (tgt := 82) hx hb dX5_spanOf_78 (by decide) ?_
              refine lv_istore_n (lv' := [(3, .int (m_R_lands (sR 27 (Int32.toNatClampNeg p1)) x4_7)), (5, .int (m_R_lands (sR 27 (Int32.toNatClampNeg p1)) x4_7)), (0, .ref (g 0)), (1, .int p1), (2, .int p2), (4, .int x4_7)]) hx hb dX5_spanOf_82 rfl hl (by decide) rfl (fun ls hl => ?_)
              refine lv_iinc (v := (x4_7 + 1)) (lv' := [(4, .int (x4_7 + 1)), (3, .int (m_R_lands (sR 27 (Int32.toNatClampNeg p1)) x4_7)), (5, .int (m_R_lands (sR 27 (Int32.toNatClampNeg p1)) x4_7)), (0, .ref (g 0)), (1, .int p1), (2, .int p2)]) hx hb dX5_spanOf_83 hl (k := 5) rfl rfl (by decide) rfl (fun ls hl => ?_)
              refine lv_goto (tgt := 7) hx hb dX5_spanOf_86 (by decide) ?_
              have := t_inc (x := x4_7) (by omega)
              rw [wl_some hM] at kk
              exact ih (m_R_lands (sR 27 (Int32.toNatClampNeg p1)) x4_7) (x4_7 + 1) ls (by omega) (by omega) (lv_sub hl [3, 4, 5, 1, 0] rfl) kk
            · have hM := hM.trans (if_neg c_4)
              have t_4 := ne_t c_4
              rw [tl_m1000] at t_4
              refine lv_iload_n hx hb dX5_spanOf_57 rfl (lv_at hl 3 rfl) ?_
              refine lv_if_eq (tgt := 70) hx hb dX5_spanOf_58 (by decide) (fun c_5 => ?_) (fun c_5 => ?_)
              · have hM := hM.trans (if_pos c_5)
                have t_5 := eq_t c_5
                rw [tl_0] at t_5
                refine lv_iload hx hb dX5_spanOf_70 (lv_at hl 0 rfl) ?_
                refine lv_iload_n hx hb dX5_spanOf_72 rfl (lv_at hl 4 rfl) ?_
                refine lv_icmp_ge (tgt := 81) hx hb dX5_spanOf_73 (by decide) (fun c_6 => ?_) (fun c_6 => ?_)
                · have hM := hM.trans (if_pos c_6)
                  have t_6 := le_t c_6
                  refine lv_iload_n hx hb dX5_spanOf_81 rfl (lv_at hl 4 rfl) ?_
                  refine lv_istore_n (lv' := [(3, .int x3_7), (5, .int (m_R_lands (sR 27 (Int32.toNatClampNeg p1)) x4_7)), (0, .ref (g 0)), (1, .int p1), (2, .int p2), (4, .int x4_7)]) hx hb dX5_spanOf_82 rfl hl (by decide) rfl (fun ls hl => ?_)
                  refine lv_iinc (v := (x4_7 + 1)) (lv' := [(4, .int (x4_7 + 1)), (3, .int x3_7), (5, .int (m_R_lands (sR 27 (Int32.toNatClampNeg p1)) x4_7)), (0, .ref (g 0)), (1, .int p1), (2, .int p2)]) hx hb dX5_spanOf_83 hl (k := 5) rfl rfl (by decide) rfl (fun ls hl => ?_)
                  refine lv_goto (tgt := 7) hx hb dX5_spanOf_86 (by decide) ?_
                  have := t_inc (x := x4_7) (by omega)
                  rw [wl_some hM] at kk
                  exact ih x3_7 (x4_7 + 1) ls (by omega) (by omega) (lv_sub hl [3, 4, 5, 1, 0] rfl) kk
                · have hM := hM.trans (if_neg c_6)
                  have t_6 := nle_t c_6
                  refine lv_iload hx hb dX5_spanOf_76 (lv_at hl 0 rfl) ?_
                  refine lv_goto (tgt := 82) hx hb dX5_spanOf_78 (by decide) ?_
                  refine lv_istore_n (lv' := [(3, .int (m_R_lands (sR 27 (Int32.toNatClampNeg p1)) x4_7)), (5, .int (m_R_lands (sR 27 (Int32.toNatClampNeg p1)) x4_7)), (0, .ref (g 0)), (1, .int p1), (2, .int p2), (4, .int x4_7)]) hx hb dX5_spanOf_82 rfl hl (by decide) rfl (fun ls hl => ?_)
                  refine lv_iinc (v := (x4_7 + 1)) (lv' := [(4, .int (x4_7 + 1)), (3, .int (m_R_lands (sR 27 (Int32.toNatClampNeg p1)) x4_7)), (5, .int (m_R_lands (sR 27 (Int32.toNatClampNeg p1)) x4_7)), (0, .ref (g 0)), (1, .int p1), (2, .int p2)]) hx hb dX5_spanOf_83 hl (k := 5) rfl rfl (by decide) rfl (fun ls hl => ?_)
                  refine lv_goto (tgt := 7) hx hb dX5_spanOf_86 (by decide) ?_
                  have := t_inc (x := x4_7) (by omega)
                  rw [wl_some hM] at kk
                  exact ih (m_R_lands (sR 27 (Int32.toNatClampNeg p1)) x4_7) (x4_7 + 1) ls (by omega) (by omega) (lv_sub hl [3, 4, 5, 1, 0] rfl) kk
              · have hM := hM.trans (if_neg c_5)
                have t_5 := ne_t c_5
                rw [tl_0] at t_5
                refine lv_iload hx hb dX5_spanOf_61 (lv_at hl 0 rfl) ?_
                refine lv_iload_n hx hb dX5_spanOf_63 rfl (lv_at hl 4 rfl) ?_
                refine lv_icmp_le (tgt := 81) hx hb dX5_spanOf_64 (by decide) (fun c_7 => ?_) (fun c_7 => ?_)
                · have hM := hM.trans (if_pos c_7)
                  have t_7 := le_t c_7
                  refine lv_iload_n hx hb dX5_spanOf_81 rfl (lv_at hl 4 rfl) ?_
                  refine lv_istore_n (lv' := [(3, .int x3_7), (5, .int (m_R_lands (sR 27 (Int32.toNatClampNeg p1)) x4_7)), (0, .ref (g 0)), (1, .int p1), (2, .int p2), (4, .int x4_7)]) hx hb dX5_spanOf_82 rfl hl (by decide) rfl (fun ls hl => ?_)
                  refine lv_iinc (v := (x4_7 + 1)) (lv' := [(4, .int (x4_7 + 1)), (3, .int x3_7), (5, .int (m_R_lands (sR 27 (Int32.toNatClampNeg p1)) x4_7)), (0, .ref (g 0)), (1, .int p1), (2, .int p2)]) hx hb dX5_spanOf_83 hl (k := 5) rfl rfl (by decide) rfl (fun ls hl => ?_)
                  refine lv_goto (tgt := 7) hx hb dX5_spanOf_86 (by decide) ?_
                  have := t_inc (x := x4_7) (by omega)
                  rw [wl_some hM] at kk
                  exact ih x3_7 (x4_7 + 1) ls (by omega) (by omega) (lv_sub hl [3, 4, 5, 1, 0] rfl) kk
                · have hM := hM.trans (if_neg c_7)
                  have t_7 := nle_t c_7
                  refine lv_goto (tgt := 76) hx hb dX5_spanOf_67 (by decide) ?_
                  refine lv_iload hx hb dX5_spanOf_76 (lv_at hl 0 rfl) ?_
                  refine lv_goto (tgt := 82) hx hb dX5_spanOf_78 (by decide) ?_
                  refine lv_istore_n (lv' := [(3, .int (m_R_lands (sR 27 (Int32.toNatClampNeg p1)) x4_7)), (5, .int (m_R_lands (sR 27 (Int32.toNatClampNeg p1)) x4_7)), (0, .ref (g 0)), (1, .int p1), (2, .int p2), (4, .int x4_7)]) hx hb dX5_spanOf_82 rfl hl (by decide) rfl (fun ls hl => ?_)
                  refine lv_iinc (v := (x4_7 + 1)) (lv' := [(4, .int (x4_7 + 1)), (3, .int (m_R_lands (sR 27 (Int32.toNatClampNeg p1)) x4_7)), (5, .int (m_R_lands (sR 27 (Int32.toNatClampNeg p1)) x4_7)), (0, .ref (g 0)), (1, .int p1), (2, .int p2)]) hx hb dX5_spanOf_83 hl (k := 5) rfl rfl (by decide) rfl (fun ls hl => ?_)
                  refine lv_goto (tgt := 7) hx hb dX5_spanOf_86 (by decide) ?_
                  have := t_inc (x := x4_7) (by omega)
                  rw [wl_some hM] at kk
                  exact ih (m_R_lands (sR 27 (Int32.toNatClampNeg p1)) x4_7) (x4_7 + 1) ls (by omega) (by omega) (lv_sub hl [3, 4, 5, 1, 0] rfl) kk
  have J_89 : ∀ (x3_89 : Int32) (ls : Array Slot), lv_has ls 6 [(3, .int x3_89)] → (m_R_spanOf sR p1 p2) = b_R_spanOf_89 sR x3_89 → W p l e rm_R_spanOf s m args below meth c s.heap [] 0 0 Q (F0 m 89 ls []) := by
    intro x3_89 ls hl hM
    refine lv_iload_n hx hb dX5_spanOf_89 rfl (lv_at hl 0 rfl) ?_
    have hM : (m_R_spanOf sR p1 p2) = (x3_89 : Int32) := hM
    exact hret _ _ ls (nr_i _) dX5_spanOf_90 hM.symm
  have hM : (m_R_spanOf sR p1 p2) = (m_R_spanOf sR p1 p2) := rfl
  refine lv_sipush (v := (-1000)) hx hb dX5_spanOf_0 (by decide) ?_
  refine lv_istore_n (lv' := [(3, .int (-1000)), (0, .ref (g 0)), (1, .int p1), (2, .int p2)]) hx hb dX5_spanOf_3 rfl hl (by decide) rfl (fun ls hl => ?_)
  refine lv_iconst (v := 0) hx hb dX5_spanOf_4 (by decide) ?_
  refine lv_istore (lv' := [(4, .int 0), (3, .int (-1000)), (0, .ref (g 0)), (1, .int p1), (2, .int p2)]) hx hb dX5_spanOf_5 hl (by decide) rfl (fun ls hl => ?_)
  have z8 := tl_m1000
  have z9 := tl_0
  refine L_7 776 (-1000) 0 ls (by omega) (by omega) (lv_sub hl [2, 3, 4, 1, 0] rfl) (fun ls hl => ?_)
  exact J_89 (wl (g_R_spanOf_7 sR p1 p2) 776 ((-1000), 0)).1 ls (lv_sub hl [0] rfl) hM
abbrev rm_R_span : Room := { frames := 5, cells := 0, slots := 0, locals := 116 }
set_option maxHeartbeats 4000000 in
set_option maxRecDepth 100000 in
theorem K_R_span {l : Launch} {D : va_G} {cI : ClassId} {lo : Nat} {g : Nat → Nat} (hg : wI g 0 16 lo) (sR : St) (vR : Int64) (p1 : Int32) (p2 : Int32) (h0 : okR sR) : WRi l D cI lo yX5_span wsX5_span rm_R_span [.ref (g 0), .int p1, .int p2] (fun H => va_P D vwCl (cellR cI g sR vR) H) (m_R_span sR p1 p2).1 (fun H => va_P D vwCl (cellR cI g (m_R_span sR p1 p2).2 vR) H) (wA g 0 16) := by
  refine ofW_WRi (cc := cX5_span) (maxL := 3) (ty := .int) (by decide +kernel) rfl (Nat.le_of_ble_eq_true rfl) ?_
  intro p e s m args below meth c Q hx hb hml hown hts hE hP hret ls hl
  have hown : s.vm.findClass RX5 = some m.cls := hown
  have hPR := hP
  have hA := wA.lo hg
  have hS : va_S (wA g 0 16) s.heap s.heap [] := va_S.rf
  obtain ⟨H, hH⟩ : ∃ z, z = s.heap := ⟨_, rfl⟩
  obtain ⟨locs, hlocs⟩ : ∃ z : List Loc, z = [] := ⟨_, rfl⟩
  have hPR : va_P D vwCl (cellR cI g sR vR) H := by rw [hH]; exact hPR
  have hS : va_S (wA g 0 16) s.heap H locs := by rw [hH, hlocs]; exact va_S.rf
  have gW : W p l e rm_R_span s m args below meth c H locs 0 0 Q (F0 m 0 ls []) → W p l e rm_R_span s m args below meth c s.heap [] 0 0 Q (F0 m 0 ls []) := by rw [hH, hlocs]; exact id
  refine gW ?_
  have hinR : ∀ w ∈ wsX50, w ∈ wsX5_span := fun w h => List.mem_cons_of_mem _ (List.mem_append_right _ h)
  have hl : lv_has ls 3 [(0, .ref (g 0)), (1, .int p1), (2, .int p2)] := hl
  have nh0 := okR_lin h0
  have hM : (m_R_span sR p1 p2) = (m_R_span sR p1 p2) := rfl
  refine lv_iload_n hx hb dX5_span_0 rfl (lv_at hl 1 rfl) ?_
  refine lv_iconst (v := 0) hx hb dX5_span_1 (by decide) ?_
  refine lv_bipush (v := 60) hx hb dX5_span_2 (by decide) ?_
  refine runS_i (va_runS (As := [.int p1, .int 0, .int 60]) (rest := []) ⟨hx, hb, hml, hown, hts⟩ (K_R_in p1 0 60) (va_cwS 3 hts gX5_span_X5_in rfl rfl rfl (by decide +kernel) ⟨Nat.le_of_ble_eq_true rfl, Nat.le_of_ble_eq_true rfl⟩) (preS_of hE hA hS trivial) rfl rfl hl.1 rfl (lv_room (Nat.le_of_ble_eq_true rfl)) dX5_span_4 ⟨Nat.zero_le _, Nat.zero_le _⟩) ?_
  refine lv_if_eq (tgt := 19) hx hb dX5_span_7 (by decide) (fun c_1 => ?_) (fun c_1 => ?_)
  · have hM := hM.trans (if_pos c_1)
    refine lv_sipush (v := (-2000)) hx hb dX5_span_19 (by decide) ?_
    have hM : (m_R_span sR p1 p2) = (((-2000), sR) : Int32 × St) := hM
    exact hret (-2000) H locs _ ls (nr_i _) dX5_span_22 (ret1 hM) (rP_v1 (P := fun (z0 : St) => va_P D vwCl (cellR cI g z0 vR) H) hM hPR) hS
  · have hM := hM.trans (if_neg c_1)
    have u_1 := in_t c_1
    rw [tl_0, tl_60] at u_1
    refine lv_iload_n hx hb dX5_span_10 rfl (lv_at hl 2 rfl) ?_
    refine lv_iconst (v := 0) hx hb dX5_span_11 (by decide) ?_
    refine lv_iconst (v := 1) hx hb dX5_span_12 (by decide) ?_
    refine runS_i (va_runS (As := [.int p2, .int 0, .int 1]) (rest := []) ⟨hx, hb, hml, hown, hts⟩ (K_R_in p2 0 1) (va_cwS 3 hts gX5_span_X5_in rfl rfl rfl (by decide +kernel) ⟨Nat.le_of_ble_eq_true rfl, Nat.le_of_ble_eq_true rfl⟩) (preS_of hE hA hS trivial) rfl rfl hl.1 rfl (lv_room (Nat.le_of_ble_eq_true rfl)) dX5_span_13 ⟨Nat.zero_le _, Nat.zero_le _⟩) ?_
    refine lv_if_ne (tgt := 23) hx hb dX5_span_16 (by decide) (fun c_2 => ?_) (fun c_2 => ?_)
    · have hM := hM.trans (if_neg c_2)
      have u_2 := in_t c_2
      rw [tl_0, tl_1] at u_2
      refine lv_aload_n hx hb dX5_span_23 rfl (lv_at hl 0 rfl) ?_
      refine runW_i (va_runV (As := []) (rest := []) ⟨hx, hb, hml, hown, hts⟩ (K_R_findLeft hg sR vR (by assumption)) (cwV 0 hts gX5_span_X5_findLeft rfl rfl rfl (by decide +kernel) ⟨Nat.le_of_ble_eq_true rfl, Nat.le_of_ble_eq_true rfl⟩) (preV_of hE hA hS hPR (va_recv hE.1 hPR (ci := 5) (q0 := 0) rfl rfl)) rfl rfl hl.1 rfl (lv_room (Nat.le_of_ble_eq_true rfl)) dX5_span_24 ⟨Nat.zero_le _, Nat.zero_le _⟩) hS (fun _ h9 => h9) (fun H locs hQ hk hS => ?_)
      have hPR : va_P D vwCl (cellR cI g (m_R_findLeft sR).2 vR) H := hQ
      have v3 : okR (m_R_findLeft sR).2 := okR_findLeft (by assumption)
      have w3_3 : ((m_R_findLeft sR).2 0 3).toInt = (sR 0 3).toInt := congrArg Int32.toInt (fr_R_findLeft (by omega))
      have w3_6 : ((m_R_findLeft sR).2 0 6).toInt = (sR 0 6).toInt := congrArg Int32.toInt (fr_R_findLeft (by omega))
      have w3_7 : ((m_R_findLeft sR).2 0 7).toInt = (sR 0 7).toInt := congrArg Int32.toInt (fr_R_findLeft (by omega))
      have w3_11 : ((m_R_findLeft sR).2 0 11).toInt = (sR 0 11).toInt := congrArg Int32.toInt (fr_R_findLeft (by omega))
      have w3_16 : ((m_R_findLeft sR).2 0 16).toInt = (sR 0 16).toInt := congrArg Int32.toInt (fr_R_findLeft (by omega))
      refine lv_if_ne (tgt := 36) hx hb dX5_span_27 (by decide) (fun c_4 => ?_) (fun c_4 => ?_)
      · have hM := hM.trans (if_neg c_4)
        refine lv_aload_n hx hb dX5_span_36 rfl (lv_at hl 0 rfl) ?_
        refine lv_iload_n hx hb dX5_span_37 rfl (lv_at hl 1 rfl) ?_
        refine lv_iload_n hx hb dX5_span_38 rfl (lv_at hl 2 rfl) ?_
        refine lv_iconst (v := 1) hx hb dX5_span_39 (by decide) ?_
        refine lv_icmp_ne (tgt := 47) hx hb dX5_span_40 (by decide) (fun c_5 => ?_) (fun c_5 => ?_)
        · have hM := hM.trans (if_neg c_5)
          refine lv_iconst (v := 0) hx hb dX5_span_47 (by decide) ?_
          have z6 := tl_0
          refine runS_i (va_runV (As := [.int p1, .int 0]) (rest := []) ⟨hx, hb, hml, hown, hts⟩ (K_R_spanOf hg (m_R_findLeft sR).2 vR p1 0 (by omega)) (cwV 2 hts gX5_span_X5_spanOf rfl rfl rfl (by decide +kernel) ⟨Nat.le_of_ble_eq_true rfl, Nat.le_of_ble_eq_true rfl⟩) (preV_of hE hA hS hPR (va_recv hE.1 hPR (ci := 5) (q0 := 0) rfl rfl)) rfl rfl hl.1 rfl (lv_room (Nat.le_of_ble_eq_true rfl)) dX5_span_48 ⟨Nat.zero_le _, Nat.zero_le _⟩) ?_
          have hM : (m_R_span sR p1 p2) = (((m_R_spanOf (m_R_findLeft sR).2 p1 0), (m_R_findLeft sR).2) : Int32 × St) := hM
          exact hret (m_R_spanOf (m_R_findLeft sR).2 p1 0) H locs _ ls (nr_i _) dX5_span_51 (ret1 hM) (rP_v1 (P := fun (z0 : St) => va_P D vwCl (cellR cI g z0 vR) H) hM hPR) hS
        · have hM := hM.trans (if_pos c_5)
          refine lv_iconst (v := 1) hx hb dX5_span_43 (by decide) ?_
          refine lv_goto (tgt := 48) hx hb dX5_span_44 (by decide) ?_
          have z7 := tl_1
          refine runS_i (va_runV (As := [.int p1, .int 1]) (rest := []) ⟨hx, hb, hml, hown, hts⟩ (K_R_spanOf hg (m_R_findLeft sR).2 vR p1 1 (by omega)) (cwV 2 hts gX5_span_X5_spanOf rfl rfl rfl (by decide +kernel) ⟨Nat.le_of_ble_eq_true rfl, Nat.le_of_ble_eq_true rfl⟩) (preV_of hE hA hS hPR (va_recv hE.1 hPR (ci := 5) (q0 := 0) rfl rfl)) rfl rfl hl.1 rfl (lv_room (Nat.le_of_ble_eq_true rfl)) dX5_span_48 ⟨Nat.zero_le _, Nat.zero_le _⟩) ?_
          have hM : (m_R_span sR p1 p2) = (((m_R_spanOf (m_R_findLeft sR).2 p1 1), (m_R_findLeft sR).2) : Int32 × St) := hM
          exact hret (m_R_spanOf (m_R_findLeft sR).2 p1 1) H locs _ ls (nr_i _) dX5_span_51 (ret1 hM) (rP_v1 (P := fun (z0 : St) => va_P D vwCl (cellR cI g z0 vR) H) hM hPR) hS
      · have hM := hM.trans (if_pos c_4)
        refine lv_sipush (v := (-1000)) hx hb dX5_span_30 (by decide) ?_
        refine lv_goto (tgt := 51) hx hb dX5_span_33 (by decide) ?_
        have hM : (m_R_span sR p1 p2) = (((-1000), (m_R_findLeft sR).2) : Int32 × St) := hM
        exact hret (-1000) H locs _ ls (nr_i _) dX5_span_51 (ret1 hM) (rP_v1 (P := fun (z0 : St) => va_P D vwCl (cellR cI g z0 vR) H) hM hPR) hS
    · have hM := hM.trans (if_pos c_2)
      refine lv_sipush (v := (-2000)) hx hb dX5_span_19 (by decide) ?_
      have hM : (m_R_span sR p1 p2) = (((-2000), sR) : Int32 × St) := hM
      exact hret (-2000) H locs _ ls (nr_i _) dX5_span_22 (ret1 hM) (rP_v1 (P := fun (z0 : St) => va_P D vwCl (cellR cI g z0 vR) H) hM hPR) hS
abbrev rm_R_next : Room := { frames := 5, cells := 0, slots := 0, locals := 116 }
set_option maxHeartbeats 4000000 in
set_option maxRecDepth 100000 in
theorem K_R_next {l : Launch} {D : va_G} {cI : ClassId} {lo : Nat} {g : Nat → Nat} (hg : wI g 0 16 lo) (sR : St) (vR : Int64) (h0 : okR sR) : WRi l D cI lo yX5_next wsX5_next rm_R_next [.ref (g 0)] (fun H => va_P D vwCl (cellR cI g sR vR) H) (m_R_next sR).1 (fun H => va_P D vwCl (cellR cI g (m_R_next sR).2 vR) H) (wA g 0 16) := by
  refine ofW_WRi (cc := cX5_next) (maxL := 5) (ty := .int) (by decide +kernel) rfl (Nat.le_of_ble_eq_true rfl) ?_
  intro p e s m args below meth c Q hx hb hml hown hts hE hP hret ls hl
  have hown : s.vm.findClass RX5 = some m.cls := hown
  have hPR := hP
  have hA := wA.lo hg
  have hS : va_S (wA g 0 16) s.heap s.heap [] := va_S.rf
  obtain ⟨H, hH⟩ : ∃ z, z = s.heap := ⟨_, rfl⟩
  obtain ⟨locs, hlocs⟩ : ∃ z : List Loc, z = [] := ⟨_, rfl⟩
  have hPR : va_P D vwCl (cellR cI g sR vR) H := by rw [hH]; exact hPR
  have hS : va_S (wA g 0 16) s.heap H locs := by rw [hH, hlocs]; exact va_S.rf
  have gW : W p l e rm_R_next s m args below meth c H locs 0 0 Q (F0 m 0 ls []) → W p l e rm_R_next s m args below meth c s.heap [] 0 0 Q (F0 m 0 ls []) := by rw [hH, hlocs]; exact id
  refine gW ?_
  have hinR : ∀ w ∈ wsX50, w ∈ wsX5_next := fun w h => List.mem_cons_of_mem _ (List.mem_append_right _ h)
  have hl : lv_has ls 5 [(0, .ref (g 0))] := hl
  have nh0 := okR_lin h0
  have L_17 : ∀ (n : Nat) (sR_17 : St) (x1_17 : Int32) (x2_17 : Int32) (x3_17 : Int32) (H : Heap) (locs : List Loc) (ls : Array Slot), 0 ≤ x3_17.toInt ∧ x3_17.toInt ≤ 61 → (61 - x3_17.toInt).toNat < n → va_P D vwCl (cellR cI g sR_17 vR) H → va_S (wA g 0 16) s.heap H locs → lv_has ls 5 [(0, .ref (g 0)), (1, .int x1_17), (2, .int x2_17), (3, .int x3_17)] → (∀ (H : Heap) (locs : List Loc) (ls : Array Slot), va_P D vwCl (cellR cI g sR_17 vR) H → va_S (wA g 0 16) s.heap H locs → lv_has ls 5 [(1, .int (wl (g_R_next_17 sR_17) n (x1_17, x2_17, x3_17)).1)] → W p l e rm_R_next s m args below meth c H locs 0 0 Q (F0 m 84 ls [])) → W p l e rm_R_next s m args below meth c H locs 0 0 Q (F0 m 17 ls []) := by
    intro n
    induction n with
    | zero =>
      intro sR_17 x1_17 x2_17 x3_17 H locs ls i17_0 hn17 hPR hS hl kk
      exact absurd hn17 (Nat.not_lt_zero _)
    | succ n ih =>
      intro sR_17 x1_17 x2_17 x3_17 H locs ls i17_0 hn17 hPR hS hl kk
      have hM : (g_R_next_17 sR_17) (x1_17, x2_17, x3_17) = (g_R_next_17 sR_17) (x1_17, x2_17, x3_17) := rfl
      refine lv_iload_n hx hb dX5_next_17 rfl (lv_at hl 3 rfl) ?_
      refine lv_bipush (v := 61) hx hb dX5_next_18 (by decide) ?_
      refine lv_icmp_ge (tgt := 84) hx hb dX5_next_20 (by decide) (fun c_1 => ?_) (fun c_1 => ?_)
      · have hM := hM.trans (if_pos c_1)
        have t_1 := le_t c_1
        rw [tl_61] at t_1
        rw [wl_none hM] at kk
        exact kk H locs ls hPR hS (lv_sub hl [1] rfl)
      · have hM := hM.trans (if_neg c_1)
        have t_1 := nle_t c_1
        rw [tl_61] at t_1
        refine lv_aload_n hx hb dX5_next_23 rfl (lv_at hl 0 rfl) ?_
        refine va_get (D := D) (ci := 5) (v := .ref (g 9)) (C := RX5) (T := TX5) (N := 33) hx hb hts hinR hown hE.1 hPR 0 rfl rfl 26 (by decide) (hts (.fieldLink RX5 47 "WallStonesModel" "book" "[I") (List.mem_of_getElem? (i := 1) rfl)) (fun _ h9 => h9) rfl dX5_next_24 ?_
        refine lv_iload_n hx hb dX5_next_27 rfl (lv_at hl 3 rfl) ?_
        refine va_iald hx hb hE.1 hPR 9 0 rfl rfl (vp_in_iff.mpr (by omega)) dX5_next_28 ?_
        refine W.eq (g2 := F0 m 29 ls [.int (sR_17 27 (Int32.toNatClampNeg x3_17))]) rfl ?_
        refine lv_bipush (v := (-9)) hx hb dX5_next_29 (by decide) ?_
        refine lv_icmp_ne (tgt := 38) hx hb dX5_next_31 (by decide) (fun c_2 => ?_) (fun c_2 => ?_)
        · have hM := hM.trans (if_neg c_2)
          have t_2 := ne_t c_2
          rw [tl_m9] at t_2
          refine lv_aload_n hx hb dX5_next_38 rfl (lv_at hl 0 rfl) ?_
          refine lv_iload_n hx hb dX5_next_39 rfl (lv_at hl 3 rfl) ?_
          refine lv_iconst (v := 1) hx hb dX5_next_40 (by decide) ?_
          have z3 := tl_1
          refine runS_i (va_runV (As := [.int x3_17, .int 1]) (rest := []) ⟨hx, hb, hml, hown, hts⟩ (K_R_spanOf hg sR_17 vR x3_17 1 (by omega)) (cwV 2 hts gX5_next_X5_spanOf rfl rfl rfl (by decide +kernel) ⟨Nat.le_of_ble_eq_true rfl, Nat.le_of_ble_eq_true rfl⟩) (preV_of hE hA hS hPR (va_recv hE.1 hPR (ci := 5) (q0 := 0) rfl rfl)) rfl rfl hl.1 rfl (lv_room (Nat.le_of_ble_eq_true rfl)) dX5_next_41 ⟨Nat.zero_le _, Nat.zero_le _⟩) ?_
          refine lv_aload_n hx hb dX5_next_44 rfl (lv_at hl 0 rfl) ?_
          refine lv_iload_n hx hb dX5_next_45 rfl (lv_at hl 3 rfl) ?_
          refine lv_iconst (v := 0) hx hb dX5_next_46 (by decide) ?_
          have z4 := tl_0
          refine runS_i (va_runV (As := [.int x3_17, .int 0]) (rest := [.int (m_R_spanOf sR_17 x3_17 1)]) ⟨hx, hb, hml, hown, hts⟩ (K_R_spanOf hg sR_17 vR x3_17 0 (by omega)) (cwV 2 hts gX5_next_X5_spanOf rfl rfl rfl (by decide +kernel) ⟨Nat.le_of_ble_eq_true rfl, Nat.le_of_ble_eq_true rfl⟩) (preV_of hE hA hS hPR (va_recv hE.1 hPR (ci := 5) (q0 := 0) rfl rfl)) rfl rfl hl.1 rfl (lv_room (Nat.le_of_ble_eq_true rfl)) dX5_next_47 ⟨Nat.zero_le _, Nat.zero_le _⟩) ?_
          refine lv_isub hx hb dX5_next_50 ?_
          refine lv_istore (lv' := [(4, .int ((m_R_spanOf sR_17 x3_17 1) - (m_R_spanOf sR_17 x3_17 0))), (0, .ref (g 0)), (1, .int x1_17), (2, .int x2_17), (3, .int x3_17)]) hx hb dX5_next_51 hl (by decide) rfl (fun ls hl => ?_)
          refine lv_iload hx hb dX5_next_53 (lv_at hl 0 rfl) ?_
          refine lv_iload_n hx hb dX5_next_55 rfl (lv_at hl 3 rfl) ?_
          refine lv_icmp_le (tgt := 63) hx hb dX5_next_56 (by decide) (fun c_5 => ?_) (fun c_5 => ?_)
          · have hM := hM.trans (if_pos c_5)
            have t_5 := le_t c_5
            refine lv_iload_n hx hb dX5_next_63 rfl (lv_at hl 2 rfl) ?_
            refine lv_istore_n (lv' := [(1, .int x1_17), (4, .int ((m_R_spanOf sR_17 x3_17 1) - (m_R_spanOf sR_17 x3_17 0))), (0, .ref (g 0)), (2, .int x2_17), (3, .int x3_17)]) hx hb dX5_next_64 rfl hl (by decide) rfl (fun ls hl => ?_)
            refine lv_iload hx hb dX5_next_65 (lv_at hl 1 rfl) ?_
            refine lv_iload_n hx hb dX5_next_67 rfl (lv_at hl 3 rfl) ?_
            refine lv_icmp_le (tgt := 76) hx hb dX5_next_68 (by decide) (fun c_6 => ?_) (fun c_6 => ?_)
            · have hM := hM.trans (if_pos c_6)
              have t_6 := le_t c_6
              refine lv_iload_n hx hb dX5_next_76 rfl (lv_at hl 3 rfl) ?_
              refine lv_istore_n (lv' := [(2, .int x2_17), (1, .int x1_17), (4, .int ((m_R_spanOf sR_17 x3_17 1) - (m_R_spanOf sR_17 x3_17 0))), (0, .ref (g 0)), (3, .int x3_17)]) hx hb dX5_next_77 rfl hl (by decide) rfl (fun ls hl => ?_)
              refine lv_iinc (v := (x3_17 + 1)) (lv' := [(3, .int (x3_17 + 1)), (2, .int x2_17), (1, .int x1_17), (4, .int ((m_R_spanOf sR_17 x3_17 1) - (m_R_spanOf sR_17 x3_17 0))), (0, .ref (g 0))]) hx hb dX5_next_78 hl (k := 4) rfl rfl (by decide) rfl (fun ls hl => ?_)
              refine lv_goto (tgt := 17) hx hb dX5_next_81 (by decide) ?_
              have := t_inc (x := x3_17) (by omega)
              rw [wl_some hM] at kk
              exact ih sR_17 x1_17 x2_17 (x3_17 + 1) H locs ls (by omega) (by omega) hPR hS (lv_sub hl [4, 2, 1, 0] rfl) kk
            · have hM := hM.trans (if_neg c_6)
              have t_6 := nle_t c_6
              refine lv_iload hx hb dX5_next_71 (lv_at hl 1 rfl) ?_
              refine lv_goto (tgt := 77) hx hb dX5_next_73 (by decide) ?_
              refine lv_istore_n (lv' := [(2, .int ((m_R_spanOf sR_17 x3_17 1) - (m_R_spanOf sR_17 x3_17 0))), (1, .int x1_17), (4, .int ((m_R_spanOf sR_17 x3_17 1) - (m_R_spanOf sR_17 x3_17 0))), (0, .ref (g 0)), (3, .int x3_17)]) hx hb dX5_next_77 rfl hl (by decide) rfl (fun ls hl => ?_)
              refine lv_iinc (v := (x3_17 + 1)) (lv' := [(3, .int (x3_17 + 1)), (2, .int ((m_R_spanOf sR_17 x3_17 1) - (m_R_spanOf sR_17 x3_17 0))), (1, .int x1_17), (4, .int ((m_R_spanOf sR_17 x3_17 1) - (m_R_spanOf sR_17 x3_17 0))), (0, .ref (g 0))]) hx hb dX5_next_78 hl (k := 4) rfl rfl (by decide) rfl (fun ls hl => ?_)
              refine lv_goto (tgt := 17) hx hb dX5_next_81 (by decide) ?_
              have := t_inc (x := x3_17) (by omega)
              rw [wl_some hM] at kk
              exact ih sR_17 x1_17 ((m_R_spanOf sR_17 x3_17 1) - (m_R_spanOf sR_17 x3_17 0)) (x3_17 + 1) H locs ls (by omega) (by omega) hPR hS (lv_sub hl [4, 2, 1, 0] rfl) kk
          · have hM := hM.trans (if_neg c_5)
            have t_5 := nle_t c_5
            refine lv_iload_n hx hb dX5_next_59 rfl (lv_at hl 4 rfl) ?_
            refine lv_goto (tgt := 64) hx hb dX5_next_60 (by decide) ?_
            refine lv_istore_n (lv' := [(1, .int x3_17), (4, .int ((m_R_spanOf sR_17 x3_17 1) - (m_R_spanOf sR_17 x3_17 0))), (0, .ref (g 0)), (2, .int x2_17), (3, .int x3_17)]) hx hb dX5_next_64 rfl hl (by decide) rfl (fun ls hl => ?_)
            refine lv_iload hx hb dX5_next_65 (lv_at hl 1 rfl) ?_
            refine lv_iload_n hx hb dX5_next_67 rfl (lv_at hl 3 rfl) ?_
            refine lv_icmp_le (tgt := 76) hx hb dX5_next_68 (by decide) (fun c_7 => ?_) (fun c_7 => ?_)
            · have hM := hM.trans (if_pos c_7)
              have t_7 := le_t c_7
              refine lv_iload_n hx hb dX5_next_76 rfl (lv_at hl 3 rfl) ?_
              refine lv_istore_n (lv' := [(2, .int x2_17), (1, .int x3_17), (4, .int ((m_R_spanOf sR_17 x3_17 1) - (m_R_spanOf sR_17 x3_17 0))), (0, .ref (g 0)), (3, .int x3_17)]) hx hb dX5_next_77 rfl hl (by decide) rfl (fun ls hl => ?_)
              refine lv_iinc (v := (x3_17 + 1)) (lv' := [(3, .int (x3_17 + 1)), (2, .int x2_17), (1, .int x3_17), (4, .int ((m_R_spanOf sR_17 x3_17 1) - (m_R_spanOf sR_17 x3_17 0))), (0, .ref (g 0))]) hx hb dX5_next_78 hl (k := 4) rfl rfl (by decide) rfl (fun ls hl => ?_)
              refine lv_goto (tgt := 17) hx hb dX5_next_81 (by decide) ?_
              have := t_inc (x := x3_17) (by omega)
              rw [wl_some hM] at kk
              exact ih sR_17 x3_17 x2_17 (x3_17 + 1) H locs ls (by omega) (by omega) hPR hS (lv_sub hl [4, 2, 1, 0] rfl) kk
            · have hM := hM.trans (if_neg c_7)
              have t_7 := nle_t c_7
              refine lv_iload hx hb dX5_next_71 (lv_at hl 1 rfl) ?_
              refine lv_goto (tgt := 77) hx hb dX5_next_73 (by decide) ?_
              refine lv_istore_n (lv' := [(2, .int ((m_R_spanOf sR_17 x3_17 1) - (m_R_spanOf sR_17 x3_17 0))), (1, .int x3_17), (4, .int ((m_R_spanOf sR_17 x3_17 1) - (m_R_spanOf sR_17 x3_17 0))), (0, .ref (g 0)), (3, .int x3_17)]) hx hb dX5_next_77 rfl hl (by decide) rfl (fun ls hl => ?_)
              refine lv_iinc (v := (x3_17 + 1)) (lv' := [(3, .int (x3_17 + 1)), (2, .int ((m_R_spanOf sR_17 x3_17 1) - (m_R_spanOf sR_17 x3_17 0))), (1, .int x3_17), (4, .int ((m_R_spanOf sR_17 x3_17 1) - (m_R_spanOf sR_17 x3_17 0))), (0, .ref (g 0))]) hx hb dX5_next_78 hl (k := 4) rfl rfl (by decide) rfl (fun ls hl => ?_)
              refine lv_goto (tgt := 17) hx hb dX5_next_81 (by decide) ?_
              have := t_inc (x := x3_17) (by omega)
              rw [wl_some hM] at kk
              exact ih sR_17 x3_17 ((m_R_spanOf sR_17 x3_17 1) - (m_R_spanOf sR_17 x3_17 0)) (x3_17 + 1) H locs ls (by omega) (by omega) hPR hS (lv_sub hl [4, 2, 1, 0] rfl) kk
        · have hM := hM.trans (if_pos c_2)
          have t_2 := eq_t c_2
          rw [tl_m9] at t_2
          refine lv_iconst (v := (-1)) hx hb dX5_next_34 (by decide) ?_
          refine lv_goto (tgt := 51) hx hb dX5_next_35 (by decide) ?_
          refine lv_istore (lv' := [(4, .int (-1)), (0, .ref (g 0)), (1, .int x1_17), (2, .int x2_17), (3, .int x3_17)]) hx hb dX5_next_51 hl (by decide) rfl (fun ls hl => ?_)
          refine lv_iload hx hb dX5_next_53 (lv_at hl 0 rfl) ?_
          refine lv_iload_n hx hb dX5_next_55 rfl (lv_at hl 3 rfl) ?_
          refine lv_icmp_le (tgt := 63) hx hb dX5_next_56 (by decide) (fun c_8 => ?_) (fun c_8 => ?_)
          · have hM := hM.trans (if_pos c_8)
            have t_8 := le_t c_8
            rw [tl_m1] at t_8
            refine lv_iload_n hx hb dX5_next_63 rfl (lv_at hl 2 rfl) ?_
            refine lv_istore_n (lv' := [(1, .int x1_17), (4, .int (-1)), (0, .ref (g 0)), (2, .int x2_17), (3, .int x3_17)]) hx hb dX5_next_64 rfl hl (by decide) rfl (fun ls hl => ?_)
            refine lv_iload hx hb dX5_next_65 (lv_at hl 1 rfl) ?_
            refine lv_iload_n hx hb dX5_next_67 rfl (lv_at hl 3 rfl) ?_
            refine lv_icmp_le (tgt := 76) hx hb dX5_next_68 (by decide) (fun c_9 => ?_) (fun c_9 => ?_)
            · have hM := hM.trans (if_pos c_9)
              have t_9 := le_t c_9
              rw [tl_m1] at t_9
              refine lv_iload_n hx hb dX5_next_76 rfl (lv_at hl 3 rfl) ?_
              refine lv_istore_n (lv' := [(2, .int x2_17), (1, .int x1_17), (4, .int (-1)), (0, .ref (g 0)), (3, .int x3_17)]) hx hb dX5_next_77 rfl hl (by decide) rfl (fun ls hl => ?_)
              refine lv_iinc (v := (x3_17 + 1)) (lv' := [(3, .int (x3_17 + 1)), (2, .int x2_17), (1, .int x1_17), (4, .int (-1)), (0, .ref (g 0))]) hx hb dX5_next_78 hl (k := 4) rfl rfl (by decide) rfl (fun ls hl => ?_)
              refine lv_goto (tgt := 17) hx hb dX5_next_81 (by decide) ?_
              have := t_inc (x := x3_17) (by omega)
              rw [wl_some hM] at kk
              exact ih sR_17 x1_17 x2_17 (x3_17 + 1) H locs ls (by omega) (by omega) hPR hS (lv_sub hl [4, 2, 1, 0] rfl) kk
            · have hM := hM.trans (if_neg c_9)
              have t_9 := nle_t c_9
              rw [tl_m1] at t_9
              refine lv_iload hx hb dX5_next_71 (lv_at hl 1 rfl) ?_
              refine lv_goto (tgt := 77) hx hb dX5_next_73 (by decide) ?_
              refine lv_istore_n (lv' := [(2, .int (-1)), (1, .int x1_17), (4, .int (-1)), (0, .ref (g 0)), (3, .int x3_17)]) hx hb dX5_next_77 rfl hl (by decide) rfl (fun ls hl => ?_)
              refine lv_iinc (v := (x3_17 + 1)) (lv' := [(3, .int (x3_17 + 1)), (2, .int (-1)), (1, .int x1_17), (4, .int (-1)), (0, .ref (g 0))]) hx hb dX5_next_78 hl (k := 4) rfl rfl (by decide) rfl (fun ls hl => ?_)
              refine lv_goto (tgt := 17) hx hb dX5_next_81 (by decide) ?_
              have := t_inc (x := x3_17) (by omega)
              have z10 := tl_m1
              rw [wl_some hM] at kk
              exact ih sR_17 x1_17 (-1) (x3_17 + 1) H locs ls (by omega) (by omega) hPR hS (lv_sub hl [4, 2, 1, 0] rfl) kk
          · have hM := hM.trans (if_neg c_8)
            have t_8 := nle_t c_8
            rw [tl_m1] at t_8
            refine lv_iload_n hx hb dX5_next_59 rfl (lv_at hl 4 rfl) ?_
            refine lv_goto (tgt := 64) hx hb dX5_next_60 (by decide) ?_
            refine lv_istore_n (lv' := [(1, .int x3_17), (4, .int (-1)), (0, .ref (g 0)), (2, .int x2_17), (3, .int x3_17)]) hx hb dX5_next_64 rfl hl (by decide) rfl (fun ls hl => ?_)
            refine lv_iload hx hb dX5_next_65 (lv_at hl 1 rfl) ?_
            refine lv_iload_n hx hb dX5_next_67 rfl (lv_at hl 3 rfl) ?_
            refine lv_icmp_le (tgt := 76) hx hb dX5_next_68 (by decide) (fun c_11 => ?_) (fun c_11 => ?_)
            · have hM := hM.trans (if_pos c_11)
              have t_11 := le_t c_11
              rw [tl_m1] at t_11
              refine lv_iload_n hx hb dX5_next_76 rfl (lv_at hl 3 rfl) ?_
              refine lv_istore_n (lv' := [(2, .int x2_17), (1, .int x3_17), (4, .int (-1)), (0, .ref (g 0)), (3, .int x3_17)]) hx hb dX5_next_77 rfl hl (by decide) rfl (fun ls hl => ?_)
              refine lv_iinc (v := (x3_17 + 1)) (lv' := [(3, .int (x3_17 + 1)), (2, .int x2_17), (1, .int x3_17), (4, .int (-1)), (0, .ref (g 0))]) hx hb dX5_next_78 hl (k := 4) rfl rfl (by decide) rfl (fun ls hl => ?_)
              refine lv_goto (tgt := 17) hx hb dX5_next_81 (by decide) ?_
              have := t_inc (x := x3_17) (by omega)
              rw [wl_some hM] at kk
              exact ih sR_17 x3_17 x2_17 (x3_17 + 1) H locs ls (by omega) (by omega) hPR hS (lv_sub hl [4, 2, 1, 0] rfl) kk
            · have hM := hM.trans (if_neg c_11)
              have t_11 := nle_t c_11
              rw [tl_m1] at t_11
              refine lv_iload hx hb dX5_next_71 (lv_at hl 1 rfl) ?_
              refine lv_goto (tgt := 77) hx hb dX5_next_73 (by decide) ?_
              refine lv_istore_n (lv' := [(2, .int (-1)), (1, .int x3_17), (4, .int (-1)), (0, .ref (g 0)), (3, .int x3_17)]) hx hb dX5_next_77 rfl hl (by decide) rfl (fun ls hl => ?_)
              refine lv_iinc (v := (x3_17 + 1)) (lv' := [(3, .int (x3_17 + 1)), (2, .int (-1)), (1, .int x3_17), (4, .int (-1)), (0, .ref (g 0))]) hx hb dX5_next_78 hl (k := 4) rfl rfl (by decide) rfl (fun ls hl => ?_)
              refine lv_goto (tgt := 17) hx hb dX5_next_81 (by decide) ?_
              have := t_inc (x := x3_17) (by omega)
              have z12 := tl_m1
              rw [wl_some hM] at kk
              exact ih sR_17 x3_17 (-1) (x3_17 + 1) H locs ls (by omega) (by omega) hPR hS (lv_sub hl [4, 2, 1, 0] rfl) kk
  have J_84 : ∀ (sR_84 : St) (x1_84 : Int32) (H : Heap) (locs : List Loc) (ls : Array Slot), va_P D vwCl (cellR cI g sR_84 vR) H → va_S (wA g 0 16) s.heap H locs → lv_has ls 5 [(1, .int x1_84)] → (m_R_next sR) = b_R_next_84 sR_84 x1_84 → W p l e rm_R_next s m args below meth c H locs 0 0 Q (F0 m 84 ls []) := by
    intro sR_84 x1_84 H locs ls hPR hS hl hM
    refine lv_iload_n hx hb dX5_next_84 rfl (lv_at hl 0 rfl) ?_
    have hM : (m_R_next sR) = ((x1_84, sR_84) : Int32 × St) := hM
    exact hret x1_84 H locs _ ls (nr_i _) dX5_next_85 (ret1 hM) (rP_v1 (P := fun (z0 : St) => va_P D vwCl (cellR cI g z0 vR) H) hM hPR) hS
  have hM : (m_R_next sR) = (m_R_next sR) := rfl
  refine lv_aload_n hx hb dX5_next_0 rfl (lv_at hl 0 rfl) ?_
  refine runW_i (va_runV (As := []) (rest := []) ⟨hx, hb, hml, hown, hts⟩ (K_R_findLeft hg sR vR (by assumption)) (cwV 0 hts gX5_next_X5_findLeft rfl rfl rfl (by decide +kernel) ⟨Nat.le_of_ble_eq_true rfl, Nat.le_of_ble_eq_true rfl⟩) (preV_of hE hA hS hPR (va_recv hE.1 hPR (ci := 5) (q0 := 0) rfl rfl)) rfl rfl hl.1 rfl (lv_room (Nat.le_of_ble_eq_true rfl)) dX5_next_1 ⟨Nat.zero_le _, Nat.zero_le _⟩) hS (fun _ h9 => h9) (fun H locs hQ hk hS => ?_)
  have hPR : va_P D vwCl (cellR cI g (m_R_findLeft sR).2 vR) H := hQ
  have v13 : okR (m_R_findLeft sR).2 := okR_findLeft (by assumption)
  have w13_3 : ((m_R_findLeft sR).2 0 3).toInt = (sR 0 3).toInt := congrArg Int32.toInt (fr_R_findLeft (by omega))
  have w13_6 : ((m_R_findLeft sR).2 0 6).toInt = (sR 0 6).toInt := congrArg Int32.toInt (fr_R_findLeft (by omega))
  have w13_7 : ((m_R_findLeft sR).2 0 7).toInt = (sR 0 7).toInt := congrArg Int32.toInt (fr_R_findLeft (by omega))
  have w13_11 : ((m_R_findLeft sR).2 0 11).toInt = (sR 0 11).toInt := congrArg Int32.toInt (fr_R_findLeft (by omega))
  have w13_16 : ((m_R_findLeft sR).2 0 16).toInt = (sR 0 16).toInt := congrArg Int32.toInt (fr_R_findLeft (by omega))
  refine lv_if_ne (tgt := 10) hx hb dX5_next_4 (by decide) (fun c_14 => ?_) (fun c_14 => ?_)
  · have hM := hM.trans (if_neg c_14)
    have t_14 := ne_t c_14
    rw [tl_0] at t_14
    refine lv_bipush (v := (-9)) hx hb dX5_next_10 (by decide) ?_
    refine lv_istore_n (lv' := [(1, .int (-9)), (0, .ref (g 0))]) hx hb dX5_next_12 rfl hl (by decide) rfl (fun ls hl => ?_)
    refine lv_iconst (v := (-1)) hx hb dX5_next_13 (by decide) ?_
    refine lv_istore_n (lv' := [(2, .int (-1)), (1, .int (-9)), (0, .ref (g 0))]) hx hb dX5_next_14 rfl hl (by decide) rfl (fun ls hl => ?_)
    refine lv_iconst (v := 0) hx hb dX5_next_15 (by decide) ?_
    refine lv_istore_n (lv' := [(3, .int 0), (2, .int (-1)), (1, .int (-9)), (0, .ref (g 0))]) hx hb dX5_next_16 rfl hl (by decide) rfl (fun ls hl => ?_)
    have z15 := tl_m1
    have z16 := tl_m9
    have z17 := tl_0
    refine L_17 62 (m_R_findLeft sR).2 (-9) (-1) 0 H locs ls (by omega) (by omega) hPR hS (lv_sub hl [3, 2, 1, 0] rfl) (fun H locs ls hPR hS hl => ?_)
    exact J_84 (m_R_findLeft sR).2 (wl (g_R_next_17 (m_R_findLeft sR).2) 62 ((-9), (-1), 0)).1 H locs ls hPR hS (lv_sub hl [0] rfl) hM
  · have hM := hM.trans (if_pos c_14)
    have t_14 := eq_t c_14
    rw [tl_0] at t_14
    refine lv_bipush (v := (-9)) hx hb dX5_next_7 (by decide) ?_
    have hM : (m_R_next sR) = (((-9), (m_R_findLeft sR).2) : Int32 × St) := hM
    exact hret (-9) H locs _ ls (nr_i _) dX5_next_9 (ret1 hM) (rP_v1 (P := fun (z0 : St) => va_P D vwCl (cellR cI g z0 vR) H) hM hPR) hS
abbrev rm_R_surest : Room := { frames := 5, cells := 0, slots := 0, locals := 116 }
set_option maxHeartbeats 4000000 in
set_option maxRecDepth 100000 in
theorem K_R_surest {l : Launch} {D : va_G} {cI : ClassId} {lo : Nat} {g : Nat → Nat} (hg : wI g 0 16 lo) (sR : St) (vR : Int64) (p1 : Int32) (p2 : Int32) (h0 : okR sR) : WRi l D cI lo yX5_surest wsX5_surest rm_R_surest [.ref (g 0), .int p1, .int p2] (fun H => va_P D vwCl (cellR cI g sR vR) H) (m_R_surest sR p1 p2).1 (fun H => va_P D vwCl (cellR cI g (m_R_surest sR p1 p2).2 vR) H) (wA g 0 16) := by
  refine ofW_WRi (cc := cX5_surest) (maxL := 9) (ty := .int) (by decide +kernel) rfl (Nat.le_of_ble_eq_true rfl) ?_
  intro p e s m args below meth c Q hx hb hml hown hts hE hP hret ls hl
  have hown : s.vm.findClass RX5 = some m.cls := hown
  have hPR := hP
  have hA := wA.lo hg
  have hS : va_S (wA g 0 16) s.heap s.heap [] := va_S.rf
  obtain ⟨H, hH⟩ : ∃ z, z = s.heap := ⟨_, rfl⟩
  obtain ⟨locs, hlocs⟩ : ∃ z : List Loc, z = [] := ⟨_, rfl⟩
  have hPR : va_P D vwCl (cellR cI g sR vR) H := by rw [hH]; exact hPR
  have hS : va_S (wA g 0 16) s.heap H locs := by rw [hH, hlocs]; exact va_S.rf
  have gW : W p l e rm_R_surest s m args below meth c H locs 0 0 Q (F0 m 0 ls []) → W p l e rm_R_surest s m args below meth c s.heap [] 0 0 Q (F0 m 0 ls []) := by rw [hH, hlocs]; exact id
  refine gW ?_
  have hinR : ∀ w ∈ wsX50, w ∈ wsX5_surest := fun w h => List.mem_cons_of_mem _ (List.mem_append_right _ h)
  have hl : lv_has ls 9 [(0, .ref (g 0)), (1, .int p1), (2, .int p2)] := hl
  have nh0 := okR_lin h0
  have L_42 : ∀ (n : Nat) (sR_42 : St) (x3_42 : Int32) (x4_42 : Int32) (x5_42 : Int32) (H : Heap) (locs : List Loc) (ls : Array Slot), 0 ≤ x5_42.toInt ∧ x5_42.toInt ≤ 61 → (61 - x5_42.toInt).toNat < n → va_P D vwCl (cellR cI g sR_42 vR) H → va_S (wA g 0 16) s.heap H locs → lv_has ls 9 [(0, .ref (g 0)), (1, .int p1), (2, .int p2), (3, .int x3_42), (4, .int x4_42), (5, .int x5_42)] → (∀ (H : Heap) (locs : List Loc) (ls : Array Slot), va_P D vwCl (cellR cI g sR_42 vR) H → va_S (wA g 0 16) s.heap H locs → lv_has ls 9 [(2, .int p2), (3, .int (wl (g_R_surest_42 sR_42 p1) n (x3_42, x4_42, x5_42)).1), (4, .int (wl (g_R_surest_42 sR_42 p1) n (x3_42, x4_42, x5_42)).2.1)] → W p l e rm_R_surest s m args below meth c H locs 0 0 Q (F0 m 131 ls [])) → W p l e rm_R_surest s m args below meth c H locs 0 0 Q (F0 m 42 ls []) := by
    intro n
    induction n with
    | zero =>
      intro sR_42 x3_42 x4_42 x5_42 H locs ls i42_0 hn42 hPR hS hl kk
      exact absurd hn42 (Nat.not_lt_zero _)
    | succ n ih =>
      intro sR_42 x3_42 x4_42 x5_42 H locs ls i42_0 hn42 hPR hS hl kk
      have hM : (g_R_surest_42 sR_42 p1) (x3_42, x4_42, x5_42) = (g_R_surest_42 sR_42 p1) (x3_42, x4_42, x5_42) := rfl
      refine lv_iload hx hb dX5_surest_42 (lv_at hl 5 rfl) ?_
      refine lv_bipush (v := 61) hx hb dX5_surest_44 (by decide) ?_
      refine lv_icmp_ge (tgt := 131) hx hb dX5_surest_46 (by decide) (fun c_1 => ?_) (fun c_1 => ?_)
      · have hM := hM.trans (if_pos c_1)
        have t_1 := le_t c_1
        rw [tl_61] at t_1
        rw [wl_none hM] at kk
        exact kk H locs ls hPR hS (lv_sub hl [2, 3, 4] rfl)
      · have hM := hM.trans (if_neg c_1)
        have t_1 := nle_t c_1
        rw [tl_61] at t_1
        refine lv_aload_n hx hb dX5_surest_49 rfl (lv_at hl 0 rfl) ?_
        refine va_get (D := D) (ci := 5) (v := .ref (g 9)) (C := RX5) (T := TX5) (N := 33) hx hb hts hinR hown hE.1 hPR 0 rfl rfl 26 (by decide) (hts (.fieldLink RX5 47 "WallStonesModel" "book" "[I") (List.mem_of_getElem? (i := 1) rfl)) (fun _ h9 => h9) rfl dX5_surest_50 ?_
        refine lv_iload hx hb dX5_surest_53 (lv_at hl 5 rfl) ?_
        refine va_iald hx hb hE.1 hPR 9 0 rfl rfl (vp_in_iff.mpr (by omega)) dX5_surest_55 ?_
        refine W.eq (g2 := F0 m 56 ls [.int (sR_42 27 (Int32.toNatClampNeg x5_42))]) rfl ?_
        refine lv_bipush (v := (-9)) hx hb dX5_surest_56 (by decide) ?_
        refine lv_icmp_eq (tgt := 125) hx hb dX5_surest_58 (by decide) (fun c_2 => ?_) (fun c_2 => ?_)
        · have hM := hM.trans (if_pos c_2)
          have t_2 := eq_t c_2
          rw [tl_m9] at t_2
          refine lv_iinc (v := (x5_42 + 1)) (lv' := [(5, .int (x5_42 + 1)), (0, .ref (g 0)), (1, .int p1), (2, .int p2), (3, .int x3_42), (4, .int x4_42)]) hx hb dX5_surest_125 hl (k := 5) rfl rfl (by decide) rfl (fun ls hl => ?_)
          refine lv_goto (tgt := 42) hx hb dX5_surest_128 (by decide) ?_
          have := t_inc (x := x5_42) (by omega)
          rw [wl_some hM] at kk
          exact ih sR_42 x3_42 x4_42 (x5_42 + 1) H locs ls (by omega) (by omega) hPR hS (lv_sub hl [1, 2, 3, 4, 5, 0] rfl) kk
        · have hM := hM.trans (if_neg c_2)
          have t_2 := ne_t c_2
          rw [tl_m9] at t_2
          refine lv_aload_n hx hb dX5_surest_61 rfl (lv_at hl 0 rfl) ?_
          refine lv_iload hx hb dX5_surest_62 (lv_at hl 5 rfl) ?_
          refine lv_iconst (v := 1) hx hb dX5_surest_64 (by decide) ?_
          have z3 := tl_1
          refine runS_i (va_runV (As := [.int x5_42, .int 1]) (rest := []) ⟨hx, hb, hml, hown, hts⟩ (K_R_spanOf hg sR_42 vR x5_42 1 (by omega)) (cwV 2 hts gX5_surest_X5_spanOf rfl rfl rfl (by decide +kernel) ⟨Nat.le_of_ble_eq_true rfl, Nat.le_of_ble_eq_true rfl⟩) (preV_of hE hA hS hPR (va_recv hE.1 hPR (ci := 5) (q0 := 0) rfl rfl)) rfl rfl hl.1 rfl (lv_room (Nat.le_of_ble_eq_true rfl)) dX5_surest_65 ⟨Nat.zero_le _, Nat.zero_le _⟩) ?_
          refine lv_iload_n hx hb dX5_surest_68 rfl (lv_at hl 1 rfl) ?_
          refine lv_isub hx hb dX5_surest_69 ?_
          refine runS_i (va_runS (As := [.int ((m_R_spanOf sR_42 x5_42 1) - p1)]) (rest := []) ⟨hx, hb, hml, hown, hts⟩ (K_R_size ((m_R_spanOf sR_42 x5_42 1) - p1)) (va_cwS 1 hts gX5_surest_X5_size rfl rfl rfl (by decide +kernel) ⟨Nat.le_of_ble_eq_true rfl, Nat.le_of_ble_eq_true rfl⟩) (preS_of hE hA hS trivial) rfl rfl hl.1 rfl (lv_room (Nat.le_of_ble_eq_true rfl)) dX5_surest_70 ⟨Nat.zero_le _, Nat.zero_le _⟩) ?_
          refine lv_istore (lv' := [(6, .int (m_R_size ((m_R_spanOf sR_42 x5_42 1) - p1))), (0, .ref (g 0)), (1, .int p1), (2, .int p2), (3, .int x3_42), (4, .int x4_42), (5, .int x5_42)]) hx hb dX5_surest_73 hl (by decide) rfl (fun ls hl => ?_)
          refine lv_aload_n hx hb dX5_surest_75 rfl (lv_at hl 1 rfl) ?_
          refine lv_iload hx hb dX5_surest_76 (lv_at hl 6 rfl) ?_
          refine lv_iconst (v := 0) hx hb dX5_surest_78 (by decide) ?_
          have z4 := tl_0
          refine runS_i (va_runV (As := [.int x5_42, .int 0]) (rest := []) ⟨hx, hb, hml, hown, hts⟩ (K_R_spanOf hg sR_42 vR x5_42 0 (by omega)) (cwV 2 hts gX5_surest_X5_spanOf rfl rfl rfl (by decide +kernel) ⟨Nat.le_of_ble_eq_true rfl, Nat.le_of_ble_eq_true rfl⟩) (preV_of hE hA hS hPR (va_recv hE.1 hPR (ci := 5) (q0 := 0) rfl rfl)) rfl rfl hl.1 rfl (lv_room (Nat.le_of_ble_eq_true rfl)) dX5_surest_79 ⟨Nat.zero_le _, Nat.zero_le _⟩) ?_
          refine lv_iload_n hx hb dX5_surest_82 rfl (lv_at hl 2 rfl) ?_
          refine lv_isub hx hb dX5_surest_83 ?_
          refine runS_i (va_runS (As := [.int ((m_R_spanOf sR_42 x5_42 0) - p1)]) (rest := []) ⟨hx, hb, hml, hown, hts⟩ (K_R_size ((m_R_spanOf sR_42 x5_42 0) - p1)) (va_cwS 1 hts gX5_surest_X5_size rfl rfl rfl (by decide +kernel) ⟨Nat.le_of_ble_eq_true rfl, Nat.le_of_ble_eq_true rfl⟩) (preS_of hE hA hS trivial) rfl rfl hl.1 rfl (lv_room (Nat.le_of_ble_eq_true rfl)) dX5_surest_84 ⟨Nat.zero_le _, Nat.zero_le _⟩) ?_
          refine lv_istore (lv' := [(7, .int (m_R_size ((m_R_spanOf sR_42 x5_42 0) - p1))), (6, .int (m_R_size ((m_R_spanOf sR_42 x5_42 1) - p1))), (0, .ref (g 0)), (1, .int p1), (2, .int p2), (3, .int x3_42), (4, .int x4_42), (5, .int x5_42)]) hx hb dX5_surest_87 hl (by decide) rfl (fun ls hl => ?_)
          refine lv_iload hx hb dX5_surest_89 (lv_at hl 1 rfl) ?_
          refine lv_iload hx hb dX5_surest_91 (lv_at hl 0 rfl) ?_
          refine lv_icmp_le (tgt := 101) hx hb dX5_surest_93 (by decide) (fun c_5 => ?_) (fun c_5 => ?_)
          · have hM := hM.trans (if_pos c_5)
            have t_5 := le_t c_5
            refine lv_iload hx hb dX5_surest_101 (lv_at hl 0 rfl) ?_
            refine lv_istore (lv' := [(8, .int (m_R_size ((m_R_spanOf sR_42 x5_42 0) - p1))), (7, .int (m_R_size ((m_R_spanOf sR_42 x5_42 0) - p1))), (6, .int (m_R_size ((m_R_spanOf sR_42 x5_42 1) - p1))), (0, .ref (g 0)), (1, .int p1), (2, .int p2), (3, .int x3_42), (4, .int x4_42), (5, .int x5_42)]) hx hb dX5_surest_103 hl (by decide) rfl (fun ls hl => ?_)
            refine lv_iload_n hx hb dX5_surest_105 rfl (lv_at hl 6 rfl) ?_
            refine lv_bipush (v := (-9)) hx hb dX5_surest_106 (by decide) ?_
            refine lv_icmp_eq (tgt := 118) hx hb dX5_surest_108 (by decide) (fun c_6 => ?_) (fun c_6 => ?_)
            · have hM := hM.trans (if_pos c_6)
              have t_6 := eq_t c_6
              rw [tl_m9] at t_6
              refine lv_iload hx hb dX5_surest_118 (lv_at hl 8 rfl) ?_
              refine lv_istore_n (lv' := [(3, .int x5_42), (8, .int (m_R_size ((m_R_spanOf sR_42 x5_42 0) - p1))), (7, .int (m_R_size ((m_R_spanOf sR_42 x5_42 0) - p1))), (6, .int (m_R_size ((m_R_spanOf sR_42 x5_42 1) - p1))), (0, .ref (g 0)), (1, .int p1), (2, .int p2), (4, .int x4_42), (5, .int x5_42)]) hx hb dX5_surest_120 rfl hl (by decide) rfl (fun ls hl => ?_)
              refine lv_iload hx hb dX5_surest_121 (lv_at hl 1 rfl) ?_
              refine lv_istore (lv' := [(4, .int (m_R_size ((m_R_spanOf sR_42 x5_42 0) - p1))), (3, .int x5_42), (8, .int (m_R_size ((m_R_spanOf sR_42 x5_42 0) - p1))), (7, .int (m_R_size ((m_R_spanOf sR_42 x5_42 0) - p1))), (6, .int (m_R_size ((m_R_spanOf sR_42 x5_42 1) - p1))), (0, .ref (g 0)), (1, .int p1), (2, .int p2), (5, .int x5_42)]) hx hb dX5_surest_123 hl (by decide) rfl (fun ls hl => ?_)
              refine lv_iinc (v := (x5_42 + 1)) (lv' := [(5, .int (x5_42 + 1)), (4, .int (m_R_size ((m_R_spanOf sR_42 x5_42 0) - p1))), (3, .int x5_42), (8, .int (m_R_size ((m_R_spanOf sR_42 x5_42 0) - p1))), (7, .int (m_R_size ((m_R_spanOf sR_42 x5_42 0) - p1))), (6, .int (m_R_size ((m_R_spanOf sR_42 x5_42 1) - p1))), (0, .ref (g 0)), (1, .int p1), (2, .int p2)]) hx hb dX5_surest_125 hl (k := 8) rfl rfl (by decide) rfl (fun ls hl => ?_)
              refine lv_goto (tgt := 42) hx hb dX5_surest_128 (by decide) ?_
              have := t_inc (x := x5_42) (by omega)
              rw [wl_some hM] at kk
              exact ih sR_42 x5_42 (m_R_size ((m_R_spanOf sR_42 x5_42 0) - p1)) (x5_42 + 1) H locs ls (by omega) (by omega) hPR hS (lv_sub hl [6, 7, 8, 2, 1, 0] rfl) kk
            · have hM := hM.trans (if_neg c_6)
              have t_6 := ne_t c_6
              rw [tl_m9] at t_6
              refine lv_iload hx hb dX5_surest_111 (lv_at hl 0 rfl) ?_
              refine lv_iload hx hb dX5_surest_113 (lv_at hl 7 rfl) ?_
              refine lv_icmp_ge (tgt := 125) hx hb dX5_surest_115 (by decide) (fun c_7 => ?_) (fun c_7 => ?_)
              · have hM := hM.trans (if_pos c_7)
                have t_7 := le_t c_7
                refine lv_iinc (v := (x5_42 + 1)) (lv' := [(5, .int (x5_42 + 1)), (8, .int (m_R_size ((m_R_spanOf sR_42 x5_42 0) - p1))), (7, .int (m_R_size ((m_R_spanOf sR_42 x5_42 0) - p1))), (6, .int (m_R_size ((m_R_spanOf sR_42 x5_42 1) - p1))), (0, .ref (g 0)), (1, .int p1), (2, .int p2), (3, .int x3_42), (4, .int x4_42)]) hx hb dX5_surest_125 hl (k := 8) rfl rfl (by decide) rfl (fun ls hl => ?_)
                refine lv_goto (tgt := 42) hx hb dX5_surest_128 (by decide) ?_
                have := t_inc (x := x5_42) (by omega)
                rw [wl_some hM] at kk
                exact ih sR_42 x3_42 x4_42 (x5_42 + 1) H locs ls (by omega) (by omega) hPR hS (lv_sub hl [4, 5, 6, 7, 8, 0] rfl) kk
              · have hM := hM.trans (if_neg c_7)
                have t_7 := nle_t c_7
                refine lv_iload hx hb dX5_surest_118 (lv_at hl 8 rfl) ?_
                refine lv_istore_n (lv' := [(3, .int x5_42), (8, .int (m_R_size ((m_R_spanOf sR_42 x5_42 0) - p1))), (7, .int (m_R_size ((m_R_spanOf sR_42 x5_42 0) - p1))), (6, .int (m_R_size ((m_R_spanOf sR_42 x5_42 1) - p1))), (0, .ref (g 0)), (1, .int p1), (2, .int p2), (4, .int x4_42), (5, .int x5_42)]) hx hb dX5_surest_120 rfl hl (by decide) rfl (fun ls hl => ?_)
                refine lv_iload hx hb dX5_surest_121 (lv_at hl 1 rfl) ?_
                refine lv_istore (lv' := [(4, .int (m_R_size ((m_R_spanOf sR_42 x5_42 0) - p1))), (3, .int x5_42), (8, .int (m_R_size ((m_R_spanOf sR_42 x5_42 0) - p1))), (7, .int (m_R_size ((m_R_spanOf sR_42 x5_42 0) - p1))), (6, .int (m_R_size ((m_R_spanOf sR_42 x5_42 1) - p1))), (0, .ref (g 0)), (1, .int p1), (2, .int p2), (5, .int x5_42)]) hx hb dX5_surest_123 hl (by decide) rfl (fun ls hl => ?_)
                refine lv_iinc (v := (x5_42 + 1)) (lv' := [(5, .int (x5_42 + 1)), (4, .int (m_R_size ((m_R_spanOf sR_42 x5_42 0) - p1))), (3, .int x5_42), (8, .int (m_R_size ((m_R_spanOf sR_42 x5_42 0) - p1))), (7, .int (m_R_size ((m_R_spanOf sR_42 x5_42 0) - p1))), (6, .int (m_R_size ((m_R_spanOf sR_42 x5_42 1) - p1))), (0, .ref (g 0)), (1, .int p1), (2, .int p2)]) hx hb dX5_surest_125 hl (k := 8) rfl rfl (by decide) rfl (fun ls hl => ?_)
                refine lv_goto (tgt := 42) hx hb dX5_surest_128 (by decide) ?_
                have := t_inc (x := x5_42) (by omega)
                rw [wl_some hM] at kk
                exact ih sR_42 x5_42 (m_R_size ((m_R_spanOf sR_42 x5_42 0) - p1)) (x5_42 + 1) H locs ls (by omega) (by omega) hPR hS (lv_sub hl [6, 7, 8, 2, 1, 0] rfl) kk
          · have hM := hM.trans (if_neg c_5)
            have t_5 := nle_t c_5
            refine lv_iload hx hb dX5_surest_96 (lv_at hl 1 rfl) ?_
            refine lv_goto (tgt := 103) hx hb dX5_surest_98 (by decide) ?_
            refine lv_istore (lv' := [(8, .int (m_R_size ((m_R_spanOf sR_42 x5_42 1) - p1))), (7, .int (m_R_size ((m_R_spanOf sR_42 x5_42 0) - p1))), (6, .int (m_R_size ((m_R_spanOf sR_42 x5_42 1) - p1))), (0, .ref (g 0)), (1, .int p1), (2, .int p2), (3, .int x3_42), (4, .int x4_42), (5, .int x5_42)]) hx hb dX5_surest_103 hl (by decide) rfl (fun ls hl => ?_)
            refine lv_iload_n hx hb dX5_surest_105 rfl (lv_at hl 6 rfl) ?_
            refine lv_bipush (v := (-9)) hx hb dX5_surest_106 (by decide) ?_
            refine lv_icmp_eq (tgt := 118) hx hb dX5_surest_108 (by decide) (fun c_8 => ?_) (fun c_8 => ?_)
            · have hM := hM.trans (if_pos c_8)
              have t_8 := eq_t c_8
              rw [tl_m9] at t_8
              refine lv_iload hx hb dX5_surest_118 (lv_at hl 8 rfl) ?_
              refine lv_istore_n (lv' := [(3, .int x5_42), (8, .int (m_R_size ((m_R_spanOf sR_42 x5_42 1) - p1))), (7, .int (m_R_size ((m_R_spanOf sR_42 x5_42 0) - p1))), (6, .int (m_R_size ((m_R_spanOf sR_42 x5_42 1) - p1))), (0, .ref (g 0)), (1, .int p1), (2, .int p2), (4, .int x4_42), (5, .int x5_42)]) hx hb dX5_surest_120 rfl hl (by decide) rfl (fun ls hl => ?_)
              refine lv_iload hx hb dX5_surest_121 (lv_at hl 1 rfl) ?_
              refine lv_istore (lv' := [(4, .int (m_R_size ((m_R_spanOf sR_42 x5_42 1) - p1))), (3, .int x5_42), (8, .int (m_R_size ((m_R_spanOf sR_42 x5_42 1) - p1))), (7, .int (m_R_size ((m_R_spanOf sR_42 x5_42 0) - p1))), (6, .int (m_R_size ((m_R_spanOf sR_42 x5_42 1) - p1))), (0, .ref (g 0)), (1, .int p1), (2, .int p2), (5, .int x5_42)]) hx hb dX5_surest_123 hl (by decide) rfl (fun ls hl => ?_)
              refine lv_iinc (v := (x5_42 + 1)) (lv' := [(5, .int (x5_42 + 1)), (4, .int (m_R_size ((m_R_spanOf sR_42 x5_42 1) - p1))), (3, .int x5_42), (8, .int (m_R_size ((m_R_spanOf sR_42 x5_42 1) - p1))), (7, .int (m_R_size ((m_R_spanOf sR_42 x5_42 0) - p1))), (6, .int (m_R_size ((m_R_spanOf sR_42 x5_42 1) - p1))), (0, .ref (g 0)), (1, .int p1), (2, .int p2)]) hx hb dX5_surest_125 hl (k := 8) rfl rfl (by decide) rfl (fun ls hl => ?_)
              refine lv_goto (tgt := 42) hx hb dX5_surest_128 (by decide) ?_
              have := t_inc (x := x5_42) (by omega)
              rw [wl_some hM] at kk
              exact ih sR_42 x5_42 (m_R_size ((m_R_spanOf sR_42 x5_42 1) - p1)) (x5_42 + 1) H locs ls (by omega) (by omega) hPR hS (lv_sub hl [6, 7, 8, 2, 1, 0] rfl) kk
            · have hM := hM.trans (if_neg c_8)
              have t_8 := ne_t c_8
              rw [tl_m9] at t_8
              refine lv_iload hx hb dX5_surest_111 (lv_at hl 0 rfl) ?_
              refine lv_iload hx hb dX5_surest_113 (lv_at hl 7 rfl) ?_
              refine lv_icmp_ge (tgt := 125) hx hb dX5_surest_115 (by decide) (fun c_9 => ?_) (fun c_9 => ?_)
              · have hM := hM.trans (if_pos c_9)
                have t_9 := le_t c_9
                refine lv_iinc (v := (x5_42 + 1)) (lv' := [(5, .int (x5_42 + 1)), (8, .int (m_R_size ((m_R_spanOf sR_42 x5_42 1) - p1))), (7, .int (m_R_size ((m_R_spanOf sR_42 x5_42 0) - p1))), (6, .int (m_R_size ((m_R_spanOf sR_42 x5_42 1) - p1))), (0, .ref (g 0)), (1, .int p1), (2, .int p2), (3, .int x3_42), (4, .int x4_42)]) hx hb dX5_surest_125 hl (k := 8) rfl rfl (by decide) rfl (fun ls hl => ?_)
                refine lv_goto (tgt := 42) hx hb dX5_surest_128 (by decide) ?_
                have := t_inc (x := x5_42) (by omega)
                rw [wl_some hM] at kk
                exact ih sR_42 x3_42 x4_42 (x5_42 + 1) H locs ls (by omega) (by omega) hPR hS (lv_sub hl [4, 5, 6, 7, 8, 0] rfl) kk
              · have hM := hM.trans (if_neg c_9)
                have t_9 := nle_t c_9
                refine lv_iload hx hb dX5_surest_118 (lv_at hl 8 rfl) ?_
                refine lv_istore_n (lv' := [(3, .int x5_42), (8, .int (m_R_size ((m_R_spanOf sR_42 x5_42 1) - p1))), (7, .int (m_R_size ((m_R_spanOf sR_42 x5_42 0) - p1))), (6, .int (m_R_size ((m_R_spanOf sR_42 x5_42 1) - p1))), (0, .ref (g 0)), (1, .int p1), (2, .int p2), (4, .int x4_42), (5, .int x5_42)]) hx hb dX5_surest_120 rfl hl (by decide) rfl (fun ls hl => ?_)
                refine lv_iload hx hb dX5_surest_121 (lv_at hl 1 rfl) ?_
                refine lv_istore (lv' := [(4, .int (m_R_size ((m_R_spanOf sR_42 x5_42 1) - p1))), (3, .int x5_42), (8, .int (m_R_size ((m_R_spanOf sR_42 x5_42 1) - p1))), (7, .int (m_R_size ((m_R_spanOf sR_42 x5_42 0) - p1))), (6, .int (m_R_size ((m_R_spanOf sR_42 x5_42 1) - p1))), (0, .ref (g 0)), (1, .int p1), (2, .int p2), (5, .int x5_42)]) hx hb dX5_surest_123 hl (by decide) rfl (fun ls hl => ?_)
                refine lv_iinc (v := (x5_42 + 1)) (lv' := [(5, .int (x5_42 + 1)), (4, .int (m_R_size ((m_R_spanOf sR_42 x5_42 1) - p1))), (3, .int x5_42), (8, .int (m_R_size ((m_R_spanOf sR_42 x5_42 1) - p1))), (7, .int (m_R_size ((m_R_spanOf sR_42 x5_42 0) - p1))), (6, .int (m_R_size ((m_R_spanOf sR_42 x5_42 1) - p1))), (0, .ref (g 0)), (1, .int p1), (2, .int p2)]) hx hb dX5_surest_125 hl (k := 8) rfl rfl (by decide) rfl (fun ls hl => ?_)
                refine lv_goto (tgt := 42) hx hb dX5_surest_128 (by decide) ?_
                have := t_inc (x := x5_42) (by omega)
                rw [wl_some hM] at kk
                exact ih sR_42 x5_42 (m_R_size ((m_R_spanOf sR_42 x5_42 1) - p1)) (x5_42 + 1) H locs ls (by omega) (by omega) hPR hS (lv_sub hl [6, 7, 8, 2, 1, 0] rfl) kk
  have J_131 : ∀ (sR_131 : St) (x3_131 : Int32) (x4_131 : Int32) (H : Heap) (locs : List Loc) (ls : Array Slot), va_P D vwCl (cellR cI g sR_131 vR) H → va_S (wA g 0 16) s.heap H locs → lv_has ls 9 [(2, .int p2), (3, .int x3_131), (4, .int x4_131)] → (m_R_surest sR p1 p2) = b_R_surest_131 sR_131 p2 x3_131 x4_131 → W p l e rm_R_surest s m args below meth c H locs 0 0 Q (F0 m 131 ls []) := by
    intro sR_131 x3_131 x4_131 H locs ls hPR hS hl hM
    refine lv_iload_n hx hb dX5_surest_131 rfl (lv_at hl 0 rfl) ?_
    refine lv_if_ne (tgt := 139) hx hb dX5_surest_132 (by decide) (fun c_10 => ?_) (fun c_10 => ?_)
    · have hM := hM.trans (if_neg c_10)
      have t_10 := ne_t c_10
      rw [tl_0] at t_10
      refine lv_iload hx hb dX5_surest_139 (lv_at hl 2 rfl) ?_
      have hM : (m_R_surest sR p1 p2) = ((x4_131, sR_131) : Int32 × St) := hM
      exact hret x4_131 H locs _ ls (nr_i _) dX5_surest_141 (ret1 hM) (rP_v1 (P := fun (z0 : St) => va_P D vwCl (cellR cI g z0 vR) H) hM hPR) hS
    · have hM := hM.trans (if_pos c_10)
      have t_10 := eq_t c_10
      rw [tl_0] at t_10
      refine lv_iload_n hx hb dX5_surest_135 rfl (lv_at hl 1 rfl) ?_
      refine lv_goto (tgt := 141) hx hb dX5_surest_136 (by decide) ?_
      have hM : (m_R_surest sR p1 p2) = ((x3_131, sR_131) : Int32 × St) := hM
      exact hret x3_131 H locs _ ls (nr_i _) dX5_surest_141 (ret1 hM) (rP_v1 (P := fun (z0 : St) => va_P D vwCl (cellR cI g z0 vR) H) hM hPR) hS
  have hM : (m_R_surest sR p1 p2) = (m_R_surest sR p1 p2) := rfl
  refine lv_iload_n hx hb dX5_surest_0 rfl (lv_at hl 1 rfl) ?_
  refine lv_iconst (v := 0) hx hb dX5_surest_1 (by decide) ?_
  refine lv_sipush (v := 2000) hx hb dX5_surest_2 (by decide) ?_
  refine runS_i (va_runS (As := [.int p1, .int 0, .int 2000]) (rest := []) ⟨hx, hb, hml, hown, hts⟩ (K_R_in p1 0 2000) (va_cwS 3 hts gX5_surest_X5_in rfl rfl rfl (by decide +kernel) ⟨Nat.le_of_ble_eq_true rfl, Nat.le_of_ble_eq_true rfl⟩) (preS_of hE hA hS trivial) rfl rfl hl.1 rfl (lv_room (Nat.le_of_ble_eq_true rfl)) dX5_surest_5 ⟨Nat.zero_le _, Nat.zero_le _⟩) ?_
  refine lv_if_eq (tgt := 20) hx hb dX5_surest_8 (by decide) (fun c_11 => ?_) (fun c_11 => ?_)
  · have hM := hM.trans (if_pos c_11)
    have t_11 := eq_t c_11
    rw [tl_0] at t_11
    refine lv_iconst (v := (-1)) hx hb dX5_surest_20 (by decide) ?_
    have hM : (m_R_surest sR p1 p2) = (((-1), sR) : Int32 × St) := hM
    exact hret (-1) H locs _ ls (nr_i _) dX5_surest_21 (ret1 hM) (rP_v1 (P := fun (z0 : St) => va_P D vwCl (cellR cI g z0 vR) H) hM hPR) hS
  · have hM := hM.trans (if_neg c_11)
    have t_11 := ne_t c_11
    rw [tl_0] at t_11
    have u_11 := in_t c_11
    rw [tl_0, tl_2000] at u_11
    refine lv_iload_n hx hb dX5_surest_11 rfl (lv_at hl 2 rfl) ?_
    refine lv_iconst (v := 0) hx hb dX5_surest_12 (by decide) ?_
    refine lv_iconst (v := 1) hx hb dX5_surest_13 (by decide) ?_
    refine runS_i (va_runS (As := [.int p2, .int 0, .int 1]) (rest := []) ⟨hx, hb, hml, hown, hts⟩ (K_R_in p2 0 1) (va_cwS 3 hts gX5_surest_X5_in rfl rfl rfl (by decide +kernel) ⟨Nat.le_of_ble_eq_true rfl, Nat.le_of_ble_eq_true rfl⟩) (preS_of hE hA hS trivial) rfl rfl hl.1 rfl (lv_room (Nat.le_of_ble_eq_true rfl)) dX5_surest_14 ⟨Nat.zero_le _, Nat.zero_le _⟩) ?_
    refine lv_if_ne (tgt := 22) hx hb dX5_surest_17 (by decide) (fun c_12 => ?_) (fun c_12 => ?_)
    · have hM := hM.trans (if_neg c_12)
      have t_12 := ne_t c_12
      rw [tl_0] at t_12
      have u_12 := in_t c_12
      rw [tl_0, tl_1] at u_12
      refine lv_aload_n hx hb dX5_surest_22 rfl (lv_at hl 0 rfl) ?_
      refine runW_i (va_runV (As := []) (rest := []) ⟨hx, hb, hml, hown, hts⟩ (K_R_findLeft hg sR vR (by assumption)) (cwV 0 hts gX5_surest_X5_findLeft rfl rfl rfl (by decide +kernel) ⟨Nat.le_of_ble_eq_true rfl, Nat.le_of_ble_eq_true rfl⟩) (preV_of hE hA hS hPR (va_recv hE.1 hPR (ci := 5) (q0 := 0) rfl rfl)) rfl rfl hl.1 rfl (lv_room (Nat.le_of_ble_eq_true rfl)) dX5_surest_23 ⟨Nat.zero_le _, Nat.zero_le _⟩) hS (fun _ h9 => h9) (fun H locs hQ hk hS => ?_)
      have hPR : va_P D vwCl (cellR cI g (m_R_findLeft sR).2 vR) H := hQ
      have v13 : okR (m_R_findLeft sR).2 := okR_findLeft (by assumption)
      have w13_3 : ((m_R_findLeft sR).2 0 3).toInt = (sR 0 3).toInt := congrArg Int32.toInt (fr_R_findLeft (by omega))
      have w13_6 : ((m_R_findLeft sR).2 0 6).toInt = (sR 0 6).toInt := congrArg Int32.toInt (fr_R_findLeft (by omega))
      have w13_7 : ((m_R_findLeft sR).2 0 7).toInt = (sR 0 7).toInt := congrArg Int32.toInt (fr_R_findLeft (by omega))
      have w13_11 : ((m_R_findLeft sR).2 0 11).toInt = (sR 0 11).toInt := congrArg Int32.toInt (fr_R_findLeft (by omega))
      have w13_16 : ((m_R_findLeft sR).2 0 16).toInt = (sR 0 16).toInt := congrArg Int32.toInt (fr_R_findLeft (by omega))
      refine lv_if_ne (tgt := 32) hx hb dX5_surest_26 (by decide) (fun c_14 => ?_) (fun c_14 => ?_)
      · have hM := hM.trans (if_neg c_14)
        have t_14 := ne_t c_14
        rw [tl_0] at t_14
        refine lv_bipush (v := (-9)) hx hb dX5_surest_32 (by decide) ?_
        refine lv_istore_n (lv' := [(3, .int (-9)), (0, .ref (g 0)), (1, .int p1), (2, .int p2)]) hx hb dX5_surest_34 rfl hl (by decide) rfl (fun ls hl => ?_)
        refine lv_bipush (v := (-9)) hx hb dX5_surest_35 (by decide) ?_
        refine lv_istore (lv' := [(4, .int (-9)), (3, .int (-9)), (0, .ref (g 0)), (1, .int p1), (2, .int p2)]) hx hb dX5_surest_37 hl (by decide) rfl (fun ls hl => ?_)
        refine lv_iconst (v := 0) hx hb dX5_surest_39 (by decide) ?_
        refine lv_istore (lv' := [(5, .int 0), (4, .int (-9)), (3, .int (-9)), (0, .ref (g 0)), (1, .int p1), (2, .int p2)]) hx hb dX5_surest_40 hl (by decide) rfl (fun ls hl => ?_)
        have z15 := tl_m9
        have z16 := tl_0
        refine L_42 62 (m_R_findLeft sR).2 (-9) (-9) 0 H locs ls (by omega) (by omega) hPR hS (lv_sub hl [3, 4, 5, 2, 1, 0] rfl) (fun H locs ls hPR hS hl => ?_)
        exact J_131 (m_R_findLeft sR).2 (wl (g_R_surest_42 (m_R_findLeft sR).2 p1) 62 ((-9), (-9), 0)).1 (wl (g_R_surest_42 (m_R_findLeft sR).2 p1) 62 ((-9), (-9), 0)).2.1 H locs ls hPR hS (lv_sub hl [0, 1, 2] rfl) hM
      · have hM := hM.trans (if_pos c_14)
        have t_14 := eq_t c_14
        rw [tl_0] at t_14
        refine lv_bipush (v := (-9)) hx hb dX5_surest_29 (by decide) ?_
        have hM : (m_R_surest sR p1 p2) = (((-9), (m_R_findLeft sR).2) : Int32 × St) := hM
        exact hret (-9) H locs _ ls (nr_i _) dX5_surest_31 (ret1 hM) (rP_v1 (P := fun (z0 : St) => va_P D vwCl (cellR cI g z0 vR) H) hM hPR) hS
    · have hM := hM.trans (if_pos c_12)
      have t_12 := eq_t c_12
      rw [tl_0] at t_12
      refine lv_iconst (v := (-1)) hx hb dX5_surest_20 (by decide) ?_
      have hM : (m_R_surest sR p1 p2) = (((-1), sR) : Int32 × St) := hM
      exact hret (-1) H locs _ ls (nr_i _) dX5_surest_21 (ret1 hM) (rP_v1 (P := fun (z0 : St) => va_P D vwCl (cellR cI g z0 vR) H) hM hPR) hS
abbrev rm_R_newWall : Room := { frames := 0, cells := 0, slots := 0, locals := 0 }
set_option maxHeartbeats 4000000 in
set_option maxRecDepth 100000 in
theorem K_R_newWall {l : Launch} {D : va_G} {cI : ClassId} {lo : Nat} {g : Nat → Nat} (hg : wI g 0 16 lo) (sR : St) (vR : Int64) : WRv l D cI lo yX5_newWall wsX5_newWall rm_R_newWall [.ref (g 0)] (fun H => va_P D vwCl (cellR cI g sR vR) H) (fun H => va_P D vwCl (cellR cI g (m_R_newWall sR) vR) H) (wA g 0 16) := by
  refine ofW_WRv (cc := cX5_newWall) (maxL := 2) (by decide +kernel) rfl (Nat.le_of_ble_eq_true rfl) ?_
  intro p e s m args below meth c Q hx hb hml hown hts hE hP hret ls hl
  have hown : s.vm.findClass RX5 = some m.cls := hown
  have hPR := hP
  have hA := wA.lo hg
  have hS : va_S (wA g 0 16) s.heap s.heap [] := va_S.rf
  obtain ⟨H, hH⟩ : ∃ z, z = s.heap := ⟨_, rfl⟩
  obtain ⟨locs, hlocs⟩ : ∃ z : List Loc, z = [] := ⟨_, rfl⟩
  have hPR : va_P D vwCl (cellR cI g sR vR) H := by rw [hH]; exact hPR
  have hS : va_S (wA g 0 16) s.heap H locs := by rw [hH, hlocs]; exact va_S.rf
  have gW : W p l e rm_R_newWall s m args below meth c H locs 0 0 Q (F0 m 0 ls []) → W p l e rm_R_newWall s m args below meth c s.heap [] 0 0 Q (F0 m 0 ls []) := by rw [hH, hlocs]; exact id
  refine gW ?_
  have hinR : ∀ w ∈ wsX50, w ∈ wsX5_newWall := fun w h => List.mem_cons_of_mem _ (List.mem_append_right _ h)
  have hl : lv_has ls 2 [(0, .ref (g 0))] := hl
  have L_2 : ∀ (n : Nat) (sR_2 : St) (x1_2 : Int32) (H : Heap) (locs : List Loc) (ls : Array Slot), 0 ≤ x1_2.toInt ∧ x1_2.toInt ≤ 48 → (48 - x1_2.toInt).toNat < n → va_P D vwCl (cellR cI g sR_2 vR) H → va_S (wA g 0 16) s.heap H locs → lv_has ls 2 [(0, .ref (g 0)), (1, .int x1_2)] → (∀ (H : Heap) (locs : List Loc) (ls : Array Slot), va_P D vwCl (cellR cI g (wl g_R_newWall_2 n (sR_2, x1_2)).1 vR) H → va_S (wA g 0 16) s.heap H locs → lv_has ls 2 [] → W p l e rm_R_newWall s m args below meth c H locs 0 0 Q (F0 m 36 ls [])) → W p l e rm_R_newWall s m args below meth c H locs 0 0 Q (F0 m 2 ls []) := by
    intro n
    induction n with
    | zero =>
      intro sR_2 x1_2 H locs ls i2_0 hn2 hPR hS hl kk
      exact absurd hn2 (Nat.not_lt_zero _)
    | succ n ih =>
      intro sR_2 x1_2 H locs ls i2_0 hn2 hPR hS hl kk
      have hM : g_R_newWall_2 (sR_2, x1_2) = g_R_newWall_2 (sR_2, x1_2) := rfl
      refine lv_iload_n hx hb dX5_newWall_2 rfl (lv_at hl 1 rfl) ?_
      refine lv_bipush (v := 48) hx hb dX5_newWall_3 (by decide) ?_
      refine lv_icmp_ge (tgt := 36) hx hb dX5_newWall_5 (by decide) (fun c_1 => ?_) (fun c_1 => ?_)
      · have hM := hM.trans (if_pos c_1)
        have t_1 := le_t c_1
        rw [tl_48] at t_1
        rw [wl_none hM] at kk
        exact kk H locs ls hPR hS (lv_sub hl [] rfl)
      · have hM := hM.trans (if_neg c_1)
        have t_1 := nle_t c_1
        rw [tl_48] at t_1
        refine lv_aload_n hx hb dX5_newWall_8 rfl (lv_at hl 0 rfl) ?_
        refine va_get (D := D) (ci := 5) (v := .ref (g 4)) (C := RX5) (T := TX5) (N := 33) hx hb hts hinR hown hE.1 hPR 0 rfl rfl 8 (by decide) (hts (.fieldLink RX5 29 "WallStonesModel" "stands" "[I") (List.mem_of_getElem? (i := 1) rfl)) (fun _ h9 => h9) rfl dX5_newWall_9 ?_
        refine lv_iload_n hx hb dX5_newWall_12 rfl (lv_at hl 1 rfl) ?_
        refine lv_iconst (v := 1) hx hb dX5_newWall_13 (by decide) ?_
        refine va_iast hx hb hE.1 hPR (wD_of hg (c := 0) (n := 16) (by decide) (by decide) rfl) hS 4 0 rfl rfl (vp_in_iff.mpr (by omega)) dX5_newWall_14 (fun H locs hPn _ hS => ?_)
        have hPR : va_P D vwCl (cellR cI g (up sR_2 9 (Int32.toNatClampNeg x1_2) 1) vR) H := (congrArg (fun z => va_P D vwCl z H) setR_R9).mp hPn
        refine lv_aload_n hx hb dX5_newWall_15 rfl (lv_at hl 0 rfl) ?_
        refine va_get (D := D) (ci := 5) (v := .ref (g 5)) (C := RX5) (T := TX5) (N := 33) hx hb hts hinR hown hE.1 hPR 0 rfl rfl 9 (by decide) (hts (.fieldLink RX5 32 "WallStonesModel" "strength" "[I") (List.mem_of_getElem? (i := 2) rfl)) (fun _ h9 => h9) rfl dX5_newWall_16 ?_
        refine lv_iload_n hx hb dX5_newWall_19 rfl (lv_at hl 1 rfl) ?_
        refine lv_bipush (v := 10) hx hb dX5_newWall_20 (by decide) ?_
        refine va_iast hx hb hE.1 hPR (wD_of hg (c := 0) (n := 16) (by decide) (by decide) rfl) hS 5 0 rfl rfl (vp_in_iff.mpr (by omega)) dX5_newWall_22 (fun H locs hPn _ hS => ?_)
        have hPR : va_P D vwCl (cellR cI g (up (up sR_2 9 (Int32.toNatClampNeg x1_2) 1) 10 (Int32.toNatClampNeg x1_2) 10) vR) H := (congrArg (fun z => va_P D vwCl z H) setR_R10).mp hPn
        refine lv_aload_n hx hb dX5_newWall_23 rfl (lv_at hl 0 rfl) ?_
        refine va_get (D := D) (ci := 5) (v := .ref (g 6)) (C := RX5) (T := TX5) (N := 33) hx hb hts hinR hown hE.1 hPR 0 rfl rfl 10 (by decide) (hts (.fieldLink RX5 35 "WallStonesModel" "propped" "[I") (List.mem_of_getElem? (i := 3) rfl)) (fun _ h9 => h9) rfl dX5_newWall_24 ?_
        refine lv_iload_n hx hb dX5_newWall_27 rfl (lv_at hl 1 rfl) ?_
        refine lv_iconst (v := 0) hx hb dX5_newWall_28 (by decide) ?_
        refine va_iast hx hb hE.1 hPR (wD_of hg (c := 0) (n := 16) (by decide) (by decide) rfl) hS 6 0 rfl rfl (vp_in_iff.mpr (by omega)) dX5_newWall_29 (fun H locs hPn _ hS => ?_)
        have hPR : va_P D vwCl (cellR cI g (up (up (up sR_2 9 (Int32.toNatClampNeg x1_2) 1) 10 (Int32.toNatClampNeg x1_2) 10) 11 (Int32.toNatClampNeg x1_2) 0) vR) H := (congrArg (fun z => va_P D vwCl z H) setR_R11).mp hPn
        refine lv_iinc (v := (x1_2 + 1)) (lv' := [(1, .int (x1_2 + 1)), (0, .ref (g 0))]) hx hb dX5_newWall_30 hl (k := 1) rfl rfl (by decide) rfl (fun ls hl => ?_)
        refine lv_goto (tgt := 2) hx hb dX5_newWall_33 (by decide) ?_
        have := t_inc (x := x1_2) (by omega)
        rw [wl_some hM] at kk
        exact ih (up (up (up sR_2 9 (Int32.toNatClampNeg x1_2) 1) 10 (Int32.toNatClampNeg x1_2) 10) 11 (Int32.toNatClampNeg x1_2) 0) (x1_2 + 1) H locs ls (by omega) (by omega) hPR hS (lv_sub hl [1, 0] rfl) kk
  have J_36 : ∀ (sR_36 : St) (H : Heap) (locs : List Loc) (ls : Array Slot), va_P D vwCl (cellR cI g sR_36 vR) H → va_S (wA g 0 16) s.heap H locs → lv_has ls 2 [] → (m_R_newWall sR) = b_R_newWall_36 sR_36 → W p l e rm_R_newWall s m args below meth c H locs 0 0 Q (F0 m 36 ls []) := by
    intro sR_36 H locs ls hPR hS hl hM
    have hM : (m_R_newWall sR) = (sR_36 : St) := hM
    exact hret H locs _ ls dX5_newWall_36 (rP_s1 (P := fun (z0 : St) => va_P D vwCl (cellR cI g z0 vR) H) hM hPR) hS
  have hM : (m_R_newWall sR) = (m_R_newWall sR) := rfl
  refine lv_iconst (v := 0) hx hb dX5_newWall_0 (by decide) ?_
  refine lv_istore_n (lv' := [(1, .int 0), (0, .ref (g 0))]) hx hb dX5_newWall_1 rfl hl (by decide) rfl (fun ls hl => ?_)
  have z2 := tl_0
  refine L_2 49 sR 0 H locs ls (by omega) (by omega) hPR hS (lv_sub hl [1, 0] rfl) (fun H locs ls hPR hS hl => ?_)
  exact J_36 (wl g_R_newWall_2 49 (sR, 0)).1 H locs ls hPR hS (lv_sub hl [] rfl) hM
abbrev rm_R_wall : Room := { frames := 1, cells := 0, slots := 0, locals := 22 }
set_option maxHeartbeats 4000000 in
set_option maxRecDepth 100000 in
theorem K_R_wall {l : Launch} {D : va_G} {cI : ClassId} {lo : Nat} {g : Nat → Nat} (hg : wI g 0 16 lo) (sR : St) (vR : Int64) (p1 : Int32) (p2 : Int32) : WRi l D cI lo yX5_wall wsX5_wall rm_R_wall [.ref (g 0), .int p1, .int p2] (fun H => va_P D vwCl (cellR cI g sR vR) H) (m_R_wall sR p1 p2).1 (fun H => va_P D vwCl (cellR cI g (m_R_wall sR p1 p2).2 vR) H) (wA g 0 16) := by
  refine ofW_WRi (cc := cX5_wall) (maxL := 3) (ty := .int) (by decide +kernel) rfl (Nat.le_of_ble_eq_true rfl) ?_
  intro p e s m args below meth c Q hx hb hml hown hts hE hP hret ls hl
  have hown : s.vm.findClass RX5 = some m.cls := hown
  have hPR := hP
  have hA := wA.lo hg
  have hS : va_S (wA g 0 16) s.heap s.heap [] := va_S.rf
  obtain ⟨H, hH⟩ : ∃ z, z = s.heap := ⟨_, rfl⟩
  obtain ⟨locs, hlocs⟩ : ∃ z : List Loc, z = [] := ⟨_, rfl⟩
  have hPR : va_P D vwCl (cellR cI g sR vR) H := by rw [hH]; exact hPR
  have hS : va_S (wA g 0 16) s.heap H locs := by rw [hH, hlocs]; exact va_S.rf
  have gW : W p l e rm_R_wall s m args below meth c H locs 0 0 Q (F0 m 0 ls []) → W p l e rm_R_wall s m args below meth c s.heap [] 0 0 Q (F0 m 0 ls []) := by rw [hH, hlocs]; exact id
  refine gW ?_
  have hinR : ∀ w ∈ wsX50, w ∈ wsX5_wall := fun w h => List.mem_cons_of_mem _ (List.mem_append_right _ h)
  have hl : lv_has ls 3 [(0, .ref (g 0)), (1, .int p1), (2, .int p2)] := hl
  have hM : (m_R_wall sR p1 p2) = (m_R_wall sR p1 p2) := rfl
  refine lv_iload_n hx hb dX5_wall_0 rfl (lv_at hl 1 rfl) ?_
  refine lv_iconst (v := 1) hx hb dX5_wall_1 (by decide) ?_
  refine lv_bipush (v := 8) hx hb dX5_wall_2 (by decide) ?_
  refine runS_i (va_runS (As := [.int p1, .int 1, .int 8]) (rest := []) ⟨hx, hb, hml, hown, hts⟩ (K_R_in p1 1 8) (va_cwS 3 hts gX5_wall_X5_in rfl rfl rfl (by decide +kernel) ⟨Nat.le_of_ble_eq_true rfl, Nat.le_of_ble_eq_true rfl⟩) (preS_of hE hA hS trivial) rfl rfl hl.1 rfl (lv_room (Nat.le_of_ble_eq_true rfl)) dX5_wall_4 ⟨Nat.zero_le _, Nat.zero_le _⟩) ?_
  refine lv_if_eq (tgt := 20) hx hb dX5_wall_7 (by decide) (fun c_1 => ?_) (fun c_1 => ?_)
  · have hM := hM.trans (if_pos c_1)
    refine lv_iconst (v := (-1)) hx hb dX5_wall_20 (by decide) ?_
    have hM : (m_R_wall sR p1 p2) = (((-1), sR) : Int32 × St) := hM
    exact hret (-1) H locs _ ls (nr_i _) dX5_wall_21 (ret1 hM) (rP_v1 (P := fun (z0 : St) => va_P D vwCl (cellR cI g z0 vR) H) hM hPR) hS
  · have hM := hM.trans (if_neg c_1)
    have u_1 := in_t c_1
    rw [tl_1, tl_8] at u_1
    refine lv_iload_n hx hb dX5_wall_10 rfl (lv_at hl 2 rfl) ?_
    refine lv_iconst (v := 1) hx hb dX5_wall_11 (by decide) ?_
    refine lv_bipush (v := 6) hx hb dX5_wall_12 (by decide) ?_
    refine runS_i (va_runS (As := [.int p2, .int 1, .int 6]) (rest := []) ⟨hx, hb, hml, hown, hts⟩ (K_R_in p2 1 6) (va_cwS 3 hts gX5_wall_X5_in rfl rfl rfl (by decide +kernel) ⟨Nat.le_of_ble_eq_true rfl, Nat.le_of_ble_eq_true rfl⟩) (preS_of hE hA hS trivial) rfl rfl hl.1 rfl (lv_room (Nat.le_of_ble_eq_true rfl)) dX5_wall_14 ⟨Nat.zero_le _, Nat.zero_le _⟩) ?_
    refine lv_if_ne (tgt := 22) hx hb dX5_wall_17 (by decide) (fun c_2 => ?_) (fun c_2 => ?_)
    · have hM := hM.trans (if_neg c_2)
      have u_2 := in_t c_2
      rw [tl_1, tl_6] at u_2
      refine lv_aload_n hx hb dX5_wall_22 rfl (lv_at hl 0 rfl) ?_
      refine lv_iload_n hx hb dX5_wall_23 rfl (lv_at hl 1 rfl) ?_
      refine va_put (D := D) (ci := 5) (v := .int p1) (ty := .int) (C := RX5) (T := TX5) (N := 33) hx hb hts hinR tyX5 tyX5_ok nmX5 hown hE.1 hPR (wD_of hg (c := 0) (n := 16) (by decide) (by decide) rfl) hS 0 rfl rfl 6 (by decide) (hts (.fieldLink RX5 23 "WallStonesModel" "width" "I") (List.mem_of_getElem? (i := 1) rfl)) (fun _ h9 => h9) rfl (by decide +kernel) rfl rfl (Nat.le_of_ble_eq_true rfl) dX5_wall_24 (fun H locs hPn _ hS => ?_)
      have hPR : va_P D vwCl (cellR cI g (up sR 0 6 p1) vR) H := (congrArg (fun z => va_P D vwCl z H) putR_R6).mp hPn
      refine lv_aload_n hx hb dX5_wall_27 rfl (lv_at hl 0 rfl) ?_
      refine lv_iload_n hx hb dX5_wall_28 rfl (lv_at hl 2 rfl) ?_
      refine va_put (D := D) (ci := 5) (v := .int p2) (ty := .int) (C := RX5) (T := TX5) (N := 33) hx hb hts hinR tyX5 tyX5_ok nmX5 hown hE.1 hPR (wD_of hg (c := 0) (n := 16) (by decide) (by decide) rfl) hS 0 rfl rfl 7 (by decide) (hts (.fieldLink RX5 26 "WallStonesModel" "height" "I") (List.mem_of_getElem? (i := 2) rfl)) (fun _ h9 => h9) rfl (by decide +kernel) rfl rfl (Nat.le_of_ble_eq_true rfl) dX5_wall_29 (fun H locs hPn _ hS => ?_)
      have hPR : va_P D vwCl (cellR cI g (up (up sR 0 6 p1) 0 7 p2) vR) H := (congrArg (fun z => va_P D vwCl z H) putR_R7).mp hPn
      refine lv_aload_n hx hb dX5_wall_32 rfl (lv_at hl 0 rfl) ?_
      refine runW_v (va_runV (As := []) (rest := []) ⟨hx, hb, hml, hown, hts⟩ (K_R_newWall hg (up (up sR 0 6 p1) 0 7 p2) vR) (cwV 0 hts gX5_wall_X5_newWall rfl rfl rfl (by decide +kernel) ⟨Nat.le_of_ble_eq_true rfl, Nat.le_of_ble_eq_true rfl⟩) (preV_of hE hA hS hPR (va_recv hE.1 hPR (ci := 5) (q0 := 0) rfl rfl)) rfl rfl hl.1 rfl (lv_room (Nat.le_of_ble_eq_true rfl)) dX5_wall_33 ⟨Nat.zero_le _, Nat.zero_le _⟩) hS (fun _ h9 => h9) (fun H locs hQ hk hS => ?_)
      have hPR : va_P D vwCl (cellR cI g (m_R_newWall (up (up sR 0 6 p1) 0 7 p2)) vR) H := hQ
      refine lv_iload_n hx hb dX5_wall_36 rfl (lv_at hl 1 rfl) ?_
      refine lv_iload_n hx hb dX5_wall_37 rfl (lv_at hl 2 rfl) ?_
      refine lv_imul hx hb dX5_wall_38 ?_
      have hM : (m_R_wall sR p1 p2) = (((p1 * p2), (m_R_newWall (up (up sR 0 6 p1) 0 7 p2))) : Int32 × St) := hM
      exact hret (p1 * p2) H locs _ ls (nr_i _) dX5_wall_39 (ret1 hM) (rP_v1 (P := fun (z0 : St) => va_P D vwCl (cellR cI g z0 vR) H) hM hPR) hS
    · have hM := hM.trans (if_pos c_2)
      refine lv_iconst (v := (-1)) hx hb dX5_wall_20 (by decide) ?_
      have hM : (m_R_wall sR p1 p2) = (((-1), sR) : Int32 × St) := hM
      exact hret (-1) H locs _ ls (nr_i _) dX5_wall_21 (ret1 hM) (rP_v1 (P := fun (z0 : St) => va_P D vwCl (cellR cI g z0 vR) H) hM hPR) hS
abbrev rm_R_isCell : Room := { frames := 1, cells := 0, slots := 0, locals := 22 }
set_option maxHeartbeats 4000000 in
set_option maxRecDepth 100000 in
theorem K_R_isCell {l : Launch} {D : va_G} {cI : ClassId} {lo : Nat} {g : Nat → Nat} (hg : wI g 0 16 lo) (sR : St) (vR : Int64) (p1 : Int32) (p2 : Int32) : ROi l D cI lo yX5_isCell wsX5_isCell rm_R_isCell [.ref (g 0), .int p1, .int p2] (fun H => va_P D vwCl (cellR cI g sR vR) H) (m_R_isCell sR p1 p2) := by
  refine ofW_ROi (cc := cX5_isCell) (maxL := 3) (ty := .boolean) (by decide +kernel) rfl (Nat.le_of_ble_eq_true rfl) ?_
  intro p e s m args below meth c Q hx hb hml hown hts hE hP hret ls hl
  have hown : s.vm.findClass RX5 = some m.cls := hown
  have hPR := hP
  have hA : ∀ q : Nat, (fun _ : Nat => False) q → lo ≤ q := fun _ h => h.elim
  have hS : va_S (fun _ : Nat => False) s.heap s.heap [] := va_S.rf
  have hinR : ∀ w ∈ wsX50, w ∈ wsX5_isCell := fun w h => List.mem_cons_of_mem _ (List.mem_append_right _ h)
  have hl : lv_has ls 3 [(0, .ref (g 0)), (1, .int p1), (2, .int p2)] := hl
  have hM : (m_R_isCell sR p1 p2) = (m_R_isCell sR p1 p2) := rfl
  refine lv_iload_n hx hb dX5_isCell_0 rfl (lv_at hl 1 rfl) ?_
  refine lv_iconst (v := 0) hx hb dX5_isCell_1 (by decide) ?_
  refine lv_aload_n hx hb dX5_isCell_2 rfl (lv_at hl 0 rfl) ?_
  refine va_get (D := D) (ci := 5) (v := .int (sR 0 6)) (C := RX5) (T := TX5) (N := 33) hx hb hts hinR hown hE.1 hPR 0 rfl rfl 6 (by decide) (hts (.fieldLink RX5 23 "WallStonesModel" "width" "I") (List.mem_of_getElem? (i := 1) rfl)) (fun _ h9 => h9) rfl dX5_isCell_3 ?_
  refine lv_iconst (v := 1) hx hb dX5_isCell_6 (by decide) ?_
  refine lv_isub hx hb dX5_isCell_7 ?_
  refine runS_i (va_runS (As := [.int p1, .int 0, .int ((sR 0 6) - 1)]) (rest := []) ⟨hx, hb, hml, hown, hts⟩ (K_R_in p1 0 ((sR 0 6) - 1)) (va_cwS 3 hts gX5_isCell_X5_in rfl rfl rfl (by decide +kernel) ⟨Nat.le_of_ble_eq_true rfl, Nat.le_of_ble_eq_true rfl⟩) (preS_of hE hA hS trivial) rfl rfl hl.1 rfl (lv_room (Nat.le_of_ble_eq_true rfl)) dX5_isCell_8 ⟨Nat.zero_le _, Nat.zero_le _⟩) ?_
  refine lv_if_eq (tgt := 32) hx hb dX5_isCell_11 (by decide) (fun c_1 => ?_) (fun c_1 => ?_)
  · have hM := hM.trans (if_pos c_1)
    refine lv_iconst (v := 0) hx hb dX5_isCell_32 (by decide) ?_
    have hM : (m_R_isCell sR p1 p2) = (0 : Int32) := hM
    exact hret _ _ ls (by decide) dX5_isCell_33 hM.symm
  · have hM := hM.trans (if_neg c_1)
    have u_1 := in_t c_1
    rw [tl_0] at u_1
    refine lv_iload_n hx hb dX5_isCell_14 rfl (lv_at hl 2 rfl) ?_
    refine lv_iconst (v := 0) hx hb dX5_isCell_15 (by decide) ?_
    refine lv_aload_n hx hb dX5_isCell_16 rfl (lv_at hl 0 rfl) ?_
    refine va_get (D := D) (ci := 5) (v := .int (sR 0 7)) (C := RX5) (T := TX5) (N := 33) hx hb hts hinR hown hE.1 hPR 0 rfl rfl 7 (by decide) (hts (.fieldLink RX5 26 "WallStonesModel" "height" "I") (List.mem_of_getElem? (i := 2) rfl)) (fun _ h9 => h9) rfl dX5_isCell_17 ?_
    refine lv_iconst (v := 1) hx hb dX5_isCell_20 (by decide) ?_
    refine lv_isub hx hb dX5_isCell_21 ?_
    refine runS_i (va_runS (As := [.int p2, .int 0, .int ((sR 0 7) - 1)]) (rest := []) ⟨hx, hb, hml, hown, hts⟩ (K_R_in p2 0 ((sR 0 7) - 1)) (va_cwS 3 hts gX5_isCell_X5_in rfl rfl rfl (by decide +kernel) ⟨Nat.le_of_ble_eq_true rfl, Nat.le_of_ble_eq_true rfl⟩) (preS_of hE hA hS trivial) rfl rfl hl.1 rfl (lv_room (Nat.le_of_ble_eq_true rfl)) dX5_isCell_22 ⟨Nat.zero_le _, Nat.zero_le _⟩) ?_
    refine lv_if_eq (tgt := 32) hx hb dX5_isCell_25 (by decide) (fun c_2 => ?_) (fun c_2 => ?_)
    · have hM := hM.trans (if_pos c_2)
      refine lv_iconst (v := 0) hx hb dX5_isCell_32 (by decide) ?_
      have hM : (m_R_isCell sR p1 p2) = (0 : Int32) := hM
      exact hret _ _ ls (by decide) dX5_isCell_33 hM.symm
    · have hM := hM.trans (if_neg c_2)
      have u_2 := in_t c_2
      rw [tl_0] at u_2
      refine lv_iconst (v := 1) hx hb dX5_isCell_28 (by decide) ?_
      refine lv_goto (tgt := 33) hx hb dX5_isCell_29 (by decide) ?_
      have hM : (m_R_isCell sR p1 p2) = (1 : Int32) := hM
      exact hret _ _ ls (by decide) dX5_isCell_33 hM.symm
abbrev rm_R_strength : Room := { frames := 2, cells := 0, slots := 0, locals := 44 }
set_option maxHeartbeats 4000000 in
set_option maxRecDepth 100000 in
theorem K_R_strength {l : Launch} {D : va_G} {cI : ClassId} {lo : Nat} {g : Nat → Nat} (hg : wI g 0 16 lo) (sR : St) (vR : Int64) (p1 : Int32) (p2 : Int32) (p3 : Int32) (h0 : okR sR) : WRi l D cI lo yX5_strength wsX5_strength rm_R_strength [.ref (g 0), .int p1, .int p2, .int p3] (fun H => va_P D vwCl (cellR cI g sR vR) H) (m_R_strength sR p1 p2 p3).1 (fun H => va_P D vwCl (cellR cI g (m_R_strength sR p1 p2 p3).2 vR) H) (wA g 0 16) := by
  refine ofW_WRi (cc := cX5_strength) (maxL := 6) (ty := .int) (by decide +kernel) rfl (Nat.le_of_ble_eq_true rfl) ?_
  intro p e s m args below meth c Q hx hb hml hown hts hE hP hret ls hl
  have hown : s.vm.findClass RX5 = some m.cls := hown
  have hPR := hP
  have hA := wA.lo hg
  have hS : va_S (wA g 0 16) s.heap s.heap [] := va_S.rf
  obtain ⟨H, hH⟩ : ∃ z, z = s.heap := ⟨_, rfl⟩
  obtain ⟨locs, hlocs⟩ : ∃ z : List Loc, z = [] := ⟨_, rfl⟩
  have hPR : va_P D vwCl (cellR cI g sR vR) H := by rw [hH]; exact hPR
  have hS : va_S (wA g 0 16) s.heap H locs := by rw [hH, hlocs]; exact va_S.rf
  have gW : W p l e rm_R_strength s m args below meth c H locs 0 0 Q (F0 m 0 ls []) → W p l e rm_R_strength s m args below meth c s.heap [] 0 0 Q (F0 m 0 ls []) := by rw [hH, hlocs]; exact id
  refine gW ?_
  have hinR : ∀ w ∈ wsX50, w ∈ wsX5_strength := fun w h => List.mem_cons_of_mem _ (List.mem_append_right _ h)
  have hl : lv_has ls 6 [(0, .ref (g 0)), (1, .int p1), (2, .int p2), (3, .int p3)] := hl
  have nh0 := okR_lin h0
  have hM : (m_R_strength sR p1 p2 p3) = (m_R_strength sR p1 p2 p3) := rfl
  refine lv_aload_n hx hb dX5_strength_0 rfl (lv_at hl 0 rfl) ?_
  refine lv_iload_n hx hb dX5_strength_1 rfl (lv_at hl 1 rfl) ?_
  refine lv_iload_n hx hb dX5_strength_2 rfl (lv_at hl 2 rfl) ?_
  refine runS_i (va_runV (As := [.int p1, .int p2]) (rest := []) ⟨hx, hb, hml, hown, hts⟩ (K_R_isCell hg sR vR p1 p2) (cwV 2 hts gX5_strength_X5_isCell rfl rfl rfl (by decide +kernel) ⟨Nat.le_of_ble_eq_true rfl, Nat.le_of_ble_eq_true rfl⟩) (preV_of hE hA hS hPR (va_recv hE.1 hPR (ci := 5) (q0 := 0) rfl rfl)) rfl rfl hl.1 rfl (lv_room (Nat.le_of_ble_eq_true rfl)) dX5_strength_3 ⟨Nat.zero_le _, Nat.zero_le _⟩) ?_
  refine lv_if_eq (tgt := 19) hx hb dX5_strength_6 (by decide) (fun c_1 => ?_) (fun c_1 => ?_)
  · have hM := hM.trans (if_pos c_1)
    have t_1 := eq_t c_1
    rw [tl_0] at t_1
    refine lv_iconst (v := (-1)) hx hb dX5_strength_19 (by decide) ?_
    have hM : (m_R_strength sR p1 p2 p3) = (((-1), sR) : Int32 × St) := hM
    exact hret (-1) H locs _ ls (nr_i _) dX5_strength_20 (ret1 hM) (rP_v1 (P := fun (z0 : St) => va_P D vwCl (cellR cI g z0 vR) H) hM hPR) hS
  · have hM := hM.trans (if_neg c_1)
    have t_1 := ne_t c_1
    rw [tl_0] at t_1
    have u_1 := iscell_t c_1 (by omega) (by omega)
    refine lv_iload_n hx hb dX5_strength_9 rfl (lv_at hl 3 rfl) ?_
    refine lv_iconst (v := 1) hx hb dX5_strength_10 (by decide) ?_
    refine lv_bipush (v := 99) hx hb dX5_strength_11 (by decide) ?_
    refine runS_i (va_runS (As := [.int p3, .int 1, .int 99]) (rest := []) ⟨hx, hb, hml, hown, hts⟩ (K_R_in p3 1 99) (va_cwS 3 hts gX5_strength_X5_in rfl rfl rfl (by decide +kernel) ⟨Nat.le_of_ble_eq_true rfl, Nat.le_of_ble_eq_true rfl⟩) (preS_of hE hA hS trivial) rfl rfl hl.1 rfl (lv_room (Nat.le_of_ble_eq_true rfl)) dX5_strength_13 ⟨Nat.zero_le _, Nat.zero_le _⟩) ?_
    refine lv_if_ne (tgt := 21) hx hb dX5_strength_16 (by decide) (fun c_2 => ?_) (fun c_2 => ?_)
    · have hM := hM.trans (if_neg c_2)
      have t_2 := ne_t c_2
      rw [tl_0] at t_2
      have u_2 := in_t c_2
      rw [tl_1, tl_99] at u_2
      refine lv_iload_n hx hb dX5_strength_21 rfl (lv_at hl 1 rfl) ?_
      refine lv_aload_n hx hb dX5_strength_22 rfl (lv_at hl 0 rfl) ?_
      refine va_get (D := D) (ci := 5) (v := .int (sR 0 6)) (C := RX5) (T := TX5) (N := 33) hx hb hts hinR hown hE.1 hPR 0 rfl rfl 6 (by decide) (hts (.fieldLink RX5 23 "WallStonesModel" "width" "I") (List.mem_of_getElem? (i := 1) rfl)) (fun _ h9 => h9) rfl dX5_strength_23 ?_
      refine lv_iload_n hx hb dX5_strength_26 rfl (lv_at hl 2 rfl) ?_
      refine lv_imul hx hb dX5_strength_27 ?_
      refine lv_iadd hx hb dX5_strength_28 ?_
      refine lv_istore (lv' := [(4, .int (p1 + ((sR 0 6) * p2))), (0, .ref (g 0)), (1, .int p1), (2, .int p2), (3, .int p3)]) hx hb dX5_strength_29 hl (by decide) rfl (fun ls hl => ?_)
      refine lv_aload_n hx hb dX5_strength_31 rfl (lv_at hl 1 rfl) ?_
      refine va_get (D := D) (ci := 5) (v := .ref (g 4)) (C := RX5) (T := TX5) (N := 33) hx hb hts hinR hown hE.1 hPR 0 rfl rfl 8 (by decide) (hts (.fieldLink RX5 29 "WallStonesModel" "stands" "[I") (List.mem_of_getElem? (i := 2) rfl)) (fun _ h9 => h9) rfl dX5_strength_32 ?_
      refine lv_iload hx hb dX5_strength_35 (lv_at hl 0 rfl) ?_
      refine va_iald hx hb hE.1 hPR 4 0 rfl rfl (cell_in (s := sR) (by assumption) (by omega)) dX5_strength_37 ?_
      refine W.eq (g2 := F0 m 38 ls [.int (sR 9 (Int32.toNatClampNeg (p1 + ((sR 0 6) * p2))))]) rfl ?_
      refine lv_if_ne (tgt := 44) hx hb dX5_strength_38 (by decide) (fun c_3 => ?_) (fun c_3 => ?_)
      · have hM := hM.trans (if_neg c_3)
        have t_3 := ne_t c_3
        rw [tl_0] at t_3
        refine lv_aload_n hx hb dX5_strength_44 rfl (lv_at hl 1 rfl) ?_
        refine va_get (D := D) (ci := 5) (v := .ref (g 5)) (C := RX5) (T := TX5) (N := 33) hx hb hts hinR hown hE.1 hPR 0 rfl rfl 9 (by decide) (hts (.fieldLink RX5 32 "WallStonesModel" "strength" "[I") (List.mem_of_getElem? (i := 3) rfl)) (fun _ h9 => h9) rfl dX5_strength_45 ?_
        refine lv_iload hx hb dX5_strength_48 (lv_at hl 0 rfl) ?_
        refine va_iald hx hb hE.1 hPR 5 0 rfl rfl (cell_in (s := sR) (by assumption) (by omega)) dX5_strength_50 ?_
        refine W.eq (g2 := F0 m 51 ls [.int (sR 10 (Int32.toNatClampNeg (p1 + ((sR 0 6) * p2))))]) rfl ?_
        refine lv_istore (lv' := [(5, .int (sR 10 (Int32.toNatClampNeg (p1 + ((sR 0 6) * p2))))), (4, .int (p1 + ((sR 0 6) * p2))), (0, .ref (g 0)), (1, .int p1), (2, .int p2), (3, .int p3)]) hx hb dX5_strength_51 hl (by decide) rfl (fun ls hl => ?_)
        refine lv_aload_n hx hb dX5_strength_53 rfl (lv_at hl 2 rfl) ?_
        refine va_get (D := D) (ci := 5) (v := .ref (g 5)) (C := RX5) (T := TX5) (N := 33) hx hb hts hinR hown hE.1 hPR 0 rfl rfl 9 (by decide) (hts (.fieldLink RX5 32 "WallStonesModel" "strength" "[I") (List.mem_of_getElem? (i := 3) rfl)) (fun _ h9 => h9) rfl dX5_strength_54 ?_
        refine lv_iload hx hb dX5_strength_57 (lv_at hl 1 rfl) ?_
        refine lv_iload_n hx hb dX5_strength_59 rfl (lv_at hl 5 rfl) ?_
        refine va_iast hx hb hE.1 hPR (wD_of hg (c := 0) (n := 16) (by decide) (by decide) rfl) hS 5 0 rfl rfl (cell_in (s := sR) (by assumption) (by omega)) dX5_strength_60 (fun H locs hPn _ hS => ?_)
        have hPR : va_P D vwCl (cellR cI g (up sR 10 (Int32.toNatClampNeg (p1 + ((sR 0 6) * p2))) p3) vR) H := (congrArg (fun z => va_P D vwCl z H) setR_R10).mp hPn
        refine lv_iload hx hb dX5_strength_61 (lv_at hl 0 rfl) ?_
        have hM : (m_R_strength sR p1 p2 p3) = (((sR 10 (Int32.toNatClampNeg (p1 + ((sR 0 6) * p2)))), (up sR 10 (Int32.toNatClampNeg (p1 + ((sR 0 6) * p2))) p3)) : Int32 × St) := hM
        exact hret (sR 10 (Int32.toNatClampNeg (p1 + ((sR 0 6) * p2)))) H locs _ ls (nr_i _) dX5_strength_63 (ret1 hM) (rP_v1 (P := fun (z0 : St) => va_P D vwCl (cellR cI g z0 vR) H) hM hPR) hS
      · have hM := hM.trans (if_pos c_3)
        have t_3 := eq_t c_3
        rw [tl_0] at t_3
        refine lv_bipush (v := (-2)) hx hb dX5_strength_41 (by decide) ?_
        have hM : (m_R_strength sR p1 p2 p3) = (((-2), sR) : Int32 × St) := hM
        exact hret (-2) H locs _ ls (nr_i _) dX5_strength_43 (ret1 hM) (rP_v1 (P := fun (z0 : St) => va_P D vwCl (cellR cI g z0 vR) H) hM hPR) hS
    · have hM := hM.trans (if_pos c_2)
      have t_2 := eq_t c_2
      rw [tl_0] at t_2
      refine lv_iconst (v := (-1)) hx hb dX5_strength_19 (by decide) ?_
      have hM : (m_R_strength sR p1 p2 p3) = (((-1), sR) : Int32 × St) := hM
      exact hret (-1) H locs _ ls (nr_i _) dX5_strength_20 (ret1 hM) (rP_v1 (P := fun (z0 : St) => va_P D vwCl (cellR cI g z0 vR) H) hM hPR) hS
abbrev rm_R_prop : Room := { frames := 2, cells := 0, slots := 0, locals := 44 }
set_option maxHeartbeats 4000000 in
set_option maxRecDepth 100000 in
theorem K_R_prop {l : Launch} {D : va_G} {cI : ClassId} {lo : Nat} {g : Nat → Nat} (hg : wI g 0 16 lo) (sR : St) (vR : Int64) (p1 : Int32) (p2 : Int32) (h0 : okR sR) : WRi l D cI lo yX5_prop wsX5_prop rm_R_prop [.ref (g 0), .int p1, .int p2] (fun H => va_P D vwCl (cellR cI g sR vR) H) (m_R_prop sR p1 p2).1 (fun H => va_P D vwCl (cellR cI g (m_R_prop sR p1 p2).2 vR) H) (wA g 0 16) := by
  refine ofW_WRi (cc := cX5_prop) (maxL := 5) (ty := .int) (by decide +kernel) rfl (Nat.le_of_ble_eq_true rfl) ?_
  intro p e s m args below meth c Q hx hb hml hown hts hE hP hret ls hl
  have hown : s.vm.findClass RX5 = some m.cls := hown
  have hPR := hP
  have hA := wA.lo hg
  have hS : va_S (wA g 0 16) s.heap s.heap [] := va_S.rf
  obtain ⟨H, hH⟩ : ∃ z, z = s.heap := ⟨_, rfl⟩
  obtain ⟨locs, hlocs⟩ : ∃ z : List Loc, z = [] := ⟨_, rfl⟩
  have hPR : va_P D vwCl (cellR cI g sR vR) H := by rw [hH]; exact hPR
  have hS : va_S (wA g 0 16) s.heap H locs := by rw [hH, hlocs]; exact va_S.rf
  have gW : W p l e rm_R_prop s m args below meth c H locs 0 0 Q (F0 m 0 ls []) → W p l e rm_R_prop s m args below meth c s.heap [] 0 0 Q (F0 m 0 ls []) := by rw [hH, hlocs]; exact id
  refine gW ?_
  have hinR : ∀ w ∈ wsX50, w ∈ wsX5_prop := fun w h => List.mem_cons_of_mem _ (List.mem_append_right _ h)
  have hl : lv_has ls 5 [(0, .ref (g 0)), (1, .int p1), (2, .int p2)] := hl
  have nh0 := okR_lin h0
  have hM : (m_R_prop sR p1 p2) = (m_R_prop sR p1 p2) := rfl
  refine lv_aload_n hx hb dX5_prop_0 rfl (lv_at hl 0 rfl) ?_
  refine lv_iload_n hx hb dX5_prop_1 rfl (lv_at hl 1 rfl) ?_
  refine lv_iload_n hx hb dX5_prop_2 rfl (lv_at hl 2 rfl) ?_
  refine runS_i (va_runV (As := [.int p1, .int p2]) (rest := []) ⟨hx, hb, hml, hown, hts⟩ (K_R_isCell hg sR vR p1 p2) (cwV 2 hts gX5_prop_X5_isCell rfl rfl rfl (by decide +kernel) ⟨Nat.le_of_ble_eq_true rfl, Nat.le_of_ble_eq_true rfl⟩) (preV_of hE hA hS hPR (va_recv hE.1 hPR (ci := 5) (q0 := 0) rfl rfl)) rfl rfl hl.1 rfl (lv_room (Nat.le_of_ble_eq_true rfl)) dX5_prop_3 ⟨Nat.zero_le _, Nat.zero_le _⟩) ?_
  refine lv_if_ne (tgt := 11) hx hb dX5_prop_6 (by decide) (fun c_1 => ?_) (fun c_1 => ?_)
  · have hM := hM.trans (if_neg c_1)
    have t_1 := ne_t c_1
    rw [tl_0] at t_1
    have u_1 := iscell_t c_1 (by omega) (by omega)
    refine lv_iload_n hx hb dX5_prop_11 rfl (lv_at hl 1 rfl) ?_
    refine lv_aload_n hx hb dX5_prop_12 rfl (lv_at hl 0 rfl) ?_
    refine va_get (D := D) (ci := 5) (v := .int (sR 0 6)) (C := RX5) (T := TX5) (N := 33) hx hb hts hinR hown hE.1 hPR 0 rfl rfl 6 (by decide) (hts (.fieldLink RX5 23 "WallStonesModel" "width" "I") (List.mem_of_getElem? (i := 1) rfl)) (fun _ h9 => h9) rfl dX5_prop_13 ?_
    refine lv_iload_n hx hb dX5_prop_16 rfl (lv_at hl 2 rfl) ?_
    refine lv_imul hx hb dX5_prop_17 ?_
    refine lv_iadd hx hb dX5_prop_18 ?_
    refine lv_istore_n (lv' := [(3, .int (p1 + ((sR 0 6) * p2))), (0, .ref (g 0)), (1, .int p1), (2, .int p2)]) hx hb dX5_prop_19 rfl hl (by decide) rfl (fun ls hl => ?_)
    refine lv_aload_n hx hb dX5_prop_20 rfl (lv_at hl 1 rfl) ?_
    refine va_get (D := D) (ci := 5) (v := .ref (g 4)) (C := RX5) (T := TX5) (N := 33) hx hb hts hinR hown hE.1 hPR 0 rfl rfl 8 (by decide) (hts (.fieldLink RX5 29 "WallStonesModel" "stands" "[I") (List.mem_of_getElem? (i := 2) rfl)) (fun _ h9 => h9) rfl dX5_prop_21 ?_
    refine lv_iload_n hx hb dX5_prop_24 rfl (lv_at hl 0 rfl) ?_
    refine va_iald hx hb hE.1 hPR 4 0 rfl rfl (cell_in (s := sR) (by assumption) (by omega)) dX5_prop_25 ?_
    refine W.eq (g2 := F0 m 26 ls [.int (sR 9 (Int32.toNatClampNeg (p1 + ((sR 0 6) * p2))))]) rfl ?_
    refine lv_if_ne (tgt := 32) hx hb dX5_prop_26 (by decide) (fun c_2 => ?_) (fun c_2 => ?_)
    · have hM := hM.trans (if_neg c_2)
      have t_2 := ne_t c_2
      rw [tl_0] at t_2
      refine lv_aload_n hx hb dX5_prop_32 rfl (lv_at hl 1 rfl) ?_
      refine va_get (D := D) (ci := 5) (v := .ref (g 6)) (C := RX5) (T := TX5) (N := 33) hx hb hts hinR hown hE.1 hPR 0 rfl rfl 10 (by decide) (hts (.fieldLink RX5 35 "WallStonesModel" "propped" "[I") (List.mem_of_getElem? (i := 3) rfl)) (fun _ h9 => h9) rfl dX5_prop_33 ?_
      refine lv_iload_n hx hb dX5_prop_36 rfl (lv_at hl 0 rfl) ?_
      refine va_iald hx hb hE.1 hPR 6 0 rfl rfl (cell_in (s := sR) (by assumption) (by omega)) dX5_prop_37 ?_
      refine W.eq (g2 := F0 m 38 ls [.int (sR 11 (Int32.toNatClampNeg (p1 + ((sR 0 6) * p2))))]) rfl ?_
      refine lv_istore (lv' := [(4, .int (sR 11 (Int32.toNatClampNeg (p1 + ((sR 0 6) * p2))))), (3, .int (p1 + ((sR 0 6) * p2))), (0, .ref (g 0)), (1, .int p1), (2, .int p2)]) hx hb dX5_prop_38 hl (by decide) rfl (fun ls hl => ?_)
      refine lv_aload_n hx hb dX5_prop_40 rfl (lv_at hl 2 rfl) ?_
      refine va_get (D := D) (ci := 5) (v := .ref (g 6)) (C := RX5) (T := TX5) (N := 33) hx hb hts hinR hown hE.1 hPR 0 rfl rfl 10 (by decide) (hts (.fieldLink RX5 35 "WallStonesModel" "propped" "[I") (List.mem_of_getElem? (i := 3) rfl)) (fun _ h9 => h9) rfl dX5_prop_41 ?_
      refine lv_iload_n hx hb dX5_prop_44 rfl (lv_at hl 1 rfl) ?_
      refine lv_iconst (v := 1) hx hb dX5_prop_45 (by decide) ?_
      refine va_iast hx hb hE.1 hPR (wD_of hg (c := 0) (n := 16) (by decide) (by decide) rfl) hS 6 0 rfl rfl (cell_in (s := sR) (by assumption) (by omega)) dX5_prop_46 (fun H locs hPn _ hS => ?_)
      have hPR : va_P D vwCl (cellR cI g (up sR 11 (Int32.toNatClampNeg (p1 + ((sR 0 6) * p2))) 1) vR) H := (congrArg (fun z => va_P D vwCl z H) setR_R11).mp hPn
      refine lv_iload hx hb dX5_prop_47 (lv_at hl 0 rfl) ?_
      have hM : (m_R_prop sR p1 p2) = (((sR 11 (Int32.toNatClampNeg (p1 + ((sR 0 6) * p2)))), (up sR 11 (Int32.toNatClampNeg (p1 + ((sR 0 6) * p2))) 1)) : Int32 × St) := hM
      exact hret (sR 11 (Int32.toNatClampNeg (p1 + ((sR 0 6) * p2)))) H locs _ ls (nr_i _) dX5_prop_49 (ret1 hM) (rP_v1 (P := fun (z0 : St) => va_P D vwCl (cellR cI g z0 vR) H) hM hPR) hS
    · have hM := hM.trans (if_pos c_2)
      have t_2 := eq_t c_2
      rw [tl_0] at t_2
      refine lv_bipush (v := (-2)) hx hb dX5_prop_29 (by decide) ?_
      have hM : (m_R_prop sR p1 p2) = (((-2), sR) : Int32 × St) := hM
      exact hret (-2) H locs _ ls (nr_i _) dX5_prop_31 (ret1 hM) (rP_v1 (P := fun (z0 : St) => va_P D vwCl (cellR cI g z0 vR) H) hM hPR) hS
  · have hM := hM.trans (if_pos c_1)
    have t_1 := eq_t c_1
    rw [tl_0] at t_1
    refine lv_iconst (v := (-1)) hx hb dX5_prop_9 (by decide) ?_
    have hM : (m_R_prop sR p1 p2) = (((-1), sR) : Int32 × St) := hM
    exact hret (-1) H locs _ ls (nr_i _) dX5_prop_10 (ret1 hM) (rP_v1 (P := fun (z0 : St) => va_P D vwCl (cellR cI g z0 vR) H) hM hPR) hS
abbrev rm_R_keep : Room := { frames := 0, cells := 0, slots := 0, locals := 0 }
set_option maxHeartbeats 4000000 in
set_option maxRecDepth 100000 in
theorem K_R_keep {l : Launch} {D : va_G} {cI : ClassId} {lo : Nat} {g : Nat → Nat} (hg : wI g 0 16 lo) (sR : St) (vR : Int64) : WRv l D cI lo yX5_keep wsX5_keep rm_R_keep [.ref (g 0)] (fun H => va_P D vwCl (cellR cI g sR vR) H) (fun H => va_P D vwCl (cellR cI g (m_R_keep sR) vR) H) (wA g 0 16) := by
  refine ofW_WRv (cc := cX5_keep) (maxL := 2) (by decide +kernel) rfl (Nat.le_of_ble_eq_true rfl) ?_
  intro p e s m args below meth c Q hx hb hml hown hts hE hP hret ls hl
  have hown : s.vm.findClass RX5 = some m.cls := hown
  have hPR := hP
  have hA := wA.lo hg
  have hS : va_S (wA g 0 16) s.heap s.heap [] := va_S.rf
  obtain ⟨H, hH⟩ : ∃ z, z = s.heap := ⟨_, rfl⟩
  obtain ⟨locs, hlocs⟩ : ∃ z : List Loc, z = [] := ⟨_, rfl⟩
  have hPR : va_P D vwCl (cellR cI g sR vR) H := by rw [hH]; exact hPR
  have hS : va_S (wA g 0 16) s.heap H locs := by rw [hH, hlocs]; exact va_S.rf
  have gW : W p l e rm_R_keep s m args below meth c H locs 0 0 Q (F0 m 0 ls []) → W p l e rm_R_keep s m args below meth c s.heap [] 0 0 Q (F0 m 0 ls []) := by rw [hH, hlocs]; exact id
  refine gW ?_
  have hinR : ∀ w ∈ wsX50, w ∈ wsX5_keep := fun w h => List.mem_cons_of_mem _ (List.mem_append_right _ h)
  have hl : lv_has ls 2 [(0, .ref (g 0))] := hl
  have L_2 : ∀ (n : Nat) (sR_2 : St) (x1_2 : Int32) (H : Heap) (locs : List Loc) (ls : Array Slot), 0 ≤ x1_2.toInt ∧ x1_2.toInt ≤ 48 → (48 - x1_2.toInt).toNat < n → va_P D vwCl (cellR cI g sR_2 vR) H → va_S (wA g 0 16) s.heap H locs → lv_has ls 2 [(0, .ref (g 0)), (1, .int x1_2)] → (∀ (H : Heap) (locs : List Loc) (ls : Array Slot), va_P D vwCl (cellR cI g (wl g_R_keep_2 n (sR_2, x1_2)).1 vR) H → va_S (wA g 0 16) s.heap H locs → lv_has ls 2 [] → W p l e rm_R_keep s m args below meth c H locs 0 0 Q (F0 m 50 ls [])) → W p l e rm_R_keep s m args below meth c H locs 0 0 Q (F0 m 2 ls []) := by
    intro n
    induction n with
    | zero =>
      intro sR_2 x1_2 H locs ls i2_0 hn2 hPR hS hl kk
      exact absurd hn2 (Nat.not_lt_zero _)
    | succ n ih =>
      intro sR_2 x1_2 H locs ls i2_0 hn2 hPR hS hl kk
      have hM : g_R_keep_2 (sR_2, x1_2) = g_R_keep_2 (sR_2, x1_2) := rfl
      refine lv_iload_n hx hb dX5_keep_2 rfl (lv_at hl 1 rfl) ?_
      refine lv_bipush (v := 48) hx hb dX5_keep_3 (by decide) ?_
      refine lv_icmp_ge (tgt := 50) hx hb dX5_keep_5 (by decide) (fun c_1 => ?_) (fun c_1 => ?_)
      · have hM := hM.trans (if_pos c_1)
        have t_1 := le_t c_1
        rw [tl_48] at t_1
        rw [wl_none hM] at kk
        exact kk H locs ls hPR hS (lv_sub hl [] rfl)
      · have hM := hM.trans (if_neg c_1)
        have t_1 := nle_t c_1
        rw [tl_48] at t_1
        refine lv_aload_n hx hb dX5_keep_8 rfl (lv_at hl 0 rfl) ?_
        refine va_get (D := D) (ci := 5) (v := .ref (g 11)) (C := RX5) (T := TX5) (N := 33) hx hb hts hinR hown hE.1 hPR 0 rfl rfl 28 (by decide) (hts (.fieldLink RX5 53 "WallStonesModel" "keptStands" "[I") (List.mem_of_getElem? (i := 1) rfl)) (fun _ h9 => h9) rfl dX5_keep_9 ?_
        refine lv_iload_n hx hb dX5_keep_12 rfl (lv_at hl 1 rfl) ?_
        refine lv_aload_n hx hb dX5_keep_13 rfl (lv_at hl 0 rfl) ?_
        refine va_get (D := D) (ci := 5) (v := .ref (g 4)) (C := RX5) (T := TX5) (N := 33) hx hb hts hinR hown hE.1 hPR 0 rfl rfl 8 (by decide) (hts (.fieldLink RX5 29 "WallStonesModel" "stands" "[I") (List.mem_of_getElem? (i := 2) rfl)) (fun _ h9 => h9) rfl dX5_keep_14 ?_
        refine lv_iload_n hx hb dX5_keep_17 rfl (lv_at hl 1 rfl) ?_
        refine va_iald hx hb hE.1 hPR 4 0 rfl rfl (vp_in_iff.mpr (by omega)) dX5_keep_18 ?_
        refine W.eq (g2 := F0 m 19 ls [.int (sR_2 9 (Int32.toNatClampNeg x1_2)), .int x1_2, .ref (g 11)]) rfl ?_
        refine va_iast hx hb hE.1 hPR (wD_of hg (c := 0) (n := 16) (by decide) (by decide) rfl) hS 11 0 rfl rfl (vp_in_iff.mpr (by omega)) dX5_keep_19 (fun H locs hPn _ hS => ?_)
        have hPR : va_P D vwCl (cellR cI g (up sR_2 29 (Int32.toNatClampNeg x1_2) (sR_2 9 (Int32.toNatClampNeg x1_2))) vR) H := (congrArg (fun z => va_P D vwCl z H) setR_R29).mp hPn
        refine lv_aload_n hx hb dX5_keep_20 rfl (lv_at hl 0 rfl) ?_
        refine va_get (D := D) (ci := 5) (v := .ref (g 12)) (C := RX5) (T := TX5) (N := 33) hx hb hts hinR hown hE.1 hPR 0 rfl rfl 29 (by decide) (hts (.fieldLink RX5 56 "WallStonesModel" "keptStrength" "[I") (List.mem_of_getElem? (i := 3) rfl)) (fun _ h9 => h9) rfl dX5_keep_21 ?_
        refine lv_iload_n hx hb dX5_keep_24 rfl (lv_at hl 1 rfl) ?_
        refine lv_aload_n hx hb dX5_keep_25 rfl (lv_at hl 0 rfl) ?_
        refine va_get (D := D) (ci := 5) (v := .ref (g 5)) (C := RX5) (T := TX5) (N := 33) hx hb hts hinR hown hE.1 hPR 0 rfl rfl 9 (by decide) (hts (.fieldLink RX5 32 "WallStonesModel" "strength" "[I") (List.mem_of_getElem? (i := 4) rfl)) (fun _ h9 => h9) rfl dX5_keep_26 ?_
        refine lv_iload_n hx hb dX5_keep_29 rfl (lv_at hl 1 rfl) ?_
        refine va_iald hx hb hE.1 hPR 5 0 rfl rfl (vp_in_iff.mpr (by omega)) dX5_keep_30 ?_
        refine W.eq (g2 := F0 m 31 ls [.int (sR_2 10 (Int32.toNatClampNeg x1_2)), .int x1_2, .ref (g 12)]) rfl ?_
        refine va_iast hx hb hE.1 hPR (wD_of hg (c := 0) (n := 16) (by decide) (by decide) rfl) hS 12 0 rfl rfl (vp_in_iff.mpr (by omega)) dX5_keep_31 (fun H locs hPn _ hS => ?_)
        have hPR : va_P D vwCl (cellR cI g (up (up sR_2 29 (Int32.toNatClampNeg x1_2) (sR_2 9 (Int32.toNatClampNeg x1_2))) 30 (Int32.toNatClampNeg x1_2) (sR_2 10 (Int32.toNatClampNeg x1_2))) vR) H := (congrArg (fun z => va_P D vwCl z H) setR_R30).mp hPn
        refine lv_aload_n hx hb dX5_keep_32 rfl (lv_at hl 0 rfl) ?_
        refine va_get (D := D) (ci := 5) (v := .ref (g 13)) (C := RX5) (T := TX5) (N := 33) hx hb hts hinR hown hE.1 hPR 0 rfl rfl 30 (by decide) (hts (.fieldLink RX5 59 "WallStonesModel" "keptPropped" "[I") (List.mem_of_getElem? (i := 5) rfl)) (fun _ h9 => h9) rfl dX5_keep_33 ?_
        refine lv_iload_n hx hb dX5_keep_36 rfl (lv_at hl 1 rfl) ?_
        refine lv_aload_n hx hb dX5_keep_37 rfl (lv_at hl 0 rfl) ?_
        refine va_get (D := D) (ci := 5) (v := .ref (g 6)) (C := RX5) (T := TX5) (N := 33) hx hb hts hinR hown hE.1 hPR 0 rfl rfl 10 (by decide) (hts (.fieldLink RX5 35 "WallStonesModel" "propped" "[I") (List.mem_of_getElem? (i := 6) rfl)) (fun _ h9 => h9) rfl dX5_keep_38 ?_
        refine lv_iload_n hx hb dX5_keep_41 rfl (lv_at hl 1 rfl) ?_
        refine va_iald hx hb hE.1 hPR 6 0 rfl rfl (vp_in_iff.mpr (by omega)) dX5_keep_42 ?_
        refine W.eq (g2 := F0 m 43 ls [.int (sR_2 11 (Int32.toNatClampNeg x1_2)), .int x1_2, .ref (g 13)]) rfl ?_
        refine va_iast hx hb hE.1 hPR (wD_of hg (c := 0) (n := 16) (by decide) (by decide) rfl) hS 13 0 rfl rfl (vp_in_iff.mpr (by omega)) dX5_keep_43 (fun H locs hPn _ hS => ?_)
        have hPR : va_P D vwCl (cellR cI g (up (up (up sR_2 29 (Int32.toNatClampNeg x1_2) (sR_2 9 (Int32.toNatClampNeg x1_2))) 30 (Int32.toNatClampNeg x1_2) (sR_2 10 (Int32.toNatClampNeg x1_2))) 31 (Int32.toNatClampNeg x1_2) (sR_2 11 (Int32.toNatClampNeg x1_2))) vR) H := (congrArg (fun z => va_P D vwCl z H) setR_R31).mp hPn
        refine lv_iinc (v := (x1_2 + 1)) (lv' := [(1, .int (x1_2 + 1)), (0, .ref (g 0))]) hx hb dX5_keep_44 hl (k := 1) rfl rfl (by decide) rfl (fun ls hl => ?_)
        refine lv_goto (tgt := 2) hx hb dX5_keep_47 (by decide) ?_
        have := t_inc (x := x1_2) (by omega)
        rw [wl_some hM] at kk
        exact ih (up (up (up sR_2 29 (Int32.toNatClampNeg x1_2) (sR_2 9 (Int32.toNatClampNeg x1_2))) 30 (Int32.toNatClampNeg x1_2) (sR_2 10 (Int32.toNatClampNeg x1_2))) 31 (Int32.toNatClampNeg x1_2) (sR_2 11 (Int32.toNatClampNeg x1_2))) (x1_2 + 1) H locs ls (by omega) (by omega) hPR hS (lv_sub hl [1, 0] rfl) kk
  have J_50 : ∀ (sR_50 : St) (H : Heap) (locs : List Loc) (ls : Array Slot), va_P D vwCl (cellR cI g sR_50 vR) H → va_S (wA g 0 16) s.heap H locs → lv_has ls 2 [] → (m_R_keep sR) = b_R_keep_50 sR_50 → W p l e rm_R_keep s m args below meth c H locs 0 0 Q (F0 m 50 ls []) := by
    intro sR_50 H locs ls hPR hS hl hM
    have hM : (m_R_keep sR) = (sR_50 : St) := hM
    exact hret H locs _ ls dX5_keep_50 (rP_s1 (P := fun (z0 : St) => va_P D vwCl (cellR cI g z0 vR) H) hM hPR) hS
  have hM : (m_R_keep sR) = (m_R_keep sR) := rfl
  refine lv_iconst (v := 0) hx hb dX5_keep_0 (by decide) ?_
  refine lv_istore_n (lv' := [(1, .int 0), (0, .ref (g 0))]) hx hb dX5_keep_1 rfl hl (by decide) rfl (fun ls hl => ?_)
  have z2 := tl_0
  refine L_2 49 sR 0 H locs ls (by omega) (by omega) hPR hS (lv_sub hl [1, 0] rfl) (fun H locs ls hPR hS hl => ?_)
  exact J_50 (wl g_R_keep_2 49 (sR, 0)).1 H locs ls hPR hS (lv_sub hl [] rfl) hM
abbrev rm_R_giveBack : Room := { frames := 0, cells := 0, slots := 0, locals := 0 }
set_option maxHeartbeats 4000000 in
set_option maxRecDepth 100000 in
theorem K_R_giveBack {l : Launch} {D : va_G} {cI : ClassId} {lo : Nat} {g : Nat → Nat} (hg : wI g 0 16 lo) (sR : St) (vR : Int64) : WRv l D cI lo yX5_giveBack wsX5_giveBack rm_R_giveBack [.ref (g 0)] (fun H => va_P D vwCl (cellR cI g sR vR) H) (fun H => va_P D vwCl (cellR cI g (m_R_giveBack sR) vR) H) (wA g 0 16) := by
  refine ofW_WRv (cc := cX5_giveBack) (maxL := 2) (by decide +kernel) rfl (Nat.le_of_ble_eq_true rfl) ?_
  intro p e s m args below meth c Q hx hb hml hown hts hE hP hret ls hl
  have hown : s.vm.findClass RX5 = some m.cls := hown
  have hPR := hP
  have hA := wA.lo hg
  have hS : va_S (wA g 0 16) s.heap s.heap [] := va_S.rf
  obtain ⟨H, hH⟩ : ∃ z, z = s.heap := ⟨_, rfl⟩
  obtain ⟨locs, hlocs⟩ : ∃ z : List Loc, z = [] := ⟨_, rfl⟩
  have hPR : va_P D vwCl (cellR cI g sR vR) H := by rw [hH]; exact hPR
  have hS : va_S (wA g 0 16) s.heap H locs := by rw [hH, hlocs]; exact va_S.rf
  have gW : W p l e rm_R_giveBack s m args below meth c H locs 0 0 Q (F0 m 0 ls []) → W p l e rm_R_giveBack s m args below meth c s.heap [] 0 0 Q (F0 m 0 ls []) := by rw [hH, hlocs]; exact id
  refine gW ?_
  have hinR : ∀ w ∈ wsX50, w ∈ wsX5_giveBack := fun w h => List.mem_cons_of_mem _ (List.mem_append_right _ h)
  have hl : lv_has ls 2 [(0, .ref (g 0))] := hl
  have L_2 : ∀ (n : Nat) (sR_2 : St) (x1_2 : Int32) (H : Heap) (locs : List Loc) (ls : Array Slot), 0 ≤ x1_2.toInt ∧ x1_2.toInt ≤ 48 → (48 - x1_2.toInt).toNat < n → va_P D vwCl (cellR cI g sR_2 vR) H → va_S (wA g 0 16) s.heap H locs → lv_has ls 2 [(0, .ref (g 0)), (1, .int x1_2)] → (∀ (H : Heap) (locs : List Loc) (ls : Array Slot), va_P D vwCl (cellR cI g (wl g_R_giveBack_2 n (sR_2, x1_2)).1 vR) H → va_S (wA g 0 16) s.heap H locs → lv_has ls 2 [] → W p l e rm_R_giveBack s m args below meth c H locs 0 0 Q (F0 m 50 ls [])) → W p l e rm_R_giveBack s m args below meth c H locs 0 0 Q (F0 m 2 ls []) := by
    intro n
    induction n with
    | zero =>
      intro sR_2 x1_2 H locs ls i2_0 hn2 hPR hS hl kk
      exact absurd hn2 (Nat.not_lt_zero _)
    | succ n ih =>
      intro sR_2 x1_2 H locs ls i2_0 hn2 hPR hS hl kk
      have hM : g_R_giveBack_2 (sR_2, x1_2) = g_R_giveBack_2 (sR_2, x1_2) := rfl
      refine lv_iload_n hx hb dX5_giveBack_2 rfl (lv_at hl 1 rfl) ?_
      refine lv_bipush (v := 48) hx hb dX5_giveBack_3 (by decide) ?_
      refine lv_icmp_ge (tgt := 50) hx hb dX5_giveBack_5 (by decide) (fun c_1 => ?_) (fun c_1 => ?_)
      · have hM := hM.trans (if_pos c_1)
        have t_1 := le_t c_1
        rw [tl_48] at t_1
        rw [wl_none hM] at kk
        exact kk H locs ls hPR hS (lv_sub hl [] rfl)
      · have hM := hM.trans (if_neg c_1)
        have t_1 := nle_t c_1
        rw [tl_48] at t_1
        refine lv_aload_n hx hb dX5_giveBack_8 rfl (lv_at hl 0 rfl) ?_
        refine va_get (D := D) (ci := 5) (v := .ref (g 4)) (C := RX5) (T := TX5) (N := 33) hx hb hts hinR hown hE.1 hPR 0 rfl rfl 8 (by decide) (hts (.fieldLink RX5 29 "WallStonesModel" "stands" "[I") (List.mem_of_getElem? (i := 1) rfl)) (fun _ h9 => h9) rfl dX5_giveBack_9 ?_
        refine lv_iload_n hx hb dX5_giveBack_12 rfl (lv_at hl 1 rfl) ?_
        refine lv_aload_n hx hb dX5_giveBack_13 rfl (lv_at hl 0 rfl) ?_
        refine va_get (D := D) (ci := 5) (v := .ref (g 11)) (C := RX5) (T := TX5) (N := 33) hx hb hts hinR hown hE.1 hPR 0 rfl rfl 28 (by decide) (hts (.fieldLink RX5 53 "WallStonesModel" "keptStands" "[I") (List.mem_of_getElem? (i := 2) rfl)) (fun _ h9 => h9) rfl dX5_giveBack_14 ?_
        refine lv_iload_n hx hb dX5_giveBack_17 rfl (lv_at hl 1 rfl) ?_
        refine va_iald hx hb hE.1 hPR 11 0 rfl rfl (vp_in_iff.mpr (by omega)) dX5_giveBack_18 ?_
        refine W.eq (g2 := F0 m 19 ls [.int (sR_2 29 (Int32.toNatClampNeg x1_2)), .int x1_2, .ref (g 4)]) rfl ?_
        refine va_iast hx hb hE.1 hPR (wD_of hg (c := 0) (n := 16) (by decide) (by decide) rfl) hS 4 0 rfl rfl (vp_in_iff.mpr (by omega)) dX5_giveBack_19 (fun H locs hPn _ hS => ?_)
        have hPR : va_P D vwCl (cellR cI g (up sR_2 9 (Int32.toNatClampNeg x1_2) (sR_2 29 (Int32.toNatClampNeg x1_2))) vR) H := (congrArg (fun z => va_P D vwCl z H) setR_R9).mp hPn
        refine lv_aload_n hx hb dX5_giveBack_20 rfl (lv_at hl 0 rfl) ?_
        refine va_get (D := D) (ci := 5) (v := .ref (g 5)) (C := RX5) (T := TX5) (N := 33) hx hb hts hinR hown hE.1 hPR 0 rfl rfl 9 (by decide) (hts (.fieldLink RX5 32 "WallStonesModel" "strength" "[I") (List.mem_of_getElem? (i := 3) rfl)) (fun _ h9 => h9) rfl dX5_giveBack_21 ?_
        refine lv_iload_n hx hb dX5_giveBack_24 rfl (lv_at hl 1 rfl) ?_
        refine lv_aload_n hx hb dX5_giveBack_25 rfl (lv_at hl 0 rfl) ?_
        refine va_get (D := D) (ci := 5) (v := .ref (g 12)) (C := RX5) (T := TX5) (N := 33) hx hb hts hinR hown hE.1 hPR 0 rfl rfl 29 (by decide) (hts (.fieldLink RX5 56 "WallStonesModel" "keptStrength" "[I") (List.mem_of_getElem? (i := 4) rfl)) (fun _ h9 => h9) rfl dX5_giveBack_26 ?_
        refine lv_iload_n hx hb dX5_giveBack_29 rfl (lv_at hl 1 rfl) ?_
        refine va_iald hx hb hE.1 hPR 12 0 rfl rfl (vp_in_iff.mpr (by omega)) dX5_giveBack_30 ?_
        refine W.eq (g2 := F0 m 31 ls [.int (sR_2 30 (Int32.toNatClampNeg x1_2)), .int x1_2, .ref (g 5)]) rfl ?_
        refine va_iast hx hb hE.1 hPR (wD_of hg (c := 0) (n := 16) (by decide) (by decide) rfl) hS 5 0 rfl rfl (vp_in_iff.mpr (by omega)) dX5_giveBack_31 (fun H locs hPn _ hS => ?_)
        have hPR : va_P D vwCl (cellR cI g (up (up sR_2 9 (Int32.toNatClampNeg x1_2) (sR_2 29 (Int32.toNatClampNeg x1_2))) 10 (Int32.toNatClampNeg x1_2) (sR_2 30 (Int32.toNatClampNeg x1_2))) vR) H := (congrArg (fun z => va_P D vwCl z H) setR_R10).mp hPn
        refine lv_aload_n hx hb dX5_giveBack_32 rfl (lv_at hl 0 rfl) ?_
        refine va_get (D := D) (ci := 5) (v := .ref (g 6)) (C := RX5) (T := TX5) (N := 33) hx hb hts hinR hown hE.1 hPR 0 rfl rfl 10 (by decide) (hts (.fieldLink RX5 35 "WallStonesModel" "propped" "[I") (List.mem_of_getElem? (i := 5) rfl)) (fun _ h9 => h9) rfl dX5_giveBack_33 ?_
        refine lv_iload_n hx hb dX5_giveBack_36 rfl (lv_at hl 1 rfl) ?_
        refine lv_aload_n hx hb dX5_giveBack_37 rfl (lv_at hl 0 rfl) ?_
        refine va_get (D := D) (ci := 5) (v := .ref (g 13)) (C := RX5) (T := TX5) (N := 33) hx hb hts hinR hown hE.1 hPR 0 rfl rfl 30 (by decide) (hts (.fieldLink RX5 59 "WallStonesModel" "keptPropped" "[I") (List.mem_of_getElem? (i := 6) rfl)) (fun _ h9 => h9) rfl dX5_giveBack_38 ?_
        refine lv_iload_n hx hb dX5_giveBack_41 rfl (lv_at hl 1 rfl) ?_
        refine va_iald hx hb hE.1 hPR 13 0 rfl rfl (vp_in_iff.mpr (by omega)) dX5_giveBack_42 ?_
        refine W.eq (g2 := F0 m 43 ls [.int (sR_2 31 (Int32.toNatClampNeg x1_2)), .int x1_2, .ref (g 6)]) rfl ?_
        refine va_iast hx hb hE.1 hPR (wD_of hg (c := 0) (n := 16) (by decide) (by decide) rfl) hS 6 0 rfl rfl (vp_in_iff.mpr (by omega)) dX5_giveBack_43 (fun H locs hPn _ hS => ?_)
        have hPR : va_P D vwCl (cellR cI g (up (up (up sR_2 9 (Int32.toNatClampNeg x1_2) (sR_2 29 (Int32.toNatClampNeg x1_2))) 10 (Int32.toNatClampNeg x1_2) (sR_2 30 (Int32.toNatClampNeg x1_2))) 11 (Int32.toNatClampNeg x1_2) (sR_2 31 (Int32.toNatClampNeg x1_2))) vR) H := (congrArg (fun z => va_P D vwCl z H) setR_R11).mp hPn
        refine lv_iinc (v := (x1_2 + 1)) (lv' := [(1, .int (x1_2 + 1)), (0, .ref (g 0))]) hx hb dX5_giveBack_44 hl (k := 1) rfl rfl (by decide) rfl (fun ls hl => ?_)
        refine lv_goto (tgt := 2) hx hb dX5_giveBack_47 (by decide) ?_
        have := t_inc (x := x1_2) (by omega)
        rw [wl_some hM] at kk
        exact ih (up (up (up sR_2 9 (Int32.toNatClampNeg x1_2) (sR_2 29 (Int32.toNatClampNeg x1_2))) 10 (Int32.toNatClampNeg x1_2) (sR_2 30 (Int32.toNatClampNeg x1_2))) 11 (Int32.toNatClampNeg x1_2) (sR_2 31 (Int32.toNatClampNeg x1_2))) (x1_2 + 1) H locs ls (by omega) (by omega) hPR hS (lv_sub hl [1, 0] rfl) kk
  have J_50 : ∀ (sR_50 : St) (H : Heap) (locs : List Loc) (ls : Array Slot), va_P D vwCl (cellR cI g sR_50 vR) H → va_S (wA g 0 16) s.heap H locs → lv_has ls 2 [] → (m_R_giveBack sR) = b_R_giveBack_50 sR_50 → W p l e rm_R_giveBack s m args below meth c H locs 0 0 Q (F0 m 50 ls []) := by
    intro sR_50 H locs ls hPR hS hl hM
    have hM : (m_R_giveBack sR) = (sR_50 : St) := hM
    exact hret H locs _ ls dX5_giveBack_50 (rP_s1 (P := fun (z0 : St) => va_P D vwCl (cellR cI g z0 vR) H) hM hPR) hS
  have hM : (m_R_giveBack sR) = (m_R_giveBack sR) := rfl
  refine lv_iconst (v := 0) hx hb dX5_giveBack_0 (by decide) ?_
  refine lv_istore_n (lv' := [(1, .int 0), (0, .ref (g 0))]) hx hb dX5_giveBack_1 rfl hl (by decide) rfl (fun ls hl => ?_)
  have z2 := tl_0
  refine L_2 49 sR 0 H locs ls (by omega) (by omega) hPR hS (lv_sub hl [1, 0] rfl) (fun H locs ls hPR hS hl => ?_)
  exact J_50 (wl g_R_giveBack_2 49 (sR, 0)).1 H locs ls hPR hS (lv_sub hl [] rfl) hM
abbrev rm_R_strike : Room := { frames := 2, cells := 0, slots := 0, locals := 44 }
set_option maxHeartbeats 4000000 in
set_option maxRecDepth 100000 in
theorem K_R_strike {l : Launch} {D : va_G} {cI : ClassId} {lo : Nat} {g : Nat → Nat} (hg : wI g 0 16 lo) (sR : St) (vR : Int64) (p1 : Int32) (p2 : Int32) (p3 : Int32) (h0 : okR sR) : WRi l D cI lo yX5_strike wsX5_strike rm_R_strike [.ref (g 0), .int p1, .int p2, .int p3] (fun H => va_P D vwCl (cellR cI g sR vR) H) (m_R_strike sR p1 p2 p3).1 (fun H => va_P D vwCl (cellR cI g (m_R_strike sR p1 p2 p3).2 vR) H) (wA g 0 16) := by
  refine ofW_WRi (cc := cX5_strike) (maxL := 8) (ty := .int) (by decide +kernel) rfl (Nat.le_of_ble_eq_true rfl) ?_
  intro p e s m args below meth c Q hx hb hml hown hts hE hP hret ls hl
  have hown : s.vm.findClass RX5 = some m.cls := hown
  have hPR := hP
  have hA := wA.lo hg
  have hS : va_S (wA g 0 16) s.heap s.heap [] := va_S.rf
  obtain ⟨H, hH⟩ : ∃ z, z = s.heap := ⟨_, rfl⟩
  obtain ⟨locs, hlocs⟩ : ∃ z : List Loc, z = [] := ⟨_, rfl⟩
  have hPR : va_P D vwCl (cellR cI g sR vR) H := by rw [hH]; exact hPR
  have hS : va_S (wA g 0 16) s.heap H locs := by rw [hH, hlocs]; exact va_S.rf
  have gW : W p l e rm_R_strike s m args below meth c H locs 0 0 Q (F0 m 0 ls []) → W p l e rm_R_strike s m args below meth c s.heap [] 0 0 Q (F0 m 0 ls []) := by rw [hH, hlocs]; exact id
  refine gW ?_
  have hinR : ∀ w ∈ wsX50, w ∈ wsX5_strike := fun w h => List.mem_cons_of_mem _ (List.mem_append_right _ h)
  have hl : lv_has ls 8 [(0, .ref (g 0)), (1, .int p1), (2, .int p2), (3, .int p3)] := hl
  have nh0 := okR_lin h0
  have L_83 : ∀ (n : Nat) (sR_83 : St) (x5_83 : Int32) (x6_83 : Int32) (H : Heap) (locs : List Loc) (ls : Array Slot), 1 ≤ x6_83.toInt ∧ x6_83.toInt ≤ (sR_83 0 7).toInt → okR sR_83 → 0 ≤ p1.toInt ∧ p1.toInt < (sR_83 0 6).toInt → ((sR_83 0 7).toInt - x6_83.toInt).toNat < n → va_P D vwCl (cellR cI g sR_83 vR) H → va_S (wA g 0 16) s.heap H locs → lv_has ls 8 [(0, .ref (g 0)), (1, .int p1), (5, .int x5_83), (6, .int x6_83)] → (∀ (H : Heap) (locs : List Loc) (ls : Array Slot), 1 ≤ (wl (g_R_strike_83 p1) n (sR_83, x5_83, x6_83)).2.2.toInt ∧ (wl (g_R_strike_83 p1) n (sR_83, x5_83, x6_83)).2.2.toInt ≤ ((wl (g_R_strike_83 p1) n (sR_83, x5_83, x6_83)).1 0 7).toInt → okR (wl (g_R_strike_83 p1) n (sR_83, x5_83, x6_83)).1 → 0 ≤ p1.toInt ∧ p1.toInt < ((wl (g_R_strike_83 p1) n (sR_83, x5_83, x6_83)).1 0 6).toInt → va_P D vwCl (cellR cI g (wl (g_R_strike_83 p1) n (sR_83, x5_83, x6_83)).1 vR) H → va_S (wA g 0 16) s.heap H locs → lv_has ls 8 [(5, .int (wl (g_R_strike_83 p1) n (sR_83, x5_83, x6_83)).2.1)] → W p l e rm_R_strike s m args below meth c H locs 0 0 Q (F0 m 156 ls [])) → W p l e rm_R_strike s m args below meth c H locs 0 0 Q (F0 m 83 ls []) := by
    intro n
    induction n with
    | zero =>
      intro sR_83 x5_83 x6_83 H locs ls i83_0 i83_1 i83_2 hn83 hPR hS hl kk
      exact absurd hn83 (Nat.not_lt_zero _)
    | succ n ih =>
      intro sR_83 x5_83 x6_83 H locs ls i83_0 i83_1 i83_2 hn83 hPR hS hl kk
      have ni83_1 := okR_lin i83_1
      have hM : (g_R_strike_83 p1) (sR_83, x5_83, x6_83) = (g_R_strike_83 p1) (sR_83, x5_83, x6_83) := rfl
      refine lv_iload hx hb dX5_strike_83 (lv_at hl 3 rfl) ?_
      refine lv_aload_n hx hb dX5_strike_85 rfl (lv_at hl 0 rfl) ?_
      refine va_get (D := D) (ci := 5) (v := .int (sR_83 0 7)) (C := RX5) (T := TX5) (N := 33) hx hb hts hinR hown hE.1 hPR 0 rfl rfl 7 (by decide) (hts (.fieldLink RX5 26 "WallStonesModel" "height" "I") (List.mem_of_getElem? (i := 5) rfl)) (fun _ h9 => h9) rfl dX5_strike_86 ?_
      refine lv_icmp_ge (tgt := 156) hx hb dX5_strike_89 (by decide) (fun c_1 => ?_) (fun c_1 => ?_)
      · have hM := hM.trans (if_pos c_1)
        have t_1 := le_t c_1
        rw [wl_none hM] at kk
        try dsimp only at kk
        exact kk H locs ls (by omega) (by assumption) (by omega) hPR hS (lv_sub hl [2] rfl)
      · have hM := hM.trans (if_neg c_1)
        have t_1 := nle_t c_1
        refine lv_iload_n hx hb dX5_strike_92 rfl (lv_at hl 1 rfl) ?_
        refine lv_aload_n hx hb dX5_strike_93 rfl (lv_at hl 0 rfl) ?_
        refine va_get (D := D) (ci := 5) (v := .int (sR_83 0 6)) (C := RX5) (T := TX5) (N := 33) hx hb hts hinR hown hE.1 hPR 0 rfl rfl 6 (by decide) (hts (.fieldLink RX5 23 "WallStonesModel" "width" "I") (List.mem_of_getElem? (i := 2) rfl)) (fun _ h9 => h9) rfl dX5_strike_94 ?_
        refine lv_iload hx hb dX5_strike_97 (lv_at hl 3 rfl) ?_
        refine lv_imul hx hb dX5_strike_99 ?_
        refine lv_iadd hx hb dX5_strike_100 ?_
        refine lv_istore (lv' := [(7, .int (p1 + ((sR_83 0 6) * x6_83))), (0, .ref (g 0)), (1, .int p1), (5, .int x5_83), (6, .int x6_83)]) hx hb dX5_strike_101 hl (by decide) rfl (fun ls hl => ?_)
        refine lv_aload_n hx hb dX5_strike_103 rfl (lv_at hl 1 rfl) ?_
        refine va_get (D := D) (ci := 5) (v := .ref (g 4)) (C := RX5) (T := TX5) (N := 33) hx hb hts hinR hown hE.1 hPR 0 rfl rfl 8 (by decide) (hts (.fieldLink RX5 29 "WallStonesModel" "stands" "[I") (List.mem_of_getElem? (i := 1) rfl)) (fun _ h9 => h9) rfl dX5_strike_104 ?_
        refine lv_iload hx hb dX5_strike_107 (lv_at hl 0 rfl) ?_
        refine va_iald hx hb hE.1 hPR 4 0 rfl rfl (cell_in (s := sR_83) (by assumption) (by omega)) dX5_strike_109 ?_
        refine W.eq (g2 := F0 m 110 ls [.int (sR_83 9 (Int32.toNatClampNeg (p1 + ((sR_83 0 6) * x6_83))))]) rfl ?_
        refine lv_iconst (v := 1) hx hb dX5_strike_110 (by decide) ?_
        refine lv_icmp_ne (tgt := 150) hx hb dX5_strike_111 (by decide) (fun c_2 => ?_) (fun c_2 => ?_)
        · have hM := hM.trans (if_neg c_2)
          have t_2 := ne_t c_2
          rw [tl_1] at t_2
          refine lv_iinc (v := (x6_83 + 1)) (lv' := [(6, .int (x6_83 + 1)), (7, .int (p1 + ((sR_83 0 6) * x6_83))), (0, .ref (g 0)), (1, .int p1), (5, .int x5_83)]) hx hb dX5_strike_150 hl (k := 4) rfl rfl (by decide) rfl (fun ls hl => ?_)
          refine lv_goto (tgt := 83) hx hb dX5_strike_153 (by decide) ?_
          have := t_inc (x := x6_83) (by omega)
          rw [wl_some hM] at kk
          exact ih sR_83 x5_83 (x6_83 + 1) H locs ls (by omega) (by assumption) (by omega) (by omega) hPR hS (lv_sub hl [2, 3, 4, 0] rfl) kk
        · have hM := hM.trans (if_pos c_2)
          have t_2 := eq_t c_2
          rw [tl_1] at t_2
          refine lv_aload_n hx hb dX5_strike_114 rfl (lv_at hl 1 rfl) ?_
          refine va_get (D := D) (ci := 5) (v := .ref (g 6)) (C := RX5) (T := TX5) (N := 33) hx hb hts hinR hown hE.1 hPR 0 rfl rfl 10 (by decide) (hts (.fieldLink RX5 35 "WallStonesModel" "propped" "[I") (List.mem_of_getElem? (i := 4) rfl)) (fun _ h9 => h9) rfl dX5_strike_115 ?_
          refine lv_iload hx hb dX5_strike_118 (lv_at hl 0 rfl) ?_
          refine va_iald hx hb hE.1 hPR 6 0 rfl rfl (cell_in (s := sR_83) (by assumption) (by omega)) dX5_strike_120 ?_
          refine W.eq (g2 := F0 m 121 ls [.int (sR_83 11 (Int32.toNatClampNeg (p1 + ((sR_83 0 6) * x6_83))))]) rfl ?_
          refine lv_if_ne (tgt := 150) hx hb dX5_strike_121 (by decide) (fun c_3 => ?_) (fun c_3 => ?_)
          · have hM := hM.trans (if_neg c_3)
            have t_3 := ne_t c_3
            rw [tl_0] at t_3
            refine lv_iinc (v := (x6_83 + 1)) (lv' := [(6, .int (x6_83 + 1)), (7, .int (p1 + ((sR_83 0 6) * x6_83))), (0, .ref (g 0)), (1, .int p1), (5, .int x5_83)]) hx hb dX5_strike_150 hl (k := 4) rfl rfl (by decide) rfl (fun ls hl => ?_)
            refine lv_goto (tgt := 83) hx hb dX5_strike_153 (by decide) ?_
            have := t_inc (x := x6_83) (by omega)
            rw [wl_some hM] at kk
            exact ih sR_83 x5_83 (x6_83 + 1) H locs ls (by omega) (by assumption) (by omega) (by omega) hPR hS (lv_sub hl [2, 3, 4, 0] rfl) kk
          · have hM := hM.trans (if_pos c_3)
            have t_3 := eq_t c_3
            rw [tl_0] at t_3
            refine lv_aload_n hx hb dX5_strike_124 rfl (lv_at hl 1 rfl) ?_
            refine va_get (D := D) (ci := 5) (v := .ref (g 4)) (C := RX5) (T := TX5) (N := 33) hx hb hts hinR hown hE.1 hPR 0 rfl rfl 8 (by decide) (hts (.fieldLink RX5 29 "WallStonesModel" "stands" "[I") (List.mem_of_getElem? (i := 1) rfl)) (fun _ h9 => h9) rfl dX5_strike_125 ?_
            refine lv_iload hx hb dX5_strike_128 (lv_at hl 0 rfl) ?_
            refine lv_aload_n hx hb dX5_strike_130 rfl (lv_at hl 1 rfl) ?_
            refine va_get (D := D) (ci := 5) (v := .int (sR_83 0 6)) (C := RX5) (T := TX5) (N := 33) hx hb hts hinR hown hE.1 hPR 0 rfl rfl 6 (by decide) (hts (.fieldLink RX5 23 "WallStonesModel" "width" "I") (List.mem_of_getElem? (i := 2) rfl)) (fun _ h9 => h9) rfl dX5_strike_131 ?_
            refine lv_isub hx hb dX5_strike_134 ?_
            refine va_iald hx hb hE.1 hPR 4 0 rfl rfl (cell_in2 (s := sR_83) (by assumption) (by omega)) dX5_strike_135 ?_
            refine W.eq (g2 := F0 m 136 ls [.int (sR_83 9 (Int32.toNatClampNeg ((p1 + ((sR_83 0 6) * x6_83)) - (sR_83 0 6))))]) rfl ?_
            refine lv_if_ne (tgt := 150) hx hb dX5_strike_136 (by decide) (fun c_4 => ?_) (fun c_4 => ?_)
            · have hM := hM.trans (if_neg c_4)
              have t_4 := ne_t c_4
              rw [tl_0] at t_4
              refine lv_iinc (v := (x6_83 + 1)) (lv' := [(6, .int (x6_83 + 1)), (7, .int (p1 + ((sR_83 0 6) * x6_83))), (0, .ref (g 0)), (1, .int p1), (5, .int x5_83)]) hx hb dX5_strike_150 hl (k := 4) rfl rfl (by decide) rfl (fun ls hl => ?_)
              refine lv_goto (tgt := 83) hx hb dX5_strike_153 (by decide) ?_
              have := t_inc (x := x6_83) (by omega)
              rw [wl_some hM] at kk
              exact ih sR_83 x5_83 (x6_83 + 1) H locs ls (by omega) (by assumption) (by omega) (by omega) hPR hS (lv_sub hl [2, 3, 4, 0] rfl) kk
            · have hM := hM.trans (if_pos c_4)
              have t_4 := eq_t c_4
              rw [tl_0] at t_4
              refine lv_aload_n hx hb dX5_strike_139 rfl (lv_at hl 1 rfl) ?_
              refine va_get (D := D) (ci := 5) (v := .ref (g 4)) (C := RX5) (T := TX5) (N := 33) hx hb hts hinR hown hE.1 hPR 0 rfl rfl 8 (by decide) (hts (.fieldLink RX5 29 "WallStonesModel" "stands" "[I") (List.mem_of_getElem? (i := 1) rfl)) (fun _ h9 => h9) rfl dX5_strike_140 ?_
              refine lv_iload hx hb dX5_strike_143 (lv_at hl 0 rfl) ?_
              refine lv_iconst (v := 0) hx hb dX5_strike_145 (by decide) ?_
              refine va_iast hx hb hE.1 hPR (wD_of hg (c := 0) (n := 16) (by decide) (by decide) rfl) hS 4 0 rfl rfl (cell_in (s := sR_83) (by assumption) (by omega)) dX5_strike_146 (fun H locs hPn _ hS => ?_)
              have hPR : va_P D vwCl (cellR cI g (up sR_83 9 (Int32.toNatClampNeg (p1 + ((sR_83 0 6) * x6_83))) 0) vR) H := (congrArg (fun z => va_P D vwCl z H) setR_R9).mp hPn
              refine lv_iinc (v := (x5_83 + 1)) (lv' := [(5, .int (x5_83 + 1)), (7, .int (p1 + ((sR_83 0 6) * x6_83))), (0, .ref (g 0)), (1, .int p1), (6, .int x6_83)]) hx hb dX5_strike_147 hl (k := 3) rfl rfl (by decide) rfl (fun ls hl => ?_)
              refine lv_iinc (v := (x6_83 + 1)) (lv' := [(6, .int (x6_83 + 1)), (5, .int (x5_83 + 1)), (7, .int (p1 + ((sR_83 0 6) * x6_83))), (0, .ref (g 0)), (1, .int p1)]) hx hb dX5_strike_150 hl (k := 4) rfl rfl (by decide) rfl (fun ls hl => ?_)
              refine lv_goto (tgt := 83) hx hb dX5_strike_153 (by decide) ?_
              have q5 : ((up sR_83 9 (Int32.toNatClampNeg (p1 + ((sR_83 0 6) * x6_83))) 0) 0 7).toInt = (sR_83 0 7).toInt := rfl
              have q6 : ((up sR_83 9 (Int32.toNatClampNeg (p1 + ((sR_83 0 6) * x6_83))) 0) 0 6).toInt = (sR_83 0 6).toInt := rfl
              have q7 : ((up sR_83 9 (Int32.toNatClampNeg (p1 + ((sR_83 0 6) * x6_83))) 0) 0 7).toInt = (sR_83 0 7).toInt := rfl
              have := t_inc (x := x6_83) (by omega)
              rw [wl_some hM] at kk
              exact ih (up sR_83 9 (Int32.toNatClampNeg (p1 + ((sR_83 0 6) * x6_83))) 0) (x5_83 + 1) (x6_83 + 1) H locs ls (by omega) (by assumption) (by omega) (by omega) hPR hS (lv_sub hl [3, 4, 1, 0] rfl) kk
  have J_156 : ∀ (sR_156 : St) (x5_156 : Int32) (H : Heap) (locs : List Loc) (ls : Array Slot), va_P D vwCl (cellR cI g sR_156 vR) H → va_S (wA g 0 16) s.heap H locs → lv_has ls 8 [(5, .int x5_156)] → (m_R_strike sR p1 p2 p3) = b_R_strike_156 sR_156 x5_156 → W p l e rm_R_strike s m args below meth c H locs 0 0 Q (F0 m 156 ls []) := by
    intro sR_156 x5_156 H locs ls hPR hS hl hM
    refine lv_iload hx hb dX5_strike_156 (lv_at hl 0 rfl) ?_
    have hM : (m_R_strike sR p1 p2 p3) = ((x5_156, sR_156) : Int32 × St) := hM
    exact hret x5_156 H locs _ ls (nr_i _) dX5_strike_158 (ret1 hM) (rP_v1 (P := fun (z0 : St) => va_P D vwCl (cellR cI g z0 vR) H) hM hPR) hS
  have hM : (m_R_strike sR p1 p2 p3) = (m_R_strike sR p1 p2 p3) := rfl
  refine lv_aload_n hx hb dX5_strike_0 rfl (lv_at hl 0 rfl) ?_
  refine lv_iload_n hx hb dX5_strike_1 rfl (lv_at hl 1 rfl) ?_
  refine lv_iload_n hx hb dX5_strike_2 rfl (lv_at hl 2 rfl) ?_
  refine runS_i (va_runV (As := [.int p1, .int p2]) (rest := []) ⟨hx, hb, hml, hown, hts⟩ (K_R_isCell hg sR vR p1 p2) (cwV 2 hts gX5_strike_X5_isCell rfl rfl rfl (by decide +kernel) ⟨Nat.le_of_ble_eq_true rfl, Nat.le_of_ble_eq_true rfl⟩) (preV_of hE hA hS hPR (va_recv hE.1 hPR (ci := 5) (q0 := 0) rfl rfl)) rfl rfl hl.1 rfl (lv_room (Nat.le_of_ble_eq_true rfl)) dX5_strike_3 ⟨Nat.zero_le _, Nat.zero_le _⟩) ?_
  refine lv_if_eq (tgt := 25) hx hb dX5_strike_6 (by decide) (fun c_8 => ?_) (fun c_8 => ?_)
  · have hM := hM.trans (if_pos c_8)
    have t_8 := eq_t c_8
    rw [tl_0] at t_8
    refine lv_iconst (v := 0) hx hb dX5_strike_25 (by decide) ?_
    have hM : (m_R_strike sR p1 p2 p3) = ((0, sR) : Int32 × St) := hM
    exact hret 0 H locs _ ls (nr_i _) dX5_strike_26 (ret1 hM) (rP_v1 (P := fun (z0 : St) => va_P D vwCl (cellR cI g z0 vR) H) hM hPR) hS
  · have hM := hM.trans (if_neg c_8)
    have t_8 := ne_t c_8
    rw [tl_0] at t_8
    have u_8 := iscell_t c_8 (by omega) (by omega)
    refine lv_aload_n hx hb dX5_strike_9 rfl (lv_at hl 0 rfl) ?_
    refine va_get (D := D) (ci := 5) (v := .ref (g 4)) (C := RX5) (T := TX5) (N := 33) hx hb hts hinR hown hE.1 hPR 0 rfl rfl 8 (by decide) (hts (.fieldLink RX5 29 "WallStonesModel" "stands" "[I") (List.mem_of_getElem? (i := 1) rfl)) (fun _ h9 => h9) rfl dX5_strike_10 ?_
    refine lv_iload_n hx hb dX5_strike_13 rfl (lv_at hl 1 rfl) ?_
    refine lv_aload_n hx hb dX5_strike_14 rfl (lv_at hl 0 rfl) ?_
    refine va_get (D := D) (ci := 5) (v := .int (sR 0 6)) (C := RX5) (T := TX5) (N := 33) hx hb hts hinR hown hE.1 hPR 0 rfl rfl 6 (by decide) (hts (.fieldLink RX5 23 "WallStonesModel" "width" "I") (List.mem_of_getElem? (i := 2) rfl)) (fun _ h9 => h9) rfl dX5_strike_15 ?_
    refine lv_iload_n hx hb dX5_strike_18 rfl (lv_at hl 2 rfl) ?_
    refine lv_imul hx hb dX5_strike_19 ?_
    refine lv_iadd hx hb dX5_strike_20 ?_
    refine va_iald hx hb hE.1 hPR 4 0 rfl rfl (cell_in (s := sR) (by assumption) (by omega)) dX5_strike_21 ?_
    refine W.eq (g2 := F0 m 22 ls [.int (sR 9 (Int32.toNatClampNeg (p1 + ((sR 0 6) * p2))))]) rfl ?_
    refine lv_if_ne (tgt := 27) hx hb dX5_strike_22 (by decide) (fun c_9 => ?_) (fun c_9 => ?_)
    · have hM := hM.trans (if_neg c_9)
      have t_9 := ne_t c_9
      rw [tl_0] at t_9
      refine lv_iload_n hx hb dX5_strike_27 rfl (lv_at hl 1 rfl) ?_
      refine lv_aload_n hx hb dX5_strike_28 rfl (lv_at hl 0 rfl) ?_
      refine va_get (D := D) (ci := 5) (v := .int (sR 0 6)) (C := RX5) (T := TX5) (N := 33) hx hb hts hinR hown hE.1 hPR 0 rfl rfl 6 (by decide) (hts (.fieldLink RX5 23 "WallStonesModel" "width" "I") (List.mem_of_getElem? (i := 2) rfl)) (fun _ h9 => h9) rfl dX5_strike_29 ?_
      refine lv_iload_n hx hb dX5_strike_32 rfl (lv_at hl 2 rfl) ?_
      refine lv_imul hx hb dX5_strike_33 ?_
      refine lv_iadd hx hb dX5_strike_34 ?_
      refine lv_istore (lv' := [(4, .int (p1 + ((sR 0 6) * p2))), (0, .ref (g 0)), (1, .int p1), (2, .int p2), (3, .int p3)]) hx hb dX5_strike_35 hl (by decide) rfl (fun ls hl => ?_)
      refine lv_aload_n hx hb dX5_strike_37 rfl (lv_at hl 1 rfl) ?_
      refine va_get (D := D) (ci := 5) (v := .ref (g 5)) (C := RX5) (T := TX5) (N := 33) hx hb hts hinR hown hE.1 hPR 0 rfl rfl 9 (by decide) (hts (.fieldLink RX5 32 "WallStonesModel" "strength" "[I") (List.mem_of_getElem? (i := 3) rfl)) (fun _ h9 => h9) rfl dX5_strike_38 ?_
      refine lv_iload hx hb dX5_strike_41 (lv_at hl 0 rfl) ?_
      refine lv_dup2_11 hx hb dX5_strike_43 rfl rfl ?_
      refine va_iald hx hb hE.1 hPR 5 0 rfl rfl (cell_in (s := sR) (by assumption) (by omega)) dX5_strike_44 ?_
      refine W.eq (g2 := F0 m 45 ls [.int (sR 10 (Int32.toNatClampNeg (p1 + ((sR 0 6) * p2)))), .int (p1 + ((sR 0 6) * p2)), .ref (g 5)]) rfl ?_
      refine lv_iload_n hx hb dX5_strike_45 rfl (lv_at hl 4 rfl) ?_
      refine lv_isub hx hb dX5_strike_46 ?_
      refine va_iast hx hb hE.1 hPR (wD_of hg (c := 0) (n := 16) (by decide) (by decide) rfl) hS 5 0 rfl rfl (cell_in (s := sR) (by assumption) (by omega)) dX5_strike_47 (fun H locs hPn _ hS => ?_)
      have hPR : va_P D vwCl (cellR cI g (up sR 10 (Int32.toNatClampNeg (p1 + ((sR 0 6) * p2))) ((sR 10 (Int32.toNatClampNeg (p1 + ((sR 0 6) * p2)))) - p3)) vR) H := (congrArg (fun z => va_P D vwCl z H) setR_R10).mp hPn
      refine lv_aload_n hx hb dX5_strike_48 rfl (lv_at hl 1 rfl) ?_
      refine va_get (D := D) (ci := 5) (v := .ref (g 6)) (C := RX5) (T := TX5) (N := 33) hx hb hts hinR hown hE.1 hPR 0 rfl rfl 10 (by decide) (hts (.fieldLink RX5 35 "WallStonesModel" "propped" "[I") (List.mem_of_getElem? (i := 4) rfl)) (fun _ h9 => h9) rfl dX5_strike_49 ?_
      refine lv_iload hx hb dX5_strike_52 (lv_at hl 0 rfl) ?_
      refine lv_iconst (v := 0) hx hb dX5_strike_54 (by decide) ?_
      refine va_iast hx hb hE.1 hPR (wD_of hg (c := 0) (n := 16) (by decide) (by decide) rfl) hS 6 0 rfl rfl (cell_in (s := sR) (by assumption) (by omega)) dX5_strike_55 (fun H locs hPn _ hS => ?_)
      have hPR : va_P D vwCl (cellR cI g (up (up sR 10 (Int32.toNatClampNeg (p1 + ((sR 0 6) * p2))) ((sR 10 (Int32.toNatClampNeg (p1 + ((sR 0 6) * p2)))) - p3)) 11 (Int32.toNatClampNeg (p1 + ((sR 0 6) * p2))) 0) vR) H := (congrArg (fun z => va_P D vwCl z H) setR_R11).mp hPn
      refine lv_iconst (v := 0) hx hb dX5_strike_56 (by decide) ?_
      refine lv_istore (lv' := [(5, .int 0), (4, .int (p1 + ((sR 0 6) * p2))), (0, .ref (g 0)), (1, .int p1), (2, .int p2), (3, .int p3)]) hx hb dX5_strike_57 hl (by decide) rfl (fun ls hl => ?_)
      refine lv_aload_n hx hb dX5_strike_59 rfl (lv_at hl 2 rfl) ?_
      refine va_get (D := D) (ci := 5) (v := .ref (g 5)) (C := RX5) (T := TX5) (N := 33) hx hb hts hinR hown hE.1 hPR 0 rfl rfl 9 (by decide) (hts (.fieldLink RX5 32 "WallStonesModel" "strength" "[I") (List.mem_of_getElem? (i := 3) rfl)) (fun _ h9 => h9) rfl dX5_strike_60 ?_
      refine lv_iload hx hb dX5_strike_63 (lv_at hl 1 rfl) ?_
      refine va_iald hx hb hE.1 hPR 5 0 rfl rfl (cell_in (s := sR) (by assumption) (by omega)) dX5_strike_65 ?_
      refine W.eq (congrArg (fun z => F0 m 66 ls [.int z]) (up_get (s := sR) (k := 10) (i := (Int32.toNatClampNeg (p1 + ((sR 0 6) * p2)))) (x := ((sR 10 (Int32.toNatClampNeg (p1 + ((sR 0 6) * p2)))) - p3)))) ?_
      refine lv_if_gt (tgt := 80) hx hb dX5_strike_66 (by decide) (fun c_10 => ?_) (fun c_10 => ?_)
      · have hM := hM.trans (if_pos c_10)
        have t_10 := lt_t c_10
        rw [tl_0] at t_10
        refine lv_iconst (v := 1) hx hb dX5_strike_80 (by decide) ?_
        refine lv_istore (lv' := [(6, .int 1), (5, .int 0), (4, .int (p1 + ((sR 0 6) * p2))), (0, .ref (g 0)), (1, .int p1), (2, .int p2), (3, .int p3)]) hx hb dX5_strike_81 hl (by decide) rfl (fun ls hl => ?_)
        have z11 := tl_0
        have z12 := tl_1
        have q13 : ((up (up sR 10 (Int32.toNatClampNeg (p1 + ((sR 0 6) * p2))) ((sR 10 (Int32.toNatClampNeg (p1 + ((sR 0 6) * p2)))) - p3)) 11 (Int32.toNatClampNeg (p1 + ((sR 0 6) * p2))) 0) 0 7).toInt = (sR 0 7).toInt := rfl
        have q14 : ((up (up sR 10 (Int32.toNatClampNeg (p1 + ((sR 0 6) * p2))) ((sR 10 (Int32.toNatClampNeg (p1 + ((sR 0 6) * p2)))) - p3)) 11 (Int32.toNatClampNeg (p1 + ((sR 0 6) * p2))) 0) 0 6).toInt = (sR 0 6).toInt := rfl
        have q15 : ((up (up sR 10 (Int32.toNatClampNeg (p1 + ((sR 0 6) * p2))) ((sR 10 (Int32.toNatClampNeg (p1 + ((sR 0 6) * p2)))) - p3)) 11 (Int32.toNatClampNeg (p1 + ((sR 0 6) * p2))) 0) 0 7).toInt = (sR 0 7).toInt := rfl
        refine L_83 8 (up (up sR 10 (Int32.toNatClampNeg (p1 + ((sR 0 6) * p2))) ((sR 10 (Int32.toNatClampNeg (p1 + ((sR 0 6) * p2)))) - p3)) 11 (Int32.toNatClampNeg (p1 + ((sR 0 6) * p2))) 0) 0 1 H locs ls (by omega) (by assumption) (by omega) (by omega) hPR hS (lv_sub hl [3, 4, 1, 0] rfl) (fun H locs ls k0 k1 k2 hPR hS hl => ?_)
        have nk1 := okR_lin k1
        exact J_156 (wl (g_R_strike_83 p1) 8 ((up (up sR 10 (Int32.toNatClampNeg (p1 + ((sR 0 6) * p2))) ((sR 10 (Int32.toNatClampNeg (p1 + ((sR 0 6) * p2)))) - p3)) 11 (Int32.toNatClampNeg (p1 + ((sR 0 6) * p2))) 0), 0, 1)).1 (wl (g_R_strike_83 p1) 8 ((up (up sR 10 (Int32.toNatClampNeg (p1 + ((sR 0 6) * p2))) ((sR 10 (Int32.toNatClampNeg (p1 + ((sR 0 6) * p2)))) - p3)) 11 (Int32.toNatClampNeg (p1 + ((sR 0 6) * p2))) 0), 0, 1)).2.1 H locs ls hPR hS (lv_sub hl [0] rfl) hM
      · have hM := hM.trans (if_neg c_10)
        have t_10 := nlt_t c_10
        rw [tl_0] at t_10
        refine lv_aload_n hx hb dX5_strike_69 rfl (lv_at hl 2 rfl) ?_
        refine va_get (D := D) (ci := 5) (v := .ref (g 4)) (C := RX5) (T := TX5) (N := 33) hx hb hts hinR hown hE.1 hPR 0 rfl rfl 8 (by decide) (hts (.fieldLink RX5 29 "WallStonesModel" "stands" "[I") (List.mem_of_getElem? (i := 1) rfl)) (fun _ h9 => h9) rfl dX5_strike_70 ?_
        refine lv_iload hx hb dX5_strike_73 (lv_at hl 1 rfl) ?_
        refine lv_iconst (v := 0) hx hb dX5_strike_75 (by decide) ?_
        refine va_iast hx hb hE.1 hPR (wD_of hg (c := 0) (n := 16) (by decide) (by decide) rfl) hS 4 0 rfl rfl (cell_in (s := sR) (by assumption) (by omega)) dX5_strike_76 (fun H locs hPn _ hS => ?_)
        have hPR : va_P D vwCl (cellR cI g (up (up (up sR 10 (Int32.toNatClampNeg (p1 + ((sR 0 6) * p2))) ((sR 10 (Int32.toNatClampNeg (p1 + ((sR 0 6) * p2)))) - p3)) 11 (Int32.toNatClampNeg (p1 + ((sR 0 6) * p2))) 0) 9 (Int32.toNatClampNeg (p1 + ((sR 0 6) * p2))) 0) vR) H := (congrArg (fun z => va_P D vwCl z H) setR_R9).mp hPn
        refine lv_iconst (v := 1) hx hb dX5_strike_77 (by decide) ?_
        refine lv_istore (lv' := [(5, .int 1), (4, .int (p1 + ((sR 0 6) * p2))), (0, .ref (g 0)), (1, .int p1), (2, .int p2), (3, .int p3)]) hx hb dX5_strike_78 hl (by decide) rfl (fun ls hl => ?_)
        refine lv_iconst (v := 1) hx hb dX5_strike_80 (by decide) ?_
        refine lv_istore (lv' := [(6, .int 1), (5, .int 1), (4, .int (p1 + ((sR 0 6) * p2))), (0, .ref (g 0)), (1, .int p1), (2, .int p2), (3, .int p3)]) hx hb dX5_strike_81 hl (by decide) rfl (fun ls hl => ?_)
        have z16 := tl_1
        have q17 : ((up (up (up sR 10 (Int32.toNatClampNeg (p1 + ((sR 0 6) * p2))) ((sR 10 (Int32.toNatClampNeg (p1 + ((sR 0 6) * p2)))) - p3)) 11 (Int32.toNatClampNeg (p1 + ((sR 0 6) * p2))) 0) 9 (Int32.toNatClampNeg (p1 + ((sR 0 6) * p2))) 0) 0 7).toInt = (sR 0 7).toInt := rfl
        have q18 : ((up (up (up sR 10 (Int32.toNatClampNeg (p1 + ((sR 0 6) * p2))) ((sR 10 (Int32.toNatClampNeg (p1 + ((sR 0 6) * p2)))) - p3)) 11 (Int32.toNatClampNeg (p1 + ((sR 0 6) * p2))) 0) 9 (Int32.toNatClampNeg (p1 + ((sR 0 6) * p2))) 0) 0 6).toInt = (sR 0 6).toInt := rfl
        have q19 : ((up (up (up sR 10 (Int32.toNatClampNeg (p1 + ((sR 0 6) * p2))) ((sR 10 (Int32.toNatClampNeg (p1 + ((sR 0 6) * p2)))) - p3)) 11 (Int32.toNatClampNeg (p1 + ((sR 0 6) * p2))) 0) 9 (Int32.toNatClampNeg (p1 + ((sR 0 6) * p2))) 0) 0 7).toInt = (sR 0 7).toInt := rfl
        refine L_83 8 (up (up (up sR 10 (Int32.toNatClampNeg (p1 + ((sR 0 6) * p2))) ((sR 10 (Int32.toNatClampNeg (p1 + ((sR 0 6) * p2)))) - p3)) 11 (Int32.toNatClampNeg (p1 + ((sR 0 6) * p2))) 0) 9 (Int32.toNatClampNeg (p1 + ((sR 0 6) * p2))) 0) 1 1 H locs ls (by omega) (by assumption) (by omega) (by omega) hPR hS (lv_sub hl [3, 4, 1, 0] rfl) (fun H locs ls k0 k1 k2 hPR hS hl => ?_)
        have nk1 := okR_lin k1
        exact J_156 (wl (g_R_strike_83 p1) 8 ((up (up (up sR 10 (Int32.toNatClampNeg (p1 + ((sR 0 6) * p2))) ((sR 10 (Int32.toNatClampNeg (p1 + ((sR 0 6) * p2)))) - p3)) 11 (Int32.toNatClampNeg (p1 + ((sR 0 6) * p2))) 0) 9 (Int32.toNatClampNeg (p1 + ((sR 0 6) * p2))) 0), 1, 1)).1 (wl (g_R_strike_83 p1) 8 ((up (up (up sR 10 (Int32.toNatClampNeg (p1 + ((sR 0 6) * p2))) ((sR 10 (Int32.toNatClampNeg (p1 + ((sR 0 6) * p2)))) - p3)) 11 (Int32.toNatClampNeg (p1 + ((sR 0 6) * p2))) 0) 9 (Int32.toNatClampNeg (p1 + ((sR 0 6) * p2))) 0), 1, 1)).2.1 H locs ls hPR hS (lv_sub hl [0] rfl) hM
    · have hM := hM.trans (if_pos c_9)
      have t_9 := eq_t c_9
      rw [tl_0] at t_9
      refine lv_iconst (v := 0) hx hb dX5_strike_25 (by decide) ?_
      have hM : (m_R_strike sR p1 p2 p3) = ((0, sR) : Int32 × St) := hM
      exact hret 0 H locs _ ls (nr_i _) dX5_strike_26 (ret1 hM) (rP_v1 (P := fun (z0 : St) => va_P D vwCl (cellR cI g z0 vR) H) hM hPR) hS
abbrev rm_R_isForce : Room := { frames := 1, cells := 0, slots := 0, locals := 22 }
set_option maxHeartbeats 4000000 in
set_option maxRecDepth 100000 in
theorem K_R_isForce {l : Launch} {D : va_G} {cI : ClassId} {lo : Nat} (p0 : Int32) : ROi l D cI lo yX5_isForce wsX5_isForce rm_R_isForce [.int p0] (fun H => True) (m_R_isForce p0) := by
  refine ofW_ROi (cc := cX5_isForce) (maxL := 1) (ty := .boolean) (by decide +kernel) rfl (Nat.le_of_ble_eq_true rfl) ?_
  intro p e s m args below meth c Q hx hb hml hown hts hE hP hret ls hl
  have hown : s.vm.findClass RX5 = some m.cls := hown
  have hA : ∀ q : Nat, (fun _ : Nat => False) q → lo ≤ q := fun _ h => h.elim
  have hS : va_S (fun _ : Nat => False) s.heap s.heap [] := va_S.rf
  have hl : lv_has ls 1 [(0, .int p0)] := hl
  have hM : (m_R_isForce p0) = (m_R_isForce p0) := rfl
  refine lv_iload_n hx hb dX5_isForce_0 rfl (lv_at hl 0 rfl) ?_
  refine lv_iconst (v := 1) hx hb dX5_isForce_1 (by decide) ?_
  refine lv_bipush (v := 99) hx hb dX5_isForce_2 (by decide) ?_
  refine runS_i (va_runS (As := [.int p0, .int 1, .int 99]) (rest := []) ⟨hx, hb, hml, hown, hts⟩ (K_R_in p0 1 99) (va_cwS 3 hts gX5_isForce_X5_in rfl rfl rfl (by decide +kernel) ⟨Nat.le_of_ble_eq_true rfl, Nat.le_of_ble_eq_true rfl⟩) (preS_of hE hA hS trivial) rfl rfl hl.1 rfl (lv_room (Nat.le_of_ble_eq_true rfl)) dX5_isForce_4 ⟨Nat.zero_le _, Nat.zero_le _⟩) ?_
  have hM : (m_R_isForce p0) = ((m_R_in p0 1 99) : Int32) := hM
  exact hret _ _ ls in_nar dX5_isForce_7 hM.symm
abbrev rm_R_hit : Room := { frames := 3, cells := 0, slots := 0, locals := 71 }
set_option maxHeartbeats 4000000 in
set_option maxRecDepth 100000 in
theorem K_R_hit {l : Launch} {D : va_G} {cI : ClassId} {lo : Nat} {g : Nat → Nat} (hg : wI g 0 16 lo) (sR : St) (vR : Int64) (p1 : Int32) (p2 : Int32) (p3 : Int32) (h0 : okR sR) : WRi l D cI lo yX5_hit wsX5_hit rm_R_hit [.ref (g 0), .int p1, .int p2, .int p3] (fun H => va_P D vwCl (cellR cI g sR vR) H) (m_R_hit sR p1 p2 p3).1 (fun H => va_P D vwCl (cellR cI g (m_R_hit sR p1 p2 p3).2 vR) H) (wA g 0 16) := by
  refine ofW_WRi (cc := cX5_hit) (maxL := 4) (ty := .int) (by decide +kernel) rfl (Nat.le_of_ble_eq_true rfl) ?_
  intro p e s m args below meth c Q hx hb hml hown hts hE hP hret ls hl
  have hown : s.vm.findClass RX5 = some m.cls := hown
  have hPR := hP
  have hA := wA.lo hg
  have hS : va_S (wA g 0 16) s.heap s.heap [] := va_S.rf
  obtain ⟨H, hH⟩ : ∃ z, z = s.heap := ⟨_, rfl⟩
  obtain ⟨locs, hlocs⟩ : ∃ z : List Loc, z = [] := ⟨_, rfl⟩
  have hPR : va_P D vwCl (cellR cI g sR vR) H := by rw [hH]; exact hPR
  have hS : va_S (wA g 0 16) s.heap H locs := by rw [hH, hlocs]; exact va_S.rf
  have gW : W p l e rm_R_hit s m args below meth c H locs 0 0 Q (F0 m 0 ls []) → W p l e rm_R_hit s m args below meth c s.heap [] 0 0 Q (F0 m 0 ls []) := by rw [hH, hlocs]; exact id
  refine gW ?_
  have hinR : ∀ w ∈ wsX50, w ∈ wsX5_hit := fun w h => List.mem_cons_of_mem _ (List.mem_append_right _ h)
  have hl : lv_has ls 4 [(0, .ref (g 0)), (1, .int p1), (2, .int p2), (3, .int p3)] := hl
  have nh0 := okR_lin h0
  have hM : (m_R_hit sR p1 p2 p3) = (m_R_hit sR p1 p2 p3) := rfl
  refine lv_aload_n hx hb dX5_hit_0 rfl (lv_at hl 0 rfl) ?_
  refine lv_iload_n hx hb dX5_hit_1 rfl (lv_at hl 1 rfl) ?_
  refine lv_iload_n hx hb dX5_hit_2 rfl (lv_at hl 2 rfl) ?_
  refine runS_i (va_runV (As := [.int p1, .int p2]) (rest := []) ⟨hx, hb, hml, hown, hts⟩ (K_R_isCell hg sR vR p1 p2) (cwV 2 hts gX5_hit_X5_isCell rfl rfl rfl (by decide +kernel) ⟨Nat.le_of_ble_eq_true rfl, Nat.le_of_ble_eq_true rfl⟩) (preV_of hE hA hS hPR (va_recv hE.1 hPR (ci := 5) (q0 := 0) rfl rfl)) rfl rfl hl.1 rfl (lv_room (Nat.le_of_ble_eq_true rfl)) dX5_hit_3 ⟨Nat.zero_le _, Nat.zero_le _⟩) ?_
  refine lv_if_eq (tgt := 16) hx hb dX5_hit_6 (by decide) (fun c_1 => ?_) (fun c_1 => ?_)
  · have hM := hM.trans (if_pos c_1)
    have t_1 := eq_t c_1
    rw [tl_0] at t_1
    refine lv_iconst (v := (-1)) hx hb dX5_hit_16 (by decide) ?_
    have hM : (m_R_hit sR p1 p2 p3) = (((-1), sR) : Int32 × St) := hM
    exact hret (-1) H locs _ ls (nr_i _) dX5_hit_17 (ret1 hM) (rP_v1 (P := fun (z0 : St) => va_P D vwCl (cellR cI g z0 vR) H) hM hPR) hS
  · have hM := hM.trans (if_neg c_1)
    have t_1 := ne_t c_1
    rw [tl_0] at t_1
    have u_1 := iscell_t c_1 (by omega) (by omega)
    refine lv_iload_n hx hb dX5_hit_9 rfl (lv_at hl 3 rfl) ?_
    refine runS_i (va_runS (As := [.int p3]) (rest := []) ⟨hx, hb, hml, hown, hts⟩ (K_R_isForce p3) (va_cwS 1 hts gX5_hit_X5_isForce rfl rfl rfl (by decide +kernel) ⟨Nat.le_of_ble_eq_true rfl, Nat.le_of_ble_eq_true rfl⟩) (preS_of hE hA hS trivial) rfl rfl hl.1 rfl (lv_room (Nat.le_of_ble_eq_true rfl)) dX5_hit_10 ⟨Nat.zero_le _, Nat.zero_le _⟩) ?_
    refine lv_if_ne (tgt := 18) hx hb dX5_hit_13 (by decide) (fun c_2 => ?_) (fun c_2 => ?_)
    · have hM := hM.trans (if_neg c_2)
      have t_2 := ne_t c_2
      rw [tl_0] at t_2
      have u_2 := isforce_t c_2
      refine lv_aload_n hx hb dX5_hit_18 rfl (lv_at hl 0 rfl) ?_
      refine va_get (D := D) (ci := 5) (v := .ref (g 4)) (C := RX5) (T := TX5) (N := 33) hx hb hts hinR hown hE.1 hPR 0 rfl rfl 8 (by decide) (hts (.fieldLink RX5 29 "WallStonesModel" "stands" "[I") (List.mem_of_getElem? (i := 1) rfl)) (fun _ h9 => h9) rfl dX5_hit_19 ?_
      refine lv_iload_n hx hb dX5_hit_22 rfl (lv_at hl 1 rfl) ?_
      refine lv_aload_n hx hb dX5_hit_23 rfl (lv_at hl 0 rfl) ?_
      refine va_get (D := D) (ci := 5) (v := .int (sR 0 6)) (C := RX5) (T := TX5) (N := 33) hx hb hts hinR hown hE.1 hPR 0 rfl rfl 6 (by decide) (hts (.fieldLink RX5 23 "WallStonesModel" "width" "I") (List.mem_of_getElem? (i := 2) rfl)) (fun _ h9 => h9) rfl dX5_hit_24 ?_
      refine lv_iload_n hx hb dX5_hit_27 rfl (lv_at hl 2 rfl) ?_
      refine lv_imul hx hb dX5_hit_28 ?_
      refine lv_iadd hx hb dX5_hit_29 ?_
      refine va_iald hx hb hE.1 hPR 4 0 rfl rfl (cell_in (s := sR) (by assumption) (by omega)) dX5_hit_30 ?_
      refine W.eq (g2 := F0 m 31 ls [.int (sR 9 (Int32.toNatClampNeg (p1 + ((sR 0 6) * p2))))]) rfl ?_
      refine lv_if_ne (tgt := 39) hx hb dX5_hit_31 (by decide) (fun c_3 => ?_) (fun c_3 => ?_)
      · have hM := hM.trans (if_neg c_3)
        have t_3 := ne_t c_3
        rw [tl_0] at t_3
        refine lv_aload_n hx hb dX5_hit_39 rfl (lv_at hl 0 rfl) ?_
        refine lv_iload_n hx hb dX5_hit_40 rfl (lv_at hl 1 rfl) ?_
        refine lv_iload_n hx hb dX5_hit_41 rfl (lv_at hl 2 rfl) ?_
        refine lv_iload_n hx hb dX5_hit_42 rfl (lv_at hl 3 rfl) ?_
        refine runW_i (va_runV (As := [.int p1, .int p2, .int p3]) (rest := []) ⟨hx, hb, hml, hown, hts⟩ (K_R_strike hg sR vR p1 p2 p3 (by assumption)) (cwV 3 hts gX5_hit_X5_strike rfl rfl rfl (by decide +kernel) ⟨Nat.le_of_ble_eq_true rfl, Nat.le_of_ble_eq_true rfl⟩) (preV_of hE hA hS hPR (va_recv hE.1 hPR (ci := 5) (q0 := 0) rfl rfl)) rfl rfl hl.1 rfl (lv_room (Nat.le_of_ble_eq_true rfl)) dX5_hit_43 ⟨Nat.zero_le _, Nat.zero_le _⟩) hS (fun _ h9 => h9) (fun H locs hQ hk hS => ?_)
        have hPR : va_P D vwCl (cellR cI g (m_R_strike sR p1 p2 p3).2 vR) H := hQ
        have v4 : okR (m_R_strike sR p1 p2 p3).2 := okR_strike (by assumption)
        have w4_3 : ((m_R_strike sR p1 p2 p3).2 0 3).toInt = (sR 0 3).toInt := congrArg Int32.toInt (fr_R_strike (by omega))
        have w4_6 : ((m_R_strike sR p1 p2 p3).2 0 6).toInt = (sR 0 6).toInt := congrArg Int32.toInt (fr_R_strike (by omega))
        have w4_7 : ((m_R_strike sR p1 p2 p3).2 0 7).toInt = (sR 0 7).toInt := congrArg Int32.toInt (fr_R_strike (by omega))
        have w4_11 : ((m_R_strike sR p1 p2 p3).2 0 11).toInt = (sR 0 11).toInt := congrArg Int32.toInt (fr_R_strike (by omega))
        have w4_16 : ((m_R_strike sR p1 p2 p3).2 0 16).toInt = (sR 0 16).toInt := congrArg Int32.toInt (fr_R_strike (by omega))
        have hM : (m_R_hit sR p1 p2 p3) = (((m_R_strike sR p1 p2 p3).1, (m_R_strike sR p1 p2 p3).2) : Int32 × St) := hM
        exact hret (m_R_strike sR p1 p2 p3).1 H locs _ ls (nr_i _) dX5_hit_46 (ret1 hM) (rP_v1 (P := fun (z0 : St) => va_P D vwCl (cellR cI g z0 vR) H) hM hPR) hS
      · have hM := hM.trans (if_pos c_3)
        have t_3 := eq_t c_3
        rw [tl_0] at t_3
        refine lv_bipush (v := (-2)) hx hb dX5_hit_34 (by decide) ?_
        refine lv_goto (tgt := 46) hx hb dX5_hit_36 (by decide) ?_
        have hM : (m_R_hit sR p1 p2 p3) = (((-2), sR) : Int32 × St) := hM
        exact hret (-2) H locs _ ls (nr_i _) dX5_hit_46 (ret1 hM) (rP_v1 (P := fun (z0 : St) => va_P D vwCl (cellR cI g z0 vR) H) hM hPR) hS
    · have hM := hM.trans (if_pos c_2)
      have t_2 := eq_t c_2
      rw [tl_0] at t_2
      refine lv_iconst (v := (-1)) hx hb dX5_hit_16 (by decide) ?_
      have hM : (m_R_hit sR p1 p2 p3) = (((-1), sR) : Int32 × St) := hM
      exact hret (-1) H locs _ ls (nr_i _) dX5_hit_17 (ret1 hM) (rP_v1 (P := fun (z0 : St) => va_P D vwCl (cellR cI g z0 vR) H) hM hPR) hS
abbrev rm_R_cell : Room := { frames := 2, cells := 0, slots := 0, locals := 44 }
set_option maxHeartbeats 4000000 in
set_option maxRecDepth 100000 in
theorem K_R_cell {l : Launch} {D : va_G} {cI : ClassId} {lo : Nat} {g : Nat → Nat} (hg : wI g 0 16 lo) (sR : St) (vR : Int64) (p1 : Int32) (p2 : Int32) (p3 : Int32) (h0 : okR sR) : ROi l D cI lo yX5_cell wsX5_cell rm_R_cell [.ref (g 0), .int p1, .int p2, .int p3] (fun H => va_P D vwCl (cellR cI g sR vR) H) (m_R_cell sR p1 p2 p3) := by
  refine ofW_ROi (cc := cX5_cell) (maxL := 5) (ty := .int) (by decide +kernel) rfl (Nat.le_of_ble_eq_true rfl) ?_
  intro p e s m args below meth c Q hx hb hml hown hts hE hP hret ls hl
  have hown : s.vm.findClass RX5 = some m.cls := hown
  have hPR := hP
  have hA : ∀ q : Nat, (fun _ : Nat => False) q → lo ≤ q := fun _ h => h.elim
  have hS : va_S (fun _ : Nat => False) s.heap s.heap [] := va_S.rf
  have hinR : ∀ w ∈ wsX50, w ∈ wsX5_cell := fun w h => List.mem_cons_of_mem _ (List.mem_append_right _ h)
  have hl : lv_has ls 5 [(0, .ref (g 0)), (1, .int p1), (2, .int p2), (3, .int p3)] := hl
  have nh0 := okR_lin h0
  have hM : (m_R_cell sR p1 p2 p3) = (m_R_cell sR p1 p2 p3) := rfl
  refine lv_aload_n hx hb dX5_cell_0 rfl (lv_at hl 0 rfl) ?_
  refine lv_iload_n hx hb dX5_cell_1 rfl (lv_at hl 1 rfl) ?_
  refine lv_iload_n hx hb dX5_cell_2 rfl (lv_at hl 2 rfl) ?_
  refine runS_i (va_runV (As := [.int p1, .int p2]) (rest := []) ⟨hx, hb, hml, hown, hts⟩ (K_R_isCell hg sR vR p1 p2) (cwV 2 hts gX5_cell_X5_isCell rfl rfl rfl (by decide +kernel) ⟨Nat.le_of_ble_eq_true rfl, Nat.le_of_ble_eq_true rfl⟩) (preV_of hE hA hS hPR (va_recv hE.1 hPR (ci := 5) (q0 := 0) rfl rfl)) rfl rfl hl.1 rfl (lv_room (Nat.le_of_ble_eq_true rfl)) dX5_cell_3 ⟨Nat.zero_le _, Nat.zero_le _⟩) ?_
  refine lv_if_eq (tgt := 18) hx hb dX5_cell_6 (by decide) (fun c_1 => ?_) (fun c_1 => ?_)
  · have hM := hM.trans (if_pos c_1)
    have t_1 := eq_t c_1
    rw [tl_0] at t_1
    refine lv_iconst (v := (-1)) hx hb dX5_cell_18 (by decide) ?_
    have hM : (m_R_cell sR p1 p2 p3) = ((-1) : Int32) := hM
    exact hret _ _ ls (nr_i _) dX5_cell_19 hM.symm
  · have hM := hM.trans (if_neg c_1)
    have t_1 := ne_t c_1
    rw [tl_0] at t_1
    have u_1 := iscell_t c_1 (by omega) (by omega)
    refine lv_iload_n hx hb dX5_cell_9 rfl (lv_at hl 3 rfl) ?_
    refine lv_iconst (v := 0) hx hb dX5_cell_10 (by decide) ?_
    refine lv_iconst (v := 2) hx hb dX5_cell_11 (by decide) ?_
    refine runS_i (va_runS (As := [.int p3, .int 0, .int 2]) (rest := []) ⟨hx, hb, hml, hown, hts⟩ (K_R_in p3 0 2) (va_cwS 3 hts gX5_cell_X5_in rfl rfl rfl (by decide +kernel) ⟨Nat.le_of_ble_eq_true rfl, Nat.le_of_ble_eq_true rfl⟩) (preS_of hE hA hS trivial) rfl rfl hl.1 rfl (lv_room (Nat.le_of_ble_eq_true rfl)) dX5_cell_12 ⟨Nat.zero_le _, Nat.zero_le _⟩) ?_
    refine lv_if_ne (tgt := 20) hx hb dX5_cell_15 (by decide) (fun c_2 => ?_) (fun c_2 => ?_)
    · have hM := hM.trans (if_neg c_2)
      have t_2 := ne_t c_2
      rw [tl_0] at t_2
      have u_2 := in_t c_2
      rw [tl_0, tl_2] at u_2
      refine lv_iload_n hx hb dX5_cell_20 rfl (lv_at hl 1 rfl) ?_
      refine lv_aload_n hx hb dX5_cell_21 rfl (lv_at hl 0 rfl) ?_
      refine va_get (D := D) (ci := 5) (v := .int (sR 0 6)) (C := RX5) (T := TX5) (N := 33) hx hb hts hinR hown hE.1 hPR 0 rfl rfl 6 (by decide) (hts (.fieldLink RX5 23 "WallStonesModel" "width" "I") (List.mem_of_getElem? (i := 1) rfl)) (fun _ h9 => h9) rfl dX5_cell_22 ?_
      refine lv_iload_n hx hb dX5_cell_25 rfl (lv_at hl 2 rfl) ?_
      refine lv_imul hx hb dX5_cell_26 ?_
      refine lv_iadd hx hb dX5_cell_27 ?_
      refine lv_istore (lv' := [(4, .int (p1 + ((sR 0 6) * p2))), (0, .ref (g 0)), (1, .int p1), (2, .int p2), (3, .int p3)]) hx hb dX5_cell_28 hl (by decide) rfl (fun ls hl => ?_)
      refine lv_iload_n hx hb dX5_cell_30 rfl (lv_at hl 4 rfl) ?_
      refine lv_if_ne (tgt := 44) hx hb dX5_cell_31 (by decide) (fun c_3 => ?_) (fun c_3 => ?_)
      · have hM := hM.trans (if_neg c_3)
        have t_3 := ne_t c_3
        rw [tl_0] at t_3
        refine lv_iload_n hx hb dX5_cell_44 rfl (lv_at hl 4 rfl) ?_
        refine lv_iconst (v := 1) hx hb dX5_cell_45 (by decide) ?_
        refine lv_icmp_ne (tgt := 59) hx hb dX5_cell_46 (by decide) (fun c_4 => ?_) (fun c_4 => ?_)
        · have hM := hM.trans (if_neg c_4)
          have t_4 := ne_t c_4
          rw [tl_1] at t_4
          refine lv_aload_n hx hb dX5_cell_59 rfl (lv_at hl 1 rfl) ?_
          refine va_get (D := D) (ci := 5) (v := .ref (g 6)) (C := RX5) (T := TX5) (N := 33) hx hb hts hinR hown hE.1 hPR 0 rfl rfl 10 (by decide) (hts (.fieldLink RX5 35 "WallStonesModel" "propped" "[I") (List.mem_of_getElem? (i := 4) rfl)) (fun _ h9 => h9) rfl dX5_cell_60 ?_
          refine lv_iload hx hb dX5_cell_63 (lv_at hl 0 rfl) ?_
          refine va_iald hx hb hE.1 hPR 6 0 rfl rfl (cell_in (s := sR) (by assumption) (by omega)) dX5_cell_65 ?_
          refine W.eq (g2 := F0 m 66 ls [.int (sR 11 (Int32.toNatClampNeg (p1 + ((sR 0 6) * p2))))]) rfl ?_
          have hM : (m_R_cell sR p1 p2 p3) = ((sR 11 (Int32.toNatClampNeg (p1 + ((sR 0 6) * p2)))) : Int32) := hM
          exact hret _ _ ls (nr_i _) dX5_cell_66 hM.symm
        · have hM := hM.trans (if_pos c_4)
          have t_4 := eq_t c_4
          rw [tl_1] at t_4
          refine lv_aload_n hx hb dX5_cell_49 rfl (lv_at hl 1 rfl) ?_
          refine va_get (D := D) (ci := 5) (v := .ref (g 5)) (C := RX5) (T := TX5) (N := 33) hx hb hts hinR hown hE.1 hPR 0 rfl rfl 9 (by decide) (hts (.fieldLink RX5 32 "WallStonesModel" "strength" "[I") (List.mem_of_getElem? (i := 3) rfl)) (fun _ h9 => h9) rfl dX5_cell_50 ?_
          refine lv_iload hx hb dX5_cell_53 (lv_at hl 0 rfl) ?_
          refine va_iald hx hb hE.1 hPR 5 0 rfl rfl (cell_in (s := sR) (by assumption) (by omega)) dX5_cell_55 ?_
          refine W.eq (g2 := F0 m 56 ls [.int (sR 10 (Int32.toNatClampNeg (p1 + ((sR 0 6) * p2))))]) rfl ?_
          refine lv_goto (tgt := 66) hx hb dX5_cell_56 (by decide) ?_
          have hM : (m_R_cell sR p1 p2 p3) = ((sR 10 (Int32.toNatClampNeg (p1 + ((sR 0 6) * p2)))) : Int32) := hM
          exact hret _ _ ls (nr_i _) dX5_cell_66 hM.symm
      · have hM := hM.trans (if_pos c_3)
        have t_3 := eq_t c_3
        rw [tl_0] at t_3
        refine lv_aload_n hx hb dX5_cell_34 rfl (lv_at hl 1 rfl) ?_
        refine va_get (D := D) (ci := 5) (v := .ref (g 4)) (C := RX5) (T := TX5) (N := 33) hx hb hts hinR hown hE.1 hPR 0 rfl rfl 8 (by decide) (hts (.fieldLink RX5 29 "WallStonesModel" "stands" "[I") (List.mem_of_getElem? (i := 2) rfl)) (fun _ h9 => h9) rfl dX5_cell_35 ?_
        refine lv_iload hx hb dX5_cell_38 (lv_at hl 0 rfl) ?_
        refine va_iald hx hb hE.1 hPR 4 0 rfl rfl (cell_in (s := sR) (by assumption) (by omega)) dX5_cell_40 ?_
        refine W.eq (g2 := F0 m 41 ls [.int (sR 9 (Int32.toNatClampNeg (p1 + ((sR 0 6) * p2))))]) rfl ?_
        refine lv_goto (tgt := 66) hx hb dX5_cell_41 (by decide) ?_
        have hM : (m_R_cell sR p1 p2 p3) = ((sR 9 (Int32.toNatClampNeg (p1 + ((sR 0 6) * p2)))) : Int32) := hM
        exact hret _ _ ls (nr_i _) dX5_cell_66 hM.symm
    · have hM := hM.trans (if_pos c_2)
      have t_2 := eq_t c_2
      rw [tl_0] at t_2
      refine lv_iconst (v := (-1)) hx hb dX5_cell_18 (by decide) ?_
      have hM : (m_R_cell sR p1 p2 p3) = ((-1) : Int32) := hM
      exact hret _ _ ls (nr_i _) dX5_cell_19 hM.symm
abbrev rm_R_level : Room := { frames := 1, cells := 0, slots := 0, locals := 22 }
set_option maxHeartbeats 4000000 in
set_option maxRecDepth 100000 in
theorem K_R_level {l : Launch} {D : va_G} {cI : ClassId} {lo : Nat} {g : Nat → Nat} (hg : wI g 0 16 lo) (sR : St) (vR : Int64) (p1 : Int32) : WRi l D cI lo yX5_level wsX5_level rm_R_level [.ref (g 0), .int p1] (fun H => va_P D vwCl (cellR cI g sR vR) H) (m_R_level sR p1).1 (fun H => va_P D vwCl (cellR cI g (m_R_level sR p1).2 vR) H) (wA g 0 16) := by
  refine ofW_WRi (cc := cX5_level) (maxL := 3) (ty := .int) (by decide +kernel) rfl (Nat.le_of_ble_eq_true rfl) ?_
  intro p e s m args below meth c Q hx hb hml hown hts hE hP hret ls hl
  have hown : s.vm.findClass RX5 = some m.cls := hown
  have hPR := hP
  have hA := wA.lo hg
  have hS : va_S (wA g 0 16) s.heap s.heap [] := va_S.rf
  obtain ⟨H, hH⟩ : ∃ z, z = s.heap := ⟨_, rfl⟩
  obtain ⟨locs, hlocs⟩ : ∃ z : List Loc, z = [] := ⟨_, rfl⟩
  have hPR : va_P D vwCl (cellR cI g sR vR) H := by rw [hH]; exact hPR
  have hS : va_S (wA g 0 16) s.heap H locs := by rw [hH, hlocs]; exact va_S.rf
  have gW : W p l e rm_R_level s m args below meth c H locs 0 0 Q (F0 m 0 ls []) → W p l e rm_R_level s m args below meth c s.heap [] 0 0 Q (F0 m 0 ls []) := by rw [hH, hlocs]; exact id
  refine gW ?_
  have hinR : ∀ w ∈ wsX50, w ∈ wsX5_level := fun w h => List.mem_cons_of_mem _ (List.mem_append_right _ h)
  have hl : lv_has ls 3 [(0, .ref (g 0)), (1, .int p1)] := hl
  have hM : (m_R_level sR p1) = (m_R_level sR p1) := rfl
  refine lv_iload_n hx hb dX5_level_0 rfl (lv_at hl 1 rfl) ?_
  refine lv_iconst (v := 0) hx hb dX5_level_1 (by decide) ?_
  refine lv_iconst (v := 2) hx hb dX5_level_2 (by decide) ?_
  refine runS_i (va_runS (As := [.int p1, .int 0, .int 2]) (rest := []) ⟨hx, hb, hml, hown, hts⟩ (K_R_in p1 0 2) (va_cwS 3 hts gX5_level_X5_in rfl rfl rfl (by decide +kernel) ⟨Nat.le_of_ble_eq_true rfl, Nat.le_of_ble_eq_true rfl⟩) (preS_of hE hA hS trivial) rfl rfl hl.1 rfl (lv_room (Nat.le_of_ble_eq_true rfl)) dX5_level_3 ⟨Nat.zero_le _, Nat.zero_le _⟩) ?_
  refine lv_if_ne (tgt := 11) hx hb dX5_level_6 (by decide) (fun c_1 => ?_) (fun c_1 => ?_)
  · have hM := hM.trans (if_neg c_1)
    have u_1 := in_t c_1
    rw [tl_0, tl_2] at u_1
    refine lv_aload_n hx hb dX5_level_11 rfl (lv_at hl 0 rfl) ?_
    refine va_get (D := D) (ci := 5) (v := .int (sR 0 11)) (C := RX5) (T := TX5) (N := 33) hx hb hts hinR hown hE.1 hPR 0 rfl rfl 11 (by decide) (hts (.fieldLink RX5 167 "WallStonesModel" "level" "I") (List.mem_of_getElem? (i := 1) rfl)) (fun _ h9 => h9) rfl dX5_level_12 ?_
    refine lv_istore_n (lv' := [(2, .int (sR 0 11)), (0, .ref (g 0)), (1, .int p1)]) hx hb dX5_level_15 rfl hl (by decide) rfl (fun ls hl => ?_)
    refine lv_aload_n hx hb dX5_level_16 rfl (lv_at hl 1 rfl) ?_
    refine lv_iload_n hx hb dX5_level_17 rfl (lv_at hl 2 rfl) ?_
    refine va_put (D := D) (ci := 5) (v := .int p1) (ty := .int) (C := RX5) (T := TX5) (N := 33) hx hb hts hinR tyX5 tyX5_ok nmX5 hown hE.1 hPR (wD_of hg (c := 0) (n := 16) (by decide) (by decide) rfl) hS 0 rfl rfl 11 (by decide) (hts (.fieldLink RX5 167 "WallStonesModel" "level" "I") (List.mem_of_getElem? (i := 1) rfl)) (fun _ h9 => h9) rfl (by decide +kernel) rfl rfl (Nat.le_of_ble_eq_true rfl) dX5_level_18 (fun H locs hPn _ hS => ?_)
    have hPR : va_P D vwCl (cellR cI g (up sR 0 11 p1) vR) H := (congrArg (fun z => va_P D vwCl z H) putR_R11).mp hPn
    refine lv_iload_n hx hb dX5_level_21 rfl (lv_at hl 0 rfl) ?_
    have hM : (m_R_level sR p1) = (((sR 0 11), (up sR 0 11 p1)) : Int32 × St) := hM
    exact hret (sR 0 11) H locs _ ls (nr_i _) dX5_level_22 (ret1 hM) (rP_v1 (P := fun (z0 : St) => va_P D vwCl (cellR cI g z0 vR) H) hM hPR) hS
  · have hM := hM.trans (if_pos c_1)
    refine lv_iconst (v := (-1)) hx hb dX5_level_9 (by decide) ?_
    have hM : (m_R_level sR p1) = (((-1), sR) : Int32 × St) := hM
    exact hret (-1) H locs _ ls (nr_i _) dX5_level_10 (ret1 hM) (rP_v1 (P := fun (z0 : St) => va_P D vwCl (cellR cI g z0 vR) H) hM hPR) hS
abbrev rm_R_standing : Room := { frames := 0, cells := 0, slots := 0, locals := 0 }
set_option maxHeartbeats 4000000 in
set_option maxRecDepth 100000 in
theorem K_R_standing {l : Launch} {D : va_G} {cI : ClassId} {lo : Nat} {g : Nat → Nat} (hg : wI g 0 16 lo) (sR : St) (vR : Int64) (p1 : Int32) (h0 : okR sR) (h1 : 0 ≤ p1.toInt ∧ p1.toInt < (sR 0 6).toInt) : ROi l D cI lo yX5_standing wsX5_standing rm_R_standing [.ref (g 0), .int p1] (fun H => va_P D vwCl (cellR cI g sR vR) H) (m_R_standing sR p1) := by
  refine ofW_ROi (cc := cX5_standing) (maxL := 4) (ty := .int) (by decide +kernel) rfl (Nat.le_of_ble_eq_true rfl) ?_
  intro p e s m args below meth c Q hx hb hml hown hts hE hP hret ls hl
  have hown : s.vm.findClass RX5 = some m.cls := hown
  have hPR := hP
  have hA : ∀ q : Nat, (fun _ : Nat => False) q → lo ≤ q := fun _ h => h.elim
  have hS : va_S (fun _ : Nat => False) s.heap s.heap [] := va_S.rf
  have hinR : ∀ w ∈ wsX50, w ∈ wsX5_standing := fun w h => List.mem_cons_of_mem _ (List.mem_append_right _ h)
  have hl : lv_has ls 4 [(0, .ref (g 0)), (1, .int p1)] := hl
  have nh0 := okR_lin h0
  have L_4 : ∀ (n : Nat) (x2_4 : Int32) (x3_4 : Int32) (ls : Array Slot), 0 ≤ x3_4.toInt ∧ x3_4.toInt ≤ (sR 0 7).toInt → ((sR 0 7).toInt - x3_4.toInt).toNat < n → lv_has ls 4 [(0, .ref (g 0)), (1, .int p1), (2, .int x2_4), (3, .int x3_4)] → (∀ (ls : Array Slot), lv_has ls 4 [(2, .int (wl (g_R_standing_4 sR p1) n (x2_4, x3_4)).1)] → W p l e rm_R_standing s m args below meth c s.heap [] 0 0 Q (F0 m 34 ls [])) → W p l e rm_R_standing s m args below meth c s.heap [] 0 0 Q (F0 m 4 ls []) := by
    intro n
    induction n with
    | zero =>
      intro x2_4 x3_4 ls i4_0 hn4 hl kk
      exact absurd hn4 (Nat.not_lt_zero _)
    | succ n ih =>
      intro x2_4 x3_4 ls i4_0 hn4 hl kk
      have hM : (g_R_standing_4 sR p1) (x2_4, x3_4) = (g_R_standing_4 sR p1) (x2_4, x3_4) := rfl
      refine lv_iload_n hx hb dX5_standing_4 rfl (lv_at hl 3 rfl) ?_
      refine lv_aload_n hx hb dX5_standing_5 rfl (lv_at hl 0 rfl) ?_
      refine va_get (D := D) (ci := 5) (v := .int (sR 0 7)) (C := RX5) (T := TX5) (N := 33) hx hb hts hinR hown hE.1 hPR 0 rfl rfl 7 (by decide) (hts (.fieldLink RX5 26 "WallStonesModel" "height" "I") (List.mem_of_getElem? (i := 1) rfl)) (fun _ h9 => h9) rfl dX5_standing_6 ?_
      refine lv_icmp_ge (tgt := 34) hx hb dX5_standing_9 (by decide) (fun c_1 => ?_) (fun c_1 => ?_)
      · have hM := hM.trans (if_pos c_1)
        have t_1 := le_t c_1
        rw [wl_none hM] at kk
        exact kk ls (lv_sub hl [2] rfl)
      · have hM := hM.trans (if_neg c_1)
        have t_1 := nle_t c_1
        refine lv_iload_n hx hb dX5_standing_12 rfl (lv_at hl 2 rfl) ?_
        refine lv_aload_n hx hb dX5_standing_13 rfl (lv_at hl 0 rfl) ?_
        refine va_get (D := D) (ci := 5) (v := .ref (g 4)) (C := RX5) (T := TX5) (N := 33) hx hb hts hinR hown hE.1 hPR 0 rfl rfl 8 (by decide) (hts (.fieldLink RX5 29 "WallStonesModel" "stands" "[I") (List.mem_of_getElem? (i := 2) rfl)) (fun _ h9 => h9) rfl dX5_standing_14 ?_
        refine lv_iload_n hx hb dX5_standing_17 rfl (lv_at hl 1 rfl) ?_
        refine lv_aload_n hx hb dX5_standing_18 rfl (lv_at hl 0 rfl) ?_
        refine va_get (D := D) (ci := 5) (v := .int (sR 0 6)) (C := RX5) (T := TX5) (N := 33) hx hb hts hinR hown hE.1 hPR 0 rfl rfl 6 (by decide) (hts (.fieldLink RX5 23 "WallStonesModel" "width" "I") (List.mem_of_getElem? (i := 3) rfl)) (fun _ h9 => h9) rfl dX5_standing_19 ?_
        refine lv_iload_n hx hb dX5_standing_22 rfl (lv_at hl 3 rfl) ?_
        refine lv_imul hx hb dX5_standing_23 ?_
        refine lv_iadd hx hb dX5_standing_24 ?_
        refine va_iald hx hb hE.1 hPR 4 0 rfl rfl (cell_in (s := sR) (by assumption) (by omega)) dX5_standing_25 ?_
        refine W.eq (g2 := F0 m 26 ls [.int (sR 9 (Int32.toNatClampNeg (p1 + ((sR 0 6) * x3_4)))), .int x2_4]) rfl ?_
        refine lv_iadd hx hb dX5_standing_26 ?_
        refine lv_istore_n (lv' := [(2, .int (x2_4 + (sR 9 (Int32.toNatClampNeg (p1 + ((sR 0 6) * x3_4)))))), (0, .ref (g 0)), (1, .int p1), (3, .int x3_4)]) hx hb dX5_standing_27 rfl hl (by decide) rfl (fun ls hl => ?_)
        refine lv_iinc (v := (x3_4 + 1)) (lv' := [(3, .int (x3_4 + 1)), (2, .int (x2_4 + (sR 9 (Int32.toNatClampNeg (p1 + ((sR 0 6) * x3_4)))))), (0, .ref (g 0)), (1, .int p1)]) hx hb dX5_standing_28 hl (k := 3) rfl rfl (by decide) rfl (fun ls hl => ?_)
        refine lv_goto (tgt := 4) hx hb dX5_standing_31 (by decide) ?_
        have := t_inc (x := x3_4) (by omega)
        rw [wl_some hM] at kk
        exact ih (x2_4 + (sR 9 (Int32.toNatClampNeg (p1 + ((sR 0 6) * x3_4))))) (x3_4 + 1) ls (by omega) (by omega) (lv_sub hl [2, 3, 1, 0] rfl) kk
  have J_34 : ∀ (x2_34 : Int32) (ls : Array Slot), lv_has ls 4 [(2, .int x2_34)] → (m_R_standing sR p1) = b_R_standing_34 sR x2_34 → W p l e rm_R_standing s m args below meth c s.heap [] 0 0 Q (F0 m 34 ls []) := by
    intro x2_34 ls hl hM
    refine lv_iload_n hx hb dX5_standing_34 rfl (lv_at hl 0 rfl) ?_
    have hM : (m_R_standing sR p1) = (x2_34 : Int32) := hM
    exact hret _ _ ls (nr_i _) dX5_standing_35 hM.symm
  have hM : (m_R_standing sR p1) = (m_R_standing sR p1) := rfl
  refine lv_iconst (v := 0) hx hb dX5_standing_0 (by decide) ?_
  refine lv_istore_n (lv' := [(2, .int 0), (0, .ref (g 0)), (1, .int p1)]) hx hb dX5_standing_1 rfl hl (by decide) rfl (fun ls hl => ?_)
  refine lv_iconst (v := 0) hx hb dX5_standing_2 (by decide) ?_
  refine lv_istore_n (lv' := [(3, .int 0), (2, .int 0), (0, .ref (g 0)), (1, .int p1)]) hx hb dX5_standing_3 rfl hl (by decide) rfl (fun ls hl => ?_)
  have z2 := tl_0
  refine L_4 7 0 0 ls (by omega) (by omega) (lv_sub hl [2, 3, 1, 0] rfl) (fun ls hl => ?_)
  exact J_34 (wl (g_R_standing_4 sR p1) 7 (0, 0)).1 ls (lv_sub hl [0] rfl) hM
abbrev rm_R_open : Room := { frames := 1, cells := 0, slots := 0, locals := 23 }
set_option maxHeartbeats 4000000 in
set_option maxRecDepth 100000 in
theorem K_R_open {l : Launch} {D : va_G} {cI : ClassId} {lo : Nat} {g : Nat → Nat} (hg : wI g 0 16 lo) (sR : St) (vR : Int64) (h0 : okR sR) : ROi l D cI lo yX5_open wsX5_open rm_R_open [.ref (g 0)] (fun H => va_P D vwCl (cellR cI g sR vR) H) (m_R_open sR) := by
  refine ofW_ROi (cc := cX5_open) (maxL := 2) (ty := .int) (by decide +kernel) rfl (Nat.le_of_ble_eq_true rfl) ?_
  intro p e s m args below meth c Q hx hb hml hown hts hE hP hret ls hl
  have hown : s.vm.findClass RX5 = some m.cls := hown
  have hPR := hP
  have hA : ∀ q : Nat, (fun _ : Nat => False) q → lo ≤ q := fun _ h => h.elim
  have hS : va_S (fun _ : Nat => False) s.heap s.heap [] := va_S.rf
  have hinR : ∀ w ∈ wsX50, w ∈ wsX5_open := fun w h => List.mem_cons_of_mem _ (List.mem_append_right _ h)
  have hl : lv_has ls 2 [(0, .ref (g 0))] := hl
  have nh0 := okR_lin h0
  have C_2 : ∀ (n : Nat) (x1_2 : Int32) (ls : Array Slot), 0 ≤ x1_2.toInt ∧ x1_2.toInt ≤ (sR 0 6).toInt → ((sR 0 6).toInt - x1_2.toInt).toNat < n → lv_has ls 2 [(0, .ref (g 0)), (1, .int x1_2)] → (m_R_open sR) = wc (g_R_open_2 sR) 0 n x1_2 → W p l e rm_R_open s m args below meth c s.heap [] 0 0 Q (F0 m 2 ls []) := by
    intro n
    induction n with
    | zero =>
      intro x1_2 ls i2_0 hn2 hl hO
      exact absurd hn2 (Nat.not_lt_zero _)
    | succ n ih =>
      intro x1_2 ls i2_0 hn2 hl hO
      have hM : (g_R_open_2 sR) x1_2 = (g_R_open_2 sR) x1_2 := rfl
      refine lv_iload_n hx hb dX5_open_2 rfl (lv_at hl 1 rfl) ?_
      refine lv_aload_n hx hb dX5_open_3 rfl (lv_at hl 0 rfl) ?_
      refine va_get (D := D) (ci := 5) (v := .int (sR 0 6)) (C := RX5) (T := TX5) (N := 33) hx hb hts hinR hown hE.1 hPR 0 rfl rfl 6 (by decide) (hts (.fieldLink RX5 23 "WallStonesModel" "width" "I") (List.mem_of_getElem? (i := 1) rfl)) (fun _ h9 => h9) rfl dX5_open_4 ?_
      refine lv_icmp_ge (tgt := 30) hx hb dX5_open_7 (by decide) (fun c_1 => ?_) (fun c_1 => ?_)
      · have hM := hM.trans (if_pos c_1)
        have t_1 := le_t c_1
        refine lv_bipush (v := (-9)) hx hb dX5_open_30 (by decide) ?_
        have hM := hO.trans (wc_inr hM)
        have hM : (m_R_open sR) = ((-9) : Int32) := hM
        exact hret _ _ ls (nr_i _) dX5_open_32 hM.symm
      · have hM := hM.trans (if_neg c_1)
        have t_1 := nle_t c_1
        refine lv_aload_n hx hb dX5_open_10 rfl (lv_at hl 0 rfl) ?_
        refine lv_iload_n hx hb dX5_open_11 rfl (lv_at hl 1 rfl) ?_
        refine runS_i (va_runV (As := [.int x1_2]) (rest := []) ⟨hx, hb, hml, hown, hts⟩ (K_R_standing hg sR vR x1_2 (by assumption) (by omega)) (cwV 1 hts gX5_open_X5_standing rfl rfl rfl (by decide +kernel) ⟨Nat.le_of_ble_eq_true rfl, Nat.le_of_ble_eq_true rfl⟩) (preV_of hE hA hS hPR (va_recv hE.1 hPR (ci := 5) (q0 := 0) rfl rfl)) rfl rfl hl.1 rfl (lv_room (Nat.le_of_ble_eq_true rfl)) dX5_open_12 ⟨Nat.zero_le _, Nat.zero_le _⟩) ?_
        refine lv_aload_n hx hb dX5_open_15 rfl (lv_at hl 0 rfl) ?_
        refine va_get (D := D) (ci := 5) (v := .int (sR 0 11)) (C := RX5) (T := TX5) (N := 33) hx hb hts hinR hown hE.1 hPR 0 rfl rfl 11 (by decide) (hts (.fieldLink RX5 167 "WallStonesModel" "level" "I") (List.mem_of_getElem? (i := 2) rfl)) (fun _ h9 => h9) rfl dX5_open_16 ?_
        refine lv_icmp_gt (tgt := 24) hx hb dX5_open_19 (by decide) (fun c_2 => ?_) (fun c_2 => ?_)
        · have hM := hM.trans (if_pos c_2)
          have t_2 := lt_t c_2
          refine lv_iinc (v := (x1_2 + 1)) (lv' := [(1, .int (x1_2 + 1)), (0, .ref (g 0))]) hx hb dX5_open_24 hl (k := 1) rfl rfl (by decide) rfl (fun ls hl => ?_)
          refine lv_goto (tgt := 2) hx hb dX5_open_27 (by decide) ?_
          have := t_inc (x := x1_2) (by omega)
          exact ih (x1_2 + 1) ls (by omega) (by omega) (lv_sub hl [1, 0] rfl) (hO.trans (wc_inl (f := (g_R_open_2 sR)) (s := x1_2) (t := (x1_2 + 1)) hM))
        · have hM := hM.trans (if_neg c_2)
          have t_2 := nlt_t c_2
          refine lv_iload_n hx hb dX5_open_22 rfl (lv_at hl 1 rfl) ?_
          have hM := hO.trans (wc_inr hM)
          have hM : (m_R_open sR) = (x1_2 : Int32) := hM
          exact hret _ _ ls (nr_i _) dX5_open_23 hM.symm
  have hM : (m_R_open sR) = (m_R_open sR) := rfl
  refine lv_iconst (v := 0) hx hb dX5_open_0 (by decide) ?_
  refine lv_istore_n (lv' := [(1, .int 0), (0, .ref (g 0))]) hx hb dX5_open_1 rfl hl (by decide) rfl (fun ls hl => ?_)
  have z3 := tl_0
  exact C_2 9 0 ls (by omega) (by omega) (lv_sub hl [1, 0] rfl) hM
abbrev rm_R_cheaper : Room := { frames := 0, cells := 0, slots := 0, locals := 0 }
set_option maxHeartbeats 4000000 in
set_option maxRecDepth 100000 in
theorem K_R_cheaper {l : Launch} {D : va_G} {cI : ClassId} {lo : Nat} {g : Nat → Nat} (hg : wI g 0 16 lo) (sR : St) (vR : Int64) (p1 : Int32) (p2 : Int32) (h0 : 0 ≤ p1.toInt ∧ p1.toInt ≤ 5) : WRv l D cI lo yX5_cheaper wsX5_cheaper rm_R_cheaper [.ref (g 0), .int p1, .int p2] (fun H => va_P D vwCl (cellR cI g sR vR) H) (fun H => va_P D vwCl (cellR cI g (m_R_cheaper sR p1 p2) vR) H) (wA g 0 16) := by
  refine ofW_WRv (cc := cX5_cheaper) (maxL := 3) (by decide +kernel) rfl (Nat.le_of_ble_eq_true rfl) ?_
  intro p e s m args below meth c Q hx hb hml hown hts hE hP hret ls hl
  have hown : s.vm.findClass RX5 = some m.cls := hown
  have hPR := hP
  have hA := wA.lo hg
  have hS : va_S (wA g 0 16) s.heap s.heap [] := va_S.rf
  obtain ⟨H, hH⟩ : ∃ z, z = s.heap := ⟨_, rfl⟩
  obtain ⟨locs, hlocs⟩ : ∃ z : List Loc, z = [] := ⟨_, rfl⟩
  have hPR : va_P D vwCl (cellR cI g sR vR) H := by rw [hH]; exact hPR
  have hS : va_S (wA g 0 16) s.heap H locs := by rw [hH, hlocs]; exact va_S.rf
  have gW : W p l e rm_R_cheaper s m args below meth c H locs 0 0 Q (F0 m 0 ls []) → W p l e rm_R_cheaper s m args below meth c s.heap [] 0 0 Q (F0 m 0 ls []) := by rw [hH, hlocs]; exact id
  refine gW ?_
  have hinR : ∀ w ∈ wsX50, w ∈ wsX5_cheaper := fun w h => List.mem_cons_of_mem _ (List.mem_append_right _ h)
  have hl : lv_has ls 3 [(0, .ref (g 0)), (1, .int p1), (2, .int p2)] := hl
  have hM : (m_R_cheaper sR p1 p2) = (m_R_cheaper sR p1 p2) := rfl
  refine lv_aload_n hx hb dX5_cheaper_0 rfl (lv_at hl 0 rfl) ?_
  refine va_get (D := D) (ci := 5) (v := .ref (g 15)) (C := RX5) (T := TX5) (N := 33) hx hb hts hinR hown hE.1 hPR 0 rfl rfl 32 (by decide) (hts (.fieldLink RX5 65 "WallStonesModel" "then" "[I") (List.mem_of_getElem? (i := 1) rfl)) (fun _ h9 => h9) rfl dX5_cheaper_1 ?_
  refine lv_iload_n hx hb dX5_cheaper_4 rfl (lv_at hl 1 rfl) ?_
  refine lv_iload_n hx hb dX5_cheaper_5 rfl (lv_at hl 2 rfl) ?_
  refine lv_aload_n hx hb dX5_cheaper_6 rfl (lv_at hl 0 rfl) ?_
  refine va_get (D := D) (ci := 5) (v := .ref (g 15)) (C := RX5) (T := TX5) (N := 33) hx hb hts hinR hown hE.1 hPR 0 rfl rfl 32 (by decide) (hts (.fieldLink RX5 65 "WallStonesModel" "then" "[I") (List.mem_of_getElem? (i := 1) rfl)) (fun _ h9 => h9) rfl dX5_cheaper_7 ?_
  refine lv_iload_n hx hb dX5_cheaper_10 rfl (lv_at hl 1 rfl) ?_
  refine va_iald hx hb hE.1 hPR 15 0 rfl rfl (vp_in_iff.mpr (by omega)) dX5_cheaper_11 ?_
  refine W.eq (g2 := F0 m 12 ls [.int (sR 33 (Int32.toNatClampNeg p1)), .int p2, .int p1, .ref (g 15)]) rfl ?_
  refine lv_icmp_ge (tgt := 19) hx hb dX5_cheaper_12 (by decide) (fun c_1 => ?_) (fun c_1 => ?_)
  · have hM := hM.trans (if_pos c_1)
    have t_1 := le_t c_1
    refine lv_aload_n hx hb dX5_cheaper_19 rfl (lv_at hl 0 rfl) ?_
    refine va_get (D := D) (ci := 5) (v := .ref (g 15)) (C := RX5) (T := TX5) (N := 33) hx hb hts hinR hown hE.1 hPR 0 rfl rfl 32 (by decide) (hts (.fieldLink RX5 65 "WallStonesModel" "then" "[I") (List.mem_of_getElem? (i := 1) rfl)) (fun _ h9 => h9) rfl dX5_cheaper_20 ?_
    refine lv_iload_n hx hb dX5_cheaper_23 rfl (lv_at hl 1 rfl) ?_
    refine va_iald hx hb hE.1 hPR 15 0 rfl rfl (vp_in_iff.mpr (by omega)) dX5_cheaper_24 ?_
    refine W.eq (g2 := F0 m 25 ls [.int (sR 33 (Int32.toNatClampNeg p1)), .int p1, .ref (g 15)]) rfl ?_
    refine va_iast hx hb hE.1 hPR (wD_of hg (c := 0) (n := 16) (by decide) (by decide) rfl) hS 15 0 rfl rfl (vp_in_iff.mpr (by omega)) dX5_cheaper_25 (fun H locs hPn _ hS => ?_)
    have hPR : va_P D vwCl (cellR cI g (up sR 33 (Int32.toNatClampNeg p1) (sR 33 (Int32.toNatClampNeg p1))) vR) H := (congrArg (fun z => va_P D vwCl z H) setR_R33).mp hPn
    have hM : (m_R_cheaper sR p1 p2) = ((up sR 33 (Int32.toNatClampNeg p1) (sR 33 (Int32.toNatClampNeg p1))) : St) := hM
    exact hret H locs _ ls dX5_cheaper_26 (rP_s1 (P := fun (z0 : St) => va_P D vwCl (cellR cI g z0 vR) H) hM hPR) hS
  · have hM := hM.trans (if_neg c_1)
    have t_1 := nle_t c_1
    refine lv_iload_n hx hb dX5_cheaper_15 rfl (lv_at hl 2 rfl) ?_
    refine lv_goto (tgt := 25) hx hb dX5_cheaper_16 (by decide) ?_
    refine va_iast hx hb hE.1 hPR (wD_of hg (c := 0) (n := 16) (by decide) (by decide) rfl) hS 15 0 rfl rfl (vp_in_iff.mpr (by omega)) dX5_cheaper_25 (fun H locs hPn _ hS => ?_)
    have hPR : va_P D vwCl (cellR cI g (up sR 33 (Int32.toNatClampNeg p1) p2) vR) H := (congrArg (fun z => va_P D vwCl z H) setR_R33).mp hPn
    have hM : (m_R_cheaper sR p1 p2) = ((up sR 33 (Int32.toNatClampNeg p1) p2) : St) := hM
    exact hret H locs _ ls dX5_cheaper_26 (rP_s1 (P := fun (z0 : St) => va_P D vwCl (cellR cI g z0 vR) H) hM hPR) hS
abbrev rm_R_fewest : Room := { frames := 1, cells := 0, slots := 0, locals := 22 }
set_option maxHeartbeats 4000000 in
set_option maxRecDepth 100000 in
theorem K_R_fewest {l : Launch} {D : va_G} {cI : ClassId} {lo : Nat} {g : Nat → Nat} (hg : wI g 0 16 lo) (sR : St) (vR : Int64) (p1 : Int32) (p2 : Int32) (h0 : okR sR) (h1 : 0 ≤ p1.toInt ∧ p1.toInt < (sR 0 6).toInt) (h2 : 1 ≤ p2.toInt ∧ p2.toInt ≤ 99) : WRi l D cI lo yX5_fewest wsX5_fewest rm_R_fewest [.ref (g 0), .int p1, .int p2] (fun H => va_P D vwCl (cellR cI g sR vR) H) (m_R_fewest sR p1 p2).1 (fun H => va_P D vwCl (cellR cI g (m_R_fewest sR p1 p2).2 vR) H) (wA g 0 16) := by
  refine ofW_WRi (cc := cX5_fewest) (maxL := 9) (ty := .int) (by decide +kernel) rfl (Nat.le_of_ble_eq_true rfl) ?_
  intro p e s m args below meth c Q hx hb hml hown hts hE hP hret ls hl
  have hown : s.vm.findClass RX5 = some m.cls := hown
  have hPR := hP
  have hA := wA.lo hg
  have hS : va_S (wA g 0 16) s.heap s.heap [] := va_S.rf
  obtain ⟨H, hH⟩ : ∃ z, z = s.heap := ⟨_, rfl⟩
  obtain ⟨locs, hlocs⟩ : ∃ z : List Loc, z = [] := ⟨_, rfl⟩
  have hPR : va_P D vwCl (cellR cI g sR vR) H := by rw [hH]; exact hPR
  have hS : va_S (wA g 0 16) s.heap H locs := by rw [hH, hlocs]; exact va_S.rf
  have gW : W p l e rm_R_fewest s m args below meth c H locs 0 0 Q (F0 m 0 ls []) → W p l e rm_R_fewest s m args below meth c s.heap [] 0 0 Q (F0 m 0 ls []) := by rw [hH, hlocs]; exact id
  refine gW ?_
  have hinR : ∀ w ∈ wsX50, w ∈ wsX5_fewest := fun w h => List.mem_cons_of_mem _ (List.mem_append_right _ h)
  have hl : lv_has ls 9 [(0, .ref (g 0)), (1, .int p1), (2, .int p2)] := hl
  have nh0 := okR_lin h0
  have L_62 : ∀ (n : Nat) (sR_62 : St) (x3_62 : Int32) (x4_62 : Int32) (x5_62 : Int32) (x6_62 : Int32) (H : Heap) (locs : List Loc) (ls : Array Slot), 0 ≤ x6_62.toInt ∧ x6_62.toInt ≤ 6 → okR sR_62 → p1.toInt < (sR_62 0 6).toInt → (sR_62 0 7).toInt = (sR 0 7).toInt → (6 - x6_62.toInt).toNat < n → va_P D vwCl (cellR cI g sR_62 vR) H → va_S (wA g 0 16) s.heap H locs → lv_has ls 9 [(0, .ref (g 0)), (1, .int p1), (2, .int p2), (3, .int x3_62), (4, .int x4_62), (5, .int x5_62), (6, .int x6_62)] → (∀ (H : Heap) (locs : List Loc) (ls : Array Slot), 0 ≤ (wl (g_R_fewest_62 x3_62) n (sR_62, x6_62)).2.toInt ∧ (wl (g_R_fewest_62 x3_62) n (sR_62, x6_62)).2.toInt ≤ 6 → okR (wl (g_R_fewest_62 x3_62) n (sR_62, x6_62)).1 → p1.toInt < ((wl (g_R_fewest_62 x3_62) n (sR_62, x6_62)).1 0 6).toInt → ((wl (g_R_fewest_62 x3_62) n (sR_62, x6_62)).1 0 7).toInt = (sR 0 7).toInt → va_P D vwCl (cellR cI g (wl (g_R_fewest_62 x3_62) n (sR_62, x6_62)).1 vR) H → va_S (wA g 0 16) s.heap H locs → lv_has ls 9 [(0, .ref (g 0)), (1, .int p1), (2, .int p2), (3, .int x3_62), (4, .int x4_62), (5, .int x5_62)] → W p l e rm_R_fewest s m args below meth c H locs 0 0 Q (F0 m 83 ls [])) → W p l e rm_R_fewest s m args below meth c H locs 0 0 Q (F0 m 62 ls []) := by
    intro n
    induction n with
    | zero =>
      intro sR_62 x3_62 x4_62 x5_62 x6_62 H locs ls i62_0 i62_1 i62_2 i62_3 hn62 hPR hS hl kk
      exact absurd hn62 (Nat.not_lt_zero _)
    | succ n ih =>
      intro sR_62 x3_62 x4_62 x5_62 x6_62 H locs ls i62_0 i62_1 i62_2 i62_3 hn62 hPR hS hl kk
      have ni62_1 := okR_lin i62_1
      have hM : (g_R_fewest_62 x3_62) (sR_62, x6_62) = (g_R_fewest_62 x3_62) (sR_62, x6_62) := rfl
      refine lv_iload hx hb dX5_fewest_62 (lv_at hl 6 rfl) ?_
      refine lv_bipush (v := 6) hx hb dX5_fewest_64 (by decide) ?_
      refine lv_icmp_ge (tgt := 83) hx hb dX5_fewest_66 (by decide) (fun c_1 => ?_) (fun c_1 => ?_)
      · have hM := hM.trans (if_pos c_1)
        have t_1 := le_t c_1
        rw [tl_6] at t_1
        rw [wl_none hM] at kk
        try dsimp only at kk
        exact kk H locs ls (by omega) (by assumption) (by omega) (by omega) hPR hS (lv_sub hl [0, 1, 2, 3, 4, 5] rfl)
      · have hM := hM.trans (if_neg c_1)
        have t_1 := nle_t c_1
        rw [tl_6] at t_1
        refine lv_aload_n hx hb dX5_fewest_69 rfl (lv_at hl 0 rfl) ?_
        refine va_get (D := D) (ci := 5) (v := .ref (g 15)) (C := RX5) (T := TX5) (N := 33) hx hb hts hinR hown hE.1 hPR 0 rfl rfl 32 (by decide) (hts (.fieldLink RX5 65 "WallStonesModel" "then" "[I") (List.mem_of_getElem? (i := 5) rfl)) (fun _ h9 => h9) rfl dX5_fewest_70 ?_
        refine lv_iload hx hb dX5_fewest_73 (lv_at hl 6 rfl) ?_
        refine lv_iload_n hx hb dX5_fewest_75 rfl (lv_at hl 3 rfl) ?_
        refine va_iast hx hb hE.1 hPR (wD_of hg (c := 0) (n := 16) (by decide) (by decide) rfl) hS 15 0 rfl rfl (vp_in_iff.mpr (by omega)) dX5_fewest_76 (fun H locs hPn _ hS => ?_)
        have hPR : va_P D vwCl (cellR cI g (up sR_62 33 (Int32.toNatClampNeg x6_62) x3_62) vR) H := (congrArg (fun z => va_P D vwCl z H) setR_R33).mp hPn
        refine lv_iinc (v := (x6_62 + 1)) (lv' := [(6, .int (x6_62 + 1)), (0, .ref (g 0)), (1, .int p1), (2, .int p2), (3, .int x3_62), (4, .int x4_62), (5, .int x5_62)]) hx hb dX5_fewest_77 hl (k := 6) rfl rfl (by decide) rfl (fun ls hl => ?_)
        refine lv_goto (tgt := 62) hx hb dX5_fewest_80 (by decide) ?_
        have q2 : ((up sR_62 33 (Int32.toNatClampNeg x6_62) x3_62) 0 6).toInt = (sR_62 0 6).toInt := rfl
        have q3 : ((up sR_62 33 (Int32.toNatClampNeg x6_62) x3_62) 0 7).toInt = (sR_62 0 7).toInt := rfl
        have := t_inc (x := x6_62) (by omega)
        rw [wl_some hM] at kk
        exact ih (up sR_62 33 (Int32.toNatClampNeg x6_62) x3_62) x3_62 x4_62 x5_62 (x6_62 + 1) H locs ls (by omega) (by assumption) (by omega) (by omega) (by omega) hPR hS (lv_sub hl [1, 2, 3, 4, 5, 6, 0] rfl) kk
  have L_86 : ∀ (n : Nat) (sR_86 : St) (x3_86 : Int32) (x4_86 : Int32) (x5_86 : Int32) (x6_86 : Int32) (H : Heap) (locs : List Loc) (ls : Array Slot), 0 ≤ x6_86.toInt ∧ x6_86.toInt ≤ 3 → okR sR_86 → p1.toInt < (sR_86 0 6).toInt → 0 ≤ x5_86.toInt ∧ x5_86.toInt ≤ 47 → (sR_86 0 7).toInt = (sR 0 7).toInt → (3 - x6_86.toInt).toNat < n → va_P D vwCl (cellR cI g sR_86 vR) H → va_S (wA g 0 16) s.heap H locs → lv_has ls 9 [(0, .ref (g 0)), (1, .int p1), (2, .int p2), (3, .int x3_86), (4, .int x4_86), (5, .int x5_86), (6, .int x6_86)] → (∀ (H : Heap) (locs : List Loc) (ls : Array Slot), 0 ≤ (wl (g_R_fewest_86 p2 x3_86 x5_86) n (sR_86, x6_86)).2.toInt ∧ (wl (g_R_fewest_86 p2 x3_86 x5_86) n (sR_86, x6_86)).2.toInt ≤ 3 → okR (wl (g_R_fewest_86 p2 x3_86 x5_86) n (sR_86, x6_86)).1 → p1.toInt < ((wl (g_R_fewest_86 p2 x3_86 x5_86) n (sR_86, x6_86)).1 0 6).toInt → 0 ≤ x5_86.toInt ∧ x5_86.toInt ≤ 47 → ((wl (g_R_fewest_86 p2 x3_86 x5_86) n (sR_86, x6_86)).1 0 7).toInt = (sR 0 7).toInt → va_P D vwCl (cellR cI g (wl (g_R_fewest_86 p2 x3_86 x5_86) n (sR_86, x6_86)).1 vR) H → va_S (wA g 0 16) s.heap H locs → lv_has ls 9 [(0, .ref (g 0)), (1, .int p1), (2, .int p2), (3, .int x3_86), (4, .int x4_86)] → W p l e rm_R_fewest s m args below meth c H locs 0 0 Q (F0 m 250 ls [])) → W p l e rm_R_fewest s m args below meth c H locs 0 0 Q (F0 m 86 ls []) := by
    intro n
    induction n with
    | zero =>
      intro sR_86 x3_86 x4_86 x5_86 x6_86 H locs ls i86_0 i86_1 i86_2 i86_3 i86_4 hn86 hPR hS hl kk
      exact absurd hn86 (Nat.not_lt_zero _)
    | succ n ih =>
      intro sR_86 x3_86 x4_86 x5_86 x6_86 H locs ls i86_0 i86_1 i86_2 i86_3 i86_4 hn86 hPR hS hl kk
      have ni86_1 := okR_lin i86_1
      have hM : (g_R_fewest_86 p2 x3_86 x5_86) (sR_86, x6_86) = (g_R_fewest_86 p2 x3_86 x5_86) (sR_86, x6_86) := rfl
      refine lv_iload hx hb dX5_fewest_86 (lv_at hl 6 rfl) ?_
      refine lv_iconst (v := 3) hx hb dX5_fewest_88 (by decide) ?_
      refine lv_icmp_ge (tgt := 250) hx hb dX5_fewest_89 (by decide) (fun c_4 => ?_) (fun c_4 => ?_)
      · have hM := hM.trans (if_pos c_4)
        have t_4 := le_t c_4
        rw [tl_3] at t_4
        rw [wl_none hM] at kk
        try dsimp only at kk
        exact kk H locs ls (by omega) (by assumption) (by omega) (by omega) (by omega) hPR hS (lv_sub hl [0, 1, 2, 3, 4] rfl)
      · have hM := hM.trans (if_neg c_4)
        have t_4 := nle_t c_4
        rw [tl_3] at t_4
        have d1 := dbl (a := x6_86) (by omega)
        refine lv_aload_n hx hb dX5_fewest_92 rfl (lv_at hl 0 rfl) ?_
        refine va_get (D := D) (ci := 5) (v := .ref (g 14)) (C := RX5) (T := TX5) (N := 33) hx hb hts hinR hown hE.1 hPR 0 rfl rfl 31 (by decide) (hts (.fieldLink RX5 62 "WallStonesModel" "cost" "[I") (List.mem_of_getElem? (i := 2) rfl)) (fun _ h9 => h9) rfl dX5_fewest_93 ?_
        refine lv_iconst (v := 2) hx hb dX5_fewest_96 (by decide) ?_
        refine lv_iload hx hb dX5_fewest_97 (lv_at hl 6 rfl) ?_
        refine lv_imul hx hb dX5_fewest_99 ?_
        refine va_iald hx hb hE.1 hPR 14 0 rfl rfl (vp_in_iff.mpr (by omega)) dX5_fewest_100 ?_
        refine W.eq (g2 := F0 m 101 ls [.int (sR_86 32 (Int32.toNatClampNeg (2 * x6_86)))]) rfl ?_
        refine lv_istore (lv' := [(7, .int (sR_86 32 (Int32.toNatClampNeg (2 * x6_86)))), (0, .ref (g 0)), (1, .int p1), (2, .int p2), (3, .int x3_86), (4, .int x4_86), (5, .int x5_86), (6, .int x6_86)]) hx hb dX5_fewest_101 hl (by decide) rfl (fun ls hl => ?_)
        refine lv_aload_n hx hb dX5_fewest_103 rfl (lv_at hl 1 rfl) ?_
        refine va_get (D := D) (ci := 5) (v := .ref (g 14)) (C := RX5) (T := TX5) (N := 33) hx hb hts hinR hown hE.1 hPR 0 rfl rfl 31 (by decide) (hts (.fieldLink RX5 62 "WallStonesModel" "cost" "[I") (List.mem_of_getElem? (i := 2) rfl)) (fun _ h9 => h9) rfl dX5_fewest_104 ?_
        refine lv_iconst (v := 2) hx hb dX5_fewest_107 (by decide) ?_
        refine lv_iload hx hb dX5_fewest_108 (lv_at hl 7 rfl) ?_
        refine lv_imul hx hb dX5_fewest_110 ?_
        refine lv_iconst (v := 1) hx hb dX5_fewest_111 (by decide) ?_
        refine lv_iadd hx hb dX5_fewest_112 ?_
        refine va_iald hx hb hE.1 hPR 14 0 rfl rfl (vp_in_iff.mpr (by omega)) dX5_fewest_113 ?_
        refine W.eq (g2 := F0 m 114 ls [.int (sR_86 32 (Int32.toNatClampNeg ((2 * x6_86) + 1)))]) rfl ?_
        refine lv_istore (lv' := [(8, .int (sR_86 32 (Int32.toNatClampNeg ((2 * x6_86) + 1)))), (7, .int (sR_86 32 (Int32.toNatClampNeg (2 * x6_86)))), (0, .ref (g 0)), (1, .int p1), (2, .int p2), (3, .int x3_86), (4, .int x4_86), (5, .int x5_86), (6, .int x6_86)]) hx hb dX5_fewest_114 hl (by decide) rfl (fun ls hl => ?_)
        refine lv_aload_n hx hb dX5_fewest_116 rfl (lv_at hl 2 rfl) ?_
        refine va_get (D := D) (ci := 5) (v := .ref (g 4)) (C := RX5) (T := TX5) (N := 33) hx hb hts hinR hown hE.1 hPR 0 rfl rfl 8 (by decide) (hts (.fieldLink RX5 29 "WallStonesModel" "stands" "[I") (List.mem_of_getElem? (i := 6) rfl)) (fun _ h9 => h9) rfl dX5_fewest_117 ?_
        refine lv_iload hx hb dX5_fewest_120 (lv_at hl 7 rfl) ?_
        refine va_iald hx hb hE.1 hPR 4 0 rfl rfl (vp_in_iff.mpr (by omega)) dX5_fewest_122 ?_
        refine W.eq (g2 := F0 m 123 ls [.int (sR_86 9 (Int32.toNatClampNeg x5_86))]) rfl ?_
        refine lv_if_ne (tgt := 153) hx hb dX5_fewest_123 (by decide) (fun c_5 => ?_) (fun c_5 => ?_)
        · have hM := hM.trans (if_neg c_5)
          have t_5 := ne_t c_5
          rw [tl_0] at t_5
          refine lv_aload_n hx hb dX5_fewest_153 rfl (lv_at hl 2 rfl) ?_
          refine lv_iconst (v := 2) hx hb dX5_fewest_154 (by decide) ?_
          refine lv_iload hx hb dX5_fewest_155 (lv_at hl 8 rfl) ?_
          refine lv_imul hx hb dX5_fewest_157 ?_
          refine lv_iconst (v := 1) hx hb dX5_fewest_158 (by decide) ?_
          refine lv_iadd hx hb dX5_fewest_159 ?_
          refine lv_iload hx hb dX5_fewest_160 (lv_at hl 1 rfl) ?_
          refine lv_aload_n hx hb dX5_fewest_162 rfl (lv_at hl 2 rfl) ?_
          refine va_get (D := D) (ci := 5) (v := .ref (g 5)) (C := RX5) (T := TX5) (N := 33) hx hb hts hinR hown hE.1 hPR 0 rfl rfl 9 (by decide) (hts (.fieldLink RX5 32 "WallStonesModel" "strength" "[I") (List.mem_of_getElem? (i := 7) rfl)) (fun _ h9 => h9) rfl dX5_fewest_163 ?_
          refine lv_iload hx hb dX5_fewest_166 (lv_at hl 7 rfl) ?_
          refine va_iald hx hb hE.1 hPR 5 0 rfl rfl (vp_in_iff.mpr (by omega)) dX5_fewest_168 ?_
          refine W.eq (g2 := F0 m 169 ls [.int (sR_86 10 (Int32.toNatClampNeg x5_86)), .int (sR_86 32 (Int32.toNatClampNeg (2 * x6_86))), .int ((2 * x6_86) + 1), .ref (g 0)]) rfl ?_
          refine lv_iload_n hx hb dX5_fewest_169 rfl (lv_at hl 4 rfl) ?_
          refine lv_iadd hx hb dX5_fewest_170 ?_
          refine lv_iconst (v := 1) hx hb dX5_fewest_171 (by decide) ?_
          refine lv_isub hx hb dX5_fewest_172 ?_
          refine lv_iload_n hx hb dX5_fewest_173 rfl (lv_at hl 4 rfl) ?_
          refine lv_idiv hx hb dX5_fewest_174 (ii_ne (b := 0) (by show _ ≠ (0 : Int); omega)) ?_
          refine lv_iadd hx hb dX5_fewest_175 ?_
          refine runW_v (va_runV (As := [.int ((2 * x6_86) + 1), .int ((sR_86 32 (Int32.toNatClampNeg (2 * x6_86))) + ((((sR_86 10 (Int32.toNatClampNeg x5_86)) + p2) - 1) / p2))]) (rest := []) ⟨hx, hb, hml, hown, hts⟩ (K_R_cheaper hg sR_86 vR ((2 * x6_86) + 1) ((sR_86 32 (Int32.toNatClampNeg (2 * x6_86))) + ((((sR_86 10 (Int32.toNatClampNeg x5_86)) + p2) - 1) / p2)) (by omega)) (cwV 2 hts gX5_fewest_X5_cheaper rfl rfl rfl (by decide +kernel) ⟨Nat.le_of_ble_eq_true rfl, Nat.le_of_ble_eq_true rfl⟩) (preV_of hE hA hS hPR (va_recv hE.1 hPR (ci := 5) (q0 := 0) rfl rfl)) rfl rfl hl.1 rfl (lv_room (Nat.le_of_ble_eq_true rfl)) dX5_fewest_176 ⟨Nat.zero_le _, Nat.zero_le _⟩) hS (fun _ h9 => h9) (fun H locs hQ hk hS => ?_)
          have hPR : va_P D vwCl (cellR cI g (m_R_cheaper sR_86 ((2 * x6_86) + 1) ((sR_86 32 (Int32.toNatClampNeg (2 * x6_86))) + ((((sR_86 10 (Int32.toNatClampNeg x5_86)) + p2) - 1) / p2))) vR) H := hQ
          have v6 : okR (m_R_cheaper sR_86 ((2 * x6_86) + 1) ((sR_86 32 (Int32.toNatClampNeg (2 * x6_86))) + ((((sR_86 10 (Int32.toNatClampNeg x5_86)) + p2) - 1) / p2))) := okR_cheaper (by assumption)
          have w6_3 : ((m_R_cheaper sR_86 ((2 * x6_86) + 1) ((sR_86 32 (Int32.toNatClampNeg (2 * x6_86))) + ((((sR_86 10 (Int32.toNatClampNeg x5_86)) + p2) - 1) / p2))) 0 3).toInt = (sR_86 0 3).toInt := congrArg Int32.toInt (fr_R_cheaper (by omega))
          have w6_6 : ((m_R_cheaper sR_86 ((2 * x6_86) + 1) ((sR_86 32 (Int32.toNatClampNeg (2 * x6_86))) + ((((sR_86 10 (Int32.toNatClampNeg x5_86)) + p2) - 1) / p2))) 0 6).toInt = (sR_86 0 6).toInt := congrArg Int32.toInt (fr_R_cheaper (by omega))
          have w6_7 : ((m_R_cheaper sR_86 ((2 * x6_86) + 1) ((sR_86 32 (Int32.toNatClampNeg (2 * x6_86))) + ((((sR_86 10 (Int32.toNatClampNeg x5_86)) + p2) - 1) / p2))) 0 7).toInt = (sR_86 0 7).toInt := congrArg Int32.toInt (fr_R_cheaper (by omega))
          have w6_11 : ((m_R_cheaper sR_86 ((2 * x6_86) + 1) ((sR_86 32 (Int32.toNatClampNeg (2 * x6_86))) + ((((sR_86 10 (Int32.toNatClampNeg x5_86)) + p2) - 1) / p2))) 0 11).toInt = (sR_86 0 11).toInt := congrArg Int32.toInt (fr_R_cheaper (by omega))
          have w6_16 : ((m_R_cheaper sR_86 ((2 * x6_86) + 1) ((sR_86 32 (Int32.toNatClampNeg (2 * x6_86))) + ((((sR_86 10 (Int32.toNatClampNeg x5_86)) + p2) - 1) / p2))) 0 16).toInt = (sR_86 0 16).toInt := congrArg Int32.toInt (fr_R_cheaper (by omega))
          refine lv_aload_n hx hb dX5_fewest_179 rfl (lv_at hl 2 rfl) ?_
          refine lv_iconst (v := 2) hx hb dX5_fewest_180 (by decide) ?_
          refine lv_iload hx hb dX5_fewest_181 (lv_at hl 8 rfl) ?_
          refine lv_imul hx hb dX5_fewest_183 ?_
          refine lv_iconst (v := 1) hx hb dX5_fewest_184 (by decide) ?_
          refine lv_iadd hx hb dX5_fewest_185 ?_
          refine lv_iload hx hb dX5_fewest_186 (lv_at hl 0 rfl) ?_
          refine lv_aload_n hx hb dX5_fewest_188 rfl (lv_at hl 2 rfl) ?_
          refine va_get (D := D) (ci := 5) (v := .ref (g 6)) (C := RX5) (T := TX5) (N := 33) hx hb hts hinR hown hE.1 hPR 0 rfl rfl 10 (by decide) (hts (.fieldLink RX5 35 "WallStonesModel" "propped" "[I") (List.mem_of_getElem? (i := 8) rfl)) (fun _ h9 => h9) rfl dX5_fewest_189 ?_
          refine lv_iload hx hb dX5_fewest_192 (lv_at hl 7 rfl) ?_
          refine va_iald hx hb hE.1 hPR 6 0 rfl rfl (vp_in_iff.mpr (by omega)) dX5_fewest_194 ?_
          refine W.eq (g2 := F0 m 195 ls [.int ((m_R_cheaper sR_86 ((2 * x6_86) + 1) ((sR_86 32 (Int32.toNatClampNeg (2 * x6_86))) + ((((sR_86 10 (Int32.toNatClampNeg x5_86)) + p2) - 1) / p2))) 11 (Int32.toNatClampNeg x5_86)), .int (sR_86 32 (Int32.toNatClampNeg ((2 * x6_86) + 1))), .int ((2 * x6_86) + 1), .ref (g 0)]) rfl ?_
          refine lv_iadd hx hb dX5_fewest_195 ?_
          refine runW_v (va_runV (As := [.int ((2 * x6_86) + 1), .int ((sR_86 32 (Int32.toNatClampNeg ((2 * x6_86) + 1))) + ((m_R_cheaper sR_86 ((2 * x6_86) + 1) ((sR_86 32 (Int32.toNatClampNeg (2 * x6_86))) + ((((sR_86 10 (Int32.toNatClampNeg x5_86)) + p2) - 1) / p2))) 11 (Int32.toNatClampNeg x5_86)))]) (rest := []) ⟨hx, hb, hml, hown, hts⟩ (K_R_cheaper hg (m_R_cheaper sR_86 ((2 * x6_86) + 1) ((sR_86 32 (Int32.toNatClampNeg (2 * x6_86))) + ((((sR_86 10 (Int32.toNatClampNeg x5_86)) + p2) - 1) / p2))) vR ((2 * x6_86) + 1) ((sR_86 32 (Int32.toNatClampNeg ((2 * x6_86) + 1))) + ((m_R_cheaper sR_86 ((2 * x6_86) + 1) ((sR_86 32 (Int32.toNatClampNeg (2 * x6_86))) + ((((sR_86 10 (Int32.toNatClampNeg x5_86)) + p2) - 1) / p2))) 11 (Int32.toNatClampNeg x5_86))) (by omega)) (cwV 2 hts gX5_fewest_X5_cheaper rfl rfl rfl (by decide +kernel) ⟨Nat.le_of_ble_eq_true rfl, Nat.le_of_ble_eq_true rfl⟩) (preV_of hE hA hS hPR (va_recv hE.1 hPR (ci := 5) (q0 := 0) rfl rfl)) rfl rfl hl.1 rfl (lv_room (Nat.le_of_ble_eq_true rfl)) dX5_fewest_196 ⟨Nat.zero_le _, Nat.zero_le _⟩) hS (fun _ h9 => h9) (fun H locs hQ hk hS => ?_)
          have hPR : va_P D vwCl (cellR cI g (m_R_cheaper (m_R_cheaper sR_86 ((2 * x6_86) + 1) ((sR_86 32 (Int32.toNatClampNeg (2 * x6_86))) + ((((sR_86 10 (Int32.toNatClampNeg x5_86)) + p2) - 1) / p2))) ((2 * x6_86) + 1) ((sR_86 32 (Int32.toNatClampNeg ((2 * x6_86) + 1))) + ((m_R_cheaper sR_86 ((2 * x6_86) + 1) ((sR_86 32 (Int32.toNatClampNeg (2 * x6_86))) + ((((sR_86 10 (Int32.toNatClampNeg x5_86)) + p2) - 1) / p2))) 11 (Int32.toNatClampNeg x5_86)))) vR) H := hQ
          have v7 : okR (m_R_cheaper (m_R_cheaper sR_86 ((2 * x6_86) + 1) ((sR_86 32 (Int32.toNatClampNeg (2 * x6_86))) + ((((sR_86 10 (Int32.toNatClampNeg x5_86)) + p2) - 1) / p2))) ((2 * x6_86) + 1) ((sR_86 32 (Int32.toNatClampNeg ((2 * x6_86) + 1))) + ((m_R_cheaper sR_86 ((2 * x6_86) + 1) ((sR_86 32 (Int32.toNatClampNeg (2 * x6_86))) + ((((sR_86 10 (Int32.toNatClampNeg x5_86)) + p2) - 1) / p2))) 11 (Int32.toNatClampNeg x5_86)))) := okR_cheaper (by assumption)
          have w7_3 : ((m_R_cheaper (m_R_cheaper sR_86 ((2 * x6_86) + 1) ((sR_86 32 (Int32.toNatClampNeg (2 * x6_86))) + ((((sR_86 10 (Int32.toNatClampNeg x5_86)) + p2) - 1) / p2))) ((2 * x6_86) + 1) ((sR_86 32 (Int32.toNatClampNeg ((2 * x6_86) + 1))) + ((m_R_cheaper sR_86 ((2 * x6_86) + 1) ((sR_86 32 (Int32.toNatClampNeg (2 * x6_86))) + ((((sR_86 10 (Int32.toNatClampNeg x5_86)) + p2) - 1) / p2))) 11 (Int32.toNatClampNeg x5_86)))) 0 3).toInt = ((m_R_cheaper sR_86 ((2 * x6_86) + 1) ((sR_86 32 (Int32.toNatClampNeg (2 * x6_86))) + ((((sR_86 10 (Int32.toNatClampNeg x5_86)) + p2) - 1) / p2))) 0 3).toInt := congrArg Int32.toInt (fr_R_cheaper (by omega))
          have w7_6 : ((m_R_cheaper (m_R_cheaper sR_86 ((2 * x6_86) + 1) ((sR_86 32 (Int32.toNatClampNeg (2 * x6_86))) + ((((sR_86 10 (Int32.toNatClampNeg x5_86)) + p2) - 1) / p2))) ((2 * x6_86) + 1) ((sR_86 32 (Int32.toNatClampNeg ((2 * x6_86) + 1))) + ((m_R_cheaper sR_86 ((2 * x6_86) + 1) ((sR_86 32 (Int32.toNatClampNeg (2 * x6_86))) + ((((sR_86 10 (Int32.toNatClampNeg x5_86)) + p2) - 1) / p2))) 11 (Int32.toNatClampNeg x5_86)))) 0 6).toInt = ((m_R_cheaper sR_86 ((2 * x6_86) + 1) ((sR_86 32 (Int32.toNatClampNeg (2 * x6_86))) + ((((sR_86 10 (Int32.toNatClampNeg x5_86)) + p2) - 1) / p2))) 0 6).toInt := congrArg Int32.toInt (fr_R_cheaper (by omega))
          have w7_7 : ((m_R_cheaper (m_R_cheaper sR_86 ((2 * x6_86) + 1) ((sR_86 32 (Int32.toNatClampNeg (2 * x6_86))) + ((((sR_86 10 (Int32.toNatClampNeg x5_86)) + p2) - 1) / p2))) ((2 * x6_86) + 1) ((sR_86 32 (Int32.toNatClampNeg ((2 * x6_86) + 1))) + ((m_R_cheaper sR_86 ((2 * x6_86) + 1) ((sR_86 32 (Int32.toNatClampNeg (2 * x6_86))) + ((((sR_86 10 (Int32.toNatClampNeg x5_86)) + p2) - 1) / p2))) 11 (Int32.toNatClampNeg x5_86)))) 0 7).toInt = ((m_R_cheaper sR_86 ((2 * x6_86) + 1) ((sR_86 32 (Int32.toNatClampNeg (2 * x6_86))) + ((((sR_86 10 (Int32.toNatClampNeg x5_86)) + p2) - 1) / p2))) 0 7).toInt := congrArg Int32.toInt (fr_R_cheaper (by omega))
          have w7_11 : ((m_R_cheaper (m_R_cheaper sR_86 ((2 * x6_86) + 1) ((sR_86 32 (Int32.toNatClampNeg (2 * x6_86))) + ((((sR_86 10 (Int32.toNatClampNeg x5_86)) + p2) - 1) / p2))) ((2 * x6_86) + 1) ((sR_86 32 (Int32.toNatClampNeg ((2 * x6_86) + 1))) + ((m_R_cheaper sR_86 ((2 * x6_86) + 1) ((sR_86 32 (Int32.toNatClampNeg (2 * x6_86))) + ((((sR_86 10 (Int32.toNatClampNeg x5_86)) + p2) - 1) / p2))) 11 (Int32.toNatClampNeg x5_86)))) 0 11).toInt = ((m_R_cheaper sR_86 ((2 * x6_86) + 1) ((sR_86 32 (Int32.toNatClampNeg (2 * x6_86))) + ((((sR_86 10 (Int32.toNatClampNeg x5_86)) + p2) - 1) / p2))) 0 11).toInt := congrArg Int32.toInt (fr_R_cheaper (by omega))
          have w7_16 : ((m_R_cheaper (m_R_cheaper sR_86 ((2 * x6_86) + 1) ((sR_86 32 (Int32.toNatClampNeg (2 * x6_86))) + ((((sR_86 10 (Int32.toNatClampNeg x5_86)) + p2) - 1) / p2))) ((2 * x6_86) + 1) ((sR_86 32 (Int32.toNatClampNeg ((2 * x6_86) + 1))) + ((m_R_cheaper sR_86 ((2 * x6_86) + 1) ((sR_86 32 (Int32.toNatClampNeg (2 * x6_86))) + ((((sR_86 10 (Int32.toNatClampNeg x5_86)) + p2) - 1) / p2))) 11 (Int32.toNatClampNeg x5_86)))) 0 16).toInt = ((m_R_cheaper sR_86 ((2 * x6_86) + 1) ((sR_86 32 (Int32.toNatClampNeg (2 * x6_86))) + ((((sR_86 10 (Int32.toNatClampNeg x5_86)) + p2) - 1) / p2))) 0 16).toInt := congrArg Int32.toInt (fr_R_cheaper (by omega))
          refine lv_iload hx hb dX5_fewest_199 (lv_at hl 8 rfl) ?_
          refine lv_iconst (v := 2) hx hb dX5_fewest_201 (by decide) ?_
          refine lv_icmp_ge (tgt := 244) hx hb dX5_fewest_202 (by decide) (fun c_8 => ?_) (fun c_8 => ?_)
          · have hM := hM.trans (if_pos c_8)
            have t_8 := le_t c_8
            rw [tl_2] at t_8
            refine lv_iinc (v := (x6_86 + 1)) (lv' := [(6, .int (x6_86 + 1)), (8, .int (sR_86 32 (Int32.toNatClampNeg ((2 * x6_86) + 1)))), (7, .int (sR_86 32 (Int32.toNatClampNeg (2 * x6_86)))), (0, .ref (g 0)), (1, .int p1), (2, .int p2), (3, .int x3_86), (4, .int x4_86), (5, .int x5_86)]) hx hb dX5_fewest_244 hl (k := 8) rfl rfl (by decide) rfl (fun ls hl => ?_)
            refine lv_goto (tgt := 86) hx hb dX5_fewest_247 (by decide) ?_
            have := t_inc (x := x6_86) (by omega)
            rw [wl_some hM] at kk
            exact ih (m_R_cheaper (m_R_cheaper sR_86 ((2 * x6_86) + 1) ((sR_86 32 (Int32.toNatClampNeg (2 * x6_86))) + ((((sR_86 10 (Int32.toNatClampNeg x5_86)) + p2) - 1) / p2))) ((2 * x6_86) + 1) ((sR_86 32 (Int32.toNatClampNeg ((2 * x6_86) + 1))) + ((m_R_cheaper sR_86 ((2 * x6_86) + 1) ((sR_86 32 (Int32.toNatClampNeg (2 * x6_86))) + ((((sR_86 10 (Int32.toNatClampNeg x5_86)) + p2) - 1) / p2))) 11 (Int32.toNatClampNeg x5_86)))) x3_86 x4_86 x5_86 (x6_86 + 1) H locs ls (by omega) (by assumption) (by omega) (by omega) (by omega) (by omega) hPR hS (lv_sub hl [3, 4, 5, 6, 7, 8, 0] rfl) kk
          · have hM := hM.trans (if_neg c_8)
            have t_8 := nle_t c_8
            rw [tl_2] at t_8
            refine lv_aload_n hx hb dX5_fewest_205 rfl (lv_at hl 2 rfl) ?_
            refine lv_iconst (v := 2) hx hb dX5_fewest_206 (by decide) ?_
            refine lv_iload hx hb dX5_fewest_207 (lv_at hl 8 rfl) ?_
            refine lv_imul hx hb dX5_fewest_209 ?_
            refine lv_iconst (v := 2) hx hb dX5_fewest_210 (by decide) ?_
            refine lv_iadd hx hb dX5_fewest_211 ?_
            refine lv_iload hx hb dX5_fewest_212 (lv_at hl 1 rfl) ?_
            refine runW_v (va_runV (As := [.int ((2 * x6_86) + 2), .int (sR_86 32 (Int32.toNatClampNeg (2 * x6_86)))]) (rest := []) ⟨hx, hb, hml, hown, hts⟩ (K_R_cheaper hg (m_R_cheaper (m_R_cheaper sR_86 ((2 * x6_86) + 1) ((sR_86 32 (Int32.toNatClampNeg (2 * x6_86))) + ((((sR_86 10 (Int32.toNatClampNeg x5_86)) + p2) - 1) / p2))) ((2 * x6_86) + 1) ((sR_86 32 (Int32.toNatClampNeg ((2 * x6_86) + 1))) + ((m_R_cheaper sR_86 ((2 * x6_86) + 1) ((sR_86 32 (Int32.toNatClampNeg (2 * x6_86))) + ((((sR_86 10 (Int32.toNatClampNeg x5_86)) + p2) - 1) / p2))) 11 (Int32.toNatClampNeg x5_86)))) vR ((2 * x6_86) + 2) (sR_86 32 (Int32.toNatClampNeg (2 * x6_86))) (by omega)) (cwV 2 hts gX5_fewest_X5_cheaper rfl rfl rfl (by decide +kernel) ⟨Nat.le_of_ble_eq_true rfl, Nat.le_of_ble_eq_true rfl⟩) (preV_of hE hA hS hPR (va_recv hE.1 hPR (ci := 5) (q0 := 0) rfl rfl)) rfl rfl hl.1 rfl (lv_room (Nat.le_of_ble_eq_true rfl)) dX5_fewest_214 ⟨Nat.zero_le _, Nat.zero_le _⟩) hS (fun _ h9 => h9) (fun H locs hQ hk hS => ?_)
            have hPR : va_P D vwCl (cellR cI g (m_R_cheaper (m_R_cheaper (m_R_cheaper sR_86 ((2 * x6_86) + 1) ((sR_86 32 (Int32.toNatClampNeg (2 * x6_86))) + ((((sR_86 10 (Int32.toNatClampNeg x5_86)) + p2) - 1) / p2))) ((2 * x6_86) + 1) ((sR_86 32 (Int32.toNatClampNeg ((2 * x6_86) + 1))) + ((m_R_cheaper sR_86 ((2 * x6_86) + 1) ((sR_86 32 (Int32.toNatClampNeg (2 * x6_86))) + ((((sR_86 10 (Int32.toNatClampNeg x5_86)) + p2) - 1) / p2))) 11 (Int32.toNatClampNeg x5_86)))) ((2 * x6_86) + 2) (sR_86 32 (Int32.toNatClampNeg (2 * x6_86)))) vR) H := hQ
            have v9 : okR (m_R_cheaper (m_R_cheaper (m_R_cheaper sR_86 ((2 * x6_86) + 1) ((sR_86 32 (Int32.toNatClampNeg (2 * x6_86))) + ((((sR_86 10 (Int32.toNatClampNeg x5_86)) + p2) - 1) / p2))) ((2 * x6_86) + 1) ((sR_86 32 (Int32.toNatClampNeg ((2 * x6_86) + 1))) + ((m_R_cheaper sR_86 ((2 * x6_86) + 1) ((sR_86 32 (Int32.toNatClampNeg (2 * x6_86))) + ((((sR_86 10 (Int32.toNatClampNeg x5_86)) + p2) - 1) / p2))) 11 (Int32.toNatClampNeg x5_86)))) ((2 * x6_86) + 2) (sR_86 32 (Int32.toNatClampNeg (2 * x6_86)))) := okR_cheaper (by assumption)
            have w9_3 : ((m_R_cheaper (m_R_cheaper (m_R_cheaper sR_86 ((2 * x6_86) + 1) ((sR_86 32 (Int32.toNatClampNeg (2 * x6_86))) + ((((sR_86 10 (Int32.toNatClampNeg x5_86)) + p2) - 1) / p2))) ((2 * x6_86) + 1) ((sR_86 32 (Int32.toNatClampNeg ((2 * x6_86) + 1))) + ((m_R_cheaper sR_86 ((2 * x6_86) + 1) ((sR_86 32 (Int32.toNatClampNeg (2 * x6_86))) + ((((sR_86 10 (Int32.toNatClampNeg x5_86)) + p2) - 1) / p2))) 11 (Int32.toNatClampNeg x5_86)))) ((2 * x6_86) + 2) (sR_86 32 (Int32.toNatClampNeg (2 * x6_86)))) 0 3).toInt = ((m_R_cheaper (m_R_cheaper sR_86 ((2 * x6_86) + 1) ((sR_86 32 (Int32.toNatClampNeg (2 * x6_86))) + ((((sR_86 10 (Int32.toNatClampNeg x5_86)) + p2) - 1) / p2))) ((2 * x6_86) + 1) ((sR_86 32 (Int32.toNatClampNeg ((2 * x6_86) + 1))) + ((m_R_cheaper sR_86 ((2 * x6_86) + 1) ((sR_86 32 (Int32.toNatClampNeg (2 * x6_86))) + ((((sR_86 10 (Int32.toNatClampNeg x5_86)) + p2) - 1) / p2))) 11 (Int32.toNatClampNeg x5_86)))) 0 3).toInt := congrArg Int32.toInt (fr_R_cheaper (by omega))
            have w9_6 : ((m_R_cheaper (m_R_cheaper (m_R_cheaper sR_86 ((2 * x6_86) + 1) ((sR_86 32 (Int32.toNatClampNeg (2 * x6_86))) + ((((sR_86 10 (Int32.toNatClampNeg x5_86)) + p2) - 1) / p2))) ((2 * x6_86) + 1) ((sR_86 32 (Int32.toNatClampNeg ((2 * x6_86) + 1))) + ((m_R_cheaper sR_86 ((2 * x6_86) + 1) ((sR_86 32 (Int32.toNatClampNeg (2 * x6_86))) + ((((sR_86 10 (Int32.toNatClampNeg x5_86)) + p2) - 1) / p2))) 11 (Int32.toNatClampNeg x5_86)))) ((2 * x6_86) + 2) (sR_86 32 (Int32.toNatClampNeg (2 * x6_86)))) 0 6).toInt = ((m_R_cheaper (m_R_cheaper sR_86 ((2 * x6_86) + 1) ((sR_86 32 (Int32.toNatClampNeg (2 * x6_86))) + ((((sR_86 10 (Int32.toNatClampNeg x5_86)) + p2) - 1) / p2))) ((2 * x6_86) + 1) ((sR_86 32 (Int32.toNatClampNeg ((2 * x6_86) + 1))) + ((m_R_cheaper sR_86 ((2 * x6_86) + 1) ((sR_86 32 (Int32.toNatClampNeg (2 * x6_86))) + ((((sR_86 10 (Int32.toNatClampNeg x5_86)) + p2) - 1) / p2))) 11 (Int32.toNatClampNeg x5_86)))) 0 6).toInt := congrArg Int32.toInt (fr_R_cheaper (by omega))
            have w9_7 : ((m_R_cheaper (m_R_cheaper (m_R_cheaper sR_86 ((2 * x6_86) + 1) ((sR_86 32 (Int32.toNatClampNeg (2 * x6_86))) + ((((sR_86 10 (Int32.toNatClampNeg x5_86)) + p2) - 1) / p2))) ((2 * x6_86) + 1) ((sR_86 32 (Int32.toNatClampNeg ((2 * x6_86) + 1))) + ((m_R_cheaper sR_86 ((2 * x6_86) + 1) ((sR_86 32 (Int32.toNatClampNeg (2 * x6_86))) + ((((sR_86 10 (Int32.toNatClampNeg x5_86)) + p2) - 1) / p2))) 11 (Int32.toNatClampNeg x5_86)))) ((2 * x6_86) + 2) (sR_86 32 (Int32.toNatClampNeg (2 * x6_86)))) 0 7).toInt = ((m_R_cheaper (m_R_cheaper sR_86 ((2 * x6_86) + 1) ((sR_86 32 (Int32.toNatClampNeg (2 * x6_86))) + ((((sR_86 10 (Int32.toNatClampNeg x5_86)) + p2) - 1) / p2))) ((2 * x6_86) + 1) ((sR_86 32 (Int32.toNatClampNeg ((2 * x6_86) + 1))) + ((m_R_cheaper sR_86 ((2 * x6_86) + 1) ((sR_86 32 (Int32.toNatClampNeg (2 * x6_86))) + ((((sR_86 10 (Int32.toNatClampNeg x5_86)) + p2) - 1) / p2))) 11 (Int32.toNatClampNeg x5_86)))) 0 7).toInt := congrArg Int32.toInt (fr_R_cheaper (by omega))
            have w9_11 : ((m_R_cheaper (m_R_cheaper (m_R_cheaper sR_86 ((2 * x6_86) + 1) ((sR_86 32 (Int32.toNatClampNeg (2 * x6_86))) + ((((sR_86 10 (Int32.toNatClampNeg x5_86)) + p2) - 1) / p2))) ((2 * x6_86) + 1) ((sR_86 32 (Int32.toNatClampNeg ((2 * x6_86) + 1))) + ((m_R_cheaper sR_86 ((2 * x6_86) + 1) ((sR_86 32 (Int32.toNatClampNeg (2 * x6_86))) + ((((sR_86 10 (Int32.toNatClampNeg x5_86)) + p2) - 1) / p2))) 11 (Int32.toNatClampNeg x5_86)))) ((2 * x6_86) + 2) (sR_86 32 (Int32.toNatClampNeg (2 * x6_86)))) 0 11).toInt = ((m_R_cheaper (m_R_cheaper sR_86 ((2 * x6_86) + 1) ((sR_86 32 (Int32.toNatClampNeg (2 * x6_86))) + ((((sR_86 10 (Int32.toNatClampNeg x5_86)) + p2) - 1) / p2))) ((2 * x6_86) + 1) ((sR_86 32 (Int32.toNatClampNeg ((2 * x6_86) + 1))) + ((m_R_cheaper sR_86 ((2 * x6_86) + 1) ((sR_86 32 (Int32.toNatClampNeg (2 * x6_86))) + ((((sR_86 10 (Int32.toNatClampNeg x5_86)) + p2) - 1) / p2))) 11 (Int32.toNatClampNeg x5_86)))) 0 11).toInt := congrArg Int32.toInt (fr_R_cheaper (by omega))
            have w9_16 : ((m_R_cheaper (m_R_cheaper (m_R_cheaper sR_86 ((2 * x6_86) + 1) ((sR_86 32 (Int32.toNatClampNeg (2 * x6_86))) + ((((sR_86 10 (Int32.toNatClampNeg x5_86)) + p2) - 1) / p2))) ((2 * x6_86) + 1) ((sR_86 32 (Int32.toNatClampNeg ((2 * x6_86) + 1))) + ((m_R_cheaper sR_86 ((2 * x6_86) + 1) ((sR_86 32 (Int32.toNatClampNeg (2 * x6_86))) + ((((sR_86 10 (Int32.toNatClampNeg x5_86)) + p2) - 1) / p2))) 11 (Int32.toNatClampNeg x5_86)))) ((2 * x6_86) + 2) (sR_86 32 (Int32.toNatClampNeg (2 * x6_86)))) 0 16).toInt = ((m_R_cheaper (m_R_cheaper sR_86 ((2 * x6_86) + 1) ((sR_86 32 (Int32.toNatClampNeg (2 * x6_86))) + ((((sR_86 10 (Int32.toNatClampNeg x5_86)) + p2) - 1) / p2))) ((2 * x6_86) + 1) ((sR_86 32 (Int32.toNatClampNeg ((2 * x6_86) + 1))) + ((m_R_cheaper sR_86 ((2 * x6_86) + 1) ((sR_86 32 (Int32.toNatClampNeg (2 * x6_86))) + ((((sR_86 10 (Int32.toNatClampNeg x5_86)) + p2) - 1) / p2))) 11 (Int32.toNatClampNeg x5_86)))) 0 16).toInt := congrArg Int32.toInt (fr_R_cheaper (by omega))
            refine lv_aload_n hx hb dX5_fewest_217 rfl (lv_at hl 2 rfl) ?_
            refine lv_iconst (v := 2) hx hb dX5_fewest_218 (by decide) ?_
            refine lv_iload hx hb dX5_fewest_219 (lv_at hl 8 rfl) ?_
            refine lv_imul hx hb dX5_fewest_221 ?_
            refine lv_iconst (v := 2) hx hb dX5_fewest_222 (by decide) ?_
            refine lv_iadd hx hb dX5_fewest_223 ?_
            refine lv_aload_n hx hb dX5_fewest_224 rfl (lv_at hl 2 rfl) ?_
            refine va_get (D := D) (ci := 5) (v := .ref (g 6)) (C := RX5) (T := TX5) (N := 33) hx hb hts hinR hown hE.1 hPR 0 rfl rfl 10 (by decide) (hts (.fieldLink RX5 35 "WallStonesModel" "propped" "[I") (List.mem_of_getElem? (i := 8) rfl)) (fun _ h9 => h9) rfl dX5_fewest_225 ?_
            refine lv_iload hx hb dX5_fewest_228 (lv_at hl 7 rfl) ?_
            refine va_iald hx hb hE.1 hPR 6 0 rfl rfl (vp_in_iff.mpr (by omega)) dX5_fewest_230 ?_
            refine W.eq (g2 := F0 m 231 ls [.int ((m_R_cheaper (m_R_cheaper (m_R_cheaper sR_86 ((2 * x6_86) + 1) ((sR_86 32 (Int32.toNatClampNeg (2 * x6_86))) + ((((sR_86 10 (Int32.toNatClampNeg x5_86)) + p2) - 1) / p2))) ((2 * x6_86) + 1) ((sR_86 32 (Int32.toNatClampNeg ((2 * x6_86) + 1))) + ((m_R_cheaper sR_86 ((2 * x6_86) + 1) ((sR_86 32 (Int32.toNatClampNeg (2 * x6_86))) + ((((sR_86 10 (Int32.toNatClampNeg x5_86)) + p2) - 1) / p2))) 11 (Int32.toNatClampNeg x5_86)))) ((2 * x6_86) + 2) (sR_86 32 (Int32.toNatClampNeg (2 * x6_86)))) 11 (Int32.toNatClampNeg x5_86)), .int ((2 * x6_86) + 2), .ref (g 0)]) rfl ?_
            refine lv_iconst (v := 1) hx hb dX5_fewest_231 (by decide) ?_
            refine lv_icmp_ne (tgt := 240) hx hb dX5_fewest_232 (by decide) (fun c_10 => ?_) (fun c_10 => ?_)
            · have hM := hM.trans (if_neg c_10)
              have t_10 := ne_t c_10
              rw [tl_1] at t_10
              refine lv_iload_n hx hb dX5_fewest_240 rfl (lv_at hl 5 rfl) ?_
              refine runW_v (va_runV (As := [.int ((2 * x6_86) + 2), .int x3_86]) (rest := []) ⟨hx, hb, hml, hown, hts⟩ (K_R_cheaper hg (m_R_cheaper (m_R_cheaper (m_R_cheaper sR_86 ((2 * x6_86) + 1) ((sR_86 32 (Int32.toNatClampNeg (2 * x6_86))) + ((((sR_86 10 (Int32.toNatClampNeg x5_86)) + p2) - 1) / p2))) ((2 * x6_86) + 1) ((sR_86 32 (Int32.toNatClampNeg ((2 * x6_86) + 1))) + ((m_R_cheaper sR_86 ((2 * x6_86) + 1) ((sR_86 32 (Int32.toNatClampNeg (2 * x6_86))) + ((((sR_86 10 (Int32.toNatClampNeg x5_86)) + p2) - 1) / p2))) 11 (Int32.toNatClampNeg x5_86)))) ((2 * x6_86) + 2) (sR_86 32 (Int32.toNatClampNeg (2 * x6_86)))) vR ((2 * x6_86) + 2) x3_86 (by omega)) (cwV 2 hts gX5_fewest_X5_cheaper rfl rfl rfl (by decide +kernel) ⟨Nat.le_of_ble_eq_true rfl, Nat.le_of_ble_eq_true rfl⟩) (preV_of hE hA hS hPR (va_recv hE.1 hPR (ci := 5) (q0 := 0) rfl rfl)) rfl rfl hl.1 rfl (lv_room (Nat.le_of_ble_eq_true rfl)) dX5_fewest_241 ⟨Nat.zero_le _, Nat.zero_le _⟩) hS (fun _ h9 => h9) (fun H locs hQ hk hS => ?_)
              have hPR : va_P D vwCl (cellR cI g (m_R_cheaper (m_R_cheaper (m_R_cheaper (m_R_cheaper sR_86 ((2 * x6_86) + 1) ((sR_86 32 (Int32.toNatClampNeg (2 * x6_86))) + ((((sR_86 10 (Int32.toNatClampNeg x5_86)) + p2) - 1) / p2))) ((2 * x6_86) + 1) ((sR_86 32 (Int32.toNatClampNeg ((2 * x6_86) + 1))) + ((m_R_cheaper sR_86 ((2 * x6_86) + 1) ((sR_86 32 (Int32.toNatClampNeg (2 * x6_86))) + ((((sR_86 10 (Int32.toNatClampNeg x5_86)) + p2) - 1) / p2))) 11 (Int32.toNatClampNeg x5_86)))) ((2 * x6_86) + 2) (sR_86 32 (Int32.toNatClampNeg (2 * x6_86)))) ((2 * x6_86) + 2) x3_86) vR) H := hQ
              have v11 : okR (m_R_cheaper (m_R_cheaper (m_R_cheaper (m_R_cheaper sR_86 ((2 * x6_86) + 1) ((sR_86 32 (Int32.toNatClampNeg (2 * x6_86))) + ((((sR_86 10 (Int32.toNatClampNeg x5_86)) + p2) - 1) / p2))) ((2 * x6_86) + 1) ((sR_86 32 (Int32.toNatClampNeg ((2 * x6_86) + 1))) + ((m_R_cheaper sR_86 ((2 * x6_86) + 1) ((sR_86 32 (Int32.toNatClampNeg (2 * x6_86))) + ((((sR_86 10 (Int32.toNatClampNeg x5_86)) + p2) - 1) / p2))) 11 (Int32.toNatClampNeg x5_86)))) ((2 * x6_86) + 2) (sR_86 32 (Int32.toNatClampNeg (2 * x6_86)))) ((2 * x6_86) + 2) x3_86) := okR_cheaper (by assumption)
              have w11_3 : ((m_R_cheaper (m_R_cheaper (m_R_cheaper (m_R_cheaper sR_86 ((2 * x6_86) + 1) ((sR_86 32 (Int32.toNatClampNeg (2 * x6_86))) + ((((sR_86 10 (Int32.toNatClampNeg x5_86)) + p2) - 1) / p2))) ((2 * x6_86) + 1) ((sR_86 32 (Int32.toNatClampNeg ((2 * x6_86) + 1))) + ((m_R_cheaper sR_86 ((2 * x6_86) + 1) ((sR_86 32 (Int32.toNatClampNeg (2 * x6_86))) + ((((sR_86 10 (Int32.toNatClampNeg x5_86)) + p2) - 1) / p2))) 11 (Int32.toNatClampNeg x5_86)))) ((2 * x6_86) + 2) (sR_86 32 (Int32.toNatClampNeg (2 * x6_86)))) ((2 * x6_86) + 2) x3_86) 0 3).toInt = ((m_R_cheaper (m_R_cheaper (m_R_cheaper sR_86 ((2 * x6_86) + 1) ((sR_86 32 (Int32.toNatClampNeg (2 * x6_86))) + ((((sR_86 10 (Int32.toNatClampNeg x5_86)) + p2) - 1) / p2))) ((2 * x6_86) + 1) ((sR_86 32 (Int32.toNatClampNeg ((2 * x6_86) + 1))) + ((m_R_cheaper sR_86 ((2 * x6_86) + 1) ((sR_86 32 (Int32.toNatClampNeg (2 * x6_86))) + ((((sR_86 10 (Int32.toNatClampNeg x5_86)) + p2) - 1) / p2))) 11 (Int32.toNatClampNeg x5_86)))) ((2 * x6_86) + 2) (sR_86 32 (Int32.toNatClampNeg (2 * x6_86)))) 0 3).toInt := congrArg Int32.toInt (fr_R_cheaper (by omega))
              have w11_6 : ((m_R_cheaper (m_R_cheaper (m_R_cheaper (m_R_cheaper sR_86 ((2 * x6_86) + 1) ((sR_86 32 (Int32.toNatClampNeg (2 * x6_86))) + ((((sR_86 10 (Int32.toNatClampNeg x5_86)) + p2) - 1) / p2))) ((2 * x6_86) + 1) ((sR_86 32 (Int32.toNatClampNeg ((2 * x6_86) + 1))) + ((m_R_cheaper sR_86 ((2 * x6_86) + 1) ((sR_86 32 (Int32.toNatClampNeg (2 * x6_86))) + ((((sR_86 10 (Int32.toNatClampNeg x5_86)) + p2) - 1) / p2))) 11 (Int32.toNatClampNeg x5_86)))) ((2 * x6_86) + 2) (sR_86 32 (Int32.toNatClampNeg (2 * x6_86)))) ((2 * x6_86) + 2) x3_86) 0 6).toInt = ((m_R_cheaper (m_R_cheaper (m_R_cheaper sR_86 ((2 * x6_86) + 1) ((sR_86 32 (Int32.toNatClampNeg (2 * x6_86))) + ((((sR_86 10 (Int32.toNatClampNeg x5_86)) + p2) - 1) / p2))) ((2 * x6_86) + 1) ((sR_86 32 (Int32.toNatClampNeg ((2 * x6_86) + 1))) + ((m_R_cheaper sR_86 ((2 * x6_86) + 1) ((sR_86 32 (Int32.toNatClampNeg (2 * x6_86))) + ((((sR_86 10 (Int32.toNatClampNeg x5_86)) + p2) - 1) / p2))) 11 (Int32.toNatClampNeg x5_86)))) ((2 * x6_86) + 2) (sR_86 32 (Int32.toNatClampNeg (2 * x6_86)))) 0 6).toInt := congrArg Int32.toInt (fr_R_cheaper (by omega))
              have w11_7 : ((m_R_cheaper (m_R_cheaper (m_R_cheaper (m_R_cheaper sR_86 ((2 * x6_86) + 1) ((sR_86 32 (Int32.toNatClampNeg (2 * x6_86))) + ((((sR_86 10 (Int32.toNatClampNeg x5_86)) + p2) - 1) / p2))) ((2 * x6_86) + 1) ((sR_86 32 (Int32.toNatClampNeg ((2 * x6_86) + 1))) + ((m_R_cheaper sR_86 ((2 * x6_86) + 1) ((sR_86 32 (Int32.toNatClampNeg (2 * x6_86))) + ((((sR_86 10 (Int32.toNatClampNeg x5_86)) + p2) - 1) / p2))) 11 (Int32.toNatClampNeg x5_86)))) ((2 * x6_86) + 2) (sR_86 32 (Int32.toNatClampNeg (2 * x6_86)))) ((2 * x6_86) + 2) x3_86) 0 7).toInt = ((m_R_cheaper (m_R_cheaper (m_R_cheaper sR_86 ((2 * x6_86) + 1) ((sR_86 32 (Int32.toNatClampNeg (2 * x6_86))) + ((((sR_86 10 (Int32.toNatClampNeg x5_86)) + p2) - 1) / p2))) ((2 * x6_86) + 1) ((sR_86 32 (Int32.toNatClampNeg ((2 * x6_86) + 1))) + ((m_R_cheaper sR_86 ((2 * x6_86) + 1) ((sR_86 32 (Int32.toNatClampNeg (2 * x6_86))) + ((((sR_86 10 (Int32.toNatClampNeg x5_86)) + p2) - 1) / p2))) 11 (Int32.toNatClampNeg x5_86)))) ((2 * x6_86) + 2) (sR_86 32 (Int32.toNatClampNeg (2 * x6_86)))) 0 7).toInt := congrArg Int32.toInt (fr_R_cheaper (by omega))
              have w11_11 : ((m_R_cheaper (m_R_cheaper (m_R_cheaper (m_R_cheaper sR_86 ((2 * x6_86) + 1) ((sR_86 32 (Int32.toNatClampNeg (2 * x6_86))) + ((((sR_86 10 (Int32.toNatClampNeg x5_86)) + p2) - 1) / p2))) ((2 * x6_86) + 1) ((sR_86 32 (Int32.toNatClampNeg ((2 * x6_86) + 1))) + ((m_R_cheaper sR_86 ((2 * x6_86) + 1) ((sR_86 32 (Int32.toNatClampNeg (2 * x6_86))) + ((((sR_86 10 (Int32.toNatClampNeg x5_86)) + p2) - 1) / p2))) 11 (Int32.toNatClampNeg x5_86)))) ((2 * x6_86) + 2) (sR_86 32 (Int32.toNatClampNeg (2 * x6_86)))) ((2 * x6_86) + 2) x3_86) 0 11).toInt = ((m_R_cheaper (m_R_cheaper (m_R_cheaper sR_86 ((2 * x6_86) + 1) ((sR_86 32 (Int32.toNatClampNeg (2 * x6_86))) + ((((sR_86 10 (Int32.toNatClampNeg x5_86)) + p2) - 1) / p2))) ((2 * x6_86) + 1) ((sR_86 32 (Int32.toNatClampNeg ((2 * x6_86) + 1))) + ((m_R_cheaper sR_86 ((2 * x6_86) + 1) ((sR_86 32 (Int32.toNatClampNeg (2 * x6_86))) + ((((sR_86 10 (Int32.toNatClampNeg x5_86)) + p2) - 1) / p2))) 11 (Int32.toNatClampNeg x5_86)))) ((2 * x6_86) + 2) (sR_86 32 (Int32.toNatClampNeg (2 * x6_86)))) 0 11).toInt := congrArg Int32.toInt (fr_R_cheaper (by omega))
              have w11_16 : ((m_R_cheaper (m_R_cheaper (m_R_cheaper (m_R_cheaper sR_86 ((2 * x6_86) + 1) ((sR_86 32 (Int32.toNatClampNeg (2 * x6_86))) + ((((sR_86 10 (Int32.toNatClampNeg x5_86)) + p2) - 1) / p2))) ((2 * x6_86) + 1) ((sR_86 32 (Int32.toNatClampNeg ((2 * x6_86) + 1))) + ((m_R_cheaper sR_86 ((2 * x6_86) + 1) ((sR_86 32 (Int32.toNatClampNeg (2 * x6_86))) + ((((sR_86 10 (Int32.toNatClampNeg x5_86)) + p2) - 1) / p2))) 11 (Int32.toNatClampNeg x5_86)))) ((2 * x6_86) + 2) (sR_86 32 (Int32.toNatClampNeg (2 * x6_86)))) ((2 * x6_86) + 2) x3_86) 0 16).toInt = ((m_R_cheaper (m_R_cheaper (m_R_cheaper sR_86 ((2 * x6_86) + 1) ((sR_86 32 (Int32.toNatClampNeg (2 * x6_86))) + ((((sR_86 10 (Int32.toNatClampNeg x5_86)) + p2) - 1) / p2))) ((2 * x6_86) + 1) ((sR_86 32 (Int32.toNatClampNeg ((2 * x6_86) + 1))) + ((m_R_cheaper sR_86 ((2 * x6_86) + 1) ((sR_86 32 (Int32.toNatClampNeg (2 * x6_86))) + ((((sR_86 10 (Int32.toNatClampNeg x5_86)) + p2) - 1) / p2))) 11 (Int32.toNatClampNeg x5_86)))) ((2 * x6_86) + 2) (sR_86 32 (Int32.toNatClampNeg (2 * x6_86)))) 0 16).toInt := congrArg Int32.toInt (fr_R_cheaper (by omega))
              refine lv_iinc (v := (x6_86 + 1)) (lv' := [(6, .int (x6_86 + 1)), (8, .int (sR_86 32 (Int32.toNatClampNeg ((2 * x6_86) + 1)))), (7, .int (sR_86 32 (Int32.toNatClampNeg (2 * x6_86)))), (0, .ref (g 0)), (1, .int p1), (2, .int p2), (3, .int x3_86), (4, .int x4_86), (5, .int x5_86)]) hx hb dX5_fewest_244 hl (k := 8) rfl rfl (by decide) rfl (fun ls hl => ?_)
              refine lv_goto (tgt := 86) hx hb dX5_fewest_247 (by decide) ?_
              have := t_inc (x := x6_86) (by omega)
              rw [wl_some hM] at kk
              exact ih (m_R_cheaper (m_R_cheaper (m_R_cheaper (m_R_cheaper sR_86 ((2 * x6_86) + 1) ((sR_86 32 (Int32.toNatClampNeg (2 * x6_86))) + ((((sR_86 10 (Int32.toNatClampNeg x5_86)) + p2) - 1) / p2))) ((2 * x6_86) + 1) ((sR_86 32 (Int32.toNatClampNeg ((2 * x6_86) + 1))) + ((m_R_cheaper sR_86 ((2 * x6_86) + 1) ((sR_86 32 (Int32.toNatClampNeg (2 * x6_86))) + ((((sR_86 10 (Int32.toNatClampNeg x5_86)) + p2) - 1) / p2))) 11 (Int32.toNatClampNeg x5_86)))) ((2 * x6_86) + 2) (sR_86 32 (Int32.toNatClampNeg (2 * x6_86)))) ((2 * x6_86) + 2) x3_86) x3_86 x4_86 x5_86 (x6_86 + 1) H locs ls (by omega) (by assumption) (by omega) (by omega) (by omega) (by omega) hPR hS (lv_sub hl [3, 4, 5, 6, 7, 8, 0] rfl) kk
            · have hM := hM.trans (if_pos c_10)
              have t_10 := eq_t c_10
              rw [tl_1] at t_10
              refine lv_iload hx hb dX5_fewest_235 (lv_at hl 0 rfl) ?_
              refine lv_goto (tgt := 241) hx hb dX5_fewest_237 (by decide) ?_
              refine runW_v (va_runV (As := [.int ((2 * x6_86) + 2), .int (sR_86 32 (Int32.toNatClampNeg ((2 * x6_86) + 1)))]) (rest := []) ⟨hx, hb, hml, hown, hts⟩ (K_R_cheaper hg (m_R_cheaper (m_R_cheaper (m_R_cheaper sR_86 ((2 * x6_86) + 1) ((sR_86 32 (Int32.toNatClampNeg (2 * x6_86))) + ((((sR_86 10 (Int32.toNatClampNeg x5_86)) + p2) - 1) / p2))) ((2 * x6_86) + 1) ((sR_86 32 (Int32.toNatClampNeg ((2 * x6_86) + 1))) + ((m_R_cheaper sR_86 ((2 * x6_86) + 1) ((sR_86 32 (Int32.toNatClampNeg (2 * x6_86))) + ((((sR_86 10 (Int32.toNatClampNeg x5_86)) + p2) - 1) / p2))) 11 (Int32.toNatClampNeg x5_86)))) ((2 * x6_86) + 2) (sR_86 32 (Int32.toNatClampNeg (2 * x6_86)))) vR ((2 * x6_86) + 2) (sR_86 32 (Int32.toNatClampNeg ((2 * x6_86) + 1))) (by omega)) (cwV 2 hts gX5_fewest_X5_cheaper rfl rfl rfl (by decide +kernel) ⟨Nat.le_of_ble_eq_true rfl, Nat.le_of_ble_eq_true rfl⟩) (preV_of hE hA hS hPR (va_recv hE.1 hPR (ci := 5) (q0 := 0) rfl rfl)) rfl rfl hl.1 rfl (lv_room (Nat.le_of_ble_eq_true rfl)) dX5_fewest_241 ⟨Nat.zero_le _, Nat.zero_le _⟩) hS (fun _ h9 => h9) (fun H locs hQ hk hS => ?_)
              have hPR : va_P D vwCl (cellR cI g (m_R_cheaper (m_R_cheaper (m_R_cheaper (m_R_cheaper sR_86 ((2 * x6_86) + 1) ((sR_86 32 (Int32.toNatClampNeg (2 * x6_86))) + ((((sR_86 10 (Int32.toNatClampNeg x5_86)) + p2) - 1) / p2))) ((2 * x6_86) + 1) ((sR_86 32 (Int32.toNatClampNeg ((2 * x6_86) + 1))) + ((m_R_cheaper sR_86 ((2 * x6_86) + 1) ((sR_86 32 (Int32.toNatClampNeg (2 * x6_86))) + ((((sR_86 10 (Int32.toNatClampNeg x5_86)) + p2) - 1) / p2))) 11 (Int32.toNatClampNeg x5_86)))) ((2 * x6_86) + 2) (sR_86 32 (Int32.toNatClampNeg (2 * x6_86)))) ((2 * x6_86) + 2) (sR_86 32 (Int32.toNatClampNeg ((2 * x6_86) + 1)))) vR) H := hQ
              have v12 : okR (m_R_cheaper (m_R_cheaper (m_R_cheaper (m_R_cheaper sR_86 ((2 * x6_86) + 1) ((sR_86 32 (Int32.toNatClampNeg (2 * x6_86))) + ((((sR_86 10 (Int32.toNatClampNeg x5_86)) + p2) - 1) / p2))) ((2 * x6_86) + 1) ((sR_86 32 (Int32.toNatClampNeg ((2 * x6_86) + 1))) + ((m_R_cheaper sR_86 ((2 * x6_86) + 1) ((sR_86 32 (Int32.toNatClampNeg (2 * x6_86))) + ((((sR_86 10 (Int32.toNatClampNeg x5_86)) + p2) - 1) / p2))) 11 (Int32.toNatClampNeg x5_86)))) ((2 * x6_86) + 2) (sR_86 32 (Int32.toNatClampNeg (2 * x6_86)))) ((2 * x6_86) + 2) (sR_86 32 (Int32.toNatClampNeg ((2 * x6_86) + 1)))) := okR_cheaper (by assumption)
              have w12_3 : ((m_R_cheaper (m_R_cheaper (m_R_cheaper (m_R_cheaper sR_86 ((2 * x6_86) + 1) ((sR_86 32 (Int32.toNatClampNeg (2 * x6_86))) + ((((sR_86 10 (Int32.toNatClampNeg x5_86)) + p2) - 1) / p2))) ((2 * x6_86) + 1) ((sR_86 32 (Int32.toNatClampNeg ((2 * x6_86) + 1))) + ((m_R_cheaper sR_86 ((2 * x6_86) + 1) ((sR_86 32 (Int32.toNatClampNeg (2 * x6_86))) + ((((sR_86 10 (Int32.toNatClampNeg x5_86)) + p2) - 1) / p2))) 11 (Int32.toNatClampNeg x5_86)))) ((2 * x6_86) + 2) (sR_86 32 (Int32.toNatClampNeg (2 * x6_86)))) ((2 * x6_86) + 2) (sR_86 32 (Int32.toNatClampNeg ((2 * x6_86) + 1)))) 0 3).toInt = ((m_R_cheaper (m_R_cheaper (m_R_cheaper sR_86 ((2 * x6_86) + 1) ((sR_86 32 (Int32.toNatClampNeg (2 * x6_86))) + ((((sR_86 10 (Int32.toNatClampNeg x5_86)) + p2) - 1) / p2))) ((2 * x6_86) + 1) ((sR_86 32 (Int32.toNatClampNeg ((2 * x6_86) + 1))) + ((m_R_cheaper sR_86 ((2 * x6_86) + 1) ((sR_86 32 (Int32.toNatClampNeg (2 * x6_86))) + ((((sR_86 10 (Int32.toNatClampNeg x5_86)) + p2) - 1) / p2))) 11 (Int32.toNatClampNeg x5_86)))) ((2 * x6_86) + 2) (sR_86 32 (Int32.toNatClampNeg (2 * x6_86)))) 0 3).toInt := congrArg Int32.toInt (fr_R_cheaper (by omega))
              have w12_6 : ((m_R_cheaper (m_R_cheaper (m_R_cheaper (m_R_cheaper sR_86 ((2 * x6_86) + 1) ((sR_86 32 (Int32.toNatClampNeg (2 * x6_86))) + ((((sR_86 10 (Int32.toNatClampNeg x5_86)) + p2) - 1) / p2))) ((2 * x6_86) + 1) ((sR_86 32 (Int32.toNatClampNeg ((2 * x6_86) + 1))) + ((m_R_cheaper sR_86 ((2 * x6_86) + 1) ((sR_86 32 (Int32.toNatClampNeg (2 * x6_86))) + ((((sR_86 10 (Int32.toNatClampNeg x5_86)) + p2) - 1) / p2))) 11 (Int32.toNatClampNeg x5_86)))) ((2 * x6_86) + 2) (sR_86 32 (Int32.toNatClampNeg (2 * x6_86)))) ((2 * x6_86) + 2) (sR_86 32 (Int32.toNatClampNeg ((2 * x6_86) + 1)))) 0 6).toInt = ((m_R_cheaper (m_R_cheaper (m_R_cheaper sR_86 ((2 * x6_86) + 1) ((sR_86 32 (Int32.toNatClampNeg (2 * x6_86))) + ((((sR_86 10 (Int32.toNatClampNeg x5_86)) + p2) - 1) / p2))) ((2 * x6_86) + 1) ((sR_86 32 (Int32.toNatClampNeg ((2 * x6_86) + 1))) + ((m_R_cheaper sR_86 ((2 * x6_86) + 1) ((sR_86 32 (Int32.toNatClampNeg (2 * x6_86))) + ((((sR_86 10 (Int32.toNatClampNeg x5_86)) + p2) - 1) / p2))) 11 (Int32.toNatClampNeg x5_86)))) ((2 * x6_86) + 2) (sR_86 32 (Int32.toNatClampNeg (2 * x6_86)))) 0 6).toInt := congrArg Int32.toInt (fr_R_cheaper (by omega))
              have w12_7 : ((m_R_cheaper (m_R_cheaper (m_R_cheaper (m_R_cheaper sR_86 ((2 * x6_86) + 1) ((sR_86 32 (Int32.toNatClampNeg (2 * x6_86))) + ((((sR_86 10 (Int32.toNatClampNeg x5_86)) + p2) - 1) / p2))) ((2 * x6_86) + 1) ((sR_86 32 (Int32.toNatClampNeg ((2 * x6_86) + 1))) + ((m_R_cheaper sR_86 ((2 * x6_86) + 1) ((sR_86 32 (Int32.toNatClampNeg (2 * x6_86))) + ((((sR_86 10 (Int32.toNatClampNeg x5_86)) + p2) - 1) / p2))) 11 (Int32.toNatClampNeg x5_86)))) ((2 * x6_86) + 2) (sR_86 32 (Int32.toNatClampNeg (2 * x6_86)))) ((2 * x6_86) + 2) (sR_86 32 (Int32.toNatClampNeg ((2 * x6_86) + 1)))) 0 7).toInt = ((m_R_cheaper (m_R_cheaper (m_R_cheaper sR_86 ((2 * x6_86) + 1) ((sR_86 32 (Int32.toNatClampNeg (2 * x6_86))) + ((((sR_86 10 (Int32.toNatClampNeg x5_86)) + p2) - 1) / p2))) ((2 * x6_86) + 1) ((sR_86 32 (Int32.toNatClampNeg ((2 * x6_86) + 1))) + ((m_R_cheaper sR_86 ((2 * x6_86) + 1) ((sR_86 32 (Int32.toNatClampNeg (2 * x6_86))) + ((((sR_86 10 (Int32.toNatClampNeg x5_86)) + p2) - 1) / p2))) 11 (Int32.toNatClampNeg x5_86)))) ((2 * x6_86) + 2) (sR_86 32 (Int32.toNatClampNeg (2 * x6_86)))) 0 7).toInt := congrArg Int32.toInt (fr_R_cheaper (by omega))
              have w12_11 : ((m_R_cheaper (m_R_cheaper (m_R_cheaper (m_R_cheaper sR_86 ((2 * x6_86) + 1) ((sR_86 32 (Int32.toNatClampNeg (2 * x6_86))) + ((((sR_86 10 (Int32.toNatClampNeg x5_86)) + p2) - 1) / p2))) ((2 * x6_86) + 1) ((sR_86 32 (Int32.toNatClampNeg ((2 * x6_86) + 1))) + ((m_R_cheaper sR_86 ((2 * x6_86) + 1) ((sR_86 32 (Int32.toNatClampNeg (2 * x6_86))) + ((((sR_86 10 (Int32.toNatClampNeg x5_86)) + p2) - 1) / p2))) 11 (Int32.toNatClampNeg x5_86)))) ((2 * x6_86) + 2) (sR_86 32 (Int32.toNatClampNeg (2 * x6_86)))) ((2 * x6_86) + 2) (sR_86 32 (Int32.toNatClampNeg ((2 * x6_86) + 1)))) 0 11).toInt = ((m_R_cheaper (m_R_cheaper (m_R_cheaper sR_86 ((2 * x6_86) + 1) ((sR_86 32 (Int32.toNatClampNeg (2 * x6_86))) + ((((sR_86 10 (Int32.toNatClampNeg x5_86)) + p2) - 1) / p2))) ((2 * x6_86) + 1) ((sR_86 32 (Int32.toNatClampNeg ((2 * x6_86) + 1))) + ((m_R_cheaper sR_86 ((2 * x6_86) + 1) ((sR_86 32 (Int32.toNatClampNeg (2 * x6_86))) + ((((sR_86 10 (Int32.toNatClampNeg x5_86)) + p2) - 1) / p2))) 11 (Int32.toNatClampNeg x5_86)))) ((2 * x6_86) + 2) (sR_86 32 (Int32.toNatClampNeg (2 * x6_86)))) 0 11).toInt := congrArg Int32.toInt (fr_R_cheaper (by omega))
              have w12_16 : ((m_R_cheaper (m_R_cheaper (m_R_cheaper (m_R_cheaper sR_86 ((2 * x6_86) + 1) ((sR_86 32 (Int32.toNatClampNeg (2 * x6_86))) + ((((sR_86 10 (Int32.toNatClampNeg x5_86)) + p2) - 1) / p2))) ((2 * x6_86) + 1) ((sR_86 32 (Int32.toNatClampNeg ((2 * x6_86) + 1))) + ((m_R_cheaper sR_86 ((2 * x6_86) + 1) ((sR_86 32 (Int32.toNatClampNeg (2 * x6_86))) + ((((sR_86 10 (Int32.toNatClampNeg x5_86)) + p2) - 1) / p2))) 11 (Int32.toNatClampNeg x5_86)))) ((2 * x6_86) + 2) (sR_86 32 (Int32.toNatClampNeg (2 * x6_86)))) ((2 * x6_86) + 2) (sR_86 32 (Int32.toNatClampNeg ((2 * x6_86) + 1)))) 0 16).toInt = ((m_R_cheaper (m_R_cheaper (m_R_cheaper sR_86 ((2 * x6_86) + 1) ((sR_86 32 (Int32.toNatClampNeg (2 * x6_86))) + ((((sR_86 10 (Int32.toNatClampNeg x5_86)) + p2) - 1) / p2))) ((2 * x6_86) + 1) ((sR_86 32 (Int32.toNatClampNeg ((2 * x6_86) + 1))) + ((m_R_cheaper sR_86 ((2 * x6_86) + 1) ((sR_86 32 (Int32.toNatClampNeg (2 * x6_86))) + ((((sR_86 10 (Int32.toNatClampNeg x5_86)) + p2) - 1) / p2))) 11 (Int32.toNatClampNeg x5_86)))) ((2 * x6_86) + 2) (sR_86 32 (Int32.toNatClampNeg (2 * x6_86)))) 0 16).toInt := congrArg Int32.toInt (fr_R_cheaper (by omega))
              refine lv_iinc (v := (x6_86 + 1)) (lv' := [(6, .int (x6_86 + 1)), (8, .int (sR_86 32 (Int32.toNatClampNeg ((2 * x6_86) + 1)))), (7, .int (sR_86 32 (Int32.toNatClampNeg (2 * x6_86)))), (0, .ref (g 0)), (1, .int p1), (2, .int p2), (3, .int x3_86), (4, .int x4_86), (5, .int x5_86)]) hx hb dX5_fewest_244 hl (k := 8) rfl rfl (by decide) rfl (fun ls hl => ?_)
              refine lv_goto (tgt := 86) hx hb dX5_fewest_247 (by decide) ?_
              have := t_inc (x := x6_86) (by omega)
              rw [wl_some hM] at kk
              exact ih (m_R_cheaper (m_R_cheaper (m_R_cheaper (m_R_cheaper sR_86 ((2 * x6_86) + 1) ((sR_86 32 (Int32.toNatClampNeg (2 * x6_86))) + ((((sR_86 10 (Int32.toNatClampNeg x5_86)) + p2) - 1) / p2))) ((2 * x6_86) + 1) ((sR_86 32 (Int32.toNatClampNeg ((2 * x6_86) + 1))) + ((m_R_cheaper sR_86 ((2 * x6_86) + 1) ((sR_86 32 (Int32.toNatClampNeg (2 * x6_86))) + ((((sR_86 10 (Int32.toNatClampNeg x5_86)) + p2) - 1) / p2))) 11 (Int32.toNatClampNeg x5_86)))) ((2 * x6_86) + 2) (sR_86 32 (Int32.toNatClampNeg (2 * x6_86)))) ((2 * x6_86) + 2) (sR_86 32 (Int32.toNatClampNeg ((2 * x6_86) + 1)))) x3_86 x4_86 x5_86 (x6_86 + 1) H locs ls (by omega) (by assumption) (by omega) (by omega) (by omega) (by omega) hPR hS (lv_sub hl [3, 4, 5, 6, 7, 8, 0] rfl) kk
        · have hM := hM.trans (if_pos c_5)
          have t_5 := eq_t c_5
          rw [tl_0] at t_5
          refine lv_aload_n hx hb dX5_fewest_126 rfl (lv_at hl 2 rfl) ?_
          refine lv_iconst (v := 2) hx hb dX5_fewest_127 (by decide) ?_
          refine lv_iload hx hb dX5_fewest_128 (lv_at hl 8 rfl) ?_
          refine lv_imul hx hb dX5_fewest_130 ?_
          refine lv_iconst (v := 1) hx hb dX5_fewest_131 (by decide) ?_
          refine lv_iadd hx hb dX5_fewest_132 ?_
          refine lv_iload hx hb dX5_fewest_133 (lv_at hl 1 rfl) ?_
          refine runW_v (va_runV (As := [.int ((2 * x6_86) + 1), .int (sR_86 32 (Int32.toNatClampNeg (2 * x6_86)))]) (rest := []) ⟨hx, hb, hml, hown, hts⟩ (K_R_cheaper hg sR_86 vR ((2 * x6_86) + 1) (sR_86 32 (Int32.toNatClampNeg (2 * x6_86))) (by omega)) (cwV 2 hts gX5_fewest_X5_cheaper rfl rfl rfl (by decide +kernel) ⟨Nat.le_of_ble_eq_true rfl, Nat.le_of_ble_eq_true rfl⟩) (preV_of hE hA hS hPR (va_recv hE.1 hPR (ci := 5) (q0 := 0) rfl rfl)) rfl rfl hl.1 rfl (lv_room (Nat.le_of_ble_eq_true rfl)) dX5_fewest_135 ⟨Nat.zero_le _, Nat.zero_le _⟩) hS (fun _ h9 => h9) (fun H locs hQ hk hS => ?_)
          have hPR : va_P D vwCl (cellR cI g (m_R_cheaper sR_86 ((2 * x6_86) + 1) (sR_86 32 (Int32.toNatClampNeg (2 * x6_86)))) vR) H := hQ
          have v13 : okR (m_R_cheaper sR_86 ((2 * x6_86) + 1) (sR_86 32 (Int32.toNatClampNeg (2 * x6_86)))) := okR_cheaper (by assumption)
          have w13_3 : ((m_R_cheaper sR_86 ((2 * x6_86) + 1) (sR_86 32 (Int32.toNatClampNeg (2 * x6_86)))) 0 3).toInt = (sR_86 0 3).toInt := congrArg Int32.toInt (fr_R_cheaper (by omega))
          have w13_6 : ((m_R_cheaper sR_86 ((2 * x6_86) + 1) (sR_86 32 (Int32.toNatClampNeg (2 * x6_86)))) 0 6).toInt = (sR_86 0 6).toInt := congrArg Int32.toInt (fr_R_cheaper (by omega))
          have w13_7 : ((m_R_cheaper sR_86 ((2 * x6_86) + 1) (sR_86 32 (Int32.toNatClampNeg (2 * x6_86)))) 0 7).toInt = (sR_86 0 7).toInt := congrArg Int32.toInt (fr_R_cheaper (by omega))
          have w13_11 : ((m_R_cheaper sR_86 ((2 * x6_86) + 1) (sR_86 32 (Int32.toNatClampNeg (2 * x6_86)))) 0 11).toInt = (sR_86 0 11).toInt := congrArg Int32.toInt (fr_R_cheaper (by omega))
          have w13_16 : ((m_R_cheaper sR_86 ((2 * x6_86) + 1) (sR_86 32 (Int32.toNatClampNeg (2 * x6_86)))) 0 16).toInt = (sR_86 0 16).toInt := congrArg Int32.toInt (fr_R_cheaper (by omega))
          refine lv_aload_n hx hb dX5_fewest_138 rfl (lv_at hl 2 rfl) ?_
          refine lv_iconst (v := 2) hx hb dX5_fewest_139 (by decide) ?_
          refine lv_iload hx hb dX5_fewest_140 (lv_at hl 8 rfl) ?_
          refine lv_imul hx hb dX5_fewest_142 ?_
          refine lv_iconst (v := 1) hx hb dX5_fewest_143 (by decide) ?_
          refine lv_iadd hx hb dX5_fewest_144 ?_
          refine lv_iload hx hb dX5_fewest_145 (lv_at hl 0 rfl) ?_
          refine runW_v (va_runV (As := [.int ((2 * x6_86) + 1), .int (sR_86 32 (Int32.toNatClampNeg ((2 * x6_86) + 1)))]) (rest := []) ⟨hx, hb, hml, hown, hts⟩ (K_R_cheaper hg (m_R_cheaper sR_86 ((2 * x6_86) + 1) (sR_86 32 (Int32.toNatClampNeg (2 * x6_86)))) vR ((2 * x6_86) + 1) (sR_86 32 (Int32.toNatClampNeg ((2 * x6_86) + 1))) (by omega)) (cwV 2 hts gX5_fewest_X5_cheaper rfl rfl rfl (by decide +kernel) ⟨Nat.le_of_ble_eq_true rfl, Nat.le_of_ble_eq_true rfl⟩) (preV_of hE hA hS hPR (va_recv hE.1 hPR (ci := 5) (q0 := 0) rfl rfl)) rfl rfl hl.1 rfl (lv_room (Nat.le_of_ble_eq_true rfl)) dX5_fewest_147 ⟨Nat.zero_le _, Nat.zero_le _⟩) hS (fun _ h9 => h9) (fun H locs hQ hk hS => ?_)
          have hPR : va_P D vwCl (cellR cI g (m_R_cheaper (m_R_cheaper sR_86 ((2 * x6_86) + 1) (sR_86 32 (Int32.toNatClampNeg (2 * x6_86)))) ((2 * x6_86) + 1) (sR_86 32 (Int32.toNatClampNeg ((2 * x6_86) + 1)))) vR) H := hQ
          have v14 : okR (m_R_cheaper (m_R_cheaper sR_86 ((2 * x6_86) + 1) (sR_86 32 (Int32.toNatClampNeg (2 * x6_86)))) ((2 * x6_86) + 1) (sR_86 32 (Int32.toNatClampNeg ((2 * x6_86) + 1)))) := okR_cheaper (by assumption)
          have w14_3 : ((m_R_cheaper (m_R_cheaper sR_86 ((2 * x6_86) + 1) (sR_86 32 (Int32.toNatClampNeg (2 * x6_86)))) ((2 * x6_86) + 1) (sR_86 32 (Int32.toNatClampNeg ((2 * x6_86) + 1)))) 0 3).toInt = ((m_R_cheaper sR_86 ((2 * x6_86) + 1) (sR_86 32 (Int32.toNatClampNeg (2 * x6_86)))) 0 3).toInt := congrArg Int32.toInt (fr_R_cheaper (by omega))
          have w14_6 : ((m_R_cheaper (m_R_cheaper sR_86 ((2 * x6_86) + 1) (sR_86 32 (Int32.toNatClampNeg (2 * x6_86)))) ((2 * x6_86) + 1) (sR_86 32 (Int32.toNatClampNeg ((2 * x6_86) + 1)))) 0 6).toInt = ((m_R_cheaper sR_86 ((2 * x6_86) + 1) (sR_86 32 (Int32.toNatClampNeg (2 * x6_86)))) 0 6).toInt := congrArg Int32.toInt (fr_R_cheaper (by omega))
          have w14_7 : ((m_R_cheaper (m_R_cheaper sR_86 ((2 * x6_86) + 1) (sR_86 32 (Int32.toNatClampNeg (2 * x6_86)))) ((2 * x6_86) + 1) (sR_86 32 (Int32.toNatClampNeg ((2 * x6_86) + 1)))) 0 7).toInt = ((m_R_cheaper sR_86 ((2 * x6_86) + 1) (sR_86 32 (Int32.toNatClampNeg (2 * x6_86)))) 0 7).toInt := congrArg Int32.toInt (fr_R_cheaper (by omega))
          have w14_11 : ((m_R_cheaper (m_R_cheaper sR_86 ((2 * x6_86) + 1) (sR_86 32 (Int32.toNatClampNeg (2 * x6_86)))) ((2 * x6_86) + 1) (sR_86 32 (Int32.toNatClampNeg ((2 * x6_86) + 1)))) 0 11).toInt = ((m_R_cheaper sR_86 ((2 * x6_86) + 1) (sR_86 32 (Int32.toNatClampNeg (2 * x6_86)))) 0 11).toInt := congrArg Int32.toInt (fr_R_cheaper (by omega))
          have w14_16 : ((m_R_cheaper (m_R_cheaper sR_86 ((2 * x6_86) + 1) (sR_86 32 (Int32.toNatClampNeg (2 * x6_86)))) ((2 * x6_86) + 1) (sR_86 32 (Int32.toNatClampNeg ((2 * x6_86) + 1)))) 0 16).toInt = ((m_R_cheaper sR_86 ((2 * x6_86) + 1) (sR_86 32 (Int32.toNatClampNeg (2 * x6_86)))) 0 16).toInt := congrArg Int32.toInt (fr_R_cheaper (by omega))
          refine lv_goto (tgt := 244) hx hb dX5_fewest_150 (by decide) ?_
          refine lv_iinc (v := (x6_86 + 1)) (lv' := [(6, .int (x6_86 + 1)), (8, .int (sR_86 32 (Int32.toNatClampNeg ((2 * x6_86) + 1)))), (7, .int (sR_86 32 (Int32.toNatClampNeg (2 * x6_86)))), (0, .ref (g 0)), (1, .int p1), (2, .int p2), (3, .int x3_86), (4, .int x4_86), (5, .int x5_86)]) hx hb dX5_fewest_244 hl (k := 8) rfl rfl (by decide) rfl (fun ls hl => ?_)
          refine lv_goto (tgt := 86) hx hb dX5_fewest_247 (by decide) ?_
          have := t_inc (x := x6_86) (by omega)
          rw [wl_some hM] at kk
          exact ih (m_R_cheaper (m_R_cheaper sR_86 ((2 * x6_86) + 1) (sR_86 32 (Int32.toNatClampNeg (2 * x6_86)))) ((2 * x6_86) + 1) (sR_86 32 (Int32.toNatClampNeg ((2 * x6_86) + 1)))) x3_86 x4_86 x5_86 (x6_86 + 1) H locs ls (by omega) (by assumption) (by omega) (by omega) (by omega) (by omega) hPR hS (lv_sub hl [3, 4, 5, 6, 7, 8, 0] rfl) kk
  have L_253 : ∀ (n : Nat) (sR_253 : St) (x3_253 : Int32) (x4_253 : Int32) (x6_253 : Int32) (H : Heap) (locs : List Loc) (ls : Array Slot), 0 ≤ x6_253.toInt ∧ x6_253.toInt ≤ 6 → okR sR_253 → p1.toInt < (sR_253 0 6).toInt → (sR_253 0 7).toInt = (sR 0 7).toInt → (6 - x6_253.toInt).toNat < n → va_P D vwCl (cellR cI g sR_253 vR) H → va_S (wA g 0 16) s.heap H locs → lv_has ls 9 [(0, .ref (g 0)), (1, .int p1), (2, .int p2), (3, .int x3_253), (4, .int x4_253), (6, .int x6_253)] → (∀ (H : Heap) (locs : List Loc) (ls : Array Slot), 0 ≤ (wl g_R_fewest_253 n (sR_253, x6_253)).2.toInt ∧ (wl g_R_fewest_253 n (sR_253, x6_253)).2.toInt ≤ 6 → okR (wl g_R_fewest_253 n (sR_253, x6_253)).1 → p1.toInt < ((wl g_R_fewest_253 n (sR_253, x6_253)).1 0 6).toInt → ((wl g_R_fewest_253 n (sR_253, x6_253)).1 0 7).toInt = (sR 0 7).toInt → va_P D vwCl (cellR cI g (wl g_R_fewest_253 n (sR_253, x6_253)).1 vR) H → va_S (wA g 0 16) s.heap H locs → lv_has ls 9 [(0, .ref (g 0)), (1, .int p1), (2, .int p2), (3, .int x3_253), (4, .int x4_253)] → W p l e rm_R_fewest s m args below meth c H locs 0 0 Q (F0 m 280 ls [])) → W p l e rm_R_fewest s m args below meth c H locs 0 0 Q (F0 m 253 ls []) := by
    intro n
    induction n with
    | zero =>
      intro sR_253 x3_253 x4_253 x6_253 H locs ls i253_0 i253_1 i253_2 i253_3 hn253 hPR hS hl kk
      exact absurd hn253 (Nat.not_lt_zero _)
    | succ n ih =>
      intro sR_253 x3_253 x4_253 x6_253 H locs ls i253_0 i253_1 i253_2 i253_3 hn253 hPR hS hl kk
      have ni253_1 := okR_lin i253_1
      have hM : g_R_fewest_253 (sR_253, x6_253) = g_R_fewest_253 (sR_253, x6_253) := rfl
      refine lv_iload hx hb dX5_fewest_253 (lv_at hl 5 rfl) ?_
      refine lv_bipush (v := 6) hx hb dX5_fewest_255 (by decide) ?_
      refine lv_icmp_ge (tgt := 280) hx hb dX5_fewest_257 (by decide) (fun c_15 => ?_) (fun c_15 => ?_)
      · have hM := hM.trans (if_pos c_15)
        have t_15 := le_t c_15
        rw [tl_6] at t_15
        rw [wl_none hM] at kk
        try dsimp only at kk
        exact kk H locs ls (by omega) (by assumption) (by omega) (by omega) hPR hS (lv_sub hl [0, 1, 2, 3, 4] rfl)
      · have hM := hM.trans (if_neg c_15)
        have t_15 := nle_t c_15
        rw [tl_6] at t_15
        refine lv_aload_n hx hb dX5_fewest_260 rfl (lv_at hl 0 rfl) ?_
        refine va_get (D := D) (ci := 5) (v := .ref (g 14)) (C := RX5) (T := TX5) (N := 33) hx hb hts hinR hown hE.1 hPR 0 rfl rfl 31 (by decide) (hts (.fieldLink RX5 62 "WallStonesModel" "cost" "[I") (List.mem_of_getElem? (i := 2) rfl)) (fun _ h9 => h9) rfl dX5_fewest_261 ?_
        refine lv_iload hx hb dX5_fewest_264 (lv_at hl 5 rfl) ?_
        refine lv_aload_n hx hb dX5_fewest_266 rfl (lv_at hl 0 rfl) ?_
        refine va_get (D := D) (ci := 5) (v := .ref (g 15)) (C := RX5) (T := TX5) (N := 33) hx hb hts hinR hown hE.1 hPR 0 rfl rfl 32 (by decide) (hts (.fieldLink RX5 65 "WallStonesModel" "then" "[I") (List.mem_of_getElem? (i := 5) rfl)) (fun _ h9 => h9) rfl dX5_fewest_267 ?_
        refine lv_iload hx hb dX5_fewest_270 (lv_at hl 5 rfl) ?_
        refine va_iald hx hb hE.1 hPR 15 0 rfl rfl (vp_in_iff.mpr (by omega)) dX5_fewest_272 ?_
        refine W.eq (g2 := F0 m 273 ls [.int (sR_253 33 (Int32.toNatClampNeg x6_253)), .int x6_253, .ref (g 14)]) rfl ?_
        refine va_iast hx hb hE.1 hPR (wD_of hg (c := 0) (n := 16) (by decide) (by decide) rfl) hS 14 0 rfl rfl (vp_in_iff.mpr (by omega)) dX5_fewest_273 (fun H locs hPn _ hS => ?_)
        have hPR : va_P D vwCl (cellR cI g (up sR_253 32 (Int32.toNatClampNeg x6_253) (sR_253 33 (Int32.toNatClampNeg x6_253))) vR) H := (congrArg (fun z => va_P D vwCl z H) setR_R32).mp hPn
        refine lv_iinc (v := (x6_253 + 1)) (lv' := [(6, .int (x6_253 + 1)), (0, .ref (g 0)), (1, .int p1), (2, .int p2), (3, .int x3_253), (4, .int x4_253)]) hx hb dX5_fewest_274 hl (k := 5) rfl rfl (by decide) rfl (fun ls hl => ?_)
        refine lv_goto (tgt := 253) hx hb dX5_fewest_277 (by decide) ?_
        have q16 : ((up sR_253 32 (Int32.toNatClampNeg x6_253) (sR_253 33 (Int32.toNatClampNeg x6_253))) 0 6).toInt = (sR_253 0 6).toInt := rfl
        have q17 : ((up sR_253 32 (Int32.toNatClampNeg x6_253) (sR_253 33 (Int32.toNatClampNeg x6_253))) 0 7).toInt = (sR_253 0 7).toInt := rfl
        have := t_inc (x := x6_253) (by omega)
        rw [wl_some hM] at kk
        exact ih (up sR_253 32 (Int32.toNatClampNeg x6_253) (sR_253 33 (Int32.toNatClampNeg x6_253))) x3_253 x4_253 (x6_253 + 1) H locs ls (by omega) (by assumption) (by omega) (by omega) (by omega) hPR hS (lv_sub hl [1, 2, 3, 4, 5, 0] rfl) kk
  have L_6 : ∀ (n : Nat) (sR_6 : St) (x3_6 : Int32) (x4_6 : Int32) (H : Heap) (locs : List Loc) (ls : Array Slot), 0 ≤ x4_6.toInt ∧ x4_6.toInt ≤ 6 → okR sR_6 → p1.toInt < (sR_6 0 6).toInt → (sR_6 0 7).toInt = (sR 0 7).toInt → (6 - x4_6.toInt).toNat < n → va_P D vwCl (cellR cI g sR_6 vR) H → va_S (wA g 0 16) s.heap H locs → lv_has ls 9 [(0, .ref (g 0)), (1, .int p1), (2, .int p2), (3, .int x3_6), (4, .int x4_6)] → (∀ (H : Heap) (locs : List Loc) (ls : Array Slot), 0 ≤ (wl (g_R_fewest_6 x3_6) n (sR_6, x4_6)).2.toInt ∧ (wl (g_R_fewest_6 x3_6) n (sR_6, x4_6)).2.toInt ≤ 6 → okR (wl (g_R_fewest_6 x3_6) n (sR_6, x4_6)).1 → p1.toInt < ((wl (g_R_fewest_6 x3_6) n (sR_6, x4_6)).1 0 6).toInt → ((wl (g_R_fewest_6 x3_6) n (sR_6, x4_6)).1 0 7).toInt = (sR 0 7).toInt → va_P D vwCl (cellR cI g (wl (g_R_fewest_6 x3_6) n (sR_6, x4_6)).1 vR) H → va_S (wA g 0 16) s.heap H locs → lv_has ls 9 [(0, .ref (g 0)), (1, .int p1), (2, .int p2), (3, .int x3_6)] → W p l e rm_R_fewest s m args below meth c H locs 0 0 Q (F0 m 36 ls [])) → W p l e rm_R_fewest s m args below meth c H locs 0 0 Q (F0 m 6 ls []) := by
    intro n
    induction n with
    | zero =>
      intro sR_6 x3_6 x4_6 H locs ls i6_0 i6_1 i6_2 i6_3 hn6 hPR hS hl kk
      exact absurd hn6 (Nat.not_lt_zero _)
    | succ n ih =>
      intro sR_6 x3_6 x4_6 H locs ls i6_0 i6_1 i6_2 i6_3 hn6 hPR hS hl kk
      have ni6_1 := okR_lin i6_1
      have hM : (g_R_fewest_6 x3_6) (sR_6, x4_6) = (g_R_fewest_6 x3_6) (sR_6, x4_6) := rfl
      refine lv_iload hx hb dX5_fewest_6 (lv_at hl 4 rfl) ?_
      refine lv_bipush (v := 6) hx hb dX5_fewest_8 (by decide) ?_
      refine lv_icmp_ge (tgt := 36) hx hb dX5_fewest_10 (by decide) (fun c_18 => ?_) (fun c_18 => ?_)
      · have hM := hM.trans (if_pos c_18)
        have t_18 := le_t c_18
        rw [tl_6] at t_18
        rw [wl_none hM] at kk
        try dsimp only at kk
        exact kk H locs ls (by omega) (by assumption) (by omega) (by omega) hPR hS (lv_sub hl [0, 1, 2, 3] rfl)
      · have hM := hM.trans (if_neg c_18)
        have t_18 := nle_t c_18
        rw [tl_6] at t_18
        refine lv_aload_n hx hb dX5_fewest_13 rfl (lv_at hl 0 rfl) ?_
        refine va_get (D := D) (ci := 5) (v := .ref (g 14)) (C := RX5) (T := TX5) (N := 33) hx hb hts hinR hown hE.1 hPR 0 rfl rfl 31 (by decide) (hts (.fieldLink RX5 62 "WallStonesModel" "cost" "[I") (List.mem_of_getElem? (i := 2) rfl)) (fun _ h9 => h9) rfl dX5_fewest_14 ?_
        refine lv_iload hx hb dX5_fewest_17 (lv_at hl 4 rfl) ?_
        refine lv_iload hx hb dX5_fewest_19 (lv_at hl 4 rfl) ?_
        refine lv_if_ne (tgt := 28) hx hb dX5_fewest_21 (by decide) (fun c_19 => ?_) (fun c_19 => ?_)
        · have hM := hM.trans (if_neg c_19)
          have t_19 := ne_t c_19
          rw [tl_0] at t_19
          refine lv_iload_n hx hb dX5_fewest_28 rfl (lv_at hl 3 rfl) ?_
          refine va_iast hx hb hE.1 hPR (wD_of hg (c := 0) (n := 16) (by decide) (by decide) rfl) hS 14 0 rfl rfl (vp_in_iff.mpr (by omega)) dX5_fewest_29 (fun H locs hPn _ hS => ?_)
          have hPR : va_P D vwCl (cellR cI g (up sR_6 32 (Int32.toNatClampNeg x4_6) x3_6) vR) H := (congrArg (fun z => va_P D vwCl z H) setR_R32).mp hPn
          refine lv_iinc (v := (x4_6 + 1)) (lv' := [(4, .int (x4_6 + 1)), (0, .ref (g 0)), (1, .int p1), (2, .int p2), (3, .int x3_6)]) hx hb dX5_fewest_30 hl (k := 4) rfl rfl (by decide) rfl (fun ls hl => ?_)
          refine lv_goto (tgt := 6) hx hb dX5_fewest_33 (by decide) ?_
          have q20 : ((up sR_6 32 (Int32.toNatClampNeg x4_6) x3_6) 0 6).toInt = (sR_6 0 6).toInt := rfl
          have q21 : ((up sR_6 32 (Int32.toNatClampNeg x4_6) x3_6) 0 7).toInt = (sR_6 0 7).toInt := rfl
          have := t_inc (x := x4_6) (by omega)
          rw [wl_some hM] at kk
          exact ih (up sR_6 32 (Int32.toNatClampNeg x4_6) x3_6) x3_6 (x4_6 + 1) H locs ls (by omega) (by assumption) (by omega) (by omega) (by omega) hPR hS (lv_sub hl [1, 2, 3, 4, 0] rfl) kk
        · have hM := hM.trans (if_pos c_19)
          have t_19 := eq_t c_19
          rw [tl_0] at t_19
          refine lv_iconst (v := 0) hx hb dX5_fewest_24 (by decide) ?_
          refine lv_goto (tgt := 29) hx hb dX5_fewest_25 (by decide) ?_
          refine va_iast hx hb hE.1 hPR (wD_of hg (c := 0) (n := 16) (by decide) (by decide) rfl) hS 14 0 rfl rfl (vp_in_iff.mpr (by omega)) dX5_fewest_29 (fun H locs hPn _ hS => ?_)
          have hPR : va_P D vwCl (cellR cI g (up sR_6 32 (Int32.toNatClampNeg x4_6) 0) vR) H := (congrArg (fun z => va_P D vwCl z H) setR_R32).mp hPn
          refine lv_iinc (v := (x4_6 + 1)) (lv' := [(4, .int (x4_6 + 1)), (0, .ref (g 0)), (1, .int p1), (2, .int p2), (3, .int x3_6)]) hx hb dX5_fewest_30 hl (k := 4) rfl rfl (by decide) rfl (fun ls hl => ?_)
          refine lv_goto (tgt := 6) hx hb dX5_fewest_33 (by decide) ?_
          have q22 : ((up sR_6 32 (Int32.toNatClampNeg x4_6) 0) 0 6).toInt = (sR_6 0 6).toInt := rfl
          have q23 : ((up sR_6 32 (Int32.toNatClampNeg x4_6) 0) 0 7).toInt = (sR_6 0 7).toInt := rfl
          have := t_inc (x := x4_6) (by omega)
          rw [wl_some hM] at kk
          exact ih (up sR_6 32 (Int32.toNatClampNeg x4_6) 0) x3_6 (x4_6 + 1) H locs ls (by omega) (by assumption) (by omega) (by omega) (by omega) hPR hS (lv_sub hl [1, 2, 3, 4, 0] rfl) kk
  have L_39 : ∀ (n : Nat) (sR_39 : St) (x3_39 : Int32) (x4_39 : Int32) (H : Heap) (locs : List Loc) (ls : Array Slot), 0 ≤ x4_39.toInt ∧ x4_39.toInt ≤ (sR_39 0 7).toInt → okR sR_39 → p1.toInt < (sR_39 0 6).toInt → (sR_39 0 7).toInt = (sR 0 7).toInt → ((sR_39 0 7).toInt - x4_39.toInt).toNat < n → va_P D vwCl (cellR cI g sR_39 vR) H → va_S (wA g 0 16) s.heap H locs → lv_has ls 9 [(0, .ref (g 0)), (1, .int p1), (2, .int p2), (3, .int x3_39), (4, .int x4_39)] → (∀ (H : Heap) (locs : List Loc) (ls : Array Slot), 0 ≤ (wl (g_R_fewest_39 p1 p2 x3_39) n (sR_39, x4_39)).2.toInt ∧ (wl (g_R_fewest_39 p1 p2 x3_39) n (sR_39, x4_39)).2.toInt ≤ ((wl (g_R_fewest_39 p1 p2 x3_39) n (sR_39, x4_39)).1 0 7).toInt → okR (wl (g_R_fewest_39 p1 p2 x3_39) n (sR_39, x4_39)).1 → p1.toInt < ((wl (g_R_fewest_39 p1 p2 x3_39) n (sR_39, x4_39)).1 0 6).toInt → ((wl (g_R_fewest_39 p1 p2 x3_39) n (sR_39, x4_39)).1 0 7).toInt = (sR 0 7).toInt → va_P D vwCl (cellR cI g (wl (g_R_fewest_39 p1 p2 x3_39) n (sR_39, x4_39)).1 vR) H → va_S (wA g 0 16) s.heap H locs → lv_has ls 9 [(0, .ref (g 0)), (3, .int x3_39)] → W p l e rm_R_fewest s m args below meth c H locs 0 0 Q (F0 m 286 ls [])) → W p l e rm_R_fewest s m args below meth c H locs 0 0 Q (F0 m 39 ls []) := by
    intro n
    induction n with
    | zero =>
      intro sR_39 x3_39 x4_39 H locs ls i39_0 i39_1 i39_2 i39_3 hn39 hPR hS hl kk
      exact absurd hn39 (Nat.not_lt_zero _)
    | succ n ih =>
      intro sR_39 x3_39 x4_39 H locs ls i39_0 i39_1 i39_2 i39_3 hn39 hPR hS hl kk
      have ni39_1 := okR_lin i39_1
      have J_280 : ∀ (sR_280 : St) (x4_280 : Int32) (H : Heap) (locs : List Loc) (ls : Array Slot), okR sR_280 → p1.toInt < (sR_280 0 6).toInt → (sR_280 0 7).toInt = (sR 0 7).toInt → 0 ≤ x4_280.toInt ∧ x4_280.toInt < (sR_280 0 7).toInt → ((sR_280 0 7).toInt - x4_280.toInt).toNat < n + 1 → va_P D vwCl (cellR cI g sR_280 vR) H → va_S (wA g 0 16) s.heap H locs → lv_has ls 9 [(0, .ref (g 0)), (1, .int p1), (2, .int p2), (3, .int x3_39), (4, .int x4_280)] → (g_R_fewest_39 p1 p2 x3_39) (sR_39, x4_39) = b_R_fewest_280 sR_280 p1 p2 x3_39 x4_280 → W p l e rm_R_fewest s m args below meth c H locs 0 0 Q (F0 m 280 ls []) := by
        intro sR_280 x4_280 H locs ls i280_0 i280_1 i280_2 i280_3 i280_4 hPR hS hl hM
        have ni280_0 := okR_lin i280_0
        refine lv_iinc (v := (x4_280 + 1)) (lv' := [(4, .int (x4_280 + 1)), (0, .ref (g 0)), (1, .int p1), (2, .int p2), (3, .int x3_39)]) hx hb dX5_fewest_280 hl (k := 4) rfl rfl (by decide) rfl (fun ls hl => ?_)
        refine lv_goto (tgt := 39) hx hb dX5_fewest_283 (by decide) ?_
        have := t_inc (x := x4_280) (by omega)
        rw [wl_some hM] at kk
        exact ih sR_280 x3_39 (x4_280 + 1) H locs ls (by omega) (by assumption) (by omega) (by omega) (by omega) hPR hS (lv_sub hl [1, 2, 3, 4, 0] rfl) kk
      have J_250 : ∀ (sR_250 : St) (x4_250 : Int32) (H : Heap) (locs : List Loc) (ls : Array Slot), okR sR_250 → p1.toInt < (sR_250 0 6).toInt → (sR_250 0 7).toInt = (sR 0 7).toInt → 0 ≤ x4_250.toInt ∧ x4_250.toInt < (sR_250 0 7).toInt → ((sR_250 0 7).toInt - x4_250.toInt).toNat < n + 1 → va_P D vwCl (cellR cI g sR_250 vR) H → va_S (wA g 0 16) s.heap H locs → lv_has ls 9 [(0, .ref (g 0)), (1, .int p1), (2, .int p2), (3, .int x3_39), (4, .int x4_250)] → (g_R_fewest_39 p1 p2 x3_39) (sR_39, x4_39) = b_R_fewest_250 sR_250 p1 p2 x3_39 x4_250 → W p l e rm_R_fewest s m args below meth c H locs 0 0 Q (F0 m 250 ls []) := by
        intro sR_250 x4_250 H locs ls i250_0 i250_1 i250_2 i250_3 i250_4 hPR hS hl hM
        have ni250_0 := okR_lin i250_0
        refine lv_iconst (v := 0) hx hb dX5_fewest_250 (by decide) ?_
        refine lv_istore (lv' := [(6, .int 0), (0, .ref (g 0)), (1, .int p1), (2, .int p2), (3, .int x3_39), (4, .int x4_250)]) hx hb dX5_fewest_251 hl (by decide) rfl (fun ls hl => ?_)
        have z24 := tl_0
        refine L_253 7 sR_250 x3_39 x4_250 0 H locs ls (by omega) (by assumption) (by omega) (by omega) (by omega) hPR hS (lv_sub hl [1, 2, 3, 4, 5, 0] rfl) (fun H locs ls k0 k1 k2 k3 hPR hS hl => ?_)
        have nk1 := okR_lin k1
        exact J_280 (wl g_R_fewest_253 7 (sR_250, 0)).1 x4_250 H locs ls (by assumption) (by omega) (by omega) (by omega) (by omega) hPR hS (lv_sub hl [0, 1, 2, 3, 4] rfl) hM
      have J_83 : ∀ (sR_83 : St) (x4_83 : Int32) (x5_83 : Int32) (H : Heap) (locs : List Loc) (ls : Array Slot), okR sR_83 → p1.toInt < (sR_83 0 6).toInt → 0 ≤ x5_83.toInt ∧ x5_83.toInt ≤ 47 → (sR_83 0 7).toInt = (sR 0 7).toInt → 0 ≤ x4_83.toInt ∧ x4_83.toInt < (sR_83 0 7).toInt → ((sR_83 0 7).toInt - x4_83.toInt).toNat < n + 1 → va_P D vwCl (cellR cI g sR_83 vR) H → va_S (wA g 0 16) s.heap H locs → lv_has ls 9 [(0, .ref (g 0)), (1, .int p1), (2, .int p2), (3, .int x3_39), (4, .int x4_83), (5, .int x5_83)] → (g_R_fewest_39 p1 p2 x3_39) (sR_39, x4_39) = b_R_fewest_83 sR_83 p1 p2 x3_39 x4_83 x5_83 → W p l e rm_R_fewest s m args below meth c H locs 0 0 Q (F0 m 83 ls []) := by
        intro sR_83 x4_83 x5_83 H locs ls i83_0 i83_1 i83_2 i83_3 i83_4 i83_5 hPR hS hl hM
        have ni83_0 := okR_lin i83_0
        refine lv_iconst (v := 0) hx hb dX5_fewest_83 (by decide) ?_
        refine lv_istore (lv' := [(6, .int 0), (0, .ref (g 0)), (1, .int p1), (2, .int p2), (3, .int x3_39), (4, .int x4_83), (5, .int x5_83)]) hx hb dX5_fewest_84 hl (by decide) rfl (fun ls hl => ?_)
        have z25 := tl_0
        refine L_86 4 sR_83 x3_39 x4_83 x5_83 0 H locs ls (by omega) (by assumption) (by omega) (by omega) (by omega) (by omega) hPR hS (lv_sub hl [1, 2, 3, 4, 5, 6, 0] rfl) (fun H locs ls k0 k1 k2 k3 k4 hPR hS hl => ?_)
        have nk1 := okR_lin k1
        exact J_250 (wl (g_R_fewest_86 p2 x3_39 x5_83) 4 (sR_83, 0)).1 x4_83 H locs ls (by assumption) (by omega) (by omega) (by omega) (by omega) hPR hS (lv_sub hl [0, 1, 2, 3, 4] rfl) hM
      have hM : (g_R_fewest_39 p1 p2 x3_39) (sR_39, x4_39) = (g_R_fewest_39 p1 p2 x3_39) (sR_39, x4_39) := rfl
      refine lv_iload hx hb dX5_fewest_39 (lv_at hl 4 rfl) ?_
      refine lv_aload_n hx hb dX5_fewest_41 rfl (lv_at hl 0 rfl) ?_
      refine va_get (D := D) (ci := 5) (v := .int (sR_39 0 7)) (C := RX5) (T := TX5) (N := 33) hx hb hts hinR hown hE.1 hPR 0 rfl rfl 7 (by decide) (hts (.fieldLink RX5 26 "WallStonesModel" "height" "I") (List.mem_of_getElem? (i := 3) rfl)) (fun _ h9 => h9) rfl dX5_fewest_42 ?_
      refine lv_icmp_ge (tgt := 286) hx hb dX5_fewest_45 (by decide) (fun c_26 => ?_) (fun c_26 => ?_)
      · have hM := hM.trans (if_pos c_26)
        have t_26 := le_t c_26
        rw [wl_none hM] at kk
        try dsimp only at kk
        exact kk H locs ls (by omega) (by assumption) (by omega) (by omega) hPR hS (lv_sub hl [0, 3] rfl)
      · have hM := hM.trans (if_neg c_26)
        have t_26 := nle_t c_26
        refine lv_iload_n hx hb dX5_fewest_48 rfl (lv_at hl 1 rfl) ?_
        refine lv_aload_n hx hb dX5_fewest_49 rfl (lv_at hl 0 rfl) ?_
        refine va_get (D := D) (ci := 5) (v := .int (sR_39 0 6)) (C := RX5) (T := TX5) (N := 33) hx hb hts hinR hown hE.1 hPR 0 rfl rfl 6 (by decide) (hts (.fieldLink RX5 23 "WallStonesModel" "width" "I") (List.mem_of_getElem? (i := 4) rfl)) (fun _ h9 => h9) rfl dX5_fewest_50 ?_
        refine lv_iload hx hb dX5_fewest_53 (lv_at hl 4 rfl) ?_
        refine lv_imul hx hb dX5_fewest_55 ?_
        refine lv_iadd hx hb dX5_fewest_56 ?_
        refine lv_istore (lv' := [(5, .int (p1 + ((sR_39 0 6) * x4_39))), (0, .ref (g 0)), (1, .int p1), (2, .int p2), (3, .int x3_39), (4, .int x4_39)]) hx hb dX5_fewest_57 hl (by decide) rfl (fun ls hl => ?_)
        have hcc := cell_b (s := sR_39) (x := p1) (y := x4_39) (by assumption) (by omega)
        refine lv_iconst (v := 0) hx hb dX5_fewest_59 (by decide) ?_
        refine lv_istore (lv' := [(6, .int 0), (5, .int (p1 + ((sR_39 0 6) * x4_39))), (0, .ref (g 0)), (1, .int p1), (2, .int p2), (3, .int x3_39), (4, .int x4_39)]) hx hb dX5_fewest_60 hl (by decide) rfl (fun ls hl => ?_)
        have z27 := tl_0
        refine L_62 7 sR_39 x3_39 x4_39 (p1 + ((sR_39 0 6) * x4_39)) 0 H locs ls (by omega) (by assumption) (by omega) (by omega) (by omega) hPR hS (lv_sub hl [2, 3, 4, 5, 6, 1, 0] rfl) (fun H locs ls k0 k1 k2 k3 hPR hS hl => ?_)
        have nk1 := okR_lin k1
        exact J_83 (wl (g_R_fewest_62 x3_39) 7 (sR_39, 0)).1 x4_39 (p1 + ((sR_39 0 6) * x4_39)) H locs ls (by assumption) (by omega) (by omega) (by omega) (by omega) (by omega) hPR hS (lv_sub hl [0, 1, 2, 3, 4, 5] rfl) hM
  have L_292 : ∀ (n : Nat) (sR_292 : St) (x4_292 : Int32) (x5_292 : Int32) (H : Heap) (locs : List Loc) (ls : Array Slot), 0 ≤ x5_292.toInt ∧ x5_292.toInt ≤ 2 * (sR_292 0 11).toInt + 2 → 0 ≤ (sR_292 0 11).toInt ∧ (sR_292 0 11).toInt ≤ 2 → (2 * (sR_292 0 11).toInt + 2 - x5_292.toInt).toNat < n → va_P D vwCl (cellR cI g sR_292 vR) H → va_S (wA g 0 16) s.heap H locs → lv_has ls 9 [(0, .ref (g 0)), (4, .int x4_292), (5, .int x5_292)] → (∀ (H : Heap) (locs : List Loc) (ls : Array Slot), 0 ≤ (wl (g_R_fewest_292 sR_292) n (x4_292, x5_292)).2.toInt ∧ (wl (g_R_fewest_292 sR_292) n (x4_292, x5_292)).2.toInt ≤ 2 * (sR_292 0 11).toInt + 2 → 0 ≤ (sR_292 0 11).toInt ∧ (sR_292 0 11).toInt ≤ 2 → va_P D vwCl (cellR cI g sR_292 vR) H → va_S (wA g 0 16) s.heap H locs → lv_has ls 9 [(4, .int (wl (g_R_fewest_292 sR_292) n (x4_292, x5_292)).1)] → W p l e rm_R_fewest s m args below meth c H locs 0 0 Q (F0 m 337 ls [])) → W p l e rm_R_fewest s m args below meth c H locs 0 0 Q (F0 m 292 ls []) := by
    intro n
    induction n with
    | zero =>
      intro sR_292 x4_292 x5_292 H locs ls i292_0 i292_1 hn292 hPR hS hl kk
      exact absurd hn292 (Nat.not_lt_zero _)
    | succ n ih =>
      intro sR_292 x4_292 x5_292 H locs ls i292_0 i292_1 hn292 hPR hS hl kk
      have hM : (g_R_fewest_292 sR_292) (x4_292, x5_292) = (g_R_fewest_292 sR_292) (x4_292, x5_292) := rfl
      have dl := dbl (a := (sR_292 0 11)) (by omega)
      refine lv_iload hx hb dX5_fewest_292 (lv_at hl 2 rfl) ?_
      refine lv_iconst (v := 2) hx hb dX5_fewest_294 (by decide) ?_
      refine lv_aload_n hx hb dX5_fewest_295 rfl (lv_at hl 0 rfl) ?_
      refine va_get (D := D) (ci := 5) (v := .int (sR_292 0 11)) (C := RX5) (T := TX5) (N := 33) hx hb hts hinR hown hE.1 hPR 0 rfl rfl 11 (by decide) (hts (.fieldLink RX5 167 "WallStonesModel" "level" "I") (List.mem_of_getElem? (i := 9) rfl)) (fun _ h9 => h9) rfl dX5_fewest_296 ?_
      refine lv_imul hx hb dX5_fewest_299 ?_
      refine lv_iconst (v := 2) hx hb dX5_fewest_300 (by decide) ?_
      refine lv_iadd hx hb dX5_fewest_301 ?_
      refine lv_icmp_ge (tgt := 337) hx hb dX5_fewest_302 (by decide) (fun c_28 => ?_) (fun c_28 => ?_)
      · have hM := hM.trans (if_pos c_28)
        have t_28 := le_t c_28
        rw [wl_none hM] at kk
        try dsimp only at kk
        exact kk H locs ls (by omega) (by omega) hPR hS (lv_sub hl [1] rfl)
      · have hM := hM.trans (if_neg c_28)
        have t_28 := nle_t c_28
        refine lv_aload_n hx hb dX5_fewest_305 rfl (lv_at hl 0 rfl) ?_
        refine va_get (D := D) (ci := 5) (v := .ref (g 14)) (C := RX5) (T := TX5) (N := 33) hx hb hts hinR hown hE.1 hPR 0 rfl rfl 31 (by decide) (hts (.fieldLink RX5 62 "WallStonesModel" "cost" "[I") (List.mem_of_getElem? (i := 2) rfl)) (fun _ h9 => h9) rfl dX5_fewest_306 ?_
        refine lv_iload hx hb dX5_fewest_309 (lv_at hl 2 rfl) ?_
        refine va_iald hx hb hE.1 hPR 14 0 rfl rfl (vp_in_iff.mpr (by omega)) dX5_fewest_311 ?_
        refine W.eq (g2 := F0 m 312 ls [.int (sR_292 32 (Int32.toNatClampNeg x5_292))]) rfl ?_
        refine lv_iload hx hb dX5_fewest_312 (lv_at hl 1 rfl) ?_
        refine lv_icmp_ge (tgt := 327) hx hb dX5_fewest_314 (by decide) (fun c_29 => ?_) (fun c_29 => ?_)
        · have hM := hM.trans (if_pos c_29)
          have t_29 := le_t c_29
          refine lv_iload hx hb dX5_fewest_327 (lv_at hl 1 rfl) ?_
          refine lv_istore (lv' := [(4, .int x4_292), (0, .ref (g 0)), (5, .int x5_292)]) hx hb dX5_fewest_329 hl (by decide) rfl (fun ls hl => ?_)
          refine lv_iinc (v := (x5_292 + 1)) (lv' := [(5, .int (x5_292 + 1)), (4, .int x4_292), (0, .ref (g 0))]) hx hb dX5_fewest_331 hl (k := 2) rfl rfl (by decide) rfl (fun ls hl => ?_)
          refine lv_goto (tgt := 292) hx hb dX5_fewest_334 (by decide) ?_
          have := t_inc (x := x5_292) (by omega)
          rw [wl_some hM] at kk
          exact ih sR_292 x4_292 (x5_292 + 1) H locs ls (by omega) (by omega) (by omega) hPR hS (lv_sub hl [2, 1, 0] rfl) kk
        · have hM := hM.trans (if_neg c_29)
          have t_29 := nle_t c_29
          refine lv_aload_n hx hb dX5_fewest_317 rfl (lv_at hl 0 rfl) ?_
          refine va_get (D := D) (ci := 5) (v := .ref (g 14)) (C := RX5) (T := TX5) (N := 33) hx hb hts hinR hown hE.1 hPR 0 rfl rfl 31 (by decide) (hts (.fieldLink RX5 62 "WallStonesModel" "cost" "[I") (List.mem_of_getElem? (i := 2) rfl)) (fun _ h9 => h9) rfl dX5_fewest_318 ?_
          refine lv_iload hx hb dX5_fewest_321 (lv_at hl 2 rfl) ?_
          refine va_iald hx hb hE.1 hPR 14 0 rfl rfl (vp_in_iff.mpr (by omega)) dX5_fewest_323 ?_
          refine W.eq (g2 := F0 m 324 ls [.int (sR_292 32 (Int32.toNatClampNeg x5_292))]) rfl ?_
          refine lv_goto (tgt := 329) hx hb dX5_fewest_324 (by decide) ?_
          refine lv_istore (lv' := [(4, .int (sR_292 32 (Int32.toNatClampNeg x5_292))), (0, .ref (g 0)), (5, .int x5_292)]) hx hb dX5_fewest_329 hl (by decide) rfl (fun ls hl => ?_)
          refine lv_iinc (v := (x5_292 + 1)) (lv' := [(5, .int (x5_292 + 1)), (4, .int (sR_292 32 (Int32.toNatClampNeg x5_292))), (0, .ref (g 0))]) hx hb dX5_fewest_331 hl (k := 2) rfl rfl (by decide) rfl (fun ls hl => ?_)
          refine lv_goto (tgt := 292) hx hb dX5_fewest_334 (by decide) ?_
          have := t_inc (x := x5_292) (by omega)
          rw [wl_some hM] at kk
          exact ih sR_292 (sR_292 32 (Int32.toNatClampNeg x5_292)) (x5_292 + 1) H locs ls (by omega) (by omega) (by omega) hPR hS (lv_sub hl [2, 1, 0] rfl) kk
  have J_337 : ∀ (sR_337 : St) (x4_337 : Int32) (H : Heap) (locs : List Loc) (ls : Array Slot), va_P D vwCl (cellR cI g sR_337 vR) H → va_S (wA g 0 16) s.heap H locs → lv_has ls 9 [(4, .int x4_337)] → (m_R_fewest sR p1 p2) = b_R_fewest_337 sR_337 x4_337 → W p l e rm_R_fewest s m args below meth c H locs 0 0 Q (F0 m 337 ls []) := by
    intro sR_337 x4_337 H locs ls hPR hS hl hM
    refine lv_iload hx hb dX5_fewest_337 (lv_at hl 0 rfl) ?_
    have hM : (m_R_fewest sR p1 p2) = ((x4_337, sR_337) : Int32 × St) := hM
    exact hret x4_337 H locs _ ls (nr_i _) dX5_fewest_339 (ret1 hM) (rP_v1 (P := fun (z0 : St) => va_P D vwCl (cellR cI g z0 vR) H) hM hPR) hS
  have J_286 : ∀ (sR_286 : St) (x3_286 : Int32) (H : Heap) (locs : List Loc) (ls : Array Slot), okR sR_286 → va_P D vwCl (cellR cI g sR_286 vR) H → va_S (wA g 0 16) s.heap H locs → lv_has ls 9 [(0, .ref (g 0)), (3, .int x3_286)] → (m_R_fewest sR p1 p2) = b_R_fewest_286 sR_286 x3_286 → W p l e rm_R_fewest s m args below meth c H locs 0 0 Q (F0 m 286 ls []) := by
    intro sR_286 x3_286 H locs ls i286_0 hPR hS hl hM
    have ni286_0 := okR_lin i286_0
    refine lv_iload_n hx hb dX5_fewest_286 rfl (lv_at hl 1 rfl) ?_
    refine lv_istore (lv' := [(4, .int x3_286), (0, .ref (g 0)), (3, .int x3_286)]) hx hb dX5_fewest_287 hl (by decide) rfl (fun ls hl => ?_)
    refine lv_iconst (v := 0) hx hb dX5_fewest_289 (by decide) ?_
    refine lv_istore (lv' := [(5, .int 0), (4, .int x3_286), (0, .ref (g 0)), (3, .int x3_286)]) hx hb dX5_fewest_290 hl (by decide) rfl (fun ls hl => ?_)
    have z30 := tl_0
    refine L_292 7 sR_286 x3_286 0 H locs ls (by omega) (by omega) (by omega) hPR hS (lv_sub hl [2, 1, 0] rfl) (fun H locs ls k0 k1 hPR hS hl => ?_)
    exact J_337 sR_286 (wl (g_R_fewest_292 sR_286) 7 (x3_286, 0)).1 H locs ls hPR hS (lv_sub hl [0] rfl) hM
  have J_36 : ∀ (sR_36 : St) (x3_36 : Int32) (H : Heap) (locs : List Loc) (ls : Array Slot), okR sR_36 → p1.toInt < (sR_36 0 6).toInt → (sR_36 0 7).toInt = (sR 0 7).toInt → va_P D vwCl (cellR cI g sR_36 vR) H → va_S (wA g 0 16) s.heap H locs → lv_has ls 9 [(0, .ref (g 0)), (1, .int p1), (2, .int p2), (3, .int x3_36)] → (m_R_fewest sR p1 p2) = b_R_fewest_36 sR_36 p1 p2 x3_36 → W p l e rm_R_fewest s m args below meth c H locs 0 0 Q (F0 m 36 ls []) := by
    intro sR_36 x3_36 H locs ls i36_0 i36_1 i36_2 hPR hS hl hM
    have ni36_0 := okR_lin i36_0
    refine lv_iconst (v := 0) hx hb dX5_fewest_36 (by decide) ?_
    refine lv_istore (lv' := [(4, .int 0), (0, .ref (g 0)), (1, .int p1), (2, .int p2), (3, .int x3_36)]) hx hb dX5_fewest_37 hl (by decide) rfl (fun ls hl => ?_)
    have z31 := tl_0
    refine L_39 7 sR_36 x3_36 0 H locs ls (by omega) (by assumption) (by omega) (by omega) (by omega) hPR hS (lv_sub hl [1, 2, 3, 4, 0] rfl) (fun H locs ls k0 k1 k2 k3 hPR hS hl => ?_)
    have nk1 := okR_lin k1
    exact J_286 (wl (g_R_fewest_39 p1 p2 x3_36) 7 (sR_36, 0)).1 x3_36 H locs ls (by assumption) hPR hS (lv_sub hl [0, 1] rfl) hM
  have hM : (m_R_fewest sR p1 p2) = (m_R_fewest sR p1 p2) := rfl
  refine lv_ldc (own := RX5) (index := 173) (v := 100000) hx hb hown (hts (.constant RX5 173 (100000)) (List.mem_of_getElem? (i := 1) rfl)) dX5_fewest_0 ?_
  refine lv_istore_n (lv' := [(3, .int 100000), (0, .ref (g 0)), (1, .int p1), (2, .int p2)]) hx hb dX5_fewest_2 rfl hl (by decide) rfl (fun ls hl => ?_)
  refine lv_iconst (v := 0) hx hb dX5_fewest_3 (by decide) ?_
  refine lv_istore (lv' := [(4, .int 0), (3, .int 100000), (0, .ref (g 0)), (1, .int p1), (2, .int p2)]) hx hb dX5_fewest_4 hl (by decide) rfl (fun ls hl => ?_)
  have z32 := tl_0
  have z33 := tl_100000
  refine L_6 7 sR 100000 0 H locs ls (by omega) (by assumption) (by omega) (by omega) (by omega) hPR hS (lv_sub hl [2, 3, 4, 1, 0] rfl) (fun H locs ls k0 k1 k2 k3 hPR hS hl => ?_)
  have nk1 := okR_lin k1
  have z34 := tl_100000
  exact J_36 (wl (g_R_fewest_6 100000) 7 (sR, 0)).1 100000 H locs ls (by assumption) (by omega) (by omega) hPR hS (lv_sub hl [0, 1, 2, 3] rfl) hM
abbrev rm_R_soonest : Room := { frames := 2, cells := 0, slots := 0, locals := 50 }
set_option maxHeartbeats 4000000 in
set_option maxRecDepth 100000 in
theorem K_R_soonest {l : Launch} {D : va_G} {cI : ClassId} {lo : Nat} {g : Nat → Nat} (hg : wI g 0 16 lo) (sR : St) (vR : Int64) (p1 : Int32) (p2 : Int32) (h0 : okR sR) : WRi l D cI lo yX5_soonest wsX5_soonest rm_R_soonest [.ref (g 0), .int p1, .int p2] (fun H => va_P D vwCl (cellR cI g sR vR) H) (m_R_soonest sR p1 p2).1 (fun H => va_P D vwCl (cellR cI g (m_R_soonest sR p1 p2).2 vR) H) (wA g 0 16) := by
  refine ofW_WRi (cc := cX5_soonest) (maxL := 7) (ty := .int) (by decide +kernel) rfl (Nat.le_of_ble_eq_true rfl) ?_
  intro p e s m args below meth c Q hx hb hml hown hts hE hP hret ls hl
  have hown : s.vm.findClass RX5 = some m.cls := hown
  have hPR := hP
  have hA := wA.lo hg
  have hS : va_S (wA g 0 16) s.heap s.heap [] := va_S.rf
  obtain ⟨H, hH⟩ : ∃ z, z = s.heap := ⟨_, rfl⟩
  obtain ⟨locs, hlocs⟩ : ∃ z : List Loc, z = [] := ⟨_, rfl⟩
  have hPR : va_P D vwCl (cellR cI g sR vR) H := by rw [hH]; exact hPR
  have hS : va_S (wA g 0 16) s.heap H locs := by rw [hH, hlocs]; exact va_S.rf
  have gW : W p l e rm_R_soonest s m args below meth c H locs 0 0 Q (F0 m 0 ls []) → W p l e rm_R_soonest s m args below meth c s.heap [] 0 0 Q (F0 m 0 ls []) := by rw [hH, hlocs]; exact id
  refine gW ?_
  have hinR : ∀ w ∈ wsX50, w ∈ wsX5_soonest := fun w h => List.mem_cons_of_mem _ (List.mem_append_right _ h)
  have hl : lv_has ls 7 [(0, .ref (g 0)), (1, .int p1), (2, .int p2)] := hl
  have nh0 := okR_lin h0
  have L_31 : ∀ (n : Nat) (sR_31 : St) (x3_31 : Int32) (x4_31 : Int32) (x5_31 : Int32) (H : Heap) (locs : List Loc) (ls : Array Slot), 1 ≤ x5_31.toInt ∧ x5_31.toInt ≤ (sR_31 0 6).toInt → okR sR_31 → 1 ≤ p1.toInt ∧ p1.toInt ≤ 99 → ((sR_31 0 6).toInt - x5_31.toInt).toNat < n → va_P D vwCl (cellR cI g sR_31 vR) H → va_S (wA g 0 16) s.heap H locs → lv_has ls 7 [(0, .ref (g 0)), (1, .int p1), (2, .int p2), (3, .int x3_31), (4, .int x4_31), (5, .int x5_31)] → (∀ (H : Heap) (locs : List Loc) (ls : Array Slot), 1 ≤ (wl (g_R_soonest_31 p1) n (sR_31, x3_31, x4_31, x5_31)).2.2.2.toInt ∧ (wl (g_R_soonest_31 p1) n (sR_31, x3_31, x4_31, x5_31)).2.2.2.toInt ≤ ((wl (g_R_soonest_31 p1) n (sR_31, x3_31, x4_31, x5_31)).1 0 6).toInt → okR (wl (g_R_soonest_31 p1) n (sR_31, x3_31, x4_31, x5_31)).1 → 1 ≤ p1.toInt ∧ p1.toInt ≤ 99 → va_P D vwCl (cellR cI g (wl (g_R_soonest_31 p1) n (sR_31, x3_31, x4_31, x5_31)).1 vR) H → va_S (wA g 0 16) s.heap H locs → lv_has ls 7 [(2, .int p2), (3, .int (wl (g_R_soonest_31 p1) n (sR_31, x3_31, x4_31, x5_31)).2.1), (4, .int (wl (g_R_soonest_31 p1) n (sR_31, x3_31, x4_31, x5_31)).2.2.1)] → W p l e rm_R_soonest s m args below meth c H locs 0 0 Q (F0 m 85 ls [])) → W p l e rm_R_soonest s m args below meth c H locs 0 0 Q (F0 m 31 ls []) := by
    intro n
    induction n with
    | zero =>
      intro sR_31 x3_31 x4_31 x5_31 H locs ls i31_0 i31_1 i31_2 hn31 hPR hS hl kk
      exact absurd hn31 (Nat.not_lt_zero _)
    | succ n ih =>
      intro sR_31 x3_31 x4_31 x5_31 H locs ls i31_0 i31_1 i31_2 hn31 hPR hS hl kk
      have ni31_1 := okR_lin i31_1
      have hM : (g_R_soonest_31 p1) (sR_31, x3_31, x4_31, x5_31) = (g_R_soonest_31 p1) (sR_31, x3_31, x4_31, x5_31) := rfl
      refine lv_iload hx hb dX5_soonest_31 (lv_at hl 5 rfl) ?_
      refine lv_aload_n hx hb dX5_soonest_33 rfl (lv_at hl 0 rfl) ?_
      refine va_get (D := D) (ci := 5) (v := .int (sR_31 0 6)) (C := RX5) (T := TX5) (N := 33) hx hb hts hinR hown hE.1 hPR 0 rfl rfl 6 (by decide) (hts (.fieldLink RX5 23 "WallStonesModel" "width" "I") (List.mem_of_getElem? (i := 1) rfl)) (fun _ h9 => h9) rfl dX5_soonest_34 ?_
      refine lv_icmp_ge (tgt := 85) hx hb dX5_soonest_37 (by decide) (fun c_1 => ?_) (fun c_1 => ?_)
      · have hM := hM.trans (if_pos c_1)
        have t_1 := le_t c_1
        rw [wl_none hM] at kk
        try dsimp only at kk
        exact kk H locs ls (by omega) (by assumption) (by omega) hPR hS (lv_sub hl [2, 3, 4] rfl)
      · have hM := hM.trans (if_neg c_1)
        have t_1 := nle_t c_1
        refine lv_aload_n hx hb dX5_soonest_40 rfl (lv_at hl 0 rfl) ?_
        refine lv_iload hx hb dX5_soonest_41 (lv_at hl 5 rfl) ?_
        refine lv_iload_n hx hb dX5_soonest_43 rfl (lv_at hl 1 rfl) ?_
        refine runW_i (va_runV (As := [.int x5_31, .int p1]) (rest := []) ⟨hx, hb, hml, hown, hts⟩ (K_R_fewest hg sR_31 vR x5_31 p1 (by assumption) (by omega) (by omega)) (cwV 2 hts gX5_soonest_X5_fewest rfl rfl rfl (by decide +kernel) ⟨Nat.le_of_ble_eq_true rfl, Nat.le_of_ble_eq_true rfl⟩) (preV_of hE hA hS hPR (va_recv hE.1 hPR (ci := 5) (q0 := 0) rfl rfl)) rfl rfl hl.1 rfl (lv_room (Nat.le_of_ble_eq_true rfl)) dX5_soonest_44 ⟨Nat.zero_le _, Nat.zero_le _⟩) hS (fun _ h9 => h9) (fun H locs hQ hk hS => ?_)
        have hPR : va_P D vwCl (cellR cI g (m_R_fewest sR_31 x5_31 p1).2 vR) H := hQ
        have v2 : okR (m_R_fewest sR_31 x5_31 p1).2 := okR_fewest (by assumption)
        have w2_3 : ((m_R_fewest sR_31 x5_31 p1).2 0 3).toInt = (sR_31 0 3).toInt := congrArg Int32.toInt (fr_R_fewest (by omega))
        have w2_6 : ((m_R_fewest sR_31 x5_31 p1).2 0 6).toInt = (sR_31 0 6).toInt := congrArg Int32.toInt (fr_R_fewest (by omega))
        have w2_7 : ((m_R_fewest sR_31 x5_31 p1).2 0 7).toInt = (sR_31 0 7).toInt := congrArg Int32.toInt (fr_R_fewest (by omega))
        have w2_11 : ((m_R_fewest sR_31 x5_31 p1).2 0 11).toInt = (sR_31 0 11).toInt := congrArg Int32.toInt (fr_R_fewest (by omega))
        have w2_16 : ((m_R_fewest sR_31 x5_31 p1).2 0 16).toInt = (sR_31 0 16).toInt := congrArg Int32.toInt (fr_R_fewest (by omega))
        refine lv_istore (lv' := [(6, .int (m_R_fewest sR_31 x5_31 p1).1), (0, .ref (g 0)), (1, .int p1), (2, .int p2), (3, .int x3_31), (4, .int x4_31), (5, .int x5_31)]) hx hb dX5_soonest_47 hl (by decide) rfl (fun ls hl => ?_)
        refine lv_iload hx hb dX5_soonest_49 (lv_at hl 0 rfl) ?_
        refine lv_iload hx hb dX5_soonest_51 (lv_at hl 5 rfl) ?_
        refine lv_icmp_ge (tgt := 61) hx hb dX5_soonest_53 (by decide) (fun c_3 => ?_) (fun c_3 => ?_)
        · have hM := hM.trans (if_pos c_3)
          have t_3 := le_t c_3
          refine lv_iload_n hx hb dX5_soonest_61 rfl (lv_at hl 4 rfl) ?_
          refine lv_istore_n (lv' := [(3, .int x3_31), (6, .int (m_R_fewest sR_31 x5_31 p1).1), (0, .ref (g 0)), (1, .int p1), (2, .int p2), (4, .int x4_31), (5, .int x5_31)]) hx hb dX5_soonest_62 rfl hl (by decide) rfl (fun ls hl => ?_)
          refine lv_iload hx hb dX5_soonest_63 (lv_at hl 1 rfl) ?_
          refine lv_iload hx hb dX5_soonest_65 (lv_at hl 5 rfl) ?_
          refine lv_icmp_ge (tgt := 75) hx hb dX5_soonest_67 (by decide) (fun c_4 => ?_) (fun c_4 => ?_)
          · have hM := hM.trans (if_pos c_4)
            have t_4 := le_t c_4
            refine lv_iload hx hb dX5_soonest_75 (lv_at hl 5 rfl) ?_
            refine lv_istore (lv' := [(4, .int x4_31), (3, .int x3_31), (6, .int (m_R_fewest sR_31 x5_31 p1).1), (0, .ref (g 0)), (1, .int p1), (2, .int p2), (5, .int x5_31)]) hx hb dX5_soonest_77 hl (by decide) rfl (fun ls hl => ?_)
            refine lv_iinc (v := (x5_31 + 1)) (lv' := [(5, .int (x5_31 + 1)), (4, .int x4_31), (3, .int x3_31), (6, .int (m_R_fewest sR_31 x5_31 p1).1), (0, .ref (g 0)), (1, .int p1), (2, .int p2)]) hx hb dX5_soonest_79 hl (k := 6) rfl rfl (by decide) rfl (fun ls hl => ?_)
            refine lv_goto (tgt := 31) hx hb dX5_soonest_82 (by decide) ?_
            have := t_inc (x := x5_31) (by omega)
            rw [wl_some hM] at kk
            exact ih (m_R_fewest sR_31 x5_31 p1).2 x3_31 x4_31 (x5_31 + 1) H locs ls (by omega) (by assumption) (by omega) (by omega) hPR hS (lv_sub hl [4, 5, 6, 2, 1, 0] rfl) kk
          · have hM := hM.trans (if_neg c_4)
            have t_4 := nle_t c_4
            refine lv_iload hx hb dX5_soonest_70 (lv_at hl 1 rfl) ?_
            refine lv_goto (tgt := 77) hx hb dX5_soonest_72 (by decide) ?_
            refine lv_istore (lv' := [(4, .int (m_R_fewest sR_31 x5_31 p1).1), (3, .int x3_31), (6, .int (m_R_fewest sR_31 x5_31 p1).1), (0, .ref (g 0)), (1, .int p1), (2, .int p2), (5, .int x5_31)]) hx hb dX5_soonest_77 hl (by decide) rfl (fun ls hl => ?_)
            refine lv_iinc (v := (x5_31 + 1)) (lv' := [(5, .int (x5_31 + 1)), (4, .int (m_R_fewest sR_31 x5_31 p1).1), (3, .int x3_31), (6, .int (m_R_fewest sR_31 x5_31 p1).1), (0, .ref (g 0)), (1, .int p1), (2, .int p2)]) hx hb dX5_soonest_79 hl (k := 6) rfl rfl (by decide) rfl (fun ls hl => ?_)
            refine lv_goto (tgt := 31) hx hb dX5_soonest_82 (by decide) ?_
            have := t_inc (x := x5_31) (by omega)
            rw [wl_some hM] at kk
            exact ih (m_R_fewest sR_31 x5_31 p1).2 x3_31 (m_R_fewest sR_31 x5_31 p1).1 (x5_31 + 1) H locs ls (by omega) (by assumption) (by omega) (by omega) hPR hS (lv_sub hl [4, 5, 6, 2, 1, 0] rfl) kk
        · have hM := hM.trans (if_neg c_3)
          have t_3 := nle_t c_3
          refine lv_iload hx hb dX5_soonest_56 (lv_at hl 6 rfl) ?_
          refine lv_goto (tgt := 62) hx hb dX5_soonest_58 (by decide) ?_
          refine lv_istore_n (lv' := [(3, .int x5_31), (6, .int (m_R_fewest sR_31 x5_31 p1).1), (0, .ref (g 0)), (1, .int p1), (2, .int p2), (4, .int x4_31), (5, .int x5_31)]) hx hb dX5_soonest_62 rfl hl (by decide) rfl (fun ls hl => ?_)
          refine lv_iload hx hb dX5_soonest_63 (lv_at hl 1 rfl) ?_
          refine lv_iload hx hb dX5_soonest_65 (lv_at hl 5 rfl) ?_
          refine lv_icmp_ge (tgt := 75) hx hb dX5_soonest_67 (by decide) (fun c_5 => ?_) (fun c_5 => ?_)
          · have hM := hM.trans (if_pos c_5)
            have t_5 := le_t c_5
            refine lv_iload hx hb dX5_soonest_75 (lv_at hl 5 rfl) ?_
            refine lv_istore (lv' := [(4, .int x4_31), (3, .int x5_31), (6, .int (m_R_fewest sR_31 x5_31 p1).1), (0, .ref (g 0)), (1, .int p1), (2, .int p2), (5, .int x5_31)]) hx hb dX5_soonest_77 hl (by decide) rfl (fun ls hl => ?_)
            refine lv_iinc (v := (x5_31 + 1)) (lv' := [(5, .int (x5_31 + 1)), (4, .int x4_31), (3, .int x5_31), (6, .int (m_R_fewest sR_31 x5_31 p1).1), (0, .ref (g 0)), (1, .int p1), (2, .int p2)]) hx hb dX5_soonest_79 hl (k := 6) rfl rfl (by decide) rfl (fun ls hl => ?_)
            refine lv_goto (tgt := 31) hx hb dX5_soonest_82 (by decide) ?_
            have := t_inc (x := x5_31) (by omega)
            rw [wl_some hM] at kk
            exact ih (m_R_fewest sR_31 x5_31 p1).2 x5_31 x4_31 (x5_31 + 1) H locs ls (by omega) (by assumption) (by omega) (by omega) hPR hS (lv_sub hl [4, 5, 6, 2, 1, 0] rfl) kk
          · have hM := hM.trans (if_neg c_5)
            have t_5 := nle_t c_5
            refine lv_iload hx hb dX5_soonest_70 (lv_at hl 1 rfl) ?_
            refine lv_goto (tgt := 77) hx hb dX5_soonest_72 (by decide) ?_
            refine lv_istore (lv' := [(4, .int (m_R_fewest sR_31 x5_31 p1).1), (3, .int x5_31), (6, .int (m_R_fewest sR_31 x5_31 p1).1), (0, .ref (g 0)), (1, .int p1), (2, .int p2), (5, .int x5_31)]) hx hb dX5_soonest_77 hl (by decide) rfl (fun ls hl => ?_)
            refine lv_iinc (v := (x5_31 + 1)) (lv' := [(5, .int (x5_31 + 1)), (4, .int (m_R_fewest sR_31 x5_31 p1).1), (3, .int x5_31), (6, .int (m_R_fewest sR_31 x5_31 p1).1), (0, .ref (g 0)), (1, .int p1), (2, .int p2)]) hx hb dX5_soonest_79 hl (k := 6) rfl rfl (by decide) rfl (fun ls hl => ?_)
            refine lv_goto (tgt := 31) hx hb dX5_soonest_82 (by decide) ?_
            have := t_inc (x := x5_31) (by omega)
            rw [wl_some hM] at kk
            exact ih (m_R_fewest sR_31 x5_31 p1).2 x5_31 (m_R_fewest sR_31 x5_31 p1).1 (x5_31 + 1) H locs ls (by omega) (by assumption) (by omega) (by omega) hPR hS (lv_sub hl [4, 5, 6, 2, 1, 0] rfl) kk
  have J_85 : ∀ (sR_85 : St) (x3_85 : Int32) (x4_85 : Int32) (H : Heap) (locs : List Loc) (ls : Array Slot), va_P D vwCl (cellR cI g sR_85 vR) H → va_S (wA g 0 16) s.heap H locs → lv_has ls 7 [(2, .int p2), (3, .int x3_85), (4, .int x4_85)] → (m_R_soonest sR p1 p2) = b_R_soonest_85 sR_85 p2 x3_85 x4_85 → W p l e rm_R_soonest s m args below meth c H locs 0 0 Q (F0 m 85 ls []) := by
    intro sR_85 x3_85 x4_85 H locs ls hPR hS hl hM
    refine lv_iload_n hx hb dX5_soonest_85 rfl (lv_at hl 0 rfl) ?_
    refine lv_if_ne (tgt := 93) hx hb dX5_soonest_86 (by decide) (fun c_6 => ?_) (fun c_6 => ?_)
    · have hM := hM.trans (if_neg c_6)
      have t_6 := ne_t c_6
      rw [tl_0] at t_6
      refine lv_iload hx hb dX5_soonest_93 (lv_at hl 2 rfl) ?_
      have hM : (m_R_soonest sR p1 p2) = ((x4_85, sR_85) : Int32 × St) := hM
      exact hret x4_85 H locs _ ls (nr_i _) dX5_soonest_95 (ret1 hM) (rP_v1 (P := fun (z0 : St) => va_P D vwCl (cellR cI g z0 vR) H) hM hPR) hS
    · have hM := hM.trans (if_pos c_6)
      have t_6 := eq_t c_6
      rw [tl_0] at t_6
      refine lv_iload_n hx hb dX5_soonest_89 rfl (lv_at hl 1 rfl) ?_
      refine lv_goto (tgt := 95) hx hb dX5_soonest_90 (by decide) ?_
      have hM : (m_R_soonest sR p1 p2) = ((x3_85, sR_85) : Int32 × St) := hM
      exact hret x3_85 H locs _ ls (nr_i _) dX5_soonest_95 (ret1 hM) (rP_v1 (P := fun (z0 : St) => va_P D vwCl (cellR cI g z0 vR) H) hM hPR) hS
  have hM : (m_R_soonest sR p1 p2) = (m_R_soonest sR p1 p2) := rfl
  refine lv_iload_n hx hb dX5_soonest_0 rfl (lv_at hl 1 rfl) ?_
  refine runS_i (va_runS (As := [.int p1]) (rest := []) ⟨hx, hb, hml, hown, hts⟩ (K_R_isForce p1) (va_cwS 1 hts gX5_soonest_X5_isForce rfl rfl rfl (by decide +kernel) ⟨Nat.le_of_ble_eq_true rfl, Nat.le_of_ble_eq_true rfl⟩) (preS_of hE hA hS trivial) rfl rfl hl.1 rfl (lv_room (Nat.le_of_ble_eq_true rfl)) dX5_soonest_1 ⟨Nat.zero_le _, Nat.zero_le _⟩) ?_
  refine lv_if_eq (tgt := 16) hx hb dX5_soonest_4 (by decide) (fun c_7 => ?_) (fun c_7 => ?_)
  · have hM := hM.trans (if_pos c_7)
    have t_7 := eq_t c_7
    rw [tl_0] at t_7
    refine lv_iconst (v := (-1)) hx hb dX5_soonest_16 (by decide) ?_
    have hM : (m_R_soonest sR p1 p2) = (((-1), sR) : Int32 × St) := hM
    exact hret (-1) H locs _ ls (nr_i _) dX5_soonest_17 (ret1 hM) (rP_v1 (P := fun (z0 : St) => va_P D vwCl (cellR cI g z0 vR) H) hM hPR) hS
  · have hM := hM.trans (if_neg c_7)
    have t_7 := ne_t c_7
    rw [tl_0] at t_7
    have u_7 := isforce_t c_7
    refine lv_iload_n hx hb dX5_soonest_7 rfl (lv_at hl 2 rfl) ?_
    refine lv_iconst (v := 0) hx hb dX5_soonest_8 (by decide) ?_
    refine lv_iconst (v := 1) hx hb dX5_soonest_9 (by decide) ?_
    refine runS_i (va_runS (As := [.int p2, .int 0, .int 1]) (rest := []) ⟨hx, hb, hml, hown, hts⟩ (K_R_in p2 0 1) (va_cwS 3 hts gX5_soonest_X5_in rfl rfl rfl (by decide +kernel) ⟨Nat.le_of_ble_eq_true rfl, Nat.le_of_ble_eq_true rfl⟩) (preS_of hE hA hS trivial) rfl rfl hl.1 rfl (lv_room (Nat.le_of_ble_eq_true rfl)) dX5_soonest_10 ⟨Nat.zero_le _, Nat.zero_le _⟩) ?_
    refine lv_if_ne (tgt := 18) hx hb dX5_soonest_13 (by decide) (fun c_8 => ?_) (fun c_8 => ?_)
    · have hM := hM.trans (if_neg c_8)
      have t_8 := ne_t c_8
      rw [tl_0] at t_8
      have u_8 := in_t c_8
      rw [tl_0, tl_1] at u_8
      refine lv_iconst (v := 0) hx hb dX5_soonest_18 (by decide) ?_
      refine lv_istore_n (lv' := [(3, .int 0), (0, .ref (g 0)), (1, .int p1), (2, .int p2)]) hx hb dX5_soonest_19 rfl hl (by decide) rfl (fun ls hl => ?_)
      refine lv_aload_n hx hb dX5_soonest_20 rfl (lv_at hl 1 rfl) ?_
      refine lv_iconst (v := 0) hx hb dX5_soonest_21 (by decide) ?_
      refine lv_iload_n hx hb dX5_soonest_22 rfl (lv_at hl 2 rfl) ?_
      have z9 := tl_0
      refine runW_i (va_runV (As := [.int 0, .int p1]) (rest := []) ⟨hx, hb, hml, hown, hts⟩ (K_R_fewest hg sR vR 0 p1 (by assumption) (by omega) (by omega)) (cwV 2 hts gX5_soonest_X5_fewest rfl rfl rfl (by decide +kernel) ⟨Nat.le_of_ble_eq_true rfl, Nat.le_of_ble_eq_true rfl⟩) (preV_of hE hA hS hPR (va_recv hE.1 hPR (ci := 5) (q0 := 0) rfl rfl)) rfl rfl hl.1 rfl (lv_room (Nat.le_of_ble_eq_true rfl)) dX5_soonest_23 ⟨Nat.zero_le _, Nat.zero_le _⟩) hS (fun _ h9 => h9) (fun H locs hQ hk hS => ?_)
      have hPR : va_P D vwCl (cellR cI g (m_R_fewest sR 0 p1).2 vR) H := hQ
      have v10 : okR (m_R_fewest sR 0 p1).2 := okR_fewest (by assumption)
      have w10_3 : ((m_R_fewest sR 0 p1).2 0 3).toInt = (sR 0 3).toInt := congrArg Int32.toInt (fr_R_fewest (by omega))
      have w10_6 : ((m_R_fewest sR 0 p1).2 0 6).toInt = (sR 0 6).toInt := congrArg Int32.toInt (fr_R_fewest (by omega))
      have w10_7 : ((m_R_fewest sR 0 p1).2 0 7).toInt = (sR 0 7).toInt := congrArg Int32.toInt (fr_R_fewest (by omega))
      have w10_11 : ((m_R_fewest sR 0 p1).2 0 11).toInt = (sR 0 11).toInt := congrArg Int32.toInt (fr_R_fewest (by omega))
      have w10_16 : ((m_R_fewest sR 0 p1).2 0 16).toInt = (sR 0 16).toInt := congrArg Int32.toInt (fr_R_fewest (by omega))
      refine lv_istore (lv' := [(4, .int (m_R_fewest sR 0 p1).1), (3, .int 0), (0, .ref (g 0)), (1, .int p1), (2, .int p2)]) hx hb dX5_soonest_26 hl (by decide) rfl (fun ls hl => ?_)
      refine lv_iconst (v := 1) hx hb dX5_soonest_28 (by decide) ?_
      refine lv_istore (lv' := [(5, .int 1), (4, .int (m_R_fewest sR 0 p1).1), (3, .int 0), (0, .ref (g 0)), (1, .int p1), (2, .int p2)]) hx hb dX5_soonest_29 hl (by decide) rfl (fun ls hl => ?_)
      have z11 := tl_0
      have z12 := tl_1
      refine L_31 9 (m_R_fewest sR 0 p1).2 0 (m_R_fewest sR 0 p1).1 1 H locs ls (by omega) (by assumption) (by omega) (by omega) hPR hS (lv_sub hl [3, 4, 5, 2, 1, 0] rfl) (fun H locs ls k0 k1 k2 hPR hS hl => ?_)
      have nk1 := okR_lin k1
      exact J_85 (wl (g_R_soonest_31 p1) 9 ((m_R_fewest sR 0 p1).2, 0, (m_R_fewest sR 0 p1).1, 1)).1 (wl (g_R_soonest_31 p1) 9 ((m_R_fewest sR 0 p1).2, 0, (m_R_fewest sR 0 p1).1, 1)).2.1 (wl (g_R_soonest_31 p1) 9 ((m_R_fewest sR 0 p1).2, 0, (m_R_fewest sR 0 p1).1, 1)).2.2.1 H locs ls hPR hS (lv_sub hl [0, 1, 2] rfl) hM
    · have hM := hM.trans (if_pos c_8)
      have t_8 := eq_t c_8
      rw [tl_0] at t_8
      refine lv_iconst (v := (-1)) hx hb dX5_soonest_16 (by decide) ?_
      have hM : (m_R_soonest sR p1 p2) = (((-1), sR) : Int32 × St) := hM
      exact hret (-1) H locs _ ls (nr_i _) dX5_soonest_17 (ret1 hM) (rP_v1 (P := fun (z0 : St) => va_P D vwCl (cellR cI g z0 vR) H) hM hPR) hS
abbrev rm_R_scatter : Room := { frames := 1, cells := 0, slots := 0, locals := 22 }
set_option maxHeartbeats 4000000 in
set_option maxRecDepth 100000 in
theorem K_R_scatter {l : Launch} {D : va_G} {cI : ClassId} {lo : Nat} {g : Nat → Nat} (hg : wI g 0 16 lo) (sR : St) (vR : Int64) (p1 : Int32) (p2 : Int32) (p3 : Int32) : WRi l D cI lo yX5_scatter wsX5_scatter rm_R_scatter [.ref (g 0), .int p1, .int p2, .int p3] (fun H => va_P D vwCl (cellR cI g sR vR) H) (m_R_scatter sR p1 p2 p3).1 (fun H => va_P D vwCl (cellR cI g (m_R_scatter sR p1 p2 p3).2 vR) H) (wA g 0 16) := by
  refine ofW_WRi (cc := cX5_scatter) (maxL := 6) (ty := .int) (by decide +kernel) rfl (Nat.le_of_ble_eq_true rfl) ?_
  intro p e s m args below meth c Q hx hb hml hown hts hE hP hret ls hl
  have hown : s.vm.findClass RX5 = some m.cls := hown
  have hPR := hP
  have hA := wA.lo hg
  have hS : va_S (wA g 0 16) s.heap s.heap [] := va_S.rf
  obtain ⟨H, hH⟩ : ∃ z, z = s.heap := ⟨_, rfl⟩
  obtain ⟨locs, hlocs⟩ : ∃ z : List Loc, z = [] := ⟨_, rfl⟩
  have hPR : va_P D vwCl (cellR cI g sR vR) H := by rw [hH]; exact hPR
  have hS : va_S (wA g 0 16) s.heap H locs := by rw [hH, hlocs]; exact va_S.rf
  have gW : W p l e rm_R_scatter s m args below meth c H locs 0 0 Q (F0 m 0 ls []) → W p l e rm_R_scatter s m args below meth c s.heap [] 0 0 Q (F0 m 0 ls []) := by rw [hH, hlocs]; exact id
  refine gW ?_
  have hinR : ∀ w ∈ wsX50, w ∈ wsX5_scatter := fun w h => List.mem_cons_of_mem _ (List.mem_append_right _ h)
  have hl : lv_has ls 6 [(0, .ref (g 0)), (1, .int p1), (2, .int p2), (3, .int p3)] := hl
  have hM : (m_R_scatter sR p1 p2 p3) = (m_R_scatter sR p1 p2 p3) := rfl
  refine lv_iload_n hx hb dX5_scatter_0 rfl (lv_at hl 1 rfl) ?_
  refine lv_iconst (v := (-1)) hx hb dX5_scatter_1 (by decide) ?_
  refine lv_iconst (v := 1) hx hb dX5_scatter_2 (by decide) ?_
  refine runS_i (va_runS (As := [.int p1, .int (-1), .int 1]) (rest := []) ⟨hx, hb, hml, hown, hts⟩ (K_R_in p1 (-1) 1) (va_cwS 3 hts gX5_scatter_X5_in rfl rfl rfl (by decide +kernel) ⟨Nat.le_of_ble_eq_true rfl, Nat.le_of_ble_eq_true rfl⟩) (preS_of hE hA hS trivial) rfl rfl hl.1 rfl (lv_room (Nat.le_of_ble_eq_true rfl)) dX5_scatter_3 ⟨Nat.zero_le _, Nat.zero_le _⟩) ?_
  refine lv_if_eq (tgt := 28) hx hb dX5_scatter_6 (by decide) (fun c_1 => ?_) (fun c_1 => ?_)
  · have hM := hM.trans (if_pos c_1)
    have t_1 := eq_t c_1
    rw [tl_0] at t_1
    refine lv_iconst (v := (-1)) hx hb dX5_scatter_28 (by decide) ?_
    have hM : (m_R_scatter sR p1 p2 p3) = (((-1), sR) : Int32 × St) := hM
    exact hret (-1) H locs _ ls (nr_i _) dX5_scatter_29 (ret1 hM) (rP_v1 (P := fun (z0 : St) => va_P D vwCl (cellR cI g z0 vR) H) hM hPR) hS
  · have hM := hM.trans (if_neg c_1)
    have t_1 := ne_t c_1
    rw [tl_0] at t_1
    have u_1 := in_t c_1
    rw [tl_m1, tl_1] at u_1
    refine lv_iload_n hx hb dX5_scatter_9 rfl (lv_at hl 2 rfl) ?_
    refine lv_iconst (v := (-1)) hx hb dX5_scatter_10 (by decide) ?_
    refine lv_iconst (v := 1) hx hb dX5_scatter_11 (by decide) ?_
    refine runS_i (va_runS (As := [.int p2, .int (-1), .int 1]) (rest := []) ⟨hx, hb, hml, hown, hts⟩ (K_R_in p2 (-1) 1) (va_cwS 3 hts gX5_scatter_X5_in rfl rfl rfl (by decide +kernel) ⟨Nat.le_of_ble_eq_true rfl, Nat.le_of_ble_eq_true rfl⟩) (preS_of hE hA hS trivial) rfl rfl hl.1 rfl (lv_room (Nat.le_of_ble_eq_true rfl)) dX5_scatter_12 ⟨Nat.zero_le _, Nat.zero_le _⟩) ?_
    refine lv_if_eq (tgt := 28) hx hb dX5_scatter_15 (by decide) (fun c_2 => ?_) (fun c_2 => ?_)
    · have hM := hM.trans (if_pos c_2)
      have t_2 := eq_t c_2
      rw [tl_0] at t_2
      refine lv_iconst (v := (-1)) hx hb dX5_scatter_28 (by decide) ?_
      have hM : (m_R_scatter sR p1 p2 p3) = (((-1), sR) : Int32 × St) := hM
      exact hret (-1) H locs _ ls (nr_i _) dX5_scatter_29 (ret1 hM) (rP_v1 (P := fun (z0 : St) => va_P D vwCl (cellR cI g z0 vR) H) hM hPR) hS
    · have hM := hM.trans (if_neg c_2)
      have t_2 := ne_t c_2
      rw [tl_0] at t_2
      have u_2 := in_t c_2
      rw [tl_m1, tl_1] at u_2
      refine lv_iload_n hx hb dX5_scatter_18 rfl (lv_at hl 3 rfl) ?_
      refine lv_iconst (v := 0) hx hb dX5_scatter_19 (by decide) ?_
      refine lv_bipush (v := 9) hx hb dX5_scatter_20 (by decide) ?_
      refine runS_i (va_runS (As := [.int p3, .int 0, .int 9]) (rest := []) ⟨hx, hb, hml, hown, hts⟩ (K_R_in p3 0 9) (va_cwS 3 hts gX5_scatter_X5_in rfl rfl rfl (by decide +kernel) ⟨Nat.le_of_ble_eq_true rfl, Nat.le_of_ble_eq_true rfl⟩) (preS_of hE hA hS trivial) rfl rfl hl.1 rfl (lv_room (Nat.le_of_ble_eq_true rfl)) dX5_scatter_22 ⟨Nat.zero_le _, Nat.zero_le _⟩) ?_
      refine lv_if_ne (tgt := 30) hx hb dX5_scatter_25 (by decide) (fun c_3 => ?_) (fun c_3 => ?_)
      · have hM := hM.trans (if_neg c_3)
        have t_3 := ne_t c_3
        rw [tl_0] at t_3
        have u_3 := in_t c_3
        rw [tl_0, tl_9] at u_3
        refine lv_iload_n hx hb dX5_scatter_30 rfl (lv_at hl 1 rfl) ?_
        refine lv_iconst (v := 1) hx hb dX5_scatter_31 (by decide) ?_
        refine lv_iadd hx hb dX5_scatter_32 ?_
        refine lv_iconst (v := 3) hx hb dX5_scatter_33 (by decide) ?_
        refine lv_iload_n hx hb dX5_scatter_34 rfl (lv_at hl 2 rfl) ?_
        refine lv_iconst (v := 1) hx hb dX5_scatter_35 (by decide) ?_
        refine lv_iadd hx hb dX5_scatter_36 ?_
        refine lv_imul hx hb dX5_scatter_37 ?_
        refine lv_iadd hx hb dX5_scatter_38 ?_
        refine lv_istore (lv' := [(4, .int ((p1 + 1) + (3 * (p2 + 1)))), (0, .ref (g 0)), (1, .int p1), (2, .int p2), (3, .int p3)]) hx hb dX5_scatter_39 hl (by decide) rfl (fun ls hl => ?_)
        refine lv_aload_n hx hb dX5_scatter_41 rfl (lv_at hl 1 rfl) ?_
        refine va_get (D := D) (ci := 5) (v := .ref (g 7)) (C := RX5) (T := TX5) (N := 33) hx hb hts hinR hown hE.1 hPR 0 rfl rfl 12 (by decide) (hts (.fieldLink RX5 38 "WallStonesModel" "scatter" "[I") (List.mem_of_getElem? (i := 1) rfl)) (fun _ h9 => h9) rfl dX5_scatter_42 ?_
        refine lv_iload hx hb dX5_scatter_45 (lv_at hl 0 rfl) ?_
        refine va_iald hx hb hE.1 hPR 7 0 rfl rfl (sc_in (by omega)) dX5_scatter_47 ?_
        refine W.eq (g2 := F0 m 48 ls [.int (sR 13 (Int32.toNatClampNeg ((p1 + 1) + (3 * (p2 + 1)))))]) rfl ?_
        refine lv_istore (lv' := [(5, .int (sR 13 (Int32.toNatClampNeg ((p1 + 1) + (3 * (p2 + 1)))))), (4, .int ((p1 + 1) + (3 * (p2 + 1)))), (0, .ref (g 0)), (1, .int p1), (2, .int p2), (3, .int p3)]) hx hb dX5_scatter_48 hl (by decide) rfl (fun ls hl => ?_)
        refine lv_aload_n hx hb dX5_scatter_50 rfl (lv_at hl 2 rfl) ?_
        refine va_get (D := D) (ci := 5) (v := .ref (g 7)) (C := RX5) (T := TX5) (N := 33) hx hb hts hinR hown hE.1 hPR 0 rfl rfl 12 (by decide) (hts (.fieldLink RX5 38 "WallStonesModel" "scatter" "[I") (List.mem_of_getElem? (i := 1) rfl)) (fun _ h9 => h9) rfl dX5_scatter_51 ?_
        refine lv_iload hx hb dX5_scatter_54 (lv_at hl 1 rfl) ?_
        refine lv_iload_n hx hb dX5_scatter_56 rfl (lv_at hl 5 rfl) ?_
        refine va_iast hx hb hE.1 hPR (wD_of hg (c := 0) (n := 16) (by decide) (by decide) rfl) hS 7 0 rfl rfl (sc_in (by omega)) dX5_scatter_57 (fun H locs hPn _ hS => ?_)
        have hPR : va_P D vwCl (cellR cI g (up sR 13 (Int32.toNatClampNeg ((p1 + 1) + (3 * (p2 + 1)))) p3) vR) H := (congrArg (fun z => va_P D vwCl z H) setR_R13).mp hPn
        refine lv_iload hx hb dX5_scatter_58 (lv_at hl 0 rfl) ?_
        have hM : (m_R_scatter sR p1 p2 p3) = (((sR 13 (Int32.toNatClampNeg ((p1 + 1) + (3 * (p2 + 1))))), (up sR 13 (Int32.toNatClampNeg ((p1 + 1) + (3 * (p2 + 1)))) p3)) : Int32 × St) := hM
        exact hret (sR 13 (Int32.toNatClampNeg ((p1 + 1) + (3 * (p2 + 1))))) H locs _ ls (nr_i _) dX5_scatter_60 (ret1 hM) (rP_v1 (P := fun (z0 : St) => va_P D vwCl (cellR cI g z0 vR) H) hM hPR) hS
      · have hM := hM.trans (if_pos c_3)
        have t_3 := eq_t c_3
        rw [tl_0] at t_3
        refine lv_iconst (v := (-1)) hx hb dX5_scatter_28 (by decide) ?_
        have hM : (m_R_scatter sR p1 p2 p3) = (((-1), sR) : Int32 × St) := hM
        exact hret (-1) H locs _ ls (nr_i _) dX5_scatter_29 (ret1 hM) (rP_v1 (P := fun (z0 : St) => va_P D vwCl (cellR cI g z0 vR) H) hM hPR) hS
abbrev rm_R_worthOf : Room := { frames := 3, cells := 0, slots := 0, locals := 71 }
set_option maxHeartbeats 4000000 in
set_option maxRecDepth 100000 in
theorem K_R_worthOf {l : Launch} {D : va_G} {cI : ClassId} {lo : Nat} {g : Nat → Nat} (hg : wI g 0 16 lo) (sR : St) (vR : Int64) (p1 : Int32) (p2 : Int32) (p3 : Int32) (h0 : okR sR) : WRi l D cI lo yX5_worthOf wsX5_worthOf rm_R_worthOf [.ref (g 0), .int p1, .int p2, .int p3] (fun H => va_P D vwCl (cellR cI g sR vR) H) (m_R_worthOf sR p1 p2 p3).1 (fun H => va_P D vwCl (cellR cI g (m_R_worthOf sR p1 p2 p3).2 vR) H) (wA g 0 16) := by
  refine ofW_WRi (cc := cX5_worthOf) (maxL := 6) (ty := .int) (by decide +kernel) rfl (Nat.le_of_ble_eq_true rfl) ?_
  intro p e s m args below meth c Q hx hb hml hown hts hE hP hret ls hl
  have hown : s.vm.findClass RX5 = some m.cls := hown
  have hPR := hP
  have hA := wA.lo hg
  have hS : va_S (wA g 0 16) s.heap s.heap [] := va_S.rf
  obtain ⟨H, hH⟩ : ∃ z, z = s.heap := ⟨_, rfl⟩
  obtain ⟨locs, hlocs⟩ : ∃ z : List Loc, z = [] := ⟨_, rfl⟩
  have hPR : va_P D vwCl (cellR cI g sR vR) H := by rw [hH]; exact hPR
  have hS : va_S (wA g 0 16) s.heap H locs := by rw [hH, hlocs]; exact va_S.rf
  have gW : W p l e rm_R_worthOf s m args below meth c H locs 0 0 Q (F0 m 0 ls []) → W p l e rm_R_worthOf s m args below meth c s.heap [] 0 0 Q (F0 m 0 ls []) := by rw [hH, hlocs]; exact id
  refine gW ?_
  have hinR : ∀ w ∈ wsX50, w ∈ wsX5_worthOf := fun w h => List.mem_cons_of_mem _ (List.mem_append_right _ h)
  have hl : lv_has ls 6 [(0, .ref (g 0)), (1, .int p1), (2, .int p2), (3, .int p3)] := hl
  have nh0 := okR_lin h0
  have L_10 : ∀ (n : Nat) (sR_10 : St) (x4_10 : Int32) (x5_10 : Int32) (H : Heap) (locs : List Loc) (ls : Array Slot), 0 ≤ x5_10.toInt ∧ x5_10.toInt ≤ 9 → okR sR_10 → (9 - x5_10.toInt).toNat < n → va_P D vwCl (cellR cI g sR_10 vR) H → va_S (wA g 0 16) s.heap H locs → lv_has ls 6 [(0, .ref (g 0)), (1, .int p1), (2, .int p2), (3, .int p3), (4, .int x4_10), (5, .int x5_10)] → (∀ (H : Heap) (locs : List Loc) (ls : Array Slot), 0 ≤ (wl (g_R_worthOf_10 p1 p2 p3) n (sR_10, x4_10, x5_10)).2.2.toInt ∧ (wl (g_R_worthOf_10 p1 p2 p3) n (sR_10, x4_10, x5_10)).2.2.toInt ≤ 9 → okR (wl (g_R_worthOf_10 p1 p2 p3) n (sR_10, x4_10, x5_10)).1 → va_P D vwCl (cellR cI g (wl (g_R_worthOf_10 p1 p2 p3) n (sR_10, x4_10, x5_10)).1 vR) H → va_S (wA g 0 16) s.heap H locs → lv_has ls 6 [(4, .int (wl (g_R_worthOf_10 p1 p2 p3) n (sR_10, x4_10, x5_10)).2.1)] → W p l e rm_R_worthOf s m args below meth c H locs 0 0 Q (F0 m 61 ls [])) → W p l e rm_R_worthOf s m args below meth c H locs 0 0 Q (F0 m 10 ls []) := by
    intro n
    induction n with
    | zero =>
      intro sR_10 x4_10 x5_10 H locs ls i10_0 i10_1 hn10 hPR hS hl kk
      exact absurd hn10 (Nat.not_lt_zero _)
    | succ n ih =>
      intro sR_10 x4_10 x5_10 H locs ls i10_0 i10_1 hn10 hPR hS hl kk
      have ni10_1 := okR_lin i10_1
      have hM : (g_R_worthOf_10 p1 p2 p3) (sR_10, x4_10, x5_10) = (g_R_worthOf_10 p1 p2 p3) (sR_10, x4_10, x5_10) := rfl
      refine lv_iload hx hb dX5_worthOf_10 (lv_at hl 5 rfl) ?_
      refine lv_bipush (v := 9) hx hb dX5_worthOf_12 (by decide) ?_
      refine lv_icmp_ge (tgt := 61) hx hb dX5_worthOf_14 (by decide) (fun c_1 => ?_) (fun c_1 => ?_)
      · have hM := hM.trans (if_pos c_1)
        have t_1 := le_t c_1
        rw [tl_9] at t_1
        rw [wl_none hM] at kk
        try dsimp only at kk
        exact kk H locs ls (by omega) (by assumption) hPR hS (lv_sub hl [4] rfl)
      · have hM := hM.trans (if_neg c_1)
        have t_1 := nle_t c_1
        rw [tl_9] at t_1
        refine lv_iload hx hb dX5_worthOf_17 (lv_at hl 4 rfl) ?_
        refine lv_aload_n hx hb dX5_worthOf_19 rfl (lv_at hl 0 rfl) ?_
        refine va_get (D := D) (ci := 5) (v := .ref (g 7)) (C := RX5) (T := TX5) (N := 33) hx hb hts hinR hown hE.1 hPR 0 rfl rfl 12 (by decide) (hts (.fieldLink RX5 38 "WallStonesModel" "scatter" "[I") (List.mem_of_getElem? (i := 1) rfl)) (fun _ h9 => h9) rfl dX5_worthOf_20 ?_
        refine lv_iload hx hb dX5_worthOf_23 (lv_at hl 5 rfl) ?_
        refine va_iald hx hb hE.1 hPR 7 0 rfl rfl (vp_in_iff.mpr (by omega)) dX5_worthOf_25 ?_
        refine W.eq (g2 := F0 m 26 ls [.int (sR_10 13 (Int32.toNatClampNeg x5_10)), .int x4_10]) rfl ?_
        refine lv_aload_n hx hb dX5_worthOf_26 rfl (lv_at hl 0 rfl) ?_
        refine lv_iload_n hx hb dX5_worthOf_27 rfl (lv_at hl 1 rfl) ?_
        refine lv_iload hx hb dX5_worthOf_28 (lv_at hl 5 rfl) ?_
        refine lv_iconst (v := 3) hx hb dX5_worthOf_30 (by decide) ?_
        refine lv_irem hx hb dX5_worthOf_31 (by decide) ?_
        refine lv_iadd hx hb dX5_worthOf_32 ?_
        refine lv_iconst (v := 1) hx hb dX5_worthOf_33 (by decide) ?_
        refine lv_isub hx hb dX5_worthOf_34 ?_
        refine lv_iload_n hx hb dX5_worthOf_35 rfl (lv_at hl 2 rfl) ?_
        refine lv_iload hx hb dX5_worthOf_36 (lv_at hl 5 rfl) ?_
        refine lv_iconst (v := 3) hx hb dX5_worthOf_38 (by decide) ?_
        refine lv_idiv hx hb dX5_worthOf_39 (by decide) ?_
        refine lv_iadd hx hb dX5_worthOf_40 ?_
        refine lv_iconst (v := 1) hx hb dX5_worthOf_41 (by decide) ?_
        refine lv_isub hx hb dX5_worthOf_42 ?_
        refine lv_iload_n hx hb dX5_worthOf_43 rfl (lv_at hl 3 rfl) ?_
        refine runW_i (va_runV (As := [.int ((p1 + (x5_10 - x5_10 / 3 * 3)) - 1), .int ((p2 + (x5_10 / 3)) - 1), .int p3]) (rest := [.int (sR_10 13 (Int32.toNatClampNeg x5_10)), .int x4_10]) ⟨hx, hb, hml, hown, hts⟩ (K_R_strike hg sR_10 vR ((p1 + (x5_10 - x5_10 / 3 * 3)) - 1) ((p2 + (x5_10 / 3)) - 1) p3 (by assumption)) (cwV 3 hts gX5_worthOf_X5_strike rfl rfl rfl (by decide +kernel) ⟨Nat.le_of_ble_eq_true rfl, Nat.le_of_ble_eq_true rfl⟩) (preV_of hE hA hS hPR (va_recv hE.1 hPR (ci := 5) (q0 := 0) rfl rfl)) rfl rfl hl.1 rfl (lv_room (Nat.le_of_ble_eq_true rfl)) dX5_worthOf_44 ⟨Nat.zero_le _, Nat.zero_le _⟩) hS (fun _ h9 => h9) (fun H locs hQ hk hS => ?_)
        have hPR : va_P D vwCl (cellR cI g (m_R_strike sR_10 ((p1 + (x5_10 - x5_10 / 3 * 3)) - 1) ((p2 + (x5_10 / 3)) - 1) p3).2 vR) H := hQ
        have v2 : okR (m_R_strike sR_10 ((p1 + (x5_10 - x5_10 / 3 * 3)) - 1) ((p2 + (x5_10 / 3)) - 1) p3).2 := okR_strike (by assumption)
        have w2_3 : ((m_R_strike sR_10 ((p1 + (x5_10 - x5_10 / 3 * 3)) - 1) ((p2 + (x5_10 / 3)) - 1) p3).2 0 3).toInt = (sR_10 0 3).toInt := congrArg Int32.toInt (fr_R_strike (by omega))
        have w2_6 : ((m_R_strike sR_10 ((p1 + (x5_10 - x5_10 / 3 * 3)) - 1) ((p2 + (x5_10 / 3)) - 1) p3).2 0 6).toInt = (sR_10 0 6).toInt := congrArg Int32.toInt (fr_R_strike (by omega))
        have w2_7 : ((m_R_strike sR_10 ((p1 + (x5_10 - x5_10 / 3 * 3)) - 1) ((p2 + (x5_10 / 3)) - 1) p3).2 0 7).toInt = (sR_10 0 7).toInt := congrArg Int32.toInt (fr_R_strike (by omega))
        have w2_11 : ((m_R_strike sR_10 ((p1 + (x5_10 - x5_10 / 3 * 3)) - 1) ((p2 + (x5_10 / 3)) - 1) p3).2 0 11).toInt = (sR_10 0 11).toInt := congrArg Int32.toInt (fr_R_strike (by omega))
        have w2_16 : ((m_R_strike sR_10 ((p1 + (x5_10 - x5_10 / 3 * 3)) - 1) ((p2 + (x5_10 / 3)) - 1) p3).2 0 16).toInt = (sR_10 0 16).toInt := congrArg Int32.toInt (fr_R_strike (by omega))
        refine lv_imul hx hb dX5_worthOf_47 ?_
        refine lv_iadd hx hb dX5_worthOf_48 ?_
        refine lv_istore (lv' := [(4, .int (x4_10 + ((sR_10 13 (Int32.toNatClampNeg x5_10)) * (m_R_strike sR_10 ((p1 + (x5_10 - x5_10 / 3 * 3)) - 1) ((p2 + (x5_10 / 3)) - 1) p3).1))), (0, .ref (g 0)), (1, .int p1), (2, .int p2), (3, .int p3), (5, .int x5_10)]) hx hb dX5_worthOf_49 hl (by decide) rfl (fun ls hl => ?_)
        refine lv_aload_n hx hb dX5_worthOf_51 rfl (lv_at hl 1 rfl) ?_
        refine runW_v (va_runV (As := []) (rest := []) ⟨hx, hb, hml, hown, hts⟩ (K_R_giveBack hg (m_R_strike sR_10 ((p1 + (x5_10 - x5_10 / 3 * 3)) - 1) ((p2 + (x5_10 / 3)) - 1) p3).2 vR) (cwV 0 hts gX5_worthOf_X5_giveBack rfl rfl rfl (by decide +kernel) ⟨Nat.le_of_ble_eq_true rfl, Nat.le_of_ble_eq_true rfl⟩) (preV_of hE hA hS hPR (va_recv hE.1 hPR (ci := 5) (q0 := 0) rfl rfl)) rfl rfl hl.1 rfl (lv_room (Nat.le_of_ble_eq_true rfl)) dX5_worthOf_52 ⟨Nat.zero_le _, Nat.zero_le _⟩) hS (fun _ h9 => h9) (fun H locs hQ hk hS => ?_)
        have hPR : va_P D vwCl (cellR cI g (m_R_giveBack (m_R_strike sR_10 ((p1 + (x5_10 - x5_10 / 3 * 3)) - 1) ((p2 + (x5_10 / 3)) - 1) p3).2) vR) H := hQ
        have v3 : okR (m_R_giveBack (m_R_strike sR_10 ((p1 + (x5_10 - x5_10 / 3 * 3)) - 1) ((p2 + (x5_10 / 3)) - 1) p3).2) := okR_giveBack (by assumption)
        have w3_3 : ((m_R_giveBack (m_R_strike sR_10 ((p1 + (x5_10 - x5_10 / 3 * 3)) - 1) ((p2 + (x5_10 / 3)) - 1) p3).2) 0 3).toInt = ((m_R_strike sR_10 ((p1 + (x5_10 - x5_10 / 3 * 3)) - 1) ((p2 + (x5_10 / 3)) - 1) p3).2 0 3).toInt := congrArg Int32.toInt (fr_R_giveBack (by omega))
        have w3_6 : ((m_R_giveBack (m_R_strike sR_10 ((p1 + (x5_10 - x5_10 / 3 * 3)) - 1) ((p2 + (x5_10 / 3)) - 1) p3).2) 0 6).toInt = ((m_R_strike sR_10 ((p1 + (x5_10 - x5_10 / 3 * 3)) - 1) ((p2 + (x5_10 / 3)) - 1) p3).2 0 6).toInt := congrArg Int32.toInt (fr_R_giveBack (by omega))
        have w3_7 : ((m_R_giveBack (m_R_strike sR_10 ((p1 + (x5_10 - x5_10 / 3 * 3)) - 1) ((p2 + (x5_10 / 3)) - 1) p3).2) 0 7).toInt = ((m_R_strike sR_10 ((p1 + (x5_10 - x5_10 / 3 * 3)) - 1) ((p2 + (x5_10 / 3)) - 1) p3).2 0 7).toInt := congrArg Int32.toInt (fr_R_giveBack (by omega))
        have w3_11 : ((m_R_giveBack (m_R_strike sR_10 ((p1 + (x5_10 - x5_10 / 3 * 3)) - 1) ((p2 + (x5_10 / 3)) - 1) p3).2) 0 11).toInt = ((m_R_strike sR_10 ((p1 + (x5_10 - x5_10 / 3 * 3)) - 1) ((p2 + (x5_10 / 3)) - 1) p3).2 0 11).toInt := congrArg Int32.toInt (fr_R_giveBack (by omega))
        have w3_16 : ((m_R_giveBack (m_R_strike sR_10 ((p1 + (x5_10 - x5_10 / 3 * 3)) - 1) ((p2 + (x5_10 / 3)) - 1) p3).2) 0 16).toInt = ((m_R_strike sR_10 ((p1 + (x5_10 - x5_10 / 3 * 3)) - 1) ((p2 + (x5_10 / 3)) - 1) p3).2 0 16).toInt := congrArg Int32.toInt (fr_R_giveBack (by omega))
        refine lv_iinc (v := (x5_10 + 1)) (lv' := [(5, .int (x5_10 + 1)), (4, .int (x4_10 + ((sR_10 13 (Int32.toNatClampNeg x5_10)) * (m_R_strike sR_10 ((p1 + (x5_10 - x5_10 / 3 * 3)) - 1) ((p2 + (x5_10 / 3)) - 1) p3).1))), (0, .ref (g 0)), (1, .int p1), (2, .int p2), (3, .int p3)]) hx hb dX5_worthOf_55 hl (k := 5) rfl rfl (by decide) rfl (fun ls hl => ?_)
        refine lv_goto (tgt := 10) hx hb dX5_worthOf_58 (by decide) ?_
        have := t_inc (x := x5_10) (by omega)
        rw [wl_some hM] at kk
        exact ih (m_R_giveBack (m_R_strike sR_10 ((p1 + (x5_10 - x5_10 / 3 * 3)) - 1) ((p2 + (x5_10 / 3)) - 1) p3).2) (x4_10 + ((sR_10 13 (Int32.toNatClampNeg x5_10)) * (m_R_strike sR_10 ((p1 + (x5_10 - x5_10 / 3 * 3)) - 1) ((p2 + (x5_10 / 3)) - 1) p3).1)) (x5_10 + 1) H locs ls (by omega) (by assumption) (by omega) hPR hS (lv_sub hl [2, 3, 4, 5, 1, 0] rfl) kk
  have J_61 : ∀ (sR_61 : St) (x4_61 : Int32) (H : Heap) (locs : List Loc) (ls : Array Slot), va_P D vwCl (cellR cI g sR_61 vR) H → va_S (wA g 0 16) s.heap H locs → lv_has ls 6 [(4, .int x4_61)] → (m_R_worthOf sR p1 p2 p3) = b_R_worthOf_61 sR_61 x4_61 → W p l e rm_R_worthOf s m args below meth c H locs 0 0 Q (F0 m 61 ls []) := by
    intro sR_61 x4_61 H locs ls hPR hS hl hM
    refine lv_iload hx hb dX5_worthOf_61 (lv_at hl 0 rfl) ?_
    have hM : (m_R_worthOf sR p1 p2 p3) = ((x4_61, sR_61) : Int32 × St) := hM
    exact hret x4_61 H locs _ ls (nr_i _) dX5_worthOf_63 (ret1 hM) (rP_v1 (P := fun (z0 : St) => va_P D vwCl (cellR cI g z0 vR) H) hM hPR) hS
  have hM : (m_R_worthOf sR p1 p2 p3) = (m_R_worthOf sR p1 p2 p3) := rfl
  refine lv_iconst (v := 0) hx hb dX5_worthOf_0 (by decide) ?_
  refine lv_istore (lv' := [(4, .int 0), (0, .ref (g 0)), (1, .int p1), (2, .int p2), (3, .int p3)]) hx hb dX5_worthOf_1 hl (by decide) rfl (fun ls hl => ?_)
  refine lv_aload_n hx hb dX5_worthOf_3 rfl (lv_at hl 1 rfl) ?_
  refine runW_v (va_runV (As := []) (rest := []) ⟨hx, hb, hml, hown, hts⟩ (K_R_keep hg sR vR) (cwV 0 hts gX5_worthOf_X5_keep rfl rfl rfl (by decide +kernel) ⟨Nat.le_of_ble_eq_true rfl, Nat.le_of_ble_eq_true rfl⟩) (preV_of hE hA hS hPR (va_recv hE.1 hPR (ci := 5) (q0 := 0) rfl rfl)) rfl rfl hl.1 rfl (lv_room (Nat.le_of_ble_eq_true rfl)) dX5_worthOf_4 ⟨Nat.zero_le _, Nat.zero_le _⟩) hS (fun _ h9 => h9) (fun H locs hQ hk hS => ?_)
  have hPR : va_P D vwCl (cellR cI g (m_R_keep sR) vR) H := hQ
  have v4 : okR (m_R_keep sR) := okR_keep (by assumption)
  have w4_3 : ((m_R_keep sR) 0 3).toInt = (sR 0 3).toInt := congrArg Int32.toInt (fr_R_keep (by omega))
  have w4_6 : ((m_R_keep sR) 0 6).toInt = (sR 0 6).toInt := congrArg Int32.toInt (fr_R_keep (by omega))
  have w4_7 : ((m_R_keep sR) 0 7).toInt = (sR 0 7).toInt := congrArg Int32.toInt (fr_R_keep (by omega))
  have w4_11 : ((m_R_keep sR) 0 11).toInt = (sR 0 11).toInt := congrArg Int32.toInt (fr_R_keep (by omega))
  have w4_16 : ((m_R_keep sR) 0 16).toInt = (sR 0 16).toInt := congrArg Int32.toInt (fr_R_keep (by omega))
  refine lv_iconst (v := 0) hx hb dX5_worthOf_7 (by decide) ?_
  refine lv_istore (lv' := [(5, .int 0), (4, .int 0), (0, .ref (g 0)), (1, .int p1), (2, .int p2), (3, .int p3)]) hx hb dX5_worthOf_8 hl (by decide) rfl (fun ls hl => ?_)
  have z5 := tl_0
  refine L_10 10 (m_R_keep sR) 0 0 H locs ls (by omega) (by assumption) (by omega) hPR hS (lv_sub hl [2, 3, 4, 5, 1, 0] rfl) (fun H locs ls k0 k1 hPR hS hl => ?_)
  have nk1 := okR_lin k1
  exact J_61 (wl (g_R_worthOf_10 p1 p2 p3) 10 ((m_R_keep sR), 0, 0)).1 (wl (g_R_worthOf_10 p1 p2 p3) 10 ((m_R_keep sR), 0, 0)).2.1 H locs ls hPR hS (lv_sub hl [0] rfl) hM
abbrev rm_R_worth : Room := { frames := 4, cells := 0, slots := 0, locals := 96 }
set_option maxHeartbeats 4000000 in
set_option maxRecDepth 100000 in
theorem K_R_worth {l : Launch} {D : va_G} {cI : ClassId} {lo : Nat} {g : Nat → Nat} (hg : wI g 0 16 lo) (sR : St) (vR : Int64) (p1 : Int32) (p2 : Int32) (p3 : Int32) (h0 : okR sR) : WRi l D cI lo yX5_worth wsX5_worth rm_R_worth [.ref (g 0), .int p1, .int p2, .int p3] (fun H => va_P D vwCl (cellR cI g sR vR) H) (m_R_worth sR p1 p2 p3).1 (fun H => va_P D vwCl (cellR cI g (m_R_worth sR p1 p2 p3).2 vR) H) (wA g 0 16) := by
  refine ofW_WRi (cc := cX5_worth) (maxL := 4) (ty := .int) (by decide +kernel) rfl (Nat.le_of_ble_eq_true rfl) ?_
  intro p e s m args below meth c Q hx hb hml hown hts hE hP hret ls hl
  have hown : s.vm.findClass RX5 = some m.cls := hown
  have hPR := hP
  have hA := wA.lo hg
  have hS : va_S (wA g 0 16) s.heap s.heap [] := va_S.rf
  obtain ⟨H, hH⟩ : ∃ z, z = s.heap := ⟨_, rfl⟩
  obtain ⟨locs, hlocs⟩ : ∃ z : List Loc, z = [] := ⟨_, rfl⟩
  have hPR : va_P D vwCl (cellR cI g sR vR) H := by rw [hH]; exact hPR
  have hS : va_S (wA g 0 16) s.heap H locs := by rw [hH, hlocs]; exact va_S.rf
  have gW : W p l e rm_R_worth s m args below meth c H locs 0 0 Q (F0 m 0 ls []) → W p l e rm_R_worth s m args below meth c s.heap [] 0 0 Q (F0 m 0 ls []) := by rw [hH, hlocs]; exact id
  refine gW ?_
  have hinR : ∀ w ∈ wsX50, w ∈ wsX5_worth := fun w h => List.mem_cons_of_mem _ (List.mem_append_right _ h)
  have hl : lv_has ls 4 [(0, .ref (g 0)), (1, .int p1), (2, .int p2), (3, .int p3)] := hl
  have nh0 := okR_lin h0
  have hM : (m_R_worth sR p1 p2 p3) = (m_R_worth sR p1 p2 p3) := rfl
  refine lv_aload_n hx hb dX5_worth_0 rfl (lv_at hl 0 rfl) ?_
  refine lv_iload_n hx hb dX5_worth_1 rfl (lv_at hl 1 rfl) ?_
  refine lv_iload_n hx hb dX5_worth_2 rfl (lv_at hl 2 rfl) ?_
  refine runS_i (va_runV (As := [.int p1, .int p2]) (rest := []) ⟨hx, hb, hml, hown, hts⟩ (K_R_isCell hg sR vR p1 p2) (cwV 2 hts gX5_worth_X5_isCell rfl rfl rfl (by decide +kernel) ⟨Nat.le_of_ble_eq_true rfl, Nat.le_of_ble_eq_true rfl⟩) (preV_of hE hA hS hPR (va_recv hE.1 hPR (ci := 5) (q0 := 0) rfl rfl)) rfl rfl hl.1 rfl (lv_room (Nat.le_of_ble_eq_true rfl)) dX5_worth_3 ⟨Nat.zero_le _, Nat.zero_le _⟩) ?_
  refine lv_if_eq (tgt := 26) hx hb dX5_worth_6 (by decide) (fun c_1 => ?_) (fun c_1 => ?_)
  · have hM := hM.trans (if_pos c_1)
    refine lv_iconst (v := (-1)) hx hb dX5_worth_26 (by decide) ?_
    have hM : (m_R_worth sR p1 p2 p3) = (((-1), sR) : Int32 × St) := hM
    exact hret (-1) H locs _ ls (nr_i _) dX5_worth_27 (ret1 hM) (rP_v1 (P := fun (z0 : St) => va_P D vwCl (cellR cI g z0 vR) H) hM hPR) hS
  · have hM := hM.trans (if_neg c_1)
    have u_1 := iscell_t c_1 (by omega) (by omega)
    refine lv_iload_n hx hb dX5_worth_9 rfl (lv_at hl 3 rfl) ?_
    refine runS_i (va_runS (As := [.int p3]) (rest := []) ⟨hx, hb, hml, hown, hts⟩ (K_R_isForce p3) (va_cwS 1 hts gX5_worth_X5_isForce rfl rfl rfl (by decide +kernel) ⟨Nat.le_of_ble_eq_true rfl, Nat.le_of_ble_eq_true rfl⟩) (preS_of hE hA hS trivial) rfl rfl hl.1 rfl (lv_room (Nat.le_of_ble_eq_true rfl)) dX5_worth_10 ⟨Nat.zero_le _, Nat.zero_le _⟩) ?_
    refine lv_if_eq (tgt := 26) hx hb dX5_worth_13 (by decide) (fun c_2 => ?_) (fun c_2 => ?_)
    · have hM := hM.trans (if_pos c_2)
      refine lv_iconst (v := (-1)) hx hb dX5_worth_26 (by decide) ?_
      have hM : (m_R_worth sR p1 p2 p3) = (((-1), sR) : Int32 × St) := hM
      exact hret (-1) H locs _ ls (nr_i _) dX5_worth_27 (ret1 hM) (rP_v1 (P := fun (z0 : St) => va_P D vwCl (cellR cI g z0 vR) H) hM hPR) hS
    · have hM := hM.trans (if_neg c_2)
      have u_2 := isforce_t c_2
      refine lv_aload_n hx hb dX5_worth_16 rfl (lv_at hl 0 rfl) ?_
      refine lv_iload_n hx hb dX5_worth_17 rfl (lv_at hl 1 rfl) ?_
      refine lv_iload_n hx hb dX5_worth_18 rfl (lv_at hl 2 rfl) ?_
      refine lv_iload_n hx hb dX5_worth_19 rfl (lv_at hl 3 rfl) ?_
      refine runW_i (va_runV (As := [.int p1, .int p2, .int p3]) (rest := []) ⟨hx, hb, hml, hown, hts⟩ (K_R_worthOf hg sR vR p1 p2 p3 (by assumption)) (cwV 3 hts gX5_worth_X5_worthOf rfl rfl rfl (by decide +kernel) ⟨Nat.le_of_ble_eq_true rfl, Nat.le_of_ble_eq_true rfl⟩) (preV_of hE hA hS hPR (va_recv hE.1 hPR (ci := 5) (q0 := 0) rfl rfl)) rfl rfl hl.1 rfl (lv_room (Nat.le_of_ble_eq_true rfl)) dX5_worth_20 ⟨Nat.zero_le _, Nat.zero_le _⟩) hS (fun _ h9 => h9) (fun H locs hQ hk hS => ?_)
      have hPR : va_P D vwCl (cellR cI g (m_R_worthOf sR p1 p2 p3).2 vR) H := hQ
      have v3 : okR (m_R_worthOf sR p1 p2 p3).2 := okR_worthOf (by assumption)
      have w3_3 : ((m_R_worthOf sR p1 p2 p3).2 0 3).toInt = (sR 0 3).toInt := congrArg Int32.toInt (fr_R_worthOf (by omega))
      have w3_6 : ((m_R_worthOf sR p1 p2 p3).2 0 6).toInt = (sR 0 6).toInt := congrArg Int32.toInt (fr_R_worthOf (by omega))
      have w3_7 : ((m_R_worthOf sR p1 p2 p3).2 0 7).toInt = (sR 0 7).toInt := congrArg Int32.toInt (fr_R_worthOf (by omega))
      have w3_11 : ((m_R_worthOf sR p1 p2 p3).2 0 11).toInt = (sR 0 11).toInt := congrArg Int32.toInt (fr_R_worthOf (by omega))
      have w3_16 : ((m_R_worthOf sR p1 p2 p3).2 0 16).toInt = (sR 0 16).toInt := congrArg Int32.toInt (fr_R_worthOf (by omega))
      refine lv_goto (tgt := 27) hx hb dX5_worth_23 (by decide) ?_
      have hM : (m_R_worth sR p1 p2 p3) = (((m_R_worthOf sR p1 p2 p3).1, (m_R_worthOf sR p1 p2 p3).2) : Int32 × St) := hM
      exact hret (m_R_worthOf sR p1 p2 p3).1 H locs _ ls (nr_i _) dX5_worth_27 (ret1 hM) (rP_v1 (P := fun (z0 : St) => va_P D vwCl (cellR cI g z0 vR) H) hM hPR) hS
abbrev rm_R_aim : Room := { frames := 4, cells := 0, slots := 0, locals := 96 }
set_option maxHeartbeats 4000000 in
set_option maxRecDepth 100000 in
theorem K_R_aim {l : Launch} {D : va_G} {cI : ClassId} {lo : Nat} {g : Nat → Nat} (hg : wI g 0 16 lo) (sR : St) (vR : Int64) (p1 : Int32) (p2 : Int32) (h0 : okR sR) : WRi l D cI lo yX5_aim wsX5_aim rm_R_aim [.ref (g 0), .int p1, .int p2] (fun H => va_P D vwCl (cellR cI g sR vR) H) (m_R_aim sR p1 p2).1 (fun H => va_P D vwCl (cellR cI g (m_R_aim sR p1 p2).2 vR) H) (wA g 0 16) := by
  refine ofW_WRi (cc := cX5_aim) (maxL := 7) (ty := .int) (by decide +kernel) rfl (Nat.le_of_ble_eq_true rfl) ?_
  intro p e s m args below meth c Q hx hb hml hown hts hE hP hret ls hl
  have hown : s.vm.findClass RX5 = some m.cls := hown
  have hPR := hP
  have hA := wA.lo hg
  have hS : va_S (wA g 0 16) s.heap s.heap [] := va_S.rf
  obtain ⟨H, hH⟩ : ∃ z, z = s.heap := ⟨_, rfl⟩
  obtain ⟨locs, hlocs⟩ : ∃ z : List Loc, z = [] := ⟨_, rfl⟩
  have hPR : va_P D vwCl (cellR cI g sR vR) H := by rw [hH]; exact hPR
  have hS : va_S (wA g 0 16) s.heap H locs := by rw [hH, hlocs]; exact va_S.rf
  have gW : W p l e rm_R_aim s m args below meth c H locs 0 0 Q (F0 m 0 ls []) → W p l e rm_R_aim s m args below meth c s.heap [] 0 0 Q (F0 m 0 ls []) := by rw [hH, hlocs]; exact id
  refine gW ?_
  have hinR : ∀ w ∈ wsX50, w ∈ wsX5_aim := fun w h => List.mem_cons_of_mem _ (List.mem_append_right _ h)
  have hl : lv_has ls 7 [(0, .ref (g 0)), (1, .int p1), (2, .int p2)] := hl
  have nh0 := okR_lin h0
  have hmu := okR_mul h0
  have L_26 : ∀ (n : Nat) (sR_26 : St) (x3_26 : Int32) (x4_26 : Int32) (x5_26 : Int32) (H : Heap) (locs : List Loc) (ls : Array Slot), 0 ≤ x5_26.toInt ∧ x5_26.toInt ≤ (sR 0 6 * sR 0 7).toInt → okR sR_26 → (sR_26 0 6) = (sR 0 6) ∧ (sR_26 0 7) = (sR 0 7) → ((sR 0 6 * sR 0 7).toInt - x5_26.toInt).toNat < n → va_P D vwCl (cellR cI g sR_26 vR) H → va_S (wA g 0 16) s.heap H locs → lv_has ls 7 [(0, .ref (g 0)), (1, .int p1), (2, .int p2), (3, .int x3_26), (4, .int x4_26), (5, .int x5_26)] → (∀ (H : Heap) (locs : List Loc) (ls : Array Slot), 0 ≤ (wl (g_R_aim_26 p1) n (sR_26, x3_26, x4_26, x5_26)).2.2.2.toInt ∧ (wl (g_R_aim_26 p1) n (sR_26, x3_26, x4_26, x5_26)).2.2.2.toInt ≤ (sR 0 6 * sR 0 7).toInt → okR (wl (g_R_aim_26 p1) n (sR_26, x3_26, x4_26, x5_26)).1 → ((wl (g_R_aim_26 p1) n (sR_26, x3_26, x4_26, x5_26)).1 0 6) = (sR 0 6) ∧ ((wl (g_R_aim_26 p1) n (sR_26, x3_26, x4_26, x5_26)).1 0 7) = (sR 0 7) → va_P D vwCl (cellR cI g (wl (g_R_aim_26 p1) n (sR_26, x3_26, x4_26, x5_26)).1 vR) H → va_S (wA g 0 16) s.heap H locs → lv_has ls 7 [(2, .int p2), (3, .int (wl (g_R_aim_26 p1) n (sR_26, x3_26, x4_26, x5_26)).2.1), (4, .int (wl (g_R_aim_26 p1) n (sR_26, x3_26, x4_26, x5_26)).2.2.1)] → W p l e rm_R_aim s m args below meth c H locs 0 0 Q (F0 m 97 ls [])) → W p l e rm_R_aim s m args below meth c H locs 0 0 Q (F0 m 26 ls []) := by
    intro n
    induction n with
    | zero =>
      intro sR_26 x3_26 x4_26 x5_26 H locs ls i26_0 i26_1 i26_2 hn26 hPR hS hl kk
      exact absurd hn26 (Nat.not_lt_zero _)
    | succ n ih =>
      intro sR_26 x3_26 x4_26 x5_26 H locs ls i26_0 i26_1 i26_2 hn26 hPR hS hl kk
      have ni26_1 := okR_lin i26_1
      have hM : (g_R_aim_26 p1) (sR_26, x3_26, x4_26, x5_26) = (g_R_aim_26 p1) (sR_26, x3_26, x4_26, x5_26) := rfl
      refine lv_iload hx hb dX5_aim_26 (lv_at hl 5 rfl) ?_
      refine lv_aload_n hx hb dX5_aim_28 rfl (lv_at hl 0 rfl) ?_
      refine va_get (D := D) (ci := 5) (v := .int (sR_26 0 6)) (C := RX5) (T := TX5) (N := 33) hx hb hts hinR hown hE.1 hPR 0 rfl rfl 6 (by decide) (hts (.fieldLink RX5 23 "WallStonesModel" "width" "I") (List.mem_of_getElem? (i := 1) rfl)) (fun _ h9 => h9) rfl dX5_aim_29 ?_
      refine lv_aload_n hx hb dX5_aim_32 rfl (lv_at hl 0 rfl) ?_
      refine va_get (D := D) (ci := 5) (v := .int (sR_26 0 7)) (C := RX5) (T := TX5) (N := 33) hx hb hts hinR hown hE.1 hPR 0 rfl rfl 7 (by decide) (hts (.fieldLink RX5 26 "WallStonesModel" "height" "I") (List.mem_of_getElem? (i := 2) rfl)) (fun _ h9 => h9) rfl dX5_aim_33 ?_
      refine lv_imul hx hb dX5_aim_36 ?_
      refine lv_icmp_ge (tgt := 97) hx hb dX5_aim_37 (by decide) (fun c_1 => ?_) (fun c_1 => ?_)
      · have hM := hM.trans (if_pos c_1)
        have t_1 := le_t c_1
        rw [wl_none hM] at kk
        try dsimp only at kk
        exact kk H locs ls (by omega) (by assumption) (by omega) hPR hS (lv_sub hl [2, 3, 4] rfl)
      · have hM := hM.trans (if_neg c_1)
        have t_1 := nle_t c_1
        rw [i26_2.1, i26_2.2] at t_1
        refine lv_aload_n hx hb dX5_aim_40 rfl (lv_at hl 0 rfl) ?_
        refine lv_iload hx hb dX5_aim_41 (lv_at hl 5 rfl) ?_
        refine lv_aload_n hx hb dX5_aim_43 rfl (lv_at hl 0 rfl) ?_
        refine va_get (D := D) (ci := 5) (v := .int (sR_26 0 6)) (C := RX5) (T := TX5) (N := 33) hx hb hts hinR hown hE.1 hPR 0 rfl rfl 6 (by decide) (hts (.fieldLink RX5 23 "WallStonesModel" "width" "I") (List.mem_of_getElem? (i := 1) rfl)) (fun _ h9 => h9) rfl dX5_aim_44 ?_
        refine lv_irem hx hb dX5_aim_47 (ii_ne (b := 0) (by show _ ≠ (0 : Int); omega)) ?_
        refine lv_iload hx hb dX5_aim_48 (lv_at hl 5 rfl) ?_
        refine lv_aload_n hx hb dX5_aim_50 rfl (lv_at hl 0 rfl) ?_
        refine va_get (D := D) (ci := 5) (v := .int (sR_26 0 6)) (C := RX5) (T := TX5) (N := 33) hx hb hts hinR hown hE.1 hPR 0 rfl rfl 6 (by decide) (hts (.fieldLink RX5 23 "WallStonesModel" "width" "I") (List.mem_of_getElem? (i := 1) rfl)) (fun _ h9 => h9) rfl dX5_aim_51 ?_
        refine lv_idiv hx hb dX5_aim_54 (ii_ne (b := 0) (by show _ ≠ (0 : Int); omega)) ?_
        refine lv_iload_n hx hb dX5_aim_55 rfl (lv_at hl 1 rfl) ?_
        refine runW_i (va_runV (As := [.int (x5_26 - x5_26 / (sR_26 0 6) * (sR_26 0 6)), .int (x5_26 / (sR_26 0 6)), .int p1]) (rest := []) ⟨hx, hb, hml, hown, hts⟩ (K_R_worthOf hg sR_26 vR (x5_26 - x5_26 / (sR_26 0 6) * (sR_26 0 6)) (x5_26 / (sR_26 0 6)) p1 (by assumption)) (cwV 3 hts gX5_aim_X5_worthOf rfl rfl rfl (by decide +kernel) ⟨Nat.le_of_ble_eq_true rfl, Nat.le_of_ble_eq_true rfl⟩) (preV_of hE hA hS hPR (va_recv hE.1 hPR (ci := 5) (q0 := 0) rfl rfl)) rfl rfl hl.1 rfl (lv_room (Nat.le_of_ble_eq_true rfl)) dX5_aim_56 ⟨Nat.zero_le _, Nat.zero_le _⟩) hS (fun _ h9 => h9) (fun H locs hQ hk hS => ?_)
        have hPR : va_P D vwCl (cellR cI g (m_R_worthOf sR_26 (x5_26 - x5_26 / (sR_26 0 6) * (sR_26 0 6)) (x5_26 / (sR_26 0 6)) p1).2 vR) H := hQ
        have v2 : okR (m_R_worthOf sR_26 (x5_26 - x5_26 / (sR_26 0 6) * (sR_26 0 6)) (x5_26 / (sR_26 0 6)) p1).2 := okR_worthOf (by assumption)
        have w2_3 : ((m_R_worthOf sR_26 (x5_26 - x5_26 / (sR_26 0 6) * (sR_26 0 6)) (x5_26 / (sR_26 0 6)) p1).2 0 3).toInt = (sR_26 0 3).toInt := congrArg Int32.toInt (fr_R_worthOf (by omega))
        have w2_6 : ((m_R_worthOf sR_26 (x5_26 - x5_26 / (sR_26 0 6) * (sR_26 0 6)) (x5_26 / (sR_26 0 6)) p1).2 0 6).toInt = (sR_26 0 6).toInt := congrArg Int32.toInt (fr_R_worthOf (by omega))
        have w2_7 : ((m_R_worthOf sR_26 (x5_26 - x5_26 / (sR_26 0 6) * (sR_26 0 6)) (x5_26 / (sR_26 0 6)) p1).2 0 7).toInt = (sR_26 0 7).toInt := congrArg Int32.toInt (fr_R_worthOf (by omega))
        have w2_11 : ((m_R_worthOf sR_26 (x5_26 - x5_26 / (sR_26 0 6) * (sR_26 0 6)) (x5_26 / (sR_26 0 6)) p1).2 0 11).toInt = (sR_26 0 11).toInt := congrArg Int32.toInt (fr_R_worthOf (by omega))
        have w2_16 : ((m_R_worthOf sR_26 (x5_26 - x5_26 / (sR_26 0 6) * (sR_26 0 6)) (x5_26 / (sR_26 0 6)) p1).2 0 16).toInt = (sR_26 0 16).toInt := congrArg Int32.toInt (fr_R_worthOf (by omega))
        refine lv_istore (lv' := [(6, .int (m_R_worthOf sR_26 (x5_26 - x5_26 / (sR_26 0 6) * (sR_26 0 6)) (x5_26 / (sR_26 0 6)) p1).1), (0, .ref (g 0)), (1, .int p1), (2, .int p2), (3, .int x3_26), (4, .int x4_26), (5, .int x5_26)]) hx hb dX5_aim_59 hl (by decide) rfl (fun ls hl => ?_)
        refine lv_iload hx hb dX5_aim_61 (lv_at hl 0 rfl) ?_
        refine lv_iload hx hb dX5_aim_63 (lv_at hl 5 rfl) ?_
        refine lv_icmp_le (tgt := 73) hx hb dX5_aim_65 (by decide) (fun c_3 => ?_) (fun c_3 => ?_)
        · have hM := hM.trans (if_pos c_3)
          have t_3 := le_t c_3
          refine lv_iload_n hx hb dX5_aim_73 rfl (lv_at hl 4 rfl) ?_
          refine lv_istore_n (lv' := [(3, .int x3_26), (6, .int (m_R_worthOf sR_26 (x5_26 - x5_26 / (sR_26 0 6) * (sR_26 0 6)) (x5_26 / (sR_26 0 6)) p1).1), (0, .ref (g 0)), (1, .int p1), (2, .int p2), (4, .int x4_26), (5, .int x5_26)]) hx hb dX5_aim_74 rfl hl (by decide) rfl (fun ls hl => ?_)
          refine lv_iload hx hb dX5_aim_75 (lv_at hl 1 rfl) ?_
          refine lv_iload hx hb dX5_aim_77 (lv_at hl 5 rfl) ?_
          refine lv_icmp_le (tgt := 87) hx hb dX5_aim_79 (by decide) (fun c_4 => ?_) (fun c_4 => ?_)
          · have hM := hM.trans (if_pos c_4)
            have t_4 := le_t c_4
            refine lv_iload hx hb dX5_aim_87 (lv_at hl 5 rfl) ?_
            refine lv_istore (lv' := [(4, .int x4_26), (3, .int x3_26), (6, .int (m_R_worthOf sR_26 (x5_26 - x5_26 / (sR_26 0 6) * (sR_26 0 6)) (x5_26 / (sR_26 0 6)) p1).1), (0, .ref (g 0)), (1, .int p1), (2, .int p2), (5, .int x5_26)]) hx hb dX5_aim_89 hl (by decide) rfl (fun ls hl => ?_)
            refine lv_iinc (v := (x5_26 + 1)) (lv' := [(5, .int (x5_26 + 1)), (4, .int x4_26), (3, .int x3_26), (6, .int (m_R_worthOf sR_26 (x5_26 - x5_26 / (sR_26 0 6) * (sR_26 0 6)) (x5_26 / (sR_26 0 6)) p1).1), (0, .ref (g 0)), (1, .int p1), (2, .int p2)]) hx hb dX5_aim_91 hl (k := 6) rfl rfl (by decide) rfl (fun ls hl => ?_)
            refine lv_goto (tgt := 26) hx hb dX5_aim_94 (by decide) ?_
            have := t_inc (x := x5_26) (by omega)
            rw [wl_some hM] at kk
            exact ih (m_R_worthOf sR_26 (x5_26 - x5_26 / (sR_26 0 6) * (sR_26 0 6)) (x5_26 / (sR_26 0 6)) p1).2 x3_26 x4_26 (x5_26 + 1) H locs ls (by omega) (by assumption) ⟨(fr_R_worthOf (by omega)).trans i26_2.1, (fr_R_worthOf (by omega)).trans i26_2.2⟩ (by omega) hPR hS (lv_sub hl [4, 5, 6, 2, 1, 0] rfl) kk
          · have hM := hM.trans (if_neg c_4)
            have t_4 := nle_t c_4
            refine lv_iload hx hb dX5_aim_82 (lv_at hl 1 rfl) ?_
            refine lv_goto (tgt := 89) hx hb dX5_aim_84 (by decide) ?_
            refine lv_istore (lv' := [(4, .int (m_R_worthOf sR_26 (x5_26 - x5_26 / (sR_26 0 6) * (sR_26 0 6)) (x5_26 / (sR_26 0 6)) p1).1), (3, .int x3_26), (6, .int (m_R_worthOf sR_26 (x5_26 - x5_26 / (sR_26 0 6) * (sR_26 0 6)) (x5_26 / (sR_26 0 6)) p1).1), (0, .ref (g 0)), (1, .int p1), (2, .int p2), (5, .int x5_26)]) hx hb dX5_aim_89 hl (by decide) rfl (fun ls hl => ?_)
            refine lv_iinc (v := (x5_26 + 1)) (lv' := [(5, .int (x5_26 + 1)), (4, .int (m_R_worthOf sR_26 (x5_26 - x5_26 / (sR_26 0 6) * (sR_26 0 6)) (x5_26 / (sR_26 0 6)) p1).1), (3, .int x3_26), (6, .int (m_R_worthOf sR_26 (x5_26 - x5_26 / (sR_26 0 6) * (sR_26 0 6)) (x5_26 / (sR_26 0 6)) p1).1), (0, .ref (g 0)), (1, .int p1), (2, .int p2)]) hx hb dX5_aim_91 hl (k := 6) rfl rfl (by decide) rfl (fun ls hl => ?_)
            refine lv_goto (tgt := 26) hx hb dX5_aim_94 (by decide) ?_
            have := t_inc (x := x5_26) (by omega)
            rw [wl_some hM] at kk
            exact ih (m_R_worthOf sR_26 (x5_26 - x5_26 / (sR_26 0 6) * (sR_26 0 6)) (x5_26 / (sR_26 0 6)) p1).2 x3_26 (m_R_worthOf sR_26 (x5_26 - x5_26 / (sR_26 0 6) * (sR_26 0 6)) (x5_26 / (sR_26 0 6)) p1).1 (x5_26 + 1) H locs ls (by omega) (by assumption) ⟨(fr_R_worthOf (by omega)).trans i26_2.1, (fr_R_worthOf (by omega)).trans i26_2.2⟩ (by omega) hPR hS (lv_sub hl [4, 5, 6, 2, 1, 0] rfl) kk
        · have hM := hM.trans (if_neg c_3)
          have t_3 := nle_t c_3
          refine lv_iload hx hb dX5_aim_68 (lv_at hl 6 rfl) ?_
          refine lv_goto (tgt := 74) hx hb dX5_aim_70 (by decide) ?_
          refine lv_istore_n (lv' := [(3, .int x5_26), (6, .int (m_R_worthOf sR_26 (x5_26 - x5_26 / (sR_26 0 6) * (sR_26 0 6)) (x5_26 / (sR_26 0 6)) p1).1), (0, .ref (g 0)), (1, .int p1), (2, .int p2), (4, .int x4_26), (5, .int x5_26)]) hx hb dX5_aim_74 rfl hl (by decide) rfl (fun ls hl => ?_)
          refine lv_iload hx hb dX5_aim_75 (lv_at hl 1 rfl) ?_
          refine lv_iload hx hb dX5_aim_77 (lv_at hl 5 rfl) ?_
          refine lv_icmp_le (tgt := 87) hx hb dX5_aim_79 (by decide) (fun c_5 => ?_) (fun c_5 => ?_)
          · have hM := hM.trans (if_pos c_5)
            have t_5 := le_t c_5
            refine lv_iload hx hb dX5_aim_87 (lv_at hl 5 rfl) ?_
            refine lv_istore (lv' := [(4, .int x4_26), (3, .int x5_26), (6, .int (m_R_worthOf sR_26 (x5_26 - x5_26 / (sR_26 0 6) * (sR_26 0 6)) (x5_26 / (sR_26 0 6)) p1).1), (0, .ref (g 0)), (1, .int p1), (2, .int p2), (5, .int x5_26)]) hx hb dX5_aim_89 hl (by decide) rfl (fun ls hl => ?_)
            refine lv_iinc (v := (x5_26 + 1)) (lv' := [(5, .int (x5_26 + 1)), (4, .int x4_26), (3, .int x5_26), (6, .int (m_R_worthOf sR_26 (x5_26 - x5_26 / (sR_26 0 6) * (sR_26 0 6)) (x5_26 / (sR_26 0 6)) p1).1), (0, .ref (g 0)), (1, .int p1), (2, .int p2)]) hx hb dX5_aim_91 hl (k := 6) rfl rfl (by decide) rfl (fun ls hl => ?_)
            refine lv_goto (tgt := 26) hx hb dX5_aim_94 (by decide) ?_
            have := t_inc (x := x5_26) (by omega)
            rw [wl_some hM] at kk
            exact ih (m_R_worthOf sR_26 (x5_26 - x5_26 / (sR_26 0 6) * (sR_26 0 6)) (x5_26 / (sR_26 0 6)) p1).2 x5_26 x4_26 (x5_26 + 1) H locs ls (by omega) (by assumption) ⟨(fr_R_worthOf (by omega)).trans i26_2.1, (fr_R_worthOf (by omega)).trans i26_2.2⟩ (by omega) hPR hS (lv_sub hl [4, 5, 6, 2, 1, 0] rfl) kk
          · have hM := hM.trans (if_neg c_5)
            have t_5 := nle_t c_5
            refine lv_iload hx hb dX5_aim_82 (lv_at hl 1 rfl) ?_
            refine lv_goto (tgt := 89) hx hb dX5_aim_84 (by decide) ?_
            refine lv_istore (lv' := [(4, .int (m_R_worthOf sR_26 (x5_26 - x5_26 / (sR_26 0 6) * (sR_26 0 6)) (x5_26 / (sR_26 0 6)) p1).1), (3, .int x5_26), (6, .int (m_R_worthOf sR_26 (x5_26 - x5_26 / (sR_26 0 6) * (sR_26 0 6)) (x5_26 / (sR_26 0 6)) p1).1), (0, .ref (g 0)), (1, .int p1), (2, .int p2), (5, .int x5_26)]) hx hb dX5_aim_89 hl (by decide) rfl (fun ls hl => ?_)
            refine lv_iinc (v := (x5_26 + 1)) (lv' := [(5, .int (x5_26 + 1)), (4, .int (m_R_worthOf sR_26 (x5_26 - x5_26 / (sR_26 0 6) * (sR_26 0 6)) (x5_26 / (sR_26 0 6)) p1).1), (3, .int x5_26), (6, .int (m_R_worthOf sR_26 (x5_26 - x5_26 / (sR_26 0 6) * (sR_26 0 6)) (x5_26 / (sR_26 0 6)) p1).1), (0, .ref (g 0)), (1, .int p1), (2, .int p2)]) hx hb dX5_aim_91 hl (k := 6) rfl rfl (by decide) rfl (fun ls hl => ?_)
            refine lv_goto (tgt := 26) hx hb dX5_aim_94 (by decide) ?_
            have := t_inc (x := x5_26) (by omega)
            rw [wl_some hM] at kk
            exact ih (m_R_worthOf sR_26 (x5_26 - x5_26 / (sR_26 0 6) * (sR_26 0 6)) (x5_26 / (sR_26 0 6)) p1).2 x5_26 (m_R_worthOf sR_26 (x5_26 - x5_26 / (sR_26 0 6) * (sR_26 0 6)) (x5_26 / (sR_26 0 6)) p1).1 (x5_26 + 1) H locs ls (by omega) (by assumption) ⟨(fr_R_worthOf (by omega)).trans i26_2.1, (fr_R_worthOf (by omega)).trans i26_2.2⟩ (by omega) hPR hS (lv_sub hl [4, 5, 6, 2, 1, 0] rfl) kk
  have J_97 : ∀ (sR_97 : St) (x3_97 : Int32) (x4_97 : Int32) (H : Heap) (locs : List Loc) (ls : Array Slot), va_P D vwCl (cellR cI g sR_97 vR) H → va_S (wA g 0 16) s.heap H locs → lv_has ls 7 [(2, .int p2), (3, .int x3_97), (4, .int x4_97)] → (m_R_aim sR p1 p2) = b_R_aim_97 sR_97 p2 x3_97 x4_97 → W p l e rm_R_aim s m args below meth c H locs 0 0 Q (F0 m 97 ls []) := by
    intro sR_97 x3_97 x4_97 H locs ls hPR hS hl hM
    refine lv_iload_n hx hb dX5_aim_97 rfl (lv_at hl 0 rfl) ?_
    refine lv_if_ne (tgt := 105) hx hb dX5_aim_98 (by decide) (fun c_6 => ?_) (fun c_6 => ?_)
    · have hM := hM.trans (if_neg c_6)
      have t_6 := ne_t c_6
      rw [tl_0] at t_6
      refine lv_iload hx hb dX5_aim_105 (lv_at hl 2 rfl) ?_
      have hM : (m_R_aim sR p1 p2) = ((x4_97, sR_97) : Int32 × St) := hM
      exact hret x4_97 H locs _ ls (nr_i _) dX5_aim_107 (ret1 hM) (rP_v1 (P := fun (z0 : St) => va_P D vwCl (cellR cI g z0 vR) H) hM hPR) hS
    · have hM := hM.trans (if_pos c_6)
      have t_6 := eq_t c_6
      rw [tl_0] at t_6
      refine lv_iload_n hx hb dX5_aim_101 rfl (lv_at hl 1 rfl) ?_
      refine lv_goto (tgt := 107) hx hb dX5_aim_102 (by decide) ?_
      have hM : (m_R_aim sR p1 p2) = ((x3_97, sR_97) : Int32 × St) := hM
      exact hret x3_97 H locs _ ls (nr_i _) dX5_aim_107 (ret1 hM) (rP_v1 (P := fun (z0 : St) => va_P D vwCl (cellR cI g z0 vR) H) hM hPR) hS
  have hM : (m_R_aim sR p1 p2) = (m_R_aim sR p1 p2) := rfl
  refine lv_iload_n hx hb dX5_aim_0 rfl (lv_at hl 1 rfl) ?_
  refine runS_i (va_runS (As := [.int p1]) (rest := []) ⟨hx, hb, hml, hown, hts⟩ (K_R_isForce p1) (va_cwS 1 hts gX5_aim_X5_isForce rfl rfl rfl (by decide +kernel) ⟨Nat.le_of_ble_eq_true rfl, Nat.le_of_ble_eq_true rfl⟩) (preS_of hE hA hS trivial) rfl rfl hl.1 rfl (lv_room (Nat.le_of_ble_eq_true rfl)) dX5_aim_1 ⟨Nat.zero_le _, Nat.zero_le _⟩) ?_
  refine lv_if_eq (tgt := 16) hx hb dX5_aim_4 (by decide) (fun c_7 => ?_) (fun c_7 => ?_)
  · have hM := hM.trans (if_pos c_7)
    have t_7 := eq_t c_7
    rw [tl_0] at t_7
    refine lv_iconst (v := (-1)) hx hb dX5_aim_16 (by decide) ?_
    have hM : (m_R_aim sR p1 p2) = (((-1), sR) : Int32 × St) := hM
    exact hret (-1) H locs _ ls (nr_i _) dX5_aim_17 (ret1 hM) (rP_v1 (P := fun (z0 : St) => va_P D vwCl (cellR cI g z0 vR) H) hM hPR) hS
  · have hM := hM.trans (if_neg c_7)
    have t_7 := ne_t c_7
    rw [tl_0] at t_7
    have u_7 := isforce_t c_7
    refine lv_iload_n hx hb dX5_aim_7 rfl (lv_at hl 2 rfl) ?_
    refine lv_iconst (v := 0) hx hb dX5_aim_8 (by decide) ?_
    refine lv_iconst (v := 1) hx hb dX5_aim_9 (by decide) ?_
    refine runS_i (va_runS (As := [.int p2, .int 0, .int 1]) (rest := []) ⟨hx, hb, hml, hown, hts⟩ (K_R_in p2 0 1) (va_cwS 3 hts gX5_aim_X5_in rfl rfl rfl (by decide +kernel) ⟨Nat.le_of_ble_eq_true rfl, Nat.le_of_ble_eq_true rfl⟩) (preS_of hE hA hS trivial) rfl rfl hl.1 rfl (lv_room (Nat.le_of_ble_eq_true rfl)) dX5_aim_10 ⟨Nat.zero_le _, Nat.zero_le _⟩) ?_
    refine lv_if_ne (tgt := 18) hx hb dX5_aim_13 (by decide) (fun c_8 => ?_) (fun c_8 => ?_)
    · have hM := hM.trans (if_neg c_8)
      have t_8 := ne_t c_8
      rw [tl_0] at t_8
      have u_8 := in_t c_8
      rw [tl_0, tl_1] at u_8
      refine lv_iconst (v := 0) hx hb dX5_aim_18 (by decide) ?_
      refine lv_istore_n (lv' := [(3, .int 0), (0, .ref (g 0)), (1, .int p1), (2, .int p2)]) hx hb dX5_aim_19 rfl hl (by decide) rfl (fun ls hl => ?_)
      refine lv_iconst (v := (-1)) hx hb dX5_aim_20 (by decide) ?_
      refine lv_istore (lv' := [(4, .int (-1)), (3, .int 0), (0, .ref (g 0)), (1, .int p1), (2, .int p2)]) hx hb dX5_aim_21 hl (by decide) rfl (fun ls hl => ?_)
      refine lv_iconst (v := 0) hx hb dX5_aim_23 (by decide) ?_
      refine lv_istore (lv' := [(5, .int 0), (4, .int (-1)), (3, .int 0), (0, .ref (g 0)), (1, .int p1), (2, .int p2)]) hx hb dX5_aim_24 hl (by decide) rfl (fun ls hl => ?_)
      have z9 := tl_m1
      have z10 := tl_0
      refine L_26 49 sR 0 (-1) 0 H locs ls (by omega) (by assumption) ⟨rfl, rfl⟩ (by omega) hPR hS (lv_sub hl [3, 4, 5, 2, 1, 0] rfl) (fun H locs ls k0 k1 k2 hPR hS hl => ?_)
      have nk1 := okR_lin k1
      exact J_97 (wl (g_R_aim_26 p1) 49 (sR, 0, (-1), 0)).1 (wl (g_R_aim_26 p1) 49 (sR, 0, (-1), 0)).2.1 (wl (g_R_aim_26 p1) 49 (sR, 0, (-1), 0)).2.2.1 H locs ls hPR hS (lv_sub hl [0, 1, 2] rfl) hM
    · have hM := hM.trans (if_pos c_8)
      have t_8 := eq_t c_8
      rw [tl_0] at t_8
      refine lv_iconst (v := (-1)) hx hb dX5_aim_16 (by decide) ?_
      have hM : (m_R_aim sR p1 p2) = (((-1), sR) : Int32 × St) := hM
      exact hret (-1) H locs _ ls (nr_i _) dX5_aim_17 (ret1 hM) (rP_v1 (P := fun (z0 : St) => va_P D vwCl (cellR cI g z0 vR) H) hM hPR) hS
abbrev rm_R_held : Room := { frames := 3, cells := 0, slots := 0, locals := 71 }
set_option maxHeartbeats 4000000 in
set_option maxRecDepth 100000 in
theorem K_R_held {l : Launch} {D : va_G} {cI : ClassId} {lo : Nat} {g : Nat → Nat} (hg : wI g 0 16 lo) (sR : St) (vR : Int64) (p1 : Int32) (p2 : Int32) (p3 : Int32) (p4 : Int32) (h0 : okR sR) : WRl l D cI lo yX5_held wsX5_held rm_R_held [.ref (g 0), .int p1, .int p2, .int p3, .int p4] (fun H => va_P D vwCl (cellR cI g sR vR) H) (m_R_held sR p1 p2 p3 p4).1 (fun H => va_P D vwCl (cellR cI g (m_R_held sR p1 p2 p3 p4).2 vR) H) (wA g 0 16) := by
  refine ofW_WRl (cc := cX5_held) (maxL := 15) (by decide +kernel) rfl (Nat.le_of_ble_eq_true rfl) ?_
  intro p e s m args below meth c Q hx hb hml hown hts hE hP hret ls hl
  have hown : s.vm.findClass RX5 = some m.cls := hown
  have hPR := hP
  have hA := wA.lo hg
  have hS : va_S (wA g 0 16) s.heap s.heap [] := va_S.rf
  obtain ⟨H, hH⟩ : ∃ z, z = s.heap := ⟨_, rfl⟩
  obtain ⟨locs, hlocs⟩ : ∃ z : List Loc, z = [] := ⟨_, rfl⟩
  have hPR : va_P D vwCl (cellR cI g sR vR) H := by rw [hH]; exact hPR
  have hS : va_S (wA g 0 16) s.heap H locs := by rw [hH, hlocs]; exact va_S.rf
  have gW : W p l e rm_R_held s m args below meth c H locs 0 0 Q (F0 m 0 ls []) → W p l e rm_R_held s m args below meth c s.heap [] 0 0 Q (F0 m 0 ls []) := by rw [hH, hlocs]; exact id
  refine gW ?_
  have hinR : ∀ w ∈ wsX50, w ∈ wsX5_held := fun w h => List.mem_cons_of_mem _ (List.mem_append_right _ h)
  have hl : lv_has ls 15 [(0, .ref (g 0)), (1, .int p1), (2, .int p2), (3, .int p3), (4, .int p4)] := hl
  have nh0 := okR_lin h0
  have L_83 : ∀ (n : Nat) (sR_83 : St) (x5_83 : Int32) (x6_83 : Int64) (x8_83 : Int32) (x9_83 : Int32) (x10_83 : Int64) (x12_83 : Int32) (H : Heap) (locs : List Loc) (ls : Array Slot), 0 ≤ x12_83.toInt ∧ x12_83.toInt ≤ p4.toInt → okR sR_83 → 0 ≤ x9_83.toInt → 1 ≤ p4.toInt ∧ p4.toInt ≤ 4 → (p4.toInt - x12_83.toInt).toNat < n → va_P D vwCl (cellR cI g sR_83 vR) H → va_S (wA g 0 16) s.heap H locs → lv_has ls 15 [(0, .ref (g 0)), (1, .int p1), (2, .int p2), (3, .int p3), (4, .int p4), (5, .int x5_83), (6, .long x6_83), (8, .int x8_83), (9, .int x9_83), (10, .long x10_83), (12, .int x12_83)] → (∀ (H : Heap) (locs : List Loc) (ls : Array Slot), 0 ≤ (wl (g_R_held_83 p1 p2 p3 p4) n (sR_83, x9_83, x10_83, x12_83)).2.2.2.toInt ∧ (wl (g_R_held_83 p1 p2 p3 p4) n (sR_83, x9_83, x10_83, x12_83)).2.2.2.toInt ≤ p4.toInt → okR (wl (g_R_held_83 p1 p2 p3 p4) n (sR_83, x9_83, x10_83, x12_83)).1 → 0 ≤ (wl (g_R_held_83 p1 p2 p3 p4) n (sR_83, x9_83, x10_83, x12_83)).2.1.toInt → 1 ≤ p4.toInt ∧ p4.toInt ≤ 4 → va_P D vwCl (cellR cI g (wl (g_R_held_83 p1 p2 p3 p4) n (sR_83, x9_83, x10_83, x12_83)).1 vR) H → va_S (wA g 0 16) s.heap H locs → lv_has ls 15 [(0, .ref (g 0)), (1, .int p1), (2, .int p2), (3, .int p3), (4, .int p4), (5, .int x5_83), (6, .long x6_83), (8, .int x8_83), (10, .long (wl (g_R_held_83 p1 p2 p3 p4) n (sR_83, x9_83, x10_83, x12_83)).2.2.1)] → W p l e rm_R_held s m args below meth c H locs 0 0 Q (F0 m 160 ls [])) → W p l e rm_R_held s m args below meth c H locs 0 0 Q (F0 m 83 ls []) := by
    intro n
    induction n with
    | zero =>
      intro sR_83 x5_83 x6_83 x8_83 x9_83 x10_83 x12_83 H locs ls i83_0 i83_1 i83_2 i83_3 hn83 hPR hS hl kk
      exact absurd hn83 (Nat.not_lt_zero _)
    | succ n ih =>
      intro sR_83 x5_83 x6_83 x8_83 x9_83 x10_83 x12_83 H locs ls i83_0 i83_1 i83_2 i83_3 hn83 hPR hS hl kk
      have ni83_1 := okR_lin i83_1
      have hM : (g_R_held_83 p1 p2 p3 p4) (sR_83, x9_83, x10_83, x12_83) = (g_R_held_83 p1 p2 p3 p4) (sR_83, x9_83, x10_83, x12_83) := rfl
      refine lv_iload hx hb dX5_held_83 (lv_at hl 10 rfl) ?_
      refine lv_iload hx hb dX5_held_85 (lv_at hl 4 rfl) ?_
      refine lv_icmp_ge (tgt := 160) hx hb dX5_held_87 (by decide) (fun c_1 => ?_) (fun c_1 => ?_)
      · have hM := hM.trans (if_pos c_1)
        have t_1 := le_t c_1
        rw [wl_none hM] at kk
        try dsimp only at kk
        exact kk H locs ls (by omega) (by assumption) (by omega) (by omega) hPR hS (lv_sub hl [0, 1, 2, 3, 4, 5, 6, 7, 9] rfl)
      · have hM := hM.trans (if_neg c_1)
        have t_1 := nle_t c_1
        refine lv_lload hx hb dX5_held_90 (lv_at hl 9 rfl) ?_
        refine lv_lconst (v := 0) hx hb dX5_held_92 (by decide) ?_
        refine W.lcmp hx hb dX5_held_93 ?_
        refine lv_if_le (tgt := 160) hx hb dX5_held_94 (by decide) (fun c_2 => ?_) (fun c_2 => ?_)
        · have hM := hM.trans (if_pos c_2)
          rw [wl_none hM] at kk
          try dsimp only at kk
          exact kk H locs ls (by omega) (by assumption) (by omega) (by omega) hPR hS (lv_sub hl [0, 1, 2, 3, 4, 5, 6, 7, 9] rfl)
        · have hM := hM.trans (if_neg c_2)
          have r9 := rem9 (a := x9_83) (by omega)
          refine lv_iload hx hb dX5_held_97 (lv_at hl 8 rfl) ?_
          refine lv_bipush (v := 9) hx hb dX5_held_99 (by decide) ?_
          refine lv_irem hx hb dX5_held_101 (by decide) ?_
          refine lv_istore (lv' := [(13, .int (x9_83 - x9_83 / 9 * 9)), (0, .ref (g 0)), (1, .int p1), (2, .int p2), (3, .int p3), (4, .int p4), (5, .int x5_83), (6, .long x6_83), (8, .int x8_83), (9, .int x9_83), (10, .long x10_83), (12, .int x12_83)]) hx hb dX5_held_102 hl (by decide) rfl (fun ls hl => ?_)
          refine lv_iload hx hb dX5_held_104 (lv_at hl 9 rfl) ?_
          refine lv_bipush (v := 9) hx hb dX5_held_106 (by decide) ?_
          refine lv_idiv hx hb dX5_held_108 (by decide) ?_
          refine lv_istore (lv' := [(9, .int (x9_83 / 9)), (13, .int (x9_83 - x9_83 / 9 * 9)), (0, .ref (g 0)), (1, .int p1), (2, .int p2), (3, .int p3), (4, .int p4), (5, .int x5_83), (6, .long x6_83), (8, .int x8_83), (10, .long x10_83), (12, .int x12_83)]) hx hb dX5_held_109 hl (by decide) rfl (fun ls hl => ?_)
          refine lv_lload hx hb dX5_held_111 (lv_at hl 10 rfl) ?_
          refine lv_aload_n hx hb dX5_held_113 rfl (lv_at hl 2 rfl) ?_
          refine va_get (D := D) (ci := 5) (v := .ref (g 7)) (C := RX5) (T := TX5) (N := 33) hx hb hts hinR hown hE.1 hPR 0 rfl rfl 12 (by decide) (hts (.fieldLink RX5 38 "WallStonesModel" "scatter" "[I") (List.mem_of_getElem? (i := 2) rfl)) (fun _ h9 => h9) rfl dX5_held_114 ?_
          refine lv_iload hx hb dX5_held_117 (lv_at hl 1 rfl) ?_
          refine va_iald hx hb hE.1 hPR 7 0 rfl rfl (vp_in_iff.mpr (by omega)) dX5_held_119 ?_
          refine W.eq (g2 := F0 m 120 ls [.int (sR_83 13 (Int32.toNatClampNeg (x9_83 - x9_83 / 9 * 9))), .long x10_83]) rfl ?_
          refine lv_i2l (v := (Int32.toInt64 (sR_83 13 (Int32.toNatClampNeg (x9_83 - x9_83 / 9 * 9))))) hx hb dX5_held_120 rfl ?_
          refine lv_lmul hx hb dX5_held_121 ?_
          refine lv_lstore (lv' := [(10, .long (x10_83 * (Int32.toInt64 (sR_83 13 (Int32.toNatClampNeg (x9_83 - x9_83 / 9 * 9)))))), (9, .int (x9_83 / 9)), (13, .int (x9_83 - x9_83 / 9 * 9)), (0, .ref (g 0)), (1, .int p1), (2, .int p2), (3, .int p3), (4, .int p4), (5, .int x5_83), (6, .long x6_83), (8, .int x8_83), (12, .int x12_83)]) hx hb dX5_held_122 hl (by decide) rfl (fun ls hl => ?_)
          refine lv_lload hx hb dX5_held_124 (lv_at hl 0 rfl) ?_
          refine lv_lconst (v := 0) hx hb dX5_held_126 (by decide) ?_
          refine W.lcmp hx hb dX5_held_127 ?_
          refine lv_if_le (tgt := 154) hx hb dX5_held_128 (by decide) (fun c_3 => ?_) (fun c_3 => ?_)
          · have hM := hM.trans (if_pos c_3)
            refine lv_iinc (v := (x12_83 + 1)) (lv' := [(12, .int (x12_83 + 1)), (10, .long (x10_83 * (Int32.toInt64 (sR_83 13 (Int32.toNatClampNeg (x9_83 - x9_83 / 9 * 9)))))), (9, .int (x9_83 / 9)), (13, .int (x9_83 - x9_83 / 9 * 9)), (0, .ref (g 0)), (1, .int p1), (2, .int p2), (3, .int p3), (4, .int p4), (5, .int x5_83), (6, .long x6_83), (8, .int x8_83)]) hx hb dX5_held_154 hl (k := 11) rfl rfl (by decide) rfl (fun ls hl => ?_)
            refine lv_goto (tgt := 83) hx hb dX5_held_157 (by decide) ?_
            have := t_inc (x := x12_83) (by omega)
            rw [wl_some hM] at kk
            exact ih sR_83 x5_83 x6_83 x8_83 (x9_83 / 9) (x10_83 * (Int32.toInt64 (sR_83 13 (Int32.toNatClampNeg (x9_83 - x9_83 / 9 * 9))))) (x12_83 + 1) H locs ls (by omega) (by assumption) (by omega) (by omega) (by omega) hPR hS (lv_sub hl [4, 5, 6, 7, 8, 9, 10, 11, 2, 1, 0] rfl) kk
          · have hM := hM.trans (if_neg c_3)
            refine lv_aload_n hx hb dX5_held_131 rfl (lv_at hl 3 rfl) ?_
            refine lv_iload_n hx hb dX5_held_132 rfl (lv_at hl 4 rfl) ?_
            refine lv_iload hx hb dX5_held_133 (lv_at hl 2 rfl) ?_
            refine lv_iconst (v := 3) hx hb dX5_held_135 (by decide) ?_
            refine lv_irem hx hb dX5_held_136 (by decide) ?_
            refine lv_iadd hx hb dX5_held_137 ?_
            refine lv_iconst (v := 1) hx hb dX5_held_138 (by decide) ?_
            refine lv_isub hx hb dX5_held_139 ?_
            refine lv_iload_n hx hb dX5_held_140 rfl (lv_at hl 5 rfl) ?_
            refine lv_iload hx hb dX5_held_141 (lv_at hl 2 rfl) ?_
            refine lv_iconst (v := 3) hx hb dX5_held_143 (by decide) ?_
            refine lv_idiv hx hb dX5_held_144 (by decide) ?_
            refine lv_iadd hx hb dX5_held_145 ?_
            refine lv_iconst (v := 1) hx hb dX5_held_146 (by decide) ?_
            refine lv_isub hx hb dX5_held_147 ?_
            refine lv_iload_n hx hb dX5_held_148 rfl (lv_at hl 6 rfl) ?_
            refine runW_i (va_runV (As := [.int ((p1 + ((x9_83 - x9_83 / 9 * 9) - (x9_83 - x9_83 / 9 * 9) / 3 * 3)) - 1), .int ((p2 + ((x9_83 - x9_83 / 9 * 9) / 3)) - 1), .int p3]) (rest := []) ⟨hx, hb, hml, hown, hts⟩ (K_R_strike hg sR_83 vR ((p1 + ((x9_83 - x9_83 / 9 * 9) - (x9_83 - x9_83 / 9 * 9) / 3 * 3)) - 1) ((p2 + ((x9_83 - x9_83 / 9 * 9) / 3)) - 1) p3 (by assumption)) (cwV 3 hts gX5_held_X5_strike rfl rfl rfl (by decide +kernel) ⟨Nat.le_of_ble_eq_true rfl, Nat.le_of_ble_eq_true rfl⟩) (preV_of hE hA hS hPR (va_recv hE.1 hPR (ci := 5) (q0 := 0) rfl rfl)) rfl rfl hl.1 rfl (lv_room (Nat.le_of_ble_eq_true rfl)) dX5_held_149 ⟨Nat.zero_le _, Nat.zero_le _⟩) hS (fun _ h9 => h9) (fun H locs hQ hk hS => ?_)
            have hPR : va_P D vwCl (cellR cI g (m_R_strike sR_83 ((p1 + ((x9_83 - x9_83 / 9 * 9) - (x9_83 - x9_83 / 9 * 9) / 3 * 3)) - 1) ((p2 + ((x9_83 - x9_83 / 9 * 9) / 3)) - 1) p3).2 vR) H := hQ
            have v4 : okR (m_R_strike sR_83 ((p1 + ((x9_83 - x9_83 / 9 * 9) - (x9_83 - x9_83 / 9 * 9) / 3 * 3)) - 1) ((p2 + ((x9_83 - x9_83 / 9 * 9) / 3)) - 1) p3).2 := okR_strike (by assumption)
            have w4_3 : ((m_R_strike sR_83 ((p1 + ((x9_83 - x9_83 / 9 * 9) - (x9_83 - x9_83 / 9 * 9) / 3 * 3)) - 1) ((p2 + ((x9_83 - x9_83 / 9 * 9) / 3)) - 1) p3).2 0 3).toInt = (sR_83 0 3).toInt := congrArg Int32.toInt (fr_R_strike (by omega))
            have w4_6 : ((m_R_strike sR_83 ((p1 + ((x9_83 - x9_83 / 9 * 9) - (x9_83 - x9_83 / 9 * 9) / 3 * 3)) - 1) ((p2 + ((x9_83 - x9_83 / 9 * 9) / 3)) - 1) p3).2 0 6).toInt = (sR_83 0 6).toInt := congrArg Int32.toInt (fr_R_strike (by omega))
            have w4_7 : ((m_R_strike sR_83 ((p1 + ((x9_83 - x9_83 / 9 * 9) - (x9_83 - x9_83 / 9 * 9) / 3 * 3)) - 1) ((p2 + ((x9_83 - x9_83 / 9 * 9) / 3)) - 1) p3).2 0 7).toInt = (sR_83 0 7).toInt := congrArg Int32.toInt (fr_R_strike (by omega))
            have w4_11 : ((m_R_strike sR_83 ((p1 + ((x9_83 - x9_83 / 9 * 9) - (x9_83 - x9_83 / 9 * 9) / 3 * 3)) - 1) ((p2 + ((x9_83 - x9_83 / 9 * 9) / 3)) - 1) p3).2 0 11).toInt = (sR_83 0 11).toInt := congrArg Int32.toInt (fr_R_strike (by omega))
            have w4_16 : ((m_R_strike sR_83 ((p1 + ((x9_83 - x9_83 / 9 * 9) - (x9_83 - x9_83 / 9 * 9) / 3 * 3)) - 1) ((p2 + ((x9_83 - x9_83 / 9 * 9) / 3)) - 1) p3).2 0 16).toInt = (sR_83 0 16).toInt := congrArg Int32.toInt (fr_R_strike (by omega))
            refine lv_istore (lv' := [(14, .int (m_R_strike sR_83 ((p1 + ((x9_83 - x9_83 / 9 * 9) - (x9_83 - x9_83 / 9 * 9) / 3 * 3)) - 1) ((p2 + ((x9_83 - x9_83 / 9 * 9) / 3)) - 1) p3).1), (10, .long (x10_83 * (Int32.toInt64 (sR_83 13 (Int32.toNatClampNeg (x9_83 - x9_83 / 9 * 9)))))), (9, .int (x9_83 / 9)), (13, .int (x9_83 - x9_83 / 9 * 9)), (0, .ref (g 0)), (1, .int p1), (2, .int p2), (3, .int p3), (4, .int p4), (5, .int x5_83), (6, .long x6_83), (8, .int x8_83), (12, .int x12_83)]) hx hb dX5_held_152 hl (by decide) rfl (fun ls hl => ?_)
            refine lv_iinc (v := (x12_83 + 1)) (lv' := [(12, .int (x12_83 + 1)), (14, .int (m_R_strike sR_83 ((p1 + ((x9_83 - x9_83 / 9 * 9) - (x9_83 - x9_83 / 9 * 9) / 3 * 3)) - 1) ((p2 + ((x9_83 - x9_83 / 9 * 9) / 3)) - 1) p3).1), (10, .long (x10_83 * (Int32.toInt64 (sR_83 13 (Int32.toNatClampNeg (x9_83 - x9_83 / 9 * 9)))))), (9, .int (x9_83 / 9)), (13, .int (x9_83 - x9_83 / 9 * 9)), (0, .ref (g 0)), (1, .int p1), (2, .int p2), (3, .int p3), (4, .int p4), (5, .int x5_83), (6, .long x6_83), (8, .int x8_83)]) hx hb dX5_held_154 hl (k := 12) rfl rfl (by decide) rfl (fun ls hl => ?_)
            refine lv_goto (tgt := 83) hx hb dX5_held_157 (by decide) ?_
            have := t_inc (x := x12_83) (by omega)
            rw [wl_some hM] at kk
            exact ih (m_R_strike sR_83 ((p1 + ((x9_83 - x9_83 / 9 * 9) - (x9_83 - x9_83 / 9 * 9) / 3 * 3)) - 1) ((p2 + ((x9_83 - x9_83 / 9 * 9) / 3)) - 1) p3).2 x5_83 x6_83 x8_83 (x9_83 / 9) (x10_83 * (Int32.toInt64 (sR_83 13 (Int32.toNatClampNeg (x9_83 - x9_83 / 9 * 9))))) (x12_83 + 1) H locs ls (by omega) (by assumption) (by omega) (by omega) (by omega) hPR hS (lv_sub hl [5, 6, 7, 8, 9, 10, 11, 12, 3, 2, 0] rfl) kk
  have L_36 : ∀ (n : Nat) (sR_36 : St) (x5_36 : Int32) (x6_36 : Int32) (H : Heap) (locs : List Loc) (ls : Array Slot), 0 ≤ x6_36.toInt ∧ x6_36.toInt ≤ p4.toInt → (x6_36.toInt = 0 ∧ x5_36.toInt = 1) ∨ (x6_36.toInt = 1 ∧ x5_36.toInt = 9) ∨ (x6_36.toInt = 2 ∧ x5_36.toInt = 81) ∨ (x6_36.toInt = 3 ∧ x5_36.toInt = 729) ∨ (x6_36.toInt = 4 ∧ x5_36.toInt = 6561) → 1 ≤ p4.toInt ∧ p4.toInt ≤ 4 → (p4.toInt - x6_36.toInt).toNat < n → va_P D vwCl (cellR cI g sR_36 vR) H → va_S (wA g 0 16) s.heap H locs → lv_has ls 15 [(0, .ref (g 0)), (1, .int p1), (2, .int p2), (3, .int p3), (4, .int p4), (5, .int x5_36), (6, .int x6_36)] → (∀ (H : Heap) (locs : List Loc) (ls : Array Slot), 0 ≤ (wl (g_R_held_36 sR_36 p4) n (x5_36, x6_36)).2.toInt ∧ (wl (g_R_held_36 sR_36 p4) n (x5_36, x6_36)).2.toInt ≤ p4.toInt → ((wl (g_R_held_36 sR_36 p4) n (x5_36, x6_36)).2.toInt = 0 ∧ (wl (g_R_held_36 sR_36 p4) n (x5_36, x6_36)).1.toInt = 1) ∨ ((wl (g_R_held_36 sR_36 p4) n (x5_36, x6_36)).2.toInt = 1 ∧ (wl (g_R_held_36 sR_36 p4) n (x5_36, x6_36)).1.toInt = 9) ∨ ((wl (g_R_held_36 sR_36 p4) n (x5_36, x6_36)).2.toInt = 2 ∧ (wl (g_R_held_36 sR_36 p4) n (x5_36, x6_36)).1.toInt = 81) ∨ ((wl (g_R_held_36 sR_36 p4) n (x5_36, x6_36)).2.toInt = 3 ∧ (wl (g_R_held_36 sR_36 p4) n (x5_36, x6_36)).1.toInt = 729) ∨ ((wl (g_R_held_36 sR_36 p4) n (x5_36, x6_36)).2.toInt = 4 ∧ (wl (g_R_held_36 sR_36 p4) n (x5_36, x6_36)).1.toInt = 6561) → 1 ≤ p4.toInt ∧ p4.toInt ≤ 4 → va_P D vwCl (cellR cI g sR_36 vR) H → va_S (wA g 0 16) s.heap H locs → lv_has ls 15 [(0, .ref (g 0)), (1, .int p1), (2, .int p2), (3, .int p3), (4, .int p4), (5, .int (wl (g_R_held_36 sR_36 p4) n (x5_36, x6_36)).1)] → W p l e rm_R_held s m args below meth c H locs 0 0 Q (F0 m 56 ls [])) → W p l e rm_R_held s m args below meth c H locs 0 0 Q (F0 m 36 ls []) := by
    intro n
    induction n with
    | zero =>
      intro sR_36 x5_36 x6_36 H locs ls i36_0 i36_1 i36_2 hn36 hPR hS hl kk
      exact absurd hn36 (Nat.not_lt_zero _)
    | succ n ih =>
      intro sR_36 x5_36 x6_36 H locs ls i36_0 i36_1 i36_2 hn36 hPR hS hl kk
      have hM : (g_R_held_36 sR_36 p4) (x5_36, x6_36) = (g_R_held_36 sR_36 p4) (x5_36, x6_36) := rfl
      refine lv_iload hx hb dX5_held_36 (lv_at hl 6 rfl) ?_
      refine lv_iload hx hb dX5_held_38 (lv_at hl 4 rfl) ?_
      refine lv_icmp_ge (tgt := 56) hx hb dX5_held_40 (by decide) (fun c_5 => ?_) (fun c_5 => ?_)
      · have hM := hM.trans (if_pos c_5)
        have t_5 := le_t c_5
        rw [wl_none hM] at kk
        try dsimp only at kk
        exact kk H locs ls (by omega) (by omega) (by omega) hPR hS (lv_sub hl [0, 1, 2, 3, 4, 5] rfl)
      · have hM := hM.trans (if_neg c_5)
        have t_5 := nle_t c_5
        have m9 := mul9 (a := x5_36) (by omega)
        refine lv_iload hx hb dX5_held_43 (lv_at hl 5 rfl) ?_
        refine lv_bipush (v := 9) hx hb dX5_held_45 (by decide) ?_
        refine lv_imul hx hb dX5_held_47 ?_
        refine lv_istore (lv' := [(5, .int (x5_36 * 9)), (0, .ref (g 0)), (1, .int p1), (2, .int p2), (3, .int p3), (4, .int p4), (6, .int x6_36)]) hx hb dX5_held_48 hl (by decide) rfl (fun ls hl => ?_)
        refine lv_iinc (v := (x6_36 + 1)) (lv' := [(6, .int (x6_36 + 1)), (5, .int (x5_36 * 9)), (0, .ref (g 0)), (1, .int p1), (2, .int p2), (3, .int p3), (4, .int p4)]) hx hb dX5_held_50 hl (k := 6) rfl rfl (by decide) rfl (fun ls hl => ?_)
        refine lv_goto (tgt := 36) hx hb dX5_held_53 (by decide) ?_
        have := t_inc (x := x6_36) (by omega)
        rw [wl_some hM] at kk
        exact ih sR_36 (x5_36 * 9) (x6_36 + 1) H locs ls (by omega) (by omega) (by omega) (by omega) hPR hS (lv_sub hl [2, 3, 4, 5, 6, 1, 0] rfl) kk
  have L_66 : ∀ (n : Nat) (sR_66 : St) (x5_66 : Int32) (x6_66 : Int64) (x8_66 : Int32) (H : Heap) (locs : List Loc) (ls : Array Slot), 0 ≤ x8_66.toInt ∧ x8_66.toInt ≤ x5_66.toInt → okR sR_66 → x5_66.toInt ≤ 6561 → 1 ≤ p4.toInt ∧ p4.toInt ≤ 4 → (x5_66.toInt - x8_66.toInt).toNat < n → va_P D vwCl (cellR cI g sR_66 vR) H → va_S (wA g 0 16) s.heap H locs → lv_has ls 15 [(0, .ref (g 0)), (1, .int p1), (2, .int p2), (3, .int p3), (4, .int p4), (5, .int x5_66), (6, .long x6_66), (8, .int x8_66)] → (∀ (H : Heap) (locs : List Loc) (ls : Array Slot), 0 ≤ (wl (g_R_held_66 p1 p2 p3 p4 x5_66) n (sR_66, x6_66, x8_66)).2.2.toInt ∧ (wl (g_R_held_66 p1 p2 p3 p4 x5_66) n (sR_66, x6_66, x8_66)).2.2.toInt ≤ x5_66.toInt → okR (wl (g_R_held_66 p1 p2 p3 p4 x5_66) n (sR_66, x6_66, x8_66)).1 → x5_66.toInt ≤ 6561 → 1 ≤ p4.toInt ∧ p4.toInt ≤ 4 → va_P D vwCl (cellR cI g (wl (g_R_held_66 p1 p2 p3 p4 x5_66) n (sR_66, x6_66, x8_66)).1 vR) H → va_S (wA g 0 16) s.heap H locs → lv_has ls 15 [(6, .long (wl (g_R_held_66 p1 p2 p3 p4 x5_66) n (sR_66, x6_66, x8_66)).2.1)] → W p l e rm_R_held s m args below meth c H locs 0 0 Q (F0 m 197 ls [])) → W p l e rm_R_held s m args below meth c H locs 0 0 Q (F0 m 66 ls []) := by
    intro n
    induction n with
    | zero =>
      intro sR_66 x5_66 x6_66 x8_66 H locs ls i66_0 i66_1 i66_2 i66_3 hn66 hPR hS hl kk
      exact absurd hn66 (Nat.not_lt_zero _)
    | succ n ih =>
      intro sR_66 x5_66 x6_66 x8_66 H locs ls i66_0 i66_1 i66_2 i66_3 hn66 hPR hS hl kk
      have ni66_1 := okR_lin i66_1
      have J_160 : ∀ (sR_160 : St) (x6_160 : Int64) (x8_160 : Int32) (x10_160 : Int64) (H : Heap) (locs : List Loc) (ls : Array Slot), okR sR_160 → 0 ≤ x8_160.toInt ∧ x8_160.toInt < x5_66.toInt → (x5_66.toInt - x8_160.toInt).toNat < n + 1 → va_P D vwCl (cellR cI g sR_160 vR) H → va_S (wA g 0 16) s.heap H locs → lv_has ls 15 [(0, .ref (g 0)), (1, .int p1), (2, .int p2), (3, .int p3), (4, .int p4), (5, .int x5_66), (6, .long x6_160), (8, .int x8_160), (10, .long x10_160)] → (g_R_held_66 p1 p2 p3 p4 x5_66) (sR_66, x6_66, x8_66) = b_R_held_160 sR_160 p1 p2 p3 p4 x5_66 x6_160 x8_160 x10_160 → W p l e rm_R_held s m args below meth c H locs 0 0 Q (F0 m 160 ls []) := by
        intro sR_160 x6_160 x8_160 x10_160 H locs ls i160_0 i160_1 i160_2 hPR hS hl hM
        have ni160_0 := okR_lin i160_0
        refine lv_lload hx hb dX5_held_160 (lv_at hl 6 rfl) ?_
        refine lv_lload hx hb dX5_held_162 (lv_at hl 8 rfl) ?_
        refine lv_lconst (v := 0) hx hb dX5_held_164 (by decide) ?_
        refine W.lcmp hx hb dX5_held_165 ?_
        refine lv_if_le (tgt := 183) hx hb dX5_held_166 (by decide) (fun c_6 => ?_) (fun c_6 => ?_)
        · have hM := hM.trans (if_pos c_6)
          refine lv_lconst (v := 0) hx hb dX5_held_183 (by decide) ?_
          refine lv_ladd hx hb dX5_held_184 ?_
          refine lv_lstore (lv' := [(6, .long (x6_160 + 0)), (0, .ref (g 0)), (1, .int p1), (2, .int p2), (3, .int p3), (4, .int p4), (5, .int x5_66), (8, .int x8_160), (10, .long x10_160)]) hx hb dX5_held_185 hl (by decide) rfl (fun ls hl => ?_)
          refine lv_aload_n hx hb dX5_held_187 rfl (lv_at hl 1 rfl) ?_
          refine runW_v (va_runV (As := []) (rest := []) ⟨hx, hb, hml, hown, hts⟩ (K_R_giveBack hg sR_160 vR) (cwV 0 hts gX5_held_X5_giveBack rfl rfl rfl (by decide +kernel) ⟨Nat.le_of_ble_eq_true rfl, Nat.le_of_ble_eq_true rfl⟩) (preV_of hE hA hS hPR (va_recv hE.1 hPR (ci := 5) (q0 := 0) rfl rfl)) rfl rfl hl.1 rfl (lv_room (Nat.le_of_ble_eq_true rfl)) dX5_held_188 ⟨Nat.zero_le _, Nat.zero_le _⟩) hS (fun _ h9 => h9) (fun H locs hQ hk hS => ?_)
          have hPR : va_P D vwCl (cellR cI g (m_R_giveBack sR_160) vR) H := hQ
          have v7 : okR (m_R_giveBack sR_160) := okR_giveBack (by assumption)
          have w7_3 : ((m_R_giveBack sR_160) 0 3).toInt = (sR_160 0 3).toInt := congrArg Int32.toInt (fr_R_giveBack (by omega))
          have w7_6 : ((m_R_giveBack sR_160) 0 6).toInt = (sR_160 0 6).toInt := congrArg Int32.toInt (fr_R_giveBack (by omega))
          have w7_7 : ((m_R_giveBack sR_160) 0 7).toInt = (sR_160 0 7).toInt := congrArg Int32.toInt (fr_R_giveBack (by omega))
          have w7_11 : ((m_R_giveBack sR_160) 0 11).toInt = (sR_160 0 11).toInt := congrArg Int32.toInt (fr_R_giveBack (by omega))
          have w7_16 : ((m_R_giveBack sR_160) 0 16).toInt = (sR_160 0 16).toInt := congrArg Int32.toInt (fr_R_giveBack (by omega))
          refine lv_iinc (v := (x8_160 + 1)) (lv' := [(8, .int (x8_160 + 1)), (6, .long (x6_160 + 0)), (0, .ref (g 0)), (1, .int p1), (2, .int p2), (3, .int p3), (4, .int p4), (5, .int x5_66), (10, .long x10_160)]) hx hb dX5_held_191 hl (k := 7) rfl rfl (by decide) rfl (fun ls hl => ?_)
          refine lv_goto (tgt := 66) hx hb dX5_held_194 (by decide) ?_
          have := t_inc (x := x8_160) (by omega)
          rw [wl_some hM] at kk
          exact ih (m_R_giveBack sR_160) x5_66 (x6_160 + 0) (x8_160 + 1) H locs ls (by omega) (by assumption) (by omega) (by omega) (by omega) hPR hS (lv_sub hl [2, 3, 4, 5, 6, 7, 1, 0] rfl) kk
        · have hM := hM.trans (if_neg c_6)
          refine lv_aload_n hx hb dX5_held_169 rfl (lv_at hl 0 rfl) ?_
          refine runS_i (va_runV (As := []) (rest := [.long x6_160]) ⟨hx, hb, hml, hown, hts⟩ (K_R_open hg sR_160 vR (by assumption)) (cwV 0 hts gX5_held_X5_open rfl rfl rfl (by decide +kernel) ⟨Nat.le_of_ble_eq_true rfl, Nat.le_of_ble_eq_true rfl⟩) (preV_of hE hA hS hPR (va_recv hE.1 hPR (ci := 5) (q0 := 0) rfl rfl)) rfl rfl hl.1 rfl (lv_room (Nat.le_of_ble_eq_true rfl)) dX5_held_170 ⟨Nat.zero_le _, Nat.zero_le _⟩) ?_
          refine lv_bipush (v := (-9)) hx hb dX5_held_173 (by decide) ?_
          refine lv_icmp_ne (tgt := 183) hx hb dX5_held_175 (by decide) (fun c_8 => ?_) (fun c_8 => ?_)
          · have hM := hM.trans (if_neg c_8)
            have t_8 := ne_t c_8
            rw [tl_m9] at t_8
            refine lv_lconst (v := 0) hx hb dX5_held_183 (by decide) ?_
            refine lv_ladd hx hb dX5_held_184 ?_
            refine lv_lstore (lv' := [(6, .long (x6_160 + 0)), (0, .ref (g 0)), (1, .int p1), (2, .int p2), (3, .int p3), (4, .int p4), (5, .int x5_66), (8, .int x8_160), (10, .long x10_160)]) hx hb dX5_held_185 hl (by decide) rfl (fun ls hl => ?_)
            refine lv_aload_n hx hb dX5_held_187 rfl (lv_at hl 1 rfl) ?_
            refine runW_v (va_runV (As := []) (rest := []) ⟨hx, hb, hml, hown, hts⟩ (K_R_giveBack hg sR_160 vR) (cwV 0 hts gX5_held_X5_giveBack rfl rfl rfl (by decide +kernel) ⟨Nat.le_of_ble_eq_true rfl, Nat.le_of_ble_eq_true rfl⟩) (preV_of hE hA hS hPR (va_recv hE.1 hPR (ci := 5) (q0 := 0) rfl rfl)) rfl rfl hl.1 rfl (lv_room (Nat.le_of_ble_eq_true rfl)) dX5_held_188 ⟨Nat.zero_le _, Nat.zero_le _⟩) hS (fun _ h9 => h9) (fun H locs hQ hk hS => ?_)
            have hPR : va_P D vwCl (cellR cI g (m_R_giveBack sR_160) vR) H := hQ
            have v9 : okR (m_R_giveBack sR_160) := okR_giveBack (by assumption)
            have w9_3 : ((m_R_giveBack sR_160) 0 3).toInt = (sR_160 0 3).toInt := congrArg Int32.toInt (fr_R_giveBack (by omega))
            have w9_6 : ((m_R_giveBack sR_160) 0 6).toInt = (sR_160 0 6).toInt := congrArg Int32.toInt (fr_R_giveBack (by omega))
            have w9_7 : ((m_R_giveBack sR_160) 0 7).toInt = (sR_160 0 7).toInt := congrArg Int32.toInt (fr_R_giveBack (by omega))
            have w9_11 : ((m_R_giveBack sR_160) 0 11).toInt = (sR_160 0 11).toInt := congrArg Int32.toInt (fr_R_giveBack (by omega))
            have w9_16 : ((m_R_giveBack sR_160) 0 16).toInt = (sR_160 0 16).toInt := congrArg Int32.toInt (fr_R_giveBack (by omega))
            refine lv_iinc (v := (x8_160 + 1)) (lv' := [(8, .int (x8_160 + 1)), (6, .long (x6_160 + 0)), (0, .ref (g 0)), (1, .int p1), (2, .int p2), (3, .int p3), (4, .int p4), (5, .int x5_66), (10, .long x10_160)]) hx hb dX5_held_191 hl (k := 7) rfl rfl (by decide) rfl (fun ls hl => ?_)
            refine lv_goto (tgt := 66) hx hb dX5_held_194 (by decide) ?_
            have := t_inc (x := x8_160) (by omega)
            rw [wl_some hM] at kk
            exact ih (m_R_giveBack sR_160) x5_66 (x6_160 + 0) (x8_160 + 1) H locs ls (by omega) (by assumption) (by omega) (by omega) (by omega) hPR hS (lv_sub hl [2, 3, 4, 5, 6, 7, 1, 0] rfl) kk
          · have hM := hM.trans (if_pos c_8)
            have t_8 := eq_t c_8
            rw [tl_m9] at t_8
            refine lv_lload hx hb dX5_held_178 (lv_at hl 8 rfl) ?_
            refine lv_goto (tgt := 184) hx hb dX5_held_180 (by decide) ?_
            refine lv_ladd hx hb dX5_held_184 ?_
            refine lv_lstore (lv' := [(6, .long (x6_160 + x10_160)), (0, .ref (g 0)), (1, .int p1), (2, .int p2), (3, .int p3), (4, .int p4), (5, .int x5_66), (8, .int x8_160), (10, .long x10_160)]) hx hb dX5_held_185 hl (by decide) rfl (fun ls hl => ?_)
            refine lv_aload_n hx hb dX5_held_187 rfl (lv_at hl 1 rfl) ?_
            refine runW_v (va_runV (As := []) (rest := []) ⟨hx, hb, hml, hown, hts⟩ (K_R_giveBack hg sR_160 vR) (cwV 0 hts gX5_held_X5_giveBack rfl rfl rfl (by decide +kernel) ⟨Nat.le_of_ble_eq_true rfl, Nat.le_of_ble_eq_true rfl⟩) (preV_of hE hA hS hPR (va_recv hE.1 hPR (ci := 5) (q0 := 0) rfl rfl)) rfl rfl hl.1 rfl (lv_room (Nat.le_of_ble_eq_true rfl)) dX5_held_188 ⟨Nat.zero_le _, Nat.zero_le _⟩) hS (fun _ h9 => h9) (fun H locs hQ hk hS => ?_)
            have hPR : va_P D vwCl (cellR cI g (m_R_giveBack sR_160) vR) H := hQ
            have v10 : okR (m_R_giveBack sR_160) := okR_giveBack (by assumption)
            have w10_3 : ((m_R_giveBack sR_160) 0 3).toInt = (sR_160 0 3).toInt := congrArg Int32.toInt (fr_R_giveBack (by omega))
            have w10_6 : ((m_R_giveBack sR_160) 0 6).toInt = (sR_160 0 6).toInt := congrArg Int32.toInt (fr_R_giveBack (by omega))
            have w10_7 : ((m_R_giveBack sR_160) 0 7).toInt = (sR_160 0 7).toInt := congrArg Int32.toInt (fr_R_giveBack (by omega))
            have w10_11 : ((m_R_giveBack sR_160) 0 11).toInt = (sR_160 0 11).toInt := congrArg Int32.toInt (fr_R_giveBack (by omega))
            have w10_16 : ((m_R_giveBack sR_160) 0 16).toInt = (sR_160 0 16).toInt := congrArg Int32.toInt (fr_R_giveBack (by omega))
            refine lv_iinc (v := (x8_160 + 1)) (lv' := [(8, .int (x8_160 + 1)), (6, .long (x6_160 + x10_160)), (0, .ref (g 0)), (1, .int p1), (2, .int p2), (3, .int p3), (4, .int p4), (5, .int x5_66), (10, .long x10_160)]) hx hb dX5_held_191 hl (k := 7) rfl rfl (by decide) rfl (fun ls hl => ?_)
            refine lv_goto (tgt := 66) hx hb dX5_held_194 (by decide) ?_
            have := t_inc (x := x8_160) (by omega)
            rw [wl_some hM] at kk
            exact ih (m_R_giveBack sR_160) x5_66 (x6_160 + x10_160) (x8_160 + 1) H locs ls (by omega) (by assumption) (by omega) (by omega) (by omega) hPR hS (lv_sub hl [2, 3, 4, 5, 6, 7, 1, 0] rfl) kk
      have hM : (g_R_held_66 p1 p2 p3 p4 x5_66) (sR_66, x6_66, x8_66) = (g_R_held_66 p1 p2 p3 p4 x5_66) (sR_66, x6_66, x8_66) := rfl
      refine lv_iload hx hb dX5_held_66 (lv_at hl 7 rfl) ?_
      refine lv_iload hx hb dX5_held_68 (lv_at hl 5 rfl) ?_
      refine lv_icmp_ge (tgt := 197) hx hb dX5_held_70 (by decide) (fun c_11 => ?_) (fun c_11 => ?_)
      · have hM := hM.trans (if_pos c_11)
        have t_11 := le_t c_11
        rw [wl_none hM] at kk
        try dsimp only at kk
        exact kk H locs ls (by omega) (by assumption) (by omega) (by omega) hPR hS (lv_sub hl [6] rfl)
      · have hM := hM.trans (if_neg c_11)
        have t_11 := nle_t c_11
        refine lv_iload hx hb dX5_held_73 (lv_at hl 7 rfl) ?_
        refine lv_istore (lv' := [(9, .int x8_66), (0, .ref (g 0)), (1, .int p1), (2, .int p2), (3, .int p3), (4, .int p4), (5, .int x5_66), (6, .long x6_66), (8, .int x8_66)]) hx hb dX5_held_75 hl (by decide) rfl (fun ls hl => ?_)
        refine lv_lconst (v := 1) hx hb dX5_held_77 (by decide) ?_
        refine lv_lstore (lv' := [(10, .long 1), (9, .int x8_66), (0, .ref (g 0)), (1, .int p1), (2, .int p2), (3, .int p3), (4, .int p4), (5, .int x5_66), (6, .long x6_66), (8, .int x8_66)]) hx hb dX5_held_78 hl (by decide) rfl (fun ls hl => ?_)
        refine lv_iconst (v := 0) hx hb dX5_held_80 (by decide) ?_
        refine lv_istore (lv' := [(12, .int 0), (10, .long 1), (9, .int x8_66), (0, .ref (g 0)), (1, .int p1), (2, .int p2), (3, .int p3), (4, .int p4), (5, .int x5_66), (6, .long x6_66), (8, .int x8_66)]) hx hb dX5_held_81 hl (by decide) rfl (fun ls hl => ?_)
        have z12 := tl_0
        refine L_83 5 sR_66 x5_66 x6_66 x8_66 x8_66 1 0 H locs ls (by omega) (by assumption) (by omega) (by omega) (by omega) hPR hS (lv_sub hl [3, 4, 5, 6, 7, 8, 9, 10, 2, 1, 0] rfl) (fun H locs ls k0 k1 k2 k3 hPR hS hl => ?_)
        have nk1 := okR_lin k1
        exact J_160 (wl (g_R_held_83 p1 p2 p3 p4) 5 (sR_66, x8_66, 1, 0)).1 x6_66 x8_66 (wl (g_R_held_83 p1 p2 p3 p4) 5 (sR_66, x8_66, 1, 0)).2.2.1 H locs ls (by assumption) (by omega) (by omega) hPR hS (lv_sub hl [0, 1, 2, 3, 4, 5, 6, 7, 8] rfl) hM
  have J_197 : ∀ (sR_197 : St) (x6_197 : Int64) (H : Heap) (locs : List Loc) (ls : Array Slot), va_P D vwCl (cellR cI g sR_197 vR) H → va_S (wA g 0 16) s.heap H locs → lv_has ls 15 [(6, .long x6_197)] → (m_R_held sR p1 p2 p3 p4) = b_R_held_197 sR_197 x6_197 → W p l e rm_R_held s m args below meth c H locs 0 0 Q (F0 m 197 ls []) := by
    intro sR_197 x6_197 H locs ls hPR hS hl hM
    refine lv_lload hx hb dX5_held_197 (lv_at hl 0 rfl) ?_
    have hM : (m_R_held sR p1 p2 p3 p4) = ((x6_197, sR_197) : Int64 × St) := hM
    exact hret x6_197 H locs _ ls dX5_held_199 (ret1 hM) (rP_v1 (P := fun (z0 : St) => va_P D vwCl (cellR cI g z0 vR) H) hM hPR) hS
  have J_56 : ∀ (sR_56 : St) (x5_56 : Int32) (H : Heap) (locs : List Loc) (ls : Array Slot), 1 ≤ x5_56.toInt ∧ x5_56.toInt ≤ 6561 → 1 ≤ p4.toInt ∧ p4.toInt ≤ 4 → okR sR_56 → va_P D vwCl (cellR cI g sR_56 vR) H → va_S (wA g 0 16) s.heap H locs → lv_has ls 15 [(0, .ref (g 0)), (1, .int p1), (2, .int p2), (3, .int p3), (4, .int p4), (5, .int x5_56)] → (m_R_held sR p1 p2 p3 p4) = b_R_held_56 sR_56 p1 p2 p3 p4 x5_56 → W p l e rm_R_held s m args below meth c H locs 0 0 Q (F0 m 56 ls []) := by
    intro sR_56 x5_56 H locs ls i56_0 i56_1 i56_2 hPR hS hl hM
    have ni56_2 := okR_lin i56_2
    refine lv_aload_n hx hb dX5_held_56 rfl (lv_at hl 0 rfl) ?_
    refine runW_v (va_runV (As := []) (rest := []) ⟨hx, hb, hml, hown, hts⟩ (K_R_keep hg sR_56 vR) (cwV 0 hts gX5_held_X5_keep rfl rfl rfl (by decide +kernel) ⟨Nat.le_of_ble_eq_true rfl, Nat.le_of_ble_eq_true rfl⟩) (preV_of hE hA hS hPR (va_recv hE.1 hPR (ci := 5) (q0 := 0) rfl rfl)) rfl rfl hl.1 rfl (lv_room (Nat.le_of_ble_eq_true rfl)) dX5_held_57 ⟨Nat.zero_le _, Nat.zero_le _⟩) hS (fun _ h9 => h9) (fun H locs hQ hk hS => ?_)
    have hPR : va_P D vwCl (cellR cI g (m_R_keep sR_56) vR) H := hQ
    have v13 : okR (m_R_keep sR_56) := okR_keep (by assumption)
    have w13_3 : ((m_R_keep sR_56) 0 3).toInt = (sR_56 0 3).toInt := congrArg Int32.toInt (fr_R_keep (by omega))
    have w13_6 : ((m_R_keep sR_56) 0 6).toInt = (sR_56 0 6).toInt := congrArg Int32.toInt (fr_R_keep (by omega))
    have w13_7 : ((m_R_keep sR_56) 0 7).toInt = (sR_56 0 7).toInt := congrArg Int32.toInt (fr_R_keep (by omega))
    have w13_11 : ((m_R_keep sR_56) 0 11).toInt = (sR_56 0 11).toInt := congrArg Int32.toInt (fr_R_keep (by omega))
    have w13_16 : ((m_R_keep sR_56) 0 16).toInt = (sR_56 0 16).toInt := congrArg Int32.toInt (fr_R_keep (by omega))
    refine lv_lconst (v := 0) hx hb dX5_held_60 (by decide) ?_
    refine lv_lstore (lv' := [(6, .long 0), (0, .ref (g 0)), (1, .int p1), (2, .int p2), (3, .int p3), (4, .int p4), (5, .int x5_56)]) hx hb dX5_held_61 hl (by decide) rfl (fun ls hl => ?_)
    refine lv_iconst (v := 0) hx hb dX5_held_63 (by decide) ?_
    refine lv_istore (lv' := [(8, .int 0), (6, .long 0), (0, .ref (g 0)), (1, .int p1), (2, .int p2), (3, .int p3), (4, .int p4), (5, .int x5_56)]) hx hb dX5_held_64 hl (by decide) rfl (fun ls hl => ?_)
    have z14 := tl_0
    refine L_66 6562 (m_R_keep sR_56) x5_56 0 0 H locs ls (by omega) (by assumption) (by omega) (by omega) (by omega) hPR hS (lv_sub hl [2, 3, 4, 5, 6, 7, 1, 0] rfl) (fun H locs ls k0 k1 k2 k3 hPR hS hl => ?_)
    have nk1 := okR_lin k1
    exact J_197 (wl (g_R_held_66 p1 p2 p3 p4 x5_56) 6562 ((m_R_keep sR_56), 0, 0)).1 (wl (g_R_held_66 p1 p2 p3 p4 x5_56) 6562 ((m_R_keep sR_56), 0, 0)).2.1 H locs ls hPR hS (lv_sub hl [0] rfl) hM
  have hM : (m_R_held sR p1 p2 p3 p4) = (m_R_held sR p1 p2 p3 p4) := rfl
  refine lv_aload_n hx hb dX5_held_0 rfl (lv_at hl 0 rfl) ?_
  refine lv_iload_n hx hb dX5_held_1 rfl (lv_at hl 1 rfl) ?_
  refine lv_iload_n hx hb dX5_held_2 rfl (lv_at hl 2 rfl) ?_
  refine runS_i (va_runV (As := [.int p1, .int p2]) (rest := []) ⟨hx, hb, hml, hown, hts⟩ (K_R_isCell hg sR vR p1 p2) (cwV 2 hts gX5_held_X5_isCell rfl rfl rfl (by decide +kernel) ⟨Nat.le_of_ble_eq_true rfl, Nat.le_of_ble_eq_true rfl⟩) (preV_of hE hA hS hPR (va_recv hE.1 hPR (ci := 5) (q0 := 0) rfl rfl)) rfl rfl hl.1 rfl (lv_room (Nat.le_of_ble_eq_true rfl)) dX5_held_3 ⟨Nat.zero_le _, Nat.zero_le _⟩) ?_
  refine lv_if_eq (tgt := 26) hx hb dX5_held_6 (by decide) (fun c_15 => ?_) (fun c_15 => ?_)
  · have hM := hM.trans (if_pos c_15)
    have t_15 := eq_t c_15
    rw [tl_0] at t_15
    refine lv_ldc2 (own := RX5) (index := 189) (v := (-1)) hx hb hown (hts (.constantLong RX5 189 (-1)) (List.mem_of_getElem? (i := 1) rfl)) dX5_held_26 ?_
    have hM : (m_R_held sR p1 p2 p3 p4) = (((-1), sR) : Int64 × St) := hM
    exact hret (-1) H locs _ ls dX5_held_29 (ret1 hM) (rP_v1 (P := fun (z0 : St) => va_P D vwCl (cellR cI g z0 vR) H) hM hPR) hS
  · have hM := hM.trans (if_neg c_15)
    have t_15 := ne_t c_15
    rw [tl_0] at t_15
    have u_15 := iscell_t c_15 (by omega) (by omega)
    refine lv_iload_n hx hb dX5_held_9 rfl (lv_at hl 3 rfl) ?_
    refine runS_i (va_runS (As := [.int p3]) (rest := []) ⟨hx, hb, hml, hown, hts⟩ (K_R_isForce p3) (va_cwS 1 hts gX5_held_X5_isForce rfl rfl rfl (by decide +kernel) ⟨Nat.le_of_ble_eq_true rfl, Nat.le_of_ble_eq_true rfl⟩) (preS_of hE hA hS trivial) rfl rfl hl.1 rfl (lv_room (Nat.le_of_ble_eq_true rfl)) dX5_held_10 ⟨Nat.zero_le _, Nat.zero_le _⟩) ?_
    refine lv_if_eq (tgt := 26) hx hb dX5_held_13 (by decide) (fun c_16 => ?_) (fun c_16 => ?_)
    · have hM := hM.trans (if_pos c_16)
      have t_16 := eq_t c_16
      rw [tl_0] at t_16
      refine lv_ldc2 (own := RX5) (index := 189) (v := (-1)) hx hb hown (hts (.constantLong RX5 189 (-1)) (List.mem_of_getElem? (i := 1) rfl)) dX5_held_26 ?_
      have hM : (m_R_held sR p1 p2 p3 p4) = (((-1), sR) : Int64 × St) := hM
      exact hret (-1) H locs _ ls dX5_held_29 (ret1 hM) (rP_v1 (P := fun (z0 : St) => va_P D vwCl (cellR cI g z0 vR) H) hM hPR) hS
    · have hM := hM.trans (if_neg c_16)
      have t_16 := ne_t c_16
      rw [tl_0] at t_16
      have u_16 := isforce_t c_16
      refine lv_iload hx hb dX5_held_16 (lv_at hl 4 rfl) ?_
      refine lv_iconst (v := 1) hx hb dX5_held_18 (by decide) ?_
      refine lv_iconst (v := 4) hx hb dX5_held_19 (by decide) ?_
      refine runS_i (va_runS (As := [.int p4, .int 1, .int 4]) (rest := []) ⟨hx, hb, hml, hown, hts⟩ (K_R_in p4 1 4) (va_cwS 3 hts gX5_held_X5_in rfl rfl rfl (by decide +kernel) ⟨Nat.le_of_ble_eq_true rfl, Nat.le_of_ble_eq_true rfl⟩) (preS_of hE hA hS trivial) rfl rfl hl.1 rfl (lv_room (Nat.le_of_ble_eq_true rfl)) dX5_held_20 ⟨Nat.zero_le _, Nat.zero_le _⟩) ?_
      refine lv_if_ne (tgt := 30) hx hb dX5_held_23 (by decide) (fun c_17 => ?_) (fun c_17 => ?_)
      · have hM := hM.trans (if_neg c_17)
        have t_17 := ne_t c_17
        rw [tl_0] at t_17
        have u_17 := in_t c_17
        rw [tl_1, tl_4] at u_17
        refine lv_iconst (v := 1) hx hb dX5_held_30 (by decide) ?_
        refine lv_istore (lv' := [(5, .int 1), (0, .ref (g 0)), (1, .int p1), (2, .int p2), (3, .int p3), (4, .int p4)]) hx hb dX5_held_31 hl (by decide) rfl (fun ls hl => ?_)
        refine lv_iconst (v := 0) hx hb dX5_held_33 (by decide) ?_
        refine lv_istore (lv' := [(6, .int 0), (5, .int 1), (0, .ref (g 0)), (1, .int p1), (2, .int p2), (3, .int p3), (4, .int p4)]) hx hb dX5_held_34 hl (by decide) rfl (fun ls hl => ?_)
        have z18 := tl_0
        have z19 := tl_1
        refine L_36 5 sR 1 0 H locs ls (by omega) (by omega) (by omega) (by omega) hPR hS (lv_sub hl [2, 3, 4, 5, 6, 1, 0] rfl) (fun H locs ls k0 k1 k2 hPR hS hl => ?_)
        exact J_56 sR (wl (g_R_held_36 sR p4) 5 (1, 0)).1 H locs ls (by omega) (by omega) (by assumption) hPR hS (lv_sub hl [0, 1, 2, 3, 4, 5] rfl) hM
      · have hM := hM.trans (if_pos c_17)
        have t_17 := eq_t c_17
        rw [tl_0] at t_17
        refine lv_ldc2 (own := RX5) (index := 189) (v := (-1)) hx hb hown (hts (.constantLong RX5 189 (-1)) (List.mem_of_getElem? (i := 1) rfl)) dX5_held_26 ?_
        have hM : (m_R_held sR p1 p2 p3 p4) = (((-1), sR) : Int64 × St) := hM
        exact hret (-1) H locs _ ls dX5_held_29 (ret1 hM) (rP_v1 (P := fun (z0 : St) => va_P D vwCl (cellR cI g z0 vR) H) hM hPR) hS
abbrev rm_R_wound : Room := { frames := 0, cells := 0, slots := 0, locals := 0 }
set_option maxHeartbeats 4000000 in
set_option maxRecDepth 100000 in
theorem K_R_wound {l : Launch} {D : va_G} {cI : ClassId} {lo : Nat} {g : Nat → Nat} (hg : wI g 0 16 lo) (sR : St) (vR : Int64) : WRi l D cI lo yX5_wound wsX5_wound rm_R_wound [.ref (g 0)] (fun H => va_P D vwCl (cellR cI g sR vR) H) (m_R_wound sR).1 (fun H => va_P D vwCl (cellR cI g (m_R_wound sR).2 vR) H) (wA g 0 16) := by
  refine ofW_WRi (cc := cX5_wound) (maxL := 1) (ty := .int) (by decide +kernel) rfl (Nat.le_of_ble_eq_true rfl) ?_
  intro p e s m args below meth c Q hx hb hml hown hts hE hP hret ls hl
  have hown : s.vm.findClass RX5 = some m.cls := hown
  have hPR := hP
  have hA := wA.lo hg
  have hS : va_S (wA g 0 16) s.heap s.heap [] := va_S.rf
  obtain ⟨H, hH⟩ : ∃ z, z = s.heap := ⟨_, rfl⟩
  obtain ⟨locs, hlocs⟩ : ∃ z : List Loc, z = [] := ⟨_, rfl⟩
  have hPR : va_P D vwCl (cellR cI g sR vR) H := by rw [hH]; exact hPR
  have hS : va_S (wA g 0 16) s.heap H locs := by rw [hH, hlocs]; exact va_S.rf
  have gW : W p l e rm_R_wound s m args below meth c H locs 0 0 Q (F0 m 0 ls []) → W p l e rm_R_wound s m args below meth c s.heap [] 0 0 Q (F0 m 0 ls []) := by rw [hH, hlocs]; exact id
  refine gW ?_
  have hinR : ∀ w ∈ wsX50, w ∈ wsX5_wound := fun w h => List.mem_cons_of_mem _ (List.mem_append_right _ h)
  have hl : lv_has ls 1 [(0, .ref (g 0))] := hl
  have hM : (m_R_wound sR) = (m_R_wound sR) := rfl
  refine lv_aload_n hx hb dX5_wound_0 rfl (lv_at hl 0 rfl) ?_
  refine va_get (D := D) (ci := 5) (v := .int (sR 0 13)) (C := RX5) (T := TX5) (N := 33) hx hb hts hinR hown hE.1 hPR 0 rfl rfl 13 (by decide) (hts (.fieldLink RX5 82 "WallStonesModel" "state" "I") (List.mem_of_getElem? (i := 1) rfl)) (fun _ h9 => h9) rfl dX5_wound_1 ?_
  refine lv_if_eq (tgt := 10) hx hb dX5_wound_4 (by decide) (fun c_1 => ?_) (fun c_1 => ?_)
  · have hM := hM.trans (if_pos c_1)
    refine lv_aload_n hx hb dX5_wound_10 rfl (lv_at hl 0 rfl) ?_
    refine lv_iconst (v := 1) hx hb dX5_wound_11 (by decide) ?_
    refine va_put (D := D) (ci := 5) (v := .int 1) (ty := .int) (C := RX5) (T := TX5) (N := 33) hx hb hts hinR tyX5 tyX5_ok nmX5 hown hE.1 hPR (wD_of hg (c := 0) (n := 16) (by decide) (by decide) rfl) hS 0 rfl rfl 13 (by decide) (hts (.fieldLink RX5 82 "WallStonesModel" "state" "I") (List.mem_of_getElem? (i := 1) rfl)) (fun _ h9 => h9) rfl (by decide +kernel) rfl rfl (Nat.le_of_ble_eq_true rfl) dX5_wound_12 (fun H locs hPn _ hS => ?_)
    have hPR : va_P D vwCl (cellR cI g (up sR 0 13 1) vR) H := (congrArg (fun z => va_P D vwCl z H) putR_R13).mp hPn
    refine lv_aload_n hx hb dX5_wound_15 rfl (lv_at hl 0 rfl) ?_
    refine va_get (D := D) (ci := 5) (v := .int 1) (C := RX5) (T := TX5) (N := 33) hx hb hts hinR hown hE.1 hPR 0 rfl rfl 13 (by decide) (hts (.fieldLink RX5 82 "WallStonesModel" "state" "I") (List.mem_of_getElem? (i := 1) rfl)) (fun _ h9 => h9) rfl dX5_wound_16 ?_
    have hM : (m_R_wound sR) = ((1, (up sR 0 13 1)) : Int32 × St) := hM
    exact hret 1 H locs _ ls (nr_i _) dX5_wound_19 (ret1 hM) (rP_v1 (P := fun (z0 : St) => va_P D vwCl (cellR cI g z0 vR) H) hM hPR) hS
  · have hM := hM.trans (if_neg c_1)
    refine lv_bipush (v := (-2)) hx hb dX5_wound_7 (by decide) ?_
    have hM : (m_R_wound sR) = (((-2), sR) : Int32 × St) := hM
    exact hret (-2) H locs _ ls (nr_i _) dX5_wound_9 (ret1 hM) (rP_v1 (P := fun (z0 : St) => va_P D vwCl (cellR cI g z0 vR) H) hM hPR) hS
abbrev rm_R_sling : Room := { frames := 0, cells := 0, slots := 0, locals := 0 }
set_option maxHeartbeats 4000000 in
set_option maxRecDepth 100000 in
theorem K_R_sling {l : Launch} {D : va_G} {cI : ClassId} {lo : Nat} {g : Nat → Nat} (hg : wI g 0 16 lo) (sR : St) (vR : Int64) : WRi l D cI lo yX5_sling wsX5_sling rm_R_sling [.ref (g 0)] (fun H => va_P D vwCl (cellR cI g sR vR) H) (m_R_sling sR).1 (fun H => va_P D vwCl (cellR cI g (m_R_sling sR).2 vR) H) (wA g 0 16) := by
  refine ofW_WRi (cc := cX5_sling) (maxL := 1) (ty := .int) (by decide +kernel) rfl (Nat.le_of_ble_eq_true rfl) ?_
  intro p e s m args below meth c Q hx hb hml hown hts hE hP hret ls hl
  have hown : s.vm.findClass RX5 = some m.cls := hown
  have hPR := hP
  have hA := wA.lo hg
  have hS : va_S (wA g 0 16) s.heap s.heap [] := va_S.rf
  obtain ⟨H, hH⟩ : ∃ z, z = s.heap := ⟨_, rfl⟩
  obtain ⟨locs, hlocs⟩ : ∃ z : List Loc, z = [] := ⟨_, rfl⟩
  have hPR : va_P D vwCl (cellR cI g sR vR) H := by rw [hH]; exact hPR
  have hS : va_S (wA g 0 16) s.heap H locs := by rw [hH, hlocs]; exact va_S.rf
  have gW : W p l e rm_R_sling s m args below meth c H locs 0 0 Q (F0 m 0 ls []) → W p l e rm_R_sling s m args below meth c s.heap [] 0 0 Q (F0 m 0 ls []) := by rw [hH, hlocs]; exact id
  refine gW ?_
  have hinR : ∀ w ∈ wsX50, w ∈ wsX5_sling := fun w h => List.mem_cons_of_mem _ (List.mem_append_right _ h)
  have hl : lv_has ls 1 [(0, .ref (g 0))] := hl
  have hM : (m_R_sling sR) = (m_R_sling sR) := rfl
  refine lv_aload_n hx hb dX5_sling_0 rfl (lv_at hl 0 rfl) ?_
  refine va_get (D := D) (ci := 5) (v := .int (sR 0 13)) (C := RX5) (T := TX5) (N := 33) hx hb hts hinR hown hE.1 hPR 0 rfl rfl 13 (by decide) (hts (.fieldLink RX5 82 "WallStonesModel" "state" "I") (List.mem_of_getElem? (i := 1) rfl)) (fun _ h9 => h9) rfl dX5_sling_1 ?_
  refine lv_iconst (v := 1) hx hb dX5_sling_4 (by decide) ?_
  refine lv_icmp_eq (tgt := 11) hx hb dX5_sling_5 (by decide) (fun c_1 => ?_) (fun c_1 => ?_)
  · have hM := hM.trans (if_pos c_1)
    refine lv_aload_n hx hb dX5_sling_11 rfl (lv_at hl 0 rfl) ?_
    refine lv_iconst (v := 2) hx hb dX5_sling_12 (by decide) ?_
    refine va_put (D := D) (ci := 5) (v := .int 2) (ty := .int) (C := RX5) (T := TX5) (N := 33) hx hb hts hinR tyX5 tyX5_ok nmX5 hown hE.1 hPR (wD_of hg (c := 0) (n := 16) (by decide) (by decide) rfl) hS 0 rfl rfl 13 (by decide) (hts (.fieldLink RX5 82 "WallStonesModel" "state" "I") (List.mem_of_getElem? (i := 1) rfl)) (fun _ h9 => h9) rfl (by decide +kernel) rfl rfl (Nat.le_of_ble_eq_true rfl) dX5_sling_13 (fun H locs hPn _ hS => ?_)
    have hPR : va_P D vwCl (cellR cI g (up sR 0 13 2) vR) H := (congrArg (fun z => va_P D vwCl z H) putR_R13).mp hPn
    refine lv_aload_n hx hb dX5_sling_16 rfl (lv_at hl 0 rfl) ?_
    refine va_get (D := D) (ci := 5) (v := .int 2) (C := RX5) (T := TX5) (N := 33) hx hb hts hinR hown hE.1 hPR 0 rfl rfl 13 (by decide) (hts (.fieldLink RX5 82 "WallStonesModel" "state" "I") (List.mem_of_getElem? (i := 1) rfl)) (fun _ h9 => h9) rfl dX5_sling_17 ?_
    have hM : (m_R_sling sR) = ((2, (up sR 0 13 2)) : Int32 × St) := hM
    exact hret 2 H locs _ ls (nr_i _) dX5_sling_20 (ret1 hM) (rP_v1 (P := fun (z0 : St) => va_P D vwCl (cellR cI g z0 vR) H) hM hPR) hS
  · have hM := hM.trans (if_neg c_1)
    refine lv_bipush (v := (-2)) hx hb dX5_sling_8 (by decide) ?_
    have hM : (m_R_sling sR) = (((-2), sR) : Int32 × St) := hM
    exact hret (-2) H locs _ ls (nr_i _) dX5_sling_10 (ret1 hM) (rP_v1 (P := fun (z0 : St) => va_P D vwCl (cellR cI g z0 vR) H) hM hPR) hS
abbrev rm_R_near : Room := { frames := 1, cells := 0, slots := 0, locals := 22 }
set_option maxHeartbeats 4000000 in
set_option maxRecDepth 100000 in
theorem K_R_near {l : Launch} {D : va_G} {cI : ClassId} {lo : Nat} {g : Nat → Nat} (hg : wI g 0 16 lo) (sR : St) (vR : Int64) (p1 : Int32) : WRi l D cI lo yX5_near wsX5_near rm_R_near [.ref (g 0), .int p1] (fun H => va_P D vwCl (cellR cI g sR vR) H) (m_R_near sR p1).1 (fun H => va_P D vwCl (cellR cI g (m_R_near sR p1).2 vR) H) (wA g 0 16) := by
  refine ofW_WRi (cc := cX5_near) (maxL := 2) (ty := .int) (by decide +kernel) rfl (Nat.le_of_ble_eq_true rfl) ?_
  intro p e s m args below meth c Q hx hb hml hown hts hE hP hret ls hl
  have hown : s.vm.findClass RX5 = some m.cls := hown
  have hPR := hP
  have hA := wA.lo hg
  have hS : va_S (wA g 0 16) s.heap s.heap [] := va_S.rf
  obtain ⟨H, hH⟩ : ∃ z, z = s.heap := ⟨_, rfl⟩
  obtain ⟨locs, hlocs⟩ : ∃ z : List Loc, z = [] := ⟨_, rfl⟩
  have hPR : va_P D vwCl (cellR cI g sR vR) H := by rw [hH]; exact hPR
  have hS : va_S (wA g 0 16) s.heap H locs := by rw [hH, hlocs]; exact va_S.rf
  have gW : W p l e rm_R_near s m args below meth c H locs 0 0 Q (F0 m 0 ls []) → W p l e rm_R_near s m args below meth c s.heap [] 0 0 Q (F0 m 0 ls []) := by rw [hH, hlocs]; exact id
  refine gW ?_
  have hinR : ∀ w ∈ wsX50, w ∈ wsX5_near := fun w h => List.mem_cons_of_mem _ (List.mem_append_right _ h)
  have hl : lv_has ls 2 [(0, .ref (g 0)), (1, .int p1)] := hl
  have hM : (m_R_near sR p1) = (m_R_near sR p1) := rfl
  refine lv_iload_n hx hb dX5_near_0 rfl (lv_at hl 1 rfl) ?_
  refine lv_iconst (v := 0) hx hb dX5_near_1 (by decide) ?_
  refine lv_sipush (v := 200) hx hb dX5_near_2 (by decide) ?_
  refine runS_i (va_runS (As := [.int p1, .int 0, .int 200]) (rest := []) ⟨hx, hb, hml, hown, hts⟩ (K_R_in p1 0 200) (va_cwS 3 hts gX5_near_X5_in rfl rfl rfl (by decide +kernel) ⟨Nat.le_of_ble_eq_true rfl, Nat.le_of_ble_eq_true rfl⟩) (preS_of hE hA hS trivial) rfl rfl hl.1 rfl (lv_room (Nat.le_of_ble_eq_true rfl)) dX5_near_5 ⟨Nat.zero_le _, Nat.zero_le _⟩) ?_
  refine lv_if_ne (tgt := 13) hx hb dX5_near_8 (by decide) (fun c_1 => ?_) (fun c_1 => ?_)
  · have hM := hM.trans (if_neg c_1)
    have u_1 := in_t c_1
    rw [tl_0, tl_200] at u_1
    refine lv_aload_n hx hb dX5_near_13 rfl (lv_at hl 0 rfl) ?_
    refine va_get (D := D) (ci := 5) (v := .int (sR 0 13)) (C := RX5) (T := TX5) (N := 33) hx hb hts hinR hown hE.1 hPR 0 rfl rfl 13 (by decide) (hts (.fieldLink RX5 82 "WallStonesModel" "state" "I") (List.mem_of_getElem? (i := 1) rfl)) (fun _ h9 => h9) rfl dX5_near_14 ?_
    refine lv_iconst (v := 2) hx hb dX5_near_17 (by decide) ?_
    refine lv_icmp_lt (tgt := 34) hx hb dX5_near_18 (by decide) (fun c_2 => ?_) (fun c_2 => ?_)
    · have hM := hM.trans (if_pos c_2)
      refine lv_aload_n hx hb dX5_near_34 rfl (lv_at hl 0 rfl) ?_
      refine va_get (D := D) (ci := 5) (v := .int (sR 0 13)) (C := RX5) (T := TX5) (N := 33) hx hb hts hinR hown hE.1 hPR 0 rfl rfl 13 (by decide) (hts (.fieldLink RX5 82 "WallStonesModel" "state" "I") (List.mem_of_getElem? (i := 1) rfl)) (fun _ h9 => h9) rfl dX5_near_35 ?_
      have hM : (m_R_near sR p1) = (((sR 0 13), sR) : Int32 × St) := hM
      exact hret (sR 0 13) H locs _ ls (nr_i _) dX5_near_38 (ret1 hM) (rP_v1 (P := fun (z0 : St) => va_P D vwCl (cellR cI g z0 vR) H) hM hPR) hS
    · have hM := hM.trans (if_neg c_2)
      refine lv_aload_n hx hb dX5_near_21 rfl (lv_at hl 0 rfl) ?_
      refine lv_iload_n hx hb dX5_near_22 rfl (lv_at hl 1 rfl) ?_
      refine lv_if_ne (tgt := 30) hx hb dX5_near_23 (by decide) (fun c_3 => ?_) (fun c_3 => ?_)
      · have hM := hM.trans (if_neg c_3)
        refine lv_iconst (v := 2) hx hb dX5_near_30 (by decide) ?_
        refine va_put (D := D) (ci := 5) (v := .int 2) (ty := .int) (C := RX5) (T := TX5) (N := 33) hx hb hts hinR tyX5 tyX5_ok nmX5 hown hE.1 hPR (wD_of hg (c := 0) (n := 16) (by decide) (by decide) rfl) hS 0 rfl rfl 13 (by decide) (hts (.fieldLink RX5 82 "WallStonesModel" "state" "I") (List.mem_of_getElem? (i := 1) rfl)) (fun _ h9 => h9) rfl (by decide +kernel) rfl rfl (Nat.le_of_ble_eq_true rfl) dX5_near_31 (fun H locs hPn _ hS => ?_)
        have hPR : va_P D vwCl (cellR cI g (up sR 0 13 2) vR) H := (congrArg (fun z => va_P D vwCl z H) putR_R13).mp hPn
        refine lv_aload_n hx hb dX5_near_34 rfl (lv_at hl 0 rfl) ?_
        refine va_get (D := D) (ci := 5) (v := .int 2) (C := RX5) (T := TX5) (N := 33) hx hb hts hinR hown hE.1 hPR 0 rfl rfl 13 (by decide) (hts (.fieldLink RX5 82 "WallStonesModel" "state" "I") (List.mem_of_getElem? (i := 1) rfl)) (fun _ h9 => h9) rfl dX5_near_35 ?_
        have hM : (m_R_near sR p1) = ((2, (up sR 0 13 2)) : Int32 × St) := hM
        exact hret 2 H locs _ ls (nr_i _) dX5_near_38 (ret1 hM) (rP_v1 (P := fun (z0 : St) => va_P D vwCl (cellR cI g z0 vR) H) hM hPR) hS
      · have hM := hM.trans (if_pos c_3)
        refine lv_iconst (v := 3) hx hb dX5_near_26 (by decide) ?_
        refine lv_goto (tgt := 31) hx hb dX5_near_27 (by decide) ?_
        refine va_put (D := D) (ci := 5) (v := .int 3) (ty := .int) (C := RX5) (T := TX5) (N := 33) hx hb hts hinR tyX5 tyX5_ok nmX5 hown hE.1 hPR (wD_of hg (c := 0) (n := 16) (by decide) (by decide) rfl) hS 0 rfl rfl 13 (by decide) (hts (.fieldLink RX5 82 "WallStonesModel" "state" "I") (List.mem_of_getElem? (i := 1) rfl)) (fun _ h9 => h9) rfl (by decide +kernel) rfl rfl (Nat.le_of_ble_eq_true rfl) dX5_near_31 (fun H locs hPn _ hS => ?_)
        have hPR : va_P D vwCl (cellR cI g (up sR 0 13 3) vR) H := (congrArg (fun z => va_P D vwCl z H) putR_R13).mp hPn
        refine lv_aload_n hx hb dX5_near_34 rfl (lv_at hl 0 rfl) ?_
        refine va_get (D := D) (ci := 5) (v := .int 3) (C := RX5) (T := TX5) (N := 33) hx hb hts hinR hown hE.1 hPR 0 rfl rfl 13 (by decide) (hts (.fieldLink RX5 82 "WallStonesModel" "state" "I") (List.mem_of_getElem? (i := 1) rfl)) (fun _ h9 => h9) rfl dX5_near_35 ?_
        have hM : (m_R_near sR p1) = ((3, (up sR 0 13 3)) : Int32 × St) := hM
        exact hret 3 H locs _ ls (nr_i _) dX5_near_38 (ret1 hM) (rP_v1 (P := fun (z0 : St) => va_P D vwCl (cellR cI g z0 vR) H) hM hPR) hS
  · have hM := hM.trans (if_pos c_1)
    refine lv_iconst (v := (-1)) hx hb dX5_near_11 (by decide) ?_
    have hM : (m_R_near sR p1) = (((-1), sR) : Int32 × St) := hM
    exact hret (-1) H locs _ ls (nr_i _) dX5_near_12 (ret1 hM) (rP_v1 (P := fun (z0 : St) => va_P D vwCl (cellR cI g z0 vR) H) hM hPR) hS
abbrev rm_R_loose : Room := { frames := 4, cells := 0, slots := 0, locals := 92 }
set_option maxHeartbeats 4000000 in
set_option maxRecDepth 100000 in
theorem K_R_loose {l : Launch} {D : va_G} {cI : ClassId} {lo : Nat} {g : Nat → Nat} (hg : wI g 0 16 lo) (sR : St) (vR : Int64) (p1 : Int32) (p2 : Int32) (p3 : Int32) (h0 : okR sR) : WRi l D cI lo yX5_loose wsX5_loose rm_R_loose [.ref (g 0), .int p1, .int p2, .int p3] (fun H => va_P D vwCl (cellR cI g sR vR) H) (m_R_loose sR p1 p2 p3).1 (fun H => va_P D vwCl (cellR cI g (m_R_loose sR p1 p2 p3).2 vR) H) (wA g 0 16) := by
  refine ofW_WRi (cc := cX5_loose) (maxL := 6) (ty := .int) (by decide +kernel) rfl (Nat.le_of_ble_eq_true rfl) ?_
  intro p e s m args below meth c Q hx hb hml hown hts hE hP hret ls hl
  have hown : s.vm.findClass RX5 = some m.cls := hown
  have hPR := hP
  have hA := wA.lo hg
  have hS : va_S (wA g 0 16) s.heap s.heap [] := va_S.rf
  obtain ⟨H, hH⟩ : ∃ z, z = s.heap := ⟨_, rfl⟩
  obtain ⟨locs, hlocs⟩ : ∃ z : List Loc, z = [] := ⟨_, rfl⟩
  have hPR : va_P D vwCl (cellR cI g sR vR) H := by rw [hH]; exact hPR
  have hS : va_S (wA g 0 16) s.heap H locs := by rw [hH, hlocs]; exact va_S.rf
  have gW : W p l e rm_R_loose s m args below meth c H locs 0 0 Q (F0 m 0 ls []) → W p l e rm_R_loose s m args below meth c s.heap [] 0 0 Q (F0 m 0 ls []) := by rw [hH, hlocs]; exact id
  refine gW ?_
  have hinR : ∀ w ∈ wsX50, w ∈ wsX5_loose := fun w h => List.mem_cons_of_mem _ (List.mem_append_right _ h)
  have hl : lv_has ls 6 [(0, .ref (g 0)), (1, .int p1), (2, .int p2), (3, .int p3)] := hl
  have nh0 := okR_lin h0
  have hM : (m_R_loose sR p1 p2 p3) = (m_R_loose sR p1 p2 p3) := rfl
  refine lv_aload_n hx hb dX5_loose_0 rfl (lv_at hl 0 rfl) ?_
  refine lv_iload_n hx hb dX5_loose_1 rfl (lv_at hl 1 rfl) ?_
  refine lv_iload_n hx hb dX5_loose_2 rfl (lv_at hl 2 rfl) ?_
  refine runS_i (va_runV (As := [.int p1, .int p2]) (rest := []) ⟨hx, hb, hml, hown, hts⟩ (K_R_isCell hg sR vR p1 p2) (cwV 2 hts gX5_loose_X5_isCell rfl rfl rfl (by decide +kernel) ⟨Nat.le_of_ble_eq_true rfl, Nat.le_of_ble_eq_true rfl⟩) (preV_of hE hA hS hPR (va_recv hE.1 hPR (ci := 5) (q0 := 0) rfl rfl)) rfl rfl hl.1 rfl (lv_room (Nat.le_of_ble_eq_true rfl)) dX5_loose_3 ⟨Nat.zero_le _, Nat.zero_le _⟩) ?_
  refine lv_if_eq (tgt := 20) hx hb dX5_loose_6 (by decide) (fun c_1 => ?_) (fun c_1 => ?_)
  · have hM := hM.trans (if_pos c_1)
    have t_1 := eq_t c_1
    rw [tl_0] at t_1
    refine lv_iconst (v := (-1)) hx hb dX5_loose_20 (by decide) ?_
    have hM : (m_R_loose sR p1 p2 p3) = (((-1), sR) : Int32 × St) := hM
    exact hret (-1) H locs _ ls (nr_i _) dX5_loose_21 (ret1 hM) (rP_v1 (P := fun (z0 : St) => va_P D vwCl (cellR cI g z0 vR) H) hM hPR) hS
  · have hM := hM.trans (if_neg c_1)
    have t_1 := ne_t c_1
    rw [tl_0] at t_1
    have u_1 := iscell_t c_1 (by omega) (by omega)
    refine lv_iload_n hx hb dX5_loose_9 rfl (lv_at hl 3 rfl) ?_
    refine lv_iconst (v := 0) hx hb dX5_loose_10 (by decide) ?_
    refine lv_sipush (v := 2000) hx hb dX5_loose_11 (by decide) ?_
    refine runS_i (va_runS (As := [.int p3, .int 0, .int 2000]) (rest := []) ⟨hx, hb, hml, hown, hts⟩ (K_R_in p3 0 2000) (va_cwS 3 hts gX5_loose_X5_in rfl rfl rfl (by decide +kernel) ⟨Nat.le_of_ble_eq_true rfl, Nat.le_of_ble_eq_true rfl⟩) (preS_of hE hA hS trivial) rfl rfl hl.1 rfl (lv_room (Nat.le_of_ble_eq_true rfl)) dX5_loose_14 ⟨Nat.zero_le _, Nat.zero_le _⟩) ?_
    refine lv_if_ne (tgt := 22) hx hb dX5_loose_17 (by decide) (fun c_2 => ?_) (fun c_2 => ?_)
    · have hM := hM.trans (if_neg c_2)
      have t_2 := ne_t c_2
      rw [tl_0] at t_2
      have u_2 := in_t c_2
      rw [tl_0, tl_2000] at u_2
      refine lv_aload_n hx hb dX5_loose_22 rfl (lv_at hl 0 rfl) ?_
      refine va_get (D := D) (ci := 5) (v := .int (sR 0 13)) (C := RX5) (T := TX5) (N := 33) hx hb hts hinR hown hE.1 hPR 0 rfl rfl 13 (by decide) (hts (.fieldLink RX5 82 "WallStonesModel" "state" "I") (List.mem_of_getElem? (i := 1) rfl)) (fun _ h9 => h9) rfl dX5_loose_23 ?_
      refine lv_iconst (v := 3) hx hb dX5_loose_26 (by decide) ?_
      refine lv_icmp_ne (tgt := 39) hx hb dX5_loose_27 (by decide) (fun c_3 => ?_) (fun c_3 => ?_)
      · have hM := hM.trans (if_neg c_3)
        have t_3 := ne_t c_3
        rw [tl_3] at t_3
        refine lv_bipush (v := (-2)) hx hb dX5_loose_39 (by decide) ?_
        have hM : (m_R_loose sR p1 p2 p3) = (((-2), sR) : Int32 × St) := hM
        exact hret (-2) H locs _ ls (nr_i _) dX5_loose_41 (ret1 hM) (rP_v1 (P := fun (z0 : St) => va_P D vwCl (cellR cI g z0 vR) H) hM hPR) hS
      · have hM := hM.trans (if_pos c_3)
        have t_3 := eq_t c_3
        rw [tl_3] at t_3
        refine lv_aload_n hx hb dX5_loose_30 rfl (lv_at hl 0 rfl) ?_
        refine va_get (D := D) (ci := 5) (v := .ref (g 8)) (C := RX5) (T := TX5) (N := 33) hx hb hts hinR hown hE.1 hPR 0 rfl rfl 15 (by decide) (hts (.fieldLink RX5 41 "WallStonesModel" "store" "[I") (List.mem_of_getElem? (i := 2) rfl)) (fun _ h9 => h9) rfl dX5_loose_31 ?_
        refine lv_iconst (v := 1) hx hb dX5_loose_34 (by decide) ?_
        refine va_iald hx hb hE.1 hPR 8 0 rfl rfl (vp_in_iff.mpr (by decide)) dX5_loose_35 ?_
        refine W.eq (congrArg (fun z => F0 m 36 ls [.int (sR 16 z)]) cl_1) ?_
        refine lv_if_ne (tgt := 42) hx hb dX5_loose_36 (by decide) (fun c_4 => ?_) (fun c_4 => ?_)
        · have hM := hM.trans (if_neg c_4)
          have t_4 := ne_t c_4
          rw [tl_0] at t_4
          refine lv_aload_n hx hb dX5_loose_42 rfl (lv_at hl 0 rfl) ?_
          refine lv_iconst (v := 0) hx hb dX5_loose_43 (by decide) ?_
          refine va_put (D := D) (ci := 5) (v := .int 0) (ty := .int) (C := RX5) (T := TX5) (N := 33) hx hb hts hinR tyX5 tyX5_ok nmX5 hown hE.1 hPR (wD_of hg (c := 0) (n := 16) (by decide) (by decide) rfl) hS 0 rfl rfl 13 (by decide) (hts (.fieldLink RX5 82 "WallStonesModel" "state" "I") (List.mem_of_getElem? (i := 1) rfl)) (fun _ h9 => h9) rfl (by decide +kernel) rfl rfl (Nat.le_of_ble_eq_true rfl) dX5_loose_44 (fun H locs hPn _ hS => ?_)
          have hPR : va_P D vwCl (cellR cI g (up sR 0 13 0) vR) H := (congrArg (fun z => va_P D vwCl z H) putR_R13).mp hPn
          refine lv_aload_n hx hb dX5_loose_47 rfl (lv_at hl 0 rfl) ?_
          refine va_get (D := D) (ci := 5) (v := .ref (g 8)) (C := RX5) (T := TX5) (N := 33) hx hb hts hinR hown hE.1 hPR 0 rfl rfl 15 (by decide) (hts (.fieldLink RX5 41 "WallStonesModel" "store" "[I") (List.mem_of_getElem? (i := 2) rfl)) (fun _ h9 => h9) rfl dX5_loose_48 ?_
          refine lv_iconst (v := 1) hx hb dX5_loose_51 (by decide) ?_
          refine lv_dup2_11 hx hb dX5_loose_52 rfl rfl ?_
          refine va_iald hx hb hE.1 hPR 8 0 rfl rfl (vp_in_iff.mpr (by decide)) dX5_loose_53 ?_
          refine W.eq (congrArg (fun z => F0 m 54 ls [.int (sR 16 z), .int 1, .ref (g 8)]) cl_1) ?_
          refine lv_iconst (v := 1) hx hb dX5_loose_54 (by decide) ?_
          refine lv_isub hx hb dX5_loose_55 ?_
          refine va_iast hx hb hE.1 hPR (wD_of hg (c := 0) (n := 16) (by decide) (by decide) rfl) hS 8 0 rfl rfl (vp_in_iff.mpr (by decide)) dX5_loose_56 (fun H locs hPn _ hS => ?_)
          rw [cl_1] at hPn
          have hPR : va_P D vwCl (cellR cI g (up (up sR 0 13 0) 16 1 ((sR 16 1) - 1)) vR) H := (congrArg (fun z => va_P D vwCl z H) setR_R16).mp hPn
          refine lv_aload_n hx hb dX5_loose_57 rfl (lv_at hl 0 rfl) ?_
          refine lv_dup hx hb dX5_loose_58 rfl ?_
          refine va_get (D := D) (ci := 5) (v := .int (sR 0 14)) (C := RX5) (T := TX5) (N := 33) hx hb hts hinR hown hE.1 hPR 0 rfl rfl 14 (by decide) (hts (.fieldLink RX5 194 "WallStonesModel" "loosed" "I") (List.mem_of_getElem? (i := 3) rfl)) (fun _ h9 => h9) rfl dX5_loose_59 ?_
          refine lv_iconst (v := 1) hx hb dX5_loose_62 (by decide) ?_
          refine lv_iadd hx hb dX5_loose_63 ?_
          refine va_put (D := D) (ci := 5) (v := .int ((sR 0 14) + 1)) (ty := .int) (C := RX5) (T := TX5) (N := 33) hx hb hts hinR tyX5 tyX5_ok nmX5 hown hE.1 hPR (wD_of hg (c := 0) (n := 16) (by decide) (by decide) rfl) hS 0 rfl rfl 14 (by decide) (hts (.fieldLink RX5 194 "WallStonesModel" "loosed" "I") (List.mem_of_getElem? (i := 3) rfl)) (fun _ h9 => h9) rfl (by decide +kernel) rfl rfl (Nat.le_of_ble_eq_true rfl) dX5_loose_64 (fun H locs hPn _ hS => ?_)
          have hPR : va_P D vwCl (cellR cI g (up (up (up sR 0 13 0) 16 1 ((sR 16 1) - 1)) 0 14 ((sR 0 14) + 1)) vR) H := (congrArg (fun z => va_P D vwCl z H) putR_R14).mp hPn
          refine lv_aload_n hx hb dX5_loose_67 rfl (lv_at hl 0 rfl) ?_
          refine lv_aload_n hx hb dX5_loose_68 rfl (lv_at hl 0 rfl) ?_
          refine va_get (D := D) (ci := 5) (v := .ref (g 1)) (C := RX5) (T := TX5) (N := 33) hx hb hts hinR hown hE.1 hPR 0 rfl rfl 0 (by decide) (hts (.fieldLink RX5 7 "WallStonesModel" "told" "[I") (List.mem_of_getElem? (i := 4) rfl)) (fun _ h9 => h9) rfl dX5_loose_69 ?_
          refine lv_iconst (v := 3) hx hb dX5_loose_72 (by decide) ?_
          refine va_iald hx hb hE.1 hPR 1 0 rfl rfl (vp_in_iff.mpr (by decide)) dX5_loose_73 ?_
          refine W.eq (congrArg (fun z => F0 m 74 ls [.int (sR 1 z), .ref (g 0)]) cl_3) ?_
          refine lv_aload_n hx hb dX5_loose_74 rfl (lv_at hl 0 rfl) ?_
          refine va_get (D := D) (ci := 5) (v := .ref (g 1)) (C := RX5) (T := TX5) (N := 33) hx hb hts hinR hown hE.1 hPR 0 rfl rfl 0 (by decide) (hts (.fieldLink RX5 7 "WallStonesModel" "told" "[I") (List.mem_of_getElem? (i := 4) rfl)) (fun _ h9 => h9) rfl dX5_loose_75 ?_
          refine lv_iconst (v := 4) hx hb dX5_loose_78 (by decide) ?_
          refine va_iald hx hb hE.1 hPR 1 0 rfl rfl (vp_in_iff.mpr (by decide)) dX5_loose_79 ?_
          refine W.eq (congrArg (fun z => F0 m 80 ls [.int (sR 1 z), .int (sR 1 3), .ref (g 0)]) cl_4) ?_
          refine runW_v (va_runV (As := [.int (sR 1 3), .int (sR 1 4)]) (rest := []) ⟨hx, hb, hml, hown, hts⟩ (K_R_step hg (up (up (up sR 0 13 0) 16 1 ((sR 16 1) - 1)) 0 14 ((sR 0 14) + 1)) vR (sR 1 3) (sR 1 4) (by assumption) (by omega)) (cwV 2 hts gX5_loose_X5_step rfl rfl rfl (by decide +kernel) ⟨Nat.le_of_ble_eq_true rfl, Nat.le_of_ble_eq_true rfl⟩) (preV_of hE hA hS hPR (va_recv hE.1 hPR (ci := 5) (q0 := 0) rfl rfl)) rfl rfl hl.1 rfl (lv_room (Nat.le_of_ble_eq_true rfl)) dX5_loose_80 ⟨Nat.zero_le _, Nat.zero_le _⟩) hS (fun _ h9 => h9) (fun H locs hQ hk hS => ?_)
          have hPR : va_P D vwCl (cellR cI g (m_R_step (up (up (up sR 0 13 0) 16 1 ((sR 16 1) - 1)) 0 14 ((sR 0 14) + 1)) (sR 1 3) (sR 1 4)) vR) H := hQ
          have v5 : okR (m_R_step (up (up (up sR 0 13 0) 16 1 ((sR 16 1) - 1)) 0 14 ((sR 0 14) + 1)) (sR 1 3) (sR 1 4)) := okR_step (by assumption)
          have w5_3 : ((m_R_step (up (up (up sR 0 13 0) 16 1 ((sR 16 1) - 1)) 0 14 ((sR 0 14) + 1)) (sR 1 3) (sR 1 4)) 0 3).toInt = ((up (up (up sR 0 13 0) 16 1 ((sR 16 1) - 1)) 0 14 ((sR 0 14) + 1)) 0 3).toInt := congrArg Int32.toInt (fr_R_step (by omega))
          have w5_6 : ((m_R_step (up (up (up sR 0 13 0) 16 1 ((sR 16 1) - 1)) 0 14 ((sR 0 14) + 1)) (sR 1 3) (sR 1 4)) 0 6).toInt = ((up (up (up sR 0 13 0) 16 1 ((sR 16 1) - 1)) 0 14 ((sR 0 14) + 1)) 0 6).toInt := congrArg Int32.toInt (fr_R_step (by omega))
          have w5_7 : ((m_R_step (up (up (up sR 0 13 0) 16 1 ((sR 16 1) - 1)) 0 14 ((sR 0 14) + 1)) (sR 1 3) (sR 1 4)) 0 7).toInt = ((up (up (up sR 0 13 0) 16 1 ((sR 16 1) - 1)) 0 14 ((sR 0 14) + 1)) 0 7).toInt := congrArg Int32.toInt (fr_R_step (by omega))
          have w5_11 : ((m_R_step (up (up (up sR 0 13 0) 16 1 ((sR 16 1) - 1)) 0 14 ((sR 0 14) + 1)) (sR 1 3) (sR 1 4)) 0 11).toInt = ((up (up (up sR 0 13 0) 16 1 ((sR 16 1) - 1)) 0 14 ((sR 0 14) + 1)) 0 11).toInt := congrArg Int32.toInt (fr_R_step (by omega))
          have w5_16 : ((m_R_step (up (up (up sR 0 13 0) 16 1 ((sR 16 1) - 1)) 0 14 ((sR 0 14) + 1)) (sR 1 3) (sR 1 4)) 0 16).toInt = ((up (up (up sR 0 13 0) 16 1 ((sR 16 1) - 1)) 0 14 ((sR 0 14) + 1)) 0 16).toInt := congrArg Int32.toInt (fr_R_step (by omega))
          refine lv_aload_n hx hb dX5_loose_83 rfl (lv_at hl 0 rfl) ?_
          refine va_get (D := D) (ci := 5) (v := .int ((m_R_step (up (up (up sR 0 13 0) 16 1 ((sR 16 1) - 1)) 0 14 ((sR 0 14) + 1)) (sR 1 3) (sR 1 4)) 0 25)) (C := RX5) (T := TX5) (N := 33) hx hb hts hinR hown hE.1 hPR 0 rfl rfl 25 (by decide) (hts (.fieldLink RX5 115 "WallStonesModel" "range" "I") (List.mem_of_getElem? (i := 5) rfl)) (fun _ h9 => h9) rfl dX5_loose_84 ?_
          refine lv_bipush (v := (-9)) hx hb dX5_loose_87 (by decide) ?_
          refine lv_icmp_ne (tgt := 95) hx hb dX5_loose_89 (by decide) (fun c_6 => ?_) (fun c_6 => ?_)
          · have hM := hM.trans (if_neg c_6)
            have t_6 := ne_t c_6
            rw [tl_m9] at t_6
            refine lv_aload_n hx hb dX5_loose_95 rfl (lv_at hl 0 rfl) ?_
            refine va_get (D := D) (ci := 5) (v := .ref (g 1)) (C := RX5) (T := TX5) (N := 33) hx hb hts hinR hown hE.1 hPR 0 rfl rfl 0 (by decide) (hts (.fieldLink RX5 7 "WallStonesModel" "told" "[I") (List.mem_of_getElem? (i := 4) rfl)) (fun _ h9 => h9) rfl dX5_loose_96 ?_
            refine lv_bipush (v := 7) hx hb dX5_loose_99 (by decide) ?_
            refine va_iald hx hb hE.1 hPR 1 0 rfl rfl (vp_in_iff.mpr (by decide)) dX5_loose_101 ?_
            refine W.eq (congrArg (fun z => F0 m 102 ls [.int ((m_R_step (up (up (up sR 0 13 0) 16 1 ((sR 16 1) - 1)) 0 14 ((sR 0 14) + 1)) (sR 1 3) (sR 1 4)) 1 z)]) cl_7) ?_
            refine lv_aload_n hx hb dX5_loose_102 rfl (lv_at hl 0 rfl) ?_
            refine va_get (D := D) (ci := 5) (v := .int ((m_R_step (up (up (up sR 0 13 0) 16 1 ((sR 16 1) - 1)) 0 14 ((sR 0 14) + 1)) (sR 1 3) (sR 1 4)) 0 25)) (C := RX5) (T := TX5) (N := 33) hx hb hts hinR hown hE.1 hPR 0 rfl rfl 25 (by decide) (hts (.fieldLink RX5 115 "WallStonesModel" "range" "I") (List.mem_of_getElem? (i := 5) rfl)) (fun _ h9 => h9) rfl dX5_loose_103 ?_
            refine lv_imul hx hb dX5_loose_106 ?_
            refine lv_sipush (v := 500) hx hb dX5_loose_107 (by decide) ?_
            refine lv_idiv hx hb dX5_loose_110 (by decide) ?_
            refine lv_iconst (v := 1) hx hb dX5_loose_111 (by decide) ?_
            refine lv_iadd hx hb dX5_loose_112 ?_
            refine lv_istore (lv' := [(4, .int (((((m_R_step (up (up (up sR 0 13 0) 16 1 ((sR 16 1) - 1)) 0 14 ((sR 0 14) + 1)) (sR 1 3) (sR 1 4)) 1 7) * ((m_R_step (up (up (up sR 0 13 0) 16 1 ((sR 16 1) - 1)) 0 14 ((sR 0 14) + 1)) (sR 1 3) (sR 1 4)) 0 25)) / 500) + 1)), (0, .ref (g 0)), (1, .int p1), (2, .int p2), (3, .int p3)]) hx hb dX5_loose_113 hl (by decide) rfl (fun ls hl => ?_)
            refine lv_aload_n hx hb dX5_loose_115 rfl (lv_at hl 1 rfl) ?_
            refine va_get (D := D) (ci := 5) (v := .int ((m_R_step (up (up (up sR 0 13 0) 16 1 ((sR 16 1) - 1)) 0 14 ((sR 0 14) + 1)) (sR 1 3) (sR 1 4)) 0 25)) (C := RX5) (T := TX5) (N := 33) hx hb hts hinR hown hE.1 hPR 0 rfl rfl 25 (by decide) (hts (.fieldLink RX5 115 "WallStonesModel" "range" "I") (List.mem_of_getElem? (i := 5) rfl)) (fun _ h9 => h9) rfl dX5_loose_116 ?_
            refine lv_iload_n hx hb dX5_loose_119 rfl (lv_at hl 4 rfl) ?_
            refine lv_isub hx hb dX5_loose_120 ?_
            refine runS_i (va_runS (As := [.int (((m_R_step (up (up (up sR 0 13 0) 16 1 ((sR 16 1) - 1)) 0 14 ((sR 0 14) + 1)) (sR 1 3) (sR 1 4)) 0 25) - p3)]) (rest := []) ⟨hx, hb, hml, hown, hts⟩ (K_R_size (((m_R_step (up (up (up sR 0 13 0) 16 1 ((sR 16 1) - 1)) 0 14 ((sR 0 14) + 1)) (sR 1 3) (sR 1 4)) 0 25) - p3)) (va_cwS 1 hts gX5_loose_X5_size rfl rfl rfl (by decide +kernel) ⟨Nat.le_of_ble_eq_true rfl, Nat.le_of_ble_eq_true rfl⟩) (preS_of hE hA hS trivial) rfl rfl hl.1 rfl (lv_room (Nat.le_of_ble_eq_true rfl)) dX5_loose_121 ⟨Nat.zero_le _, Nat.zero_le _⟩) ?_
            refine lv_iconst (v := 5) hx hb dX5_loose_124 (by decide) ?_
            refine lv_icmp_gt (tgt := 150) hx hb dX5_loose_125 (by decide) (fun c_7 => ?_) (fun c_7 => ?_)
            · have hM := hM.trans (if_pos c_7)
              have t_7 := lt_t c_7
              rw [tl_5] at t_7
              refine lv_aload_n hx hb dX5_loose_150 rfl (lv_at hl 1 rfl) ?_
              refine va_get (D := D) (ci := 5) (v := .int ((m_R_step (up (up (up sR 0 13 0) 16 1 ((sR 16 1) - 1)) 0 14 ((sR 0 14) + 1)) (sR 1 3) (sR 1 4)) 0 25)) (C := RX5) (T := TX5) (N := 33) hx hb hts hinR hown hE.1 hPR 0 rfl rfl 25 (by decide) (hts (.fieldLink RX5 115 "WallStonesModel" "range" "I") (List.mem_of_getElem? (i := 5) rfl)) (fun _ h9 => h9) rfl dX5_loose_151 ?_
              have hM : (m_R_loose sR p1 p2 p3) = ((((m_R_step (up (up (up sR 0 13 0) 16 1 ((sR 16 1) - 1)) 0 14 ((sR 0 14) + 1)) (sR 1 3) (sR 1 4)) 0 25), (m_R_step (up (up (up sR 0 13 0) 16 1 ((sR 16 1) - 1)) 0 14 ((sR 0 14) + 1)) (sR 1 3) (sR 1 4))) : Int32 × St) := hM
              exact hret ((m_R_step (up (up (up sR 0 13 0) 16 1 ((sR 16 1) - 1)) 0 14 ((sR 0 14) + 1)) (sR 1 3) (sR 1 4)) 0 25) H locs _ ls (nr_i _) dX5_loose_154 (ret1 hM) (rP_v1 (P := fun (z0 : St) => va_P D vwCl (cellR cI g z0 vR) H) hM hPR) hS
            · have hM := hM.trans (if_neg c_7)
              have t_7 := nlt_t c_7
              rw [tl_5] at t_7
              refine lv_aload_n hx hb dX5_loose_128 rfl (lv_at hl 1 rfl) ?_
              refine lv_iload_n hx hb dX5_loose_129 rfl (lv_at hl 2 rfl) ?_
              refine lv_iload_n hx hb dX5_loose_130 rfl (lv_at hl 3 rfl) ?_
              refine lv_iload hx hb dX5_loose_131 (lv_at hl 0 rfl) ?_
              refine lv_bipush (v := 99) hx hb dX5_loose_133 (by decide) ?_
              refine lv_icmp_le (tgt := 143) hx hb dX5_loose_135 (by decide) (fun c_8 => ?_) (fun c_8 => ?_)
              · have hM := hM.trans (if_pos c_8)
                have t_8 := le_t c_8
                rw [tl_99] at t_8
                refine lv_iload hx hb dX5_loose_143 (lv_at hl 0 rfl) ?_
                refine runW_i (va_runV (As := [.int p1, .int p2, .int (((((m_R_step (up (up (up sR 0 13 0) 16 1 ((sR 16 1) - 1)) 0 14 ((sR 0 14) + 1)) (sR 1 3) (sR 1 4)) 1 7) * ((m_R_step (up (up (up sR 0 13 0) 16 1 ((sR 16 1) - 1)) 0 14 ((sR 0 14) + 1)) (sR 1 3) (sR 1 4)) 0 25)) / 500) + 1)]) (rest := []) ⟨hx, hb, hml, hown, hts⟩ (K_R_strike hg (m_R_step (up (up (up sR 0 13 0) 16 1 ((sR 16 1) - 1)) 0 14 ((sR 0 14) + 1)) (sR 1 3) (sR 1 4)) vR p1 p2 (((((m_R_step (up (up (up sR 0 13 0) 16 1 ((sR 16 1) - 1)) 0 14 ((sR 0 14) + 1)) (sR 1 3) (sR 1 4)) 1 7) * ((m_R_step (up (up (up sR 0 13 0) 16 1 ((sR 16 1) - 1)) 0 14 ((sR 0 14) + 1)) (sR 1 3) (sR 1 4)) 0 25)) / 500) + 1) (by assumption)) (cwV 3 hts gX5_loose_X5_strike rfl rfl rfl (by decide +kernel) ⟨Nat.le_of_ble_eq_true rfl, Nat.le_of_ble_eq_true rfl⟩) (preV_of hE hA hS hPR (va_recv hE.1 hPR (ci := 5) (q0 := 0) rfl rfl)) rfl rfl hl.1 rfl (lv_room (Nat.le_of_ble_eq_true rfl)) dX5_loose_145 ⟨Nat.zero_le _, Nat.zero_le _⟩) hS (fun _ h9 => h9) (fun H locs hQ hk hS => ?_)
                have hPR : va_P D vwCl (cellR cI g (m_R_strike (m_R_step (up (up (up sR 0 13 0) 16 1 ((sR 16 1) - 1)) 0 14 ((sR 0 14) + 1)) (sR 1 3) (sR 1 4)) p1 p2 (((((m_R_step (up (up (up sR 0 13 0) 16 1 ((sR 16 1) - 1)) 0 14 ((sR 0 14) + 1)) (sR 1 3) (sR 1 4)) 1 7) * ((m_R_step (up (up (up sR 0 13 0) 16 1 ((sR 16 1) - 1)) 0 14 ((sR 0 14) + 1)) (sR 1 3) (sR 1 4)) 0 25)) / 500) + 1)).2 vR) H := hQ
                have v9 : okR (m_R_strike (m_R_step (up (up (up sR 0 13 0) 16 1 ((sR 16 1) - 1)) 0 14 ((sR 0 14) + 1)) (sR 1 3) (sR 1 4)) p1 p2 (((((m_R_step (up (up (up sR 0 13 0) 16 1 ((sR 16 1) - 1)) 0 14 ((sR 0 14) + 1)) (sR 1 3) (sR 1 4)) 1 7) * ((m_R_step (up (up (up sR 0 13 0) 16 1 ((sR 16 1) - 1)) 0 14 ((sR 0 14) + 1)) (sR 1 3) (sR 1 4)) 0 25)) / 500) + 1)).2 := okR_strike (by assumption)
                have w9_3 : ((m_R_strike (m_R_step (up (up (up sR 0 13 0) 16 1 ((sR 16 1) - 1)) 0 14 ((sR 0 14) + 1)) (sR 1 3) (sR 1 4)) p1 p2 (((((m_R_step (up (up (up sR 0 13 0) 16 1 ((sR 16 1) - 1)) 0 14 ((sR 0 14) + 1)) (sR 1 3) (sR 1 4)) 1 7) * ((m_R_step (up (up (up sR 0 13 0) 16 1 ((sR 16 1) - 1)) 0 14 ((sR 0 14) + 1)) (sR 1 3) (sR 1 4)) 0 25)) / 500) + 1)).2 0 3).toInt = ((m_R_step (up (up (up sR 0 13 0) 16 1 ((sR 16 1) - 1)) 0 14 ((sR 0 14) + 1)) (sR 1 3) (sR 1 4)) 0 3).toInt := congrArg Int32.toInt (fr_R_strike (by omega))
                have w9_6 : ((m_R_strike (m_R_step (up (up (up sR 0 13 0) 16 1 ((sR 16 1) - 1)) 0 14 ((sR 0 14) + 1)) (sR 1 3) (sR 1 4)) p1 p2 (((((m_R_step (up (up (up sR 0 13 0) 16 1 ((sR 16 1) - 1)) 0 14 ((sR 0 14) + 1)) (sR 1 3) (sR 1 4)) 1 7) * ((m_R_step (up (up (up sR 0 13 0) 16 1 ((sR 16 1) - 1)) 0 14 ((sR 0 14) + 1)) (sR 1 3) (sR 1 4)) 0 25)) / 500) + 1)).2 0 6).toInt = ((m_R_step (up (up (up sR 0 13 0) 16 1 ((sR 16 1) - 1)) 0 14 ((sR 0 14) + 1)) (sR 1 3) (sR 1 4)) 0 6).toInt := congrArg Int32.toInt (fr_R_strike (by omega))
                have w9_7 : ((m_R_strike (m_R_step (up (up (up sR 0 13 0) 16 1 ((sR 16 1) - 1)) 0 14 ((sR 0 14) + 1)) (sR 1 3) (sR 1 4)) p1 p2 (((((m_R_step (up (up (up sR 0 13 0) 16 1 ((sR 16 1) - 1)) 0 14 ((sR 0 14) + 1)) (sR 1 3) (sR 1 4)) 1 7) * ((m_R_step (up (up (up sR 0 13 0) 16 1 ((sR 16 1) - 1)) 0 14 ((sR 0 14) + 1)) (sR 1 3) (sR 1 4)) 0 25)) / 500) + 1)).2 0 7).toInt = ((m_R_step (up (up (up sR 0 13 0) 16 1 ((sR 16 1) - 1)) 0 14 ((sR 0 14) + 1)) (sR 1 3) (sR 1 4)) 0 7).toInt := congrArg Int32.toInt (fr_R_strike (by omega))
                have w9_11 : ((m_R_strike (m_R_step (up (up (up sR 0 13 0) 16 1 ((sR 16 1) - 1)) 0 14 ((sR 0 14) + 1)) (sR 1 3) (sR 1 4)) p1 p2 (((((m_R_step (up (up (up sR 0 13 0) 16 1 ((sR 16 1) - 1)) 0 14 ((sR 0 14) + 1)) (sR 1 3) (sR 1 4)) 1 7) * ((m_R_step (up (up (up sR 0 13 0) 16 1 ((sR 16 1) - 1)) 0 14 ((sR 0 14) + 1)) (sR 1 3) (sR 1 4)) 0 25)) / 500) + 1)).2 0 11).toInt = ((m_R_step (up (up (up sR 0 13 0) 16 1 ((sR 16 1) - 1)) 0 14 ((sR 0 14) + 1)) (sR 1 3) (sR 1 4)) 0 11).toInt := congrArg Int32.toInt (fr_R_strike (by omega))
                have w9_16 : ((m_R_strike (m_R_step (up (up (up sR 0 13 0) 16 1 ((sR 16 1) - 1)) 0 14 ((sR 0 14) + 1)) (sR 1 3) (sR 1 4)) p1 p2 (((((m_R_step (up (up (up sR 0 13 0) 16 1 ((sR 16 1) - 1)) 0 14 ((sR 0 14) + 1)) (sR 1 3) (sR 1 4)) 1 7) * ((m_R_step (up (up (up sR 0 13 0) 16 1 ((sR 16 1) - 1)) 0 14 ((sR 0 14) + 1)) (sR 1 3) (sR 1 4)) 0 25)) / 500) + 1)).2 0 16).toInt = ((m_R_step (up (up (up sR 0 13 0) 16 1 ((sR 16 1) - 1)) 0 14 ((sR 0 14) + 1)) (sR 1 3) (sR 1 4)) 0 16).toInt := congrArg Int32.toInt (fr_R_strike (by omega))
                refine lv_istore (lv' := [(5, .int (m_R_strike (m_R_step (up (up (up sR 0 13 0) 16 1 ((sR 16 1) - 1)) 0 14 ((sR 0 14) + 1)) (sR 1 3) (sR 1 4)) p1 p2 (((((m_R_step (up (up (up sR 0 13 0) 16 1 ((sR 16 1) - 1)) 0 14 ((sR 0 14) + 1)) (sR 1 3) (sR 1 4)) 1 7) * ((m_R_step (up (up (up sR 0 13 0) 16 1 ((sR 16 1) - 1)) 0 14 ((sR 0 14) + 1)) (sR 1 3) (sR 1 4)) 0 25)) / 500) + 1)).1), (4, .int (((((m_R_step (up (up (up sR 0 13 0) 16 1 ((sR 16 1) - 1)) 0 14 ((sR 0 14) + 1)) (sR 1 3) (sR 1 4)) 1 7) * ((m_R_step (up (up (up sR 0 13 0) 16 1 ((sR 16 1) - 1)) 0 14 ((sR 0 14) + 1)) (sR 1 3) (sR 1 4)) 0 25)) / 500) + 1)), (0, .ref (g 0)), (1, .int p1), (2, .int p2), (3, .int p3)]) hx hb dX5_loose_148 hl (by decide) rfl (fun ls hl => ?_)
                refine lv_aload_n hx hb dX5_loose_150 rfl (lv_at hl 2 rfl) ?_
                refine va_get (D := D) (ci := 5) (v := .int ((m_R_strike (m_R_step (up (up (up sR 0 13 0) 16 1 ((sR 16 1) - 1)) 0 14 ((sR 0 14) + 1)) (sR 1 3) (sR 1 4)) p1 p2 (((((m_R_step (up (up (up sR 0 13 0) 16 1 ((sR 16 1) - 1)) 0 14 ((sR 0 14) + 1)) (sR 1 3) (sR 1 4)) 1 7) * ((m_R_step (up (up (up sR 0 13 0) 16 1 ((sR 16 1) - 1)) 0 14 ((sR 0 14) + 1)) (sR 1 3) (sR 1 4)) 0 25)) / 500) + 1)).2 0 25)) (C := RX5) (T := TX5) (N := 33) hx hb hts hinR hown hE.1 hPR 0 rfl rfl 25 (by decide) (hts (.fieldLink RX5 115 "WallStonesModel" "range" "I") (List.mem_of_getElem? (i := 5) rfl)) (fun _ h9 => h9) rfl dX5_loose_151 ?_
                have hM : (m_R_loose sR p1 p2 p3) = ((((m_R_strike (m_R_step (up (up (up sR 0 13 0) 16 1 ((sR 16 1) - 1)) 0 14 ((sR 0 14) + 1)) (sR 1 3) (sR 1 4)) p1 p2 (((((m_R_step (up (up (up sR 0 13 0) 16 1 ((sR 16 1) - 1)) 0 14 ((sR 0 14) + 1)) (sR 1 3) (sR 1 4)) 1 7) * ((m_R_step (up (up (up sR 0 13 0) 16 1 ((sR 16 1) - 1)) 0 14 ((sR 0 14) + 1)) (sR 1 3) (sR 1 4)) 0 25)) / 500) + 1)).2 0 25), (m_R_strike (m_R_step (up (up (up sR 0 13 0) 16 1 ((sR 16 1) - 1)) 0 14 ((sR 0 14) + 1)) (sR 1 3) (sR 1 4)) p1 p2 (((((m_R_step (up (up (up sR 0 13 0) 16 1 ((sR 16 1) - 1)) 0 14 ((sR 0 14) + 1)) (sR 1 3) (sR 1 4)) 1 7) * ((m_R_step (up (up (up sR 0 13 0) 16 1 ((sR 16 1) - 1)) 0 14 ((sR 0 14) + 1)) (sR 1 3) (sR 1 4)) 0 25)) / 500) + 1)).2) : Int32 × St) := hM
                exact hret ((m_R_strike (m_R_step (up (up (up sR 0 13 0) 16 1 ((sR 16 1) - 1)) 0 14 ((sR 0 14) + 1)) (sR 1 3) (sR 1 4)) p1 p2 (((((m_R_step (up (up (up sR 0 13 0) 16 1 ((sR 16 1) - 1)) 0 14 ((sR 0 14) + 1)) (sR 1 3) (sR 1 4)) 1 7) * ((m_R_step (up (up (up sR 0 13 0) 16 1 ((sR 16 1) - 1)) 0 14 ((sR 0 14) + 1)) (sR 1 3) (sR 1 4)) 0 25)) / 500) + 1)).2 0 25) H locs _ ls (nr_i _) dX5_loose_154 (ret1 hM) (rP_v1 (P := fun (z0 : St) => va_P D vwCl (cellR cI g z0 vR) H) hM hPR) hS
              · have hM := hM.trans (if_neg c_8)
                have t_8 := nle_t c_8
                rw [tl_99] at t_8
                refine lv_bipush (v := 99) hx hb dX5_loose_138 (by decide) ?_
                refine lv_goto (tgt := 145) hx hb dX5_loose_140 (by decide) ?_
                have z10 := tl_99
                refine runW_i (va_runV (As := [.int p1, .int p2, .int 99]) (rest := []) ⟨hx, hb, hml, hown, hts⟩ (K_R_strike hg (m_R_step (up (up (up sR 0 13 0) 16 1 ((sR 16 1) - 1)) 0 14 ((sR 0 14) + 1)) (sR 1 3) (sR 1 4)) vR p1 p2 99 (by assumption)) (cwV 3 hts gX5_loose_X5_strike rfl rfl rfl (by decide +kernel) ⟨Nat.le_of_ble_eq_true rfl, Nat.le_of_ble_eq_true rfl⟩) (preV_of hE hA hS hPR (va_recv hE.1 hPR (ci := 5) (q0 := 0) rfl rfl)) rfl rfl hl.1 rfl (lv_room (Nat.le_of_ble_eq_true rfl)) dX5_loose_145 ⟨Nat.zero_le _, Nat.zero_le _⟩) hS (fun _ h9 => h9) (fun H locs hQ hk hS => ?_)
                have hPR : va_P D vwCl (cellR cI g (m_R_strike (m_R_step (up (up (up sR 0 13 0) 16 1 ((sR 16 1) - 1)) 0 14 ((sR 0 14) + 1)) (sR 1 3) (sR 1 4)) p1 p2 99).2 vR) H := hQ
                have v11 : okR (m_R_strike (m_R_step (up (up (up sR 0 13 0) 16 1 ((sR 16 1) - 1)) 0 14 ((sR 0 14) + 1)) (sR 1 3) (sR 1 4)) p1 p2 99).2 := okR_strike (by assumption)
                have w11_3 : ((m_R_strike (m_R_step (up (up (up sR 0 13 0) 16 1 ((sR 16 1) - 1)) 0 14 ((sR 0 14) + 1)) (sR 1 3) (sR 1 4)) p1 p2 99).2 0 3).toInt = ((m_R_step (up (up (up sR 0 13 0) 16 1 ((sR 16 1) - 1)) 0 14 ((sR 0 14) + 1)) (sR 1 3) (sR 1 4)) 0 3).toInt := congrArg Int32.toInt (fr_R_strike (by omega))
                have w11_6 : ((m_R_strike (m_R_step (up (up (up sR 0 13 0) 16 1 ((sR 16 1) - 1)) 0 14 ((sR 0 14) + 1)) (sR 1 3) (sR 1 4)) p1 p2 99).2 0 6).toInt = ((m_R_step (up (up (up sR 0 13 0) 16 1 ((sR 16 1) - 1)) 0 14 ((sR 0 14) + 1)) (sR 1 3) (sR 1 4)) 0 6).toInt := congrArg Int32.toInt (fr_R_strike (by omega))
                have w11_7 : ((m_R_strike (m_R_step (up (up (up sR 0 13 0) 16 1 ((sR 16 1) - 1)) 0 14 ((sR 0 14) + 1)) (sR 1 3) (sR 1 4)) p1 p2 99).2 0 7).toInt = ((m_R_step (up (up (up sR 0 13 0) 16 1 ((sR 16 1) - 1)) 0 14 ((sR 0 14) + 1)) (sR 1 3) (sR 1 4)) 0 7).toInt := congrArg Int32.toInt (fr_R_strike (by omega))
                have w11_11 : ((m_R_strike (m_R_step (up (up (up sR 0 13 0) 16 1 ((sR 16 1) - 1)) 0 14 ((sR 0 14) + 1)) (sR 1 3) (sR 1 4)) p1 p2 99).2 0 11).toInt = ((m_R_step (up (up (up sR 0 13 0) 16 1 ((sR 16 1) - 1)) 0 14 ((sR 0 14) + 1)) (sR 1 3) (sR 1 4)) 0 11).toInt := congrArg Int32.toInt (fr_R_strike (by omega))
                have w11_16 : ((m_R_strike (m_R_step (up (up (up sR 0 13 0) 16 1 ((sR 16 1) - 1)) 0 14 ((sR 0 14) + 1)) (sR 1 3) (sR 1 4)) p1 p2 99).2 0 16).toInt = ((m_R_step (up (up (up sR 0 13 0) 16 1 ((sR 16 1) - 1)) 0 14 ((sR 0 14) + 1)) (sR 1 3) (sR 1 4)) 0 16).toInt := congrArg Int32.toInt (fr_R_strike (by omega))
                refine lv_istore (lv' := [(5, .int (m_R_strike (m_R_step (up (up (up sR 0 13 0) 16 1 ((sR 16 1) - 1)) 0 14 ((sR 0 14) + 1)) (sR 1 3) (sR 1 4)) p1 p2 99).1), (4, .int (((((m_R_step (up (up (up sR 0 13 0) 16 1 ((sR 16 1) - 1)) 0 14 ((sR 0 14) + 1)) (sR 1 3) (sR 1 4)) 1 7) * ((m_R_step (up (up (up sR 0 13 0) 16 1 ((sR 16 1) - 1)) 0 14 ((sR 0 14) + 1)) (sR 1 3) (sR 1 4)) 0 25)) / 500) + 1)), (0, .ref (g 0)), (1, .int p1), (2, .int p2), (3, .int p3)]) hx hb dX5_loose_148 hl (by decide) rfl (fun ls hl => ?_)
                refine lv_aload_n hx hb dX5_loose_150 rfl (lv_at hl 2 rfl) ?_
                refine va_get (D := D) (ci := 5) (v := .int ((m_R_strike (m_R_step (up (up (up sR 0 13 0) 16 1 ((sR 16 1) - 1)) 0 14 ((sR 0 14) + 1)) (sR 1 3) (sR 1 4)) p1 p2 99).2 0 25)) (C := RX5) (T := TX5) (N := 33) hx hb hts hinR hown hE.1 hPR 0 rfl rfl 25 (by decide) (hts (.fieldLink RX5 115 "WallStonesModel" "range" "I") (List.mem_of_getElem? (i := 5) rfl)) (fun _ h9 => h9) rfl dX5_loose_151 ?_
                have hM : (m_R_loose sR p1 p2 p3) = ((((m_R_strike (m_R_step (up (up (up sR 0 13 0) 16 1 ((sR 16 1) - 1)) 0 14 ((sR 0 14) + 1)) (sR 1 3) (sR 1 4)) p1 p2 99).2 0 25), (m_R_strike (m_R_step (up (up (up sR 0 13 0) 16 1 ((sR 16 1) - 1)) 0 14 ((sR 0 14) + 1)) (sR 1 3) (sR 1 4)) p1 p2 99).2) : Int32 × St) := hM
                exact hret ((m_R_strike (m_R_step (up (up (up sR 0 13 0) 16 1 ((sR 16 1) - 1)) 0 14 ((sR 0 14) + 1)) (sR 1 3) (sR 1 4)) p1 p2 99).2 0 25) H locs _ ls (nr_i _) dX5_loose_154 (ret1 hM) (rP_v1 (P := fun (z0 : St) => va_P D vwCl (cellR cI g z0 vR) H) hM hPR) hS
          · have hM := hM.trans (if_pos c_6)
            have t_6 := eq_t c_6
            rw [tl_m9] at t_6
            refine lv_bipush (v := (-3)) hx hb dX5_loose_92 (by decide) ?_
            have hM : (m_R_loose sR p1 p2 p3) = (((-3), (m_R_step (up (up (up sR 0 13 0) 16 1 ((sR 16 1) - 1)) 0 14 ((sR 0 14) + 1)) (sR 1 3) (sR 1 4))) : Int32 × St) := hM
            exact hret (-3) H locs _ ls (nr_i _) dX5_loose_94 (ret1 hM) (rP_v1 (P := fun (z0 : St) => va_P D vwCl (cellR cI g z0 vR) H) hM hPR) hS
        · have hM := hM.trans (if_pos c_4)
          have t_4 := eq_t c_4
          rw [tl_0] at t_4
          refine lv_bipush (v := (-2)) hx hb dX5_loose_39 (by decide) ?_
          have hM : (m_R_loose sR p1 p2 p3) = (((-2), sR) : Int32 × St) := hM
          exact hret (-2) H locs _ ls (nr_i _) dX5_loose_41 (ret1 hM) (rP_v1 (P := fun (z0 : St) => va_P D vwCl (cellR cI g z0 vR) H) hM hPR) hS
    · have hM := hM.trans (if_pos c_2)
      have t_2 := eq_t c_2
      rw [tl_0] at t_2
      refine lv_iconst (v := (-1)) hx hb dX5_loose_20 (by decide) ?_
      have hM : (m_R_loose sR p1 p2 p3) = (((-1), sR) : Int32 × St) := hM
      exact hret (-1) H locs _ ls (nr_i _) dX5_loose_21 (ret1 hM) (rP_v1 (P := fun (z0 : St) => va_P D vwCl (cellR cI g z0 vR) H) hM hPR) hS
abbrev rm_R_store : Room := { frames := 1, cells := 0, slots := 0, locals := 22 }
set_option maxHeartbeats 4000000 in
set_option maxRecDepth 100000 in
theorem K_R_store {l : Launch} {D : va_G} {cI : ClassId} {lo : Nat} {g : Nat → Nat} (hg : wI g 0 16 lo) (sR : St) (vR : Int64) (p1 : Int32) (p2 : Int32) : WRi l D cI lo yX5_store wsX5_store rm_R_store [.ref (g 0), .int p1, .int p2] (fun H => va_P D vwCl (cellR cI g sR vR) H) (m_R_store sR p1 p2).1 (fun H => va_P D vwCl (cellR cI g (m_R_store sR p1 p2).2 vR) H) (wA g 0 16) := by
  refine ofW_WRi (cc := cX5_store) (maxL := 6) (ty := .int) (by decide +kernel) rfl (Nat.le_of_ble_eq_true rfl) ?_
  intro p e s m args below meth c Q hx hb hml hown hts hE hP hret ls hl
  have hown : s.vm.findClass RX5 = some m.cls := hown
  have hPR := hP
  have hA := wA.lo hg
  have hS : va_S (wA g 0 16) s.heap s.heap [] := va_S.rf
  obtain ⟨H, hH⟩ : ∃ z, z = s.heap := ⟨_, rfl⟩
  obtain ⟨locs, hlocs⟩ : ∃ z : List Loc, z = [] := ⟨_, rfl⟩
  have hPR : va_P D vwCl (cellR cI g sR vR) H := by rw [hH]; exact hPR
  have hS : va_S (wA g 0 16) s.heap H locs := by rw [hH, hlocs]; exact va_S.rf
  have gW : W p l e rm_R_store s m args below meth c H locs 0 0 Q (F0 m 0 ls []) → W p l e rm_R_store s m args below meth c s.heap [] 0 0 Q (F0 m 0 ls []) := by rw [hH, hlocs]; exact id
  refine gW ?_
  have hinR : ∀ w ∈ wsX50, w ∈ wsX5_store := fun w h => List.mem_cons_of_mem _ (List.mem_append_right _ h)
  have hl : lv_has ls 6 [(0, .ref (g 0)), (1, .int p1), (2, .int p2)] := hl
  have hM : (m_R_store sR p1 p2) = (m_R_store sR p1 p2) := rfl
  refine lv_iload_n hx hb dX5_store_0 rfl (lv_at hl 1 rfl) ?_
  refine lv_if_eq (tgt := 9) hx hb dX5_store_1 (by decide) (fun c_1 => ?_) (fun c_1 => ?_)
  · have hM := hM.trans (if_pos c_1)
    have t_1 := eq_t c_1
    rw [tl_0] at t_1
    refine lv_iconst (v := 1) hx hb dX5_store_9 (by decide) ?_
    refine lv_goto (tgt := 14) hx hb dX5_store_10 (by decide) ?_
    refine lv_istore_n (lv' := [(3, .int 1), (0, .ref (g 0)), (1, .int p1), (2, .int p2)]) hx hb dX5_store_14 rfl hl (by decide) rfl (fun ls hl => ?_)
    refine lv_iload_n hx hb dX5_store_15 rfl (lv_at hl 2 rfl) ?_
    refine lv_if_eq (tgt := 24) hx hb dX5_store_16 (by decide) (fun c_2 => ?_) (fun c_2 => ?_)
    · have hM := hM.trans (if_pos c_2)
      have t_2 := eq_t c_2
      rw [tl_0] at t_2
      refine lv_sipush (v := 200) hx hb dX5_store_24 (by decide) ?_
      refine lv_goto (tgt := 33) hx hb dX5_store_27 (by decide) ?_
      refine lv_istore (lv' := [(4, .int 200), (3, .int 1), (0, .ref (g 0)), (1, .int p1), (2, .int p2)]) hx hb dX5_store_33 hl (by decide) rfl (fun ls hl => ?_)
      refine lv_iload_n hx hb dX5_store_35 rfl (lv_at hl 3 rfl) ?_
      refine lv_iconst (v := 0) hx hb dX5_store_36 (by decide) ?_
      refine lv_iconst (v := 4) hx hb dX5_store_37 (by decide) ?_
      refine runS_i (va_runS (As := [.int p1, .int 0, .int 4]) (rest := []) ⟨hx, hb, hml, hown, hts⟩ (K_R_in p1 0 4) (va_cwS 3 hts gX5_store_X5_in rfl rfl rfl (by decide +kernel) ⟨Nat.le_of_ble_eq_true rfl, Nat.le_of_ble_eq_true rfl⟩) (preS_of hE hA hS trivial) rfl rfl hl.1 rfl (lv_room (Nat.le_of_ble_eq_true rfl)) dX5_store_38 ⟨Nat.zero_le _, Nat.zero_le _⟩) ?_
      refine lv_if_eq (tgt := 54) hx hb dX5_store_41 (by decide) (fun c_3 => ?_) (fun c_3 => ?_)
      · have hM := hM.trans (if_pos c_3)
        have t_3 := eq_t c_3
        rw [tl_0] at t_3
        refine lv_iconst (v := (-1)) hx hb dX5_store_54 (by decide) ?_
        have hM : (m_R_store sR p1 p2) = (((-1), sR) : Int32 × St) := hM
        exact hret (-1) H locs _ ls (nr_i _) dX5_store_55 (ret1 hM) (rP_v1 (P := fun (z0 : St) => va_P D vwCl (cellR cI g z0 vR) H) hM hPR) hS
      · have hM := hM.trans (if_neg c_3)
        have t_3 := ne_t c_3
        rw [tl_0] at t_3
        have u_3 := in_t c_3
        rw [tl_0, tl_4] at u_3
        refine lv_iload_n hx hb dX5_store_44 rfl (lv_at hl 4 rfl) ?_
        refine lv_iload_n hx hb dX5_store_45 rfl (lv_at hl 1 rfl) ?_
        refine lv_iload hx hb dX5_store_46 (lv_at hl 0 rfl) ?_
        refine runS_i (va_runS (As := [.int p2, .int 1, .int 200]) (rest := []) ⟨hx, hb, hml, hown, hts⟩ (K_R_in p2 1 200) (va_cwS 3 hts gX5_store_X5_in rfl rfl rfl (by decide +kernel) ⟨Nat.le_of_ble_eq_true rfl, Nat.le_of_ble_eq_true rfl⟩) (preS_of hE hA hS trivial) rfl rfl hl.1 rfl (lv_room (Nat.le_of_ble_eq_true rfl)) dX5_store_48 ⟨Nat.zero_le _, Nat.zero_le _⟩) ?_
        refine lv_if_ne (tgt := 56) hx hb dX5_store_51 (by decide) (fun c_4 => ?_) (fun c_4 => ?_)
        · have hM := hM.trans (if_neg c_4)
          have t_4 := ne_t c_4
          rw [tl_0] at t_4
          have u_4 := in_t c_4
          rw [tl_1, tl_200] at u_4
          refine lv_aload_n hx hb dX5_store_56 rfl (lv_at hl 2 rfl) ?_
          refine va_get (D := D) (ci := 5) (v := .ref (g 8)) (C := RX5) (T := TX5) (N := 33) hx hb hts hinR hown hE.1 hPR 0 rfl rfl 15 (by decide) (hts (.fieldLink RX5 41 "WallStonesModel" "store" "[I") (List.mem_of_getElem? (i := 1) rfl)) (fun _ h9 => h9) rfl dX5_store_57 ?_
          refine lv_iload_n hx hb dX5_store_60 rfl (lv_at hl 3 rfl) ?_
          refine va_iald hx hb hE.1 hPR 8 0 rfl rfl (vp_in_iff.mpr (by omega)) dX5_store_61 ?_
          refine W.eq (g2 := F0 m 62 ls [.int (sR 16 (Int32.toNatClampNeg p1))]) rfl ?_
          refine lv_istore (lv' := [(5, .int (sR 16 (Int32.toNatClampNeg p1))), (4, .int 200), (3, .int 1), (0, .ref (g 0)), (1, .int p1), (2, .int p2)]) hx hb dX5_store_62 hl (by decide) rfl (fun ls hl => ?_)
          refine lv_aload_n hx hb dX5_store_64 rfl (lv_at hl 3 rfl) ?_
          refine va_get (D := D) (ci := 5) (v := .ref (g 8)) (C := RX5) (T := TX5) (N := 33) hx hb hts hinR hown hE.1 hPR 0 rfl rfl 15 (by decide) (hts (.fieldLink RX5 41 "WallStonesModel" "store" "[I") (List.mem_of_getElem? (i := 1) rfl)) (fun _ h9 => h9) rfl dX5_store_65 ?_
          refine lv_iload_n hx hb dX5_store_68 rfl (lv_at hl 4 rfl) ?_
          refine lv_iload_n hx hb dX5_store_69 rfl (lv_at hl 5 rfl) ?_
          refine va_iast hx hb hE.1 hPR (wD_of hg (c := 0) (n := 16) (by decide) (by decide) rfl) hS 8 0 rfl rfl (vp_in_iff.mpr (by omega)) dX5_store_70 (fun H locs hPn _ hS => ?_)
          have hPR : va_P D vwCl (cellR cI g (up sR 16 (Int32.toNatClampNeg p1) p2) vR) H := (congrArg (fun z => va_P D vwCl z H) setR_R16).mp hPn
          refine lv_iload hx hb dX5_store_71 (lv_at hl 0 rfl) ?_
          have hM : (m_R_store sR p1 p2) = (((sR 16 (Int32.toNatClampNeg p1)), (up sR 16 (Int32.toNatClampNeg p1) p2)) : Int32 × St) := hM
          exact hret (sR 16 (Int32.toNatClampNeg p1)) H locs _ ls (nr_i _) dX5_store_73 (ret1 hM) (rP_v1 (P := fun (z0 : St) => va_P D vwCl (cellR cI g z0 vR) H) hM hPR) hS
        · have hM := hM.trans (if_pos c_4)
          have t_4 := eq_t c_4
          rw [tl_0] at t_4
          refine lv_iconst (v := (-1)) hx hb dX5_store_54 (by decide) ?_
          have hM : (m_R_store sR p1 p2) = (((-1), sR) : Int32 × St) := hM
          exact hret (-1) H locs _ ls (nr_i _) dX5_store_55 (ret1 hM) (rP_v1 (P := fun (z0 : St) => va_P D vwCl (cellR cI g z0 vR) H) hM hPR) hS
    · have hM := hM.trans (if_neg c_2)
      have t_2 := ne_t c_2
      rw [tl_0] at t_2
      refine lv_iload_n hx hb dX5_store_19 rfl (lv_at hl 2 rfl) ?_
      refine lv_iconst (v := 4) hx hb dX5_store_20 (by decide) ?_
      refine lv_icmp_ne (tgt := 30) hx hb dX5_store_21 (by decide) (fun c_5 => ?_) (fun c_5 => ?_)
      · have hM := hM.trans (if_neg c_5)
        have t_5 := ne_t c_5
        rw [tl_4] at t_5
        refine lv_sipush (v := 9999) hx hb dX5_store_30 (by decide) ?_
        refine lv_istore (lv' := [(4, .int 9999), (3, .int 1), (0, .ref (g 0)), (1, .int p1), (2, .int p2)]) hx hb dX5_store_33 hl (by decide) rfl (fun ls hl => ?_)
        refine lv_iload_n hx hb dX5_store_35 rfl (lv_at hl 3 rfl) ?_
        refine lv_iconst (v := 0) hx hb dX5_store_36 (by decide) ?_
        refine lv_iconst (v := 4) hx hb dX5_store_37 (by decide) ?_
        refine runS_i (va_runS (As := [.int p1, .int 0, .int 4]) (rest := []) ⟨hx, hb, hml, hown, hts⟩ (K_R_in p1 0 4) (va_cwS 3 hts gX5_store_X5_in rfl rfl rfl (by decide +kernel) ⟨Nat.le_of_ble_eq_true rfl, Nat.le_of_ble_eq_true rfl⟩) (preS_of hE hA hS trivial) rfl rfl hl.1 rfl (lv_room (Nat.le_of_ble_eq_true rfl)) dX5_store_38 ⟨Nat.zero_le _, Nat.zero_le _⟩) ?_
        refine lv_if_eq (tgt := 54) hx hb dX5_store_41 (by decide) (fun c_6 => ?_) (fun c_6 => ?_)
        · have hM := hM.trans (if_pos c_6)
          have t_6 := eq_t c_6
          rw [tl_0] at t_6
          refine lv_iconst (v := (-1)) hx hb dX5_store_54 (by decide) ?_
          have hM : (m_R_store sR p1 p2) = (((-1), sR) : Int32 × St) := hM
          exact hret (-1) H locs _ ls (nr_i _) dX5_store_55 (ret1 hM) (rP_v1 (P := fun (z0 : St) => va_P D vwCl (cellR cI g z0 vR) H) hM hPR) hS
        · have hM := hM.trans (if_neg c_6)
          have t_6 := ne_t c_6
          rw [tl_0] at t_6
          have u_6 := in_t c_6
          rw [tl_0, tl_4] at u_6
          refine lv_iload_n hx hb dX5_store_44 rfl (lv_at hl 4 rfl) ?_
          refine lv_iload_n hx hb dX5_store_45 rfl (lv_at hl 1 rfl) ?_
          refine lv_iload hx hb dX5_store_46 (lv_at hl 0 rfl) ?_
          refine runS_i (va_runS (As := [.int p2, .int 1, .int 9999]) (rest := []) ⟨hx, hb, hml, hown, hts⟩ (K_R_in p2 1 9999) (va_cwS 3 hts gX5_store_X5_in rfl rfl rfl (by decide +kernel) ⟨Nat.le_of_ble_eq_true rfl, Nat.le_of_ble_eq_true rfl⟩) (preS_of hE hA hS trivial) rfl rfl hl.1 rfl (lv_room (Nat.le_of_ble_eq_true rfl)) dX5_store_48 ⟨Nat.zero_le _, Nat.zero_le _⟩) ?_
          refine lv_if_ne (tgt := 56) hx hb dX5_store_51 (by decide) (fun c_7 => ?_) (fun c_7 => ?_)
          · have hM := hM.trans (if_neg c_7)
            have t_7 := ne_t c_7
            rw [tl_0] at t_7
            have u_7 := in_t c_7
            rw [tl_1, tl_9999] at u_7
            refine lv_aload_n hx hb dX5_store_56 rfl (lv_at hl 2 rfl) ?_
            refine va_get (D := D) (ci := 5) (v := .ref (g 8)) (C := RX5) (T := TX5) (N := 33) hx hb hts hinR hown hE.1 hPR 0 rfl rfl 15 (by decide) (hts (.fieldLink RX5 41 "WallStonesModel" "store" "[I") (List.mem_of_getElem? (i := 1) rfl)) (fun _ h9 => h9) rfl dX5_store_57 ?_
            refine lv_iload_n hx hb dX5_store_60 rfl (lv_at hl 3 rfl) ?_
            refine va_iald hx hb hE.1 hPR 8 0 rfl rfl (vp_in_iff.mpr (by omega)) dX5_store_61 ?_
            refine W.eq (g2 := F0 m 62 ls [.int (sR 16 (Int32.toNatClampNeg p1))]) rfl ?_
            refine lv_istore (lv' := [(5, .int (sR 16 (Int32.toNatClampNeg p1))), (4, .int 9999), (3, .int 1), (0, .ref (g 0)), (1, .int p1), (2, .int p2)]) hx hb dX5_store_62 hl (by decide) rfl (fun ls hl => ?_)
            refine lv_aload_n hx hb dX5_store_64 rfl (lv_at hl 3 rfl) ?_
            refine va_get (D := D) (ci := 5) (v := .ref (g 8)) (C := RX5) (T := TX5) (N := 33) hx hb hts hinR hown hE.1 hPR 0 rfl rfl 15 (by decide) (hts (.fieldLink RX5 41 "WallStonesModel" "store" "[I") (List.mem_of_getElem? (i := 1) rfl)) (fun _ h9 => h9) rfl dX5_store_65 ?_
            refine lv_iload_n hx hb dX5_store_68 rfl (lv_at hl 4 rfl) ?_
            refine lv_iload_n hx hb dX5_store_69 rfl (lv_at hl 5 rfl) ?_
            refine va_iast hx hb hE.1 hPR (wD_of hg (c := 0) (n := 16) (by decide) (by decide) rfl) hS 8 0 rfl rfl (vp_in_iff.mpr (by omega)) dX5_store_70 (fun H locs hPn _ hS => ?_)
            have hPR : va_P D vwCl (cellR cI g (up sR 16 (Int32.toNatClampNeg p1) p2) vR) H := (congrArg (fun z => va_P D vwCl z H) setR_R16).mp hPn
            refine lv_iload hx hb dX5_store_71 (lv_at hl 0 rfl) ?_
            have hM : (m_R_store sR p1 p2) = (((sR 16 (Int32.toNatClampNeg p1)), (up sR 16 (Int32.toNatClampNeg p1) p2)) : Int32 × St) := hM
            exact hret (sR 16 (Int32.toNatClampNeg p1)) H locs _ ls (nr_i _) dX5_store_73 (ret1 hM) (rP_v1 (P := fun (z0 : St) => va_P D vwCl (cellR cI g z0 vR) H) hM hPR) hS
          · have hM := hM.trans (if_pos c_7)
            have t_7 := eq_t c_7
            rw [tl_0] at t_7
            refine lv_iconst (v := (-1)) hx hb dX5_store_54 (by decide) ?_
            have hM : (m_R_store sR p1 p2) = (((-1), sR) : Int32 × St) := hM
            exact hret (-1) H locs _ ls (nr_i _) dX5_store_55 (ret1 hM) (rP_v1 (P := fun (z0 : St) => va_P D vwCl (cellR cI g z0 vR) H) hM hPR) hS
      · have hM := hM.trans (if_pos c_5)
        have t_5 := eq_t c_5
        rw [tl_4] at t_5
        refine lv_sipush (v := 200) hx hb dX5_store_24 (by decide) ?_
        refine lv_goto (tgt := 33) hx hb dX5_store_27 (by decide) ?_
        refine lv_istore (lv' := [(4, .int 200), (3, .int 1), (0, .ref (g 0)), (1, .int p1), (2, .int p2)]) hx hb dX5_store_33 hl (by decide) rfl (fun ls hl => ?_)
        refine lv_iload_n hx hb dX5_store_35 rfl (lv_at hl 3 rfl) ?_
        refine lv_iconst (v := 0) hx hb dX5_store_36 (by decide) ?_
        refine lv_iconst (v := 4) hx hb dX5_store_37 (by decide) ?_
        refine runS_i (va_runS (As := [.int p1, .int 0, .int 4]) (rest := []) ⟨hx, hb, hml, hown, hts⟩ (K_R_in p1 0 4) (va_cwS 3 hts gX5_store_X5_in rfl rfl rfl (by decide +kernel) ⟨Nat.le_of_ble_eq_true rfl, Nat.le_of_ble_eq_true rfl⟩) (preS_of hE hA hS trivial) rfl rfl hl.1 rfl (lv_room (Nat.le_of_ble_eq_true rfl)) dX5_store_38 ⟨Nat.zero_le _, Nat.zero_le _⟩) ?_
        refine lv_if_eq (tgt := 54) hx hb dX5_store_41 (by decide) (fun c_8 => ?_) (fun c_8 => ?_)
        · have hM := hM.trans (if_pos c_8)
          have t_8 := eq_t c_8
          rw [tl_0] at t_8
          refine lv_iconst (v := (-1)) hx hb dX5_store_54 (by decide) ?_
          have hM : (m_R_store sR p1 p2) = (((-1), sR) : Int32 × St) := hM
          exact hret (-1) H locs _ ls (nr_i _) dX5_store_55 (ret1 hM) (rP_v1 (P := fun (z0 : St) => va_P D vwCl (cellR cI g z0 vR) H) hM hPR) hS
        · have hM := hM.trans (if_neg c_8)
          have t_8 := ne_t c_8
          rw [tl_0] at t_8
          have u_8 := in_t c_8
          rw [tl_0, tl_4] at u_8
          refine lv_iload_n hx hb dX5_store_44 rfl (lv_at hl 4 rfl) ?_
          refine lv_iload_n hx hb dX5_store_45 rfl (lv_at hl 1 rfl) ?_
          refine lv_iload hx hb dX5_store_46 (lv_at hl 0 rfl) ?_
          refine runS_i (va_runS (As := [.int p2, .int 1, .int 200]) (rest := []) ⟨hx, hb, hml, hown, hts⟩ (K_R_in p2 1 200) (va_cwS 3 hts gX5_store_X5_in rfl rfl rfl (by decide +kernel) ⟨Nat.le_of_ble_eq_true rfl, Nat.le_of_ble_eq_true rfl⟩) (preS_of hE hA hS trivial) rfl rfl hl.1 rfl (lv_room (Nat.le_of_ble_eq_true rfl)) dX5_store_48 ⟨Nat.zero_le _, Nat.zero_le _⟩) ?_
          refine lv_if_ne (tgt := 56) hx hb dX5_store_51 (by decide) (fun c_9 => ?_) (fun c_9 => ?_)
          · have hM := hM.trans (if_neg c_9)
            have t_9 := ne_t c_9
            rw [tl_0] at t_9
            have u_9 := in_t c_9
            rw [tl_1, tl_200] at u_9
            refine lv_aload_n hx hb dX5_store_56 rfl (lv_at hl 2 rfl) ?_
            refine va_get (D := D) (ci := 5) (v := .ref (g 8)) (C := RX5) (T := TX5) (N := 33) hx hb hts hinR hown hE.1 hPR 0 rfl rfl 15 (by decide) (hts (.fieldLink RX5 41 "WallStonesModel" "store" "[I") (List.mem_of_getElem? (i := 1) rfl)) (fun _ h9 => h9) rfl dX5_store_57 ?_
            refine lv_iload_n hx hb dX5_store_60 rfl (lv_at hl 3 rfl) ?_
            refine va_iald hx hb hE.1 hPR 8 0 rfl rfl (vp_in_iff.mpr (by omega)) dX5_store_61 ?_
            refine W.eq (g2 := F0 m 62 ls [.int (sR 16 (Int32.toNatClampNeg p1))]) rfl ?_
            refine lv_istore (lv' := [(5, .int (sR 16 (Int32.toNatClampNeg p1))), (4, .int 200), (3, .int 1), (0, .ref (g 0)), (1, .int p1), (2, .int p2)]) hx hb dX5_store_62 hl (by decide) rfl (fun ls hl => ?_)
            refine lv_aload_n hx hb dX5_store_64 rfl (lv_at hl 3 rfl) ?_
            refine va_get (D := D) (ci := 5) (v := .ref (g 8)) (C := RX5) (T := TX5) (N := 33) hx hb hts hinR hown hE.1 hPR 0 rfl rfl 15 (by decide) (hts (.fieldLink RX5 41 "WallStonesModel" "store" "[I") (List.mem_of_getElem? (i := 1) rfl)) (fun _ h9 => h9) rfl dX5_store_65 ?_
            refine lv_iload_n hx hb dX5_store_68 rfl (lv_at hl 4 rfl) ?_
            refine lv_iload_n hx hb dX5_store_69 rfl (lv_at hl 5 rfl) ?_
            refine va_iast hx hb hE.1 hPR (wD_of hg (c := 0) (n := 16) (by decide) (by decide) rfl) hS 8 0 rfl rfl (vp_in_iff.mpr (by omega)) dX5_store_70 (fun H locs hPn _ hS => ?_)
            have hPR : va_P D vwCl (cellR cI g (up sR 16 (Int32.toNatClampNeg p1) p2) vR) H := (congrArg (fun z => va_P D vwCl z H) setR_R16).mp hPn
            refine lv_iload hx hb dX5_store_71 (lv_at hl 0 rfl) ?_
            have hM : (m_R_store sR p1 p2) = (((sR 16 (Int32.toNatClampNeg p1)), (up sR 16 (Int32.toNatClampNeg p1) p2)) : Int32 × St) := hM
            exact hret (sR 16 (Int32.toNatClampNeg p1)) H locs _ ls (nr_i _) dX5_store_73 (ret1 hM) (rP_v1 (P := fun (z0 : St) => va_P D vwCl (cellR cI g z0 vR) H) hM hPR) hS
          · have hM := hM.trans (if_pos c_9)
            have t_9 := eq_t c_9
            rw [tl_0] at t_9
            refine lv_iconst (v := (-1)) hx hb dX5_store_54 (by decide) ?_
            have hM : (m_R_store sR p1 p2) = (((-1), sR) : Int32 × St) := hM
            exact hret (-1) H locs _ ls (nr_i _) dX5_store_55 (ret1 hM) (rP_v1 (P := fun (z0 : St) => va_P D vwCl (cellR cI g z0 vR) H) hM hPR) hS
  · have hM := hM.trans (if_neg c_1)
    have t_1 := ne_t c_1
    rw [tl_0] at t_1
    refine lv_iload_n hx hb dX5_store_4 rfl (lv_at hl 1 rfl) ?_
    refine lv_iconst (v := 4) hx hb dX5_store_5 (by decide) ?_
    refine lv_icmp_ne (tgt := 13) hx hb dX5_store_6 (by decide) (fun c_10 => ?_) (fun c_10 => ?_)
    · have hM := hM.trans (if_neg c_10)
      have t_10 := ne_t c_10
      rw [tl_4] at t_10
      refine lv_iconst (v := 0) hx hb dX5_store_13 (by decide) ?_
      refine lv_istore_n (lv' := [(3, .int 0), (0, .ref (g 0)), (1, .int p1), (2, .int p2)]) hx hb dX5_store_14 rfl hl (by decide) rfl (fun ls hl => ?_)
      refine lv_iload_n hx hb dX5_store_15 rfl (lv_at hl 2 rfl) ?_
      refine lv_if_eq (tgt := 24) hx hb dX5_store_16 (by decide) (fun c_11 => ?_) (fun c_11 => ?_)
      · have hM := hM.trans (if_pos c_11)
        have t_11 := eq_t c_11
        rw [tl_0] at t_11
        refine lv_sipush (v := 200) hx hb dX5_store_24 (by decide) ?_
        refine lv_goto (tgt := 33) hx hb dX5_store_27 (by decide) ?_
        refine lv_istore (lv' := [(4, .int 200), (3, .int 0), (0, .ref (g 0)), (1, .int p1), (2, .int p2)]) hx hb dX5_store_33 hl (by decide) rfl (fun ls hl => ?_)
        refine lv_iload_n hx hb dX5_store_35 rfl (lv_at hl 3 rfl) ?_
        refine lv_iconst (v := 0) hx hb dX5_store_36 (by decide) ?_
        refine lv_iconst (v := 4) hx hb dX5_store_37 (by decide) ?_
        refine runS_i (va_runS (As := [.int p1, .int 0, .int 4]) (rest := []) ⟨hx, hb, hml, hown, hts⟩ (K_R_in p1 0 4) (va_cwS 3 hts gX5_store_X5_in rfl rfl rfl (by decide +kernel) ⟨Nat.le_of_ble_eq_true rfl, Nat.le_of_ble_eq_true rfl⟩) (preS_of hE hA hS trivial) rfl rfl hl.1 rfl (lv_room (Nat.le_of_ble_eq_true rfl)) dX5_store_38 ⟨Nat.zero_le _, Nat.zero_le _⟩) ?_
        refine lv_if_eq (tgt := 54) hx hb dX5_store_41 (by decide) (fun c_12 => ?_) (fun c_12 => ?_)
        · have hM := hM.trans (if_pos c_12)
          have t_12 := eq_t c_12
          rw [tl_0] at t_12
          refine lv_iconst (v := (-1)) hx hb dX5_store_54 (by decide) ?_
          have hM : (m_R_store sR p1 p2) = (((-1), sR) : Int32 × St) := hM
          exact hret (-1) H locs _ ls (nr_i _) dX5_store_55 (ret1 hM) (rP_v1 (P := fun (z0 : St) => va_P D vwCl (cellR cI g z0 vR) H) hM hPR) hS
        · have hM := hM.trans (if_neg c_12)
          have t_12 := ne_t c_12
          rw [tl_0] at t_12
          have u_12 := in_t c_12
          rw [tl_0, tl_4] at u_12
          refine lv_iload_n hx hb dX5_store_44 rfl (lv_at hl 4 rfl) ?_
          refine lv_iload_n hx hb dX5_store_45 rfl (lv_at hl 1 rfl) ?_
          refine lv_iload hx hb dX5_store_46 (lv_at hl 0 rfl) ?_
          refine runS_i (va_runS (As := [.int p2, .int 0, .int 200]) (rest := []) ⟨hx, hb, hml, hown, hts⟩ (K_R_in p2 0 200) (va_cwS 3 hts gX5_store_X5_in rfl rfl rfl (by decide +kernel) ⟨Nat.le_of_ble_eq_true rfl, Nat.le_of_ble_eq_true rfl⟩) (preS_of hE hA hS trivial) rfl rfl hl.1 rfl (lv_room (Nat.le_of_ble_eq_true rfl)) dX5_store_48 ⟨Nat.zero_le _, Nat.zero_le _⟩) ?_
          refine lv_if_ne (tgt := 56) hx hb dX5_store_51 (by decide) (fun c_13 => ?_) (fun c_13 => ?_)
          · have hM := hM.trans (if_neg c_13)
            have t_13 := ne_t c_13
            rw [tl_0] at t_13
            have u_13 := in_t c_13
            rw [tl_0, tl_200] at u_13
            refine lv_aload_n hx hb dX5_store_56 rfl (lv_at hl 2 rfl) ?_
            refine va_get (D := D) (ci := 5) (v := .ref (g 8)) (C := RX5) (T := TX5) (N := 33) hx hb hts hinR hown hE.1 hPR 0 rfl rfl 15 (by decide) (hts (.fieldLink RX5 41 "WallStonesModel" "store" "[I") (List.mem_of_getElem? (i := 1) rfl)) (fun _ h9 => h9) rfl dX5_store_57 ?_
            refine lv_iload_n hx hb dX5_store_60 rfl (lv_at hl 3 rfl) ?_
            refine va_iald hx hb hE.1 hPR 8 0 rfl rfl (vp_in_iff.mpr (by omega)) dX5_store_61 ?_
            refine W.eq (g2 := F0 m 62 ls [.int (sR 16 (Int32.toNatClampNeg p1))]) rfl ?_
            refine lv_istore (lv' := [(5, .int (sR 16 (Int32.toNatClampNeg p1))), (4, .int 200), (3, .int 0), (0, .ref (g 0)), (1, .int p1), (2, .int p2)]) hx hb dX5_store_62 hl (by decide) rfl (fun ls hl => ?_)
            refine lv_aload_n hx hb dX5_store_64 rfl (lv_at hl 3 rfl) ?_
            refine va_get (D := D) (ci := 5) (v := .ref (g 8)) (C := RX5) (T := TX5) (N := 33) hx hb hts hinR hown hE.1 hPR 0 rfl rfl 15 (by decide) (hts (.fieldLink RX5 41 "WallStonesModel" "store" "[I") (List.mem_of_getElem? (i := 1) rfl)) (fun _ h9 => h9) rfl dX5_store_65 ?_
            refine lv_iload_n hx hb dX5_store_68 rfl (lv_at hl 4 rfl) ?_
            refine lv_iload_n hx hb dX5_store_69 rfl (lv_at hl 5 rfl) ?_
            refine va_iast hx hb hE.1 hPR (wD_of hg (c := 0) (n := 16) (by decide) (by decide) rfl) hS 8 0 rfl rfl (vp_in_iff.mpr (by omega)) dX5_store_70 (fun H locs hPn _ hS => ?_)
            have hPR : va_P D vwCl (cellR cI g (up sR 16 (Int32.toNatClampNeg p1) p2) vR) H := (congrArg (fun z => va_P D vwCl z H) setR_R16).mp hPn
            refine lv_iload hx hb dX5_store_71 (lv_at hl 0 rfl) ?_
            have hM : (m_R_store sR p1 p2) = (((sR 16 (Int32.toNatClampNeg p1)), (up sR 16 (Int32.toNatClampNeg p1) p2)) : Int32 × St) := hM
            exact hret (sR 16 (Int32.toNatClampNeg p1)) H locs _ ls (nr_i _) dX5_store_73 (ret1 hM) (rP_v1 (P := fun (z0 : St) => va_P D vwCl (cellR cI g z0 vR) H) hM hPR) hS
          · have hM := hM.trans (if_pos c_13)
            have t_13 := eq_t c_13
            rw [tl_0] at t_13
            refine lv_iconst (v := (-1)) hx hb dX5_store_54 (by decide) ?_
            have hM : (m_R_store sR p1 p2) = (((-1), sR) : Int32 × St) := hM
            exact hret (-1) H locs _ ls (nr_i _) dX5_store_55 (ret1 hM) (rP_v1 (P := fun (z0 : St) => va_P D vwCl (cellR cI g z0 vR) H) hM hPR) hS
      · have hM := hM.trans (if_neg c_11)
        have t_11 := ne_t c_11
        rw [tl_0] at t_11
        refine lv_iload_n hx hb dX5_store_19 rfl (lv_at hl 2 rfl) ?_
        refine lv_iconst (v := 4) hx hb dX5_store_20 (by decide) ?_
        refine lv_icmp_ne (tgt := 30) hx hb dX5_store_21 (by decide) (fun c_14 => ?_) (fun c_14 => ?_)
        · have hM := hM.trans (if_neg c_14)
          have t_14 := ne_t c_14
          rw [tl_4] at t_14
          refine lv_sipush (v := 9999) hx hb dX5_store_30 (by decide) ?_
          refine lv_istore (lv' := [(4, .int 9999), (3, .int 0), (0, .ref (g 0)), (1, .int p1), (2, .int p2)]) hx hb dX5_store_33 hl (by decide) rfl (fun ls hl => ?_)
          refine lv_iload_n hx hb dX5_store_35 rfl (lv_at hl 3 rfl) ?_
          refine lv_iconst (v := 0) hx hb dX5_store_36 (by decide) ?_
          refine lv_iconst (v := 4) hx hb dX5_store_37 (by decide) ?_
          refine runS_i (va_runS (As := [.int p1, .int 0, .int 4]) (rest := []) ⟨hx, hb, hml, hown, hts⟩ (K_R_in p1 0 4) (va_cwS 3 hts gX5_store_X5_in rfl rfl rfl (by decide +kernel) ⟨Nat.le_of_ble_eq_true rfl, Nat.le_of_ble_eq_true rfl⟩) (preS_of hE hA hS trivial) rfl rfl hl.1 rfl (lv_room (Nat.le_of_ble_eq_true rfl)) dX5_store_38 ⟨Nat.zero_le _, Nat.zero_le _⟩) ?_
          refine lv_if_eq (tgt := 54) hx hb dX5_store_41 (by decide) (fun c_15 => ?_) (fun c_15 => ?_)
          · have hM := hM.trans (if_pos c_15)
            have t_15 := eq_t c_15
            rw [tl_0] at t_15
            refine lv_iconst (v := (-1)) hx hb dX5_store_54 (by decide) ?_
            have hM : (m_R_store sR p1 p2) = (((-1), sR) : Int32 × St) := hM
            exact hret (-1) H locs _ ls (nr_i _) dX5_store_55 (ret1 hM) (rP_v1 (P := fun (z0 : St) => va_P D vwCl (cellR cI g z0 vR) H) hM hPR) hS
          · have hM := hM.trans (if_neg c_15)
            have t_15 := ne_t c_15
            rw [tl_0] at t_15
            have u_15 := in_t c_15
            rw [tl_0, tl_4] at u_15
            refine lv_iload_n hx hb dX5_store_44 rfl (lv_at hl 4 rfl) ?_
            refine lv_iload_n hx hb dX5_store_45 rfl (lv_at hl 1 rfl) ?_
            refine lv_iload hx hb dX5_store_46 (lv_at hl 0 rfl) ?_
            refine runS_i (va_runS (As := [.int p2, .int 0, .int 9999]) (rest := []) ⟨hx, hb, hml, hown, hts⟩ (K_R_in p2 0 9999) (va_cwS 3 hts gX5_store_X5_in rfl rfl rfl (by decide +kernel) ⟨Nat.le_of_ble_eq_true rfl, Nat.le_of_ble_eq_true rfl⟩) (preS_of hE hA hS trivial) rfl rfl hl.1 rfl (lv_room (Nat.le_of_ble_eq_true rfl)) dX5_store_48 ⟨Nat.zero_le _, Nat.zero_le _⟩) ?_
            refine lv_if_ne (tgt := 56) hx hb dX5_store_51 (by decide) (fun c_16 => ?_) (fun c_16 => ?_)
            · have hM := hM.trans (if_neg c_16)
              have t_16 := ne_t c_16
              rw [tl_0] at t_16
              have u_16 := in_t c_16
              rw [tl_0, tl_9999] at u_16
              refine lv_aload_n hx hb dX5_store_56 rfl (lv_at hl 2 rfl) ?_
              refine va_get (D := D) (ci := 5) (v := .ref (g 8)) (C := RX5) (T := TX5) (N := 33) hx hb hts hinR hown hE.1 hPR 0 rfl rfl 15 (by decide) (hts (.fieldLink RX5 41 "WallStonesModel" "store" "[I") (List.mem_of_getElem? (i := 1) rfl)) (fun _ h9 => h9) rfl dX5_store_57 ?_
              refine lv_iload_n hx hb dX5_store_60 rfl (lv_at hl 3 rfl) ?_
              refine va_iald hx hb hE.1 hPR 8 0 rfl rfl (vp_in_iff.mpr (by omega)) dX5_store_61 ?_
              refine W.eq (g2 := F0 m 62 ls [.int (sR 16 (Int32.toNatClampNeg p1))]) rfl ?_
              refine lv_istore (lv' := [(5, .int (sR 16 (Int32.toNatClampNeg p1))), (4, .int 9999), (3, .int 0), (0, .ref (g 0)), (1, .int p1), (2, .int p2)]) hx hb dX5_store_62 hl (by decide) rfl (fun ls hl => ?_)
              refine lv_aload_n hx hb dX5_store_64 rfl (lv_at hl 3 rfl) ?_
              refine va_get (D := D) (ci := 5) (v := .ref (g 8)) (C := RX5) (T := TX5) (N := 33) hx hb hts hinR hown hE.1 hPR 0 rfl rfl 15 (by decide) (hts (.fieldLink RX5 41 "WallStonesModel" "store" "[I") (List.mem_of_getElem? (i := 1) rfl)) (fun _ h9 => h9) rfl dX5_store_65 ?_
              refine lv_iload_n hx hb dX5_store_68 rfl (lv_at hl 4 rfl) ?_
              refine lv_iload_n hx hb dX5_store_69 rfl (lv_at hl 5 rfl) ?_
              refine va_iast hx hb hE.1 hPR (wD_of hg (c := 0) (n := 16) (by decide) (by decide) rfl) hS 8 0 rfl rfl (vp_in_iff.mpr (by omega)) dX5_store_70 (fun H locs hPn _ hS => ?_)
              have hPR : va_P D vwCl (cellR cI g (up sR 16 (Int32.toNatClampNeg p1) p2) vR) H := (congrArg (fun z => va_P D vwCl z H) setR_R16).mp hPn
              refine lv_iload hx hb dX5_store_71 (lv_at hl 0 rfl) ?_
              have hM : (m_R_store sR p1 p2) = (((sR 16 (Int32.toNatClampNeg p1)), (up sR 16 (Int32.toNatClampNeg p1) p2)) : Int32 × St) := hM
              exact hret (sR 16 (Int32.toNatClampNeg p1)) H locs _ ls (nr_i _) dX5_store_73 (ret1 hM) (rP_v1 (P := fun (z0 : St) => va_P D vwCl (cellR cI g z0 vR) H) hM hPR) hS
            · have hM := hM.trans (if_pos c_16)
              have t_16 := eq_t c_16
              rw [tl_0] at t_16
              refine lv_iconst (v := (-1)) hx hb dX5_store_54 (by decide) ?_
              have hM : (m_R_store sR p1 p2) = (((-1), sR) : Int32 × St) := hM
              exact hret (-1) H locs _ ls (nr_i _) dX5_store_55 (ret1 hM) (rP_v1 (P := fun (z0 : St) => va_P D vwCl (cellR cI g z0 vR) H) hM hPR) hS
        · have hM := hM.trans (if_pos c_14)
          have t_14 := eq_t c_14
          rw [tl_4] at t_14
          refine lv_sipush (v := 200) hx hb dX5_store_24 (by decide) ?_
          refine lv_goto (tgt := 33) hx hb dX5_store_27 (by decide) ?_
          refine lv_istore (lv' := [(4, .int 200), (3, .int 0), (0, .ref (g 0)), (1, .int p1), (2, .int p2)]) hx hb dX5_store_33 hl (by decide) rfl (fun ls hl => ?_)
          refine lv_iload_n hx hb dX5_store_35 rfl (lv_at hl 3 rfl) ?_
          refine lv_iconst (v := 0) hx hb dX5_store_36 (by decide) ?_
          refine lv_iconst (v := 4) hx hb dX5_store_37 (by decide) ?_
          refine runS_i (va_runS (As := [.int p1, .int 0, .int 4]) (rest := []) ⟨hx, hb, hml, hown, hts⟩ (K_R_in p1 0 4) (va_cwS 3 hts gX5_store_X5_in rfl rfl rfl (by decide +kernel) ⟨Nat.le_of_ble_eq_true rfl, Nat.le_of_ble_eq_true rfl⟩) (preS_of hE hA hS trivial) rfl rfl hl.1 rfl (lv_room (Nat.le_of_ble_eq_true rfl)) dX5_store_38 ⟨Nat.zero_le _, Nat.zero_le _⟩) ?_
          refine lv_if_eq (tgt := 54) hx hb dX5_store_41 (by decide) (fun c_17 => ?_) (fun c_17 => ?_)
          · have hM := hM.trans (if_pos c_17)
            have t_17 := eq_t c_17
            rw [tl_0] at t_17
            refine lv_iconst (v := (-1)) hx hb dX5_store_54 (by decide) ?_
            have hM : (m_R_store sR p1 p2) = (((-1), sR) : Int32 × St) := hM
            exact hret (-1) H locs _ ls (nr_i _) dX5_store_55 (ret1 hM) (rP_v1 (P := fun (z0 : St) => va_P D vwCl (cellR cI g z0 vR) H) hM hPR) hS
          · have hM := hM.trans (if_neg c_17)
            have t_17 := ne_t c_17
            rw [tl_0] at t_17
            have u_17 := in_t c_17
            rw [tl_0, tl_4] at u_17
            refine lv_iload_n hx hb dX5_store_44 rfl (lv_at hl 4 rfl) ?_
            refine lv_iload_n hx hb dX5_store_45 rfl (lv_at hl 1 rfl) ?_
            refine lv_iload hx hb dX5_store_46 (lv_at hl 0 rfl) ?_
            refine runS_i (va_runS (As := [.int p2, .int 0, .int 200]) (rest := []) ⟨hx, hb, hml, hown, hts⟩ (K_R_in p2 0 200) (va_cwS 3 hts gX5_store_X5_in rfl rfl rfl (by decide +kernel) ⟨Nat.le_of_ble_eq_true rfl, Nat.le_of_ble_eq_true rfl⟩) (preS_of hE hA hS trivial) rfl rfl hl.1 rfl (lv_room (Nat.le_of_ble_eq_true rfl)) dX5_store_48 ⟨Nat.zero_le _, Nat.zero_le _⟩) ?_
            refine lv_if_ne (tgt := 56) hx hb dX5_store_51 (by decide) (fun c_18 => ?_) (fun c_18 => ?_)
            · have hM := hM.trans (if_neg c_18)
              have t_18 := ne_t c_18
              rw [tl_0] at t_18
              have u_18 := in_t c_18
              rw [tl_0, tl_200] at u_18
              refine lv_aload_n hx hb dX5_store_56 rfl (lv_at hl 2 rfl) ?_
              refine va_get (D := D) (ci := 5) (v := .ref (g 8)) (C := RX5) (T := TX5) (N := 33) hx hb hts hinR hown hE.1 hPR 0 rfl rfl 15 (by decide) (hts (.fieldLink RX5 41 "WallStonesModel" "store" "[I") (List.mem_of_getElem? (i := 1) rfl)) (fun _ h9 => h9) rfl dX5_store_57 ?_
              refine lv_iload_n hx hb dX5_store_60 rfl (lv_at hl 3 rfl) ?_
              refine va_iald hx hb hE.1 hPR 8 0 rfl rfl (vp_in_iff.mpr (by omega)) dX5_store_61 ?_
              refine W.eq (g2 := F0 m 62 ls [.int (sR 16 (Int32.toNatClampNeg p1))]) rfl ?_
              refine lv_istore (lv' := [(5, .int (sR 16 (Int32.toNatClampNeg p1))), (4, .int 200), (3, .int 0), (0, .ref (g 0)), (1, .int p1), (2, .int p2)]) hx hb dX5_store_62 hl (by decide) rfl (fun ls hl => ?_)
              refine lv_aload_n hx hb dX5_store_64 rfl (lv_at hl 3 rfl) ?_
              refine va_get (D := D) (ci := 5) (v := .ref (g 8)) (C := RX5) (T := TX5) (N := 33) hx hb hts hinR hown hE.1 hPR 0 rfl rfl 15 (by decide) (hts (.fieldLink RX5 41 "WallStonesModel" "store" "[I") (List.mem_of_getElem? (i := 1) rfl)) (fun _ h9 => h9) rfl dX5_store_65 ?_
              refine lv_iload_n hx hb dX5_store_68 rfl (lv_at hl 4 rfl) ?_
              refine lv_iload_n hx hb dX5_store_69 rfl (lv_at hl 5 rfl) ?_
              refine va_iast hx hb hE.1 hPR (wD_of hg (c := 0) (n := 16) (by decide) (by decide) rfl) hS 8 0 rfl rfl (vp_in_iff.mpr (by omega)) dX5_store_70 (fun H locs hPn _ hS => ?_)
              have hPR : va_P D vwCl (cellR cI g (up sR 16 (Int32.toNatClampNeg p1) p2) vR) H := (congrArg (fun z => va_P D vwCl z H) setR_R16).mp hPn
              refine lv_iload hx hb dX5_store_71 (lv_at hl 0 rfl) ?_
              have hM : (m_R_store sR p1 p2) = (((sR 16 (Int32.toNatClampNeg p1)), (up sR 16 (Int32.toNatClampNeg p1) p2)) : Int32 × St) := hM
              exact hret (sR 16 (Int32.toNatClampNeg p1)) H locs _ ls (nr_i _) dX5_store_73 (ret1 hM) (rP_v1 (P := fun (z0 : St) => va_P D vwCl (cellR cI g z0 vR) H) hM hPR) hS
            · have hM := hM.trans (if_pos c_18)
              have t_18 := eq_t c_18
              rw [tl_0] at t_18
              refine lv_iconst (v := (-1)) hx hb dX5_store_54 (by decide) ?_
              have hM : (m_R_store sR p1 p2) = (((-1), sR) : Int32 × St) := hM
              exact hret (-1) H locs _ ls (nr_i _) dX5_store_55 (ret1 hM) (rP_v1 (P := fun (z0 : St) => va_P D vwCl (cellR cI g z0 vR) H) hM hPR) hS
    · have hM := hM.trans (if_pos c_10)
      have t_10 := eq_t c_10
      rw [tl_4] at t_10
      refine lv_iconst (v := 1) hx hb dX5_store_9 (by decide) ?_
      refine lv_goto (tgt := 14) hx hb dX5_store_10 (by decide) ?_
      refine lv_istore_n (lv' := [(3, .int 1), (0, .ref (g 0)), (1, .int p1), (2, .int p2)]) hx hb dX5_store_14 rfl hl (by decide) rfl (fun ls hl => ?_)
      refine lv_iload_n hx hb dX5_store_15 rfl (lv_at hl 2 rfl) ?_
      refine lv_if_eq (tgt := 24) hx hb dX5_store_16 (by decide) (fun c_19 => ?_) (fun c_19 => ?_)
      · have hM := hM.trans (if_pos c_19)
        have t_19 := eq_t c_19
        rw [tl_0] at t_19
        refine lv_sipush (v := 200) hx hb dX5_store_24 (by decide) ?_
        refine lv_goto (tgt := 33) hx hb dX5_store_27 (by decide) ?_
        refine lv_istore (lv' := [(4, .int 200), (3, .int 1), (0, .ref (g 0)), (1, .int p1), (2, .int p2)]) hx hb dX5_store_33 hl (by decide) rfl (fun ls hl => ?_)
        refine lv_iload_n hx hb dX5_store_35 rfl (lv_at hl 3 rfl) ?_
        refine lv_iconst (v := 0) hx hb dX5_store_36 (by decide) ?_
        refine lv_iconst (v := 4) hx hb dX5_store_37 (by decide) ?_
        refine runS_i (va_runS (As := [.int p1, .int 0, .int 4]) (rest := []) ⟨hx, hb, hml, hown, hts⟩ (K_R_in p1 0 4) (va_cwS 3 hts gX5_store_X5_in rfl rfl rfl (by decide +kernel) ⟨Nat.le_of_ble_eq_true rfl, Nat.le_of_ble_eq_true rfl⟩) (preS_of hE hA hS trivial) rfl rfl hl.1 rfl (lv_room (Nat.le_of_ble_eq_true rfl)) dX5_store_38 ⟨Nat.zero_le _, Nat.zero_le _⟩) ?_
        refine lv_if_eq (tgt := 54) hx hb dX5_store_41 (by decide) (fun c_20 => ?_) (fun c_20 => ?_)
        · have hM := hM.trans (if_pos c_20)
          have t_20 := eq_t c_20
          rw [tl_0] at t_20
          refine lv_iconst (v := (-1)) hx hb dX5_store_54 (by decide) ?_
          have hM : (m_R_store sR p1 p2) = (((-1), sR) : Int32 × St) := hM
          exact hret (-1) H locs _ ls (nr_i _) dX5_store_55 (ret1 hM) (rP_v1 (P := fun (z0 : St) => va_P D vwCl (cellR cI g z0 vR) H) hM hPR) hS
        · have hM := hM.trans (if_neg c_20)
          have t_20 := ne_t c_20
          rw [tl_0] at t_20
          have u_20 := in_t c_20
          rw [tl_0, tl_4] at u_20
          refine lv_iload_n hx hb dX5_store_44 rfl (lv_at hl 4 rfl) ?_
          refine lv_iload_n hx hb dX5_store_45 rfl (lv_at hl 1 rfl) ?_
          refine lv_iload hx hb dX5_store_46 (lv_at hl 0 rfl) ?_
          refine runS_i (va_runS (As := [.int p2, .int 1, .int 200]) (rest := []) ⟨hx, hb, hml, hown, hts⟩ (K_R_in p2 1 200) (va_cwS 3 hts gX5_store_X5_in rfl rfl rfl (by decide +kernel) ⟨Nat.le_of_ble_eq_true rfl, Nat.le_of_ble_eq_true rfl⟩) (preS_of hE hA hS trivial) rfl rfl hl.1 rfl (lv_room (Nat.le_of_ble_eq_true rfl)) dX5_store_48 ⟨Nat.zero_le _, Nat.zero_le _⟩) ?_
          refine lv_if_ne (tgt := 56) hx hb dX5_store_51 (by decide) (fun c_21 => ?_) (fun c_21 => ?_)
          · have hM := hM.trans (if_neg c_21)
            have t_21 := ne_t c_21
            rw [tl_0] at t_21
            have u_21 := in_t c_21
            rw [tl_1, tl_200] at u_21
            refine lv_aload_n hx hb dX5_store_56 rfl (lv_at hl 2 rfl) ?_
            refine va_get (D := D) (ci := 5) (v := .ref (g 8)) (C := RX5) (T := TX5) (N := 33) hx hb hts hinR hown hE.1 hPR 0 rfl rfl 15 (by decide) (hts (.fieldLink RX5 41 "WallStonesModel" "store" "[I") (List.mem_of_getElem? (i := 1) rfl)) (fun _ h9 => h9) rfl dX5_store_57 ?_
            refine lv_iload_n hx hb dX5_store_60 rfl (lv_at hl 3 rfl) ?_
            refine va_iald hx hb hE.1 hPR 8 0 rfl rfl (vp_in_iff.mpr (by omega)) dX5_store_61 ?_
            refine W.eq (g2 := F0 m 62 ls [.int (sR 16 (Int32.toNatClampNeg p1))]) rfl ?_
            refine lv_istore (lv' := [(5, .int (sR 16 (Int32.toNatClampNeg p1))), (4, .int 200), (3, .int 1), (0, .ref (g 0)), (1, .int p1), (2, .int p2)]) hx hb dX5_store_62 hl (by decide) rfl (fun ls hl => ?_)
            refine lv_aload_n hx hb dX5_store_64 rfl (lv_at hl 3 rfl) ?_
            refine va_get (D := D) (ci := 5) (v := .ref (g 8)) (C := RX5) (T := TX5) (N := 33) hx hb hts hinR hown hE.1 hPR 0 rfl rfl 15 (by decide) (hts (.fieldLink RX5 41 "WallStonesModel" "store" "[I") (List.mem_of_getElem? (i := 1) rfl)) (fun _ h9 => h9) rfl dX5_store_65 ?_
            refine lv_iload_n hx hb dX5_store_68 rfl (lv_at hl 4 rfl) ?_
            refine lv_iload_n hx hb dX5_store_69 rfl (lv_at hl 5 rfl) ?_
            refine va_iast hx hb hE.1 hPR (wD_of hg (c := 0) (n := 16) (by decide) (by decide) rfl) hS 8 0 rfl rfl (vp_in_iff.mpr (by omega)) dX5_store_70 (fun H locs hPn _ hS => ?_)
            have hPR : va_P D vwCl (cellR cI g (up sR 16 (Int32.toNatClampNeg p1) p2) vR) H := (congrArg (fun z => va_P D vwCl z H) setR_R16).mp hPn
            refine lv_iload hx hb dX5_store_71 (lv_at hl 0 rfl) ?_
            have hM : (m_R_store sR p1 p2) = (((sR 16 (Int32.toNatClampNeg p1)), (up sR 16 (Int32.toNatClampNeg p1) p2)) : Int32 × St) := hM
            exact hret (sR 16 (Int32.toNatClampNeg p1)) H locs _ ls (nr_i _) dX5_store_73 (ret1 hM) (rP_v1 (P := fun (z0 : St) => va_P D vwCl (cellR cI g z0 vR) H) hM hPR) hS
          · have hM := hM.trans (if_pos c_21)
            have t_21 := eq_t c_21
            rw [tl_0] at t_21
            refine lv_iconst (v := (-1)) hx hb dX5_store_54 (by decide) ?_
            have hM : (m_R_store sR p1 p2) = (((-1), sR) : Int32 × St) := hM
            exact hret (-1) H locs _ ls (nr_i _) dX5_store_55 (ret1 hM) (rP_v1 (P := fun (z0 : St) => va_P D vwCl (cellR cI g z0 vR) H) hM hPR) hS
      · have hM := hM.trans (if_neg c_19)
        have t_19 := ne_t c_19
        rw [tl_0] at t_19
        refine lv_iload_n hx hb dX5_store_19 rfl (lv_at hl 2 rfl) ?_
        refine lv_iconst (v := 4) hx hb dX5_store_20 (by decide) ?_
        refine lv_icmp_ne (tgt := 30) hx hb dX5_store_21 (by decide) (fun c_22 => ?_) (fun c_22 => ?_)
        · have hM := hM.trans (if_neg c_22)
          have t_22 := ne_t c_22
          rw [tl_4] at t_22
          refine lv_sipush (v := 9999) hx hb dX5_store_30 (by decide) ?_
          refine lv_istore (lv' := [(4, .int 9999), (3, .int 1), (0, .ref (g 0)), (1, .int p1), (2, .int p2)]) hx hb dX5_store_33 hl (by decide) rfl (fun ls hl => ?_)
          refine lv_iload_n hx hb dX5_store_35 rfl (lv_at hl 3 rfl) ?_
          refine lv_iconst (v := 0) hx hb dX5_store_36 (by decide) ?_
          refine lv_iconst (v := 4) hx hb dX5_store_37 (by decide) ?_
          refine runS_i (va_runS (As := [.int p1, .int 0, .int 4]) (rest := []) ⟨hx, hb, hml, hown, hts⟩ (K_R_in p1 0 4) (va_cwS 3 hts gX5_store_X5_in rfl rfl rfl (by decide +kernel) ⟨Nat.le_of_ble_eq_true rfl, Nat.le_of_ble_eq_true rfl⟩) (preS_of hE hA hS trivial) rfl rfl hl.1 rfl (lv_room (Nat.le_of_ble_eq_true rfl)) dX5_store_38 ⟨Nat.zero_le _, Nat.zero_le _⟩) ?_
          refine lv_if_eq (tgt := 54) hx hb dX5_store_41 (by decide) (fun c_23 => ?_) (fun c_23 => ?_)
          · have hM := hM.trans (if_pos c_23)
            have t_23 := eq_t c_23
            rw [tl_0] at t_23
            refine lv_iconst (v := (-1)) hx hb dX5_store_54 (by decide) ?_
            have hM : (m_R_store sR p1 p2) = (((-1), sR) : Int32 × St) := hM
            exact hret (-1) H locs _ ls (nr_i _) dX5_store_55 (ret1 hM) (rP_v1 (P := fun (z0 : St) => va_P D vwCl (cellR cI g z0 vR) H) hM hPR) hS
          · have hM := hM.trans (if_neg c_23)
            have t_23 := ne_t c_23
            rw [tl_0] at t_23
            have u_23 := in_t c_23
            rw [tl_0, tl_4] at u_23
            refine lv_iload_n hx hb dX5_store_44 rfl (lv_at hl 4 rfl) ?_
            refine lv_iload_n hx hb dX5_store_45 rfl (lv_at hl 1 rfl) ?_
            refine lv_iload hx hb dX5_store_46 (lv_at hl 0 rfl) ?_
            refine runS_i (va_runS (As := [.int p2, .int 1, .int 9999]) (rest := []) ⟨hx, hb, hml, hown, hts⟩ (K_R_in p2 1 9999) (va_cwS 3 hts gX5_store_X5_in rfl rfl rfl (by decide +kernel) ⟨Nat.le_of_ble_eq_true rfl, Nat.le_of_ble_eq_true rfl⟩) (preS_of hE hA hS trivial) rfl rfl hl.1 rfl (lv_room (Nat.le_of_ble_eq_true rfl)) dX5_store_48 ⟨Nat.zero_le _, Nat.zero_le _⟩) ?_
            refine lv_if_ne (tgt := 56) hx hb dX5_store_51 (by decide) (fun c_24 => ?_) (fun c_24 => ?_)
            · have hM := hM.trans (if_neg c_24)
              have t_24 := ne_t c_24
              rw [tl_0] at t_24
              have u_24 := in_t c_24
              rw [tl_1, tl_9999] at u_24
              refine lv_aload_n hx hb dX5_store_56 rfl (lv_at hl 2 rfl) ?_
              refine va_get (D := D) (ci := 5) (v := .ref (g 8)) (C := RX5) (T := TX5) (N := 33) hx hb hts hinR hown hE.1 hPR 0 rfl rfl 15 (by decide) (hts (.fieldLink RX5 41 "WallStonesModel" "store" "[I") (List.mem_of_getElem? (i := 1) rfl)) (fun _ h9 => h9) rfl dX5_store_57 ?_
              refine lv_iload_n hx hb dX5_store_60 rfl (lv_at hl 3 rfl) ?_
              refine va_iald hx hb hE.1 hPR 8 0 rfl rfl (vp_in_iff.mpr (by omega)) dX5_store_61 ?_
              refine W.eq (g2 := F0 m 62 ls [.int (sR 16 (Int32.toNatClampNeg p1))]) rfl ?_
              refine lv_istore (lv' := [(5, .int (sR 16 (Int32.toNatClampNeg p1))), (4, .int 9999), (3, .int 1), (0, .ref (g 0)), (1, .int p1), (2, .int p2)]) hx hb dX5_store_62 hl (by decide) rfl (fun ls hl => ?_)
              refine lv_aload_n hx hb dX5_store_64 rfl (lv_at hl 3 rfl) ?_
              refine va_get (D := D) (ci := 5) (v := .ref (g 8)) (C := RX5) (T := TX5) (N := 33) hx hb hts hinR hown hE.1 hPR 0 rfl rfl 15 (by decide) (hts (.fieldLink RX5 41 "WallStonesModel" "store" "[I") (List.mem_of_getElem? (i := 1) rfl)) (fun _ h9 => h9) rfl dX5_store_65 ?_
              refine lv_iload_n hx hb dX5_store_68 rfl (lv_at hl 4 rfl) ?_
              refine lv_iload_n hx hb dX5_store_69 rfl (lv_at hl 5 rfl) ?_
              refine va_iast hx hb hE.1 hPR (wD_of hg (c := 0) (n := 16) (by decide) (by decide) rfl) hS 8 0 rfl rfl (vp_in_iff.mpr (by omega)) dX5_store_70 (fun H locs hPn _ hS => ?_)
              have hPR : va_P D vwCl (cellR cI g (up sR 16 (Int32.toNatClampNeg p1) p2) vR) H := (congrArg (fun z => va_P D vwCl z H) setR_R16).mp hPn
              refine lv_iload hx hb dX5_store_71 (lv_at hl 0 rfl) ?_
              have hM : (m_R_store sR p1 p2) = (((sR 16 (Int32.toNatClampNeg p1)), (up sR 16 (Int32.toNatClampNeg p1) p2)) : Int32 × St) := hM
              exact hret (sR 16 (Int32.toNatClampNeg p1)) H locs _ ls (nr_i _) dX5_store_73 (ret1 hM) (rP_v1 (P := fun (z0 : St) => va_P D vwCl (cellR cI g z0 vR) H) hM hPR) hS
            · have hM := hM.trans (if_pos c_24)
              have t_24 := eq_t c_24
              rw [tl_0] at t_24
              refine lv_iconst (v := (-1)) hx hb dX5_store_54 (by decide) ?_
              have hM : (m_R_store sR p1 p2) = (((-1), sR) : Int32 × St) := hM
              exact hret (-1) H locs _ ls (nr_i _) dX5_store_55 (ret1 hM) (rP_v1 (P := fun (z0 : St) => va_P D vwCl (cellR cI g z0 vR) H) hM hPR) hS
        · have hM := hM.trans (if_pos c_22)
          have t_22 := eq_t c_22
          rw [tl_4] at t_22
          refine lv_sipush (v := 200) hx hb dX5_store_24 (by decide) ?_
          refine lv_goto (tgt := 33) hx hb dX5_store_27 (by decide) ?_
          refine lv_istore (lv' := [(4, .int 200), (3, .int 1), (0, .ref (g 0)), (1, .int p1), (2, .int p2)]) hx hb dX5_store_33 hl (by decide) rfl (fun ls hl => ?_)
          refine lv_iload_n hx hb dX5_store_35 rfl (lv_at hl 3 rfl) ?_
          refine lv_iconst (v := 0) hx hb dX5_store_36 (by decide) ?_
          refine lv_iconst (v := 4) hx hb dX5_store_37 (by decide) ?_
          refine runS_i (va_runS (As := [.int p1, .int 0, .int 4]) (rest := []) ⟨hx, hb, hml, hown, hts⟩ (K_R_in p1 0 4) (va_cwS 3 hts gX5_store_X5_in rfl rfl rfl (by decide +kernel) ⟨Nat.le_of_ble_eq_true rfl, Nat.le_of_ble_eq_true rfl⟩) (preS_of hE hA hS trivial) rfl rfl hl.1 rfl (lv_room (Nat.le_of_ble_eq_true rfl)) dX5_store_38 ⟨Nat.zero_le _, Nat.zero_le _⟩) ?_
          refine lv_if_eq (tgt := 54) hx hb dX5_store_41 (by decide) (fun c_25 => ?_) (fun c_25 => ?_)
          · have hM := hM.trans (if_pos c_25)
            have t_25 := eq_t c_25
            rw [tl_0] at t_25
            refine lv_iconst (v := (-1)) hx hb dX5_store_54 (by decide) ?_
            have hM : (m_R_store sR p1 p2) = (((-1), sR) : Int32 × St) := hM
            exact hret (-1) H locs _ ls (nr_i _) dX5_store_55 (ret1 hM) (rP_v1 (P := fun (z0 : St) => va_P D vwCl (cellR cI g z0 vR) H) hM hPR) hS
          · have hM := hM.trans (if_neg c_25)
            have t_25 := ne_t c_25
            rw [tl_0] at t_25
            have u_25 := in_t c_25
            rw [tl_0, tl_4] at u_25
            refine lv_iload_n hx hb dX5_store_44 rfl (lv_at hl 4 rfl) ?_
            refine lv_iload_n hx hb dX5_store_45 rfl (lv_at hl 1 rfl) ?_
            refine lv_iload hx hb dX5_store_46 (lv_at hl 0 rfl) ?_
            refine runS_i (va_runS (As := [.int p2, .int 1, .int 200]) (rest := []) ⟨hx, hb, hml, hown, hts⟩ (K_R_in p2 1 200) (va_cwS 3 hts gX5_store_X5_in rfl rfl rfl (by decide +kernel) ⟨Nat.le_of_ble_eq_true rfl, Nat.le_of_ble_eq_true rfl⟩) (preS_of hE hA hS trivial) rfl rfl hl.1 rfl (lv_room (Nat.le_of_ble_eq_true rfl)) dX5_store_48 ⟨Nat.zero_le _, Nat.zero_le _⟩) ?_
            refine lv_if_ne (tgt := 56) hx hb dX5_store_51 (by decide) (fun c_26 => ?_) (fun c_26 => ?_)
            · have hM := hM.trans (if_neg c_26)
              have t_26 := ne_t c_26
              rw [tl_0] at t_26
              have u_26 := in_t c_26
              rw [tl_1, tl_200] at u_26
              refine lv_aload_n hx hb dX5_store_56 rfl (lv_at hl 2 rfl) ?_
              refine va_get (D := D) (ci := 5) (v := .ref (g 8)) (C := RX5) (T := TX5) (N := 33) hx hb hts hinR hown hE.1 hPR 0 rfl rfl 15 (by decide) (hts (.fieldLink RX5 41 "WallStonesModel" "store" "[I") (List.mem_of_getElem? (i := 1) rfl)) (fun _ h9 => h9) rfl dX5_store_57 ?_
              refine lv_iload_n hx hb dX5_store_60 rfl (lv_at hl 3 rfl) ?_
              refine va_iald hx hb hE.1 hPR 8 0 rfl rfl (vp_in_iff.mpr (by omega)) dX5_store_61 ?_
              refine W.eq (g2 := F0 m 62 ls [.int (sR 16 (Int32.toNatClampNeg p1))]) rfl ?_
              refine lv_istore (lv' := [(5, .int (sR 16 (Int32.toNatClampNeg p1))), (4, .int 200), (3, .int 1), (0, .ref (g 0)), (1, .int p1), (2, .int p2)]) hx hb dX5_store_62 hl (by decide) rfl (fun ls hl => ?_)
              refine lv_aload_n hx hb dX5_store_64 rfl (lv_at hl 3 rfl) ?_
              refine va_get (D := D) (ci := 5) (v := .ref (g 8)) (C := RX5) (T := TX5) (N := 33) hx hb hts hinR hown hE.1 hPR 0 rfl rfl 15 (by decide) (hts (.fieldLink RX5 41 "WallStonesModel" "store" "[I") (List.mem_of_getElem? (i := 1) rfl)) (fun _ h9 => h9) rfl dX5_store_65 ?_
              refine lv_iload_n hx hb dX5_store_68 rfl (lv_at hl 4 rfl) ?_
              refine lv_iload_n hx hb dX5_store_69 rfl (lv_at hl 5 rfl) ?_
              refine va_iast hx hb hE.1 hPR (wD_of hg (c := 0) (n := 16) (by decide) (by decide) rfl) hS 8 0 rfl rfl (vp_in_iff.mpr (by omega)) dX5_store_70 (fun H locs hPn _ hS => ?_)
              have hPR : va_P D vwCl (cellR cI g (up sR 16 (Int32.toNatClampNeg p1) p2) vR) H := (congrArg (fun z => va_P D vwCl z H) setR_R16).mp hPn
              refine lv_iload hx hb dX5_store_71 (lv_at hl 0 rfl) ?_
              have hM : (m_R_store sR p1 p2) = (((sR 16 (Int32.toNatClampNeg p1)), (up sR 16 (Int32.toNatClampNeg p1) p2)) : Int32 × St) := hM
              exact hret (sR 16 (Int32.toNatClampNeg p1)) H locs _ ls (nr_i _) dX5_store_73 (ret1 hM) (rP_v1 (P := fun (z0 : St) => va_P D vwCl (cellR cI g z0 vR) H) hM hPR) hS
            · have hM := hM.trans (if_pos c_26)
              have t_26 := eq_t c_26
              rw [tl_0] at t_26
              refine lv_iconst (v := (-1)) hx hb dX5_store_54 (by decide) ?_
              have hM : (m_R_store sR p1 p2) = (((-1), sR) : Int32 × St) := hM
              exact hret (-1) H locs _ ls (nr_i _) dX5_store_55 (ret1 hM) (rP_v1 (P := fun (z0 : St) => va_P D vwCl (cellR cI g z0 vR) H) hM hPR) hS
abbrev rm_R_wet : Room := { frames := 1, cells := 0, slots := 0, locals := 22 }
set_option maxHeartbeats 4000000 in
set_option maxRecDepth 100000 in
theorem K_R_wet {l : Launch} {D : va_G} {cI : ClassId} {lo : Nat} {g : Nat → Nat} (hg : wI g 0 16 lo) (sR : St) (vR : Int64) (p1 : Int32) (p2 : Int32) : WRi l D cI lo yX5_wet wsX5_wet rm_R_wet [.ref (g 0), .int p1, .int p2] (fun H => va_P D vwCl (cellR cI g sR vR) H) (m_R_wet sR p1 p2).1 (fun H => va_P D vwCl (cellR cI g (m_R_wet sR p1 p2).2 vR) H) (wA g 0 16) := by
  refine ofW_WRi (cc := cX5_wet) (maxL := 3) (ty := .int) (by decide +kernel) rfl (Nat.le_of_ble_eq_true rfl) ?_
  intro p e s m args below meth c Q hx hb hml hown hts hE hP hret ls hl
  have hown : s.vm.findClass RX5 = some m.cls := hown
  have hPR := hP
  have hA := wA.lo hg
  have hS : va_S (wA g 0 16) s.heap s.heap [] := va_S.rf
  obtain ⟨H, hH⟩ : ∃ z, z = s.heap := ⟨_, rfl⟩
  obtain ⟨locs, hlocs⟩ : ∃ z : List Loc, z = [] := ⟨_, rfl⟩
  have hPR : va_P D vwCl (cellR cI g sR vR) H := by rw [hH]; exact hPR
  have hS : va_S (wA g 0 16) s.heap H locs := by rw [hH, hlocs]; exact va_S.rf
  have gW : W p l e rm_R_wet s m args below meth c H locs 0 0 Q (F0 m 0 ls []) → W p l e rm_R_wet s m args below meth c s.heap [] 0 0 Q (F0 m 0 ls []) := by rw [hH, hlocs]; exact id
  refine gW ?_
  have hinR : ∀ w ∈ wsX50, w ∈ wsX5_wet := fun w h => List.mem_cons_of_mem _ (List.mem_append_right _ h)
  have hl : lv_has ls 3 [(0, .ref (g 0)), (1, .int p1), (2, .int p2)] := hl
  have hM : (m_R_wet sR p1 p2) = (m_R_wet sR p1 p2) := rfl
  refine lv_iload_n hx hb dX5_wet_0 rfl (lv_at hl 1 rfl) ?_
  refine lv_iconst (v := 1) hx hb dX5_wet_1 (by decide) ?_
  refine lv_bipush (v := 20) hx hb dX5_wet_2 (by decide) ?_
  refine runS_i (va_runS (As := [.int p1, .int 1, .int 20]) (rest := []) ⟨hx, hb, hml, hown, hts⟩ (K_R_in p1 1 20) (va_cwS 3 hts gX5_wet_X5_in rfl rfl rfl (by decide +kernel) ⟨Nat.le_of_ble_eq_true rfl, Nat.le_of_ble_eq_true rfl⟩) (preS_of hE hA hS trivial) rfl rfl hl.1 rfl (lv_room (Nat.le_of_ble_eq_true rfl)) dX5_wet_4 ⟨Nat.zero_le _, Nat.zero_le _⟩) ?_
  refine lv_if_eq (tgt := 23) hx hb dX5_wet_7 (by decide) (fun c_1 => ?_) (fun c_1 => ?_)
  · have hM := hM.trans (if_pos c_1)
    refine lv_iconst (v := (-1)) hx hb dX5_wet_23 (by decide) ?_
    have hM : (m_R_wet sR p1 p2) = (((-1), sR) : Int32 × St) := hM
    exact hret (-1) H locs _ ls (nr_i _) dX5_wet_24 (ret1 hM) (rP_v1 (P := fun (z0 : St) => va_P D vwCl (cellR cI g z0 vR) H) hM hPR) hS
  · have hM := hM.trans (if_neg c_1)
    have u_1 := in_t c_1
    rw [tl_1, tl_20] at u_1
    refine lv_iload_n hx hb dX5_wet_10 rfl (lv_at hl 2 rfl) ?_
    refine lv_iconst (v := 0) hx hb dX5_wet_11 (by decide) ?_
    refine lv_iconst (v := 1) hx hb dX5_wet_12 (by decide) ?_
    refine lv_iload_n hx hb dX5_wet_13 rfl (lv_at hl 1 rfl) ?_
    refine lv_ishl hx hb dX5_wet_14 ?_
    refine lv_iconst (v := 1) hx hb dX5_wet_15 (by decide) ?_
    refine lv_isub hx hb dX5_wet_16 ?_
    refine runS_i (va_runS (As := [.int p2, .int 0, .int ((1 <<< (p1 &&& 31)) - 1)]) (rest := []) ⟨hx, hb, hml, hown, hts⟩ (K_R_in p2 0 ((1 <<< (p1 &&& 31)) - 1)) (va_cwS 3 hts gX5_wet_X5_in rfl rfl rfl (by decide +kernel) ⟨Nat.le_of_ble_eq_true rfl, Nat.le_of_ble_eq_true rfl⟩) (preS_of hE hA hS trivial) rfl rfl hl.1 rfl (lv_room (Nat.le_of_ble_eq_true rfl)) dX5_wet_17 ⟨Nat.zero_le _, Nat.zero_le _⟩) ?_
    refine lv_if_ne (tgt := 25) hx hb dX5_wet_20 (by decide) (fun c_2 => ?_) (fun c_2 => ?_)
    · have hM := hM.trans (if_neg c_2)
      have u_2 := in_t c_2
      rw [tl_0] at u_2
      refine lv_aload_n hx hb dX5_wet_25 rfl (lv_at hl 0 rfl) ?_
      refine lv_iload_n hx hb dX5_wet_26 rfl (lv_at hl 1 rfl) ?_
      refine va_put (D := D) (ci := 5) (v := .int p1) (ty := .int) (C := RX5) (T := TX5) (N := 33) hx hb hts hinR tyX5 tyX5_ok nmX5 hown hE.1 hPR (wD_of hg (c := 0) (n := 16) (by decide) (by decide) rfl) hS 0 rfl rfl 16 (by decide) (hts (.fieldLink RX5 44 "WallStonesModel" "wetMany" "I") (List.mem_of_getElem? (i := 1) rfl)) (fun _ h9 => h9) rfl (by decide +kernel) rfl rfl (Nat.le_of_ble_eq_true rfl) dX5_wet_27 (fun H locs hPn _ hS => ?_)
      have hPR : va_P D vwCl (cellR cI g (up sR 0 16 p1) vR) H := (congrArg (fun z => va_P D vwCl z H) putR_R16).mp hPn
      refine lv_aload_n hx hb dX5_wet_30 rfl (lv_at hl 0 rfl) ?_
      refine lv_iload_n hx hb dX5_wet_31 rfl (lv_at hl 2 rfl) ?_
      refine va_put (D := D) (ci := 5) (v := .int p2) (ty := .int) (C := RX5) (T := TX5) (N := 33) hx hb hts hinR tyX5 tyX5_ok nmX5 hown hE.1 hPR (wD_of hg (c := 0) (n := 16) (by decide) (by decide) rfl) hS 0 rfl rfl 17 (by decide) (hts (.fieldLink RX5 197 "WallStonesModel" "wetBits" "I") (List.mem_of_getElem? (i := 2) rfl)) (fun _ h9 => h9) rfl (by decide +kernel) rfl rfl (Nat.le_of_ble_eq_true rfl) dX5_wet_32 (fun H locs hPn _ hS => ?_)
      have hPR : va_P D vwCl (cellR cI g (up (up sR 0 16 p1) 0 17 p2) vR) H := (congrArg (fun z => va_P D vwCl z H) putR_R17).mp hPn
      refine lv_iload_n hx hb dX5_wet_35 rfl (lv_at hl 1 rfl) ?_
      have hM : (m_R_wet sR p1 p2) = ((p1, (up (up sR 0 16 p1) 0 17 p2)) : Int32 × St) := hM
      exact hret p1 H locs _ ls (nr_i _) dX5_wet_36 (ret1 hM) (rP_v1 (P := fun (z0 : St) => va_P D vwCl (cellR cI g z0 vR) H) hM hPR) hS
    · have hM := hM.trans (if_pos c_2)
      refine lv_iconst (v := (-1)) hx hb dX5_wet_23 (by decide) ?_
      have hM : (m_R_wet sR p1 p2) = (((-1), sR) : Int32 × St) := hM
      exact hret (-1) H locs _ ls (nr_i _) dX5_wet_24 (ret1 hM) (rP_v1 (P := fun (z0 : St) => va_P D vwCl (cellR cI g z0 vR) H) hM hPR) hS
abbrev rm_R_lastsBy : Room := { frames := 0, cells := 0, slots := 0, locals := 0 }
set_option maxHeartbeats 4000000 in
set_option maxRecDepth 100000 in
theorem K_R_lastsBy {l : Launch} {D : va_G} {cI : ClassId} {lo : Nat} {g : Nat → Nat} (hg : wI g 0 16 lo) (sR : St) (vR : Int64) (p1 : Int32) (h0 : okR sR) (h1 : 0 ≤ p1.toInt ∧ p1.toInt ≤ 60) : ROi l D cI lo yX5_lastsBy wsX5_lastsBy rm_R_lastsBy [.ref (g 0), .int p1] (fun H => va_P D vwCl (cellR cI g sR vR) H) (m_R_lastsBy sR p1) := by
  refine ofW_ROi (cc := cX5_lastsBy) (maxL := 13) (ty := .int) (by decide +kernel) rfl (Nat.le_of_ble_eq_true rfl) ?_
  intro p e s m args below meth c Q hx hb hml hown hts hE hP hret ls hl
  have hown : s.vm.findClass RX5 = some m.cls := hown
  have hPR := hP
  have hA : ∀ q : Nat, (fun _ : Nat => False) q → lo ≤ q := fun _ h => h.elim
  have hS : va_S (fun _ : Nat => False) s.heap s.heap [] := va_S.rf
  have hinR : ∀ w ∈ wsX50, w ∈ wsX5_lastsBy := fun w h => List.mem_cons_of_mem _ (List.mem_append_right _ h)
  have hl : lv_has ls 13 [(0, .ref (g 0)), (1, .int p1)] := hl
  have nh0 := okR_lin h0
  have L_147 : ∀ (n : Nat) (x2_147 : Int32) (x3_147 : Int32) (x4_147 : Int32) (x5_147 : Int32) (x6_147 : Int32) (x7_147 : Int32) (x8_147 : Int32) (x9_147 : Int32) (x10_147 : Int32) (x11_147 : Int32) (x12_147 : Int32) (ls : Array Slot), 0 ≤ x12_147.toInt ∧ x12_147.toInt ≤ p1.toInt → (p1.toInt - x12_147.toInt).toNat < n → lv_has ls 13 [(0, .ref (g 0)), (1, .int p1), (2, .int x2_147), (3, .int x3_147), (4, .int x4_147), (5, .int x5_147), (6, .int x6_147), (7, .int x7_147), (8, .int x8_147), (9, .int x9_147), (10, .int x10_147), (11, .int x11_147), (12, .int x12_147)] → (∀ (ls : Array Slot), lv_has ls 13 [(0, .ref (g 0)), (1, .int p1), (2, .int (wl (g_R_lastsBy_147 sR p1 x8_147 x9_147) n (x2_147, x3_147, x5_147, x10_147, x11_147, x12_147)).1), (3, .int (wl (g_R_lastsBy_147 sR p1 x8_147 x9_147) n (x2_147, x3_147, x5_147, x10_147, x11_147, x12_147)).2.1), (4, .int x4_147), (5, .int (wl (g_R_lastsBy_147 sR p1 x8_147 x9_147) n (x2_147, x3_147, x5_147, x10_147, x11_147, x12_147)).2.2.1), (6, .int x6_147), (7, .int x7_147), (11, .int (wl (g_R_lastsBy_147 sR p1 x8_147 x9_147) n (x2_147, x3_147, x5_147, x10_147, x11_147, x12_147)).2.2.2.2.1)] → W p l e rm_R_lastsBy s m args below meth c s.heap [] 0 0 Q (F0 m 241 ls [])) → W p l e rm_R_lastsBy s m args below meth c s.heap [] 0 0 Q (F0 m 147 ls []) := by
    intro n
    induction n with
    | zero =>
      intro x2_147 x3_147 x4_147 x5_147 x6_147 x7_147 x8_147 x9_147 x10_147 x11_147 x12_147 ls i147_0 hn147 hl kk
      exact absurd hn147 (Nat.not_lt_zero _)
    | succ n ih =>
      intro x2_147 x3_147 x4_147 x5_147 x6_147 x7_147 x8_147 x9_147 x10_147 x11_147 x12_147 ls i147_0 hn147 hl kk
      have hM : (g_R_lastsBy_147 sR p1 x8_147 x9_147) (x2_147, x3_147, x5_147, x10_147, x11_147, x12_147) = (g_R_lastsBy_147 sR p1 x8_147 x9_147) (x2_147, x3_147, x5_147, x10_147, x11_147, x12_147) := rfl
      refine lv_iload hx hb dX5_lastsBy_147 (lv_at hl 12 rfl) ?_
      refine lv_iload_n hx hb dX5_lastsBy_149 rfl (lv_at hl 1 rfl) ?_
      refine lv_icmp_ge (tgt := 241) hx hb dX5_lastsBy_150 (by decide) (fun c_1 => ?_) (fun c_1 => ?_)
      · have hM := hM.trans (if_pos c_1)
        have t_1 := le_t c_1
        rw [wl_none hM] at kk
        exact kk ls (lv_sub hl [0, 1, 2, 3, 4, 5, 6, 7, 11] rfl)
      · have hM := hM.trans (if_neg c_1)
        have t_1 := nle_t c_1
        refine lv_iload hx hb dX5_lastsBy_153 (lv_at hl 11 rfl) ?_
        refine lv_if_eq (tgt := 241) hx hb dX5_lastsBy_155 (by decide) (fun c_2 => ?_) (fun c_2 => ?_)
        · have hM := hM.trans (if_pos c_2)
          have t_2 := eq_t c_2
          rw [tl_0] at t_2
          rw [wl_none hM] at kk
          exact kk ls (lv_sub hl [0, 1, 2, 3, 4, 5, 6, 7, 11] rfl)
        · have hM := hM.trans (if_neg c_2)
          have t_2 := ne_t c_2
          rw [tl_0] at t_2
          refine lv_iload hx hb dX5_lastsBy_158 (lv_at hl 10 rfl) ?_
          refine lv_iload hx hb dX5_lastsBy_160 (lv_at hl 9 rfl) ?_
          refine lv_icmp_lt (tgt := 173) hx hb dX5_lastsBy_162 (by decide) (fun c_3 => ?_) (fun c_3 => ?_)
          · have hM := hM.trans (if_pos c_3)
            have t_3 := lt_t c_3
            refine lv_iconst (v := 0) hx hb dX5_lastsBy_173 (by decide) ?_
            refine lv_istore (lv' := [(11, .int 0), (0, .ref (g 0)), (1, .int p1), (2, .int x2_147), (3, .int x3_147), (4, .int x4_147), (5, .int x5_147), (6, .int x6_147), (7, .int x7_147), (8, .int x8_147), (9, .int x9_147), (10, .int x10_147), (12, .int x12_147)]) hx hb dX5_lastsBy_174 hl (by decide) rfl (fun ls hl => ?_)
            refine lv_iload hx hb dX5_lastsBy_176 (lv_at hl 11 rfl) ?_
            refine lv_iload hx hb dX5_lastsBy_178 (lv_at hl 10 rfl) ?_
            refine lv_isub hx hb dX5_lastsBy_180 ?_
            refine lv_istore (lv' := [(10, .int (x10_147 - x9_147)), (11, .int 0), (0, .ref (g 0)), (1, .int p1), (2, .int x2_147), (3, .int x3_147), (4, .int x4_147), (5, .int x5_147), (6, .int x6_147), (7, .int x7_147), (8, .int x8_147), (9, .int x9_147), (12, .int x12_147)]) hx hb dX5_lastsBy_181 hl (by decide) rfl (fun ls hl => ?_)
            refine lv_iinc (v := (x2_147 + (-1))) (lv' := [(2, .int (x2_147 + (-1))), (10, .int (x10_147 - x9_147)), (11, .int 0), (0, .ref (g 0)), (1, .int p1), (3, .int x3_147), (4, .int x4_147), (5, .int x5_147), (6, .int x6_147), (7, .int x7_147), (8, .int x8_147), (9, .int x9_147), (12, .int x12_147)]) hx hb dX5_lastsBy_183 hl (k := 4) rfl rfl (by decide) rfl (fun ls hl => ?_)
            refine lv_iload hx hb dX5_lastsBy_186 (lv_at hl 7 rfl) ?_
            refine lv_iload hx hb dX5_lastsBy_188 (lv_at hl 10 rfl) ?_
            refine lv_if_eq (tgt := 197) hx hb dX5_lastsBy_190 (by decide) (fun c_4 => ?_) (fun c_4 => ?_)
            · have hM := hM.trans (if_pos c_4)
              have t_4 := eq_t c_4
              rw [tl_0] at t_4
              refine lv_iconst (v := 1) hx hb dX5_lastsBy_197 (by decide) ?_
              refine lv_iadd hx hb dX5_lastsBy_198 ?_
              refine lv_istore (lv' := [(5, .int (x5_147 + 1)), (2, .int (x2_147 + (-1))), (10, .int (x10_147 - x9_147)), (11, .int 0), (0, .ref (g 0)), (1, .int p1), (3, .int x3_147), (4, .int x4_147), (6, .int x6_147), (7, .int x7_147), (8, .int x8_147), (9, .int x9_147), (12, .int x12_147)]) hx hb dX5_lastsBy_199 hl (by decide) rfl (fun ls hl => ?_)
              refine lv_iload hx hb dX5_lastsBy_201 (lv_at hl 3 rfl) ?_
              refine lv_if_eq (tgt := 235) hx hb dX5_lastsBy_203 (by decide) (fun _ => ?_) (fun c => absurd (by decide) c)
              refine lv_iinc (v := (x12_147 + 1)) (lv' := [(12, .int (x12_147 + 1)), (5, .int (x5_147 + 1)), (2, .int (x2_147 + (-1))), (10, .int (x10_147 - x9_147)), (11, .int 0), (0, .ref (g 0)), (1, .int p1), (3, .int x3_147), (4, .int x4_147), (6, .int x6_147), (7, .int x7_147), (8, .int x8_147), (9, .int x9_147)]) hx hb dX5_lastsBy_235 hl (k := 12) rfl rfl (by decide) rfl (fun ls hl => ?_)
              refine lv_goto (tgt := 147) hx hb dX5_lastsBy_238 (by decide) ?_
              have := t_inc (x := x12_147) (by omega)
              have z5 := tl_0
              rw [wl_some hM] at kk
              exact ih (x2_147 + (-1)) x3_147 x4_147 (x5_147 + 1) x6_147 x7_147 x8_147 x9_147 (x10_147 - x9_147) 0 (x12_147 + 1) ls (by omega) (by omega) (lv_sub hl [5, 6, 2, 7, 8, 1, 9, 10, 11, 12, 3, 4, 0] rfl) kk
            · have hM := hM.trans (if_neg c_4)
              have t_4 := ne_t c_4
              rw [tl_0] at t_4
              refine lv_iconst (v := 2) hx hb dX5_lastsBy_193 (by decide) ?_
              refine lv_goto (tgt := 198) hx hb dX5_lastsBy_194 (by decide) ?_
              refine lv_iadd hx hb dX5_lastsBy_198 ?_
              refine lv_istore (lv' := [(5, .int (x5_147 + 2)), (2, .int (x2_147 + (-1))), (10, .int (x10_147 - x9_147)), (11, .int 0), (0, .ref (g 0)), (1, .int p1), (3, .int x3_147), (4, .int x4_147), (6, .int x6_147), (7, .int x7_147), (8, .int x8_147), (9, .int x9_147), (12, .int x12_147)]) hx hb dX5_lastsBy_199 hl (by decide) rfl (fun ls hl => ?_)
              refine lv_iload hx hb dX5_lastsBy_201 (lv_at hl 3 rfl) ?_
              refine lv_if_eq (tgt := 235) hx hb dX5_lastsBy_203 (by decide) (fun _ => ?_) (fun c => absurd (by decide) c)
              refine lv_iinc (v := (x12_147 + 1)) (lv' := [(12, .int (x12_147 + 1)), (5, .int (x5_147 + 2)), (2, .int (x2_147 + (-1))), (10, .int (x10_147 - x9_147)), (11, .int 0), (0, .ref (g 0)), (1, .int p1), (3, .int x3_147), (4, .int x4_147), (6, .int x6_147), (7, .int x7_147), (8, .int x8_147), (9, .int x9_147)]) hx hb dX5_lastsBy_235 hl (k := 12) rfl rfl (by decide) rfl (fun ls hl => ?_)
              refine lv_goto (tgt := 147) hx hb dX5_lastsBy_238 (by decide) ?_
              have := t_inc (x := x12_147) (by omega)
              have z6 := tl_0
              rw [wl_some hM] at kk
              exact ih (x2_147 + (-1)) x3_147 x4_147 (x5_147 + 2) x6_147 x7_147 x8_147 x9_147 (x10_147 - x9_147) 0 (x12_147 + 1) ls (by omega) (by omega) (lv_sub hl [5, 6, 2, 7, 8, 1, 9, 10, 11, 12, 3, 4, 0] rfl) kk
          · have hM := hM.trans (if_neg c_3)
            have t_3 := nlt_t c_3
            refine lv_iload_n hx hb dX5_lastsBy_165 rfl (lv_at hl 2 rfl) ?_
            refine lv_if_le (tgt := 173) hx hb dX5_lastsBy_166 (by decide) (fun c_7 => ?_) (fun c_7 => ?_)
            · have hM := hM.trans (if_pos c_7)
              have t_7 := le_t c_7
              rw [tl_0] at t_7
              refine lv_iconst (v := 0) hx hb dX5_lastsBy_173 (by decide) ?_
              refine lv_istore (lv' := [(11, .int 0), (0, .ref (g 0)), (1, .int p1), (2, .int x2_147), (3, .int x3_147), (4, .int x4_147), (5, .int x5_147), (6, .int x6_147), (7, .int x7_147), (8, .int x8_147), (9, .int x9_147), (10, .int x10_147), (12, .int x12_147)]) hx hb dX5_lastsBy_174 hl (by decide) rfl (fun ls hl => ?_)
              refine lv_iload hx hb dX5_lastsBy_176 (lv_at hl 11 rfl) ?_
              refine lv_iload hx hb dX5_lastsBy_178 (lv_at hl 10 rfl) ?_
              refine lv_isub hx hb dX5_lastsBy_180 ?_
              refine lv_istore (lv' := [(10, .int (x10_147 - x9_147)), (11, .int 0), (0, .ref (g 0)), (1, .int p1), (2, .int x2_147), (3, .int x3_147), (4, .int x4_147), (5, .int x5_147), (6, .int x6_147), (7, .int x7_147), (8, .int x8_147), (9, .int x9_147), (12, .int x12_147)]) hx hb dX5_lastsBy_181 hl (by decide) rfl (fun ls hl => ?_)
              refine lv_iinc (v := (x2_147 + (-1))) (lv' := [(2, .int (x2_147 + (-1))), (10, .int (x10_147 - x9_147)), (11, .int 0), (0, .ref (g 0)), (1, .int p1), (3, .int x3_147), (4, .int x4_147), (5, .int x5_147), (6, .int x6_147), (7, .int x7_147), (8, .int x8_147), (9, .int x9_147), (12, .int x12_147)]) hx hb dX5_lastsBy_183 hl (k := 4) rfl rfl (by decide) rfl (fun ls hl => ?_)
              refine lv_iload hx hb dX5_lastsBy_186 (lv_at hl 7 rfl) ?_
              refine lv_iload hx hb dX5_lastsBy_188 (lv_at hl 10 rfl) ?_
              refine lv_if_eq (tgt := 197) hx hb dX5_lastsBy_190 (by decide) (fun c_8 => ?_) (fun c_8 => ?_)
              · have hM := hM.trans (if_pos c_8)
                have t_8 := eq_t c_8
                rw [tl_0] at t_8
                refine lv_iconst (v := 1) hx hb dX5_lastsBy_197 (by decide) ?_
                refine lv_iadd hx hb dX5_lastsBy_198 ?_
                refine lv_istore (lv' := [(5, .int (x5_147 + 1)), (2, .int (x2_147 + (-1))), (10, .int (x10_147 - x9_147)), (11, .int 0), (0, .ref (g 0)), (1, .int p1), (3, .int x3_147), (4, .int x4_147), (6, .int x6_147), (7, .int x7_147), (8, .int x8_147), (9, .int x9_147), (12, .int x12_147)]) hx hb dX5_lastsBy_199 hl (by decide) rfl (fun ls hl => ?_)
                refine lv_iload hx hb dX5_lastsBy_201 (lv_at hl 3 rfl) ?_
                refine lv_if_eq (tgt := 235) hx hb dX5_lastsBy_203 (by decide) (fun _ => ?_) (fun c => absurd (by decide) c)
                refine lv_iinc (v := (x12_147 + 1)) (lv' := [(12, .int (x12_147 + 1)), (5, .int (x5_147 + 1)), (2, .int (x2_147 + (-1))), (10, .int (x10_147 - x9_147)), (11, .int 0), (0, .ref (g 0)), (1, .int p1), (3, .int x3_147), (4, .int x4_147), (6, .int x6_147), (7, .int x7_147), (8, .int x8_147), (9, .int x9_147)]) hx hb dX5_lastsBy_235 hl (k := 12) rfl rfl (by decide) rfl (fun ls hl => ?_)
                refine lv_goto (tgt := 147) hx hb dX5_lastsBy_238 (by decide) ?_
                have := t_inc (x := x12_147) (by omega)
                have z9 := tl_0
                rw [wl_some hM] at kk
                exact ih (x2_147 + (-1)) x3_147 x4_147 (x5_147 + 1) x6_147 x7_147 x8_147 x9_147 (x10_147 - x9_147) 0 (x12_147 + 1) ls (by omega) (by omega) (lv_sub hl [5, 6, 2, 7, 8, 1, 9, 10, 11, 12, 3, 4, 0] rfl) kk
              · have hM := hM.trans (if_neg c_8)
                have t_8 := ne_t c_8
                rw [tl_0] at t_8
                refine lv_iconst (v := 2) hx hb dX5_lastsBy_193 (by decide) ?_
                refine lv_goto (tgt := 198) hx hb dX5_lastsBy_194 (by decide) ?_
                refine lv_iadd hx hb dX5_lastsBy_198 ?_
                refine lv_istore (lv' := [(5, .int (x5_147 + 2)), (2, .int (x2_147 + (-1))), (10, .int (x10_147 - x9_147)), (11, .int 0), (0, .ref (g 0)), (1, .int p1), (3, .int x3_147), (4, .int x4_147), (6, .int x6_147), (7, .int x7_147), (8, .int x8_147), (9, .int x9_147), (12, .int x12_147)]) hx hb dX5_lastsBy_199 hl (by decide) rfl (fun ls hl => ?_)
                refine lv_iload hx hb dX5_lastsBy_201 (lv_at hl 3 rfl) ?_
                refine lv_if_eq (tgt := 235) hx hb dX5_lastsBy_203 (by decide) (fun _ => ?_) (fun c => absurd (by decide) c)
                refine lv_iinc (v := (x12_147 + 1)) (lv' := [(12, .int (x12_147 + 1)), (5, .int (x5_147 + 2)), (2, .int (x2_147 + (-1))), (10, .int (x10_147 - x9_147)), (11, .int 0), (0, .ref (g 0)), (1, .int p1), (3, .int x3_147), (4, .int x4_147), (6, .int x6_147), (7, .int x7_147), (8, .int x8_147), (9, .int x9_147)]) hx hb dX5_lastsBy_235 hl (k := 12) rfl rfl (by decide) rfl (fun ls hl => ?_)
                refine lv_goto (tgt := 147) hx hb dX5_lastsBy_238 (by decide) ?_
                have := t_inc (x := x12_147) (by omega)
                have z10 := tl_0
                rw [wl_some hM] at kk
                exact ih (x2_147 + (-1)) x3_147 x4_147 (x5_147 + 2) x6_147 x7_147 x8_147 x9_147 (x10_147 - x9_147) 0 (x12_147 + 1) ls (by omega) (by omega) (lv_sub hl [5, 6, 2, 7, 8, 1, 9, 10, 11, 12, 3, 4, 0] rfl) kk
            · have hM := hM.trans (if_neg c_7)
              have t_7 := nle_t c_7
              rw [tl_0] at t_7
              refine lv_iconst (v := 1) hx hb dX5_lastsBy_169 (by decide) ?_
              refine lv_goto (tgt := 174) hx hb dX5_lastsBy_170 (by decide) ?_
              refine lv_istore (lv' := [(11, .int 1), (0, .ref (g 0)), (1, .int p1), (2, .int x2_147), (3, .int x3_147), (4, .int x4_147), (5, .int x5_147), (6, .int x6_147), (7, .int x7_147), (8, .int x8_147), (9, .int x9_147), (10, .int x10_147), (12, .int x12_147)]) hx hb dX5_lastsBy_174 hl (by decide) rfl (fun ls hl => ?_)
              refine lv_iload hx hb dX5_lastsBy_176 (lv_at hl 11 rfl) ?_
              refine lv_iload hx hb dX5_lastsBy_178 (lv_at hl 10 rfl) ?_
              refine lv_isub hx hb dX5_lastsBy_180 ?_
              refine lv_istore (lv' := [(10, .int (x10_147 - x9_147)), (11, .int 1), (0, .ref (g 0)), (1, .int p1), (2, .int x2_147), (3, .int x3_147), (4, .int x4_147), (5, .int x5_147), (6, .int x6_147), (7, .int x7_147), (8, .int x8_147), (9, .int x9_147), (12, .int x12_147)]) hx hb dX5_lastsBy_181 hl (by decide) rfl (fun ls hl => ?_)
              refine lv_iinc (v := (x2_147 + (-1))) (lv' := [(2, .int (x2_147 + (-1))), (10, .int (x10_147 - x9_147)), (11, .int 1), (0, .ref (g 0)), (1, .int p1), (3, .int x3_147), (4, .int x4_147), (5, .int x5_147), (6, .int x6_147), (7, .int x7_147), (8, .int x8_147), (9, .int x9_147), (12, .int x12_147)]) hx hb dX5_lastsBy_183 hl (k := 4) rfl rfl (by decide) rfl (fun ls hl => ?_)
              refine lv_iload hx hb dX5_lastsBy_186 (lv_at hl 7 rfl) ?_
              refine lv_iload hx hb dX5_lastsBy_188 (lv_at hl 10 rfl) ?_
              refine lv_if_eq (tgt := 197) hx hb dX5_lastsBy_190 (by decide) (fun c_11 => ?_) (fun c_11 => ?_)
              · have hM := hM.trans (if_pos c_11)
                have t_11 := eq_t c_11
                rw [tl_0] at t_11
                refine lv_iconst (v := 1) hx hb dX5_lastsBy_197 (by decide) ?_
                refine lv_iadd hx hb dX5_lastsBy_198 ?_
                refine lv_istore (lv' := [(5, .int (x5_147 + 1)), (2, .int (x2_147 + (-1))), (10, .int (x10_147 - x9_147)), (11, .int 1), (0, .ref (g 0)), (1, .int p1), (3, .int x3_147), (4, .int x4_147), (6, .int x6_147), (7, .int x7_147), (8, .int x8_147), (9, .int x9_147), (12, .int x12_147)]) hx hb dX5_lastsBy_199 hl (by decide) rfl (fun ls hl => ?_)
                refine lv_iload hx hb dX5_lastsBy_201 (lv_at hl 3 rfl) ?_
                refine lv_if_eq (tgt := 235) hx hb dX5_lastsBy_203 (by decide) (fun c => absurd c (by decide)) (fun _ => ?_)
                refine lv_iload hx hb dX5_lastsBy_206 (lv_at hl 0 rfl) ?_
                refine lv_aload_n hx hb dX5_lastsBy_208 rfl (lv_at hl 4 rfl) ?_
                refine va_get (D := D) (ci := 5) (v := .ref (g 8)) (C := RX5) (T := TX5) (N := 33) hx hb hts hinR hown hE.1 hPR 0 rfl rfl 15 (by decide) (hts (.fieldLink RX5 41 "WallStonesModel" "store" "[I") (List.mem_of_getElem? (i := 1) rfl)) (fun _ h9 => h9) rfl dX5_lastsBy_209 ?_
                refine lv_iconst (v := 4) hx hb dX5_lastsBy_212 (by decide) ?_
                refine va_iald hx hb hE.1 hPR 8 0 rfl rfl (vp_in_iff.mpr (by decide)) dX5_lastsBy_213 ?_
                refine W.eq (congrArg (fun z => F0 m 214 ls [.int (sR 16 z), .int (x5_147 + 1)]) cl_4) ?_
                refine lv_icmp_lt (tgt := 235) hx hb dX5_lastsBy_214 (by decide) (fun c_12 => ?_) (fun c_12 => ?_)
                · have hM := hM.trans (if_pos c_12)
                  have t_12 := lt_t c_12
                  refine lv_iinc (v := (x12_147 + 1)) (lv' := [(12, .int (x12_147 + 1)), (5, .int (x5_147 + 1)), (2, .int (x2_147 + (-1))), (10, .int (x10_147 - x9_147)), (11, .int 1), (0, .ref (g 0)), (1, .int p1), (3, .int x3_147), (4, .int x4_147), (6, .int x6_147), (7, .int x7_147), (8, .int x8_147), (9, .int x9_147)]) hx hb dX5_lastsBy_235 hl (k := 12) rfl rfl (by decide) rfl (fun ls hl => ?_)
                  refine lv_goto (tgt := 147) hx hb dX5_lastsBy_238 (by decide) ?_
                  have := t_inc (x := x12_147) (by omega)
                  have z13 := tl_1
                  rw [wl_some hM] at kk
                  exact ih (x2_147 + (-1)) x3_147 x4_147 (x5_147 + 1) x6_147 x7_147 x8_147 x9_147 (x10_147 - x9_147) 1 (x12_147 + 1) ls (by omega) (by omega) (lv_sub hl [5, 6, 2, 7, 8, 1, 9, 10, 11, 12, 3, 4, 0] rfl) kk
                · have hM := hM.trans (if_neg c_12)
                  have t_12 := nlt_t c_12
                  refine lv_iload_n hx hb dX5_lastsBy_217 rfl (lv_at hl 6 rfl) ?_
                  refine lv_iconst (v := 3) hx hb dX5_lastsBy_218 (by decide) ?_
                  refine lv_icmp_lt (tgt := 226) hx hb dX5_lastsBy_219 (by decide) (fun c_14 => ?_) (fun c_14 => ?_)
                  · have hM := hM.trans (if_pos c_14)
                    have t_14 := lt_t c_14
                    rw [tl_3] at t_14
                    refine lv_iconst (v := 0) hx hb dX5_lastsBy_226 (by decide) ?_
                    refine lv_istore (lv' := [(11, .int 0), (5, .int (x5_147 + 1)), (2, .int (x2_147 + (-1))), (10, .int (x10_147 - x9_147)), (0, .ref (g 0)), (1, .int p1), (3, .int x3_147), (4, .int x4_147), (6, .int x6_147), (7, .int x7_147), (8, .int x8_147), (9, .int x9_147), (12, .int x12_147)]) hx hb dX5_lastsBy_227 hl (by decide) rfl (fun ls hl => ?_)
                    refine lv_iinc (v := (x3_147 + (-3))) (lv' := [(3, .int (x3_147 + (-3))), (11, .int 0), (5, .int (x5_147 + 1)), (2, .int (x2_147 + (-1))), (10, .int (x10_147 - x9_147)), (0, .ref (g 0)), (1, .int p1), (4, .int x4_147), (6, .int x6_147), (7, .int x7_147), (8, .int x8_147), (9, .int x9_147), (12, .int x12_147)]) hx hb dX5_lastsBy_229 hl (k := 6) rfl rfl (by decide) rfl (fun ls hl => ?_)
                    refine lv_iconst (v := 0) hx hb dX5_lastsBy_232 (by decide) ?_
                    refine lv_istore (lv' := [(5, .int 0), (3, .int (x3_147 + (-3))), (11, .int 0), (2, .int (x2_147 + (-1))), (10, .int (x10_147 - x9_147)), (0, .ref (g 0)), (1, .int p1), (4, .int x4_147), (6, .int x6_147), (7, .int x7_147), (8, .int x8_147), (9, .int x9_147), (12, .int x12_147)]) hx hb dX5_lastsBy_233 hl (by decide) rfl (fun ls hl => ?_)
                    refine lv_iinc (v := (x12_147 + 1)) (lv' := [(12, .int (x12_147 + 1)), (5, .int 0), (3, .int (x3_147 + (-3))), (11, .int 0), (2, .int (x2_147 + (-1))), (10, .int (x10_147 - x9_147)), (0, .ref (g 0)), (1, .int p1), (4, .int x4_147), (6, .int x6_147), (7, .int x7_147), (8, .int x8_147), (9, .int x9_147)]) hx hb dX5_lastsBy_235 hl (k := 12) rfl rfl (by decide) rfl (fun ls hl => ?_)
                    refine lv_goto (tgt := 147) hx hb dX5_lastsBy_238 (by decide) ?_
                    have := t_inc (x := x12_147) (by omega)
                    have z15 := tl_0
                    rw [wl_some hM] at kk
                    exact ih (x2_147 + (-1)) (x3_147 + (-3)) x4_147 0 x6_147 x7_147 x8_147 x9_147 (x10_147 - x9_147) 0 (x12_147 + 1) ls (by omega) (by omega) (lv_sub hl [6, 7, 4, 2, 8, 1, 9, 10, 11, 12, 5, 3, 0] rfl) kk
                  · have hM := hM.trans (if_neg c_14)
                    have t_14 := nlt_t c_14
                    rw [tl_3] at t_14
                    refine lv_iconst (v := 1) hx hb dX5_lastsBy_222 (by decide) ?_
                    refine lv_goto (tgt := 227) hx hb dX5_lastsBy_223 (by decide) ?_
                    refine lv_istore (lv' := [(11, .int 1), (5, .int (x5_147 + 1)), (2, .int (x2_147 + (-1))), (10, .int (x10_147 - x9_147)), (0, .ref (g 0)), (1, .int p1), (3, .int x3_147), (4, .int x4_147), (6, .int x6_147), (7, .int x7_147), (8, .int x8_147), (9, .int x9_147), (12, .int x12_147)]) hx hb dX5_lastsBy_227 hl (by decide) rfl (fun ls hl => ?_)
                    refine lv_iinc (v := (x3_147 + (-3))) (lv' := [(3, .int (x3_147 + (-3))), (11, .int 1), (5, .int (x5_147 + 1)), (2, .int (x2_147 + (-1))), (10, .int (x10_147 - x9_147)), (0, .ref (g 0)), (1, .int p1), (4, .int x4_147), (6, .int x6_147), (7, .int x7_147), (8, .int x8_147), (9, .int x9_147), (12, .int x12_147)]) hx hb dX5_lastsBy_229 hl (k := 6) rfl rfl (by decide) rfl (fun ls hl => ?_)
                    refine lv_iconst (v := 0) hx hb dX5_lastsBy_232 (by decide) ?_
                    refine lv_istore (lv' := [(5, .int 0), (3, .int (x3_147 + (-3))), (11, .int 1), (2, .int (x2_147 + (-1))), (10, .int (x10_147 - x9_147)), (0, .ref (g 0)), (1, .int p1), (4, .int x4_147), (6, .int x6_147), (7, .int x7_147), (8, .int x8_147), (9, .int x9_147), (12, .int x12_147)]) hx hb dX5_lastsBy_233 hl (by decide) rfl (fun ls hl => ?_)
                    refine lv_iinc (v := (x12_147 + 1)) (lv' := [(12, .int (x12_147 + 1)), (5, .int 0), (3, .int (x3_147 + (-3))), (11, .int 1), (2, .int (x2_147 + (-1))), (10, .int (x10_147 - x9_147)), (0, .ref (g 0)), (1, .int p1), (4, .int x4_147), (6, .int x6_147), (7, .int x7_147), (8, .int x8_147), (9, .int x9_147)]) hx hb dX5_lastsBy_235 hl (k := 12) rfl rfl (by decide) rfl (fun ls hl => ?_)
                    refine lv_goto (tgt := 147) hx hb dX5_lastsBy_238 (by decide) ?_
                    have := t_inc (x := x12_147) (by omega)
                    have z16 := tl_0
                    have z17 := tl_1
                    rw [wl_some hM] at kk
                    exact ih (x2_147 + (-1)) (x3_147 + (-3)) x4_147 0 x6_147 x7_147 x8_147 x9_147 (x10_147 - x9_147) 1 (x12_147 + 1) ls (by omega) (by omega) (lv_sub hl [6, 7, 4, 2, 8, 1, 9, 10, 11, 12, 5, 3, 0] rfl) kk
              · have hM := hM.trans (if_neg c_11)
                have t_11 := ne_t c_11
                rw [tl_0] at t_11
                refine lv_iconst (v := 2) hx hb dX5_lastsBy_193 (by decide) ?_
                refine lv_goto (tgt := 198) hx hb dX5_lastsBy_194 (by decide) ?_
                refine lv_iadd hx hb dX5_lastsBy_198 ?_
                refine lv_istore (lv' := [(5, .int (x5_147 + 2)), (2, .int (x2_147 + (-1))), (10, .int (x10_147 - x9_147)), (11, .int 1), (0, .ref (g 0)), (1, .int p1), (3, .int x3_147), (4, .int x4_147), (6, .int x6_147), (7, .int x7_147), (8, .int x8_147), (9, .int x9_147), (12, .int x12_147)]) hx hb dX5_lastsBy_199 hl (by decide) rfl (fun ls hl => ?_)
                refine lv_iload hx hb dX5_lastsBy_201 (lv_at hl 3 rfl) ?_
                refine lv_if_eq (tgt := 235) hx hb dX5_lastsBy_203 (by decide) (fun c => absurd c (by decide)) (fun _ => ?_)
                refine lv_iload hx hb dX5_lastsBy_206 (lv_at hl 0 rfl) ?_
                refine lv_aload_n hx hb dX5_lastsBy_208 rfl (lv_at hl 4 rfl) ?_
                refine va_get (D := D) (ci := 5) (v := .ref (g 8)) (C := RX5) (T := TX5) (N := 33) hx hb hts hinR hown hE.1 hPR 0 rfl rfl 15 (by decide) (hts (.fieldLink RX5 41 "WallStonesModel" "store" "[I") (List.mem_of_getElem? (i := 1) rfl)) (fun _ h9 => h9) rfl dX5_lastsBy_209 ?_
                refine lv_iconst (v := 4) hx hb dX5_lastsBy_212 (by decide) ?_
                refine va_iald hx hb hE.1 hPR 8 0 rfl rfl (vp_in_iff.mpr (by decide)) dX5_lastsBy_213 ?_
                refine W.eq (congrArg (fun z => F0 m 214 ls [.int (sR 16 z), .int (x5_147 + 2)]) cl_4) ?_
                refine lv_icmp_lt (tgt := 235) hx hb dX5_lastsBy_214 (by decide) (fun c_18 => ?_) (fun c_18 => ?_)
                · have hM := hM.trans (if_pos c_18)
                  have t_18 := lt_t c_18
                  refine lv_iinc (v := (x12_147 + 1)) (lv' := [(12, .int (x12_147 + 1)), (5, .int (x5_147 + 2)), (2, .int (x2_147 + (-1))), (10, .int (x10_147 - x9_147)), (11, .int 1), (0, .ref (g 0)), (1, .int p1), (3, .int x3_147), (4, .int x4_147), (6, .int x6_147), (7, .int x7_147), (8, .int x8_147), (9, .int x9_147)]) hx hb dX5_lastsBy_235 hl (k := 12) rfl rfl (by decide) rfl (fun ls hl => ?_)
                  refine lv_goto (tgt := 147) hx hb dX5_lastsBy_238 (by decide) ?_
                  have := t_inc (x := x12_147) (by omega)
                  have z19 := tl_1
                  rw [wl_some hM] at kk
                  exact ih (x2_147 + (-1)) x3_147 x4_147 (x5_147 + 2) x6_147 x7_147 x8_147 x9_147 (x10_147 - x9_147) 1 (x12_147 + 1) ls (by omega) (by omega) (lv_sub hl [5, 6, 2, 7, 8, 1, 9, 10, 11, 12, 3, 4, 0] rfl) kk
                · have hM := hM.trans (if_neg c_18)
                  have t_18 := nlt_t c_18
                  refine lv_iload_n hx hb dX5_lastsBy_217 rfl (lv_at hl 6 rfl) ?_
                  refine lv_iconst (v := 3) hx hb dX5_lastsBy_218 (by decide) ?_
                  refine lv_icmp_lt (tgt := 226) hx hb dX5_lastsBy_219 (by decide) (fun c_20 => ?_) (fun c_20 => ?_)
                  · have hM := hM.trans (if_pos c_20)
                    have t_20 := lt_t c_20
                    rw [tl_3] at t_20
                    refine lv_iconst (v := 0) hx hb dX5_lastsBy_226 (by decide) ?_
                    refine lv_istore (lv' := [(11, .int 0), (5, .int (x5_147 + 2)), (2, .int (x2_147 + (-1))), (10, .int (x10_147 - x9_147)), (0, .ref (g 0)), (1, .int p1), (3, .int x3_147), (4, .int x4_147), (6, .int x6_147), (7, .int x7_147), (8, .int x8_147), (9, .int x9_147), (12, .int x12_147)]) hx hb dX5_lastsBy_227 hl (by decide) rfl (fun ls hl => ?_)
                    refine lv_iinc (v := (x3_147 + (-3))) (lv' := [(3, .int (x3_147 + (-3))), (11, .int 0), (5, .int (x5_147 + 2)), (2, .int (x2_147 + (-1))), (10, .int (x10_147 - x9_147)), (0, .ref (g 0)), (1, .int p1), (4, .int x4_147), (6, .int x6_147), (7, .int x7_147), (8, .int x8_147), (9, .int x9_147), (12, .int x12_147)]) hx hb dX5_lastsBy_229 hl (k := 6) rfl rfl (by decide) rfl (fun ls hl => ?_)
                    refine lv_iconst (v := 0) hx hb dX5_lastsBy_232 (by decide) ?_
                    refine lv_istore (lv' := [(5, .int 0), (3, .int (x3_147 + (-3))), (11, .int 0), (2, .int (x2_147 + (-1))), (10, .int (x10_147 - x9_147)), (0, .ref (g 0)), (1, .int p1), (4, .int x4_147), (6, .int x6_147), (7, .int x7_147), (8, .int x8_147), (9, .int x9_147), (12, .int x12_147)]) hx hb dX5_lastsBy_233 hl (by decide) rfl (fun ls hl => ?_)
                    refine lv_iinc (v := (x12_147 + 1)) (lv' := [(12, .int (x12_147 + 1)), (5, .int 0), (3, .int (x3_147 + (-3))), (11, .int 0), (2, .int (x2_147 + (-1))), (10, .int (x10_147 - x9_147)), (0, .ref (g 0)), (1, .int p1), (4, .int x4_147), (6, .int x6_147), (7, .int x7_147), (8, .int x8_147), (9, .int x9_147)]) hx hb dX5_lastsBy_235 hl (k := 12) rfl rfl (by decide) rfl (fun ls hl => ?_)
                    refine lv_goto (tgt := 147) hx hb dX5_lastsBy_238 (by decide) ?_
                    have := t_inc (x := x12_147) (by omega)
                    have z21 := tl_0
                    rw [wl_some hM] at kk
                    exact ih (x2_147 + (-1)) (x3_147 + (-3)) x4_147 0 x6_147 x7_147 x8_147 x9_147 (x10_147 - x9_147) 0 (x12_147 + 1) ls (by omega) (by omega) (lv_sub hl [6, 7, 4, 2, 8, 1, 9, 10, 11, 12, 5, 3, 0] rfl) kk
                  · have hM := hM.trans (if_neg c_20)
                    have t_20 := nlt_t c_20
                    rw [tl_3] at t_20
                    refine lv_iconst (v := 1) hx hb dX5_lastsBy_222 (by decide) ?_
                    refine lv_goto (tgt := 227) hx hb dX5_lastsBy_223 (by decide) ?_
                    refine lv_istore (lv' := [(11, .int 1), (5, .int (x5_147 + 2)), (2, .int (x2_147 + (-1))), (10, .int (x10_147 - x9_147)), (0, .ref (g 0)), (1, .int p1), (3, .int x3_147), (4, .int x4_147), (6, .int x6_147), (7, .int x7_147), (8, .int x8_147), (9, .int x9_147), (12, .int x12_147)]) hx hb dX5_lastsBy_227 hl (by decide) rfl (fun ls hl => ?_)
                    refine lv_iinc (v := (x3_147 + (-3))) (lv' := [(3, .int (x3_147 + (-3))), (11, .int 1), (5, .int (x5_147 + 2)), (2, .int (x2_147 + (-1))), (10, .int (x10_147 - x9_147)), (0, .ref (g 0)), (1, .int p1), (4, .int x4_147), (6, .int x6_147), (7, .int x7_147), (8, .int x8_147), (9, .int x9_147), (12, .int x12_147)]) hx hb dX5_lastsBy_229 hl (k := 6) rfl rfl (by decide) rfl (fun ls hl => ?_)
                    refine lv_iconst (v := 0) hx hb dX5_lastsBy_232 (by decide) ?_
                    refine lv_istore (lv' := [(5, .int 0), (3, .int (x3_147 + (-3))), (11, .int 1), (2, .int (x2_147 + (-1))), (10, .int (x10_147 - x9_147)), (0, .ref (g 0)), (1, .int p1), (4, .int x4_147), (6, .int x6_147), (7, .int x7_147), (8, .int x8_147), (9, .int x9_147), (12, .int x12_147)]) hx hb dX5_lastsBy_233 hl (by decide) rfl (fun ls hl => ?_)
                    refine lv_iinc (v := (x12_147 + 1)) (lv' := [(12, .int (x12_147 + 1)), (5, .int 0), (3, .int (x3_147 + (-3))), (11, .int 1), (2, .int (x2_147 + (-1))), (10, .int (x10_147 - x9_147)), (0, .ref (g 0)), (1, .int p1), (4, .int x4_147), (6, .int x6_147), (7, .int x7_147), (8, .int x8_147), (9, .int x9_147)]) hx hb dX5_lastsBy_235 hl (k := 12) rfl rfl (by decide) rfl (fun ls hl => ?_)
                    refine lv_goto (tgt := 147) hx hb dX5_lastsBy_238 (by decide) ?_
                    have := t_inc (x := x12_147) (by omega)
                    have z22 := tl_0
                    have z23 := tl_1
                    rw [wl_some hM] at kk
                    exact ih (x2_147 + (-1)) (x3_147 + (-3)) x4_147 0 x6_147 x7_147 x8_147 x9_147 (x10_147 - x9_147) 1 (x12_147 + 1) ls (by omega) (by omega) (lv_sub hl [6, 7, 4, 2, 8, 1, 9, 10, 11, 12, 5, 3, 0] rfl) kk
  have C_51 : ∀ (n : Nat) (x2_51 : Int32) (x3_51 : Int32) (x4_51 : Int32) (x5_51 : Int32) (x6_51 : Int32) (x7_51 : Int32) (ls : Array Slot), 0 ≤ x7_51.toInt ∧ x7_51.toInt ≤ 100 → (100 - x7_51.toInt).toNat < n → lv_has ls 13 [(0, .ref (g 0)), (1, .int p1), (2, .int x2_51), (3, .int x3_51), (4, .int x4_51), (5, .int x5_51), (6, .int x6_51), (7, .int x7_51)] → (m_R_lastsBy sR p1) = wc (g_R_lastsBy_51 sR p1 x6_51) 0 n (x2_51, x3_51, x4_51, x5_51, x7_51) → W p l e rm_R_lastsBy s m args below meth c s.heap [] 0 0 Q (F0 m 51 ls []) := by
    intro n
    induction n with
    | zero =>
      intro x2_51 x3_51 x4_51 x5_51 x6_51 x7_51 ls i51_0 hn51 hl hO
      exact absurd hn51 (Nat.not_lt_zero _)
    | succ n ih =>
      intro x2_51 x3_51 x4_51 x5_51 x6_51 x7_51 ls i51_0 hn51 hl hO
      have J_241 : ∀ (x2_241 : Int32) (x3_241 : Int32) (x4_241 : Int32) (x5_241 : Int32) (x7_241 : Int32) (x11_241 : Int32) (ls : Array Slot), 0 ≤ x7_241.toInt ∧ x7_241.toInt < 100 → (100 - x7_241.toInt).toNat < n + 1 → lv_has ls 13 [(0, .ref (g 0)), (1, .int p1), (2, .int x2_241), (3, .int x3_241), (4, .int x4_241), (5, .int x5_241), (6, .int x6_51), (7, .int x7_241), (11, .int x11_241)] → (g_R_lastsBy_51 sR p1 x6_51) (x2_51, x3_51, x4_51, x5_51, x7_51) = b_R_lastsBy_241 sR p1 x2_241 x3_241 x4_241 x5_241 x6_51 x7_241 x11_241 → W p l e rm_R_lastsBy s m args below meth c s.heap [] 0 0 Q (F0 m 241 ls []) := by
        intro x2_241 x3_241 x4_241 x5_241 x7_241 x11_241 ls i241_0 i241_1 hl hM
        refine lv_iload hx hb dX5_lastsBy_241 (lv_at hl 8 rfl) ?_
        refine lv_if_ne (tgt := 249) hx hb dX5_lastsBy_243 (by decide) (fun c_24 => ?_) (fun c_24 => ?_)
        · have hM := hM.trans (if_neg c_24)
          have t_24 := ne_t c_24
          rw [tl_0] at t_24
          refine lv_iinc (v := (x7_241 + 1)) (lv' := [(7, .int (x7_241 + 1)), (0, .ref (g 0)), (1, .int p1), (2, .int x2_241), (3, .int x3_241), (4, .int x4_241), (5, .int x5_241), (6, .int x6_51), (11, .int x11_241)]) hx hb dX5_lastsBy_249 hl (k := 7) rfl rfl (by decide) rfl (fun ls hl => ?_)
          refine lv_goto (tgt := 51) hx hb dX5_lastsBy_252 (by decide) ?_
          have := t_inc (x := x7_241) (by omega)
          exact ih x2_241 x3_241 x4_241 x5_241 x6_51 (x7_241 + 1) ls (by omega) (by omega) (lv_sub hl [1, 2, 3, 4, 5, 6, 7, 0] rfl) (hO.trans (wc_inl (f := (g_R_lastsBy_51 sR p1 x6_51)) (s := (x2_51, x3_51, x4_51, x5_51, x7_51)) (t := (x2_241, x3_241, x4_241, x5_241, (x7_241 + 1))) hM))
        · have hM := hM.trans (if_pos c_24)
          have t_24 := eq_t c_24
          rw [tl_0] at t_24
          refine lv_iload hx hb dX5_lastsBy_246 (lv_at hl 7 rfl) ?_
          have hM := hO.trans (wc_inr hM)
          have hM : (m_R_lastsBy sR p1) = (x7_241 : Int32) := hM
          exact hret _ _ ls (nr_i _) dX5_lastsBy_248 hM.symm
      have hM : (g_R_lastsBy_51 sR p1 x6_51) (x2_51, x3_51, x4_51, x5_51, x7_51) = (g_R_lastsBy_51 sR p1 x6_51) (x2_51, x3_51, x4_51, x5_51, x7_51) := rfl
      refine lv_iload hx hb dX5_lastsBy_51 (lv_at hl 7 rfl) ?_
      refine lv_bipush (v := 100) hx hb dX5_lastsBy_53 (by decide) ?_
      refine lv_icmp_ge (tgt := 255) hx hb dX5_lastsBy_55 (by decide) (fun c_25 => ?_) (fun c_25 => ?_)
      · have hM := hM.trans (if_pos c_25)
        have t_25 := le_t c_25
        rw [tl_100] at t_25
        refine lv_bipush (v := 100) hx hb dX5_lastsBy_255 (by decide) ?_
        have hM := hO.trans (wc_inr hM)
        have hM : (m_R_lastsBy sR p1) = (100 : Int32) := hM
        exact hret _ _ ls (nr_i _) dX5_lastsBy_257 hM.symm
      · have hM := hM.trans (if_neg c_25)
        have t_25 := nle_t c_25
        rw [tl_100] at t_25
        refine lv_aload_n hx hb dX5_lastsBy_58 rfl (lv_at hl 0 rfl) ?_
        refine va_get (D := D) (ci := 5) (v := .int (sR 0 17)) (C := RX5) (T := TX5) (N := 33) hx hb hts hinR hown hE.1 hPR 0 rfl rfl 17 (by decide) (hts (.fieldLink RX5 197 "WallStonesModel" "wetBits" "I") (List.mem_of_getElem? (i := 3) rfl)) (fun _ h9 => h9) rfl dX5_lastsBy_59 ?_
        refine lv_iload hx hb dX5_lastsBy_62 (lv_at hl 7 rfl) ?_
        refine lv_aload_n hx hb dX5_lastsBy_64 rfl (lv_at hl 0 rfl) ?_
        refine va_get (D := D) (ci := 5) (v := .int (sR 0 16)) (C := RX5) (T := TX5) (N := 33) hx hb hts hinR hown hE.1 hPR 0 rfl rfl 16 (by decide) (hts (.fieldLink RX5 44 "WallStonesModel" "wetMany" "I") (List.mem_of_getElem? (i := 4) rfl)) (fun _ h9 => h9) rfl dX5_lastsBy_65 ?_
        refine lv_irem hx hb dX5_lastsBy_68 (ii_ne (b := 0) (by show _ ≠ (0 : Int); omega)) ?_
        refine lv_ishr hx hb dX5_lastsBy_69 ?_
        refine lv_iconst (v := 1) hx hb dX5_lastsBy_70 (by decide) ?_
        refine lv_iand hx hb dX5_lastsBy_71 ?_
        refine lv_iconst (v := 1) hx hb dX5_lastsBy_72 (by decide) ?_
        refine lv_icmp_ne (tgt := 80) hx hb dX5_lastsBy_73 (by decide) (fun c_26 => ?_) (fun c_26 => ?_)
        · have hM := hM.trans (if_neg c_26)
          have t_26 := ne_t c_26
          rw [tl_1] at t_26
          refine lv_iconst (v := 0) hx hb dX5_lastsBy_80 (by decide) ?_
          refine lv_istore (lv' := [(8, .int 0), (0, .ref (g 0)), (1, .int p1), (2, .int x2_51), (3, .int x3_51), (4, .int x4_51), (5, .int x5_51), (6, .int x6_51), (7, .int x7_51)]) hx hb dX5_lastsBy_81 hl (by decide) rfl (fun ls hl => ?_)
          refine lv_iload hx hb dX5_lastsBy_83 (lv_at hl 0 rfl) ?_
          refine lv_if_eq (tgt := 100) hx hb dX5_lastsBy_85 (by decide) (fun _ => ?_) (fun c => absurd (by decide) c)
          refine lv_iload hx hb dX5_lastsBy_100 (lv_at hl 7 rfl) ?_
          refine lv_istore (lv' := [(9, .int x6_51), (8, .int 0), (0, .ref (g 0)), (1, .int p1), (2, .int x2_51), (3, .int x3_51), (4, .int x4_51), (5, .int x5_51), (6, .int x6_51), (7, .int x7_51)]) hx hb dX5_lastsBy_102 hl (by decide) rfl (fun ls hl => ?_)
          refine lv_bipush (v := 30) hx hb dX5_lastsBy_104 (by decide) ?_
          refine lv_aload_n hx hb dX5_lastsBy_106 rfl (lv_at hl 2 rfl) ?_
          refine va_get (D := D) (ci := 5) (v := .ref (g 8)) (C := RX5) (T := TX5) (N := 33) hx hb hts hinR hown hE.1 hPR 0 rfl rfl 15 (by decide) (hts (.fieldLink RX5 41 "WallStonesModel" "store" "[I") (List.mem_of_getElem? (i := 1) rfl)) (fun _ h9 => h9) rfl dX5_lastsBy_107 ?_
          refine lv_iconst (v := 0) hx hb dX5_lastsBy_110 (by decide) ?_
          refine va_iald hx hb hE.1 hPR 8 0 rfl rfl (vp_in_iff.mpr (by decide)) dX5_lastsBy_111 ?_
          refine W.eq (congrArg (fun z => F0 m 112 ls [.int (sR 16 z), .int 30]) cl_0) ?_
          refine lv_imul hx hb dX5_lastsBy_112 ?_
          refine lv_istore (lv' := [(10, .int (30 * (sR 16 0))), (9, .int x6_51), (8, .int 0), (0, .ref (g 0)), (1, .int p1), (2, .int x2_51), (3, .int x3_51), (4, .int x4_51), (5, .int x5_51), (6, .int x6_51), (7, .int x7_51)]) hx hb dX5_lastsBy_113 hl (by decide) rfl (fun ls hl => ?_)
          refine lv_iload hx hb dX5_lastsBy_115 (lv_at hl 7 rfl) ?_
          refine lv_aload_n hx hb dX5_lastsBy_117 rfl (lv_at hl 3 rfl) ?_
          refine va_get (D := D) (ci := 5) (v := .ref (g 8)) (C := RX5) (T := TX5) (N := 33) hx hb hts hinR hown hE.1 hPR 0 rfl rfl 15 (by decide) (hts (.fieldLink RX5 41 "WallStonesModel" "store" "[I") (List.mem_of_getElem? (i := 1) rfl)) (fun _ h9 => h9) rfl dX5_lastsBy_118 ?_
          refine lv_iconst (v := 0) hx hb dX5_lastsBy_121 (by decide) ?_
          refine va_iald hx hb hE.1 hPR 8 0 rfl rfl (vp_in_iff.mpr (by decide)) dX5_lastsBy_122 ?_
          refine W.eq (congrArg (fun z => F0 m 123 ls [.int (sR 16 z), .int x4_51]) cl_0) ?_
          refine lv_icmp_lt (tgt := 130) hx hb dX5_lastsBy_123 (by decide) (fun c_27 => ?_) (fun c_27 => ?_)
          · have hM := hM.trans (if_pos c_27)
            have t_27 := lt_t c_27
            refine lv_iconst (v := 0) hx hb dX5_lastsBy_130 (by decide) ?_
            refine lv_istore (lv' := [(11, .int 0), (10, .int (30 * (sR 16 0))), (9, .int x6_51), (8, .int 0), (0, .ref (g 0)), (1, .int p1), (2, .int x2_51), (3, .int x3_51), (4, .int x4_51), (5, .int x5_51), (6, .int x6_51), (7, .int x7_51)]) hx hb dX5_lastsBy_131 hl (by decide) rfl (fun ls hl => ?_)
            refine lv_iload hx hb dX5_lastsBy_133 (lv_at hl 8 rfl) ?_
            refine lv_aload_n hx hb dX5_lastsBy_135 rfl (lv_at hl 4 rfl) ?_
            refine va_get (D := D) (ci := 5) (v := .ref (g 8)) (C := RX5) (T := TX5) (N := 33) hx hb hts hinR hown hE.1 hPR 0 rfl rfl 15 (by decide) (hts (.fieldLink RX5 41 "WallStonesModel" "store" "[I") (List.mem_of_getElem? (i := 1) rfl)) (fun _ h9 => h9) rfl dX5_lastsBy_136 ?_
            refine lv_iconst (v := 0) hx hb dX5_lastsBy_139 (by decide) ?_
            refine va_iald hx hb hE.1 hPR 8 0 rfl rfl (vp_in_iff.mpr (by decide)) dX5_lastsBy_140 ?_
            refine W.eq (congrArg (fun z => F0 m 141 ls [.int (sR 16 z), .int x4_51]) cl_0) ?_
            refine lv_isub hx hb dX5_lastsBy_141 ?_
            refine lv_istore (lv' := [(4, .int (x4_51 - (sR 16 0))), (11, .int 0), (10, .int (30 * (sR 16 0))), (9, .int x6_51), (8, .int 0), (0, .ref (g 0)), (1, .int p1), (2, .int x2_51), (3, .int x3_51), (5, .int x5_51), (6, .int x6_51), (7, .int x7_51)]) hx hb dX5_lastsBy_142 hl (by decide) rfl (fun ls hl => ?_)
            refine lv_iconst (v := 0) hx hb dX5_lastsBy_144 (by decide) ?_
            refine lv_istore (lv' := [(12, .int 0), (4, .int (x4_51 - (sR 16 0))), (11, .int 0), (10, .int (30 * (sR 16 0))), (9, .int x6_51), (8, .int 0), (0, .ref (g 0)), (1, .int p1), (2, .int x2_51), (3, .int x3_51), (5, .int x5_51), (6, .int x6_51), (7, .int x7_51)]) hx hb dX5_lastsBy_145 hl (by decide) rfl (fun ls hl => ?_)
            have z28 := tl_0
            refine L_147 61 x2_51 x3_51 (x4_51 - (sR 16 0)) x5_51 x6_51 x7_51 0 x6_51 (30 * (sR 16 0)) 0 0 ls (by omega) (by omega) (lv_sub hl [6, 7, 8, 9, 1, 10, 11, 12, 5, 4, 3, 2, 0] rfl) (fun ls hl => ?_)
            exact J_241 (wl (g_R_lastsBy_147 sR p1 0 x6_51) 61 (x2_51, x3_51, x5_51, (30 * (sR 16 0)), 0, 0)).1 (wl (g_R_lastsBy_147 sR p1 0 x6_51) 61 (x2_51, x3_51, x5_51, (30 * (sR 16 0)), 0, 0)).2.1 (x4_51 - (sR 16 0)) (wl (g_R_lastsBy_147 sR p1 0 x6_51) 61 (x2_51, x3_51, x5_51, (30 * (sR 16 0)), 0, 0)).2.2.1 x7_51 (wl (g_R_lastsBy_147 sR p1 0 x6_51) 61 (x2_51, x3_51, x5_51, (30 * (sR 16 0)), 0, 0)).2.2.2.2.1 ls (by omega) (by omega) (lv_sub hl [0, 1, 2, 3, 4, 5, 6, 7, 8] rfl) hM
          · have hM := hM.trans (if_neg c_27)
            have t_27 := nlt_t c_27
            refine lv_iconst (v := 1) hx hb dX5_lastsBy_126 (by decide) ?_
            refine lv_goto (tgt := 131) hx hb dX5_lastsBy_127 (by decide) ?_
            refine lv_istore (lv' := [(11, .int 1), (10, .int (30 * (sR 16 0))), (9, .int x6_51), (8, .int 0), (0, .ref (g 0)), (1, .int p1), (2, .int x2_51), (3, .int x3_51), (4, .int x4_51), (5, .int x5_51), (6, .int x6_51), (7, .int x7_51)]) hx hb dX5_lastsBy_131 hl (by decide) rfl (fun ls hl => ?_)
            refine lv_iload hx hb dX5_lastsBy_133 (lv_at hl 8 rfl) ?_
            refine lv_aload_n hx hb dX5_lastsBy_135 rfl (lv_at hl 4 rfl) ?_
            refine va_get (D := D) (ci := 5) (v := .ref (g 8)) (C := RX5) (T := TX5) (N := 33) hx hb hts hinR hown hE.1 hPR 0 rfl rfl 15 (by decide) (hts (.fieldLink RX5 41 "WallStonesModel" "store" "[I") (List.mem_of_getElem? (i := 1) rfl)) (fun _ h9 => h9) rfl dX5_lastsBy_136 ?_
            refine lv_iconst (v := 0) hx hb dX5_lastsBy_139 (by decide) ?_
            refine va_iald hx hb hE.1 hPR 8 0 rfl rfl (vp_in_iff.mpr (by decide)) dX5_lastsBy_140 ?_
            refine W.eq (congrArg (fun z => F0 m 141 ls [.int (sR 16 z), .int x4_51]) cl_0) ?_
            refine lv_isub hx hb dX5_lastsBy_141 ?_
            refine lv_istore (lv' := [(4, .int (x4_51 - (sR 16 0))), (11, .int 1), (10, .int (30 * (sR 16 0))), (9, .int x6_51), (8, .int 0), (0, .ref (g 0)), (1, .int p1), (2, .int x2_51), (3, .int x3_51), (5, .int x5_51), (6, .int x6_51), (7, .int x7_51)]) hx hb dX5_lastsBy_142 hl (by decide) rfl (fun ls hl => ?_)
            refine lv_iconst (v := 0) hx hb dX5_lastsBy_144 (by decide) ?_
            refine lv_istore (lv' := [(12, .int 0), (4, .int (x4_51 - (sR 16 0))), (11, .int 1), (10, .int (30 * (sR 16 0))), (9, .int x6_51), (8, .int 0), (0, .ref (g 0)), (1, .int p1), (2, .int x2_51), (3, .int x3_51), (5, .int x5_51), (6, .int x6_51), (7, .int x7_51)]) hx hb dX5_lastsBy_145 hl (by decide) rfl (fun ls hl => ?_)
            have z29 := tl_0
            have z30 := tl_1
            refine L_147 61 x2_51 x3_51 (x4_51 - (sR 16 0)) x5_51 x6_51 x7_51 0 x6_51 (30 * (sR 16 0)) 1 0 ls (by omega) (by omega) (lv_sub hl [6, 7, 8, 9, 1, 10, 11, 12, 5, 4, 3, 2, 0] rfl) (fun ls hl => ?_)
            exact J_241 (wl (g_R_lastsBy_147 sR p1 0 x6_51) 61 (x2_51, x3_51, x5_51, (30 * (sR 16 0)), 1, 0)).1 (wl (g_R_lastsBy_147 sR p1 0 x6_51) 61 (x2_51, x3_51, x5_51, (30 * (sR 16 0)), 1, 0)).2.1 (x4_51 - (sR 16 0)) (wl (g_R_lastsBy_147 sR p1 0 x6_51) 61 (x2_51, x3_51, x5_51, (30 * (sR 16 0)), 1, 0)).2.2.1 x7_51 (wl (g_R_lastsBy_147 sR p1 0 x6_51) 61 (x2_51, x3_51, x5_51, (30 * (sR 16 0)), 1, 0)).2.2.2.2.1 ls (by omega) (by omega) (lv_sub hl [0, 1, 2, 3, 4, 5, 6, 7, 8] rfl) hM
        · have hM := hM.trans (if_pos c_26)
          have t_26 := eq_t c_26
          rw [tl_1] at t_26
          refine lv_iconst (v := 1) hx hb dX5_lastsBy_76 (by decide) ?_
          refine lv_goto (tgt := 81) hx hb dX5_lastsBy_77 (by decide) ?_
          refine lv_istore (lv' := [(8, .int 1), (0, .ref (g 0)), (1, .int p1), (2, .int x2_51), (3, .int x3_51), (4, .int x4_51), (5, .int x5_51), (6, .int x6_51), (7, .int x7_51)]) hx hb dX5_lastsBy_81 hl (by decide) rfl (fun ls hl => ?_)
          refine lv_iload hx hb dX5_lastsBy_83 (lv_at hl 0 rfl) ?_
          refine lv_if_eq (tgt := 100) hx hb dX5_lastsBy_85 (by decide) (fun c => absurd c (by decide)) (fun _ => ?_)
          refine lv_iload hx hb dX5_lastsBy_88 (lv_at hl 7 rfl) ?_
          refine lv_iload hx hb dX5_lastsBy_90 (lv_at hl 7 rfl) ?_
          refine lv_iconst (v := 3) hx hb dX5_lastsBy_92 (by decide) ?_
          refine lv_iadd hx hb dX5_lastsBy_93 ?_
          refine lv_iconst (v := 4) hx hb dX5_lastsBy_94 (by decide) ?_
          refine lv_idiv hx hb dX5_lastsBy_95 (by decide) ?_
          refine lv_iadd hx hb dX5_lastsBy_96 ?_
          refine lv_goto (tgt := 102) hx hb dX5_lastsBy_97 (by decide) ?_
          refine lv_istore (lv' := [(9, .int (x6_51 + ((x6_51 + 3) / 4))), (8, .int 1), (0, .ref (g 0)), (1, .int p1), (2, .int x2_51), (3, .int x3_51), (4, .int x4_51), (5, .int x5_51), (6, .int x6_51), (7, .int x7_51)]) hx hb dX5_lastsBy_102 hl (by decide) rfl (fun ls hl => ?_)
          refine lv_bipush (v := 30) hx hb dX5_lastsBy_104 (by decide) ?_
          refine lv_aload_n hx hb dX5_lastsBy_106 rfl (lv_at hl 2 rfl) ?_
          refine va_get (D := D) (ci := 5) (v := .ref (g 8)) (C := RX5) (T := TX5) (N := 33) hx hb hts hinR hown hE.1 hPR 0 rfl rfl 15 (by decide) (hts (.fieldLink RX5 41 "WallStonesModel" "store" "[I") (List.mem_of_getElem? (i := 1) rfl)) (fun _ h9 => h9) rfl dX5_lastsBy_107 ?_
          refine lv_iconst (v := 0) hx hb dX5_lastsBy_110 (by decide) ?_
          refine va_iald hx hb hE.1 hPR 8 0 rfl rfl (vp_in_iff.mpr (by decide)) dX5_lastsBy_111 ?_
          refine W.eq (congrArg (fun z => F0 m 112 ls [.int (sR 16 z), .int 30]) cl_0) ?_
          refine lv_imul hx hb dX5_lastsBy_112 ?_
          refine lv_istore (lv' := [(10, .int (30 * (sR 16 0))), (9, .int (x6_51 + ((x6_51 + 3) / 4))), (8, .int 1), (0, .ref (g 0)), (1, .int p1), (2, .int x2_51), (3, .int x3_51), (4, .int x4_51), (5, .int x5_51), (6, .int x6_51), (7, .int x7_51)]) hx hb dX5_lastsBy_113 hl (by decide) rfl (fun ls hl => ?_)
          refine lv_iload hx hb dX5_lastsBy_115 (lv_at hl 7 rfl) ?_
          refine lv_aload_n hx hb dX5_lastsBy_117 rfl (lv_at hl 3 rfl) ?_
          refine va_get (D := D) (ci := 5) (v := .ref (g 8)) (C := RX5) (T := TX5) (N := 33) hx hb hts hinR hown hE.1 hPR 0 rfl rfl 15 (by decide) (hts (.fieldLink RX5 41 "WallStonesModel" "store" "[I") (List.mem_of_getElem? (i := 1) rfl)) (fun _ h9 => h9) rfl dX5_lastsBy_118 ?_
          refine lv_iconst (v := 0) hx hb dX5_lastsBy_121 (by decide) ?_
          refine va_iald hx hb hE.1 hPR 8 0 rfl rfl (vp_in_iff.mpr (by decide)) dX5_lastsBy_122 ?_
          refine W.eq (congrArg (fun z => F0 m 123 ls [.int (sR 16 z), .int x4_51]) cl_0) ?_
          refine lv_icmp_lt (tgt := 130) hx hb dX5_lastsBy_123 (by decide) (fun c_31 => ?_) (fun c_31 => ?_)
          · have hM := hM.trans (if_pos c_31)
            have t_31 := lt_t c_31
            refine lv_iconst (v := 0) hx hb dX5_lastsBy_130 (by decide) ?_
            refine lv_istore (lv' := [(11, .int 0), (10, .int (30 * (sR 16 0))), (9, .int (x6_51 + ((x6_51 + 3) / 4))), (8, .int 1), (0, .ref (g 0)), (1, .int p1), (2, .int x2_51), (3, .int x3_51), (4, .int x4_51), (5, .int x5_51), (6, .int x6_51), (7, .int x7_51)]) hx hb dX5_lastsBy_131 hl (by decide) rfl (fun ls hl => ?_)
            refine lv_iload hx hb dX5_lastsBy_133 (lv_at hl 8 rfl) ?_
            refine lv_aload_n hx hb dX5_lastsBy_135 rfl (lv_at hl 4 rfl) ?_
            refine va_get (D := D) (ci := 5) (v := .ref (g 8)) (C := RX5) (T := TX5) (N := 33) hx hb hts hinR hown hE.1 hPR 0 rfl rfl 15 (by decide) (hts (.fieldLink RX5 41 "WallStonesModel" "store" "[I") (List.mem_of_getElem? (i := 1) rfl)) (fun _ h9 => h9) rfl dX5_lastsBy_136 ?_
            refine lv_iconst (v := 0) hx hb dX5_lastsBy_139 (by decide) ?_
            refine va_iald hx hb hE.1 hPR 8 0 rfl rfl (vp_in_iff.mpr (by decide)) dX5_lastsBy_140 ?_
            refine W.eq (congrArg (fun z => F0 m 141 ls [.int (sR 16 z), .int x4_51]) cl_0) ?_
            refine lv_isub hx hb dX5_lastsBy_141 ?_
            refine lv_istore (lv' := [(4, .int (x4_51 - (sR 16 0))), (11, .int 0), (10, .int (30 * (sR 16 0))), (9, .int (x6_51 + ((x6_51 + 3) / 4))), (8, .int 1), (0, .ref (g 0)), (1, .int p1), (2, .int x2_51), (3, .int x3_51), (5, .int x5_51), (6, .int x6_51), (7, .int x7_51)]) hx hb dX5_lastsBy_142 hl (by decide) rfl (fun ls hl => ?_)
            refine lv_iconst (v := 0) hx hb dX5_lastsBy_144 (by decide) ?_
            refine lv_istore (lv' := [(12, .int 0), (4, .int (x4_51 - (sR 16 0))), (11, .int 0), (10, .int (30 * (sR 16 0))), (9, .int (x6_51 + ((x6_51 + 3) / 4))), (8, .int 1), (0, .ref (g 0)), (1, .int p1), (2, .int x2_51), (3, .int x3_51), (5, .int x5_51), (6, .int x6_51), (7, .int x7_51)]) hx hb dX5_lastsBy_145 hl (by decide) rfl (fun ls hl => ?_)
            have z32 := tl_0
            have z33 := tl_1
            refine L_147 61 x2_51 x3_51 (x4_51 - (sR 16 0)) x5_51 x6_51 x7_51 1 (x6_51 + ((x6_51 + 3) / 4)) (30 * (sR 16 0)) 0 0 ls (by omega) (by omega) (lv_sub hl [6, 7, 8, 9, 1, 10, 11, 12, 5, 4, 3, 2, 0] rfl) (fun ls hl => ?_)
            exact J_241 (wl (g_R_lastsBy_147 sR p1 1 (x6_51 + ((x6_51 + 3) / 4))) 61 (x2_51, x3_51, x5_51, (30 * (sR 16 0)), 0, 0)).1 (wl (g_R_lastsBy_147 sR p1 1 (x6_51 + ((x6_51 + 3) / 4))) 61 (x2_51, x3_51, x5_51, (30 * (sR 16 0)), 0, 0)).2.1 (x4_51 - (sR 16 0)) (wl (g_R_lastsBy_147 sR p1 1 (x6_51 + ((x6_51 + 3) / 4))) 61 (x2_51, x3_51, x5_51, (30 * (sR 16 0)), 0, 0)).2.2.1 x7_51 (wl (g_R_lastsBy_147 sR p1 1 (x6_51 + ((x6_51 + 3) / 4))) 61 (x2_51, x3_51, x5_51, (30 * (sR 16 0)), 0, 0)).2.2.2.2.1 ls (by omega) (by omega) (lv_sub hl [0, 1, 2, 3, 4, 5, 6, 7, 8] rfl) hM
          · have hM := hM.trans (if_neg c_31)
            have t_31 := nlt_t c_31
            refine lv_iconst (v := 1) hx hb dX5_lastsBy_126 (by decide) ?_
            refine lv_goto (tgt := 131) hx hb dX5_lastsBy_127 (by decide) ?_
            refine lv_istore (lv' := [(11, .int 1), (10, .int (30 * (sR 16 0))), (9, .int (x6_51 + ((x6_51 + 3) / 4))), (8, .int 1), (0, .ref (g 0)), (1, .int p1), (2, .int x2_51), (3, .int x3_51), (4, .int x4_51), (5, .int x5_51), (6, .int x6_51), (7, .int x7_51)]) hx hb dX5_lastsBy_131 hl (by decide) rfl (fun ls hl => ?_)
            refine lv_iload hx hb dX5_lastsBy_133 (lv_at hl 8 rfl) ?_
            refine lv_aload_n hx hb dX5_lastsBy_135 rfl (lv_at hl 4 rfl) ?_
            refine va_get (D := D) (ci := 5) (v := .ref (g 8)) (C := RX5) (T := TX5) (N := 33) hx hb hts hinR hown hE.1 hPR 0 rfl rfl 15 (by decide) (hts (.fieldLink RX5 41 "WallStonesModel" "store" "[I") (List.mem_of_getElem? (i := 1) rfl)) (fun _ h9 => h9) rfl dX5_lastsBy_136 ?_
            refine lv_iconst (v := 0) hx hb dX5_lastsBy_139 (by decide) ?_
            refine va_iald hx hb hE.1 hPR 8 0 rfl rfl (vp_in_iff.mpr (by decide)) dX5_lastsBy_140 ?_
            refine W.eq (congrArg (fun z => F0 m 141 ls [.int (sR 16 z), .int x4_51]) cl_0) ?_
            refine lv_isub hx hb dX5_lastsBy_141 ?_
            refine lv_istore (lv' := [(4, .int (x4_51 - (sR 16 0))), (11, .int 1), (10, .int (30 * (sR 16 0))), (9, .int (x6_51 + ((x6_51 + 3) / 4))), (8, .int 1), (0, .ref (g 0)), (1, .int p1), (2, .int x2_51), (3, .int x3_51), (5, .int x5_51), (6, .int x6_51), (7, .int x7_51)]) hx hb dX5_lastsBy_142 hl (by decide) rfl (fun ls hl => ?_)
            refine lv_iconst (v := 0) hx hb dX5_lastsBy_144 (by decide) ?_
            refine lv_istore (lv' := [(12, .int 0), (4, .int (x4_51 - (sR 16 0))), (11, .int 1), (10, .int (30 * (sR 16 0))), (9, .int (x6_51 + ((x6_51 + 3) / 4))), (8, .int 1), (0, .ref (g 0)), (1, .int p1), (2, .int x2_51), (3, .int x3_51), (5, .int x5_51), (6, .int x6_51), (7, .int x7_51)]) hx hb dX5_lastsBy_145 hl (by decide) rfl (fun ls hl => ?_)
            have z34 := tl_0
            have z35 := tl_1
            refine L_147 61 x2_51 x3_51 (x4_51 - (sR 16 0)) x5_51 x6_51 x7_51 1 (x6_51 + ((x6_51 + 3) / 4)) (30 * (sR 16 0)) 1 0 ls (by omega) (by omega) (lv_sub hl [6, 7, 8, 9, 1, 10, 11, 12, 5, 4, 3, 2, 0] rfl) (fun ls hl => ?_)
            exact J_241 (wl (g_R_lastsBy_147 sR p1 1 (x6_51 + ((x6_51 + 3) / 4))) 61 (x2_51, x3_51, x5_51, (30 * (sR 16 0)), 1, 0)).1 (wl (g_R_lastsBy_147 sR p1 1 (x6_51 + ((x6_51 + 3) / 4))) 61 (x2_51, x3_51, x5_51, (30 * (sR 16 0)), 1, 0)).2.1 (x4_51 - (sR 16 0)) (wl (g_R_lastsBy_147 sR p1 1 (x6_51 + ((x6_51 + 3) / 4))) 61 (x2_51, x3_51, x5_51, (30 * (sR 16 0)), 1, 0)).2.2.1 x7_51 (wl (g_R_lastsBy_147 sR p1 1 (x6_51 + ((x6_51 + 3) / 4))) 61 (x2_51, x3_51, x5_51, (30 * (sR 16 0)), 1, 0)).2.2.2.2.1 ls (by omega) (by omega) (lv_sub hl [0, 1, 2, 3, 4, 5, 6, 7, 8] rfl) hM
  have hM : (m_R_lastsBy sR p1) = (m_R_lastsBy sR p1) := rfl
  refine lv_aload_n hx hb dX5_lastsBy_0 rfl (lv_at hl 0 rfl) ?_
  refine va_get (D := D) (ci := 5) (v := .ref (g 8)) (C := RX5) (T := TX5) (N := 33) hx hb hts hinR hown hE.1 hPR 0 rfl rfl 15 (by decide) (hts (.fieldLink RX5 41 "WallStonesModel" "store" "[I") (List.mem_of_getElem? (i := 1) rfl)) (fun _ h9 => h9) rfl dX5_lastsBy_1 ?_
  refine lv_iconst (v := 1) hx hb dX5_lastsBy_4 (by decide) ?_
  refine va_iald hx hb hE.1 hPR 8 0 rfl rfl (vp_in_iff.mpr (by decide)) dX5_lastsBy_5 ?_
  refine W.eq (congrArg (fun z => F0 m 6 ls [.int (sR 16 z)]) cl_1) ?_
  refine lv_istore_n (lv' := [(2, .int (sR 16 1)), (0, .ref (g 0)), (1, .int p1)]) hx hb dX5_lastsBy_6 rfl hl (by decide) rfl (fun ls hl => ?_)
  refine lv_aload_n hx hb dX5_lastsBy_7 rfl (lv_at hl 1 rfl) ?_
  refine va_get (D := D) (ci := 5) (v := .ref (g 8)) (C := RX5) (T := TX5) (N := 33) hx hb hts hinR hown hE.1 hPR 0 rfl rfl 15 (by decide) (hts (.fieldLink RX5 41 "WallStonesModel" "store" "[I") (List.mem_of_getElem? (i := 1) rfl)) (fun _ h9 => h9) rfl dX5_lastsBy_8 ?_
  refine lv_iconst (v := 2) hx hb dX5_lastsBy_11 (by decide) ?_
  refine va_iald hx hb hE.1 hPR 8 0 rfl rfl (vp_in_iff.mpr (by decide)) dX5_lastsBy_12 ?_
  refine W.eq (congrArg (fun z => F0 m 13 ls [.int (sR 16 z)]) cl_2) ?_
  refine lv_istore_n (lv' := [(3, .int (sR 16 2)), (2, .int (sR 16 1)), (0, .ref (g 0)), (1, .int p1)]) hx hb dX5_lastsBy_13 rfl hl (by decide) rfl (fun ls hl => ?_)
  refine lv_aload_n hx hb dX5_lastsBy_14 rfl (lv_at hl 2 rfl) ?_
  refine va_get (D := D) (ci := 5) (v := .ref (g 8)) (C := RX5) (T := TX5) (N := 33) hx hb hts hinR hown hE.1 hPR 0 rfl rfl 15 (by decide) (hts (.fieldLink RX5 41 "WallStonesModel" "store" "[I") (List.mem_of_getElem? (i := 1) rfl)) (fun _ h9 => h9) rfl dX5_lastsBy_15 ?_
  refine lv_iconst (v := 3) hx hb dX5_lastsBy_18 (by decide) ?_
  refine va_iald hx hb hE.1 hPR 8 0 rfl rfl (vp_in_iff.mpr (by decide)) dX5_lastsBy_19 ?_
  refine W.eq (congrArg (fun z => F0 m 20 ls [.int (sR 16 z)]) cl_3) ?_
  refine lv_istore (lv' := [(4, .int (sR 16 3)), (3, .int (sR 16 2)), (2, .int (sR 16 1)), (0, .ref (g 0)), (1, .int p1)]) hx hb dX5_lastsBy_20 hl (by decide) rfl (fun ls hl => ?_)
  refine lv_iconst (v := 0) hx hb dX5_lastsBy_22 (by decide) ?_
  refine lv_istore (lv' := [(5, .int 0), (4, .int (sR 16 3)), (3, .int (sR 16 2)), (2, .int (sR 16 1)), (0, .ref (g 0)), (1, .int p1)]) hx hb dX5_lastsBy_23 hl (by decide) rfl (fun ls hl => ?_)
  refine lv_aload_n hx hb dX5_lastsBy_25 rfl (lv_at hl 4 rfl) ?_
  refine va_get (D := D) (ci := 5) (v := .ref (g 1)) (C := RX5) (T := TX5) (N := 33) hx hb hts hinR hown hE.1 hPR 0 rfl rfl 0 (by decide) (hts (.fieldLink RX5 7 "WallStonesModel" "told" "[I") (List.mem_of_getElem? (i := 2) rfl)) (fun _ h9 => h9) rfl dX5_lastsBy_26 ?_
  refine lv_iconst (v := 2) hx hb dX5_lastsBy_29 (by decide) ?_
  refine va_iald hx hb hE.1 hPR 1 0 rfl rfl (vp_in_iff.mpr (by decide)) dX5_lastsBy_30 ?_
  refine W.eq (congrArg (fun z => F0 m 31 ls [.int (sR 1 z)]) cl_2) ?_
  refine lv_aload_n hx hb dX5_lastsBy_31 rfl (lv_at hl 4 rfl) ?_
  refine va_get (D := D) (ci := 5) (v := .ref (g 1)) (C := RX5) (T := TX5) (N := 33) hx hb hts hinR hown hE.1 hPR 0 rfl rfl 0 (by decide) (hts (.fieldLink RX5 7 "WallStonesModel" "told" "[I") (List.mem_of_getElem? (i := 2) rfl)) (fun _ h9 => h9) rfl dX5_lastsBy_32 ?_
  refine lv_iconst (v := 0) hx hb dX5_lastsBy_35 (by decide) ?_
  refine va_iald hx hb hE.1 hPR 1 0 rfl rfl (vp_in_iff.mpr (by decide)) dX5_lastsBy_36 ?_
  refine W.eq (congrArg (fun z => F0 m 37 ls [.int (sR 1 z), .int (sR 1 2)]) cl_0) ?_
  refine lv_imul hx hb dX5_lastsBy_37 ?_
  refine lv_sipush (v := 999) hx hb dX5_lastsBy_38 (by decide) ?_
  refine lv_iadd hx hb dX5_lastsBy_41 ?_
  refine lv_sipush (v := 1000) hx hb dX5_lastsBy_42 (by decide) ?_
  refine lv_idiv hx hb dX5_lastsBy_45 (by decide) ?_
  refine lv_istore (lv' := [(6, .int ((((sR 1 2) * (sR 1 0)) + 999) / 1000)), (5, .int 0), (4, .int (sR 16 3)), (3, .int (sR 16 2)), (2, .int (sR 16 1)), (0, .ref (g 0)), (1, .int p1)]) hx hb dX5_lastsBy_46 hl (by decide) rfl (fun ls hl => ?_)
  refine lv_iconst (v := 0) hx hb dX5_lastsBy_48 (by decide) ?_
  refine lv_istore (lv' := [(7, .int 0), (6, .int ((((sR 1 2) * (sR 1 0)) + 999) / 1000)), (5, .int 0), (4, .int (sR 16 3)), (3, .int (sR 16 2)), (2, .int (sR 16 1)), (0, .ref (g 0)), (1, .int p1)]) hx hb dX5_lastsBy_49 hl (by decide) rfl (fun ls hl => ?_)
  have z36 := tl_0
  exact C_51 101 (sR 16 1) (sR 16 2) (sR 16 3) 0 ((((sR 1 2) * (sR 1 0)) + 999) / 1000) 0 ls (by omega) (by omega) (lv_sub hl [6, 7, 5, 4, 3, 2, 1, 0] rfl) hM
abbrev rm_R_lasts : Room := { frames := 1, cells := 0, slots := 0, locals := 32 }
set_option maxHeartbeats 4000000 in
set_option maxRecDepth 100000 in
theorem K_R_lasts {l : Launch} {D : va_G} {cI : ClassId} {lo : Nat} {g : Nat → Nat} (hg : wI g 0 16 lo) (sR : St) (vR : Int64) (p1 : Int32) (h0 : okR sR) : ROi l D cI lo yX5_lasts wsX5_lasts rm_R_lasts [.ref (g 0), .int p1] (fun H => va_P D vwCl (cellR cI g sR vR) H) (m_R_lasts sR p1) := by
  refine ofW_ROi (cc := cX5_lasts) (maxL := 2) (ty := .int) (by decide +kernel) rfl (Nat.le_of_ble_eq_true rfl) ?_
  intro p e s m args below meth c Q hx hb hml hown hts hE hP hret ls hl
  have hown : s.vm.findClass RX5 = some m.cls := hown
  have hPR := hP
  have hA : ∀ q : Nat, (fun _ : Nat => False) q → lo ≤ q := fun _ h => h.elim
  have hS : va_S (fun _ : Nat => False) s.heap s.heap [] := va_S.rf
  have hinR : ∀ w ∈ wsX50, w ∈ wsX5_lasts := fun w h => List.mem_cons_of_mem _ (List.mem_append_right _ h)
  have hl : lv_has ls 2 [(0, .ref (g 0)), (1, .int p1)] := hl
  have nh0 := okR_lin h0
  have hM : (m_R_lasts sR p1) = (m_R_lasts sR p1) := rfl
  refine lv_iload_n hx hb dX5_lasts_0 rfl (lv_at hl 1 rfl) ?_
  refine lv_iconst (v := 0) hx hb dX5_lasts_1 (by decide) ?_
  refine lv_bipush (v := 60) hx hb dX5_lasts_2 (by decide) ?_
  refine runS_i (va_runS (As := [.int p1, .int 0, .int 60]) (rest := []) ⟨hx, hb, hml, hown, hts⟩ (K_R_in p1 0 60) (va_cwS 3 hts gX5_lasts_X5_in rfl rfl rfl (by decide +kernel) ⟨Nat.le_of_ble_eq_true rfl, Nat.le_of_ble_eq_true rfl⟩) (preS_of hE hA hS trivial) rfl rfl hl.1 rfl (lv_room (Nat.le_of_ble_eq_true rfl)) dX5_lasts_4 ⟨Nat.zero_le _, Nat.zero_le _⟩) ?_
  refine lv_if_eq (tgt := 18) hx hb dX5_lasts_7 (by decide) (fun c_1 => ?_) (fun c_1 => ?_)
  · have hM := hM.trans (if_pos c_1)
    refine lv_iconst (v := (-1)) hx hb dX5_lasts_18 (by decide) ?_
    have hM : (m_R_lasts sR p1) = ((-1) : Int32) := hM
    exact hret _ _ ls (nr_i _) dX5_lasts_19 hM.symm
  · have hM := hM.trans (if_neg c_1)
    have u_1 := in_t c_1
    rw [tl_0, tl_60] at u_1
    refine lv_aload_n hx hb dX5_lasts_10 rfl (lv_at hl 0 rfl) ?_
    refine lv_iload_n hx hb dX5_lasts_11 rfl (lv_at hl 1 rfl) ?_
    refine runS_i (va_runV (As := [.int p1]) (rest := []) ⟨hx, hb, hml, hown, hts⟩ (K_R_lastsBy hg sR vR p1 (by assumption) (by omega)) (cwV 1 hts gX5_lasts_X5_lastsBy rfl rfl rfl (by decide +kernel) ⟨Nat.le_of_ble_eq_true rfl, Nat.le_of_ble_eq_true rfl⟩) (preV_of hE hA hS hPR (va_recv hE.1 hPR (ci := 5) (q0 := 0) rfl rfl)) rfl rfl hl.1 rfl (lv_room (Nat.le_of_ble_eq_true rfl)) dX5_lasts_12 ⟨Nat.zero_le _, Nat.zero_le _⟩) ?_
    refine lv_goto (tgt := 19) hx hb dX5_lasts_15 (by decide) ?_
    have hM : (m_R_lasts sR p1) = ((m_R_lastsBy sR p1) : Int32) := hM
    exact hret _ _ ls (nr_i _) dX5_lasts_19 hM.symm
abbrev rm_R_count : Room := { frames := 1, cells := 0, slots := 0, locals := 23 }
set_option maxHeartbeats 4000000 in
set_option maxRecDepth 100000 in
theorem K_R_count {l : Launch} {D : va_G} {cI : ClassId} {lo : Nat} {g : Nat → Nat} (hg : wI g 0 16 lo) (sR : St) (vR : Int64) (p1 : Int32) (h0 : okR sR) : ROi l D cI lo yX5_count wsX5_count rm_R_count [.ref (g 0), .int p1] (fun H => va_P D vwCl (cellR cI g sR vR) H) (m_R_count sR p1) := by
  refine ofW_ROi (cc := cX5_count) (maxL := 4) (ty := .int) (by decide +kernel) rfl (Nat.le_of_ble_eq_true rfl) ?_
  intro p e s m args below meth c Q hx hb hml hown hts hE hP hret ls hl
  have hown : s.vm.findClass RX5 = some m.cls := hown
  have hPR := hP
  have hA : ∀ q : Nat, (fun _ : Nat => False) q → lo ≤ q := fun _ h => h.elim
  have hS : va_S (fun _ : Nat => False) s.heap s.heap [] := va_S.rf
  have hinR : ∀ w ∈ wsX50, w ∈ wsX5_count := fun w h => List.mem_cons_of_mem _ (List.mem_append_right _ h)
  have hl : lv_has ls 4 [(0, .ref (g 0)), (1, .int p1)] := hl
  have nh0 := okR_lin h0
  have L_65 : ∀ (n : Nat) (x2_65 : Int32) (x3_65 : Int32) (ls : Array Slot), 0 ≤ x3_65.toInt ∧ x3_65.toInt ≤ (sR 0 6).toInt → ((sR 0 6).toInt - x3_65.toInt).toNat < n → lv_has ls 4 [(0, .ref (g 0)), (2, .int x2_65), (3, .int x3_65)] → (∀ (ls : Array Slot), lv_has ls 4 [(2, .int (wl (g_R_count_65 sR) n (x2_65, x3_65)).1)] → W p l e rm_R_count s m args below meth c s.heap [] 0 0 Q (F0 m 87 ls [])) → W p l e rm_R_count s m args below meth c s.heap [] 0 0 Q (F0 m 65 ls []) := by
    intro n
    induction n with
    | zero =>
      intro x2_65 x3_65 ls i65_0 hn65 hl kk
      exact absurd hn65 (Nat.not_lt_zero _)
    | succ n ih =>
      intro x2_65 x3_65 ls i65_0 hn65 hl kk
      have hM : (g_R_count_65 sR) (x2_65, x3_65) = (g_R_count_65 sR) (x2_65, x3_65) := rfl
      refine lv_iload_n hx hb dX5_count_65 rfl (lv_at hl 2 rfl) ?_
      refine lv_aload_n hx hb dX5_count_66 rfl (lv_at hl 0 rfl) ?_
      refine va_get (D := D) (ci := 5) (v := .int (sR 0 6)) (C := RX5) (T := TX5) (N := 33) hx hb hts hinR hown hE.1 hPR 0 rfl rfl 6 (by decide) (hts (.fieldLink RX5 23 "WallStonesModel" "width" "I") (List.mem_of_getElem? (i := 2) rfl)) (fun _ h9 => h9) rfl dX5_count_67 ?_
      refine lv_icmp_ge (tgt := 87) hx hb dX5_count_70 (by decide) (fun c_1 => ?_) (fun c_1 => ?_)
      · have hM := hM.trans (if_pos c_1)
        have t_1 := le_t c_1
        rw [wl_none hM] at kk
        exact kk ls (lv_sub hl [1] rfl)
      · have hM := hM.trans (if_neg c_1)
        have t_1 := nle_t c_1
        refine lv_iload_n hx hb dX5_count_73 rfl (lv_at hl 1 rfl) ?_
        refine lv_aload_n hx hb dX5_count_74 rfl (lv_at hl 0 rfl) ?_
        refine lv_iload_n hx hb dX5_count_75 rfl (lv_at hl 2 rfl) ?_
        refine runS_i (va_runV (As := [.int x3_65]) (rest := [.int x2_65]) ⟨hx, hb, hml, hown, hts⟩ (K_R_standing hg sR vR x3_65 (by assumption) (by omega)) (cwV 1 hts gX5_count_X5_standing rfl rfl rfl (by decide +kernel) ⟨Nat.le_of_ble_eq_true rfl, Nat.le_of_ble_eq_true rfl⟩) (preV_of hE hA hS hPR (va_recv hE.1 hPR (ci := 5) (q0 := 0) rfl rfl)) rfl rfl hl.1 rfl (lv_room (Nat.le_of_ble_eq_true rfl)) dX5_count_76 ⟨Nat.zero_le _, Nat.zero_le _⟩) ?_
        refine lv_iadd hx hb dX5_count_79 ?_
        refine lv_istore_n (lv' := [(2, .int (x2_65 + (m_R_standing sR x3_65))), (0, .ref (g 0)), (3, .int x3_65)]) hx hb dX5_count_80 rfl hl (by decide) rfl (fun ls hl => ?_)
        refine lv_iinc (v := (x3_65 + 1)) (lv' := [(3, .int (x3_65 + 1)), (2, .int (x2_65 + (m_R_standing sR x3_65))), (0, .ref (g 0))]) hx hb dX5_count_81 hl (k := 2) rfl rfl (by decide) rfl (fun ls hl => ?_)
        refine lv_goto (tgt := 65) hx hb dX5_count_84 (by decide) ?_
        have := t_inc (x := x3_65) (by omega)
        rw [wl_some hM] at kk
        exact ih (x2_65 + (m_R_standing sR x3_65)) (x3_65 + 1) ls (by omega) (by omega) (lv_sub hl [2, 1, 0] rfl) kk
  have L_108 : ∀ (n : Nat) (x2_108 : Int32) (x3_108 : Int32) (ls : Array Slot), 0 ≤ x3_108.toInt ∧ x3_108.toInt ≤ (sR 0 6).toInt → ((sR 0 6).toInt - x3_108.toInt).toNat < n → lv_has ls 4 [(0, .ref (g 0)), (2, .int x2_108), (3, .int x3_108)] → (∀ (ls : Array Slot), lv_has ls 4 [(2, .int (wl (g_R_count_108 sR) n (x2_108, x3_108)).1)] → W p l e rm_R_count s m args below meth c s.heap [] 0 0 Q (F0 m 142 ls [])) → W p l e rm_R_count s m args below meth c s.heap [] 0 0 Q (F0 m 108 ls []) := by
    intro n
    induction n with
    | zero =>
      intro x2_108 x3_108 ls i108_0 hn108 hl kk
      exact absurd hn108 (Nat.not_lt_zero _)
    | succ n ih =>
      intro x2_108 x3_108 ls i108_0 hn108 hl kk
      have hM : (g_R_count_108 sR) (x2_108, x3_108) = (g_R_count_108 sR) (x2_108, x3_108) := rfl
      refine lv_iload_n hx hb dX5_count_108 rfl (lv_at hl 2 rfl) ?_
      refine lv_aload_n hx hb dX5_count_109 rfl (lv_at hl 0 rfl) ?_
      refine va_get (D := D) (ci := 5) (v := .int (sR 0 6)) (C := RX5) (T := TX5) (N := 33) hx hb hts hinR hown hE.1 hPR 0 rfl rfl 6 (by decide) (hts (.fieldLink RX5 23 "WallStonesModel" "width" "I") (List.mem_of_getElem? (i := 2) rfl)) (fun _ h9 => h9) rfl dX5_count_110 ?_
      refine lv_icmp_ge (tgt := 142) hx hb dX5_count_113 (by decide) (fun c_2 => ?_) (fun c_2 => ?_)
      · have hM := hM.trans (if_pos c_2)
        have t_2 := le_t c_2
        rw [wl_none hM] at kk
        exact kk ls (lv_sub hl [1] rfl)
      · have hM := hM.trans (if_neg c_2)
        have t_2 := nle_t c_2
        refine lv_iload_n hx hb dX5_count_116 rfl (lv_at hl 1 rfl) ?_
        refine lv_aload_n hx hb dX5_count_117 rfl (lv_at hl 0 rfl) ?_
        refine lv_iload_n hx hb dX5_count_118 rfl (lv_at hl 2 rfl) ?_
        refine runS_i (va_runV (As := [.int x3_108]) (rest := [.int x2_108]) ⟨hx, hb, hml, hown, hts⟩ (K_R_standing hg sR vR x3_108 (by assumption) (by omega)) (cwV 1 hts gX5_count_X5_standing rfl rfl rfl (by decide +kernel) ⟨Nat.le_of_ble_eq_true rfl, Nat.le_of_ble_eq_true rfl⟩) (preV_of hE hA hS hPR (va_recv hE.1 hPR (ci := 5) (q0 := 0) rfl rfl)) rfl rfl hl.1 rfl (lv_room (Nat.le_of_ble_eq_true rfl)) dX5_count_119 ⟨Nat.zero_le _, Nat.zero_le _⟩) ?_
        refine lv_aload_n hx hb dX5_count_122 rfl (lv_at hl 0 rfl) ?_
        refine va_get (D := D) (ci := 5) (v := .int (sR 0 11)) (C := RX5) (T := TX5) (N := 33) hx hb hts hinR hown hE.1 hPR 0 rfl rfl 11 (by decide) (hts (.fieldLink RX5 167 "WallStonesModel" "level" "I") (List.mem_of_getElem? (i := 7) rfl)) (fun _ h9 => h9) rfl dX5_count_123 ?_
        refine lv_icmp_gt (tgt := 133) hx hb dX5_count_126 (by decide) (fun c_3 => ?_) (fun c_3 => ?_)
        · have hM := hM.trans (if_pos c_3)
          have t_3 := lt_t c_3
          refine lv_iconst (v := 0) hx hb dX5_count_133 (by decide) ?_
          refine lv_iadd hx hb dX5_count_134 ?_
          refine lv_istore_n (lv' := [(2, .int (x2_108 + 0)), (0, .ref (g 0)), (3, .int x3_108)]) hx hb dX5_count_135 rfl hl (by decide) rfl (fun ls hl => ?_)
          refine lv_iinc (v := (x3_108 + 1)) (lv' := [(3, .int (x3_108 + 1)), (2, .int (x2_108 + 0)), (0, .ref (g 0))]) hx hb dX5_count_136 hl (k := 2) rfl rfl (by decide) rfl (fun ls hl => ?_)
          refine lv_goto (tgt := 108) hx hb dX5_count_139 (by decide) ?_
          have := t_inc (x := x3_108) (by omega)
          rw [wl_some hM] at kk
          exact ih (x2_108 + 0) (x3_108 + 1) ls (by omega) (by omega) (lv_sub hl [2, 1, 0] rfl) kk
        · have hM := hM.trans (if_neg c_3)
          have t_3 := nlt_t c_3
          refine lv_iconst (v := 1) hx hb dX5_count_129 (by decide) ?_
          refine lv_goto (tgt := 134) hx hb dX5_count_130 (by decide) ?_
          refine lv_iadd hx hb dX5_count_134 ?_
          refine lv_istore_n (lv' := [(2, .int (x2_108 + 1)), (0, .ref (g 0)), (3, .int x3_108)]) hx hb dX5_count_135 rfl hl (by decide) rfl (fun ls hl => ?_)
          refine lv_iinc (v := (x3_108 + 1)) (lv' := [(3, .int (x3_108 + 1)), (2, .int (x2_108 + 1)), (0, .ref (g 0))]) hx hb dX5_count_136 hl (k := 2) rfl rfl (by decide) rfl (fun ls hl => ?_)
          refine lv_goto (tgt := 108) hx hb dX5_count_139 (by decide) ?_
          have := t_inc (x := x3_108) (by omega)
          rw [wl_some hM] at kk
          exact ih (x2_108 + 1) (x3_108 + 1) ls (by omega) (by omega) (lv_sub hl [2, 1, 0] rfl) kk
  have J_142 : ∀ (x2_142 : Int32) (ls : Array Slot), lv_has ls 4 [(2, .int x2_142)] → (m_R_count sR p1) = b_R_count_142 sR x2_142 → W p l e rm_R_count s m args below meth c s.heap [] 0 0 Q (F0 m 142 ls []) := by
    intro x2_142 ls hl hM
    refine lv_iload_n hx hb dX5_count_142 rfl (lv_at hl 0 rfl) ?_
    have hM : (m_R_count sR p1) = (x2_142 : Int32) := hM
    exact hret _ _ ls (nr_i _) dX5_count_143 hM.symm
  have J_87 : ∀ (x2_87 : Int32) (ls : Array Slot), lv_has ls 4 [(2, .int x2_87)] → (m_R_count sR p1) = b_R_count_87 sR x2_87 → W p l e rm_R_count s m args below meth c s.heap [] 0 0 Q (F0 m 87 ls []) := by
    intro x2_87 ls hl hM
    refine lv_iload_n hx hb dX5_count_87 rfl (lv_at hl 0 rfl) ?_
    have hM : (m_R_count sR p1) = (x2_87 : Int32) := hM
    exact hret _ _ ls (nr_i _) dX5_count_88 hM.symm
  have hM : (m_R_count sR p1) = (m_R_count sR p1) := rfl
  refine lv_iconst (v := 0) hx hb dX5_count_0 (by decide) ?_
  refine lv_istore_n (lv' := [(2, .int 0), (0, .ref (g 0)), (1, .int p1)]) hx hb dX5_count_1 rfl hl (by decide) rfl (fun ls hl => ?_)
  refine lv_iload_n hx hb dX5_count_2 rfl (lv_at hl 2 rfl) ?_
  by_cases c_4 : p1 = 0
  · have hM := hM.trans (if_pos c_4)
    refine lv_tableIn (tgt := 48) hx hb dX5_count_3 (by rw [c_4]; decide) (by rw [c_4]; decide) (by rw [c_4]; rfl) (by decide) ?_
    have t_4 := eq_t c_4
    rw [tl_0] at t_4
    refine lv_aload_n hx hb dX5_count_48 rfl (lv_at hl 1 rfl) ?_
    refine va_get (D := D) (ci := 5) (v := .int (sR 0 13)) (C := RX5) (T := TX5) (N := 33) hx hb hts hinR hown hE.1 hPR 0 rfl rfl 13 (by decide) (hts (.fieldLink RX5 82 "WallStonesModel" "state" "I") (List.mem_of_getElem? (i := 1) rfl)) (fun _ h9 => h9) rfl dX5_count_49 ?_
    have hM : (m_R_count sR p1) = ((sR 0 13) : Int32) := hM
    exact hret _ _ ls (nr_i _) dX5_count_52 hM.symm
  · have hM := hM.trans (if_neg c_4)
    have t_4 := ne_t c_4
    rw [tl_0] at t_4
    by_cases c_5 : p1 = 1
    · have hM := hM.trans (if_pos c_5)
      refine lv_tableIn (tgt := 53) hx hb dX5_count_3 (by rw [c_5]; decide) (by rw [c_5]; decide) (by rw [c_5]; rfl) (by decide) ?_
      have t_5 := eq_t c_5
      rw [tl_1] at t_5
      refine lv_aload_n hx hb dX5_count_53 rfl (lv_at hl 1 rfl) ?_
      refine va_get (D := D) (ci := 5) (v := .int (sR 0 6)) (C := RX5) (T := TX5) (N := 33) hx hb hts hinR hown hE.1 hPR 0 rfl rfl 6 (by decide) (hts (.fieldLink RX5 23 "WallStonesModel" "width" "I") (List.mem_of_getElem? (i := 2) rfl)) (fun _ h9 => h9) rfl dX5_count_54 ?_
      have hM : (m_R_count sR p1) = ((sR 0 6) : Int32) := hM
      exact hret _ _ ls (nr_i _) dX5_count_57 hM.symm
    · have hM := hM.trans (if_neg c_5)
      have t_5 := ne_t c_5
      rw [tl_1] at t_5
      by_cases c_6 : p1 = 2
      · have hM := hM.trans (if_pos c_6)
        refine lv_tableIn (tgt := 58) hx hb dX5_count_3 (by rw [c_6]; decide) (by rw [c_6]; decide) (by rw [c_6]; rfl) (by decide) ?_
        have t_6 := eq_t c_6
        rw [tl_2] at t_6
        refine lv_aload_n hx hb dX5_count_58 rfl (lv_at hl 1 rfl) ?_
        refine va_get (D := D) (ci := 5) (v := .int (sR 0 7)) (C := RX5) (T := TX5) (N := 33) hx hb hts hinR hown hE.1 hPR 0 rfl rfl 7 (by decide) (hts (.fieldLink RX5 26 "WallStonesModel" "height" "I") (List.mem_of_getElem? (i := 3) rfl)) (fun _ h9 => h9) rfl dX5_count_59 ?_
        have hM : (m_R_count sR p1) = ((sR 0 7) : Int32) := hM
        exact hret _ _ ls (nr_i _) dX5_count_62 hM.symm
      · have hM := hM.trans (if_neg c_6)
        have t_6 := ne_t c_6
        rw [tl_2] at t_6
        by_cases c_7 : p1 = 3
        · have hM := hM.trans (if_pos c_7)
          refine lv_tableIn (tgt := 63) hx hb dX5_count_3 (by rw [c_7]; decide) (by rw [c_7]; decide) (by rw [c_7]; rfl) (by decide) ?_
          have t_7 := eq_t c_7
          rw [tl_3] at t_7
          refine lv_iconst (v := 0) hx hb dX5_count_63 (by decide) ?_
          refine lv_istore_n (lv' := [(3, .int 0), (2, .int 0), (0, .ref (g 0)), (1, .int p1)]) hx hb dX5_count_64 rfl hl (by decide) rfl (fun ls hl => ?_)
          have z8 := tl_0
          refine L_65 9 0 0 ls (by omega) (by omega) (lv_sub hl [2, 1, 0] rfl) (fun ls hl => ?_)
          exact J_87 (wl (g_R_count_65 sR) 9 (0, 0)).1 ls (lv_sub hl [0] rfl) hM
        · have hM := hM.trans (if_neg c_7)
          have t_7 := ne_t c_7
          rw [tl_3] at t_7
          by_cases c_9 : p1 = 4
          · have hM := hM.trans (if_pos c_9)
            refine lv_tableIn (tgt := 89) hx hb dX5_count_3 (by rw [c_9]; decide) (by rw [c_9]; decide) (by rw [c_9]; rfl) (by decide) ?_
            have t_9 := eq_t c_9
            rw [tl_4] at t_9
            refine lv_aload_n hx hb dX5_count_89 rfl (lv_at hl 1 rfl) ?_
            refine va_get (D := D) (ci := 5) (v := .int (sR 0 3)) (C := RX5) (T := TX5) (N := 33) hx hb hts hinR hown hE.1 hPR 0 rfl rfl 3 (by decide) (hts (.fieldLink RX5 141 "WallStonesModel" "shots" "I") (List.mem_of_getElem? (i := 4) rfl)) (fun _ h9 => h9) rfl dX5_count_90 ?_
            have hM : (m_R_count sR p1) = ((sR 0 3) : Int32) := hM
            exact hret _ _ ls (nr_i _) dX5_count_93 hM.symm
          · have hM := hM.trans (if_neg c_9)
            have t_9 := ne_t c_9
            rw [tl_4] at t_9
            by_cases c_10 : p1 = 5
            · have hM := hM.trans (if_pos c_10)
              refine lv_tableIn (tgt := 94) hx hb dX5_count_3 (by rw [c_10]; decide) (by rw [c_10]; decide) (by rw [c_10]; rfl) (by decide) ?_
              have t_10 := eq_t c_10
              rw [tl_5] at t_10
              refine lv_aload_n hx hb dX5_count_94 rfl (lv_at hl 1 rfl) ?_
              refine va_get (D := D) (ci := 5) (v := .int (sR 0 14)) (C := RX5) (T := TX5) (N := 33) hx hb hts hinR hown hE.1 hPR 0 rfl rfl 14 (by decide) (hts (.fieldLink RX5 194 "WallStonesModel" "loosed" "I") (List.mem_of_getElem? (i := 5) rfl)) (fun _ h9 => h9) rfl dX5_count_95 ?_
              have hM : (m_R_count sR p1) = ((sR 0 14) : Int32) := hM
              exact hret _ _ ls (nr_i _) dX5_count_98 hM.symm
            · have hM := hM.trans (if_neg c_10)
              have t_10 := ne_t c_10
              rw [tl_5] at t_10
              by_cases c_11 : p1 = 6
              · have hM := hM.trans (if_pos c_11)
                refine lv_tableIn (tgt := 99) hx hb dX5_count_3 (by rw [c_11]; decide) (by rw [c_11]; decide) (by rw [c_11]; rfl) (by decide) ?_
                have t_11 := eq_t c_11
                rw [tl_6] at t_11
                refine lv_aload_n hx hb dX5_count_99 rfl (lv_at hl 1 rfl) ?_
                refine va_get (D := D) (ci := 5) (v := .ref (g 8)) (C := RX5) (T := TX5) (N := 33) hx hb hts hinR hown hE.1 hPR 0 rfl rfl 15 (by decide) (hts (.fieldLink RX5 41 "WallStonesModel" "store" "[I") (List.mem_of_getElem? (i := 6) rfl)) (fun _ h9 => h9) rfl dX5_count_100 ?_
                refine lv_iconst (v := 1) hx hb dX5_count_103 (by decide) ?_
                refine va_iald hx hb hE.1 hPR 8 0 rfl rfl (vp_in_iff.mpr (by decide)) dX5_count_104 ?_
                refine W.eq (congrArg (fun z => F0 m 105 ls [.int (sR 16 z)]) cl_1) ?_
                have hM : (m_R_count sR p1) = ((sR 16 1) : Int32) := hM
                exact hret _ _ ls (nr_i _) dX5_count_105 hM.symm
              · have hM := hM.trans (if_neg c_11)
                have t_11 := ne_t c_11
                rw [tl_6] at t_11
                by_cases c_12 : p1 = 7
                · have hM := hM.trans (if_pos c_12)
                  refine lv_tableIn (tgt := 106) hx hb dX5_count_3 (by rw [c_12]; decide) (by rw [c_12]; decide) (by rw [c_12]; rfl) (by decide) ?_
                  have t_12 := eq_t c_12
                  rw [tl_7] at t_12
                  refine lv_iconst (v := 0) hx hb dX5_count_106 (by decide) ?_
                  refine lv_istore_n (lv' := [(3, .int 0), (2, .int 0), (0, .ref (g 0)), (1, .int p1)]) hx hb dX5_count_107 rfl hl (by decide) rfl (fun ls hl => ?_)
                  have z13 := tl_0
                  refine L_108 9 0 0 ls (by omega) (by omega) (lv_sub hl [2, 1, 0] rfl) (fun ls hl => ?_)
                  exact J_142 (wl (g_R_count_108 sR) 9 (0, 0)).1 ls (lv_sub hl [0] rfl) hM
                · have hM := hM.trans (if_neg c_12)
                  have t_12 := ne_t c_12
                  rw [tl_7] at t_12
                  refine lv_tableOut (tgt := 144) hx hb dX5_count_3 (by omega) (by decide) ?_
                  refine lv_iconst (v := (-1)) hx hb dX5_count_144 (by decide) ?_
                  have hM : (m_R_count sR p1) = ((-1) : Int32) := hM
                  exact hret _ _ ls (nr_i _) dX5_count_145 hM.symm
abbrev rm_R_trace : Room := { frames := 0, cells := 0, slots := 0, locals := 0 }
set_option maxHeartbeats 4000000 in
set_option maxRecDepth 100000 in
theorem K_R_trace {l : Launch} {D : va_G} {cI : ClassId} {lo : Nat} {g : Nat → Nat} (hg : wI g 0 16 lo) (sR : St) (vR : Int64) : ROl l D cI lo yX5_trace wsX5_trace rm_R_trace [.ref (g 0)] (fun H => va_P D vwCl (cellR cI g sR vR) H) (m_R_trace sR vR) := by
  refine ofW_ROl (cc := cX5_trace) (maxL := 1) (by decide +kernel) rfl (Nat.le_of_ble_eq_true rfl) ?_
  intro p e s m args below meth c Q hx hb hml hown hts hE hP hret ls hl
  have hown : s.vm.findClass RX5 = some m.cls := hown
  have hPR := hP
  have hA : ∀ q : Nat, (fun _ : Nat => False) q → lo ≤ q := fun _ h => h.elim
  have hS : va_S (fun _ : Nat => False) s.heap s.heap [] := va_S.rf
  have hinR : ∀ w ∈ wsX50, w ∈ wsX5_trace := fun w h => List.mem_cons_of_mem _ (List.mem_append_right _ h)
  have hl : lv_has ls 1 [(0, .ref (g 0))] := hl
  have hM : (m_R_trace sR vR) = (m_R_trace sR vR) := rfl
  refine lv_aload_n hx hb dX5_trace_0 rfl (lv_at hl 0 rfl) ?_
  refine va_get (D := D) (ci := 5) (v := .long vR) (C := RX5) (T := TX5) (N := 33) hx hb hts hinR hown hE.1 hPR 0 rfl rfl 18 (by decide) (hts (.fieldLink RX5 133 "WallStonesModel" "trace" "J") (List.mem_of_getElem? (i := 1) rfl)) (fun _ h9 => h9) rfl dX5_trace_1 ?_
  have hM : (m_R_trace sR vR) = (vR : Int64) := hM
  exact hret _ _ ls dX5_trace_4 hM.symm
