abbrev rm_L_build : Room := { frames := 0, cells := 0, slots := 0, locals := 0 }
set_option maxHeartbeats 4000000 in
set_option maxRecDepth 100000 in
theorem K_L_build {l : Launch} {D : va_G} {cI : ClassId} {lo : Nat} {g : Nat → Nat} (hg : wI g 12 17 lo) (sL : St) (p1 : Int32) (p2 : Int32) : WRv l D cI lo yX3_build wsX3_build rm_L_build [.ref (g 12), .int p1, .int p2] (fun H => va_P D vwCl (cellL cI g sL) H) (fun H => va_P D vwCl (cellL cI g (m_L_build sL p1 p2)) H) (wA g 12 17) := by
  refine ofW_WRv (cc := cX3_build) (maxL := 4) (by decide +kernel) rfl (Nat.le_of_ble_eq_true rfl) ?_
  intro p e s m args below meth c Q hx hb hml hown hts hE hP hret ls hl
  have hown : s.vm.findClass RX3 = some m.cls := hown
  have hPL := hP
  have hA := wA.lo hg
  have hS : va_S (wA g 12 17) s.heap s.heap [] := va_S.rf
  obtain ⟨H, hH⟩ : ∃ z, z = s.heap := ⟨_, rfl⟩
  obtain ⟨locs, hlocs⟩ : ∃ z : List Loc, z = [] := ⟨_, rfl⟩
  have hPL : va_P D vwCl (cellL cI g sL) H := by rw [hH]; exact hPL
  have hS : va_S (wA g 12 17) s.heap H locs := by rw [hH, hlocs]; exact va_S.rf
  have gW : W p l e rm_L_build s m args below meth c H locs 0 0 Q (F0 m 0 ls []) → W p l e rm_L_build s m args below meth c s.heap [] 0 0 Q (F0 m 0 ls []) := by rw [hH, hlocs]; exact id
  refine gW ?_
  have hinL : ∀ w ∈ wsX30, w ∈ wsX3_build := fun w h => List.mem_cons_of_mem _ (List.mem_append_right _ h)
  have hl : lv_has ls 4 [(0, .ref (g 12)), (1, .int p1), (2, .int p2)] := hl
  have L_12 : ∀ (n : Nat) (sL_12 : St) (x3_12 : Int32) (H : Heap) (locs : List Loc) (ls : Array Slot), 0 ≤ x3_12.toInt ∧ x3_12.toInt ≤ 48 → (48 - x3_12.toInt).toNat < n → va_P D vwCl (cellL cI g sL_12) H → va_S (wA g 12 17) s.heap H locs → lv_has ls 4 [(0, .ref (g 12)), (1, .int p1), (2, .int p2), (3, .int x3_12)] → (∀ (H : Heap) (locs : List Loc) (ls : Array Slot), va_P D vwCl (cellL cI g (wl g_L_build_12 n (sL_12, x3_12)).1) H → va_S (wA g 12 17) s.heap H locs → lv_has ls 4 [(0, .ref (g 12)), (1, .int p1), (2, .int p2)] → W p l e rm_L_build s m args below meth c H locs 0 0 Q (F0 m 35 ls [])) → W p l e rm_L_build s m args below meth c H locs 0 0 Q (F0 m 12 ls []) := by
    intro n
    induction n with
    | zero =>
      intro sL_12 x3_12 H locs ls i12_0 hn12 hPL hS hl kk
      exact absurd hn12 (Nat.not_lt_zero _)
    | succ n ih =>
      intro sL_12 x3_12 H locs ls i12_0 hn12 hPL hS hl kk
      have hM : g_L_build_12 (sL_12, x3_12) = g_L_build_12 (sL_12, x3_12) := rfl
      refine lv_iload_n hx hb dX3_build_12 rfl (lv_at hl 3 rfl) ?_
      refine lv_aload_n hx hb dX3_build_13 rfl (lv_at hl 0 rfl) ?_
      refine va_get (D := D) (ci := 3) (v := .ref (g 13)) (C := RX3) (T := TX3) (N := 7) hx hb hts hinL hown hE.1 hPL 0 rfl rfl 0 (by decide) (hts (.fieldLink RX3 11 "WallStones$Wall" "strengths" "[I") (List.mem_of_getElem? (i := 3) rfl)) (fun _ h9 => h9) rfl dX3_build_14 ?_
      refine va_alen hx hb hE.1 hPL 1 0 rfl rfl (v := 48) rfl dX3_build_17 ?_
      refine lv_icmp_ge (tgt := 35) hx hb dX3_build_18 (by decide) (fun c_1 => ?_) (fun c_1 => ?_)
      · have hM := hM.trans (if_pos c_1)
        have t_1 := le_t c_1
        rw [tl_48] at t_1
        rw [wl_none hM] at kk
        exact kk H locs ls hPL hS (lv_sub hl [0, 1, 2] rfl)
      · have hM := hM.trans (if_neg c_1)
        have t_1 := nle_t c_1
        rw [tl_48] at t_1
        refine lv_aload_n hx hb dX3_build_21 rfl (lv_at hl 0 rfl) ?_
        refine va_get (D := D) (ci := 3) (v := .ref (g 13)) (C := RX3) (T := TX3) (N := 7) hx hb hts hinL hown hE.1 hPL 0 rfl rfl 0 (by decide) (hts (.fieldLink RX3 11 "WallStones$Wall" "strengths" "[I") (List.mem_of_getElem? (i := 3) rfl)) (fun _ h9 => h9) rfl dX3_build_22 ?_
        refine lv_iload_n hx hb dX3_build_25 rfl (lv_at hl 3 rfl) ?_
        refine lv_bipush (v := 10) hx hb dX3_build_26 (by decide) ?_
        refine va_iast hx hb hE.1 hPL (wD_of hg (c := 12) (n := 5) (by decide) (by decide) rfl) hS 1 0 rfl rfl (vp_in_iff.mpr (by omega)) dX3_build_28 (fun H locs hPn _ hS => ?_)
        have hPL : va_P D vwCl (cellL cI g (up sL_12 1 (Int32.toNatClampNeg x3_12) 10)) H := (congrArg (fun z => va_P D vwCl z H) setL_L1).mp hPn
        refine lv_iinc (v := (x3_12 + 1)) (lv' := [(3, .int (x3_12 + 1)), (0, .ref (g 12)), (1, .int p1), (2, .int p2)]) hx hb dX3_build_29 hl (k := 3) rfl rfl (by decide) rfl (fun ls hl => ?_)
        refine lv_goto (tgt := 12) hx hb dX3_build_32 (by decide) ?_
        have := t_inc (x := x3_12) (by omega)
        rw [wl_some hM] at kk
        exact ih (up sL_12 1 (Int32.toNatClampNeg x3_12) 10) (x3_12 + 1) H locs ls (by omega) (by omega) hPL hS (lv_sub hl [1, 2, 3, 0] rfl) kk
  have L_37 : ∀ (n : Nat) (sL_37 : St) (x3_37 : Int32) (H : Heap) (locs : List Loc) (ls : Array Slot), 0 ≤ x3_37.toInt ∧ x3_37.toInt ≤ 8 → (8 - x3_37.toInt).toNat < n → va_P D vwCl (cellL cI g sL_37) H → va_S (wA g 12 17) s.heap H locs → lv_has ls 4 [(0, .ref (g 12)), (1, .int p1), (2, .int p2), (3, .int x3_37)] → (∀ (H : Heap) (locs : List Loc) (ls : Array Slot), va_P D vwCl (cellL cI g (wl (g_L_build_37 p1 p2) n (sL_37, x3_37)).1) H → va_S (wA g 12 17) s.heap H locs → lv_has ls 4 [] → W p l e rm_L_build s m args below meth c H locs 0 0 Q (F0 m 76 ls [])) → W p l e rm_L_build s m args below meth c H locs 0 0 Q (F0 m 37 ls []) := by
    intro n
    induction n with
    | zero =>
      intro sL_37 x3_37 H locs ls i37_0 hn37 hPL hS hl kk
      exact absurd hn37 (Nat.not_lt_zero _)
    | succ n ih =>
      intro sL_37 x3_37 H locs ls i37_0 hn37 hPL hS hl kk
      have hM : (g_L_build_37 p1 p2) (sL_37, x3_37) = (g_L_build_37 p1 p2) (sL_37, x3_37) := rfl
      refine lv_iload_n hx hb dX3_build_37 rfl (lv_at hl 3 rfl) ?_
      refine lv_bipush (v := 8) hx hb dX3_build_38 (by decide) ?_
      refine lv_icmp_ge (tgt := 76) hx hb dX3_build_40 (by decide) (fun c_2 => ?_) (fun c_2 => ?_)
      · have hM := hM.trans (if_pos c_2)
        have t_2 := le_t c_2
        rw [tl_8] at t_2
        rw [wl_none hM] at kk
        exact kk H locs ls hPL hS (lv_sub hl [] rfl)
      · have hM := hM.trans (if_neg c_2)
        have t_2 := nle_t c_2
        rw [tl_8] at t_2
        refine lv_aload_n hx hb dX3_build_43 rfl (lv_at hl 0 rfl) ?_
        refine va_get (D := D) (ci := 3) (v := .ref (g 14)) (C := RX3) (T := TX3) (N := 7) hx hb hts hinL hown hE.1 hPL 0 rfl rfl 1 (by decide) (hts (.fieldLink RX3 15 "WallStones$Wall" "standing" "[I") (List.mem_of_getElem? (i := 4) rfl)) (fun _ h9 => h9) rfl dX3_build_44 ?_
        refine lv_iload_n hx hb dX3_build_47 rfl (lv_at hl 3 rfl) ?_
        refine lv_iload_n hx hb dX3_build_48 rfl (lv_at hl 3 rfl) ?_
        refine lv_iload_n hx hb dX3_build_49 rfl (lv_at hl 1 rfl) ?_
        refine lv_icmp_ge (tgt := 61) hx hb dX3_build_50 (by decide) (fun c_3 => ?_) (fun c_3 => ?_)
        · have hM := hM.trans (if_pos c_3)
          have t_3 := le_t c_3
          refine lv_iconst (v := 0) hx hb dX3_build_61 (by decide) ?_
          refine va_iast hx hb hE.1 hPL (wD_of hg (c := 12) (n := 5) (by decide) (by decide) rfl) hS 2 0 rfl rfl (vp_in_iff.mpr (by omega)) dX3_build_62 (fun H locs hPn _ hS => ?_)
          have hPL : va_P D vwCl (cellL cI g (up sL_37 2 (Int32.toNatClampNeg x3_37) 0)) H := (congrArg (fun z => va_P D vwCl z H) setL_L2).mp hPn
          refine lv_aload_n hx hb dX3_build_63 rfl (lv_at hl 0 rfl) ?_
          refine va_get (D := D) (ci := 3) (v := .ref (g 15)) (C := RX3) (T := TX3) (N := 7) hx hb hts hinL hown hE.1 hPL 0 rfl rfl 2 (by decide) (hts (.fieldLink RX3 18 "WallStones$Wall" "propped" "[I") (List.mem_of_getElem? (i := 5) rfl)) (fun _ h9 => h9) rfl dX3_build_64 ?_
          refine lv_iload_n hx hb dX3_build_67 rfl (lv_at hl 3 rfl) ?_
          refine lv_iconst (v := 0) hx hb dX3_build_68 (by decide) ?_
          refine va_iast hx hb hE.1 hPL (wD_of hg (c := 12) (n := 5) (by decide) (by decide) rfl) hS 3 0 rfl rfl (vp_in_iff.mpr (by omega)) dX3_build_69 (fun H locs hPn _ hS => ?_)
          have hPL : va_P D vwCl (cellL cI g (up (up sL_37 2 (Int32.toNatClampNeg x3_37) 0) 3 (Int32.toNatClampNeg x3_37) 0)) H := (congrArg (fun z => va_P D vwCl z H) setL_L3).mp hPn
          refine lv_iinc (v := (x3_37 + 1)) (lv' := [(3, .int (x3_37 + 1)), (0, .ref (g 12)), (1, .int p1), (2, .int p2)]) hx hb dX3_build_70 hl (k := 3) rfl rfl (by decide) rfl (fun ls hl => ?_)
          refine lv_goto (tgt := 37) hx hb dX3_build_73 (by decide) ?_
          have := t_inc (x := x3_37) (by omega)
          rw [wl_some hM] at kk
          exact ih (up (up sL_37 2 (Int32.toNatClampNeg x3_37) 0) 3 (Int32.toNatClampNeg x3_37) 0) (x3_37 + 1) H locs ls (by omega) (by omega) hPL hS (lv_sub hl [1, 2, 3, 0] rfl) kk
        · have hM := hM.trans (if_neg c_3)
          have t_3 := nle_t c_3
          refine lv_iconst (v := 1) hx hb dX3_build_53 (by decide) ?_
          refine lv_iload_n hx hb dX3_build_54 rfl (lv_at hl 2 rfl) ?_
          refine lv_ishl hx hb dX3_build_55 ?_
          refine lv_iconst (v := 1) hx hb dX3_build_56 (by decide) ?_
          refine lv_isub hx hb dX3_build_57 ?_
          refine lv_goto (tgt := 62) hx hb dX3_build_58 (by decide) ?_
          refine va_iast hx hb hE.1 hPL (wD_of hg (c := 12) (n := 5) (by decide) (by decide) rfl) hS 2 0 rfl rfl (vp_in_iff.mpr (by omega)) dX3_build_62 (fun H locs hPn _ hS => ?_)
          have hPL : va_P D vwCl (cellL cI g (up sL_37 2 (Int32.toNatClampNeg x3_37) ((1 <<< (p2 &&& 31)) - 1))) H := (congrArg (fun z => va_P D vwCl z H) setL_L2).mp hPn
          refine lv_aload_n hx hb dX3_build_63 rfl (lv_at hl 0 rfl) ?_
          refine va_get (D := D) (ci := 3) (v := .ref (g 15)) (C := RX3) (T := TX3) (N := 7) hx hb hts hinL hown hE.1 hPL 0 rfl rfl 2 (by decide) (hts (.fieldLink RX3 18 "WallStones$Wall" "propped" "[I") (List.mem_of_getElem? (i := 5) rfl)) (fun _ h9 => h9) rfl dX3_build_64 ?_
          refine lv_iload_n hx hb dX3_build_67 rfl (lv_at hl 3 rfl) ?_
          refine lv_iconst (v := 0) hx hb dX3_build_68 (by decide) ?_
          refine va_iast hx hb hE.1 hPL (wD_of hg (c := 12) (n := 5) (by decide) (by decide) rfl) hS 3 0 rfl rfl (vp_in_iff.mpr (by omega)) dX3_build_69 (fun H locs hPn _ hS => ?_)
          have hPL : va_P D vwCl (cellL cI g (up (up sL_37 2 (Int32.toNatClampNeg x3_37) ((1 <<< (p2 &&& 31)) - 1)) 3 (Int32.toNatClampNeg x3_37) 0)) H := (congrArg (fun z => va_P D vwCl z H) setL_L3).mp hPn
          refine lv_iinc (v := (x3_37 + 1)) (lv' := [(3, .int (x3_37 + 1)), (0, .ref (g 12)), (1, .int p1), (2, .int p2)]) hx hb dX3_build_70 hl (k := 3) rfl rfl (by decide) rfl (fun ls hl => ?_)
          refine lv_goto (tgt := 37) hx hb dX3_build_73 (by decide) ?_
          have := t_inc (x := x3_37) (by omega)
          rw [wl_some hM] at kk
          exact ih (up (up sL_37 2 (Int32.toNatClampNeg x3_37) ((1 <<< (p2 &&& 31)) - 1)) 3 (Int32.toNatClampNeg x3_37) 0) (x3_37 + 1) H locs ls (by omega) (by omega) hPL hS (lv_sub hl [1, 2, 3, 0] rfl) kk
  have J_76 : ∀ (sL_76 : St) (H : Heap) (locs : List Loc) (ls : Array Slot), va_P D vwCl (cellL cI g sL_76) H → va_S (wA g 12 17) s.heap H locs → lv_has ls 4 [] → (m_L_build sL p1 p2) = b_L_build_76 sL_76 → W p l e rm_L_build s m args below meth c H locs 0 0 Q (F0 m 76 ls []) := by
    intro sL_76 H locs ls hPL hS hl hM
    have hM : (m_L_build sL p1 p2) = (sL_76 : St) := hM
    exact hret H locs _ ls dX3_build_76 (rP_s1 (P := fun (z0 : St) => va_P D vwCl (cellL cI g z0) H) hM hPL) hS
  have J_35 : ∀ (sL_35 : St) (H : Heap) (locs : List Loc) (ls : Array Slot), va_P D vwCl (cellL cI g sL_35) H → va_S (wA g 12 17) s.heap H locs → lv_has ls 4 [(0, .ref (g 12)), (1, .int p1), (2, .int p2)] → (m_L_build sL p1 p2) = b_L_build_35 sL_35 p1 p2 → W p l e rm_L_build s m args below meth c H locs 0 0 Q (F0 m 35 ls []) := by
    intro sL_35 H locs ls hPL hS hl hM
    refine lv_iconst (v := 0) hx hb dX3_build_35 (by decide) ?_
    refine lv_istore_n (lv' := [(3, .int 0), (0, .ref (g 12)), (1, .int p1), (2, .int p2)]) hx hb dX3_build_36 rfl hl (by decide) rfl (fun ls hl => ?_)
    have z4 := tl_0
    refine L_37 9 sL_35 0 H locs ls (by omega) (by omega) hPL hS (lv_sub hl [1, 2, 3, 0] rfl) (fun H locs ls hPL hS hl => ?_)
    exact J_76 (wl (g_L_build_37 p1 p2) 9 (sL_35, 0)).1 H locs ls hPL hS (lv_sub hl [] rfl) hM
  have hM : (m_L_build sL p1 p2) = (m_L_build sL p1 p2) := rfl
  refine lv_aload_n hx hb dX3_build_0 rfl (lv_at hl 0 rfl) ?_
  refine lv_iload_n hx hb dX3_build_1 rfl (lv_at hl 1 rfl) ?_
  refine va_put (D := D) (ci := 3) (v := .int p1) (ty := .int) (C := RX3) (T := TX3) (N := 7) hx hb hts hinL tyX3 tyX3_ok nmX3 hown hE.1 hPL (wD_of hg (c := 12) (n := 5) (by decide) (by decide) rfl) hS 0 rfl rfl 4 (by decide) (hts (.fieldLink RX3 28 "WallStones$Wall" "columns" "I") (List.mem_of_getElem? (i := 1) rfl)) (fun _ h9 => h9) rfl (by decide +kernel) rfl rfl (Nat.le_of_ble_eq_true rfl) dX3_build_2 (fun H locs hPn _ hS => ?_)
  have hPL : va_P D vwCl (cellL cI g (up sL 0 4 p1)) H := (congrArg (fun z => va_P D vwCl z H) putL_L4).mp hPn
  refine lv_aload_n hx hb dX3_build_5 rfl (lv_at hl 0 rfl) ?_
  refine lv_iload_n hx hb dX3_build_6 rfl (lv_at hl 2 rfl) ?_
  refine va_put (D := D) (ci := 3) (v := .int p2) (ty := .int) (C := RX3) (T := TX3) (N := 7) hx hb hts hinL tyX3 tyX3_ok nmX3 hown hE.1 hPL (wD_of hg (c := 12) (n := 5) (by decide) (by decide) rfl) hS 0 rfl rfl 5 (by decide) (hts (.fieldLink RX3 32 "WallStones$Wall" "rows" "I") (List.mem_of_getElem? (i := 2) rfl)) (fun _ h9 => h9) rfl (by decide +kernel) rfl rfl (Nat.le_of_ble_eq_true rfl) dX3_build_7 (fun H locs hPn _ hS => ?_)
  have hPL : va_P D vwCl (cellL cI g (up (up sL 0 4 p1) 0 5 p2)) H := (congrArg (fun z => va_P D vwCl z H) putL_L5).mp hPn
  refine lv_iconst (v := 0) hx hb dX3_build_10 (by decide) ?_
  refine lv_istore_n (lv' := [(3, .int 0), (0, .ref (g 12)), (1, .int p1), (2, .int p2)]) hx hb dX3_build_11 rfl hl (by decide) rfl (fun ls hl => ?_)
  have z5 := tl_0
  refine L_12 49 (up (up sL 0 4 p1) 0 5 p2) 0 H locs ls (by omega) (by omega) hPL hS (lv_sub hl [1, 2, 3, 0] rfl) (fun H locs ls hPL hS hl => ?_)
  exact J_35 (wl g_L_build_12 49 ((up (up sL 0 4 p1) 0 5 p2), 0)).1 H locs ls hPL hS (lv_sub hl [0, 1, 2] rfl) hM
abbrev rm_L_wide : Room := { frames := 0, cells := 0, slots := 0, locals := 0 }
set_option maxHeartbeats 4000000 in
set_option maxRecDepth 100000 in
theorem K_L_wide {l : Launch} {D : va_G} {cI : ClassId} {lo : Nat} {g : Nat → Nat} (hg : wI g 12 17 lo) (sL : St) : ROi l D cI lo yX3_wide wsX3_wide rm_L_wide [.ref (g 12)] (fun H => va_P D vwCl (cellL cI g sL) H) (m_L_wide sL) := by
  refine ofW_ROi (cc := cX3_wide) (maxL := 1) (ty := .int) (by decide +kernel) rfl (Nat.le_of_ble_eq_true rfl) ?_
  intro p e s m args below meth c Q hx hb hml hown hts hE hP hret ls hl
  have hown : s.vm.findClass RX3 = some m.cls := hown
  have hPL := hP
  have hA : ∀ q : Nat, (fun _ : Nat => False) q → lo ≤ q := fun _ h => h.elim
  have hS : va_S (fun _ : Nat => False) s.heap s.heap [] := va_S.rf
  have hinL : ∀ w ∈ wsX30, w ∈ wsX3_wide := fun w h => List.mem_cons_of_mem _ (List.mem_append_right _ h)
  have hl : lv_has ls 1 [(0, .ref (g 12))] := hl
  have hM : (m_L_wide sL) = (m_L_wide sL) := rfl
  refine lv_aload_n hx hb dX3_wide_0 rfl (lv_at hl 0 rfl) ?_
  refine va_get (D := D) (ci := 3) (v := .int (sL 0 4)) (C := RX3) (T := TX3) (N := 7) hx hb hts hinL hown hE.1 hPL 0 rfl rfl 4 (by decide) (hts (.fieldLink RX3 28 "WallStones$Wall" "columns" "I") (List.mem_of_getElem? (i := 1) rfl)) (fun _ h9 => h9) rfl dX3_wide_1 ?_
  have hM : (m_L_wide sL) = ((sL 0 4) : Int32) := hM
  exact hret _ _ ls (nr_i _) dX3_wide_4 hM.symm
abbrev rm_L_high : Room := { frames := 0, cells := 0, slots := 0, locals := 0 }
set_option maxHeartbeats 4000000 in
set_option maxRecDepth 100000 in
theorem K_L_high {l : Launch} {D : va_G} {cI : ClassId} {lo : Nat} {g : Nat → Nat} (hg : wI g 12 17 lo) (sL : St) : ROi l D cI lo yX3_high wsX3_high rm_L_high [.ref (g 12)] (fun H => va_P D vwCl (cellL cI g sL) H) (m_L_high sL) := by
  refine ofW_ROi (cc := cX3_high) (maxL := 1) (ty := .int) (by decide +kernel) rfl (Nat.le_of_ble_eq_true rfl) ?_
  intro p e s m args below meth c Q hx hb hml hown hts hE hP hret ls hl
  have hown : s.vm.findClass RX3 = some m.cls := hown
  have hPL := hP
  have hA : ∀ q : Nat, (fun _ : Nat => False) q → lo ≤ q := fun _ h => h.elim
  have hS : va_S (fun _ : Nat => False) s.heap s.heap [] := va_S.rf
  have hinL : ∀ w ∈ wsX30, w ∈ wsX3_high := fun w h => List.mem_cons_of_mem _ (List.mem_append_right _ h)
  have hl : lv_has ls 1 [(0, .ref (g 12))] := hl
  have hM : (m_L_high sL) = (m_L_high sL) := rfl
  refine lv_aload_n hx hb dX3_high_0 rfl (lv_at hl 0 rfl) ?_
  refine va_get (D := D) (ci := 3) (v := .int (sL 0 5)) (C := RX3) (T := TX3) (N := 7) hx hb hts hinL hown hE.1 hPL 0 rfl rfl 5 (by decide) (hts (.fieldLink RX3 32 "WallStones$Wall" "rows" "I") (List.mem_of_getElem? (i := 1) rfl)) (fun _ h9 => h9) rfl dX3_high_1 ?_
  have hM : (m_L_high sL) = ((sL 0 5) : Int32) := hM
  exact hret _ _ ls (nr_i _) dX3_high_4 hM.symm
abbrev rm_L_has : Room := { frames := 0, cells := 0, slots := 0, locals := 0 }
set_option maxHeartbeats 4000000 in
set_option maxRecDepth 100000 in
theorem K_L_has {l : Launch} {D : va_G} {cI : ClassId} {lo : Nat} {g : Nat → Nat} (hg : wI g 12 17 lo) (sL : St) (p1 : Int32) (p2 : Int32) : ROi l D cI lo yX3_has wsX3_has rm_L_has [.ref (g 12), .int p1, .int p2] (fun H => va_P D vwCl (cellL cI g sL) H) (m_L_has sL p1 p2) := by
  refine ofW_ROi (cc := cX3_has) (maxL := 3) (ty := .boolean) (by decide +kernel) rfl (Nat.le_of_ble_eq_true rfl) ?_
  intro p e s m args below meth c Q hx hb hml hown hts hE hP hret ls hl
  have hown : s.vm.findClass RX3 = some m.cls := hown
  have hPL := hP
  have hA : ∀ q : Nat, (fun _ : Nat => False) q → lo ≤ q := fun _ h => h.elim
  have hS : va_S (fun _ : Nat => False) s.heap s.heap [] := va_S.rf
  have hinL : ∀ w ∈ wsX30, w ∈ wsX3_has := fun w h => List.mem_cons_of_mem _ (List.mem_append_right _ h)
  have hl : lv_has ls 3 [(0, .ref (g 12)), (1, .int p1), (2, .int p2)] := hl
  have hM : (m_L_has sL p1 p2) = (m_L_has sL p1 p2) := rfl
  refine lv_iload_n hx hb dX3_has_0 rfl (lv_at hl 1 rfl) ?_
  refine lv_if_lt (tgt := 28) hx hb dX3_has_1 (by decide) (fun c_1 => ?_) (fun c_1 => ?_)
  · have hM := hM.trans (if_pos c_1)
    refine lv_iconst (v := 0) hx hb dX3_has_28 (by decide) ?_
    have hM : (m_L_has sL p1 p2) = (0 : Int32) := hM
    exact hret _ _ ls (by decide) dX3_has_29 hM.symm
  · have hM := hM.trans (if_neg c_1)
    refine lv_iload_n hx hb dX3_has_4 rfl (lv_at hl 1 rfl) ?_
    refine lv_aload_n hx hb dX3_has_5 rfl (lv_at hl 0 rfl) ?_
    refine va_get (D := D) (ci := 3) (v := .int (sL 0 4)) (C := RX3) (T := TX3) (N := 7) hx hb hts hinL hown hE.1 hPL 0 rfl rfl 4 (by decide) (hts (.fieldLink RX3 28 "WallStones$Wall" "columns" "I") (List.mem_of_getElem? (i := 1) rfl)) (fun _ h9 => h9) rfl dX3_has_6 ?_
    refine lv_icmp_ge (tgt := 28) hx hb dX3_has_9 (by decide) (fun c_2 => ?_) (fun c_2 => ?_)
    · have hM := hM.trans (if_pos c_2)
      refine lv_iconst (v := 0) hx hb dX3_has_28 (by decide) ?_
      have hM : (m_L_has sL p1 p2) = (0 : Int32) := hM
      exact hret _ _ ls (by decide) dX3_has_29 hM.symm
    · have hM := hM.trans (if_neg c_2)
      refine lv_iload_n hx hb dX3_has_12 rfl (lv_at hl 2 rfl) ?_
      refine lv_if_lt (tgt := 28) hx hb dX3_has_13 (by decide) (fun c_3 => ?_) (fun c_3 => ?_)
      · have hM := hM.trans (if_pos c_3)
        refine lv_iconst (v := 0) hx hb dX3_has_28 (by decide) ?_
        have hM : (m_L_has sL p1 p2) = (0 : Int32) := hM
        exact hret _ _ ls (by decide) dX3_has_29 hM.symm
      · have hM := hM.trans (if_neg c_3)
        refine lv_iload_n hx hb dX3_has_16 rfl (lv_at hl 2 rfl) ?_
        refine lv_aload_n hx hb dX3_has_17 rfl (lv_at hl 0 rfl) ?_
        refine va_get (D := D) (ci := 3) (v := .int (sL 0 5)) (C := RX3) (T := TX3) (N := 7) hx hb hts hinL hown hE.1 hPL 0 rfl rfl 5 (by decide) (hts (.fieldLink RX3 32 "WallStones$Wall" "rows" "I") (List.mem_of_getElem? (i := 2) rfl)) (fun _ h9 => h9) rfl dX3_has_18 ?_
        refine lv_icmp_ge (tgt := 28) hx hb dX3_has_21 (by decide) (fun c_4 => ?_) (fun c_4 => ?_)
        · have hM := hM.trans (if_pos c_4)
          refine lv_iconst (v := 0) hx hb dX3_has_28 (by decide) ?_
          have hM : (m_L_has sL p1 p2) = (0 : Int32) := hM
          exact hret _ _ ls (by decide) dX3_has_29 hM.symm
        · have hM := hM.trans (if_neg c_4)
          refine lv_iconst (v := 1) hx hb dX3_has_24 (by decide) ?_
          refine lv_goto (tgt := 29) hx hb dX3_has_25 (by decide) ?_
          have hM : (m_L_has sL p1 p2) = (1 : Int32) := hM
          exact hret _ _ ls (by decide) dX3_has_29 hM.symm
abbrev rm_L_place : Room := { frames := 0, cells := 0, slots := 0, locals := 0 }
set_option maxHeartbeats 4000000 in
set_option maxRecDepth 100000 in
theorem K_L_place {l : Launch} {D : va_G} {cI : ClassId} {lo : Nat} (p0 : Int32) (p1 : Int32) : ROi l D cI lo yX3_place wsX3_place rm_L_place [.int p0, .int p1] (fun H => True) (m_L_place p0 p1) := by
  refine ofW_ROi (cc := cX3_place) (maxL := 2) (ty := .int) (by decide +kernel) rfl (Nat.le_of_ble_eq_true rfl) ?_
  intro p e s m args below meth c Q hx hb hml hown hts hE hP hret ls hl
  have hown : s.vm.findClass RX3 = some m.cls := hown
  have hA : ∀ q : Nat, (fun _ : Nat => False) q → lo ≤ q := fun _ h => h.elim
  have hS : va_S (fun _ : Nat => False) s.heap s.heap [] := va_S.rf
  have hl : lv_has ls 2 [(0, .int p0), (1, .int p1)] := hl
  have hM : (m_L_place p0 p1) = (m_L_place p0 p1) := rfl
  refine lv_iload_n hx hb dX3_place_0 rfl (lv_at hl 0 rfl) ?_
  refine lv_bipush (v := 6) hx hb dX3_place_1 (by decide) ?_
  refine lv_imul hx hb dX3_place_3 ?_
  refine lv_iload_n hx hb dX3_place_4 rfl (lv_at hl 1 rfl) ?_
  refine lv_iadd hx hb dX3_place_5 ?_
  have hM : (m_L_place p0 p1) = (((p0 * 6) + p1) : Int32) := hM
  exact hret _ _ ls (nr_i _) dX3_place_6 hM.symm
abbrev rm_L_holds : Room := { frames := 0, cells := 0, slots := 0, locals := 0 }
set_option maxHeartbeats 4000000 in
set_option maxRecDepth 100000 in
theorem K_L_holds {l : Launch} {D : va_G} {cI : ClassId} {lo : Nat} (p0 : Int32) (p1 : Int32) : ROi l D cI lo yX3_holds wsX3_holds rm_L_holds [.int p0, .int p1] (fun H => True) (m_L_holds p0 p1) := by
  refine ofW_ROi (cc := cX3_holds) (maxL := 2) (ty := .boolean) (by decide +kernel) rfl (Nat.le_of_ble_eq_true rfl) ?_
  intro p e s m args below meth c Q hx hb hml hown hts hE hP hret ls hl
  have hown : s.vm.findClass RX3 = some m.cls := hown
  have hA : ∀ q : Nat, (fun _ : Nat => False) q → lo ≤ q := fun _ h => h.elim
  have hS : va_S (fun _ : Nat => False) s.heap s.heap [] := va_S.rf
  have hl : lv_has ls 2 [(0, .int p0), (1, .int p1)] := hl
  have hM : (m_L_holds p0 p1) = (m_L_holds p0 p1) := rfl
  refine lv_iload_n hx hb dX3_holds_0 rfl (lv_at hl 0 rfl) ?_
  refine lv_iload_n hx hb dX3_holds_1 rfl (lv_at hl 1 rfl) ?_
  refine lv_ishr hx hb dX3_holds_2 ?_
  refine lv_iconst (v := 1) hx hb dX3_holds_3 (by decide) ?_
  refine lv_iand hx hb dX3_holds_4 ?_
  refine lv_if_eq (tgt := 12) hx hb dX3_holds_5 (by decide) (fun c_1 => ?_) (fun c_1 => ?_)
  · have hM := hM.trans (if_pos c_1)
    refine lv_iconst (v := 0) hx hb dX3_holds_12 (by decide) ?_
    have hM : (m_L_holds p0 p1) = (0 : Int32) := hM
    exact hret _ _ ls (by decide) dX3_holds_13 hM.symm
  · have hM := hM.trans (if_neg c_1)
    refine lv_iconst (v := 1) hx hb dX3_holds_8 (by decide) ?_
    refine lv_goto (tgt := 13) hx hb dX3_holds_9 (by decide) ?_
    have hM : (m_L_holds p0 p1) = (1 : Int32) := hM
    exact hret _ _ ls (by decide) dX3_holds_13 hM.symm
abbrev rm_L_stands : Room := { frames := 1, cells := 0, slots := 0, locals := 22 }
set_option maxHeartbeats 4000000 in
set_option maxRecDepth 100000 in
theorem K_L_stands {l : Launch} {D : va_G} {cI : ClassId} {lo : Nat} {g : Nat → Nat} (hg : wI g 12 17 lo) (sL : St) (p1 : Int32) (p2 : Int32) (h0 : okL sL) : ROi l D cI lo yX3_stands wsX3_stands rm_L_stands [.ref (g 12), .int p1, .int p2] (fun H => va_P D vwCl (cellL cI g sL) H) (m_L_stands sL p1 p2) := by
  refine ofW_ROi (cc := cX3_stands) (maxL := 3) (ty := .boolean) (by decide +kernel) rfl (Nat.le_of_ble_eq_true rfl) ?_
  intro p e s m args below meth c Q hx hb hml hown hts hE hP hret ls hl
  have hown : s.vm.findClass RX3 = some m.cls := hown
  have hPL := hP
  have hA : ∀ q : Nat, (fun _ : Nat => False) q → lo ≤ q := fun _ h => h.elim
  have hS : va_S (fun _ : Nat => False) s.heap s.heap [] := va_S.rf
  have hinL : ∀ w ∈ wsX30, w ∈ wsX3_stands := fun w h => List.mem_cons_of_mem _ (List.mem_append_right _ h)
  have hl : lv_has ls 3 [(0, .ref (g 12)), (1, .int p1), (2, .int p2)] := hl
  have nh0 := okL_lin h0
  have hM : (m_L_stands sL p1 p2) = (m_L_stands sL p1 p2) := rfl
  refine lv_aload_n hx hb dX3_stands_0 rfl (lv_at hl 0 rfl) ?_
  refine lv_iload_n hx hb dX3_stands_1 rfl (lv_at hl 1 rfl) ?_
  refine lv_iload_n hx hb dX3_stands_2 rfl (lv_at hl 2 rfl) ?_
  refine runS_i (va_runV (As := [.int p1, .int p2]) (rest := []) ⟨hx, hb, hml, hown, hts⟩ (K_L_has hg sL p1 p2) (cwV 2 hts gX3_stands_X3_has rfl rfl rfl (by decide +kernel) ⟨Nat.le_of_ble_eq_true rfl, Nat.le_of_ble_eq_true rfl⟩) (preV_of hE hA hS hPL (va_recv hE.1 hPL (ci := 3) (q0 := 0) rfl rfl)) rfl rfl hl.1 rfl (lv_room (Nat.le_of_ble_eq_true rfl)) dX3_stands_3 ⟨Nat.zero_le _, Nat.zero_le _⟩) ?_
  refine lv_if_eq (tgt := 26) hx hb dX3_stands_6 (by decide) (fun c_1 => ?_) (fun c_1 => ?_)
  · have hM := hM.trans (if_pos c_1)
    have t_1 := eq_t c_1
    rw [tl_0] at t_1
    refine lv_iconst (v := 0) hx hb dX3_stands_26 (by decide) ?_
    have hM : (m_L_stands sL p1 p2) = (0 : Int32) := hM
    exact hret _ _ ls (by decide) dX3_stands_27 hM.symm
  · have hM := hM.trans (if_neg c_1)
    have t_1 := ne_t c_1
    rw [tl_0] at t_1
    have u_1 := has_t c_1
    refine lv_aload_n hx hb dX3_stands_9 rfl (lv_at hl 0 rfl) ?_
    refine va_get (D := D) (ci := 3) (v := .ref (g 14)) (C := RX3) (T := TX3) (N := 7) hx hb hts hinL hown hE.1 hPL 0 rfl rfl 1 (by decide) (hts (.fieldLink RX3 15 "WallStones$Wall" "standing" "[I") (List.mem_of_getElem? (i := 1) rfl)) (fun _ h9 => h9) rfl dX3_stands_10 ?_
    refine lv_iload_n hx hb dX3_stands_13 rfl (lv_at hl 1 rfl) ?_
    refine va_iald hx hb hE.1 hPL 2 0 rfl rfl (vp_in_iff.mpr (by omega)) dX3_stands_14 ?_
    refine W.eq (g2 := F0 m 15 ls [.int (sL 2 (Int32.toNatClampNeg p1))]) rfl ?_
    refine lv_iload_n hx hb dX3_stands_15 rfl (lv_at hl 2 rfl) ?_
    refine runS_i (va_runS (As := [.int (sL 2 (Int32.toNatClampNeg p1)), .int p2]) (rest := []) ⟨hx, hb, hml, hown, hts⟩ (K_L_holds (sL 2 (Int32.toNatClampNeg p1)) p2) (va_cwS 2 hts gX3_stands_X3_holds rfl rfl rfl (by decide +kernel) ⟨Nat.le_of_ble_eq_true rfl, Nat.le_of_ble_eq_true rfl⟩) (preS_of hE hA hS trivial) rfl rfl hl.1 rfl (lv_room (Nat.le_of_ble_eq_true rfl)) dX3_stands_16 ⟨Nat.zero_le _, Nat.zero_le _⟩) ?_
    refine lv_if_eq (tgt := 26) hx hb dX3_stands_19 (by decide) (fun c_2 => ?_) (fun c_2 => ?_)
    · have hM := hM.trans (if_pos c_2)
      have t_2 := eq_t c_2
      rw [tl_0] at t_2
      refine lv_iconst (v := 0) hx hb dX3_stands_26 (by decide) ?_
      have hM : (m_L_stands sL p1 p2) = (0 : Int32) := hM
      exact hret _ _ ls (by decide) dX3_stands_27 hM.symm
    · have hM := hM.trans (if_neg c_2)
      have t_2 := ne_t c_2
      rw [tl_0] at t_2
      refine lv_iconst (v := 1) hx hb dX3_stands_22 (by decide) ?_
      refine lv_goto (tgt := 27) hx hb dX3_stands_23 (by decide) ?_
      have hM : (m_L_stands sL p1 p2) = (1 : Int32) := hM
      exact hret _ _ ls (by decide) dX3_stands_27 hM.symm
abbrev rm_L_isPropped : Room := { frames := 1, cells := 0, slots := 0, locals := 22 }
set_option maxHeartbeats 4000000 in
set_option maxRecDepth 100000 in
theorem K_L_isPropped {l : Launch} {D : va_G} {cI : ClassId} {lo : Nat} {g : Nat → Nat} (hg : wI g 12 17 lo) (sL : St) (p1 : Int32) (p2 : Int32) (h0 : okL sL) : ROi l D cI lo yX3_isPropped wsX3_isPropped rm_L_isPropped [.ref (g 12), .int p1, .int p2] (fun H => va_P D vwCl (cellL cI g sL) H) (m_L_isPropped sL p1 p2) := by
  refine ofW_ROi (cc := cX3_isPropped) (maxL := 3) (ty := .boolean) (by decide +kernel) rfl (Nat.le_of_ble_eq_true rfl) ?_
  intro p e s m args below meth c Q hx hb hml hown hts hE hP hret ls hl
  have hown : s.vm.findClass RX3 = some m.cls := hown
  have hPL := hP
  have hA : ∀ q : Nat, (fun _ : Nat => False) q → lo ≤ q := fun _ h => h.elim
  have hS : va_S (fun _ : Nat => False) s.heap s.heap [] := va_S.rf
  have hinL : ∀ w ∈ wsX30, w ∈ wsX3_isPropped := fun w h => List.mem_cons_of_mem _ (List.mem_append_right _ h)
  have hl : lv_has ls 3 [(0, .ref (g 12)), (1, .int p1), (2, .int p2)] := hl
  have nh0 := okL_lin h0
  have hM : (m_L_isPropped sL p1 p2) = (m_L_isPropped sL p1 p2) := rfl
  refine lv_aload_n hx hb dX3_isPropped_0 rfl (lv_at hl 0 rfl) ?_
  refine lv_iload_n hx hb dX3_isPropped_1 rfl (lv_at hl 1 rfl) ?_
  refine lv_iload_n hx hb dX3_isPropped_2 rfl (lv_at hl 2 rfl) ?_
  refine runS_i (va_runV (As := [.int p1, .int p2]) (rest := []) ⟨hx, hb, hml, hown, hts⟩ (K_L_has hg sL p1 p2) (cwV 2 hts gX3_isPropped_X3_has rfl rfl rfl (by decide +kernel) ⟨Nat.le_of_ble_eq_true rfl, Nat.le_of_ble_eq_true rfl⟩) (preV_of hE hA hS hPL (va_recv hE.1 hPL (ci := 3) (q0 := 0) rfl rfl)) rfl rfl hl.1 rfl (lv_room (Nat.le_of_ble_eq_true rfl)) dX3_isPropped_3 ⟨Nat.zero_le _, Nat.zero_le _⟩) ?_
  refine lv_if_eq (tgt := 26) hx hb dX3_isPropped_6 (by decide) (fun c_1 => ?_) (fun c_1 => ?_)
  · have hM := hM.trans (if_pos c_1)
    have t_1 := eq_t c_1
    rw [tl_0] at t_1
    refine lv_iconst (v := 0) hx hb dX3_isPropped_26 (by decide) ?_
    have hM : (m_L_isPropped sL p1 p2) = (0 : Int32) := hM
    exact hret _ _ ls (by decide) dX3_isPropped_27 hM.symm
  · have hM := hM.trans (if_neg c_1)
    have t_1 := ne_t c_1
    rw [tl_0] at t_1
    have u_1 := has_t c_1
    refine lv_aload_n hx hb dX3_isPropped_9 rfl (lv_at hl 0 rfl) ?_
    refine va_get (D := D) (ci := 3) (v := .ref (g 15)) (C := RX3) (T := TX3) (N := 7) hx hb hts hinL hown hE.1 hPL 0 rfl rfl 2 (by decide) (hts (.fieldLink RX3 18 "WallStones$Wall" "propped" "[I") (List.mem_of_getElem? (i := 1) rfl)) (fun _ h9 => h9) rfl dX3_isPropped_10 ?_
    refine lv_iload_n hx hb dX3_isPropped_13 rfl (lv_at hl 1 rfl) ?_
    refine va_iald hx hb hE.1 hPL 3 0 rfl rfl (vp_in_iff.mpr (by omega)) dX3_isPropped_14 ?_
    refine W.eq (g2 := F0 m 15 ls [.int (sL 3 (Int32.toNatClampNeg p1))]) rfl ?_
    refine lv_iload_n hx hb dX3_isPropped_15 rfl (lv_at hl 2 rfl) ?_
    refine runS_i (va_runS (As := [.int (sL 3 (Int32.toNatClampNeg p1)), .int p2]) (rest := []) ⟨hx, hb, hml, hown, hts⟩ (K_L_holds (sL 3 (Int32.toNatClampNeg p1)) p2) (va_cwS 2 hts gX3_isPropped_X3_holds rfl rfl rfl (by decide +kernel) ⟨Nat.le_of_ble_eq_true rfl, Nat.le_of_ble_eq_true rfl⟩) (preS_of hE hA hS trivial) rfl rfl hl.1 rfl (lv_room (Nat.le_of_ble_eq_true rfl)) dX3_isPropped_16 ⟨Nat.zero_le _, Nat.zero_le _⟩) ?_
    refine lv_if_eq (tgt := 26) hx hb dX3_isPropped_19 (by decide) (fun c_2 => ?_) (fun c_2 => ?_)
    · have hM := hM.trans (if_pos c_2)
      have t_2 := eq_t c_2
      rw [tl_0] at t_2
      refine lv_iconst (v := 0) hx hb dX3_isPropped_26 (by decide) ?_
      have hM : (m_L_isPropped sL p1 p2) = (0 : Int32) := hM
      exact hret _ _ ls (by decide) dX3_isPropped_27 hM.symm
    · have hM := hM.trans (if_neg c_2)
      have t_2 := ne_t c_2
      rw [tl_0] at t_2
      refine lv_iconst (v := 1) hx hb dX3_isPropped_22 (by decide) ?_
      refine lv_goto (tgt := 27) hx hb dX3_isPropped_23 (by decide) ?_
      have hM : (m_L_isPropped sL p1 p2) = (1 : Int32) := hM
      exact hret _ _ ls (by decide) dX3_isPropped_27 hM.symm
abbrev rm_L_strengthAt : Room := { frames := 1, cells := 0, slots := 0, locals := 22 }
set_option maxHeartbeats 4000000 in
set_option maxRecDepth 100000 in
theorem K_L_strengthAt {l : Launch} {D : va_G} {cI : ClassId} {lo : Nat} {g : Nat → Nat} (hg : wI g 12 17 lo) (sL : St) (p1 : Int32) (p2 : Int32) (h0 : okL sL) : ROi l D cI lo yX3_strengthAt wsX3_strengthAt rm_L_strengthAt [.ref (g 12), .int p1, .int p2] (fun H => va_P D vwCl (cellL cI g sL) H) (m_L_strengthAt sL p1 p2) := by
  refine ofW_ROi (cc := cX3_strengthAt) (maxL := 3) (ty := .int) (by decide +kernel) rfl (Nat.le_of_ble_eq_true rfl) ?_
  intro p e s m args below meth c Q hx hb hml hown hts hE hP hret ls hl
  have hown : s.vm.findClass RX3 = some m.cls := hown
  have hPL := hP
  have hA : ∀ q : Nat, (fun _ : Nat => False) q → lo ≤ q := fun _ h => h.elim
  have hS : va_S (fun _ : Nat => False) s.heap s.heap [] := va_S.rf
  have hinL : ∀ w ∈ wsX30, w ∈ wsX3_strengthAt := fun w h => List.mem_cons_of_mem _ (List.mem_append_right _ h)
  have hl : lv_has ls 3 [(0, .ref (g 12)), (1, .int p1), (2, .int p2)] := hl
  have nh0 := okL_lin h0
  have hM : (m_L_strengthAt sL p1 p2) = (m_L_strengthAt sL p1 p2) := rfl
  refine lv_aload_n hx hb dX3_strengthAt_0 rfl (lv_at hl 0 rfl) ?_
  refine lv_iload_n hx hb dX3_strengthAt_1 rfl (lv_at hl 1 rfl) ?_
  refine lv_iload_n hx hb dX3_strengthAt_2 rfl (lv_at hl 2 rfl) ?_
  refine runS_i (va_runV (As := [.int p1, .int p2]) (rest := []) ⟨hx, hb, hml, hown, hts⟩ (K_L_has hg sL p1 p2) (cwV 2 hts gX3_strengthAt_X3_has rfl rfl rfl (by decide +kernel) ⟨Nat.le_of_ble_eq_true rfl, Nat.le_of_ble_eq_true rfl⟩) (preV_of hE hA hS hPL (va_recv hE.1 hPL (ci := 3) (q0 := 0) rfl rfl)) rfl rfl hl.1 rfl (lv_room (Nat.le_of_ble_eq_true rfl)) dX3_strengthAt_3 ⟨Nat.zero_le _, Nat.zero_le _⟩) ?_
  refine lv_if_eq (tgt := 22) hx hb dX3_strengthAt_6 (by decide) (fun c_1 => ?_) (fun c_1 => ?_)
  · have hM := hM.trans (if_pos c_1)
    have t_1 := eq_t c_1
    rw [tl_0] at t_1
    refine lv_iconst (v := (-1)) hx hb dX3_strengthAt_22 (by decide) ?_
    have hM : (m_L_strengthAt sL p1 p2) = ((-1) : Int32) := hM
    exact hret _ _ ls (nr_i _) dX3_strengthAt_23 hM.symm
  · have hM := hM.trans (if_neg c_1)
    have t_1 := ne_t c_1
    rw [tl_0] at t_1
    have u_1 := has_t c_1
    refine lv_aload_n hx hb dX3_strengthAt_9 rfl (lv_at hl 0 rfl) ?_
    refine va_get (D := D) (ci := 3) (v := .ref (g 13)) (C := RX3) (T := TX3) (N := 7) hx hb hts hinL hown hE.1 hPL 0 rfl rfl 0 (by decide) (hts (.fieldLink RX3 11 "WallStones$Wall" "strengths" "[I") (List.mem_of_getElem? (i := 1) rfl)) (fun _ h9 => h9) rfl dX3_strengthAt_10 ?_
    refine lv_iload_n hx hb dX3_strengthAt_13 rfl (lv_at hl 1 rfl) ?_
    refine lv_iload_n hx hb dX3_strengthAt_14 rfl (lv_at hl 2 rfl) ?_
    refine runS_i (va_runS (As := [.int p1, .int p2]) (rest := [.ref (g 13)]) ⟨hx, hb, hml, hown, hts⟩ (K_L_place p1 p2) (va_cwS 2 hts gX3_strengthAt_X3_place rfl rfl rfl (by decide +kernel) ⟨Nat.le_of_ble_eq_true rfl, Nat.le_of_ble_eq_true rfl⟩) (preS_of hE hA hS trivial) rfl rfl hl.1 rfl (lv_room (Nat.le_of_ble_eq_true rfl)) dX3_strengthAt_15 ⟨Nat.zero_le _, Nat.zero_le _⟩) ?_
    have w2 : (m_L_place p1 p2).toInt = p1.toInt * 6 + p2.toInt := place_t (by first | omega | decide)
    refine va_iald hx hb hE.1 hPL 1 0 rfl rfl (vp_in_iff.mpr (by omega)) dX3_strengthAt_18 ?_
    refine W.eq (g2 := F0 m 19 ls [.int (sL 1 (Int32.toNatClampNeg (m_L_place p1 p2)))]) rfl ?_
    refine lv_goto (tgt := 23) hx hb dX3_strengthAt_19 (by decide) ?_
    have hM : (m_L_strengthAt sL p1 p2) = ((sL 1 (Int32.toNatClampNeg (m_L_place p1 p2))) : Int32) := hM
    exact hret _ _ ls (nr_i _) dX3_strengthAt_23 hM.symm
abbrev rm_L_putStrength : Room := { frames := 1, cells := 0, slots := 0, locals := 22 }
set_option maxHeartbeats 4000000 in
set_option maxRecDepth 100000 in
theorem K_L_putStrength {l : Launch} {D : va_G} {cI : ClassId} {lo : Nat} {g : Nat → Nat} (hg : wI g 12 17 lo) (sL : St) (p1 : Int32) (p2 : Int32) (p3 : Int32) (h0 : okL sL) : WRi l D cI lo yX3_putStrength wsX3_putStrength rm_L_putStrength [.ref (g 12), .int p1, .int p2, .int p3] (fun H => va_P D vwCl (cellL cI g sL) H) (m_L_putStrength sL p1 p2 p3).1 (fun H => va_P D vwCl (cellL cI g (m_L_putStrength sL p1 p2 p3).2) H) (wA g 12 17) := by
  refine ofW_WRi (cc := cX3_putStrength) (maxL := 5) (ty := .int) (by decide +kernel) rfl (Nat.le_of_ble_eq_true rfl) ?_
  intro p e s m args below meth c Q hx hb hml hown hts hE hP hret ls hl
  have hown : s.vm.findClass RX3 = some m.cls := hown
  have hPL := hP
  have hA := wA.lo hg
  have hS : va_S (wA g 12 17) s.heap s.heap [] := va_S.rf
  obtain ⟨H, hH⟩ : ∃ z, z = s.heap := ⟨_, rfl⟩
  obtain ⟨locs, hlocs⟩ : ∃ z : List Loc, z = [] := ⟨_, rfl⟩
  have hPL : va_P D vwCl (cellL cI g sL) H := by rw [hH]; exact hPL
  have hS : va_S (wA g 12 17) s.heap H locs := by rw [hH, hlocs]; exact va_S.rf
  have gW : W p l e rm_L_putStrength s m args below meth c H locs 0 0 Q (F0 m 0 ls []) → W p l e rm_L_putStrength s m args below meth c s.heap [] 0 0 Q (F0 m 0 ls []) := by rw [hH, hlocs]; exact id
  refine gW ?_
  have hinL : ∀ w ∈ wsX30, w ∈ wsX3_putStrength := fun w h => List.mem_cons_of_mem _ (List.mem_append_right _ h)
  have hl : lv_has ls 5 [(0, .ref (g 12)), (1, .int p1), (2, .int p2), (3, .int p3)] := hl
  have nh0 := okL_lin h0
  have hM : (m_L_putStrength sL p1 p2 p3) = (m_L_putStrength sL p1 p2 p3) := rfl
  refine lv_aload_n hx hb dX3_putStrength_0 rfl (lv_at hl 0 rfl) ?_
  refine lv_iload_n hx hb dX3_putStrength_1 rfl (lv_at hl 1 rfl) ?_
  refine lv_iload_n hx hb dX3_putStrength_2 rfl (lv_at hl 2 rfl) ?_
  refine runS_i (va_runV (As := [.int p1, .int p2]) (rest := []) ⟨hx, hb, hml, hown, hts⟩ (K_L_has hg sL p1 p2) (cwV 2 hts gX3_putStrength_X3_has rfl rfl rfl (by decide +kernel) ⟨Nat.le_of_ble_eq_true rfl, Nat.le_of_ble_eq_true rfl⟩) (preV_of hE hA hS hPL (va_recv hE.1 hPL (ci := 3) (q0 := 0) rfl rfl)) rfl rfl hl.1 rfl (lv_room (Nat.le_of_ble_eq_true rfl)) dX3_putStrength_3 ⟨Nat.zero_le _, Nat.zero_le _⟩) ?_
  refine lv_if_ne (tgt := 11) hx hb dX3_putStrength_6 (by decide) (fun c_1 => ?_) (fun c_1 => ?_)
  · have hM := hM.trans (if_neg c_1)
    have t_1 := ne_t c_1
    rw [tl_0] at t_1
    have u_1 := has_t c_1
    refine lv_aload_n hx hb dX3_putStrength_11 rfl (lv_at hl 0 rfl) ?_
    refine va_get (D := D) (ci := 3) (v := .ref (g 13)) (C := RX3) (T := TX3) (N := 7) hx hb hts hinL hown hE.1 hPL 0 rfl rfl 0 (by decide) (hts (.fieldLink RX3 11 "WallStones$Wall" "strengths" "[I") (List.mem_of_getElem? (i := 1) rfl)) (fun _ h9 => h9) rfl dX3_putStrength_12 ?_
    refine lv_iload_n hx hb dX3_putStrength_15 rfl (lv_at hl 1 rfl) ?_
    refine lv_iload_n hx hb dX3_putStrength_16 rfl (lv_at hl 2 rfl) ?_
    refine runS_i (va_runS (As := [.int p1, .int p2]) (rest := [.ref (g 13)]) ⟨hx, hb, hml, hown, hts⟩ (K_L_place p1 p2) (va_cwS 2 hts gX3_putStrength_X3_place rfl rfl rfl (by decide +kernel) ⟨Nat.le_of_ble_eq_true rfl, Nat.le_of_ble_eq_true rfl⟩) (preS_of hE hA hS trivial) rfl rfl hl.1 rfl (lv_room (Nat.le_of_ble_eq_true rfl)) dX3_putStrength_17 ⟨Nat.zero_le _, Nat.zero_le _⟩) ?_
    have w2 : (m_L_place p1 p2).toInt = p1.toInt * 6 + p2.toInt := place_t (by first | omega | decide)
    refine va_iald hx hb hE.1 hPL 1 0 rfl rfl (vp_in_iff.mpr (by omega)) dX3_putStrength_20 ?_
    refine W.eq (g2 := F0 m 21 ls [.int (sL 1 (Int32.toNatClampNeg (m_L_place p1 p2)))]) rfl ?_
    refine lv_istore (lv' := [(4, .int (sL 1 (Int32.toNatClampNeg (m_L_place p1 p2)))), (0, .ref (g 12)), (1, .int p1), (2, .int p2), (3, .int p3)]) hx hb dX3_putStrength_21 hl (by decide) rfl (fun ls hl => ?_)
    refine lv_aload_n hx hb dX3_putStrength_23 rfl (lv_at hl 1 rfl) ?_
    refine va_get (D := D) (ci := 3) (v := .ref (g 13)) (C := RX3) (T := TX3) (N := 7) hx hb hts hinL hown hE.1 hPL 0 rfl rfl 0 (by decide) (hts (.fieldLink RX3 11 "WallStones$Wall" "strengths" "[I") (List.mem_of_getElem? (i := 1) rfl)) (fun _ h9 => h9) rfl dX3_putStrength_24 ?_
    refine lv_iload_n hx hb dX3_putStrength_27 rfl (lv_at hl 2 rfl) ?_
    refine lv_iload_n hx hb dX3_putStrength_28 rfl (lv_at hl 3 rfl) ?_
    refine runS_i (va_runS (As := [.int p1, .int p2]) (rest := [.ref (g 13)]) ⟨hx, hb, hml, hown, hts⟩ (K_L_place p1 p2) (va_cwS 2 hts gX3_putStrength_X3_place rfl rfl rfl (by decide +kernel) ⟨Nat.le_of_ble_eq_true rfl, Nat.le_of_ble_eq_true rfl⟩) (preS_of hE hA hS trivial) rfl rfl hl.1 rfl (lv_room (Nat.le_of_ble_eq_true rfl)) dX3_putStrength_29 ⟨Nat.zero_le _, Nat.zero_le _⟩) ?_
    have w3 : (m_L_place p1 p2).toInt = p1.toInt * 6 + p2.toInt := place_t (by first | omega | decide)
    refine lv_iload_n hx hb dX3_putStrength_32 rfl (lv_at hl 4 rfl) ?_
    refine va_iast hx hb hE.1 hPL (wD_of hg (c := 12) (n := 5) (by decide) (by decide) rfl) hS 1 0 rfl rfl (vp_in_iff.mpr (by omega)) dX3_putStrength_33 (fun H locs hPn _ hS => ?_)
    have hPL : va_P D vwCl (cellL cI g (up sL 1 (Int32.toNatClampNeg (m_L_place p1 p2)) p3)) H := (congrArg (fun z => va_P D vwCl z H) setL_L1).mp hPn
    refine lv_iload hx hb dX3_putStrength_34 (lv_at hl 0 rfl) ?_
    have hM : (m_L_putStrength sL p1 p2 p3) = (((sL 1 (Int32.toNatClampNeg (m_L_place p1 p2))), (up sL 1 (Int32.toNatClampNeg (m_L_place p1 p2)) p3)) : Int32 × St) := hM
    exact hret (sL 1 (Int32.toNatClampNeg (m_L_place p1 p2))) H locs _ ls (nr_i _) dX3_putStrength_36 (ret1 hM) (rP_v1 (P := fun (z0 : St) => va_P D vwCl (cellL cI g z0) H) hM hPL) hS
  · have hM := hM.trans (if_pos c_1)
    have t_1 := eq_t c_1
    rw [tl_0] at t_1
    refine lv_iconst (v := (-1)) hx hb dX3_putStrength_9 (by decide) ?_
    have hM : (m_L_putStrength sL p1 p2 p3) = (((-1), sL) : Int32 × St) := hM
    exact hret (-1) H locs _ ls (nr_i _) dX3_putStrength_10 (ret1 hM) (rP_v1 (P := fun (z0 : St) => va_P D vwCl (cellL cI g z0) H) hM hPL) hS
abbrev rm_L_putProp : Room := { frames := 1, cells := 0, slots := 0, locals := 22 }
set_option maxHeartbeats 4000000 in
set_option maxRecDepth 100000 in
theorem K_L_putProp {l : Launch} {D : va_G} {cI : ClassId} {lo : Nat} {g : Nat → Nat} (hg : wI g 12 17 lo) (sL : St) (p1 : Int32) (p2 : Int32) (h0 : okL sL) : WRi l D cI lo yX3_putProp wsX3_putProp rm_L_putProp [.ref (g 12), .int p1, .int p2] (fun H => va_P D vwCl (cellL cI g sL) H) (m_L_putProp sL p1 p2).1 (fun H => va_P D vwCl (cellL cI g (m_L_putProp sL p1 p2).2) H) (wA g 12 17) := by
  refine ofW_WRi (cc := cX3_putProp) (maxL := 4) (ty := .int) (by decide +kernel) rfl (Nat.le_of_ble_eq_true rfl) ?_
  intro p e s m args below meth c Q hx hb hml hown hts hE hP hret ls hl
  have hown : s.vm.findClass RX3 = some m.cls := hown
  have hPL := hP
  have hA := wA.lo hg
  have hS : va_S (wA g 12 17) s.heap s.heap [] := va_S.rf
  obtain ⟨H, hH⟩ : ∃ z, z = s.heap := ⟨_, rfl⟩
  obtain ⟨locs, hlocs⟩ : ∃ z : List Loc, z = [] := ⟨_, rfl⟩
  have hPL : va_P D vwCl (cellL cI g sL) H := by rw [hH]; exact hPL
  have hS : va_S (wA g 12 17) s.heap H locs := by rw [hH, hlocs]; exact va_S.rf
  have gW : W p l e rm_L_putProp s m args below meth c H locs 0 0 Q (F0 m 0 ls []) → W p l e rm_L_putProp s m args below meth c s.heap [] 0 0 Q (F0 m 0 ls []) := by rw [hH, hlocs]; exact id
  refine gW ?_
  have hinL : ∀ w ∈ wsX30, w ∈ wsX3_putProp := fun w h => List.mem_cons_of_mem _ (List.mem_append_right _ h)
  have hl : lv_has ls 4 [(0, .ref (g 12)), (1, .int p1), (2, .int p2)] := hl
  have nh0 := okL_lin h0
  have hM : (m_L_putProp sL p1 p2) = (m_L_putProp sL p1 p2) := rfl
  refine lv_aload_n hx hb dX3_putProp_0 rfl (lv_at hl 0 rfl) ?_
  refine lv_iload_n hx hb dX3_putProp_1 rfl (lv_at hl 1 rfl) ?_
  refine lv_iload_n hx hb dX3_putProp_2 rfl (lv_at hl 2 rfl) ?_
  refine runS_i (va_runV (As := [.int p1, .int p2]) (rest := []) ⟨hx, hb, hml, hown, hts⟩ (K_L_has hg sL p1 p2) (cwV 2 hts gX3_putProp_X3_has rfl rfl rfl (by decide +kernel) ⟨Nat.le_of_ble_eq_true rfl, Nat.le_of_ble_eq_true rfl⟩) (preV_of hE hA hS hPL (va_recv hE.1 hPL (ci := 3) (q0 := 0) rfl rfl)) rfl rfl hl.1 rfl (lv_room (Nat.le_of_ble_eq_true rfl)) dX3_putProp_3 ⟨Nat.zero_le _, Nat.zero_le _⟩) ?_
  refine lv_if_ne (tgt := 11) hx hb dX3_putProp_6 (by decide) (fun c_1 => ?_) (fun c_1 => ?_)
  · have hM := hM.trans (if_neg c_1)
    have t_1 := ne_t c_1
    rw [tl_0] at t_1
    have u_1 := has_t c_1
    refine lv_aload_n hx hb dX3_putProp_11 rfl (lv_at hl 0 rfl) ?_
    refine va_get (D := D) (ci := 3) (v := .ref (g 15)) (C := RX3) (T := TX3) (N := 7) hx hb hts hinL hown hE.1 hPL 0 rfl rfl 2 (by decide) (hts (.fieldLink RX3 18 "WallStones$Wall" "propped" "[I") (List.mem_of_getElem? (i := 1) rfl)) (fun _ h9 => h9) rfl dX3_putProp_12 ?_
    refine lv_iload_n hx hb dX3_putProp_15 rfl (lv_at hl 1 rfl) ?_
    refine va_iald hx hb hE.1 hPL 3 0 rfl rfl (vp_in_iff.mpr (by omega)) dX3_putProp_16 ?_
    refine W.eq (g2 := F0 m 17 ls [.int (sL 3 (Int32.toNatClampNeg p1))]) rfl ?_
    refine lv_iload_n hx hb dX3_putProp_17 rfl (lv_at hl 2 rfl) ?_
    refine runS_i (va_runS (As := [.int (sL 3 (Int32.toNatClampNeg p1)), .int p2]) (rest := []) ⟨hx, hb, hml, hown, hts⟩ (K_L_holds (sL 3 (Int32.toNatClampNeg p1)) p2) (va_cwS 2 hts gX3_putProp_X3_holds rfl rfl rfl (by decide +kernel) ⟨Nat.le_of_ble_eq_true rfl, Nat.le_of_ble_eq_true rfl⟩) (preS_of hE hA hS trivial) rfl rfl hl.1 rfl (lv_room (Nat.le_of_ble_eq_true rfl)) dX3_putProp_18 ⟨Nat.zero_le _, Nat.zero_le _⟩) ?_
    refine lv_if_eq (tgt := 28) hx hb dX3_putProp_21 (by decide) (fun c_2 => ?_) (fun c_2 => ?_)
    · have hM := hM.trans (if_pos c_2)
      have t_2 := eq_t c_2
      rw [tl_0] at t_2
      refine lv_iconst (v := 0) hx hb dX3_putProp_28 (by decide) ?_
      refine lv_istore_n (lv' := [(3, .int 0), (0, .ref (g 12)), (1, .int p1), (2, .int p2)]) hx hb dX3_putProp_29 rfl hl (by decide) rfl (fun ls hl => ?_)
      refine lv_aload_n hx hb dX3_putProp_30 rfl (lv_at hl 1 rfl) ?_
      refine va_get (D := D) (ci := 3) (v := .ref (g 15)) (C := RX3) (T := TX3) (N := 7) hx hb hts hinL hown hE.1 hPL 0 rfl rfl 2 (by decide) (hts (.fieldLink RX3 18 "WallStones$Wall" "propped" "[I") (List.mem_of_getElem? (i := 1) rfl)) (fun _ h9 => h9) rfl dX3_putProp_31 ?_
      refine lv_iload_n hx hb dX3_putProp_34 rfl (lv_at hl 2 rfl) ?_
      refine lv_dup2_11 hx hb dX3_putProp_35 rfl rfl ?_
      refine va_iald hx hb hE.1 hPL 3 0 rfl rfl (vp_in_iff.mpr (by omega)) dX3_putProp_36 ?_
      refine W.eq (g2 := F0 m 37 ls [.int (sL 3 (Int32.toNatClampNeg p1)), .int p1, .ref (g 15)]) rfl ?_
      refine lv_iconst (v := 1) hx hb dX3_putProp_37 (by decide) ?_
      refine lv_iload_n hx hb dX3_putProp_38 rfl (lv_at hl 3 rfl) ?_
      refine lv_ishl hx hb dX3_putProp_39 ?_
      refine lv_ior hx hb dX3_putProp_40 ?_
      refine va_iast hx hb hE.1 hPL (wD_of hg (c := 12) (n := 5) (by decide) (by decide) rfl) hS 3 0 rfl rfl (vp_in_iff.mpr (by omega)) dX3_putProp_41 (fun H locs hPn _ hS => ?_)
      have hPL : va_P D vwCl (cellL cI g (up sL 3 (Int32.toNatClampNeg p1) ((sL 3 (Int32.toNatClampNeg p1)) ||| (1 <<< (p2 &&& 31))))) H := (congrArg (fun z => va_P D vwCl z H) setL_L3).mp hPn
      refine lv_iload_n hx hb dX3_putProp_42 rfl (lv_at hl 0 rfl) ?_
      have hM : (m_L_putProp sL p1 p2) = ((0, (up sL 3 (Int32.toNatClampNeg p1) ((sL 3 (Int32.toNatClampNeg p1)) ||| (1 <<< (p2 &&& 31))))) : Int32 × St) := hM
      exact hret 0 H locs _ ls (nr_i _) dX3_putProp_43 (ret1 hM) (rP_v1 (P := fun (z0 : St) => va_P D vwCl (cellL cI g z0) H) hM hPL) hS
    · have hM := hM.trans (if_neg c_2)
      have t_2 := ne_t c_2
      rw [tl_0] at t_2
      refine lv_iconst (v := 1) hx hb dX3_putProp_24 (by decide) ?_
      refine lv_goto (tgt := 29) hx hb dX3_putProp_25 (by decide) ?_
      refine lv_istore_n (lv' := [(3, .int 1), (0, .ref (g 12)), (1, .int p1), (2, .int p2)]) hx hb dX3_putProp_29 rfl hl (by decide) rfl (fun ls hl => ?_)
      refine lv_aload_n hx hb dX3_putProp_30 rfl (lv_at hl 1 rfl) ?_
      refine va_get (D := D) (ci := 3) (v := .ref (g 15)) (C := RX3) (T := TX3) (N := 7) hx hb hts hinL hown hE.1 hPL 0 rfl rfl 2 (by decide) (hts (.fieldLink RX3 18 "WallStones$Wall" "propped" "[I") (List.mem_of_getElem? (i := 1) rfl)) (fun _ h9 => h9) rfl dX3_putProp_31 ?_
      refine lv_iload_n hx hb dX3_putProp_34 rfl (lv_at hl 2 rfl) ?_
      refine lv_dup2_11 hx hb dX3_putProp_35 rfl rfl ?_
      refine va_iald hx hb hE.1 hPL 3 0 rfl rfl (vp_in_iff.mpr (by omega)) dX3_putProp_36 ?_
      refine W.eq (g2 := F0 m 37 ls [.int (sL 3 (Int32.toNatClampNeg p1)), .int p1, .ref (g 15)]) rfl ?_
      refine lv_iconst (v := 1) hx hb dX3_putProp_37 (by decide) ?_
      refine lv_iload_n hx hb dX3_putProp_38 rfl (lv_at hl 3 rfl) ?_
      refine lv_ishl hx hb dX3_putProp_39 ?_
      refine lv_ior hx hb dX3_putProp_40 ?_
      refine va_iast hx hb hE.1 hPL (wD_of hg (c := 12) (n := 5) (by decide) (by decide) rfl) hS 3 0 rfl rfl (vp_in_iff.mpr (by omega)) dX3_putProp_41 (fun H locs hPn _ hS => ?_)
      have hPL : va_P D vwCl (cellL cI g (up sL 3 (Int32.toNatClampNeg p1) ((sL 3 (Int32.toNatClampNeg p1)) ||| (1 <<< (p2 &&& 31))))) H := (congrArg (fun z => va_P D vwCl z H) setL_L3).mp hPn
      refine lv_iload_n hx hb dX3_putProp_42 rfl (lv_at hl 0 rfl) ?_
      have hM : (m_L_putProp sL p1 p2) = ((1, (up sL 3 (Int32.toNatClampNeg p1) ((sL 3 (Int32.toNatClampNeg p1)) ||| (1 <<< (p2 &&& 31))))) : Int32 × St) := hM
      exact hret 1 H locs _ ls (nr_i _) dX3_putProp_43 (ret1 hM) (rP_v1 (P := fun (z0 : St) => va_P D vwCl (cellL cI g z0) H) hM hPL) hS
  · have hM := hM.trans (if_pos c_1)
    have t_1 := eq_t c_1
    rw [tl_0] at t_1
    refine lv_iconst (v := (-1)) hx hb dX3_putProp_9 (by decide) ?_
    have hM : (m_L_putProp sL p1 p2) = (((-1), sL) : Int32 × St) := hM
    exact hret (-1) H locs _ ls (nr_i _) dX3_putProp_10 (ret1 hM) (rP_v1 (P := fun (z0 : St) => va_P D vwCl (cellL cI g z0) H) hM hPL) hS
abbrev rm_L_dropUnheld : Room := { frames := 1, cells := 0, slots := 0, locals := 21 }
set_option maxHeartbeats 4000000 in
set_option maxRecDepth 100000 in
theorem K_L_dropUnheld {l : Launch} {D : va_G} {cI : ClassId} {lo : Nat} {g : Nat → Nat} (hg : wI g 12 17 lo) (sL : St) (p1 : Int32) (h0 : okL sL) (h1 : 0 ≤ p1.toInt ∧ p1.toInt ≤ 7) : WRv l D cI lo yX3_dropUnheld wsX3_dropUnheld rm_L_dropUnheld [.ref (g 12), .int p1] (fun H => va_P D vwCl (cellL cI g sL) H) (fun H => va_P D vwCl (cellL cI g (m_L_dropUnheld sL p1)) H) (wA g 12 17) := by
  refine ofW_WRv (cc := cX3_dropUnheld) (maxL := 3) (by decide +kernel) rfl (Nat.le_of_ble_eq_true rfl) ?_
  intro p e s m args below meth c Q hx hb hml hown hts hE hP hret ls hl
  have hown : s.vm.findClass RX3 = some m.cls := hown
  have hPL := hP
  have hA := wA.lo hg
  have hS : va_S (wA g 12 17) s.heap s.heap [] := va_S.rf
  obtain ⟨H, hH⟩ : ∃ z, z = s.heap := ⟨_, rfl⟩
  obtain ⟨locs, hlocs⟩ : ∃ z : List Loc, z = [] := ⟨_, rfl⟩
  have hPL : va_P D vwCl (cellL cI g sL) H := by rw [hH]; exact hPL
  have hS : va_S (wA g 12 17) s.heap H locs := by rw [hH, hlocs]; exact va_S.rf
  have gW : W p l e rm_L_dropUnheld s m args below meth c H locs 0 0 Q (F0 m 0 ls []) → W p l e rm_L_dropUnheld s m args below meth c s.heap [] 0 0 Q (F0 m 0 ls []) := by rw [hH, hlocs]; exact id
  refine gW ?_
  have hinL : ∀ w ∈ wsX30, w ∈ wsX3_dropUnheld := fun w h => List.mem_cons_of_mem _ (List.mem_append_right _ h)
  have hl : lv_has ls 3 [(0, .ref (g 12)), (1, .int p1)] := hl
  have nh0 := okL_lin h0
  have L_2 : ∀ (n : Nat) (sL_2 : St) (x2_2 : Int32) (H : Heap) (locs : List Loc) (ls : Array Slot), 1 ≤ x2_2.toInt ∧ x2_2.toInt ≤ (sL_2 0 5).toInt → okL sL_2 → ((sL_2 0 5).toInt - x2_2.toInt).toNat < n → va_P D vwCl (cellL cI g sL_2) H → va_S (wA g 12 17) s.heap H locs → lv_has ls 3 [(0, .ref (g 12)), (1, .int p1), (2, .int x2_2)] → (∀ (H : Heap) (locs : List Loc) (ls : Array Slot), 1 ≤ (wl (g_L_dropUnheld_2 p1) n (sL_2, x2_2)).2.toInt ∧ (wl (g_L_dropUnheld_2 p1) n (sL_2, x2_2)).2.toInt ≤ ((wl (g_L_dropUnheld_2 p1) n (sL_2, x2_2)).1 0 5).toInt → okL (wl (g_L_dropUnheld_2 p1) n (sL_2, x2_2)).1 → va_P D vwCl (cellL cI g (wl (g_L_dropUnheld_2 p1) n (sL_2, x2_2)).1) H → va_S (wA g 12 17) s.heap H locs → lv_has ls 3 [] → W p l e rm_L_dropUnheld s m args below meth c H locs 0 0 Q (F0 m 58 ls [])) → W p l e rm_L_dropUnheld s m args below meth c H locs 0 0 Q (F0 m 2 ls []) := by
    intro n
    induction n with
    | zero =>
      intro sL_2 x2_2 H locs ls i2_0 i2_1 hn2 hPL hS hl kk
      exact absurd hn2 (Nat.not_lt_zero _)
    | succ n ih =>
      intro sL_2 x2_2 H locs ls i2_0 i2_1 hn2 hPL hS hl kk
      have ni2_1 := okL_lin i2_1
      have hM : (g_L_dropUnheld_2 p1) (sL_2, x2_2) = (g_L_dropUnheld_2 p1) (sL_2, x2_2) := rfl
      refine lv_iload_n hx hb dX3_dropUnheld_2 rfl (lv_at hl 2 rfl) ?_
      refine lv_aload_n hx hb dX3_dropUnheld_3 rfl (lv_at hl 0 rfl) ?_
      refine va_get (D := D) (ci := 3) (v := .int (sL_2 0 5)) (C := RX3) (T := TX3) (N := 7) hx hb hts hinL hown hE.1 hPL 0 rfl rfl 5 (by decide) (hts (.fieldLink RX3 32 "WallStones$Wall" "rows" "I") (List.mem_of_getElem? (i := 1) rfl)) (fun _ h9 => h9) rfl dX3_dropUnheld_4 ?_
      refine lv_icmp_ge (tgt := 58) hx hb dX3_dropUnheld_7 (by decide) (fun c_1 => ?_) (fun c_1 => ?_)
      · have hM := hM.trans (if_pos c_1)
        have t_1 := le_t c_1
        rw [wl_none hM] at kk
        try dsimp only at kk
        exact kk H locs ls (by omega) (by assumption) hPL hS (lv_sub hl [] rfl)
      · have hM := hM.trans (if_neg c_1)
        have t_1 := nle_t c_1
        refine lv_aload_n hx hb dX3_dropUnheld_10 rfl (lv_at hl 0 rfl) ?_
        refine va_get (D := D) (ci := 3) (v := .ref (g 14)) (C := RX3) (T := TX3) (N := 7) hx hb hts hinL hown hE.1 hPL 0 rfl rfl 1 (by decide) (hts (.fieldLink RX3 15 "WallStones$Wall" "standing" "[I") (List.mem_of_getElem? (i := 2) rfl)) (fun _ h9 => h9) rfl dX3_dropUnheld_11 ?_
        refine lv_iload_n hx hb dX3_dropUnheld_14 rfl (lv_at hl 1 rfl) ?_
        refine va_iald hx hb hE.1 hPL 2 0 rfl rfl (vp_in_iff.mpr (by omega)) dX3_dropUnheld_15 ?_
        refine W.eq (g2 := F0 m 16 ls [.int (sL_2 2 (Int32.toNatClampNeg p1))]) rfl ?_
        refine lv_iload_n hx hb dX3_dropUnheld_16 rfl (lv_at hl 2 rfl) ?_
        refine lv_iconst (v := 1) hx hb dX3_dropUnheld_17 (by decide) ?_
        refine lv_isub hx hb dX3_dropUnheld_18 ?_
        refine runS_i (va_runS (As := [.int (sL_2 2 (Int32.toNatClampNeg p1)), .int (x2_2 - 1)]) (rest := []) ⟨hx, hb, hml, hown, hts⟩ (K_L_holds (sL_2 2 (Int32.toNatClampNeg p1)) (x2_2 - 1)) (va_cwS 2 hts gX3_dropUnheld_X3_holds rfl rfl rfl (by decide +kernel) ⟨Nat.le_of_ble_eq_true rfl, Nat.le_of_ble_eq_true rfl⟩) (preS_of hE hA hS trivial) rfl rfl hl.1 rfl (lv_room (Nat.le_of_ble_eq_true rfl)) dX3_dropUnheld_19 ⟨Nat.zero_le _, Nat.zero_le _⟩) ?_
        refine lv_if_ne (tgt := 52) hx hb dX3_dropUnheld_22 (by decide) (fun c_2 => ?_) (fun c_2 => ?_)
        · have hM := hM.trans (if_neg c_2)
          have t_2 := ne_t c_2
          rw [tl_0] at t_2
          refine lv_iinc (v := (x2_2 + 1)) (lv' := [(2, .int (x2_2 + 1)), (0, .ref (g 12)), (1, .int p1)]) hx hb dX3_dropUnheld_52 hl (k := 2) rfl rfl (by decide) rfl (fun ls hl => ?_)
          refine lv_goto (tgt := 2) hx hb dX3_dropUnheld_55 (by decide) ?_
          have := t_inc (x := x2_2) (by omega)
          rw [wl_some hM] at kk
          exact ih sL_2 (x2_2 + 1) H locs ls (by omega) (by assumption) (by omega) hPL hS (lv_sub hl [1, 2, 0] rfl) kk
        · have hM := hM.trans (if_pos c_2)
          have t_2 := eq_t c_2
          rw [tl_0] at t_2
          refine lv_aload_n hx hb dX3_dropUnheld_25 rfl (lv_at hl 0 rfl) ?_
          refine va_get (D := D) (ci := 3) (v := .ref (g 15)) (C := RX3) (T := TX3) (N := 7) hx hb hts hinL hown hE.1 hPL 0 rfl rfl 2 (by decide) (hts (.fieldLink RX3 18 "WallStones$Wall" "propped" "[I") (List.mem_of_getElem? (i := 3) rfl)) (fun _ h9 => h9) rfl dX3_dropUnheld_26 ?_
          refine lv_iload_n hx hb dX3_dropUnheld_29 rfl (lv_at hl 1 rfl) ?_
          refine va_iald hx hb hE.1 hPL 3 0 rfl rfl (vp_in_iff.mpr (by omega)) dX3_dropUnheld_30 ?_
          refine W.eq (g2 := F0 m 31 ls [.int (sL_2 3 (Int32.toNatClampNeg p1))]) rfl ?_
          refine lv_iload_n hx hb dX3_dropUnheld_31 rfl (lv_at hl 2 rfl) ?_
          refine runS_i (va_runS (As := [.int (sL_2 3 (Int32.toNatClampNeg p1)), .int x2_2]) (rest := []) ⟨hx, hb, hml, hown, hts⟩ (K_L_holds (sL_2 3 (Int32.toNatClampNeg p1)) x2_2) (va_cwS 2 hts gX3_dropUnheld_X3_holds rfl rfl rfl (by decide +kernel) ⟨Nat.le_of_ble_eq_true rfl, Nat.le_of_ble_eq_true rfl⟩) (preS_of hE hA hS trivial) rfl rfl hl.1 rfl (lv_room (Nat.le_of_ble_eq_true rfl)) dX3_dropUnheld_32 ⟨Nat.zero_le _, Nat.zero_le _⟩) ?_
          refine lv_if_ne (tgt := 52) hx hb dX3_dropUnheld_35 (by decide) (fun c_3 => ?_) (fun c_3 => ?_)
          · have hM := hM.trans (if_neg c_3)
            have t_3 := ne_t c_3
            rw [tl_0] at t_3
            refine lv_iinc (v := (x2_2 + 1)) (lv' := [(2, .int (x2_2 + 1)), (0, .ref (g 12)), (1, .int p1)]) hx hb dX3_dropUnheld_52 hl (k := 2) rfl rfl (by decide) rfl (fun ls hl => ?_)
            refine lv_goto (tgt := 2) hx hb dX3_dropUnheld_55 (by decide) ?_
            have := t_inc (x := x2_2) (by omega)
            rw [wl_some hM] at kk
            exact ih sL_2 (x2_2 + 1) H locs ls (by omega) (by assumption) (by omega) hPL hS (lv_sub hl [1, 2, 0] rfl) kk
          · have hM := hM.trans (if_pos c_3)
            have t_3 := eq_t c_3
            rw [tl_0] at t_3
            refine lv_aload_n hx hb dX3_dropUnheld_38 rfl (lv_at hl 0 rfl) ?_
            refine va_get (D := D) (ci := 3) (v := .ref (g 14)) (C := RX3) (T := TX3) (N := 7) hx hb hts hinL hown hE.1 hPL 0 rfl rfl 1 (by decide) (hts (.fieldLink RX3 15 "WallStones$Wall" "standing" "[I") (List.mem_of_getElem? (i := 2) rfl)) (fun _ h9 => h9) rfl dX3_dropUnheld_39 ?_
            refine lv_iload_n hx hb dX3_dropUnheld_42 rfl (lv_at hl 1 rfl) ?_
            refine lv_dup2_11 hx hb dX3_dropUnheld_43 rfl rfl ?_
            refine va_iald hx hb hE.1 hPL 2 0 rfl rfl (vp_in_iff.mpr (by omega)) dX3_dropUnheld_44 ?_
            refine W.eq (g2 := F0 m 45 ls [.int (sL_2 2 (Int32.toNatClampNeg p1)), .int p1, .ref (g 14)]) rfl ?_
            refine lv_iconst (v := 1) hx hb dX3_dropUnheld_45 (by decide) ?_
            refine lv_iload_n hx hb dX3_dropUnheld_46 rfl (lv_at hl 2 rfl) ?_
            refine lv_ishl hx hb dX3_dropUnheld_47 ?_
            refine lv_iconst (v := (-1)) hx hb dX3_dropUnheld_48 (by decide) ?_
            refine lv_ixor hx hb dX3_dropUnheld_49 ?_
            refine lv_iand hx hb dX3_dropUnheld_50 ?_
            refine va_iast hx hb hE.1 hPL (wD_of hg (c := 12) (n := 5) (by decide) (by decide) rfl) hS 2 0 rfl rfl (vp_in_iff.mpr (by omega)) dX3_dropUnheld_51 (fun H locs hPn _ hS => ?_)
            have hPL : va_P D vwCl (cellL cI g (up sL_2 2 (Int32.toNatClampNeg p1) ((sL_2 2 (Int32.toNatClampNeg p1)) &&& ((1 <<< (x2_2 &&& 31)) ^^^ (-1))))) H := (congrArg (fun z => va_P D vwCl z H) setL_L2).mp hPn
            refine lv_iinc (v := (x2_2 + 1)) (lv' := [(2, .int (x2_2 + 1)), (0, .ref (g 12)), (1, .int p1)]) hx hb dX3_dropUnheld_52 hl (k := 2) rfl rfl (by decide) rfl (fun ls hl => ?_)
            refine lv_goto (tgt := 2) hx hb dX3_dropUnheld_55 (by decide) ?_
            have q4 : ((up sL_2 2 (Int32.toNatClampNeg p1) ((sL_2 2 (Int32.toNatClampNeg p1)) &&& ((1 <<< (x2_2 &&& 31)) ^^^ (-1)))) 0 5).toInt = (sL_2 0 5).toInt := rfl
            have q5 : ((up sL_2 2 (Int32.toNatClampNeg p1) ((sL_2 2 (Int32.toNatClampNeg p1)) &&& ((1 <<< (x2_2 &&& 31)) ^^^ (-1)))) 0 5).toInt = (sL_2 0 5).toInt := rfl
            have := t_inc (x := x2_2) (by omega)
            rw [wl_some hM] at kk
            exact ih (up sL_2 2 (Int32.toNatClampNeg p1) ((sL_2 2 (Int32.toNatClampNeg p1)) &&& ((1 <<< (x2_2 &&& 31)) ^^^ (-1)))) (x2_2 + 1) H locs ls (by omega) (by assumption) (by omega) hPL hS (lv_sub hl [1, 2, 0] rfl) kk
  have J_58 : ∀ (sL_58 : St) (H : Heap) (locs : List Loc) (ls : Array Slot), va_P D vwCl (cellL cI g sL_58) H → va_S (wA g 12 17) s.heap H locs → lv_has ls 3 [] → (m_L_dropUnheld sL p1) = b_L_dropUnheld_58 sL_58 → W p l e rm_L_dropUnheld s m args below meth c H locs 0 0 Q (F0 m 58 ls []) := by
    intro sL_58 H locs ls hPL hS hl hM
    have hM : (m_L_dropUnheld sL p1) = (sL_58 : St) := hM
    exact hret H locs _ ls dX3_dropUnheld_58 (rP_s1 (P := fun (z0 : St) => va_P D vwCl (cellL cI g z0) H) hM hPL) hS
  have hM : (m_L_dropUnheld sL p1) = (m_L_dropUnheld sL p1) := rfl
  refine lv_iconst (v := 1) hx hb dX3_dropUnheld_0 (by decide) ?_
  refine lv_istore_n (lv' := [(2, .int 1), (0, .ref (g 12)), (1, .int p1)]) hx hb dX3_dropUnheld_1 rfl hl (by decide) rfl (fun ls hl => ?_)
  have z6 := tl_1
  refine L_2 8 sL 1 H locs ls (by omega) (by assumption) (by omega) hPL hS (lv_sub hl [1, 2, 0] rfl) (fun H locs ls k0 k1 hPL hS hl => ?_)
  have nk1 := okL_lin k1
  exact J_58 (wl (g_L_dropUnheld_2 p1) 8 (sL, 1)).1 H locs ls hPL hS (lv_sub hl [] rfl) hM
abbrev rm_L_strike : Room := { frames := 2, cells := 0, slots := 0, locals := 44 }
set_option maxHeartbeats 4000000 in
set_option maxRecDepth 100000 in
theorem K_L_strike {l : Launch} {D : va_G} {cI : ClassId} {lo : Nat} {g : Nat → Nat} (hg : wI g 12 17 lo) (sL : St) (p1 : Int32) (p2 : Int32) (p3 : Int32) (h0 : okL sL) : WRi l D cI lo yX3_strike wsX3_strike rm_L_strike [.ref (g 12), .int p1, .int p2, .int p3] (fun H => va_P D vwCl (cellL cI g sL) H) (m_L_strike sL p1 p2 p3).1 (fun H => va_P D vwCl (cellL cI g (m_L_strike sL p1 p2 p3).2) H) (wA g 12 17) := by
  refine ofW_WRi (cc := cX3_strike) (maxL := 6) (ty := .int) (by decide +kernel) rfl (Nat.le_of_ble_eq_true rfl) ?_
  intro p e s m args below meth c Q hx hb hml hown hts hE hP hret ls hl
  have hown : s.vm.findClass RX3 = some m.cls := hown
  have hPL := hP
  have hA := wA.lo hg
  have hS : va_S (wA g 12 17) s.heap s.heap [] := va_S.rf
  obtain ⟨H, hH⟩ : ∃ z, z = s.heap := ⟨_, rfl⟩
  obtain ⟨locs, hlocs⟩ : ∃ z : List Loc, z = [] := ⟨_, rfl⟩
  have hPL : va_P D vwCl (cellL cI g sL) H := by rw [hH]; exact hPL
  have hS : va_S (wA g 12 17) s.heap H locs := by rw [hH, hlocs]; exact va_S.rf
  have gW : W p l e rm_L_strike s m args below meth c H locs 0 0 Q (F0 m 0 ls []) → W p l e rm_L_strike s m args below meth c s.heap [] 0 0 Q (F0 m 0 ls []) := by rw [hH, hlocs]; exact id
  refine gW ?_
  have hinL : ∀ w ∈ wsX30, w ∈ wsX3_strike := fun w h => List.mem_cons_of_mem _ (List.mem_append_right _ h)
  have hl : lv_has ls 6 [(0, .ref (g 12)), (1, .int p1), (2, .int p2), (3, .int p3)] := hl
  have nh0 := okL_lin h0
  have hM : (m_L_strike sL p1 p2 p3) = (m_L_strike sL p1 p2 p3) := rfl
  refine lv_aload_n hx hb dX3_strike_0 rfl (lv_at hl 0 rfl) ?_
  refine lv_iload_n hx hb dX3_strike_1 rfl (lv_at hl 1 rfl) ?_
  refine lv_iload_n hx hb dX3_strike_2 rfl (lv_at hl 2 rfl) ?_
  refine runS_i (va_runV (As := [.int p1, .int p2]) (rest := []) ⟨hx, hb, hml, hown, hts⟩ (K_L_stands hg sL p1 p2 (by assumption)) (cwV 2 hts gX3_strike_X3_stands rfl rfl rfl (by decide +kernel) ⟨Nat.le_of_ble_eq_true rfl, Nat.le_of_ble_eq_true rfl⟩) (preV_of hE hA hS hPL (va_recv hE.1 hPL (ci := 3) (q0 := 0) rfl rfl)) rfl rfl hl.1 rfl (lv_room (Nat.le_of_ble_eq_true rfl)) dX3_strike_3 ⟨Nat.zero_le _, Nat.zero_le _⟩) ?_
  refine lv_if_ne (tgt := 11) hx hb dX3_strike_6 (by decide) (fun c_1 => ?_) (fun c_1 => ?_)
  · have hM := hM.trans (if_neg c_1)
    have t_1 := ne_t c_1
    rw [tl_0] at t_1
    have u_1 := stands_t c_1
    refine lv_aload_n hx hb dX3_strike_11 rfl (lv_at hl 0 rfl) ?_
    refine va_get (D := D) (ci := 3) (v := .ref (g 14)) (C := RX3) (T := TX3) (N := 7) hx hb hts hinL hown hE.1 hPL 0 rfl rfl 1 (by decide) (hts (.fieldLink RX3 15 "WallStones$Wall" "standing" "[I") (List.mem_of_getElem? (i := 1) rfl)) (fun _ h9 => h9) rfl dX3_strike_12 ?_
    refine lv_iload_n hx hb dX3_strike_15 rfl (lv_at hl 1 rfl) ?_
    refine va_iald hx hb hE.1 hPL 2 0 rfl rfl (vp_in_iff.mpr (by omega)) dX3_strike_16 ?_
    refine W.eq (g2 := F0 m 17 ls [.int (sL 2 (Int32.toNatClampNeg p1))]) rfl ?_
    refine runS_i (va_runS (As := [.int (sL 2 (Int32.toNatClampNeg p1))]) (rest := []) ⟨hx, hb, hml, hown, hts⟩ (K_J_bitCount (sL 2 (Int32.toNatClampNeg p1))) (va_cwS 1 hts gX3_strike_J6_bitCount_0f7a4 rfl rfl rfl (by decide +kernel) ⟨Nat.le_of_ble_eq_true rfl, Nat.le_of_ble_eq_true rfl⟩) (preS_of hE hA hS trivial) rfl rfl hl.1 rfl (lv_room (Nat.le_of_ble_eq_true rfl)) dX3_strike_17 ⟨Nat.zero_le _, Nat.zero_le _⟩) ?_
    refine lv_istore (lv' := [(4, .int (m_J_bitCount (sL 2 (Int32.toNatClampNeg p1)))), (0, .ref (g 12)), (1, .int p1), (2, .int p2), (3, .int p3)]) hx hb dX3_strike_20 hl (by decide) rfl (fun ls hl => ?_)
    refine lv_iload_n hx hb dX3_strike_22 rfl (lv_at hl 2 rfl) ?_
    refine lv_iload_n hx hb dX3_strike_23 rfl (lv_at hl 3 rfl) ?_
    refine runS_i (va_runS (As := [.int p1, .int p2]) (rest := []) ⟨hx, hb, hml, hown, hts⟩ (K_L_place p1 p2) (va_cwS 2 hts gX3_strike_X3_place rfl rfl rfl (by decide +kernel) ⟨Nat.le_of_ble_eq_true rfl, Nat.le_of_ble_eq_true rfl⟩) (preS_of hE hA hS trivial) rfl rfl hl.1 rfl (lv_room (Nat.le_of_ble_eq_true rfl)) dX3_strike_24 ⟨Nat.zero_le _, Nat.zero_le _⟩) ?_
    have w2 : (m_L_place p1 p2).toInt = p1.toInt * 6 + p2.toInt := place_t (by first | omega | decide)
    refine lv_istore (lv' := [(5, .int (m_L_place p1 p2)), (4, .int (m_J_bitCount (sL 2 (Int32.toNatClampNeg p1)))), (0, .ref (g 12)), (1, .int p1), (2, .int p2), (3, .int p3)]) hx hb dX3_strike_27 hl (by decide) rfl (fun ls hl => ?_)
    refine lv_aload_n hx hb dX3_strike_29 rfl (lv_at hl 2 rfl) ?_
    refine va_get (D := D) (ci := 3) (v := .ref (g 13)) (C := RX3) (T := TX3) (N := 7) hx hb hts hinL hown hE.1 hPL 0 rfl rfl 0 (by decide) (hts (.fieldLink RX3 11 "WallStones$Wall" "strengths" "[I") (List.mem_of_getElem? (i := 2) rfl)) (fun _ h9 => h9) rfl dX3_strike_30 ?_
    refine lv_iload hx hb dX3_strike_33 (lv_at hl 0 rfl) ?_
    refine lv_dup2_11 hx hb dX3_strike_35 rfl rfl ?_
    refine va_iald hx hb hE.1 hPL 1 0 rfl rfl (vp_in_iff.mpr (by omega)) dX3_strike_36 ?_
    refine W.eq (g2 := F0 m 37 ls [.int (sL 1 (Int32.toNatClampNeg (m_L_place p1 p2))), .int (m_L_place p1 p2), .ref (g 13)]) rfl ?_
    refine lv_iload_n hx hb dX3_strike_37 rfl (lv_at hl 5 rfl) ?_
    refine lv_isub hx hb dX3_strike_38 ?_
    refine va_iast hx hb hE.1 hPL (wD_of hg (c := 12) (n := 5) (by decide) (by decide) rfl) hS 1 0 rfl rfl (vp_in_iff.mpr (by omega)) dX3_strike_39 (fun H locs hPn _ hS => ?_)
    have hPL : va_P D vwCl (cellL cI g (up sL 1 (Int32.toNatClampNeg (m_L_place p1 p2)) ((sL 1 (Int32.toNatClampNeg (m_L_place p1 p2))) - p3))) H := (congrArg (fun z => va_P D vwCl z H) setL_L1).mp hPn
    refine lv_aload_n hx hb dX3_strike_40 rfl (lv_at hl 2 rfl) ?_
    refine va_get (D := D) (ci := 3) (v := .ref (g 15)) (C := RX3) (T := TX3) (N := 7) hx hb hts hinL hown hE.1 hPL 0 rfl rfl 2 (by decide) (hts (.fieldLink RX3 18 "WallStones$Wall" "propped" "[I") (List.mem_of_getElem? (i := 3) rfl)) (fun _ h9 => h9) rfl dX3_strike_41 ?_
    refine lv_iload_n hx hb dX3_strike_44 rfl (lv_at hl 3 rfl) ?_
    refine lv_dup2_11 hx hb dX3_strike_45 rfl rfl ?_
    refine va_iald hx hb hE.1 hPL 3 0 rfl rfl (vp_in_iff.mpr (by omega)) dX3_strike_46 ?_
    refine W.eq (g2 := F0 m 47 ls [.int (sL 3 (Int32.toNatClampNeg p1)), .int p1, .ref (g 15)]) rfl ?_
    refine lv_iconst (v := 1) hx hb dX3_strike_47 (by decide) ?_
    refine lv_iload_n hx hb dX3_strike_48 rfl (lv_at hl 4 rfl) ?_
    refine lv_ishl hx hb dX3_strike_49 ?_
    refine lv_iconst (v := (-1)) hx hb dX3_strike_50 (by decide) ?_
    refine lv_ixor hx hb dX3_strike_51 ?_
    refine lv_iand hx hb dX3_strike_52 ?_
    refine va_iast hx hb hE.1 hPL (wD_of hg (c := 12) (n := 5) (by decide) (by decide) rfl) hS 3 0 rfl rfl (vp_in_iff.mpr (by omega)) dX3_strike_53 (fun H locs hPn _ hS => ?_)
    have hPL : va_P D vwCl (cellL cI g (up (up sL 1 (Int32.toNatClampNeg (m_L_place p1 p2)) ((sL 1 (Int32.toNatClampNeg (m_L_place p1 p2))) - p3)) 3 (Int32.toNatClampNeg p1) ((sL 3 (Int32.toNatClampNeg p1)) &&& ((1 <<< (p2 &&& 31)) ^^^ (-1))))) H := (congrArg (fun z => va_P D vwCl z H) setL_L3).mp hPn
    refine lv_aload_n hx hb dX3_strike_54 rfl (lv_at hl 2 rfl) ?_
    refine va_get (D := D) (ci := 3) (v := .ref (g 13)) (C := RX3) (T := TX3) (N := 7) hx hb hts hinL hown hE.1 hPL 0 rfl rfl 0 (by decide) (hts (.fieldLink RX3 11 "WallStones$Wall" "strengths" "[I") (List.mem_of_getElem? (i := 2) rfl)) (fun _ h9 => h9) rfl dX3_strike_55 ?_
    refine lv_iload hx hb dX3_strike_58 (lv_at hl 0 rfl) ?_
    refine va_iald hx hb hE.1 hPL 1 0 rfl rfl (vp_in_iff.mpr (by omega)) dX3_strike_60 ?_
    refine W.eq (congrArg (fun z => F0 m 61 ls [.int z]) (up_get (s := sL) (k := 1) (i := (Int32.toNatClampNeg (m_L_place p1 p2))) (x := ((sL 1 (Int32.toNatClampNeg (m_L_place p1 p2))) - p3)))) ?_
    refine lv_if_gt (tgt := 78) hx hb dX3_strike_61 (by decide) (fun c_3 => ?_) (fun c_3 => ?_)
    · have hM := hM.trans (if_pos c_3)
      have t_3 := lt_t c_3
      rw [tl_0] at t_3
      refine lv_aload_n hx hb dX3_strike_78 rfl (lv_at hl 2 rfl) ?_
      refine lv_iload_n hx hb dX3_strike_79 rfl (lv_at hl 3 rfl) ?_
      refine runW_v (va_runV (As := [.int p1]) (rest := []) ⟨hx, hb, hml, hown, hts⟩ (K_L_dropUnheld hg (up (up sL 1 (Int32.toNatClampNeg (m_L_place p1 p2)) ((sL 1 (Int32.toNatClampNeg (m_L_place p1 p2))) - p3)) 3 (Int32.toNatClampNeg p1) ((sL 3 (Int32.toNatClampNeg p1)) &&& ((1 <<< (p2 &&& 31)) ^^^ (-1)))) p1 (by assumption) (by omega)) (cwV 1 hts gX3_strike_X3_dropUnheld rfl rfl rfl (by decide +kernel) ⟨Nat.le_of_ble_eq_true rfl, Nat.le_of_ble_eq_true rfl⟩) (preV_of hE hA hS hPL (va_recv hE.1 hPL (ci := 3) (q0 := 0) rfl rfl)) rfl rfl hl.1 rfl (lv_room (Nat.le_of_ble_eq_true rfl)) dX3_strike_80 ⟨Nat.zero_le _, Nat.zero_le _⟩) hS (fun _ h9 => h9) (fun H locs hQ hk hS => ?_)
      have hPL : va_P D vwCl (cellL cI g (m_L_dropUnheld (up (up sL 1 (Int32.toNatClampNeg (m_L_place p1 p2)) ((sL 1 (Int32.toNatClampNeg (m_L_place p1 p2))) - p3)) 3 (Int32.toNatClampNeg p1) ((sL 3 (Int32.toNatClampNeg p1)) &&& ((1 <<< (p2 &&& 31)) ^^^ (-1)))) p1)) H := hQ
      have v4 : okL (m_L_dropUnheld (up (up sL 1 (Int32.toNatClampNeg (m_L_place p1 p2)) ((sL 1 (Int32.toNatClampNeg (m_L_place p1 p2))) - p3)) 3 (Int32.toNatClampNeg p1) ((sL 3 (Int32.toNatClampNeg p1)) &&& ((1 <<< (p2 &&& 31)) ^^^ (-1)))) p1) := okL_dropUnheld (by assumption)
      have w4_4 : ((m_L_dropUnheld (up (up sL 1 (Int32.toNatClampNeg (m_L_place p1 p2)) ((sL 1 (Int32.toNatClampNeg (m_L_place p1 p2))) - p3)) 3 (Int32.toNatClampNeg p1) ((sL 3 (Int32.toNatClampNeg p1)) &&& ((1 <<< (p2 &&& 31)) ^^^ (-1)))) p1) 0 4).toInt = ((up (up sL 1 (Int32.toNatClampNeg (m_L_place p1 p2)) ((sL 1 (Int32.toNatClampNeg (m_L_place p1 p2))) - p3)) 3 (Int32.toNatClampNeg p1) ((sL 3 (Int32.toNatClampNeg p1)) &&& ((1 <<< (p2 &&& 31)) ^^^ (-1)))) 0 4).toInt := congrArg Int32.toInt (fr_L_dropUnheld (by omega))
      have w4_5 : ((m_L_dropUnheld (up (up sL 1 (Int32.toNatClampNeg (m_L_place p1 p2)) ((sL 1 (Int32.toNatClampNeg (m_L_place p1 p2))) - p3)) 3 (Int32.toNatClampNeg p1) ((sL 3 (Int32.toNatClampNeg p1)) &&& ((1 <<< (p2 &&& 31)) ^^^ (-1)))) p1) 0 5).toInt = ((up (up sL 1 (Int32.toNatClampNeg (m_L_place p1 p2)) ((sL 1 (Int32.toNatClampNeg (m_L_place p1 p2))) - p3)) 3 (Int32.toNatClampNeg p1) ((sL 3 (Int32.toNatClampNeg p1)) &&& ((1 <<< (p2 &&& 31)) ^^^ (-1)))) 0 5).toInt := congrArg Int32.toInt (fr_L_dropUnheld (by omega))
      refine lv_iload hx hb dX3_strike_83 (lv_at hl 1 rfl) ?_
      refine lv_aload_n hx hb dX3_strike_85 rfl (lv_at hl 2 rfl) ?_
      refine va_get (D := D) (ci := 3) (v := .ref (g 14)) (C := RX3) (T := TX3) (N := 7) hx hb hts hinL hown hE.1 hPL 0 rfl rfl 1 (by decide) (hts (.fieldLink RX3 15 "WallStones$Wall" "standing" "[I") (List.mem_of_getElem? (i := 1) rfl)) (fun _ h9 => h9) rfl dX3_strike_86 ?_
      refine lv_iload_n hx hb dX3_strike_89 rfl (lv_at hl 3 rfl) ?_
      refine va_iald hx hb hE.1 hPL 2 0 rfl rfl (vp_in_iff.mpr (by omega)) dX3_strike_90 ?_
      refine W.eq (g2 := F0 m 91 ls [.int ((m_L_dropUnheld (up (up sL 1 (Int32.toNatClampNeg (m_L_place p1 p2)) ((sL 1 (Int32.toNatClampNeg (m_L_place p1 p2))) - p3)) 3 (Int32.toNatClampNeg p1) ((sL 3 (Int32.toNatClampNeg p1)) &&& ((1 <<< (p2 &&& 31)) ^^^ (-1)))) p1) 2 (Int32.toNatClampNeg p1)), .int (m_J_bitCount (sL 2 (Int32.toNatClampNeg p1)))]) rfl ?_
      refine runS_i (va_runS (As := [.int ((m_L_dropUnheld (up (up sL 1 (Int32.toNatClampNeg (m_L_place p1 p2)) ((sL 1 (Int32.toNatClampNeg (m_L_place p1 p2))) - p3)) 3 (Int32.toNatClampNeg p1) ((sL 3 (Int32.toNatClampNeg p1)) &&& ((1 <<< (p2 &&& 31)) ^^^ (-1)))) p1) 2 (Int32.toNatClampNeg p1))]) (rest := [.int (m_J_bitCount (sL 2 (Int32.toNatClampNeg p1)))]) ⟨hx, hb, hml, hown, hts⟩ (K_J_bitCount ((m_L_dropUnheld (up (up sL 1 (Int32.toNatClampNeg (m_L_place p1 p2)) ((sL 1 (Int32.toNatClampNeg (m_L_place p1 p2))) - p3)) 3 (Int32.toNatClampNeg p1) ((sL 3 (Int32.toNatClampNeg p1)) &&& ((1 <<< (p2 &&& 31)) ^^^ (-1)))) p1) 2 (Int32.toNatClampNeg p1))) (va_cwS 1 hts gX3_strike_J6_bitCount_0f7a4 rfl rfl rfl (by decide +kernel) ⟨Nat.le_of_ble_eq_true rfl, Nat.le_of_ble_eq_true rfl⟩) (preS_of hE hA hS trivial) rfl rfl hl.1 rfl (lv_room (Nat.le_of_ble_eq_true rfl)) dX3_strike_91 ⟨Nat.zero_le _, Nat.zero_le _⟩) ?_
      refine lv_isub hx hb dX3_strike_94 ?_
      have hM : (m_L_strike sL p1 p2 p3) = ((((m_J_bitCount (sL 2 (Int32.toNatClampNeg p1))) - (m_J_bitCount ((m_L_dropUnheld (up (up sL 1 (Int32.toNatClampNeg (m_L_place p1 p2)) ((sL 1 (Int32.toNatClampNeg (m_L_place p1 p2))) - p3)) 3 (Int32.toNatClampNeg p1) ((sL 3 (Int32.toNatClampNeg p1)) &&& ((1 <<< (p2 &&& 31)) ^^^ (-1)))) p1) 2 (Int32.toNatClampNeg p1)))), (m_L_dropUnheld (up (up sL 1 (Int32.toNatClampNeg (m_L_place p1 p2)) ((sL 1 (Int32.toNatClampNeg (m_L_place p1 p2))) - p3)) 3 (Int32.toNatClampNeg p1) ((sL 3 (Int32.toNatClampNeg p1)) &&& ((1 <<< (p2 &&& 31)) ^^^ (-1)))) p1)) : Int32 × St) := hM
      exact hret ((m_J_bitCount (sL 2 (Int32.toNatClampNeg p1))) - (m_J_bitCount ((m_L_dropUnheld (up (up sL 1 (Int32.toNatClampNeg (m_L_place p1 p2)) ((sL 1 (Int32.toNatClampNeg (m_L_place p1 p2))) - p3)) 3 (Int32.toNatClampNeg p1) ((sL 3 (Int32.toNatClampNeg p1)) &&& ((1 <<< (p2 &&& 31)) ^^^ (-1)))) p1) 2 (Int32.toNatClampNeg p1)))) H locs _ ls (nr_i _) dX3_strike_95 (ret1 hM) (rP_v1 (P := fun (z0 : St) => va_P D vwCl (cellL cI g z0) H) hM hPL) hS
    · have hM := hM.trans (if_neg c_3)
      have t_3 := nlt_t c_3
      rw [tl_0] at t_3
      refine lv_aload_n hx hb dX3_strike_64 rfl (lv_at hl 2 rfl) ?_
      refine va_get (D := D) (ci := 3) (v := .ref (g 14)) (C := RX3) (T := TX3) (N := 7) hx hb hts hinL hown hE.1 hPL 0 rfl rfl 1 (by decide) (hts (.fieldLink RX3 15 "WallStones$Wall" "standing" "[I") (List.mem_of_getElem? (i := 1) rfl)) (fun _ h9 => h9) rfl dX3_strike_65 ?_
      refine lv_iload_n hx hb dX3_strike_68 rfl (lv_at hl 3 rfl) ?_
      refine lv_dup2_11 hx hb dX3_strike_69 rfl rfl ?_
      refine va_iald hx hb hE.1 hPL 2 0 rfl rfl (vp_in_iff.mpr (by omega)) dX3_strike_70 ?_
      refine W.eq (g2 := F0 m 71 ls [.int (sL 2 (Int32.toNatClampNeg p1)), .int p1, .ref (g 14)]) rfl ?_
      refine lv_iconst (v := 1) hx hb dX3_strike_71 (by decide) ?_
      refine lv_iload_n hx hb dX3_strike_72 rfl (lv_at hl 4 rfl) ?_
      refine lv_ishl hx hb dX3_strike_73 ?_
      refine lv_iconst (v := (-1)) hx hb dX3_strike_74 (by decide) ?_
      refine lv_ixor hx hb dX3_strike_75 ?_
      refine lv_iand hx hb dX3_strike_76 ?_
      refine va_iast hx hb hE.1 hPL (wD_of hg (c := 12) (n := 5) (by decide) (by decide) rfl) hS 2 0 rfl rfl (vp_in_iff.mpr (by omega)) dX3_strike_77 (fun H locs hPn _ hS => ?_)
      have hPL : va_P D vwCl (cellL cI g (up (up (up sL 1 (Int32.toNatClampNeg (m_L_place p1 p2)) ((sL 1 (Int32.toNatClampNeg (m_L_place p1 p2))) - p3)) 3 (Int32.toNatClampNeg p1) ((sL 3 (Int32.toNatClampNeg p1)) &&& ((1 <<< (p2 &&& 31)) ^^^ (-1)))) 2 (Int32.toNatClampNeg p1) ((sL 2 (Int32.toNatClampNeg p1)) &&& ((1 <<< (p2 &&& 31)) ^^^ (-1))))) H := (congrArg (fun z => va_P D vwCl z H) setL_L2).mp hPn
      refine lv_aload_n hx hb dX3_strike_78 rfl (lv_at hl 2 rfl) ?_
      refine lv_iload_n hx hb dX3_strike_79 rfl (lv_at hl 3 rfl) ?_
      refine runW_v (va_runV (As := [.int p1]) (rest := []) ⟨hx, hb, hml, hown, hts⟩ (K_L_dropUnheld hg (up (up (up sL 1 (Int32.toNatClampNeg (m_L_place p1 p2)) ((sL 1 (Int32.toNatClampNeg (m_L_place p1 p2))) - p3)) 3 (Int32.toNatClampNeg p1) ((sL 3 (Int32.toNatClampNeg p1)) &&& ((1 <<< (p2 &&& 31)) ^^^ (-1)))) 2 (Int32.toNatClampNeg p1) ((sL 2 (Int32.toNatClampNeg p1)) &&& ((1 <<< (p2 &&& 31)) ^^^ (-1)))) p1 (by assumption) (by omega)) (cwV 1 hts gX3_strike_X3_dropUnheld rfl rfl rfl (by decide +kernel) ⟨Nat.le_of_ble_eq_true rfl, Nat.le_of_ble_eq_true rfl⟩) (preV_of hE hA hS hPL (va_recv hE.1 hPL (ci := 3) (q0 := 0) rfl rfl)) rfl rfl hl.1 rfl (lv_room (Nat.le_of_ble_eq_true rfl)) dX3_strike_80 ⟨Nat.zero_le _, Nat.zero_le _⟩) hS (fun _ h9 => h9) (fun H locs hQ hk hS => ?_)
      have hPL : va_P D vwCl (cellL cI g (m_L_dropUnheld (up (up (up sL 1 (Int32.toNatClampNeg (m_L_place p1 p2)) ((sL 1 (Int32.toNatClampNeg (m_L_place p1 p2))) - p3)) 3 (Int32.toNatClampNeg p1) ((sL 3 (Int32.toNatClampNeg p1)) &&& ((1 <<< (p2 &&& 31)) ^^^ (-1)))) 2 (Int32.toNatClampNeg p1) ((sL 2 (Int32.toNatClampNeg p1)) &&& ((1 <<< (p2 &&& 31)) ^^^ (-1)))) p1)) H := hQ
      have v5 : okL (m_L_dropUnheld (up (up (up sL 1 (Int32.toNatClampNeg (m_L_place p1 p2)) ((sL 1 (Int32.toNatClampNeg (m_L_place p1 p2))) - p3)) 3 (Int32.toNatClampNeg p1) ((sL 3 (Int32.toNatClampNeg p1)) &&& ((1 <<< (p2 &&& 31)) ^^^ (-1)))) 2 (Int32.toNatClampNeg p1) ((sL 2 (Int32.toNatClampNeg p1)) &&& ((1 <<< (p2 &&& 31)) ^^^ (-1)))) p1) := okL_dropUnheld (by assumption)
      have w5_4 : ((m_L_dropUnheld (up (up (up sL 1 (Int32.toNatClampNeg (m_L_place p1 p2)) ((sL 1 (Int32.toNatClampNeg (m_L_place p1 p2))) - p3)) 3 (Int32.toNatClampNeg p1) ((sL 3 (Int32.toNatClampNeg p1)) &&& ((1 <<< (p2 &&& 31)) ^^^ (-1)))) 2 (Int32.toNatClampNeg p1) ((sL 2 (Int32.toNatClampNeg p1)) &&& ((1 <<< (p2 &&& 31)) ^^^ (-1)))) p1) 0 4).toInt = ((up (up (up sL 1 (Int32.toNatClampNeg (m_L_place p1 p2)) ((sL 1 (Int32.toNatClampNeg (m_L_place p1 p2))) - p3)) 3 (Int32.toNatClampNeg p1) ((sL 3 (Int32.toNatClampNeg p1)) &&& ((1 <<< (p2 &&& 31)) ^^^ (-1)))) 2 (Int32.toNatClampNeg p1) ((sL 2 (Int32.toNatClampNeg p1)) &&& ((1 <<< (p2 &&& 31)) ^^^ (-1)))) 0 4).toInt := congrArg Int32.toInt (fr_L_dropUnheld (by omega))
      have w5_5 : ((m_L_dropUnheld (up (up (up sL 1 (Int32.toNatClampNeg (m_L_place p1 p2)) ((sL 1 (Int32.toNatClampNeg (m_L_place p1 p2))) - p3)) 3 (Int32.toNatClampNeg p1) ((sL 3 (Int32.toNatClampNeg p1)) &&& ((1 <<< (p2 &&& 31)) ^^^ (-1)))) 2 (Int32.toNatClampNeg p1) ((sL 2 (Int32.toNatClampNeg p1)) &&& ((1 <<< (p2 &&& 31)) ^^^ (-1)))) p1) 0 5).toInt = ((up (up (up sL 1 (Int32.toNatClampNeg (m_L_place p1 p2)) ((sL 1 (Int32.toNatClampNeg (m_L_place p1 p2))) - p3)) 3 (Int32.toNatClampNeg p1) ((sL 3 (Int32.toNatClampNeg p1)) &&& ((1 <<< (p2 &&& 31)) ^^^ (-1)))) 2 (Int32.toNatClampNeg p1) ((sL 2 (Int32.toNatClampNeg p1)) &&& ((1 <<< (p2 &&& 31)) ^^^ (-1)))) 0 5).toInt := congrArg Int32.toInt (fr_L_dropUnheld (by omega))
      refine lv_iload hx hb dX3_strike_83 (lv_at hl 1 rfl) ?_
      refine lv_aload_n hx hb dX3_strike_85 rfl (lv_at hl 2 rfl) ?_
      refine va_get (D := D) (ci := 3) (v := .ref (g 14)) (C := RX3) (T := TX3) (N := 7) hx hb hts hinL hown hE.1 hPL 0 rfl rfl 1 (by decide) (hts (.fieldLink RX3 15 "WallStones$Wall" "standing" "[I") (List.mem_of_getElem? (i := 1) rfl)) (fun _ h9 => h9) rfl dX3_strike_86 ?_
      refine lv_iload_n hx hb dX3_strike_89 rfl (lv_at hl 3 rfl) ?_
      refine va_iald hx hb hE.1 hPL 2 0 rfl rfl (vp_in_iff.mpr (by omega)) dX3_strike_90 ?_
      refine W.eq (g2 := F0 m 91 ls [.int ((m_L_dropUnheld (up (up (up sL 1 (Int32.toNatClampNeg (m_L_place p1 p2)) ((sL 1 (Int32.toNatClampNeg (m_L_place p1 p2))) - p3)) 3 (Int32.toNatClampNeg p1) ((sL 3 (Int32.toNatClampNeg p1)) &&& ((1 <<< (p2 &&& 31)) ^^^ (-1)))) 2 (Int32.toNatClampNeg p1) ((sL 2 (Int32.toNatClampNeg p1)) &&& ((1 <<< (p2 &&& 31)) ^^^ (-1)))) p1) 2 (Int32.toNatClampNeg p1)), .int (m_J_bitCount (sL 2 (Int32.toNatClampNeg p1)))]) rfl ?_
      refine runS_i (va_runS (As := [.int ((m_L_dropUnheld (up (up (up sL 1 (Int32.toNatClampNeg (m_L_place p1 p2)) ((sL 1 (Int32.toNatClampNeg (m_L_place p1 p2))) - p3)) 3 (Int32.toNatClampNeg p1) ((sL 3 (Int32.toNatClampNeg p1)) &&& ((1 <<< (p2 &&& 31)) ^^^ (-1)))) 2 (Int32.toNatClampNeg p1) ((sL 2 (Int32.toNatClampNeg p1)) &&& ((1 <<< (p2 &&& 31)) ^^^ (-1)))) p1) 2 (Int32.toNatClampNeg p1))]) (rest := [.int (m_J_bitCount (sL 2 (Int32.toNatClampNeg p1)))]) ⟨hx, hb, hml, hown, hts⟩ (K_J_bitCount ((m_L_dropUnheld (up (up (up sL 1 (Int32.toNatClampNeg (m_L_place p1 p2)) ((sL 1 (Int32.toNatClampNeg (m_L_place p1 p2))) - p3)) 3 (Int32.toNatClampNeg p1) ((sL 3 (Int32.toNatClampNeg p1)) &&& ((1 <<< (p2 &&& 31)) ^^^ (-1)))) 2 (Int32.toNatClampNeg p1) ((sL 2 (Int32.toNatClampNeg p1)) &&& ((1 <<< (p2 &&& 31)) ^^^ (-1)))) p1) 2 (Int32.toNatClampNeg p1))) (va_cwS 1 hts gX3_strike_J6_bitCount_0f7a4 rfl rfl rfl (by decide +kernel) ⟨Nat.le_of_ble_eq_true rfl, Nat.le_of_ble_eq_true rfl⟩) (preS_of hE hA hS trivial) rfl rfl hl.1 rfl (lv_room (Nat.le_of_ble_eq_true rfl)) dX3_strike_91 ⟨Nat.zero_le _, Nat.zero_le _⟩) ?_
      refine lv_isub hx hb dX3_strike_94 ?_
      have hM : (m_L_strike sL p1 p2 p3) = ((((m_J_bitCount (sL 2 (Int32.toNatClampNeg p1))) - (m_J_bitCount ((m_L_dropUnheld (up (up (up sL 1 (Int32.toNatClampNeg (m_L_place p1 p2)) ((sL 1 (Int32.toNatClampNeg (m_L_place p1 p2))) - p3)) 3 (Int32.toNatClampNeg p1) ((sL 3 (Int32.toNatClampNeg p1)) &&& ((1 <<< (p2 &&& 31)) ^^^ (-1)))) 2 (Int32.toNatClampNeg p1) ((sL 2 (Int32.toNatClampNeg p1)) &&& ((1 <<< (p2 &&& 31)) ^^^ (-1)))) p1) 2 (Int32.toNatClampNeg p1)))), (m_L_dropUnheld (up (up (up sL 1 (Int32.toNatClampNeg (m_L_place p1 p2)) ((sL 1 (Int32.toNatClampNeg (m_L_place p1 p2))) - p3)) 3 (Int32.toNatClampNeg p1) ((sL 3 (Int32.toNatClampNeg p1)) &&& ((1 <<< (p2 &&& 31)) ^^^ (-1)))) 2 (Int32.toNatClampNeg p1) ((sL 2 (Int32.toNatClampNeg p1)) &&& ((1 <<< (p2 &&& 31)) ^^^ (-1)))) p1)) : Int32 × St) := hM
      exact hret ((m_J_bitCount (sL 2 (Int32.toNatClampNeg p1))) - (m_J_bitCount ((m_L_dropUnheld (up (up (up sL 1 (Int32.toNatClampNeg (m_L_place p1 p2)) ((sL 1 (Int32.toNatClampNeg (m_L_place p1 p2))) - p3)) 3 (Int32.toNatClampNeg p1) ((sL 3 (Int32.toNatClampNeg p1)) &&& ((1 <<< (p2 &&& 31)) ^^^ (-1)))) 2 (Int32.toNatClampNeg p1) ((sL 2 (Int32.toNatClampNeg p1)) &&& ((1 <<< (p2 &&& 31)) ^^^ (-1)))) p1) 2 (Int32.toNatClampNeg p1)))) H locs _ ls (nr_i _) dX3_strike_95 (ret1 hM) (rP_v1 (P := fun (z0 : St) => va_P D vwCl (cellL cI g z0) H) hM hPL) hS
  · have hM := hM.trans (if_pos c_1)
    have t_1 := eq_t c_1
    rw [tl_0] at t_1
    refine lv_iconst (v := 0) hx hb dX3_strike_9 (by decide) ?_
    have hM : (m_L_strike sL p1 p2 p3) = ((0, sL) : Int32 × St) := hM
    exact hret 0 H locs _ ls (nr_i _) dX3_strike_10 (ret1 hM) (rP_v1 (P := fun (z0 : St) => va_P D vwCl (cellL cI g z0) H) hM hPL) hS
abbrev rm_L_putLevel : Room := { frames := 0, cells := 0, slots := 0, locals := 0 }
set_option maxHeartbeats 4000000 in
set_option maxRecDepth 100000 in
theorem K_L_putLevel {l : Launch} {D : va_G} {cI : ClassId} {lo : Nat} {g : Nat → Nat} (hg : wI g 12 17 lo) (sL : St) (p1 : Int32) : WRi l D cI lo yX3_putLevel wsX3_putLevel rm_L_putLevel [.ref (g 12), .int p1] (fun H => va_P D vwCl (cellL cI g sL) H) (m_L_putLevel sL p1).1 (fun H => va_P D vwCl (cellL cI g (m_L_putLevel sL p1).2) H) (wA g 12 17) := by
  refine ofW_WRi (cc := cX3_putLevel) (maxL := 3) (ty := .int) (by decide +kernel) rfl (Nat.le_of_ble_eq_true rfl) ?_
  intro p e s m args below meth c Q hx hb hml hown hts hE hP hret ls hl
  have hown : s.vm.findClass RX3 = some m.cls := hown
  have hPL := hP
  have hA := wA.lo hg
  have hS : va_S (wA g 12 17) s.heap s.heap [] := va_S.rf
  obtain ⟨H, hH⟩ : ∃ z, z = s.heap := ⟨_, rfl⟩
  obtain ⟨locs, hlocs⟩ : ∃ z : List Loc, z = [] := ⟨_, rfl⟩
  have hPL : va_P D vwCl (cellL cI g sL) H := by rw [hH]; exact hPL
  have hS : va_S (wA g 12 17) s.heap H locs := by rw [hH, hlocs]; exact va_S.rf
  have gW : W p l e rm_L_putLevel s m args below meth c H locs 0 0 Q (F0 m 0 ls []) → W p l e rm_L_putLevel s m args below meth c s.heap [] 0 0 Q (F0 m 0 ls []) := by rw [hH, hlocs]; exact id
  refine gW ?_
  have hinL : ∀ w ∈ wsX30, w ∈ wsX3_putLevel := fun w h => List.mem_cons_of_mem _ (List.mem_append_right _ h)
  have hl : lv_has ls 3 [(0, .ref (g 12)), (1, .int p1)] := hl
  have hM : (m_L_putLevel sL p1) = (m_L_putLevel sL p1) := rfl
  refine lv_aload_n hx hb dX3_putLevel_0 rfl (lv_at hl 0 rfl) ?_
  refine va_get (D := D) (ci := 3) (v := .int (sL 0 6)) (C := RX3) (T := TX3) (N := 7) hx hb hts hinL hown hE.1 hPL 0 rfl rfl 6 (by decide) (hts (.fieldLink RX3 59 "WallStones$Wall" "levelNow" "I") (List.mem_of_getElem? (i := 1) rfl)) (fun _ h9 => h9) rfl dX3_putLevel_1 ?_
  refine lv_istore_n (lv' := [(2, .int (sL 0 6)), (0, .ref (g 12)), (1, .int p1)]) hx hb dX3_putLevel_4 rfl hl (by decide) rfl (fun ls hl => ?_)
  refine lv_aload_n hx hb dX3_putLevel_5 rfl (lv_at hl 1 rfl) ?_
  refine lv_iload_n hx hb dX3_putLevel_6 rfl (lv_at hl 2 rfl) ?_
  refine va_put (D := D) (ci := 3) (v := .int p1) (ty := .int) (C := RX3) (T := TX3) (N := 7) hx hb hts hinL tyX3 tyX3_ok nmX3 hown hE.1 hPL (wD_of hg (c := 12) (n := 5) (by decide) (by decide) rfl) hS 0 rfl rfl 6 (by decide) (hts (.fieldLink RX3 59 "WallStones$Wall" "levelNow" "I") (List.mem_of_getElem? (i := 1) rfl)) (fun _ h9 => h9) rfl (by decide +kernel) rfl rfl (Nat.le_of_ble_eq_true rfl) dX3_putLevel_7 (fun H locs hPn _ hS => ?_)
  have hPL : va_P D vwCl (cellL cI g (up sL 0 6 p1)) H := (congrArg (fun z => va_P D vwCl z H) putL_L6).mp hPn
  refine lv_iload_n hx hb dX3_putLevel_10 rfl (lv_at hl 0 rfl) ?_
  have hM : (m_L_putLevel sL p1) = (((sL 0 6), (up sL 0 6 p1)) : Int32 × St) := hM
  exact hret (sL 0 6) H locs _ ls (nr_i _) dX3_putLevel_11 (ret1 hM) (rP_v1 (P := fun (z0 : St) => va_P D vwCl (cellL cI g z0) H) hM hPL) hS
abbrev rm_L_isOpen : Room := { frames := 1, cells := 0, slots := 0, locals := 20 }
set_option maxHeartbeats 4000000 in
set_option maxRecDepth 100000 in
theorem K_L_isOpen {l : Launch} {D : va_G} {cI : ClassId} {lo : Nat} {g : Nat → Nat} (hg : wI g 12 17 lo) (sL : St) (p1 : Int32) (h0 : 0 ≤ p1.toInt ∧ p1.toInt ≤ 7) : ROi l D cI lo yX3_isOpen wsX3_isOpen rm_L_isOpen [.ref (g 12), .int p1] (fun H => va_P D vwCl (cellL cI g sL) H) (m_L_isOpen sL p1) := by
  refine ofW_ROi (cc := cX3_isOpen) (maxL := 2) (ty := .boolean) (by decide +kernel) rfl (Nat.le_of_ble_eq_true rfl) ?_
  intro p e s m args below meth c Q hx hb hml hown hts hE hP hret ls hl
  have hown : s.vm.findClass RX3 = some m.cls := hown
  have hPL := hP
  have hA : ∀ q : Nat, (fun _ : Nat => False) q → lo ≤ q := fun _ h => h.elim
  have hS : va_S (fun _ : Nat => False) s.heap s.heap [] := va_S.rf
  have hinL : ∀ w ∈ wsX30, w ∈ wsX3_isOpen := fun w h => List.mem_cons_of_mem _ (List.mem_append_right _ h)
  have hl : lv_has ls 2 [(0, .ref (g 12)), (1, .int p1)] := hl
  have hM : (m_L_isOpen sL p1) = (m_L_isOpen sL p1) := rfl
  refine lv_aload_n hx hb dX3_isOpen_0 rfl (lv_at hl 0 rfl) ?_
  refine va_get (D := D) (ci := 3) (v := .ref (g 14)) (C := RX3) (T := TX3) (N := 7) hx hb hts hinL hown hE.1 hPL 0 rfl rfl 1 (by decide) (hts (.fieldLink RX3 15 "WallStones$Wall" "standing" "[I") (List.mem_of_getElem? (i := 1) rfl)) (fun _ h9 => h9) rfl dX3_isOpen_1 ?_
  refine lv_iload_n hx hb dX3_isOpen_4 rfl (lv_at hl 1 rfl) ?_
  refine va_iald hx hb hE.1 hPL 2 0 rfl rfl (vp_in_iff.mpr (by omega)) dX3_isOpen_5 ?_
  refine W.eq (g2 := F0 m 6 ls [.int (sL 2 (Int32.toNatClampNeg p1))]) rfl ?_
  refine runS_i (va_runS (As := [.int (sL 2 (Int32.toNatClampNeg p1))]) (rest := []) ⟨hx, hb, hml, hown, hts⟩ (K_J_bitCount (sL 2 (Int32.toNatClampNeg p1))) (va_cwS 1 hts gX3_isOpen_J6_bitCount_0f7a4 rfl rfl rfl (by decide +kernel) ⟨Nat.le_of_ble_eq_true rfl, Nat.le_of_ble_eq_true rfl⟩) (preS_of hE hA hS trivial) rfl rfl hl.1 rfl (lv_room (Nat.le_of_ble_eq_true rfl)) dX3_isOpen_6 ⟨Nat.zero_le _, Nat.zero_le _⟩) ?_
  refine lv_aload_n hx hb dX3_isOpen_9 rfl (lv_at hl 0 rfl) ?_
  refine va_get (D := D) (ci := 3) (v := .int (sL 0 6)) (C := RX3) (T := TX3) (N := 7) hx hb hts hinL hown hE.1 hPL 0 rfl rfl 6 (by decide) (hts (.fieldLink RX3 59 "WallStones$Wall" "levelNow" "I") (List.mem_of_getElem? (i := 2) rfl)) (fun _ h9 => h9) rfl dX3_isOpen_10 ?_
  refine lv_icmp_gt (tgt := 20) hx hb dX3_isOpen_13 (by decide) (fun c_1 => ?_) (fun c_1 => ?_)
  · have hM := hM.trans (if_pos c_1)
    have t_1 := lt_t c_1
    refine lv_iconst (v := 0) hx hb dX3_isOpen_20 (by decide) ?_
    have hM : (m_L_isOpen sL p1) = (0 : Int32) := hM
    exact hret _ _ ls (by decide) dX3_isOpen_21 hM.symm
  · have hM := hM.trans (if_neg c_1)
    have t_1 := nlt_t c_1
    refine lv_iconst (v := 1) hx hb dX3_isOpen_16 (by decide) ?_
    refine lv_goto (tgt := 21) hx hb dX3_isOpen_17 (by decide) ?_
    have hM : (m_L_isOpen sL p1) = (1 : Int32) := hM
    exact hret _ _ ls (by decide) dX3_isOpen_21 hM.symm
abbrev rm_L_firstOpen : Room := { frames := 2, cells := 0, slots := 0, locals := 41 }
set_option maxHeartbeats 4000000 in
set_option maxRecDepth 100000 in
theorem K_L_firstOpen {l : Launch} {D : va_G} {cI : ClassId} {lo : Nat} {g : Nat → Nat} (hg : wI g 12 17 lo) (sL : St) (h0 : okL sL) : ROi l D cI lo yX3_firstOpen wsX3_firstOpen rm_L_firstOpen [.ref (g 12)] (fun H => va_P D vwCl (cellL cI g sL) H) (m_L_firstOpen sL) := by
  refine ofW_ROi (cc := cX3_firstOpen) (maxL := 2) (ty := .int) (by decide +kernel) rfl (Nat.le_of_ble_eq_true rfl) ?_
  intro p e s m args below meth c Q hx hb hml hown hts hE hP hret ls hl
  have hown : s.vm.findClass RX3 = some m.cls := hown
  have hPL := hP
  have hA : ∀ q : Nat, (fun _ : Nat => False) q → lo ≤ q := fun _ h => h.elim
  have hS : va_S (fun _ : Nat => False) s.heap s.heap [] := va_S.rf
  have hinL : ∀ w ∈ wsX30, w ∈ wsX3_firstOpen := fun w h => List.mem_cons_of_mem _ (List.mem_append_right _ h)
  have hl : lv_has ls 2 [(0, .ref (g 12))] := hl
  have nh0 := okL_lin h0
  have C_2 : ∀ (n : Nat) (x1_2 : Int32) (ls : Array Slot), 0 ≤ x1_2.toInt ∧ x1_2.toInt ≤ (sL 0 4).toInt → ((sL 0 4).toInt - x1_2.toInt).toNat < n → lv_has ls 2 [(0, .ref (g 12)), (1, .int x1_2)] → (m_L_firstOpen sL) = wc (g_L_firstOpen_2 sL) 0 n x1_2 → W p l e rm_L_firstOpen s m args below meth c s.heap [] 0 0 Q (F0 m 2 ls []) := by
    intro n
    induction n with
    | zero =>
      intro x1_2 ls i2_0 hn2 hl hO
      exact absurd hn2 (Nat.not_lt_zero _)
    | succ n ih =>
      intro x1_2 ls i2_0 hn2 hl hO
      have hM : (g_L_firstOpen_2 sL) x1_2 = (g_L_firstOpen_2 sL) x1_2 := rfl
      refine lv_iload_n hx hb dX3_firstOpen_2 rfl (lv_at hl 1 rfl) ?_
      refine lv_aload_n hx hb dX3_firstOpen_3 rfl (lv_at hl 0 rfl) ?_
      refine va_get (D := D) (ci := 3) (v := .int (sL 0 4)) (C := RX3) (T := TX3) (N := 7) hx hb hts hinL hown hE.1 hPL 0 rfl rfl 4 (by decide) (hts (.fieldLink RX3 28 "WallStones$Wall" "columns" "I") (List.mem_of_getElem? (i := 1) rfl)) (fun _ h9 => h9) rfl dX3_firstOpen_4 ?_
      refine lv_icmp_ge (tgt := 26) hx hb dX3_firstOpen_7 (by decide) (fun c_1 => ?_) (fun c_1 => ?_)
      · have hM := hM.trans (if_pos c_1)
        have t_1 := le_t c_1
        refine lv_bipush (v := (-9)) hx hb dX3_firstOpen_26 (by decide) ?_
        have hM := hO.trans (wc_inr hM)
        have hM : (m_L_firstOpen sL) = ((-9) : Int32) := hM
        exact hret _ _ ls (nr_i _) dX3_firstOpen_28 hM.symm
      · have hM := hM.trans (if_neg c_1)
        have t_1 := nle_t c_1
        refine lv_aload_n hx hb dX3_firstOpen_10 rfl (lv_at hl 0 rfl) ?_
        refine lv_iload_n hx hb dX3_firstOpen_11 rfl (lv_at hl 1 rfl) ?_
        refine runS_i (va_runV (As := [.int x1_2]) (rest := []) ⟨hx, hb, hml, hown, hts⟩ (K_L_isOpen hg sL x1_2 (by omega)) (cwV 1 hts gX3_firstOpen_X3_isOpen rfl rfl rfl (by decide +kernel) ⟨Nat.le_of_ble_eq_true rfl, Nat.le_of_ble_eq_true rfl⟩) (preV_of hE hA hS hPL (va_recv hE.1 hPL (ci := 3) (q0 := 0) rfl rfl)) rfl rfl hl.1 rfl (lv_room (Nat.le_of_ble_eq_true rfl)) dX3_firstOpen_12 ⟨Nat.zero_le _, Nat.zero_le _⟩) ?_
        refine lv_if_eq (tgt := 20) hx hb dX3_firstOpen_15 (by decide) (fun c_2 => ?_) (fun c_2 => ?_)
        · have hM := hM.trans (if_pos c_2)
          have t_2 := eq_t c_2
          rw [tl_0] at t_2
          refine lv_iinc (v := (x1_2 + 1)) (lv' := [(1, .int (x1_2 + 1)), (0, .ref (g 12))]) hx hb dX3_firstOpen_20 hl (k := 1) rfl rfl (by decide) rfl (fun ls hl => ?_)
          refine lv_goto (tgt := 2) hx hb dX3_firstOpen_23 (by decide) ?_
          have := t_inc (x := x1_2) (by omega)
          exact ih (x1_2 + 1) ls (by omega) (by omega) (lv_sub hl [1, 0] rfl) (hO.trans (wc_inl (f := (g_L_firstOpen_2 sL)) (s := x1_2) (t := (x1_2 + 1)) hM))
        · have hM := hM.trans (if_neg c_2)
          have t_2 := ne_t c_2
          rw [tl_0] at t_2
          refine lv_iload_n hx hb dX3_firstOpen_18 rfl (lv_at hl 1 rfl) ?_
          have hM := hO.trans (wc_inr hM)
          have hM : (m_L_firstOpen sL) = (x1_2 : Int32) := hM
          exact hret _ _ ls (nr_i _) dX3_firstOpen_19 hM.symm
  have hM : (m_L_firstOpen sL) = (m_L_firstOpen sL) := rfl
  refine lv_iconst (v := 0) hx hb dX3_firstOpen_0 (by decide) ?_
  refine lv_istore_n (lv' := [(1, .int 0), (0, .ref (g 12))]) hx hb dX3_firstOpen_1 rfl hl (by decide) rfl (fun ls hl => ?_)
  have z3 := tl_0
  exact C_2 9 0 ls (by omega) (by omega) (lv_sub hl [1, 0] rfl) hM
abbrev rm_L_openColumns : Room := { frames := 2, cells := 0, slots := 0, locals := 41 }
set_option maxHeartbeats 4000000 in
set_option maxRecDepth 100000 in
theorem K_L_openColumns {l : Launch} {D : va_G} {cI : ClassId} {lo : Nat} {g : Nat → Nat} (hg : wI g 12 17 lo) (sL : St) (h0 : okL sL) : ROi l D cI lo yX3_openColumns wsX3_openColumns rm_L_openColumns [.ref (g 12)] (fun H => va_P D vwCl (cellL cI g sL) H) (m_L_openColumns sL) := by
  refine ofW_ROi (cc := cX3_openColumns) (maxL := 3) (ty := .int) (by decide +kernel) rfl (Nat.le_of_ble_eq_true rfl) ?_
  intro p e s m args below meth c Q hx hb hml hown hts hE hP hret ls hl
  have hown : s.vm.findClass RX3 = some m.cls := hown
  have hPL := hP
  have hA : ∀ q : Nat, (fun _ : Nat => False) q → lo ≤ q := fun _ h => h.elim
  have hS : va_S (fun _ : Nat => False) s.heap s.heap [] := va_S.rf
  have hinL : ∀ w ∈ wsX30, w ∈ wsX3_openColumns := fun w h => List.mem_cons_of_mem _ (List.mem_append_right _ h)
  have hl : lv_has ls 3 [(0, .ref (g 12))] := hl
  have nh0 := okL_lin h0
  have L_4 : ∀ (n : Nat) (x1_4 : Int32) (x2_4 : Int32) (ls : Array Slot), 0 ≤ x2_4.toInt ∧ x2_4.toInt ≤ (sL 0 4).toInt → ((sL 0 4).toInt - x2_4.toInt).toNat < n → lv_has ls 3 [(0, .ref (g 12)), (1, .int x1_4), (2, .int x2_4)] → (∀ (ls : Array Slot), lv_has ls 3 [(1, .int (wl (g_L_openColumns_4 sL) n (x1_4, x2_4)).1)] → W p l e rm_L_openColumns s m args below meth c s.heap [] 0 0 Q (F0 m 34 ls [])) → W p l e rm_L_openColumns s m args below meth c s.heap [] 0 0 Q (F0 m 4 ls []) := by
    intro n
    induction n with
    | zero =>
      intro x1_4 x2_4 ls i4_0 hn4 hl kk
      exact absurd hn4 (Nat.not_lt_zero _)
    | succ n ih =>
      intro x1_4 x2_4 ls i4_0 hn4 hl kk
      have hM : (g_L_openColumns_4 sL) (x1_4, x2_4) = (g_L_openColumns_4 sL) (x1_4, x2_4) := rfl
      refine lv_iload_n hx hb dX3_openColumns_4 rfl (lv_at hl 2 rfl) ?_
      refine lv_aload_n hx hb dX3_openColumns_5 rfl (lv_at hl 0 rfl) ?_
      refine va_get (D := D) (ci := 3) (v := .int (sL 0 4)) (C := RX3) (T := TX3) (N := 7) hx hb hts hinL hown hE.1 hPL 0 rfl rfl 4 (by decide) (hts (.fieldLink RX3 28 "WallStones$Wall" "columns" "I") (List.mem_of_getElem? (i := 1) rfl)) (fun _ h9 => h9) rfl dX3_openColumns_6 ?_
      refine lv_icmp_ge (tgt := 34) hx hb dX3_openColumns_9 (by decide) (fun c_1 => ?_) (fun c_1 => ?_)
      · have hM := hM.trans (if_pos c_1)
        have t_1 := le_t c_1
        rw [wl_none hM] at kk
        exact kk ls (lv_sub hl [1] rfl)
      · have hM := hM.trans (if_neg c_1)
        have t_1 := nle_t c_1
        refine lv_iload_n hx hb dX3_openColumns_12 rfl (lv_at hl 1 rfl) ?_
        refine lv_aload_n hx hb dX3_openColumns_13 rfl (lv_at hl 0 rfl) ?_
        refine lv_iload_n hx hb dX3_openColumns_14 rfl (lv_at hl 2 rfl) ?_
        refine runS_i (va_runV (As := [.int x2_4]) (rest := [.int x1_4]) ⟨hx, hb, hml, hown, hts⟩ (K_L_isOpen hg sL x2_4 (by omega)) (cwV 1 hts gX3_openColumns_X3_isOpen rfl rfl rfl (by decide +kernel) ⟨Nat.le_of_ble_eq_true rfl, Nat.le_of_ble_eq_true rfl⟩) (preV_of hE hA hS hPL (va_recv hE.1 hPL (ci := 3) (q0 := 0) rfl rfl)) rfl rfl hl.1 rfl (lv_room (Nat.le_of_ble_eq_true rfl)) dX3_openColumns_15 ⟨Nat.zero_le _, Nat.zero_le _⟩) ?_
        refine lv_if_eq (tgt := 25) hx hb dX3_openColumns_18 (by decide) (fun c_2 => ?_) (fun c_2 => ?_)
        · have hM := hM.trans (if_pos c_2)
          have t_2 := eq_t c_2
          rw [tl_0] at t_2
          refine lv_iconst (v := 0) hx hb dX3_openColumns_25 (by decide) ?_
          refine lv_iadd hx hb dX3_openColumns_26 ?_
          refine lv_istore_n (lv' := [(1, .int (x1_4 + 0)), (0, .ref (g 12)), (2, .int x2_4)]) hx hb dX3_openColumns_27 rfl hl (by decide) rfl (fun ls hl => ?_)
          refine lv_iinc (v := (x2_4 + 1)) (lv' := [(2, .int (x2_4 + 1)), (1, .int (x1_4 + 0)), (0, .ref (g 12))]) hx hb dX3_openColumns_28 hl (k := 2) rfl rfl (by decide) rfl (fun ls hl => ?_)
          refine lv_goto (tgt := 4) hx hb dX3_openColumns_31 (by decide) ?_
          have := t_inc (x := x2_4) (by omega)
          rw [wl_some hM] at kk
          exact ih (x1_4 + 0) (x2_4 + 1) ls (by omega) (by omega) (lv_sub hl [2, 1, 0] rfl) kk
        · have hM := hM.trans (if_neg c_2)
          have t_2 := ne_t c_2
          rw [tl_0] at t_2
          refine lv_iconst (v := 1) hx hb dX3_openColumns_21 (by decide) ?_
          refine lv_goto (tgt := 26) hx hb dX3_openColumns_22 (by decide) ?_
          refine lv_iadd hx hb dX3_openColumns_26 ?_
          refine lv_istore_n (lv' := [(1, .int (x1_4 + 1)), (0, .ref (g 12)), (2, .int x2_4)]) hx hb dX3_openColumns_27 rfl hl (by decide) rfl (fun ls hl => ?_)
          refine lv_iinc (v := (x2_4 + 1)) (lv' := [(2, .int (x2_4 + 1)), (1, .int (x1_4 + 1)), (0, .ref (g 12))]) hx hb dX3_openColumns_28 hl (k := 2) rfl rfl (by decide) rfl (fun ls hl => ?_)
          refine lv_goto (tgt := 4) hx hb dX3_openColumns_31 (by decide) ?_
          have := t_inc (x := x2_4) (by omega)
          rw [wl_some hM] at kk
          exact ih (x1_4 + 1) (x2_4 + 1) ls (by omega) (by omega) (lv_sub hl [2, 1, 0] rfl) kk
  have J_34 : ∀ (x1_34 : Int32) (ls : Array Slot), lv_has ls 3 [(1, .int x1_34)] → (m_L_openColumns sL) = b_L_openColumns_34 sL x1_34 → W p l e rm_L_openColumns s m args below meth c s.heap [] 0 0 Q (F0 m 34 ls []) := by
    intro x1_34 ls hl hM
    refine lv_iload_n hx hb dX3_openColumns_34 rfl (lv_at hl 0 rfl) ?_
    have hM : (m_L_openColumns sL) = (x1_34 : Int32) := hM
    exact hret _ _ ls (nr_i _) dX3_openColumns_35 hM.symm
  have hM : (m_L_openColumns sL) = (m_L_openColumns sL) := rfl
  refine lv_iconst (v := 0) hx hb dX3_openColumns_0 (by decide) ?_
  refine lv_istore_n (lv' := [(1, .int 0), (0, .ref (g 12))]) hx hb dX3_openColumns_1 rfl hl (by decide) rfl (fun ls hl => ?_)
  refine lv_iconst (v := 0) hx hb dX3_openColumns_2 (by decide) ?_
  refine lv_istore_n (lv' := [(2, .int 0), (1, .int 0), (0, .ref (g 12))]) hx hb dX3_openColumns_3 rfl hl (by decide) rfl (fun ls hl => ?_)
  have z3 := tl_0
  refine L_4 9 0 0 ls (by omega) (by omega) (lv_sub hl [2, 1, 0] rfl) (fun ls hl => ?_)
  exact J_34 (wl (g_L_openColumns_4 sL) 9 (0, 0)).1 ls (lv_sub hl [0] rfl) hM
abbrev rm_L_standingCells : Room := { frames := 1, cells := 0, slots := 0, locals := 20 }
set_option maxHeartbeats 4000000 in
set_option maxRecDepth 100000 in
theorem K_L_standingCells {l : Launch} {D : va_G} {cI : ClassId} {lo : Nat} {g : Nat → Nat} (hg : wI g 12 17 lo) (sL : St) (h0 : okL sL) : ROi l D cI lo yX3_standingCells wsX3_standingCells rm_L_standingCells [.ref (g 12)] (fun H => va_P D vwCl (cellL cI g sL) H) (m_L_standingCells sL) := by
  refine ofW_ROi (cc := cX3_standingCells) (maxL := 3) (ty := .int) (by decide +kernel) rfl (Nat.le_of_ble_eq_true rfl) ?_
  intro p e s m args below meth c Q hx hb hml hown hts hE hP hret ls hl
  have hown : s.vm.findClass RX3 = some m.cls := hown
  have hPL := hP
  have hA : ∀ q : Nat, (fun _ : Nat => False) q → lo ≤ q := fun _ h => h.elim
  have hS : va_S (fun _ : Nat => False) s.heap s.heap [] := va_S.rf
  have hinL : ∀ w ∈ wsX30, w ∈ wsX3_standingCells := fun w h => List.mem_cons_of_mem _ (List.mem_append_right _ h)
  have hl : lv_has ls 3 [(0, .ref (g 12))] := hl
  have nh0 := okL_lin h0
  have L_4 : ∀ (n : Nat) (x1_4 : Int32) (x2_4 : Int32) (ls : Array Slot), 0 ≤ x2_4.toInt ∧ x2_4.toInt ≤ (sL 0 4).toInt → ((sL 0 4).toInt - x2_4.toInt).toNat < n → lv_has ls 3 [(0, .ref (g 12)), (1, .int x1_4), (2, .int x2_4)] → (∀ (ls : Array Slot), lv_has ls 3 [(1, .int (wl (g_L_standingCells_4 sL) n (x1_4, x2_4)).1)] → W p l e rm_L_standingCells s m args below meth c s.heap [] 0 0 Q (F0 m 30 ls [])) → W p l e rm_L_standingCells s m args below meth c s.heap [] 0 0 Q (F0 m 4 ls []) := by
    intro n
    induction n with
    | zero =>
      intro x1_4 x2_4 ls i4_0 hn4 hl kk
      exact absurd hn4 (Nat.not_lt_zero _)
    | succ n ih =>
      intro x1_4 x2_4 ls i4_0 hn4 hl kk
      have hM : (g_L_standingCells_4 sL) (x1_4, x2_4) = (g_L_standingCells_4 sL) (x1_4, x2_4) := rfl
      refine lv_iload_n hx hb dX3_standingCells_4 rfl (lv_at hl 2 rfl) ?_
      refine lv_aload_n hx hb dX3_standingCells_5 rfl (lv_at hl 0 rfl) ?_
      refine va_get (D := D) (ci := 3) (v := .int (sL 0 4)) (C := RX3) (T := TX3) (N := 7) hx hb hts hinL hown hE.1 hPL 0 rfl rfl 4 (by decide) (hts (.fieldLink RX3 28 "WallStones$Wall" "columns" "I") (List.mem_of_getElem? (i := 1) rfl)) (fun _ h9 => h9) rfl dX3_standingCells_6 ?_
      refine lv_icmp_ge (tgt := 30) hx hb dX3_standingCells_9 (by decide) (fun c_1 => ?_) (fun c_1 => ?_)
      · have hM := hM.trans (if_pos c_1)
        have t_1 := le_t c_1
        rw [wl_none hM] at kk
        exact kk ls (lv_sub hl [1] rfl)
      · have hM := hM.trans (if_neg c_1)
        have t_1 := nle_t c_1
        refine lv_iload_n hx hb dX3_standingCells_12 rfl (lv_at hl 1 rfl) ?_
        refine lv_aload_n hx hb dX3_standingCells_13 rfl (lv_at hl 0 rfl) ?_
        refine va_get (D := D) (ci := 3) (v := .ref (g 14)) (C := RX3) (T := TX3) (N := 7) hx hb hts hinL hown hE.1 hPL 0 rfl rfl 1 (by decide) (hts (.fieldLink RX3 15 "WallStones$Wall" "standing" "[I") (List.mem_of_getElem? (i := 2) rfl)) (fun _ h9 => h9) rfl dX3_standingCells_14 ?_
        refine lv_iload_n hx hb dX3_standingCells_17 rfl (lv_at hl 2 rfl) ?_
        refine va_iald hx hb hE.1 hPL 2 0 rfl rfl (vp_in_iff.mpr (by omega)) dX3_standingCells_18 ?_
        refine W.eq (g2 := F0 m 19 ls [.int (sL 2 (Int32.toNatClampNeg x2_4)), .int x1_4]) rfl ?_
        refine runS_i (va_runS (As := [.int (sL 2 (Int32.toNatClampNeg x2_4))]) (rest := [.int x1_4]) ⟨hx, hb, hml, hown, hts⟩ (K_J_bitCount (sL 2 (Int32.toNatClampNeg x2_4))) (va_cwS 1 hts gX3_standingCells_J6_bitCount_0f7a4 rfl rfl rfl (by decide +kernel) ⟨Nat.le_of_ble_eq_true rfl, Nat.le_of_ble_eq_true rfl⟩) (preS_of hE hA hS trivial) rfl rfl hl.1 rfl (lv_room (Nat.le_of_ble_eq_true rfl)) dX3_standingCells_19 ⟨Nat.zero_le _, Nat.zero_le _⟩) ?_
        refine lv_iadd hx hb dX3_standingCells_22 ?_
        refine lv_istore_n (lv' := [(1, .int (x1_4 + (m_J_bitCount (sL 2 (Int32.toNatClampNeg x2_4))))), (0, .ref (g 12)), (2, .int x2_4)]) hx hb dX3_standingCells_23 rfl hl (by decide) rfl (fun ls hl => ?_)
        refine lv_iinc (v := (x2_4 + 1)) (lv' := [(2, .int (x2_4 + 1)), (1, .int (x1_4 + (m_J_bitCount (sL 2 (Int32.toNatClampNeg x2_4))))), (0, .ref (g 12))]) hx hb dX3_standingCells_24 hl (k := 2) rfl rfl (by decide) rfl (fun ls hl => ?_)
        refine lv_goto (tgt := 4) hx hb dX3_standingCells_27 (by decide) ?_
        have := t_inc (x := x2_4) (by omega)
        rw [wl_some hM] at kk
        exact ih (x1_4 + (m_J_bitCount (sL 2 (Int32.toNatClampNeg x2_4)))) (x2_4 + 1) ls (by omega) (by omega) (lv_sub hl [2, 1, 0] rfl) kk
  have J_30 : ∀ (x1_30 : Int32) (ls : Array Slot), lv_has ls 3 [(1, .int x1_30)] → (m_L_standingCells sL) = b_L_standingCells_30 sL x1_30 → W p l e rm_L_standingCells s m args below meth c s.heap [] 0 0 Q (F0 m 30 ls []) := by
    intro x1_30 ls hl hM
    refine lv_iload_n hx hb dX3_standingCells_30 rfl (lv_at hl 0 rfl) ?_
    have hM : (m_L_standingCells sL) = (x1_30 : Int32) := hM
    exact hret _ _ ls (nr_i _) dX3_standingCells_31 hM.symm
  have hM : (m_L_standingCells sL) = (m_L_standingCells sL) := rfl
  refine lv_iconst (v := 0) hx hb dX3_standingCells_0 (by decide) ?_
  refine lv_istore_n (lv' := [(1, .int 0), (0, .ref (g 12))]) hx hb dX3_standingCells_1 rfl hl (by decide) rfl (fun ls hl => ?_)
  refine lv_iconst (v := 0) hx hb dX3_standingCells_2 (by decide) ?_
  refine lv_istore_n (lv' := [(2, .int 0), (1, .int 0), (0, .ref (g 12))]) hx hb dX3_standingCells_3 rfl hl (by decide) rfl (fun ls hl => ?_)
  have z2 := tl_0
  refine L_4 9 0 0 ls (by omega) (by omega) (lv_sub hl [2, 1, 0] rfl) (fun ls hl => ?_)
  exact J_30 (wl (g_L_standingCells_4 sL) 9 (0, 0)).1 ls (lv_sub hl [0] rfl) hM
abbrev rm_L_hitsToKeep : Room := { frames := 2, cells := 0, slots := 0, locals := 48 }
set_option maxHeartbeats 4000000 in
set_option maxRecDepth 100000 in
theorem K_L_hitsToKeep {l : Launch} {D : va_G} {cI : ClassId} {lo : Nat} {g : Nat → Nat} (hg : wI g 12 17 lo) (sL : St) (p1 : Int32) (p2 : Int32) (p3 : Int32) (h0 : okL sL) (h1 : 0 ≤ p1.toInt ∧ p1.toInt ≤ 7) : ROi l D cI lo yX3_hitsToKeep wsX3_hitsToKeep rm_L_hitsToKeep [.ref (g 12), .int p1, .int p2, .int p3] (fun H => va_P D vwCl (cellL cI g sL) H) (m_L_hitsToKeep sL p1 p2 p3) := by
  refine ofW_ROi (cc := cX3_hitsToKeep) (maxL := 8) (ty := .int) (by decide +kernel) rfl (Nat.le_of_ble_eq_true rfl) ?_
  intro p e s m args below meth c Q hx hb hml hown hts hE hP hret ls hl
  have hown : s.vm.findClass RX3 = some m.cls := hown
  have hPL := hP
  have hA : ∀ q : Nat, (fun _ : Nat => False) q → lo ≤ q := fun _ h => h.elim
  have hS : va_S (fun _ : Nat => False) s.heap s.heap [] := va_S.rf
  have hinL : ∀ w ∈ wsX30, w ∈ wsX3_hitsToKeep := fun w h => List.mem_cons_of_mem _ (List.mem_append_right _ h)
  have hl : lv_has ls 8 [(0, .ref (g 12)), (1, .int p1), (2, .int p2), (3, .int p3)] := hl
  have nh0 := okL_lin h0
  have C_6 : ∀ (n : Nat) (x4_6 : Int32) (x5_6 : Int32) (ls : Array Slot), 0 ≤ x5_6.toInt ∧ x5_6.toInt ≤ (sL 0 5).toInt → ((sL 0 5).toInt - x5_6.toInt).toNat < n → lv_has ls 8 [(0, .ref (g 12)), (1, .int p1), (2, .int p2), (3, .int p3), (4, .int x4_6), (5, .int x5_6)] → (m_L_hitsToKeep sL p1 p2 p3) = wc (g_L_hitsToKeep_6 sL p1 p2 p3) 0 n (x4_6, x5_6) → W p l e rm_L_hitsToKeep s m args below meth c s.heap [] 0 0 Q (F0 m 6 ls []) := by
    intro n
    induction n with
    | zero =>
      intro x4_6 x5_6 ls i6_0 hn6 hl hO
      exact absurd hn6 (Nat.not_lt_zero _)
    | succ n ih =>
      intro x4_6 x5_6 ls i6_0 hn6 hl hO
      have hM : (g_L_hitsToKeep_6 sL p1 p2 p3) (x4_6, x5_6) = (g_L_hitsToKeep_6 sL p1 p2 p3) (x4_6, x5_6) := rfl
      refine lv_iload hx hb dX3_hitsToKeep_6 (lv_at hl 5 rfl) ?_
      refine lv_aload_n hx hb dX3_hitsToKeep_8 rfl (lv_at hl 0 rfl) ?_
      refine va_get (D := D) (ci := 3) (v := .int (sL 0 5)) (C := RX3) (T := TX3) (N := 7) hx hb hts hinL hown hE.1 hPL 0 rfl rfl 5 (by decide) (hts (.fieldLink RX3 32 "WallStones$Wall" "rows" "I") (List.mem_of_getElem? (i := 1) rfl)) (fun _ h9 => h9) rfl dX3_hitsToKeep_9 ?_
      refine lv_icmp_ge (tgt := 147) hx hb dX3_hitsToKeep_12 (by decide) (fun c_1 => ?_) (fun c_1 => ?_)
      · have hM := hM.trans (if_pos c_1)
        have t_1 := le_t c_1
        refine lv_iload hx hb dX3_hitsToKeep_147 (lv_at hl 4 rfl) ?_
        have hM := hO.trans (wc_inr hM)
        have hM : (m_L_hitsToKeep sL p1 p2 p3) = (x4_6 : Int32) := hM
        exact hret _ _ ls (nr_i _) dX3_hitsToKeep_149 hM.symm
      · have hM := hM.trans (if_neg c_1)
        have t_1 := nle_t c_1
        refine lv_iload hx hb dX3_hitsToKeep_15 (lv_at hl 5 rfl) ?_
        refine lv_if_le (tgt := 35) hx hb dX3_hitsToKeep_17 (by decide) (fun c_2 => ?_) (fun c_2 => ?_)
        · have hM := hM.trans (if_pos c_2)
          have t_2 := le_t c_2
          rw [tl_0] at t_2
          refine lv_iconst (v := 0) hx hb dX3_hitsToKeep_35 (by decide) ?_
          refine lv_istore (lv' := [(6, .int 0), (0, .ref (g 12)), (1, .int p1), (2, .int p2), (3, .int p3), (4, .int x4_6), (5, .int x5_6)]) hx hb dX3_hitsToKeep_36 hl (by decide) rfl (fun ls hl => ?_)
          refine lv_iload hx hb dX3_hitsToKeep_38 (lv_at hl 0 rfl) ?_
          refine lv_if_eq (tgt := 61) hx hb dX3_hitsToKeep_40 (by decide) (fun _ => ?_) (fun c => absurd (by decide) c)
          refine lv_iconst (v := 0) hx hb dX3_hitsToKeep_61 (by decide) ?_
          refine lv_istore (lv' := [(7, .int 0), (6, .int 0), (0, .ref (g 12)), (1, .int p1), (2, .int p2), (3, .int p3), (4, .int x4_6), (5, .int x5_6)]) hx hb dX3_hitsToKeep_62 hl (by decide) rfl (fun ls hl => ?_)
          refine lv_iload_n hx hb dX3_hitsToKeep_64 rfl (lv_at hl 4 rfl) ?_
          refine lv_iload hx hb dX3_hitsToKeep_65 (lv_at hl 7 rfl) ?_
          refine runS_i (va_runS (As := [.int p2, .int x5_6]) (rest := []) ⟨hx, hb, hml, hown, hts⟩ (K_L_holds p2 x5_6) (va_cwS 2 hts gX3_hitsToKeep_X3_holds rfl rfl rfl (by decide +kernel) ⟨Nat.le_of_ble_eq_true rfl, Nat.le_of_ble_eq_true rfl⟩) (preS_of hE hA hS trivial) rfl rfl hl.1 rfl (lv_room (Nat.le_of_ble_eq_true rfl)) dX3_hitsToKeep_67 ⟨Nat.zero_le _, Nat.zero_le _⟩) ?_
          refine lv_if_eq (tgt := 81) hx hb dX3_hitsToKeep_70 (by decide) (fun c_3 => ?_) (fun c_3 => ?_)
          · have hM := hM.trans (if_pos c_3)
            have t_3 := eq_t c_3
            rw [tl_0] at t_3
            refine lv_aload_n hx hb dX3_hitsToKeep_81 rfl (lv_at hl 2 rfl) ?_
            refine va_get (D := D) (ci := 3) (v := .ref (g 14)) (C := RX3) (T := TX3) (N := 7) hx hb hts hinL hown hE.1 hPL 0 rfl rfl 1 (by decide) (hts (.fieldLink RX3 15 "WallStones$Wall" "standing" "[I") (List.mem_of_getElem? (i := 4) rfl)) (fun _ h9 => h9) rfl dX3_hitsToKeep_82 ?_
            refine lv_iload_n hx hb dX3_hitsToKeep_85 rfl (lv_at hl 3 rfl) ?_
            refine va_iald hx hb hE.1 hPL 2 0 rfl rfl (vp_in_iff.mpr (by omega)) dX3_hitsToKeep_86 ?_
            refine W.eq (g2 := F0 m 87 ls [.int (sL 2 (Int32.toNatClampNeg p1))]) rfl ?_
            refine lv_iload hx hb dX3_hitsToKeep_87 (lv_at hl 7 rfl) ?_
            refine runS_i (va_runS (As := [.int (sL 2 (Int32.toNatClampNeg p1)), .int x5_6]) (rest := []) ⟨hx, hb, hml, hown, hts⟩ (K_L_holds (sL 2 (Int32.toNatClampNeg p1)) x5_6) (va_cwS 2 hts gX3_hitsToKeep_X3_holds rfl rfl rfl (by decide +kernel) ⟨Nat.le_of_ble_eq_true rfl, Nat.le_of_ble_eq_true rfl⟩) (preS_of hE hA hS trivial) rfl rfl hl.1 rfl (lv_room (Nat.le_of_ble_eq_true rfl)) dX3_hitsToKeep_89 ⟨Nat.zero_le _, Nat.zero_le _⟩) ?_
            refine lv_if_eq (tgt := 141) hx hb dX3_hitsToKeep_92 (by decide) (fun c_4 => ?_) (fun c_4 => ?_)
            · have hM := hM.trans (if_pos c_4)
              have t_4 := eq_t c_4
              rw [tl_0] at t_4
              refine lv_iinc (v := (x5_6 + 1)) (lv' := [(5, .int (x5_6 + 1)), (7, .int 0), (6, .int 0), (0, .ref (g 12)), (1, .int p1), (2, .int p2), (3, .int p3), (4, .int x4_6)]) hx hb dX3_hitsToKeep_141 hl (k := 7) rfl rfl (by decide) rfl (fun ls hl => ?_)
              refine lv_goto (tgt := 6) hx hb dX3_hitsToKeep_144 (by decide) ?_
              have := t_inc (x := x5_6) (by omega)
              exact ih x4_6 (x5_6 + 1) ls (by omega) (by omega) (lv_sub hl [3, 4, 5, 6, 7, 0] rfl) (hO.trans (wc_inl (f := (g_L_hitsToKeep_6 sL p1 p2 p3)) (s := (x4_6, x5_6)) (t := (x4_6, (x5_6 + 1))) hM))
            · have hM := hM.trans (if_neg c_4)
              have t_4 := ne_t c_4
              rw [tl_0] at t_4
              refine lv_iload_n hx hb dX3_hitsToKeep_95 rfl (lv_at hl 4 rfl) ?_
              refine lv_iload hx hb dX3_hitsToKeep_96 (lv_at hl 7 rfl) ?_
              refine runS_i (va_runS (As := [.int p2, .int x5_6]) (rest := []) ⟨hx, hb, hml, hown, hts⟩ (K_L_holds p2 x5_6) (va_cwS 2 hts gX3_hitsToKeep_X3_holds rfl rfl rfl (by decide +kernel) ⟨Nat.le_of_ble_eq_true rfl, Nat.le_of_ble_eq_true rfl⟩) (preS_of hE hA hS trivial) rfl rfl hl.1 rfl (lv_room (Nat.le_of_ble_eq_true rfl)) dX3_hitsToKeep_98 ⟨Nat.zero_le _, Nat.zero_le _⟩) ?_
              refine lv_if_ne (tgt := 141) hx hb dX3_hitsToKeep_101 (by decide) (fun c_5 => ?_) (fun c_5 => ?_)
              · have hM := hM.trans (if_neg c_5)
                have t_5 := ne_t c_5
                rw [tl_0] at t_5
                refine lv_iinc (v := (x5_6 + 1)) (lv' := [(5, .int (x5_6 + 1)), (7, .int 0), (6, .int 0), (0, .ref (g 12)), (1, .int p1), (2, .int p2), (3, .int p3), (4, .int x4_6)]) hx hb dX3_hitsToKeep_141 hl (k := 7) rfl rfl (by decide) rfl (fun ls hl => ?_)
                refine lv_goto (tgt := 6) hx hb dX3_hitsToKeep_144 (by decide) ?_
                have := t_inc (x := x5_6) (by omega)
                exact ih x4_6 (x5_6 + 1) ls (by omega) (by omega) (lv_sub hl [3, 4, 5, 6, 7, 0] rfl) (hO.trans (wc_inl (f := (g_L_hitsToKeep_6 sL p1 p2 p3)) (s := (x4_6, x5_6)) (t := (x4_6, (x5_6 + 1))) hM))
              · have hM := hM.trans (if_pos c_5)
                have t_5 := eq_t c_5
                rw [tl_0] at t_5
                refine lv_iload hx hb dX3_hitsToKeep_104 (lv_at hl 0 rfl) ?_
                refine lv_if_ne (tgt := 141) hx hb dX3_hitsToKeep_106 (by decide) (fun c => absurd (by decide) c) (fun _ => ?_)
                refine lv_iload hx hb dX3_hitsToKeep_109 (lv_at hl 6 rfl) ?_
                refine lv_iload hx hb dX3_hitsToKeep_111 (lv_at hl 1 rfl) ?_
                refine lv_if_eq (tgt := 120) hx hb dX3_hitsToKeep_113 (by decide) (fun _ => ?_) (fun c => absurd (by decide) c)
                refine lv_aload_n hx hb dX3_hitsToKeep_120 rfl (lv_at hl 2 rfl) ?_
                refine va_get (D := D) (ci := 3) (v := .ref (g 13)) (C := RX3) (T := TX3) (N := 7) hx hb hts hinL hown hE.1 hPL 0 rfl rfl 0 (by decide) (hts (.fieldLink RX3 11 "WallStones$Wall" "strengths" "[I") (List.mem_of_getElem? (i := 5) rfl)) (fun _ h9 => h9) rfl dX3_hitsToKeep_121 ?_
                refine lv_iload_n hx hb dX3_hitsToKeep_124 rfl (lv_at hl 3 rfl) ?_
                refine lv_iload hx hb dX3_hitsToKeep_125 (lv_at hl 7 rfl) ?_
                refine runS_i (va_runS (As := [.int p1, .int x5_6]) (rest := [.ref (g 13), .int x4_6]) ⟨hx, hb, hml, hown, hts⟩ (K_L_place p1 x5_6) (va_cwS 2 hts gX3_hitsToKeep_X3_place rfl rfl rfl (by decide +kernel) ⟨Nat.le_of_ble_eq_true rfl, Nat.le_of_ble_eq_true rfl⟩) (preS_of hE hA hS trivial) rfl rfl hl.1 rfl (lv_room (Nat.le_of_ble_eq_true rfl)) dX3_hitsToKeep_127 ⟨Nat.zero_le _, Nat.zero_le _⟩) ?_
                have w6 : (m_L_place p1 x5_6).toInt = p1.toInt * 6 + x5_6.toInt := place_t (by first | omega | decide)
                refine va_iald hx hb hE.1 hPL 1 0 rfl rfl (vp_in_iff.mpr (by omega)) dX3_hitsToKeep_130 ?_
                refine W.eq (g2 := F0 m 131 ls [.int (sL 1 (Int32.toNatClampNeg (m_L_place p1 x5_6))), .int x4_6]) rfl ?_
                refine lv_i2l (v := (Int32.toInt64 (sL 1 (Int32.toNatClampNeg (m_L_place p1 x5_6))))) hx hb dX3_hitsToKeep_131 rfl ?_
                refine lv_iload_n hx hb dX3_hitsToKeep_132 rfl (lv_at hl 5 rfl) ?_
                refine lv_i2l (v := (Int32.toInt64 p3)) hx hb dX3_hitsToKeep_133 rfl ?_
                refine runS_l (va_runSN (As := [.long (Int32.toInt64 (sL 1 (Int32.toNatClampNeg (m_L_place p1 x5_6)))), .long (Int32.toInt64 p3)]) (rest := [.int x4_6]) ⟨hx, hb, hml, hown, hts⟩ (K_T_up (Int32.toInt64 (sL 1 (Int32.toNatClampNeg (m_L_place p1 x5_6)))) (Int32.toInt64 p3)) ⟨va_cnB 2 hts gX3_hitsToKeep_X4_up_n83 rfl rfl rfl hE.2.1.2.2.2.2.2.2.2.2.1 (hts (.initialized RX4) (List.mem_of_getElem? (i := 14) rfl)) (by decide +kernel) ⟨Nat.le_of_ble_eq_true rfl, Nat.le_of_ble_eq_true rfl⟩, (hts (.static yX4_up) (List.mem_of_getElem? (i := 13) rfl)), trivial⟩ (preS_of hE hA hS trivial) rfl rfl hl.1 rfl (lv_room (Nat.le_of_ble_eq_true rfl)) dX3_hitsToKeep_134 ⟨Nat.zero_le _, Nat.zero_le _⟩) ?_
                refine lv_l2i (v := (Int64.toInt32 (m_T_up (Int32.toInt64 (sL 1 (Int32.toNatClampNeg (m_L_place p1 x5_6)))) (Int32.toInt64 p3)))) hx hb dX3_hitsToKeep_137 rfl ?_
                refine lv_iadd hx hb dX3_hitsToKeep_138 ?_
                refine lv_istore (lv' := [(4, .int (x4_6 + (Int64.toInt32 (m_T_up (Int32.toInt64 (sL 1 (Int32.toNatClampNeg (m_L_place p1 x5_6)))) (Int32.toInt64 p3))))), (7, .int 0), (6, .int 0), (0, .ref (g 12)), (1, .int p1), (2, .int p2), (3, .int p3), (5, .int x5_6)]) hx hb dX3_hitsToKeep_139 hl (by decide) rfl (fun ls hl => ?_)
                refine lv_iinc (v := (x5_6 + 1)) (lv' := [(5, .int (x5_6 + 1)), (4, .int (x4_6 + (Int64.toInt32 (m_T_up (Int32.toInt64 (sL 1 (Int32.toNatClampNeg (m_L_place p1 x5_6)))) (Int32.toInt64 p3))))), (7, .int 0), (6, .int 0), (0, .ref (g 12)), (1, .int p1), (2, .int p2), (3, .int p3)]) hx hb dX3_hitsToKeep_141 hl (k := 7) rfl rfl (by decide) rfl (fun ls hl => ?_)
                refine lv_goto (tgt := 6) hx hb dX3_hitsToKeep_144 (by decide) ?_
                have := t_inc (x := x5_6) (by omega)
                exact ih (x4_6 + (Int64.toInt32 (m_T_up (Int32.toInt64 (sL 1 (Int32.toNatClampNeg (m_L_place p1 x5_6)))) (Int32.toInt64 p3)))) (x5_6 + 1) ls (by omega) (by omega) (lv_sub hl [4, 5, 6, 7, 1, 0] rfl) (hO.trans (wc_inl (f := (g_L_hitsToKeep_6 sL p1 p2 p3)) (s := (x4_6, x5_6)) (t := ((x4_6 + (Int64.toInt32 (m_T_up (Int32.toInt64 (sL 1 (Int32.toNatClampNeg (m_L_place p1 x5_6)))) (Int32.toInt64 p3)))), (x5_6 + 1))) hM))
          · have hM := hM.trans (if_neg c_3)
            have t_3 := ne_t c_3
            rw [tl_0] at t_3
            refine lv_iload hx hb dX3_hitsToKeep_73 (lv_at hl 0 rfl) ?_
            refine lv_if_eq (tgt := 81) hx hb dX3_hitsToKeep_75 (by decide) (fun _ => ?_) (fun c => absurd (by decide) c)
            refine lv_aload_n hx hb dX3_hitsToKeep_81 rfl (lv_at hl 2 rfl) ?_
            refine va_get (D := D) (ci := 3) (v := .ref (g 14)) (C := RX3) (T := TX3) (N := 7) hx hb hts hinL hown hE.1 hPL 0 rfl rfl 1 (by decide) (hts (.fieldLink RX3 15 "WallStones$Wall" "standing" "[I") (List.mem_of_getElem? (i := 4) rfl)) (fun _ h9 => h9) rfl dX3_hitsToKeep_82 ?_
            refine lv_iload_n hx hb dX3_hitsToKeep_85 rfl (lv_at hl 3 rfl) ?_
            refine va_iald hx hb hE.1 hPL 2 0 rfl rfl (vp_in_iff.mpr (by omega)) dX3_hitsToKeep_86 ?_
            refine W.eq (g2 := F0 m 87 ls [.int (sL 2 (Int32.toNatClampNeg p1))]) rfl ?_
            refine lv_iload hx hb dX3_hitsToKeep_87 (lv_at hl 7 rfl) ?_
            refine runS_i (va_runS (As := [.int (sL 2 (Int32.toNatClampNeg p1)), .int x5_6]) (rest := []) ⟨hx, hb, hml, hown, hts⟩ (K_L_holds (sL 2 (Int32.toNatClampNeg p1)) x5_6) (va_cwS 2 hts gX3_hitsToKeep_X3_holds rfl rfl rfl (by decide +kernel) ⟨Nat.le_of_ble_eq_true rfl, Nat.le_of_ble_eq_true rfl⟩) (preS_of hE hA hS trivial) rfl rfl hl.1 rfl (lv_room (Nat.le_of_ble_eq_true rfl)) dX3_hitsToKeep_89 ⟨Nat.zero_le _, Nat.zero_le _⟩) ?_
            refine lv_if_eq (tgt := 141) hx hb dX3_hitsToKeep_92 (by decide) (fun c_7 => ?_) (fun c_7 => ?_)
            · have hM := hM.trans (if_pos c_7)
              have t_7 := eq_t c_7
              rw [tl_0] at t_7
              refine lv_iinc (v := (x5_6 + 1)) (lv' := [(5, .int (x5_6 + 1)), (7, .int 0), (6, .int 0), (0, .ref (g 12)), (1, .int p1), (2, .int p2), (3, .int p3), (4, .int x4_6)]) hx hb dX3_hitsToKeep_141 hl (k := 7) rfl rfl (by decide) rfl (fun ls hl => ?_)
              refine lv_goto (tgt := 6) hx hb dX3_hitsToKeep_144 (by decide) ?_
              have := t_inc (x := x5_6) (by omega)
              exact ih x4_6 (x5_6 + 1) ls (by omega) (by omega) (lv_sub hl [3, 4, 5, 6, 7, 0] rfl) (hO.trans (wc_inl (f := (g_L_hitsToKeep_6 sL p1 p2 p3)) (s := (x4_6, x5_6)) (t := (x4_6, (x5_6 + 1))) hM))
            · have hM := hM.trans (if_neg c_7)
              have t_7 := ne_t c_7
              rw [tl_0] at t_7
              refine lv_iload_n hx hb dX3_hitsToKeep_95 rfl (lv_at hl 4 rfl) ?_
              refine lv_iload hx hb dX3_hitsToKeep_96 (lv_at hl 7 rfl) ?_
              refine runS_i (va_runS (As := [.int p2, .int x5_6]) (rest := []) ⟨hx, hb, hml, hown, hts⟩ (K_L_holds p2 x5_6) (va_cwS 2 hts gX3_hitsToKeep_X3_holds rfl rfl rfl (by decide +kernel) ⟨Nat.le_of_ble_eq_true rfl, Nat.le_of_ble_eq_true rfl⟩) (preS_of hE hA hS trivial) rfl rfl hl.1 rfl (lv_room (Nat.le_of_ble_eq_true rfl)) dX3_hitsToKeep_98 ⟨Nat.zero_le _, Nat.zero_le _⟩) ?_
              refine lv_if_ne (tgt := 141) hx hb dX3_hitsToKeep_101 (by decide) (fun c_8 => ?_) (fun c_8 => ?_)
              · have hM := hM.trans (if_neg c_8)
                have t_8 := ne_t c_8
                rw [tl_0] at t_8
                refine lv_iinc (v := (x5_6 + 1)) (lv' := [(5, .int (x5_6 + 1)), (7, .int 0), (6, .int 0), (0, .ref (g 12)), (1, .int p1), (2, .int p2), (3, .int p3), (4, .int x4_6)]) hx hb dX3_hitsToKeep_141 hl (k := 7) rfl rfl (by decide) rfl (fun ls hl => ?_)
                refine lv_goto (tgt := 6) hx hb dX3_hitsToKeep_144 (by decide) ?_
                have := t_inc (x := x5_6) (by omega)
                exact ih x4_6 (x5_6 + 1) ls (by omega) (by omega) (lv_sub hl [3, 4, 5, 6, 7, 0] rfl) (hO.trans (wc_inl (f := (g_L_hitsToKeep_6 sL p1 p2 p3)) (s := (x4_6, x5_6)) (t := (x4_6, (x5_6 + 1))) hM))
              · have hM := hM.trans (if_pos c_8)
                have t_8 := eq_t c_8
                rw [tl_0] at t_8
                refine lv_iload hx hb dX3_hitsToKeep_104 (lv_at hl 0 rfl) ?_
                refine lv_if_ne (tgt := 141) hx hb dX3_hitsToKeep_106 (by decide) (fun c => absurd (by decide) c) (fun _ => ?_)
                refine lv_iload hx hb dX3_hitsToKeep_109 (lv_at hl 6 rfl) ?_
                refine lv_iload hx hb dX3_hitsToKeep_111 (lv_at hl 1 rfl) ?_
                refine lv_if_eq (tgt := 120) hx hb dX3_hitsToKeep_113 (by decide) (fun _ => ?_) (fun c => absurd (by decide) c)
                refine lv_aload_n hx hb dX3_hitsToKeep_120 rfl (lv_at hl 2 rfl) ?_
                refine va_get (D := D) (ci := 3) (v := .ref (g 13)) (C := RX3) (T := TX3) (N := 7) hx hb hts hinL hown hE.1 hPL 0 rfl rfl 0 (by decide) (hts (.fieldLink RX3 11 "WallStones$Wall" "strengths" "[I") (List.mem_of_getElem? (i := 5) rfl)) (fun _ h9 => h9) rfl dX3_hitsToKeep_121 ?_
                refine lv_iload_n hx hb dX3_hitsToKeep_124 rfl (lv_at hl 3 rfl) ?_
                refine lv_iload hx hb dX3_hitsToKeep_125 (lv_at hl 7 rfl) ?_
                refine runS_i (va_runS (As := [.int p1, .int x5_6]) (rest := [.ref (g 13), .int x4_6]) ⟨hx, hb, hml, hown, hts⟩ (K_L_place p1 x5_6) (va_cwS 2 hts gX3_hitsToKeep_X3_place rfl rfl rfl (by decide +kernel) ⟨Nat.le_of_ble_eq_true rfl, Nat.le_of_ble_eq_true rfl⟩) (preS_of hE hA hS trivial) rfl rfl hl.1 rfl (lv_room (Nat.le_of_ble_eq_true rfl)) dX3_hitsToKeep_127 ⟨Nat.zero_le _, Nat.zero_le _⟩) ?_
                have w9 : (m_L_place p1 x5_6).toInt = p1.toInt * 6 + x5_6.toInt := place_t (by first | omega | decide)
                refine va_iald hx hb hE.1 hPL 1 0 rfl rfl (vp_in_iff.mpr (by omega)) dX3_hitsToKeep_130 ?_
                refine W.eq (g2 := F0 m 131 ls [.int (sL 1 (Int32.toNatClampNeg (m_L_place p1 x5_6))), .int x4_6]) rfl ?_
                refine lv_i2l (v := (Int32.toInt64 (sL 1 (Int32.toNatClampNeg (m_L_place p1 x5_6))))) hx hb dX3_hitsToKeep_131 rfl ?_
                refine lv_iload_n hx hb dX3_hitsToKeep_132 rfl (lv_at hl 5 rfl) ?_
                refine lv_i2l (v := (Int32.toInt64 p3)) hx hb dX3_hitsToKeep_133 rfl ?_
                refine runS_l (va_runSN (As := [.long (Int32.toInt64 (sL 1 (Int32.toNatClampNeg (m_L_place p1 x5_6)))), .long (Int32.toInt64 p3)]) (rest := [.int x4_6]) ⟨hx, hb, hml, hown, hts⟩ (K_T_up (Int32.toInt64 (sL 1 (Int32.toNatClampNeg (m_L_place p1 x5_6)))) (Int32.toInt64 p3)) ⟨va_cnB 2 hts gX3_hitsToKeep_X4_up_n83 rfl rfl rfl hE.2.1.2.2.2.2.2.2.2.2.1 (hts (.initialized RX4) (List.mem_of_getElem? (i := 14) rfl)) (by decide +kernel) ⟨Nat.le_of_ble_eq_true rfl, Nat.le_of_ble_eq_true rfl⟩, (hts (.static yX4_up) (List.mem_of_getElem? (i := 13) rfl)), trivial⟩ (preS_of hE hA hS trivial) rfl rfl hl.1 rfl (lv_room (Nat.le_of_ble_eq_true rfl)) dX3_hitsToKeep_134 ⟨Nat.zero_le _, Nat.zero_le _⟩) ?_
                refine lv_l2i (v := (Int64.toInt32 (m_T_up (Int32.toInt64 (sL 1 (Int32.toNatClampNeg (m_L_place p1 x5_6)))) (Int32.toInt64 p3)))) hx hb dX3_hitsToKeep_137 rfl ?_
                refine lv_iadd hx hb dX3_hitsToKeep_138 ?_
                refine lv_istore (lv' := [(4, .int (x4_6 + (Int64.toInt32 (m_T_up (Int32.toInt64 (sL 1 (Int32.toNatClampNeg (m_L_place p1 x5_6)))) (Int32.toInt64 p3))))), (7, .int 0), (6, .int 0), (0, .ref (g 12)), (1, .int p1), (2, .int p2), (3, .int p3), (5, .int x5_6)]) hx hb dX3_hitsToKeep_139 hl (by decide) rfl (fun ls hl => ?_)
                refine lv_iinc (v := (x5_6 + 1)) (lv' := [(5, .int (x5_6 + 1)), (4, .int (x4_6 + (Int64.toInt32 (m_T_up (Int32.toInt64 (sL 1 (Int32.toNatClampNeg (m_L_place p1 x5_6)))) (Int32.toInt64 p3))))), (7, .int 0), (6, .int 0), (0, .ref (g 12)), (1, .int p1), (2, .int p2), (3, .int p3)]) hx hb dX3_hitsToKeep_141 hl (k := 7) rfl rfl (by decide) rfl (fun ls hl => ?_)
                refine lv_goto (tgt := 6) hx hb dX3_hitsToKeep_144 (by decide) ?_
                have := t_inc (x := x5_6) (by omega)
                exact ih (x4_6 + (Int64.toInt32 (m_T_up (Int32.toInt64 (sL 1 (Int32.toNatClampNeg (m_L_place p1 x5_6)))) (Int32.toInt64 p3)))) (x5_6 + 1) ls (by omega) (by omega) (lv_sub hl [4, 5, 6, 7, 1, 0] rfl) (hO.trans (wc_inl (f := (g_L_hitsToKeep_6 sL p1 p2 p3)) (s := (x4_6, x5_6)) (t := ((x4_6 + (Int64.toInt32 (m_T_up (Int32.toInt64 (sL 1 (Int32.toNatClampNeg (m_L_place p1 x5_6)))) (Int32.toInt64 p3)))), (x5_6 + 1))) hM))
        · have hM := hM.trans (if_neg c_2)
          have t_2 := nle_t c_2
          rw [tl_0] at t_2
          refine lv_iload_n hx hb dX3_hitsToKeep_20 rfl (lv_at hl 2 rfl) ?_
          refine lv_iload hx hb dX3_hitsToKeep_21 (lv_at hl 5 rfl) ?_
          refine lv_iconst (v := 1) hx hb dX3_hitsToKeep_23 (by decide) ?_
          refine lv_isub hx hb dX3_hitsToKeep_24 ?_
          refine runS_i (va_runS (As := [.int p2, .int (x5_6 - 1)]) (rest := []) ⟨hx, hb, hml, hown, hts⟩ (K_L_holds p2 (x5_6 - 1)) (va_cwS 2 hts gX3_hitsToKeep_X3_holds rfl rfl rfl (by decide +kernel) ⟨Nat.le_of_ble_eq_true rfl, Nat.le_of_ble_eq_true rfl⟩) (preS_of hE hA hS trivial) rfl rfl hl.1 rfl (lv_room (Nat.le_of_ble_eq_true rfl)) dX3_hitsToKeep_25 ⟨Nat.zero_le _, Nat.zero_le _⟩) ?_
          refine lv_if_ne (tgt := 35) hx hb dX3_hitsToKeep_28 (by decide) (fun c_10 => ?_) (fun c_10 => ?_)
          · have hM := hM.trans (if_neg c_10)
            have t_10 := ne_t c_10
            rw [tl_0] at t_10
            refine lv_iconst (v := 0) hx hb dX3_hitsToKeep_35 (by decide) ?_
            refine lv_istore (lv' := [(6, .int 0), (0, .ref (g 12)), (1, .int p1), (2, .int p2), (3, .int p3), (4, .int x4_6), (5, .int x5_6)]) hx hb dX3_hitsToKeep_36 hl (by decide) rfl (fun ls hl => ?_)
            refine lv_iload hx hb dX3_hitsToKeep_38 (lv_at hl 0 rfl) ?_
            refine lv_if_eq (tgt := 61) hx hb dX3_hitsToKeep_40 (by decide) (fun _ => ?_) (fun c => absurd (by decide) c)
            refine lv_iconst (v := 0) hx hb dX3_hitsToKeep_61 (by decide) ?_
            refine lv_istore (lv' := [(7, .int 0), (6, .int 0), (0, .ref (g 12)), (1, .int p1), (2, .int p2), (3, .int p3), (4, .int x4_6), (5, .int x5_6)]) hx hb dX3_hitsToKeep_62 hl (by decide) rfl (fun ls hl => ?_)
            refine lv_iload_n hx hb dX3_hitsToKeep_64 rfl (lv_at hl 4 rfl) ?_
            refine lv_iload hx hb dX3_hitsToKeep_65 (lv_at hl 7 rfl) ?_
            refine runS_i (va_runS (As := [.int p2, .int x5_6]) (rest := []) ⟨hx, hb, hml, hown, hts⟩ (K_L_holds p2 x5_6) (va_cwS 2 hts gX3_hitsToKeep_X3_holds rfl rfl rfl (by decide +kernel) ⟨Nat.le_of_ble_eq_true rfl, Nat.le_of_ble_eq_true rfl⟩) (preS_of hE hA hS trivial) rfl rfl hl.1 rfl (lv_room (Nat.le_of_ble_eq_true rfl)) dX3_hitsToKeep_67 ⟨Nat.zero_le _, Nat.zero_le _⟩) ?_
            refine lv_if_eq (tgt := 81) hx hb dX3_hitsToKeep_70 (by decide) (fun c_11 => ?_) (fun c_11 => ?_)
            · have hM := hM.trans (if_pos c_11)
              have t_11 := eq_t c_11
              rw [tl_0] at t_11
              refine lv_aload_n hx hb dX3_hitsToKeep_81 rfl (lv_at hl 2 rfl) ?_
              refine va_get (D := D) (ci := 3) (v := .ref (g 14)) (C := RX3) (T := TX3) (N := 7) hx hb hts hinL hown hE.1 hPL 0 rfl rfl 1 (by decide) (hts (.fieldLink RX3 15 "WallStones$Wall" "standing" "[I") (List.mem_of_getElem? (i := 4) rfl)) (fun _ h9 => h9) rfl dX3_hitsToKeep_82 ?_
              refine lv_iload_n hx hb dX3_hitsToKeep_85 rfl (lv_at hl 3 rfl) ?_
              refine va_iald hx hb hE.1 hPL 2 0 rfl rfl (vp_in_iff.mpr (by omega)) dX3_hitsToKeep_86 ?_
              refine W.eq (g2 := F0 m 87 ls [.int (sL 2 (Int32.toNatClampNeg p1))]) rfl ?_
              refine lv_iload hx hb dX3_hitsToKeep_87 (lv_at hl 7 rfl) ?_
              refine runS_i (va_runS (As := [.int (sL 2 (Int32.toNatClampNeg p1)), .int x5_6]) (rest := []) ⟨hx, hb, hml, hown, hts⟩ (K_L_holds (sL 2 (Int32.toNatClampNeg p1)) x5_6) (va_cwS 2 hts gX3_hitsToKeep_X3_holds rfl rfl rfl (by decide +kernel) ⟨Nat.le_of_ble_eq_true rfl, Nat.le_of_ble_eq_true rfl⟩) (preS_of hE hA hS trivial) rfl rfl hl.1 rfl (lv_room (Nat.le_of_ble_eq_true rfl)) dX3_hitsToKeep_89 ⟨Nat.zero_le _, Nat.zero_le _⟩) ?_
              refine lv_if_eq (tgt := 141) hx hb dX3_hitsToKeep_92 (by decide) (fun c_12 => ?_) (fun c_12 => ?_)
              · have hM := hM.trans (if_pos c_12)
                have t_12 := eq_t c_12
                rw [tl_0] at t_12
                refine lv_iinc (v := (x5_6 + 1)) (lv' := [(5, .int (x5_6 + 1)), (7, .int 0), (6, .int 0), (0, .ref (g 12)), (1, .int p1), (2, .int p2), (3, .int p3), (4, .int x4_6)]) hx hb dX3_hitsToKeep_141 hl (k := 7) rfl rfl (by decide) rfl (fun ls hl => ?_)
                refine lv_goto (tgt := 6) hx hb dX3_hitsToKeep_144 (by decide) ?_
                have := t_inc (x := x5_6) (by omega)
                exact ih x4_6 (x5_6 + 1) ls (by omega) (by omega) (lv_sub hl [3, 4, 5, 6, 7, 0] rfl) (hO.trans (wc_inl (f := (g_L_hitsToKeep_6 sL p1 p2 p3)) (s := (x4_6, x5_6)) (t := (x4_6, (x5_6 + 1))) hM))
              · have hM := hM.trans (if_neg c_12)
                have t_12 := ne_t c_12
                rw [tl_0] at t_12
                refine lv_iload_n hx hb dX3_hitsToKeep_95 rfl (lv_at hl 4 rfl) ?_
                refine lv_iload hx hb dX3_hitsToKeep_96 (lv_at hl 7 rfl) ?_
                refine runS_i (va_runS (As := [.int p2, .int x5_6]) (rest := []) ⟨hx, hb, hml, hown, hts⟩ (K_L_holds p2 x5_6) (va_cwS 2 hts gX3_hitsToKeep_X3_holds rfl rfl rfl (by decide +kernel) ⟨Nat.le_of_ble_eq_true rfl, Nat.le_of_ble_eq_true rfl⟩) (preS_of hE hA hS trivial) rfl rfl hl.1 rfl (lv_room (Nat.le_of_ble_eq_true rfl)) dX3_hitsToKeep_98 ⟨Nat.zero_le _, Nat.zero_le _⟩) ?_
                refine lv_if_ne (tgt := 141) hx hb dX3_hitsToKeep_101 (by decide) (fun c_13 => ?_) (fun c_13 => ?_)
                · have hM := hM.trans (if_neg c_13)
                  have t_13 := ne_t c_13
                  rw [tl_0] at t_13
                  refine lv_iinc (v := (x5_6 + 1)) (lv' := [(5, .int (x5_6 + 1)), (7, .int 0), (6, .int 0), (0, .ref (g 12)), (1, .int p1), (2, .int p2), (3, .int p3), (4, .int x4_6)]) hx hb dX3_hitsToKeep_141 hl (k := 7) rfl rfl (by decide) rfl (fun ls hl => ?_)
                  refine lv_goto (tgt := 6) hx hb dX3_hitsToKeep_144 (by decide) ?_
                  have := t_inc (x := x5_6) (by omega)
                  exact ih x4_6 (x5_6 + 1) ls (by omega) (by omega) (lv_sub hl [3, 4, 5, 6, 7, 0] rfl) (hO.trans (wc_inl (f := (g_L_hitsToKeep_6 sL p1 p2 p3)) (s := (x4_6, x5_6)) (t := (x4_6, (x5_6 + 1))) hM))
                · have hM := hM.trans (if_pos c_13)
                  have t_13 := eq_t c_13
                  rw [tl_0] at t_13
                  refine lv_iload hx hb dX3_hitsToKeep_104 (lv_at hl 0 rfl) ?_
                  refine lv_if_ne (tgt := 141) hx hb dX3_hitsToKeep_106 (by decide) (fun c => absurd (by decide) c) (fun _ => ?_)
                  refine lv_iload hx hb dX3_hitsToKeep_109 (lv_at hl 6 rfl) ?_
                  refine lv_iload hx hb dX3_hitsToKeep_111 (lv_at hl 1 rfl) ?_
                  refine lv_if_eq (tgt := 120) hx hb dX3_hitsToKeep_113 (by decide) (fun _ => ?_) (fun c => absurd (by decide) c)
                  refine lv_aload_n hx hb dX3_hitsToKeep_120 rfl (lv_at hl 2 rfl) ?_
                  refine va_get (D := D) (ci := 3) (v := .ref (g 13)) (C := RX3) (T := TX3) (N := 7) hx hb hts hinL hown hE.1 hPL 0 rfl rfl 0 (by decide) (hts (.fieldLink RX3 11 "WallStones$Wall" "strengths" "[I") (List.mem_of_getElem? (i := 5) rfl)) (fun _ h9 => h9) rfl dX3_hitsToKeep_121 ?_
                  refine lv_iload_n hx hb dX3_hitsToKeep_124 rfl (lv_at hl 3 rfl) ?_
                  refine lv_iload hx hb dX3_hitsToKeep_125 (lv_at hl 7 rfl) ?_
                  refine runS_i (va_runS (As := [.int p1, .int x5_6]) (rest := [.ref (g 13), .int x4_6]) ⟨hx, hb, hml, hown, hts⟩ (K_L_place p1 x5_6) (va_cwS 2 hts gX3_hitsToKeep_X3_place rfl rfl rfl (by decide +kernel) ⟨Nat.le_of_ble_eq_true rfl, Nat.le_of_ble_eq_true rfl⟩) (preS_of hE hA hS trivial) rfl rfl hl.1 rfl (lv_room (Nat.le_of_ble_eq_true rfl)) dX3_hitsToKeep_127 ⟨Nat.zero_le _, Nat.zero_le _⟩) ?_
                  have w14 : (m_L_place p1 x5_6).toInt = p1.toInt * 6 + x5_6.toInt := place_t (by first | omega | decide)
                  refine va_iald hx hb hE.1 hPL 1 0 rfl rfl (vp_in_iff.mpr (by omega)) dX3_hitsToKeep_130 ?_
                  refine W.eq (g2 := F0 m 131 ls [.int (sL 1 (Int32.toNatClampNeg (m_L_place p1 x5_6))), .int x4_6]) rfl ?_
                  refine lv_i2l (v := (Int32.toInt64 (sL 1 (Int32.toNatClampNeg (m_L_place p1 x5_6))))) hx hb dX3_hitsToKeep_131 rfl ?_
                  refine lv_iload_n hx hb dX3_hitsToKeep_132 rfl (lv_at hl 5 rfl) ?_
                  refine lv_i2l (v := (Int32.toInt64 p3)) hx hb dX3_hitsToKeep_133 rfl ?_
                  refine runS_l (va_runSN (As := [.long (Int32.toInt64 (sL 1 (Int32.toNatClampNeg (m_L_place p1 x5_6)))), .long (Int32.toInt64 p3)]) (rest := [.int x4_6]) ⟨hx, hb, hml, hown, hts⟩ (K_T_up (Int32.toInt64 (sL 1 (Int32.toNatClampNeg (m_L_place p1 x5_6)))) (Int32.toInt64 p3)) ⟨va_cnB 2 hts gX3_hitsToKeep_X4_up_n83 rfl rfl rfl hE.2.1.2.2.2.2.2.2.2.2.1 (hts (.initialized RX4) (List.mem_of_getElem? (i := 14) rfl)) (by decide +kernel) ⟨Nat.le_of_ble_eq_true rfl, Nat.le_of_ble_eq_true rfl⟩, (hts (.static yX4_up) (List.mem_of_getElem? (i := 13) rfl)), trivial⟩ (preS_of hE hA hS trivial) rfl rfl hl.1 rfl (lv_room (Nat.le_of_ble_eq_true rfl)) dX3_hitsToKeep_134 ⟨Nat.zero_le _, Nat.zero_le _⟩) ?_
                  refine lv_l2i (v := (Int64.toInt32 (m_T_up (Int32.toInt64 (sL 1 (Int32.toNatClampNeg (m_L_place p1 x5_6)))) (Int32.toInt64 p3)))) hx hb dX3_hitsToKeep_137 rfl ?_
                  refine lv_iadd hx hb dX3_hitsToKeep_138 ?_
                  refine lv_istore (lv' := [(4, .int (x4_6 + (Int64.toInt32 (m_T_up (Int32.toInt64 (sL 1 (Int32.toNatClampNeg (m_L_place p1 x5_6)))) (Int32.toInt64 p3))))), (7, .int 0), (6, .int 0), (0, .ref (g 12)), (1, .int p1), (2, .int p2), (3, .int p3), (5, .int x5_6)]) hx hb dX3_hitsToKeep_139 hl (by decide) rfl (fun ls hl => ?_)
                  refine lv_iinc (v := (x5_6 + 1)) (lv' := [(5, .int (x5_6 + 1)), (4, .int (x4_6 + (Int64.toInt32 (m_T_up (Int32.toInt64 (sL 1 (Int32.toNatClampNeg (m_L_place p1 x5_6)))) (Int32.toInt64 p3))))), (7, .int 0), (6, .int 0), (0, .ref (g 12)), (1, .int p1), (2, .int p2), (3, .int p3)]) hx hb dX3_hitsToKeep_141 hl (k := 7) rfl rfl (by decide) rfl (fun ls hl => ?_)
                  refine lv_goto (tgt := 6) hx hb dX3_hitsToKeep_144 (by decide) ?_
                  have := t_inc (x := x5_6) (by omega)
                  exact ih (x4_6 + (Int64.toInt32 (m_T_up (Int32.toInt64 (sL 1 (Int32.toNatClampNeg (m_L_place p1 x5_6)))) (Int32.toInt64 p3)))) (x5_6 + 1) ls (by omega) (by omega) (lv_sub hl [4, 5, 6, 7, 1, 0] rfl) (hO.trans (wc_inl (f := (g_L_hitsToKeep_6 sL p1 p2 p3)) (s := (x4_6, x5_6)) (t := ((x4_6 + (Int64.toInt32 (m_T_up (Int32.toInt64 (sL 1 (Int32.toNatClampNeg (m_L_place p1 x5_6)))) (Int32.toInt64 p3)))), (x5_6 + 1))) hM))
            · have hM := hM.trans (if_neg c_11)
              have t_11 := ne_t c_11
              rw [tl_0] at t_11
              refine lv_iload hx hb dX3_hitsToKeep_73 (lv_at hl 0 rfl) ?_
              refine lv_if_eq (tgt := 81) hx hb dX3_hitsToKeep_75 (by decide) (fun _ => ?_) (fun c => absurd (by decide) c)
              refine lv_aload_n hx hb dX3_hitsToKeep_81 rfl (lv_at hl 2 rfl) ?_
              refine va_get (D := D) (ci := 3) (v := .ref (g 14)) (C := RX3) (T := TX3) (N := 7) hx hb hts hinL hown hE.1 hPL 0 rfl rfl 1 (by decide) (hts (.fieldLink RX3 15 "WallStones$Wall" "standing" "[I") (List.mem_of_getElem? (i := 4) rfl)) (fun _ h9 => h9) rfl dX3_hitsToKeep_82 ?_
              refine lv_iload_n hx hb dX3_hitsToKeep_85 rfl (lv_at hl 3 rfl) ?_
              refine va_iald hx hb hE.1 hPL 2 0 rfl rfl (vp_in_iff.mpr (by omega)) dX3_hitsToKeep_86 ?_
              refine W.eq (g2 := F0 m 87 ls [.int (sL 2 (Int32.toNatClampNeg p1))]) rfl ?_
              refine lv_iload hx hb dX3_hitsToKeep_87 (lv_at hl 7 rfl) ?_
              refine runS_i (va_runS (As := [.int (sL 2 (Int32.toNatClampNeg p1)), .int x5_6]) (rest := []) ⟨hx, hb, hml, hown, hts⟩ (K_L_holds (sL 2 (Int32.toNatClampNeg p1)) x5_6) (va_cwS 2 hts gX3_hitsToKeep_X3_holds rfl rfl rfl (by decide +kernel) ⟨Nat.le_of_ble_eq_true rfl, Nat.le_of_ble_eq_true rfl⟩) (preS_of hE hA hS trivial) rfl rfl hl.1 rfl (lv_room (Nat.le_of_ble_eq_true rfl)) dX3_hitsToKeep_89 ⟨Nat.zero_le _, Nat.zero_le _⟩) ?_
              refine lv_if_eq (tgt := 141) hx hb dX3_hitsToKeep_92 (by decide) (fun c_15 => ?_) (fun c_15 => ?_)
              · have hM := hM.trans (if_pos c_15)
                have t_15 := eq_t c_15
                rw [tl_0] at t_15
                refine lv_iinc (v := (x5_6 + 1)) (lv' := [(5, .int (x5_6 + 1)), (7, .int 0), (6, .int 0), (0, .ref (g 12)), (1, .int p1), (2, .int p2), (3, .int p3), (4, .int x4_6)]) hx hb dX3_hitsToKeep_141 hl (k := 7) rfl rfl (by decide) rfl (fun ls hl => ?_)
                refine lv_goto (tgt := 6) hx hb dX3_hitsToKeep_144 (by decide) ?_
                have := t_inc (x := x5_6) (by omega)
                exact ih x4_6 (x5_6 + 1) ls (by omega) (by omega) (lv_sub hl [3, 4, 5, 6, 7, 0] rfl) (hO.trans (wc_inl (f := (g_L_hitsToKeep_6 sL p1 p2 p3)) (s := (x4_6, x5_6)) (t := (x4_6, (x5_6 + 1))) hM))
              · have hM := hM.trans (if_neg c_15)
                have t_15 := ne_t c_15
                rw [tl_0] at t_15
                refine lv_iload_n hx hb dX3_hitsToKeep_95 rfl (lv_at hl 4 rfl) ?_
                refine lv_iload hx hb dX3_hitsToKeep_96 (lv_at hl 7 rfl) ?_
                refine runS_i (va_runS (As := [.int p2, .int x5_6]) (rest := []) ⟨hx, hb, hml, hown, hts⟩ (K_L_holds p2 x5_6) (va_cwS 2 hts gX3_hitsToKeep_X3_holds rfl rfl rfl (by decide +kernel) ⟨Nat.le_of_ble_eq_true rfl, Nat.le_of_ble_eq_true rfl⟩) (preS_of hE hA hS trivial) rfl rfl hl.1 rfl (lv_room (Nat.le_of_ble_eq_true rfl)) dX3_hitsToKeep_98 ⟨Nat.zero_le _, Nat.zero_le _⟩) ?_
                refine lv_if_ne (tgt := 141) hx hb dX3_hitsToKeep_101 (by decide) (fun c_16 => ?_) (fun c_16 => ?_)
                · have hM := hM.trans (if_neg c_16)
                  have t_16 := ne_t c_16
                  rw [tl_0] at t_16
                  refine lv_iinc (v := (x5_6 + 1)) (lv' := [(5, .int (x5_6 + 1)), (7, .int 0), (6, .int 0), (0, .ref (g 12)), (1, .int p1), (2, .int p2), (3, .int p3), (4, .int x4_6)]) hx hb dX3_hitsToKeep_141 hl (k := 7) rfl rfl (by decide) rfl (fun ls hl => ?_)
                  refine lv_goto (tgt := 6) hx hb dX3_hitsToKeep_144 (by decide) ?_
                  have := t_inc (x := x5_6) (by omega)
                  exact ih x4_6 (x5_6 + 1) ls (by omega) (by omega) (lv_sub hl [3, 4, 5, 6, 7, 0] rfl) (hO.trans (wc_inl (f := (g_L_hitsToKeep_6 sL p1 p2 p3)) (s := (x4_6, x5_6)) (t := (x4_6, (x5_6 + 1))) hM))
                · have hM := hM.trans (if_pos c_16)
                  have t_16 := eq_t c_16
                  rw [tl_0] at t_16
                  refine lv_iload hx hb dX3_hitsToKeep_104 (lv_at hl 0 rfl) ?_
                  refine lv_if_ne (tgt := 141) hx hb dX3_hitsToKeep_106 (by decide) (fun c => absurd (by decide) c) (fun _ => ?_)
                  refine lv_iload hx hb dX3_hitsToKeep_109 (lv_at hl 6 rfl) ?_
                  refine lv_iload hx hb dX3_hitsToKeep_111 (lv_at hl 1 rfl) ?_
                  refine lv_if_eq (tgt := 120) hx hb dX3_hitsToKeep_113 (by decide) (fun _ => ?_) (fun c => absurd (by decide) c)
                  refine lv_aload_n hx hb dX3_hitsToKeep_120 rfl (lv_at hl 2 rfl) ?_
                  refine va_get (D := D) (ci := 3) (v := .ref (g 13)) (C := RX3) (T := TX3) (N := 7) hx hb hts hinL hown hE.1 hPL 0 rfl rfl 0 (by decide) (hts (.fieldLink RX3 11 "WallStones$Wall" "strengths" "[I") (List.mem_of_getElem? (i := 5) rfl)) (fun _ h9 => h9) rfl dX3_hitsToKeep_121 ?_
                  refine lv_iload_n hx hb dX3_hitsToKeep_124 rfl (lv_at hl 3 rfl) ?_
                  refine lv_iload hx hb dX3_hitsToKeep_125 (lv_at hl 7 rfl) ?_
                  refine runS_i (va_runS (As := [.int p1, .int x5_6]) (rest := [.ref (g 13), .int x4_6]) ⟨hx, hb, hml, hown, hts⟩ (K_L_place p1 x5_6) (va_cwS 2 hts gX3_hitsToKeep_X3_place rfl rfl rfl (by decide +kernel) ⟨Nat.le_of_ble_eq_true rfl, Nat.le_of_ble_eq_true rfl⟩) (preS_of hE hA hS trivial) rfl rfl hl.1 rfl (lv_room (Nat.le_of_ble_eq_true rfl)) dX3_hitsToKeep_127 ⟨Nat.zero_le _, Nat.zero_le _⟩) ?_
                  have w17 : (m_L_place p1 x5_6).toInt = p1.toInt * 6 + x5_6.toInt := place_t (by first | omega | decide)
                  refine va_iald hx hb hE.1 hPL 1 0 rfl rfl (vp_in_iff.mpr (by omega)) dX3_hitsToKeep_130 ?_
                  refine W.eq (g2 := F0 m 131 ls [.int (sL 1 (Int32.toNatClampNeg (m_L_place p1 x5_6))), .int x4_6]) rfl ?_
                  refine lv_i2l (v := (Int32.toInt64 (sL 1 (Int32.toNatClampNeg (m_L_place p1 x5_6))))) hx hb dX3_hitsToKeep_131 rfl ?_
                  refine lv_iload_n hx hb dX3_hitsToKeep_132 rfl (lv_at hl 5 rfl) ?_
                  refine lv_i2l (v := (Int32.toInt64 p3)) hx hb dX3_hitsToKeep_133 rfl ?_
                  refine runS_l (va_runSN (As := [.long (Int32.toInt64 (sL 1 (Int32.toNatClampNeg (m_L_place p1 x5_6)))), .long (Int32.toInt64 p3)]) (rest := [.int x4_6]) ⟨hx, hb, hml, hown, hts⟩ (K_T_up (Int32.toInt64 (sL 1 (Int32.toNatClampNeg (m_L_place p1 x5_6)))) (Int32.toInt64 p3)) ⟨va_cnB 2 hts gX3_hitsToKeep_X4_up_n83 rfl rfl rfl hE.2.1.2.2.2.2.2.2.2.2.1 (hts (.initialized RX4) (List.mem_of_getElem? (i := 14) rfl)) (by decide +kernel) ⟨Nat.le_of_ble_eq_true rfl, Nat.le_of_ble_eq_true rfl⟩, (hts (.static yX4_up) (List.mem_of_getElem? (i := 13) rfl)), trivial⟩ (preS_of hE hA hS trivial) rfl rfl hl.1 rfl (lv_room (Nat.le_of_ble_eq_true rfl)) dX3_hitsToKeep_134 ⟨Nat.zero_le _, Nat.zero_le _⟩) ?_
                  refine lv_l2i (v := (Int64.toInt32 (m_T_up (Int32.toInt64 (sL 1 (Int32.toNatClampNeg (m_L_place p1 x5_6)))) (Int32.toInt64 p3)))) hx hb dX3_hitsToKeep_137 rfl ?_
                  refine lv_iadd hx hb dX3_hitsToKeep_138 ?_
                  refine lv_istore (lv' := [(4, .int (x4_6 + (Int64.toInt32 (m_T_up (Int32.toInt64 (sL 1 (Int32.toNatClampNeg (m_L_place p1 x5_6)))) (Int32.toInt64 p3))))), (7, .int 0), (6, .int 0), (0, .ref (g 12)), (1, .int p1), (2, .int p2), (3, .int p3), (5, .int x5_6)]) hx hb dX3_hitsToKeep_139 hl (by decide) rfl (fun ls hl => ?_)
                  refine lv_iinc (v := (x5_6 + 1)) (lv' := [(5, .int (x5_6 + 1)), (4, .int (x4_6 + (Int64.toInt32 (m_T_up (Int32.toInt64 (sL 1 (Int32.toNatClampNeg (m_L_place p1 x5_6)))) (Int32.toInt64 p3))))), (7, .int 0), (6, .int 0), (0, .ref (g 12)), (1, .int p1), (2, .int p2), (3, .int p3)]) hx hb dX3_hitsToKeep_141 hl (k := 7) rfl rfl (by decide) rfl (fun ls hl => ?_)
                  refine lv_goto (tgt := 6) hx hb dX3_hitsToKeep_144 (by decide) ?_
                  have := t_inc (x := x5_6) (by omega)
                  exact ih (x4_6 + (Int64.toInt32 (m_T_up (Int32.toInt64 (sL 1 (Int32.toNatClampNeg (m_L_place p1 x5_6)))) (Int32.toInt64 p3)))) (x5_6 + 1) ls (by omega) (by omega) (lv_sub hl [4, 5, 6, 7, 1, 0] rfl) (hO.trans (wc_inl (f := (g_L_hitsToKeep_6 sL p1 p2 p3)) (s := (x4_6, x5_6)) (t := ((x4_6 + (Int64.toInt32 (m_T_up (Int32.toInt64 (sL 1 (Int32.toNatClampNeg (m_L_place p1 x5_6)))) (Int32.toInt64 p3)))), (x5_6 + 1))) hM))
          · have hM := hM.trans (if_pos c_10)
            have t_10 := eq_t c_10
            rw [tl_0] at t_10
            refine lv_iconst (v := 1) hx hb dX3_hitsToKeep_31 (by decide) ?_
            refine lv_goto (tgt := 36) hx hb dX3_hitsToKeep_32 (by decide) ?_
            refine lv_istore (lv' := [(6, .int 1), (0, .ref (g 12)), (1, .int p1), (2, .int p2), (3, .int p3), (4, .int x4_6), (5, .int x5_6)]) hx hb dX3_hitsToKeep_36 hl (by decide) rfl (fun ls hl => ?_)
            refine lv_iload hx hb dX3_hitsToKeep_38 (lv_at hl 0 rfl) ?_
            refine lv_if_eq (tgt := 61) hx hb dX3_hitsToKeep_40 (by decide) (fun c => absurd c (by decide)) (fun _ => ?_)
            refine lv_aload_n hx hb dX3_hitsToKeep_43 rfl (lv_at hl 1 rfl) ?_
            refine va_get (D := D) (ci := 3) (v := .ref (g 15)) (C := RX3) (T := TX3) (N := 7) hx hb hts hinL hown hE.1 hPL 0 rfl rfl 2 (by decide) (hts (.fieldLink RX3 18 "WallStones$Wall" "propped" "[I") (List.mem_of_getElem? (i := 2) rfl)) (fun _ h9 => h9) rfl dX3_hitsToKeep_44 ?_
            refine lv_iload_n hx hb dX3_hitsToKeep_47 rfl (lv_at hl 2 rfl) ?_
            refine va_iald hx hb hE.1 hPL 3 0 rfl rfl (vp_in_iff.mpr (by omega)) dX3_hitsToKeep_48 ?_
            refine W.eq (g2 := F0 m 49 ls [.int (sL 3 (Int32.toNatClampNeg p1))]) rfl ?_
            refine lv_iload hx hb dX3_hitsToKeep_49 (lv_at hl 6 rfl) ?_
            refine runS_i (va_runS (As := [.int (sL 3 (Int32.toNatClampNeg p1)), .int x5_6]) (rest := []) ⟨hx, hb, hml, hown, hts⟩ (K_L_holds (sL 3 (Int32.toNatClampNeg p1)) x5_6) (va_cwS 2 hts gX3_hitsToKeep_X3_holds rfl rfl rfl (by decide +kernel) ⟨Nat.le_of_ble_eq_true rfl, Nat.le_of_ble_eq_true rfl⟩) (preS_of hE hA hS trivial) rfl rfl hl.1 rfl (lv_room (Nat.le_of_ble_eq_true rfl)) dX3_hitsToKeep_51 ⟨Nat.zero_le _, Nat.zero_le _⟩) ?_
            refine lv_if_ne (tgt := 61) hx hb dX3_hitsToKeep_54 (by decide) (fun c_18 => ?_) (fun c_18 => ?_)
            · have hM := hM.trans (if_neg c_18)
              have t_18 := ne_t c_18
              rw [tl_0] at t_18
              refine lv_iconst (v := 0) hx hb dX3_hitsToKeep_61 (by decide) ?_
              refine lv_istore (lv' := [(7, .int 0), (6, .int 1), (0, .ref (g 12)), (1, .int p1), (2, .int p2), (3, .int p3), (4, .int x4_6), (5, .int x5_6)]) hx hb dX3_hitsToKeep_62 hl (by decide) rfl (fun ls hl => ?_)
              refine lv_iload_n hx hb dX3_hitsToKeep_64 rfl (lv_at hl 4 rfl) ?_
              refine lv_iload hx hb dX3_hitsToKeep_65 (lv_at hl 7 rfl) ?_
              refine runS_i (va_runS (As := [.int p2, .int x5_6]) (rest := []) ⟨hx, hb, hml, hown, hts⟩ (K_L_holds p2 x5_6) (va_cwS 2 hts gX3_hitsToKeep_X3_holds rfl rfl rfl (by decide +kernel) ⟨Nat.le_of_ble_eq_true rfl, Nat.le_of_ble_eq_true rfl⟩) (preS_of hE hA hS trivial) rfl rfl hl.1 rfl (lv_room (Nat.le_of_ble_eq_true rfl)) dX3_hitsToKeep_67 ⟨Nat.zero_le _, Nat.zero_le _⟩) ?_
              refine lv_if_eq (tgt := 81) hx hb dX3_hitsToKeep_70 (by decide) (fun c_19 => ?_) (fun c_19 => ?_)
              · have hM := hM.trans (if_pos c_19)
                have t_19 := eq_t c_19
                rw [tl_0] at t_19
                refine lv_aload_n hx hb dX3_hitsToKeep_81 rfl (lv_at hl 2 rfl) ?_
                refine va_get (D := D) (ci := 3) (v := .ref (g 14)) (C := RX3) (T := TX3) (N := 7) hx hb hts hinL hown hE.1 hPL 0 rfl rfl 1 (by decide) (hts (.fieldLink RX3 15 "WallStones$Wall" "standing" "[I") (List.mem_of_getElem? (i := 4) rfl)) (fun _ h9 => h9) rfl dX3_hitsToKeep_82 ?_
                refine lv_iload_n hx hb dX3_hitsToKeep_85 rfl (lv_at hl 3 rfl) ?_
                refine va_iald hx hb hE.1 hPL 2 0 rfl rfl (vp_in_iff.mpr (by omega)) dX3_hitsToKeep_86 ?_
                refine W.eq (g2 := F0 m 87 ls [.int (sL 2 (Int32.toNatClampNeg p1))]) rfl ?_
                refine lv_iload hx hb dX3_hitsToKeep_87 (lv_at hl 7 rfl) ?_
                refine runS_i (va_runS (As := [.int (sL 2 (Int32.toNatClampNeg p1)), .int x5_6]) (rest := []) ⟨hx, hb, hml, hown, hts⟩ (K_L_holds (sL 2 (Int32.toNatClampNeg p1)) x5_6) (va_cwS 2 hts gX3_hitsToKeep_X3_holds rfl rfl rfl (by decide +kernel) ⟨Nat.le_of_ble_eq_true rfl, Nat.le_of_ble_eq_true rfl⟩) (preS_of hE hA hS trivial) rfl rfl hl.1 rfl (lv_room (Nat.le_of_ble_eq_true rfl)) dX3_hitsToKeep_89 ⟨Nat.zero_le _, Nat.zero_le _⟩) ?_
                refine lv_if_eq (tgt := 141) hx hb dX3_hitsToKeep_92 (by decide) (fun c_20 => ?_) (fun c_20 => ?_)
                · have hM := hM.trans (if_pos c_20)
                  have t_20 := eq_t c_20
                  rw [tl_0] at t_20
                  refine lv_iinc (v := (x5_6 + 1)) (lv' := [(5, .int (x5_6 + 1)), (7, .int 0), (6, .int 1), (0, .ref (g 12)), (1, .int p1), (2, .int p2), (3, .int p3), (4, .int x4_6)]) hx hb dX3_hitsToKeep_141 hl (k := 7) rfl rfl (by decide) rfl (fun ls hl => ?_)
                  refine lv_goto (tgt := 6) hx hb dX3_hitsToKeep_144 (by decide) ?_
                  have := t_inc (x := x5_6) (by omega)
                  exact ih x4_6 (x5_6 + 1) ls (by omega) (by omega) (lv_sub hl [3, 4, 5, 6, 7, 0] rfl) (hO.trans (wc_inl (f := (g_L_hitsToKeep_6 sL p1 p2 p3)) (s := (x4_6, x5_6)) (t := (x4_6, (x5_6 + 1))) hM))
                · have hM := hM.trans (if_neg c_20)
                  have t_20 := ne_t c_20
                  rw [tl_0] at t_20
                  refine lv_iload_n hx hb dX3_hitsToKeep_95 rfl (lv_at hl 4 rfl) ?_
                  refine lv_iload hx hb dX3_hitsToKeep_96 (lv_at hl 7 rfl) ?_
                  refine runS_i (va_runS (As := [.int p2, .int x5_6]) (rest := []) ⟨hx, hb, hml, hown, hts⟩ (K_L_holds p2 x5_6) (va_cwS 2 hts gX3_hitsToKeep_X3_holds rfl rfl rfl (by decide +kernel) ⟨Nat.le_of_ble_eq_true rfl, Nat.le_of_ble_eq_true rfl⟩) (preS_of hE hA hS trivial) rfl rfl hl.1 rfl (lv_room (Nat.le_of_ble_eq_true rfl)) dX3_hitsToKeep_98 ⟨Nat.zero_le _, Nat.zero_le _⟩) ?_
                  refine lv_if_ne (tgt := 141) hx hb dX3_hitsToKeep_101 (by decide) (fun c_21 => ?_) (fun c_21 => ?_)
                  · have hM := hM.trans (if_neg c_21)
                    have t_21 := ne_t c_21
                    rw [tl_0] at t_21
                    refine lv_iinc (v := (x5_6 + 1)) (lv' := [(5, .int (x5_6 + 1)), (7, .int 0), (6, .int 1), (0, .ref (g 12)), (1, .int p1), (2, .int p2), (3, .int p3), (4, .int x4_6)]) hx hb dX3_hitsToKeep_141 hl (k := 7) rfl rfl (by decide) rfl (fun ls hl => ?_)
                    refine lv_goto (tgt := 6) hx hb dX3_hitsToKeep_144 (by decide) ?_
                    have := t_inc (x := x5_6) (by omega)
                    exact ih x4_6 (x5_6 + 1) ls (by omega) (by omega) (lv_sub hl [3, 4, 5, 6, 7, 0] rfl) (hO.trans (wc_inl (f := (g_L_hitsToKeep_6 sL p1 p2 p3)) (s := (x4_6, x5_6)) (t := (x4_6, (x5_6 + 1))) hM))
                  · have hM := hM.trans (if_pos c_21)
                    have t_21 := eq_t c_21
                    rw [tl_0] at t_21
                    refine lv_iload hx hb dX3_hitsToKeep_104 (lv_at hl 0 rfl) ?_
                    refine lv_if_ne (tgt := 141) hx hb dX3_hitsToKeep_106 (by decide) (fun c => absurd (by decide) c) (fun _ => ?_)
                    refine lv_iload hx hb dX3_hitsToKeep_109 (lv_at hl 6 rfl) ?_
                    refine lv_iload hx hb dX3_hitsToKeep_111 (lv_at hl 1 rfl) ?_
                    refine lv_if_eq (tgt := 120) hx hb dX3_hitsToKeep_113 (by decide) (fun c => absurd c (by decide)) (fun _ => ?_)
                    refine lv_iconst (v := 1) hx hb dX3_hitsToKeep_116 (by decide) ?_
                    refine lv_goto (tgt := 138) hx hb dX3_hitsToKeep_117 (by decide) ?_
                    refine lv_iadd hx hb dX3_hitsToKeep_138 ?_
                    refine lv_istore (lv' := [(4, .int (x4_6 + 1)), (7, .int 0), (6, .int 1), (0, .ref (g 12)), (1, .int p1), (2, .int p2), (3, .int p3), (5, .int x5_6)]) hx hb dX3_hitsToKeep_139 hl (by decide) rfl (fun ls hl => ?_)
                    refine lv_iinc (v := (x5_6 + 1)) (lv' := [(5, .int (x5_6 + 1)), (4, .int (x4_6 + 1)), (7, .int 0), (6, .int 1), (0, .ref (g 12)), (1, .int p1), (2, .int p2), (3, .int p3)]) hx hb dX3_hitsToKeep_141 hl (k := 7) rfl rfl (by decide) rfl (fun ls hl => ?_)
                    refine lv_goto (tgt := 6) hx hb dX3_hitsToKeep_144 (by decide) ?_
                    have := t_inc (x := x5_6) (by omega)
                    exact ih (x4_6 + 1) (x5_6 + 1) ls (by omega) (by omega) (lv_sub hl [4, 5, 6, 7, 1, 0] rfl) (hO.trans (wc_inl (f := (g_L_hitsToKeep_6 sL p1 p2 p3)) (s := (x4_6, x5_6)) (t := ((x4_6 + 1), (x5_6 + 1))) hM))
              · have hM := hM.trans (if_neg c_19)
                have t_19 := ne_t c_19
                rw [tl_0] at t_19
                refine lv_iload hx hb dX3_hitsToKeep_73 (lv_at hl 0 rfl) ?_
                refine lv_if_eq (tgt := 81) hx hb dX3_hitsToKeep_75 (by decide) (fun _ => ?_) (fun c => absurd (by decide) c)
                refine lv_aload_n hx hb dX3_hitsToKeep_81 rfl (lv_at hl 2 rfl) ?_
                refine va_get (D := D) (ci := 3) (v := .ref (g 14)) (C := RX3) (T := TX3) (N := 7) hx hb hts hinL hown hE.1 hPL 0 rfl rfl 1 (by decide) (hts (.fieldLink RX3 15 "WallStones$Wall" "standing" "[I") (List.mem_of_getElem? (i := 4) rfl)) (fun _ h9 => h9) rfl dX3_hitsToKeep_82 ?_
                refine lv_iload_n hx hb dX3_hitsToKeep_85 rfl (lv_at hl 3 rfl) ?_
                refine va_iald hx hb hE.1 hPL 2 0 rfl rfl (vp_in_iff.mpr (by omega)) dX3_hitsToKeep_86 ?_
                refine W.eq (g2 := F0 m 87 ls [.int (sL 2 (Int32.toNatClampNeg p1))]) rfl ?_
                refine lv_iload hx hb dX3_hitsToKeep_87 (lv_at hl 7 rfl) ?_
                refine runS_i (va_runS (As := [.int (sL 2 (Int32.toNatClampNeg p1)), .int x5_6]) (rest := []) ⟨hx, hb, hml, hown, hts⟩ (K_L_holds (sL 2 (Int32.toNatClampNeg p1)) x5_6) (va_cwS 2 hts gX3_hitsToKeep_X3_holds rfl rfl rfl (by decide +kernel) ⟨Nat.le_of_ble_eq_true rfl, Nat.le_of_ble_eq_true rfl⟩) (preS_of hE hA hS trivial) rfl rfl hl.1 rfl (lv_room (Nat.le_of_ble_eq_true rfl)) dX3_hitsToKeep_89 ⟨Nat.zero_le _, Nat.zero_le _⟩) ?_
                refine lv_if_eq (tgt := 141) hx hb dX3_hitsToKeep_92 (by decide) (fun c_22 => ?_) (fun c_22 => ?_)
                · have hM := hM.trans (if_pos c_22)
                  have t_22 := eq_t c_22
                  rw [tl_0] at t_22
                  refine lv_iinc (v := (x5_6 + 1)) (lv' := [(5, .int (x5_6 + 1)), (7, .int 0), (6, .int 1), (0, .ref (g 12)), (1, .int p1), (2, .int p2), (3, .int p3), (4, .int x4_6)]) hx hb dX3_hitsToKeep_141 hl (k := 7) rfl rfl (by decide) rfl (fun ls hl => ?_)
                  refine lv_goto (tgt := 6) hx hb dX3_hitsToKeep_144 (by decide) ?_
                  have := t_inc (x := x5_6) (by omega)
                  exact ih x4_6 (x5_6 + 1) ls (by omega) (by omega) (lv_sub hl [3, 4, 5, 6, 7, 0] rfl) (hO.trans (wc_inl (f := (g_L_hitsToKeep_6 sL p1 p2 p3)) (s := (x4_6, x5_6)) (t := (x4_6, (x5_6 + 1))) hM))
                · have hM := hM.trans (if_neg c_22)
                  have t_22 := ne_t c_22
                  rw [tl_0] at t_22
                  refine lv_iload_n hx hb dX3_hitsToKeep_95 rfl (lv_at hl 4 rfl) ?_
                  refine lv_iload hx hb dX3_hitsToKeep_96 (lv_at hl 7 rfl) ?_
                  refine runS_i (va_runS (As := [.int p2, .int x5_6]) (rest := []) ⟨hx, hb, hml, hown, hts⟩ (K_L_holds p2 x5_6) (va_cwS 2 hts gX3_hitsToKeep_X3_holds rfl rfl rfl (by decide +kernel) ⟨Nat.le_of_ble_eq_true rfl, Nat.le_of_ble_eq_true rfl⟩) (preS_of hE hA hS trivial) rfl rfl hl.1 rfl (lv_room (Nat.le_of_ble_eq_true rfl)) dX3_hitsToKeep_98 ⟨Nat.zero_le _, Nat.zero_le _⟩) ?_
                  refine lv_if_ne (tgt := 141) hx hb dX3_hitsToKeep_101 (by decide) (fun c_23 => ?_) (fun c_23 => ?_)
                  · have hM := hM.trans (if_neg c_23)
                    have t_23 := ne_t c_23
                    rw [tl_0] at t_23
                    refine lv_iinc (v := (x5_6 + 1)) (lv' := [(5, .int (x5_6 + 1)), (7, .int 0), (6, .int 1), (0, .ref (g 12)), (1, .int p1), (2, .int p2), (3, .int p3), (4, .int x4_6)]) hx hb dX3_hitsToKeep_141 hl (k := 7) rfl rfl (by decide) rfl (fun ls hl => ?_)
                    refine lv_goto (tgt := 6) hx hb dX3_hitsToKeep_144 (by decide) ?_
                    have := t_inc (x := x5_6) (by omega)
                    exact ih x4_6 (x5_6 + 1) ls (by omega) (by omega) (lv_sub hl [3, 4, 5, 6, 7, 0] rfl) (hO.trans (wc_inl (f := (g_L_hitsToKeep_6 sL p1 p2 p3)) (s := (x4_6, x5_6)) (t := (x4_6, (x5_6 + 1))) hM))
                  · have hM := hM.trans (if_pos c_23)
                    have t_23 := eq_t c_23
                    rw [tl_0] at t_23
                    refine lv_iload hx hb dX3_hitsToKeep_104 (lv_at hl 0 rfl) ?_
                    refine lv_if_ne (tgt := 141) hx hb dX3_hitsToKeep_106 (by decide) (fun c => absurd (by decide) c) (fun _ => ?_)
                    refine lv_iload hx hb dX3_hitsToKeep_109 (lv_at hl 6 rfl) ?_
                    refine lv_iload hx hb dX3_hitsToKeep_111 (lv_at hl 1 rfl) ?_
                    refine lv_if_eq (tgt := 120) hx hb dX3_hitsToKeep_113 (by decide) (fun c => absurd c (by decide)) (fun _ => ?_)
                    refine lv_iconst (v := 1) hx hb dX3_hitsToKeep_116 (by decide) ?_
                    refine lv_goto (tgt := 138) hx hb dX3_hitsToKeep_117 (by decide) ?_
                    refine lv_iadd hx hb dX3_hitsToKeep_138 ?_
                    refine lv_istore (lv' := [(4, .int (x4_6 + 1)), (7, .int 0), (6, .int 1), (0, .ref (g 12)), (1, .int p1), (2, .int p2), (3, .int p3), (5, .int x5_6)]) hx hb dX3_hitsToKeep_139 hl (by decide) rfl (fun ls hl => ?_)
                    refine lv_iinc (v := (x5_6 + 1)) (lv' := [(5, .int (x5_6 + 1)), (4, .int (x4_6 + 1)), (7, .int 0), (6, .int 1), (0, .ref (g 12)), (1, .int p1), (2, .int p2), (3, .int p3)]) hx hb dX3_hitsToKeep_141 hl (k := 7) rfl rfl (by decide) rfl (fun ls hl => ?_)
                    refine lv_goto (tgt := 6) hx hb dX3_hitsToKeep_144 (by decide) ?_
                    have := t_inc (x := x5_6) (by omega)
                    exact ih (x4_6 + 1) (x5_6 + 1) ls (by omega) (by omega) (lv_sub hl [4, 5, 6, 7, 1, 0] rfl) (hO.trans (wc_inl (f := (g_L_hitsToKeep_6 sL p1 p2 p3)) (s := (x4_6, x5_6)) (t := ((x4_6 + 1), (x5_6 + 1))) hM))
            · have hM := hM.trans (if_pos c_18)
              have t_18 := eq_t c_18
              rw [tl_0] at t_18
              refine lv_iconst (v := 1) hx hb dX3_hitsToKeep_57 (by decide) ?_
              refine lv_goto (tgt := 62) hx hb dX3_hitsToKeep_58 (by decide) ?_
              refine lv_istore (lv' := [(7, .int 1), (6, .int 1), (0, .ref (g 12)), (1, .int p1), (2, .int p2), (3, .int p3), (4, .int x4_6), (5, .int x5_6)]) hx hb dX3_hitsToKeep_62 hl (by decide) rfl (fun ls hl => ?_)
              refine lv_iload_n hx hb dX3_hitsToKeep_64 rfl (lv_at hl 4 rfl) ?_
              refine lv_iload hx hb dX3_hitsToKeep_65 (lv_at hl 7 rfl) ?_
              refine runS_i (va_runS (As := [.int p2, .int x5_6]) (rest := []) ⟨hx, hb, hml, hown, hts⟩ (K_L_holds p2 x5_6) (va_cwS 2 hts gX3_hitsToKeep_X3_holds rfl rfl rfl (by decide +kernel) ⟨Nat.le_of_ble_eq_true rfl, Nat.le_of_ble_eq_true rfl⟩) (preS_of hE hA hS trivial) rfl rfl hl.1 rfl (lv_room (Nat.le_of_ble_eq_true rfl)) dX3_hitsToKeep_67 ⟨Nat.zero_le _, Nat.zero_le _⟩) ?_
              refine lv_if_eq (tgt := 81) hx hb dX3_hitsToKeep_70 (by decide) (fun c_24 => ?_) (fun c_24 => ?_)
              · have hM := hM.trans (if_pos c_24)
                have t_24 := eq_t c_24
                rw [tl_0] at t_24
                refine lv_aload_n hx hb dX3_hitsToKeep_81 rfl (lv_at hl 2 rfl) ?_
                refine va_get (D := D) (ci := 3) (v := .ref (g 14)) (C := RX3) (T := TX3) (N := 7) hx hb hts hinL hown hE.1 hPL 0 rfl rfl 1 (by decide) (hts (.fieldLink RX3 15 "WallStones$Wall" "standing" "[I") (List.mem_of_getElem? (i := 4) rfl)) (fun _ h9 => h9) rfl dX3_hitsToKeep_82 ?_
                refine lv_iload_n hx hb dX3_hitsToKeep_85 rfl (lv_at hl 3 rfl) ?_
                refine va_iald hx hb hE.1 hPL 2 0 rfl rfl (vp_in_iff.mpr (by omega)) dX3_hitsToKeep_86 ?_
                refine W.eq (g2 := F0 m 87 ls [.int (sL 2 (Int32.toNatClampNeg p1))]) rfl ?_
                refine lv_iload hx hb dX3_hitsToKeep_87 (lv_at hl 7 rfl) ?_
                refine runS_i (va_runS (As := [.int (sL 2 (Int32.toNatClampNeg p1)), .int x5_6]) (rest := []) ⟨hx, hb, hml, hown, hts⟩ (K_L_holds (sL 2 (Int32.toNatClampNeg p1)) x5_6) (va_cwS 2 hts gX3_hitsToKeep_X3_holds rfl rfl rfl (by decide +kernel) ⟨Nat.le_of_ble_eq_true rfl, Nat.le_of_ble_eq_true rfl⟩) (preS_of hE hA hS trivial) rfl rfl hl.1 rfl (lv_room (Nat.le_of_ble_eq_true rfl)) dX3_hitsToKeep_89 ⟨Nat.zero_le _, Nat.zero_le _⟩) ?_
                refine lv_if_eq (tgt := 141) hx hb dX3_hitsToKeep_92 (by decide) (fun c_25 => ?_) (fun c_25 => ?_)
                · have hM := hM.trans (if_pos c_25)
                  have t_25 := eq_t c_25
                  rw [tl_0] at t_25
                  refine lv_iinc (v := (x5_6 + 1)) (lv' := [(5, .int (x5_6 + 1)), (7, .int 1), (6, .int 1), (0, .ref (g 12)), (1, .int p1), (2, .int p2), (3, .int p3), (4, .int x4_6)]) hx hb dX3_hitsToKeep_141 hl (k := 7) rfl rfl (by decide) rfl (fun ls hl => ?_)
                  refine lv_goto (tgt := 6) hx hb dX3_hitsToKeep_144 (by decide) ?_
                  have := t_inc (x := x5_6) (by omega)
                  exact ih x4_6 (x5_6 + 1) ls (by omega) (by omega) (lv_sub hl [3, 4, 5, 6, 7, 0] rfl) (hO.trans (wc_inl (f := (g_L_hitsToKeep_6 sL p1 p2 p3)) (s := (x4_6, x5_6)) (t := (x4_6, (x5_6 + 1))) hM))
                · have hM := hM.trans (if_neg c_25)
                  have t_25 := ne_t c_25
                  rw [tl_0] at t_25
                  refine lv_iload_n hx hb dX3_hitsToKeep_95 rfl (lv_at hl 4 rfl) ?_
                  refine lv_iload hx hb dX3_hitsToKeep_96 (lv_at hl 7 rfl) ?_
                  refine runS_i (va_runS (As := [.int p2, .int x5_6]) (rest := []) ⟨hx, hb, hml, hown, hts⟩ (K_L_holds p2 x5_6) (va_cwS 2 hts gX3_hitsToKeep_X3_holds rfl rfl rfl (by decide +kernel) ⟨Nat.le_of_ble_eq_true rfl, Nat.le_of_ble_eq_true rfl⟩) (preS_of hE hA hS trivial) rfl rfl hl.1 rfl (lv_room (Nat.le_of_ble_eq_true rfl)) dX3_hitsToKeep_98 ⟨Nat.zero_le _, Nat.zero_le _⟩) ?_
                  refine lv_if_ne (tgt := 141) hx hb dX3_hitsToKeep_101 (by decide) (fun c_26 => ?_) (fun c_26 => ?_)
                  · have hM := hM.trans (if_neg c_26)
                    have t_26 := ne_t c_26
                    rw [tl_0] at t_26
                    refine lv_iinc (v := (x5_6 + 1)) (lv' := [(5, .int (x5_6 + 1)), (7, .int 1), (6, .int 1), (0, .ref (g 12)), (1, .int p1), (2, .int p2), (3, .int p3), (4, .int x4_6)]) hx hb dX3_hitsToKeep_141 hl (k := 7) rfl rfl (by decide) rfl (fun ls hl => ?_)
                    refine lv_goto (tgt := 6) hx hb dX3_hitsToKeep_144 (by decide) ?_
                    have := t_inc (x := x5_6) (by omega)
                    exact ih x4_6 (x5_6 + 1) ls (by omega) (by omega) (lv_sub hl [3, 4, 5, 6, 7, 0] rfl) (hO.trans (wc_inl (f := (g_L_hitsToKeep_6 sL p1 p2 p3)) (s := (x4_6, x5_6)) (t := (x4_6, (x5_6 + 1))) hM))
                  · have hM := hM.trans (if_pos c_26)
                    have t_26 := eq_t c_26
                    rw [tl_0] at t_26
                    refine lv_iload hx hb dX3_hitsToKeep_104 (lv_at hl 0 rfl) ?_
                    refine lv_if_ne (tgt := 141) hx hb dX3_hitsToKeep_106 (by decide) (fun _ => ?_) (fun c => absurd c (by decide))
                    refine lv_iinc (v := (x5_6 + 1)) (lv' := [(5, .int (x5_6 + 1)), (7, .int 1), (6, .int 1), (0, .ref (g 12)), (1, .int p1), (2, .int p2), (3, .int p3), (4, .int x4_6)]) hx hb dX3_hitsToKeep_141 hl (k := 7) rfl rfl (by decide) rfl (fun ls hl => ?_)
                    refine lv_goto (tgt := 6) hx hb dX3_hitsToKeep_144 (by decide) ?_
                    have := t_inc (x := x5_6) (by omega)
                    exact ih x4_6 (x5_6 + 1) ls (by omega) (by omega) (lv_sub hl [3, 4, 5, 6, 7, 0] rfl) (hO.trans (wc_inl (f := (g_L_hitsToKeep_6 sL p1 p2 p3)) (s := (x4_6, x5_6)) (t := (x4_6, (x5_6 + 1))) hM))
              · have hM := hM.trans (if_neg c_24)
                have t_24 := ne_t c_24
                rw [tl_0] at t_24
                refine lv_iload hx hb dX3_hitsToKeep_73 (lv_at hl 0 rfl) ?_
                refine lv_if_eq (tgt := 81) hx hb dX3_hitsToKeep_75 (by decide) (fun c => absurd c (by decide)) (fun _ => ?_)
                refine lv_ldc (own := RX3) (index := 73) (v := 1000000) hx hb hown (hts (.constant RX3 73 (1000000)) (List.mem_of_getElem? (i := 3) rfl)) dX3_hitsToKeep_78 ?_
                have hM := hO.trans (wc_inr hM)
                have hM : (m_L_hitsToKeep sL p1 p2 p3) = (1000000 : Int32) := hM
                exact hret _ _ ls (nr_i _) dX3_hitsToKeep_80 hM.symm
  have hM : (m_L_hitsToKeep sL p1 p2 p3) = (m_L_hitsToKeep sL p1 p2 p3) := rfl
  refine lv_iconst (v := 0) hx hb dX3_hitsToKeep_0 (by decide) ?_
  refine lv_istore (lv' := [(4, .int 0), (0, .ref (g 12)), (1, .int p1), (2, .int p2), (3, .int p3)]) hx hb dX3_hitsToKeep_1 hl (by decide) rfl (fun ls hl => ?_)
  refine lv_iconst (v := 0) hx hb dX3_hitsToKeep_3 (by decide) ?_
  refine lv_istore (lv' := [(5, .int 0), (4, .int 0), (0, .ref (g 12)), (1, .int p1), (2, .int p2), (3, .int p3)]) hx hb dX3_hitsToKeep_4 hl (by decide) rfl (fun ls hl => ?_)
  have z27 := tl_0
  exact C_6 7 0 0 ls (by omega) (by omega) (lv_sub hl [2, 3, 4, 5, 1, 0] rfl) hM
abbrev rm_L_hitsToOpen : Room := { frames := 3, cells := 0, slots := 0, locals := 75 }
set_option maxHeartbeats 4000000 in
set_option maxRecDepth 100000 in
theorem K_L_hitsToOpen {l : Launch} {D : va_G} {cI : ClassId} {lo : Nat} {g : Nat → Nat} (hg : wI g 12 17 lo) (sL : St) (p1 : Int32) (p2 : Int32) (h0 : okL sL) : ROi l D cI lo yX3_hitsToOpen wsX3_hitsToOpen rm_L_hitsToOpen [.ref (g 12), .int p1, .int p2] (fun H => va_P D vwCl (cellL cI g sL) H) (m_L_hitsToOpen sL p1 p2) := by
  refine ofW_ROi (cc := cX3_hitsToOpen) (maxL := 6) (ty := .int) (by decide +kernel) rfl (Nat.le_of_ble_eq_true rfl) ?_
  intro p e s m args below meth c Q hx hb hml hown hts hE hP hret ls hl
  have hown : s.vm.findClass RX3 = some m.cls := hown
  have hPL := hP
  have hA : ∀ q : Nat, (fun _ : Nat => False) q → lo ≤ q := fun _ h => h.elim
  have hS : va_S (fun _ : Nat => False) s.heap s.heap [] := va_S.rf
  have hinL : ∀ w ∈ wsX30, w ∈ wsX3_hitsToOpen := fun w h => List.mem_cons_of_mem _ (List.mem_append_right _ h)
  have hl : lv_has ls 6 [(0, .ref (g 12)), (1, .int p1), (2, .int p2)] := hl
  have nh0 := okL_lin h0
  have hsh := okL_shl h0
  have hc1 := okL_c1 h0
  have L_22 : ∀ (n : Nat) (x3_22 : Int32) (x4_22 : Int32) (ls : Array Slot), 0 ≤ x4_22.toInt ∧ x4_22.toInt ≤ 64 → 0 ≤ p1.toInt ∧ p1.toInt ≤ 7 → (64 - x4_22.toInt).toNat < n → lv_has ls 6 [(0, .ref (g 12)), (1, .int p1), (2, .int p2), (3, .int x3_22), (4, .int x4_22)] → (∀ (ls : Array Slot), lv_has ls 6 [(3, .int (wl (g_L_hitsToOpen_22 sL p1 p2) n (x3_22, x4_22)).1)] → W p l e rm_L_hitsToOpen s m args below meth c s.heap [] 0 0 Q (F0 m 90 ls [])) → W p l e rm_L_hitsToOpen s m args below meth c s.heap [] 0 0 Q (F0 m 22 ls []) := by
    intro n
    induction n with
    | zero =>
      intro x3_22 x4_22 ls i22_0 i22_1 hn22 hl kk
      exact absurd hn22 (Nat.not_lt_zero _)
    | succ n ih =>
      intro x3_22 x4_22 ls i22_0 i22_1 hn22 hl kk
      have hM : (g_L_hitsToOpen_22 sL p1 p2) (x3_22, x4_22) = (g_L_hitsToOpen_22 sL p1 p2) (x3_22, x4_22) := rfl
      refine lv_iload hx hb dX3_hitsToOpen_22 (lv_at hl 4 rfl) ?_
      refine lv_iconst (v := 1) hx hb dX3_hitsToOpen_24 (by decide) ?_
      refine lv_aload_n hx hb dX3_hitsToOpen_25 rfl (lv_at hl 0 rfl) ?_
      refine va_get (D := D) (ci := 3) (v := .int (sL 0 5)) (C := RX3) (T := TX3) (N := 7) hx hb hts hinL hown hE.1 hPL 0 rfl rfl 5 (by decide) (hts (.fieldLink RX3 32 "WallStones$Wall" "rows" "I") (List.mem_of_getElem? (i := 3) rfl)) (fun _ h9 => h9) rfl dX3_hitsToOpen_26 ?_
      refine lv_ishl hx hb dX3_hitsToOpen_29 ?_
      refine lv_icmp_ge (tgt := 90) hx hb dX3_hitsToOpen_30 (by decide) (fun c_1 => ?_) (fun c_1 => ?_)
      · have hM := hM.trans (if_pos c_1)
        have t_1 := le_t c_1
        rw [wl_none hM] at kk
        exact kk ls (lv_sub hl [3] rfl)
      · have hM := hM.trans (if_neg c_1)
        have t_1 := nle_t c_1
        refine lv_iload hx hb dX3_hitsToOpen_33 (lv_at hl 4 rfl) ?_
        refine lv_aload_n hx hb dX3_hitsToOpen_35 rfl (lv_at hl 0 rfl) ?_
        refine va_get (D := D) (ci := 3) (v := .ref (g 14)) (C := RX3) (T := TX3) (N := 7) hx hb hts hinL hown hE.1 hPL 0 rfl rfl 1 (by decide) (hts (.fieldLink RX3 15 "WallStones$Wall" "standing" "[I") (List.mem_of_getElem? (i := 4) rfl)) (fun _ h9 => h9) rfl dX3_hitsToOpen_36 ?_
        refine lv_iload_n hx hb dX3_hitsToOpen_39 rfl (lv_at hl 1 rfl) ?_
        refine va_iald hx hb hE.1 hPL 2 0 rfl rfl (vp_in_iff.mpr (by omega)) dX3_hitsToOpen_40 ?_
        refine W.eq (g2 := F0 m 41 ls [.int (sL 2 (Int32.toNatClampNeg p1)), .int x4_22]) rfl ?_
        refine lv_iconst (v := (-1)) hx hb dX3_hitsToOpen_41 (by decide) ?_
        refine lv_ixor hx hb dX3_hitsToOpen_42 ?_
        refine lv_iand hx hb dX3_hitsToOpen_43 ?_
        refine lv_if_ne (tgt := 51) hx hb dX3_hitsToOpen_44 (by decide) (fun c_2 => ?_) (fun c_2 => ?_)
        · have hM := hM.trans (if_neg c_2)
          have t_2 := ne_t c_2
          rw [tl_0] at t_2
          refine lv_iconst (v := 0) hx hb dX3_hitsToOpen_51 (by decide) ?_
          refine lv_istore (lv' := [(5, .int 0), (0, .ref (g 12)), (1, .int p1), (2, .int p2), (3, .int x3_22), (4, .int x4_22)]) hx hb dX3_hitsToOpen_52 hl (by decide) rfl (fun ls hl => ?_)
          refine lv_iload hx hb dX3_hitsToOpen_54 (lv_at hl 0 rfl) ?_
          refine lv_if_eq (tgt := 84) hx hb dX3_hitsToOpen_56 (by decide) (fun _ => ?_) (fun c => absurd (by decide) c)
          refine lv_iinc (v := (x4_22 + 1)) (lv' := [(4, .int (x4_22 + 1)), (5, .int 0), (0, .ref (g 12)), (1, .int p1), (2, .int p2), (3, .int x3_22)]) hx hb dX3_hitsToOpen_84 hl (k := 5) rfl rfl (by decide) rfl (fun ls hl => ?_)
          refine lv_goto (tgt := 22) hx hb dX3_hitsToOpen_87 (by decide) ?_
          have := t_inc (x := x4_22) (by omega)
          rw [wl_some hM] at kk
          exact ih x3_22 (x4_22 + 1) ls (by omega) (by omega) (by omega) (lv_sub hl [2, 3, 4, 5, 0] rfl) kk
        · have hM := hM.trans (if_pos c_2)
          have t_2 := eq_t c_2
          rw [tl_0] at t_2
          refine lv_iconst (v := 1) hx hb dX3_hitsToOpen_47 (by decide) ?_
          refine lv_goto (tgt := 52) hx hb dX3_hitsToOpen_48 (by decide) ?_
          refine lv_istore (lv' := [(5, .int 1), (0, .ref (g 12)), (1, .int p1), (2, .int p2), (3, .int x3_22), (4, .int x4_22)]) hx hb dX3_hitsToOpen_52 hl (by decide) rfl (fun ls hl => ?_)
          refine lv_iload hx hb dX3_hitsToOpen_54 (lv_at hl 0 rfl) ?_
          refine lv_if_eq (tgt := 84) hx hb dX3_hitsToOpen_56 (by decide) (fun c => absurd c (by decide)) (fun _ => ?_)
          refine lv_iload hx hb dX3_hitsToOpen_59 (lv_at hl 5 rfl) ?_
          refine runS_i (va_runS (As := [.int x4_22]) (rest := []) ⟨hx, hb, hml, hown, hts⟩ (K_J_bitCount x4_22) (va_cwS 1 hts gX3_hitsToOpen_J6_bitCount_0f7a4 rfl rfl rfl (by decide +kernel) ⟨Nat.le_of_ble_eq_true rfl, Nat.le_of_ble_eq_true rfl⟩) (preS_of hE hA hS trivial) rfl rfl hl.1 rfl (lv_room (Nat.le_of_ble_eq_true rfl)) dX3_hitsToOpen_61 ⟨Nat.zero_le _, Nat.zero_le _⟩) ?_
          refine lv_aload_n hx hb dX3_hitsToOpen_64 rfl (lv_at hl 1 rfl) ?_
          refine va_get (D := D) (ci := 3) (v := .int (sL 0 6)) (C := RX3) (T := TX3) (N := 7) hx hb hts hinL hown hE.1 hPL 0 rfl rfl 6 (by decide) (hts (.fieldLink RX3 59 "WallStones$Wall" "levelNow" "I") (List.mem_of_getElem? (i := 5) rfl)) (fun _ h9 => h9) rfl dX3_hitsToOpen_65 ?_
          refine lv_icmp_gt (tgt := 84) hx hb dX3_hitsToOpen_68 (by decide) (fun c_3 => ?_) (fun c_3 => ?_)
          · have hM := hM.trans (if_pos c_3)
            have t_3 := lt_t c_3
            refine lv_iinc (v := (x4_22 + 1)) (lv' := [(4, .int (x4_22 + 1)), (5, .int 1), (0, .ref (g 12)), (1, .int p1), (2, .int p2), (3, .int x3_22)]) hx hb dX3_hitsToOpen_84 hl (k := 5) rfl rfl (by decide) rfl (fun ls hl => ?_)
            refine lv_goto (tgt := 22) hx hb dX3_hitsToOpen_87 (by decide) ?_
            have := t_inc (x := x4_22) (by omega)
            rw [wl_some hM] at kk
            exact ih x3_22 (x4_22 + 1) ls (by omega) (by omega) (by omega) (lv_sub hl [2, 3, 4, 5, 0] rfl) kk
          · have hM := hM.trans (if_neg c_3)
            have t_3 := nlt_t c_3
            refine lv_iload_n hx hb dX3_hitsToOpen_71 rfl (lv_at hl 4 rfl) ?_
            refine lv_aload_n hx hb dX3_hitsToOpen_72 rfl (lv_at hl 1 rfl) ?_
            refine lv_iload_n hx hb dX3_hitsToOpen_73 rfl (lv_at hl 2 rfl) ?_
            refine lv_iload hx hb dX3_hitsToOpen_74 (lv_at hl 5 rfl) ?_
            refine lv_iload_n hx hb dX3_hitsToOpen_76 rfl (lv_at hl 3 rfl) ?_
            refine runS_i (va_runV (As := [.int p1, .int x4_22, .int p2]) (rest := [.int x3_22]) ⟨hx, hb, hml, hown, hts⟩ (K_L_hitsToKeep hg sL p1 x4_22 p2 (by assumption) (by omega)) (cwV 3 hts gX3_hitsToOpen_X3_hitsToKeep rfl rfl rfl (by decide +kernel) ⟨Nat.le_of_ble_eq_true rfl, Nat.le_of_ble_eq_true rfl⟩) (preV_of hE hA hS hPL (va_recv hE.1 hPL (ci := 3) (q0 := 0) rfl rfl)) rfl rfl hl.1 rfl (lv_room (Nat.le_of_ble_eq_true rfl)) dX3_hitsToOpen_77 ⟨Nat.zero_le _, Nat.zero_le _⟩) ?_
            refine va_mmin hx hb (by rw [hml]; exact hl.1.symm) hown (hts (.methodLink RX3 78 Lib.Math.min.name) (List.mem_of_getElem? (i := 6) rfl)) (hts (.static Lib.Math.min.name) (List.mem_of_getElem? (i := 7) rfl)) (hts (.initialized "java/lang/Math") (List.mem_of_getElem? (i := 8) rfl)) (hts (.code Lib.Math.min.name Lib.Math.min.code 2 (some .int)) (List.mem_of_getElem? (i := 9) rfl)) (Nat.le_of_ble_eq_true rfl) (Nat.le_of_ble_eq_true rfl) (Nat.zero_le _) (Nat.zero_le _) dX3_hitsToOpen_80 ?_
            refine lv_istore_n (lv' := [(3, .int (if (m_L_hitsToKeep sL p1 x4_22 p2) < x3_22 then (m_L_hitsToKeep sL p1 x4_22 p2) else x3_22)), (5, .int 1), (0, .ref (g 12)), (1, .int p1), (2, .int p2), (4, .int x4_22)]) hx hb dX3_hitsToOpen_83 rfl hl (by decide) rfl (fun ls hl => ?_)
            refine lv_iinc (v := (x4_22 + 1)) (lv' := [(4, .int (x4_22 + 1)), (3, .int (if (m_L_hitsToKeep sL p1 x4_22 p2) < x3_22 then (m_L_hitsToKeep sL p1 x4_22 p2) else x3_22)), (5, .int 1), (0, .ref (g 12)), (1, .int p1), (2, .int p2)]) hx hb dX3_hitsToOpen_84 hl (k := 5) rfl rfl (by decide) rfl (fun ls hl => ?_)
            refine lv_goto (tgt := 22) hx hb dX3_hitsToOpen_87 (by decide) ?_
            have := t_inc (x := x4_22) (by omega)
            rw [wl_some hM] at kk
            exact ih (if (m_L_hitsToKeep sL p1 x4_22 p2) < x3_22 then (m_L_hitsToKeep sL p1 x4_22 p2) else x3_22) (x4_22 + 1) ls (by omega) (by omega) (by omega) (lv_sub hl [3, 4, 5, 1, 0] rfl) kk
  have J_90 : ∀ (x3_90 : Int32) (ls : Array Slot), lv_has ls 6 [(3, .int x3_90)] → (m_L_hitsToOpen sL p1 p2) = b_L_hitsToOpen_90 sL x3_90 → W p l e rm_L_hitsToOpen s m args below meth c s.heap [] 0 0 Q (F0 m 90 ls []) := by
    intro x3_90 ls hl hM
    refine lv_iload_n hx hb dX3_hitsToOpen_90 rfl (lv_at hl 0 rfl) ?_
    have hM : (m_L_hitsToOpen sL p1 p2) = (x3_90 : Int32) := hM
    exact hret _ _ ls (nr_i _) dX3_hitsToOpen_91 hM.symm
  have hM : (m_L_hitsToOpen sL p1 p2) = (m_L_hitsToOpen sL p1 p2) := rfl
  refine lv_iload_n hx hb dX3_hitsToOpen_0 rfl (lv_at hl 1 rfl) ?_
  refine lv_iconst (v := 0) hx hb dX3_hitsToOpen_1 (by decide) ?_
  refine lv_aload_n hx hb dX3_hitsToOpen_2 rfl (lv_at hl 0 rfl) ?_
  refine va_get (D := D) (ci := 3) (v := .int (sL 0 4)) (C := RX3) (T := TX3) (N := 7) hx hb hts hinL hown hE.1 hPL 0 rfl rfl 4 (by decide) (hts (.fieldLink RX3 28 "WallStones$Wall" "columns" "I") (List.mem_of_getElem? (i := 1) rfl)) (fun _ h9 => h9) rfl dX3_hitsToOpen_3 ?_
  refine lv_iconst (v := 1) hx hb dX3_hitsToOpen_6 (by decide) ?_
  refine lv_isub hx hb dX3_hitsToOpen_7 ?_
  refine runS_i (va_runSN (As := [.int p1, .int 0, .int ((sL 0 4) - 1)]) (rest := []) ⟨hx, hb, hml, hown, hts⟩ (K_T_within p1 0 ((sL 0 4) - 1)) ⟨va_cnB 3 hts gX3_hitsToOpen_X4_within_n69 rfl rfl rfl hE.2.1.2.2.2.2.2.2.2.1 (hts (.initialized RX4) (List.mem_of_getElem? (i := 11) rfl)) (by decide +kernel) ⟨Nat.le_of_ble_eq_true rfl, Nat.le_of_ble_eq_true rfl⟩, (hts (.static yX4_within) (List.mem_of_getElem? (i := 10) rfl)), trivial⟩ (preS_of hE hA hS trivial) rfl rfl hl.1 rfl (lv_room (Nat.le_of_ble_eq_true rfl)) dX3_hitsToOpen_8 ⟨Nat.zero_le _, Nat.zero_le _⟩) ?_
  refine lv_if_ne (tgt := 16) hx hb dX3_hitsToOpen_11 (by decide) (fun c_4 => ?_) (fun c_4 => ?_)
  · have hM := hM.trans (if_neg c_4)
    have t_4 := ne_t c_4
    rw [tl_0] at t_4
    have u_4 := within_t c_4
    rw [tl_0] at u_4
    refine lv_ldc (own := RX3) (index := 73) (v := 1000000) hx hb hown (hts (.constant RX3 73 (1000000)) (List.mem_of_getElem? (i := 2) rfl)) dX3_hitsToOpen_16 ?_
    refine lv_istore_n (lv' := [(3, .int 1000000), (0, .ref (g 12)), (1, .int p1), (2, .int p2)]) hx hb dX3_hitsToOpen_18 rfl hl (by decide) rfl (fun ls hl => ?_)
    refine lv_iconst (v := 0) hx hb dX3_hitsToOpen_19 (by decide) ?_
    refine lv_istore (lv' := [(4, .int 0), (3, .int 1000000), (0, .ref (g 12)), (1, .int p1), (2, .int p2)]) hx hb dX3_hitsToOpen_20 hl (by decide) rfl (fun ls hl => ?_)
    have z5 := tl_0
    have z6 := tl_1000000
    refine L_22 65 1000000 0 ls (by omega) (by omega) (by omega) (lv_sub hl [2, 3, 4, 1, 0] rfl) (fun ls hl => ?_)
    exact J_90 (wl (g_L_hitsToOpen_22 sL p1 p2) 65 (1000000, 0)).1 ls (lv_sub hl [0] rfl) hM
  · have hM := hM.trans (if_pos c_4)
    have t_4 := eq_t c_4
    rw [tl_0] at t_4
    refine lv_iconst (v := (-1)) hx hb dX3_hitsToOpen_14 (by decide) ?_
    have hM : (m_L_hitsToOpen sL p1 p2) = ((-1) : Int32) := hM
    exact hret _ _ ls (nr_i _) dX3_hitsToOpen_15 hM.symm
abbrev rm_L_soonestColumn : Room := { frames := 4, cells := 0, slots := 0, locals := 100 }
set_option maxHeartbeats 4000000 in
set_option maxRecDepth 100000 in
theorem K_L_soonestColumn {l : Launch} {D : va_G} {cI : ClassId} {lo : Nat} {g : Nat → Nat} (hg : wI g 12 17 lo) (sL : St) (p1 : Int32) (h0 : okL sL) : ROi l D cI lo yX3_soonestColumn wsX3_soonestColumn rm_L_soonestColumn [.ref (g 12), .int p1] (fun H => va_P D vwCl (cellL cI g sL) H) (m_L_soonestColumn sL p1) := by
  refine ofW_ROi (cc := cX3_soonestColumn) (maxL := 4) (ty := .int) (by decide +kernel) rfl (Nat.le_of_ble_eq_true rfl) ?_
  intro p e s m args below meth c Q hx hb hml hown hts hE hP hret ls hl
  have hown : s.vm.findClass RX3 = some m.cls := hown
  have hPL := hP
  have hA : ∀ q : Nat, (fun _ : Nat => False) q → lo ≤ q := fun _ h => h.elim
  have hS : va_S (fun _ : Nat => False) s.heap s.heap [] := va_S.rf
  have hinL : ∀ w ∈ wsX30, w ∈ wsX3_soonestColumn := fun w h => List.mem_cons_of_mem _ (List.mem_append_right _ h)
  have hl : lv_has ls 4 [(0, .ref (g 12)), (1, .int p1)] := hl
  have nh0 := okL_lin h0
  have L_4 : ∀ (n : Nat) (x2_4 : Int32) (x3_4 : Int32) (ls : Array Slot), 1 ≤ x3_4.toInt ∧ x3_4.toInt ≤ (sL 0 4).toInt → 0 ≤ x2_4.toInt ∧ x2_4.toInt ≤ 7 → ((sL 0 4).toInt - x3_4.toInt).toNat < n → lv_has ls 4 [(0, .ref (g 12)), (1, .int p1), (2, .int x2_4), (3, .int x3_4)] → (∀ (ls : Array Slot), 1 ≤ (wl (g_L_soonestColumn_4 sL p1) n (x2_4, x3_4)).2.toInt ∧ (wl (g_L_soonestColumn_4 sL p1) n (x2_4, x3_4)).2.toInt ≤ (sL 0 4).toInt → 0 ≤ (wl (g_L_soonestColumn_4 sL p1) n (x2_4, x3_4)).1.toInt ∧ (wl (g_L_soonestColumn_4 sL p1) n (x2_4, x3_4)).1.toInt ≤ 7 → lv_has ls 4 [(2, .int (wl (g_L_soonestColumn_4 sL p1) n (x2_4, x3_4)).1)] → W p l e rm_L_soonestColumn s m args below meth c s.heap [] 0 0 Q (F0 m 35 ls [])) → W p l e rm_L_soonestColumn s m args below meth c s.heap [] 0 0 Q (F0 m 4 ls []) := by
    intro n
    induction n with
    | zero =>
      intro x2_4 x3_4 ls i4_0 i4_1 hn4 hl kk
      exact absurd hn4 (Nat.not_lt_zero _)
    | succ n ih =>
      intro x2_4 x3_4 ls i4_0 i4_1 hn4 hl kk
      have hM : (g_L_soonestColumn_4 sL p1) (x2_4, x3_4) = (g_L_soonestColumn_4 sL p1) (x2_4, x3_4) := rfl
      refine lv_iload_n hx hb dX3_soonestColumn_4 rfl (lv_at hl 3 rfl) ?_
      refine lv_aload_n hx hb dX3_soonestColumn_5 rfl (lv_at hl 0 rfl) ?_
      refine va_get (D := D) (ci := 3) (v := .int (sL 0 4)) (C := RX3) (T := TX3) (N := 7) hx hb hts hinL hown hE.1 hPL 0 rfl rfl 4 (by decide) (hts (.fieldLink RX3 28 "WallStones$Wall" "columns" "I") (List.mem_of_getElem? (i := 1) rfl)) (fun _ h9 => h9) rfl dX3_soonestColumn_6 ?_
      refine lv_icmp_ge (tgt := 35) hx hb dX3_soonestColumn_9 (by decide) (fun c_1 => ?_) (fun c_1 => ?_)
      · have hM := hM.trans (if_pos c_1)
        have t_1 := le_t c_1
        rw [wl_none hM] at kk
        try dsimp only at kk
        exact kk ls (by omega) (by omega) (lv_sub hl [2] rfl)
      · have hM := hM.trans (if_neg c_1)
        have t_1 := nle_t c_1
        refine lv_aload_n hx hb dX3_soonestColumn_12 rfl (lv_at hl 0 rfl) ?_
        refine lv_iload_n hx hb dX3_soonestColumn_13 rfl (lv_at hl 3 rfl) ?_
        refine lv_iload_n hx hb dX3_soonestColumn_14 rfl (lv_at hl 1 rfl) ?_
        refine runS_i (va_runV (As := [.int x3_4, .int p1]) (rest := []) ⟨hx, hb, hml, hown, hts⟩ (K_L_hitsToOpen hg sL x3_4 p1 (by assumption)) (cwV 2 hts gX3_soonestColumn_X3_hitsToOpen rfl rfl rfl (by decide +kernel) ⟨Nat.le_of_ble_eq_true rfl, Nat.le_of_ble_eq_true rfl⟩) (preV_of hE hA hS hPL (va_recv hE.1 hPL (ci := 3) (q0 := 0) rfl rfl)) rfl rfl hl.1 rfl (lv_room (Nat.le_of_ble_eq_true rfl)) dX3_soonestColumn_15 ⟨Nat.zero_le _, Nat.zero_le _⟩) ?_
        refine lv_aload_n hx hb dX3_soonestColumn_18 rfl (lv_at hl 0 rfl) ?_
        refine lv_iload_n hx hb dX3_soonestColumn_19 rfl (lv_at hl 2 rfl) ?_
        refine lv_iload_n hx hb dX3_soonestColumn_20 rfl (lv_at hl 1 rfl) ?_
        refine runS_i (va_runV (As := [.int x2_4, .int p1]) (rest := [.int (m_L_hitsToOpen sL x3_4 p1)]) ⟨hx, hb, hml, hown, hts⟩ (K_L_hitsToOpen hg sL x2_4 p1 (by assumption)) (cwV 2 hts gX3_soonestColumn_X3_hitsToOpen rfl rfl rfl (by decide +kernel) ⟨Nat.le_of_ble_eq_true rfl, Nat.le_of_ble_eq_true rfl⟩) (preV_of hE hA hS hPL (va_recv hE.1 hPL (ci := 3) (q0 := 0) rfl rfl)) rfl rfl hl.1 rfl (lv_room (Nat.le_of_ble_eq_true rfl)) dX3_soonestColumn_21 ⟨Nat.zero_le _, Nat.zero_le _⟩) ?_
        refine lv_icmp_ge (tgt := 29) hx hb dX3_soonestColumn_24 (by decide) (fun c_2 => ?_) (fun c_2 => ?_)
        · have hM := hM.trans (if_pos c_2)
          have t_2 := le_t c_2
          refine lv_iinc (v := (x3_4 + 1)) (lv' := [(3, .int (x3_4 + 1)), (0, .ref (g 12)), (1, .int p1), (2, .int x2_4)]) hx hb dX3_soonestColumn_29 hl (k := 3) rfl rfl (by decide) rfl (fun ls hl => ?_)
          refine lv_goto (tgt := 4) hx hb dX3_soonestColumn_32 (by decide) ?_
          have := t_inc (x := x3_4) (by omega)
          rw [wl_some hM] at kk
          exact ih x2_4 (x3_4 + 1) ls (by omega) (by omega) (by omega) (lv_sub hl [1, 2, 3, 0] rfl) kk
        · have hM := hM.trans (if_neg c_2)
          have t_2 := nle_t c_2
          refine lv_iload_n hx hb dX3_soonestColumn_27 rfl (lv_at hl 3 rfl) ?_
          refine lv_istore_n (lv' := [(2, .int x3_4), (0, .ref (g 12)), (1, .int p1), (3, .int x3_4)]) hx hb dX3_soonestColumn_28 rfl hl (by decide) rfl (fun ls hl => ?_)
          refine lv_iinc (v := (x3_4 + 1)) (lv' := [(3, .int (x3_4 + 1)), (2, .int x3_4), (0, .ref (g 12)), (1, .int p1)]) hx hb dX3_soonestColumn_29 hl (k := 3) rfl rfl (by decide) rfl (fun ls hl => ?_)
          refine lv_goto (tgt := 4) hx hb dX3_soonestColumn_32 (by decide) ?_
          have := t_inc (x := x3_4) (by omega)
          rw [wl_some hM] at kk
          exact ih x3_4 (x3_4 + 1) ls (by omega) (by omega) (by omega) (lv_sub hl [2, 3, 1, 0] rfl) kk
  have J_35 : ∀ (x2_35 : Int32) (ls : Array Slot), lv_has ls 4 [(2, .int x2_35)] → (m_L_soonestColumn sL p1) = b_L_soonestColumn_35 sL x2_35 → W p l e rm_L_soonestColumn s m args below meth c s.heap [] 0 0 Q (F0 m 35 ls []) := by
    intro x2_35 ls hl hM
    refine lv_iload_n hx hb dX3_soonestColumn_35 rfl (lv_at hl 0 rfl) ?_
    have hM : (m_L_soonestColumn sL p1) = (x2_35 : Int32) := hM
    exact hret _ _ ls (nr_i _) dX3_soonestColumn_36 hM.symm
  have hM : (m_L_soonestColumn sL p1) = (m_L_soonestColumn sL p1) := rfl
  refine lv_iconst (v := 0) hx hb dX3_soonestColumn_0 (by decide) ?_
  refine lv_istore_n (lv' := [(2, .int 0), (0, .ref (g 12)), (1, .int p1)]) hx hb dX3_soonestColumn_1 rfl hl (by decide) rfl (fun ls hl => ?_)
  refine lv_iconst (v := 1) hx hb dX3_soonestColumn_2 (by decide) ?_
  refine lv_istore_n (lv' := [(3, .int 1), (2, .int 0), (0, .ref (g 12)), (1, .int p1)]) hx hb dX3_soonestColumn_3 rfl hl (by decide) rfl (fun ls hl => ?_)
  have z3 := tl_0
  have z4 := tl_1
  refine L_4 9 0 1 ls (by omega) (by omega) (by omega) (lv_sub hl [2, 3, 1, 0] rfl) (fun ls k0 k1 hl => ?_)
  exact J_35 (wl (g_L_soonestColumn_4 sL p1) 9 (0, 1)).1 ls (lv_sub hl [0] rfl) hM
abbrev rm_L_weightPlace : Room := { frames := 0, cells := 0, slots := 0, locals := 0 }
set_option maxHeartbeats 4000000 in
set_option maxRecDepth 100000 in
theorem K_L_weightPlace {l : Launch} {D : va_G} {cI : ClassId} {lo : Nat} (p0 : Int32) (p1 : Int32) : ROi l D cI lo yX3_weightPlace wsX3_weightPlace rm_L_weightPlace [.int p0, .int p1] (fun H => True) (m_L_weightPlace p0 p1) := by
  refine ofW_ROi (cc := cX3_weightPlace) (maxL := 2) (ty := .int) (by decide +kernel) rfl (Nat.le_of_ble_eq_true rfl) ?_
  intro p e s m args below meth c Q hx hb hml hown hts hE hP hret ls hl
  have hown : s.vm.findClass RX3 = some m.cls := hown
  have hA : ∀ q : Nat, (fun _ : Nat => False) q → lo ≤ q := fun _ h => h.elim
  have hS : va_S (fun _ : Nat => False) s.heap s.heap [] := va_S.rf
  have hl : lv_has ls 2 [(0, .int p0), (1, .int p1)] := hl
  have hM : (m_L_weightPlace p0 p1) = (m_L_weightPlace p0 p1) := rfl
  refine lv_iconst (v := 4) hx hb dX3_weightPlace_0 (by decide) ?_
  refine lv_iload_n hx hb dX3_weightPlace_1 rfl (lv_at hl 0 rfl) ?_
  refine lv_iadd hx hb dX3_weightPlace_2 ?_
  refine lv_iconst (v := 3) hx hb dX3_weightPlace_3 (by decide) ?_
  refine lv_iload_n hx hb dX3_weightPlace_4 rfl (lv_at hl 1 rfl) ?_
  refine lv_imul hx hb dX3_weightPlace_5 ?_
  refine lv_iadd hx hb dX3_weightPlace_6 ?_
  have hM : (m_L_weightPlace p0 p1) = (((4 + p0) + (3 * p1)) : Int32) := hM
  exact hret _ _ ls (nr_i _) dX3_weightPlace_7 hM.symm
abbrev rm_L_putWeight : Room := { frames := 1, cells := 0, slots := 0, locals := 22 }
set_option maxHeartbeats 4000000 in
set_option maxRecDepth 100000 in
theorem K_L_putWeight {l : Launch} {D : va_G} {cI : ClassId} {lo : Nat} {g : Nat → Nat} (hg : wI g 12 17 lo) (sL : St) (p1 : Int32) (p2 : Int32) (p3 : Int32) (h0 : -1 ≤ p1.toInt ∧ p1.toInt ≤ 1 ∧ -1 ≤ p2.toInt ∧ p2.toInt ≤ 1) : WRi l D cI lo yX3_putWeight wsX3_putWeight rm_L_putWeight [.ref (g 12), .int p1, .int p2, .int p3] (fun H => va_P D vwCl (cellL cI g sL) H) (m_L_putWeight sL p1 p2 p3).1 (fun H => va_P D vwCl (cellL cI g (m_L_putWeight sL p1 p2 p3).2) H) (wA g 12 17) := by
  refine ofW_WRi (cc := cX3_putWeight) (maxL := 6) (ty := .int) (by decide +kernel) rfl (Nat.le_of_ble_eq_true rfl) ?_
  intro p e s m args below meth c Q hx hb hml hown hts hE hP hret ls hl
  have hown : s.vm.findClass RX3 = some m.cls := hown
  have hPL := hP
  have hA := wA.lo hg
  have hS : va_S (wA g 12 17) s.heap s.heap [] := va_S.rf
  obtain ⟨H, hH⟩ : ∃ z, z = s.heap := ⟨_, rfl⟩
  obtain ⟨locs, hlocs⟩ : ∃ z : List Loc, z = [] := ⟨_, rfl⟩
  have hPL : va_P D vwCl (cellL cI g sL) H := by rw [hH]; exact hPL
  have hS : va_S (wA g 12 17) s.heap H locs := by rw [hH, hlocs]; exact va_S.rf
  have gW : W p l e rm_L_putWeight s m args below meth c H locs 0 0 Q (F0 m 0 ls []) → W p l e rm_L_putWeight s m args below meth c s.heap [] 0 0 Q (F0 m 0 ls []) := by rw [hH, hlocs]; exact id
  refine gW ?_
  have hinL : ∀ w ∈ wsX30, w ∈ wsX3_putWeight := fun w h => List.mem_cons_of_mem _ (List.mem_append_right _ h)
  have hl : lv_has ls 6 [(0, .ref (g 12)), (1, .int p1), (2, .int p2), (3, .int p3)] := hl
  have hM : (m_L_putWeight sL p1 p2 p3) = (m_L_putWeight sL p1 p2 p3) := rfl
  refine lv_iload_n hx hb dX3_putWeight_0 rfl (lv_at hl 1 rfl) ?_
  refine lv_iload_n hx hb dX3_putWeight_1 rfl (lv_at hl 2 rfl) ?_
  refine runS_i (va_runS (As := [.int p1, .int p2]) (rest := []) ⟨hx, hb, hml, hown, hts⟩ (K_L_weightPlace p1 p2) (va_cwS 2 hts gX3_putWeight_X3_weightPlace rfl rfl rfl (by decide +kernel) ⟨Nat.le_of_ble_eq_true rfl, Nat.le_of_ble_eq_true rfl⟩) (preS_of hE hA hS trivial) rfl rfl hl.1 rfl (lv_room (Nat.le_of_ble_eq_true rfl)) dX3_putWeight_2 ⟨Nat.zero_le _, Nat.zero_le _⟩) ?_
  have w1 : (m_L_weightPlace p1 p2).toInt = 4 + p1.toInt + 3 * p2.toInt := weightPlace_t (by first | omega | decide)
  refine lv_istore (lv' := [(4, .int (m_L_weightPlace p1 p2)), (0, .ref (g 12)), (1, .int p1), (2, .int p2), (3, .int p3)]) hx hb dX3_putWeight_5 hl (by decide) rfl (fun ls hl => ?_)
  refine lv_iload hx hb dX3_putWeight_7 (lv_at hl 0 rfl) ?_
  refine lv_iconst (v := 0) hx hb dX3_putWeight_9 (by decide) ?_
  refine lv_aload_n hx hb dX3_putWeight_10 rfl (lv_at hl 1 rfl) ?_
  refine va_get (D := D) (ci := 3) (v := .ref (g 16)) (C := RX3) (T := TX3) (N := 7) hx hb hts hinL hown hE.1 hPL 0 rfl rfl 3 (by decide) (hts (.fieldLink RX3 21 "WallStones$Wall" "weights" "[I") (List.mem_of_getElem? (i := 1) rfl)) (fun _ h9 => h9) rfl dX3_putWeight_11 ?_
  refine va_alen hx hb hE.1 hPL 4 0 rfl rfl (v := 9) rfl dX3_putWeight_14 ?_
  refine lv_iconst (v := 1) hx hb dX3_putWeight_15 (by decide) ?_
  refine lv_isub hx hb dX3_putWeight_16 ?_
  refine runS_i (va_runSN (As := [.int (m_L_weightPlace p1 p2), .int 0, .int (9 - 1)]) (rest := []) ⟨hx, hb, hml, hown, hts⟩ (K_T_within (m_L_weightPlace p1 p2) 0 (9 - 1)) ⟨va_cnB 3 hts gX3_putWeight_X4_within_n69 rfl rfl rfl hE.2.1.2.2.2.2.2.2.2.1 (hts (.initialized RX4) (List.mem_of_getElem? (i := 7) rfl)) (by decide +kernel) ⟨Nat.le_of_ble_eq_true rfl, Nat.le_of_ble_eq_true rfl⟩, (hts (.static yX4_within) (List.mem_of_getElem? (i := 6) rfl)), trivial⟩ (preS_of hE hA hS trivial) rfl rfl hl.1 rfl (lv_room (Nat.le_of_ble_eq_true rfl)) dX3_putWeight_17 ⟨Nat.zero_le _, Nat.zero_le _⟩) ?_
  refine lv_if_ne (tgt := 25) hx hb dX3_putWeight_20 (by decide) (fun c_2 => ?_) (fun c_2 => ?_)
  · have hM := hM.trans (if_neg c_2)
    have t_2 := ne_t c_2
    rw [tl_0] at t_2
    have u_2 := within_t c_2
    rw [tl_0] at u_2
    refine lv_aload_n hx hb dX3_putWeight_25 rfl (lv_at hl 1 rfl) ?_
    refine va_get (D := D) (ci := 3) (v := .ref (g 16)) (C := RX3) (T := TX3) (N := 7) hx hb hts hinL hown hE.1 hPL 0 rfl rfl 3 (by decide) (hts (.fieldLink RX3 21 "WallStones$Wall" "weights" "[I") (List.mem_of_getElem? (i := 1) rfl)) (fun _ h9 => h9) rfl dX3_putWeight_26 ?_
    refine lv_iload hx hb dX3_putWeight_29 (lv_at hl 0 rfl) ?_
    refine va_iald hx hb hE.1 hPL 4 0 rfl rfl (vp_in_iff.mpr (by omega)) dX3_putWeight_31 ?_
    refine W.eq (g2 := F0 m 32 ls [.int (sL 4 (Int32.toNatClampNeg (m_L_weightPlace p1 p2)))]) rfl ?_
    refine lv_istore (lv' := [(5, .int (sL 4 (Int32.toNatClampNeg (m_L_weightPlace p1 p2)))), (4, .int (m_L_weightPlace p1 p2)), (0, .ref (g 12)), (1, .int p1), (2, .int p2), (3, .int p3)]) hx hb dX3_putWeight_32 hl (by decide) rfl (fun ls hl => ?_)
    refine lv_aload_n hx hb dX3_putWeight_34 rfl (lv_at hl 2 rfl) ?_
    refine va_get (D := D) (ci := 3) (v := .ref (g 16)) (C := RX3) (T := TX3) (N := 7) hx hb hts hinL hown hE.1 hPL 0 rfl rfl 3 (by decide) (hts (.fieldLink RX3 21 "WallStones$Wall" "weights" "[I") (List.mem_of_getElem? (i := 1) rfl)) (fun _ h9 => h9) rfl dX3_putWeight_35 ?_
    refine lv_iload hx hb dX3_putWeight_38 (lv_at hl 1 rfl) ?_
    refine lv_iload_n hx hb dX3_putWeight_40 rfl (lv_at hl 5 rfl) ?_
    refine va_iast hx hb hE.1 hPL (wD_of hg (c := 12) (n := 5) (by decide) (by decide) rfl) hS 4 0 rfl rfl (vp_in_iff.mpr (by omega)) dX3_putWeight_41 (fun H locs hPn _ hS => ?_)
    have hPL : va_P D vwCl (cellL cI g (up sL 4 (Int32.toNatClampNeg (m_L_weightPlace p1 p2)) p3)) H := (congrArg (fun z => va_P D vwCl z H) setL_L4).mp hPn
    refine lv_iload hx hb dX3_putWeight_42 (lv_at hl 0 rfl) ?_
    have hM : (m_L_putWeight sL p1 p2 p3) = (((sL 4 (Int32.toNatClampNeg (m_L_weightPlace p1 p2))), (up sL 4 (Int32.toNatClampNeg (m_L_weightPlace p1 p2)) p3)) : Int32 × St) := hM
    exact hret (sL 4 (Int32.toNatClampNeg (m_L_weightPlace p1 p2))) H locs _ ls (nr_i _) dX3_putWeight_44 (ret1 hM) (rP_v1 (P := fun (z0 : St) => va_P D vwCl (cellL cI g z0) H) hM hPL) hS
  · have hM := hM.trans (if_pos c_2)
    have t_2 := eq_t c_2
    rw [tl_0] at t_2
    refine lv_iconst (v := (-1)) hx hb dX3_putWeight_23 (by decide) ?_
    have hM : (m_L_putWeight sL p1 p2 p3) = (((-1), sL) : Int32 × St) := hM
    exact hret (-1) H locs _ ls (nr_i _) dX3_putWeight_24 (ret1 hM) (rP_v1 (P := fun (z0 : St) => va_P D vwCl (cellL cI g z0) H) hM hPL) hS
abbrev rm_L_fallsBy : Room := { frames := 3, cells := 0, slots := 0, locals := 69 }
set_option maxHeartbeats 4000000 in
set_option maxRecDepth 100000 in
theorem K_L_fallsBy {l : Launch} {D : va_G} {cI : ClassId} {lo : Nat} {g : Nat → Nat} (hg : wI g 12 17 lo) (sL : St) (p1 : Int32) (p2 : Int32) (p3 : Int32) (h0 : okL sL) : WRi l D cI lo yX3_fallsBy wsX3_fallsBy rm_L_fallsBy [.ref (g 12), .int p1, .int p2, .int p3] (fun H => va_P D vwCl (cellL cI g sL) H) (m_L_fallsBy sL p1 p2 p3).1 (fun H => va_P D vwCl (cellL cI g (m_L_fallsBy sL p1 p2 p3).2) H) (wA g 12 17) := by
  refine ofW_WRi (cc := cX3_fallsBy) (maxL := 8) (ty := .int) (by decide +kernel) rfl (Nat.le_of_ble_eq_true rfl) ?_
  intro p e s m args below meth c Q hx hb hml hown hts hE hP hret ls hl
  have hown : s.vm.findClass RX3 = some m.cls := hown
  have hPL := hP
  have hA := wA.lo hg
  have hS : va_S (wA g 12 17) s.heap s.heap [] := va_S.rf
  obtain ⟨H, hH⟩ : ∃ z, z = s.heap := ⟨_, rfl⟩
  obtain ⟨locs, hlocs⟩ : ∃ z : List Loc, z = [] := ⟨_, rfl⟩
  have hPL : va_P D vwCl (cellL cI g sL) H := by rw [hH]; exact hPL
  have hS : va_S (wA g 12 17) s.heap H locs := by rw [hH, hlocs]; exact va_S.rf
  have gW : W p l e rm_L_fallsBy s m args below meth c H locs 0 0 Q (F0 m 0 ls []) → W p l e rm_L_fallsBy s m args below meth c s.heap [] 0 0 Q (F0 m 0 ls []) := by rw [hH, hlocs]; exact id
  refine gW ?_
  have hinL : ∀ w ∈ wsX30, w ∈ wsX3_fallsBy := fun w h => List.mem_cons_of_mem _ (List.mem_append_right _ h)
  have hl : lv_has ls 8 [(0, .ref (g 12)), (1, .int p1), (2, .int p2), (3, .int p3)] := hl
  have nh0 := okL_lin h0
  have hM : (m_L_fallsBy sL p1 p2 p3) = (m_L_fallsBy sL p1 p2 p3) := rfl
  refine lv_aload_n hx hb dX3_fallsBy_0 rfl (lv_at hl 0 rfl) ?_
  refine lv_iload_n hx hb dX3_fallsBy_1 rfl (lv_at hl 1 rfl) ?_
  refine lv_iload_n hx hb dX3_fallsBy_2 rfl (lv_at hl 2 rfl) ?_
  refine runS_i (va_runV (As := [.int p1, .int p2]) (rest := []) ⟨hx, hb, hml, hown, hts⟩ (K_L_stands hg sL p1 p2 (by assumption)) (cwV 2 hts gX3_fallsBy_X3_stands rfl rfl rfl (by decide +kernel) ⟨Nat.le_of_ble_eq_true rfl, Nat.le_of_ble_eq_true rfl⟩) (preV_of hE hA hS hPL (va_recv hE.1 hPL (ci := 3) (q0 := 0) rfl rfl)) rfl rfl hl.1 rfl (lv_room (Nat.le_of_ble_eq_true rfl)) dX3_fallsBy_3 ⟨Nat.zero_le _, Nat.zero_le _⟩) ?_
  refine lv_if_ne (tgt := 11) hx hb dX3_fallsBy_6 (by decide) (fun c_1 => ?_) (fun c_1 => ?_)
  · have hM := hM.trans (if_neg c_1)
    have t_1 := ne_t c_1
    rw [tl_0] at t_1
    have u_1 := stands_t c_1
    refine lv_aload_n hx hb dX3_fallsBy_11 rfl (lv_at hl 0 rfl) ?_
    refine va_get (D := D) (ci := 3) (v := .ref (g 14)) (C := RX3) (T := TX3) (N := 7) hx hb hts hinL hown hE.1 hPL 0 rfl rfl 1 (by decide) (hts (.fieldLink RX3 15 "WallStones$Wall" "standing" "[I") (List.mem_of_getElem? (i := 1) rfl)) (fun _ h9 => h9) rfl dX3_fallsBy_12 ?_
    refine lv_iload_n hx hb dX3_fallsBy_15 rfl (lv_at hl 1 rfl) ?_
    refine va_iald hx hb hE.1 hPL 2 0 rfl rfl (vp_in_iff.mpr (by omega)) dX3_fallsBy_16 ?_
    refine W.eq (g2 := F0 m 17 ls [.int (sL 2 (Int32.toNatClampNeg p1))]) rfl ?_
    refine lv_istore (lv' := [(4, .int (sL 2 (Int32.toNatClampNeg p1))), (0, .ref (g 12)), (1, .int p1), (2, .int p2), (3, .int p3)]) hx hb dX3_fallsBy_17 hl (by decide) rfl (fun ls hl => ?_)
    refine lv_aload_n hx hb dX3_fallsBy_19 rfl (lv_at hl 1 rfl) ?_
    refine va_get (D := D) (ci := 3) (v := .ref (g 15)) (C := RX3) (T := TX3) (N := 7) hx hb hts hinL hown hE.1 hPL 0 rfl rfl 2 (by decide) (hts (.fieldLink RX3 18 "WallStones$Wall" "propped" "[I") (List.mem_of_getElem? (i := 2) rfl)) (fun _ h9 => h9) rfl dX3_fallsBy_20 ?_
    refine lv_iload_n hx hb dX3_fallsBy_23 rfl (lv_at hl 2 rfl) ?_
    refine va_iald hx hb hE.1 hPL 3 0 rfl rfl (vp_in_iff.mpr (by omega)) dX3_fallsBy_24 ?_
    refine W.eq (g2 := F0 m 25 ls [.int (sL 3 (Int32.toNatClampNeg p1))]) rfl ?_
    refine lv_istore (lv' := [(5, .int (sL 3 (Int32.toNatClampNeg p1))), (4, .int (sL 2 (Int32.toNatClampNeg p1))), (0, .ref (g 12)), (1, .int p1), (2, .int p2), (3, .int p3)]) hx hb dX3_fallsBy_25 hl (by decide) rfl (fun ls hl => ?_)
    refine lv_aload_n hx hb dX3_fallsBy_27 rfl (lv_at hl 2 rfl) ?_
    refine va_get (D := D) (ci := 3) (v := .ref (g 13)) (C := RX3) (T := TX3) (N := 7) hx hb hts hinL hown hE.1 hPL 0 rfl rfl 0 (by decide) (hts (.fieldLink RX3 11 "WallStones$Wall" "strengths" "[I") (List.mem_of_getElem? (i := 3) rfl)) (fun _ h9 => h9) rfl dX3_fallsBy_28 ?_
    refine lv_iload_n hx hb dX3_fallsBy_31 rfl (lv_at hl 3 rfl) ?_
    refine lv_iload_n hx hb dX3_fallsBy_32 rfl (lv_at hl 4 rfl) ?_
    refine runS_i (va_runS (As := [.int p1, .int p2]) (rest := [.ref (g 13)]) ⟨hx, hb, hml, hown, hts⟩ (K_L_place p1 p2) (va_cwS 2 hts gX3_fallsBy_X3_place rfl rfl rfl (by decide +kernel) ⟨Nat.le_of_ble_eq_true rfl, Nat.le_of_ble_eq_true rfl⟩) (preS_of hE hA hS trivial) rfl rfl hl.1 rfl (lv_room (Nat.le_of_ble_eq_true rfl)) dX3_fallsBy_33 ⟨Nat.zero_le _, Nat.zero_le _⟩) ?_
    have w2 : (m_L_place p1 p2).toInt = p1.toInt * 6 + p2.toInt := place_t (by first | omega | decide)
    refine va_iald hx hb hE.1 hPL 1 0 rfl rfl (vp_in_iff.mpr (by omega)) dX3_fallsBy_36 ?_
    refine W.eq (g2 := F0 m 37 ls [.int (sL 1 (Int32.toNatClampNeg (m_L_place p1 p2)))]) rfl ?_
    refine lv_istore (lv' := [(6, .int (sL 1 (Int32.toNatClampNeg (m_L_place p1 p2)))), (5, .int (sL 3 (Int32.toNatClampNeg p1))), (4, .int (sL 2 (Int32.toNatClampNeg p1))), (0, .ref (g 12)), (1, .int p1), (2, .int p2), (3, .int p3)]) hx hb dX3_fallsBy_37 hl (by decide) rfl (fun ls hl => ?_)
    refine lv_aload_n hx hb dX3_fallsBy_39 rfl (lv_at hl 3 rfl) ?_
    refine lv_iload_n hx hb dX3_fallsBy_40 rfl (lv_at hl 4 rfl) ?_
    refine lv_iload_n hx hb dX3_fallsBy_41 rfl (lv_at hl 5 rfl) ?_
    refine lv_iload_n hx hb dX3_fallsBy_42 rfl (lv_at hl 6 rfl) ?_
    refine runW_i (va_runV (As := [.int p1, .int p2, .int p3]) (rest := []) ⟨hx, hb, hml, hown, hts⟩ (K_L_strike hg sL p1 p2 p3 (by assumption)) (cwV 3 hts gX3_fallsBy_X3_strike rfl rfl rfl (by decide +kernel) ⟨Nat.le_of_ble_eq_true rfl, Nat.le_of_ble_eq_true rfl⟩) (preV_of hE hA hS hPL (va_recv hE.1 hPL (ci := 3) (q0 := 0) rfl rfl)) rfl rfl hl.1 rfl (lv_room (Nat.le_of_ble_eq_true rfl)) dX3_fallsBy_43 ⟨Nat.zero_le _, Nat.zero_le _⟩) hS (fun _ h9 => h9) (fun H locs hQ hk hS => ?_)
    have hPL : va_P D vwCl (cellL cI g (m_L_strike sL p1 p2 p3).2) H := hQ
    have v3 : okL (m_L_strike sL p1 p2 p3).2 := okL_strike (by assumption)
    have w3_4 : ((m_L_strike sL p1 p2 p3).2 0 4).toInt = (sL 0 4).toInt := congrArg Int32.toInt (fr_L_strike (by omega))
    have w3_5 : ((m_L_strike sL p1 p2 p3).2 0 5).toInt = (sL 0 5).toInt := congrArg Int32.toInt (fr_L_strike (by omega))
    refine lv_istore (lv' := [(7, .int (m_L_strike sL p1 p2 p3).1), (6, .int (sL 1 (Int32.toNatClampNeg (m_L_place p1 p2)))), (5, .int (sL 3 (Int32.toNatClampNeg p1))), (4, .int (sL 2 (Int32.toNatClampNeg p1))), (0, .ref (g 12)), (1, .int p1), (2, .int p2), (3, .int p3)]) hx hb dX3_fallsBy_46 hl (by decide) rfl (fun ls hl => ?_)
    refine lv_aload_n hx hb dX3_fallsBy_48 rfl (lv_at hl 4 rfl) ?_
    refine va_get (D := D) (ci := 3) (v := .ref (g 14)) (C := RX3) (T := TX3) (N := 7) hx hb hts hinL hown hE.1 hPL 0 rfl rfl 1 (by decide) (hts (.fieldLink RX3 15 "WallStones$Wall" "standing" "[I") (List.mem_of_getElem? (i := 1) rfl)) (fun _ h9 => h9) rfl dX3_fallsBy_49 ?_
    refine lv_iload_n hx hb dX3_fallsBy_52 rfl (lv_at hl 5 rfl) ?_
    refine lv_iload hx hb dX3_fallsBy_53 (lv_at hl 3 rfl) ?_
    refine va_iast hx hb hE.1 hPL (wD_of hg (c := 12) (n := 5) (by decide) (by decide) rfl) hS 2 0 rfl rfl (vp_in_iff.mpr (by omega)) dX3_fallsBy_55 (fun H locs hPn _ hS => ?_)
    have hPL : va_P D vwCl (cellL cI g (up (m_L_strike sL p1 p2 p3).2 2 (Int32.toNatClampNeg p1) (sL 2 (Int32.toNatClampNeg p1)))) H := (congrArg (fun z => va_P D vwCl z H) setL_L2).mp hPn
    refine lv_aload_n hx hb dX3_fallsBy_56 rfl (lv_at hl 4 rfl) ?_
    refine va_get (D := D) (ci := 3) (v := .ref (g 15)) (C := RX3) (T := TX3) (N := 7) hx hb hts hinL hown hE.1 hPL 0 rfl rfl 2 (by decide) (hts (.fieldLink RX3 18 "WallStones$Wall" "propped" "[I") (List.mem_of_getElem? (i := 2) rfl)) (fun _ h9 => h9) rfl dX3_fallsBy_57 ?_
    refine lv_iload_n hx hb dX3_fallsBy_60 rfl (lv_at hl 5 rfl) ?_
    refine lv_iload hx hb dX3_fallsBy_61 (lv_at hl 2 rfl) ?_
    refine va_iast hx hb hE.1 hPL (wD_of hg (c := 12) (n := 5) (by decide) (by decide) rfl) hS 3 0 rfl rfl (vp_in_iff.mpr (by omega)) dX3_fallsBy_63 (fun H locs hPn _ hS => ?_)
    have hPL : va_P D vwCl (cellL cI g (up (up (m_L_strike sL p1 p2 p3).2 2 (Int32.toNatClampNeg p1) (sL 2 (Int32.toNatClampNeg p1))) 3 (Int32.toNatClampNeg p1) (sL 3 (Int32.toNatClampNeg p1)))) H := (congrArg (fun z => va_P D vwCl z H) setL_L3).mp hPn
    refine lv_aload_n hx hb dX3_fallsBy_64 rfl (lv_at hl 4 rfl) ?_
    refine va_get (D := D) (ci := 3) (v := .ref (g 13)) (C := RX3) (T := TX3) (N := 7) hx hb hts hinL hown hE.1 hPL 0 rfl rfl 0 (by decide) (hts (.fieldLink RX3 11 "WallStones$Wall" "strengths" "[I") (List.mem_of_getElem? (i := 3) rfl)) (fun _ h9 => h9) rfl dX3_fallsBy_65 ?_
    refine lv_iload_n hx hb dX3_fallsBy_68 rfl (lv_at hl 5 rfl) ?_
    refine lv_iload_n hx hb dX3_fallsBy_69 rfl (lv_at hl 6 rfl) ?_
    refine runS_i (va_runS (As := [.int p1, .int p2]) (rest := [.ref (g 13)]) ⟨hx, hb, hml, hown, hts⟩ (K_L_place p1 p2) (va_cwS 2 hts gX3_fallsBy_X3_place rfl rfl rfl (by decide +kernel) ⟨Nat.le_of_ble_eq_true rfl, Nat.le_of_ble_eq_true rfl⟩) (preS_of hE hA hS trivial) rfl rfl hl.1 rfl (lv_room (Nat.le_of_ble_eq_true rfl)) dX3_fallsBy_70 ⟨Nat.zero_le _, Nat.zero_le _⟩) ?_
    have w4 : (m_L_place p1 p2).toInt = p1.toInt * 6 + p2.toInt := place_t (by first | omega | decide)
    refine lv_iload hx hb dX3_fallsBy_73 (lv_at hl 1 rfl) ?_
    refine va_iast hx hb hE.1 hPL (wD_of hg (c := 12) (n := 5) (by decide) (by decide) rfl) hS 1 0 rfl rfl (vp_in_iff.mpr (by omega)) dX3_fallsBy_75 (fun H locs hPn _ hS => ?_)
    have hPL : va_P D vwCl (cellL cI g (up (up (up (m_L_strike sL p1 p2 p3).2 2 (Int32.toNatClampNeg p1) (sL 2 (Int32.toNatClampNeg p1))) 3 (Int32.toNatClampNeg p1) (sL 3 (Int32.toNatClampNeg p1))) 1 (Int32.toNatClampNeg (m_L_place p1 p2)) (sL 1 (Int32.toNatClampNeg (m_L_place p1 p2))))) H := (congrArg (fun z => va_P D vwCl z H) setL_L1).mp hPn
    refine lv_iload hx hb dX3_fallsBy_76 (lv_at hl 0 rfl) ?_
    have hM : (m_L_fallsBy sL p1 p2 p3) = (((m_L_strike sL p1 p2 p3).1, (up (up (up (m_L_strike sL p1 p2 p3).2 2 (Int32.toNatClampNeg p1) (sL 2 (Int32.toNatClampNeg p1))) 3 (Int32.toNatClampNeg p1) (sL 3 (Int32.toNatClampNeg p1))) 1 (Int32.toNatClampNeg (m_L_place p1 p2)) (sL 1 (Int32.toNatClampNeg (m_L_place p1 p2))))) : Int32 × St) := hM
    exact hret (m_L_strike sL p1 p2 p3).1 H locs _ ls (nr_i _) dX3_fallsBy_78 (ret1 hM) (rP_v1 (P := fun (z0 : St) => va_P D vwCl (cellL cI g z0) H) hM hPL) hS
  · have hM := hM.trans (if_pos c_1)
    have t_1 := eq_t c_1
    rw [tl_0] at t_1
    refine lv_iconst (v := 0) hx hb dX3_fallsBy_9 (by decide) ?_
    have hM : (m_L_fallsBy sL p1 p2 p3) = ((0, sL) : Int32 × St) := hM
    exact hret 0 H locs _ ls (nr_i _) dX3_fallsBy_10 (ret1 hM) (rP_v1 (P := fun (z0 : St) => va_P D vwCl (cellL cI g z0) H) hM hPL) hS
abbrev rm_L_worthOf : Room := { frames := 4, cells := 0, slots := 0, locals := 96 }
set_option maxHeartbeats 4000000 in
set_option maxRecDepth 100000 in
theorem K_L_worthOf {l : Launch} {D : va_G} {cI : ClassId} {lo : Nat} {g : Nat → Nat} (hg : wI g 12 17 lo) (sL : St) (p1 : Int32) (p2 : Int32) (p3 : Int32) (h0 : okL sL) : WRi l D cI lo yX3_worthOf wsX3_worthOf rm_L_worthOf [.ref (g 12), .int p1, .int p2, .int p3] (fun H => va_P D vwCl (cellL cI g sL) H) (m_L_worthOf sL p1 p2 p3).1 (fun H => va_P D vwCl (cellL cI g (m_L_worthOf sL p1 p2 p3).2) H) (wA g 12 17) := by
  refine ofW_WRi (cc := cX3_worthOf) (maxL := 7) (ty := .int) (by decide +kernel) rfl (Nat.le_of_ble_eq_true rfl) ?_
  intro p e s m args below meth c Q hx hb hml hown hts hE hP hret ls hl
  have hown : s.vm.findClass RX3 = some m.cls := hown
  have hPL := hP
  have hA := wA.lo hg
  have hS : va_S (wA g 12 17) s.heap s.heap [] := va_S.rf
  obtain ⟨H, hH⟩ : ∃ z, z = s.heap := ⟨_, rfl⟩
  obtain ⟨locs, hlocs⟩ : ∃ z : List Loc, z = [] := ⟨_, rfl⟩
  have hPL : va_P D vwCl (cellL cI g sL) H := by rw [hH]; exact hPL
  have hS : va_S (wA g 12 17) s.heap H locs := by rw [hH, hlocs]; exact va_S.rf
  have gW : W p l e rm_L_worthOf s m args below meth c H locs 0 0 Q (F0 m 0 ls []) → W p l e rm_L_worthOf s m args below meth c s.heap [] 0 0 Q (F0 m 0 ls []) := by rw [hH, hlocs]; exact id
  refine gW ?_
  have hinL : ∀ w ∈ wsX30, w ∈ wsX3_worthOf := fun w h => List.mem_cons_of_mem _ (List.mem_append_right _ h)
  have hl : lv_has ls 7 [(0, .ref (g 12)), (1, .int p1), (2, .int p2), (3, .int p3)] := hl
  have nh0 := okL_lin h0
  have L_15 : ∀ (n : Nat) (sL_15 : St) (x4_15 : Int32) (x5_15 : Int32) (x6_15 : Int32) (H : Heap) (locs : List Loc) (ls : Array Slot), -1 ≤ x6_15.toInt ∧ x6_15.toInt ≤ 2 → okL sL_15 → -1 ≤ x5_15.toInt ∧ x5_15.toInt ≤ 1 → (2 - x6_15.toInt).toNat < n → va_P D vwCl (cellL cI g sL_15) H → va_S (wA g 12 17) s.heap H locs → lv_has ls 7 [(0, .ref (g 12)), (1, .int p1), (2, .int p2), (3, .int p3), (4, .int x4_15), (5, .int x5_15), (6, .int x6_15)] → (∀ (H : Heap) (locs : List Loc) (ls : Array Slot), -1 ≤ (wl (g_L_worthOf_15 p1 p2 p3 x5_15) n (sL_15, x4_15, x6_15)).2.2.toInt ∧ (wl (g_L_worthOf_15 p1 p2 p3 x5_15) n (sL_15, x4_15, x6_15)).2.2.toInt ≤ 2 → okL (wl (g_L_worthOf_15 p1 p2 p3 x5_15) n (sL_15, x4_15, x6_15)).1 → -1 ≤ x5_15.toInt ∧ x5_15.toInt ≤ 1 → va_P D vwCl (cellL cI g (wl (g_L_worthOf_15 p1 p2 p3 x5_15) n (sL_15, x4_15, x6_15)).1) H → va_S (wA g 12 17) s.heap H locs → lv_has ls 7 [(0, .ref (g 12)), (1, .int p1), (2, .int p2), (3, .int p3), (4, .int (wl (g_L_worthOf_15 p1 p2 p3 x5_15) n (sL_15, x4_15, x6_15)).2.1), (5, .int x5_15)] → W p l e rm_L_worthOf s m args below meth c H locs 0 0 Q (F0 m 58 ls [])) → W p l e rm_L_worthOf s m args below meth c H locs 0 0 Q (F0 m 15 ls []) := by
    intro n
    induction n with
    | zero =>
      intro sL_15 x4_15 x5_15 x6_15 H locs ls i15_0 i15_1 i15_2 hn15 hPL hS hl kk
      exact absurd hn15 (Nat.not_lt_zero _)
    | succ n ih =>
      intro sL_15 x4_15 x5_15 x6_15 H locs ls i15_0 i15_1 i15_2 hn15 hPL hS hl kk
      have ni15_1 := okL_lin i15_1
      have hM : (g_L_worthOf_15 p1 p2 p3 x5_15) (sL_15, x4_15, x6_15) = (g_L_worthOf_15 p1 p2 p3 x5_15) (sL_15, x4_15, x6_15) := rfl
      refine lv_iload hx hb dX3_worthOf_15 (lv_at hl 6 rfl) ?_
      refine lv_iconst (v := 1) hx hb dX3_worthOf_17 (by decide) ?_
      refine lv_icmp_gt (tgt := 58) hx hb dX3_worthOf_18 (by decide) (fun c_1 => ?_) (fun c_1 => ?_)
      · have hM := hM.trans (if_pos c_1)
        have t_1 := lt_t c_1
        rw [tl_1] at t_1
        rw [wl_none hM] at kk
        try dsimp only at kk
        exact kk H locs ls (by omega) (by assumption) (by omega) hPL hS (lv_sub hl [0, 1, 2, 3, 4, 5] rfl)
      · have hM := hM.trans (if_neg c_1)
        have t_1 := nlt_t c_1
        rw [tl_1] at t_1
        refine lv_iload hx hb dX3_worthOf_21 (lv_at hl 4 rfl) ?_
        refine lv_aload_n hx hb dX3_worthOf_23 rfl (lv_at hl 0 rfl) ?_
        refine va_get (D := D) (ci := 3) (v := .ref (g 16)) (C := RX3) (T := TX3) (N := 7) hx hb hts hinL hown hE.1 hPL 0 rfl rfl 3 (by decide) (hts (.fieldLink RX3 21 "WallStones$Wall" "weights" "[I") (List.mem_of_getElem? (i := 1) rfl)) (fun _ h9 => h9) rfl dX3_worthOf_24 ?_
        refine lv_iload hx hb dX3_worthOf_27 (lv_at hl 6 rfl) ?_
        refine lv_iload hx hb dX3_worthOf_29 (lv_at hl 5 rfl) ?_
        refine runS_i (va_runS (As := [.int x6_15, .int x5_15]) (rest := [.ref (g 16), .int x4_15]) ⟨hx, hb, hml, hown, hts⟩ (K_L_weightPlace x6_15 x5_15) (va_cwS 2 hts gX3_worthOf_X3_weightPlace rfl rfl rfl (by decide +kernel) ⟨Nat.le_of_ble_eq_true rfl, Nat.le_of_ble_eq_true rfl⟩) (preS_of hE hA hS trivial) rfl rfl hl.1 rfl (lv_room (Nat.le_of_ble_eq_true rfl)) dX3_worthOf_31 ⟨Nat.zero_le _, Nat.zero_le _⟩) ?_
        have w2 : (m_L_weightPlace x6_15 x5_15).toInt = 4 + x6_15.toInt + 3 * x5_15.toInt := weightPlace_t (by first | omega | decide)
        refine va_iald hx hb hE.1 hPL 4 0 rfl rfl (vp_in_iff.mpr (by omega)) dX3_worthOf_34 ?_
        refine W.eq (g2 := F0 m 35 ls [.int (sL_15 4 (Int32.toNatClampNeg (m_L_weightPlace x6_15 x5_15))), .int x4_15]) rfl ?_
        refine lv_aload_n hx hb dX3_worthOf_35 rfl (lv_at hl 0 rfl) ?_
        refine lv_iload_n hx hb dX3_worthOf_36 rfl (lv_at hl 1 rfl) ?_
        refine lv_iload hx hb dX3_worthOf_37 (lv_at hl 6 rfl) ?_
        refine lv_iadd hx hb dX3_worthOf_39 ?_
        refine lv_iload_n hx hb dX3_worthOf_40 rfl (lv_at hl 2 rfl) ?_
        refine lv_iload hx hb dX3_worthOf_41 (lv_at hl 5 rfl) ?_
        refine lv_iadd hx hb dX3_worthOf_43 ?_
        refine lv_iload_n hx hb dX3_worthOf_44 rfl (lv_at hl 3 rfl) ?_
        refine runW_i (va_runV (As := [.int (p1 + x6_15), .int (p2 + x5_15), .int p3]) (rest := [.int (sL_15 4 (Int32.toNatClampNeg (m_L_weightPlace x6_15 x5_15))), .int x4_15]) ⟨hx, hb, hml, hown, hts⟩ (K_L_fallsBy hg sL_15 (p1 + x6_15) (p2 + x5_15) p3 (by assumption)) (cwV 3 hts gX3_worthOf_X3_fallsBy rfl rfl rfl (by decide +kernel) ⟨Nat.le_of_ble_eq_true rfl, Nat.le_of_ble_eq_true rfl⟩) (preV_of hE hA hS hPL (va_recv hE.1 hPL (ci := 3) (q0 := 0) rfl rfl)) rfl rfl hl.1 rfl (lv_room (Nat.le_of_ble_eq_true rfl)) dX3_worthOf_45 ⟨Nat.zero_le _, Nat.zero_le _⟩) hS (fun _ h9 => h9) (fun H locs hQ hk hS => ?_)
        have hPL : va_P D vwCl (cellL cI g (m_L_fallsBy sL_15 (p1 + x6_15) (p2 + x5_15) p3).2) H := hQ
        have v3 : okL (m_L_fallsBy sL_15 (p1 + x6_15) (p2 + x5_15) p3).2 := okL_fallsBy (by assumption)
        have w3_4 : ((m_L_fallsBy sL_15 (p1 + x6_15) (p2 + x5_15) p3).2 0 4).toInt = (sL_15 0 4).toInt := congrArg Int32.toInt (fr_L_fallsBy (by omega))
        have w3_5 : ((m_L_fallsBy sL_15 (p1 + x6_15) (p2 + x5_15) p3).2 0 5).toInt = (sL_15 0 5).toInt := congrArg Int32.toInt (fr_L_fallsBy (by omega))
        refine lv_imul hx hb dX3_worthOf_48 ?_
        refine lv_iadd hx hb dX3_worthOf_49 ?_
        refine lv_istore (lv' := [(4, .int (x4_15 + ((sL_15 4 (Int32.toNatClampNeg (m_L_weightPlace x6_15 x5_15))) * (m_L_fallsBy sL_15 (p1 + x6_15) (p2 + x5_15) p3).1))), (0, .ref (g 12)), (1, .int p1), (2, .int p2), (3, .int p3), (5, .int x5_15), (6, .int x6_15)]) hx hb dX3_worthOf_50 hl (by decide) rfl (fun ls hl => ?_)
        refine lv_iinc (v := (x6_15 + 1)) (lv' := [(6, .int (x6_15 + 1)), (4, .int (x4_15 + ((sL_15 4 (Int32.toNatClampNeg (m_L_weightPlace x6_15 x5_15))) * (m_L_fallsBy sL_15 (p1 + x6_15) (p2 + x5_15) p3).1))), (0, .ref (g 12)), (1, .int p1), (2, .int p2), (3, .int p3), (5, .int x5_15)]) hx hb dX3_worthOf_52 hl (k := 6) rfl rfl (by decide) rfl (fun ls hl => ?_)
        refine lv_goto (tgt := 15) hx hb dX3_worthOf_55 (by decide) ?_
        have := t_inc (x := x6_15) (by omega)
        rw [wl_some hM] at kk
        exact ih (m_L_fallsBy sL_15 (p1 + x6_15) (p2 + x5_15) p3).2 (x4_15 + ((sL_15 4 (Int32.toNatClampNeg (m_L_weightPlace x6_15 x5_15))) * (m_L_fallsBy sL_15 (p1 + x6_15) (p2 + x5_15) p3).1)) x5_15 (x6_15 + 1) H locs ls (by omega) (by assumption) (by omega) (by omega) hPL hS (lv_sub hl [2, 3, 4, 5, 1, 6, 0] rfl) kk
  have L_6 : ∀ (n : Nat) (sL_6 : St) (x4_6 : Int32) (x5_6 : Int32) (H : Heap) (locs : List Loc) (ls : Array Slot), -1 ≤ x5_6.toInt ∧ x5_6.toInt ≤ 2 → okL sL_6 → (2 - x5_6.toInt).toNat < n → va_P D vwCl (cellL cI g sL_6) H → va_S (wA g 12 17) s.heap H locs → lv_has ls 7 [(0, .ref (g 12)), (1, .int p1), (2, .int p2), (3, .int p3), (4, .int x4_6), (5, .int x5_6)] → (∀ (H : Heap) (locs : List Loc) (ls : Array Slot), -1 ≤ (wl (g_L_worthOf_6 p1 p2 p3) n (sL_6, x4_6, x5_6)).2.2.toInt ∧ (wl (g_L_worthOf_6 p1 p2 p3) n (sL_6, x4_6, x5_6)).2.2.toInt ≤ 2 → okL (wl (g_L_worthOf_6 p1 p2 p3) n (sL_6, x4_6, x5_6)).1 → va_P D vwCl (cellL cI g (wl (g_L_worthOf_6 p1 p2 p3) n (sL_6, x4_6, x5_6)).1) H → va_S (wA g 12 17) s.heap H locs → lv_has ls 7 [(4, .int (wl (g_L_worthOf_6 p1 p2 p3) n (sL_6, x4_6, x5_6)).2.1)] → W p l e rm_L_worthOf s m args below meth c H locs 0 0 Q (F0 m 64 ls [])) → W p l e rm_L_worthOf s m args below meth c H locs 0 0 Q (F0 m 6 ls []) := by
    intro n
    induction n with
    | zero =>
      intro sL_6 x4_6 x5_6 H locs ls i6_0 i6_1 hn6 hPL hS hl kk
      exact absurd hn6 (Nat.not_lt_zero _)
    | succ n ih =>
      intro sL_6 x4_6 x5_6 H locs ls i6_0 i6_1 hn6 hPL hS hl kk
      have ni6_1 := okL_lin i6_1
      have J_58 : ∀ (sL_58 : St) (x4_58 : Int32) (x5_58 : Int32) (H : Heap) (locs : List Loc) (ls : Array Slot), okL sL_58 → -1 ≤ x5_58.toInt ∧ x5_58.toInt ≤ 1 → (2 - x5_58.toInt).toNat < n + 1 → va_P D vwCl (cellL cI g sL_58) H → va_S (wA g 12 17) s.heap H locs → lv_has ls 7 [(0, .ref (g 12)), (1, .int p1), (2, .int p2), (3, .int p3), (4, .int x4_58), (5, .int x5_58)] → (g_L_worthOf_6 p1 p2 p3) (sL_6, x4_6, x5_6) = b_L_worthOf_58 sL_58 p1 p2 p3 x4_58 x5_58 → W p l e rm_L_worthOf s m args below meth c H locs 0 0 Q (F0 m 58 ls []) := by
        intro sL_58 x4_58 x5_58 H locs ls i58_0 i58_1 i58_2 hPL hS hl hM
        have ni58_0 := okL_lin i58_0
        refine lv_iinc (v := (x5_58 + 1)) (lv' := [(5, .int (x5_58 + 1)), (0, .ref (g 12)), (1, .int p1), (2, .int p2), (3, .int p3), (4, .int x4_58)]) hx hb dX3_worthOf_58 hl (k := 5) rfl rfl (by decide) rfl (fun ls hl => ?_)
        refine lv_goto (tgt := 6) hx hb dX3_worthOf_61 (by decide) ?_
        have := t_inc (x := x5_58) (by omega)
        rw [wl_some hM] at kk
        exact ih sL_58 x4_58 (x5_58 + 1) H locs ls (by omega) (by assumption) (by omega) hPL hS (lv_sub hl [1, 2, 3, 4, 5, 0] rfl) kk
      have hM : (g_L_worthOf_6 p1 p2 p3) (sL_6, x4_6, x5_6) = (g_L_worthOf_6 p1 p2 p3) (sL_6, x4_6, x5_6) := rfl
      refine lv_iload hx hb dX3_worthOf_6 (lv_at hl 5 rfl) ?_
      refine lv_iconst (v := 1) hx hb dX3_worthOf_8 (by decide) ?_
      refine lv_icmp_gt (tgt := 64) hx hb dX3_worthOf_9 (by decide) (fun c_4 => ?_) (fun c_4 => ?_)
      · have hM := hM.trans (if_pos c_4)
        have t_4 := lt_t c_4
        rw [tl_1] at t_4
        rw [wl_none hM] at kk
        try dsimp only at kk
        exact kk H locs ls (by omega) (by assumption) hPL hS (lv_sub hl [4] rfl)
      · have hM := hM.trans (if_neg c_4)
        have t_4 := nlt_t c_4
        rw [tl_1] at t_4
        refine lv_iconst (v := (-1)) hx hb dX3_worthOf_12 (by decide) ?_
        refine lv_istore (lv' := [(6, .int (-1)), (0, .ref (g 12)), (1, .int p1), (2, .int p2), (3, .int p3), (4, .int x4_6), (5, .int x5_6)]) hx hb dX3_worthOf_13 hl (by decide) rfl (fun ls hl => ?_)
        have z5 := tl_m1
        refine L_15 4 sL_6 x4_6 x5_6 (-1) H locs ls (by omega) (by assumption) (by omega) (by omega) hPL hS (lv_sub hl [1, 2, 3, 4, 5, 6, 0] rfl) (fun H locs ls k0 k1 k2 hPL hS hl => ?_)
        have nk1 := okL_lin k1
        exact J_58 (wl (g_L_worthOf_15 p1 p2 p3 x5_6) 4 (sL_6, x4_6, (-1))).1 (wl (g_L_worthOf_15 p1 p2 p3 x5_6) 4 (sL_6, x4_6, (-1))).2.1 x5_6 H locs ls (by assumption) (by omega) (by omega) hPL hS (lv_sub hl [0, 1, 2, 3, 4, 5] rfl) hM
  have J_64 : ∀ (sL_64 : St) (x4_64 : Int32) (H : Heap) (locs : List Loc) (ls : Array Slot), va_P D vwCl (cellL cI g sL_64) H → va_S (wA g 12 17) s.heap H locs → lv_has ls 7 [(4, .int x4_64)] → (m_L_worthOf sL p1 p2 p3) = b_L_worthOf_64 sL_64 x4_64 → W p l e rm_L_worthOf s m args below meth c H locs 0 0 Q (F0 m 64 ls []) := by
    intro sL_64 x4_64 H locs ls hPL hS hl hM
    refine lv_iload hx hb dX3_worthOf_64 (lv_at hl 0 rfl) ?_
    have hM : (m_L_worthOf sL p1 p2 p3) = ((x4_64, sL_64) : Int32 × St) := hM
    exact hret x4_64 H locs _ ls (nr_i _) dX3_worthOf_66 (ret1 hM) (rP_v1 (P := fun (z0 : St) => va_P D vwCl (cellL cI g z0) H) hM hPL) hS
  have hM : (m_L_worthOf sL p1 p2 p3) = (m_L_worthOf sL p1 p2 p3) := rfl
  refine lv_iconst (v := 0) hx hb dX3_worthOf_0 (by decide) ?_
  refine lv_istore (lv' := [(4, .int 0), (0, .ref (g 12)), (1, .int p1), (2, .int p2), (3, .int p3)]) hx hb dX3_worthOf_1 hl (by decide) rfl (fun ls hl => ?_)
  refine lv_iconst (v := (-1)) hx hb dX3_worthOf_3 (by decide) ?_
  refine lv_istore (lv' := [(5, .int (-1)), (4, .int 0), (0, .ref (g 12)), (1, .int p1), (2, .int p2), (3, .int p3)]) hx hb dX3_worthOf_4 hl (by decide) rfl (fun ls hl => ?_)
  have z6 := tl_m1
  have z7 := tl_0
  refine L_6 4 sL 0 (-1) H locs ls (by omega) (by assumption) (by omega) hPL hS (lv_sub hl [2, 3, 4, 5, 1, 0] rfl) (fun H locs ls k0 k1 hPL hS hl => ?_)
  have nk1 := okL_lin k1
  exact J_64 (wl (g_L_worthOf_6 p1 p2 p3) 4 (sL, 0, (-1))).1 (wl (g_L_worthOf_6 p1 p2 p3) 4 (sL, 0, (-1))).2.1 H locs ls hPL hS (lv_sub hl [0] rfl) hM
abbrev rm_L_columnOf : Room := { frames := 0, cells := 0, slots := 0, locals := 0 }
set_option maxHeartbeats 4000000 in
set_option maxRecDepth 100000 in
theorem K_L_columnOf {l : Launch} {D : va_G} {cI : ClassId} {lo : Nat} {g : Nat → Nat} (hg : wI g 12 17 lo) (sL : St) (p1 : Int32) : ROi l D cI lo yX3_columnOf wsX3_columnOf rm_L_columnOf [.ref (g 12), .int p1] (fun H => va_P D vwCl (cellL cI g sL) H) (m_L_columnOf sL p1) := by
  refine ofW_ROi (cc := cX3_columnOf) (maxL := 2) (ty := .int) (by decide +kernel) rfl (Nat.le_of_ble_eq_true rfl) ?_
  intro p e s m args below meth c Q hx hb hml hown hts hE hP hret ls hl
  have hown : s.vm.findClass RX3 = some m.cls := hown
  have hPL := hP
  have hA : ∀ q : Nat, (fun _ : Nat => False) q → lo ≤ q := fun _ h => h.elim
  have hS : va_S (fun _ : Nat => False) s.heap s.heap [] := va_S.rf
  have hinL : ∀ w ∈ wsX30, w ∈ wsX3_columnOf := fun w h => List.mem_cons_of_mem _ (List.mem_append_right _ h)
  have hl : lv_has ls 2 [(0, .ref (g 12)), (1, .int p1)] := hl
  have hM : (m_L_columnOf sL p1) = (m_L_columnOf sL p1) := rfl
  refine lv_aload_n hx hb dX3_columnOf_0 rfl (lv_at hl 0 rfl) ?_
  refine va_get (D := D) (ci := 3) (v := .int (sL 0 4)) (C := RX3) (T := TX3) (N := 7) hx hb hts hinL hown hE.1 hPL 0 rfl rfl 4 (by decide) (hts (.fieldLink RX3 28 "WallStones$Wall" "columns" "I") (List.mem_of_getElem? (i := 1) rfl)) (fun _ h9 => h9) rfl dX3_columnOf_1 ?_
  refine lv_if_le (tgt := 16) hx hb dX3_columnOf_4 (by decide) (fun c_1 => ?_) (fun c_1 => ?_)
  · have hM := hM.trans (if_pos c_1)
    have t_1 := le_t c_1
    rw [tl_0] at t_1
    refine lv_iconst (v := 0) hx hb dX3_columnOf_16 (by decide) ?_
    have hM : (m_L_columnOf sL p1) = (0 : Int32) := hM
    exact hret _ _ ls (nr_i _) dX3_columnOf_17 hM.symm
  · have hM := hM.trans (if_neg c_1)
    have t_1 := nle_t c_1
    rw [tl_0] at t_1
    refine lv_iload_n hx hb dX3_columnOf_7 rfl (lv_at hl 1 rfl) ?_
    refine lv_aload_n hx hb dX3_columnOf_8 rfl (lv_at hl 0 rfl) ?_
    refine va_get (D := D) (ci := 3) (v := .int (sL 0 4)) (C := RX3) (T := TX3) (N := 7) hx hb hts hinL hown hE.1 hPL 0 rfl rfl 4 (by decide) (hts (.fieldLink RX3 28 "WallStones$Wall" "columns" "I") (List.mem_of_getElem? (i := 1) rfl)) (fun _ h9 => h9) rfl dX3_columnOf_9 ?_
    refine lv_irem hx hb dX3_columnOf_12 (ii_ne (b := 0) (by show _ ≠ (0 : Int); omega)) ?_
    refine lv_goto (tgt := 17) hx hb dX3_columnOf_13 (by decide) ?_
    have hM : (m_L_columnOf sL p1) = ((p1 - p1 / (sL 0 4) * (sL 0 4)) : Int32) := hM
    exact hret _ _ ls (nr_i _) dX3_columnOf_17 hM.symm
abbrev rm_L_rowOf : Room := { frames := 0, cells := 0, slots := 0, locals := 0 }
set_option maxHeartbeats 4000000 in
set_option maxRecDepth 100000 in
theorem K_L_rowOf {l : Launch} {D : va_G} {cI : ClassId} {lo : Nat} {g : Nat → Nat} (hg : wI g 12 17 lo) (sL : St) (p1 : Int32) : ROi l D cI lo yX3_rowOf wsX3_rowOf rm_L_rowOf [.ref (g 12), .int p1] (fun H => va_P D vwCl (cellL cI g sL) H) (m_L_rowOf sL p1) := by
  refine ofW_ROi (cc := cX3_rowOf) (maxL := 2) (ty := .int) (by decide +kernel) rfl (Nat.le_of_ble_eq_true rfl) ?_
  intro p e s m args below meth c Q hx hb hml hown hts hE hP hret ls hl
  have hown : s.vm.findClass RX3 = some m.cls := hown
  have hPL := hP
  have hA : ∀ q : Nat, (fun _ : Nat => False) q → lo ≤ q := fun _ h => h.elim
  have hS : va_S (fun _ : Nat => False) s.heap s.heap [] := va_S.rf
  have hinL : ∀ w ∈ wsX30, w ∈ wsX3_rowOf := fun w h => List.mem_cons_of_mem _ (List.mem_append_right _ h)
  have hl : lv_has ls 2 [(0, .ref (g 12)), (1, .int p1)] := hl
  have hM : (m_L_rowOf sL p1) = (m_L_rowOf sL p1) := rfl
  refine lv_aload_n hx hb dX3_rowOf_0 rfl (lv_at hl 0 rfl) ?_
  refine va_get (D := D) (ci := 3) (v := .int (sL 0 4)) (C := RX3) (T := TX3) (N := 7) hx hb hts hinL hown hE.1 hPL 0 rfl rfl 4 (by decide) (hts (.fieldLink RX3 28 "WallStones$Wall" "columns" "I") (List.mem_of_getElem? (i := 1) rfl)) (fun _ h9 => h9) rfl dX3_rowOf_1 ?_
  refine lv_if_le (tgt := 16) hx hb dX3_rowOf_4 (by decide) (fun c_1 => ?_) (fun c_1 => ?_)
  · have hM := hM.trans (if_pos c_1)
    have t_1 := le_t c_1
    rw [tl_0] at t_1
    refine lv_iconst (v := 0) hx hb dX3_rowOf_16 (by decide) ?_
    have hM : (m_L_rowOf sL p1) = (0 : Int32) := hM
    exact hret _ _ ls (nr_i _) dX3_rowOf_17 hM.symm
  · have hM := hM.trans (if_neg c_1)
    have t_1 := nle_t c_1
    rw [tl_0] at t_1
    refine lv_iload_n hx hb dX3_rowOf_7 rfl (lv_at hl 1 rfl) ?_
    refine lv_aload_n hx hb dX3_rowOf_8 rfl (lv_at hl 0 rfl) ?_
    refine va_get (D := D) (ci := 3) (v := .int (sL 0 4)) (C := RX3) (T := TX3) (N := 7) hx hb hts hinL hown hE.1 hPL 0 rfl rfl 4 (by decide) (hts (.fieldLink RX3 28 "WallStones$Wall" "columns" "I") (List.mem_of_getElem? (i := 1) rfl)) (fun _ h9 => h9) rfl dX3_rowOf_9 ?_
    refine lv_idiv hx hb dX3_rowOf_12 (ii_ne (b := 0) (by show _ ≠ (0 : Int); omega)) ?_
    refine lv_goto (tgt := 17) hx hb dX3_rowOf_13 (by decide) ?_
    have hM : (m_L_rowOf sL p1) = ((p1 / (sL 0 4)) : Int32) := hM
    exact hret _ _ ls (nr_i _) dX3_rowOf_17 hM.symm
abbrev rm_L_bestAim : Room := { frames := 5, cells := 0, slots := 0, locals := 122 }
set_option maxHeartbeats 4000000 in
set_option maxRecDepth 100000 in
theorem K_L_bestAim {l : Launch} {D : va_G} {cI : ClassId} {lo : Nat} {g : Nat → Nat} (hg : wI g 12 17 lo) (sL : St) (p1 : Int32) (h0 : okL sL) : WRi l D cI lo yX3_bestAim wsX3_bestAim rm_L_bestAim [.ref (g 12), .int p1] (fun H => va_P D vwCl (cellL cI g sL) H) (m_L_bestAim sL p1).1 (fun H => va_P D vwCl (cellL cI g (m_L_bestAim sL p1).2) H) (wA g 12 17) := by
  refine ofW_WRi (cc := cX3_bestAim) (maxL := 6) (ty := .int) (by decide +kernel) rfl (Nat.le_of_ble_eq_true rfl) ?_
  intro p e s m args below meth c Q hx hb hml hown hts hE hP hret ls hl
  have hown : s.vm.findClass RX3 = some m.cls := hown
  have hPL := hP
  have hA := wA.lo hg
  have hS : va_S (wA g 12 17) s.heap s.heap [] := va_S.rf
  obtain ⟨H, hH⟩ : ∃ z, z = s.heap := ⟨_, rfl⟩
  obtain ⟨locs, hlocs⟩ : ∃ z : List Loc, z = [] := ⟨_, rfl⟩
  have hPL : va_P D vwCl (cellL cI g sL) H := by rw [hH]; exact hPL
  have hS : va_S (wA g 12 17) s.heap H locs := by rw [hH, hlocs]; exact va_S.rf
  have gW : W p l e rm_L_bestAim s m args below meth c H locs 0 0 Q (F0 m 0 ls []) → W p l e rm_L_bestAim s m args below meth c s.heap [] 0 0 Q (F0 m 0 ls []) := by rw [hH, hlocs]; exact id
  refine gW ?_
  have hinL : ∀ w ∈ wsX30, w ∈ wsX3_bestAim := fun w h => List.mem_cons_of_mem _ (List.mem_append_right _ h)
  have hl : lv_has ls 6 [(0, .ref (g 12)), (1, .int p1)] := hl
  have nh0 := okL_lin h0
  have hmu := okL_mul h0
  have L_7 : ∀ (n : Nat) (sL_7 : St) (x2_7 : Int32) (x3_7 : Int32) (x4_7 : Int32) (H : Heap) (locs : List Loc) (ls : Array Slot), 0 ≤ x4_7.toInt ∧ x4_7.toInt ≤ (sL 0 4 * sL 0 5).toInt → okL sL_7 → (sL_7 0 4) = (sL 0 4) ∧ (sL_7 0 5) = (sL 0 5) → ((sL 0 4 * sL 0 5).toInt - x4_7.toInt).toNat < n → va_P D vwCl (cellL cI g sL_7) H → va_S (wA g 12 17) s.heap H locs → lv_has ls 6 [(0, .ref (g 12)), (1, .int p1), (2, .int x2_7), (3, .int x3_7), (4, .int x4_7)] → (∀ (H : Heap) (locs : List Loc) (ls : Array Slot), 0 ≤ (wl (g_L_bestAim_7 p1) n (sL_7, x2_7, x3_7, x4_7)).2.2.2.toInt ∧ (wl (g_L_bestAim_7 p1) n (sL_7, x2_7, x3_7, x4_7)).2.2.2.toInt ≤ (sL 0 4 * sL 0 5).toInt → okL (wl (g_L_bestAim_7 p1) n (sL_7, x2_7, x3_7, x4_7)).1 → ((wl (g_L_bestAim_7 p1) n (sL_7, x2_7, x3_7, x4_7)).1 0 4) = (sL 0 4) ∧ ((wl (g_L_bestAim_7 p1) n (sL_7, x2_7, x3_7, x4_7)).1 0 5) = (sL 0 5) → va_P D vwCl (cellL cI g (wl (g_L_bestAim_7 p1) n (sL_7, x2_7, x3_7, x4_7)).1) H → va_S (wA g 12 17) s.heap H locs → lv_has ls 6 [(2, .int (wl (g_L_bestAim_7 p1) n (sL_7, x2_7, x3_7, x4_7)).2.1)] → W p l e rm_L_bestAim s m args below meth c H locs 0 0 Q (F0 m 58 ls [])) → W p l e rm_L_bestAim s m args below meth c H locs 0 0 Q (F0 m 7 ls []) := by
    intro n
    induction n with
    | zero =>
      intro sL_7 x2_7 x3_7 x4_7 H locs ls i7_0 i7_1 i7_2 hn7 hPL hS hl kk
      exact absurd hn7 (Nat.not_lt_zero _)
    | succ n ih =>
      intro sL_7 x2_7 x3_7 x4_7 H locs ls i7_0 i7_1 i7_2 hn7 hPL hS hl kk
      have ni7_1 := okL_lin i7_1
      have hM : (g_L_bestAim_7 p1) (sL_7, x2_7, x3_7, x4_7) = (g_L_bestAim_7 p1) (sL_7, x2_7, x3_7, x4_7) := rfl
      refine lv_iload hx hb dX3_bestAim_7 (lv_at hl 4 rfl) ?_
      refine lv_aload_n hx hb dX3_bestAim_9 rfl (lv_at hl 0 rfl) ?_
      refine va_get (D := D) (ci := 3) (v := .int (sL_7 0 4)) (C := RX3) (T := TX3) (N := 7) hx hb hts hinL hown hE.1 hPL 0 rfl rfl 4 (by decide) (hts (.fieldLink RX3 28 "WallStones$Wall" "columns" "I") (List.mem_of_getElem? (i := 1) rfl)) (fun _ h9 => h9) rfl dX3_bestAim_10 ?_
      refine lv_aload_n hx hb dX3_bestAim_13 rfl (lv_at hl 0 rfl) ?_
      refine va_get (D := D) (ci := 3) (v := .int (sL_7 0 5)) (C := RX3) (T := TX3) (N := 7) hx hb hts hinL hown hE.1 hPL 0 rfl rfl 5 (by decide) (hts (.fieldLink RX3 32 "WallStones$Wall" "rows" "I") (List.mem_of_getElem? (i := 2) rfl)) (fun _ h9 => h9) rfl dX3_bestAim_14 ?_
      refine lv_imul hx hb dX3_bestAim_17 ?_
      refine lv_icmp_ge (tgt := 58) hx hb dX3_bestAim_18 (by decide) (fun c_1 => ?_) (fun c_1 => ?_)
      · have hM := hM.trans (if_pos c_1)
        have t_1 := le_t c_1
        rw [wl_none hM] at kk
        try dsimp only at kk
        exact kk H locs ls (by omega) (by assumption) (by omega) hPL hS (lv_sub hl [2] rfl)
      · have hM := hM.trans (if_neg c_1)
        have t_1 := nle_t c_1
        rw [i7_2.1, i7_2.2] at t_1
        refine lv_aload_n hx hb dX3_bestAim_21 rfl (lv_at hl 0 rfl) ?_
        refine lv_aload_n hx hb dX3_bestAim_22 rfl (lv_at hl 0 rfl) ?_
        refine lv_iload hx hb dX3_bestAim_23 (lv_at hl 4 rfl) ?_
        refine runS_i (va_runV (As := [.int x4_7]) (rest := [.ref (g 12)]) ⟨hx, hb, hml, hown, hts⟩ (K_L_columnOf hg sL_7 x4_7) (cwV 1 hts gX3_bestAim_X3_columnOf rfl rfl rfl (by decide +kernel) ⟨Nat.le_of_ble_eq_true rfl, Nat.le_of_ble_eq_true rfl⟩) (preV_of hE hA hS hPL (va_recv hE.1 hPL (ci := 3) (q0 := 0) rfl rfl)) rfl rfl hl.1 rfl (lv_room (Nat.le_of_ble_eq_true rfl)) dX3_bestAim_25 ⟨Nat.zero_le _, Nat.zero_le _⟩) ?_
        refine lv_aload_n hx hb dX3_bestAim_28 rfl (lv_at hl 0 rfl) ?_
        refine lv_iload hx hb dX3_bestAim_29 (lv_at hl 4 rfl) ?_
        refine runS_i (va_runV (As := [.int x4_7]) (rest := [.int (m_L_columnOf sL_7 x4_7), .ref (g 12)]) ⟨hx, hb, hml, hown, hts⟩ (K_L_rowOf hg sL_7 x4_7) (cwV 1 hts gX3_bestAim_X3_rowOf rfl rfl rfl (by decide +kernel) ⟨Nat.le_of_ble_eq_true rfl, Nat.le_of_ble_eq_true rfl⟩) (preV_of hE hA hS hPL (va_recv hE.1 hPL (ci := 3) (q0 := 0) rfl rfl)) rfl rfl hl.1 rfl (lv_room (Nat.le_of_ble_eq_true rfl)) dX3_bestAim_31 ⟨Nat.zero_le _, Nat.zero_le _⟩) ?_
        refine lv_iload_n hx hb dX3_bestAim_34 rfl (lv_at hl 1 rfl) ?_
        refine runW_i (va_runV (As := [.int (m_L_columnOf sL_7 x4_7), .int (m_L_rowOf sL_7 x4_7), .int p1]) (rest := []) ⟨hx, hb, hml, hown, hts⟩ (K_L_worthOf hg sL_7 (m_L_columnOf sL_7 x4_7) (m_L_rowOf sL_7 x4_7) p1 (by assumption)) (cwV 3 hts gX3_bestAim_X3_worthOf rfl rfl rfl (by decide +kernel) ⟨Nat.le_of_ble_eq_true rfl, Nat.le_of_ble_eq_true rfl⟩) (preV_of hE hA hS hPL (va_recv hE.1 hPL (ci := 3) (q0 := 0) rfl rfl)) rfl rfl hl.1 rfl (lv_room (Nat.le_of_ble_eq_true rfl)) dX3_bestAim_35 ⟨Nat.zero_le _, Nat.zero_le _⟩) hS (fun _ h9 => h9) (fun H locs hQ hk hS => ?_)
        have hPL : va_P D vwCl (cellL cI g (m_L_worthOf sL_7 (m_L_columnOf sL_7 x4_7) (m_L_rowOf sL_7 x4_7) p1).2) H := hQ
        have v2 : okL (m_L_worthOf sL_7 (m_L_columnOf sL_7 x4_7) (m_L_rowOf sL_7 x4_7) p1).2 := okL_worthOf (by assumption)
        have w2_4 : ((m_L_worthOf sL_7 (m_L_columnOf sL_7 x4_7) (m_L_rowOf sL_7 x4_7) p1).2 0 4).toInt = (sL_7 0 4).toInt := congrArg Int32.toInt (fr_L_worthOf (by omega))
        have w2_5 : ((m_L_worthOf sL_7 (m_L_columnOf sL_7 x4_7) (m_L_rowOf sL_7 x4_7) p1).2 0 5).toInt = (sL_7 0 5).toInt := congrArg Int32.toInt (fr_L_worthOf (by omega))
        refine lv_istore (lv' := [(5, .int (m_L_worthOf sL_7 (m_L_columnOf sL_7 x4_7) (m_L_rowOf sL_7 x4_7) p1).1), (0, .ref (g 12)), (1, .int p1), (2, .int x2_7), (3, .int x3_7), (4, .int x4_7)]) hx hb dX3_bestAim_38 hl (by decide) rfl (fun ls hl => ?_)
        refine lv_iload hx hb dX3_bestAim_40 (lv_at hl 0 rfl) ?_
        refine lv_iload_n hx hb dX3_bestAim_42 rfl (lv_at hl 4 rfl) ?_
        refine lv_icmp_le (tgt := 52) hx hb dX3_bestAim_43 (by decide) (fun c_3 => ?_) (fun c_3 => ?_)
        · have hM := hM.trans (if_pos c_3)
          have t_3 := le_t c_3
          refine lv_iinc (v := (x4_7 + 1)) (lv' := [(4, .int (x4_7 + 1)), (5, .int (m_L_worthOf sL_7 (m_L_columnOf sL_7 x4_7) (m_L_rowOf sL_7 x4_7) p1).1), (0, .ref (g 12)), (1, .int p1), (2, .int x2_7), (3, .int x3_7)]) hx hb dX3_bestAim_52 hl (k := 5) rfl rfl (by decide) rfl (fun ls hl => ?_)
          refine lv_goto (tgt := 7) hx hb dX3_bestAim_55 (by decide) ?_
          have := t_inc (x := x4_7) (by omega)
          rw [wl_some hM] at kk
          exact ih (m_L_worthOf sL_7 (m_L_columnOf sL_7 x4_7) (m_L_rowOf sL_7 x4_7) p1).2 x2_7 x3_7 (x4_7 + 1) H locs ls (by omega) (by assumption) ⟨(fr_L_worthOf (by omega)).trans i7_2.1, (fr_L_worthOf (by omega)).trans i7_2.2⟩ (by omega) hPL hS (lv_sub hl [2, 3, 4, 5, 0] rfl) kk
        · have hM := hM.trans (if_neg c_3)
          have t_3 := nle_t c_3
          refine lv_iload hx hb dX3_bestAim_46 (lv_at hl 0 rfl) ?_
          refine lv_istore_n (lv' := [(3, .int (m_L_worthOf sL_7 (m_L_columnOf sL_7 x4_7) (m_L_rowOf sL_7 x4_7) p1).1), (5, .int (m_L_worthOf sL_7 (m_L_columnOf sL_7 x4_7) (m_L_rowOf sL_7 x4_7) p1).1), (0, .ref (g 12)), (1, .int p1), (2, .int x2_7), (4, .int x4_7)]) hx hb dX3_bestAim_48 rfl hl (by decide) rfl (fun ls hl => ?_)
          refine lv_iload hx hb dX3_bestAim_49 (lv_at hl 5 rfl) ?_
          refine lv_istore_n (lv' := [(2, .int x4_7), (3, .int (m_L_worthOf sL_7 (m_L_columnOf sL_7 x4_7) (m_L_rowOf sL_7 x4_7) p1).1), (5, .int (m_L_worthOf sL_7 (m_L_columnOf sL_7 x4_7) (m_L_rowOf sL_7 x4_7) p1).1), (0, .ref (g 12)), (1, .int p1), (4, .int x4_7)]) hx hb dX3_bestAim_51 rfl hl (by decide) rfl (fun ls hl => ?_)
          refine lv_iinc (v := (x4_7 + 1)) (lv' := [(4, .int (x4_7 + 1)), (2, .int x4_7), (3, .int (m_L_worthOf sL_7 (m_L_columnOf sL_7 x4_7) (m_L_rowOf sL_7 x4_7) p1).1), (5, .int (m_L_worthOf sL_7 (m_L_columnOf sL_7 x4_7) (m_L_rowOf sL_7 x4_7) p1).1), (0, .ref (g 12)), (1, .int p1)]) hx hb dX3_bestAim_52 hl (k := 5) rfl rfl (by decide) rfl (fun ls hl => ?_)
          refine lv_goto (tgt := 7) hx hb dX3_bestAim_55 (by decide) ?_
          have := t_inc (x := x4_7) (by omega)
          rw [wl_some hM] at kk
          exact ih (m_L_worthOf sL_7 (m_L_columnOf sL_7 x4_7) (m_L_rowOf sL_7 x4_7) p1).2 x4_7 (m_L_worthOf sL_7 (m_L_columnOf sL_7 x4_7) (m_L_rowOf sL_7 x4_7) p1).1 (x4_7 + 1) H locs ls (by omega) (by assumption) ⟨(fr_L_worthOf (by omega)).trans i7_2.1, (fr_L_worthOf (by omega)).trans i7_2.2⟩ (by omega) hPL hS (lv_sub hl [4, 5, 1, 2, 0] rfl) kk
  have J_58 : ∀ (sL_58 : St) (x2_58 : Int32) (H : Heap) (locs : List Loc) (ls : Array Slot), va_P D vwCl (cellL cI g sL_58) H → va_S (wA g 12 17) s.heap H locs → lv_has ls 6 [(2, .int x2_58)] → (m_L_bestAim sL p1) = b_L_bestAim_58 sL_58 x2_58 → W p l e rm_L_bestAim s m args below meth c H locs 0 0 Q (F0 m 58 ls []) := by
    intro sL_58 x2_58 H locs ls hPL hS hl hM
    refine lv_iload_n hx hb dX3_bestAim_58 rfl (lv_at hl 0 rfl) ?_
    have hM : (m_L_bestAim sL p1) = ((x2_58, sL_58) : Int32 × St) := hM
    exact hret x2_58 H locs _ ls (nr_i _) dX3_bestAim_59 (ret1 hM) (rP_v1 (P := fun (z0 : St) => va_P D vwCl (cellL cI g z0) H) hM hPL) hS
  have hM : (m_L_bestAim sL p1) = (m_L_bestAim sL p1) := rfl
  refine lv_iconst (v := 0) hx hb dX3_bestAim_0 (by decide) ?_
  refine lv_istore_n (lv' := [(2, .int 0), (0, .ref (g 12)), (1, .int p1)]) hx hb dX3_bestAim_1 rfl hl (by decide) rfl (fun ls hl => ?_)
  refine lv_iconst (v := (-1)) hx hb dX3_bestAim_2 (by decide) ?_
  refine lv_istore_n (lv' := [(3, .int (-1)), (2, .int 0), (0, .ref (g 12)), (1, .int p1)]) hx hb dX3_bestAim_3 rfl hl (by decide) rfl (fun ls hl => ?_)
  refine lv_iconst (v := 0) hx hb dX3_bestAim_4 (by decide) ?_
  refine lv_istore (lv' := [(4, .int 0), (3, .int (-1)), (2, .int 0), (0, .ref (g 12)), (1, .int p1)]) hx hb dX3_bestAim_5 hl (by decide) rfl (fun ls hl => ?_)
  have z4 := tl_m1
  have z5 := tl_0
  refine L_7 49 sL 0 (-1) 0 H locs ls (by omega) (by assumption) ⟨rfl, rfl⟩ (by omega) hPL hS (lv_sub hl [3, 4, 2, 1, 0] rfl) (fun H locs ls k0 k1 k2 hPL hS hl => ?_)
  have nk1 := okL_lin k1
  exact J_58 (wl (g_L_bestAim_7 p1) 49 (sL, 0, (-1), 0)).1 (wl (g_L_bestAim_7 p1) 49 (sL, 0, (-1), 0)).2.1 H locs ls hPL hS (lv_sub hl [0] rfl) hM
