abbrev rm_R_in : Room := { frames := 0, cells := 0, slots := 0, locals := 0 }
set_option maxHeartbeats 4000000 in
set_option maxRecDepth 100000 in
theorem K_R_in {l : Launch} {D : va_G} {cI : ClassId} {lo : Nat} (p0 : Int32) (p1 : Int32) (p2 : Int32) : ROi l D cI lo yX5_in wsX5_in rm_R_in [.int p0, .int p1, .int p2] (fun H => True) (m_R_in p0 p1 p2) := by
  refine ofW_ROi (cc := cX5_in) (maxL := 3) (ty := .boolean) (by decide +kernel) rfl (Nat.le_of_ble_eq_true rfl) ?_
  intro p e s m args below meth c Q hx hb hml hown hts hE hP hret ls hl
  have hown : s.vm.findClass RX5 = some m.cls := hown
  have hA : ∀ q : Nat, (fun _ : Nat => False) q → lo ≤ q := fun _ h => h.elim
  have hS : va_S (fun _ : Nat => False) s.heap s.heap [] := va_S.rf
  have hl : lv_has ls 3 [(0, .int p0), (1, .int p1), (2, .int p2)] := hl
  have hM : (m_R_in p0 p1 p2) = (m_R_in p0 p1 p2) := rfl
  refine lv_iload_n hx hb dX5_in_0 rfl (lv_at hl 0 rfl) ?_
  refine lv_iload_n hx hb dX5_in_1 rfl (lv_at hl 1 rfl) ?_
  refine lv_icmp_lt (tgt := 14) hx hb dX5_in_2 (by decide) (fun c_1 => ?_) (fun c_1 => ?_)
  · have hM := hM.trans (if_pos c_1)
    refine lv_iconst (v := 0) hx hb dX5_in_14 (by decide) ?_
    have hM : (m_R_in p0 p1 p2) = (0 : Int32) := hM
    exact hret _ _ ls (by decide) dX5_in_15 hM.symm
  · have hM := hM.trans (if_neg c_1)
    refine lv_iload_n hx hb dX5_in_5 rfl (lv_at hl 0 rfl) ?_
    refine lv_iload_n hx hb dX5_in_6 rfl (lv_at hl 2 rfl) ?_
    refine lv_icmp_gt (tgt := 14) hx hb dX5_in_7 (by decide) (fun c_2 => ?_) (fun c_2 => ?_)
    · have hM := hM.trans (if_pos c_2)
      refine lv_iconst (v := 0) hx hb dX5_in_14 (by decide) ?_
      have hM : (m_R_in p0 p1 p2) = (0 : Int32) := hM
      exact hret _ _ ls (by decide) dX5_in_15 hM.symm
    · have hM := hM.trans (if_neg c_2)
      refine lv_iconst (v := 1) hx hb dX5_in_10 (by decide) ?_
      refine lv_goto (tgt := 15) hx hb dX5_in_11 (by decide) ?_
      have hM : (m_R_in p0 p1 p2) = (1 : Int32) := hM
      exact hret _ _ ls (by decide) dX5_in_15 hM.symm
abbrev rm_R_size : Room := { frames := 0, cells := 0, slots := 0, locals := 0 }
set_option maxHeartbeats 4000000 in
set_option maxRecDepth 100000 in
theorem K_R_size {l : Launch} {D : va_G} {cI : ClassId} {lo : Nat} (p0 : Int32) : ROi l D cI lo yX5_size wsX5_size rm_R_size [.int p0] (fun H => True) (m_R_size p0) := by
  refine ofW_ROi (cc := cX5_size) (maxL := 1) (ty := .int) (by decide +kernel) rfl (Nat.le_of_ble_eq_true rfl) ?_
  intro p e s m args below meth c Q hx hb hml hown hts hE hP hret ls hl
  have hown : s.vm.findClass RX5 = some m.cls := hown
  have hA : ∀ q : Nat, (fun _ : Nat => False) q → lo ≤ q := fun _ h => h.elim
  have hS : va_S (fun _ : Nat => False) s.heap s.heap [] := va_S.rf
  have hl : lv_has ls 1 [(0, .int p0)] := hl
  have hM : (m_R_size p0) = (m_R_size p0) := rfl
  refine lv_iload_n hx hb dX5_size_0 rfl (lv_at hl 0 rfl) ?_
  refine lv_if_ge (tgt := 9) hx hb dX5_size_1 (by decide) (fun c_1 => ?_) (fun c_1 => ?_)
  · have hM := hM.trans (if_pos c_1)
    refine lv_iload_n hx hb dX5_size_9 rfl (lv_at hl 0 rfl) ?_
    have hM : (m_R_size p0) = (p0 : Int32) := hM
    exact hret _ _ ls (nr_i _) dX5_size_10 hM.symm
  · have hM := hM.trans (if_neg c_1)
    refine lv_iload_n hx hb dX5_size_4 rfl (lv_at hl 0 rfl) ?_
    refine lv_ineg hx hb dX5_size_5 ?_
    refine lv_goto (tgt := 10) hx hb dX5_size_6 (by decide) ?_
    have hM : (m_R_size p0) = ((-p0) : Int32) := hM
    exact hret _ _ ls (nr_i _) dX5_size_10 hM.symm
abbrev rm_R_least : Room := { frames := 0, cells := 0, slots := 0, locals := 0 }
set_option maxHeartbeats 4000000 in
set_option maxRecDepth 100000 in
theorem K_R_least {l : Launch} {D : va_G} {cI : ClassId} {lo : Nat} (p0 : Int32) : ROi l D cI lo yX5_least wsX5_least rm_R_least [.int p0] (fun H => True) (m_R_least p0) := by
  refine ofW_ROi (cc := cX5_least) (maxL := 1) (ty := .int) (by decide +kernel) rfl (Nat.le_of_ble_eq_true rfl) ?_
  intro p e s m args below meth c Q hx hb hml hown hts hE hP hret ls hl
  have hown : s.vm.findClass RX5 = some m.cls := hown
  have hA : ∀ q : Nat, (fun _ : Nat => False) q → lo ≤ q := fun _ h => h.elim
  have hS : va_S (fun _ : Nat => False) s.heap s.heap [] := va_S.rf
  have hl : lv_has ls 1 [(0, .int p0)] := hl
  have hM : (m_R_least p0) = (m_R_least p0) := rfl
  refine lv_iload_n hx hb dX5_least_0 rfl (lv_at hl 0 rfl) ?_
  refine lv_if_ne (tgt := 8) hx hb dX5_least_1 (by decide) (fun c_1 => ?_) (fun c_1 => ?_)
  · have hM := hM.trans (if_neg c_1)
    refine lv_iload_n hx hb dX5_least_8 rfl (lv_at hl 0 rfl) ?_
    refine lv_iconst (v := 1) hx hb dX5_least_9 (by decide) ?_
    refine lv_icmp_ne (tgt := 18) hx hb dX5_least_10 (by decide) (fun c_2 => ?_) (fun c_2 => ?_)
    · have hM := hM.trans (if_neg c_2)
      refine lv_iload_n hx hb dX5_least_18 rfl (lv_at hl 0 rfl) ?_
      refine lv_iconst (v := 2) hx hb dX5_least_19 (by decide) ?_
      refine lv_icmp_ne (tgt := 28) hx hb dX5_least_20 (by decide) (fun c_3 => ?_) (fun c_3 => ?_)
      · have hM := hM.trans (if_neg c_3)
        refine lv_iload_n hx hb dX5_least_28 rfl (lv_at hl 0 rfl) ?_
        refine lv_iconst (v := 3) hx hb dX5_least_29 (by decide) ?_
        refine lv_icmp_eq (tgt := 38) hx hb dX5_least_30 (by decide) (fun c_4 => ?_) (fun c_4 => ?_)
        · have hM := hM.trans (if_pos c_4)
          refine lv_bipush (v := 10) hx hb dX5_least_38 (by decide) ?_
          refine lv_goto (tgt := 54) hx hb dX5_least_40 (by decide) ?_
          have hM : (m_R_least p0) = (10 : Int32) := hM
          exact hret _ _ ls (nr_i _) dX5_least_54 hM.symm
        · have hM := hM.trans (if_neg c_4)
          refine lv_iload_n hx hb dX5_least_33 rfl (lv_at hl 0 rfl) ?_
          refine lv_iconst (v := 5) hx hb dX5_least_34 (by decide) ?_
          refine lv_icmp_ne (tgt := 43) hx hb dX5_least_35 (by decide) (fun c_5 => ?_) (fun c_5 => ?_)
          · have hM := hM.trans (if_neg c_5)
            refine lv_iload_n hx hb dX5_least_43 rfl (lv_at hl 0 rfl) ?_
            refine lv_bipush (v := 7) hx hb dX5_least_44 (by decide) ?_
            refine lv_icmp_ne (tgt := 53) hx hb dX5_least_46 (by decide) (fun c_6 => ?_) (fun c_6 => ?_)
            · have hM := hM.trans (if_neg c_6)
              refine lv_iconst (v := 0) hx hb dX5_least_53 (by decide) ?_
              have hM : (m_R_least p0) = (0 : Int32) := hM
              exact hret _ _ ls (nr_i _) dX5_least_54 hM.symm
            · have hM := hM.trans (if_pos c_6)
              refine lv_iconst (v := 1) hx hb dX5_least_49 (by decide) ?_
              refine lv_goto (tgt := 54) hx hb dX5_least_50 (by decide) ?_
              have hM : (m_R_least p0) = (1 : Int32) := hM
              exact hret _ _ ls (nr_i _) dX5_least_54 hM.symm
          · have hM := hM.trans (if_pos c_5)
            refine lv_bipush (v := 10) hx hb dX5_least_38 (by decide) ?_
            refine lv_goto (tgt := 54) hx hb dX5_least_40 (by decide) ?_
            have hM : (m_R_least p0) = (10 : Int32) := hM
            exact hret _ _ ls (nr_i _) dX5_least_54 hM.symm
      · have hM := hM.trans (if_pos c_3)
        refine lv_bipush (v := 100) hx hb dX5_least_23 (by decide) ?_
        refine lv_goto (tgt := 54) hx hb dX5_least_25 (by decide) ?_
        have hM : (m_R_least p0) = (100 : Int32) := hM
        exact hret _ _ ls (nr_i _) dX5_least_54 hM.symm
    · have hM := hM.trans (if_pos c_2)
      refine lv_bipush (v := 20) hx hb dX5_least_13 (by decide) ?_
      refine lv_goto (tgt := 54) hx hb dX5_least_15 (by decide) ?_
      have hM : (m_R_least p0) = (20 : Int32) := hM
      exact hret _ _ ls (nr_i _) dX5_least_54 hM.symm
  · have hM := hM.trans (if_pos c_1)
    refine lv_iconst (v := 5) hx hb dX5_least_4 (by decide) ?_
    refine lv_goto (tgt := 54) hx hb dX5_least_5 (by decide) ?_
    have hM : (m_R_least p0) = (5 : Int32) := hM
    exact hret _ _ ls (nr_i _) dX5_least_54 hM.symm
abbrev rm_R_most : Room := { frames := 0, cells := 0, slots := 0, locals := 0 }
set_option maxHeartbeats 4000000 in
set_option maxRecDepth 100000 in
theorem K_R_most {l : Launch} {D : va_G} {cI : ClassId} {lo : Nat} (p0 : Int32) : ROi l D cI lo yX5_most wsX5_most rm_R_most [.int p0] (fun H => True) (m_R_most p0) := by
  refine ofW_ROi (cc := cX5_most) (maxL := 1) (ty := .int) (by decide +kernel) rfl (Nat.le_of_ble_eq_true rfl) ?_
  intro p e s m args below meth c Q hx hb hml hown hts hE hP hret ls hl
  have hown : s.vm.findClass RX5 = some m.cls := hown
  have hA : ∀ q : Nat, (fun _ : Nat => False) q → lo ≤ q := fun _ h => h.elim
  have hS : va_S (fun _ : Nat => False) s.heap s.heap [] := va_S.rf
  have hl : lv_has ls 1 [(0, .int p0)] := hl
  have hM : (m_R_most p0) = (m_R_most p0) := rfl
  refine lv_iload_n hx hb dX5_most_0 rfl (lv_at hl 0 rfl) ?_
  refine lv_if_ne (tgt := 9) hx hb dX5_most_1 (by decide) (fun c_1 => ?_) (fun c_1 => ?_)
  · have hM := hM.trans (if_neg c_1)
    refine lv_iload_n hx hb dX5_most_9 rfl (lv_at hl 0 rfl) ?_
    refine lv_iconst (v := 1) hx hb dX5_most_10 (by decide) ?_
    refine lv_icmp_eq (tgt := 19) hx hb dX5_most_11 (by decide) (fun c_2 => ?_) (fun c_2 => ?_)
    · have hM := hM.trans (if_pos c_2)
      refine lv_sipush (v := 160) hx hb dX5_most_19 (by decide) ?_
      refine lv_goto (tgt := 76) hx hb dX5_most_22 (by decide) ?_
      have hM : (m_R_most p0) = (160 : Int32) := hM
      exact hret _ _ ls (nr_i _) dX5_most_76 hM.symm
    · have hM := hM.trans (if_neg c_2)
      refine lv_iload_n hx hb dX5_most_14 rfl (lv_at hl 0 rfl) ?_
      refine lv_iconst (v := 3) hx hb dX5_most_15 (by decide) ?_
      refine lv_icmp_ne (tgt := 25) hx hb dX5_most_16 (by decide) (fun c_3 => ?_) (fun c_3 => ?_)
      · have hM := hM.trans (if_neg c_3)
        refine lv_iload_n hx hb dX5_most_25 rfl (lv_at hl 0 rfl) ?_
        refine lv_iconst (v := 2) hx hb dX5_most_26 (by decide) ?_
        refine lv_icmp_ne (tgt := 36) hx hb dX5_most_27 (by decide) (fun c_4 => ?_) (fun c_4 => ?_)
        · have hM := hM.trans (if_neg c_4)
          refine lv_iload_n hx hb dX5_most_36 rfl (lv_at hl 0 rfl) ?_
          refine lv_iconst (v := 4) hx hb dX5_most_37 (by decide) ?_
          refine lv_icmp_eq (tgt := 46) hx hb dX5_most_38 (by decide) (fun c_5 => ?_) (fun c_5 => ?_)
          · have hM := hM.trans (if_pos c_5)
            refine lv_bipush (v := 60) hx hb dX5_most_46 (by decide) ?_
            refine lv_goto (tgt := 76) hx hb dX5_most_48 (by decide) ?_
            have hM : (m_R_most p0) = (60 : Int32) := hM
            exact hret _ _ ls (nr_i _) dX5_most_76 hM.symm
          · have hM := hM.trans (if_neg c_5)
            refine lv_iload_n hx hb dX5_most_41 rfl (lv_at hl 0 rfl) ?_
            refine lv_iconst (v := 5) hx hb dX5_most_42 (by decide) ?_
            refine lv_icmp_ne (tgt := 51) hx hb dX5_most_43 (by decide) (fun c_6 => ?_) (fun c_6 => ?_)
            · have hM := hM.trans (if_neg c_6)
              refine lv_iload_n hx hb dX5_most_51 rfl (lv_at hl 0 rfl) ?_
              refine lv_bipush (v := 6) hx hb dX5_most_52 (by decide) ?_
              refine lv_icmp_ne (tgt := 63) hx hb dX5_most_54 (by decide) (fun c_7 => ?_) (fun c_7 => ?_)
              · have hM := hM.trans (if_neg c_7)
                refine lv_iload_n hx hb dX5_most_63 rfl (lv_at hl 0 rfl) ?_
                refine lv_bipush (v := 7) hx hb dX5_most_64 (by decide) ?_
                refine lv_icmp_ne (tgt := 75) hx hb dX5_most_66 (by decide) (fun c_8 => ?_) (fun c_8 => ?_)
                · have hM := hM.trans (if_neg c_8)
                  refine lv_iconst (v := 2) hx hb dX5_most_75 (by decide) ?_
                  have hM : (m_R_most p0) = (2 : Int32) := hM
                  exact hret _ _ ls (nr_i _) dX5_most_76 hM.symm
                · have hM := hM.trans (if_pos c_8)
                  refine lv_sipush (v := 300) hx hb dX5_most_69 (by decide) ?_
                  refine lv_goto (tgt := 76) hx hb dX5_most_72 (by decide) ?_
                  have hM : (m_R_most p0) = (300 : Int32) := hM
                  exact hret _ _ ls (nr_i _) dX5_most_76 hM.symm
              · have hM := hM.trans (if_pos c_7)
                refine lv_sipush (v := 900) hx hb dX5_most_57 (by decide) ?_
                refine lv_goto (tgt := 76) hx hb dX5_most_60 (by decide) ?_
                have hM : (m_R_most p0) = (900 : Int32) := hM
                exact hret _ _ ls (nr_i _) dX5_most_76 hM.symm
            · have hM := hM.trans (if_pos c_6)
              refine lv_bipush (v := 60) hx hb dX5_most_46 (by decide) ?_
              refine lv_goto (tgt := 76) hx hb dX5_most_48 (by decide) ?_
              have hM : (m_R_most p0) = (60 : Int32) := hM
              exact hret _ _ ls (nr_i _) dX5_most_76 hM.symm
        · have hM := hM.trans (if_pos c_4)
          refine lv_sipush (v := 9000) hx hb dX5_most_30 (by decide) ?_
          refine lv_goto (tgt := 76) hx hb dX5_most_33 (by decide) ?_
          have hM : (m_R_most p0) = (9000 : Int32) := hM
          exact hret _ _ ls (nr_i _) dX5_most_76 hM.symm
      · have hM := hM.trans (if_pos c_3)
        refine lv_sipush (v := 160) hx hb dX5_most_19 (by decide) ?_
        refine lv_goto (tgt := 76) hx hb dX5_most_22 (by decide) ?_
        have hM : (m_R_most p0) = (160 : Int32) := hM
        exact hret _ _ ls (nr_i _) dX5_most_76 hM.symm
  · have hM := hM.trans (if_pos c_1)
    refine lv_bipush (v := 40) hx hb dX5_most_4 (by decide) ?_
    refine lv_goto (tgt := 76) hx hb dX5_most_6 (by decide) ?_
    have hM : (m_R_most p0) = (40 : Int32) := hM
    exact hret _ _ ls (nr_i _) dX5_most_76 hM.symm
abbrev rm_R_set : Room := { frames := 1, cells := 0, slots := 0, locals := 22 }
set_option maxHeartbeats 4000000 in
set_option maxRecDepth 100000 in
theorem K_R_set {l : Launch} {D : va_G} {cI : ClassId} {lo : Nat} {g : Nat → Nat} (hg : wI g 0 16 lo) (sR : St) (vR : Int64) (p1 : Int32) (p2 : Int32) : WRi l D cI lo yX5_set wsX5_set rm_R_set [.ref (g 0), .int p1, .int p2] (fun H => va_P D vwCl (cellR cI g sR vR) H) (m_R_set sR p1 p2).1 (fun H => va_P D vwCl (cellR cI g (m_R_set sR p1 p2).2 vR) H) (wA g 0 16) := by
  refine ofW_WRi (cc := cX5_set) (maxL := 4) (ty := .int) (by decide +kernel) rfl (Nat.le_of_ble_eq_true rfl) ?_
  intro p e s m args below meth c Q hx hb hml hown hts hE hP hret ls hl
  have hown : s.vm.findClass RX5 = some m.cls := hown
  have hPR := hP
  have hA := wA.lo hg
  have hS : va_S (wA g 0 16) s.heap s.heap [] := va_S.rf
  obtain ⟨H, hH⟩ : ∃ z, z = s.heap := ⟨_, rfl⟩
  obtain ⟨locs, hlocs⟩ : ∃ z : List Loc, z = [] := ⟨_, rfl⟩
  have hPR : va_P D vwCl (cellR cI g sR vR) H := by rw [hH]; exact hPR
  have hS : va_S (wA g 0 16) s.heap H locs := by rw [hH, hlocs]; exact va_S.rf
  have gW : W p l e rm_R_set s m args below meth c H locs 0 0 Q (F0 m 0 ls []) → W p l e rm_R_set s m args below meth c s.heap [] 0 0 Q (F0 m 0 ls []) := by rw [hH, hlocs]; exact id
  refine gW ?_
  have hinR : ∀ w ∈ wsX50, w ∈ wsX5_set := fun w h => List.mem_cons_of_mem _ (List.mem_append_right _ h)
  have hl : lv_has ls 4 [(0, .ref (g 0)), (1, .int p1), (2, .int p2)] := hl
  have hM : (m_R_set sR p1 p2) = (m_R_set sR p1 p2) := rfl
  refine lv_iload_n hx hb dX5_set_0 rfl (lv_at hl 1 rfl) ?_
  refine lv_iconst (v := 0) hx hb dX5_set_1 (by decide) ?_
  refine lv_bipush (v := 8) hx hb dX5_set_2 (by decide) ?_
  refine runS_i (va_runS (As := [.int p1, .int 0, .int 8]) (rest := []) ⟨hx, hb, hml, hown, hts⟩ (K_R_in p1 0 8) (va_cwS 3 hts gX5_set_X5_in rfl rfl rfl (by decide +kernel) ⟨Nat.le_of_ble_eq_true rfl, Nat.le_of_ble_eq_true rfl⟩) (preS_of hE hA hS trivial) rfl rfl hl.1 rfl (lv_room (Nat.le_of_ble_eq_true rfl)) dX5_set_4 ⟨Nat.zero_le _, Nat.zero_le _⟩) ?_
  refine lv_if_eq (tgt := 25) hx hb dX5_set_7 (by decide) (fun c_1 => ?_) (fun c_1 => ?_)
  · have hM := hM.trans (if_pos c_1)
    have t_1 := eq_t c_1
    rw [tl_0] at t_1
    refine lv_iconst (v := (-1)) hx hb dX5_set_25 (by decide) ?_
    have hM : (m_R_set sR p1 p2) = (((-1), sR) : Int32 × St) := hM
    exact hret (-1) H locs _ ls (nr_i _) dX5_set_26 (ret1 hM) (rP_v1 (P := fun (z0 : St) => va_P D vwCl (cellR cI g z0 vR) H) hM hPR) hS
  · have hM := hM.trans (if_neg c_1)
    have t_1 := ne_t c_1
    rw [tl_0] at t_1
    have u_1 := in_t c_1
    rw [tl_0, tl_8] at u_1
    refine lv_iload_n hx hb dX5_set_10 rfl (lv_at hl 2 rfl) ?_
    refine lv_iload_n hx hb dX5_set_11 rfl (lv_at hl 1 rfl) ?_
    refine runS_i (va_runS (As := [.int p1]) (rest := [.int p2]) ⟨hx, hb, hml, hown, hts⟩ (K_R_least p1) (va_cwS 1 hts gX5_set_X5_least rfl rfl rfl (by decide +kernel) ⟨Nat.le_of_ble_eq_true rfl, Nat.le_of_ble_eq_true rfl⟩) (preS_of hE hA hS trivial) rfl rfl hl.1 rfl (lv_room (Nat.le_of_ble_eq_true rfl)) dX5_set_12 ⟨Nat.zero_le _, Nat.zero_le _⟩) ?_
    refine lv_iload_n hx hb dX5_set_15 rfl (lv_at hl 1 rfl) ?_
    refine runS_i (va_runS (As := [.int p1]) (rest := [.int (m_R_least p1), .int p2]) ⟨hx, hb, hml, hown, hts⟩ (K_R_most p1) (va_cwS 1 hts gX5_set_X5_most rfl rfl rfl (by decide +kernel) ⟨Nat.le_of_ble_eq_true rfl, Nat.le_of_ble_eq_true rfl⟩) (preS_of hE hA hS trivial) rfl rfl hl.1 rfl (lv_room (Nat.le_of_ble_eq_true rfl)) dX5_set_16 ⟨Nat.zero_le _, Nat.zero_le _⟩) ?_
    refine runS_i (va_runS (As := [.int p2, .int (m_R_least p1), .int (m_R_most p1)]) (rest := []) ⟨hx, hb, hml, hown, hts⟩ (K_R_in p2 (m_R_least p1) (m_R_most p1)) (va_cwS 3 hts gX5_set_X5_in rfl rfl rfl (by decide +kernel) ⟨Nat.le_of_ble_eq_true rfl, Nat.le_of_ble_eq_true rfl⟩) (preS_of hE hA hS trivial) rfl rfl hl.1 rfl (lv_room (Nat.le_of_ble_eq_true rfl)) dX5_set_19 ⟨Nat.zero_le _, Nat.zero_le _⟩) ?_
    refine lv_if_ne (tgt := 27) hx hb dX5_set_22 (by decide) (fun c_2 => ?_) (fun c_2 => ?_)
    · have hM := hM.trans (if_neg c_2)
      have t_2 := ne_t c_2
      rw [tl_0] at t_2
      have u_2 := in_t c_2
      refine lv_aload_n hx hb dX5_set_27 rfl (lv_at hl 0 rfl) ?_
      refine va_get (D := D) (ci := 5) (v := .ref (g 1)) (C := RX5) (T := TX5) (N := 33) hx hb hts hinR hown hE.1 hPR 0 rfl rfl 0 (by decide) (hts (.fieldLink RX5 7 "WallStonesModel" "told" "[I") (List.mem_of_getElem? (i := 1) rfl)) (fun _ h9 => h9) rfl dX5_set_28 ?_
      refine lv_iload_n hx hb dX5_set_31 rfl (lv_at hl 1 rfl) ?_
      refine va_iald hx hb hE.1 hPR 1 0 rfl rfl (vp_in_iff.mpr (by omega)) dX5_set_32 ?_
      refine W.eq (g2 := F0 m 33 ls [.int (sR 1 (Int32.toNatClampNeg p1))]) rfl ?_
      refine lv_istore_n (lv' := [(3, .int (sR 1 (Int32.toNatClampNeg p1))), (0, .ref (g 0)), (1, .int p1), (2, .int p2)]) hx hb dX5_set_33 rfl hl (by decide) rfl (fun ls hl => ?_)
      refine lv_aload_n hx hb dX5_set_34 rfl (lv_at hl 1 rfl) ?_
      refine va_get (D := D) (ci := 5) (v := .ref (g 1)) (C := RX5) (T := TX5) (N := 33) hx hb hts hinR hown hE.1 hPR 0 rfl rfl 0 (by decide) (hts (.fieldLink RX5 7 "WallStonesModel" "told" "[I") (List.mem_of_getElem? (i := 1) rfl)) (fun _ h9 => h9) rfl dX5_set_35 ?_
      refine lv_iload_n hx hb dX5_set_38 rfl (lv_at hl 2 rfl) ?_
      refine lv_iload_n hx hb dX5_set_39 rfl (lv_at hl 3 rfl) ?_
      refine va_iast hx hb hE.1 hPR (wD_of hg (c := 0) (n := 16) (by decide) (by decide) rfl) hS 1 0 rfl rfl (vp_in_iff.mpr (by omega)) dX5_set_40 (fun H locs hPn _ hS => ?_)
      have hPR : va_P D vwCl (cellR cI g (up sR 1 (Int32.toNatClampNeg p1) p2) vR) H := (congrArg (fun z => va_P D vwCl z H) setR_R1).mp hPn
      refine lv_aload_n hx hb dX5_set_41 rfl (lv_at hl 1 rfl) ?_
      refine lv_iconst (v := 0) hx hb dX5_set_42 (by decide) ?_
      refine va_put (D := D) (ci := 5) (v := .int 0) (ty := .int) (C := RX5) (T := TX5) (N := 33) hx hb hts hinR tyX5 tyX5_ok nmX5 hown hE.1 hPR (wD_of hg (c := 0) (n := 16) (by decide) (by decide) rfl) hS 0 rfl rfl 13 (by decide) (hts (.fieldLink RX5 82 "WallStonesModel" "state" "I") (List.mem_of_getElem? (i := 2) rfl)) (fun _ h9 => h9) rfl (by decide +kernel) rfl rfl (Nat.le_of_ble_eq_true rfl) dX5_set_43 (fun H locs hPn _ hS => ?_)
      have hPR : va_P D vwCl (cellR cI g (up (up sR 1 (Int32.toNatClampNeg p1) p2) 0 13 0) vR) H := (congrArg (fun z => va_P D vwCl z H) putR_R13).mp hPn
      refine lv_iload_n hx hb dX5_set_46 rfl (lv_at hl 0 rfl) ?_
      have hM : (m_R_set sR p1 p2) = (((sR 1 (Int32.toNatClampNeg p1)), (up (up sR 1 (Int32.toNatClampNeg p1) p2) 0 13 0)) : Int32 × St) := hM
      exact hret (sR 1 (Int32.toNatClampNeg p1)) H locs _ ls (nr_i _) dX5_set_47 (ret1 hM) (rP_v1 (P := fun (z0 : St) => va_P D vwCl (cellR cI g z0 vR) H) hM hPR) hS
    · have hM := hM.trans (if_pos c_2)
      have t_2 := eq_t c_2
      rw [tl_0] at t_2
      refine lv_iconst (v := (-1)) hx hb dX5_set_25 (by decide) ?_
      have hM : (m_R_set sR p1 p2) = (((-1), sR) : Int32 × St) := hM
      exact hret (-1) H locs _ ls (nr_i _) dX5_set_26 (ret1 hM) (rP_v1 (P := fun (z0 : St) => va_P D vwCl (cellR cI g z0 vR) H) hM hPR) hS
abbrev rm_R_wind : Room := { frames := 1, cells := 0, slots := 0, locals := 22 }
set_option maxHeartbeats 4000000 in
set_option maxRecDepth 100000 in
theorem K_R_wind {l : Launch} {D : va_G} {cI : ClassId} {lo : Nat} {g : Nat → Nat} (hg : wI g 0 16 lo) (sR : St) (vR : Int64) (p1 : Int32) : WRi l D cI lo yX5_wind wsX5_wind rm_R_wind [.ref (g 0), .int p1] (fun H => va_P D vwCl (cellR cI g sR vR) H) (m_R_wind sR p1).1 (fun H => va_P D vwCl (cellR cI g (m_R_wind sR p1).2 vR) H) (wA g 0 16) := by
  refine ofW_WRi (cc := cX5_wind) (maxL := 3) (ty := .int) (by decide +kernel) rfl (Nat.le_of_ble_eq_true rfl) ?_
  intro p e s m args below meth c Q hx hb hml hown hts hE hP hret ls hl
  have hown : s.vm.findClass RX5 = some m.cls := hown
  have hPR := hP
  have hA := wA.lo hg
  have hS : va_S (wA g 0 16) s.heap s.heap [] := va_S.rf
  obtain ⟨H, hH⟩ : ∃ z, z = s.heap := ⟨_, rfl⟩
  obtain ⟨locs, hlocs⟩ : ∃ z : List Loc, z = [] := ⟨_, rfl⟩
  have hPR : va_P D vwCl (cellR cI g sR vR) H := by rw [hH]; exact hPR
  have hS : va_S (wA g 0 16) s.heap H locs := by rw [hH, hlocs]; exact va_S.rf
  have gW : W p l e rm_R_wind s m args below meth c H locs 0 0 Q (F0 m 0 ls []) → W p l e rm_R_wind s m args below meth c s.heap [] 0 0 Q (F0 m 0 ls []) := by rw [hH, hlocs]; exact id
  refine gW ?_
  have hinR : ∀ w ∈ wsX50, w ∈ wsX5_wind := fun w h => List.mem_cons_of_mem _ (List.mem_append_right _ h)
  have hl : lv_has ls 3 [(0, .ref (g 0)), (1, .int p1)] := hl
  have hM : (m_R_wind sR p1) = (m_R_wind sR p1) := rfl
  refine lv_iload_n hx hb dX5_wind_0 rfl (lv_at hl 1 rfl) ?_
  refine lv_bipush (v := (-20)) hx hb dX5_wind_1 (by decide) ?_
  refine lv_bipush (v := 20) hx hb dX5_wind_3 (by decide) ?_
  refine runS_i (va_runS (As := [.int p1, .int (-20), .int 20]) (rest := []) ⟨hx, hb, hml, hown, hts⟩ (K_R_in p1 (-20) 20) (va_cwS 3 hts gX5_wind_X5_in rfl rfl rfl (by decide +kernel) ⟨Nat.le_of_ble_eq_true rfl, Nat.le_of_ble_eq_true rfl⟩) (preS_of hE hA hS trivial) rfl rfl hl.1 rfl (lv_room (Nat.le_of_ble_eq_true rfl)) dX5_wind_5 ⟨Nat.zero_le _, Nat.zero_le _⟩) ?_
  refine lv_if_ne (tgt := 14) hx hb dX5_wind_8 (by decide) (fun c_1 => ?_) (fun c_1 => ?_)
  · have hM := hM.trans (if_neg c_1)
    have u_1 := in_t c_1
    rw [tl_m20, tl_20] at u_1
    refine lv_aload_n hx hb dX5_wind_14 rfl (lv_at hl 0 rfl) ?_
    refine va_get (D := D) (ci := 5) (v := .int (sR 0 1)) (C := RX5) (T := TX5) (N := 33) hx hb hts hinR hown hE.1 hPR 0 rfl rfl 1 (by decide) (hts (.fieldLink RX5 85 "WallStonesModel" "windNow" "I") (List.mem_of_getElem? (i := 1) rfl)) (fun _ h9 => h9) rfl dX5_wind_15 ?_
    refine lv_istore_n (lv' := [(2, .int (sR 0 1)), (0, .ref (g 0)), (1, .int p1)]) hx hb dX5_wind_18 rfl hl (by decide) rfl (fun ls hl => ?_)
    refine lv_aload_n hx hb dX5_wind_19 rfl (lv_at hl 1 rfl) ?_
    refine lv_iload_n hx hb dX5_wind_20 rfl (lv_at hl 2 rfl) ?_
    refine va_put (D := D) (ci := 5) (v := .int p1) (ty := .int) (C := RX5) (T := TX5) (N := 33) hx hb hts hinR tyX5 tyX5_ok nmX5 hown hE.1 hPR (wD_of hg (c := 0) (n := 16) (by decide) (by decide) rfl) hS 0 rfl rfl 1 (by decide) (hts (.fieldLink RX5 85 "WallStonesModel" "windNow" "I") (List.mem_of_getElem? (i := 1) rfl)) (fun _ h9 => h9) rfl (by decide +kernel) rfl rfl (Nat.le_of_ble_eq_true rfl) dX5_wind_21 (fun H locs hPn _ hS => ?_)
    have hPR : va_P D vwCl (cellR cI g (up sR 0 1 p1) vR) H := (congrArg (fun z => va_P D vwCl z H) putR_R1).mp hPn
    refine lv_iload_n hx hb dX5_wind_24 rfl (lv_at hl 0 rfl) ?_
    have hM : (m_R_wind sR p1) = (((sR 0 1), (up sR 0 1 p1)) : Int32 × St) := hM
    exact hret (sR 0 1) H locs _ ls (nr_i _) dX5_wind_25 (ret1 hM) (rP_v1 (P := fun (z0 : St) => va_P D vwCl (cellR cI g z0 vR) H) hM hPR) hS
  · have hM := hM.trans (if_pos c_1)
    refine lv_bipush (v := (-100)) hx hb dX5_wind_11 (by decide) ?_
    have hM : (m_R_wind sR p1) = (((-100), sR) : Int32 × St) := hM
    exact hret (-100) H locs _ ls (nr_i _) dX5_wind_13 (ret1 hM) (rP_v1 (P := fun (z0 : St) => va_P D vwCl (cellR cI g z0 vR) H) hM hPR) hS
abbrev rm_R_sineOf : Room := { frames := 1, cells := 0, slots := 0, locals := 20 }
set_option maxHeartbeats 4000000 in
set_option maxRecDepth 100000 in
theorem K_R_sineOf {l : Launch} {D : va_G} {cI : ClassId} {lo : Nat} (p0 : Int32) (h0 : -180 ≤ p0.toInt ∧ p0.toInt ≤ 180) : ROi l D cI lo yX5_sineOf wsX5_sineOf rm_R_sineOf [.int p0] (fun H => True) (m_R_sineOf p0) := by
  refine ofW_ROi (cc := cX5_sineOf) (maxL := 3) (ty := .int) (by decide +kernel) rfl (Nat.le_of_ble_eq_true rfl) ?_
  intro p e s m args below meth c Q hx hb hml hown hts hE hP hret ls hl
  have hown : s.vm.findClass RX5 = some m.cls := hown
  have hA : ∀ q : Nat, (fun _ : Nat => False) q → lo ≤ q := fun _ h => h.elim
  have hS : va_S (fun _ : Nat => False) s.heap s.heap [] := va_S.rf
  have hl : lv_has ls 3 [(0, .int p0)] := hl
  have hM : (m_R_sineOf p0) = (m_R_sineOf p0) := rfl
  refine lv_iload_n hx hb dX5_sineOf_0 rfl (lv_at hl 0 rfl) ?_
  refine runS_i (va_runS (As := [.int p0]) (rest := []) ⟨hx, hb, hml, hown, hts⟩ (K_R_size p0) (va_cwS 1 hts gX5_sineOf_X5_size rfl rfl rfl (by decide +kernel) ⟨Nat.le_of_ble_eq_true rfl, Nat.le_of_ble_eq_true rfl⟩) (preS_of hE hA hS trivial) rfl rfl hl.1 rfl (lv_room (Nat.le_of_ble_eq_true rfl)) dX5_sineOf_1 ⟨Nat.zero_le _, Nat.zero_le _⟩) ?_
  refine lv_istore_n (lv' := [(1, .int (m_R_size p0)), (0, .int p0)]) hx hb dX5_sineOf_4 rfl hl (by decide) rfl (fun ls hl => ?_)
  refine lv_sipush (v := 4000) hx hb dX5_sineOf_5 (by decide) ?_
  refine lv_iload_n hx hb dX5_sineOf_8 rfl (lv_at hl 0 rfl) ?_
  refine lv_sipush (v := 180) hx hb dX5_sineOf_9 (by decide) ?_
  refine lv_iload_n hx hb dX5_sineOf_12 rfl (lv_at hl 0 rfl) ?_
  refine lv_isub hx hb dX5_sineOf_13 ?_
  refine lv_imul hx hb dX5_sineOf_14 ?_
  refine lv_imul hx hb dX5_sineOf_15 ?_
  refine lv_ldc (own := RX5) (index := 91) (v := 40500) hx hb hown (hts (.constant RX5 91 (40500)) (List.mem_of_getElem? (i := 1) rfl)) dX5_sineOf_16 ?_
  refine lv_iload_n hx hb dX5_sineOf_18 rfl (lv_at hl 0 rfl) ?_
  refine lv_sipush (v := 180) hx hb dX5_sineOf_19 (by decide) ?_
  refine lv_iload_n hx hb dX5_sineOf_22 rfl (lv_at hl 0 rfl) ?_
  refine lv_isub hx hb dX5_sineOf_23 ?_
  refine lv_imul hx hb dX5_sineOf_24 ?_
  refine lv_isub hx hb dX5_sineOf_25 ?_
  refine lv_idiv hx hb dX5_sineOf_26 (sd_nz h0) ?_
  refine lv_istore_n (lv' := [(2, .int ((4000 * ((m_R_size p0) * (180 - (m_R_size p0)))) / (40500 - ((m_R_size p0) * (180 - (m_R_size p0)))))), (1, .int (m_R_size p0)), (0, .int p0)]) hx hb dX5_sineOf_27 rfl hl (by decide) rfl (fun ls hl => ?_)
  refine lv_iload_n hx hb dX5_sineOf_28 rfl (lv_at hl 2 rfl) ?_
  refine lv_if_ge (tgt := 37) hx hb dX5_sineOf_29 (by decide) (fun c_1 => ?_) (fun c_1 => ?_)
  · have hM := hM.trans (if_pos c_1)
    have t_1 := le_t c_1
    rw [tl_0] at t_1
    refine lv_iload_n hx hb dX5_sineOf_37 rfl (lv_at hl 0 rfl) ?_
    have hM : (m_R_sineOf p0) = (((4000 * ((m_R_size p0) * (180 - (m_R_size p0)))) / (40500 - ((m_R_size p0) * (180 - (m_R_size p0))))) : Int32) := hM
    exact hret _ _ ls (nr_i _) dX5_sineOf_38 hM.symm
  · have hM := hM.trans (if_neg c_1)
    have t_1 := nle_t c_1
    rw [tl_0] at t_1
    refine lv_iload_n hx hb dX5_sineOf_32 rfl (lv_at hl 0 rfl) ?_
    refine lv_ineg hx hb dX5_sineOf_33 ?_
    refine lv_goto (tgt := 38) hx hb dX5_sineOf_34 (by decide) ?_
    have hM : (m_R_sineOf p0) = ((-((4000 * ((m_R_size p0) * (180 - (m_R_size p0)))) / (40500 - ((m_R_size p0) * (180 - (m_R_size p0)))))) : Int32) := hM
    exact hret _ _ ls (nr_i _) dX5_sineOf_38 hM.symm
abbrev rm_R_sine : Room := { frames := 2, cells := 0, slots := 0, locals := 42 }
set_option maxHeartbeats 4000000 in
set_option maxRecDepth 100000 in
theorem K_R_sine {l : Launch} {D : va_G} {cI : ClassId} {lo : Nat} {g : Nat → Nat} (hg : wI g 0 16 lo) (sR : St) (vR : Int64) (p1 : Int32) : ROi l D cI lo yX5_sine wsX5_sine rm_R_sine [.ref (g 0), .int p1] (fun H => va_P D vwCl (cellR cI g sR vR) H) (m_R_sine sR p1) := by
  refine ofW_ROi (cc := cX5_sine) (maxL := 2) (ty := .int) (by decide +kernel) rfl (Nat.le_of_ble_eq_true rfl) ?_
  intro p e s m args below meth c Q hx hb hml hown hts hE hP hret ls hl
  have hown : s.vm.findClass RX5 = some m.cls := hown
  have hPR := hP
  have hA : ∀ q : Nat, (fun _ : Nat => False) q → lo ≤ q := fun _ h => h.elim
  have hS : va_S (fun _ : Nat => False) s.heap s.heap [] := va_S.rf
  have hl : lv_has ls 2 [(0, .ref (g 0)), (1, .int p1)] := hl
  have hM : (m_R_sine sR p1) = (m_R_sine sR p1) := rfl
  refine lv_iload_n hx hb dX5_sine_0 rfl (lv_at hl 1 rfl) ?_
  refine lv_sipush (v := (-180)) hx hb dX5_sine_1 (by decide) ?_
  refine lv_sipush (v := 180) hx hb dX5_sine_4 (by decide) ?_
  refine runS_i (va_runS (As := [.int p1, .int (-180), .int 180]) (rest := []) ⟨hx, hb, hml, hown, hts⟩ (K_R_in p1 (-180) 180) (va_cwS 3 hts gX5_sine_X5_in rfl rfl rfl (by decide +kernel) ⟨Nat.le_of_ble_eq_true rfl, Nat.le_of_ble_eq_true rfl⟩) (preS_of hE hA hS trivial) rfl rfl hl.1 rfl (lv_room (Nat.le_of_ble_eq_true rfl)) dX5_sine_7 ⟨Nat.zero_le _, Nat.zero_le _⟩) ?_
  refine lv_if_eq (tgt := 20) hx hb dX5_sine_10 (by decide) (fun c_1 => ?_) (fun c_1 => ?_)
  · have hM := hM.trans (if_pos c_1)
    have t_1 := eq_t c_1
    rw [tl_0] at t_1
    refine lv_sipush (v := (-2000)) hx hb dX5_sine_20 (by decide) ?_
    have hM : (m_R_sine sR p1) = ((-2000) : Int32) := hM
    exact hret _ _ ls (nr_i _) dX5_sine_23 hM.symm
  · have hM := hM.trans (if_neg c_1)
    have t_1 := ne_t c_1
    rw [tl_0] at t_1
    have u_1 := in_t c_1
    rw [tl_m180, tl_180] at u_1
    refine lv_iload_n hx hb dX5_sine_13 rfl (lv_at hl 1 rfl) ?_
    refine runS_i (va_runS (As := [.int p1]) (rest := []) ⟨hx, hb, hml, hown, hts⟩ (K_R_sineOf p1 (by omega)) (va_cwS 1 hts gX5_sine_X5_sineOf rfl rfl rfl (by decide +kernel) ⟨Nat.le_of_ble_eq_true rfl, Nat.le_of_ble_eq_true rfl⟩) (preS_of hE hA hS trivial) rfl rfl hl.1 rfl (lv_room (Nat.le_of_ble_eq_true rfl)) dX5_sine_14 ⟨Nat.zero_le _, Nat.zero_le _⟩) ?_
    refine lv_goto (tgt := 23) hx hb dX5_sine_17 (by decide) ?_
    have hM : (m_R_sine sR p1) = ((m_R_sineOf p1) : Int32) := hM
    exact hret _ _ ls (nr_i _) dX5_sine_23 hM.symm
abbrev rm_R_givenAt : Room := { frames := 2, cells := 0, slots := 0, locals := 42 }
set_option maxHeartbeats 4000000 in
set_option maxRecDepth 100000 in
theorem K_R_givenAt {l : Launch} {D : va_G} {cI : ClassId} {lo : Nat} {g : Nat → Nat} (hg : wI g 0 16 lo) (sR : St) (vR : Int64) (p1 : Int32) (h0 : okR sR) (h1 : 1 ≤ p1.toInt ∧ p1.toInt ≤ 160) : ROi l D cI lo yX5_givenAt wsX5_givenAt rm_R_givenAt [.ref (g 0), .int p1] (fun H => va_P D vwCl (cellR cI g sR vR) H) (m_R_givenAt sR p1) := by
  refine ofW_ROi (cc := cX5_givenAt) (maxL := 6) (ty := .int) (by decide +kernel) rfl (Nat.le_of_ble_eq_true rfl) ?_
  intro p e s m args below meth c Q hx hb hml hown hts hE hP hret ls hl
  have hown : s.vm.findClass RX5 = some m.cls := hown
  have hPR := hP
  have hA : ∀ q : Nat, (fun _ : Nat => False) q → lo ≤ q := fun _ h => h.elim
  have hS : va_S (fun _ : Nat => False) s.heap s.heap [] := va_S.rf
  have hinR : ∀ w ∈ wsX50, w ∈ wsX5_givenAt := fun w h => List.mem_cons_of_mem _ (List.mem_append_right _ h)
  have hl : lv_has ls 6 [(0, .ref (g 0)), (1, .int p1)] := hl
  have nh0 := okR_lin h0
  have hM : (m_R_givenAt sR p1) = (m_R_givenAt sR p1) := rfl
  refine lv_aload_n hx hb dX5_givenAt_0 rfl (lv_at hl 0 rfl) ?_
  refine va_get (D := D) (ci := 5) (v := .ref (g 1)) (C := RX5) (T := TX5) (N := 33) hx hb hts hinR hown hE.1 hPR 0 rfl rfl 0 (by decide) (hts (.fieldLink RX5 7 "WallStonesModel" "told" "[I") (List.mem_of_getElem? (i := 1) rfl)) (fun _ h9 => h9) rfl dX5_givenAt_1 ?_
  refine lv_iconst (v := 2) hx hb dX5_givenAt_4 (by decide) ?_
  refine va_iald hx hb hE.1 hPR 1 0 rfl rfl (vp_in_iff.mpr (by decide)) dX5_givenAt_5 ?_
  refine W.eq (congrArg (fun z => F0 m 6 ls [.int (sR 1 z)]) cl_2) ?_
  refine lv_aload_n hx hb dX5_givenAt_6 rfl (lv_at hl 0 rfl) ?_
  refine va_get (D := D) (ci := 5) (v := .ref (g 1)) (C := RX5) (T := TX5) (N := 33) hx hb hts hinR hown hE.1 hPR 0 rfl rfl 0 (by decide) (hts (.fieldLink RX5 7 "WallStonesModel" "told" "[I") (List.mem_of_getElem? (i := 1) rfl)) (fun _ h9 => h9) rfl dX5_givenAt_7 ?_
  refine lv_iconst (v := 0) hx hb dX5_givenAt_10 (by decide) ?_
  refine va_iald hx hb hE.1 hPR 1 0 rfl rfl (vp_in_iff.mpr (by decide)) dX5_givenAt_11 ?_
  refine W.eq (congrArg (fun z => F0 m 12 ls [.int (sR 1 z), .int (sR 1 2)]) cl_0) ?_
  refine lv_imul hx hb dX5_givenAt_12 ?_
  refine lv_aload_n hx hb dX5_givenAt_13 rfl (lv_at hl 0 rfl) ?_
  refine va_get (D := D) (ci := 5) (v := .ref (g 1)) (C := RX5) (T := TX5) (N := 33) hx hb hts hinR hown hE.1 hPR 0 rfl rfl 0 (by decide) (hts (.fieldLink RX5 7 "WallStonesModel" "told" "[I") (List.mem_of_getElem? (i := 1) rfl)) (fun _ h9 => h9) rfl dX5_givenAt_14 ?_
  refine lv_bipush (v := 7) hx hb dX5_givenAt_17 (by decide) ?_
  refine va_iald hx hb hE.1 hPR 1 0 rfl rfl (vp_in_iff.mpr (by decide)) dX5_givenAt_19 ?_
  refine W.eq (congrArg (fun z => F0 m 20 ls [.int (sR 1 z), .int ((sR 1 2) * (sR 1 0))]) cl_7) ?_
  refine lv_aload_n hx hb dX5_givenAt_20 rfl (lv_at hl 0 rfl) ?_
  refine va_get (D := D) (ci := 5) (v := .ref (g 1)) (C := RX5) (T := TX5) (N := 33) hx hb hts hinR hown hE.1 hPR 0 rfl rfl 0 (by decide) (hts (.fieldLink RX5 7 "WallStonesModel" "told" "[I") (List.mem_of_getElem? (i := 1) rfl)) (fun _ h9 => h9) rfl dX5_givenAt_21 ?_
  refine lv_iconst (v := 1) hx hb dX5_givenAt_24 (by decide) ?_
  refine va_iald hx hb hE.1 hPR 1 0 rfl rfl (vp_in_iff.mpr (by decide)) dX5_givenAt_25 ?_
  refine W.eq (congrArg (fun z => F0 m 26 ls [.int (sR 1 z), .int (sR 1 7), .int ((sR 1 2) * (sR 1 0))]) cl_1) ?_
  refine lv_imul hx hb dX5_givenAt_26 ?_
  refine lv_isub hx hb dX5_givenAt_27 ?_
  refine lv_i2l (v := (Int32.toInt64 (((sR 1 2) * (sR 1 0)) - ((sR 1 7) * (sR 1 1))))) hx hb dX5_givenAt_28 rfl ?_
  refine lv_iload_n hx hb dX5_givenAt_29 rfl (lv_at hl 1 rfl) ?_
  refine lv_aload_n hx hb dX5_givenAt_30 rfl (lv_at hl 0 rfl) ?_
  refine va_get (D := D) (ci := 5) (v := .ref (g 1)) (C := RX5) (T := TX5) (N := 33) hx hb hts hinR hown hE.1 hPR 0 rfl rfl 0 (by decide) (hts (.fieldLink RX5 7 "WallStonesModel" "told" "[I") (List.mem_of_getElem? (i := 1) rfl)) (fun _ h9 => h9) rfl dX5_givenAt_31 ?_
  refine lv_iconst (v := 5) hx hb dX5_givenAt_34 (by decide) ?_
  refine va_iald hx hb hE.1 hPR 1 0 rfl rfl (vp_in_iff.mpr (by decide)) dX5_givenAt_35 ?_
  refine W.eq (congrArg (fun z => F0 m 36 ls [.int (sR 1 z), .int p1, .long (Int32.toInt64 (((sR 1 2) * (sR 1 0)) - ((sR 1 7) * (sR 1 1))))]) cl_5) ?_
  refine lv_isub hx hb dX5_givenAt_36 ?_
  refine runS_i (va_runS (As := [.int (p1 - (sR 1 5))]) (rest := [.long (Int32.toInt64 (((sR 1 2) * (sR 1 0)) - ((sR 1 7) * (sR 1 1))))]) ⟨hx, hb, hml, hown, hts⟩ (K_R_sineOf (p1 - (sR 1 5)) (sub_b (by omega) (by omega))) (va_cwS 1 hts gX5_givenAt_X5_sineOf rfl rfl rfl (by decide +kernel) ⟨Nat.le_of_ble_eq_true rfl, Nat.le_of_ble_eq_true rfl⟩) (preS_of hE hA hS trivial) rfl rfl hl.1 rfl (lv_room (Nat.le_of_ble_eq_true rfl)) dX5_givenAt_37 ⟨Nat.zero_le _, Nat.zero_le _⟩) ?_
  refine lv_aload_n hx hb dX5_givenAt_40 rfl (lv_at hl 0 rfl) ?_
  refine va_get (D := D) (ci := 5) (v := .ref (g 1)) (C := RX5) (T := TX5) (N := 33) hx hb hts hinR hown hE.1 hPR 0 rfl rfl 0 (by decide) (hts (.fieldLink RX5 7 "WallStonesModel" "told" "[I") (List.mem_of_getElem? (i := 1) rfl)) (fun _ h9 => h9) rfl dX5_givenAt_41 ?_
  refine lv_iconst (v := 5) hx hb dX5_givenAt_44 (by decide) ?_
  refine va_iald hx hb hE.1 hPR 1 0 rfl rfl (vp_in_iff.mpr (by decide)) dX5_givenAt_45 ?_
  refine W.eq (congrArg (fun z => F0 m 46 ls [.int (sR 1 z), .int (m_R_sineOf (p1 - (sR 1 5))), .long (Int32.toInt64 (((sR 1 2) * (sR 1 0)) - ((sR 1 7) * (sR 1 1))))]) cl_5) ?_
  refine runS_i (va_runS (As := [.int (sR 1 5)]) (rest := [.int (m_R_sineOf (p1 - (sR 1 5))), .long (Int32.toInt64 (((sR 1 2) * (sR 1 0)) - ((sR 1 7) * (sR 1 1))))]) ⟨hx, hb, hml, hown, hts⟩ (K_R_sineOf (sR 1 5) (by omega)) (va_cwS 1 hts gX5_givenAt_X5_sineOf rfl rfl rfl (by decide +kernel) ⟨Nat.le_of_ble_eq_true rfl, Nat.le_of_ble_eq_true rfl⟩) (preS_of hE hA hS trivial) rfl rfl hl.1 rfl (lv_room (Nat.le_of_ble_eq_true rfl)) dX5_givenAt_46 ⟨Nat.zero_le _, Nat.zero_le _⟩) ?_
  refine lv_iadd hx hb dX5_givenAt_49 ?_
  refine lv_i2l (v := (Int32.toInt64 ((m_R_sineOf (p1 - (sR 1 5))) + (m_R_sineOf (sR 1 5))))) hx hb dX5_givenAt_50 rfl ?_
  refine lv_lmul hx hb dX5_givenAt_51 ?_
  refine lv_lstore_n (lv' := [(2, .long ((Int32.toInt64 (((sR 1 2) * (sR 1 0)) - ((sR 1 7) * (sR 1 1)))) * (Int32.toInt64 ((m_R_sineOf (p1 - (sR 1 5))) + (m_R_sineOf (sR 1 5)))))), (0, .ref (g 0)), (1, .int p1)]) hx hb dX5_givenAt_52 rfl hl (by decide) rfl (fun ls hl => ?_)
  refine lv_lload_n hx hb dX5_givenAt_53 rfl (lv_at hl 0 rfl) ?_
  refine lv_ldc2 (own := RX5) (index := 95) (v := 1000) hx hb hown (hts (.constantLong RX5 95 (1000)) (List.mem_of_getElem? (i := 2) rfl)) dX5_givenAt_54 ?_
  refine lv_ldiv hx hb dX5_givenAt_57 (by decide) ?_
  refine lv_lstore (lv' := [(4, .long (((Int32.toInt64 (((sR 1 2) * (sR 1 0)) - ((sR 1 7) * (sR 1 1)))) * (Int32.toInt64 ((m_R_sineOf (p1 - (sR 1 5))) + (m_R_sineOf (sR 1 5))))) / 1000)), (2, .long ((Int32.toInt64 (((sR 1 2) * (sR 1 0)) - ((sR 1 7) * (sR 1 1)))) * (Int32.toInt64 ((m_R_sineOf (p1 - (sR 1 5))) + (m_R_sineOf (sR 1 5)))))), (0, .ref (g 0)), (1, .int p1)]) hx hb dX5_givenAt_58 hl (by decide) rfl (fun ls hl => ?_)
  refine lv_lload hx hb dX5_givenAt_60 (lv_at hl 0 rfl) ?_
  refine lv_lload_n hx hb dX5_givenAt_62 rfl (lv_at hl 1 rfl) ?_
  refine lv_lconst (v := 0) hx hb dX5_givenAt_63 (by decide) ?_
  refine W.lcmp hx hb dX5_givenAt_64 ?_
  refine lv_if_ge (tgt := 82) hx hb dX5_givenAt_65 (by decide) (fun c_1 => ?_) (fun c_1 => ?_)
  · have hM := hM.trans (if_pos c_1)
    refine lv_lconst (v := 0) hx hb dX5_givenAt_82 (by decide) ?_
    refine lv_lsub hx hb dX5_givenAt_83 ?_
    refine lv_lstore (lv' := [(4, .long ((((Int32.toInt64 (((sR 1 2) * (sR 1 0)) - ((sR 1 7) * (sR 1 1)))) * (Int32.toInt64 ((m_R_sineOf (p1 - (sR 1 5))) + (m_R_sineOf (sR 1 5))))) / 1000) - 0)), (2, .long ((Int32.toInt64 (((sR 1 2) * (sR 1 0)) - ((sR 1 7) * (sR 1 1)))) * (Int32.toInt64 ((m_R_sineOf (p1 - (sR 1 5))) + (m_R_sineOf (sR 1 5)))))), (0, .ref (g 0)), (1, .int p1)]) hx hb dX5_givenAt_84 hl (by decide) rfl (fun ls hl => ?_)
    refine lv_lload hx hb dX5_givenAt_86 (lv_at hl 0 rfl) ?_
    refine lv_l2i (v := (Int64.toInt32 ((((Int32.toInt64 (((sR 1 2) * (sR 1 0)) - ((sR 1 7) * (sR 1 1)))) * (Int32.toInt64 ((m_R_sineOf (p1 - (sR 1 5))) + (m_R_sineOf (sR 1 5))))) / 1000) - 0))) hx hb dX5_givenAt_88 rfl ?_
    refine lv_aload_n hx hb dX5_givenAt_89 rfl (lv_at hl 2 rfl) ?_
    refine va_get (D := D) (ci := 5) (v := .ref (g 1)) (C := RX5) (T := TX5) (N := 33) hx hb hts hinR hown hE.1 hPR 0 rfl rfl 0 (by decide) (hts (.fieldLink RX5 7 "WallStonesModel" "told" "[I") (List.mem_of_getElem? (i := 1) rfl)) (fun _ h9 => h9) rfl dX5_givenAt_90 ?_
    refine lv_bipush (v := 6) hx hb dX5_givenAt_93 (by decide) ?_
    refine va_iald hx hb hE.1 hPR 1 0 rfl rfl (vp_in_iff.mpr (by decide)) dX5_givenAt_95 ?_
    refine W.eq (congrArg (fun z => F0 m 96 ls [.int (sR 1 z), .int (Int64.toInt32 ((((Int32.toInt64 (((sR 1 2) * (sR 1 0)) - ((sR 1 7) * (sR 1 1)))) * (Int32.toInt64 ((m_R_sineOf (p1 - (sR 1 5))) + (m_R_sineOf (sR 1 5))))) / 1000) - 0))]) cl_6) ?_
    refine lv_iload_n hx hb dX5_givenAt_96 rfl (lv_at hl 3 rfl) ?_
    refine lv_imul hx hb dX5_givenAt_97 ?_
    refine lv_isub hx hb dX5_givenAt_98 ?_
    have hM : (m_R_givenAt sR p1) = (((Int64.toInt32 ((((Int32.toInt64 (((sR 1 2) * (sR 1 0)) - ((sR 1 7) * (sR 1 1)))) * (Int32.toInt64 ((m_R_sineOf (p1 - (sR 1 5))) + (m_R_sineOf (sR 1 5))))) / 1000) - 0)) - ((sR 1 6) * p1)) : Int32) := hM
    exact hret _ _ ls (nr_i _) dX5_givenAt_99 hM.symm
  · have hM := hM.trans (if_neg c_1)
    refine lv_lload_n hx hb dX5_givenAt_68 rfl (lv_at hl 1 rfl) ?_
    refine lv_ldc2 (own := RX5) (index := 95) (v := 1000) hx hb hown (hts (.constantLong RX5 95 (1000)) (List.mem_of_getElem? (i := 2) rfl)) dX5_givenAt_69 ?_
    refine lv_lrem hx hb dX5_givenAt_72 (by decide) ?_
    refine lv_lconst (v := 0) hx hb dX5_givenAt_73 (by decide) ?_
    refine W.lcmp hx hb dX5_givenAt_74 ?_
    refine lv_if_eq (tgt := 82) hx hb dX5_givenAt_75 (by decide) (fun c_2 => ?_) (fun c_2 => ?_)
    · have hM := hM.trans (if_pos c_2)
      refine lv_lconst (v := 0) hx hb dX5_givenAt_82 (by decide) ?_
      refine lv_lsub hx hb dX5_givenAt_83 ?_
      refine lv_lstore (lv' := [(4, .long ((((Int32.toInt64 (((sR 1 2) * (sR 1 0)) - ((sR 1 7) * (sR 1 1)))) * (Int32.toInt64 ((m_R_sineOf (p1 - (sR 1 5))) + (m_R_sineOf (sR 1 5))))) / 1000) - 0)), (2, .long ((Int32.toInt64 (((sR 1 2) * (sR 1 0)) - ((sR 1 7) * (sR 1 1)))) * (Int32.toInt64 ((m_R_sineOf (p1 - (sR 1 5))) + (m_R_sineOf (sR 1 5)))))), (0, .ref (g 0)), (1, .int p1)]) hx hb dX5_givenAt_84 hl (by decide) rfl (fun ls hl => ?_)
      refine lv_lload hx hb dX5_givenAt_86 (lv_at hl 0 rfl) ?_
      refine lv_l2i (v := (Int64.toInt32 ((((Int32.toInt64 (((sR 1 2) * (sR 1 0)) - ((sR 1 7) * (sR 1 1)))) * (Int32.toInt64 ((m_R_sineOf (p1 - (sR 1 5))) + (m_R_sineOf (sR 1 5))))) / 1000) - 0))) hx hb dX5_givenAt_88 rfl ?_
      refine lv_aload_n hx hb dX5_givenAt_89 rfl (lv_at hl 2 rfl) ?_
      refine va_get (D := D) (ci := 5) (v := .ref (g 1)) (C := RX5) (T := TX5) (N := 33) hx hb hts hinR hown hE.1 hPR 0 rfl rfl 0 (by decide) (hts (.fieldLink RX5 7 "WallStonesModel" "told" "[I") (List.mem_of_getElem? (i := 1) rfl)) (fun _ h9 => h9) rfl dX5_givenAt_90 ?_
      refine lv_bipush (v := 6) hx hb dX5_givenAt_93 (by decide) ?_
      refine va_iald hx hb hE.1 hPR 1 0 rfl rfl (vp_in_iff.mpr (by decide)) dX5_givenAt_95 ?_
      refine W.eq (congrArg (fun z => F0 m 96 ls [.int (sR 1 z), .int (Int64.toInt32 ((((Int32.toInt64 (((sR 1 2) * (sR 1 0)) - ((sR 1 7) * (sR 1 1)))) * (Int32.toInt64 ((m_R_sineOf (p1 - (sR 1 5))) + (m_R_sineOf (sR 1 5))))) / 1000) - 0))]) cl_6) ?_
      refine lv_iload_n hx hb dX5_givenAt_96 rfl (lv_at hl 3 rfl) ?_
      refine lv_imul hx hb dX5_givenAt_97 ?_
      refine lv_isub hx hb dX5_givenAt_98 ?_
      have hM : (m_R_givenAt sR p1) = (((Int64.toInt32 ((((Int32.toInt64 (((sR 1 2) * (sR 1 0)) - ((sR 1 7) * (sR 1 1)))) * (Int32.toInt64 ((m_R_sineOf (p1 - (sR 1 5))) + (m_R_sineOf (sR 1 5))))) / 1000) - 0)) - ((sR 1 6) * p1)) : Int32) := hM
      exact hret _ _ ls (nr_i _) dX5_givenAt_99 hM.symm
    · have hM := hM.trans (if_neg c_2)
      refine lv_lconst (v := 1) hx hb dX5_givenAt_78 (by decide) ?_
      refine lv_goto (tgt := 83) hx hb dX5_givenAt_79 (by decide) ?_
      refine lv_lsub hx hb dX5_givenAt_83 ?_
      refine lv_lstore (lv' := [(4, .long ((((Int32.toInt64 (((sR 1 2) * (sR 1 0)) - ((sR 1 7) * (sR 1 1)))) * (Int32.toInt64 ((m_R_sineOf (p1 - (sR 1 5))) + (m_R_sineOf (sR 1 5))))) / 1000) - 1)), (2, .long ((Int32.toInt64 (((sR 1 2) * (sR 1 0)) - ((sR 1 7) * (sR 1 1)))) * (Int32.toInt64 ((m_R_sineOf (p1 - (sR 1 5))) + (m_R_sineOf (sR 1 5)))))), (0, .ref (g 0)), (1, .int p1)]) hx hb dX5_givenAt_84 hl (by decide) rfl (fun ls hl => ?_)
      refine lv_lload hx hb dX5_givenAt_86 (lv_at hl 0 rfl) ?_
      refine lv_l2i (v := (Int64.toInt32 ((((Int32.toInt64 (((sR 1 2) * (sR 1 0)) - ((sR 1 7) * (sR 1 1)))) * (Int32.toInt64 ((m_R_sineOf (p1 - (sR 1 5))) + (m_R_sineOf (sR 1 5))))) / 1000) - 1))) hx hb dX5_givenAt_88 rfl ?_
      refine lv_aload_n hx hb dX5_givenAt_89 rfl (lv_at hl 2 rfl) ?_
      refine va_get (D := D) (ci := 5) (v := .ref (g 1)) (C := RX5) (T := TX5) (N := 33) hx hb hts hinR hown hE.1 hPR 0 rfl rfl 0 (by decide) (hts (.fieldLink RX5 7 "WallStonesModel" "told" "[I") (List.mem_of_getElem? (i := 1) rfl)) (fun _ h9 => h9) rfl dX5_givenAt_90 ?_
      refine lv_bipush (v := 6) hx hb dX5_givenAt_93 (by decide) ?_
      refine va_iald hx hb hE.1 hPR 1 0 rfl rfl (vp_in_iff.mpr (by decide)) dX5_givenAt_95 ?_
      refine W.eq (congrArg (fun z => F0 m 96 ls [.int (sR 1 z), .int (Int64.toInt32 ((((Int32.toInt64 (((sR 1 2) * (sR 1 0)) - ((sR 1 7) * (sR 1 1)))) * (Int32.toInt64 ((m_R_sineOf (p1 - (sR 1 5))) + (m_R_sineOf (sR 1 5))))) / 1000) - 1))]) cl_6) ?_
      refine lv_iload_n hx hb dX5_givenAt_96 rfl (lv_at hl 3 rfl) ?_
      refine lv_imul hx hb dX5_givenAt_97 ?_
      refine lv_isub hx hb dX5_givenAt_98 ?_
      have hM : (m_R_givenAt sR p1) = (((Int64.toInt32 ((((Int32.toInt64 (((sR 1 2) * (sR 1 0)) - ((sR 1 7) * (sR 1 1)))) * (Int32.toInt64 ((m_R_sineOf (p1 - (sR 1 5))) + (m_R_sineOf (sR 1 5))))) / 1000) - 1)) - ((sR 1 6) * p1)) : Int32) := hM
      exact hret _ _ ls (nr_i _) dX5_givenAt_99 hM.symm
abbrev rm_R_flightOf : Room := { frames := 0, cells := 0, slots := 0, locals := 0 }
set_option maxHeartbeats 4000000 in
set_option maxRecDepth 100000 in
theorem K_R_flightOf {l : Launch} {D : va_G} {cI : ClassId} {lo : Nat} {g : Nat → Nat} (hg : wI g 0 16 lo) (sR : St) (vR : Int64) (p1 : Int32) (p2 : Int32) (h0 : okR sR) : ROi l D cI lo yX5_flightOf wsX5_flightOf rm_R_flightOf [.ref (g 0), .int p1, .int p2] (fun H => va_P D vwCl (cellR cI g sR vR) H) (m_R_flightOf sR p1 p2) := by
  refine ofW_ROi (cc := cX5_flightOf) (maxL := 4) (ty := .int) (by decide +kernel) rfl (Nat.le_of_ble_eq_true rfl) ?_
  intro p e s m args below meth c Q hx hb hml hown hts hE hP hret ls hl
  have hown : s.vm.findClass RX5 = some m.cls := hown
  have hPR := hP
  have hA : ∀ q : Nat, (fun _ : Nat => False) q → lo ≤ q := fun _ h => h.elim
  have hS : va_S (fun _ : Nat => False) s.heap s.heap [] := va_S.rf
  have hinR : ∀ w ∈ wsX50, w ∈ wsX5_flightOf := fun w h => List.mem_cons_of_mem _ (List.mem_append_right _ h)
  have hl : lv_has ls 4 [(0, .ref (g 0)), (1, .int p1), (2, .int p2)] := hl
  have nh0 := okR_lin h0
  have J_65 : ∀ (x3_65 : Int32) (ls : Array Slot), lv_has ls 4 [(3, .int x3_65)] → (m_R_flightOf sR p1 p2) = b_R_flightOf_65 sR x3_65 → W p l e rm_R_flightOf s m args below meth c s.heap [] 0 0 Q (F0 m 65 ls []) := by
    intro x3_65 ls hl hM
    refine lv_iload_n hx hb dX5_flightOf_65 rfl (lv_at hl 0 rfl) ?_
    refine lv_if_ge (tgt := 73) hx hb dX5_flightOf_66 (by decide) (fun c_1 => ?_) (fun c_1 => ?_)
    · have hM := hM.trans (if_pos c_1)
      have t_1 := le_t c_1
      rw [tl_0] at t_1
      refine lv_iload_n hx hb dX5_flightOf_73 rfl (lv_at hl 0 rfl) ?_
      refine lv_istore_n (lv' := [(3, .int x3_65)]) hx hb dX5_flightOf_74 rfl hl (by decide) rfl (fun ls hl => ?_)
      refine lv_iload_n hx hb dX5_flightOf_75 rfl (lv_at hl 0 rfl) ?_
      have hM : (m_R_flightOf sR p1 p2) = (x3_65 : Int32) := hM
      exact hret _ _ ls (nr_i _) dX5_flightOf_76 hM.symm
    · have hM := hM.trans (if_neg c_1)
      have t_1 := nle_t c_1
      rw [tl_0] at t_1
      refine lv_iconst (v := 0) hx hb dX5_flightOf_69 (by decide) ?_
      refine lv_goto (tgt := 74) hx hb dX5_flightOf_70 (by decide) ?_
      refine lv_istore_n (lv' := [(3, .int 0)]) hx hb dX5_flightOf_74 rfl hl (by decide) rfl (fun ls hl => ?_)
      refine lv_iload_n hx hb dX5_flightOf_75 rfl (lv_at hl 0 rfl) ?_
      have hM : (m_R_flightOf sR p1 p2) = (0 : Int32) := hM
      exact hret _ _ ls (nr_i _) dX5_flightOf_76 hM.symm
  have J_49 : ∀ (x3_49 : Int32) (ls : Array Slot), lv_has ls 4 [(1, .int p1), (3, .int x3_49)] → (m_R_flightOf sR p1 p2) = b_R_flightOf_49 sR p1 x3_49 → W p l e rm_R_flightOf s m args below meth c s.heap [] 0 0 Q (F0 m 49 ls []) := by
    intro x3_49 ls hl hM
    refine lv_iload_n hx hb dX5_flightOf_49 rfl (lv_at hl 0 rfl) ?_
    refine lv_iconst (v := 2) hx hb dX5_flightOf_50 (by decide) ?_
    refine lv_icmp_ne (tgt := 75) hx hb dX5_flightOf_51 (by decide) (fun c_2 => ?_) (fun c_2 => ?_)
    · have hM := hM.trans (if_neg c_2)
      have t_2 := ne_t c_2
      rw [tl_2] at t_2
      refine lv_iload_n hx hb dX5_flightOf_75 rfl (lv_at hl 1 rfl) ?_
      have hM : (m_R_flightOf sR p1 p2) = (x3_49 : Int32) := hM
      exact hret _ _ ls (nr_i _) dX5_flightOf_76 hM.symm
    · have hM := hM.trans (if_pos c_2)
      have t_2 := eq_t c_2
      rw [tl_2] at t_2
      refine lv_iload_n hx hb dX5_flightOf_54 rfl (lv_at hl 1 rfl) ?_
      refine lv_iload_n hx hb dX5_flightOf_55 rfl (lv_at hl 1 rfl) ?_
      refine lv_bipush (v := 25) hx hb dX5_flightOf_56 (by decide) ?_
      refine lv_idiv hx hb dX5_flightOf_58 (by decide) ?_
      refine lv_iconst (v := 2) hx hb dX5_flightOf_59 (by decide) ?_
      refine lv_imul hx hb dX5_flightOf_60 ?_
      refine lv_iconst (v := 3) hx hb dX5_flightOf_61 (by decide) ?_
      refine lv_iadd hx hb dX5_flightOf_62 ?_
      refine lv_isub hx hb dX5_flightOf_63 ?_
      refine lv_istore_n (lv' := [(3, .int (x3_49 - (((x3_49 / 25) * 2) + 3))), (1, .int p1)]) hx hb dX5_flightOf_64 rfl hl (by decide) rfl (fun ls hl => ?_)
      exact J_65 (x3_49 - (((x3_49 / 25) * 2) + 3)) ls (lv_sub hl [0] rfl) hM
  have J_31 : ∀ (x3_31 : Int32) (ls : Array Slot), lv_has ls 4 [(1, .int p1), (3, .int x3_31)] → (m_R_flightOf sR p1 p2) = b_R_flightOf_31 sR p1 x3_31 → W p l e rm_R_flightOf s m args below meth c s.heap [] 0 0 Q (F0 m 31 ls []) := by
    intro x3_31 ls hl hM
    refine lv_iload_n hx hb dX5_flightOf_31 rfl (lv_at hl 0 rfl) ?_
    refine lv_if_le (tgt := 47) hx hb dX5_flightOf_32 (by decide) (fun c_3 => ?_) (fun c_3 => ?_)
    · have hM := hM.trans (if_pos c_3)
      have t_3 := le_t c_3
      rw [tl_0] at t_3
      refine lv_iload_n hx hb dX5_flightOf_47 rfl (lv_at hl 1 rfl) ?_
      refine lv_istore_n (lv' := [(3, .int x3_31), (1, .int p1)]) hx hb dX5_flightOf_48 rfl hl (by decide) rfl (fun ls hl => ?_)
      exact J_49 x3_31 ls (lv_sub hl [1, 0] rfl) hM
    · have hM := hM.trans (if_neg c_3)
      have t_3 := nle_t c_3
      rw [tl_0] at t_3
      refine lv_iload_n hx hb dX5_flightOf_35 rfl (lv_at hl 1 rfl) ?_
      refine lv_iload_n hx hb dX5_flightOf_36 rfl (lv_at hl 1 rfl) ?_
      refine lv_bipush (v := 7) hx hb dX5_flightOf_37 (by decide) ?_
      refine lv_iadd hx hb dX5_flightOf_39 ?_
      refine lv_bipush (v := 8) hx hb dX5_flightOf_40 (by decide) ?_
      refine lv_idiv hx hb dX5_flightOf_42 (by decide) ?_
      refine lv_isub hx hb dX5_flightOf_43 ?_
      refine lv_goto (tgt := 48) hx hb dX5_flightOf_44 (by decide) ?_
      refine lv_istore_n (lv' := [(3, .int (x3_31 - ((x3_31 + 7) / 8))), (1, .int p1)]) hx hb dX5_flightOf_48 rfl hl (by decide) rfl (fun ls hl => ?_)
      exact J_49 (x3_31 - ((x3_31 + 7) / 8)) ls (lv_sub hl [1, 0] rfl) hM
  have J_21 : ∀ (x3_21 : Int32) (ls : Array Slot), lv_has ls 4 [(1, .int p1), (3, .int x3_21)] → (m_R_flightOf sR p1 p2) = b_R_flightOf_21 sR p1 x3_21 → W p l e rm_R_flightOf s m args below meth c s.heap [] 0 0 Q (F0 m 21 ls []) := by
    intro x3_21 ls hl hM
    refine lv_iload_n hx hb dX5_flightOf_21 rfl (lv_at hl 1 rfl) ?_
    refine lv_if_ge (tgt := 29) hx hb dX5_flightOf_22 (by decide) (fun c_4 => ?_) (fun c_4 => ?_)
    · have hM := hM.trans (if_pos c_4)
      have t_4 := le_t c_4
      rw [tl_0] at t_4
      refine lv_iload_n hx hb dX5_flightOf_29 rfl (lv_at hl 1 rfl) ?_
      refine lv_istore_n (lv' := [(3, .int x3_21), (1, .int p1)]) hx hb dX5_flightOf_30 rfl hl (by decide) rfl (fun ls hl => ?_)
      exact J_31 x3_21 ls (lv_sub hl [1, 0] rfl) hM
    · have hM := hM.trans (if_neg c_4)
      have t_4 := nle_t c_4
      rw [tl_0] at t_4
      refine lv_iconst (v := 0) hx hb dX5_flightOf_25 (by decide) ?_
      refine lv_goto (tgt := 30) hx hb dX5_flightOf_26 (by decide) ?_
      refine lv_istore_n (lv' := [(3, .int 0), (1, .int p1)]) hx hb dX5_flightOf_30 rfl hl (by decide) rfl (fun ls hl => ?_)
      exact J_31 0 ls (lv_sub hl [1, 0] rfl) hM
  have hM : (m_R_flightOf sR p1 p2) = (m_R_flightOf sR p1 p2) := rfl
  refine lv_iload_n hx hb dX5_flightOf_0 rfl (lv_at hl 2 rfl) ?_
  refine lv_iload_n hx hb dX5_flightOf_1 rfl (lv_at hl 2 rfl) ?_
  refine lv_iload_n hx hb dX5_flightOf_2 rfl (lv_at hl 2 rfl) ?_
  refine lv_imul hx hb dX5_flightOf_3 ?_
  refine lv_bipush (v := 20) hx hb dX5_flightOf_4 (by decide) ?_
  refine lv_aload_n hx hb dX5_flightOf_6 rfl (lv_at hl 0 rfl) ?_
  refine va_get (D := D) (ci := 5) (v := .ref (g 1)) (C := RX5) (T := TX5) (N := 33) hx hb hts hinR hown hE.1 hPR 0 rfl rfl 0 (by decide) (hts (.fieldLink RX5 7 "WallStonesModel" "told" "[I") (List.mem_of_getElem? (i := 1) rfl)) (fun _ h9 => h9) rfl dX5_flightOf_7 ?_
  refine lv_bipush (v := 7) hx hb dX5_flightOf_10 (by decide) ?_
  refine va_iald hx hb hE.1 hPR 1 0 rfl rfl (vp_in_iff.mpr (by decide)) dX5_flightOf_12 ?_
  refine W.eq (congrArg (fun z => F0 m 13 ls [.int (sR 1 z), .int 20, .int (p2 * p2), .int p2]) cl_7) ?_
  refine lv_imul hx hb dX5_flightOf_13 ?_
  refine lv_sipush (v := 2000) hx hb dX5_flightOf_14 (by decide) ?_
  refine lv_iadd hx hb dX5_flightOf_17 ?_
  refine lv_idiv hx hb dX5_flightOf_18 (fl_nz h0) ?_
  refine lv_isub hx hb dX5_flightOf_19 ?_
  refine lv_istore_n (lv' := [(3, .int (p2 - ((p2 * p2) / ((20 * (sR 1 7)) + 2000)))), (0, .ref (g 0)), (1, .int p1), (2, .int p2)]) hx hb dX5_flightOf_20 rfl hl (by decide) rfl (fun ls hl => ?_)
  exact J_21 (p2 - ((p2 * p2) / ((20 * (sR 1 7)) + 2000))) ls (lv_sub hl [2, 0] rfl) hM
abbrev rm_R_step : Room := { frames := 3, cells := 0, slots := 0, locals := 67 }
set_option maxHeartbeats 4000000 in
set_option maxRecDepth 100000 in
theorem K_R_step {l : Launch} {D : va_G} {cI : ClassId} {lo : Nat} {g : Nat → Nat} (hg : wI g 0 16 lo) (sR : St) (vR : Int64) (p1 : Int32) (p2 : Int32) (h0 : okR sR) (h1 : 10 ≤ p1.toInt ∧ p1.toInt ≤ 160) : WRv l D cI lo yX5_step wsX5_step rm_R_step [.ref (g 0), .int p1, .int p2] (fun H => va_P D vwCl (cellR cI g sR vR) H) (fun H => va_P D vwCl (cellR cI g (m_R_step sR p1 p2) vR) H) (wA g 0 16) := by
  refine ofW_WRv (cc := cX5_step) (maxL := 6) (by decide +kernel) rfl (Nat.le_of_ble_eq_true rfl) ?_
  intro p e s m args below meth c Q hx hb hml hown hts hE hP hret ls hl
  have hown : s.vm.findClass RX5 = some m.cls := hown
  have hPR := hP
  have hA := wA.lo hg
  have hS : va_S (wA g 0 16) s.heap s.heap [] := va_S.rf
  obtain ⟨H, hH⟩ : ∃ z, z = s.heap := ⟨_, rfl⟩
  obtain ⟨locs, hlocs⟩ : ∃ z : List Loc, z = [] := ⟨_, rfl⟩
  have hPR : va_P D vwCl (cellR cI g sR vR) H := by rw [hH]; exact hPR
  have hS : va_S (wA g 0 16) s.heap H locs := by rw [hH, hlocs]; exact va_S.rf
  have gW : W p l e rm_R_step s m args below meth c H locs 0 0 Q (F0 m 0 ls []) → W p l e rm_R_step s m args below meth c s.heap [] 0 0 Q (F0 m 0 ls []) := by rw [hH, hlocs]; exact id
  refine gW ?_
  have hinR : ∀ w ∈ wsX50, w ∈ wsX5_step := fun w h => List.mem_cons_of_mem _ (List.mem_append_right _ h)
  have hl : lv_has ls 6 [(0, .ref (g 0)), (1, .int p1), (2, .int p2)] := hl
  have nh0 := okR_lin h0
  have L_44 : ∀ (n : Nat) (sR_44 : St) (x3_44 : Int32) (H : Heap) (locs : List Loc) (ls : Array Slot), 1 ≤ x3_44.toInt ∧ x3_44.toInt ≤ 161 → okR sR_44 → (161 - x3_44.toInt).toNat < n → va_P D vwCl (cellR cI g sR_44 vR) H → va_S (wA g 0 16) s.heap H locs → lv_has ls 6 [(0, .ref (g 0)), (1, .int p1), (2, .int p2), (3, .int x3_44)] → (∀ (H : Heap) (locs : List Loc) (ls : Array Slot), 1 ≤ (wl (g_R_step_44 p1 p2) n (sR_44, x3_44)).2.toInt ∧ (wl (g_R_step_44 p1 p2) n (sR_44, x3_44)).2.toInt ≤ 161 → okR (wl (g_R_step_44 p1 p2) n (sR_44, x3_44)).1 → va_P D vwCl (cellR cI g (wl (g_R_step_44 p1 p2) n (sR_44, x3_44)).1 vR) H → va_S (wA g 0 16) s.heap H locs → lv_has ls 6 [(0, .ref (g 0)), (1, .int p1), (2, .int p2)] → W p l e rm_R_step s m args below meth c H locs 0 0 Q (F0 m 129 ls [])) → W p l e rm_R_step s m args below meth c H locs 0 0 Q (F0 m 44 ls []) := by
    intro n
    induction n with
    | zero =>
      intro sR_44 x3_44 H locs ls i44_0 i44_1 hn44 hPR hS hl kk
      exact absurd hn44 (Nat.not_lt_zero _)
    | succ n ih =>
      intro sR_44 x3_44 H locs ls i44_0 i44_1 hn44 hPR hS hl kk
      have ni44_1 := okR_lin i44_1
      have hM : (g_R_step_44 p1 p2) (sR_44, x3_44) = (g_R_step_44 p1 p2) (sR_44, x3_44) := rfl
      refine lv_iload_n hx hb dX5_step_44 rfl (lv_at hl 3 rfl) ?_
      refine lv_sipush (v := 160) hx hb dX5_step_45 (by decide) ?_
      refine lv_icmp_gt (tgt := 129) hx hb dX5_step_48 (by decide) (fun c_1 => ?_) (fun c_1 => ?_)
      · have hM := hM.trans (if_pos c_1)
        have t_1 := lt_t c_1
        rw [tl_160] at t_1
        rw [wl_none hM] at kk
        try dsimp only at kk
        exact kk H locs ls (by omega) (by assumption) hPR hS (lv_sub hl [0, 1, 2] rfl)
      · have hM := hM.trans (if_neg c_1)
        have t_1 := nlt_t c_1
        rw [tl_160] at t_1
        refine lv_aload_n hx hb dX5_step_51 rfl (lv_at hl 0 rfl) ?_
        refine va_get (D := D) (ci := 5) (v := .int (sR_44 0 19)) (C := RX5) (T := TX5) (N := 33) hx hb hts hinR hown hE.1 hPR 0 rfl rfl 19 (by decide) (hts (.fieldLink RX5 97 "WallStonesModel" "letsGo" "I") (List.mem_of_getElem? (i := 1) rfl)) (fun _ h9 => h9) rfl dX5_step_52 ?_
        refine lv_bipush (v := (-9)) hx hb dX5_step_55 (by decide) ?_
        refine lv_icmp_ne (tgt := 129) hx hb dX5_step_57 (by decide) (fun c_2 => ?_) (fun c_2 => ?_)
        · have hM := hM.trans (if_neg c_2)
          have t_2 := ne_t c_2
          rw [tl_m9] at t_2
          rw [wl_none hM] at kk
          try dsimp only at kk
          exact kk H locs ls (by omega) (by assumption) hPR hS (lv_sub hl [0, 1, 2] rfl)
        · have hM := hM.trans (if_pos c_2)
          have t_2 := eq_t c_2
          rw [tl_m9] at t_2
          refine lv_aload_n hx hb dX5_step_60 rfl (lv_at hl 0 rfl) ?_
          refine va_get (D := D) (ci := 5) (v := .int (sR_44 0 20)) (C := RX5) (T := TX5) (N := 33) hx hb hts hinR hown hE.1 hPR 0 rfl rfl 20 (by decide) (hts (.fieldLink RX5 100 "WallStonesModel" "stalls" "I") (List.mem_of_getElem? (i := 2) rfl)) (fun _ h9 => h9) rfl dX5_step_61 ?_
          refine lv_bipush (v := (-9)) hx hb dX5_step_64 (by decide) ?_
          refine lv_icmp_ne (tgt := 129) hx hb dX5_step_66 (by decide) (fun c_3 => ?_) (fun c_3 => ?_)
          · have hM := hM.trans (if_neg c_3)
            have t_3 := ne_t c_3
            rw [tl_m9] at t_3
            rw [wl_none hM] at kk
            try dsimp only at kk
            exact kk H locs ls (by omega) (by assumption) hPR hS (lv_sub hl [0, 1, 2] rfl)
          · have hM := hM.trans (if_pos c_3)
            have t_3 := eq_t c_3
            rw [tl_m9] at t_3
            refine lv_aload_n hx hb dX5_step_69 rfl (lv_at hl 0 rfl) ?_
            refine lv_iload_n hx hb dX5_step_70 rfl (lv_at hl 3 rfl) ?_
            refine runS_i (va_runV (As := [.int x3_44]) (rest := []) ⟨hx, hb, hml, hown, hts⟩ (K_R_givenAt hg sR_44 vR x3_44 (by assumption) (by omega)) (cwV 1 hts gX5_step_X5_givenAt rfl rfl rfl (by decide +kernel) ⟨Nat.le_of_ble_eq_true rfl, Nat.le_of_ble_eq_true rfl⟩) (preV_of hE hA hS hPR (va_recv hE.1 hPR (ci := 5) (q0 := 0) rfl rfl)) rfl rfl hl.1 rfl (lv_room (Nat.le_of_ble_eq_true rfl)) dX5_step_71 ⟨Nat.zero_le _, Nat.zero_le _⟩) ?_
            refine lv_istore (lv' := [(4, .int (m_R_givenAt sR_44 x3_44)), (0, .ref (g 0)), (1, .int p1), (2, .int p2), (3, .int x3_44)]) hx hb dX5_step_74 hl (by decide) rfl (fun ls hl => ?_)
            refine lv_iload hx hb dX5_step_76 (lv_at hl 0 rfl) ?_
            refine lv_if_gt (tgt := 89) hx hb dX5_step_78 (by decide) (fun c_4 => ?_) (fun c_4 => ?_)
            · have hM := hM.trans (if_pos c_4)
              have t_4 := lt_t c_4
              rw [tl_0] at t_4
              refine lv_iload_n hx hb dX5_step_89 rfl (lv_at hl 4 rfl) ?_
              refine lv_aload_n hx hb dX5_step_90 rfl (lv_at hl 1 rfl) ?_
              refine va_get (D := D) (ci := 5) (v := .ref (g 1)) (C := RX5) (T := TX5) (N := 33) hx hb hts hinR hown hE.1 hPR 0 rfl rfl 0 (by decide) (hts (.fieldLink RX5 7 "WallStonesModel" "told" "[I") (List.mem_of_getElem? (i := 8) rfl)) (fun _ h9 => h9) rfl dX5_step_91 ?_
              refine lv_iconst (v := 1) hx hb dX5_step_94 (by decide) ?_
              refine va_iald hx hb hE.1 hPR 1 0 rfl rfl (vp_in_iff.mpr (by decide)) dX5_step_95 ?_
              refine W.eq (congrArg (fun z => F0 m 96 ls [.int (sR_44 1 z), .int x3_44]) cl_1) ?_
              refine lv_iconst (v := 2) hx hb dX5_step_96 (by decide) ?_
              refine lv_iload_n hx hb dX5_step_97 rfl (lv_at hl 2 rfl) ?_
              refine lv_imul hx hb dX5_step_98 ?_
              refine lv_iadd hx hb dX5_step_99 ?_
              refine lv_imul hx hb dX5_step_100 ?_
              refine lv_iconst (v := 2) hx hb dX5_step_101 (by decide) ?_
              refine lv_iload_n hx hb dX5_step_102 rfl (lv_at hl 2 rfl) ?_
              refine lv_imul hx hb dX5_step_103 ?_
              refine lv_idiv hx hb dX5_step_104 (two_nz (by omega)) ?_
              refine lv_bipush (v := 100) hx hb dX5_step_105 (by decide) ?_
              refine lv_iload_n hx hb dX5_step_107 rfl (lv_at hl 3 rfl) ?_
              refine lv_iadd hx hb dX5_step_108 ?_
              refine lv_icmp_lt (tgt := 123) hx hb dX5_step_109 (by decide) (fun c_5 => ?_) (fun c_5 => ?_)
              · have hM := hM.trans (if_pos c_5)
                have t_5 := lt_t c_5
                refine lv_iinc (v := (x3_44 + 1)) (lv' := [(3, .int (x3_44 + 1)), (4, .int (m_R_givenAt sR_44 x3_44)), (0, .ref (g 0)), (1, .int p1), (2, .int p2)]) hx hb dX5_step_123 hl (k := 4) rfl rfl (by decide) rfl (fun ls hl => ?_)
                refine lv_goto (tgt := 44) hx hb dX5_step_126 (by decide) ?_
                have := t_inc (x := x3_44) (by omega)
                rw [wl_some hM] at kk
                exact ih sR_44 (x3_44 + 1) H locs ls (by omega) (by assumption) (by omega) hPR hS (lv_sub hl [2, 3, 4, 0] rfl) kk
              · have hM := hM.trans (if_neg c_5)
                have t_5 := nlt_t c_5
                refine lv_aload_n hx hb dX5_step_112 rfl (lv_at hl 1 rfl) ?_
                refine lv_iload_n hx hb dX5_step_113 rfl (lv_at hl 4 rfl) ?_
                refine va_put (D := D) (ci := 5) (v := .int x3_44) (ty := .int) (C := RX5) (T := TX5) (N := 33) hx hb hts hinR tyX5 tyX5_ok nmX5 hown hE.1 hPR (wD_of hg (c := 0) (n := 16) (by decide) (by decide) rfl) hS 0 rfl rfl 19 (by decide) (hts (.fieldLink RX5 97 "WallStonesModel" "letsGo" "I") (List.mem_of_getElem? (i := 1) rfl)) (fun _ h9 => h9) rfl (by decide +kernel) rfl rfl (Nat.le_of_ble_eq_true rfl) dX5_step_114 (fun H locs hPn _ hS => ?_)
                have hPR : va_P D vwCl (cellR cI g (up sR_44 0 19 x3_44) vR) H := (congrArg (fun z => va_P D vwCl z H) putR_R19).mp hPn
                refine lv_aload_n hx hb dX5_step_117 rfl (lv_at hl 1 rfl) ?_
                refine lv_iload hx hb dX5_step_118 (lv_at hl 0 rfl) ?_
                refine va_put (D := D) (ci := 5) (v := .int (m_R_givenAt sR_44 x3_44)) (ty := .int) (C := RX5) (T := TX5) (N := 33) hx hb hts hinR tyX5 tyX5_ok nmX5 hown hE.1 hPR (wD_of hg (c := 0) (n := 16) (by decide) (by decide) rfl) hS 0 rfl rfl 21 (by decide) (hts (.fieldLink RX5 103 "WallStonesModel" "given" "I") (List.mem_of_getElem? (i := 3) rfl)) (fun _ h9 => h9) rfl (by decide +kernel) rfl rfl (Nat.le_of_ble_eq_true rfl) dX5_step_120 (fun H locs hPn _ hS => ?_)
                have hPR : va_P D vwCl (cellR cI g (up (up sR_44 0 19 x3_44) 0 21 (m_R_givenAt sR_44 x3_44)) vR) H := (congrArg (fun z => va_P D vwCl z H) putR_R21).mp hPn
                refine lv_iinc (v := (x3_44 + 1)) (lv' := [(3, .int (x3_44 + 1)), (4, .int (m_R_givenAt sR_44 x3_44)), (0, .ref (g 0)), (1, .int p1), (2, .int p2)]) hx hb dX5_step_123 hl (k := 4) rfl rfl (by decide) rfl (fun ls hl => ?_)
                refine lv_goto (tgt := 44) hx hb dX5_step_126 (by decide) ?_
                have := t_inc (x := x3_44) (by omega)
                rw [wl_some hM] at kk
                exact ih (up (up sR_44 0 19 x3_44) 0 21 (m_R_givenAt sR_44 x3_44)) (x3_44 + 1) H locs ls (by omega) (by assumption) (by omega) hPR hS (lv_sub hl [2, 3, 4, 0] rfl) kk
            · have hM := hM.trans (if_neg c_4)
              have t_4 := nlt_t c_4
              rw [tl_0] at t_4
              refine lv_aload_n hx hb dX5_step_81 rfl (lv_at hl 1 rfl) ?_
              refine lv_iload_n hx hb dX5_step_82 rfl (lv_at hl 4 rfl) ?_
              refine va_put (D := D) (ci := 5) (v := .int x3_44) (ty := .int) (C := RX5) (T := TX5) (N := 33) hx hb hts hinR tyX5 tyX5_ok nmX5 hown hE.1 hPR (wD_of hg (c := 0) (n := 16) (by decide) (by decide) rfl) hS 0 rfl rfl 20 (by decide) (hts (.fieldLink RX5 100 "WallStonesModel" "stalls" "I") (List.mem_of_getElem? (i := 2) rfl)) (fun _ h9 => h9) rfl (by decide +kernel) rfl rfl (Nat.le_of_ble_eq_true rfl) dX5_step_83 (fun H locs hPn _ hS => ?_)
              have hPR : va_P D vwCl (cellR cI g (up sR_44 0 20 x3_44) vR) H := (congrArg (fun z => va_P D vwCl z H) putR_R20).mp hPn
              refine lv_goto (tgt := 123) hx hb dX5_step_86 (by decide) ?_
              refine lv_iinc (v := (x3_44 + 1)) (lv' := [(3, .int (x3_44 + 1)), (4, .int (m_R_givenAt sR_44 x3_44)), (0, .ref (g 0)), (1, .int p1), (2, .int p2)]) hx hb dX5_step_123 hl (k := 4) rfl rfl (by decide) rfl (fun ls hl => ?_)
              refine lv_goto (tgt := 44) hx hb dX5_step_126 (by decide) ?_
              have := t_inc (x := x3_44) (by omega)
              rw [wl_some hM] at kk
              exact ih (up sR_44 0 20 x3_44) (x3_44 + 1) H locs ls (by omega) (by assumption) (by omega) hPR hS (lv_sub hl [2, 3, 4, 0] rfl) kk
  have J_302 : ∀ (sR_302 : St) (x5_302 : Int32) (H : Heap) (locs : List Loc) (ls : Array Slot), va_P D vwCl (cellR cI g sR_302 vR) H → va_S (wA g 0 16) s.heap H locs → lv_has ls 6 [(0, .ref (g 0)), (5, .int x5_302)] → (m_R_step sR p1 p2) = b_R_step_302 sR_302 x5_302 → W p l e rm_R_step s m args below meth c H locs 0 0 Q (F0 m 302 ls []) := by
    intro sR_302 x5_302 H locs ls hPR hS hl hM
    refine lv_aload_n hx hb dX5_step_302 rfl (lv_at hl 0 rfl) ?_
    refine lv_iload hx hb dX5_step_303 (lv_at hl 1 rfl) ?_
    refine lv_if_ge (tgt := 312) hx hb dX5_step_305 (by decide) (fun c_6 => ?_) (fun c_6 => ?_)
    · have hM := hM.trans (if_pos c_6)
      have t_6 := le_t c_6
      rw [tl_0] at t_6
      refine lv_iload hx hb dX5_step_312 (lv_at hl 1 rfl) ?_
      refine va_put (D := D) (ci := 5) (v := .int x5_302) (ty := .int) (C := RX5) (T := TX5) (N := 33) hx hb hts hinR tyX5 tyX5_ok nmX5 hown hE.1 hPR (wD_of hg (c := 0) (n := 16) (by decide) (by decide) rfl) hS 0 rfl rfl 25 (by decide) (hts (.fieldLink RX5 115 "WallStonesModel" "range" "I") (List.mem_of_getElem? (i := 7) rfl)) (fun _ h9 => h9) rfl (by decide +kernel) rfl rfl (Nat.le_of_ble_eq_true rfl) dX5_step_314 (fun H locs hPn _ hS => ?_)
      have hPR : va_P D vwCl (cellR cI g (up sR_302 0 25 x5_302) vR) H := (congrArg (fun z => va_P D vwCl z H) putR_R25).mp hPn
      have hM : (m_R_step sR p1 p2) = ((up sR_302 0 25 x5_302) : St) := hM
      exact hret H locs _ ls dX5_step_317 (rP_s1 (P := fun (z0 : St) => va_P D vwCl (cellR cI g z0 vR) H) hM hPR) hS
    · have hM := hM.trans (if_neg c_6)
      have t_6 := nle_t c_6
      rw [tl_0] at t_6
      refine lv_iconst (v := 0) hx hb dX5_step_308 (by decide) ?_
      refine lv_goto (tgt := 314) hx hb dX5_step_309 (by decide) ?_
      refine va_put (D := D) (ci := 5) (v := .int 0) (ty := .int) (C := RX5) (T := TX5) (N := 33) hx hb hts hinR tyX5 tyX5_ok nmX5 hown hE.1 hPR (wD_of hg (c := 0) (n := 16) (by decide) (by decide) rfl) hS 0 rfl rfl 25 (by decide) (hts (.fieldLink RX5 115 "WallStonesModel" "range" "I") (List.mem_of_getElem? (i := 7) rfl)) (fun _ h9 => h9) rfl (by decide +kernel) rfl rfl (Nat.le_of_ble_eq_true rfl) dX5_step_314 (fun H locs hPn _ hS => ?_)
      have hPR : va_P D vwCl (cellR cI g (up sR_302 0 25 0) vR) H := (congrArg (fun z => va_P D vwCl z H) putR_R25).mp hPn
      have hM : (m_R_step sR p1 p2) = ((up sR_302 0 25 0) : St) := hM
      exact hret H locs _ ls dX5_step_317 (rP_s1 (P := fun (z0 : St) => va_P D vwCl (cellR cI g z0 vR) H) hM hPR) hS
  have J_270 : ∀ (sR_270 : St) (H : Heap) (locs : List Loc) (ls : Array Slot), okR sR_270 → va_P D vwCl (cellR cI g sR_270 vR) H → va_S (wA g 0 16) s.heap H locs → lv_has ls 6 [(0, .ref (g 0))] → (m_R_step sR p1 p2) = b_R_step_270 sR_270 → W p l e rm_R_step s m args below meth c H locs 0 0 Q (F0 m 270 ls []) := by
    intro sR_270 H locs ls i270_0 hPR hS hl hM
    have ni270_0 := okR_lin i270_0
    refine lv_aload_n hx hb dX5_step_270 rfl (lv_at hl 0 rfl) ?_
    refine lv_aload_n hx hb dX5_step_271 rfl (lv_at hl 0 rfl) ?_
    refine va_get (D := D) (ci := 5) (v := .ref (g 1)) (C := RX5) (T := TX5) (N := 33) hx hb hts hinR hown hE.1 hPR 0 rfl rfl 0 (by decide) (hts (.fieldLink RX5 7 "WallStonesModel" "told" "[I") (List.mem_of_getElem? (i := 8) rfl)) (fun _ h9 => h9) rfl dX5_step_272 ?_
    refine lv_bipush (v := 8) hx hb dX5_step_275 (by decide) ?_
    refine va_iald hx hb hE.1 hPR 1 0 rfl rfl (vp_in_iff.mpr (by decide)) dX5_step_277 ?_
    refine W.eq (congrArg (fun z => F0 m 278 ls [.int (sR_270 1 z), .ref (g 0)]) cl_8) ?_
    refine lv_aload_n hx hb dX5_step_278 rfl (lv_at hl 0 rfl) ?_
    refine va_get (D := D) (ci := 5) (v := .int (sR_270 0 24)) (C := RX5) (T := TX5) (N := 33) hx hb hts hinR hown hE.1 hPR 0 rfl rfl 24 (by decide) (hts (.fieldLink RX5 112 "WallStonesModel" "reach" "I") (List.mem_of_getElem? (i := 6) rfl)) (fun _ h9 => h9) rfl dX5_step_279 ?_
    refine runS_i (va_runV (As := [.int (sR_270 1 8), .int (sR_270 0 24)]) (rest := []) ⟨hx, hb, hml, hown, hts⟩ (K_R_flightOf hg sR_270 vR (sR_270 1 8) (sR_270 0 24) (by assumption)) (cwV 2 hts gX5_step_X5_flightOf rfl rfl rfl (by decide +kernel) ⟨Nat.le_of_ble_eq_true rfl, Nat.le_of_ble_eq_true rfl⟩) (preV_of hE hA hS hPR (va_recv hE.1 hPR (ci := 5) (q0 := 0) rfl rfl)) rfl rfl hl.1 rfl (lv_room (Nat.le_of_ble_eq_true rfl)) dX5_step_282 ⟨Nat.zero_le _, Nat.zero_le _⟩) ?_
    refine lv_istore (lv' := [(5, .int (m_R_flightOf sR_270 (sR_270 1 8) (sR_270 0 24))), (0, .ref (g 0))]) hx hb dX5_step_285 hl (by decide) rfl (fun ls hl => ?_)
    refine lv_iload hx hb dX5_step_287 (lv_at hl 0 rfl) ?_
    refine lv_aload_n hx hb dX5_step_289 rfl (lv_at hl 1 rfl) ?_
    refine va_get (D := D) (ci := 5) (v := .int (sR_270 0 1)) (C := RX5) (T := TX5) (N := 33) hx hb hts hinR hown hE.1 hPR 0 rfl rfl 1 (by decide) (hts (.fieldLink RX5 85 "WallStonesModel" "windNow" "I") (List.mem_of_getElem? (i := 11) rfl)) (fun _ h9 => h9) rfl dX5_step_290 ?_
    refine lv_iload hx hb dX5_step_293 (lv_at hl 0 rfl) ?_
    refine lv_imul hx hb dX5_step_295 ?_
    refine lv_bipush (v := 100) hx hb dX5_step_296 (by decide) ?_
    refine lv_idiv hx hb dX5_step_298 (by decide) ?_
    refine lv_iadd hx hb dX5_step_299 ?_
    refine lv_istore (lv' := [(5, .int ((m_R_flightOf sR_270 (sR_270 1 8) (sR_270 0 24)) + (((sR_270 0 1) * (m_R_flightOf sR_270 (sR_270 1 8) (sR_270 0 24))) / 100))), (0, .ref (g 0))]) hx hb dX5_step_300 hl (by decide) rfl (fun ls hl => ?_)
    exact J_302 sR_270 ((m_R_flightOf sR_270 (sR_270 1 8) (sR_270 0 24)) + (((sR_270 0 1) * (m_R_flightOf sR_270 (sR_270 1 8) (sR_270 0 24))) / 100)) H locs ls hPR hS (lv_sub hl [1, 0] rfl) hM
  have J_245 : ∀ (sR_245 : St) (H : Heap) (locs : List Loc) (ls : Array Slot), okR sR_245 → 1 ≤ (sR_245 0 22).toInt ∧ (sR_245 0 22).toInt ≤ 89 → va_P D vwCl (cellR cI g sR_245 vR) H → va_S (wA g 0 16) s.heap H locs → lv_has ls 6 [(0, .ref (g 0))] → (m_R_step sR p1 p2) = b_R_step_245 sR_245 → W p l e rm_R_step s m args below meth c H locs 0 0 Q (F0 m 245 ls []) := by
    intro sR_245 H locs ls i245_0 i245_1 hPR hS hl hM
    have ni245_0 := okR_lin i245_0
    refine lv_aload_n hx hb dX5_step_245 rfl (lv_at hl 0 rfl) ?_
    refine lv_aload_n hx hb dX5_step_246 rfl (lv_at hl 0 rfl) ?_
    refine va_get (D := D) (ci := 5) (v := .int (sR_245 0 23)) (C := RX5) (T := TX5) (N := 33) hx hb hts hinR hown hE.1 hPR 0 rfl rfl 23 (by decide) (hts (.fieldLink RX5 109 "WallStonesModel" "speed" "I") (List.mem_of_getElem? (i := 5) rfl)) (fun _ h9 => h9) rfl dX5_step_247 ?_
    refine lv_i2l (v := (Int32.toInt64 (sR_245 0 23))) hx hb dX5_step_250 rfl ?_
    refine lv_iconst (v := 2) hx hb dX5_step_251 (by decide) ?_
    refine lv_aload_n hx hb dX5_step_252 rfl (lv_at hl 0 rfl) ?_
    refine va_get (D := D) (ci := 5) (v := .int (sR_245 0 22)) (C := RX5) (T := TX5) (N := 33) hx hb hts hinR hown hE.1 hPR 0 rfl rfl 22 (by decide) (hts (.fieldLink RX5 106 "WallStonesModel" "rise" "I") (List.mem_of_getElem? (i := 4) rfl)) (fun _ h9 => h9) rfl dX5_step_253 ?_
    refine lv_imul hx hb dX5_step_256 ?_
    refine runS_i (va_runS (As := [.int (2 * (sR_245 0 22))]) (rest := [.long (Int32.toInt64 (sR_245 0 23)), .ref (g 0)]) ⟨hx, hb, hml, hown, hts⟩ (K_R_sineOf (2 * (sR_245 0 22)) (two_b (by omega))) (va_cwS 1 hts gX5_step_X5_sineOf rfl rfl rfl (by decide +kernel) ⟨Nat.le_of_ble_eq_true rfl, Nat.le_of_ble_eq_true rfl⟩) (preS_of hE hA hS trivial) rfl rfl hl.1 rfl (lv_room (Nat.le_of_ble_eq_true rfl)) dX5_step_257 ⟨Nat.zero_le _, Nat.zero_le _⟩) ?_
    refine lv_i2l (v := (Int32.toInt64 (m_R_sineOf (2 * (sR_245 0 22))))) hx hb dX5_step_260 rfl ?_
    refine lv_lmul hx hb dX5_step_261 ?_
    refine lv_ldc2 (own := RX5) (index := 123) (v := 8000) hx hb hown (hts (.constantLong RX5 123 (8000)) (List.mem_of_getElem? (i := 10) rfl)) dX5_step_262 ?_
    refine lv_ldiv hx hb dX5_step_265 (by decide) ?_
    refine lv_l2i (v := (Int64.toInt32 (((Int32.toInt64 (sR_245 0 23)) * (Int32.toInt64 (m_R_sineOf (2 * (sR_245 0 22))))) / 8000))) hx hb dX5_step_266 rfl ?_
    refine va_put (D := D) (ci := 5) (v := .int (Int64.toInt32 (((Int32.toInt64 (sR_245 0 23)) * (Int32.toInt64 (m_R_sineOf (2 * (sR_245 0 22))))) / 8000))) (ty := .int) (C := RX5) (T := TX5) (N := 33) hx hb hts hinR tyX5 tyX5_ok nmX5 hown hE.1 hPR (wD_of hg (c := 0) (n := 16) (by decide) (by decide) rfl) hS 0 rfl rfl 24 (by decide) (hts (.fieldLink RX5 112 "WallStonesModel" "reach" "I") (List.mem_of_getElem? (i := 6) rfl)) (fun _ h9 => h9) rfl (by decide +kernel) rfl rfl (Nat.le_of_ble_eq_true rfl) dX5_step_267 (fun H locs hPn _ hS => ?_)
    have hPR : va_P D vwCl (cellR cI g (up sR_245 0 24 (Int64.toInt32 (((Int32.toInt64 (sR_245 0 23)) * (Int32.toInt64 (m_R_sineOf (2 * (sR_245 0 22))))) / 8000))) vR) H := (congrArg (fun z => va_P D vwCl z H) putR_R24).mp hPn
    exact J_270 (up sR_245 0 24 (Int64.toInt32 (((Int32.toInt64 (sR_245 0 23)) * (Int32.toInt64 (m_R_sineOf (2 * (sR_245 0 22))))) / 8000))) H locs ls (by assumption) hPR hS (lv_sub hl [0] rfl) hM
  have J_194 : ∀ (sR_194 : St) (x3_194 : Int64) (H : Heap) (locs : List Loc) (ls : Array Slot), okR sR_194 → 0 ≤ x3_194.toInt ∧ x3_194.toInt ≤ 200000 → 1 ≤ (sR_194 0 22).toInt ∧ (sR_194 0 22).toInt ≤ 89 → va_P D vwCl (cellR cI g sR_194 vR) H → va_S (wA g 0 16) s.heap H locs → lv_has ls 6 [(0, .ref (g 0)), (3, .long x3_194)] → (m_R_step sR p1 p2) = b_R_step_194 sR_194 x3_194 → W p l e rm_R_step s m args below meth c H locs 0 0 Q (F0 m 194 ls []) := by
    intro sR_194 x3_194 H locs ls i194_0 i194_1 i194_2 hPR hS hl hM
    have ni194_0 := okR_lin i194_0
    refine lv_aload_n hx hb dX5_step_194 rfl (lv_at hl 0 rfl) ?_
    refine lv_ldc2 (own := RX5) (index := 121) (v := 2) hx hb hown (hts (.constantLong RX5 121 (2)) (List.mem_of_getElem? (i := 9) rfl)) dX5_step_195 ?_
    refine lv_aload_n hx hb dX5_step_198 rfl (lv_at hl 0 rfl) ?_
    refine va_get (D := D) (ci := 5) (v := .int (sR_194 0 21)) (C := RX5) (T := TX5) (N := 33) hx hb hts hinR hown hE.1 hPR 0 rfl rfl 21 (by decide) (hts (.fieldLink RX5 103 "WallStonesModel" "given" "I") (List.mem_of_getElem? (i := 3) rfl)) (fun _ h9 => h9) rfl dX5_step_199 ?_
    refine lv_i2l (v := (Int32.toInt64 (sR_194 0 21))) hx hb dX5_step_202 rfl ?_
    refine lv_lmul hx hb dX5_step_203 ?_
    refine lv_lload_n hx hb dX5_step_204 rfl (lv_at hl 1 rfl) ?_
    refine lv_lmul hx hb dX5_step_205 ?_
    refine lv_aload_n hx hb dX5_step_206 rfl (lv_at hl 0 rfl) ?_
    refine va_get (D := D) (ci := 5) (v := .ref (g 1)) (C := RX5) (T := TX5) (N := 33) hx hb hts hinR hown hE.1 hPR 0 rfl rfl 0 (by decide) (hts (.fieldLink RX5 7 "WallStonesModel" "told" "[I") (List.mem_of_getElem? (i := 8) rfl)) (fun _ h9 => h9) rfl dX5_step_207 ?_
    refine lv_iconst (v := 2) hx hb dX5_step_210 (by decide) ?_
    refine va_iald hx hb hE.1 hPR 1 0 rfl rfl (vp_in_iff.mpr (by decide)) dX5_step_211 ?_
    refine W.eq (congrArg (fun z => F0 m 212 ls [.int (sR_194 1 z), .long ((2 * (Int32.toInt64 (sR_194 0 21))) * x3_194), .ref (g 0)]) cl_2) ?_
    refine lv_i2l (v := (Int32.toInt64 (sR_194 1 2))) hx hb dX5_step_212 rfl ?_
    refine lv_aload_n hx hb dX5_step_213 rfl (lv_at hl 0 rfl) ?_
    refine va_get (D := D) (ci := 5) (v := .ref (g 1)) (C := RX5) (T := TX5) (N := 33) hx hb hts hinR hown hE.1 hPR 0 rfl rfl 0 (by decide) (hts (.fieldLink RX5 7 "WallStonesModel" "told" "[I") (List.mem_of_getElem? (i := 8) rfl)) (fun _ h9 => h9) rfl dX5_step_214 ?_
    refine lv_iconst (v := 0) hx hb dX5_step_217 (by decide) ?_
    refine va_iald hx hb hE.1 hPR 1 0 rfl rfl (vp_in_iff.mpr (by decide)) dX5_step_218 ?_
    refine W.eq (congrArg (fun z => F0 m 219 ls [.int (sR_194 1 z), .long (Int32.toInt64 (sR_194 1 2)), .long ((2 * (Int32.toInt64 (sR_194 0 21))) * x3_194), .ref (g 0)]) cl_0) ?_
    refine lv_i2l (v := (Int32.toInt64 (sR_194 1 0))) hx hb dX5_step_219 rfl ?_
    refine lv_lmul hx hb dX5_step_220 ?_
    refine lv_aload_n hx hb dX5_step_221 rfl (lv_at hl 0 rfl) ?_
    refine va_get (D := D) (ci := 5) (v := .ref (g 1)) (C := RX5) (T := TX5) (N := 33) hx hb hts hinR hown hE.1 hPR 0 rfl rfl 0 (by decide) (hts (.fieldLink RX5 7 "WallStonesModel" "told" "[I") (List.mem_of_getElem? (i := 8) rfl)) (fun _ h9 => h9) rfl dX5_step_222 ?_
    refine lv_iconst (v := 0) hx hb dX5_step_225 (by decide) ?_
    refine va_iald hx hb hE.1 hPR 1 0 rfl rfl (vp_in_iff.mpr (by decide)) dX5_step_226 ?_
    refine W.eq (congrArg (fun z => F0 m 227 ls [.int (sR_194 1 z), .long ((Int32.toInt64 (sR_194 1 2)) * (Int32.toInt64 (sR_194 1 0))), .long ((2 * (Int32.toInt64 (sR_194 0 21))) * x3_194), .ref (g 0)]) cl_0) ?_
    refine lv_i2l (v := (Int32.toInt64 (sR_194 1 0))) hx hb dX5_step_227 rfl ?_
    refine lv_lmul hx hb dX5_step_228 ?_
    refine lv_aload_n hx hb dX5_step_229 rfl (lv_at hl 0 rfl) ?_
    refine va_get (D := D) (ci := 5) (v := .ref (g 1)) (C := RX5) (T := TX5) (N := 33) hx hb hts hinR hown hE.1 hPR 0 rfl rfl 0 (by decide) (hts (.fieldLink RX5 7 "WallStonesModel" "told" "[I") (List.mem_of_getElem? (i := 8) rfl)) (fun _ h9 => h9) rfl dX5_step_230 ?_
    refine lv_bipush (v := 7) hx hb dX5_step_233 (by decide) ?_
    refine va_iald hx hb hE.1 hPR 1 0 rfl rfl (vp_in_iff.mpr (by decide)) dX5_step_235 ?_
    refine W.eq (congrArg (fun z => F0 m 236 ls [.int (sR_194 1 z), .long (((Int32.toInt64 (sR_194 1 2)) * (Int32.toInt64 (sR_194 1 0))) * (Int32.toInt64 (sR_194 1 0))), .long ((2 * (Int32.toInt64 (sR_194 0 21))) * x3_194), .ref (g 0)]) cl_7) ?_
    refine lv_i2l (v := (Int32.toInt64 (sR_194 1 7))) hx hb dX5_step_236 rfl ?_
    refine lv_lload_n hx hb dX5_step_237 rfl (lv_at hl 1 rfl) ?_
    refine lv_lmul hx hb dX5_step_238 ?_
    refine lv_ladd hx hb dX5_step_239 ?_
    refine lv_ldiv hx hb dX5_step_240 (ld_nz (by assumption) (by omega) (by omega)) ?_
    refine lv_l2i (v := (Int64.toInt32 (((2 * (Int32.toInt64 (sR_194 0 21))) * x3_194) / ((((Int32.toInt64 (sR_194 1 2)) * (Int32.toInt64 (sR_194 1 0))) * (Int32.toInt64 (sR_194 1 0))) + ((Int32.toInt64 (sR_194 1 7)) * x3_194))))) hx hb dX5_step_241 rfl ?_
    refine va_put (D := D) (ci := 5) (v := .int (Int64.toInt32 (((2 * (Int32.toInt64 (sR_194 0 21))) * x3_194) / ((((Int32.toInt64 (sR_194 1 2)) * (Int32.toInt64 (sR_194 1 0))) * (Int32.toInt64 (sR_194 1 0))) + ((Int32.toInt64 (sR_194 1 7)) * x3_194))))) (ty := .int) (C := RX5) (T := TX5) (N := 33) hx hb hts hinR tyX5 tyX5_ok nmX5 hown hE.1 hPR (wD_of hg (c := 0) (n := 16) (by decide) (by decide) rfl) hS 0 rfl rfl 23 (by decide) (hts (.fieldLink RX5 109 "WallStonesModel" "speed" "I") (List.mem_of_getElem? (i := 5) rfl)) (fun _ h9 => h9) rfl (by decide +kernel) rfl rfl (Nat.le_of_ble_eq_true rfl) dX5_step_242 (fun H locs hPn _ hS => ?_)
    have hPR : va_P D vwCl (cellR cI g (up sR_194 0 23 (Int64.toInt32 (((2 * (Int32.toInt64 (sR_194 0 21))) * x3_194) / ((((Int32.toInt64 (sR_194 1 2)) * (Int32.toInt64 (sR_194 1 0))) * (Int32.toInt64 (sR_194 1 0))) + ((Int32.toInt64 (sR_194 1 7)) * x3_194))))) vR) H := (congrArg (fun z => va_P D vwCl z H) putR_R23).mp hPn
    have q7 : ((up sR_194 0 23 (Int64.toInt32 (((2 * (Int32.toInt64 (sR_194 0 21))) * x3_194) / ((((Int32.toInt64 (sR_194 1 2)) * (Int32.toInt64 (sR_194 1 0))) * (Int32.toInt64 (sR_194 1 0))) + ((Int32.toInt64 (sR_194 1 7)) * x3_194))))) 0 22).toInt = (sR_194 0 22).toInt := rfl
    have q8 : ((up sR_194 0 23 (Int64.toInt32 (((2 * (Int32.toInt64 (sR_194 0 21))) * x3_194) / ((((Int32.toInt64 (sR_194 1 2)) * (Int32.toInt64 (sR_194 1 0))) * (Int32.toInt64 (sR_194 1 0))) + ((Int32.toInt64 (sR_194 1 7)) * x3_194))))) 0 22).toInt = (sR_194 0 22).toInt := rfl
    exact J_245 (up sR_194 0 23 (Int64.toInt32 (((2 * (Int32.toInt64 (sR_194 0 21))) * x3_194) / ((((Int32.toInt64 (sR_194 1 2)) * (Int32.toInt64 (sR_194 1 0))) * (Int32.toInt64 (sR_194 1 0))) + ((Int32.toInt64 (sR_194 1 7)) * x3_194))))) H locs ls (by assumption) (by omega) hPR hS (lv_sub hl [0] rfl) hM
  have J_129 : ∀ (sR_129 : St) (H : Heap) (locs : List Loc) (ls : Array Slot), okR sR_129 → va_P D vwCl (cellR cI g sR_129 vR) H → va_S (wA g 0 16) s.heap H locs → lv_has ls 6 [(0, .ref (g 0)), (1, .int p1), (2, .int p2)] → (m_R_step sR p1 p2) = b_R_step_129 sR_129 p1 p2 → W p l e rm_R_step s m args below meth c H locs 0 0 Q (F0 m 129 ls []) := by
    intro sR_129 H locs ls i129_0 hPR hS hl hM
    have ni129_0 := okR_lin i129_0
    refine lv_aload_n hx hb dX5_step_129 rfl (lv_at hl 0 rfl) ?_
    refine va_get (D := D) (ci := 5) (v := .int (sR_129 0 19)) (C := RX5) (T := TX5) (N := 33) hx hb hts hinR hown hE.1 hPR 0 rfl rfl 19 (by decide) (hts (.fieldLink RX5 97 "WallStonesModel" "letsGo" "I") (List.mem_of_getElem? (i := 1) rfl)) (fun _ h9 => h9) rfl dX5_step_130 ?_
    refine lv_bipush (v := (-9)) hx hb dX5_step_133 (by decide) ?_
    refine lv_icmp_ne (tgt := 139) hx hb dX5_step_135 (by decide) (fun c_9 => ?_) (fun c_9 => ?_)
    · have hM := hM.trans (if_neg c_9)
      have t_9 := ne_t c_9
      rw [tl_m9] at t_9
      refine lv_aload_n hx hb dX5_step_139 rfl (lv_at hl 0 rfl) ?_
      refine lv_sipush (v := 180) hx hb dX5_step_140 (by decide) ?_
      refine lv_aload_n hx hb dX5_step_143 rfl (lv_at hl 0 rfl) ?_
      refine va_get (D := D) (ci := 5) (v := .int (sR_129 0 19)) (C := RX5) (T := TX5) (N := 33) hx hb hts hinR hown hE.1 hPR 0 rfl rfl 19 (by decide) (hts (.fieldLink RX5 97 "WallStonesModel" "letsGo" "I") (List.mem_of_getElem? (i := 1) rfl)) (fun _ h9 => h9) rfl dX5_step_144 ?_
      refine lv_aload_n hx hb dX5_step_147 rfl (lv_at hl 0 rfl) ?_
      refine va_get (D := D) (ci := 5) (v := .ref (g 1)) (C := RX5) (T := TX5) (N := 33) hx hb hts hinR hown hE.1 hPR 0 rfl rfl 0 (by decide) (hts (.fieldLink RX5 7 "WallStonesModel" "told" "[I") (List.mem_of_getElem? (i := 8) rfl)) (fun _ h9 => h9) rfl dX5_step_148 ?_
      refine lv_iconst (v := 5) hx hb dX5_step_151 (by decide) ?_
      refine va_iald hx hb hE.1 hPR 1 0 rfl rfl (vp_in_iff.mpr (by decide)) dX5_step_152 ?_
      refine W.eq (congrArg (fun z => F0 m 153 ls [.int (sR_129 1 z), .int (sR_129 0 19), .int 180, .ref (g 0)]) cl_5) ?_
      refine lv_isub hx hb dX5_step_153 ?_
      refine lv_isub hx hb dX5_step_154 ?_
      refine lv_iload_n hx hb dX5_step_155 rfl (lv_at hl 2 rfl) ?_
      refine lv_isub hx hb dX5_step_156 ?_
      refine va_put (D := D) (ci := 5) (v := .int ((180 - ((sR_129 0 19) - (sR_129 1 5))) - p2)) (ty := .int) (C := RX5) (T := TX5) (N := 33) hx hb hts hinR tyX5 tyX5_ok nmX5 hown hE.1 hPR (wD_of hg (c := 0) (n := 16) (by decide) (by decide) rfl) hS 0 rfl rfl 22 (by decide) (hts (.fieldLink RX5 106 "WallStonesModel" "rise" "I") (List.mem_of_getElem? (i := 4) rfl)) (fun _ h9 => h9) rfl (by decide +kernel) rfl rfl (Nat.le_of_ble_eq_true rfl) dX5_step_157 (fun H locs hPn _ hS => ?_)
      have hPR : va_P D vwCl (cellR cI g (up sR_129 0 22 ((180 - ((sR_129 0 19) - (sR_129 1 5))) - p2)) vR) H := (congrArg (fun z => va_P D vwCl z H) putR_R22).mp hPn
      refine lv_aload_n hx hb dX5_step_160 rfl (lv_at hl 0 rfl) ?_
      refine va_get (D := D) (ci := 5) (v := .int ((180 - ((sR_129 0 19) - (sR_129 1 5))) - p2)) (C := RX5) (T := TX5) (N := 33) hx hb hts hinR hown hE.1 hPR 0 rfl rfl 22 (by decide) (hts (.fieldLink RX5 106 "WallStonesModel" "rise" "I") (List.mem_of_getElem? (i := 4) rfl)) (fun _ h9 => h9) rfl dX5_step_161 ?_
      refine lv_iconst (v := 1) hx hb dX5_step_164 (by decide) ?_
      refine lv_bipush (v := 89) hx hb dX5_step_165 (by decide) ?_
      refine runS_i (va_runS (As := [.int ((180 - ((sR_129 0 19) - (sR_129 1 5))) - p2), .int 1, .int 89]) (rest := []) ⟨hx, hb, hml, hown, hts⟩ (K_R_in ((180 - ((sR_129 0 19) - (sR_129 1 5))) - p2) 1 89) (va_cwS 3 hts gX5_step_X5_in rfl rfl rfl (by decide +kernel) ⟨Nat.le_of_ble_eq_true rfl, Nat.le_of_ble_eq_true rfl⟩) (preS_of hE hA hS trivial) rfl rfl hl.1 rfl (lv_room (Nat.le_of_ble_eq_true rfl)) dX5_step_167 ⟨Nat.zero_le _, Nat.zero_le _⟩) ?_
      refine lv_if_ne (tgt := 174) hx hb dX5_step_170 (by decide) (fun c_10 => ?_) (fun c_10 => ?_)
      · have hM := hM.trans (if_neg c_10)
        have t_10 := ne_t c_10
        rw [tl_0] at t_10
        have u_10 := in_t c_10
        rw [tl_1, tl_89] at u_10
        refine lv_aload_n hx hb dX5_step_174 rfl (lv_at hl 0 rfl) ?_
        refine va_get (D := D) (ci := 5) (v := .ref (g 1)) (C := RX5) (T := TX5) (N := 33) hx hb hts hinR hown hE.1 hPR 0 rfl rfl 0 (by decide) (hts (.fieldLink RX5 7 "WallStonesModel" "told" "[I") (List.mem_of_getElem? (i := 8) rfl)) (fun _ h9 => h9) rfl dX5_step_175 ?_
        refine lv_iconst (v := 1) hx hb dX5_step_178 (by decide) ?_
        refine va_iald hx hb hE.1 hPR 1 0 rfl rfl (vp_in_iff.mpr (by decide)) dX5_step_179 ?_
        refine W.eq (congrArg (fun z => F0 m 180 ls [.int (sR_129 1 z)]) cl_1) ?_
        refine lv_iload_n hx hb dX5_step_180 rfl (lv_at hl 1 rfl) ?_
        refine lv_iadd hx hb dX5_step_181 ?_
        refine lv_i2l (v := (Int32.toInt64 ((sR_129 1 1) + p1))) hx hb dX5_step_182 rfl ?_
        refine lv_aload_n hx hb dX5_step_183 rfl (lv_at hl 0 rfl) ?_
        refine va_get (D := D) (ci := 5) (v := .ref (g 1)) (C := RX5) (T := TX5) (N := 33) hx hb hts hinR hown hE.1 hPR 0 rfl rfl 0 (by decide) (hts (.fieldLink RX5 7 "WallStonesModel" "told" "[I") (List.mem_of_getElem? (i := 8) rfl)) (fun _ h9 => h9) rfl dX5_step_184 ?_
        refine lv_iconst (v := 1) hx hb dX5_step_187 (by decide) ?_
        refine va_iald hx hb hE.1 hPR 1 0 rfl rfl (vp_in_iff.mpr (by decide)) dX5_step_188 ?_
        refine W.eq (congrArg (fun z => F0 m 189 ls [.int (sR_129 1 z), .long (Int32.toInt64 ((sR_129 1 1) + p1))]) cl_1) ?_
        refine lv_iload_n hx hb dX5_step_189 rfl (lv_at hl 1 rfl) ?_
        refine lv_iadd hx hb dX5_step_190 ?_
        refine lv_i2l (v := (Int32.toInt64 ((sR_129 1 1) + p1))) hx hb dX5_step_191 rfl ?_
        refine lv_lmul hx hb dX5_step_192 ?_
        refine lv_lstore_n (lv' := [(3, .long ((Int32.toInt64 ((sR_129 1 1) + p1)) * (Int32.toInt64 ((sR_129 1 1) + p1)))), (0, .ref (g 0)), (1, .int p1), (2, .int p2)]) hx hb dX5_step_193 rfl hl (by decide) rfl (fun ls hl => ?_)
        have q11 : ((up sR_129 0 22 ((180 - ((sR_129 0 19) - (sR_129 1 5))) - p2)) 0 22).toInt = ((180 - ((sR_129 0 19) - (sR_129 1 5))) - p2).toInt := rfl
        have q12 : ((up sR_129 0 22 ((180 - ((sR_129 0 19) - (sR_129 1 5))) - p2)) 0 22).toInt = ((180 - ((sR_129 0 19) - (sR_129 1 5))) - p2).toInt := rfl
        exact J_194 (up sR_129 0 22 ((180 - ((sR_129 0 19) - (sR_129 1 5))) - p2)) ((Int32.toInt64 ((sR_129 1 1) + p1)) * (Int32.toInt64 ((sR_129 1 1) + p1))) H locs ls (by assumption) (far_b (by assumption) (by omega) (by omega)) (by omega) hPR hS (lv_sub hl [1, 0] rfl) hM
      · have hM := hM.trans (if_pos c_10)
        have t_10 := eq_t c_10
        rw [tl_0] at t_10
        have hM : (m_R_step sR p1 p2) = ((up sR_129 0 22 ((180 - ((sR_129 0 19) - (sR_129 1 5))) - p2)) : St) := hM
        exact hret H locs _ ls dX5_step_173 (rP_s1 (P := fun (z0 : St) => va_P D vwCl (cellR cI g z0 vR) H) hM hPR) hS
    · have hM := hM.trans (if_pos c_9)
      have t_9 := eq_t c_9
      rw [tl_m9] at t_9
      have hM : (m_R_step sR p1 p2) = (sR_129 : St) := hM
      exact hret H locs _ ls dX5_step_138 (rP_s1 (P := fun (z0 : St) => va_P D vwCl (cellR cI g z0 vR) H) hM hPR) hS
  have hM : (m_R_step sR p1 p2) = (m_R_step sR p1 p2) := rfl
  refine lv_aload_n hx hb dX5_step_0 rfl (lv_at hl 0 rfl) ?_
  refine lv_bipush (v := (-9)) hx hb dX5_step_1 (by decide) ?_
  refine va_put (D := D) (ci := 5) (v := .int (-9)) (ty := .int) (C := RX5) (T := TX5) (N := 33) hx hb hts hinR tyX5 tyX5_ok nmX5 hown hE.1 hPR (wD_of hg (c := 0) (n := 16) (by decide) (by decide) rfl) hS 0 rfl rfl 19 (by decide) (hts (.fieldLink RX5 97 "WallStonesModel" "letsGo" "I") (List.mem_of_getElem? (i := 1) rfl)) (fun _ h9 => h9) rfl (by decide +kernel) rfl rfl (Nat.le_of_ble_eq_true rfl) dX5_step_3 (fun H locs hPn _ hS => ?_)
  have hPR : va_P D vwCl (cellR cI g (up sR 0 19 (-9)) vR) H := (congrArg (fun z => va_P D vwCl z H) putR_R19).mp hPn
  refine lv_aload_n hx hb dX5_step_6 rfl (lv_at hl 0 rfl) ?_
  refine lv_bipush (v := (-9)) hx hb dX5_step_7 (by decide) ?_
  refine va_put (D := D) (ci := 5) (v := .int (-9)) (ty := .int) (C := RX5) (T := TX5) (N := 33) hx hb hts hinR tyX5 tyX5_ok nmX5 hown hE.1 hPR (wD_of hg (c := 0) (n := 16) (by decide) (by decide) rfl) hS 0 rfl rfl 20 (by decide) (hts (.fieldLink RX5 100 "WallStonesModel" "stalls" "I") (List.mem_of_getElem? (i := 2) rfl)) (fun _ h9 => h9) rfl (by decide +kernel) rfl rfl (Nat.le_of_ble_eq_true rfl) dX5_step_9 (fun H locs hPn _ hS => ?_)
  have hPR : va_P D vwCl (cellR cI g (up (up sR 0 19 (-9)) 0 20 (-9)) vR) H := (congrArg (fun z => va_P D vwCl z H) putR_R20).mp hPn
  refine lv_aload_n hx hb dX5_step_12 rfl (lv_at hl 0 rfl) ?_
  refine lv_bipush (v := (-9)) hx hb dX5_step_13 (by decide) ?_
  refine va_put (D := D) (ci := 5) (v := .int (-9)) (ty := .int) (C := RX5) (T := TX5) (N := 33) hx hb hts hinR tyX5 tyX5_ok nmX5 hown hE.1 hPR (wD_of hg (c := 0) (n := 16) (by decide) (by decide) rfl) hS 0 rfl rfl 21 (by decide) (hts (.fieldLink RX5 103 "WallStonesModel" "given" "I") (List.mem_of_getElem? (i := 3) rfl)) (fun _ h9 => h9) rfl (by decide +kernel) rfl rfl (Nat.le_of_ble_eq_true rfl) dX5_step_15 (fun H locs hPn _ hS => ?_)
  have hPR : va_P D vwCl (cellR cI g (up (up (up sR 0 19 (-9)) 0 20 (-9)) 0 21 (-9)) vR) H := (congrArg (fun z => va_P D vwCl z H) putR_R21).mp hPn
  refine lv_aload_n hx hb dX5_step_18 rfl (lv_at hl 0 rfl) ?_
  refine lv_bipush (v := (-9)) hx hb dX5_step_19 (by decide) ?_
  refine va_put (D := D) (ci := 5) (v := .int (-9)) (ty := .int) (C := RX5) (T := TX5) (N := 33) hx hb hts hinR tyX5 tyX5_ok nmX5 hown hE.1 hPR (wD_of hg (c := 0) (n := 16) (by decide) (by decide) rfl) hS 0 rfl rfl 22 (by decide) (hts (.fieldLink RX5 106 "WallStonesModel" "rise" "I") (List.mem_of_getElem? (i := 4) rfl)) (fun _ h9 => h9) rfl (by decide +kernel) rfl rfl (Nat.le_of_ble_eq_true rfl) dX5_step_21 (fun H locs hPn _ hS => ?_)
  have hPR : va_P D vwCl (cellR cI g (up (up (up (up sR 0 19 (-9)) 0 20 (-9)) 0 21 (-9)) 0 22 (-9)) vR) H := (congrArg (fun z => va_P D vwCl z H) putR_R22).mp hPn
  refine lv_aload_n hx hb dX5_step_24 rfl (lv_at hl 0 rfl) ?_
  refine lv_bipush (v := (-9)) hx hb dX5_step_25 (by decide) ?_
  refine va_put (D := D) (ci := 5) (v := .int (-9)) (ty := .int) (C := RX5) (T := TX5) (N := 33) hx hb hts hinR tyX5 tyX5_ok nmX5 hown hE.1 hPR (wD_of hg (c := 0) (n := 16) (by decide) (by decide) rfl) hS 0 rfl rfl 23 (by decide) (hts (.fieldLink RX5 109 "WallStonesModel" "speed" "I") (List.mem_of_getElem? (i := 5) rfl)) (fun _ h9 => h9) rfl (by decide +kernel) rfl rfl (Nat.le_of_ble_eq_true rfl) dX5_step_27 (fun H locs hPn _ hS => ?_)
  have hPR : va_P D vwCl (cellR cI g (up (up (up (up (up sR 0 19 (-9)) 0 20 (-9)) 0 21 (-9)) 0 22 (-9)) 0 23 (-9)) vR) H := (congrArg (fun z => va_P D vwCl z H) putR_R23).mp hPn
  refine lv_aload_n hx hb dX5_step_30 rfl (lv_at hl 0 rfl) ?_
  refine lv_bipush (v := (-9)) hx hb dX5_step_31 (by decide) ?_
  refine va_put (D := D) (ci := 5) (v := .int (-9)) (ty := .int) (C := RX5) (T := TX5) (N := 33) hx hb hts hinR tyX5 tyX5_ok nmX5 hown hE.1 hPR (wD_of hg (c := 0) (n := 16) (by decide) (by decide) rfl) hS 0 rfl rfl 24 (by decide) (hts (.fieldLink RX5 112 "WallStonesModel" "reach" "I") (List.mem_of_getElem? (i := 6) rfl)) (fun _ h9 => h9) rfl (by decide +kernel) rfl rfl (Nat.le_of_ble_eq_true rfl) dX5_step_33 (fun H locs hPn _ hS => ?_)
  have hPR : va_P D vwCl (cellR cI g (up (up (up (up (up (up sR 0 19 (-9)) 0 20 (-9)) 0 21 (-9)) 0 22 (-9)) 0 23 (-9)) 0 24 (-9)) vR) H := (congrArg (fun z => va_P D vwCl z H) putR_R24).mp hPn
  refine lv_aload_n hx hb dX5_step_36 rfl (lv_at hl 0 rfl) ?_
  refine lv_bipush (v := (-9)) hx hb dX5_step_37 (by decide) ?_
  refine va_put (D := D) (ci := 5) (v := .int (-9)) (ty := .int) (C := RX5) (T := TX5) (N := 33) hx hb hts hinR tyX5 tyX5_ok nmX5 hown hE.1 hPR (wD_of hg (c := 0) (n := 16) (by decide) (by decide) rfl) hS 0 rfl rfl 25 (by decide) (hts (.fieldLink RX5 115 "WallStonesModel" "range" "I") (List.mem_of_getElem? (i := 7) rfl)) (fun _ h9 => h9) rfl (by decide +kernel) rfl rfl (Nat.le_of_ble_eq_true rfl) dX5_step_39 (fun H locs hPn _ hS => ?_)
  have hPR : va_P D vwCl (cellR cI g (up (up (up (up (up (up (up sR 0 19 (-9)) 0 20 (-9)) 0 21 (-9)) 0 22 (-9)) 0 23 (-9)) 0 24 (-9)) 0 25 (-9)) vR) H := (congrArg (fun z => va_P D vwCl z H) putR_R25).mp hPn
  refine lv_iconst (v := 1) hx hb dX5_step_42 (by decide) ?_
  refine lv_istore_n (lv' := [(3, .int 1), (0, .ref (g 0)), (1, .int p1), (2, .int p2)]) hx hb dX5_step_43 rfl hl (by decide) rfl (fun ls hl => ?_)
  have z13 := tl_1
  refine L_44 161 (up (up (up (up (up (up (up sR 0 19 (-9)) 0 20 (-9)) 0 21 (-9)) 0 22 (-9)) 0 23 (-9)) 0 24 (-9)) 0 25 (-9)) 1 H locs ls (by omega) (by assumption) (by omega) hPR hS (lv_sub hl [1, 2, 3, 0] rfl) (fun H locs ls k0 k1 hPR hS hl => ?_)
  have nk1 := okR_lin k1
  exact J_129 (wl (g_R_step_44 p1 p2) 161 ((up (up (up (up (up (up (up sR 0 19 (-9)) 0 20 (-9)) 0 21 (-9)) 0 22 (-9)) 0 23 (-9)) 0 24 (-9)) 0 25 (-9)), 1)).1 H locs ls (by assumption) hPR hS (lv_sub hl [0, 1, 2] rfl) hM
abbrev rm_R_throwing : Room := { frames := 4, cells := 0, slots := 0, locals := 92 }
set_option maxHeartbeats 4000000 in
set_option maxRecDepth 100000 in
theorem K_R_throwing {l : Launch} {D : va_G} {cI : ClassId} {lo : Nat} {g : Nat → Nat} (hg : wI g 0 16 lo) (sR : St) (vR : Int64) (p1 : Int32) (h0 : okR sR) : WRi l D cI lo yX5_throwing wsX5_throwing rm_R_throwing [.ref (g 0), .int p1] (fun H => va_P D vwCl (cellR cI g sR vR) H) (m_R_throwing sR p1).1 (fun H => va_P D vwCl (cellR cI g (m_R_throwing sR p1).2 vR) H) (wA g 0 16) := by
  refine ofW_WRi (cc := cX5_throwing) (maxL := 2) (ty := .int) (by decide +kernel) rfl (Nat.le_of_ble_eq_true rfl) ?_
  intro p e s m args below meth c Q hx hb hml hown hts hE hP hret ls hl
  have hown : s.vm.findClass RX5 = some m.cls := hown
  have hPR := hP
  have hA := wA.lo hg
  have hS : va_S (wA g 0 16) s.heap s.heap [] := va_S.rf
  obtain ⟨H, hH⟩ : ∃ z, z = s.heap := ⟨_, rfl⟩
  obtain ⟨locs, hlocs⟩ : ∃ z : List Loc, z = [] := ⟨_, rfl⟩
  have hPR : va_P D vwCl (cellR cI g sR vR) H := by rw [hH]; exact hPR
  have hS : va_S (wA g 0 16) s.heap H locs := by rw [hH, hlocs]; exact va_S.rf
  have gW : W p l e rm_R_throwing s m args below meth c H locs 0 0 Q (F0 m 0 ls []) → W p l e rm_R_throwing s m args below meth c s.heap [] 0 0 Q (F0 m 0 ls []) := by rw [hH, hlocs]; exact id
  refine gW ?_
  have hinR : ∀ w ∈ wsX50, w ∈ wsX5_throwing := fun w h => List.mem_cons_of_mem _ (List.mem_append_right _ h)
  have hl : lv_has ls 2 [(0, .ref (g 0)), (1, .int p1)] := hl
  have nh0 := okR_lin h0
  have hM : (m_R_throwing sR p1) = (m_R_throwing sR p1) := rfl
  refine lv_aload_n hx hb dX5_throwing_0 rfl (lv_at hl 0 rfl) ?_
  refine lv_aload_n hx hb dX5_throwing_1 rfl (lv_at hl 0 rfl) ?_
  refine va_get (D := D) (ci := 5) (v := .ref (g 1)) (C := RX5) (T := TX5) (N := 33) hx hb hts hinR hown hE.1 hPR 0 rfl rfl 0 (by decide) (hts (.fieldLink RX5 7 "WallStonesModel" "told" "[I") (List.mem_of_getElem? (i := 1) rfl)) (fun _ h9 => h9) rfl dX5_throwing_2 ?_
  refine lv_iconst (v := 3) hx hb dX5_throwing_5 (by decide) ?_
  refine va_iald hx hb hE.1 hPR 1 0 rfl rfl (vp_in_iff.mpr (by decide)) dX5_throwing_6 ?_
  refine W.eq (congrArg (fun z => F0 m 7 ls [.int (sR 1 z), .ref (g 0)]) cl_3) ?_
  refine lv_aload_n hx hb dX5_throwing_7 rfl (lv_at hl 0 rfl) ?_
  refine va_get (D := D) (ci := 5) (v := .ref (g 1)) (C := RX5) (T := TX5) (N := 33) hx hb hts hinR hown hE.1 hPR 0 rfl rfl 0 (by decide) (hts (.fieldLink RX5 7 "WallStonesModel" "told" "[I") (List.mem_of_getElem? (i := 1) rfl)) (fun _ h9 => h9) rfl dX5_throwing_8 ?_
  refine lv_iconst (v := 4) hx hb dX5_throwing_11 (by decide) ?_
  refine va_iald hx hb hE.1 hPR 1 0 rfl rfl (vp_in_iff.mpr (by decide)) dX5_throwing_12 ?_
  refine W.eq (congrArg (fun z => F0 m 13 ls [.int (sR 1 z), .int (sR 1 3), .ref (g 0)]) cl_4) ?_
  refine runW_v (va_runV (As := [.int (sR 1 3), .int (sR 1 4)]) (rest := []) ⟨hx, hb, hml, hown, hts⟩ (K_R_step hg sR vR (sR 1 3) (sR 1 4) (by assumption) (by omega)) (cwV 2 hts gX5_throwing_X5_step rfl rfl rfl (by decide +kernel) ⟨Nat.le_of_ble_eq_true rfl, Nat.le_of_ble_eq_true rfl⟩) (preV_of hE hA hS hPR (va_recv hE.1 hPR (ci := 5) (q0 := 0) rfl rfl)) rfl rfl hl.1 rfl (lv_room (Nat.le_of_ble_eq_true rfl)) dX5_throwing_13 ⟨Nat.zero_le _, Nat.zero_le _⟩) hS (fun _ h9 => h9) (fun H locs hQ hk hS => ?_)
  have hPR : va_P D vwCl (cellR cI g (m_R_step sR (sR 1 3) (sR 1 4)) vR) H := hQ
  have v1 : okR (m_R_step sR (sR 1 3) (sR 1 4)) := okR_step (by assumption)
  have w1_3 : ((m_R_step sR (sR 1 3) (sR 1 4)) 0 3).toInt = (sR 0 3).toInt := congrArg Int32.toInt (fr_R_step (by omega))
  have w1_6 : ((m_R_step sR (sR 1 3) (sR 1 4)) 0 6).toInt = (sR 0 6).toInt := congrArg Int32.toInt (fr_R_step (by omega))
  have w1_7 : ((m_R_step sR (sR 1 3) (sR 1 4)) 0 7).toInt = (sR 0 7).toInt := congrArg Int32.toInt (fr_R_step (by omega))
  have w1_11 : ((m_R_step sR (sR 1 3) (sR 1 4)) 0 11).toInt = (sR 0 11).toInt := congrArg Int32.toInt (fr_R_step (by omega))
  have w1_16 : ((m_R_step sR (sR 1 3) (sR 1 4)) 0 16).toInt = (sR 0 16).toInt := congrArg Int32.toInt (fr_R_step (by omega))
  refine lv_iload_n hx hb dX5_throwing_16 rfl (lv_at hl 1 rfl) ?_
  by_cases c_2 : p1 = 0
  · have hM := hM.trans (if_pos c_2)
    refine lv_tableIn (tgt := 60) hx hb dX5_throwing_17 (by rw [c_2]; decide) (by rw [c_2]; decide) (by rw [c_2]; rfl) (by decide) ?_
    have t_2 := eq_t c_2
    rw [tl_0] at t_2
    refine lv_aload_n hx hb dX5_throwing_60 rfl (lv_at hl 0 rfl) ?_
    refine va_get (D := D) (ci := 5) (v := .int ((m_R_step sR (sR 1 3) (sR 1 4)) 0 19)) (C := RX5) (T := TX5) (N := 33) hx hb hts hinR hown hE.1 hPR 0 rfl rfl 19 (by decide) (hts (.fieldLink RX5 97 "WallStonesModel" "letsGo" "I") (List.mem_of_getElem? (i := 2) rfl)) (fun _ h9 => h9) rfl dX5_throwing_61 ?_
    have hM : (m_R_throwing sR p1) = ((((m_R_step sR (sR 1 3) (sR 1 4)) 0 19), (m_R_step sR (sR 1 3) (sR 1 4))) : Int32 × St) := hM
    exact hret ((m_R_step sR (sR 1 3) (sR 1 4)) 0 19) H locs _ ls (nr_i _) dX5_throwing_64 (ret1 hM) (rP_v1 (P := fun (z0 : St) => va_P D vwCl (cellR cI g z0 vR) H) hM hPR) hS
  · have hM := hM.trans (if_neg c_2)
    have t_2 := ne_t c_2
    rw [tl_0] at t_2
    by_cases c_3 : p1 = 1
    · have hM := hM.trans (if_pos c_3)
      refine lv_tableIn (tgt := 65) hx hb dX5_throwing_17 (by rw [c_3]; decide) (by rw [c_3]; decide) (by rw [c_3]; rfl) (by decide) ?_
      have t_3 := eq_t c_3
      rw [tl_1] at t_3
      refine lv_aload_n hx hb dX5_throwing_65 rfl (lv_at hl 0 rfl) ?_
      refine va_get (D := D) (ci := 5) (v := .int ((m_R_step sR (sR 1 3) (sR 1 4)) 0 20)) (C := RX5) (T := TX5) (N := 33) hx hb hts hinR hown hE.1 hPR 0 rfl rfl 20 (by decide) (hts (.fieldLink RX5 100 "WallStonesModel" "stalls" "I") (List.mem_of_getElem? (i := 3) rfl)) (fun _ h9 => h9) rfl dX5_throwing_66 ?_
      have hM : (m_R_throwing sR p1) = ((((m_R_step sR (sR 1 3) (sR 1 4)) 0 20), (m_R_step sR (sR 1 3) (sR 1 4))) : Int32 × St) := hM
      exact hret ((m_R_step sR (sR 1 3) (sR 1 4)) 0 20) H locs _ ls (nr_i _) dX5_throwing_69 (ret1 hM) (rP_v1 (P := fun (z0 : St) => va_P D vwCl (cellR cI g z0 vR) H) hM hPR) hS
    · have hM := hM.trans (if_neg c_3)
      have t_3 := ne_t c_3
      rw [tl_1] at t_3
      by_cases c_4 : p1 = 2
      · have hM := hM.trans (if_pos c_4)
        refine lv_tableIn (tgt := 70) hx hb dX5_throwing_17 (by rw [c_4]; decide) (by rw [c_4]; decide) (by rw [c_4]; rfl) (by decide) ?_
        have t_4 := eq_t c_4
        rw [tl_2] at t_4
        refine lv_aload_n hx hb dX5_throwing_70 rfl (lv_at hl 0 rfl) ?_
        refine va_get (D := D) (ci := 5) (v := .int ((m_R_step sR (sR 1 3) (sR 1 4)) 0 21)) (C := RX5) (T := TX5) (N := 33) hx hb hts hinR hown hE.1 hPR 0 rfl rfl 21 (by decide) (hts (.fieldLink RX5 103 "WallStonesModel" "given" "I") (List.mem_of_getElem? (i := 4) rfl)) (fun _ h9 => h9) rfl dX5_throwing_71 ?_
        have hM : (m_R_throwing sR p1) = ((((m_R_step sR (sR 1 3) (sR 1 4)) 0 21), (m_R_step sR (sR 1 3) (sR 1 4))) : Int32 × St) := hM
        exact hret ((m_R_step sR (sR 1 3) (sR 1 4)) 0 21) H locs _ ls (nr_i _) dX5_throwing_74 (ret1 hM) (rP_v1 (P := fun (z0 : St) => va_P D vwCl (cellR cI g z0 vR) H) hM hPR) hS
      · have hM := hM.trans (if_neg c_4)
        have t_4 := ne_t c_4
        rw [tl_2] at t_4
        by_cases c_5 : p1 = 3
        · have hM := hM.trans (if_pos c_5)
          refine lv_tableIn (tgt := 75) hx hb dX5_throwing_17 (by rw [c_5]; decide) (by rw [c_5]; decide) (by rw [c_5]; rfl) (by decide) ?_
          have t_5 := eq_t c_5
          rw [tl_3] at t_5
          refine lv_aload_n hx hb dX5_throwing_75 rfl (lv_at hl 0 rfl) ?_
          refine va_get (D := D) (ci := 5) (v := .int ((m_R_step sR (sR 1 3) (sR 1 4)) 0 22)) (C := RX5) (T := TX5) (N := 33) hx hb hts hinR hown hE.1 hPR 0 rfl rfl 22 (by decide) (hts (.fieldLink RX5 106 "WallStonesModel" "rise" "I") (List.mem_of_getElem? (i := 5) rfl)) (fun _ h9 => h9) rfl dX5_throwing_76 ?_
          have hM : (m_R_throwing sR p1) = ((((m_R_step sR (sR 1 3) (sR 1 4)) 0 22), (m_R_step sR (sR 1 3) (sR 1 4))) : Int32 × St) := hM
          exact hret ((m_R_step sR (sR 1 3) (sR 1 4)) 0 22) H locs _ ls (nr_i _) dX5_throwing_79 (ret1 hM) (rP_v1 (P := fun (z0 : St) => va_P D vwCl (cellR cI g z0 vR) H) hM hPR) hS
        · have hM := hM.trans (if_neg c_5)
          have t_5 := ne_t c_5
          rw [tl_3] at t_5
          by_cases c_6 : p1 = 4
          · have hM := hM.trans (if_pos c_6)
            refine lv_tableIn (tgt := 80) hx hb dX5_throwing_17 (by rw [c_6]; decide) (by rw [c_6]; decide) (by rw [c_6]; rfl) (by decide) ?_
            have t_6 := eq_t c_6
            rw [tl_4] at t_6
            refine lv_aload_n hx hb dX5_throwing_80 rfl (lv_at hl 0 rfl) ?_
            refine va_get (D := D) (ci := 5) (v := .int ((m_R_step sR (sR 1 3) (sR 1 4)) 0 23)) (C := RX5) (T := TX5) (N := 33) hx hb hts hinR hown hE.1 hPR 0 rfl rfl 23 (by decide) (hts (.fieldLink RX5 109 "WallStonesModel" "speed" "I") (List.mem_of_getElem? (i := 6) rfl)) (fun _ h9 => h9) rfl dX5_throwing_81 ?_
            have hM : (m_R_throwing sR p1) = ((((m_R_step sR (sR 1 3) (sR 1 4)) 0 23), (m_R_step sR (sR 1 3) (sR 1 4))) : Int32 × St) := hM
            exact hret ((m_R_step sR (sR 1 3) (sR 1 4)) 0 23) H locs _ ls (nr_i _) dX5_throwing_84 (ret1 hM) (rP_v1 (P := fun (z0 : St) => va_P D vwCl (cellR cI g z0 vR) H) hM hPR) hS
          · have hM := hM.trans (if_neg c_6)
            have t_6 := ne_t c_6
            rw [tl_4] at t_6
            by_cases c_7 : p1 = 5
            · have hM := hM.trans (if_pos c_7)
              refine lv_tableIn (tgt := 85) hx hb dX5_throwing_17 (by rw [c_7]; decide) (by rw [c_7]; decide) (by rw [c_7]; rfl) (by decide) ?_
              have t_7 := eq_t c_7
              rw [tl_5] at t_7
              refine lv_aload_n hx hb dX5_throwing_85 rfl (lv_at hl 0 rfl) ?_
              refine va_get (D := D) (ci := 5) (v := .int ((m_R_step sR (sR 1 3) (sR 1 4)) 0 24)) (C := RX5) (T := TX5) (N := 33) hx hb hts hinR hown hE.1 hPR 0 rfl rfl 24 (by decide) (hts (.fieldLink RX5 112 "WallStonesModel" "reach" "I") (List.mem_of_getElem? (i := 7) rfl)) (fun _ h9 => h9) rfl dX5_throwing_86 ?_
              have hM : (m_R_throwing sR p1) = ((((m_R_step sR (sR 1 3) (sR 1 4)) 0 24), (m_R_step sR (sR 1 3) (sR 1 4))) : Int32 × St) := hM
              exact hret ((m_R_step sR (sR 1 3) (sR 1 4)) 0 24) H locs _ ls (nr_i _) dX5_throwing_89 (ret1 hM) (rP_v1 (P := fun (z0 : St) => va_P D vwCl (cellR cI g z0 vR) H) hM hPR) hS
            · have hM := hM.trans (if_neg c_7)
              have t_7 := ne_t c_7
              rw [tl_5] at t_7
              by_cases c_8 : p1 = 6
              · have hM := hM.trans (if_pos c_8)
                refine lv_tableIn (tgt := 90) hx hb dX5_throwing_17 (by rw [c_8]; decide) (by rw [c_8]; decide) (by rw [c_8]; rfl) (by decide) ?_
                have t_8 := eq_t c_8
                rw [tl_6] at t_8
                refine lv_aload_n hx hb dX5_throwing_90 rfl (lv_at hl 0 rfl) ?_
                refine va_get (D := D) (ci := 5) (v := .int ((m_R_step sR (sR 1 3) (sR 1 4)) 0 25)) (C := RX5) (T := TX5) (N := 33) hx hb hts hinR hown hE.1 hPR 0 rfl rfl 25 (by decide) (hts (.fieldLink RX5 115 "WallStonesModel" "range" "I") (List.mem_of_getElem? (i := 8) rfl)) (fun _ h9 => h9) rfl dX5_throwing_91 ?_
                have hM : (m_R_throwing sR p1) = ((((m_R_step sR (sR 1 3) (sR 1 4)) 0 25), (m_R_step sR (sR 1 3) (sR 1 4))) : Int32 × St) := hM
                exact hret ((m_R_step sR (sR 1 3) (sR 1 4)) 0 25) H locs _ ls (nr_i _) dX5_throwing_94 (ret1 hM) (rP_v1 (P := fun (z0 : St) => va_P D vwCl (cellR cI g z0 vR) H) hM hPR) hS
              · have hM := hM.trans (if_neg c_8)
                have t_8 := ne_t c_8
                rw [tl_6] at t_8
                refine lv_tableOut (tgt := 95) hx hb dX5_throwing_17 (by omega) (by decide) ?_
                refine lv_iconst (v := (-1)) hx hb dX5_throwing_95 (by decide) ?_
                have hM : (m_R_throwing sR p1) = (((-1), (m_R_step sR (sR 1 3) (sR 1 4))) : Int32 × St) := hM
                exact hret (-1) H locs _ ls (nr_i _) dX5_throwing_96 (ret1 hM) (rP_v1 (P := fun (z0 : St) => va_P D vwCl (cellR cI g z0 vR) H) hM hPR) hS
abbrev rm_R_flight : Room := { frames := 1, cells := 0, slots := 0, locals := 23 }
set_option maxHeartbeats 4000000 in
set_option maxRecDepth 100000 in
theorem K_R_flight {l : Launch} {D : va_G} {cI : ClassId} {lo : Nat} {g : Nat → Nat} (hg : wI g 0 16 lo) (sR : St) (vR : Int64) (p1 : Int32) (p2 : Int32) (h0 : okR sR) : WRi l D cI lo yX5_flight wsX5_flight rm_R_flight [.ref (g 0), .int p1, .int p2] (fun H => va_P D vwCl (cellR cI g sR vR) H) (m_R_flight sR vR p1 p2).1 (fun H => va_P D vwCl (cellR cI g sR (m_R_flight sR vR p1 p2).2) H) (wA g 0 16) := by
  refine ofW_WRi (cc := cX5_flight) (maxL := 3) (ty := .int) (by decide +kernel) rfl (Nat.le_of_ble_eq_true rfl) ?_
  intro p e s m args below meth c Q hx hb hml hown hts hE hP hret ls hl
  have hown : s.vm.findClass RX5 = some m.cls := hown
  have hPR := hP
  have hA := wA.lo hg
  have hS : va_S (wA g 0 16) s.heap s.heap [] := va_S.rf
  obtain ⟨H, hH⟩ : ∃ z, z = s.heap := ⟨_, rfl⟩
  obtain ⟨locs, hlocs⟩ : ∃ z : List Loc, z = [] := ⟨_, rfl⟩
  have hPR : va_P D vwCl (cellR cI g sR vR) H := by rw [hH]; exact hPR
  have hS : va_S (wA g 0 16) s.heap H locs := by rw [hH, hlocs]; exact va_S.rf
  have gW : W p l e rm_R_flight s m args below meth c H locs 0 0 Q (F0 m 0 ls []) → W p l e rm_R_flight s m args below meth c s.heap [] 0 0 Q (F0 m 0 ls []) := by rw [hH, hlocs]; exact id
  refine gW ?_
  have hinR : ∀ w ∈ wsX50, w ∈ wsX5_flight := fun w h => List.mem_cons_of_mem _ (List.mem_append_right _ h)
  have hl : lv_has ls 3 [(0, .ref (g 0)), (1, .int p1), (2, .int p2)] := hl
  have nh0 := okR_lin h0
  have hM : (m_R_flight sR vR p1 p2) = (m_R_flight sR vR p1 p2) := rfl
  refine lv_iload_n hx hb dX5_flight_0 rfl (lv_at hl 1 rfl) ?_
  refine lv_iconst (v := 0) hx hb dX5_flight_1 (by decide) ?_
  refine lv_iconst (v := 2) hx hb dX5_flight_2 (by decide) ?_
  refine runS_i (va_runS (As := [.int p1, .int 0, .int 2]) (rest := []) ⟨hx, hb, hml, hown, hts⟩ (K_R_in p1 0 2) (va_cwS 3 hts gX5_flight_X5_in rfl rfl rfl (by decide +kernel) ⟨Nat.le_of_ble_eq_true rfl, Nat.le_of_ble_eq_true rfl⟩) (preS_of hE hA hS trivial) rfl rfl hl.1 rfl (lv_room (Nat.le_of_ble_eq_true rfl)) dX5_flight_3 ⟨Nat.zero_le _, Nat.zero_le _⟩) ?_
  refine lv_if_eq (tgt := 20) hx hb dX5_flight_6 (by decide) (fun c_1 => ?_) (fun c_1 => ?_)
  · have hM := hM.trans (if_pos c_1)
    refine lv_iconst (v := (-1)) hx hb dX5_flight_20 (by decide) ?_
    have hM : (m_R_flight sR vR p1 p2) = (((-1), vR) : Int32 × Int64) := hM
    exact hret (-1) H locs _ ls (nr_i _) dX5_flight_21 (ret1 hM) (rP_v1 (P := fun (z0 : Int64) => va_P D vwCl (cellR cI g sR z0) H) hM hPR) hS
  · have hM := hM.trans (if_neg c_1)
    have u_1 := in_t c_1
    rw [tl_0, tl_2] at u_1
    refine lv_iload_n hx hb dX5_flight_9 rfl (lv_at hl 2 rfl) ?_
    refine lv_iconst (v := 0) hx hb dX5_flight_10 (by decide) ?_
    refine lv_sipush (v := 20000) hx hb dX5_flight_11 (by decide) ?_
    refine runS_i (va_runS (As := [.int p2, .int 0, .int 20000]) (rest := []) ⟨hx, hb, hml, hown, hts⟩ (K_R_in p2 0 20000) (va_cwS 3 hts gX5_flight_X5_in rfl rfl rfl (by decide +kernel) ⟨Nat.le_of_ble_eq_true rfl, Nat.le_of_ble_eq_true rfl⟩) (preS_of hE hA hS trivial) rfl rfl hl.1 rfl (lv_room (Nat.le_of_ble_eq_true rfl)) dX5_flight_14 ⟨Nat.zero_le _, Nat.zero_le _⟩) ?_
    refine lv_if_ne (tgt := 22) hx hb dX5_flight_17 (by decide) (fun c_2 => ?_) (fun c_2 => ?_)
    · have hM := hM.trans (if_neg c_2)
      have u_2 := in_t c_2
      rw [tl_0, tl_20000] at u_2
      refine lv_aload_n hx hb dX5_flight_22 rfl (lv_at hl 0 rfl) ?_
      refine lv_dup hx hb dX5_flight_23 rfl ?_
      refine va_get (D := D) (ci := 5) (v := .long vR) (C := RX5) (T := TX5) (N := 33) hx hb hts hinR hown hE.1 hPR 0 rfl rfl 18 (by decide) (hts (.fieldLink RX5 133 "WallStonesModel" "trace" "J") (List.mem_of_getElem? (i := 1) rfl)) (fun _ h9 => h9) rfl dX5_flight_24 ?_
      refine lv_iload_n hx hb dX5_flight_27 rfl (lv_at hl 1 rfl) ?_
      refine lv_if_ne (tgt := 35) hx hb dX5_flight_28 (by decide) (fun c_3 => ?_) (fun c_3 => ?_)
      · have hM := hM.trans (if_neg c_3)
        refine lv_iload_n hx hb dX5_flight_35 rfl (lv_at hl 1 rfl) ?_
        refine lv_iconst (v := 1) hx hb dX5_flight_36 (by decide) ?_
        refine lv_icmp_ne (tgt := 46) hx hb dX5_flight_37 (by decide) (fun c_4 => ?_) (fun c_4 => ?_)
        · have hM := hM.trans (if_neg c_4)
          refine lv_ldc2 (own := RX5) (index := 139) (v := 111) hx hb hown (hts (.constantLong RX5 139 (111)) (List.mem_of_getElem? (i := 3) rfl)) dX5_flight_46 ?_
          refine lv_ladd hx hb dX5_flight_49 ?_
          refine va_put (D := D) (ci := 5) (v := .long (vR + 111)) (ty := .long) (C := RX5) (T := TX5) (N := 33) hx hb hts hinR tyX5 tyX5_ok nmX5 hown hE.1 hPR (wD_of hg (c := 0) (n := 16) (by decide) (by decide) rfl) hS 0 rfl rfl 18 (by decide) (hts (.fieldLink RX5 133 "WallStonesModel" "trace" "J") (List.mem_of_getElem? (i := 1) rfl)) (fun _ h9 => h9) rfl (by decide +kernel) rfl rfl (Nat.le_of_ble_eq_true rfl) dX5_flight_50 (fun H locs hPn _ hS => ?_)
          have hPR : va_P D vwCl (cellR cI g sR (vR + 111)) H := (congrArg (fun z => va_P D vwCl z H) putR_R18).mp hPn
          refine lv_aload_n hx hb dX5_flight_53 rfl (lv_at hl 0 rfl) ?_
          refine lv_iload_n hx hb dX5_flight_54 rfl (lv_at hl 1 rfl) ?_
          refine lv_iload_n hx hb dX5_flight_55 rfl (lv_at hl 2 rfl) ?_
          refine runS_i (va_runV (As := [.int p1, .int p2]) (rest := []) ⟨hx, hb, hml, hown, hts⟩ (K_R_flightOf hg sR (vR + 111) p1 p2 (by assumption)) (cwV 2 hts gX5_flight_X5_flightOf rfl rfl rfl (by decide +kernel) ⟨Nat.le_of_ble_eq_true rfl, Nat.le_of_ble_eq_true rfl⟩) (preV_of hE hA hS hPR (va_recv hE.1 hPR (ci := 5) (q0 := 0) rfl rfl)) rfl rfl hl.1 rfl (lv_room (Nat.le_of_ble_eq_true rfl)) dX5_flight_56 ⟨Nat.zero_le _, Nat.zero_le _⟩) ?_
          have hM : (m_R_flight sR vR p1 p2) = (((m_R_flightOf sR p1 p2), (vR + 111)) : Int32 × Int64) := hM
          exact hret (m_R_flightOf sR p1 p2) H locs _ ls (nr_i _) dX5_flight_59 (ret1 hM) (rP_v1 (P := fun (z0 : Int64) => va_P D vwCl (cellR cI g sR z0) H) hM hPR) hS
        · have hM := hM.trans (if_pos c_4)
          refine lv_ldc2 (own := RX5) (index := 137) (v := 11) hx hb hown (hts (.constantLong RX5 137 (11)) (List.mem_of_getElem? (i := 2) rfl)) dX5_flight_40 ?_
          refine lv_goto (tgt := 49) hx hb dX5_flight_43 (by decide) ?_
          refine lv_ladd hx hb dX5_flight_49 ?_
          refine va_put (D := D) (ci := 5) (v := .long (vR + 11)) (ty := .long) (C := RX5) (T := TX5) (N := 33) hx hb hts hinR tyX5 tyX5_ok nmX5 hown hE.1 hPR (wD_of hg (c := 0) (n := 16) (by decide) (by decide) rfl) hS 0 rfl rfl 18 (by decide) (hts (.fieldLink RX5 133 "WallStonesModel" "trace" "J") (List.mem_of_getElem? (i := 1) rfl)) (fun _ h9 => h9) rfl (by decide +kernel) rfl rfl (Nat.le_of_ble_eq_true rfl) dX5_flight_50 (fun H locs hPn _ hS => ?_)
          have hPR : va_P D vwCl (cellR cI g sR (vR + 11)) H := (congrArg (fun z => va_P D vwCl z H) putR_R18).mp hPn
          refine lv_aload_n hx hb dX5_flight_53 rfl (lv_at hl 0 rfl) ?_
          refine lv_iload_n hx hb dX5_flight_54 rfl (lv_at hl 1 rfl) ?_
          refine lv_iload_n hx hb dX5_flight_55 rfl (lv_at hl 2 rfl) ?_
          refine runS_i (va_runV (As := [.int p1, .int p2]) (rest := []) ⟨hx, hb, hml, hown, hts⟩ (K_R_flightOf hg sR (vR + 11) p1 p2 (by assumption)) (cwV 2 hts gX5_flight_X5_flightOf rfl rfl rfl (by decide +kernel) ⟨Nat.le_of_ble_eq_true rfl, Nat.le_of_ble_eq_true rfl⟩) (preV_of hE hA hS hPR (va_recv hE.1 hPR (ci := 5) (q0 := 0) rfl rfl)) rfl rfl hl.1 rfl (lv_room (Nat.le_of_ble_eq_true rfl)) dX5_flight_56 ⟨Nat.zero_le _, Nat.zero_le _⟩) ?_
          have hM : (m_R_flight sR vR p1 p2) = (((m_R_flightOf sR p1 p2), (vR + 11)) : Int32 × Int64) := hM
          exact hret (m_R_flightOf sR p1 p2) H locs _ ls (nr_i _) dX5_flight_59 (ret1 hM) (rP_v1 (P := fun (z0 : Int64) => va_P D vwCl (cellR cI g sR z0) H) hM hPR) hS
      · have hM := hM.trans (if_pos c_3)
        refine lv_lconst (v := 1) hx hb dX5_flight_31 (by decide) ?_
        refine lv_goto (tgt := 49) hx hb dX5_flight_32 (by decide) ?_
        refine lv_ladd hx hb dX5_flight_49 ?_
        refine va_put (D := D) (ci := 5) (v := .long (vR + 1)) (ty := .long) (C := RX5) (T := TX5) (N := 33) hx hb hts hinR tyX5 tyX5_ok nmX5 hown hE.1 hPR (wD_of hg (c := 0) (n := 16) (by decide) (by decide) rfl) hS 0 rfl rfl 18 (by decide) (hts (.fieldLink RX5 133 "WallStonesModel" "trace" "J") (List.mem_of_getElem? (i := 1) rfl)) (fun _ h9 => h9) rfl (by decide +kernel) rfl rfl (Nat.le_of_ble_eq_true rfl) dX5_flight_50 (fun H locs hPn _ hS => ?_)
        have hPR : va_P D vwCl (cellR cI g sR (vR + 1)) H := (congrArg (fun z => va_P D vwCl z H) putR_R18).mp hPn
        refine lv_aload_n hx hb dX5_flight_53 rfl (lv_at hl 0 rfl) ?_
        refine lv_iload_n hx hb dX5_flight_54 rfl (lv_at hl 1 rfl) ?_
        refine lv_iload_n hx hb dX5_flight_55 rfl (lv_at hl 2 rfl) ?_
        refine runS_i (va_runV (As := [.int p1, .int p2]) (rest := []) ⟨hx, hb, hml, hown, hts⟩ (K_R_flightOf hg sR (vR + 1) p1 p2 (by assumption)) (cwV 2 hts gX5_flight_X5_flightOf rfl rfl rfl (by decide +kernel) ⟨Nat.le_of_ble_eq_true rfl, Nat.le_of_ble_eq_true rfl⟩) (preV_of hE hA hS hPR (va_recv hE.1 hPR (ci := 5) (q0 := 0) rfl rfl)) rfl rfl hl.1 rfl (lv_room (Nat.le_of_ble_eq_true rfl)) dX5_flight_56 ⟨Nat.zero_le _, Nat.zero_le _⟩) ?_
        have hM : (m_R_flight sR vR p1 p2) = (((m_R_flightOf sR p1 p2), (vR + 1)) : Int32 × Int64) := hM
        exact hret (m_R_flightOf sR p1 p2) H locs _ ls (nr_i _) dX5_flight_59 (ret1 hM) (rP_v1 (P := fun (z0 : Int64) => va_P D vwCl (cellR cI g sR z0) H) hM hPR) hS
    · have hM := hM.trans (if_pos c_2)
      refine lv_iconst (v := (-1)) hx hb dX5_flight_20 (by decide) ?_
      have hM : (m_R_flight sR vR p1 p2) = (((-1), vR) : Int32 × Int64) := hM
      exact hret (-1) H locs _ ls (nr_i _) dX5_flight_21 (ret1 hM) (rP_v1 (P := fun (z0 : Int64) => va_P D vwCl (cellR cI g sR z0) H) hM hPR) hS
abbrev rm_R_tune : Room := { frames := 4, cells := 0, slots := 0, locals := 92 }
set_option maxHeartbeats 4000000 in
set_option maxRecDepth 100000 in
theorem K_R_tune {l : Launch} {D : va_G} {cI : ClassId} {lo : Nat} {g : Nat → Nat} (hg : wI g 0 16 lo) (sR : St) (vR : Int64) (p1 : Int32) (p2 : Int32) (p3 : Int32) (p4 : Int32) (h0 : okR sR) : WRi l D cI lo yX5_tune wsX5_tune rm_R_tune [.ref (g 0), .int p1, .int p2, .int p3, .int p4] (fun H => va_P D vwCl (cellR cI g sR vR) H) (m_R_tune sR p1 p2 p3 p4).1 (fun H => va_P D vwCl (cellR cI g (m_R_tune sR p1 p2 p3 p4).2 vR) H) (wA g 0 16) := by
  refine ofW_WRi (cc := cX5_tune) (maxL := 10) (ty := .int) (by decide +kernel) rfl (Nat.le_of_ble_eq_true rfl) ?_
  intro p e s m args below meth c Q hx hb hml hown hts hE hP hret ls hl
  have hown : s.vm.findClass RX5 = some m.cls := hown
  have hPR := hP
  have hA := wA.lo hg
  have hS : va_S (wA g 0 16) s.heap s.heap [] := va_S.rf
  obtain ⟨H, hH⟩ : ∃ z, z = s.heap := ⟨_, rfl⟩
  obtain ⟨locs, hlocs⟩ : ∃ z : List Loc, z = [] := ⟨_, rfl⟩
  have hPR : va_P D vwCl (cellR cI g sR vR) H := by rw [hH]; exact hPR
  have hS : va_S (wA g 0 16) s.heap H locs := by rw [hH, hlocs]; exact va_S.rf
  have gW : W p l e rm_R_tune s m args below meth c H locs 0 0 Q (F0 m 0 ls []) → W p l e rm_R_tune s m args below meth c s.heap [] 0 0 Q (F0 m 0 ls []) := by rw [hH, hlocs]; exact id
  refine gW ?_
  have hinR : ∀ w ∈ wsX50, w ∈ wsX5_tune := fun w h => List.mem_cons_of_mem _ (List.mem_append_right _ h)
  have hl : lv_has ls 10 [(0, .ref (g 0)), (1, .int p1), (2, .int p2), (3, .int p3), (4, .int p4)] := hl
  have nh0 := okR_lin h0
  have L_70 : ∀ (n : Nat) (sR_70 : St) (x5_70 : Int32) (x6_70 : Int32) (x7_70 : Int32) (x8_70 : Int32) (x9_70 : Int32) (H : Heap) (locs : List Loc) (ls : Array Slot), 0 ≤ x9_70.toInt ∧ x9_70.toInt ≤ 61 → okR sR_70 → 10 ≤ x8_70.toInt ∧ x8_70.toInt ≤ 160 → (61 - x9_70.toInt).toNat < n → va_P D vwCl (cellR cI g sR_70 vR) H → va_S (wA g 0 16) s.heap H locs → lv_has ls 10 [(0, .ref (g 0)), (2, .int p2), (3, .int p3), (4, .int p4), (5, .int x5_70), (6, .int x6_70), (7, .int x7_70), (8, .int x8_70), (9, .int x9_70)] → (∀ (H : Heap) (locs : List Loc) (ls : Array Slot), 0 ≤ (wl (g_R_tune_70 p3 x8_70) n (sR_70, x5_70, x6_70, x7_70, x9_70)).2.2.2.2.toInt ∧ (wl (g_R_tune_70 p3 x8_70) n (sR_70, x5_70, x6_70, x7_70, x9_70)).2.2.2.2.toInt ≤ 61 → okR (wl (g_R_tune_70 p3 x8_70) n (sR_70, x5_70, x6_70, x7_70, x9_70)).1 → 10 ≤ x8_70.toInt ∧ x8_70.toInt ≤ 160 → va_P D vwCl (cellR cI g (wl (g_R_tune_70 p3 x8_70) n (sR_70, x5_70, x6_70, x7_70, x9_70)).1 vR) H → va_S (wA g 0 16) s.heap H locs → lv_has ls 10 [(0, .ref (g 0)), (2, .int p2), (3, .int p3), (4, .int p4), (5, .int (wl (g_R_tune_70 p3 x8_70) n (sR_70, x5_70, x6_70, x7_70, x9_70)).2.1), (6, .int (wl (g_R_tune_70 p3 x8_70) n (sR_70, x5_70, x6_70, x7_70, x9_70)).2.2.1), (7, .int (wl (g_R_tune_70 p3 x8_70) n (sR_70, x5_70, x6_70, x7_70, x9_70)).2.2.2.1), (8, .int x8_70)] → W p l e rm_R_tune s m args below meth c H locs 0 0 Q (F0 m 140 ls [])) → W p l e rm_R_tune s m args below meth c H locs 0 0 Q (F0 m 70 ls []) := by
    intro n
    induction n with
    | zero =>
      intro sR_70 x5_70 x6_70 x7_70 x8_70 x9_70 H locs ls i70_0 i70_1 i70_2 hn70 hPR hS hl kk
      exact absurd hn70 (Nat.not_lt_zero _)
    | succ n ih =>
      intro sR_70 x5_70 x6_70 x7_70 x8_70 x9_70 H locs ls i70_0 i70_1 i70_2 hn70 hPR hS hl kk
      have ni70_1 := okR_lin i70_1
      have hM : (g_R_tune_70 p3 x8_70) (sR_70, x5_70, x6_70, x7_70, x9_70) = (g_R_tune_70 p3 x8_70) (sR_70, x5_70, x6_70, x7_70, x9_70) := rfl
      refine lv_iload hx hb dX5_tune_70 (lv_at hl 8 rfl) ?_
      refine lv_bipush (v := 61) hx hb dX5_tune_72 (by decide) ?_
      refine lv_icmp_ge (tgt := 140) hx hb dX5_tune_74 (by decide) (fun c_1 => ?_) (fun c_1 => ?_)
      · have hM := hM.trans (if_pos c_1)
        have t_1 := le_t c_1
        rw [tl_61] at t_1
        rw [wl_none hM] at kk
        try dsimp only at kk
        exact kk H locs ls (by omega) (by assumption) (by omega) hPR hS (lv_sub hl [0, 1, 2, 3, 4, 5, 6, 7] rfl)
      · have hM := hM.trans (if_neg c_1)
        have t_1 := nle_t c_1
        rw [tl_61] at t_1
        refine lv_aload_n hx hb dX5_tune_77 rfl (lv_at hl 0 rfl) ?_
        refine lv_iload hx hb dX5_tune_78 (lv_at hl 7 rfl) ?_
        refine lv_iload hx hb dX5_tune_80 (lv_at hl 8 rfl) ?_
        refine runW_v (va_runV (As := [.int x8_70, .int x9_70]) (rest := []) ⟨hx, hb, hml, hown, hts⟩ (K_R_step hg sR_70 vR x8_70 x9_70 (by assumption) (by omega)) (cwV 2 hts gX5_tune_X5_step rfl rfl rfl (by decide +kernel) ⟨Nat.le_of_ble_eq_true rfl, Nat.le_of_ble_eq_true rfl⟩) (preV_of hE hA hS hPR (va_recv hE.1 hPR (ci := 5) (q0 := 0) rfl rfl)) rfl rfl hl.1 rfl (lv_room (Nat.le_of_ble_eq_true rfl)) dX5_tune_82 ⟨Nat.zero_le _, Nat.zero_le _⟩) hS (fun _ h9 => h9) (fun H locs hQ hk hS => ?_)
        have hPR : va_P D vwCl (cellR cI g (m_R_step sR_70 x8_70 x9_70) vR) H := hQ
        have v2 : okR (m_R_step sR_70 x8_70 x9_70) := okR_step (by assumption)
        have w2_3 : ((m_R_step sR_70 x8_70 x9_70) 0 3).toInt = (sR_70 0 3).toInt := congrArg Int32.toInt (fr_R_step (by omega))
        have w2_6 : ((m_R_step sR_70 x8_70 x9_70) 0 6).toInt = (sR_70 0 6).toInt := congrArg Int32.toInt (fr_R_step (by omega))
        have w2_7 : ((m_R_step sR_70 x8_70 x9_70) 0 7).toInt = (sR_70 0 7).toInt := congrArg Int32.toInt (fr_R_step (by omega))
        have w2_11 : ((m_R_step sR_70 x8_70 x9_70) 0 11).toInt = (sR_70 0 11).toInt := congrArg Int32.toInt (fr_R_step (by omega))
        have w2_16 : ((m_R_step sR_70 x8_70 x9_70) 0 16).toInt = (sR_70 0 16).toInt := congrArg Int32.toInt (fr_R_step (by omega))
        refine lv_aload_n hx hb dX5_tune_85 rfl (lv_at hl 0 rfl) ?_
        refine va_get (D := D) (ci := 5) (v := .int ((m_R_step sR_70 x8_70 x9_70) 0 25)) (C := RX5) (T := TX5) (N := 33) hx hb hts hinR hown hE.1 hPR 0 rfl rfl 25 (by decide) (hts (.fieldLink RX5 115 "WallStonesModel" "range" "I") (List.mem_of_getElem? (i := 1) rfl)) (fun _ h9 => h9) rfl dX5_tune_86 ?_
        refine lv_bipush (v := (-9)) hx hb dX5_tune_89 (by decide) ?_
        refine lv_icmp_eq (tgt := 134) hx hb dX5_tune_91 (by decide) (fun c_3 => ?_) (fun c_3 => ?_)
        · have hM := hM.trans (if_pos c_3)
          have t_3 := eq_t c_3
          rw [tl_m9] at t_3
          refine lv_iinc (v := (x9_70 + 1)) (lv' := [(9, .int (x9_70 + 1)), (0, .ref (g 0)), (2, .int p2), (3, .int p3), (4, .int p4), (5, .int x5_70), (6, .int x6_70), (7, .int x7_70), (8, .int x8_70)]) hx hb dX5_tune_134 hl (k := 8) rfl rfl (by decide) rfl (fun ls hl => ?_)
          refine lv_goto (tgt := 70) hx hb dX5_tune_137 (by decide) ?_
          have := t_inc (x := x9_70) (by omega)
          rw [wl_some hM] at kk
          exact ih (m_R_step sR_70 x8_70 x9_70) x5_70 x6_70 x7_70 x8_70 (x9_70 + 1) H locs ls (by omega) (by assumption) (by omega) (by omega) hPR hS (lv_sub hl [1, 2, 3, 4, 5, 6, 7, 8, 0] rfl) kk
        · have hM := hM.trans (if_neg c_3)
          have t_3 := ne_t c_3
          rw [tl_m9] at t_3
          refine lv_iload hx hb dX5_tune_94 (lv_at hl 4 rfl) ?_
          refine lv_bipush (v := (-9)) hx hb dX5_tune_96 (by decide) ?_
          refine lv_icmp_eq (tgt := 120) hx hb dX5_tune_98 (by decide) (fun c_4 => ?_) (fun c_4 => ?_)
          · have hM := hM.trans (if_pos c_4)
            have t_4 := eq_t c_4
            rw [tl_m9] at t_4
            refine lv_iload hx hb dX5_tune_120 (lv_at hl 7 rfl) ?_
            refine lv_istore (lv' := [(5, .int x8_70), (0, .ref (g 0)), (2, .int p2), (3, .int p3), (4, .int p4), (6, .int x6_70), (7, .int x7_70), (8, .int x8_70), (9, .int x9_70)]) hx hb dX5_tune_122 hl (by decide) rfl (fun ls hl => ?_)
            refine lv_iload hx hb dX5_tune_124 (lv_at hl 8 rfl) ?_
            refine lv_istore (lv' := [(6, .int x9_70), (5, .int x8_70), (0, .ref (g 0)), (2, .int p2), (3, .int p3), (4, .int p4), (7, .int x7_70), (8, .int x8_70), (9, .int x9_70)]) hx hb dX5_tune_126 hl (by decide) rfl (fun ls hl => ?_)
            refine lv_aload_n hx hb dX5_tune_128 rfl (lv_at hl 2 rfl) ?_
            refine va_get (D := D) (ci := 5) (v := .int ((m_R_step sR_70 x8_70 x9_70) 0 25)) (C := RX5) (T := TX5) (N := 33) hx hb hts hinR hown hE.1 hPR 0 rfl rfl 25 (by decide) (hts (.fieldLink RX5 115 "WallStonesModel" "range" "I") (List.mem_of_getElem? (i := 1) rfl)) (fun _ h9 => h9) rfl dX5_tune_129 ?_
            refine lv_istore (lv' := [(7, .int ((m_R_step sR_70 x8_70 x9_70) 0 25)), (6, .int x9_70), (5, .int x8_70), (0, .ref (g 0)), (2, .int p2), (3, .int p3), (4, .int p4), (8, .int x8_70), (9, .int x9_70)]) hx hb dX5_tune_132 hl (by decide) rfl (fun ls hl => ?_)
            refine lv_iinc (v := (x9_70 + 1)) (lv' := [(9, .int (x9_70 + 1)), (7, .int ((m_R_step sR_70 x8_70 x9_70) 0 25)), (6, .int x9_70), (5, .int x8_70), (0, .ref (g 0)), (2, .int p2), (3, .int p3), (4, .int p4), (8, .int x8_70)]) hx hb dX5_tune_134 hl (k := 8) rfl rfl (by decide) rfl (fun ls hl => ?_)
            refine lv_goto (tgt := 70) hx hb dX5_tune_137 (by decide) ?_
            have := t_inc (x := x9_70) (by omega)
            rw [wl_some hM] at kk
            exact ih (m_R_step sR_70 x8_70 x9_70) x8_70 x9_70 ((m_R_step sR_70 x8_70 x9_70) 0 25) x8_70 (x9_70 + 1) H locs ls (by omega) (by assumption) (by omega) (by omega) hPR hS (lv_sub hl [4, 5, 6, 7, 3, 2, 1, 8, 0] rfl) kk
          · have hM := hM.trans (if_neg c_4)
            have t_4 := ne_t c_4
            rw [tl_m9] at t_4
            refine lv_aload_n hx hb dX5_tune_101 rfl (lv_at hl 0 rfl) ?_
            refine va_get (D := D) (ci := 5) (v := .int ((m_R_step sR_70 x8_70 x9_70) 0 25)) (C := RX5) (T := TX5) (N := 33) hx hb hts hinR hown hE.1 hPR 0 rfl rfl 25 (by decide) (hts (.fieldLink RX5 115 "WallStonesModel" "range" "I") (List.mem_of_getElem? (i := 1) rfl)) (fun _ h9 => h9) rfl dX5_tune_102 ?_
            refine lv_iload_n hx hb dX5_tune_105 rfl (lv_at hl 2 rfl) ?_
            refine lv_isub hx hb dX5_tune_106 ?_
            refine runS_i (va_runS (As := [.int (((m_R_step sR_70 x8_70 x9_70) 0 25) - p3)]) (rest := []) ⟨hx, hb, hml, hown, hts⟩ (K_R_size (((m_R_step sR_70 x8_70 x9_70) 0 25) - p3)) (va_cwS 1 hts gX5_tune_X5_size rfl rfl rfl (by decide +kernel) ⟨Nat.le_of_ble_eq_true rfl, Nat.le_of_ble_eq_true rfl⟩) (preS_of hE hA hS trivial) rfl rfl hl.1 rfl (lv_room (Nat.le_of_ble_eq_true rfl)) dX5_tune_107 ⟨Nat.zero_le _, Nat.zero_le _⟩) ?_
            refine lv_iload hx hb dX5_tune_110 (lv_at hl 6 rfl) ?_
            refine lv_iload_n hx hb dX5_tune_112 rfl (lv_at hl 2 rfl) ?_
            refine lv_isub hx hb dX5_tune_113 ?_
            refine runS_i (va_runS (As := [.int (x7_70 - p3)]) (rest := [.int (m_R_size (((m_R_step sR_70 x8_70 x9_70) 0 25) - p3))]) ⟨hx, hb, hml, hown, hts⟩ (K_R_size (x7_70 - p3)) (va_cwS 1 hts gX5_tune_X5_size rfl rfl rfl (by decide +kernel) ⟨Nat.le_of_ble_eq_true rfl, Nat.le_of_ble_eq_true rfl⟩) (preS_of hE hA hS trivial) rfl rfl hl.1 rfl (lv_room (Nat.le_of_ble_eq_true rfl)) dX5_tune_114 ⟨Nat.zero_le _, Nat.zero_le _⟩) ?_
            refine lv_icmp_ge (tgt := 134) hx hb dX5_tune_117 (by decide) (fun c_5 => ?_) (fun c_5 => ?_)
            · have hM := hM.trans (if_pos c_5)
              have t_5 := le_t c_5
              refine lv_iinc (v := (x9_70 + 1)) (lv' := [(9, .int (x9_70 + 1)), (0, .ref (g 0)), (2, .int p2), (3, .int p3), (4, .int p4), (5, .int x5_70), (6, .int x6_70), (7, .int x7_70), (8, .int x8_70)]) hx hb dX5_tune_134 hl (k := 8) rfl rfl (by decide) rfl (fun ls hl => ?_)
              refine lv_goto (tgt := 70) hx hb dX5_tune_137 (by decide) ?_
              have := t_inc (x := x9_70) (by omega)
              rw [wl_some hM] at kk
              exact ih (m_R_step sR_70 x8_70 x9_70) x5_70 x6_70 x7_70 x8_70 (x9_70 + 1) H locs ls (by omega) (by assumption) (by omega) (by omega) hPR hS (lv_sub hl [1, 2, 3, 4, 5, 6, 7, 8, 0] rfl) kk
            · have hM := hM.trans (if_neg c_5)
              have t_5 := nle_t c_5
              refine lv_iload hx hb dX5_tune_120 (lv_at hl 7 rfl) ?_
              refine lv_istore (lv' := [(5, .int x8_70), (0, .ref (g 0)), (2, .int p2), (3, .int p3), (4, .int p4), (6, .int x6_70), (7, .int x7_70), (8, .int x8_70), (9, .int x9_70)]) hx hb dX5_tune_122 hl (by decide) rfl (fun ls hl => ?_)
              refine lv_iload hx hb dX5_tune_124 (lv_at hl 8 rfl) ?_
              refine lv_istore (lv' := [(6, .int x9_70), (5, .int x8_70), (0, .ref (g 0)), (2, .int p2), (3, .int p3), (4, .int p4), (7, .int x7_70), (8, .int x8_70), (9, .int x9_70)]) hx hb dX5_tune_126 hl (by decide) rfl (fun ls hl => ?_)
              refine lv_aload_n hx hb dX5_tune_128 rfl (lv_at hl 2 rfl) ?_
              refine va_get (D := D) (ci := 5) (v := .int ((m_R_step sR_70 x8_70 x9_70) 0 25)) (C := RX5) (T := TX5) (N := 33) hx hb hts hinR hown hE.1 hPR 0 rfl rfl 25 (by decide) (hts (.fieldLink RX5 115 "WallStonesModel" "range" "I") (List.mem_of_getElem? (i := 1) rfl)) (fun _ h9 => h9) rfl dX5_tune_129 ?_
              refine lv_istore (lv' := [(7, .int ((m_R_step sR_70 x8_70 x9_70) 0 25)), (6, .int x9_70), (5, .int x8_70), (0, .ref (g 0)), (2, .int p2), (3, .int p3), (4, .int p4), (8, .int x8_70), (9, .int x9_70)]) hx hb dX5_tune_132 hl (by decide) rfl (fun ls hl => ?_)
              refine lv_iinc (v := (x9_70 + 1)) (lv' := [(9, .int (x9_70 + 1)), (7, .int ((m_R_step sR_70 x8_70 x9_70) 0 25)), (6, .int x9_70), (5, .int x8_70), (0, .ref (g 0)), (2, .int p2), (3, .int p3), (4, .int p4), (8, .int x8_70)]) hx hb dX5_tune_134 hl (k := 8) rfl rfl (by decide) rfl (fun ls hl => ?_)
              refine lv_goto (tgt := 70) hx hb dX5_tune_137 (by decide) ?_
              have := t_inc (x := x9_70) (by omega)
              rw [wl_some hM] at kk
              exact ih (m_R_step sR_70 x8_70 x9_70) x8_70 x9_70 ((m_R_step sR_70 x8_70 x9_70) 0 25) x8_70 (x9_70 + 1) H locs ls (by omega) (by assumption) (by omega) (by omega) hPR hS (lv_sub hl [4, 5, 6, 7, 3, 2, 1, 8, 0] rfl) kk
  have L_61 : ∀ (n : Nat) (sR_61 : St) (x5_61 : Int32) (x6_61 : Int32) (x7_61 : Int32) (x8_61 : Int32) (H : Heap) (locs : List Loc) (ls : Array Slot), 10 ≤ x8_61.toInt ∧ x8_61.toInt ≤ 161 → okR sR_61 → p2.toInt ≤ 160 → (161 - x8_61.toInt).toNat < n → va_P D vwCl (cellR cI g sR_61 vR) H → va_S (wA g 0 16) s.heap H locs → lv_has ls 10 [(0, .ref (g 0)), (2, .int p2), (3, .int p3), (4, .int p4), (5, .int x5_61), (6, .int x6_61), (7, .int x7_61), (8, .int x8_61)] → (∀ (H : Heap) (locs : List Loc) (ls : Array Slot), va_P D vwCl (cellR cI g (wl (g_R_tune_61 p2 p3) n (sR_61, x5_61, x6_61, x7_61, x8_61)).1 vR) H → va_S (wA g 0 16) s.heap H locs → lv_has ls 10 [(4, .int p4), (5, .int (wl (g_R_tune_61 p2 p3) n (sR_61, x5_61, x6_61, x7_61, x8_61)).2.1), (6, .int (wl (g_R_tune_61 p2 p3) n (sR_61, x5_61, x6_61, x7_61, x8_61)).2.2.1), (7, .int (wl (g_R_tune_61 p2 p3) n (sR_61, x5_61, x6_61, x7_61, x8_61)).2.2.2.1)] → W p l e rm_R_tune s m args below meth c H locs 0 0 Q (F0 m 146 ls [])) → W p l e rm_R_tune s m args below meth c H locs 0 0 Q (F0 m 61 ls []) := by
    intro n
    induction n with
    | zero =>
      intro sR_61 x5_61 x6_61 x7_61 x8_61 H locs ls i61_0 i61_1 i61_2 hn61 hPR hS hl kk
      exact absurd hn61 (Nat.not_lt_zero _)
    | succ n ih =>
      intro sR_61 x5_61 x6_61 x7_61 x8_61 H locs ls i61_0 i61_1 i61_2 hn61 hPR hS hl kk
      have ni61_1 := okR_lin i61_1
      have J_140 : ∀ (sR_140 : St) (x5_140 : Int32) (x6_140 : Int32) (x7_140 : Int32) (x8_140 : Int32) (H : Heap) (locs : List Loc) (ls : Array Slot), okR sR_140 → 10 ≤ x8_140.toInt ∧ x8_140.toInt ≤ 160 → (161 - x8_140.toInt).toNat < n + 1 → va_P D vwCl (cellR cI g sR_140 vR) H → va_S (wA g 0 16) s.heap H locs → lv_has ls 10 [(0, .ref (g 0)), (2, .int p2), (3, .int p3), (4, .int p4), (5, .int x5_140), (6, .int x6_140), (7, .int x7_140), (8, .int x8_140)] → (g_R_tune_61 p2 p3) (sR_61, x5_61, x6_61, x7_61, x8_61) = b_R_tune_140 sR_140 p2 p3 x5_140 x6_140 x7_140 x8_140 → W p l e rm_R_tune s m args below meth c H locs 0 0 Q (F0 m 140 ls []) := by
        intro sR_140 x5_140 x6_140 x7_140 x8_140 H locs ls i140_0 i140_1 i140_2 hPR hS hl hM
        have ni140_0 := okR_lin i140_0
        refine lv_iinc (v := (x8_140 + 1)) (lv' := [(8, .int (x8_140 + 1)), (0, .ref (g 0)), (2, .int p2), (3, .int p3), (4, .int p4), (5, .int x5_140), (6, .int x6_140), (7, .int x7_140)]) hx hb dX5_tune_140 hl (k := 7) rfl rfl (by decide) rfl (fun ls hl => ?_)
        refine lv_goto (tgt := 61) hx hb dX5_tune_143 (by decide) ?_
        have := t_inc (x := x8_140) (by omega)
        rw [wl_some hM] at kk
        exact ih sR_140 x5_140 x6_140 x7_140 (x8_140 + 1) H locs ls (by omega) (by assumption) (by omega) (by omega) hPR hS (lv_sub hl [1, 2, 3, 4, 5, 6, 7, 0] rfl) kk
      have hM : (g_R_tune_61 p2 p3) (sR_61, x5_61, x6_61, x7_61, x8_61) = (g_R_tune_61 p2 p3) (sR_61, x5_61, x6_61, x7_61, x8_61) := rfl
      refine lv_iload hx hb dX5_tune_61 (lv_at hl 7 rfl) ?_
      refine lv_iload_n hx hb dX5_tune_63 rfl (lv_at hl 1 rfl) ?_
      refine lv_icmp_gt (tgt := 146) hx hb dX5_tune_64 (by decide) (fun c_6 => ?_) (fun c_6 => ?_)
      · have hM := hM.trans (if_pos c_6)
        have t_6 := lt_t c_6
        rw [wl_none hM] at kk
        exact kk H locs ls hPR hS (lv_sub hl [3, 4, 5, 6] rfl)
      · have hM := hM.trans (if_neg c_6)
        have t_6 := nlt_t c_6
        refine lv_iconst (v := 0) hx hb dX5_tune_67 (by decide) ?_
        refine lv_istore (lv' := [(9, .int 0), (0, .ref (g 0)), (2, .int p2), (3, .int p3), (4, .int p4), (5, .int x5_61), (6, .int x6_61), (7, .int x7_61), (8, .int x8_61)]) hx hb dX5_tune_68 hl (by decide) rfl (fun ls hl => ?_)
        have z7 := tl_0
        refine L_70 62 sR_61 x5_61 x6_61 x7_61 x8_61 0 H locs ls (by omega) (by assumption) (by omega) (by omega) hPR hS (lv_sub hl [1, 2, 3, 4, 5, 6, 7, 8, 0] rfl) (fun H locs ls k0 k1 k2 hPR hS hl => ?_)
        have nk1 := okR_lin k1
        exact J_140 (wl (g_R_tune_70 p3 x8_61) 62 (sR_61, x5_61, x6_61, x7_61, 0)).1 (wl (g_R_tune_70 p3 x8_61) 62 (sR_61, x5_61, x6_61, x7_61, 0)).2.1 (wl (g_R_tune_70 p3 x8_61) 62 (sR_61, x5_61, x6_61, x7_61, 0)).2.2.1 (wl (g_R_tune_70 p3 x8_61) 62 (sR_61, x5_61, x6_61, x7_61, 0)).2.2.2.1 x8_61 H locs ls (by assumption) (by omega) (by omega) hPR hS (lv_sub hl [0, 1, 2, 3, 4, 5, 6, 7] rfl) hM
  have J_146 : ∀ (sR_146 : St) (x5_146 : Int32) (x6_146 : Int32) (x7_146 : Int32) (H : Heap) (locs : List Loc) (ls : Array Slot), va_P D vwCl (cellR cI g sR_146 vR) H → va_S (wA g 0 16) s.heap H locs → lv_has ls 10 [(4, .int p4), (5, .int x5_146), (6, .int x6_146), (7, .int x7_146)] → (m_R_tune sR p1 p2 p3 p4) = b_R_tune_146 sR_146 p4 x5_146 x6_146 x7_146 → W p l e rm_R_tune s m args below meth c H locs 0 0 Q (F0 m 146 ls []) := by
    intro sR_146 x5_146 x6_146 x7_146 H locs ls hPR hS hl hM
    refine lv_iload hx hb dX5_tune_146 (lv_at hl 0 rfl) ?_
    refine lv_if_ne (tgt := 156) hx hb dX5_tune_148 (by decide) (fun c_8 => ?_) (fun c_8 => ?_)
    · have hM := hM.trans (if_neg c_8)
      have t_8 := ne_t c_8
      rw [tl_0] at t_8
      refine lv_iload hx hb dX5_tune_156 (lv_at hl 0 rfl) ?_
      refine lv_iconst (v := 1) hx hb dX5_tune_158 (by decide) ?_
      refine lv_icmp_ne (tgt := 167) hx hb dX5_tune_159 (by decide) (fun c_9 => ?_) (fun c_9 => ?_)
      · have hM := hM.trans (if_neg c_9)
        have t_9 := ne_t c_9
        rw [tl_1] at t_9
        refine lv_iload hx hb dX5_tune_167 (lv_at hl 3 rfl) ?_
        have hM : (m_R_tune sR p1 p2 p3 p4) = ((x7_146, sR_146) : Int32 × St) := hM
        exact hret x7_146 H locs _ ls (nr_i _) dX5_tune_169 (ret1 hM) (rP_v1 (P := fun (z0 : St) => va_P D vwCl (cellR cI g z0 vR) H) hM hPR) hS
      · have hM := hM.trans (if_pos c_9)
        have t_9 := eq_t c_9
        rw [tl_1] at t_9
        refine lv_iload hx hb dX5_tune_162 (lv_at hl 2 rfl) ?_
        refine lv_goto (tgt := 169) hx hb dX5_tune_164 (by decide) ?_
        have hM : (m_R_tune sR p1 p2 p3 p4) = ((x6_146, sR_146) : Int32 × St) := hM
        exact hret x6_146 H locs _ ls (nr_i _) dX5_tune_169 (ret1 hM) (rP_v1 (P := fun (z0 : St) => va_P D vwCl (cellR cI g z0 vR) H) hM hPR) hS
    · have hM := hM.trans (if_pos c_8)
      have t_8 := eq_t c_8
      rw [tl_0] at t_8
      refine lv_iload hx hb dX5_tune_151 (lv_at hl 1 rfl) ?_
      refine lv_goto (tgt := 169) hx hb dX5_tune_153 (by decide) ?_
      have hM : (m_R_tune sR p1 p2 p3 p4) = ((x5_146, sR_146) : Int32 × St) := hM
      exact hret x5_146 H locs _ ls (nr_i _) dX5_tune_169 (ret1 hM) (rP_v1 (P := fun (z0 : St) => va_P D vwCl (cellR cI g z0 vR) H) hM hPR) hS
  have hM : (m_R_tune sR p1 p2 p3 p4) = (m_R_tune sR p1 p2 p3 p4) := rfl
  refine lv_iload_n hx hb dX5_tune_0 rfl (lv_at hl 1 rfl) ?_
  refine lv_bipush (v := 10) hx hb dX5_tune_1 (by decide) ?_
  refine lv_sipush (v := 160) hx hb dX5_tune_3 (by decide) ?_
  refine runS_i (va_runS (As := [.int p1, .int 10, .int 160]) (rest := []) ⟨hx, hb, hml, hown, hts⟩ (K_R_in p1 10 160) (va_cwS 3 hts gX5_tune_X5_in rfl rfl rfl (by decide +kernel) ⟨Nat.le_of_ble_eq_true rfl, Nat.le_of_ble_eq_true rfl⟩) (preS_of hE hA hS trivial) rfl rfl hl.1 rfl (lv_room (Nat.le_of_ble_eq_true rfl)) dX5_tune_6 ⟨Nat.zero_le _, Nat.zero_le _⟩) ?_
  refine lv_if_eq (tgt := 44) hx hb dX5_tune_9 (by decide) (fun c_10 => ?_) (fun c_10 => ?_)
  · have hM := hM.trans (if_pos c_10)
    have t_10 := eq_t c_10
    rw [tl_0] at t_10
    refine lv_iconst (v := (-1)) hx hb dX5_tune_44 (by decide) ?_
    have hM : (m_R_tune sR p1 p2 p3 p4) = (((-1), sR) : Int32 × St) := hM
    exact hret (-1) H locs _ ls (nr_i _) dX5_tune_45 (ret1 hM) (rP_v1 (P := fun (z0 : St) => va_P D vwCl (cellR cI g z0 vR) H) hM hPR) hS
  · have hM := hM.trans (if_neg c_10)
    have t_10 := ne_t c_10
    rw [tl_0] at t_10
    have u_10 := in_t c_10
    rw [tl_10, tl_160] at u_10
    refine lv_iload_n hx hb dX5_tune_12 rfl (lv_at hl 2 rfl) ?_
    refine lv_iload_n hx hb dX5_tune_13 rfl (lv_at hl 1 rfl) ?_
    refine lv_sipush (v := 160) hx hb dX5_tune_14 (by decide) ?_
    refine runS_i (va_runS (As := [.int p2, .int p1, .int 160]) (rest := []) ⟨hx, hb, hml, hown, hts⟩ (K_R_in p2 p1 160) (va_cwS 3 hts gX5_tune_X5_in rfl rfl rfl (by decide +kernel) ⟨Nat.le_of_ble_eq_true rfl, Nat.le_of_ble_eq_true rfl⟩) (preS_of hE hA hS trivial) rfl rfl hl.1 rfl (lv_room (Nat.le_of_ble_eq_true rfl)) dX5_tune_17 ⟨Nat.zero_le _, Nat.zero_le _⟩) ?_
    refine lv_if_eq (tgt := 44) hx hb dX5_tune_20 (by decide) (fun c_11 => ?_) (fun c_11 => ?_)
    · have hM := hM.trans (if_pos c_11)
      have t_11 := eq_t c_11
      rw [tl_0] at t_11
      refine lv_iconst (v := (-1)) hx hb dX5_tune_44 (by decide) ?_
      have hM : (m_R_tune sR p1 p2 p3 p4) = (((-1), sR) : Int32 × St) := hM
      exact hret (-1) H locs _ ls (nr_i _) dX5_tune_45 (ret1 hM) (rP_v1 (P := fun (z0 : St) => va_P D vwCl (cellR cI g z0 vR) H) hM hPR) hS
    · have hM := hM.trans (if_neg c_11)
      have t_11 := ne_t c_11
      rw [tl_0] at t_11
      have u_11 := in_t c_11
      rw [tl_160] at u_11
      refine lv_iload_n hx hb dX5_tune_23 rfl (lv_at hl 3 rfl) ?_
      refine lv_iconst (v := 0) hx hb dX5_tune_24 (by decide) ?_
      refine lv_sipush (v := 2000) hx hb dX5_tune_25 (by decide) ?_
      refine runS_i (va_runS (As := [.int p3, .int 0, .int 2000]) (rest := []) ⟨hx, hb, hml, hown, hts⟩ (K_R_in p3 0 2000) (va_cwS 3 hts gX5_tune_X5_in rfl rfl rfl (by decide +kernel) ⟨Nat.le_of_ble_eq_true rfl, Nat.le_of_ble_eq_true rfl⟩) (preS_of hE hA hS trivial) rfl rfl hl.1 rfl (lv_room (Nat.le_of_ble_eq_true rfl)) dX5_tune_28 ⟨Nat.zero_le _, Nat.zero_le _⟩) ?_
      refine lv_if_eq (tgt := 44) hx hb dX5_tune_31 (by decide) (fun c_12 => ?_) (fun c_12 => ?_)
      · have hM := hM.trans (if_pos c_12)
        have t_12 := eq_t c_12
        rw [tl_0] at t_12
        refine lv_iconst (v := (-1)) hx hb dX5_tune_44 (by decide) ?_
        have hM : (m_R_tune sR p1 p2 p3 p4) = (((-1), sR) : Int32 × St) := hM
        exact hret (-1) H locs _ ls (nr_i _) dX5_tune_45 (ret1 hM) (rP_v1 (P := fun (z0 : St) => va_P D vwCl (cellR cI g z0 vR) H) hM hPR) hS
      · have hM := hM.trans (if_neg c_12)
        have t_12 := ne_t c_12
        rw [tl_0] at t_12
        have u_12 := in_t c_12
        rw [tl_0, tl_2000] at u_12
        refine lv_iload hx hb dX5_tune_34 (lv_at hl 4 rfl) ?_
        refine lv_iconst (v := 0) hx hb dX5_tune_36 (by decide) ?_
        refine lv_iconst (v := 2) hx hb dX5_tune_37 (by decide) ?_
        refine runS_i (va_runS (As := [.int p4, .int 0, .int 2]) (rest := []) ⟨hx, hb, hml, hown, hts⟩ (K_R_in p4 0 2) (va_cwS 3 hts gX5_tune_X5_in rfl rfl rfl (by decide +kernel) ⟨Nat.le_of_ble_eq_true rfl, Nat.le_of_ble_eq_true rfl⟩) (preS_of hE hA hS trivial) rfl rfl hl.1 rfl (lv_room (Nat.le_of_ble_eq_true rfl)) dX5_tune_38 ⟨Nat.zero_le _, Nat.zero_le _⟩) ?_
        refine lv_if_ne (tgt := 46) hx hb dX5_tune_41 (by decide) (fun c_13 => ?_) (fun c_13 => ?_)
        · have hM := hM.trans (if_neg c_13)
          have t_13 := ne_t c_13
          rw [tl_0] at t_13
          have u_13 := in_t c_13
          rw [tl_0, tl_2] at u_13
          refine lv_bipush (v := (-9)) hx hb dX5_tune_46 (by decide) ?_
          refine lv_istore (lv' := [(5, .int (-9)), (0, .ref (g 0)), (1, .int p1), (2, .int p2), (3, .int p3), (4, .int p4)]) hx hb dX5_tune_48 hl (by decide) rfl (fun ls hl => ?_)
          refine lv_bipush (v := (-9)) hx hb dX5_tune_50 (by decide) ?_
          refine lv_istore (lv' := [(6, .int (-9)), (5, .int (-9)), (0, .ref (g 0)), (1, .int p1), (2, .int p2), (3, .int p3), (4, .int p4)]) hx hb dX5_tune_52 hl (by decide) rfl (fun ls hl => ?_)
          refine lv_bipush (v := (-9)) hx hb dX5_tune_54 (by decide) ?_
          refine lv_istore (lv' := [(7, .int (-9)), (6, .int (-9)), (5, .int (-9)), (0, .ref (g 0)), (1, .int p1), (2, .int p2), (3, .int p3), (4, .int p4)]) hx hb dX5_tune_56 hl (by decide) rfl (fun ls hl => ?_)
          refine lv_iload_n hx hb dX5_tune_58 rfl (lv_at hl 4 rfl) ?_
          refine lv_istore (lv' := [(8, .int p1), (7, .int (-9)), (6, .int (-9)), (5, .int (-9)), (0, .ref (g 0)), (1, .int p1), (2, .int p2), (3, .int p3), (4, .int p4)]) hx hb dX5_tune_59 hl (by decide) rfl (fun ls hl => ?_)
          have z14 := tl_m9
          refine L_61 152 sR (-9) (-9) (-9) p1 H locs ls (by omega) (by assumption) (by omega) (by omega) hPR hS (lv_sub hl [4, 6, 7, 8, 3, 2, 1, 0] rfl) (fun H locs ls hPR hS hl => ?_)
          exact J_146 (wl (g_R_tune_61 p2 p3) 152 (sR, (-9), (-9), (-9), p1)).1 (wl (g_R_tune_61 p2 p3) 152 (sR, (-9), (-9), (-9), p1)).2.1 (wl (g_R_tune_61 p2 p3) 152 (sR, (-9), (-9), (-9), p1)).2.2.1 (wl (g_R_tune_61 p2 p3) 152 (sR, (-9), (-9), (-9), p1)).2.2.2.1 H locs ls hPR hS (lv_sub hl [0, 1, 2, 3] rfl) hM
        · have hM := hM.trans (if_pos c_13)
          have t_13 := eq_t c_13
          rw [tl_0] at t_13
          refine lv_iconst (v := (-1)) hx hb dX5_tune_44 (by decide) ?_
          have hM : (m_R_tune sR p1 p2 p3 p4) = (((-1), sR) : Int32 × St) := hM
          exact hret (-1) H locs _ ls (nr_i _) dX5_tune_45 (ret1 hM) (rP_v1 (P := fun (z0 : St) => va_P D vwCl (cellR cI g z0 vR) H) hM hPR) hS
abbrev rm_R_spread : Room := { frames := 1, cells := 0, slots := 0, locals := 22 }
set_option maxHeartbeats 4000000 in
set_option maxRecDepth 100000 in
theorem K_R_spread {l : Launch} {D : va_G} {cI : ClassId} {lo : Nat} {g : Nat → Nat} (hg : wI g 0 16 lo) (sR : St) (vR : Int64) (p1 : Int32) : WRi l D cI lo yX5_spread wsX5_spread rm_R_spread [.ref (g 0), .int p1] (fun H => va_P D vwCl (cellR cI g sR vR) H) (m_R_spread sR p1).1 (fun H => va_P D vwCl (cellR cI g (m_R_spread sR p1).2 vR) H) (wA g 0 16) := by
  refine ofW_WRi (cc := cX5_spread) (maxL := 3) (ty := .int) (by decide +kernel) rfl (Nat.le_of_ble_eq_true rfl) ?_
  intro p e s m args below meth c Q hx hb hml hown hts hE hP hret ls hl
  have hown : s.vm.findClass RX5 = some m.cls := hown
  have hPR := hP
  have hA := wA.lo hg
  have hS : va_S (wA g 0 16) s.heap s.heap [] := va_S.rf
  obtain ⟨H, hH⟩ : ∃ z, z = s.heap := ⟨_, rfl⟩
  obtain ⟨locs, hlocs⟩ : ∃ z : List Loc, z = [] := ⟨_, rfl⟩
  have hPR : va_P D vwCl (cellR cI g sR vR) H := by rw [hH]; exact hPR
  have hS : va_S (wA g 0 16) s.heap H locs := by rw [hH, hlocs]; exact va_S.rf
  have gW : W p l e rm_R_spread s m args below meth c H locs 0 0 Q (F0 m 0 ls []) → W p l e rm_R_spread s m args below meth c s.heap [] 0 0 Q (F0 m 0 ls []) := by rw [hH, hlocs]; exact id
  refine gW ?_
  have hinR : ∀ w ∈ wsX50, w ∈ wsX5_spread := fun w h => List.mem_cons_of_mem _ (List.mem_append_right _ h)
  have hl : lv_has ls 3 [(0, .ref (g 0)), (1, .int p1)] := hl
  have hM : (m_R_spread sR p1) = (m_R_spread sR p1) := rfl
  refine lv_iload_n hx hb dX5_spread_0 rfl (lv_at hl 1 rfl) ?_
  refine lv_iconst (v := 0) hx hb dX5_spread_1 (by decide) ?_
  refine lv_bipush (v := 50) hx hb dX5_spread_2 (by decide) ?_
  refine runS_i (va_runS (As := [.int p1, .int 0, .int 50]) (rest := []) ⟨hx, hb, hml, hown, hts⟩ (K_R_in p1 0 50) (va_cwS 3 hts gX5_spread_X5_in rfl rfl rfl (by decide +kernel) ⟨Nat.le_of_ble_eq_true rfl, Nat.le_of_ble_eq_true rfl⟩) (preS_of hE hA hS trivial) rfl rfl hl.1 rfl (lv_room (Nat.le_of_ble_eq_true rfl)) dX5_spread_4 ⟨Nat.zero_le _, Nat.zero_le _⟩) ?_
  refine lv_if_ne (tgt := 12) hx hb dX5_spread_7 (by decide) (fun c_1 => ?_) (fun c_1 => ?_)
  · have hM := hM.trans (if_neg c_1)
    have u_1 := in_t c_1
    rw [tl_0, tl_50] at u_1
    refine lv_aload_n hx hb dX5_spread_12 rfl (lv_at hl 0 rfl) ?_
    refine va_get (D := D) (ci := 5) (v := .int (sR 0 2)) (C := RX5) (T := TX5) (N := 33) hx hb hts hinR hown hE.1 hPR 0 rfl rfl 2 (by decide) (hts (.fieldLink RX5 13 "WallStonesModel" "spread" "I") (List.mem_of_getElem? (i := 1) rfl)) (fun _ h9 => h9) rfl dX5_spread_13 ?_
    refine lv_istore_n (lv' := [(2, .int (sR 0 2)), (0, .ref (g 0)), (1, .int p1)]) hx hb dX5_spread_16 rfl hl (by decide) rfl (fun ls hl => ?_)
    refine lv_aload_n hx hb dX5_spread_17 rfl (lv_at hl 1 rfl) ?_
    refine lv_iload_n hx hb dX5_spread_18 rfl (lv_at hl 2 rfl) ?_
    refine va_put (D := D) (ci := 5) (v := .int p1) (ty := .int) (C := RX5) (T := TX5) (N := 33) hx hb hts hinR tyX5 tyX5_ok nmX5 hown hE.1 hPR (wD_of hg (c := 0) (n := 16) (by decide) (by decide) rfl) hS 0 rfl rfl 2 (by decide) (hts (.fieldLink RX5 13 "WallStonesModel" "spread" "I") (List.mem_of_getElem? (i := 1) rfl)) (fun _ h9 => h9) rfl (by decide +kernel) rfl rfl (Nat.le_of_ble_eq_true rfl) dX5_spread_19 (fun H locs hPn _ hS => ?_)
    have hPR : va_P D vwCl (cellR cI g (up sR 0 2 p1) vR) H := (congrArg (fun z => va_P D vwCl z H) putR_R2).mp hPn
    refine lv_iload_n hx hb dX5_spread_22 rfl (lv_at hl 0 rfl) ?_
    have hM : (m_R_spread sR p1) = (((sR 0 2), (up sR 0 2 p1)) : Int32 × St) := hM
    exact hret (sR 0 2) H locs _ ls (nr_i _) dX5_spread_23 (ret1 hM) (rP_v1 (P := fun (z0 : St) => va_P D vwCl (cellR cI g z0 vR) H) hM hPR) hS
  · have hM := hM.trans (if_pos c_1)
    refine lv_iconst (v := (-1)) hx hb dX5_spread_10 (by decide) ?_
    have hM : (m_R_spread sR p1) = (((-1), sR) : Int32 × St) := hM
    exact hret (-1) H locs _ ls (nr_i _) dX5_spread_11 (ret1 hM) (rP_v1 (P := fun (z0 : St) => va_P D vwCl (cellR cI g z0 vR) H) hM hPR) hS
abbrev rm_R_shot : Room := { frames := 1, cells := 0, slots := 0, locals := 22 }
set_option maxHeartbeats 4000000 in
set_option maxRecDepth 100000 in
theorem K_R_shot {l : Launch} {D : va_G} {cI : ClassId} {lo : Nat} {g : Nat → Nat} (hg : wI g 0 16 lo) (sR : St) (vR : Int64) (p1 : Int32) (p2 : Int32) (h0 : okR sR) : WRi l D cI lo yX5_shot wsX5_shot rm_R_shot [.ref (g 0), .int p1, .int p2] (fun H => va_P D vwCl (cellR cI g sR vR) H) (m_R_shot sR p1 p2).1 (fun H => va_P D vwCl (cellR cI g (m_R_shot sR p1 p2).2 vR) H) (wA g 0 16) := by
  refine ofW_WRi (cc := cX5_shot) (maxL := 3) (ty := .int) (by decide +kernel) rfl (Nat.le_of_ble_eq_true rfl) ?_
  intro p e s m args below meth c Q hx hb hml hown hts hE hP hret ls hl
  have hown : s.vm.findClass RX5 = some m.cls := hown
  have hPR := hP
  have hA := wA.lo hg
  have hS : va_S (wA g 0 16) s.heap s.heap [] := va_S.rf
  obtain ⟨H, hH⟩ : ∃ z, z = s.heap := ⟨_, rfl⟩
  obtain ⟨locs, hlocs⟩ : ∃ z : List Loc, z = [] := ⟨_, rfl⟩
  have hPR : va_P D vwCl (cellR cI g sR vR) H := by rw [hH]; exact hPR
  have hS : va_S (wA g 0 16) s.heap H locs := by rw [hH, hlocs]; exact va_S.rf
  have gW : W p l e rm_R_shot s m args below meth c H locs 0 0 Q (F0 m 0 ls []) → W p l e rm_R_shot s m args below meth c s.heap [] 0 0 Q (F0 m 0 ls []) := by rw [hH, hlocs]; exact id
  refine gW ?_
  have hinR : ∀ w ∈ wsX50, w ∈ wsX5_shot := fun w h => List.mem_cons_of_mem _ (List.mem_append_right _ h)
  have hl : lv_has ls 3 [(0, .ref (g 0)), (1, .int p1), (2, .int p2)] := hl
  have nh0 := okR_lin h0
  have hM : (m_R_shot sR p1 p2) = (m_R_shot sR p1 p2) := rfl
  refine lv_iload_n hx hb dX5_shot_0 rfl (lv_at hl 1 rfl) ?_
  refine lv_iconst (v := 0) hx hb dX5_shot_1 (by decide) ?_
  refine lv_bipush (v := 60) hx hb dX5_shot_2 (by decide) ?_
  refine runS_i (va_runS (As := [.int p1, .int 0, .int 60]) (rest := []) ⟨hx, hb, hml, hown, hts⟩ (K_R_in p1 0 60) (va_cwS 3 hts gX5_shot_X5_in rfl rfl rfl (by decide +kernel) ⟨Nat.le_of_ble_eq_true rfl, Nat.le_of_ble_eq_true rfl⟩) (preS_of hE hA hS trivial) rfl rfl hl.1 rfl (lv_room (Nat.le_of_ble_eq_true rfl)) dX5_shot_4 ⟨Nat.zero_le _, Nat.zero_le _⟩) ?_
  refine lv_if_eq (tgt := 21) hx hb dX5_shot_7 (by decide) (fun c_1 => ?_) (fun c_1 => ?_)
  · have hM := hM.trans (if_pos c_1)
    have t_1 := eq_t c_1
    rw [tl_0] at t_1
    refine lv_iconst (v := (-1)) hx hb dX5_shot_21 (by decide) ?_
    have hM : (m_R_shot sR p1 p2) = (((-1), sR) : Int32 × St) := hM
    exact hret (-1) H locs _ ls (nr_i _) dX5_shot_22 (ret1 hM) (rP_v1 (P := fun (z0 : St) => va_P D vwCl (cellR cI g z0 vR) H) hM hPR) hS
  · have hM := hM.trans (if_neg c_1)
    have t_1 := ne_t c_1
    rw [tl_0] at t_1
    have u_1 := in_t c_1
    rw [tl_0, tl_60] at u_1
    refine lv_iload_n hx hb dX5_shot_10 rfl (lv_at hl 2 rfl) ?_
    refine lv_iconst (v := 0) hx hb dX5_shot_11 (by decide) ?_
    refine lv_sipush (v := 2000) hx hb dX5_shot_12 (by decide) ?_
    refine runS_i (va_runS (As := [.int p2, .int 0, .int 2000]) (rest := []) ⟨hx, hb, hml, hown, hts⟩ (K_R_in p2 0 2000) (va_cwS 3 hts gX5_shot_X5_in rfl rfl rfl (by decide +kernel) ⟨Nat.le_of_ble_eq_true rfl, Nat.le_of_ble_eq_true rfl⟩) (preS_of hE hA hS trivial) rfl rfl hl.1 rfl (lv_room (Nat.le_of_ble_eq_true rfl)) dX5_shot_15 ⟨Nat.zero_le _, Nat.zero_le _⟩) ?_
    refine lv_if_ne (tgt := 23) hx hb dX5_shot_18 (by decide) (fun c_2 => ?_) (fun c_2 => ?_)
    · have hM := hM.trans (if_neg c_2)
      have t_2 := ne_t c_2
      rw [tl_0] at t_2
      have u_2 := in_t c_2
      rw [tl_0, tl_2000] at u_2
      refine lv_aload_n hx hb dX5_shot_23 rfl (lv_at hl 0 rfl) ?_
      refine va_get (D := D) (ci := 5) (v := .int (sR 0 3)) (C := RX5) (T := TX5) (N := 33) hx hb hts hinR hown hE.1 hPR 0 rfl rfl 3 (by decide) (hts (.fieldLink RX5 141 "WallStonesModel" "shots" "I") (List.mem_of_getElem? (i := 1) rfl)) (fun _ h9 => h9) rfl dX5_shot_24 ?_
      refine lv_bipush (v := 16) hx hb dX5_shot_27 (by decide) ?_
      refine lv_icmp_ne (tgt := 35) hx hb dX5_shot_29 (by decide) (fun c_3 => ?_) (fun c_3 => ?_)
      · have hM := hM.trans (if_neg c_3)
        have t_3 := ne_t c_3
        rw [tl_16] at t_3
        refine lv_aload_n hx hb dX5_shot_35 rfl (lv_at hl 0 rfl) ?_
        refine va_get (D := D) (ci := 5) (v := .ref (g 2)) (C := RX5) (T := TX5) (N := 33) hx hb hts hinR hown hE.1 hPR 0 rfl rfl 4 (by decide) (hts (.fieldLink RX5 17 "WallStonesModel" "shotHook" "[I") (List.mem_of_getElem? (i := 2) rfl)) (fun _ h9 => h9) rfl dX5_shot_36 ?_
        refine lv_aload_n hx hb dX5_shot_39 rfl (lv_at hl 0 rfl) ?_
        refine va_get (D := D) (ci := 5) (v := .int (sR 0 3)) (C := RX5) (T := TX5) (N := 33) hx hb hts hinR hown hE.1 hPR 0 rfl rfl 3 (by decide) (hts (.fieldLink RX5 141 "WallStonesModel" "shots" "I") (List.mem_of_getElem? (i := 1) rfl)) (fun _ h9 => h9) rfl dX5_shot_40 ?_
        refine lv_iload_n hx hb dX5_shot_43 rfl (lv_at hl 1 rfl) ?_
        refine va_iast hx hb hE.1 hPR (wD_of hg (c := 0) (n := 16) (by decide) (by decide) rfl) hS 2 0 rfl rfl (vp_in_iff.mpr (by omega)) dX5_shot_44 (fun H locs hPn _ hS => ?_)
        have hPR : va_P D vwCl (cellR cI g (up sR 5 (Int32.toNatClampNeg (sR 0 3)) p1) vR) H := (congrArg (fun z => va_P D vwCl z H) setR_R5).mp hPn
        refine lv_aload_n hx hb dX5_shot_45 rfl (lv_at hl 0 rfl) ?_
        refine va_get (D := D) (ci := 5) (v := .ref (g 3)) (C := RX5) (T := TX5) (N := 33) hx hb hts hinR hown hE.1 hPR 0 rfl rfl 5 (by decide) (hts (.fieldLink RX5 20 "WallStonesModel" "shotFell" "[I") (List.mem_of_getElem? (i := 3) rfl)) (fun _ h9 => h9) rfl dX5_shot_46 ?_
        refine lv_aload_n hx hb dX5_shot_49 rfl (lv_at hl 0 rfl) ?_
        refine va_get (D := D) (ci := 5) (v := .int (sR 0 3)) (C := RX5) (T := TX5) (N := 33) hx hb hts hinR hown hE.1 hPR 0 rfl rfl 3 (by decide) (hts (.fieldLink RX5 141 "WallStonesModel" "shots" "I") (List.mem_of_getElem? (i := 1) rfl)) (fun _ h9 => h9) rfl dX5_shot_50 ?_
        refine lv_iload_n hx hb dX5_shot_53 rfl (lv_at hl 2 rfl) ?_
        refine va_iast hx hb hE.1 hPR (wD_of hg (c := 0) (n := 16) (by decide) (by decide) rfl) hS 3 0 rfl rfl (vp_in_iff.mpr (by omega)) dX5_shot_54 (fun H locs hPn _ hS => ?_)
        have hPR : va_P D vwCl (cellR cI g (up (up sR 5 (Int32.toNatClampNeg (sR 0 3)) p1) 6 (Int32.toNatClampNeg (sR 0 3)) p2) vR) H := (congrArg (fun z => va_P D vwCl z H) setR_R6).mp hPn
        refine lv_aload_n hx hb dX5_shot_55 rfl (lv_at hl 0 rfl) ?_
        refine lv_dup hx hb dX5_shot_56 rfl ?_
        refine va_get (D := D) (ci := 5) (v := .int (sR 0 3)) (C := RX5) (T := TX5) (N := 33) hx hb hts hinR hown hE.1 hPR 0 rfl rfl 3 (by decide) (hts (.fieldLink RX5 141 "WallStonesModel" "shots" "I") (List.mem_of_getElem? (i := 1) rfl)) (fun _ h9 => h9) rfl dX5_shot_57 ?_
        refine lv_iconst (v := 1) hx hb dX5_shot_60 (by decide) ?_
        refine lv_iadd hx hb dX5_shot_61 ?_
        refine va_put (D := D) (ci := 5) (v := .int ((sR 0 3) + 1)) (ty := .int) (C := RX5) (T := TX5) (N := 33) hx hb hts hinR tyX5 tyX5_ok nmX5 hown hE.1 hPR (wD_of hg (c := 0) (n := 16) (by decide) (by decide) rfl) hS 0 rfl rfl 3 (by decide) (hts (.fieldLink RX5 141 "WallStonesModel" "shots" "I") (List.mem_of_getElem? (i := 1) rfl)) (fun _ h9 => h9) rfl (by decide +kernel) rfl rfl (Nat.le_of_ble_eq_true rfl) dX5_shot_62 (fun H locs hPn _ hS => ?_)
        have hPR : va_P D vwCl (cellR cI g (up (up (up sR 5 (Int32.toNatClampNeg (sR 0 3)) p1) 6 (Int32.toNatClampNeg (sR 0 3)) p2) 0 3 ((sR 0 3) + 1)) vR) H := (congrArg (fun z => va_P D vwCl z H) putR_R3).mp hPn
        refine lv_aload_n hx hb dX5_shot_65 rfl (lv_at hl 0 rfl) ?_
        refine va_get (D := D) (ci := 5) (v := .int ((sR 0 3) + 1)) (C := RX5) (T := TX5) (N := 33) hx hb hts hinR hown hE.1 hPR 0 rfl rfl 3 (by decide) (hts (.fieldLink RX5 141 "WallStonesModel" "shots" "I") (List.mem_of_getElem? (i := 1) rfl)) (fun _ h9 => h9) rfl dX5_shot_66 ?_
        have hM : (m_R_shot sR p1 p2) = ((((sR 0 3) + 1), (up (up (up sR 5 (Int32.toNatClampNeg (sR 0 3)) p1) 6 (Int32.toNatClampNeg (sR 0 3)) p2) 0 3 ((sR 0 3) + 1))) : Int32 × St) := hM
        exact hret ((sR 0 3) + 1) H locs _ ls (nr_i _) dX5_shot_69 (ret1 hM) (rP_v1 (P := fun (z0 : St) => va_P D vwCl (cellR cI g z0 vR) H) hM hPR) hS
      · have hM := hM.trans (if_pos c_3)
        have t_3 := eq_t c_3
        rw [tl_16] at t_3
        refine lv_bipush (v := (-3)) hx hb dX5_shot_32 (by decide) ?_
        have hM : (m_R_shot sR p1 p2) = (((-3), sR) : Int32 × St) := hM
        exact hret (-3) H locs _ ls (nr_i _) dX5_shot_34 (ret1 hM) (rP_v1 (P := fun (z0 : St) => va_P D vwCl (cellR cI g z0 vR) H) hM hPR) hS
    · have hM := hM.trans (if_pos c_2)
      have t_2 := eq_t c_2
      rw [tl_0] at t_2
      refine lv_iconst (v := (-1)) hx hb dX5_shot_21 (by decide) ?_
      have hM : (m_R_shot sR p1 p2) = (((-1), sR) : Int32 × St) := hM
      exact hret (-1) H locs _ ls (nr_i _) dX5_shot_22 (ret1 hM) (rP_v1 (P := fun (z0 : St) => va_P D vwCl (cellR cI g z0 vR) H) hM hPR) hS
abbrev rm_R_clear : Room := { frames := 0, cells := 0, slots := 0, locals := 0 }
set_option maxHeartbeats 4000000 in
set_option maxRecDepth 100000 in
theorem K_R_clear {l : Launch} {D : va_G} {cI : ClassId} {lo : Nat} {g : Nat → Nat} (hg : wI g 0 16 lo) (sR : St) (vR : Int64) : WRi l D cI lo yX5_clear wsX5_clear rm_R_clear [.ref (g 0)] (fun H => va_P D vwCl (cellR cI g sR vR) H) (m_R_clear sR).1 (fun H => va_P D vwCl (cellR cI g (m_R_clear sR).2 vR) H) (wA g 0 16) := by
  refine ofW_WRi (cc := cX5_clear) (maxL := 2) (ty := .int) (by decide +kernel) rfl (Nat.le_of_ble_eq_true rfl) ?_
  intro p e s m args below meth c Q hx hb hml hown hts hE hP hret ls hl
  have hown : s.vm.findClass RX5 = some m.cls := hown
  have hPR := hP
  have hA := wA.lo hg
  have hS : va_S (wA g 0 16) s.heap s.heap [] := va_S.rf
  obtain ⟨H, hH⟩ : ∃ z, z = s.heap := ⟨_, rfl⟩
  obtain ⟨locs, hlocs⟩ : ∃ z : List Loc, z = [] := ⟨_, rfl⟩
  have hPR : va_P D vwCl (cellR cI g sR vR) H := by rw [hH]; exact hPR
  have hS : va_S (wA g 0 16) s.heap H locs := by rw [hH, hlocs]; exact va_S.rf
  have gW : W p l e rm_R_clear s m args below meth c H locs 0 0 Q (F0 m 0 ls []) → W p l e rm_R_clear s m args below meth c s.heap [] 0 0 Q (F0 m 0 ls []) := by rw [hH, hlocs]; exact id
  refine gW ?_
  have hinR : ∀ w ∈ wsX50, w ∈ wsX5_clear := fun w h => List.mem_cons_of_mem _ (List.mem_append_right _ h)
  have hl : lv_has ls 2 [(0, .ref (g 0))] := hl
  have hM : (m_R_clear sR) = (m_R_clear sR) := rfl
  refine lv_aload_n hx hb dX5_clear_0 rfl (lv_at hl 0 rfl) ?_
  refine va_get (D := D) (ci := 5) (v := .int (sR 0 3)) (C := RX5) (T := TX5) (N := 33) hx hb hts hinR hown hE.1 hPR 0 rfl rfl 3 (by decide) (hts (.fieldLink RX5 141 "WallStonesModel" "shots" "I") (List.mem_of_getElem? (i := 1) rfl)) (fun _ h9 => h9) rfl dX5_clear_1 ?_
  refine lv_istore_n (lv' := [(1, .int (sR 0 3)), (0, .ref (g 0))]) hx hb dX5_clear_4 rfl hl (by decide) rfl (fun ls hl => ?_)
  refine lv_aload_n hx hb dX5_clear_5 rfl (lv_at hl 1 rfl) ?_
  refine lv_iconst (v := 0) hx hb dX5_clear_6 (by decide) ?_
  refine va_put (D := D) (ci := 5) (v := .int 0) (ty := .int) (C := RX5) (T := TX5) (N := 33) hx hb hts hinR tyX5 tyX5_ok nmX5 hown hE.1 hPR (wD_of hg (c := 0) (n := 16) (by decide) (by decide) rfl) hS 0 rfl rfl 3 (by decide) (hts (.fieldLink RX5 141 "WallStonesModel" "shots" "I") (List.mem_of_getElem? (i := 1) rfl)) (fun _ h9 => h9) rfl (by decide +kernel) rfl rfl (Nat.le_of_ble_eq_true rfl) dX5_clear_7 (fun H locs hPn _ hS => ?_)
  have hPR : va_P D vwCl (cellR cI g (up sR 0 3 0) vR) H := (congrArg (fun z => va_P D vwCl z H) putR_R3).mp hPn
  refine lv_iload_n hx hb dX5_clear_10 rfl (lv_at hl 0 rfl) ?_
  have hM : (m_R_clear sR) = (((sR 0 3), (up sR 0 3 0)) : Int32 × St) := hM
  exact hret (sR 0 3) H locs _ ls (nr_i _) dX5_clear_11 (ret1 hM) (rP_v1 (P := fun (z0 : St) => va_P D vwCl (cellR cI g z0 vR) H) hM hPR) hS
abbrev rm_R_lands : Room := { frames := 0, cells := 0, slots := 0, locals := 0 }
set_option maxHeartbeats 4000000 in
set_option maxRecDepth 100000 in
theorem K_R_lands {l : Launch} {D : va_G} {cI : ClassId} {lo : Nat} (p0 : Int32) (p1 : Int32) : ROi l D cI lo yX5_lands wsX5_lands rm_R_lands [.int p0, .int p1] (fun H => True) (m_R_lands p0 p1) := by
  refine ofW_ROi (cc := cX5_lands) (maxL := 2) (ty := .int) (by decide +kernel) rfl (Nat.le_of_ble_eq_true rfl) ?_
  intro p e s m args below meth c Q hx hb hml hown hts hE hP hret ls hl
  have hown : s.vm.findClass RX5 = some m.cls := hown
  have hA : ∀ q : Nat, (fun _ : Nat => False) q → lo ≤ q := fun _ h => h.elim
  have hS : va_S (fun _ : Nat => False) s.heap s.heap [] := va_S.rf
  have hl : lv_has ls 2 [(0, .int p0), (1, .int p1)] := hl
  have hM : (m_R_lands p0 p1) = (m_R_lands p0 p1) := rfl
  refine lv_iload_n hx hb dX5_lands_0 rfl (lv_at hl 0 rfl) ?_
  refine lv_bipush (v := 85) hx hb dX5_lands_1 (by decide) ?_
  refine lv_iload_n hx hb dX5_lands_3 rfl (lv_at hl 1 rfl) ?_
  refine lv_bipush (v := 25) hx hb dX5_lands_4 (by decide) ?_
  refine lv_idiv hx hb dX5_lands_6 (by decide) ?_
  refine lv_iadd hx hb dX5_lands_7 ?_
  refine lv_imul hx hb dX5_lands_8 ?_
  refine lv_bipush (v := 100) hx hb dX5_lands_9 (by decide) ?_
  refine lv_idiv hx hb dX5_lands_11 (by decide) ?_
  refine lv_iload_n hx hb dX5_lands_12 rfl (lv_at hl 1 rfl) ?_
  refine lv_bipush (v := 25) hx hb dX5_lands_13 (by decide) ?_
  refine lv_irem hx hb dX5_lands_15 (by decide) ?_
  refine lv_iadd hx hb dX5_lands_16 ?_
  refine lv_bipush (v := 12) hx hb dX5_lands_17 (by decide) ?_
  refine lv_isub hx hb dX5_lands_19 ?_
  have hM : (m_R_lands p0 p1) = (((((p0 * (85 + (p1 / 25))) / 100) + (p1 - p1 / 25 * 25)) - 12) : Int32) := hM
  exact hret _ _ ls (nr_i _) dX5_lands_20 hM.symm
