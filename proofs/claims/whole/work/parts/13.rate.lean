theorem dec60 {x : Int32} {n : Nat} (h0 : 0 ≤ x.toInt) (h1 : x.toInt ≤ 60) (hn : (x.toInt - (0 - 1)).toNat < n + 1) : (0 - 1 ≤ (x + (-1)).toInt ∧ (x + (-1)).toInt ≤ 60) ∧ ((x + (-1)).toInt - (0 - 1)).toNat < n := by
  have := t_dec (x := x) (by omega)
  omega
abbrev rm_R_rate : Room := { frames := 1, cells := 0, slots := 0, locals := 32 }
set_option maxHeartbeats 4000000 in
set_option maxRecDepth 100000 in
theorem K_R_rate {l : Launch} {D : va_G} {cI : ClassId} {lo : Nat} {g : Nat → Nat} (hg : wI g 0 16 lo) (sR : St) (vR : Int64) (p1 : Int32) (h0 : okR sR) : ROi l D cI lo yX5_rate wsX5_rate rm_R_rate [.ref (g 0), .int p1] (fun H => va_P D vwCl (cellR cI g sR vR) H) (m_R_rate sR p1) := by
  refine ofW_ROi (cc := cX5_rate) (maxL := 3) (ty := .int) (by decide +kernel) rfl (Nat.le_of_ble_eq_true rfl) ?_
  intro p e s m args below meth c Q hx hb hml hown hts hE hP hret ls hl
  have hown : s.vm.findClass RX5 = some m.cls := hown
  have hPR := hP
  have hA : ∀ q : Nat, (fun _ : Nat => False) q → lo ≤ q := fun _ h => h.elim
  have hS : va_S (fun _ : Nat => False) s.heap s.heap [] := va_S.rf
  have hinR : ∀ w ∈ wsX50, w ∈ wsX5_rate := fun w h => List.mem_cons_of_mem _ (List.mem_append_right _ h)
  have hl : lv_has ls 3 [(0, .ref (g 0)), (1, .int p1)] := hl
  have nh0 := okR_lin h0
  have C_15 : ∀ (n : Nat) (x2_15 : Int32) (ls : Array Slot), 0 - 1 ≤ x2_15.toInt ∧ x2_15.toInt ≤ 60 → (x2_15.toInt - (0 - 1)).toNat < n → lv_has ls 3 [(0, .ref (g 0)), (1, .int p1), (2, .int x2_15)] → (m_R_rate sR p1) = wc (g_R_rate_15 sR p1) 0 n x2_15 → W p l e rm_R_rate s m args below meth c s.heap [] 0 0 Q (F0 m 15 ls []) := by
    intro n
    induction n with
    | zero =>
      intro x2_15 ls i15_0 hn15 hl hO
      exact absurd hn15 (Nat.not_lt_zero _)
    | succ n ih =>
      intro x2_15 ls i15_0 hn15 hl hO
      have hM : (g_R_rate_15 sR p1) x2_15 = (g_R_rate_15 sR p1) x2_15 := rfl
      refine lv_iload_n hx hb dX5_rate_15 rfl (lv_at hl 2 rfl) ?_
      refine lv_if_lt (tgt := 36) hx hb dX5_rate_16 (by decide) (fun c_1 => ?_) (fun c_1 => ?_)
      · have hM := hM.trans (if_pos c_1)
        have t_1 := lt_t c_1
        rw [tl_0] at t_1
        refine lv_bipush (v := (-9)) hx hb dX5_rate_36 (by decide) ?_
        have hM := hO.trans (wc_inr hM)
        have hM : (m_R_rate sR p1) = ((-9) : Int32) := hM
        exact hret _ _ ls (nr_i _) dX5_rate_38 hM.symm
      · have hM := hM.trans (if_neg c_1)
        have t_1 := nlt_t c_1
        rw [tl_0] at t_1
        refine lv_aload_n hx hb dX5_rate_19 rfl (lv_at hl 0 rfl) ?_
        refine lv_iload_n hx hb dX5_rate_20 rfl (lv_at hl 2 rfl) ?_
        refine runS_i (va_runV (As := [.int x2_15]) (rest := []) ⟨hx, hb, hml, hown, hts⟩ (K_R_lastsBy hg sR vR x2_15 (by assumption) (by omega)) (cwV 1 hts gX5_rate_X5_lastsBy rfl rfl rfl (by decide +kernel) ⟨Nat.le_of_ble_eq_true rfl, Nat.le_of_ble_eq_true rfl⟩) (preV_of hE hA hS hPR (va_recv hE.1 hPR (ci := 5) (q0 := 0) rfl rfl)) rfl rfl hl.1 rfl (lv_room (Nat.le_of_ble_eq_true rfl)) dX5_rate_21 ⟨Nat.zero_le _, Nat.zero_le _⟩) ?_
        refine lv_iload_n hx hb dX5_rate_24 rfl (lv_at hl 1 rfl) ?_
        refine lv_icmp_lt (tgt := 30) hx hb dX5_rate_25 (by decide) (fun c_2 => ?_) (fun c_2 => ?_)
        · have hM := hM.trans (if_pos c_2)
          have t_2 := lt_t c_2
          refine lv_iinc (v := (x2_15 + (-1))) (lv' := [(2, .int (x2_15 + (-1))), (0, .ref (g 0)), (1, .int p1)]) hx hb dX5_rate_30 hl (k := 2) rfl rfl (by decide) rfl (fun ls hl => ?_)
          have hd := dec60 (x := x2_15) (by assumption) i15_0.2 hn15
          refine lv_goto (tgt := 15) hx hb dX5_rate_33 (by decide) ?_
          exact ih (x2_15 + (-1)) ls hd.1 hd.2 (lv_sub hl [1, 2, 0] rfl) (hO.trans (wc_inl (f := (g_R_rate_15 sR p1)) (s := x2_15) (t := (x2_15 + (-1))) hM))
        · have hM := hM.trans (if_neg c_2)
          have t_2 := nlt_t c_2
          refine lv_iload_n hx hb dX5_rate_28 rfl (lv_at hl 2 rfl) ?_
          have hM := hO.trans (wc_inr hM)
          have hM : (m_R_rate sR p1) = (x2_15 : Int32) := hM
          exact hret _ _ ls (nr_i _) dX5_rate_29 hM.symm
  have hM : (m_R_rate sR p1) = (m_R_rate sR p1) := rfl
  refine lv_iload_n hx hb dX5_rate_0 rfl (lv_at hl 1 rfl) ?_
  refine lv_iconst (v := 1) hx hb dX5_rate_1 (by decide) ?_
  refine lv_bipush (v := 100) hx hb dX5_rate_2 (by decide) ?_
  refine runS_i (va_runS (As := [.int p1, .int 1, .int 100]) (rest := []) ⟨hx, hb, hml, hown, hts⟩ (K_R_in p1 1 100) (va_cwS 3 hts gX5_rate_X5_in rfl rfl rfl (by decide +kernel) ⟨Nat.le_of_ble_eq_true rfl, Nat.le_of_ble_eq_true rfl⟩) (preS_of hE hA hS trivial) rfl rfl hl.1 rfl (lv_room (Nat.le_of_ble_eq_true rfl)) dX5_rate_4 ⟨Nat.zero_le _, Nat.zero_le _⟩) ?_
  refine lv_if_ne (tgt := 12) hx hb dX5_rate_7 (by decide) (fun c_3 => ?_) (fun c_3 => ?_)
  · have hM := hM.trans (if_neg c_3)
    have t_3 := ne_t c_3
    rw [tl_0] at t_3
    have u_3 := in_t c_3
    rw [tl_1, tl_100] at u_3
    refine lv_bipush (v := 60) hx hb dX5_rate_12 (by decide) ?_
    refine lv_istore_n (lv' := [(2, .int 60), (0, .ref (g 0)), (1, .int p1)]) hx hb dX5_rate_14 rfl hl (by decide) rfl (fun ls hl => ?_)
    have z4 := tl_60
    exact C_15 62 60 ls (by omega) (by omega) (lv_sub hl [1, 2, 0] rfl) hM
  · have hM := hM.trans (if_pos c_3)
    have t_3 := eq_t c_3
    rw [tl_0] at t_3
    refine lv_iconst (v := (-1)) hx hb dX5_rate_10 (by decide) ?_
    have hM : (m_R_rate sR p1) = ((-1) : Int32) := hM
    exact hret _ _ ls (nr_i _) dX5_rate_11 hM.symm
