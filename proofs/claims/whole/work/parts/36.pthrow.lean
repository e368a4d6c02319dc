/-! throwing, tune, loose -/
theorem turn_ext {s t : St} (h : t 1 1 = s 1 1) {a b : Int32} : m_M_turnOfRelease t a b = m_M_turnOfRelease s a b := by
  unfold m_M_turnOfRelease
  rw [h]
theorem reckon_step {sM sR : St} (hR : okR sR) (hM : relM sM sR) {a b : Int32} (ha : 10 ≤ a.toInt ∧ a.toInt ≤ 160) (hb : 0 ≤ b.toInt ∧ b.toInt ≤ 60) :
    (m_M_reckon sM a b).1 = m_R_step sR a b 0 25 ∧ (∀ j, j < 7 → (m_M_reckon sM a b).2 3 j = m_R_step sR a b 0 (19 + j)) ∧ (∀ k j, k ≠ 3 → (m_M_reckon sM a b).2 k j = sM k j) ∧ (m_R_step sR a b 0 25 = -9 ∨ (0 ≤ (m_R_step sR a b 0 25).toInt ∧ (m_R_step sR a b 0 25).toInt ≤ 30000)) := by
  have nR := okR_lin hR
  have e : m_R_step sR a b = b_R_step_129 (wl (g_R_step_44 a b) 161 (z7 sR, 1)).1 a b := rfl
  have e2 : m_M_reckon sM a b = b_M_reckon_25 (wl g_M_reckon_2 8 (sM, 0)).1 a b := rfl
  rw [e, step_loop hR hM ha hb, e2]
  obtain ⟨r1, r2⟩ := rst_M sM
  generalize (wl g_M_reckon_2 8 (sM, 0)).1 = s1 at r1 r2 ⊢
  have hT := TR_t (s := sM) (a := a) (b := b)
  have rt := rel_turn (sM := sM) hR (hM.1 1 (by decide)) ha hb
  unfold b_M_reckon_25
  rw [turn_ext (r2 1 1 (by omega)), r2 0 4 (by omega)]
  generalize m_M_turnOfRelease sM a b = T at hT rt ⊢
  have hS := hM.2.2.2.2.1
  have z161 : (161 : Int32).toInt = 161 := by decide +kernel
  unfold fin
  by_cases c1 : (sM 0 4).toInt ≤ 160 ∧ (sM 0 4).toInt ≤ T.toInt
  · rw [if_pos c1, if_neg (fun q => by have := le_t q; omega), if_neg (fun q => by have := lt_t q; omega)]
    unfold b_R_step_129
    have e19 : up (z7 sR) 0 20 (sM 0 4) 0 19 = -9 := by rw [up_other (by omega), z7_at (by omega)]
    rw [if_pos e19]
    dsimp only
    refine ⟨?_, fun j hj => ?_, fun k j hk => ?_, Or.inl ?_⟩
    · rw [up_other (by omega), up_other (by omega), r1 6 (by omega), z7_at (by omega)]
    · rw [up_row, up_row]
      by_cases q : j = 1
      · rw [if_pos q, if_pos (show 19 + j = 20 by omega)]
      · rw [if_neg q, if_neg (show ¬ 19 + j = 20 by omega), r1 j hj, z7_at (by omega)]
    · rw [up_ne hk, r2 k j hk]
    · rw [up_other (by omega), z7_at (by omega)]
  rw [if_neg c1]
  by_cases c2 : T.toInt ≤ 160
  · rw [if_pos c2]
    have hTS : T.toInt < (sM 0 4).toInt := by omega
    have eT : T = Int32.ofNat T.toInt.toNat := eq_ofNat (by omega)
    have g := hM.2.2.2.1 T.toInt.toNat (by omega) (by omega)
    rw [← eT] at g
    have gpos := hM.2.2.2.2.2.1 T.toInt.toNat (by omega) (by omega)
    rw [g] at gpos
    have gb := (giv_eq (s := sM) hR hM.1 (x := T) (by omega)).2.1
    have rel := release (s1 := s1) (u := up (up (z7 sR) 0 19 T) 0 21 (m_R_givenAt sR T)) (T := T) (G := m_R_givenAt sR T) hR hM ha hb r2 (fun k j h => by rw [up_other (by omega), up_other (by omega), z7_ne h]) (by omega) g gpos gb (by rw [up_other (by omega), up_get]) up_get
    have eM : (if 161 ≤ (sM 0 4) then (if 161 ≤ T then ((s1 3 6), s1) else (((m_M_reckonRelease s1 T a b) 3 6), (m_M_reckonRelease s1 T a b))) else (if T < (sM 0 4) then (if 161 ≤ T then ((s1 3 6), s1) else (((m_M_reckonRelease s1 T a b) 3 6), (m_M_reckonRelease s1 T a b))) else (((up s1 3 1 (sM 0 4)) 3 6), (up s1 3 1 (sM 0 4))))) = (((m_M_reckonRelease s1 T a b) 3 6), (m_M_reckonRelease s1 T a b)) := by
      have n : ¬ 161 ≤ T := fun q => by have := le_t q; omega
      by_cases q : 161 ≤ (sM 0 4)
      · rw [if_pos q, if_neg n]
      · rw [if_neg q, if_pos (Int32.lt_iff_toInt_lt.mpr hTS), if_neg n]
    rw [eM]
    rcases rel with ⟨-, q1, q2⟩ | ⟨sp, re, hre, q1, q2⟩
    · rw [q1, q2]
      dsimp only
      generalize ((180 - (T - (sR 1 5))) - b) = H
      have z : ∀ j, 19 ≤ j ∧ j ≤ 25 → z7 sR 0 j = -9 := fun j hj => z7_at hj
      refine ⟨?_, fun j hj => ?_, fun k j hk => ?_, Or.inl ?_⟩
      · rw [up_other (by omega), up_other (by omega), up_other (by omega), r1 6 (by omega), up_other (by omega), up_other (by omega), up_other (by omega), z 25 (by omega)]
      · simp only [up_row]
        rw [r1 j hj, z (19 + j) (by omega)]
        by_cases j3 : j = 3
        · rw [if_pos j3, if_pos (show 19 + j = 22 by omega)]
        rw [if_neg j3, if_neg (show ¬ 19 + j = 22 by omega)]
        by_cases j2 : j = 2
        · rw [if_pos j2, if_pos (show 19 + j = 21 by omega)]
        rw [if_neg j2, if_neg (show ¬ 19 + j = 21 by omega)]
        by_cases j0 : j = 0
        · rw [if_pos j0, if_pos (show 19 + j = 19 by omega)]
        rw [if_neg j0, if_neg (show ¬ 19 + j = 19 by omega)]
      · rw [up_ne hk, up_ne hk, up_ne hk, r2 k j hk]
      · rw [up_other (by omega), up_other (by omega), up_other (by omega), z 25 (by omega)]
    · rw [q1, q2]
      dsimp only
      generalize ((180 - (T - (sR 1 5))) - b) = H
      have rb := rng_b hR hM.2.2.1 hre
      generalize rngR sR re = rg at rb ⊢
      have z : ∀ j, 19 ≤ j ∧ j ≤ 25 → z7 sR 0 j = -9 := fun j hj => z7_at hj
      refine ⟨?_, fun j hj => ?_, fun k j hk => ?_, Or.inr ?_⟩
      · rw [up_get, up_get]
      · simp only [up_row]
        rw [r1 j hj, z (19 + j) (by omega)]
        by_cases j6 : j = 6
        · rw [if_pos j6, if_pos (show 19 + j = 25 by omega)]
        rw [if_neg j6, if_neg (show ¬ 19 + j = 25 by omega)]
        by_cases j5 : j = 5
        · rw [if_pos j5, if_pos (show 19 + j = 24 by omega)]
        rw [if_neg j5, if_neg (show ¬ 19 + j = 24 by omega)]
        by_cases j4 : j = 4
        · rw [if_pos j4, if_pos (show 19 + j = 23 by omega)]
        rw [if_neg j4, if_neg (show ¬ 19 + j = 23 by omega)]
        by_cases j3 : j = 3
        · rw [if_pos j3, if_pos (show 19 + j = 22 by omega)]
        rw [if_neg j3, if_neg (show ¬ 19 + j = 22 by omega)]
        by_cases j2 : j = 2
        · rw [if_pos j2, if_pos (show 19 + j = 21 by omega)]
        rw [if_neg j2, if_neg (show ¬ 19 + j = 21 by omega)]
        by_cases j0 : j = 0
        · rw [if_pos j0, if_pos (show 19 + j = 19 by omega)]
        rw [if_neg j0, if_neg (show ¬ 19 + j = 19 by omega)]
      · rw [up_ne hk, up_ne hk, up_ne hk, up_ne hk, up_ne hk, up_ne hk, r2 k j hk]
      · rw [up_get]; exact rb
  · rw [if_neg c2, if_pos (Int32.le_iff_toInt_le.mpr (by omega)), if_pos (Int32.le_iff_toInt_le.mpr (by omega))]
    unfold b_R_step_129
    rw [if_pos (z7_at (by omega))]
    dsimp only
    exact ⟨by rw [r1 6 (by omega), z7_at (by omega)], fun j hj => by rw [r1 j hj, z7_at (by omega)], r2, Or.inl (z7_at (by omega))⟩
section S
variable {sT : St} {vT : Int64} {sM sB sL sS sR : St} {vR : Int64}
theorem own_step (hR : okR sR) (hM : relM sM sR) : (m_M_reckonOwn sM).1 = m_R_step sR (sR 1 3) (sR 1 4) 0 25 ∧ (∀ j, j < 7 → (m_M_reckonOwn sM).2 3 j = m_R_step sR (sR 1 3) (sR 1 4) 0 (19 + j)) ∧ (∀ k j, k ≠ 3 → (m_M_reckonOwn sM).2 k j = sM k j) ∧ (m_R_step sR (sR 1 3) (sR 1 4) 0 25 = -9 ∨ (0 ≤ (m_R_step sR (sR 1 3) (sR 1 4) 0 25).toInt ∧ (m_R_step sR (sR 1 3) (sR 1 4) 0 25).toInt ≤ 30000)) := by
  have nR := okR_lin hR
  unfold m_M_reckonOwn
  rw [hM.1 3 (by decide), hM.1 4 (by decide)]
  exact reckon_step hR hM (by omega) (by omega)
theorem P_throwing (h : Rel sT vT sM sB sL sS sR vR) (a1 : Int32) : (m_T_throwing sT sM a1).1 = (m_R_throwing sR a1).1 ∧ Rel sT vT (m_T_throwing sT sM a1).2 sB sL sS (m_R_throwing sR a1).2 vR := by
  have hR := h.1
  obtain ⟨o1, o2, o3, -⟩ := own_step hR h.2.2.1
  have hs := Rel_scr h (t := m_R_step sR (sR 1 3) (sR 1 4)) Rs.step
  have z0 := tl_0
  have z1 := tl_1
  have z2 := tl_2
  have z3 := tl_3
  have z4 : (4 : Int32).toInt = 4 := by decide +kernel
  have z5 : (5 : Int32).toInt = 5 := by decide +kernel
  have z6 : (6 : Int32).toInt = 6 := by decide +kernel
  unfold m_T_throwing m_R_throwing m_M_reckoned
  by_cases c : m_T_within a1 0 6 = 0
  · have w := within_n c
    rw [tl_0, z6] at w
    rw [if_pos c, if_neg (fun e => by rw [e] at w; omega), if_neg (fun e => by rw [e] at w; omega), if_neg (fun e => by rw [e] at w; omega), if_neg (fun e => by rw [e] at w; omega), if_neg (fun e => by rw [e] at w; omega), if_neg (fun e => by rw [e] at w; omega), if_neg (fun e => by rw [e] at w; omega)]
    exact ⟨rfl, hs⟩
  have w := within_t c
  rw [tl_0, z6] at w
  rw [if_neg c, if_neg c]
  have hm := Rel_M hs (sM' := (m_M_reckonOwn sM).2) (fun k j hk => o3 k j hk.1)
  have go : ∀ (k : Nat) (x : Int32), k < 7 → a1.toInt = (k : Int) → x = m_R_step sR (sR 1 3) (sR 1 4) 0 (19 + k) → (m_M_reckonOwn sM).2 3 (Int32.toNatClampNeg a1) = x := fun k x hk e hx => by rw [cl_n e, hx]; exact o2 k hk
  by_cases e0 : a1 = 0
  · rw [if_pos e0]; exact ⟨go 0 _ (by omega) (by rw [e0, z0]; rfl) rfl, hm⟩
  rw [if_neg e0]
  by_cases e1 : a1 = 1
  · rw [if_pos e1]; exact ⟨go 1 _ (by omega) (by rw [e1, z1]; rfl) rfl, hm⟩
  rw [if_neg e1]
  by_cases e2 : a1 = 2
  · rw [if_pos e2]; exact ⟨go 2 _ (by omega) (by rw [e2, z2]; rfl) rfl, hm⟩
  rw [if_neg e2]
  by_cases e3 : a1 = 3
  · rw [if_pos e3]; exact ⟨go 3 _ (by omega) (by rw [e3, z3]; rfl) rfl, hm⟩
  rw [if_neg e3]
  by_cases e4 : a1 = 4
  · rw [if_pos e4]; exact ⟨go 4 _ (by omega) (by rw [e4, z4]; rfl) rfl, hm⟩
  rw [if_neg e4]
  by_cases e5 : a1 = 5
  · rw [if_pos e5]; exact ⟨go 5 _ (by omega) (by rw [e5, z5]; rfl) rfl, hm⟩
  rw [if_neg e5]
  by_cases e6 : a1 = 6
  · rw [if_pos e6]; exact ⟨go 6 _ (by omega) (by rw [e6, z6]; rfl) rfl, hm⟩
  have n0 := ne_t e0
  have n1 := ne_t e1
  have n2 := ne_t e2
  have n3 := ne_t e3
  have n4 := ne_t e4
  have n5 := ne_t e5
  have n6 := ne_t e6
  omega
theorem abs_t {x : Int32} (h : -1000000 ≤ x.toInt ∧ x.toInt ≤ 1000000) : (if 0 ≤ x then x else 0 - x) = m_R_size x ∧ (m_R_size x).toInt = x.toInt.natAbs := by
  refine ⟨?_, size_t h⟩
  unfold m_R_size
  split
  · rfl
  · exact Int32.zero_sub x
theorem P_loose (h : Rel sT vT sM sB sL sS sR vR) (a1 a2 a3 : Int32) : (m_T_loose sT sM sL sS a1 a2 a3).1 = (m_R_loose sR a1 a2 a3).1 ∧ Rel (m_T_loose sT sM sL sS a1 a2 a3).2.1 vT (m_T_loose sT sM sL sS a1 a2 a3).2.2.1 sB (m_T_loose sT sM sL sS a1 a2 a3).2.2.2.1 (m_T_loose sT sM sL sS a1 a2 a3).2.2.2.2 (m_R_loose sR a1 a2 a3).2 vR := by
  have hR := h.1
  have nR := okR_lin hR
  have z0 := tl_0
  have z1 := tl_1
  have hTt := h.2.1
  have hSs := h.2.2.2.2.2
  unfold m_T_loose m_R_loose m_S_stones
  rcases has_cases hR h.2.2.2.2.1 a1 a2 with ⟨b1, b2⟩ | ⟨b1, b2, xn, yn, at_⟩
  · rw [if_pos b1, if_pos b2]
    exact ⟨rfl, h⟩
  have n1 : ¬ m_L_has sL a1 a2 = 0 := by rw [b1]; decide
  have n2 : ¬ m_R_isCell sR a1 a2 = 0 := by rw [b2]; decide
  rw [if_neg n1, if_neg n2]
  by_cases c : m_T_within a3 0 2000 = 0
  · have c' : m_R_in a3 0 2000 = 0 := c
    rw [if_pos c, if_pos c']
    exact ⟨rfl, h⟩
  have c' : ¬ m_R_in a3 0 2000 = 0 := c
  have w := within_t c
  rw [tl_0, tl_2000] at w
  rw [if_neg c, if_neg c', hTt.1]
  by_cases c4 : ¬ sR 0 13 = 3
  · rw [if_neg c4, if_neg c4]
    exact ⟨rfl, h⟩
  have c3 : sR 0 13 = 3 := Decidable.not_not.mp c4
  rw [if_pos c3, if_pos c3, hSs.1 1 (by decide)]
  by_cases c0 : sR 16 1 = 0
  · rw [if_pos c0, if_pos c0]
    exact ⟨rfl, h⟩
  rw [if_neg c0, if_neg c0]
  have st1 := hSs.2.2.1
  have stn := ne_t c0
  rw [z0] at stn
  have es : (sR 16 1 - 1).toInt = (sR 16 1).toInt - 1 := by rw [t_sub (by omega) (by omega), z1]
  have espend : m_S_spendStone sS = up sS 1 1 (sR 16 1 - 1) := by
    unfold m_S_spendStone
    rw [hSs.1 1 (by decide)]
    by_cases q : 0 < sR 16 1 - 1
    · rw [if_pos q]
    · rw [if_neg q]
      have := nlt_t q
      rw [show (0 : Int32) = sR 16 1 - 1 from t_ext (by omega)]
  rw [espend]
  -- the state before the throw
  have h1 := Rel_st h (x := 0) (by rw [z0]; omega)
  have h2 : Rel (up (up sT 0 4 0) 0 5 ((sT 0 5) + 1)) vT sM sB sL (up sS 1 1 (sR 16 1 - 1)) (up (up (up sR 0 13 0) 16 1 ((sR 16 1) - 1)) 0 14 ((sR 0 14) + 1)) vR := by
    obtain ⟨gR, gT, gM, gB, gL, gS⟩ := h1
    have row : ∀ a, a ≠ 0 ∧ a ≠ 16 → up (up (up sR 0 13 0) 16 1 ((sR 16 1) - 1)) 0 14 ((sR 0 14) + 1) a = up sR 0 13 0 a := fun a ha => by rw [up_ne ha.1, up_ne ha.2]
    have fld : ∀ j, j ≠ 14 → up (up (up sR 0 13 0) 16 1 ((sR 16 1) - 1)) 0 14 ((sR 0 14) + 1) 0 j = up sR 0 13 0 0 j := fun j hj => by rw [up_other (by omega), up_other (by omega)]
    have r16 : up sR 0 13 0 16 = sR 16 := up_ne (by decide)
    have rS := relS_put gS (k := 1) (x := sR 16 1 - 1) (by omega) (fun q => by omega) (fun _ => by omega)
    refine ⟨okR_ext gR (row 1 (by omega)) (row 5 (by omega)) (fld _ (by omega)) (fld _ (by omega)) (fld _ (by omega)) (fld _ (by omega)) (fld _ (by omega)), ?_, relM_ext gM (row 1 (by omega)) (fld _ (by omega)), relB_ext gB (row 5 (by omega)) (row 6 (by omega)) (fld _ (by omega)) (fld _ (by omega)), relL_ext gL (row 9 (by omega)) (row 10 (by omega)) (row 11 (by omega)) (row 13 (by omega)) (fld _ (by omega)) (fld _ (by omega)) (fld _ (by omega)), relS_ext rS (up_ne (by omega)) (up_other (by omega)) (up_other (by omega))⟩
    refine ⟨by rw [up_other (by omega), fld 13 (by omega)]; exact gT.1, by rw [up_get, up_get, hTt.2.1], gT.2.2.1, ?_, ?_⟩
    · rw [fld 13 (by omega)]; exact gT.2.2.2.1
    · rw [fld 13 (by omega)]; exact gT.2.2.2.2
  have e13 : up (up (up sR 0 13 0) 16 1 ((sR 16 1) - 1)) 0 14 ((sR 0 14) + 1) 1 = sR 1 := by rw [up_ne (by decide), up_ne (by decide), up_ne (by decide)]
  have os := own_step h2.1 h2.2.2.1
  rw [show (up (up (up sR 0 13 0) 16 1 ((sR 16 1) - 1)) 0 14 ((sR 0 14) + 1) 1 3) = sR 1 3 by rw [e13], show (up (up (up sR 0 13 0) 16 1 ((sR 16 1) - 1)) 0 14 ((sR 0 14) + 1) 1 4) = sR 1 4 by rw [e13]] at os
  obtain ⟨o1, o2, o3, o4⟩ := os
  have h3 := Rel_M (Rel_scr h2 (t := m_R_step (up (up (up sR 0 13 0) 16 1 ((sR 16 1) - 1)) 0 14 ((sR 0 14) + 1)) (sR 1 3) (sR 1 4)) Rs.step) (sM' := (m_M_reckonOwn sM).2) (fun k j hk => o3 k j hk.1)
  rw [o1]
  have f17 : m_R_step (up (up (up sR 0 13 0) 16 1 ((sR 16 1) - 1)) 0 14 ((sR 0 14) + 1)) (sR 1 3) (sR 1 4) 1 7 = sR 1 7 := (fr_R_step (by omega)).trans (by rw [e13])
  rw [f17]
  generalize m_R_step (up (up (up sR 0 13 0) 16 1 ((sR 16 1) - 1)) 0 14 ((sR 0 14) + 1)) (sR 1 3) (sR 1 4) = tR at o4 h3 f17 ⊢
  by_cases d9 : tR 0 25 = -9
  · rw [if_pos d9, if_pos d9]
    exact ⟨rfl, h3⟩
  rw [if_neg d9, if_neg d9]
  have rb : 0 ≤ (tR 0 25).toInt ∧ (tR 0 25).toInt ≤ 30000 := o4.resolve_left d9
  have ed : ((tR 0 25) - a3).toInt = (tR 0 25).toInt - a3.toInt := t_sub (by omega) (by omega)
  obtain ⟨ab1, ab2⟩ := abs_t (x := (tR 0 25) - a3) (by omega)
  rw [ab1]
  have hL3 := h3.2.2.2.2.1
  have hR3 := h3.1
  have e06 : tR 0 6 = sR 0 6 := by
    have q := hL3.1.symm.trans h.2.2.2.2.1.1
    exact q
  have e07 : tR 0 7 = sR 0 7 := hL3.2.1.symm.trans h.2.2.2.2.1.2.1
  have aT : At tR a1 a2 xn yn := at_.fr e06 e07
  have hsn := (stands_at hR3 hL3 b1 aT).1
  -- the force of both
  have pf := mul_bd (a := (sR 1 7).toInt) (b := (tR 0 25).toInt) (A := 300) (B := 30000) (by omega) (by omega) rb.1 rb.2
  have l500 : (500 : Int64).toInt = 500 := by decide
  have l99 : (99 : Int64).toInt = 99 := by decide
  have t500 : (500 : Int32).toInt = 500 := by decide +kernel
  have t99 := tl_99
  have eFr : (((sR 1 7) * (tR 0 25)) / 500 + 1).toInt = (sR 1 7).toInt * (tR 0 25).toInt / 500 + 1 := by
    have m : ((sR 1 7) * (tR 0 25)).toInt = (sR 1 7).toInt * (tR 0 25).toInt := t_mul (by omega) (by omega)
    have q : (((sR 1 7) * (tR 0 25)) / 500).toInt = (sR 1 7).toInt * (tR 0 25).toInt / 500 := by rw [t_dive (by omega), m, t500]
    rw [t_add (by omega) (by omega), q, z1]
  have fq : 0 ≤ (sR 1 7).toInt * (tR 0 25).toInt / 500 := Int.ediv_nonneg (by omega) (by omega)
  have eFm : m_M_forceAt (m_M_reckonOwn sM).2 (tR 0 25) = (if (((sR 1 7) * (tR 0 25)) / 500 + 1) ≤ 99 then (((sR 1 7) * (tR 0 25)) / 500 + 1) else 99) := by
    have m7 : (m_M_reckonOwn sM).2 1 7 = sR 1 7 := (o3 1 7 (by omega)).trans (h.2.2.1.1 7 (by decide))
    unfold m_M_forceAt
    rw [m7]
    have lm : (Int32.toInt64 (sR 1 7) * Int32.toInt64 (tR 0 25)).toInt = (sR 1 7).toInt * (tR 0 25).toInt := by rw [l_mul (by rw [il_t, il_t]; omega) (by rw [il_t, il_t]; omega), il_t, il_t]
    have ld : (m_T_down (Int32.toInt64 (sR 1 7) * Int32.toInt64 (tR 0 25)) 500).toInt = (sR 1 7).toInt * (tR 0 25).toInt / 500 := by rw [down_t (by omega) (by omega), lm, l500]
    have la : (m_T_down (Int32.toInt64 (sR 1 7) * Int32.toInt64 (tR 0 25)) 500 + 1).toInt = (sR 1 7).toInt * (tR 0 25).toInt / 500 + 1 := by rw [l_add (by rw [l1]; omega) (by rw [l1]; omega), ld, l1]
    generalize (m_T_down (Int32.toInt64 (sR 1 7) * Int32.toInt64 (tR 0 25)) 500 + 1) = X at la ⊢
    generalize (((sR 1 7) * (tR 0 25)) / 500 + 1) = Y at eFr ⊢
    generalize (sR 1 7).toInt * (tR 0 25).toInt / 500 = q at la eFr fq
    by_cases k : Y ≤ 99
    · have := le_t k
      rw [if_pos k]
      by_cases k2 : X < 99
      · rw [if_pos k2]
        have := Int64.lt_iff_toInt_lt.mp k2
        exact t_ext (by rw [li_t (by omega) (by omega)]; omega)
      · rw [if_neg k2]
        have : ¬ X.toInt < (99 : Int64).toInt := fun e => k2 (Int64.lt_iff_toInt_lt.mpr e)
        exact t_ext (by rw [li_t (by omega) (by omega)]; omega)
    · have := nle_t k
      rw [if_neg k]
      have k2 : ¬ X < 99 := fun e => by have := Int64.lt_iff_toInt_lt.mp e; omega
      rw [if_neg k2]
      exact t_ext (by rw [li_t (by omega) (by omega)]; omega)
  have fb : 1 ≤ (if (((sR 1 7) * (tR 0 25)) / 500 + 1) ≤ 99 then (((sR 1 7) * (tR 0 25)) / 500 + 1) else 99).toInt ∧ (if (((sR 1 7) * (tR 0 25)) / 500 + 1) ≤ 99 then (((sR 1 7) * (tR 0 25)) / 500 + 1) else 99).toInt ≤ 99 := by
    by_cases k : (((sR 1 7) * (tR 0 25)) / 500 + 1) ≤ 99
    · have := le_t k
      rw [if_pos k, eFr]; rw [eFr] at this; omega
    · rw [if_neg k]; omega
  -- the reference's end, one form
  have eR : (if 5 < m_R_size ((tR 0 25) - a3) then (tR 0 25, tR) else (if (((sR 1 7) * (tR 0 25)) / 500 + 1) ≤ 99 then ((m_R_strike tR a1 a2 (((sR 1 7) * (tR 0 25)) / 500 + 1)).2 0 25, (m_R_strike tR a1 a2 (((sR 1 7) * (tR 0 25)) / 500 + 1)).2) else ((m_R_strike tR a1 a2 99).2 0 25, (m_R_strike tR a1 a2 99).2))) = (if 5 < m_R_size ((tR 0 25) - a3) then (tR 0 25, tR) else (tR 0 25, (m_R_strike tR a1 a2 (if (((sR 1 7) * (tR 0 25)) / 500 + 1) ≤ 99 then (((sR 1 7) * (tR 0 25)) / 500 + 1) else 99)).2)) := by
    by_cases k : 5 < m_R_size ((tR 0 25) - a3)
    · rw [if_pos k, if_pos k]
    · rw [if_neg k, if_neg k]
      by_cases q : (((sR 1 7) * (tR 0 25)) / 500 + 1) ≤ 99
      · rw [if_pos q, if_pos q, fr_R_strike (by omega)]
      · rw [if_neg q, if_neg q, fr_R_strike (by omega)]
  rw [eR]
  generalize hF : (if (((sR 1 7) * (tR 0 25)) / 500 + 1) ≤ 99 then (((sR 1 7) * (tR 0 25)) / 500 + 1) else 99) = F at eFm fb ⊢
  rw [eFm]
  by_cases cs : m_L_stands sL a1 a2 = 0
  · rw [if_pos cs]
    have s9 : tR 9 (Int32.toNatClampNeg (a1 + (tR 0 6) * a2)) = 0 := by rw [aT.idx hR3, ← hsn]; exact cs
    have e0 : m_R_strike tR a1 a2 F = (0, tR) := by
      unfold m_R_strike
      split
      · rfl
      · first | rfl | rw [if_pos s9]
    rw [e0]
    refine ⟨?_, ?_⟩
    · split <;> rfl
    · split <;> exact h3
  · rw [if_neg cs]
    by_cases k : 5 < m_R_size ((tR 0 25) - a3)
    · rw [if_pos k, if_pos k]
      exact ⟨rfl, h3⟩
    · rw [if_neg k, if_neg k]
      obtain ⟨-, q2, q3⟩ := strike_sim hR3 hL3 a1 a2 F fb
      exact ⟨rfl, Rel_L h3 q2 q3.1⟩
end S
