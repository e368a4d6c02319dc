/-! calls whose answers are read off -/
section S
variable {sT : St} {vT : Int64} {sM sB sL sS sR : St} {vR : Int64}
theorem P_wind (h : Rel sT vT sM sB sL sS sR vR) (a1 : Int32) : (m_T_wind sT sM a1).1 = (m_R_wind sR a1).1 ∧ Rel sT vT (m_T_wind sT sM a1).2 sB sL sS (m_R_wind sR a1).2 vR := by
  unfold m_T_wind m_R_wind
  by_cases c : m_T_within a1 (-20) 20 = 0
  · have c' : m_R_in a1 (-20) 20 = 0 := c
    simp only [if_pos c, if_pos c']
    exact ⟨by trivial, h⟩
  · have c' : ¬ m_R_in a1 (-20) 20 = 0 := c
    simp only [if_neg c, if_neg c']
    have w := within_t c
    rw [tl_m20, tl_20] at w
    obtain ⟨hR, hT, hM, hB, hL, hS⟩ := h
    unfold m_M_putWind
    refine ⟨hM.2.1, okR_ext hR (up_ne (by decide)) (up_ne (by decide)) (up_other (by omega)) (up_other (by omega)) (up_other (by omega)) (up_other (by omega)) (up_other (by omega)), relT_ext hT (up_other (by omega)) (up_other (by omega)), ?_, relB_ext hB (up_ne (by decide)) (up_ne (by decide)) (up_other (by omega)) (up_other (by omega)), relL_ext hL (up_ne (by decide)) (up_ne (by decide)) (up_ne (by decide)) (up_ne (by decide)) (up_other (by omega)) (up_other (by omega)) (up_other (by omega)), relS_ext hS (up_ne (by decide)) (up_other (by omega)) (up_other (by omega))⟩
    unfold relM
    try dsimp only
    have g : ∀ x, m_R_givenAt (up sR 0 1 a1) x = m_R_givenAt sR x := fun x => givenAt_ext (up_ne (by decide)) x
    have e1 : up sM 0 5 a1 1 = sM 1 := up_ne (by decide)
    have e2 : up sM 0 5 a1 2 = sM 2 := up_ne (by decide)
    have e4 : up sM 0 5 a1 0 4 = sM 0 4 := up_other (by omega)
    have f1 : up sR 0 1 a1 1 = sR 1 := up_ne (by decide)
    rw [e1, e2, e4, f1, up_get, up_get]
    refine ⟨hM.1, rfl, w, fun t a b => ?_, hM.2.2.2.2⟩
    rw [g]
    exact hM.2.2.2.1 t a b
theorem P_spread (h : Rel sT vT sM sB sL sS sR vR) (a1 : Int32) : (m_T_spread sT sB a1).1 = (m_R_spread sR a1).1 ∧ Rel sT vT sM (m_T_spread sT sB a1).2 sL sS (m_R_spread sR a1).2 vR := by
  unfold m_T_spread m_R_spread
  by_cases c : m_T_within a1 0 50 = 0
  · have c' : m_R_in a1 0 50 = 0 := c
    simp only [if_pos c, if_pos c']
    exact ⟨by trivial, h⟩
  · have c' : ¬ m_R_in a1 0 50 = 0 := c
    simp only [if_neg c, if_neg c']
    have w := within_t c
    rw [tl_0, tl_50] at w
    obtain ⟨hR, hT, hM, hB, hL, hS⟩ := h
    unfold m_B_putSpread
    refine ⟨hB.2.1, okR_ext hR (up_ne (by decide)) (up_ne (by decide)) (up_other (by omega)) (up_other (by omega)) (up_other (by omega)) (up_other (by omega)) (up_other (by omega)), relT_ext hT (up_other (by omega)) (up_other (by omega)), relM_ext hM (up_ne (by decide)) (up_other (by omega)), ?_, relL_ext hL (up_ne (by decide)) (up_ne (by decide)) (up_ne (by decide)) (up_ne (by decide)) (up_other (by omega)) (up_other (by omega)) (up_other (by omega)), relS_ext hS (up_ne (by decide)) (up_other (by omega)) (up_other (by omega))⟩
    unfold relB
    try dsimp only
    have e2 : up sB 0 6 a1 2 = sB 2 := up_ne (by decide)
    have e3 : up sB 0 6 a1 3 = sB 3 := up_ne (by decide)
    have e5 : up sB 0 6 a1 0 5 = sB 0 5 := up_other (by omega)
    have f5 : up sR 0 2 a1 5 = sR 5 := up_ne (by decide)
    have f6 : up sR 0 2 a1 6 = sR 6 := up_ne (by decide)
    have f3 : up sR 0 2 a1 0 3 = sR 0 3 := up_other (by omega)
    rw [e2, e3, e5, f5, f6, f3, up_get, up_get]
    exact ⟨hB.1, rfl, w, hB.2.2.2⟩
theorem P_clear (h : Rel sT vT sM sB sL sS sR vR) : (m_T_clear sT sB).1 = (m_R_clear sR).1 ∧ Rel sT vT sM (m_T_clear sT sB).2 sL sS (m_R_clear sR).2 vR := by
  obtain ⟨hR, hT, hM, hB, hL, hS⟩ := h
  unfold m_T_clear m_R_clear m_B_forgetShots
  try dsimp only
  refine ⟨hB.1, ?_, relT_ext hT (up_other (by omega)) (up_other (by omega)), relM_ext hM (up_ne (by decide)) (up_other (by omega)), ?_, relL_ext hL (up_ne (by decide)) (up_ne (by decide)) (up_ne (by decide)) (up_ne (by decide)) (up_other (by omega)) (up_other (by omega)) (up_other (by omega)), relS_ext hS (up_ne (by decide)) (up_other (by omega)) (up_other (by omega))⟩
  · unfold okR
    try dsimp only
    have f1 : up sR 0 3 0 1 = sR 1 := up_ne (by decide)
    have f5 : up sR 0 3 0 5 = sR 5 := up_ne (by decide)
    have f6 : up sR 0 3 0 0 6 = sR 0 6 := up_other (by omega)
    have f7 : up sR 0 3 0 0 7 = sR 0 7 := up_other (by omega)
    have f11 : up sR 0 3 0 0 11 = sR 0 11 := up_other (by omega)
    have f16 : up sR 0 3 0 0 16 = sR 0 16 := up_other (by omega)
    rw [f1, f5, f6, f7, f11, f16, up_get, tl_0]
    exact ⟨⟨hR.1.1, by omega, by omega, hR.1.2.2.2⟩, hR.2⟩
  · unfold relB
    try dsimp only
    have e2 : up sB 0 5 0 2 = sB 2 := up_ne (by decide)
    have e3 : up sB 0 5 0 3 = sB 3 := up_ne (by decide)
    have e6 : up sB 0 5 0 0 6 = sB 0 6 := up_other (by omega)
    have f5 : up sR 0 3 0 5 = sR 5 := up_ne (by decide)
    have f6 : up sR 0 3 0 6 = sR 6 := up_ne (by decide)
    have f2 : up sR 0 3 0 0 2 = sR 0 2 := up_other (by omega)
    rw [e2, e3, e6, f5, f6, f2, up_get, up_get]
    exact ⟨rfl, hB.2⟩
theorem P_shot (h : Rel sT vT sM sB sL sS sR vR) (a1 a2 : Int32) : (m_T_shot sT sB a1 a2).1 = (m_R_shot sR a1 a2).1 ∧ Rel sT vT sM (m_T_shot sT sB a1 a2).2 sL sS (m_R_shot sR a1 a2).2 vR := by
  unfold m_T_shot m_R_shot
  by_cases c : m_T_within a1 0 60 = 0
  · have c' : m_R_in a1 0 60 = 0 := c
    simp only [if_pos c, if_pos c']
    exact ⟨by trivial, h⟩
  have c' : ¬ m_R_in a1 0 60 = 0 := c
  simp only [if_neg c, if_neg c']
  by_cases c2 : m_T_within a2 0 2000 = 0
  · have c2' : m_R_in a2 0 2000 = 0 := c2
    simp only [if_pos c2, if_pos c2']
    exact ⟨by trivial, h⟩
  have c2' : ¬ m_R_in a2 0 2000 = 0 := c2
  simp only [if_neg c2, if_neg c2']
  have w := within_t c
  rw [tl_0, tl_60] at w
  have w2 := within_t c2
  rw [tl_0, tl_2000] at w2
  obtain ⟨hR, hT, hM, hB, hL, hS⟩ := h
  have nR := okR_lin hR
  unfold m_B_tell m_B_told
  rw [hB.1]
  by_cases c3 : sR 0 3 = 16
  · have c4 : (16 : Int32) ≤ sR 0 3 := by rw [c3]; decide
    simp only [if_pos c3, if_pos c4, if_true]
    exact ⟨by trivial, hR, hT, hM, hB, hL, hS⟩
  have c5 : ¬ (16 : Int32) ≤ sR 0 3 := fun q => by
    have := le_t q
    rw [tl_16] at this
    exact c3 (t_ext (by rw [tl_16]; omega))
  have c6 : sR 0 3 < 16 := Int32.lt_iff_toInt_lt.mpr (by rw [tl_16]; have := nle_t c5; rw [tl_16] at this; exact this)
  have l6 := lt_t c6
  rw [tl_16] at l6
  have c7 : ¬ (1 : Int32) = 0 := by decide
  simp only [if_neg c3, if_neg c5, if_pos c6, if_neg c7]
  have en : (sR 0 3 + 1).toInt = (sR 0 3).toInt + 1 := t_inc (by omega)
  have ek : Int32.toNatClampNeg (sR 0 3) < 16 := by rw [cl_t]; omega
  refine ⟨up_get, ?_, relT_ext hT ?_ ?_, relM_ext hM ?_ ?_, ?_, relL_ext hL ?_ ?_ ?_ ?_ ?_ ?_ ?_, relS_ext hS ?_ ?_ ?_⟩
  · unfold okR
    try dsimp only
    have f1 : up (up (up sR 5 (Int32.toNatClampNeg (sR 0 3)) a1) 6 (Int32.toNatClampNeg (sR 0 3)) a2) 0 3 (sR 0 3 + 1) 1 = sR 1 := by rw [up_ne (by decide), up_ne (by decide), up_ne (by decide)]
    have f5 : up (up (up sR 5 (Int32.toNatClampNeg (sR 0 3)) a1) 6 (Int32.toNatClampNeg (sR 0 3)) a2) 0 3 (sR 0 3 + 1) 5 = upd (sR 5) (Int32.toNatClampNeg (sR 0 3)) a1 := by rw [up_ne (by decide), up_ne (by decide), up_eq]
    have f6 : up (up (up sR 5 (Int32.toNatClampNeg (sR 0 3)) a1) 6 (Int32.toNatClampNeg (sR 0 3)) a2) 0 3 (sR 0 3 + 1) 0 6 = sR 0 6 := by rw [up_other (by omega), up_other (by omega), up_other (by omega)]
    have f7 : up (up (up sR 5 (Int32.toNatClampNeg (sR 0 3)) a1) 6 (Int32.toNatClampNeg (sR 0 3)) a2) 0 3 (sR 0 3 + 1) 0 7 = sR 0 7 := by rw [up_other (by omega), up_other (by omega), up_other (by omega)]
    have f11 : up (up (up sR 5 (Int32.toNatClampNeg (sR 0 3)) a1) 6 (Int32.toNatClampNeg (sR 0 3)) a2) 0 3 (sR 0 3 + 1) 0 11 = sR 0 11 := by rw [up_other (by omega), up_other (by omega), up_other (by omega)]
    have f16 : up (up (up sR 5 (Int32.toNatClampNeg (sR 0 3)) a1) 6 (Int32.toNatClampNeg (sR 0 3)) a2) 0 3 (sR 0 3 + 1) 0 16 = sR 0 16 := by rw [up_other (by omega), up_other (by omega), up_other (by omega)]
    rw [f1, f5, f6, f7, f11, f16, up_get, en]
    refine ⟨⟨hR.1.1, by omega, by omega, hR.1.2.2.2⟩, fun i hi => ?_⟩
    unfold upd
    split
    · exact w
    · exact hR.2 i hi
  · rw [up_other (by omega), up_other (by omega), up_other (by omega)]
  · rw [up_other (by omega), up_other (by omega), up_other (by omega)]
  · rw [up_ne (by decide), up_ne (by decide), up_ne (by decide)]
  · rw [up_other (by omega), up_other (by omega), up_other (by omega)]
  · unfold relB
    try dsimp only
    refine ⟨by rw [up_get, up_get], by rw [up_other (by omega), up_other (by omega), up_other (by omega), up_other (by omega), up_other (by omega), up_other (by omega)]; exact hB.2.1, by rw [up_other (by omega), up_other (by omega), up_other (by omega)]; exact hB.2.2.1, fun i hi => ?_⟩
    have q := hB.2.2.2 i hi
    rw [up_ne (k' := 2) (by decide), up_ne (k' := 2) (by decide), up_eq, up_ne (k' := 5) (by decide), up_ne (k' := 5) (by decide), up_eq, up_ne (k' := 3) (by decide), up_eq, up_ne (k' := 3) (by decide), up_ne (k' := 6) (by decide), up_eq, up_ne (k' := 6) (by decide)]
    unfold upd
    split
    · exact ⟨rfl, rfl, w2⟩
    · exact q
  all_goals first
    | rw [up_ne (by decide), up_ne (by decide), up_ne (by decide)]
    | rw [up_other (by omega), up_other (by omega), up_other (by omega)]
theorem P_wound (h : Rel sT vT sM sB sL sS sR vR) : (m_T_wound sT).1 = (m_R_wound sR).1 ∧ Rel (m_T_wound sT).2 vT sM sB sL sS (m_R_wound sR).2 vR := by
  have hT := h.2.1
  unfold m_T_wound m_R_wound
  rw [hT.1]
  by_cases c : sR 0 13 = 0
  · simp only [if_pos c]
    refine ⟨by trivial, ?_⟩
    exact Rel_st h (by decide +kernel)
  · simp only [if_neg c]
    exact ⟨by trivial, h⟩
theorem P_sling (h : Rel sT vT sM sB sL sS sR vR) : (m_T_sling sT).1 = (m_R_sling sR).1 ∧ Rel (m_T_sling sT).2 vT sM sB sL sS (m_R_sling sR).2 vR := by
  have hT := h.2.1
  unfold m_T_sling m_R_sling
  rw [hT.1]
  by_cases c : sR 0 13 = 1
  · simp only [if_pos c]
    exact ⟨by trivial, Rel_st h (by decide +kernel)⟩
  · simp only [if_neg c]
    exact ⟨by trivial, h⟩
theorem P_near (h : Rel sT vT sM sB sL sS sR vR) (a1 : Int32) : (m_T_near sT a1).1 = (m_R_near sR a1).1 ∧ Rel (m_T_near sT a1).2 vT sM sB sL sS (m_R_near sR a1).2 vR := by
  have hT := h.2.1
  unfold m_T_near m_R_near
  rw [hT.1]
  by_cases c : m_T_within a1 0 200 = 0
  · have c' : m_R_in a1 0 200 = 0 := c
    simp only [if_pos c, if_pos c']
    exact ⟨by trivial, h⟩
  have c' : ¬ m_R_in a1 0 200 = 0 := c
  simp only [if_neg c, if_neg c']
  by_cases c1 : sR 0 13 < 2
  · have l1 := lt_t c1
    rw [tl_2] at l1
    have n2 : ¬ sR 0 13 = 2 := fun e => by rw [e, tl_2] at l1; omega
    have n3 : ¬ sR 0 13 = 3 := fun e => by rw [e, tl_3] at l1; omega
    simp only [if_pos c1, if_neg n2, if_neg n3]
    exact ⟨by trivial, h⟩
  · have l1 := nlt_t c1
    rw [tl_2] at l1
    simp only [if_neg c1]
    have q := hT.2.2.2
    by_cases n2 : sR 0 13 = 2
    · simp only [if_pos n2]
      by_cases m : a1 = 0
      · simp only [if_pos m]; exact ⟨by trivial, Rel_st h (by decide +kernel)⟩
      · simp only [if_neg m]; exact ⟨by trivial, Rel_st h (by decide +kernel)⟩
    · have n3 : sR 0 13 = 3 := t_ext (by
        rw [tl_3]
        have : (sR 0 13).toInt ≠ 2 := fun e => n2 (t_ext (by rw [tl_2]; exact e))
        omega)
      simp only [if_neg n2, if_pos n3]
      by_cases m : a1 = 0
      · simp only [if_pos m]; exact ⟨by trivial, Rel_st h (by decide +kernel)⟩
      · simp only [if_neg m]; exact ⟨by trivial, Rel_st h (by decide +kernel)⟩
theorem P_trace (h : Rel sT vT sM sB sL sS sR vR) : (m_T_trace sT vT) = (m_R_trace sR vR) ∧ Rel sT vT sM sB sL sS sR vR := ⟨h.2.1.2.2.1, h⟩
theorem P_level (h : Rel sT vT sM sB sL sS sR vR) (a1 : Int32) : (m_T_level sT sL a1).1 = (m_R_level sR a1).1 ∧ Rel sT vT sM sB (m_T_level sT sL a1).2 sS (m_R_level sR a1).2 vR := by
  unfold m_T_level m_R_level
  by_cases c : m_T_within a1 0 2 = 0
  · have c' : m_R_in a1 0 2 = 0 := c
    simp only [if_pos c, if_pos c']
    exact ⟨by trivial, h⟩
  · have c' : ¬ m_R_in a1 0 2 = 0 := c
    simp only [if_neg c, if_neg c']
    have w := within_t c
    rw [tl_0, tl_2] at w
    obtain ⟨hR, hT, hM, hB, hL, hS⟩ := h
    unfold m_L_putLevel
    refine ⟨hL.2.2.1, ?_, relT_ext hT (up_other (by omega)) (up_other (by omega)), relM_ext hM (up_ne (by decide)) (up_other (by omega)), relB_ext hB (up_ne (by decide)) (up_ne (by decide)) (up_other (by omega)) (up_other (by omega)), ?_, relS_ext hS (up_ne (by decide)) (up_other (by omega)) (up_other (by omega))⟩
    · unfold okR
      try dsimp only
      have f1 : up sR 0 11 a1 1 = sR 1 := up_ne (by decide)
      have f5 : up sR 0 11 a1 5 = sR 5 := up_ne (by decide)
      have f3 : up sR 0 11 a1 0 3 = sR 0 3 := up_other (by omega)
      have f6 : up sR 0 11 a1 0 6 = sR 0 6 := up_other (by omega)
      have f7 : up sR 0 11 a1 0 7 = sR 0 7 := up_other (by omega)
      have f16 : up sR 0 11 a1 0 16 = sR 0 16 := up_other (by omega)
      rw [f1, f5, f3, f6, f7, f16, up_get]
      obtain ⟨⟨q1, q2, q3, q4, q5, q6, q7, q8, q9, q10, q11⟩, q12⟩ := hR
      exact ⟨⟨q1, q2, q3, q4, q5, q6, q7, w.1, w.2, q10, q11⟩, q12⟩
    · unfold relL relC
      try dsimp only
      have e1 : up sL 0 6 a1 1 = sL 1 := up_ne (by decide)
      have e2 : up sL 0 6 a1 2 = sL 2 := up_ne (by decide)
      have e3 : up sL 0 6 a1 3 = sL 3 := up_ne (by decide)
      have e4 : up sL 0 6 a1 4 = sL 4 := up_ne (by decide)
      have e04 : up sL 0 6 a1 0 4 = sL 0 4 := up_other (by omega)
      have e05 : up sL 0 6 a1 0 5 = sL 0 5 := up_other (by omega)
      have f9 : up sR 0 11 a1 9 = sR 9 := up_ne (by decide)
      have f10 : up sR 0 11 a1 10 = sR 10 := up_ne (by decide)
      have f11 : up sR 0 11 a1 11 = sR 11 := up_ne (by decide)
      have f13 : up sR 0 11 a1 13 = sR 13 := up_ne (by decide)
      have f6 : up sR 0 11 a1 0 6 = sR 0 6 := up_other (by omega)
      have f7 : up sR 0 11 a1 0 7 = sR 0 7 := up_other (by omega)
      rw [e1, e2, e3, e4, e04, e05, f9, f10, f11, f13, f6, f7, up_get, up_get]
      exact ⟨hL.1, hL.2.1, rfl, hL.2.2.2⟩
theorem P_wet (h : Rel sT vT sM sB sL sS sR vR) (a1 a2 : Int32) : (m_T_wet sT sS a1 a2).1 = (m_R_wet sR a1 a2).1 ∧ Rel sT vT sM sB sL (m_T_wet sT sS a1 a2).2 (m_R_wet sR a1 a2).2 vR := by
  unfold m_T_wet m_R_wet
  by_cases c : m_T_within a1 1 20 = 0
  · have c' : m_R_in a1 1 20 = 0 := c
    simp only [if_pos c, if_pos c']
    exact ⟨by trivial, h⟩
  have c' : ¬ m_R_in a1 1 20 = 0 := c
  simp only [if_neg c, if_neg c']
  by_cases c2 : m_T_within a2 0 ((1 <<< (a1 &&& 31)) - 1) = 0
  · have c2' : m_R_in a2 0 ((1 <<< (a1 &&& 31)) - 1) = 0 := c2
    simp only [if_pos c2, if_pos c2']
    exact ⟨by trivial, h⟩
  have c2' : ¬ m_R_in a2 0 ((1 <<< (a1 &&& 31)) - 1) = 0 := c2
  simp only [if_neg c2, if_neg c2']
  have w := within_t c
  rw [tl_1, tl_20] at w
  have w2 := (within_t c2).1
  rw [tl_0] at w2
  obtain ⟨hR, hT, hM, hB, hL, hS⟩ := h
  unfold m_S_putWet
  refine ⟨trivial, ?_, relT_ext hT ?_ ?_, relM_ext hM ?_ ?_, relB_ext hB ?_ ?_ ?_ ?_, relL_ext hL ?_ ?_ ?_ ?_ ?_ ?_ ?_, ?_⟩
  · unfold okR
    try dsimp only
    have f1 : up (up sR 0 16 a1) 0 17 a2 1 = sR 1 := by rw [up_ne (by decide), up_ne (by decide)]
    have f5 : up (up sR 0 16 a1) 0 17 a2 5 = sR 5 := by rw [up_ne (by decide), up_ne (by decide)]
    have f3 : up (up sR 0 16 a1) 0 17 a2 0 3 = sR 0 3 := by rw [up_other (by omega), up_other (by omega)]
    have f6 : up (up sR 0 16 a1) 0 17 a2 0 6 = sR 0 6 := by rw [up_other (by omega), up_other (by omega)]
    have f7 : up (up sR 0 16 a1) 0 17 a2 0 7 = sR 0 7 := by rw [up_other (by omega), up_other (by omega)]
    have f11 : up (up sR 0 16 a1) 0 17 a2 0 11 = sR 0 11 := by rw [up_other (by omega), up_other (by omega)]
    have f16 : up (up sR 0 16 a1) 0 17 a2 0 16 = a1 := by rw [up_other (by omega), up_get]
    rw [f1, f5, f3, f6, f7, f11, f16]
    obtain ⟨⟨q1, q2, q3, q4, q5, q6, q7, q8, q9, q10, q11⟩, q12⟩ := hR
    exact ⟨⟨q1, q2, q3, q4, q5, q6, q7, q8, q9, w.1, w.2⟩, q12⟩
  all_goals first
    | rw [up_ne (by decide), up_ne (by decide)]; done
    | rw [up_other (by omega), up_other (by omega)]; done
    | skip
  unfold relS
  try dsimp only
  have e1 : up (up sS 0 1 a1) 0 2 a2 1 = sS 1 := by rw [up_ne (by decide), up_ne (by decide)]
  have f16 : up (up sR 0 16 a1) 0 17 a2 16 = sR 16 := by rw [up_ne (by decide), up_ne (by decide)]
  have g16 : up (up sR 0 16 a1) 0 17 a2 0 16 = a1 := by rw [up_other (by omega), up_get]
  have g1 : up (up sS 0 1 a1) 0 2 a2 0 1 = a1 := by rw [up_other (by omega), up_get]
  rw [e1, f16, g16, g1, up_get, up_get]
  exact ⟨hS.1, hS.2.1, hS.2.2.1, hS.2.2.2.1, hS.2.2.2.2.1, hS.2.2.2.2.2.1, rfl, rfl, w2⟩
end S
