/-! open, count, wall, scatter, store -/
theorem cntb_le {v : Int32} : ∀ {k : Nat}, cntb v k ≤ k
  | 0 => Nat.le_refl _
  | k + 1 => by
    have := @cntb_le v k
    show cntb v k + (if v.toInt.toNat.testBit k then 1 else 0) ≤ k + 1
    split <;> omega
section OPEN
variable {sL sR : St}
theorem standing_cnt (hR : okR sR) (hL : relL sL sR) {x : Int32} {xn : Nat} (hx : x.toInt = (xn : Int)) (hw : (xn : Int) < (sR 0 6).toInt) : (m_R_standing sR x).toInt = (cntb (sL 2 xn) (sR 0 7).toInt.toNat : Int) := by
  have nR := okR_lin hR
  have key := wl_run (f := g_R_standing_4 sR x) (fun k s => s.2.toInt = (k : Int) ∧ s.1.toInt = (cntb (sL 2 xn) k : Int)) (sR 0 7).toInt.toNat ?_ ?_ 7 0 (0, 0) (by omega) (by omega) ⟨by rw [tl_0]; rfl, by rw [tl_0]; rfl⟩
  · exact key.2
  · rintro k ⟨c, y⟩ hk ⟨h1, h2⟩
    dsimp only at h1 h2
    have a : At sR x y xn k := ⟨hx, h1, hw, by omega⟩
    have q9 := ((hL.2.2.2.2 xn hw).2.2 k (by omega)).1
    have hle := @cntb_le (sL 2 xn) k
    have hs := cntb_s (v := sL 2 xn) (h := k)
    have hb : (bt (sL 2 xn) k).toInt ≤ 1 ∧ 0 ≤ (bt (sL 2 xn) k).toInt := by
      rcases bt_01 (v := sL 2 xn) (y := k) with b | b <;> rw [b]
      · rw [tl_0]; omega
      · rw [tl_1]; omega
    refine ⟨(c + sR 9 (xn + (sR 0 6).toInt.toNat * k), y + 1), ?_, ?_, ?_⟩
    · show f_R_standing_4 sR x c y = _
      unfold f_R_standing_4
      rw [if_neg (fun q => by have := le_t q; omega), a.idx hR]
    · dsimp only
      rw [t_inc (by omega)]; omega
    · dsimp only
      rw [q9, t_add (by omega) (by omega)]; omega
  · rintro ⟨c, y⟩ ⟨h1, h2⟩
    dsimp only at h1
    show f_R_standing_4 sR x c y = none
    unfold f_R_standing_4
    rw [if_pos (Int32.le_iff_toInt_le.mpr (by omega))]
theorem bc_st (hR : okR sR) (hL : relL sL sR) {x : Int32} {xn : Nat} (hx : x.toInt = (xn : Int)) (hw : (xn : Int) < (sR 0 6).toInt) : m_J_bitCount (sL 2 (Int32.toNatClampNeg x)) = m_R_standing sR x := by
  have nR := okR_lin hR
  have hc := hL.2.2.2.2 xn hw
  rw [cl_n hx]
  exact t_ext ((bc_cnt (h := (sR 0 7).toInt.toNat) (by omega) hc.1.1 hc.1.2).trans (standing_cnt hR hL hx hw).symm)
theorem open_eq (hR : okR sR) (hL : relL sL sR) : m_L_firstOpen sL = m_R_open sR := by
  have nR := okR_lin hR
  refine wc_sim (fun k s t => s = t ∧ s.toInt = (k : Int)) (fun r q => r = q) (sR 0 6).toInt.toNat ?_ ?_ 9 9 0 0 0 (by omega) (by omega) (by omega) ⟨rfl, by rw [tl_0]; rfl⟩
  · rintro k s t hk ⟨rfl, h1⟩
    have e := bc_st hR hL h1 (by omega)
    have n1 : ¬ sL 0 4 ≤ s := fun q => by have := le_t q; rw [hL.1] at this; omega
    have n2 : ¬ sR 0 6 ≤ s := fun q => by have := le_t q; omega
    unfold g_L_firstOpen_2 g_R_open_2 f_L_firstOpen_2 f_R_open_2 m_L_isOpen
    rw [e, hL.2.2.1]
    by_cases c : sR 0 11 < m_R_standing sR s
    · refine Or.inl ⟨s + 1, s + 1, by rw [if_neg n1, if_pos c, if_pos rfl], by rw [if_neg n2, if_pos c], rfl, ?_⟩
      rw [t_inc (by omega)]; omega
    · exact Or.inr ⟨s, s, by rw [if_neg n1, if_neg c, if_neg (by decide)], by rw [if_neg n2, if_neg c], rfl⟩
  · rintro s t ⟨rfl, h1⟩
    refine ⟨-9, -9, ?_, ?_, rfl⟩
    · unfold g_L_firstOpen_2 f_L_firstOpen_2
      rw [if_pos (Int32.le_iff_toInt_le.mpr (by rw [hL.1]; omega))]
    · unfold g_R_open_2 f_R_open_2
      rw [if_pos (Int32.le_iff_toInt_le.mpr (by omega))]
theorem cells_eq (hR : okR sR) (hL : relL sL sR) : (wl (g_L_standingCells_4 sL) 9 (0, 0)).1 = (wl (g_R_count_65 sR) 9 (0, 0)).1 := by
  have nR := okR_lin hR
  refine congrArg Prod.fst (wl_sim (f := g_L_standingCells_4 sL) (g := g_R_count_65 sR) (fun k (s t : Int32 × Int32) => s = t ∧ s.2.toInt = (k : Int)) (sR 0 6).toInt.toNat ?_ ?_ 9 9 0 (0, 0) (0, 0) (by omega) (by omega) (by omega) ⟨rfl, by rw [tl_0]; rfl⟩).1
  · rintro k ⟨c, s⟩ t hk ⟨rfl, h1⟩
    dsimp only at h1
    have e := bc_st hR hL h1 (by omega)
    refine ⟨(c + m_R_standing sR s, s + 1), (c + m_R_standing sR s, s + 1), ?_, ?_, rfl, ?_⟩
    · show f_L_standingCells_4 sL c s = _
      unfold f_L_standingCells_4
      rw [if_neg (fun q => by have := le_t q; rw [hL.1] at this; omega), e]
    · show f_R_count_65 sR c s = _
      unfold f_R_count_65
      rw [if_neg (fun q => by have := le_t q; omega)]
    · dsimp only
      rw [t_inc (by omega)]; omega
  · rintro ⟨c, s⟩ t ⟨rfl, h1⟩
    dsimp only at h1
    refine ⟨?_, ?_⟩
    · show f_L_standingCells_4 sL c s = _
      unfold f_L_standingCells_4
      rw [if_pos (Int32.le_iff_toInt_le.mpr (by rw [hL.1]; omega))]
    · show f_R_count_65 sR c s = _
      unfold f_R_count_65
      rw [if_pos (Int32.le_iff_toInt_le.mpr (by omega))]
theorem opens_eq (hR : okR sR) (hL : relL sL sR) : (wl (g_L_openColumns_4 sL) 9 (0, 0)).1 = (wl (g_R_count_108 sR) 9 (0, 0)).1 := by
  have nR := okR_lin hR
  refine congrArg Prod.fst (wl_sim (f := g_L_openColumns_4 sL) (g := g_R_count_108 sR) (fun k (s t : Int32 × Int32) => s = t ∧ s.2.toInt = (k : Int)) (sR 0 6).toInt.toNat ?_ ?_ 9 9 0 (0, 0) (0, 0) (by omega) (by omega) (by omega) ⟨rfl, by rw [tl_0]; rfl⟩).1
  · rintro k ⟨c, s⟩ t hk ⟨rfl, h1⟩
    dsimp only at h1
    have e := bc_st hR hL h1 (by omega)
    have h2 : (s + 1).toInt = ((k + 1 : Nat) : Int) := by rw [t_inc (by omega)]; omega
    have n1 : ¬ sL 0 4 ≤ s := fun q => by have := le_t q; rw [hL.1] at this; omega
    have n2 : ¬ sR 0 6 ≤ s := fun q => by have := le_t q; omega
    by_cases q : sR 0 11 < m_R_standing sR s
    · refine ⟨(c + 0, s + 1), (c + 0, s + 1), ?_, ?_, rfl, h2⟩
      · show f_L_openColumns_4 sL c s = _
        unfold f_L_openColumns_4 m_L_isOpen
        rw [if_neg n1, e, hL.2.2.1, if_pos q, if_pos rfl]
      · show f_R_count_108 sR c s = _
        unfold f_R_count_108
        rw [if_neg n2, if_pos q]
    · refine ⟨(c + 1, s + 1), (c + 1, s + 1), ?_, ?_, rfl, h2⟩
      · show f_L_openColumns_4 sL c s = _
        unfold f_L_openColumns_4 m_L_isOpen
        rw [if_neg n1, e, hL.2.2.1, if_neg q, if_neg (by decide)]
      · show f_R_count_108 sR c s = _
        unfold f_R_count_108
        rw [if_neg n2, if_neg q]
  · rintro ⟨c, s⟩ t ⟨rfl, h1⟩
    dsimp only at h1
    refine ⟨?_, ?_⟩
    · show f_L_openColumns_4 sL c s = _
      unfold f_L_openColumns_4
      rw [if_pos (Int32.le_iff_toInt_le.mpr (by rw [hL.1]; omega))]
    · show f_R_count_108 sR c s = _
      unfold f_R_count_108
      rw [if_pos (Int32.le_iff_toInt_le.mpr (by omega))]
end OPEN
theorem build_rel {sL sR : St} {a1 a2 : Int32} (h1 : 1 ≤ a1.toInt ∧ a1.toInt ≤ 8) (h2 : 1 ≤ a2.toInt ∧ a2.toInt ≤ 6) (e6 : sR 0 6 = a1) (e7 : sR 0 7 = a2) (el : sL 0 6 = sR 0 11) (ew : ∀ i, i < 9 → sL 4 i = sR 13 i ∧ 0 ≤ (sR 13 i).toInt ∧ (sR 13 i).toInt ≤ 9) : relL (m_L_build sL a1 a2) (m_R_newWall sR) ∧ (∀ a j, a ≠ 9 ∧ a ≠ 10 ∧ a ≠ 11 → m_R_newWall sR a j = sR a j) := by
  have z0 := tl_0
  have z1 := tl_1
  have z10 := tl_10
  have kR := wl_run (f := g_R_newWall_2) (fun k s => (∀ j, j < k → s.1 9 j = 1 ∧ s.1 10 j = 10 ∧ s.1 11 j = 0) ∧ (∀ a j, a ≠ 9 ∧ a ≠ 10 ∧ a ≠ 11 → s.1 a j = sR a j) ∧ s.2.toInt = (k : Int)) 48 (by
    rintro k ⟨s, i⟩ hk ⟨g1, g2, g3⟩
    dsimp only at g1 g2 g3
    refine ⟨(up (up (up s 9 k 1) 10 k 10) 11 k 0, i + 1), ?_, ?_, ?_, ?_⟩
    · show f_R_newWall_2 s i = _
      unfold f_R_newWall_2
      rw [if_neg (fun q => by have := le_t q; rw [show (48 : Int32).toInt = 48 by decide +kernel] at this; omega), cl_n g3]
    · intro j hj
      dsimp only
      rw [up_other (s := up (up s 9 k 1) 10 k 10) (by omega), up_other (s := up s 9 k 1) (by omega), up_row, up_other (s := up (up s 9 k 1) 10 k 10) (by omega), up_row, up_row, up_other (s := s) (by omega), up_other (s := up s 9 k 1) (by omega), up_other (s := s) (by omega)]
      by_cases e : j = k
      · rw [if_pos e, if_pos e, if_pos e]; exact ⟨rfl, rfl, rfl⟩
      · rw [if_neg e, if_neg e, if_neg e]; exact g1 j (by omega)
    · intro a j ha
      dsimp only
      rw [up_other (by omega), up_other (by omega), up_other (by omega)]
      exact g2 a j ha
    · dsimp only
      rw [t_inc (by omega)]; omega) (by
    rintro ⟨s, i⟩ ⟨g1, g2, g3⟩
    dsimp only at g3
    show f_R_newWall_2 s i = none
    unfold f_R_newWall_2
    rw [if_pos (Int32.le_iff_toInt_le.mpr (by rw [show (48 : Int32).toInt = 48 by decide +kernel]; omega))]) 49 0 (sR, 0) (by omega) (by omega) ⟨fun j hj => by omega, fun _ _ _ => rfl, by rw [tl_0]; rfl⟩
  have kL1 := wl_run (f := g_L_build_12) (fun k s => (∀ j, j < k → s.1 1 j = 10) ∧ (∀ a j, a ≠ 1 → s.1 a j = (up (up sL 0 4 a1) 0 5 a2) a j) ∧ s.2.toInt = (k : Int)) 48 (by
    rintro k ⟨s, i⟩ hk ⟨g1, g2, g3⟩
    dsimp only at g1 g2 g3
    refine ⟨(up s 1 k 10, i + 1), ?_, ?_, ?_, ?_⟩
    · show f_L_build_12 s i = _
      unfold f_L_build_12
      rw [if_neg (fun q => by have := le_t q; rw [show (48 : Int32).toInt = 48 by decide +kernel] at this; omega), cl_n g3]
    · intro j hj
      dsimp only
      rw [up_row]
      by_cases e : j = k
      · rw [if_pos e]
      · rw [if_neg e]; exact g1 j (by omega)
    · intro a j ha
      dsimp only
      rw [up_ne ha]
      exact g2 a j ha
    · dsimp only
      rw [t_inc (by omega)]; omega) (by
    rintro ⟨s, i⟩ ⟨g1, g2, g3⟩
    dsimp only at g3
    show f_L_build_12 s i = none
    unfold f_L_build_12
    rw [if_pos (Int32.le_iff_toInt_le.mpr (by rw [show (48 : Int32).toInt = 48 by decide +kernel]; omega))]) 49 0 ((up (up sL 0 4 a1) 0 5 a2), 0) (by omega) (by omega) ⟨fun j hj => by omega, fun _ _ _ => rfl, by rw [tl_0]; rfl⟩
  have kL2 := wl_run (f := g_L_build_37 a1 a2) (fun k s => (∀ j, j < k → s.1 2 j = (if a1.toInt ≤ (j : Int) then (0 : Int32) else (((1 : Int32) <<< (a2 &&& 31)) - 1)) ∧ s.1 3 j = 0) ∧ (∀ a j, a ≠ 2 ∧ a ≠ 3 → s.1 a j = (wl g_L_build_12 49 ((up (up sL 0 4 a1) 0 5 a2), 0)).1 a j) ∧ s.2.toInt = (k : Int)) 8 (by
    rintro k ⟨s, i⟩ hk ⟨g1, g2, g3⟩
    dsimp only at g1 g2 g3
    refine ⟨(up (up s 2 k (if a1.toInt ≤ (k : Int) then (0 : Int32) else (((1 : Int32) <<< (a2 &&& 31)) - 1))) 3 k 0, i + 1), ?_, ?_, ?_, ?_⟩
    · show f_L_build_37 a1 a2 s i = _
      unfold f_L_build_37
      rw [if_neg (fun q => by have := le_t q; rw [show (8 : Int32).toInt = 8 by decide +kernel] at this; omega), cl_n g3]
      by_cases c : a1 ≤ i
      · have := le_t c
        rw [if_pos c, if_pos (by omega)]
      · have := nle_t c
        rw [if_neg c, if_neg (by omega)]
    · intro j hj
      dsimp only
      rw [up_other (s := up s 2 k _) (by omega), up_row, up_row, up_other (s := s) (by omega)]
      by_cases e : j = k
      · rw [if_pos e, if_pos e, e]; exact ⟨rfl, rfl⟩
      · rw [if_neg e, if_neg e]; exact g1 j (by omega)
    · intro a j ha
      dsimp only
      rw [up_other (by omega), up_other (by omega)]
      exact g2 a j ha
    · dsimp only
      rw [t_inc (by omega)]; omega) (by
    rintro ⟨s, i⟩ ⟨g1, g2, g3⟩
    dsimp only at g3
    show f_L_build_37 a1 a2 s i = none
    unfold f_L_build_37
    rw [if_pos (Int32.le_iff_toInt_le.mpr (by rw [show (8 : Int32).toInt = 8 by decide +kernel]; omega))]) 9 0 ((wl g_L_build_12 49 ((up (up sL 0 4 a1) 0 5 a2), 0)).1, 0) (by omega) (by omega) ⟨fun j hj => by omega, fun _ _ _ => rfl, by rw [tl_0]; rfl⟩
  have hb : m_L_build sL a1 a2 = (wl (g_L_build_37 a1 a2) 9 ((wl g_L_build_12 49 ((up (up sL 0 4 a1) 0 5 a2), 0)).1, 0)).1 := rfl
  have hn : m_R_newWall sR = (wl g_R_newWall_2 49 (sR, 0)).1 := rfl
  rw [hb, hn]
  generalize (wl (g_L_build_37 a1 a2) 9 ((wl g_L_build_12 49 ((up (up sL 0 4 a1) 0 5 a2), 0)).1, 0)).1 = tL at kL2 ⊢
  generalize (wl g_L_build_12 49 ((up (up sL 0 4 a1) 0 5 a2), 0)).1 = uL at kL1 kL2
  generalize (wl g_R_newWall_2 49 (sR, 0)).1 = tR at kR ⊢
  obtain ⟨r1, r2, -⟩ := kR
  obtain ⟨u1, u2, -⟩ := kL1
  obtain ⟨l1, l2, -⟩ := kL2
  have f6 : tR 0 6 = a1 := (r2 0 6 (by omega)).trans e6
  have f7 : tR 0 7 = a2 := (r2 0 7 (by omega)).trans e7
  refine ⟨⟨?_, ?_, ?_, fun i hi => ?_, fun x hx => ?_⟩, r2⟩
  · rw [l2 0 4 (by omega), u2 0 4 (by omega), up_other (by omega), up_get, f6]
  · rw [l2 0 5 (by omega), u2 0 5 (by omega), up_get, f7]
  · rw [l2 0 6 (by omega), u2 0 6 (by omega), up_other (by omega), up_other (by omega), r2 0 11 (by omega), el]
  · rw [l2 4 i (by omega), u2 4 i (by omega), up_other (by omega), up_other (by omega), r2 13 i (by omega)]
    exact ew i hi
  · rw [f6] at hx
    have k2 := l1 x (by omega)
    rw [if_neg (by omega)] at k2
    have ft := full_tab a2.toInt.toNat (by omega)
    rw [← eq_ofNat (i := a2) (k := a2.toInt.toNat) (by omega)] at ft
    unfold relC
    rw [k2.1, k2.2, f7, f6]
    refine ⟨⟨ft.1, by rw [powi]; have := ft.2.1; rw [powi] at this; exact this⟩, ⟨by omega, by rw [tl_0, powi]; exact Int.natCast_pos.mpr (Nat.two_pow_pos _)⟩, fun y hy => ?_⟩
    have hb := ft.2.2 y (by omega)
    have hlt : x + a1.toInt.toNat * y < 48 := by
      have q1 : x + a1.toInt.toNat * y < a1.toInt.toNat * (y + 1) := by rw [Nat.mul_add, Nat.mul_one]; omega
      have q2 : a1.toInt.toNat * (y + 1) ≤ 8 * 6 := Nat.mul_le_mul (by omega) (by omega)
      omega
    obtain ⟨c9, c10, c11⟩ := r1 _ hlt
    rw [c9, c10, c11, hb, l2 1 _ (by omega), u1 (6 * x + y) (by omega)]
    refine ⟨rfl, ?_, rfl, by omega, fun _ => by omega⟩
    unfold bt
    rw [tl_0]
    simp
section S
variable {sT : St} {vT : Int64} {sM sB sL sS sR : St} {vR : Int64}
theorem P_open (h : Rel sT vT sM sB sL sS sR vR) : (m_T_open sT sL) = (m_R_open sR) ∧ Rel sT vT sM sB sL sS sR vR := ⟨open_eq h.1 h.2.2.2.2.1, h⟩
theorem P_count (h : Rel sT vT sM sB sL sS sR vR) (a1 : Int32) : (m_T_count sT sB sL sS a1) = (m_R_count sR a1) ∧ Rel sT vT sM sB sL sS sR vR := by
  refine ⟨?_, h⟩
  obtain ⟨hR, hT, hM, hB, hL, hS⟩ := h
  unfold m_T_count m_R_count m_L_wide m_L_high m_B_told m_S_stones m_L_standingCells m_L_openColumns b_L_standingCells_30 b_L_openColumns_34 b_R_count_87 b_R_count_142
  rw [hT.1, hL.1, hL.2.1, hB.1, hT.2.1, hS.1 1 (by decide), cells_eq hR hL, opens_eq hR hL]
theorem P_wall (h : Rel sT vT sM sB sL sS sR vR) (a1 a2 : Int32) : (m_T_wall sT sL a1 a2).1 = (m_R_wall sR a1 a2).1 ∧ Rel sT vT sM sB (m_T_wall sT sL a1 a2).2 sS (m_R_wall sR a1 a2).2 vR := by
  unfold m_T_wall m_R_wall
  by_cases c : m_T_within a1 1 8 = 0
  · have c' : m_R_in a1 1 8 = 0 := c
    simp only [if_pos c, if_pos c']
    exact ⟨by trivial, h⟩
  have c' : ¬ m_R_in a1 1 8 = 0 := c
  simp only [if_neg c, if_neg c']
  by_cases d : m_T_within a2 1 6 = 0
  · have d' : m_R_in a2 1 6 = 0 := d
    simp only [if_pos d, if_pos d']
    exact ⟨by trivial, h⟩
  have d' : ¬ m_R_in a2 1 6 = 0 := d
  simp only [if_neg d, if_neg d']
  have w1 := within_t c
  have w2 := within_t d
  rw [tl_1, show (8 : Int32).toInt = 8 by decide +kernel] at w1
  rw [tl_1, show (6 : Int32).toInt = 6 by decide +kernel] at w2
  refine ⟨by trivial, ?_⟩
  obtain ⟨hR, hT, hM, hB, hL, hS⟩ := h
  have e0 : ∀ j, j ≠ 6 ∧ j ≠ 7 → up (up sR 0 6 a1) 0 7 a2 0 j = sR 0 j := fun j hj => by rw [up_other (by omega), up_other (by omega)]
  have er : ∀ a, a ≠ 0 → up (up sR 0 6 a1) 0 7 a2 a = sR a := fun a ha => by rw [up_ne ha, up_ne ha]
  have f6 : up (up sR 0 6 a1) 0 7 a2 0 6 = a1 := by rw [up_other (by omega), up_get]
  have f7 : up (up sR 0 6 a1) 0 7 a2 0 7 = a2 := up_get
  obtain ⟨b1, b2⟩ := build_rel (sL := sL) (sR := up (up sR 0 6 a1) 0 7 a2) w1 w2 f6 f7 (by rw [e0 11 (by omega)]; exact hL.2.2.1) (by rw [er 13 (by decide)]; exact hL.2.2.2.1)
  have row : ∀ a, a ≠ 0 ∧ a ≠ 9 ∧ a ≠ 10 ∧ a ≠ 11 → m_R_newWall (up (up sR 0 6 a1) 0 7 a2) a = sR a := fun a ha => (funext fun j => b2 a j (by omega)).trans (er a (by omega))
  have fld : ∀ j, j ≠ 6 ∧ j ≠ 7 → m_R_newWall (up (up sR 0 6 a1) 0 7 a2) 0 j = sR 0 j := fun j hj => (b2 0 j (by omega)).trans (e0 j hj)
  refine ⟨?_, relT_ext hT (fld _ (by omega)) (fld _ (by omega)), relM_ext hM (row 1 (by omega)) (fld _ (by omega)), relB_ext hB (row 5 (by omega)) (row 6 (by omega)) (fld _ (by omega)) (fld _ (by omega)), b1, relS_ext hS (row 16 (by omega)) (fld _ (by omega)) (fld _ (by omega))⟩
  unfold okR
  rw [row 1 (by omega), row 5 (by omega), fld 3 (by omega), fld 11 (by omega), fld 16 (by omega), b2 0 6 (by omega), b2 0 7 (by omega), f6, f7]
  obtain ⟨⟨q1, q2, q3, q4, q5, q6, q7, q8⟩, q9⟩ := hR
  exact ⟨⟨q1, q2, q3, w1.1, w1.2, w2.1, w2.2, q8⟩, q9⟩
theorem P_scatter (h : Rel sT vT sM sB sL sS sR vR) (a1 a2 a3 : Int32) : (m_T_scatter sT sL a1 a2 a3).1 = (m_R_scatter sR a1 a2 a3).1 ∧ Rel sT vT sM sB (m_T_scatter sT sL a1 a2 a3).2 sS (m_R_scatter sR a1 a2 a3).2 vR := by
  unfold m_T_scatter m_R_scatter m_L_putWeight
  by_cases c : m_T_within a1 (-1) 1 = 0
  · have c' : m_R_in a1 (-1) 1 = 0 := c
    simp only [if_pos c, if_pos c']
    exact ⟨by trivial, h⟩
  have c' : ¬ m_R_in a1 (-1) 1 = 0 := c
  simp only [if_neg c, if_neg c']
  by_cases d : m_T_within a2 (-1) 1 = 0
  · have d' : m_R_in a2 (-1) 1 = 0 := d
    simp only [if_pos d, if_pos d']
    exact ⟨by trivial, h⟩
  have d' : ¬ m_R_in a2 (-1) 1 = 0 := d
  simp only [if_neg d, if_neg d']
  by_cases b : m_T_within a3 0 9 = 0
  · have b' : m_R_in a3 0 9 = 0 := b
    simp only [if_pos b, if_pos b']
    exact ⟨by trivial, h⟩
  have b' : ¬ m_R_in a3 0 9 = 0 := b
  simp only [if_neg b, if_neg b']
  have w1 := within_t c
  have w2 := within_t d
  have w3 := within_t b
  rw [tl_m1, tl_1] at w1 w2
  rw [tl_0, show (9 : Int32).toInt = 9 by decide +kernel] at w3
  have t1 : (a1 + 1).toInt = a1.toInt + 1 := t_inc (by omega)
  have t2 : (a2 + 1).toInt = a2.toInt + 1 := t_inc (by omega)
  have t3 : (3 * (a2 + 1)).toInt = 3 * (a2.toInt + 1) := by rw [t_mul (by rw [tl_3, t2]; omega) (by rw [tl_3, t2]; omega), tl_3, t2]
  have ti : ((a1 + 1) + (3 * (a2 + 1))).toInt = 4 + a1.toInt + 3 * a2.toInt := by rw [t_add (by omega) (by omega), t1, t3]; omega
  have tp := weightPlace_t (x := a1) (y := a2) (by omega)
  have e : m_L_weightPlace a1 a2 = (a1 + 1) + (3 * (a2 + 1)) := t_ext (tp.trans ti.symm)
  have n : ¬ m_T_within (m_L_weightPlace a1 a2) 0 (9 - 1) = 0 := by
    rw [within_1 (by rw [tl_0, tp]; omega) (by rw [show ((9 : Int32) - 1).toInt = 8 by decide +kernel, tp]; omega)]; decide
  simp only [if_neg n]
  rw [e]
  generalize hk : Int32.toNatClampNeg ((a1 + 1) + (3 * (a2 + 1))) = k
  have k9 : k < 9 := by rw [← hk, cl_t]; omega
  obtain ⟨hR, hT, hM, hB, hL, hS⟩ := h
  refine ⟨(hL.2.2.2.1 k k9).1, okR_row hR (by omega), relT_ext hT (up_other (by omega)) (up_other (by omega)), relM_ext hM (up_ne (by omega)) (up_other (by omega)), relB_ext hB (up_ne (by omega)) (up_ne (by omega)) (up_other (by omega)) (up_other (by omega)), ?_, relS_ext hS (up_ne (by omega)) (up_other (by omega)) (up_other (by omega))⟩
  refine ⟨by rw [up_other (by omega), up_other (by omega)]; exact hL.1, by rw [up_other (by omega), up_other (by omega)]; exact hL.2.1, by rw [up_other (by omega), up_other (by omega)]; exact hL.2.2.1, fun i hi => ?_, fun x hx => ?_⟩
  · rw [up_row, up_row]
    by_cases e : i = k
    · rw [if_pos e, if_pos e]; exact ⟨rfl, w3⟩
    · rw [if_neg e, if_neg e]; exact hL.2.2.2.1 i hi
  · rw [up_other (by omega)] at hx
    exact relC_fr (hL.2.2.2.2 x hx) (up_other (by omega)) (up_other (by omega)) (up_other (by omega)) (up_other (by omega)) (fun y hy => ⟨up_other (by omega), up_other (by omega), up_other (by omega), up_other (by omega)⟩)
end S
