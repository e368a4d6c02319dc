/-! worth, aim, store -/
section S
variable {sT : St} {vT : Int64} {sM sB sL sS sR : St} {vR : Int64}
theorem P_worth (h : Rel sT vT sM sB sL sS sR vR) (a1 a2 a3 : Int32) : (m_T_worth sT sL a1 a2 a3).1 = (m_R_worth sR a1 a2 a3).1 ∧ Rel sT vT sM sB (m_T_worth sT sL a1 a2 a3).2 sS (m_R_worth sR a1 a2 a3).2 vR := by
  have hR := h.1
  have hL := h.2.2.2.2.1
  unfold m_T_worth m_R_worth m_R_isForce
  rcases has_cases hR hL a1 a2 with ⟨b1, b2⟩ | ⟨b1, b2, xn, yn, a⟩
  · simp only [if_pos b1, if_pos b2]
    exact ⟨by trivial, h⟩
  have n1 : ¬ m_L_has sL a1 a2 = 0 := by rw [b1]; decide
  have n2 : ¬ m_R_isCell sR a1 a2 = 0 := by rw [b2]; decide
  simp only [if_neg n1, if_neg n2]
  by_cases c : m_T_within a3 1 99 = 0
  · have c' : m_R_in a3 1 99 = 0 := c
    simp only [if_pos c, if_pos c']
    exact ⟨by trivial, h⟩
  have c' : ¬ m_R_in a3 1 99 = 0 := c
  simp only [if_neg c, if_neg c']
  have w := within_t c
  rw [tl_1, tl_99] at w
  obtain ⟨r1, r2⟩ := worthR hR hL a1 a2 a3 w
  rw [worthL hR hL a1 a2 a3 w, r1]
  exact ⟨rfl, Rel_rw h r2⟩
theorem aim_sim (hR : okR sR) (hL : relL sL sR) {f : Int32} (hf : 1 ≤ f.toInt ∧ f.toInt ≤ 99) :
    (wl (g_L_bestAim_7 f) 49 (sL, 0, (-1), 0)).1 = sL ∧ Rw sR (wl (g_R_aim_26 f) 49 (sR, 0, (-1), 0)).1 ∧ (wl (g_L_bestAim_7 f) 49 (sL, 0, (-1), 0)).2.1 = (wl (g_R_aim_26 f) 49 (sR, 0, (-1), 0)).2.1 ∧ (wl (g_R_aim_26 f) 49 (sR, 0, (-1), 0)).2.2.1 = worthS sL (m_L_columnOf sL (wl (g_L_bestAim_7 f) 49 (sL, 0, (-1), 0)).2.1) (m_L_rowOf sL (wl (g_L_bestAim_7 f) 49 (sL, 0, (-1), 0)).2.1) f 9 := by
  have nR := okR_lin hR
  have hmu := okR_mul hR
  have z0 := tl_0
  have hq : ¬ sL 0 4 ≤ 0 := fun q => by have := le_t q; rw [hL.1] at this; omega
  have key := wl_sim (f := g_L_bestAim_7 f) (g := g_R_aim_26 f) (fun k s t => s.1 = sL ∧ Rw sR t.1 ∧ s.2.1 = t.2.1 ∧ s.2.2.1 = t.2.2.1 ∧ s.2.2.2.toInt = (k : Int) ∧ s.2.2.2 = t.2.2.2 ∧ (k = 0 → t.2.2.1 = -1) ∧ (0 < k → t.2.2.1 = worthS sL (m_L_columnOf sL s.2.1) (m_L_rowOf sL s.2.1) f 9)) (sR 0 6 * sR 0 7).toInt.toNat ?_ ?_ 49 49 0 (sL, 0, (-1), 0) (sR, 0, (-1), 0) (by omega) (by omega) (by omega) ⟨rfl, Rw.rf, rfl, rfl, by rw [tl_0]; rfl, rfl, fun _ => rfl, fun h => absurd h (Nat.lt_irrefl 0)⟩
  · exact ⟨key.1, key.2.1, key.2.2.1, key.2.2.2.2.2.2.2 (by omega)⟩
  · rintro k ⟨s, b, g, i⟩ ⟨t, b', g', i'⟩ hk ⟨h1, h2, h3, h4, h5, h6, h7, h8⟩
    dsimp only at h1 h2 h3 h4 h5 h6 h7 h8
    subst h1; subst h3; subst h4; subst h6
    have hRt := Rw_okR h2 hR
    have hLt := Rw_relL h2 hR hL
    have e6 : t 0 6 = sR 0 6 := h2.fld (by omega)
    have e7 : t 0 7 = sR 0 7 := h2.fld (by omega)
    have ec : m_L_columnOf s i = i - i / (t 0 6) * (t 0 6) := by unfold m_L_columnOf; rw [if_neg hq, hL.1, e6]
    have er : m_L_rowOf s i = i / (t 0 6) := by unfold m_L_rowOf; rw [if_neg hq, hL.1, e6]
    have wL := worthL hRt hLt (m_L_columnOf s i) (m_L_rowOf s i) f hf
    obtain ⟨wR1, wR2⟩ := worthR hRt hLt (m_L_columnOf s i) (m_L_rowOf s i) f hf
    rw [ec, er] at wR1 wR2
    have wb := worthS_b hRt hLt (x := m_L_columnOf s i) (y := m_L_rowOf s i) hf 9 (by omega)
    have n1 : ¬ s 0 4 * s 0 5 ≤ i := fun q => by have := le_t q; rw [hL.1, hL.2.1] at this; omega
    have n2 : ¬ t 0 6 * t 0 7 ≤ i := fun q => by have := le_t q; rw [e6, e7] at this; omega
    have hi' : (i + 1).toInt = ((k + 1 : Nat) : Int) := by rw [t_inc (by omega)]; omega
    by_cases c : worthS s (m_L_columnOf s i) (m_L_rowOf s i) f 9 ≤ g
    · refine ⟨(s, b, g, i + 1), ((m_R_worthOf t (i - i / (t 0 6) * (t 0 6)) (i / (t 0 6)) f).2, b, g, i + 1), ?_, ?_, rfl, h2.tr wR2, rfl, rfl, hi', rfl, fun h => absurd h (by omega), fun _ => ?_⟩
      · show f_L_bestAim_7 f s b g i = _
        unfold f_L_bestAim_7
        rw [if_neg n1, wL, if_pos c]
      · show f_R_aim_26 f t b g i = _
        unfold f_R_aim_26
        rw [if_neg n2, wR1, ← ec, ← er, if_pos c, if_pos c]
      · dsimp only
        rcases Nat.eq_zero_or_pos k with k0 | k0
        · exact absurd (le_t c) (by rw [h7 k0, tl_m1]; omega)
        · exact h8 k0
    · refine ⟨(s, i, worthS s (m_L_columnOf s i) (m_L_rowOf s i) f 9, i + 1), ((m_R_worthOf t (i - i / (t 0 6) * (t 0 6)) (i / (t 0 6)) f).2, i, worthS s (m_L_columnOf s i) (m_L_rowOf s i) f 9, i + 1), ?_, ?_, rfl, h2.tr wR2, rfl, rfl, hi', rfl, fun h => absurd h (by omega), fun _ => rfl⟩
      · show f_L_bestAim_7 f s b g i = _
        unfold f_L_bestAim_7
        rw [if_neg n1, wL, if_neg c]
      · show f_R_aim_26 f t b g i = _
        unfold f_R_aim_26
        rw [if_neg n2, wR1, ← ec, ← er, if_neg c, if_neg c]
  · rintro ⟨s, b, g, i⟩ ⟨t, b', g', i'⟩ ⟨h1, h2, h3, h4, h5, h6, h7, h8⟩
    dsimp only at h1 h2 h5 h6
    subst h1; subst h6
    have e6 : t 0 6 = sR 0 6 := h2.fld (by omega)
    have e7 : t 0 7 = sR 0 7 := h2.fld (by omega)
    refine ⟨?_, ?_⟩
    · show f_L_bestAim_7 f s b g i = _
      unfold f_L_bestAim_7
      rw [if_pos (Int32.le_iff_toInt_le.mpr (by rw [hL.1, hL.2.1]; omega))]
    · show f_R_aim_26 f t b' g' i = _
      unfold f_R_aim_26
      rw [if_pos (Int32.le_iff_toInt_le.mpr (by rw [e6, e7]; omega))]
theorem P_aim (h : Rel sT vT sM sB sL sS sR vR) (a1 a2 : Int32) : (m_T_aim sT sL a1 a2).1 = (m_R_aim sR a1 a2).1 ∧ Rel sT vT sM sB (m_T_aim sT sL a1 a2).2 sS (m_R_aim sR a1 a2).2 vR := by
  have hR := h.1
  have hL := h.2.2.2.2.1
  unfold m_T_aim m_R_aim m_R_isForce m_L_bestAim b_L_bestAim_58 b_R_aim_97
  by_cases c : m_T_within a1 1 99 = 0
  · have c' : m_R_in a1 1 99 = 0 := c
    simp only [if_pos c, if_pos c']
    exact ⟨by trivial, h⟩
  have c' : ¬ m_R_in a1 1 99 = 0 := c
  simp only [if_neg c, if_neg c']
  by_cases d : m_T_within a2 0 1 = 0
  · have d' : m_R_in a2 0 1 = 0 := d
    simp only [if_pos d, if_pos d']
    exact ⟨by trivial, h⟩
  have d' : ¬ m_R_in a2 0 1 = 0 := d
  simp only [if_neg d, if_neg d']
  have w := within_t c
  rw [tl_1, tl_99] at w
  obtain ⟨q1, q2, q3, q4⟩ := aim_sim hR hL w
  by_cases e : a2 = 0
  · simp only [if_pos e]
    rw [q1]
    exact ⟨q3, Rel_rw h q2⟩
  · simp only [if_neg e]
    rw [q1, worthL hR hL _ _ a1 w, q4]
    exact ⟨rfl, Rel_rw h q2⟩
theorem relS_put (hS : relS sS sR) {k : Nat} {x : Int32} (hk : k < 5) (h1 : k = 0 ∨ k = 4 → 1 ≤ x.toInt ∧ x.toInt ≤ 200) (h2 : k = 1 ∨ k = 2 ∨ k = 3 → 0 ≤ x.toInt ∧ x.toInt ≤ 9999) : relS (up sS 1 k x) (up sR 16 k x) := by
  unfold relS
  rw [up_other (s := sS) (k := 0) (by omega), up_other (s := sS) (k := 0) (j := 2) (by omega), up_other (s := sR) (k := 0) (j := 16) (by omega), up_other (s := sR) (k := 0) (j := 17) (by omega)]
  simp only [up_row]
  refine ⟨fun i hi => ?_, ?_, ?_, ?_, ?_, ?_, hS.2.2.2.2.2.2⟩
  · by_cases e : i = k
    · rw [if_pos e, if_pos e]
    · rw [if_neg e, if_neg e]; exact hS.1 i hi
  · split
    · exact h1 (by omega)
    · exact hS.2.1
  · split
    · exact h2 (by omega)
    · exact hS.2.2.1
  · split
    · exact h2 (by omega)
    · exact hS.2.2.2.1
  · split
    · exact h2 (by omega)
    · exact hS.2.2.2.2.1
  · split
    · exact h1 (by omega)
    · exact hS.2.2.2.2.2.1
theorem store_T {k : Nat} {kk lo hi : Int32} (hk : Int32.toNatClampNeg kk = k) (hw : m_T_within kk 0 4 = 1) (h1 : zSL k = lo) (h2 : zSM k = hi) {a2 : Int32} : m_T_store sT sS kk a2 = if m_T_within a2 lo hi = 0 then (-1, sS) else (sS 1 k, up sS 1 k a2) := by
  have n : ¬ m_T_within kk 0 4 = 0 := by rw [hw]; decide
  have e : m_S_takes sS kk a2 = if m_T_within a2 lo hi = 0 then 0 else 1 := by
    unfold m_S_takes
    rw [if_neg n, hk, h1, h2]
  unfold m_T_store m_S_put
  rw [e]
  by_cases c : m_T_within a2 lo hi = 0
  · simp only [if_pos c, if_true]
  · have d : ¬ (1 : Int32) = 0 := by decide
    simp only [if_neg c, if_neg d, hk]
theorem P_store (h : Rel sT vT sM sB sL sS sR vR) (a1 a2 : Int32) : (m_T_store sT sS a1 a2).1 = (m_R_store sR a1 a2).1 ∧ Rel sT vT sM sB sL (m_T_store sT sS a1 a2).2 (m_R_store sR a1 a2).2 vR := by
  have go : ∀ (k : Nat) (lo hi : Int32), k < 5 → m_T_store sT sS a1 a2 = (if m_T_within a2 lo hi = 0 then (-1, sS) else (sS 1 k, up sS 1 k a2)) → m_R_store sR a1 a2 = (if m_R_in a2 lo hi = 0 then (-1, sR) else (sR 16 k, up sR 16 k a2)) → (k = 0 ∨ k = 4 → lo = 1 ∧ hi = 200) → (k = 1 ∨ k = 2 ∨ k = 3 → lo = 0 ∧ hi = 9999) → (m_T_store sT sS a1 a2).1 = (m_R_store sR a1 a2).1 ∧ Rel sT vT sM sB sL (m_T_store sT sS a1 a2).2 (m_R_store sR a1 a2).2 vR := by
    intro k lo hi hk e1 e2 b1 b2
    rw [e1, e2]
    by_cases c : m_T_within a2 lo hi = 0
    · have c' : m_R_in a2 lo hi = 0 := c
      simp only [if_pos c, if_pos c']
      exact ⟨by trivial, h⟩
    have c' : ¬ m_R_in a2 lo hi = 0 := c
    simp only [if_neg c, if_neg c']
    have w := within_t c
    obtain ⟨hR, hT, hM, hB, hL, hS⟩ := h
    refine ⟨hS.1 k hk, okR_row hR (by omega), relT_ext hT (up_other (by omega)) (up_other (by omega)), relM_ext hM (up_ne (by omega)) (up_other (by omega)), relB_ext hB (up_ne (by omega)) (up_ne (by omega)) (up_other (by omega)) (up_other (by omega)), relL_ext hL (up_ne (by omega)) (up_ne (by omega)) (up_ne (by omega)) (up_ne (by omega)) (up_other (by omega)) (up_other (by omega)) (up_other (by omega)), relS_put hS hk (fun q => ?_) (fun q => ?_)⟩
    · obtain ⟨r1, r2⟩ := b1 q
      rw [r1, r2, tl_1, show (200 : Int32).toInt = 200 by decide +kernel] at w
      exact w
    · obtain ⟨r1, r2⟩ := b2 q
      rw [r1, r2, tl_0, show (9999 : Int32).toInt = 9999 by decide +kernel] at w
      exact w
  by_cases c : m_T_within a1 0 4 = 0
  · have c' : m_R_in a1 0 4 = 0 := c
    have e : m_S_takes sS a1 a2 = 0 := by unfold m_S_takes; rw [if_pos c]
    unfold m_T_store m_R_store
    simp only [if_pos e, if_pos c', ite_self]
    exact ⟨by trivial, h⟩
  have w := within_t c
  rw [tl_0, show (4 : Int32).toInt = 4 by decide +kernel] at w
  have five : a1 = 0 ∨ a1 = 1 ∨ a1 = 2 ∨ a1 = 3 ∨ a1 = 4 := by
    have : a1.toInt = 0 ∨ a1.toInt = 1 ∨ a1.toInt = 2 ∨ a1.toInt = 3 ∨ a1.toInt = 4 := by omega
    rcases this with q | q | q | q | q
    · exact Or.inl (t_ext (by rw [tl_0]; exact q))
    · exact Or.inr (Or.inl (t_ext (by rw [tl_1]; exact q)))
    · exact Or.inr (Or.inr (Or.inl (t_ext (by rw [tl_2]; exact q))))
    · exact Or.inr (Or.inr (Or.inr (Or.inl (t_ext (by rw [tl_3]; exact q)))))
    · exact Or.inr (Or.inr (Or.inr (Or.inr (t_ext (by rw [show (4 : Int32).toInt = 4 by decide +kernel]; exact q)))))
  have i0 : ¬ m_R_in 0 0 4 = 0 := by decide
  have i1 : ¬ m_R_in 1 0 4 = 0 := by decide
  have i2 : ¬ m_R_in 2 0 4 = 0 := by decide
  have i3 : ¬ m_R_in 3 0 4 = 0 := by decide
  have i4 : ¬ m_R_in 4 0 4 = 0 := by decide
  have d04 : ¬ (0 : Int32) = 4 := by decide
  have d10 : ¬ (1 : Int32) = 0 := by decide
  have d14 : ¬ (1 : Int32) = 4 := by decide
  have d20 : ¬ (2 : Int32) = 0 := by decide
  have d24 : ¬ (2 : Int32) = 4 := by decide
  have d30 : ¬ (3 : Int32) = 0 := by decide
  have d34 : ¬ (3 : Int32) = 4 := by decide
  have d40 : ¬ (4 : Int32) = 0 := by decide
  rcases five with e | e | e | e | e <;> subst e
  · exact go 0 1 200 (by omega) (store_T cl_0 (by decide) rfl rfl) (by unfold m_R_store; rw [if_pos rfl, if_pos rfl, if_neg i0, cl_0]) (fun _ => ⟨rfl, rfl⟩) (fun q => by omega)
  · exact go 1 0 9999 (by omega) (store_T cl_1 (by decide) rfl rfl) (by unfold m_R_store; rw [if_neg d10, if_neg d14, if_neg d10, if_neg d14, if_neg i1, cl_1]) (fun q => by omega) (fun _ => ⟨rfl, rfl⟩)
  · exact go 2 0 9999 (by omega) (store_T cl_2 (by decide) rfl rfl) (by unfold m_R_store; rw [if_neg d20, if_neg d24, if_neg d20, if_neg d24, if_neg i2, cl_2]) (fun q => by omega) (fun _ => ⟨rfl, rfl⟩)
  · exact go 3 0 9999 (by omega) (store_T cl_3 (by decide) rfl rfl) (by unfold m_R_store; rw [if_neg d30, if_neg d34, if_neg d30, if_neg d34, if_neg i3, cl_3]) (fun q => by omega) (fun _ => ⟨rfl, rfl⟩)
  · exact go 4 1 200 (by omega) (store_T cl_4 (by decide) rfl rfl) (by unfold m_R_store; rw [if_neg d40, if_pos rfl, if_neg d40, if_pos rfl, if_neg i4, cl_4]) (fun _ => ⟨rfl, rfl⟩) (fun q => by omega)
end S
