/-! the hit's calls -/
theorem At.fr {s t : St} {x y : Int32} {xn yn : Nat} (a : At s x y xn yn) (e6 : t 0 6 = s 0 6) (e7 : t 0 7 = s 0 7) : At t x y xn yn := by
  unfold At
  rw [e6, e7]
  exact a
/-- what a hit leaves, beside the answers: the rest of both states -/
def hitFr (sL sR tL tR : St) : Prop := (∀ a j, a ≠ 9 ∧ a ≠ 10 ∧ a ≠ 11 → tR a j = sR a j) ∧ (∀ a j, a ≠ 1 ∧ a ≠ 2 ∧ a ≠ 3 → tL a j = sL a j) ∧ (∀ z : Nat, (z : Int) < (sR 0 6).toInt → cntb (tL 2 z) (sR 0 7).toInt.toNat ≤ cntb (sL 2 z) (sR 0 7).toInt.toNat)
theorem strike_go {sL sR sL1 sR1 : St} {x y : Int32} {xn yn : Nat} {c0 : Int32} (hR : okR sR1) (hL : relL sL1 sR1) (a : At sR x y xn yn) (hc0 : 0 ≤ c0.toInt ∧ c0.toInt ≤ 1) (hb : relL sL sR) (hbR : okR sR) (fR : ∀ a j, a ≠ 9 ∧ a ≠ 10 ∧ a ≠ 11 → sR1 a j = sR a j) (fL : ∀ a j, a ≠ 1 ∧ a ≠ 2 ∧ a ≠ 3 → sL1 a j = sL a j) (f2 : ∀ j, j ≠ xn → sL1 2 j = sL 2 j)
    (hcn : c0.toInt + (cntb (sL1 2 xn) (sR 0 7).toInt.toNat : Int) = (cntb (sL 2 xn) (sR 0 7).toInt.toNat : Int)) :
    (m_J_bitCount (sL 2 xn)) - (m_J_bitCount ((m_L_dropUnheld sL1 x) 2 xn)) = (wl (g_R_strike_83 x) 8 (sR1, c0, 1)).2.1 ∧ relL (m_L_dropUnheld sL1 x) (wl (g_R_strike_83 x) 8 (sR1, c0, 1)).1 ∧ hitFr sL sR (m_L_dropUnheld sL1 x) (wl (g_R_strike_83 x) 8 (sR1, c0, 1)).1 := by
  have nR := okR_lin hbR
  have e6 := fR 0 6 (by omega)
  have e7 := fR 0 7 (by omega)
  have k := drop_sim (x := x) (xn := xn) (c0 := c0) hR hL a.1 (by rw [e6]; exact a.2.2.1) hc0
  rw [e7] at k
  obtain ⟨k1, k2, k3, k4, k5⟩ := k
  have hd : m_L_dropUnheld sL1 x = (wl (g_L_dropUnheld_2 x) 8 (sL1, 1)).1 := rfl
  rw [hd]
  have eh : (wl (g_R_strike_83 x) 8 (sR1, c0, 1)).1 0 7 = sR 0 7 := (k2 0 7 (by omega)).trans e7
  have ew : (wl (g_R_strike_83 x) 8 (sR1, c0, 1)).1 0 6 = sR 0 6 := (k2 0 6 (by omega)).trans e6
  have hc := k1.2.2.2.2 xn (by rw [ew]; exact a.2.2.1)
  have hc1 := hc.1
  rw [eh] at hc1
  have hs := hb.2.2.2.2 xn a.2.2.1
  have b1 := bc_cnt (v := sL 2 xn) (h := (sR 0 7).toInt.toNat) (by omega) hs.1.1 hs.1.2
  have b2 := bc_cnt (h := (sR 0 7).toInt.toNat) (by omega) hc1.1 hc1.2
  have q1 := cnt_6 (v := sL 2 xn) (h := (sR 0 7).toInt.toNat) (by omega) hs.1.1 hs.1.2
  refine ⟨t_ext ?_, k1, fun p j hp => ?_, fun p j hp => ?_, fun z hz => ?_⟩
  · rw [t_sub (by omega) (by omega), b1, b2]
    omega
  · rw [k2 p j (by omega), fR p j hp]
  · rw [k3 p j (by omega), fL p j hp]
  · by_cases e : z = xn
    · subst e
      omega
    · rw [k3 2 z (by omega), f2 z e]
      exact Nat.le_refl _
theorem strike_sim {sL sR : St} (hR : okR sR) (hL : relL sL sR) (x y f : Int32) (hf : 1 ≤ f.toInt ∧ f.toInt ≤ 99) :
    (m_L_strike sL x y f).1 = (m_R_strike sR x y f).1 ∧ relL (m_L_strike sL x y f).2 (m_R_strike sR x y f).2 ∧ hitFr sL sR (m_L_strike sL x y f).2 (m_R_strike sR x y f).2 := by
  have nR := okR_lin hR
  have z0 := tl_0
  have z1 := tl_1
  rcases has_cases hR hL x y with ⟨a1, a2⟩ | ⟨a1, a2, xn, yn, a⟩
  · have s0 : m_L_stands sL x y = 0 := by unfold m_L_stands; rw [if_pos a1]
    unfold m_L_strike m_R_strike
    rw [if_pos s0, if_pos a2]
    exact ⟨rfl, hL, fun _ _ _ => rfl, fun _ _ _ => rfl, fun _ _ => Nat.le_refl _⟩
  have hs := (stands_at hR hL a1 a).1
  have n2 : ¬ m_R_isCell sR x y = 0 := by rw [a2]; decide
  have hc := hL.2.2.2.2 xn a.2.2.1
  obtain ⟨q9, q11, q10, qb, qs⟩ := hc.2.2 yn a.2.2.2
  have hyh := a.2.2.2
  unfold m_L_strike m_R_strike b_R_strike_156
  rw [hs, if_neg n2, a.idx hR, a.place hR, a.x]
  by_cases c0 : sR 9 (xn + (sR 0 6).toInt.toNat * yn) = 0
  · rw [if_pos c0, if_pos c0]
    exact ⟨rfl, hL, fun _ _ _ => rfl, fun _ _ _ => rfl, fun _ _ => Nat.le_refl _⟩
  rw [if_neg c0, if_neg c0, ← q10]
  have b1 : bt (sL 2 xn) yn = 1 := by
    rcases bt_01 (v := sL 2 xn) (y := yn) with b | b
    · exact absurd (q9.trans b) c0
    · exact b
  have s1 := qs b1
  have es : (sL 1 (6 * xn + yn) - f).toInt = (sL 1 (6 * xn + yn)).toInt - f.toInt := t_sub (by omega) (by omega)
  by_cases cp : 0 < sL 1 (6 * xn + yn) - f
  · rw [if_pos cp, if_pos cp]
    have lp := lt_t cp
    have r1 := relL_str hR hL a (v := sL 1 (6 * xn + yn) - f) (by omega) (fun _ => by omega)
    have hR1 := okR_row (i := xn + (sR 0 6).toInt.toNat * yn) (x := sL 1 (6 * xn + yn) - f) hR (k := 10) (by omega)
    have e06 : up sR 10 (xn + (sR 0 6).toInt.toNat * yn) (sL 1 (6 * xn + yn) - f) 0 6 = sR 0 6 := up_other (by omega)
    have r2 := relL_pro0 hR1 r1 (a.row (by omega))
    rw [e06, up_other (s := sL) (by omega)] at r2
    have hR2 := okR_row (i := xn + (sR 0 6).toInt.toNat * yn) (x := 0) hR1 (k := 11) (by omega)
    exact strike_go hR2 r2 a ⟨by omega, by omega⟩ hL hR (fun p j hp => by rw [up_other (by omega), up_other (by omega)]) (fun p j hp => by rw [up_other (by omega), up_other (by omega)]) (fun j hj => by rw [up_other (by omega), up_other (by omega)]) (by rw [up_other (by omega), up_other (by omega)]; omega)
  · rw [if_neg cp, if_neg cp]
    have lp := nlt_t cp
    have r0 := relL_clr hR hL a
    have hR0 := okR_row (i := xn + (sR 0 6).toInt.toNat * yn) (x := 0) hR (k := 9) (by omega)
    have e06 : up sR 9 (xn + (sR 0 6).toInt.toNat * yn) 0 0 6 = sR 0 6 := up_other (by omega)
    have hcl := clr_bt (v := sL 2 xn) (h := (sR 0 7).toInt.toNat) (y := yn) (z := yn) (by omega) hc.1.1 hc.1.2 a.2.1 (by omega) (by omega)
    rw [if_pos rfl] at hcl
    have r1 := relL_str hR0 r0 (a.row (by omega)) (v := sL 1 (6 * xn + yn) - f) (by omega) (fun q => by rw [up_get, hcl] at q; exact absurd q (by decide))
    rw [e06] at r1
    have hR1 := okR_row (i := xn + (sR 0 6).toInt.toNat * yn) (x := sL 1 (6 * xn + yn) - f) hR0 (k := 10) (by omega)
    have e16 : up (up sR 9 (xn + (sR 0 6).toInt.toNat * yn) 0) 10 (xn + (sR 0 6).toInt.toNat * yn) (sL 1 (6 * xn + yn) - f) 0 6 = sR 0 6 := (up_other (by omega)).trans e06
    have r2 := relL_pro0 hR1 r1 ((a.row (by omega)).row (by omega))
    rw [e16, up_other (by omega), up_other (s := sL) (by omega)] at r2
    have hR2 := okR_row (i := xn + (sR 0 6).toInt.toNat * yn) (x := 0) hR1 (k := 11) (by omega)
    rw [up_comm (s := sL) (k := 2) (k' := 1) (by decide), up_comm (s := up sL 1 _ _) (k := 2) (k' := 3) (by decide), up_comm (s := sR) (k := 9) (k' := 10) (by decide), up_comm (s := up sR 10 _ _) (k := 9) (k' := 11) (by decide)] at r2
    rw [up_comm (s := sR) (k := 9) (k' := 10) (by decide), up_comm (s := up sR 10 _ _) (k := 9) (k' := 11) (by decide)] at hR2
    have cc := (clr_c (v := sL 2 xn) (h := (sR 0 7).toInt.toNat) (y := yn) (yi := y) (by omega) hc.1.1 hc.1.2 a.2.1 (by omega)).1 b1
    exact strike_go hR2 r2 a ⟨by omega, by omega⟩ hL hR (fun p j hp => by rw [up_other (by omega), up_other (by omega), up_other (by omega)]) (fun p j hp => by rw [up_other (by omega), up_other (by omega), up_other (by omega)]) (fun j hj => by rw [up_other (by omega), up_other (by omega), up_other (by omega)]) (by rw [up_get]; unfold clrb at cc; omega)
theorem Rel_L {sT : St} {vT : Int64} {sM sB sL sS sR : St} {vR : Int64} {tL tR : St} (h : Rel sT vT sM sB sL sS sR vR) (hl : relL tL tR) (fr : ∀ a j, a ≠ 9 ∧ a ≠ 10 ∧ a ≠ 11 → tR a j = sR a j) : Rel sT vT sM sB tL sS tR vR := by
  have row : ∀ a, a ≠ 9 ∧ a ≠ 10 ∧ a ≠ 11 → tR a = sR a := fun a ha => funext fun j => fr a j ha
  obtain ⟨hR, hT, hM, hB, hL, hS⟩ := h
  have e0 := row 0 (by omega)
  exact ⟨okR_ext hR (row 1 (by omega)) (row 5 (by omega)) (by rw [e0]) (by rw [e0]) (by rw [e0]) (by rw [e0]) (by rw [e0]), relT_ext hT (by rw [e0]) (by rw [e0]), relM_ext hM (row 1 (by omega)) (by rw [e0]), relB_ext hB (row 5 (by omega)) (row 6 (by omega)) (by rw [e0]) (by rw [e0]), hl, relS_ext hS (row 16 (by omega)) (by rw [e0]) (by rw [e0])⟩
section S
variable {sT : St} {vT : Int64} {sM sB sL sS sR : St} {vR : Int64}
theorem P_strength (h : Rel sT vT sM sB sL sS sR vR) (a1 a2 a3 : Int32) : (m_T_strength sT sL a1 a2 a3).1 = (m_R_strength sR a1 a2 a3).1 ∧ Rel sT vT sM sB (m_T_strength sT sL a1 a2 a3).2 sS (m_R_strength sR a1 a2 a3).2 vR := by
  have hR := h.1
  have hL := h.2.2.2.2.1
  unfold m_T_strength m_R_strength m_L_putStrength
  rcases has_cases hR hL a1 a2 with ⟨b1, b2⟩ | ⟨b1, b2, xn, yn, a⟩
  · simp only [if_pos b1, if_pos b2]
    exact ⟨by trivial, h⟩
  have n1 : ¬ m_L_has sL a1 a2 = 0 := by rw [b1]; decide
  have n2 : ¬ m_R_isCell sR a1 a2 = 0 := by rw [b2]; decide
  simp only [if_neg n1, if_neg n2]
  by_cases c : m_T_within a3 1 99 = 0
  · have c' : m_R_in a3 1 99 = 0 := c
    simp only [if_pos c, if_pos c']
    exact ⟨by trivial, h⟩
  have c' : ¬ m_R_in a3 1 99 = 0 := c
  simp only [if_neg c, if_neg c']
  have w := within_t c
  rw [tl_1, tl_99] at w
  rw [(stands_at hR hL b1 a).1, a.idx hR, a.place hR]
  by_cases c0 : sR 9 (xn + (sR 0 6).toInt.toNat * yn) = 0
  · rw [if_pos c0, if_pos c0]
    exact ⟨rfl, h⟩
  rw [if_neg c0, if_neg c0]
  obtain ⟨q9, q11, q10, qb, qs⟩ := (hL.2.2.2.2 xn a.2.2.1).2.2 yn a.2.2.2
  exact ⟨q10, Rel_L h (relL_str hR hL a (by omega) (fun _ => w.1)) (fun p j hp => up_other (by omega))⟩
theorem P_prop (h : Rel sT vT sM sB sL sS sR vR) (a1 a2 : Int32) : (m_T_prop sT sL a1 a2).1 = (m_R_prop sR a1 a2).1 ∧ Rel sT vT sM sB (m_T_prop sT sL a1 a2).2 sS (m_R_prop sR a1 a2).2 vR := by
  have hR := h.1
  have hL := h.2.2.2.2.1
  have nR := okR_lin hR
  unfold m_T_prop m_R_prop m_L_putProp
  rcases has_cases hR hL a1 a2 with ⟨b1, b2⟩ | ⟨b1, b2, xn, yn, a⟩
  · simp only [if_pos b1, if_pos b2]
    exact ⟨by trivial, h⟩
  have n1 : ¬ m_L_has sL a1 a2 = 0 := by rw [b1]; decide
  have n2 : ¬ m_R_isCell sR a1 a2 = 0 := by rw [b2]; decide
  simp only [if_neg n1, if_neg n2]
  have hyh := a.2.2.2
  have hc := hL.2.2.2.2 xn a.2.2.1
  obtain ⟨q9, q11, q10, qb, qs⟩ := hc.2.2 yn a.2.2.2
  rw [(stands_at hR hL b1 a).1, a.idx hR, a.x, holds_bt (h := (sR 0 7).toInt.toNat) (by omega) hc.2.1.1 hc.2.1.2 a.2.1 (by omega)]
  by_cases c0 : sR 9 (xn + (sR 0 6).toInt.toNat * yn) = 0
  · rw [if_pos c0, if_pos c0]
    exact ⟨rfl, h⟩
  rw [if_neg c0, if_neg c0]
  have r := relL_pro1 hR hL a
  rcases bt_01 (v := sL 3 xn) (y := yn) with b | b
  · rw [if_pos b]
    exact ⟨(q11.trans b).symm, Rel_L h r (fun p j hp => up_other (by omega))⟩
  · rw [if_neg (by rw [b]; decide)]
    exact ⟨(q11.trans b).symm, Rel_L h r (fun p j hp => up_other (by omega))⟩
theorem P_hit (h : Rel sT vT sM sB sL sS sR vR) (a1 a2 a3 : Int32) : (m_T_hit sT sL a1 a2 a3).1 = (m_R_hit sR a1 a2 a3).1 ∧ Rel sT vT sM sB (m_T_hit sT sL a1 a2 a3).2 sS (m_R_hit sR a1 a2 a3).2 vR := by
  have hR := h.1
  have hL := h.2.2.2.2.1
  unfold m_T_hit m_R_hit m_R_isForce
  rcases has_cases hR hL a1 a2 with ⟨b1, b2⟩ | ⟨b1, b2, xn, yn, a⟩
  · simp only [if_pos b1, if_pos b2]
    exact ⟨by trivial, h⟩
  have n1 : ¬ m_L_has sL a1 a2 = 0 := by rw [b1]; decide
  have n2 : ¬ m_R_isCell sR a1 a2 = 0 := by rw [b2]; decide
  simp only [if_neg n1, if_neg n2]
  by_cases c : m_T_within a3 1 99 = 0
  · have c' : m_R_in a3 1 99 = 0 := c
    simp only [if_pos c, if_pos c']
    exact ⟨by trivial, h⟩
  have c' : ¬ m_R_in a3 1 99 = 0 := c
  simp only [if_neg c, if_neg c']
  have w := within_t c
  rw [tl_1, tl_99] at w
  rw [(stands_at hR hL b1 a).1, a.idx hR]
  by_cases c0 : sR 9 (xn + (sR 0 6).toInt.toNat * yn) = 0
  · rw [if_pos c0, if_pos c0]
    exact ⟨rfl, h⟩
  rw [if_neg c0, if_neg c0]
  obtain ⟨k1, k2, k3⟩ := strike_sim hR hL a1 a2 a3 w
  exact ⟨k1, Rel_L h k2 k3.1⟩
theorem P_cell (h : Rel sT vT sM sB sL sS sR vR) (a1 a2 a3 : Int32) : (m_T_cell sT sL a1 a2 a3) = (m_R_cell sR a1 a2 a3) ∧ Rel sT vT sM sB sL sS sR vR := by
  refine ⟨?_, h⟩
  have hR := h.1
  have hL := h.2.2.2.2.1
  unfold m_T_cell m_R_cell m_L_strengthAt
  rcases has_cases hR hL a1 a2 with ⟨b1, b2⟩ | ⟨b1, b2, xn, yn, a⟩
  · simp only [if_pos b1, if_pos b2]
  have n1 : ¬ m_L_has sL a1 a2 = 0 := by rw [b1]; decide
  have n2 : ¬ m_R_isCell sR a1 a2 = 0 := by rw [b2]; decide
  simp only [if_neg n1, if_neg n2]
  obtain ⟨q9, q11, q10, qb, qs⟩ := (hL.2.2.2.2 xn a.2.2.1).2.2 yn a.2.2.2
  rw [(stands_at hR hL b1 a).1, (stands_at hR hL b1 a).2, a.idx hR, a.place hR, q9, q11, q10]
  have z0 := tl_0
  have z1 := tl_1
  have z2 := tl_2
  by_cases d0 : a3 = 0
  · have i1 : ¬ m_R_in a3 0 2 = 0 := by rw [d0, in_1 (by omega) (by omega)]; decide
    rw [if_pos d0, if_neg i1, if_pos d0]
    rcases bt_01 (v := sL 2 xn) (y := yn) with b | b <;> rw [b] <;> decide
  by_cases d1 : a3 = 1
  · have i1 : ¬ m_R_in a3 0 2 = 0 := by rw [d1, in_1 (by omega) (by omega)]; decide
    rw [if_neg d0, if_pos d1, if_neg i1, if_neg d0, if_pos d1]
  by_cases d2 : a3 = 2
  · have i1 : ¬ m_R_in a3 0 2 = 0 := by rw [d2, in_1 (by omega) (by omega)]; decide
    rw [if_neg d0, if_neg d1, if_pos d2, if_neg i1, if_neg d0, if_neg d1]
    rcases bt_01 (v := sL 3 xn) (y := yn) with b | b <;> rw [b] <;> decide
  have e0 := ne_t d0
  have e1 := ne_t d1
  have e2 := ne_t d2
  rw [if_neg d0, if_neg d1, if_neg d2, if_pos (in_0 (by omega))]
end S
