/-! the machine: sine, flight, the given of each turn -/
theorem sine_tab : ∀ n : Nat, n < 361 → m_T_sineOf (Int32.ofInt ((n : Int) - 180)) = m_R_sineOf (Int32.ofInt ((n : Int) - 180)) ∧ -1000 ≤ (m_R_sineOf (Int32.ofInt ((n : Int) - 180))).toInt ∧ (m_R_sineOf (Int32.ofInt ((n : Int) - 180))).toInt ≤ 1000 ∧ (180 ≤ n → 0 ≤ (m_R_sineOf (Int32.ofInt ((n : Int) - 180))).toInt) := by decide +kernel
theorem drop_tab : ∀ a : Nat, a < 61 → ∀ t : Nat, t < 61 → t ≤ a → 0 ≤ (m_R_sineOf (Int32.ofInt ((t : Int) - (a : Int)))).toInt + (m_R_sineOf (Int32.ofInt (a : Int))).toInt := by decide +kernel
theorem i_of {x : Int32} {z : Int} (h : x.toInt = z) : x = Int32.ofInt z := by rw [← h, Int32.ofInt_toInt]
theorem sine_eq {x : Int32} (h : -180 ≤ x.toInt ∧ x.toInt ≤ 180) : m_T_sineOf x = m_R_sineOf x ∧ -1000 ≤ (m_R_sineOf x).toInt ∧ (m_R_sineOf x).toInt ≤ 1000 ∧ (0 ≤ x.toInt → 0 ≤ (m_R_sineOf x).toInt) := by
  have q := sine_tab (x.toInt + 180).toNat (by omega)
  have e : x = Int32.ofInt (((x.toInt + 180).toNat : Int) - 180) := i_of (by omega)
  rw [← e] at q
  exact ⟨q.1, q.2.1, q.2.2.1, fun k => q.2.2.2 (by omega)⟩
theorem drop_nn {a t : Int32} (ha : 0 ≤ a.toInt ∧ a.toInt ≤ 60) (ht : 0 ≤ t.toInt ∧ t.toInt ≤ 160) : 0 ≤ (m_R_sineOf (t - a)).toInt + (m_R_sineOf a).toInt := by
  have e : (t - a).toInt = t.toInt - a.toInt := t_sub (by omega) (by omega)
  by_cases c : a.toInt ≤ t.toInt
  · have h1 := (sine_eq (x := t - a) (by omega)).2.2.2 (by omega)
    have h2 := (sine_eq (x := a) (by omega)).2.2.2 (by omega)
    omega
  · have q := drop_tab a.toInt.toNat (by omega) t.toInt.toNat (by omega) (by omega)
    rw [← i_of (x := t - a) (z := (t.toInt.toNat : Int) - (a.toInt.toNat : Int)) (by omega), ← i_of (x := a) (z := (a.toInt.toNat : Int)) (by omega)] at q
    exact q
theorem l0 : (0 : Int64).toInt = 0 := by decide
theorem l1 : (1 : Int64).toInt = 1 := by decide
theorem l2 : (2 : Int64).toInt = 2 := by decide
theorem l3 : (3 : Int64).toInt = 3 := by decide
theorem l8 : (8 : Int64).toInt = 8 := by decide
theorem l20 : (20 : Int64).toInt = 20 := by decide
theorem l25 : (25 : Int64).toInt = 25 := by decide
theorem l100 : (100 : Int64).toInt = 100 := by decide
theorem l1000 : (1000 : Int64).toInt = 1000 := by decide
theorem l2000 : (2000 : Int64).toInt = 2000 := by decide
theorem l8000 : (8000 : Int64).toInt = 8000 := by decide
theorem clamp_l {x : Int64} : (if x < 0 then 0 else x).toInt = if x.toInt < 0 then 0 else x.toInt := by
  by_cases c : x < 0
  · have := Int64.lt_iff_toInt_lt.mp c
    rw [l0] at this
    rw [if_pos c, if_pos this, l0]
  · have : ¬ x.toInt < 0 := fun k => c (Int64.lt_iff_toInt_lt.mpr (by rw [l0]; exact k))
    rw [if_neg c, if_neg this]
theorem flight_eq {sM sR : St} (hR : okR sR) (h7 : sM 1 7 = sR 1 7) {kd r : Int32} (hk : 0 ≤ kd.toInt ∧ kd.toInt ≤ 2) (hr : 0 ≤ r.toInt ∧ r.toInt ≤ 20000) : m_M_flightOf sM kd r = m_R_flightOf sR kd r ∧ 0 ≤ (m_R_flightOf sR kd r).toInt ∧ (m_R_flightOf sR kd r).toInt ≤ 20000 := by
  have nR := okR_lin hR
  have z0 := tl_0
  have z1 := tl_1
  have z2 := tl_2
  have z3 := tl_3
  have z7 : (7 : Int32).toInt = 7 := by decide +kernel
  have z8 : (8 : Int32).toInt = 8 := by decide +kernel
  have z20 := tl_20
  have z25 : (25 : Int32).toInt = 25 := by decide +kernel
  have z2k := tl_2000
  have pm := mul_bd (a := r.toInt) (b := r.toInt) (A := 20000) (B := 20000) hr.1 hr.2 hr.1 hr.2
  -- the divisor, the square, the quotient on both sides
  have dL : (20 * Int32.toInt64 (sM 1 7) + 2000).toInt = 20 * (sR 1 7).toInt + 2000 := by
    have m : (20 * Int32.toInt64 (sM 1 7)).toInt = 20 * (sR 1 7).toInt := by rw [l_mul (by rw [l20, il_t, h7]; omega) (by rw [l20, il_t, h7]; omega), l20, il_t, h7]
    rw [l_add (by rw [m, l2000]; omega) (by rw [m, l2000]; omega), m, l2000]
  have dR : (20 * (sR 1 7) + 2000).toInt = 20 * (sR 1 7).toInt + 2000 := by
    have m : (20 * (sR 1 7)).toInt = 20 * (sR 1 7).toInt := by rw [t_mul (by rw [z20]; omega) (by rw [z20]; omega), z20]
    rw [t_add (by omega) (by omega), m, z2k]
  have sL : (Int32.toInt64 r * Int32.toInt64 r).toInt = r.toInt * r.toInt := by rw [l_mul (by rw [il_t]; omega) (by rw [il_t]; omega), il_t]
  have sR' : (r * r).toInt = r.toInt * r.toInt := t_mul (by omega) (by omega)
  have qL : (m_T_down (Int32.toInt64 r * Int32.toInt64 r) (20 * Int32.toInt64 (sM 1 7) + 2000)).toInt = r.toInt * r.toInt / (20 * (sR 1 7).toInt + 2000) := by rw [down_t (by omega) (by omega), sL, dL]
  have qR : ((r * r) / (20 * (sR 1 7) + 2000)).toInt = r.toInt * r.toInt / (20 * (sR 1 7).toInt + 2000) := by rw [t_dive (by omega), sR', dR]
  have q0 : 0 ≤ r.toInt * r.toInt / (20 * (sR 1 7).toInt + 2000) := Int.ediv_nonneg (by omega) (by omega)
  have q1 : r.toInt * r.toInt / (20 * (sR 1 7).toInt + 2000) ≤ r.toInt * r.toInt := Int.ediv_le_self _ (by omega)
  generalize r.toInt * r.toInt / (20 * (sR 1 7).toInt + 2000) = q at qL qR q0 q1
  have vL : (Int32.toInt64 r - m_T_down (Int32.toInt64 r * Int32.toInt64 r) (20 * Int32.toInt64 (sM 1 7) + 2000)).toInt = r.toInt - q := by rw [l_sub (by rw [il_t, qL]; omega) (by rw [il_t, qL]; omega), il_t, qL]
  have vR : (r - (r * r) / (20 * (sR 1 7) + 2000)).toInt = r.toInt - q := by rw [t_sub (by omega) (by omega), qR]
  have cL := clamp_l (x := Int32.toInt64 r - m_T_down (Int32.toInt64 r * Int32.toInt64 r) (20 * Int32.toInt64 (sM 1 7) + 2000))
  rw [vL] at cL
  unfold m_M_flightOf m_R_flightOf b_R_flightOf_21
  generalize (if (Int32.toInt64 r - m_T_down (Int32.toInt64 r * Int32.toInt64 r) (20 * Int32.toInt64 (sM 1 7) + 2000)) < 0 then (0 : Int64) else (Int32.toInt64 r - m_T_down (Int32.toInt64 r * Int32.toInt64 r) (20 * Int32.toInt64 (sM 1 7) + 2000))) = F at cL ⊢
  generalize (r - (r * r) / (20 * (sR 1 7) + 2000)) = V at vR ⊢
  have go : ∀ G : Int32, G.toInt = F.toInt → (if kd < 1 then (if kd < 2 then Int64.toInt32 F else Int64.toInt32 (if ((F - 2 * m_T_down F 25) - 3) < 0 then 0 else ((F - 2 * m_T_down F 25) - 3))) else (if kd < 2 then Int64.toInt32 (F - m_T_up F 8) else Int64.toInt32 (if (((F - m_T_up F 8) - 2 * m_T_down (F - m_T_up F 8) 25) - 3) < 0 then 0 else (((F - m_T_up F 8) - 2 * m_T_down (F - m_T_up F 8) 25) - 3)))) = b_R_flightOf_31 sR kd G ∧ 0 ≤ (b_R_flightOf_31 sR kd G).toInt ∧ (b_R_flightOf_31 sR kd G).toInt ≤ 20000 := by
    intro G hG
    have f0 : 0 ≤ F.toInt ∧ F.toInt ≤ 20000 := by rw [cL]; split <;> omega
    clear cL vL vR qL qR sL sR' dL dR pm
    unfold b_R_flightOf_31 b_R_flightOf_49 b_R_flightOf_65
    have three : kd.toInt = 0 ∨ kd.toInt = 1 ∨ kd.toInt = 2 := by omega
    have uF : (m_T_up F 8).toInt = (F.toInt + 7) / 8 := by
      rw [up_t (by rw [l8]; omega) f0.1, l8, ceil_e (by omega), show F.toInt + 8 - 1 = F.toInt + 7 by omega]
    have gL : (F - m_T_up F 8).toInt = F.toInt - (F.toInt + 7) / 8 := by rw [l_sub (by omega) (by omega), uF]
    have g7 : (G + 7).toInt = F.toInt + 7 := by rw [t_add (by omega) (by omega), hG, z7]
    have g8 : ((G + 7) / 8).toInt = (F.toInt + 7) / 8 := by rw [t_dive (by omega), g7, z8]
    have gR : (G - (G + 7) / 8).toInt = F.toInt - (F.toInt + 7) / 8 := by rw [t_sub (by omega) (by omega), hG, g8]
    rcases three with k | k | k
    · have e : kd = 0 := t_ext (by rw [z0]; exact k)
      subst e
      rw [if_pos (by decide), if_pos (by decide), if_pos (by decide), if_neg (by decide)]
      exact ⟨t_ext (by rw [li_t (by omega) (by omega), hG]), by omega, by omega⟩
    · have e : kd = 1 := t_ext (by rw [z1]; exact k)
      subst e
      rw [if_neg (by decide), if_pos (by decide), if_neg (by decide), if_neg (by decide)]
      exact ⟨t_ext (by rw [li_t (by omega) (by omega), gL, gR]), by omega, by omega⟩
    · have e : kd = 2 := t_ext (by rw [z2]; exact k)
      subst e
      rw [if_neg (by decide), if_neg (by decide), if_neg (show ¬ (2 : Int32) ≤ 0 by decide), if_pos rfl]
      generalize (F - m_T_up F 8) = U at gL ⊢
      generalize (G - (G + 7) / 8) = X at gR ⊢
      have dU : (m_T_down U 25).toInt = X.toInt / 25 := by rw [down_t (by rw [l25]; omega) (by omega), l25, gL, gR]
      have mU : (2 * m_T_down U 25).toInt = 2 * (X.toInt / 25) := by rw [l_mul (by rw [l2]; omega) (by rw [l2]; omega), l2, dU]
      have aU : (U - 2 * m_T_down U 25).toInt = X.toInt - 2 * (X.toInt / 25) := by rw [l_sub (by omega) (by omega), mU, gL, gR]
      have bU : ((U - 2 * m_T_down U 25) - 3).toInt = X.toInt - 2 * (X.toInt / 25) - 3 := by rw [l_sub (by rw [l3]; omega) (by rw [l3]; omega), aU, l3]
      have dX : (X / 25).toInt = X.toInt / 25 := by rw [t_dive (by omega), z25]
      have mX : ((X / 25) * 2).toInt = 2 * (X.toInt / 25) := by rw [t_mul (by rw [dX, z2]; omega) (by rw [dX, z2]; omega), dX, z2]; omega
      have aX : (((X / 25) * 2) + 3).toInt = 2 * (X.toInt / 25) + 3 := by rw [t_add (by omega) (by omega), mX, z3]
      have bX : (X - (((X / 25) * 2) + 3)).toInt = X.toInt - 2 * (X.toInt / 25) - 3 := by rw [t_sub (by omega) (by omega), aX]; omega
      have cU := clamp_l (x := (U - 2 * m_T_down U 25) - 3)
      rw [bU] at cU
      generalize (if ((U - 2 * m_T_down U 25) - 3) < 0 then (0 : Int64) else ((U - 2 * m_T_down U 25) - 3)) = Y at cU ⊢
      generalize (X - (((X / 25) * 2) + 3)) = Z at bX ⊢
      by_cases c : 0 ≤ Z
      · have l := le_t c
        rw [if_pos c]
        rw [if_neg (by omega)] at cU
        exact ⟨t_ext (by rw [li_t (by omega) (by omega), cU, bX]), by omega, by omega⟩
      · have l := nle_t c
        rw [if_neg c]
        rw [if_pos (by omega)] at cU
        exact ⟨t_ext (by rw [li_t (by omega) (by omega), cU, z0]), by omega, by omega⟩
  by_cases c : 0 ≤ V
  · have l := le_t c
    rw [if_pos c]
    exact go V (by rw [cL, vR, if_neg (by omega)])
  · have l := nle_t c
    rw [if_neg c]
    exact go 0 (by rw [cL, z0, if_pos (by omega)])
section S
variable {sT : St} {vT : Int64} {sM sB sL sS sR : St} {vR : Int64}
theorem P_sine (h : Rel sT vT sM sB sL sS sR vR) (a1 : Int32) : (m_T_sine sT a1) = (m_R_sine sR a1) ∧ Rel sT vT sM sB sL sS sR vR := by
  refine ⟨?_, h⟩
  unfold m_T_sine m_R_sine
  by_cases c : m_T_within a1 (-180) 180 = 0
  · have c' : m_R_in a1 (-180) 180 = 0 := c
    rw [if_pos c, if_pos c']
  have c' : ¬ m_R_in a1 (-180) 180 = 0 := c
  rw [if_neg c, if_neg c']
  have w := within_t c
  rw [show (-180 : Int32).toInt = -180 by decide +kernel, show (180 : Int32).toInt = 180 by decide +kernel] at w
  exact (sine_eq w).1
theorem P_flight (h : Rel sT vT sM sB sL sS sR vR) (a1 a2 : Int32) : (m_T_flight sT vT sM a1 a2).1 = (m_R_flight sR vR a1 a2).1 ∧ Rel sT (m_T_flight sT vT sM a1 a2).2 sM sB sL sS sR (m_R_flight sR vR a1 a2).2 := by
  unfold m_T_flight m_R_flight
  by_cases c : m_T_within a1 0 2 = 0
  · have c' : m_R_in a1 0 2 = 0 := c
    simp only [if_pos c, if_pos c']
    exact ⟨by trivial, h⟩
  have c' : ¬ m_R_in a1 0 2 = 0 := c
  simp only [if_neg c, if_neg c']
  by_cases d : m_T_within a2 0 20000 = 0
  · have d' : m_R_in a2 0 20000 = 0 := d
    simp only [if_pos d, if_pos d']
    exact ⟨by trivial, h⟩
  have d' : ¬ m_R_in a2 0 20000 = 0 := d
  simp only [if_neg d, if_neg d']
  have w := within_t c
  have w2 := within_t d
  rw [tl_0, tl_2] at w
  rw [tl_0, show (20000 : Int32).toInt = 20000 by decide +kernel] at w2
  obtain ⟨hR, hT, hM, hB, hL, hS⟩ := h
  have e := (flight_eq (kd := a1) (r := a2) hR (hM.1 7 (by decide)) w w2).1
  have ev := hT.2.2.1
  have mk : ∀ x : Int64, relT sT (vT + x) sR (vR + x) := fun x => ⟨hT.1, hT.2.1, by rw [ev], hT.2.2.2⟩
  unfold m_M_bodiesAsked
  by_cases k0 : a1 = 0
  · simp only [if_pos k0]
    exact ⟨e, hR, mk 1, hM, hB, hL, hS⟩
  by_cases k1 : a1 = 1
  · simp only [if_neg k0, if_pos k1]
    exact ⟨e, hR, mk 11, hM, hB, hL, hS⟩
  · simp only [if_neg k0, if_neg k1]
    exact ⟨e, hR, mk 111, hM, hB, hL, hS⟩
end S
