/-! what each turn has given; set -/
def giv (s : St) (x : Int32) : Int32 := (Int64.toInt32 (m_T_down ((((Int32.toInt64 (s 1 2)) * (Int32.toInt64 (s 1 0))) - ((Int32.toInt64 (s 1 7)) * (Int32.toInt64 (s 1 1)))) * (Int32.toInt64 ((m_T_sineOf (x - (s 1 5))) + (m_T_sineOf (s 1 5))))) 1000)) - ((s 1 6) * x)
theorem div1000 {a : Int64} : (a / 1000).toInt = if 0 ≤ a.toInt then a.toInt / 1000 else -((-a.toInt) / 1000) := by
  have hd : (a / 1000).toInt = a.toInt.tdiv 1000 := Int64.toInt_div_of_ne_right a 1000 (by decide)
  rw [hd]
  by_cases h : 0 ≤ a.toInt
  · rw [if_pos h, Int.tdiv_eq_ediv_of_nonneg h]
  · rw [if_neg h]
    have e : (-a.toInt).tdiv 1000 = (-a.toInt) / 1000 := Int.tdiv_eq_ediv_of_nonneg (by omega)
    rw [Int.neg_tdiv] at e
    omega
theorem giv_eq {s sR : St} (hR : okR sR) (h1 : ∀ i, i < 9 → s 1 i = sR 1 i) {x : Int32} (hx : 1 ≤ x.toInt ∧ x.toInt ≤ 160) : giv s x = m_R_givenAt sR x ∧ (m_R_givenAt sR x).toInt ≤ 2 * ((sR 1 2).toInt * (sR 1 0).toInt) ∧ -10000000 ≤ (m_R_givenAt sR x).toInt := by
  have nR := okR_lin hR
  unfold giv
  rw [h1 0 (by decide), h1 1 (by decide), h1 2 (by decide), h1 5 (by decide), h1 6 (by decide), h1 7 (by decide)]
  have pa := mul_bd (a := (sR 1 2).toInt) (b := (sR 1 0).toInt) (A := 9000) (B := 40) (by omega) (by omega) (by omega) (by omega)
  have pb := mul_bd (a := (sR 1 7).toInt) (b := (sR 1 1).toInt) (A := 300) (B := 160) (by omega) (by omega) (by omega) (by omega)
  have pr := mul_bd (a := (sR 1 6).toInt) (b := x.toInt) (A := 900) (B := 160) (by omega) (by omega) (by omega) (by omega)
  have e5 : (x - (sR 1 5)).toInt = x.toInt - (sR 1 5).toInt := t_sub (by omega) (by omega)
  obtain ⟨u1, u2, u3, -⟩ := sine_eq (x := x - (sR 1 5)) (by omega)
  obtain ⟨w1, w2, w3, -⟩ := sine_eq (x := sR 1 5) (by omega)
  have dn := drop_nn (a := sR 1 5) (t := x) (by omega) (by omega)
  rw [u1, w1]
  have eD : ((m_R_sineOf (x - (sR 1 5))) + (m_R_sineOf (sR 1 5))).toInt = (m_R_sineOf (x - (sR 1 5))).toInt + (m_R_sineOf (sR 1 5)).toInt := t_add (by omega) (by omega)
  have eCA : ((sR 1 2) * (sR 1 0)).toInt = (sR 1 2).toInt * (sR 1 0).toInt := t_mul (by omega) (by omega)
  have eWB : ((sR 1 7) * (sR 1 1)).toInt = (sR 1 7).toInt * (sR 1 1).toInt := t_mul (by omega) (by omega)
  have eP : (((sR 1 2) * (sR 1 0)) - ((sR 1 7) * (sR 1 1))).toInt = (sR 1 2).toInt * (sR 1 0).toInt - (sR 1 7).toInt * (sR 1 1).toInt := by rw [t_sub (by omega) (by omega), eCA, eWB]
  have eRX : ((sR 1 6) * x).toInt = (sR 1 6).toInt * x.toInt := t_mul (by omega) (by omega)
  have lCA : ((Int32.toInt64 (sR 1 2)) * (Int32.toInt64 (sR 1 0))).toInt = (sR 1 2).toInt * (sR 1 0).toInt := by rw [l_mul (by rw [il_t, il_t]; omega) (by rw [il_t, il_t]; omega), il_t, il_t]
  have lWB : ((Int32.toInt64 (sR 1 7)) * (Int32.toInt64 (sR 1 1))).toInt = (sR 1 7).toInt * (sR 1 1).toInt := by rw [l_mul (by rw [il_t, il_t]; omega) (by rw [il_t, il_t]; omega), il_t, il_t]
  have lP : (((Int32.toInt64 (sR 1 2)) * (Int32.toInt64 (sR 1 0))) - ((Int32.toInt64 (sR 1 7)) * (Int32.toInt64 (sR 1 1)))).toInt = (sR 1 2).toInt * (sR 1 0).toInt - (sR 1 7).toInt * (sR 1 1).toInt := by rw [l_sub (by omega) (by omega), lCA, lWB]
  have same : (((Int32.toInt64 (sR 1 2)) * (Int32.toInt64 (sR 1 0))) - ((Int32.toInt64 (sR 1 7)) * (Int32.toInt64 (sR 1 1)))) = Int32.toInt64 (((sR 1 2) * (sR 1 0)) - ((sR 1 7) * (sR 1 1))) := l_ext (by rw [lP, il_t, eP])
  rw [same]
  unfold m_R_givenAt
  generalize (sR 1 2).toInt * (sR 1 0).toInt = CA at pa eP ⊢
  generalize (sR 1 7).toInt * (sR 1 1).toInt = WB at pb eP
  generalize (sR 1 6).toInt * x.toInt = RX at pr eRX
  generalize hD : (m_R_sineOf (x - (sR 1 5))).toInt + (m_R_sineOf (sR 1 5)).toInt = Dz at eD dn
  have hD2 : Dz ≤ 2000 := by omega
  generalize ((sR 1 6) * x) = rx at eRX ⊢
  generalize (((sR 1 2) * (sR 1 0)) - ((sR 1 7) * (sR 1 1))) = p at eP ⊢
  generalize ((m_R_sineOf (x - (sR 1 5))) + (m_R_sineOf (sR 1 5))) = d at eD ⊢
  have b1 : (CA - WB) * Dz ≤ CA * 2000 := by
    have m1 : (CA - WB) * Dz ≤ CA * Dz := Int.mul_le_mul_of_nonneg_right (by omega) dn
    have m2 : CA * Dz ≤ CA * 2000 := Int.mul_le_mul_of_nonneg_left hD2 pa.1
    omega
  have b2 : -96000000 ≤ (CA - WB) * Dz := by
    have m1 : (-48000) * Dz ≤ (CA - WB) * Dz := Int.mul_le_mul_of_nonneg_right (by omega) dn
    omega
  have lX : (Int32.toInt64 p * Int32.toInt64 d).toInt = (CA - WB) * Dz := by rw [l_mul (by rw [il_t, il_t, eP, eD]; omega) (by rw [il_t, il_t, eP, eD]; omega), il_t, il_t, eP, eD]
  generalize (CA - WB) * Dz = X at b1 b2 lX
  generalize (Int32.toInt64 p * Int32.toInt64 d) = a at lX ⊢
  have dM : (m_T_down a 1000).toInt = X / 1000 := by rw [down_t (by rw [l1000]; omega) (by omega), lX, l1000]
  have fin : ∀ z : Int64, z.toInt = X / 1000 → (Int64.toInt32 (m_T_down a 1000)) - rx = (Int64.toInt32 z) - rx ∧ ((Int64.toInt32 z) - rx).toInt ≤ 2 * CA ∧ -10000000 ≤ ((Int64.toInt32 z) - rx).toInt := by
    intro z hz
    have e : Int64.toInt32 (m_T_down a 1000) = Int64.toInt32 z := t_ext (by rw [li_t (by omega) (by omega), li_t (by omega) (by omega), dM, hz])
    have e2 : (Int64.toInt32 z).toInt = X / 1000 := by rw [li_t (by omega) (by omega), hz]
    rw [e]
    refine ⟨rfl, ?_, ?_⟩
    · rw [t_sub (by omega) (by omega), e2, eRX]; omega
    · rw [t_sub (by omega) (by omega), e2, eRX]; omega
  have dq := div1000 (a := a)
  rw [lX] at dq
  by_cases c : 0 ≤ X
  · rw [if_pos (lgc_nn.mpr (by omega))]
    rw [if_pos c] at dq
    exact fin _ (by rw [l_sub (by rw [l0]; omega) (by rw [l0]; omega), l0, dq]; omega)
  · rw [if_neg (fun q => by have := lgc_nn.mp q; omega)]
    rw [if_neg c] at dq
    have em : (a / 1000 * 1000).toInt = -((-X) / 1000) * 1000 := by rw [l_mul (by rw [l1000]; omega) (by rw [l1000]; omega), l1000, dq]
    have er : (a - a / 1000 * 1000).toInt = X - -((-X) / 1000) * 1000 := by rw [l_sub (by omega) (by omega), em, lX]
    by_cases r : lg_cmp (a - a / 1000 * 1000) 0 = 0
    · rw [if_pos r]
      have := congrArg Int64.toInt (lgc_eq0.mp r)
      rw [er, l0] at this
      exact fin _ (by rw [l_sub (by rw [l0]; omega) (by rw [l0]; omega), l0, dq]; omega)
    · rw [if_neg r]
      have : X - -((-X) / 1000) * 1000 ≠ 0 := fun k => r (lgc_eq0.mpr (l_ext (by rw [er, l0, k])))
      exact fin _ (by rw [l_sub (by rw [l1]; omega) (by rw [l1]; omega), l1, dq]; omega)
theorem turn_spec (s : St) : (∀ k j, k ≠ 2 ∧ ¬ (k = 0 ∧ j = 4) → m_M_turnBeam s k j = s k j) ∧ (∀ t : Nat, 1 ≤ t → t ≤ 160 → m_M_turnBeam s 2 t = giv s (Int32.ofNat t)) ∧ (1 ≤ (m_M_turnBeam s 0 4).toInt ∧ (m_M_turnBeam s 0 4).toInt ≤ 161) ∧ (∀ t : Nat, 1 ≤ t → (t : Int) < (m_M_turnBeam s 0 4).toInt → 0 < (m_M_turnBeam s 2 t).toInt) ∧ ((m_M_turnBeam s 0 4).toInt ≤ 160 → (m_M_turnBeam s 2 (m_M_turnBeam s 0 4).toInt.toNat).toInt ≤ 0) := by
  have z0 := tl_0
  have z1 := tl_1
  have z160 : (160 : Int32).toInt = 160 := by decide +kernel
  have z161 : (161 : Int32).toInt = 161 := by decide +kernel
  have key := wl_run (f := g_M_turnBeam_55 (((Int32.toInt64 (s 1 2)) * (Int32.toInt64 (s 1 0))) - ((Int32.toInt64 (s 1 7)) * (Int32.toInt64 (s 1 1)))) (m_T_sineOf (s 1 5))) (fun n u => (∀ k j, k ≠ 2 ∧ ¬ (k = 0 ∧ j = 4) → u.1 k j = s k j) ∧ (∀ t : Nat, 160 < t + n → t ≤ 160 → u.1 2 t = giv s (Int32.ofNat t)) ∧ (160 - (n : Int) < (u.1 0 4).toInt ∧ (u.1 0 4).toInt ≤ 161) ∧ (∀ t : Nat, 160 < t + n → (t : Int) < (u.1 0 4).toInt → 0 < (u.1 2 t).toInt) ∧ ((u.1 0 4).toInt ≤ 160 → (u.1 2 (u.1 0 4).toInt.toNat).toInt ≤ 0) ∧ u.2.toInt = 160 - (n : Int)) 160 (by
    rintro n ⟨u, x⟩ hn ⟨g1, g2, g3, g4, g5, g6⟩
    dsimp only at g1 g2 g3 g4 g5 g6
    obtain ⟨m, hm⟩ : ∃ m : Nat, m = 160 - n := ⟨_, rfl⟩
    have hxm : x.toInt = (m : Int) := by omega
    have hx1 : (x + (-1)).toInt = 160 - ((n + 1 : Nat) : Int) := by rw [t_dec (by omega)]; omega
    have ex : x = Int32.ofNat m := eq_ofNat hxm
    have eg : ((Int64.toInt32 (m_T_down ((((Int32.toInt64 (s 1 2)) * (Int32.toInt64 (s 1 0))) - ((Int32.toInt64 (s 1 7)) * (Int32.toInt64 (s 1 1)))) * (Int32.toInt64 ((m_T_sineOf (x - (u 1 5))) + (m_T_sineOf (s 1 5))))) 1000)) - ((u 1 6) * x)) = giv s x := by
      unfold giv
      rw [g1 1 5 (by omega), g1 1 6 (by omega)]
    have hf : g_M_turnBeam_55 (((Int32.toInt64 (s 1 2)) * (Int32.toInt64 (s 1 0))) - ((Int32.toInt64 (s 1 7)) * (Int32.toInt64 (s 1 1)))) (m_T_sineOf (s 1 5)) (u, x) = if 0 < giv s x then some (up u 2 m (giv s x), x + (-1)) else some (up (up u 2 m (giv s x)) 0 4 x, x + (-1)) := by
      show f_M_turnBeam_55 _ _ u x = _
      unfold f_M_turnBeam_55
      rw [if_neg (fun q => by have := lt_t q; omega), eg, cl_n hxm]
    obtain ⟨y, hy⟩ : ∃ y, y = x + (-1) := ⟨_, rfl⟩
    rw [← hy] at hf hx1
    clear hy
    by_cases c : 0 < giv s x
    · have lc := lt_t c
      rw [z0] at lc
      have e4 : up u 2 m (giv s x) 0 4 = u 0 4 := up_other (by omega)
      refine ⟨(up u 2 m (giv s x), y), by rw [hf, if_pos c], ?_, ?_, ?_, ?_, ?_, hx1⟩
      · intro k j h
        dsimp only
        rw [up_ne h.1]
        exact g1 k j h
      · intro t h1 h2
        dsimp only
        rw [up_row]
        by_cases e : t = m
        · rw [if_pos e, e, ex]
        · rw [if_neg e]; exact g2 t (by omega) h2
      · dsimp only
        rw [e4]; omega
      · intro t h1 h2
        dsimp only at h2 ⊢
        rw [e4] at h2
        rw [up_row]
        by_cases e : t = m
        · rw [if_pos e]; exact lc
        · rw [if_neg e]; exact g4 t (by omega) h2
      · intro h
        dsimp only at h ⊢
        rw [e4] at h ⊢
        rw [up_row, if_neg (by omega)]
        exact g5 h
    · have lc := nlt_t c
      rw [z0] at lc
      refine ⟨(up (up u 2 m (giv s x)) 0 4 x, y), by rw [hf, if_neg c], ?_, ?_, ?_, ?_, ?_, hx1⟩
      · intro k j h
        dsimp only
        rw [up_other (by omega), up_ne h.1]
        exact g1 k j h
      · intro t h1 h2
        dsimp only
        rw [up_other (by omega), up_row]
        by_cases e : t = m
        · rw [if_pos e, e, ex]
        · rw [if_neg e]; exact g2 t (by omega) h2
      · dsimp only
        rw [up_get]; omega
      · intro t h1 h2
        dsimp only at h2
        rw [up_get] at h2
        omega
      · intro h
        dsimp only
        rw [up_get, up_other (by omega), up_row, if_pos (by omega)]
        exact lc) (by
    rintro ⟨u, x⟩ ⟨g1, g2, g3, g4, g5, g6⟩
    dsimp only at g6
    show f_M_turnBeam_55 _ _ u x = none
    unfold f_M_turnBeam_55
    rw [if_pos (Int32.lt_iff_toInt_lt.mpr (by omega))]) 161 0 ((up s 0 4 161), 160) (by omega) (by omega) ⟨fun k j h => up_other (by omega), fun t h1 h2 => by omega, by dsimp only; rw [up_get, z161]; omega, fun t h1 h2 => by dsimp only at h2; rw [up_get, z161] at h2; omega, fun h => by dsimp only at h; rw [up_get, z161] at h; omega, by dsimp only; rw [z160]; omega⟩
  obtain ⟨k1, k2, k3, k4, k5, -⟩ := key
  have e : m_M_turnBeam s = (wl (g_M_turnBeam_55 (((Int32.toInt64 (s 1 2)) * (Int32.toInt64 (s 1 0))) - ((Int32.toInt64 (s 1 7)) * (Int32.toInt64 (s 1 1)))) (m_T_sineOf (s 1 5))) 161 ((up s 0 4 161), 160)).1 := rfl
  rw [e]
  exact ⟨k1, fun t h1 h2 => k2 t (by omega) h2, by omega, fun t h1 h2 => k4 t (by omega) h2, k5⟩
/-- the machine's part after a turn of the beam -/
theorem relM_turn {s sR : St} (hR : okR sR) (h1 : ∀ i, i < 9 → s 1 i = sR 1 i) (h5 : s 0 5 = sR 0 1) (hw : -20 ≤ (sR 0 1).toInt ∧ (sR 0 1).toInt ≤ 20) : relM (m_M_turnBeam s) sR := by
  obtain ⟨k1, k2, k3, k4, k5⟩ := turn_spec s
  refine ⟨fun i hi => by rw [k1 1 i (by omega)]; exact h1 i hi, by rw [k1 0 5 (by omega)]; exact h5, hw, fun t a b => ?_, k3, k4, k5⟩
  rw [k2 t a b]
  exact (giv_eq hR h1 (by rw [ofNat_t (by omega)]; omega)).1
theorem lim_tab : ∀ n : Nat, n < 9 → zML n = m_R_least (Int32.ofNat n) ∧ zMM n = m_R_most (Int32.ofNat n) := by decide +kernel
theorem okR_set {sR : St} (h : okR sR) {k : Nat} {x : Int32} (hk : k < 9) (hx : (zML k).toInt ≤ x.toInt ∧ x.toInt ≤ (zMM k).toInt) : okR (up sR 1 k x) := by
  have nR := okR_lin h
  have f5 : up sR 1 k x 5 = sR 5 := up_ne (by decide)
  have f0 : ∀ j, up sR 1 k x 0 j = sR 0 j := fun j => up_other (by omega)
  have lo : ∀ n : Nat, n < 9 → (zML n).toInt = ([5, 20, 100, 10, 0, 10, 0, 1, 0] : List Int).getD n 0 ∧ (zMM n).toInt = ([40, 160, 9000, 160, 60, 60, 900, 300, 2] : List Int).getD n 0 := by decide +kernel
  obtain ⟨l1, l2⟩ := lo k hk
  rw [l1, l2] at hx
  unfold okR
  simp only [f5, f0, up_row]
  refine ⟨⟨?_, h.1.2⟩, h.2⟩
  match k, hk with
  | 0, _ => simp at hx ⊢; omega
  | 1, _ => simp at hx ⊢; omega
  | 2, _ => simp at hx ⊢; omega
  | 3, _ => simp at hx ⊢; omega
  | 4, _ => simp at hx ⊢; omega
  | 5, _ => simp at hx ⊢; omega
  | 6, _ => simp at hx ⊢; omega
  | 7, _ => simp at hx ⊢; omega
  | 8, _ => simp at hx ⊢; omega
section S
variable {sT : St} {vT : Int64} {sM sB sL sS sR : St} {vR : Int64}
theorem P_set (h : Rel sT vT sM sB sL sS sR vR) (a1 a2 : Int32) : (m_T_set sT sM a1 a2).1 = (m_R_set sR a1 a2).1 ∧ Rel (m_T_set sT sM a1 a2).2.1 vT (m_T_set sT sM a1 a2).2.2 sB sL sS (m_R_set sR a1 a2).2 vR := by
  unfold m_T_set m_R_set m_M_put
  by_cases c : m_T_within a1 0 8 = 0
  · have c' : m_R_in a1 0 8 = 0 := c
    have e : m_M_takes sM a1 a2 = 0 := by unfold m_M_takes; rw [if_pos c]
    simp only [if_pos e, if_pos c']
    exact ⟨by trivial, h⟩
  have c' : ¬ m_R_in a1 0 8 = 0 := c
  have w := within_t c
  rw [tl_0, show (8 : Int32).toInt = 8 by decide +kernel] at w
  have hk : Int32.toNatClampNeg a1 < 9 := by rw [cl_t]; omega
  obtain ⟨t1, t2⟩ := lim_tab _ hk
  rw [← eq_ofNat (i := a1) (k := Int32.toNatClampNeg a1) (by rw [cl_t]; omega)] at t1 t2
  by_cases d : m_T_within a2 (zML (Int32.toNatClampNeg a1)) (zMM (Int32.toNatClampNeg a1)) = 0
  · have d' : m_R_in a2 (m_R_least a1) (m_R_most a1) = 0 := by rw [← t1, ← t2]; exact d
    have e : m_M_takes sM a1 a2 = 0 := by unfold m_M_takes; rw [if_neg c, if_pos d]
    simp only [if_pos e, if_neg c', if_pos d']
    exact ⟨by trivial, h⟩
  have d' : ¬ m_R_in a2 (m_R_least a1) (m_R_most a1) = 0 := by rw [← t1, ← t2]; exact d
  have e : ¬ m_M_takes sM a1 a2 = 0 := by unfold m_M_takes; rw [if_neg c, if_neg d]; decide
  simp only [if_neg e, if_neg c', if_neg d']
  have w2 := within_t d
  generalize Int32.toNatClampNeg a1 = k at hk w2
  obtain ⟨hR, hT, hM, hB, hL, hS⟩ := h
  have hR1 := okR_set hR hk w2
  have hR2 : okR (up (up sR 1 k a2) 0 13 0) := okR_ext hR1 (up_ne (by decide)) (up_ne (by decide)) (up_other (by omega)) (up_other (by omega)) (up_other (by omega)) (up_other (by omega)) (up_other (by omega))
  have row : ∀ a, a ≠ 0 ∧ a ≠ 1 → up (up sR 1 k a2) 0 13 0 a = sR a := fun a ha => by rw [up_ne ha.1, up_ne ha.2]
  have fld : ∀ j, j ≠ 13 → up (up sR 1 k a2) 0 13 0 0 j = sR 0 j := fun j hj => by rw [up_other (by omega), up_other (by omega)]
  refine ⟨hM.1 k hk, hR2, ?_, ?_, relB_ext hB (row 5 (by omega)) (row 6 (by omega)) (fld _ (by omega)) (fld _ (by omega)), relL_ext hL (row 9 (by omega)) (row 10 (by omega)) (row 11 (by omega)) (row 13 (by omega)) (fld _ (by omega)) (fld _ (by omega)) (fld _ (by omega)), relS_ext hS (row 16 (by omega)) (fld _ (by omega)) (fld _ (by omega))⟩
  · refine ⟨by rw [up_get, up_get], by rw [up_other (by omega), fld 14 (by omega)]; exact hT.2.1, hT.2.2.1, ?_, ?_⟩
    · rw [up_get, tl_0]; omega
    · rw [up_get, tl_0]; omega
  · refine relM_turn hR2 (fun i hi => ?_) ?_ ?_
    · rw [up_row, up_other (by omega), up_row]
      by_cases e : i = k
      · rw [if_pos e, if_pos e]
      · rw [if_neg e, if_neg e]; exact hM.1 i hi
    · rw [up_other (by omega), fld 1 (by omega)]; exact hM.2.1
    · rw [fld 1 (by omega)]; exact hM.2.2.1
end S
