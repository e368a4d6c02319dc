/-! a hit: both sides alike -/
theorem up_same {s : St} {k i : Nat} {x : Int32} (h : s k i = x) : up s k i x = s := by
  funext a j
  by_cases e : a = k
  · subst e
    rw [up_row]
    by_cases e2 : j = i
    · subst e2
      rw [if_pos rfl, h]
    · rw [if_neg e2]
  · rw [up_ne e]
theorem up_comm {s : St} {k i k' i' : Nat} {x x' : Int32} (h : k ≠ k') : up (up s k i x) k' i' x' = up (up s k' i' x') k i x := by
  funext a j
  by_cases e : a = k
  · subst e
    rw [up_ne h, up_row, up_row, up_ne h]
  · rw [up_ne (s := up s k' i' x') e]
    by_cases e2 : a = k'
    · subst e2
      rw [up_row, up_row, up_ne e]
    · rw [up_ne e2, up_ne e2, up_ne e]
theorem okR_row {s : St} {k i : Nat} {x : Int32} (h : okR s) (hk : k ≠ 0 ∧ k ≠ 1 ∧ k ≠ 5) : okR (up s k i x) :=
  okR_ext h (up_ne (by omega)) (up_ne (by omega)) (up_other (by omega)) (up_other (by omega)) (up_other (by omega)) (up_other (by omega)) (up_other (by omega))
theorem At.row {s : St} {k i : Nat} {v x y : Int32} {xn yn : Nat} (a : At s x y xn yn) (hk : k ≠ 0) : At (up s k i v) x y xn yn := by
  unfold At
  rw [up_other (by omega), up_other (by omega)]
  exact a
section STRIKE
variable {sL sR : St} {x y : Int32} {xn yn : Nat}
theorem relL_clr (hR : okR sR) (hL : relL sL sR) (a : At sR x y xn yn) : relL (up sL 2 xn (clrb (sL 2 xn) y)) (up sR 9 (xn + (sR 0 6).toInt.toNat * yn) 0) := by
  have nR := okR_lin hR
  obtain ⟨hx, hy, h1, h2⟩ := a
  unfold relL
  rw [up_other (s := sL) (by omega), up_other (s := sL) (by omega), up_other (s := sL) (by omega), up_other (s := sR) (by omega), up_other (s := sR) (by omega), up_other (s := sR) (by omega)]
  refine ⟨hL.1, hL.2.1, hL.2.2.1, fun i hi => ?_, fun z hz => ?_⟩
  · rw [up_other (by omega), up_other (by omega)]
    exact hL.2.2.2.1 i hi
  · have hc := hL.2.2.2.2 z hz
    by_cases e : z = xn
    · subst e
      unfold relC
      rw [up_get, up_other (s := sL) (k := 3) (by omega), up_other (s := sR) (k := 0) (by omega), up_other (s := sR) (k := 0) (j := 6) (by omega)]
      refine ⟨clr_b (by omega) hc.1.1 hc.1.2 hy (by omega), hc.2.1, fun w hw => ?_⟩
      obtain ⟨q9, q11, q10, qb, qs⟩ := hc.2.2 w hw
      rw [up_row, up_other (s := sR) (by omega), up_other (s := sR) (by omega), up_other (s := sL) (by omega), clr_bt (by omega) hc.1.1 hc.1.2 hy (by omega) (by omega)]
      by_cases e2 : w = yn
      · subst e2
        rw [if_pos rfl, if_pos rfl]
        exact ⟨rfl, q11, q10, qb, fun k => absurd k (by decide)⟩
      · rw [if_neg e2, if_neg (fun k => e2 (idx_inj (by omega) (by omega) k).2)]
        exact ⟨q9, q11, q10, qb, qs⟩
    · refine relC_fr hc (up_other (by omega)) (up_other (by omega)) (up_other (by omega)) (up_other (by omega)) (fun w hw => ⟨up_other (by omega), up_other (Or.inr (fun k => e (idx_inj (by omega) (by omega) k).1)), up_other (by omega), up_other (by omega)⟩)
theorem relL_str (hR : okR sR) (hL : relL sL sR) (a : At sR x y xn yn) {v : Int32} (hv : -99 ≤ v.toInt ∧ v.toInt ≤ 99) (hs : bt (sL 2 xn) yn = 1 → 1 ≤ v.toInt) : relL (up sL 1 (6 * xn + yn) v) (up sR 10 (xn + (sR 0 6).toInt.toNat * yn) v) := by
  have nR := okR_lin hR
  obtain ⟨hx, hy, h1, h2⟩ := a
  unfold relL
  rw [up_other (s := sL) (by omega), up_other (s := sL) (by omega), up_other (s := sL) (by omega), up_other (s := sR) (by omega), up_other (s := sR) (by omega), up_other (s := sR) (by omega)]
  refine ⟨hL.1, hL.2.1, hL.2.2.1, fun i hi => ?_, fun z hz => ?_⟩
  · rw [up_other (by omega), up_other (by omega)]
    exact hL.2.2.2.1 i hi
  · have hc := hL.2.2.2.2 z hz
    by_cases e : z = xn
    · subst e
      unfold relC
      rw [up_other (s := sL) (k := 2) (by omega), up_other (s := sL) (k := 3) (by omega), up_other (s := sR) (k := 0) (by omega), up_other (s := sR) (k := 0) (j := 6) (by omega)]
      refine ⟨hc.1, hc.2.1, fun w hw => ?_⟩
      obtain ⟨q9, q11, q10, qb, qs⟩ := hc.2.2 w hw
      rw [up_other (s := sR) (k := 9) (by omega), up_other (s := sR) (k := 11) (by omega), up_row, up_row]
      by_cases e2 : w = yn
      · subst e2
        rw [if_pos rfl, if_pos rfl]
        exact ⟨q9, q11, rfl, hv, hs⟩
      · rw [if_neg (by omega), if_neg (fun k => e2 (idx_inj (by omega) (by omega) k).2)]
        exact ⟨q9, q11, q10, qb, qs⟩
    · refine relC_fr hc (up_other (by omega)) (up_other (by omega)) (up_other (by omega)) (up_other (by omega)) (fun w hw => ⟨up_other (by omega), up_other (by omega), up_other (Or.inr (fun k => e (idx_inj (by omega) (by omega) k).1)), up_other (by omega)⟩)
theorem relL_pro (hR : okR sR) (hL : relL sL sR) (a : At sR x y xn yn) {v b : Int32} (hv : 0 ≤ v.toInt ∧ v.toInt < 2 ^ (sR 0 7).toInt.toNat) (hb : ∀ z : Nat, (z : Int) < (sR 0 7).toInt → bt v z = if z = yn then b else bt (sL 3 xn) z) : relL (up sL 3 xn v) (up sR 11 (xn + (sR 0 6).toInt.toNat * yn) b) := by
  have nR := okR_lin hR
  obtain ⟨hx, hy, h1, h2⟩ := a
  unfold relL
  rw [up_other (s := sL) (by omega), up_other (s := sL) (by omega), up_other (s := sL) (by omega), up_other (s := sR) (by omega), up_other (s := sR) (by omega), up_other (s := sR) (by omega)]
  refine ⟨hL.1, hL.2.1, hL.2.2.1, fun i hi => ?_, fun z hz => ?_⟩
  · rw [up_other (by omega), up_other (by omega)]
    exact hL.2.2.2.1 i hi
  · have hc := hL.2.2.2.2 z hz
    by_cases e : z = xn
    · subst e
      unfold relC
      rw [up_other (s := sL) (k := 2) (by omega), up_get, up_other (s := sR) (k := 0) (by omega), up_other (s := sR) (k := 0) (j := 6) (by omega)]
      refine ⟨hc.1, hv, fun w hw => ?_⟩
      obtain ⟨q9, q11, q10, qb, qs⟩ := hc.2.2 w hw
      rw [up_other (s := sR) (k := 9) (by omega), up_row, up_other (s := sL) (k := 1) (by omega), up_other (s := sR) (k := 10) (by omega), hb w hw]
      by_cases e2 : w = yn
      · subst e2
        rw [if_pos rfl, if_pos rfl]
        exact ⟨q9, rfl, q10, qb, qs⟩
      · rw [if_neg e2, if_neg (fun k => e2 (idx_inj (by omega) (by omega) k).2)]
        exact ⟨q9, q11, q10, qb, qs⟩
    · refine relC_fr hc (up_other (by omega)) (up_other (by omega)) (up_other (by omega)) (up_other (by omega)) (fun w hw => ⟨up_other (by omega), up_other (by omega), up_other (by omega), up_other (Or.inr (fun k => e (idx_inj (by omega) (by omega) k).1))⟩)
theorem relL_pro0 (hR : okR sR) (hL : relL sL sR) (a : At sR x y xn yn) : relL (up sL 3 xn (clrb (sL 3 xn) y)) (up sR 11 (xn + (sR 0 6).toInt.toNat * yn) 0) := by
  have nR := okR_lin hR
  have hc := hL.2.2.2.2 xn a.2.2.1
  have := a.2.2.2
  exact relL_pro hR hL a (clr_b (by omega) hc.2.1.1 hc.2.1.2 a.2.1 (by omega)) (fun z hz => clr_bt (by omega) hc.2.1.1 hc.2.1.2 a.2.1 (by omega) (by omega))
theorem relL_pro1 (hR : okR sR) (hL : relL sL sR) (a : At sR x y xn yn) : relL (up sL 3 xn (setb (sL 3 xn) y)) (up sR 11 (xn + (sR 0 6).toInt.toNat * yn) 1) := by
  have nR := okR_lin hR
  have hc := hL.2.2.2.2 xn a.2.2.1
  have := a.2.2.2
  exact relL_pro hR hL a (set_b (by omega) hc.2.1.1 hc.2.1.2 a.2.1 (by omega)) (fun z hz => set_bt (by omega) hc.2.1.1 hc.2.1.2 a.2.1 (by omega) (by omega))
end STRIKE
theorem t_w {w : Int32} {k : Nat} {y : Int32} (h : y.toInt = (k : Int) + 1) (hk : k < 1000) : (y - 1).toInt = (k : Int) := by rw [t_sub (by rw [tl_1]; omega) (by rw [tl_1]; omega), tl_1]; omega
/-- the cells above: step by step alike -/
theorem drop_sim {sL0 sR0 : St} {x : Int32} {xn : Nat} {c0 : Int32} (hR : okR sR0) (hL : relL sL0 sR0) (hx : x.toInt = (xn : Int)) (hxw : (xn : Int) < (sR0 0 6).toInt) (hc0 : 0 ≤ c0.toInt ∧ c0.toInt ≤ 1) :
    relL (wl (g_L_dropUnheld_2 x) 8 (sL0, 1)).1 (wl (g_R_strike_83 x) 8 (sR0, c0, 1)).1 ∧ (∀ a j, a ≠ 9 → (wl (g_R_strike_83 x) 8 (sR0, c0, 1)).1 a j = sR0 a j) ∧ (∀ a j, ¬ (a = 2 ∧ j = xn) → (wl (g_L_dropUnheld_2 x) 8 (sL0, 1)).1 a j = sL0 a j) ∧
    ((wl (g_R_strike_83 x) 8 (sR0, c0, 1)).2.1.toInt + (cntb ((wl (g_L_dropUnheld_2 x) 8 (sL0, 1)).1 2 xn) (sR0 0 7).toInt.toNat : Int) = c0.toInt + (cntb (sL0 2 xn) (sR0 0 7).toInt.toNat : Int)) ∧ cntb ((wl (g_L_dropUnheld_2 x) 8 (sL0, 1)).1 2 xn) (sR0 0 7).toInt.toNat ≤ cntb (sL0 2 xn) (sR0 0 7).toInt.toNat := by
  have nR := okR_lin hR
  have z0 := tl_0
  have z1 := tl_1
  have hq6 : cntb (sL0 2 xn) (sR0 0 7).toInt.toNat ≤ 6 := by
    have hc := hL.2.2.2.2 xn hxw
    exact cnt_6 (by omega) hc.1.1 hc.1.2
  have key := wl_sim (f := g_L_dropUnheld_2 x) (g := g_R_strike_83 x) (fun k s t => relL s.1 t.1 ∧ (∀ a j, a ≠ 9 → t.1 a j = sR0 a j) ∧ (∀ a j, ¬ (a = 2 ∧ j = xn) → s.1 a j = sL0 a j) ∧ s.2.toInt = (k : Int) + 1 ∧ t.2.2.toInt = (k : Int) + 1 ∧ t.2.1.toInt + (cntb (s.1 2 xn) (sR0 0 7).toInt.toNat : Int) = c0.toInt + (cntb (sL0 2 xn) (sR0 0 7).toInt.toNat : Int) ∧ cntb (s.1 2 xn) (sR0 0 7).toInt.toNat ≤ cntb (sL0 2 xn) (sR0 0 7).toInt.toNat) ((sR0 0 7).toInt.toNat - 1) ?_ ?_ 8 8 0 (sL0, 1) (sR0, c0, 1) (by omega) (by omega) (by omega) ⟨hL, fun _ _ _ => rfl, fun _ _ _ => rfl, by rw [tl_1]; rfl, by rw [tl_1]; rfl, rfl, Nat.le_refl _⟩
  · exact ⟨key.1, key.2.1, key.2.2.1, key.2.2.2.2.2.1, key.2.2.2.2.2.2⟩
  · rintro k ⟨s, u⟩ ⟨t, c, v⟩ hk ⟨hr, ht, hs, hu, hv, hcn, hle⟩
    dsimp only at hr ht hs hu hv hcn hle ⊢
    have hRt : okR t := okR_ext hR (funext fun j => ht 1 j (by omega)) (funext fun j => ht 5 j (by omega)) (ht 0 3 (by omega)) (ht 0 6 (by omega)) (ht 0 7 (by omega)) (ht 0 11 (by omega)) (ht 0 16 (by omega))
    have e6 := ht 0 6 (by omega)
    have e7 := ht 0 7 (by omega)
    have e6t := congrArg Int32.toInt e6
    have e7t := congrArg Int32.toInt e7
    have aY : At t x v xn (k + 1) := ⟨hx, by omega, by omega, by omega⟩
    have hcol := hr.2.2.2.2 xn (by omega)
    obtain ⟨y9, y11, -⟩ := hcol.2.2 (k + 1) (by omega)
    obtain ⟨w9, -⟩ := hcol.2.2 k (by omega)
    have iY := aY.idx hRt
    have iW : Int32.toNatClampNeg ((x + (t 0 6) * v) - (t 0 6)) = xn + (t 0 6).toInt.toNat * k := by
      have q := cell_b hRt (x := x) (y := v) ⟨by omega, by omega, by omega, by omega⟩
      refine cl_n ?_
      have e : (t 0 6).toInt * v.toInt = (t 0 6).toInt * (k : Int) + (t 0 6).toInt := by rw [hv, Int.mul_add, Int.mul_one]
      have e2 : 0 ≤ (t 0 6).toInt * (k : Int) := Int.mul_nonneg (by omega) (by omega)
      rw [t_sub (by omega) (by omega), q.1, e, hx, Int.natCast_add, Int.natCast_mul, Int.toNat_of_nonneg (by omega)]
      omega
    have hu1 : (u - 1).toInt = (k : Int) := t_w (w := u) hu (by omega)
    have eqL : g_L_dropUnheld_2 x (s, u) = (if bt (s 2 xn) k = 0 then (if bt (s 3 xn) (k + 1) = 0 then some (up s 2 xn (clrb (s 2 xn) u), u + 1) else some (s, u + 1)) else some (s, u + 1)) := by
      show f_L_dropUnheld_2 x s u = _
      unfold f_L_dropUnheld_2
      rw [if_neg (fun q => by have := le_t q; rw [hr.2.1] at this; omega), cl_n hx, holds_bt (h := (t 0 7).toInt.toNat) (by omega) hcol.1.1 hcol.1.2 hu1 (by omega), holds_bt (h := (t 0 7).toInt.toNat) (by omega) hcol.2.1.1 hcol.2.1.2 (y := k + 1) (by omega) (by omega)]
      rfl
    have eqR : g_R_strike_83 x (t, c, v) = (if bt (s 2 xn) (k + 1) = 1 then (if bt (s 3 xn) (k + 1) = 0 then (if bt (s 2 xn) k = 0 then some (up t 9 (xn + (t 0 6).toInt.toNat * (k + 1)) 0, c + 1, v + 1) else some (t, c, v + 1)) else some (t, c, v + 1)) else some (t, c, v + 1)) := by
      show f_R_strike_83 x t c v = _
      unfold f_R_strike_83
      rw [if_neg (fun q => by have := le_t q; omega), iY, iW, y9, y11, w9]
    have hu' : (u + 1).toInt = ((k + 1 : Nat) : Int) + 1 := by rw [t_inc (by omega), hu]; omega
    have hv' : (v + 1).toInt = ((k + 1 : Nat) : Int) + 1 := by rw [t_inc (by omega), hv]; omega
    have n01 : ¬ (0 : Int32) = 1 := by decide
    have n10 : ¬ (1 : Int32) = 0 := by decide
    have stay : relL s t ∧ (∀ a j, a ≠ 9 → t a j = sR0 a j) ∧ (∀ a j, ¬ (a = 2 ∧ j = xn) → s a j = sL0 a j) ∧ (u + 1).toInt = ((k + 1 : Nat) : Int) + 1 ∧ (v + 1).toInt = ((k + 1 : Nat) : Int) + 1 ∧ c.toInt + (cntb (s 2 xn) (sR0 0 7).toInt.toNat : Int) = c0.toInt + (cntb (sL0 2 xn) (sR0 0 7).toInt.toNat : Int) ∧ cntb (s 2 xn) (sR0 0 7).toInt.toNat ≤ cntb (sL0 2 xn) (sR0 0 7).toInt.toNat := ⟨hr, ht, hs, hu', hv', hcn, hle⟩
    rcases bt_01 (v := s 2 xn) (y := k) with b1 | b1
    · rcases bt_01 (v := s 3 xn) (y := k + 1) with b2 | b2
      · have cl := relL_clr hRt hr (x := x) (y := u) (xn := xn) (yn := k + 1) ⟨hx, by omega, by omega, by omega⟩
        have cc := clr_c (v := s 2 xn) (h := (t 0 7).toInt.toNat) (y := k + 1) (yi := u) (by omega) hcol.1.1 hcol.1.2 (by omega) (by omega)
        rw [e7] at cc
        rcases bt_01 (v := s 2 xn) (y := k + 1) with b3 | b3
        · have ec := cc.2 b3
          rw [up_same (s := t) (by rw [y9, b3])] at cl
          refine ⟨_, _, by rw [eqL, if_pos b1, if_pos b2], by rw [eqR, b3, if_neg n01], cl, ht, fun a j q => by dsimp only; rw [up_other (by omega)]; exact hs a j q, hu', hv', ?_, ?_⟩
          · dsimp only
            rw [up_get, ec]; exact hcn
          · dsimp only
            rw [up_get, ec]; exact hle
        · have ec := cc.1 b3
          refine ⟨_, _, by rw [eqL, if_pos b1, if_pos b2], by rw [eqR, if_pos b3, if_pos b2, if_pos b1], cl, fun a j q => by dsimp only; rw [up_ne q]; exact ht a j q, fun a j q => by dsimp only; rw [up_other (by omega)]; exact hs a j q, hu', hv', ?_, ?_⟩
          · dsimp only
            rw [up_get, t_inc (by omega)]; omega
          · dsimp only
            rw [up_get]; omega
      · refine ⟨(s, u + 1), (t, c, v + 1), by rw [eqL, if_pos b1, b2, if_neg n10], ?_, stay⟩
        rw [eqR]
        split
        · rw [b2, if_neg n10]
        · rfl
    · refine ⟨(s, u + 1), (t, c, v + 1), by rw [eqL, b1, if_neg n10], ?_, stay⟩
      rw [eqR]
      split
      · split
        · rw [b1, if_neg n10]
        · rfl
      · rfl
  · rintro ⟨s, u⟩ ⟨t, c, v⟩ ⟨hr, ht, hs, hu, hv, -, -⟩
    dsimp only at hr ht hs hu hv ⊢
    have e7 := ht 0 7 (by omega)
    have e7t := congrArg Int32.toInt e7
    refine ⟨?_, ?_⟩
    · unfold g_L_dropUnheld_2 f_L_dropUnheld_2
      dsimp only
      rw [if_pos (Int32.le_iff_toInt_le.mpr (by rw [hr.2.1]; omega))]
    · unfold g_R_strike_83 f_R_strike_83
      dsimp only
      rw [if_pos (Int32.le_iff_toInt_le.mpr (by omega))]
