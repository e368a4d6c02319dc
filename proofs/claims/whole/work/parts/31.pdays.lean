/-! the siege: days -/
theorem and_1 (x : Int32) : (x &&& 1) = 0 ∨ (x &&& 1) = 1 := by
  have k : (x &&& 1).toBitVec = BitVec.setWidth 32 (BitVec.ofBool (x.toBitVec.getLsbD 0)) := by
    rw [Int32.toBitVec_and]
    exact BitVec.and_one_eq_setWidth_ofBool_getLsbD
  cases h : x.toBitVec.getLsbD 0 with
  | false =>
    rw [h] at k
    exact Or.inl (Int32.toBitVec_inj.mp (k.trans (by decide)))
  | true =>
    rw [h] at k
    exact Or.inr (Int32.toBitVec_inj.mp (k.trans (by decide)))
section DAYS
variable {sS sR : St} {r dry : Int32} {rn : Nat}
def dayI (sR : St) (k : Nat) (s t : Int32 × Int32 × Int32 × Int32 × Int32) : Prop := s.1 = t.2.2.1 ∧ s.2.1 = t.1 ∧ s.2.2.1 = t.2.1 ∧ s.2.2.2.1 = t.2.2.2.1 ∧ s.2.2.2.2 = t.2.2.2.2 ∧ s.2.2.2.2.toInt = (k : Int) ∧ (0 ≤ s.1.toInt ∧ s.1.toInt ≤ 9999) ∧ (0 ≤ s.2.1.toInt ∧ s.2.1.toInt ≤ 9999) ∧ (0 ≤ s.2.2.1.toInt ∧ s.2.2.1.toInt ≤ 9999) ∧ (0 ≤ s.2.2.2.1.toInt ∧ s.2.2.2.1.toInt < (sR 16 4).toInt)
theorem day_step (hS : relS sS sR) (hr : r.toInt = (rn : Int)) (hr6 : rn ≤ 60) {e x8 x9 most food stones timber worn d p2 : Int32} {k : Nat} (he : 0 ≤ e.toInt ∧ e.toInt ≤ 500) (h89 : x8 = 0 ↔ x9 = 0) (hk : k < 100) (hI : dayI sR k (food, stones, timber, worn, d) (stones, timber, food, worn, d)) :
    (∃ s' t', (if (food - (sS 1 0)) < 0 then .inr d else (if (30 * (sS 1 0)) < (r * e) then .inr d else (if r ≤ stones then (b_S_wholeDays_160 sS r p2 most (food - (sS 1 0)) (stones - r) (wl (g_S_wholeDays_116 sS r x9) 61 (timber, worn, 0)).1 (wl (g_S_wholeDays_116 sS r x9) 61 (timber, worn, 0)).2.1 d) else .inr d))) = .inl s' ∧
      (if food < (sR 16 0) then (b_R_lastsBy_241 sR r (wl (g_R_lastsBy_147 sR r x8 e) 61 (stones, timber, worn, (30 * (sR 16 0)), 0, 0)).1 (wl (g_R_lastsBy_147 sR r x8 e) 61 (stones, timber, worn, (30 * (sR 16 0)), 0, 0)).2.1 (food - (sR 16 0)) (wl (g_R_lastsBy_147 sR r x8 e) 61 (stones, timber, worn, (30 * (sR 16 0)), 0, 0)).2.2.1 dry d (wl (g_R_lastsBy_147 sR r x8 e) 61 (stones, timber, worn, (30 * (sR 16 0)), 0, 0)).2.2.2.2.1)
       else (b_R_lastsBy_241 sR r (wl (g_R_lastsBy_147 sR r x8 e) 61 (stones, timber, worn, (30 * (sR 16 0)), 1, 0)).1 (wl (g_R_lastsBy_147 sR r x8 e) 61 (stones, timber, worn, (30 * (sR 16 0)), 1, 0)).2.1 (food - (sR 16 0)) (wl (g_R_lastsBy_147 sR r x8 e) 61 (stones, timber, worn, (30 * (sR 16 0)), 1, 0)).2.2.1 dry d (wl (g_R_lastsBy_147 sR r x8 e) 61 (stones, timber, worn, (30 * (sR 16 0)), 1, 0)).2.2.2.2.1)) = .inl t' ∧ dayI sR (k + 1) s' t') ∨
    ((if (food - (sS 1 0)) < 0 then .inr d else (if (30 * (sS 1 0)) < (r * e) then .inr d else (if r ≤ stones then (b_S_wholeDays_160 sS r p2 most (food - (sS 1 0)) (stones - r) (wl (g_S_wholeDays_116 sS r x9) 61 (timber, worn, 0)).1 (wl (g_S_wholeDays_116 sS r x9) 61 (timber, worn, 0)).2.1 d) else .inr d))) = .inr d ∧
      (if food < (sR 16 0) then (b_R_lastsBy_241 sR r (wl (g_R_lastsBy_147 sR r x8 e) 61 (stones, timber, worn, (30 * (sR 16 0)), 0, 0)).1 (wl (g_R_lastsBy_147 sR r x8 e) 61 (stones, timber, worn, (30 * (sR 16 0)), 0, 0)).2.1 (food - (sR 16 0)) (wl (g_R_lastsBy_147 sR r x8 e) 61 (stones, timber, worn, (30 * (sR 16 0)), 0, 0)).2.2.1 dry d (wl (g_R_lastsBy_147 sR r x8 e) 61 (stones, timber, worn, (30 * (sR 16 0)), 0, 0)).2.2.2.2.1)
       else (b_R_lastsBy_241 sR r (wl (g_R_lastsBy_147 sR r x8 e) 61 (stones, timber, worn, (30 * (sR 16 0)), 1, 0)).1 (wl (g_R_lastsBy_147 sR r x8 e) 61 (stones, timber, worn, (30 * (sR 16 0)), 1, 0)).2.1 (food - (sR 16 0)) (wl (g_R_lastsBy_147 sR r x8 e) 61 (stones, timber, worn, (30 * (sR 16 0)), 1, 0)).2.2.1 dry d (wl (g_R_lastsBy_147 sR r x8 e) 61 (stones, timber, worn, (30 * (sR 16 0)), 1, 0)).2.2.2.2.1)) = .inr d) := by
  obtain ⟨-, -, -, -, -, i6, i7, i8, i9, i10⟩ := hI
  dsimp only at i6 i7 i8 i9 i10
  have z0 := tl_0
  have eM : sS 1 0 = sR 16 0 := hS.1 0 (by decide)
  have eL : sS 1 4 = sR 16 4 := hS.1 4 (by decide)
  have hM := hS.2.1
  have hLf := hS.2.2.2.2.2.1
  have t30 : (30 : Int32).toInt = 30 := by decide +kernel
  have eT : (30 * (sR 16 0)).toInt = 30 * (sR 16 0).toInt := by rw [t_mul (by rw [t30]; omega) (by rw [t30]; omega), t30]
  have eF : (food - (sR 16 0)).toInt = food.toInt - (sR 16 0).toInt := t_sub (by omega) (by omega)
  have pm := mul_bd (a := (rn : Int)) (b := e.toInt) (A := 60) (B := 500) (by omega) (by omega) he.1 he.2
  have eX : (r * e).toInt = (rn : Int) * e.toInt := by rw [t_mul (by rw [hr]; omega) (by rw [hr]; omega), hr]
  have s1 := shS (sS := sS) (r := r) (t0 := timber) (w0 := worn) (x9 := x9) hr hr6
  have ec : (if x9 = 0 then (1 : Int32) else 2) = (if x8 = 0 then (1 : Int32) else 2) := by
    by_cases c : x8 = 0
    · rw [if_pos c, if_pos (h89.mp c)]
    · rw [if_neg c, if_neg (fun q => c (h89.mpr q))]
  rw [ec, eL] at s1
  rw [s1.1, s1.2, eM]
  have r1 := shR (sR := sR) (r := r) (x8 := x8) (e := e) (st := stones) (t0 := timber) (w0 := worn) (T := 30 * (sR 16 0)) hr hr6 (by omega) he i8 i9 hLf i10
  dsimp only at r1
  by_cases cf : food < sR 16 0
  · have lf := lt_t cf
    right
    rw [if_pos (Int32.lt_iff_toInt_lt.mpr (by omega)), if_pos cf, shR0]
    refine ⟨rfl, ?_⟩
    unfold b_R_lastsBy_241
    rw [if_pos rfl]
  have lf := nlt_t cf
  rw [if_neg (fun q => by have := lt_t q; omega), if_neg cf]
  rcases r1 with ⟨a1, a2, a3, a4, a5⟩ | ⟨a1, a2⟩
  · left
    have b := sh_b (c := if x8 = 0 then (1 : Int32) else 2) (life := sR 16 4) (t0 := timber) (w0 := worn) (by split <;> (first | rw [tl_1] | rw [tl_2]) <;> omega) hLf i9 i10 rn hr6
    obtain ⟨o1, o2, o3⟩ := a2
    rw [eT] at o1
    rw [if_neg (fun q => by have := lt_t q; omega), if_pos (Int32.le_iff_toInt_le.mpr (by omega))]
    unfold b_S_wholeDays_160 b_R_lastsBy_241
    rw [if_pos (Int32.le_iff_toInt_le.mpr (by omega)), a1, if_neg (show ¬ (1 : Int32) = 0 by decide), a4, a5]
    have es : (stones - r).toInt = stones.toInt - (rn : Int) := by rw [t_sub (by omega) (by omega), hr]
    refine ⟨_, _, rfl, rfl, rfl, t_ext (es.trans a3.symm), rfl, rfl, rfl, ?_, ?_, ?_, ?_, ?_⟩
    · dsimp only
      rw [t_inc (by omega)]; omega
    · dsimp only; omega
    · dsimp only; omega
    · dsimp only; omega
    · dsimp only; omega
  · right
    have rr : b_R_lastsBy_241 sR r (wl (g_R_lastsBy_147 sR r x8 e) 61 (stones, timber, worn, (30 * (sR 16 0)), 1, 0)).1 (wl (g_R_lastsBy_147 sR r x8 e) 61 (stones, timber, worn, (30 * (sR 16 0)), 1, 0)).2.1 (food - (sR 16 0)) (wl (g_R_lastsBy_147 sR r x8 e) 61 (stones, timber, worn, (30 * (sR 16 0)), 1, 0)).2.2.1 dry d (wl (g_R_lastsBy_147 sR r x8 e) 61 (stones, timber, worn, (30 * (sR 16 0)), 1, 0)).2.2.2.2.1 = .inr d := by
      unfold b_R_lastsBy_241
      rw [if_pos a1]
    refine ⟨?_, rr⟩
    by_cases c1 : (30 * (sR 16 0)) < (r * e)
    · rw [if_pos c1]
    rw [if_neg c1]
    have l1 := nlt_t c1
    by_cases c2 : r ≤ stones
    · rw [if_pos c2]
      have l2 := le_t c2
      unfold b_S_wholeDays_160
      rw [if_neg (fun q => a2 ⟨by omega, by omega, by have := le_t q; omega⟩)]
    · rw [if_neg c2]
theorem wet_eq (hR : okR sR) (hS : relS sS sR) (d : Int32) : m_S_isWet sS d = (((sR 0 17) >>> ((d - d / (sR 0 16) * (sR 0 16)) &&& 31)) &&& 1) := by
  have nR := okR_lin hR
  have z0 := tl_0
  unfold m_S_isWet
  rw [hS.2.2.2.2.2.2.1, hS.2.2.2.2.2.2.2.1, if_neg (fun q => by have := le_t q; omega)]
  rcases and_1 ((sR 0 17) >>> ((d - d / (sR 0 16) * (sR 0 16)) &&& 31)) with h | h
  · rw [if_pos h, h]
  · rw [if_neg (by rw [h]; decide), h]
theorem wet_each (hd : 0 ≤ dry.toInt ∧ dry.toInt ≤ 400) : dry + (Int64.toInt32 (m_T_up (Int32.toInt64 dry) 4)) = dry + ((dry + 3) / 4) ∧ 0 ≤ (dry + ((dry + 3) / 4)).toInt ∧ (dry + ((dry + 3) / 4)).toInt ≤ 500 := by
  have t3 := tl_3
  have t4 : (4 : Int32).toInt = 4 := by decide +kernel
  have l4 : (4 : Int64).toInt = 4 := by decide +kernel
  have e3 : (dry + 3).toInt = dry.toInt + 3 := by rw [t_add (by omega) (by omega), tl_3]
  have e1 : ((dry + 3) / 4).toInt = (dry.toInt + 3) / 4 := by rw [t_dive (by omega), e3, t4]
  have e2 : (m_T_up (Int32.toInt64 dry) 4).toInt = (dry.toInt + 3) / 4 := by
    rw [up_t (by rw [l4]; omega) (by rw [il_t]; omega), il_t, l4, ceil_e (by omega)]
    congr 1
    omega
  have e4 : Int64.toInt32 (m_T_up (Int32.toInt64 dry) 4) = (dry + 3) / 4 := t_ext (by rw [li_t (by omega) (by omega), e2, e1])
  refine ⟨by rw [e4], ?_, ?_⟩
  · rw [t_add (by omega) (by omega)]; omega
  · rw [t_add (by omega) (by omega)]; omega
theorem days_sim (hR : okR sR) (hS : relS sS sR) (hr : r.toInt = (rn : Int)) (hr6 : rn ≤ 60) (hd : 0 ≤ dry.toInt ∧ dry.toInt ≤ 400) {most : Int32} (hm : 0 ≤ most.toInt ∧ most.toInt ≤ 100) :
    (fun a b : Int32 => (a = b ∧ a.toInt < most.toInt) ∨ (a = most ∧ most.toInt ≤ b.toInt ∧ b.toInt ≤ 100)) (m_S_wholeDays sS r dry most) (wc (g_R_lastsBy_51 sR r dry) 0 101 ((sR 16 1), (sR 16 2), (sR 16 3), 0, 0)) := by
  have z0 := tl_0
  have t100 := tl_100
  unfold m_S_wholeDays
  refine wc_sim2 (f := g_S_wholeDays_30 sS r dry most) (g := g_R_lastsBy_51 sR r dry) (dayI sR) (fun a b : Int32 => (a = b ∧ a.toInt < most.toInt) ∨ (a = most ∧ most.toInt ≤ b.toInt ∧ b.toInt ≤ 100)) most.toInt.toNat 100 ?_ ?_ 101 101 0 ((sS 1 3), (sS 1 1), (sS 1 2), 0, 0) ((sR 16 1), (sR 16 2), (sR 16 3), 0, 0) (by omega) (by omega) (by omega) (by omega) ⟨hS.1 3 (by decide), hS.1 1 (by decide), hS.1 2 (by decide), rfl, rfl, by rw [tl_0]; rfl, ?_, ?_, ?_, ?_⟩
  · rintro k ⟨food, stones, timber, worn, d⟩ ⟨stones', timber', food', worn', d'⟩ hk hI
    have hI2 := hI
    obtain ⟨e1, e2, e3, e4, e5, i6, i7, i8, i9, i10⟩ := hI2
    dsimp only at e1 e2 e3 e4 e5 i6 i7 i8 i9 i10
    subst e1; subst e2; subst e3; subst e4; subst e5
    have hk100 : k < 100 := by omega
    have nm : ¬ most ≤ d := fun q => by have := le_t q; omega
    have n100 : ¬ 100 ≤ d := fun q => by have := le_t q; omega
    have hw := wet_eq hR hS d
    obtain ⟨we1, we2, we3⟩ := wet_each hd
    rcases and_1 ((sR 0 17) >>> ((d - d / (sR 0 16) * (sR 0 16)) &&& 31)) with h | h
    · have q := day_step (p2 := dry) (most := most) (dry := dry) (x8 := 0) (x9 := m_S_isWet sS d) hS hr hr6 (e := dry) ⟨hd.1, by omega⟩ (by rw [hw, h]) hk100 hI
      have eS : g_S_wholeDays_30 sS r dry most (food, stones, timber, worn, d) = (if (food - (sS 1 0)) < 0 then .inr d else (if (30 * (sS 1 0)) < (r * dry) then .inr d else (if r ≤ stones then (b_S_wholeDays_160 sS r dry most (food - (sS 1 0)) (stones - r) (wl (g_S_wholeDays_116 sS r (m_S_isWet sS d)) 61 (timber, worn, 0)).1 (wl (g_S_wholeDays_116 sS r (m_S_isWet sS d)) 61 (timber, worn, 0)).2.1 d) else .inr d))) := by
        show f_S_wholeDays_30 sS r dry most food stones timber worn d = _
        unfold f_S_wholeDays_30
        rw [if_neg nm, if_pos (hw.trans h)]
      rcases q with ⟨s', t', q1, q2, q3⟩ | ⟨q1, q2⟩
      · exact Or.inl ⟨s', t', eS.trans q1, (by show f_R_lastsBy_51 sR r dry stones timber food worn d = _; unfold f_R_lastsBy_51; rw [if_neg n100, if_neg (by rw [h]; decide)]; exact q2), q3⟩
      · exact Or.inr ⟨d, d, eS.trans q1, (by show f_R_lastsBy_51 sR r dry stones timber food worn d = _; unfold f_R_lastsBy_51; rw [if_neg n100, if_neg (by rw [h]; decide)]; exact q2), Or.inl ⟨rfl, by omega⟩⟩
    · have q := day_step (p2 := dry) (most := most) (dry := dry) (x8 := 1) (x9 := m_S_isWet sS d) hS hr hr6 (e := dry + ((dry + 3) / 4)) ⟨we2, we3⟩ (by rw [hw, h]) hk100 hI
      have eS : g_S_wholeDays_30 sS r dry most (food, stones, timber, worn, d) = (if (food - (sS 1 0)) < 0 then .inr d else (if (30 * (sS 1 0)) < (r * (dry + ((dry + 3) / 4))) then .inr d else (if r ≤ stones then (b_S_wholeDays_160 sS r dry most (food - (sS 1 0)) (stones - r) (wl (g_S_wholeDays_116 sS r (m_S_isWet sS d)) 61 (timber, worn, 0)).1 (wl (g_S_wholeDays_116 sS r (m_S_isWet sS d)) 61 (timber, worn, 0)).2.1 d) else .inr d))) := by
        show f_S_wholeDays_30 sS r dry most food stones timber worn d = _
        unfold f_S_wholeDays_30
        rw [if_neg nm, if_neg (by rw [hw, h]; decide), we1]
      rcases q with ⟨s', t', q1, q2, q3⟩ | ⟨q1, q2⟩
      · exact Or.inl ⟨s', t', eS.trans q1, (by show f_R_lastsBy_51 sR r dry stones timber food worn d = _; unfold f_R_lastsBy_51; rw [if_neg n100, if_pos h]; exact q2), q3⟩
      · exact Or.inr ⟨d, d, eS.trans q1, (by show f_R_lastsBy_51 sR r dry stones timber food worn d = _; unfold f_R_lastsBy_51; rw [if_neg n100, if_pos h]; exact q2), Or.inl ⟨rfl, by omega⟩⟩
  · rintro ⟨food, stones, timber, worn, d⟩ t m hI hm2
    obtain ⟨-, -, -, -, e5, i6, -⟩ := hI
    dsimp only at e5 i6
    refine ⟨most, ?_, Or.inr ⟨rfl, ?_⟩⟩
    · show f_S_wholeDays_30 sS r dry most food stones timber worn d = _
      unfold f_S_wholeDays_30
      rw [if_pos (Int32.le_iff_toInt_le.mpr (by omega))]
    · refine wc_run (f := g_R_lastsBy_51 sR r dry) (fun k t => most.toInt ≤ (k : Int) ∧ t.2.2.2.2.toInt = (k : Int)) (fun b => most.toInt ≤ b.toInt ∧ b.toInt ≤ 100) 100 ?_ ?_ m most.toInt.toNat t (by omega) (by omega) ⟨by omega, by rw [← e5]; exact i6⟩
      · rintro k ⟨a1, a2, a3, a4, a5⟩ hk ⟨h0, h1⟩
        dsimp only at h1
        have n100 : ¬ 100 ≤ a5 := fun q => by have := le_t q; omega
        have hb : ∀ x2 x3 x4 x5 x11, (∃ t, b_R_lastsBy_241 sR r x2 x3 x4 x5 dry a5 x11 = .inl t ∧ (most.toInt ≤ ((k + 1 : Nat) : Int) ∧ t.2.2.2.2.toInt = ((k + 1 : Nat) : Int))) ∨ (∃ q, b_R_lastsBy_241 sR r x2 x3 x4 x5 dry a5 x11 = .inr q ∧ (most.toInt ≤ q.toInt ∧ q.toInt ≤ 100)) := by
          intro x2 x3 x4 x5 x11
          unfold b_R_lastsBy_241
          by_cases c : x11 = 0
          · rw [if_pos c]; exact Or.inr ⟨a5, rfl, by omega, by omega⟩
          · rw [if_neg c]
            refine Or.inl ⟨_, rfl, by omega, ?_⟩
            dsimp only
            rw [t_inc (by omega)]; omega
        show (∃ t, f_R_lastsBy_51 sR r dry a1 a2 a3 a4 a5 = .inl t ∧ _) ∨ (∃ q, f_R_lastsBy_51 sR r dry a1 a2 a3 a4 a5 = .inr q ∧ _)
        unfold f_R_lastsBy_51
        rw [if_neg n100]
        split
        · split
          · exact hb _ _ _ _ _
          · exact hb _ _ _ _ _
        · split
          · exact hb _ _ _ _ _
          · exact hb _ _ _ _ _
      · rintro ⟨a1, a2, a3, a4, a5⟩ ⟨h0, h1⟩
        dsimp only at h1
        refine ⟨100, ?_, by omega, by omega⟩
        show f_R_lastsBy_51 sR r dry a1 a2 a3 a4 a5 = _
        unfold f_R_lastsBy_51
        rw [if_pos (Int32.le_iff_toInt_le.mpr (by omega))]
  · dsimp only; rw [hS.1 3 (by decide)]; exact hS.2.2.2.2.1
  · dsimp only; rw [hS.1 1 (by decide)]; exact hS.2.2.1
  · dsimp only; rw [hS.1 2 (by decide)]; exact hS.2.2.2.1
  · dsimp only; have := hS.2.2.2.2.2.1; omega
theorem dry_eq {sM : St} (hR : okR sR) (hM : relM sM sR) : m_M_turnsOfShot sM = (((sR 1 2) * (sR 1 0)) + 999) / 1000 ∧ 0 ≤ (m_M_turnsOfShot sM).toInt ∧ (m_M_turnsOfShot sM).toInt ≤ 400 := by
  have nR := okR_lin hR
  have t9 : (999 : Int32).toInt = 999 := by decide +kernel
  have t1 : (1000 : Int32).toInt = 1000 := by decide +kernel
  have l1 : (1000 : Int64).toInt = 1000 := by decide +kernel
  have pm := mul_bd (a := (sR 1 2).toInt) (b := (sR 1 0).toInt) (A := 9000) (B := 40) (by omega) (by omega) (by omega) (by omega)
  have e1 : ((sR 1 2) * (sR 1 0)).toInt = (sR 1 2).toInt * (sR 1 0).toInt := t_mul (by omega) (by omega)
  have e2 : (((sR 1 2) * (sR 1 0)) + 999).toInt = (sR 1 2).toInt * (sR 1 0).toInt + 999 := by rw [t_add (by omega) (by omega), e1, t9]
  have e3 : ((((sR 1 2) * (sR 1 0)) + 999) / 1000).toInt = ((sR 1 2).toInt * (sR 1 0).toInt + 999) / 1000 := by rw [t_dive (by omega), e2, t1]
  have lm : ((Int32.toInt64 (sR 1 2)) * (Int32.toInt64 (sR 1 0))).toInt = (sR 1 2).toInt * (sR 1 0).toInt := by rw [l_mul (by rw [il_t, il_t]; omega) (by rw [il_t, il_t]; omega), il_t, il_t]
  have e4 : (m_T_up ((Int32.toInt64 (sR 1 2)) * (Int32.toInt64 (sR 1 0))) 1000).toInt = ((sR 1 2).toInt * (sR 1 0).toInt + 999) / 1000 := by
    rw [up_t (by rw [l1]; omega) (by rw [lm]; omega), lm, l1, ceil_e (by omega)]
    rw [show (sR 1 2).toInt * (sR 1 0).toInt + 1000 - 1 = (sR 1 2).toInt * (sR 1 0).toInt + 999 by omega]
  have e5 : m_M_turnsOfShot sM = (((sR 1 2) * (sR 1 0)) + 999) / 1000 := by
    unfold m_M_turnsOfShot
    rw [hM.1 2 (by decide), hM.1 0 (by decide)]
    exact t_ext (by rw [li_t (by omega) (by omega), e4, e3])
  rw [e5, e3]
  refine ⟨rfl, by omega, by omega⟩
variable {sT : St} {vT : Int64} {sM sB sL : St} {vR : Int64}
theorem lasts_sim (h : Rel sT vT sM sB sL sS sR vR) (hr : 0 ≤ r.toInt ∧ r.toInt ≤ 60) {most : Int32} (hm : 0 ≤ most.toInt ∧ most.toInt ≤ 100) : (m_S_wholeDays sS r (m_M_turnsOfShot sM) most = m_R_lastsBy sR r ∧ (m_R_lastsBy sR r).toInt < most.toInt) ∨ (m_S_wholeDays sS r (m_M_turnsOfShot sM) most = most ∧ most.toInt ≤ (m_R_lastsBy sR r).toInt ∧ (m_R_lastsBy sR r).toInt ≤ 100) := by
  obtain ⟨hR, hT, hM, hB, hL, hS⟩ := h
  obtain ⟨d1, d2⟩ := dry_eq hR hM
  have q := days_sim (dry := m_M_turnsOfShot sM) (r := r) (rn := r.toInt.toNat) (most := most) hR hS (by omega) (by omega) d2 hm
  dsimp only at q
  have e : m_R_lastsBy sR r = wc (g_R_lastsBy_51 sR r (m_M_turnsOfShot sM)) 0 101 ((sR 16 1), (sR 16 2), (sR 16 3), 0, 0) := by
    unfold m_R_lastsBy
    rw [d1]
  rw [← e] at q
  rcases q with ⟨q1, q2⟩ | q
  · exact Or.inl ⟨q1, by rw [← q1]; exact q2⟩
  · exact Or.inr q
theorem P_lasts (h : Rel sT vT sM sB sL sS sR vR) (a1 : Int32) : (m_T_lasts sT sM sS a1) = (m_R_lasts sR a1) ∧ Rel sT vT sM sB sL sS sR vR := by
  refine ⟨?_, h⟩
  unfold m_T_lasts m_R_lasts
  by_cases c : m_T_within a1 0 60 = 0
  · have c' : m_R_in a1 0 60 = 0 := c
    rw [if_pos c, if_pos c']
  have c' : ¬ m_R_in a1 0 60 = 0 := c
  rw [if_neg c, if_neg c']
  have w := within_t c
  rw [tl_0, tl_60] at w
  have t100 := tl_100
  rcases lasts_sim h (r := a1) w (most := 100) (by omega) with ⟨q, -⟩ | ⟨q1, q2, q3⟩
  · exact q
  · rw [q1]; exact t_ext (by omega)
theorem P_rate (h : Rel sT vT sM sB sL sS sR vR) (a1 : Int32) : (m_T_rate sT sM sS a1) = (m_R_rate sR a1) ∧ Rel sT vT sM sB sL sS sR vR := by
  refine ⟨?_, h⟩
  unfold m_T_rate m_R_rate
  by_cases c : m_T_within a1 1 100 = 0
  · have c' : m_R_in a1 1 100 = 0 := c
    rw [if_pos c, if_pos c']
  have c' : ¬ m_R_in a1 1 100 = 0 := c
  rw [if_neg c, if_neg c']
  have w := within_t c
  rw [tl_1, tl_100] at w
  have z0 := tl_0
  unfold m_S_bestRate
  refine wc_sim (f := g_S_bestRate_3 sS a1 (m_M_turnsOfShot sM)) (g := g_R_rate_15 sR a1) (fun k s t => s = t ∧ s.toInt = 60 - (k : Int)) (fun r q => r = q) 61 ?_ ?_ 62 62 0 60 60 (by omega) (by omega) (by omega) ⟨rfl, by rw [tl_60]; rfl⟩
  · rintro k s t hk ⟨rfl, h1⟩
    have n : ¬ s < 0 := fun q => by have := lt_t q; omega
    unfold g_S_bestRate_3 f_S_bestRate_3 g_R_rate_15 f_R_rate_15
    rw [if_neg n, if_neg n]
    have hd : (s + (-1)).toInt = 60 - ((k + 1 : Nat) : Int) := by rw [t_dec (by omega)]; omega
    rcases lasts_sim h (r := s) (by omega) (most := a1) (by omega) with ⟨q1, q2⟩ | ⟨q1, q2, q3⟩
    · refine Or.inl ⟨_, _, ?_, ?_, rfl, hd⟩
      · rw [if_neg (fun e => by rw [q1] at e; rw [e] at q2; omega)]
      · rw [if_pos (Int32.lt_iff_toInt_lt.mpr q2)]
    · refine Or.inr ⟨s, s, ?_, ?_, rfl⟩
      · rw [if_pos q1]
      · rw [if_neg (fun e => by have := lt_t e; omega)]
  · rintro s t ⟨rfl, h1⟩
    have n : s < 0 := Int32.lt_iff_toInt_lt.mpr (by omega)
    unfold g_S_bestRate_3 f_S_bestRate_3 g_R_rate_15 f_R_rate_15
    exact ⟨-9, -9, by rw [if_pos n], by rw [if_pos n], rfl⟩
end DAYS
