/-! the throw's numbers on both sides -/
theorem speed_b {g CA A W far : Int} (hg : 0 ≤ g) (hg2 : g ≤ 2 * CA) (hCA : 0 < CA) (hA : 5 ≤ A) (hW : 0 ≤ W) (hf : 0 ≤ far) (hf2 : far ≤ 102400) : 0 ≤ 2 * g * far / (CA * A + W * far) ∧ 2 * g * far / (CA * A + W * far) ≤ 81920 := by
  have p1 : 0 ≤ 2 * g * far := Int.mul_nonneg (by omega) hf
  have p2 : 0 < CA * A := Int.mul_pos hCA (by omega)
  have p3 : 0 ≤ W * far := Int.mul_nonneg hW hf
  have x0 : 0 ≤ 2 * g * far / (CA * A + W * far) := Int.ediv_nonneg p1 (by omega)
  refine ⟨x0, ?_⟩
  have h1 : 2 * g * far / (CA * A + W * far) * (CA * A + W * far) ≤ 2 * g * far := Int.ediv_mul_le _ (by omega)
  generalize 2 * g * far / (CA * A + W * far) = x at x0 h1 ⊢
  have h2 : x * (CA * A) ≤ x * (CA * A + W * far) := Int.mul_le_mul_of_nonneg_left (by omega) x0
  have h3 : 2 * g * far ≤ 4 * CA * far := Int.mul_le_mul_of_nonneg_right (by omega) hf
  have h4 : CA * (x * A) ≤ CA * (4 * far) := by
    have e1 : x * (CA * A) = CA * (x * A) := Int.mul_left_comm _ _ _
    have e2 : 4 * CA * far = CA * (4 * far) := by rw [Int.mul_comm 4 CA, Int.mul_assoc]
    omega
  have h5 : x * A ≤ 4 * far := Int.le_of_mul_le_mul_left h4 hCA
  have h6 : x * 5 ≤ x * A := Int.mul_le_mul_of_nonneg_left hA x0
  omega
section REL
variable {sM sR : St} {a b : Int32}
/-- the load and the far square, as longs -/
theorem load_t (hR : okR sR) (ha : 10 ≤ a.toInt ∧ a.toInt ≤ 160) :
    ((Int32.toInt64 ((sR 1 1) + a)) * (Int32.toInt64 ((sR 1 1) + a))).toInt = ((sR 1 1).toInt + a.toInt) * ((sR 1 1).toInt + a.toInt) ∧
    ((((Int32.toInt64 (sR 1 2)) * (Int32.toInt64 (sR 1 0))) * (Int32.toInt64 (sR 1 0))) + ((Int32.toInt64 (sR 1 7)) * ((Int32.toInt64 ((sR 1 1) + a)) * (Int32.toInt64 ((sR 1 1) + a))))).toInt = ((sR 1 2).toInt * (sR 1 0).toInt) * (sR 1 0).toInt + (sR 1 7).toInt * (((sR 1 1).toInt + a.toInt) * ((sR 1 1).toInt + a.toInt)) ∧ (0 ≤ ((sR 1 1).toInt + a.toInt) * ((sR 1 1).toInt + a.toInt) ∧ ((sR 1 1).toInt + a.toInt) * ((sR 1 1).toInt + a.toInt) ≤ 102400) := by
  have nR := okR_lin hR
  have pa := mul_bd (a := (sR 1 2).toInt) (b := (sR 1 0).toInt) (A := 9000) (B := 40) (by omega) (by omega) (by omega) (by omega)
  have pf := mul_bd (a := (sR 1 1).toInt + a.toInt) (b := (sR 1 1).toInt + a.toInt) (A := 320) (B := 320) (by omega) (by omega) (by omega) (by omega)
  have eB : ((sR 1 1) + a).toInt = (sR 1 1).toInt + a.toInt := t_add (by omega) (by omega)
  have lF : ((Int32.toInt64 ((sR 1 1) + a)) * (Int32.toInt64 ((sR 1 1) + a))).toInt = ((sR 1 1).toInt + a.toInt) * ((sR 1 1).toInt + a.toInt) := by rw [l_mul (by rw [il_t, eB]; omega) (by rw [il_t, eB]; omega), il_t, eB]
  have lCA : ((Int32.toInt64 (sR 1 2)) * (Int32.toInt64 (sR 1 0))).toInt = (sR 1 2).toInt * (sR 1 0).toInt := by rw [l_mul (by rw [il_t, il_t]; omega) (by rw [il_t, il_t]; omega), il_t, il_t]
  generalize (sR 1 2).toInt * (sR 1 0).toInt = CA at pa lCA ⊢
  generalize ((sR 1 1).toInt + a.toInt) * ((sR 1 1).toInt + a.toInt) = far at pf lF ⊢
  have p2 := mul_bd (a := CA) (b := (sR 1 0).toInt) (A := 360000) (B := 40) (by omega) (by omega) (by omega) (by omega)
  have p3 := mul_bd (a := (sR 1 7).toInt) (b := far) (A := 300) (B := 102400) (by omega) (by omega) (by omega) (by omega)
  have lC2 : (((Int32.toInt64 (sR 1 2)) * (Int32.toInt64 (sR 1 0))) * (Int32.toInt64 (sR 1 0))).toInt = CA * (sR 1 0).toInt := by rw [l_mul (by rw [lCA, il_t]; omega) (by rw [lCA, il_t]; omega), lCA, il_t]
  have lW : ((Int32.toInt64 (sR 1 7)) * ((Int32.toInt64 ((sR 1 1) + a)) * (Int32.toInt64 ((sR 1 1) + a)))).toInt = (sR 1 7).toInt * far := by rw [l_mul (by rw [il_t, lF]; omega) (by rw [il_t, lF]; omega), il_t, lF]
  exact ⟨lF, by rw [l_add (by rw [lC2, lW]; omega) (by rw [lC2, lW]; omega), lC2, lW], by omega⟩
theorem wind_eq {x : Int32} : (if 0 < x then x else 0) = (if 0 ≤ x then x else 0) := by
  by_cases c : 0 < x
  · have := lt_t c
    rw [tl_0] at this
    rw [if_pos c, if_pos (Int32.le_iff_toInt_le.mpr (by rw [tl_0]; omega))]
  · rw [if_neg c]
    have := nlt_t c
    rw [tl_0] at this
    by_cases d : 0 ≤ x
    · have := le_t d
      rw [tl_0] at this
      rw [if_pos d]
      exact t_ext (by rw [tl_0]; omega)
    · rw [if_neg d]
/-- the range by the reference, out of its reach -/
def rngR (sR : St) (re : Int32) : Int32 := (if 0 ≤ (m_R_flightOf sR (sR 1 8) re) + (((sR 0 1) * (m_R_flightOf sR (sR 1 8) re)) / 100) then (m_R_flightOf sR (sR 1 8) re) + (((sR 0 1) * (m_R_flightOf sR (sR 1 8) re)) / 100) else 0)
theorem flightR_ext {s t : St} (h : t 1 7 = s 1 7) {k r : Int32} : m_R_flightOf t k r = m_R_flightOf s k r := by
  unfold m_R_flightOf b_R_flightOf_21 b_R_flightOf_31 b_R_flightOf_49 b_R_flightOf_65
  rw [h]
theorem flightM_ext {s t : St} (h : t 1 7 = s 1 7) {k r : Int32} : m_M_flightOf t k r = m_M_flightOf s k r := by
  unfold m_M_flightOf
  rw [h]
theorem rng_b (hR : okR sR) (hw : -20 ≤ (sR 0 1).toInt ∧ (sR 0 1).toInt ≤ 20) {re : Int32} (hr : 0 ≤ re.toInt ∧ re.toInt ≤ 20000) : 0 ≤ (rngR sR re).toInt ∧ (rngR sR re).toInt ≤ 30000 := by
  have nR := okR_lin hR
  have f := (flight_eq (sM := sR) (kd := sR 1 8) (r := re) hR rfl ⟨by omega, by omega⟩ hr).2
  unfold rngR
  generalize m_R_flightOf sR (sR 1 8) re = v at f ⊢
  have z0 := tl_0
  by_cases c : 0 ≤ v + (((sR 0 1) * v) / 100)
  · rw [if_pos c]
    have l := le_t c
    refine ⟨by omega, ?_⟩
    have m1 : (sR 0 1).toInt * v.toInt ≤ 20 * v.toInt := Int.mul_le_mul_of_nonneg_right hw.2 f.1
    have m2 : (-20) * v.toInt ≤ (sR 0 1).toInt * v.toInt := Int.mul_le_mul_of_nonneg_right hw.1 f.1
    have em : ((sR 0 1) * v).toInt = (sR 0 1).toInt * v.toInt := t_mul (by omega) (by omega)
    have ed : -10000 ≤ (((sR 0 1) * v) / 100).toInt ∧ (((sR 0 1) * v) / 100).toInt ≤ 10000 := by
      rw [Int32.toInt_div, em, tl_100]
      by_cases s : 0 ≤ (sR 0 1).toInt * v.toInt
      · rw [Int.tdiv_eq_ediv_of_nonneg s, t_bmod (by omega) (by omega)]; omega
      · have e : (-((sR 0 1).toInt * v.toInt)).tdiv 100 = (-((sR 0 1).toInt * v.toInt)) / 100 := Int.tdiv_eq_ediv_of_nonneg (by omega)
        rw [Int.neg_tdiv] at e
        rw [t_bmod (by omega) (by omega)]; omega
    rw [t_add (by omega) (by omega)]
    omega
  · rw [if_neg c, z0]; omega
/-- a throw that lets go, in numbers: turn T, given G -/
theorem release {s1 u : St} {T G : Int32} (hR : okR sR) (hM : relM sM sR) (ha : 10 ≤ a.toInt ∧ a.toInt ≤ 160) (hb : 0 ≤ b.toInt ∧ b.toInt ≤ 60) (h1 : ∀ k j, k ≠ 3 → s1 k j = sM k j) (hu : ∀ k j, (k ≠ 0 ∨ j < 19 ∨ 25 < j) → u k j = sR k j) (hT : 1 ≤ T.toInt ∧ T.toInt ≤ 160) (hG : sM 2 (Int32.toNatClampNeg T) = G) (hG1 : 0 < G.toInt) (hG2 : G.toInt ≤ 2 * ((sR 1 2).toInt * (sR 1 0).toInt)) (u19 : u 0 19 = T) (u21 : u 0 21 = G) :
    (m_R_in ((180 - (T - (sR 1 5))) - b) 1 89 = 0 ∧ m_M_reckonRelease s1 T a b = up (up (up s1 3 0 T) 3 2 G) 3 3 ((180 - (T - (sR 1 5))) - b) ∧ b_R_step_129 u a b = up u 0 22 ((180 - (T - (sR 1 5))) - b)) ∨
    ∃ sp re : Int32, (0 ≤ re.toInt ∧ re.toInt ≤ 20000) ∧ m_M_reckonRelease s1 T a b = up (up (up (up (up (up s1 3 0 T) 3 2 G) 3 3 ((180 - (T - (sR 1 5))) - b)) 3 4 sp) 3 5 re) 3 6 (rngR sR re) ∧ b_R_step_129 u a b = up (up (up (up u 0 22 ((180 - (T - (sR 1 5))) - b)) 0 23 sp) 0 24 re) 0 25 (rngR sR re) := by
  have nR := okR_lin hR
  have eM5 : s1 1 5 = sR 1 5 := (h1 1 5 (by omega)).trans (hM.1 5 (by decide))
  have eR5 : u 1 5 = sR 1 5 := hu 1 5 (by omega)
  have eg : s1 2 (Int32.toNatClampNeg T) = G := (h1 2 _ (by omega)).trans hG
  have n19 : ¬ T = -9 := n9 (by omega)
  unfold m_M_reckonRelease b_M_reckonRelease_16 b_R_step_129
  rw [eM5, eg, u19, eR5, if_neg n19]
  generalize hH : ((180 - (T - (sR 1 5))) - b) = h
  by_cases c : m_T_within h 1 89 = 0
  · have c' : m_R_in h 1 89 = 0 := c
    left
    rw [if_pos c, if_pos c']
    exact ⟨c', rfl, rfl⟩
  have c' : ¬ m_R_in h 1 89 = 0 := c
  right
  rw [if_neg c, if_neg c']
  have w := within_t c
  rw [tl_1, show (89 : Int32).toInt = 89 by decide +kernel] at w
  obtain ⟨lF, lL, fb⟩ := load_t hR ha
  have pa := mul_bd (a := (sR 1 2).toInt) (b := (sR 1 0).toInt) (A := 9000) (B := 40) (by omega) (by omega) (by omega) (by omega)
  have capos : 0 < (sR 1 2).toInt * (sR 1 0).toInt := Int.mul_pos (by omega) (by omega)
  -- the speed of both
  have l2g : (2 * (Int32.toInt64 G)).toInt = 2 * G.toInt := by rw [l_mul (by rw [l2, il_t]; omega) (by rw [l2, il_t]; omega), l2, il_t]
  have pn := mul_bd (a := 2 * G.toInt) (b := ((sR 1 1).toInt + a.toInt) * ((sR 1 1).toInt + a.toInt)) (A := 1440000) (B := 102400) (by omega) (by omega) fb.1 fb.2
  have lN : ((2 * (Int32.toInt64 G)) * ((Int32.toInt64 ((sR 1 1) + a)) * (Int32.toInt64 ((sR 1 1) + a)))).toInt = 2 * G.toInt * (((sR 1 1).toInt + a.toInt) * ((sR 1 1).toInt + a.toInt)) := by rw [l_mul (by rw [l2g, lF]; omega) (by rw [l2g, lF]; omega), l2g, lF]
  have sb := speed_b (g := G.toInt) (CA := (sR 1 2).toInt * (sR 1 0).toInt) (A := (sR 1 0).toInt) (W := (sR 1 7).toInt) (far := ((sR 1 1).toInt + a.toInt) * ((sR 1 1).toInt + a.toInt)) (by omega) hG2 capos (by omega) (by omega) fb.1 fb.2
  have lpos : 0 < ((sR 1 2).toInt * (sR 1 0).toInt) * (sR 1 0).toInt + (sR 1 7).toInt * (((sR 1 1).toInt + a.toInt) * ((sR 1 1).toInt + a.toInt)) := by
    have q1 : 0 < ((sR 1 2).toInt * (sR 1 0).toInt) * (sR 1 0).toInt := Int.mul_pos capos (by omega)
    have q2 : 0 ≤ (sR 1 7).toInt * (((sR 1 1).toInt + a.toInt) * ((sR 1 1).toInt + a.toInt)) := Int.mul_nonneg (by omega) fb.1
    omega
  have eSp : m_M_speedFor (up (up (up s1 3 0 T) 3 2 G) 3 3 h) G a = m_T_down ((2 * (Int32.toInt64 G)) * ((Int32.toInt64 ((sR 1 1) + a)) * (Int32.toInt64 ((sR 1 1) + a)))) ((((Int32.toInt64 (sR 1 2)) * (Int32.toInt64 (sR 1 0))) * (Int32.toInt64 (sR 1 0))) + ((Int32.toInt64 (sR 1 7)) * ((Int32.toInt64 ((sR 1 1) + a)) * (Int32.toInt64 ((sR 1 1) + a))))) := by
    have r1 : ∀ i, i < 9 → (up (up (up s1 3 0 T) 3 2 G) 3 3 h) 1 i = sR 1 i := fun i hi => by rw [up_other (by omega), up_other (by omega), up_other (by omega), h1 1 i (by omega)]; exact hM.1 i hi
    unfold m_M_speedFor
    rw [r1 0 (by decide), r1 1 (by decide), r1 2 (by decide), r1 7 (by decide)]
  have vM := down_t (a := ((2 * (Int32.toInt64 G)) * ((Int32.toInt64 ((sR 1 1) + a)) * (Int32.toInt64 ((sR 1 1) + a))))) (b := ((((Int32.toInt64 (sR 1 2)) * (Int32.toInt64 (sR 1 0))) * (Int32.toInt64 (sR 1 0))) + ((Int32.toInt64 (sR 1 7)) * ((Int32.toInt64 ((sR 1 1) + a)) * (Int32.toInt64 ((sR 1 1) + a)))))) (by omega) (by omega)
  have vR := ldiv_t (a := ((2 * (Int32.toInt64 G)) * ((Int32.toInt64 ((sR 1 1) + a)) * (Int32.toInt64 ((sR 1 1) + a))))) (b := ((((Int32.toInt64 (sR 1 2)) * (Int32.toInt64 (sR 1 0))) * (Int32.toInt64 (sR 1 0))) + ((Int32.toInt64 (sR 1 7)) * ((Int32.toInt64 ((sR 1 1) + a)) * (Int32.toInt64 ((sR 1 1) + a)))))) (by omega) (by omega)
  have same := l_ext (vM.trans vR.symm)
  rw [lN, lL] at vR
  rw [← vR] at sb
  rw [eSp, same]
  have uu : ∀ i, i < 9 → up u 0 22 h 1 i = sR 1 i := fun i hi => by rw [up_other (by omega), hu 1 i (by omega)]
  unfold b_M_reckonRelease_68 b_M_reckonRelease_87 b_M_reckonRelease_121 b_R_step_194 b_R_step_245 b_R_step_270 b_R_step_302
  have e11 : u 1 1 = sR 1 1 := hu 1 1 (by omega)
  rw [uu 0 (by decide), uu 2 (by decide), uu 7 (by decide), up_other (s := u) (k := 0) (j := 21) (by omega), u21, e11]
  generalize (((2 * (Int32.toInt64 G)) * ((Int32.toInt64 ((sR 1 1) + a)) * (Int32.toInt64 ((sR 1 1) + a)))) / ((((Int32.toInt64 (sR 1 2)) * (Int32.toInt64 (sR 1 0))) * (Int32.toInt64 (sR 1 0))) + ((Int32.toInt64 (sR 1 7)) * ((Int32.toInt64 ((sR 1 1) + a)) * (Int32.toInt64 ((sR 1 1) + a)))))) = x5 at sb ⊢
  clear vM vR same lN lL lF pn eSp lpos
  have hsp : (Int64.toInt32 x5).toInt = x5.toInt := li_t (by omega) (by omega)
  have hback : Int32.toInt64 (Int64.toInt32 x5) = x5 := l_ext (by rw [il_t, hsp])
  have hr22 : (up (up u 0 22 h) 0 23 (Int64.toInt32 x5)) 0 22 = h := by rw [up_other (by omega), up_get]
  have hr23 : (up (up u 0 22 h) 0 23 (Int64.toInt32 x5)) 0 23 = Int64.toInt32 x5 := up_get
  rw [hr22, hr23, hback]
  have t2h : (2 * h).toInt = 2 * h.toInt := by rw [t_mul (by rw [tl_2]; omega) (by rw [tl_2]; omega), tl_2]
  obtain ⟨se, s1k, s2k, s3k⟩ := sine_eq (x := 2 * h) (by omega)
  have s0 := s3k (by omega)
  rw [se]
  have pq := mul_bd (a := x5.toInt) (b := (m_R_sineOf (2 * h)).toInt) (A := 81920) (B := 1000) sb.1 sb.2 s0 s2k
  have lQ : (x5 * (Int32.toInt64 (m_R_sineOf (2 * h)))).toInt = x5.toInt * (m_R_sineOf (2 * h)).toInt := by rw [l_mul (by rw [il_t]; omega) (by rw [il_t]; omega), il_t]
  have wM := down_t (a := x5 * (Int32.toInt64 (m_R_sineOf (2 * h)))) (b := 8000) (by rw [l8000]; omega) (by omega)
  have wR := ldiv_t (a := x5 * (Int32.toInt64 (m_R_sineOf (2 * h)))) (b := 8000) (by omega) (by rw [l8000]; omega)
  rw [l_ext (wM.trans wR.symm)]
  rw [lQ, l8000] at wR
  generalize ((x5 * (Int32.toInt64 (m_R_sineOf (2 * h)))) / 8000) = x7 at wR ⊢
  have hre : (Int64.toInt32 x7).toInt = x7.toInt := li_t (by omega) (by omega)
  have hreb : 0 ≤ (Int64.toInt32 x7).toInt ∧ (Int64.toInt32 x7).toInt ≤ 20000 := by rw [hre]; omega
  refine ⟨Int64.toInt32 x5, Int64.toInt32 x7, hreb, ?_, ?_⟩
  · have r1 : ∀ i, i < 9 → (up (up (up s1 3 0 T) 3 2 G) 3 3 h) 1 i = sR 1 i := fun i hi => by rw [up_other (by omega), up_other (by omega), up_other (by omega), h1 1 i (by omega)]; exact hM.1 i hi
    have r2 : (up (up (up (up (up s1 3 0 T) 3 2 G) 3 3 h) 3 4 (Int64.toInt32 x5)) 3 5 (Int64.toInt32 x7)) 1 7 = sR 1 7 := by rw [up_other (by omega), up_other (by omega), r1 7 (by decide)]
    have r3 : (up (up (up (up (up s1 3 0 T) 3 2 G) 3 3 h) 3 4 (Int64.toInt32 x5)) 3 5 (Int64.toInt32 x7)) 0 5 = sR 0 1 := by rw [up_other (by omega), up_other (by omega), up_other (by omega), up_other (by omega), up_other (by omega), h1 0 5 (by omega)]; exact hM.2.1
    rw [r1 8 (by decide), (flight_eq (sM := (up (up (up (up (up s1 3 0 T) 3 2 G) 3 3 h) 3 4 (Int64.toInt32 x5)) 3 5 (Int64.toInt32 x7))) (kd := sR 1 8) (r := Int64.toInt32 x7) hR r2 ⟨by omega, by omega⟩ hreb).1, r3, wind_eq]
    rfl
  · have r2 : (up (up (up u 0 22 h) 0 23 (Int64.toInt32 x5)) 0 24 (Int64.toInt32 x7)) 1 7 = sR 1 7 := by rw [up_other (by omega), up_other (by omega), uu 7 (by decide)]
    have r8 : (up (up (up u 0 22 h) 0 23 (Int64.toInt32 x5)) 0 24 (Int64.toInt32 x7)) 1 8 = sR 1 8 := by rw [up_other (by omega), up_other (by omega), uu 8 (by decide)]
    have r3 : (up (up (up u 0 22 h) 0 23 (Int64.toInt32 x5)) 0 24 (Int64.toInt32 x7)) 0 1 = sR 0 1 := by rw [up_other (by omega), up_other (by omega), up_other (by omega), hu 0 1 (by omega)]
    rw [flightR_ext r2, r8, r3, up_get]
    unfold rngR
    split <;> rfl
end REL
