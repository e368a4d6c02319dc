/-! longs: the two ways to divide -/
theorem lgc_pos {y : Int64} : (lg_cmp y 0 ≤ 0) ↔ y.toInt ≤ 0 := by
  have z : (0 : Int64).toInt = 0 := by decide
  unfold lg_cmp
  by_cases h : y > 0
  · have := Int64.lt_iff_toInt_lt.mp h
    rw [if_pos h]
    exact ⟨fun q => absurd q (by decide), fun q => by omega⟩
  · rw [if_neg h]
    have h2 : y.toInt ≤ 0 := Int.not_lt.mp (fun k => h (Int64.lt_iff_toInt_lt.mpr (by rw [z]; exact k)))
    refine ⟨fun _ => h2, fun _ => ?_⟩
    split <;> decide
theorem lgc_nn {y : Int64} : (0 ≤ lg_cmp y 0) ↔ 0 ≤ y.toInt := by
  have z : (0 : Int64).toInt = 0 := by decide
  unfold lg_cmp
  by_cases h : y > 0
  · have := Int64.lt_iff_toInt_lt.mp h
    rw [if_pos h]
    exact ⟨fun _ => by omega, fun _ => by decide⟩
  · rw [if_neg h]
    have h2 : y.toInt ≤ 0 := Int.not_lt.mp (fun k => h (Int64.lt_iff_toInt_lt.mpr (by rw [z]; exact k)))
    by_cases e : y = 0
    · rw [if_pos e, e, z]; exact ⟨fun _ => by omega, fun _ => by decide⟩
    · rw [if_neg e]
      refine ⟨fun q => absurd q (by decide), fun q => ?_⟩
      exact absurd (l_ext (a := y) (b := 0) (by omega)) e
theorem lgc_eq0 {a b : Int64} : (lg_cmp a b = 0) ↔ a = b := by
  unfold lg_cmp
  by_cases h : a > b
  · rw [if_pos h]
    refine ⟨fun q => absurd q (by decide), fun q => ?_⟩
    subst q
    have := Int64.lt_iff_toInt_lt.mp h
    omega
  · rw [if_neg h]
    by_cases e : a = b
    · rw [if_pos e]; exact ⟨fun _ => e, fun _ => rfl⟩
    · rw [if_neg e]; exact ⟨fun q => absurd q (by decide), fun q => absurd q e⟩
theorem xor_nn {a b : Int64} (hb : 0 ≤ b.toInt) : 0 ≤ (a ^^^ b).toInt ↔ 0 ≤ a.toInt := by
  have k : ∀ x : Int64, (0 ≤ x.toInt) ↔ x.toBitVec.msb = false := by
    intro x
    rw [BitVec.msb_eq_toInt, Int64.toInt_toBitVec, decide_eq_false_iff_not, Int.not_lt]
  rw [k, k, Int64.toBitVec_xor, BitVec.msb_xor, (k b).mp hb]
  simp
theorem fdiv_t {a b : Int64} (hb : 0 < b.toInt) (ha : -9223372036854775808 < a.toInt) : (m_J_floorDiv a b).toInt = a.toInt / b.toInt := by
  have hr := l_rng a
  have hbr := l_rng b
  have hd : (a / b).toInt = a.toInt.tdiv b.toInt := Int64.toInt_div_of_ne_right a b (fun e => by rw [e] at hb; exact absurd hb (by decide))
  unfold m_J_floorDiv
  by_cases h0 : 0 ≤ a.toInt
  · rw [if_pos (lgc_nn.mpr ((xor_nn (by omega)).mpr h0)), hd, Int.tdiv_eq_ediv_of_nonneg h0]
  rw [if_neg (fun q => h0 ((xor_nn (by omega)).mp (lgc_nn.mp q)))]
  have h1 := Int.mul_ediv_add_emod (-a.toInt) b.toInt
  have h2 := Int.emod_nonneg (-a.toInt) (by omega : b.toInt ≠ 0)
  have h3 := Int.emod_lt_of_pos (-a.toInt) hb
  have ht : a.toInt.tdiv b.toInt = -((-a.toInt) / b.toInt) := by
    have e : (-a.toInt).tdiv b.toInt = (-a.toInt) / b.toInt := Int.tdiv_eq_ediv_of_nonneg (by omega)
    rw [Int.neg_tdiv] at e
    omega
  generalize hq : (-a.toInt) / b.toInt = q at h1 ht
  generalize hrr : (-a.toInt) % b.toInt = r at h1 h2 h3
  have hq0 : 0 ≤ q := by rw [← hq]; exact Int.ediv_nonneg (by omega) (by omega)
  have hqle : q ≤ -a.toInt := by rw [← hq]; exact Int.ediv_le_self _ (by omega)
  have hm : ((a / b) * b).toInt = -(b.toInt * q) := by
    have hbq : 0 ≤ b.toInt * q := Int.mul_nonneg (by omega) hq0
    have e : (a / b).toInt * b.toInt = -(b.toInt * q) := by rw [hd, ht, Int.neg_mul, Int.mul_comm]
    rw [l_mul (by rw [e]; omega) (by rw [e]; omega), e]
  by_cases hr0 : r = 0
  · rw [if_pos (lgc_eq0.mpr (l_ext (by rw [hm]; omega))), hd, ht]
    have e : a.toInt = b.toInt * (-q) := by rw [Int.mul_neg]; omega
    rw [e, Int.mul_ediv_cancel_left _ (by omega)]
  · rw [if_neg (fun k => hr0 (by have := congrArg Int64.toInt (lgc_eq0.mp k); rw [hm] at this; omega))]
    have z1 : (1 : Int64).toInt = 1 := by decide
    rw [l_sub (by rw [hd, ht, z1]; omega) (by rw [hd, ht, z1]; omega), hd, ht, z1]
    have e : a.toInt = b.toInt * (-q - 1) + (b.toInt - r) := by rw [Int.mul_sub, Int.mul_neg, Int.mul_one]; omega
    have e2 : a.toInt / b.toInt = -q - 1 + (b.toInt - r) / b.toInt := by rw [e, Int.mul_add_ediv_left _ _ (by omega)]
    rw [e2, Int.ediv_eq_zero_of_lt (by omega) (by omega)]
    omega
theorem down_t {a b : Int64} (hb : 0 < b.toInt) (ha : -9223372036854775808 < a.toInt) : (m_T_down a b).toInt = a.toInt / b.toInt := by
  unfold m_T_down
  rw [if_neg (fun q => by have := lgc_pos.mp q; omega), fdiv_t hb ha]
theorem up_t {a b : Int64} (hb : 0 < b.toInt) (ha : 0 ≤ a.toInt) : (m_T_up a b).toInt = -((-a.toInt) / b.toInt) := by
  have hr := l_rng a
  have e : (-a).toInt = -a.toInt := l_neg (by omega)
  have h1 : (-a.toInt) / b.toInt ≤ 0 := by
    have := Int.ediv_le_ediv (c := b.toInt) hb (show -a.toInt ≤ 0 by omega)
    rw [Int.zero_ediv] at this
    exact this
  have h2 : -a.toInt ≤ (-a.toInt) / b.toInt := by
    rw [Int.le_ediv_iff_mul_le hb, Int.neg_mul]
    have := Int.mul_le_mul_of_nonneg_left (show 1 ≤ b.toInt by omega) ha
    omega
  unfold m_T_up
  rw [if_neg (fun q => by have := lgc_pos.mp q; omega), l_neg (by rw [fdiv_t hb (by omega), e]; omega), fdiv_t hb (by omega), e]
theorem ceil_b {a b : Int} (hb : 0 < b) : b * (-((-a) / b)) < a + b ∧ a ≤ b * (-((-a) / b)) := by
  have h1 := Int.mul_ediv_add_emod (-a) b
  have h2 := Int.emod_nonneg (-a) (by omega : b ≠ 0)
  have h3 := Int.emod_lt_of_pos (-a) hb
  rw [Int.mul_neg]
  omega
theorem ceil_e {a b : Int} (hb : 0 < b) : -((-a) / b) = (a + b - 1) / b := by
  have h := ceil_b (a := a) hb
  generalize -((-a) / b) = c at h
  have h1 : c ≤ (a + b - 1) / b := by rw [Int.le_ediv_iff_mul_le hb, Int.mul_comm]; omega
  have h2 : (a + b - 1) / b < c + 1 := by rw [Int.ediv_lt_iff_lt_mul hb, Int.add_mul, Int.one_mul, Int.mul_comm]; omega
  omega
theorem t_dive {a b : Int32} (h : 0 ≤ a.toInt) : (a / b).toInt = a.toInt / b.toInt := by rw [t_div h, Int.tdiv_eq_ediv_of_nonneg h]
