/-! the wall: a column's number against the reference's rows -/
def cntb (v : Int32) : Nat → Nat
  | 0 => 0
  | h + 1 => cntb v h + (if v.toInt.toNat.testBit h then 1 else 0)
def clrb (v : Int32) (y : Int32) : Int32 := v &&& ((1 <<< (y &&& 31)) ^^^ (-1))
def setb (v : Int32) (y : Int32) : Int32 := v ||| (1 <<< (y &&& 31))
theorem holds_tab : ∀ n : Nat, n < 64 → ∀ y : Nat, y < 6 → m_L_holds (Int32.ofNat n) (Int32.ofNat y) = bt (Int32.ofNat n) y := by decide +kernel
theorem bc_tab : ∀ h : Nat, h < 7 → ∀ n : Nat, n < 2 ^ h → (m_J_bitCount (Int32.ofNat n)).toInt = (cntb (Int32.ofNat n) h : Int) := by decide +kernel
theorem clr_tab : ∀ n : Nat, n < 64 → ∀ y : Nat, y < 6 → ∀ z : Nat, z < 6 → bt (clrb (Int32.ofNat n) (Int32.ofNat y)) z = (if z = y then 0 else bt (Int32.ofNat n) z) := by decide +kernel
theorem clr_le : ∀ n : Nat, n < 64 → ∀ y : Nat, y < 6 → 0 ≤ (clrb (Int32.ofNat n) (Int32.ofNat y)).toInt ∧ (clrb (Int32.ofNat n) (Int32.ofNat y)).toInt ≤ (n : Int) := by decide +kernel
theorem clr_cnt : ∀ n : Nat, n < 64 → ∀ y : Nat, y < 6 → ∀ h : Nat, h < 7 → y < h → cntb (clrb (Int32.ofNat n) (Int32.ofNat y)) h + (if (Int32.ofNat n).toInt.toNat.testBit y then 1 else 0) = cntb (Int32.ofNat n) h := by decide +kernel
theorem set_tab : ∀ n : Nat, n < 64 → ∀ y : Nat, y < 6 → ∀ z : Nat, z < 6 → bt (setb (Int32.ofNat n) (Int32.ofNat y)) z = (if z = y then 1 else bt (Int32.ofNat n) z) := by decide +kernel
theorem set_lt : ∀ h : Nat, h < 7 → ∀ n : Nat, n < 2 ^ h → ∀ y : Nat, y < h → 0 ≤ (setb (Int32.ofNat n) (Int32.ofNat y)).toInt ∧ (setb (Int32.ofNat n) (Int32.ofNat y)).toInt < 2 ^ h := by decide +kernel
theorem full_tab : ∀ h : Nat, h < 7 → 0 ≤ (((1 : Int32) <<< (Int32.ofNat h &&& 31)) - 1).toInt ∧ (((1 : Int32) <<< (Int32.ofNat h &&& 31)) - 1).toInt < 2 ^ h ∧ ∀ y : Nat, y < h → bt (((1 : Int32) <<< (Int32.ofNat h &&& 31)) - 1) y = 1 := by decide +kernel
theorem cnt_le : ∀ n : Nat, n < 64 → ∀ h : Nat, h < 7 → cntb (Int32.ofNat n) h ≤ 6 := by decide +kernel
theorem pow_le64 {h : Nat} (hh : h ≤ 6) : 2 ^ h ≤ 64 := Nat.pow_le_pow_right (n := 2) (by decide) hh
theorem powi {h : Nat} : (2 : Int) ^ h = ((2 ^ h : Nat) : Int) := by simp
theorem bt_01 {v : Int32} {y : Nat} : bt v y = 0 ∨ bt v y = 1 := by
  unfold bt
  split
  · exact Or.inr rfl
  · exact Or.inl rfl
section COL
variable {v : Int32} {h : Nat} {y z : Nat}
theorem holds_bt (hh : h ≤ 6) (h0 : 0 ≤ v.toInt) (h1 : v.toInt < 2 ^ h) {yi : Int32} (hy : yi.toInt = (y : Int)) (hyh : y < h) : m_L_holds v yi = bt v y := by
  rw [powi] at h1
  have hp := pow_le64 hh
  rw [eq_ofNat (i := v) (k := v.toInt.toNat) (by omega), eq_ofNat hy]
  exact holds_tab _ (by omega) _ (by omega)
theorem bc_cnt (hh : h ≤ 6) (h0 : 0 ≤ v.toInt) (h1 : v.toInt < 2 ^ h) : (m_J_bitCount v).toInt = (cntb v h : Int) := by
  rw [powi] at h1
  rw [eq_ofNat (i := v) (k := v.toInt.toNat) (by omega)]
  exact bc_tab h (by omega) _ (by omega)
theorem clr_bt (hh : h ≤ 6) (h0 : 0 ≤ v.toInt) (h1 : v.toInt < 2 ^ h) {yi : Int32} (hy : yi.toInt = (y : Int)) (hyh : y < h) (hz : z < h) : bt (clrb v yi) z = (if z = y then 0 else bt v z) := by
  rw [powi] at h1
  have hp := pow_le64 hh
  rw [eq_ofNat (i := v) (k := v.toInt.toNat) (by omega), eq_ofNat hy]
  exact clr_tab _ (by omega) _ (by omega) _ (by omega)
theorem clr_b (hh : h ≤ 6) (h0 : 0 ≤ v.toInt) (h1 : v.toInt < 2 ^ h) {yi : Int32} (hy : yi.toInt = (y : Int)) (hyh : y < h) : 0 ≤ (clrb v yi).toInt ∧ (clrb v yi).toInt < 2 ^ h := by
  have h2 := h1
  rw [powi] at h1
  have hp := pow_le64 hh
  have e := eq_ofNat (i := v) (k := v.toInt.toNat) (by omega)
  have q := clr_le v.toInt.toNat (by omega) y (by omega)
  rw [← e, ← eq_ofNat hy] at q
  exact ⟨q.1, by omega⟩
theorem clr_c (hh : h ≤ 6) (h0 : 0 ≤ v.toInt) (h1 : v.toInt < 2 ^ h) {yi : Int32} (hy : yi.toInt = (y : Int)) (hyh : y < h) : (bt v y = 1 → cntb (clrb v yi) h + 1 = cntb v h) ∧ (bt v y = 0 → cntb (clrb v yi) h = cntb v h) := by
  rw [powi] at h1
  have hp := pow_le64 hh
  have e := eq_ofNat (i := v) (k := v.toInt.toNat) (by omega)
  have q := clr_cnt v.toInt.toNat (by omega) y (by omega) h (by omega) hyh
  rw [← e, ← eq_ofNat hy] at q
  unfold bt
  split at q
  · rename_i c
    rw [if_pos c]
    exact ⟨fun _ => q, fun k => absurd k (by decide)⟩
  · rename_i c
    rw [if_neg c]
    exact ⟨fun k => absurd k (by decide), fun _ => q⟩
theorem set_bt (hh : h ≤ 6) (h0 : 0 ≤ v.toInt) (h1 : v.toInt < 2 ^ h) {yi : Int32} (hy : yi.toInt = (y : Int)) (hyh : y < h) (hz : z < h) : bt (setb v yi) z = (if z = y then 1 else bt v z) := by
  rw [powi] at h1
  have hp := pow_le64 hh
  rw [eq_ofNat (i := v) (k := v.toInt.toNat) (by omega), eq_ofNat hy]
  exact set_tab _ (by omega) _ (by omega) _ (by omega)
theorem set_b (hh : h ≤ 6) (h0 : 0 ≤ v.toInt) (h1 : v.toInt < 2 ^ h) {yi : Int32} (hy : yi.toInt = (y : Int)) (hyh : y < h) : 0 ≤ (setb v yi).toInt ∧ (setb v yi).toInt < 2 ^ h := by
  rw [powi] at h1
  have e := eq_ofNat (i := v) (k := v.toInt.toNat) (by omega)
  have q := set_lt h (by omega) v.toInt.toNat (by omega) y hyh
  rw [← e, ← eq_ofNat hy] at q
  exact q
theorem cnt_6 (hh : h ≤ 6) (h0 : 0 ≤ v.toInt) (h1 : v.toInt < 2 ^ h) : cntb v h ≤ 6 := by
  rw [powi] at h1
  have hp := pow_le64 hh
  have e := eq_ofNat (i := v) (k := v.toInt.toNat) (by omega)
  have q := cnt_le v.toInt.toNat (by omega) h (by omega)
  rw [← e] at q
  exact q
end COL
theorem cntb_s {v : Int32} {h : Nat} : ((cntb v (h + 1) : Nat) : Int) = (cntb v h : Int) + (bt v h).toInt := by
  show ((cntb v h + (if v.toInt.toNat.testBit h then 1 else 0) : Nat) : Int) = _
  unfold bt
  split
  · rw [tl_1]; omega
  · rw [tl_0]; omega
theorem in_1 {v a b : Int32} (h1 : a.toInt ≤ v.toInt) (h2 : v.toInt ≤ b.toInt) : m_R_in v a b = 1 := by
  unfold m_R_in
  rw [if_neg (fun q => by have := lt_t q; omega), if_neg (fun q => by have := lt_t q; omega)]
theorem in_0 {v a b : Int32} (h : v.toInt < a.toInt ∨ b.toInt < v.toInt) : m_R_in v a b = 0 := by
  unfold m_R_in
  by_cases c : v < a
  · rw [if_pos c]
  · rw [if_neg c]
    have := nlt_t c
    rw [if_pos (Int32.lt_iff_toInt_lt.mpr (by omega))]
theorem within_1 {v a b : Int32} (h1 : a.toInt ≤ v.toInt) (h2 : v.toInt ≤ b.toInt) : m_T_within v a b = 1 := in_1 h1 h2
theorem within_0 {v a b : Int32} (h : v.toInt < a.toInt ∨ b.toInt < v.toInt) : m_T_within v a b = 0 := in_0 h
theorem idx_inj {w x y x' y' : Nat} (h1 : x < w) (h2 : x' < w) (e : x + w * y = x' + w * y') : x = x' ∧ y = y' := by
  have a1 : (x + w * y) % w = x := by rw [Nat.add_mul_mod_self_left, Nat.mod_eq_of_lt h1]
  have a2 : (x' + w * y') % w = x' := by rw [Nat.add_mul_mod_self_left, Nat.mod_eq_of_lt h2]
  have b1 : (x + w * y) / w = y := by rw [Nat.add_mul_div_left _ _ (by omega), Nat.div_eq_of_lt h1, Nat.zero_add]
  have b2 : (x' + w * y') / w = y' := by rw [Nat.add_mul_div_left _ _ (by omega), Nat.div_eq_of_lt h2, Nat.zero_add]
  rw [e] at a1 b1
  exact ⟨a1.symm.trans a2, b1.symm.trans b2⟩
/-- a cell of the wall, as numbers -/
def At (sR : St) (x y : Int32) (xn yn : Nat) : Prop := x.toInt = (xn : Int) ∧ y.toInt = (yn : Int) ∧ (xn : Int) < (sR 0 6).toInt ∧ (yn : Int) < (sR 0 7).toInt
section WALL
variable {sL sR : St}
theorem At.idx (hR : okR sR) {x y : Int32} {xn yn : Nat} (a : At sR x y xn yn) : Int32.toNatClampNeg (x + (sR 0 6) * y) = xn + (sR 0 6).toInt.toNat * yn := by
  obtain ⟨hx, hy, h1, h2⟩ := a
  have q := cell_b hR (x := x) (y := y) ⟨by omega, by omega, by omega, by omega⟩
  refine cl_n ?_
  rw [q.1, hx, hy]
  have nR := okR_lin hR
  have : ((sR 0 6).toInt.toNat : Int) = (sR 0 6).toInt := by omega
  rw [Int.natCast_add, Int.natCast_mul, this]
theorem At.place (hR : okR sR) {x y : Int32} {xn yn : Nat} (a : At sR x y xn yn) : Int32.toNatClampNeg (m_L_place x y) = 6 * xn + yn := by
  obtain ⟨hx, hy, h1, h2⟩ := a
  have nR := okR_lin hR
  refine cl_n ?_
  rw [place_t (by omega)]
  omega
theorem At.x {x y : Int32} {xn yn : Nat} (a : At sR x y xn yn) : Int32.toNatClampNeg x = xn := cl_n a.1
theorem has_cases (hR : okR sR) (hL : relL sL sR) (x y : Int32) : (m_L_has sL x y = 0 ∧ m_R_isCell sR x y = 0) ∨ (m_L_has sL x y = 1 ∧ m_R_isCell sR x y = 1 ∧ ∃ xn yn : Nat, At sR x y xn yn) := by
  have nR := okR_lin hR
  have z0 := tl_0
  have z1 := tl_1
  have e6 : (sR 0 6 - 1).toInt = (sR 0 6).toInt - 1 := by rw [t_sub (by omega) (by omega), tl_1]
  have e7 : (sR 0 7 - 1).toInt = (sR 0 7).toInt - 1 := by rw [t_sub (by omega) (by omega), tl_1]
  unfold m_L_has m_R_isCell
  rw [hL.1, hL.2.1]
  by_cases a1 : x.toInt < 0
  · left
    rw [if_pos (Int32.lt_iff_toInt_lt.mpr (by omega)), if_pos (in_0 (by omega))]
    exact ⟨rfl, rfl⟩
  rw [if_neg (fun q => by have := lt_t q; omega)]
  by_cases a2 : (sR 0 6).toInt ≤ x.toInt
  · left
    rw [if_pos (Int32.le_iff_toInt_le.mpr (by omega)), if_pos (in_0 (by omega))]
    exact ⟨rfl, rfl⟩
  rw [if_neg (fun q => by have := le_t q; omega), if_neg (c := m_R_in x 0 (sR 0 6 - 1) = 0) (by rw [in_1 (by omega) (by omega)]; decide)]
  by_cases a3 : y.toInt < 0
  · left
    rw [if_pos (Int32.lt_iff_toInt_lt.mpr (by omega)), if_pos (in_0 (by omega))]
    exact ⟨rfl, rfl⟩
  rw [if_neg (fun q => by have := lt_t q; omega)]
  by_cases a4 : (sR 0 7).toInt ≤ y.toInt
  · left
    rw [if_pos (Int32.le_iff_toInt_le.mpr (by omega)), if_pos (in_0 (by omega))]
    exact ⟨rfl, rfl⟩
  rw [if_neg (fun q => by have := le_t q; omega), if_neg (c := m_R_in y 0 (sR 0 7 - 1) = 0) (by rw [in_1 (by omega) (by omega)]; decide)]
  exact Or.inr ⟨rfl, rfl, x.toInt.toNat, y.toInt.toNat, by omega, by omega, by omega, by omega⟩
theorem stands_at (hR : okR sR) (hL : relL sL sR) {x y : Int32} {xn yn : Nat} (hh : m_L_has sL x y = 1) (a : At sR x y xn yn) : m_L_stands sL x y = sR 9 (xn + (sR 0 6).toInt.toNat * yn) ∧ m_L_isPropped sL x y = sR 11 (xn + (sR 0 6).toInt.toNat * yn) := by
  have nR := okR_lin hR
  obtain ⟨c2, c3, cy⟩ := hL.2.2.2.2 xn a.2.2.1
  obtain ⟨e9, e11, -⟩ := cy yn a.2.2.2
  have n0 : ¬ m_L_has sL x y = 0 := by rw [hh]; decide
  unfold m_L_stands m_L_isPropped
  rw [if_neg n0, if_neg n0, a.x, holds_bt (h := (sR 0 7).toInt.toNat) (by omega) c2.1 c2.2 a.2.1 (by have := a.2.2.2; omega), holds_bt (h := (sR 0 7).toInt.toNat) (by omega) c3.1 c3.2 a.2.1 (by have := a.2.2.2; omega), e9, e11]
  constructor
  · rcases bt_01 (v := sL 2 xn) (y := yn) with q | q <;> rw [q] <;> decide
  · rcases bt_01 (v := sL 3 xn) (y := yn) with q | q <;> rw [q] <;> decide
theorem relC_fr {sL' sR' : St} {x : Nat} (hc : relC sL sR x) (e2 : sL' 2 x = sL 2 x) (e3 : sL' 3 x = sL 3 x) (e6 : sR' 0 6 = sR 0 6) (e7 : sR' 0 7 = sR 0 7) (e1 : ∀ y : Nat, (y : Int) < (sR 0 7).toInt → sL' 1 (6 * x + y) = sL 1 (6 * x + y) ∧ sR' 9 (x + (sR 0 6).toInt.toNat * y) = sR 9 (x + (sR 0 6).toInt.toNat * y) ∧ sR' 10 (x + (sR 0 6).toInt.toNat * y) = sR 10 (x + (sR 0 6).toInt.toNat * y) ∧ sR' 11 (x + (sR 0 6).toInt.toNat * y) = sR 11 (x + (sR 0 6).toInt.toNat * y)) : relC sL' sR' x := by
  unfold relC
  rw [e2, e3, e6, e7]
  refine ⟨hc.1, hc.2.1, fun y hy => ?_⟩
  obtain ⟨q1, q9, q10, q11⟩ := e1 y hy
  rw [q1, q9, q10, q11]
  exact hc.2.2 y hy
end WALL
