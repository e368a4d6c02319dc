/-! the reference's fewest hits -/
theorem t100k : (100000 : Int32).toInt = 100000 := by decide +kernel
theorem t6 : (6 : Int32).toInt = 6 := by decide +kernel
theorem cheap_e {s : St} {a v : Int32} : m_R_cheaper s a v = up s 33 (Int32.toNatClampNeg a) (if s 33 (Int32.toNatClampNeg a) ≤ v then s 33 (Int32.toNatClampNeg a) else v) := by
  unfold m_R_cheaper
  split <;> rfl
theorem min_t {a b : Int32} : (if a ≤ b then a else b).toInt = min a.toInt b.toInt := by
  by_cases c : a ≤ b
  · have := le_t c
    rw [if_pos c]; omega
  · have := nle_t c
    rw [if_neg c]; omega
def stB (sL : St) (x : Nat) : Nat → Bool := fun y => (sL 2 x).toInt.toNat.testBit y
def prB (sL : St) (x : Nat) : Nat → Bool := fun y => (sL 3 x).toInt.toNat.testBit y
def cst (sL : St) (x : Nat) (f : Int32) : Nat → Int := fun y => ((sL 1 (6 * x + y)).toInt + f.toInt - 1) / f.toInt
theorem bt_iff {v : Int32} {y : Nat} : (bt v y = 1 ↔ v.toInt.toNat.testBit y = true) ∧ (bt v y = 0 ↔ ¬ v.toInt.toNat.testBit y = true) := by
  unfold bt
  by_cases c : v.toInt.toNat.testBit y = true
  · rw [if_pos c]; exact ⟨⟨fun _ => c, fun _ => rfl⟩, ⟨fun q => absurd q (by decide), fun q => absurd c q⟩⟩
  · rw [if_neg c]; exact ⟨⟨fun q => absurd q (by decide), fun q => absurd q c⟩, ⟨fun _ => c, fun _ => rfl⟩⟩
section FEW
variable {sL sR : St} {f : Int32} {xn : Nat}
theorem st_lt (hR : okR sR) (hL : relL sL sR) (hx : (xn : Int) < (sR 0 6).toInt) {y : Nat} (h : stB sL xn y = true) : (y : Int) < (sR 0 7).toInt := by
  have nR := okR_lin hR
  have hc := (hL.2.2.2.2 xn hx).1
  refine Classical.byContradiction (fun q => ?_)
  have h2 := hc.2
  rw [powi] at h2
  have : (sL 2 xn).toInt.toNat < 2 ^ y := by
    have := Nat.pow_le_pow_right (n := 2) (by decide) (show (sR 0 7).toInt.toNat ≤ y by omega)
    omega
  have := Nat.testBit_lt_two_pow this
  unfold stB at h
  rw [this] at h
  cases h
theorem cst_b (hR : okR sR) (hL : relL sL sR) (hx : (xn : Int) < (sR 0 6).toInt) (hf : 1 ≤ f.toInt ∧ f.toInt ≤ 99) : ∀ k, stB sL xn k = true → 0 ≤ cst sL xn f k ∧ cst sL xn f k ≤ 99 := by
  intro k hk
  have q := (hL.2.2.2.2 xn hx).2.2 k (st_lt hR hL hx hk)
  have s1 := q.2.2.2.2 (bt_iff.1.mpr hk)
  have s2 := q.2.2.2.1
  unfold cst
  refine ⟨Int.ediv_nonneg (by omega) (by omega), ?_⟩
  have : ((sL 1 (6 * xn + k)).toInt + f.toInt - 1) / f.toInt < 100 := by
    rw [Int.ediv_lt_iff_lt_mul (by omega)]
    omega
  omega
theorem few_row (hR : okR sR) (hL : relL sL sR) (hx : (xn : Int) < (sR 0 6).toInt) (hf : 1 ≤ f.toInt ∧ f.toInt ≤ 99) {u : St} {y x ci : Int32} {k : Nat} (hk : (k : Int) < (sR 0 7).toInt) (hu : ∀ p j, p ≠ 32 ∧ p ≠ 33 → u p j = sR p j) (hci : Int32.toNatClampNeg ci = xn + (sR 0 6).toInt.toNat * k) (tab : tabOk (stB sL xn) (prB sL xn) (cst sL xn f) (fun i => (u 32 i).toInt) k) :
    (fun w : St => (∀ p j, p ≠ 32 ∧ p ≠ 33 → w p j = sR p j) ∧ tabOk (stB sL xn) (prB sL xn) (cst sL xn f) (fun i => (w 32 i).toInt) (k + 1)) (wl g_R_fewest_253 7 ((wl (g_R_fewest_86 f 100000 ci) 4 ((wl (g_R_fewest_62 100000) 7 (u, 0)).1, 0)).1, 0)).1 := by
  have nR := okR_lin hR
  have hcst := cst_b hR hL hx hf
  obtain ⟨q9, q11, q10, qb, qs⟩ := (hL.2.2.2.2 xn hx).2.2 k hk
  -- the table of what comes, all far
  have k1 := wl_run (f := g_R_fewest_62 100000) (fun m v => (∀ p j, p ≠ 33 → v.1 p j = u p j) ∧ (∀ i, i < m → v.1 33 i = 100000) ∧ v.2.toInt = (m : Int)) 6 (by
    rintro m ⟨v, i⟩ hm ⟨g1, g2, g3⟩
    dsimp only at g1 g2 g3
    refine ⟨(up v 33 m 100000, i + 1), ?_, ?_, ?_, ?_⟩
    · show f_R_fewest_62 100000 v i = _
      unfold f_R_fewest_62
      rw [if_neg (fun q => by have := le_t q; rw [t6] at this; omega), cl_n g3]
    · intro p j hp
      dsimp only
      rw [up_ne hp]; exact g1 p j hp
    · intro j hj
      dsimp only
      rw [up_row]
      by_cases e : j = m
      · rw [if_pos e]
      · rw [if_neg e]; exact g2 j (by omega)
    · dsimp only
      rw [t_inc (by omega)]; omega) (by
    rintro ⟨v, i⟩ ⟨g1, g2, g3⟩
    dsimp only at g3
    show f_R_fewest_62 100000 v i = none
    unfold f_R_fewest_62
    rw [if_pos (Int32.le_iff_toInt_le.mpr (by rw [t6]; omega))]) 7 0 (u, 0) (by omega) (by omega) ⟨fun _ _ _ => rfl, fun i hi => by omega, by rw [tl_0]; rfl⟩
  generalize (wl (g_R_fewest_62 100000) 7 (u, 0)) = V at k1 ⊢
  obtain ⟨v1, v2, -⟩ := k1
  -- n by n
  have k2 := wl_run (f := g_R_fewest_86 f 100000 ci) (fun n w => (∀ p j, p ≠ 33 → w.1 p j = u p j) ∧ (∀ m, m < n → (w.1 33 (2 * m + 1)).toInt = nOff (stB sL xn k) (prB sL xn k) (cst sL xn f k) (u 32 (2 * m)).toInt (u 32 (2 * m + 1)).toInt ∧ (m < 2 → (w.1 33 (2 * m + 2)).toInt = nOn (stB sL xn k) (prB sL xn k) (u 32 (2 * m)).toInt (u 32 (2 * m + 1)).toInt)) ∧ w.1 33 0 = 100000 ∧ (∀ m, n ≤ m → m < 3 → w.1 33 (2 * m + 1) = 100000 ∧ (m < 2 → w.1 33 (2 * m + 2) = 100000)) ∧ w.2.toInt = (n : Int)) 3 (by
    rintro n ⟨w, i⟩ hn ⟨g1, g2, g3, g4, g5⟩
    dsimp only at g1 g2 g3 g4 g5
    obtain ⟨dd1, dd2, dd3⟩ := dbl (a := i) (by omega)
    have c0 : Int32.toNatClampNeg (2 * i) = 2 * n := cl_n (by omega)
    have c1 : Int32.toNatClampNeg ((2 * i) + 1) = 2 * n + 1 := cl_n (by omega)
    have c2 : Int32.toNatClampNeg ((2 * i) + 2) = 2 * n + 2 := cl_n (by omega)
    have hi1 : (i + 1).toInt = ((n + 1 : Nat) : Int) := by rw [t_inc (by omega)]; omega
    have n3 : ¬ 3 ≤ i := fun q => by have := le_t q; rw [tl_3] at this; omega
    have w9 : w 9 (xn + (sR 0 6).toInt.toNat * k) = bt (sL 2 xn) k := by rw [g1 _ _ (by omega), hu _ _ (by omega), q9]
    have w10 : w 10 (xn + (sR 0 6).toInt.toNat * k) = sL 1 (6 * xn + k) := by rw [g1 _ _ (by omega), hu _ _ (by omega), q10]
    have w11 : w 11 (xn + (sR 0 6).toInt.toNat * k) = bt (sL 3 xn) k := by rw [g1 _ _ (by omega), hu _ _ (by omega), q11]
    have kb0 := tab.1 (2 * n) (by omega)
    have kb1 := tab.1 (2 * n + 1) (by omega)
    dsimp only at kb0 kb1
    have o0 : w 32 (2 * n) = u 32 (2 * n) := g1 _ _ (by omega)
    have o1 : w 32 (2 * n + 1) = u 32 (2 * n + 1) := g1 _ _ (by omega)
    obtain ⟨far1, far2⟩ := g4 n (by omega) hn
    -- what a new state must show
    have fin : ∀ z : St, (∀ p j, p ≠ 33 ∨ (j ≠ 2 * n + 1 ∧ (n < 2 → j ≠ 2 * n + 2)) → z p j = w p j) → (z 33 (2 * n + 1)).toInt = nOff (stB sL xn k) (prB sL xn k) (cst sL xn f k) (u 32 (2 * n)).toInt (u 32 (2 * n + 1)).toInt → (n < 2 → (z 33 (2 * n + 2)).toInt = nOn (stB sL xn k) (prB sL xn k) (u 32 (2 * n)).toInt (u 32 (2 * n + 1)).toInt) → (∀ p j, p ≠ 33 → (z, i + 1).1 p j = u p j) ∧ (∀ m, m < n + 1 → ((z, i + 1).1 33 (2 * m + 1)).toInt = nOff (stB sL xn k) (prB sL xn k) (cst sL xn f k) (u 32 (2 * m)).toInt (u 32 (2 * m + 1)).toInt ∧ (m < 2 → ((z, i + 1).1 33 (2 * m + 2)).toInt = nOn (stB sL xn k) (prB sL xn k) (u 32 (2 * m)).toInt (u 32 (2 * m + 1)).toInt)) ∧ (z, i + 1).1 33 0 = 100000 ∧ (∀ m, n + 1 ≤ m → m < 3 → (z, i + 1).1 33 (2 * m + 1) = 100000 ∧ (m < 2 → (z, i + 1).1 33 (2 * m + 2) = 100000)) ∧ (z, i + 1).2.toInt = ((n + 1 : Nat) : Int) := by
      intro z hz z1 z2
      dsimp only
      refine ⟨fun p j hp => (hz p j (Or.inl hp)).trans (g1 p j hp), fun m hm => ?_, (hz 33 0 (by omega)).trans g3, fun m hm1 hm2 => ?_, hi1⟩
      · by_cases e : m = n
        · subst e; exact ⟨z1, z2⟩
        · rw [hz 33 (2 * m + 1) (by omega), hz 33 (2 * m + 2) (by omega)]
          exact g2 m (by omega)
      · rw [hz 33 (2 * m + 1) (by omega), hz 33 (2 * m + 2) (by omega)]
        exact g4 m (by omega) hm2
    have hg : g_R_fewest_86 f 100000 ci (w, i) = f_R_fewest_86 f 100000 ci w i := rfl
    by_cases s9 : bt (sL 2 xn) k = 0
    · have sf : stB sL xn k = false := by
        have := bt_iff.2.mp s9
        unfold stB; simpa using this
      refine ⟨((up (up w 33 (2 * n + 1) (if w 33 (2 * n + 1) ≤ w 32 (2 * n) then w 33 (2 * n + 1) else w 32 (2 * n))) 33 (2 * n + 1) (if (if w 33 (2 * n + 1) ≤ w 32 (2 * n) then w 33 (2 * n + 1) else w 32 (2 * n)) ≤ w 32 (2 * n + 1) then (if w 33 (2 * n + 1) ≤ w 32 (2 * n) then w 33 (2 * n + 1) else w 32 (2 * n)) else w 32 (2 * n + 1))), i + 1), ?_, fin (up (up w 33 (2 * n + 1) (if w 33 (2 * n + 1) ≤ w 32 (2 * n) then w 33 (2 * n + 1) else w 32 (2 * n))) 33 (2 * n + 1) (if (if w 33 (2 * n + 1) ≤ w 32 (2 * n) then w 33 (2 * n + 1) else w 32 (2 * n)) ≤ w 32 (2 * n + 1) then (if w 33 (2 * n + 1) ≤ w 32 (2 * n) then w 33 (2 * n + 1) else w 32 (2 * n)) else w 32 (2 * n + 1))) ?_ ?_ ?_⟩
      · rw [hg]
        unfold f_R_fewest_86
        rw [if_neg n3, hci, w9, if_pos s9, cheap_e, cheap_e, c0, c1, up_get]
      · intro p j hp
        rw [up_other (by omega), up_other (by omega)]
      · rw [up_get, min_t, min_t, far1, t100k, o0, o1, sf]
        unfold nOff
        rw [if_neg (by decide)]
        omega
      · intro h2
        rw [up_other (by omega), up_other (by omega), far2 h2, t100k, sf]
        unfold nOn
        rw [if_neg (by decide)]
    have s1 : bt (sL 2 xn) k = 1 := bt_01.resolve_left s9
    have sf : stB sL xn k = true := bt_iff.1.mp s1
    have str1 := qs s1
    have hcb := hcst k sf
    have ecc : ((((sL 1 (6 * xn + k)) + f) - 1) / f).toInt = cst sL xn f k := by
      have a1 : ((sL 1 (6 * xn + k)) + f).toInt = (sL 1 (6 * xn + k)).toInt + f.toInt := t_add (by omega) (by omega)
      have a2 : (((sL 1 (6 * xn + k)) + f) - 1).toInt = (sL 1 (6 * xn + k)).toInt + f.toInt - 1 := by rw [t_sub (by rw [tl_1]; omega) (by rw [tl_1]; omega), a1, tl_1]
      rw [t_dive (by omega), a2]
      rfl
    have ep : (bt (sL 3 xn) k).toInt = (if prB sL xn k = true then 1 else 0) := by
      by_cases q : prB sL xn k = true
      · rw [if_pos q, bt_iff.1.mpr q, tl_1]
      · rw [if_neg q, bt_iff.2.mpr q, tl_0]
    have ea : ((w 32 (2 * n)) + ((((sL 1 (6 * xn + k)) + f) - 1) / f)).toInt = (u 32 (2 * n)).toInt + cst sL xn f k := by rw [o0, t_add (by omega) (by omega), ecc]
    have eb : ((w 32 (2 * n + 1)) + bt (sL 3 xn) k).toInt = (u 32 (2 * n + 1)).toInt + (if prB sL xn k = true then 1 else 0) := by
      have : 0 ≤ (bt (sL 3 xn) k).toInt ∧ (bt (sL 3 xn) k).toInt ≤ 1 := by rw [ep]; split <;> omega
      rw [o1, t_add (by omega) (by omega), ep]
    obtain ⟨A, hA⟩ : ∃ A, A = (if w 33 (2 * n + 1) ≤ (w 32 (2 * n)) + ((((sL 1 (6 * xn + k)) + f) - 1) / f) then w 33 (2 * n + 1) else (w 32 (2 * n)) + ((((sL 1 (6 * xn + k)) + f) - 1) / f)) := ⟨_, rfl⟩
    obtain ⟨B, hB⟩ : ∃ B, B = (if A ≤ (w 32 (2 * n + 1)) + bt (sL 3 xn) k then A else (w 32 (2 * n + 1)) + bt (sL 3 xn) k) := ⟨_, rfl⟩
    have tA : A.toInt = min 100000 ((u 32 (2 * n)).toInt + cst sL xn f k) := by rw [hA, min_t, far1, t100k, ea]
    have tB : B.toInt = nOff (stB sL xn k) (prB sL xn k) (cst sL xn f k) (u 32 (2 * n)).toInt (u 32 (2 * n + 1)).toInt := by
      rw [hB, min_t, tA, eb, sf]
      unfold nOff
      rw [if_pos rfl]
      omega
    have ch1 : m_R_cheaper w ((2 * i) + 1) ((w 32 (Int32.toNatClampNeg (2 * i))) + ((((w 10 (Int32.toNatClampNeg ci)) + f) - 1) / f)) = up w 33 (2 * n + 1) A := by
      rw [cheap_e, c1, c0, hci, w10, hA]
    have ch2 : m_R_cheaper (up w 33 (2 * n + 1) A) ((2 * i) + 1) ((w 32 (Int32.toNatClampNeg ((2 * i) + 1))) + ((up w 33 (2 * n + 1) A) 11 (Int32.toNatClampNeg ci))) = up (up w 33 (2 * n + 1) A) 33 (2 * n + 1) B := by
      rw [cheap_e, c1, hci, up_other (s := w) (k := 11) (by omega), w11, up_get, hB]
    by_cases n2 : (2 : Int32) ≤ i
    · have l2 := le_t n2
      rw [tl_2] at l2
      refine ⟨((up (up w 33 (2 * n + 1) A) 33 (2 * n + 1) B), i + 1), ?_, fin (up (up w 33 (2 * n + 1) A) 33 (2 * n + 1) B) ?_ ?_ ?_⟩
      · rw [hg]
        unfold f_R_fewest_86
        rw [if_neg n3, ch1, ch2, hci, w9, if_neg s9, if_pos n2]
      · intro p j hp
        rw [up_other (by omega), up_other (by omega)]
      · rw [up_get]; exact tB
      · intro h2; omega
    have l2 := nle_t n2
    rw [tl_2] at l2
    obtain ⟨C, hC⟩ : ∃ C, C = (if w 33 (2 * n + 2) ≤ w 32 (2 * n) then w 33 (2 * n + 2) else w 32 (2 * n)) := ⟨_, rfl⟩
    have tC : C.toInt = min 100000 (u 32 (2 * n)).toInt := by rw [hC, min_t, far2 (by omega), t100k, o0]
    have ch3 : m_R_cheaper (up (up w 33 (2 * n + 1) A) 33 (2 * n + 1) B) ((2 * i) + 2) (w 32 (Int32.toNatClampNeg (2 * i))) = up (up (up w 33 (2 * n + 1) A) 33 (2 * n + 1) B) 33 (2 * n + 2) C := by
      rw [cheap_e, c2, c0, up_other (by omega), up_other (by omega), hC]
    have r11 : up (up (up w 33 (2 * n + 1) A) 33 (2 * n + 1) B) 33 (2 * n + 2) C 11 (Int32.toNatClampNeg ci) = bt (sL 3 xn) k := by rw [up_other (by omega), up_other (by omega), up_other (by omega), hci, w11]
    by_cases p1 : bt (sL 3 xn) k = 1
    · have pf : prB sL xn k = true := bt_iff.1.mp p1
      obtain ⟨E, hE⟩ : ∃ E, E = (if C ≤ w 32 (2 * n + 1) then C else w 32 (2 * n + 1)) := ⟨_, rfl⟩
      refine ⟨((up (up (up (up w 33 (2 * n + 1) A) 33 (2 * n + 1) B) 33 (2 * n + 2) C) 33 (2 * n + 2) E), i + 1), ?_, fin (up (up (up (up w 33 (2 * n + 1) A) 33 (2 * n + 1) B) 33 (2 * n + 2) C) 33 (2 * n + 2) E) ?_ ?_ ?_⟩
      · rw [hg]
        unfold f_R_fewest_86
        rw [if_neg n3, ch1, ch2, ch3, r11, hci, w9, if_neg s9, if_neg n2, if_pos p1, cheap_e, c1, c2, up_get, hE]
      · intro p j hp
        rw [up_other (by omega), up_other (by omega), up_other (by omega), up_other (by omega)]
      · rw [up_other (by omega), up_other (by omega), up_get]; exact tB
      · intro h2
        rw [up_get, hE, min_t, tC, o1, sf, pf]
        unfold nOn
        rw [if_pos rfl, if_pos rfl]
        omega
    · have pf : ¬ prB sL xn k = true := fun q => p1 (bt_iff.1.mpr q)
      obtain ⟨E, hE⟩ : ∃ E, E = (if C ≤ (100000 : Int32) then C else 100000) := ⟨_, rfl⟩
      refine ⟨((up (up (up (up w 33 (2 * n + 1) A) 33 (2 * n + 1) B) 33 (2 * n + 2) C) 33 (2 * n + 2) E), i + 1), ?_, fin (up (up (up (up w 33 (2 * n + 1) A) 33 (2 * n + 1) B) 33 (2 * n + 2) C) 33 (2 * n + 2) E) ?_ ?_ ?_⟩
      · rw [hg]
        unfold f_R_fewest_86
        rw [if_neg n3, ch1, ch2, ch3, r11, hci, w9, if_neg s9, if_neg n2, if_neg p1, cheap_e, c2, up_get, hE]
      · intro p j hp
        rw [up_other (by omega), up_other (by omega), up_other (by omega), up_other (by omega)]
      · rw [up_other (by omega), up_other (by omega), up_get]; exact tB
      · intro h2
        rw [up_get, hE, min_t, tC, t100k, sf]
        unfold nOn
        rw [if_pos rfl, if_neg pf]
        omega) (by
    rintro ⟨w, i⟩ ⟨g1, g2, g3, g4, g5⟩
    dsimp only at g5
    show f_R_fewest_86 f 100000 ci w i = none
    unfold f_R_fewest_86
    rw [if_pos (Int32.le_iff_toInt_le.mpr (by rw [tl_3]; omega))]) 4 0 (V.1, 0) (by omega) (by omega) ⟨v1, fun m hm => by omega, v2 0 (by omega), fun m _ hm => ⟨v2 _ (by omega), fun _ => v2 _ (by omega)⟩, by rw [tl_0]; rfl⟩
  generalize (wl (g_R_fewest_86 f 100000 ci) 4 (V.1, 0)) = X at k2 ⊢
  obtain ⟨x1, x2, x3, -, -⟩ := k2
  -- the copy
  have k3 := wl_run (f := g_R_fewest_253) (fun m v => (∀ p j, p ≠ 32 → v.1 p j = X.1 p j) ∧ (∀ i, i < m → v.1 32 i = X.1 33 i) ∧ v.2.toInt = (m : Int)) 6 (by
    rintro m ⟨v, i⟩ hm ⟨g1, g2, g3⟩
    dsimp only at g1 g2 g3
    refine ⟨(up v 32 m (v 33 m), i + 1), ?_, ?_, ?_, ?_⟩
    · show f_R_fewest_253 v i = _
      unfold f_R_fewest_253
      rw [if_neg (fun q => by have := le_t q; rw [t6] at this; omega), cl_n g3]
    · intro p j hp
      dsimp only
      rw [up_ne hp]; exact g1 p j hp
    · intro j hj
      dsimp only
      rw [up_row]
      by_cases e : j = m
      · rw [if_pos e, e, g1 33 m (by omega)]
      · rw [if_neg e]; exact g2 j (by omega)
    · dsimp only
      rw [t_inc (by omega)]; omega) (by
    rintro ⟨v, i⟩ ⟨g1, g2, g3⟩
    dsimp only at g3
    show f_R_fewest_253 v i = none
    unfold f_R_fewest_253
    rw [if_pos (Int32.le_iff_toInt_le.mpr (by rw [t6]; omega))]) 7 0 (X.1, 0) (by omega) (by omega) ⟨fun _ _ _ => rfl, fun i hi => by omega, by rw [tl_0]; rfl⟩
  obtain ⟨y1, y2, -⟩ := k3
  try dsimp only
  refine ⟨fun p j hp => by rw [y1 p j hp.1, x1 p j hp.2]; exact hu p j hp, ?_⟩
  refine tab_step hcst tab ?_ ?_ ?_
  · show ((wl g_R_fewest_253 7 (X.fst, 0)).fst 32 0).toInt = _
    rw [y2 0 (by omega), x3, t100k]
  · intro n hn
    show ((wl g_R_fewest_253 7 (X.fst, 0)).fst 32 _).toInt = _
    rw [y2 _ (by omega)]
    exact (x2 n hn).1
  · intro n hn
    show ((wl g_R_fewest_253 7 (X.fst, 0)).fst 32 _).toInt = _
    rw [y2 _ (by omega)]
    exact (x2 n (by omega)).2 hn
end FEW
