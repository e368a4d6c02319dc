/-! a throw: one division against degree by degree -/
theorem lgc_lt {a b : Int64} : lg_cmp a b < 0 ↔ a.toInt < b.toInt := by
  unfold lg_cmp
  by_cases h : a > b
  · have := Int64.lt_iff_toInt_lt.mp h
    rw [if_pos h]
    exact ⟨fun q => absurd q (by decide), fun q => by omega⟩
  · rw [if_neg h]
    have h2 : a.toInt ≤ b.toInt := Int.not_lt.mp (fun k => h (Int64.lt_iff_toInt_lt.mpr k))
    by_cases e : a = b
    · rw [if_pos e, e]
      exact ⟨fun q => absurd q (by decide), fun q => by omega⟩
    · rw [if_neg e]
      refine ⟨fun _ => ?_, fun _ => by decide⟩
      have : a.toInt ≠ b.toInt := fun k => e (l_ext k)
      omega
theorem lgc_gt {a b : Int64} : 0 < lg_cmp a b ↔ b.toInt < a.toInt := by
  unfold lg_cmp
  by_cases h : a > b
  · have := Int64.lt_iff_toInt_lt.mp h
    rw [if_pos h]
    exact ⟨fun _ => this, fun _ => by decide⟩
  · rw [if_neg h]
    have h2 : a.toInt ≤ b.toInt := Int.not_lt.mp (fun k => h (Int64.lt_iff_toInt_lt.mpr k))
    refine ⟨fun q => ?_, fun q => by omega⟩
    split at q <;> exact absurd q (by decide)
theorem ldiv_t {a b : Int64} (ha : 0 ≤ a.toInt) (hb : 0 < b.toInt) : (a / b).toInt = a.toInt / b.toInt := by
  rw [Int64.toInt_div_of_ne_right a b (fun e => by rw [e] at hb; exact absurd hb (by decide)), Int.tdiv_eq_ediv_of_nonneg ha]
theorem rel_turn {sM sR : St} (hR : okR sR) (h1 : sM 1 1 = sR 1 1) {a b : Int32} (ha : 10 ≤ a.toInt ∧ a.toInt ≤ 160) (hb : 0 ≤ b.toInt ∧ b.toInt ≤ 60) (t : Nat) (ht : t ≤ 160) : ((t : Int) < (m_M_turnOfRelease sM a b).toInt ↔ (t : Int) * ((sR 1 1).toInt + 2 * a.toInt) < (100 + b.toInt) * (2 * a.toInt)) := by
  have nR := okR_lin hR
  have z1 : (1 : Int64).toInt = 1 := l1
  have l160 : (160 : Int64).toInt = 160 := by decide
  have e1 : (100 + Int32.toInt64 b).toInt = 100 + b.toInt := by rw [l_add (by rw [l100, il_t]; omega) (by rw [l100, il_t]; omega), l100, il_t]
  have e2 : ((100 + Int32.toInt64 b) * 2).toInt = (100 + b.toInt) * 2 := by rw [l_mul (by rw [e1, l2]; omega) (by rw [e1, l2]; omega), e1, l2]
  have pm := mul_bd (a := 100 + b.toInt) (b := 2 * a.toInt) (A := 160) (B := 320) (by omega) (by omega) (by omega) (by omega)
  have e3 : (((100 + Int32.toInt64 b) * 2) * Int32.toInt64 a).toInt = (100 + b.toInt) * (2 * a.toInt) := by
    have q : (100 + b.toInt) * 2 * a.toInt = (100 + b.toInt) * (2 * a.toInt) := Int.mul_assoc _ _ _
    rw [l_mul (by rw [e2, il_t, q]; omega) (by rw [e2, il_t, q]; omega), e2, il_t, q]
  have e4 : (2 * Int32.toInt64 a).toInt = 2 * a.toInt := by rw [l_mul (by rw [l2, il_t]; omega) (by rw [l2, il_t]; omega), l2, il_t]
  have e5 : (Int32.toInt64 (sM 1 1) + 2 * Int32.toInt64 a).toInt = (sR 1 1).toInt + 2 * a.toInt := by rw [h1, l_add (by rw [il_t, e4]; omega) (by rw [il_t, e4]; omega), il_t, e4]
  have pos : 0 < (100 + b.toInt) * (2 * a.toInt) := Int.mul_pos (by omega) (by omega)
  have eu := up_t (a := ((100 + Int32.toInt64 b) * 2) * Int32.toInt64 a) (b := Int32.toInt64 (sM 1 1) + 2 * Int32.toInt64 a) (by omega) (by omega)
  rw [e3, e5] at eu
  have cb := ceil_b (a := (100 + b.toInt) * (2 * a.toInt)) (b := (sR 1 1).toInt + 2 * a.toInt) (by omega)
  unfold m_M_turnOfRelease
  generalize (m_T_up (((100 + Int32.toInt64 b) * 2) * Int32.toInt64 a) (Int32.toInt64 (sM 1 1) + 2 * Int32.toInt64 a)) = u at eu ⊢
  rw [← eu] at cb
  generalize (100 + b.toInt) * (2 * a.toInt) = op at pm pos cb ⊢
  generalize hden : (sR 1 1).toInt + 2 * a.toInt = den at cb ⊢
  have u1 : 1 ≤ u.toInt := by
    by_cases c : 1 ≤ u.toInt
    · exact c
    · have : den * u.toInt ≤ den * 0 := Int.mul_le_mul_of_nonneg_left (by omega) (by omega)
      omega
  have ule : u.toInt ≤ 60000 := by
    by_cases c : u.toInt ≤ 60000
    · exact c
    · have : den * 60000 ≤ den * u.toInt := Int.mul_le_mul_of_nonneg_left (by omega) (by omega)
      omega
  have key : (t : Int) < u.toInt ↔ (t : Int) * den < op := by
    constructor
    · intro h
      have : den * (t : Int) ≤ den * (u.toInt - 1) := Int.mul_le_mul_of_nonneg_left (by omega) (by omega)
      rw [Int.mul_sub, Int.mul_one] at this
      rw [Int.mul_comm]
      omega
    · intro h
      by_cases c : (t : Int) < u.toInt
      · exact c
      · have : den * u.toInt ≤ den * (t : Int) := Int.mul_le_mul_of_nonneg_left (by omega) (by omega)
        rw [Int.mul_comm] at h
        omega
  rw [← key, if_neg (fun q => by have := lgc_lt.mp q; omega)]
  by_cases c : 0 < lg_cmp u 160
  · have := lgc_gt.mp c
    rw [if_pos c, show (161 : Int32).toInt = 161 by decide +kernel]
    omega
  · rw [if_neg c]
    have : ¬ (160 : Int64).toInt < u.toInt := fun q => c (lgc_gt.mpr q)
    rw [li_t (by omega) (by omega)]
def z7 (s : St) : St := (up (up (up (up (up (up (up s 0 19 (-9)) 0 20 (-9)) 0 21 (-9)) 0 22 (-9)) 0 23 (-9)) 0 24 (-9)) 0 25 (-9))
theorem z7_at {s : St} {j : Nat} (h : 19 ≤ j ∧ j ≤ 25) : z7 s 0 j = -9 := by
  unfold z7
  simp only [up_row]
  repeat' split
  all_goals first
    | rfl
    | omega
theorem z7_ne {s : St} {k j : Nat} (h : k ≠ 0 ∨ j < 19 ∨ 25 < j) : z7 s k j = s k j := by
  unfold z7
  repeat rw [up_other (by omega)]
def fin (sR : St) (S T : Int32) : St := if S.toInt ≤ 160 ∧ S.toInt ≤ T.toInt then up (z7 sR) 0 20 S else if T.toInt ≤ 160 then up (up (z7 sR) 0 19 T) 0 21 (m_R_givenAt sR T) else z7 sR
theorem n9 {x : Int32} (h : 0 ≤ x.toInt) : ¬ x = -9 := fun e => by rw [e, show (-9 : Int32).toInt = -9 by decide +kernel] at h; omega
theorem step_loop {sM sR : St} (hR : okR sR) (hM : relM sM sR) {a b : Int32} (ha : 10 ≤ a.toInt ∧ a.toInt ≤ 160) (hb : 0 ≤ b.toInt ∧ b.toInt ≤ 60) : (wl (g_R_step_44 a b) 161 (z7 sR, 1)).1 = fin sR (sM 0 4) (m_M_turnOfRelease sM a b) := by
  have nR := okR_lin hR
  have z0 := tl_0
  have z160 : (160 : Int32).toInt = 160 := by decide +kernel
  have hT := TR_t (s := sM) (a := a) (b := b)
  have rt := rel_turn (sM := sM) hR (hM.1 1 (by decide)) ha hb
  generalize m_M_turnOfRelease sM a b = T at hT rt ⊢
  have hS := hM.2.2.2.2.1
  refine wl_end (f := g_R_step_44 a b) (fun k u => (u.1 = z7 sR ∧ u.2.toInt = (k : Int) + 1 ∧ (k : Int) < (sM 0 4).toInt ∧ (k : Int) < T.toInt) ∨ (u.1 = fin sR (sM 0 4) T ∧ (¬ u.1 0 19 = -9 ∨ ¬ u.1 0 20 = -9))) (fun u => u.1 = fin sR (sM 0 4) T) 160 ?_ ?_ 161 0 (z7 sR, 1) (by omega) (by omega) (Or.inl ⟨rfl, by rw [tl_1]; rfl, by omega, by omega⟩)
  · rintro k ⟨u, x⟩ hk h
    dsimp only at h
    rcases h with ⟨h1, h2, h3, h4⟩ | ⟨h1, h2⟩
    · left
      subst h1
      have hx : x.toInt = ((k + 1 : Nat) : Int) := by omega
      have ex : x = Int32.ofNat (k + 1) := eq_ofNat hx
      have hx1 : (x + 1).toInt = ((k + 1 : Nat) : Int) + 1 := by rw [t_inc (by omega)]; omega
      have eg : m_R_givenAt (z7 sR) x = m_R_givenAt sR x := givenAt_ext (funext fun j => z7_ne (by omega)) x
      have g := hM.2.2.2.1 (k + 1) (by omega) (by omega)
      rw [← ex] at g
      have e11 : z7 sR 1 1 = sR 1 1 := z7_ne (by omega)
      have t2a : (2 * a).toInt = 2 * a.toInt := by rw [t_mul (by rw [tl_2]; omega) (by rw [tl_2]; omega), tl_2]
      have tb : ((sR 1 1) + (2 * a)).toInt = (sR 1 1).toInt + 2 * a.toInt := by rw [t_add (by omega) (by omega), t2a]
      have pm := mul_bd (a := ((k + 1 : Nat) : Int)) (b := (sR 1 1).toInt + 2 * a.toInt) (A := 160) (B := 480) (by omega) (by omega) (by omega) (by omega)
      have tm : (x * ((sR 1 1) + (2 * a))).toInt = ((k + 1 : Nat) : Int) * ((sR 1 1).toInt + 2 * a.toInt) := by rw [t_mul (by rw [hx, tb]; omega) (by rw [hx, tb]; omega), hx, tb]
      have td : ((x * ((sR 1 1) + (2 * a))) / (2 * a)).toInt = ((k + 1 : Nat) : Int) * ((sR 1 1).toInt + 2 * a.toInt) / (2 * a.toInt) := by rw [t_dive (by omega), tm, t2a]
      have th : (100 + b).toInt = 100 + b.toInt := by rw [t_add (by rw [tl_100]; omega) (by rw [tl_100]; omega), tl_100]
      have cond_ : ((x * ((sR 1 1) + (2 * a))) / (2 * a)) < (100 + b) ↔ ((k + 1 : Nat) : Int) < T.toInt := by
        rw [Int32.lt_iff_toInt_lt, td, th, Int.ediv_lt_iff_lt_mul (by omega), rt (k + 1) (by omega)]
      have hf : g_R_step_44 a b (z7 sR, x) = (if 0 < m_R_givenAt sR x then (if ((x * ((sR 1 1) + (2 * a))) / (2 * a)) < (100 + b) then some (z7 sR, x + 1) else some (up (up (z7 sR) 0 19 x) 0 21 (m_R_givenAt sR x), x + 1)) else some (up (z7 sR) 0 20 x, x + 1)) := by
        show f_R_step_44 a b (z7 sR) x = _
        unfold f_R_step_44
        rw [if_neg (fun q => by have := lt_t q; omega), z7_at (by omega), z7_at (by omega), if_pos rfl, if_pos rfl, eg, e11]
      by_cases cS : (sM 0 4).toInt = ((k + 1 : Nat) : Int)
      · have gle := hM.2.2.2.2.2.2 (by omega)
        rw [show (sM 0 4).toInt.toNat = k + 1 by omega, g] at gle
        have eS : x = sM 0 4 := t_ext (by omega)
        refine ⟨(up (z7 sR) 0 20 x, x + 1), by rw [hf, if_neg (fun q => by have := lt_t q; omega)], Or.inr ⟨?_, Or.inr ?_⟩⟩
        · dsimp only
          unfold fin
          rw [if_pos ⟨by omega, by omega⟩, eS]
        · dsimp only
          rw [up_get]
          exact n9 (by omega)
      · have gpos := hM.2.2.2.2.2.1 (k + 1) (by omega) (by omega)
        rw [g] at gpos
        have cg : 0 < m_R_givenAt sR x := Int32.lt_iff_toInt_lt.mpr (by rw [z0]; exact gpos)
        by_cases cT : ((k + 1 : Nat) : Int) < T.toInt
        · exact ⟨(z7 sR, x + 1), by rw [hf, if_pos cg, if_pos (cond_.mpr cT)], Or.inl ⟨rfl, hx1, by omega, cT⟩⟩
        · have eT : x = T := t_ext (by omega)
          refine ⟨(up (up (z7 sR) 0 19 x) 0 21 (m_R_givenAt sR x), x + 1), by rw [hf, if_pos cg, if_neg (fun q => cT (cond_.mp q))], Or.inr ⟨?_, Or.inl ?_⟩⟩
          · dsimp only
            unfold fin
            rw [if_neg (by omega), if_pos (by omega), eT]
          · dsimp only
            rw [up_other (by omega), up_get]
            exact n9 (by omega)
    · right
      refine ⟨?_, h1⟩
      show f_R_step_44 a b u x = none
      unfold f_R_step_44
      split
      · rfl
      · split
        · split
          · rename_i q1 q2
            rcases h2 with h2 | h2
            · exact absurd q1 h2
            · exact absurd q2 h2
          · rfl
        · rfl
  · rintro ⟨u, x⟩ h
    dsimp only at h
    rcases h with ⟨h1, h2, h3, h4⟩ | ⟨h1, h2⟩
    · subst h1
      refine ⟨?_, ?_⟩
      · show f_R_step_44 a b (z7 sR) x = none
        unfold f_R_step_44
        rw [if_pos (Int32.lt_iff_toInt_lt.mpr (by omega))]
      · dsimp only
        unfold fin
        rw [if_neg (by omega), if_neg (by omega)]
    · refine ⟨?_, h1⟩
      show f_R_step_44 a b u x = none
      unfold f_R_step_44
      split
      · rfl
      · split
        · split
          · rename_i q1 q2
            rcases h2 with h2 | h2
            · exact absurd q1 h2
            · exact absurd q2 h2
          · rfl
        · rfl
theorem rst_M (sM : St) : (∀ j, j < 7 → (wl g_M_reckon_2 8 (sM, 0)).1 3 j = -9) ∧ (∀ k j, k ≠ 3 → (wl g_M_reckon_2 8 (sM, 0)).1 k j = sM k j) := by
  have z7' : (7 : Int32).toInt = 7 := by decide +kernel
  have k := wl_run (f := g_M_reckon_2) (fun k u => (∀ j, j < k → u.1 3 j = -9) ∧ (∀ p j, p ≠ 3 → u.1 p j = sM p j) ∧ u.2.toInt = (k : Int)) 7 (by
    rintro k ⟨u, i⟩ hk ⟨g1, g2, g3⟩
    dsimp only at g1 g2 g3
    refine ⟨(up u 3 k (-9), i + 1), ?_, ?_, ?_, ?_⟩
    · show f_M_reckon_2 u i = _
      unfold f_M_reckon_2
      rw [if_neg (fun q => by have := le_t q; omega), cl_n g3]
    · intro j hj
      dsimp only
      rw [up_row]
      by_cases e : j = k
      · rw [if_pos e]
      · rw [if_neg e]; exact g1 j (by omega)
    · intro p j hp
      dsimp only
      rw [up_ne hp]
      exact g2 p j hp
    · dsimp only
      rw [t_inc (by omega)]; omega) (by
    rintro ⟨u, i⟩ ⟨g1, g2, g3⟩
    dsimp only at g3
    show f_M_reckon_2 u i = none
    unfold f_M_reckon_2
    rw [if_pos (Int32.le_iff_toInt_le.mpr (by omega))]) 8 0 (sM, 0) (by omega) (by omega) ⟨fun j hj => by omega, fun _ _ _ => rfl, by rw [tl_0]; rfl⟩
  exact ⟨k.1, k.2.1⟩
