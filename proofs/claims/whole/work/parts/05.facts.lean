/-! facts of the models that the walks lean on: bounds and frames -/
theorem lg_nz {y : Int64} (h : ¬ lg_cmp y 0 ≤ 0) : ¬ y = 0 := fun e => h (by rw [e]; decide)
theorem within_t {v a b : Int32} (h : ¬ m_T_within v a b = 0) : a.toInt ≤ v.toInt ∧ v.toInt ≤ b.toInt := by
  unfold m_T_within at h
  split at h
  · exact absurd rfl h
  · split at h
    · exact absurd rfl h
    · rename_i h1 h2
      exact ⟨nlt_t h1, nlt_t h2⟩
theorem in_t {v a b : Int32} (h : ¬ m_R_in v a b = 0) : a.toInt ≤ v.toInt ∧ v.toInt ≤ b.toInt := by
  unfold m_R_in at h
  split at h
  · exact absurd rfl h
  · split at h
    · exact absurd rfl h
    · rename_i h1 h2
      exact ⟨nlt_t h1, nlt_t h2⟩
theorem takes_t {s : St} {v a : Int32} (h : ¬ m_M_takes s v a = 0) : 0 ≤ v.toInt ∧ v.toInt ≤ 8 := by
  unfold m_M_takes at h
  split at h
  · exact absurd rfl h
  · rename_i h1
    exact within_t h1
theorem stakes_t {s : St} {v a : Int32} (h : ¬ m_S_takes s v a = 0) : 0 ≤ v.toInt ∧ v.toInt ≤ 4 := by
  unfold m_S_takes at h
  split at h
  · exact absurd rfl h
  · rename_i h1
    exact within_t h1
theorem has_t {s : St} {x y : Int32} (h : ¬ m_L_has s x y = 0) : 0 ≤ x.toInt ∧ x.toInt < (s 0 4).toInt ∧ 0 ≤ y.toInt ∧ y.toInt < (s 0 5).toInt := by
  unfold m_L_has at h
  repeat' split at h
  all_goals first
    | exact absurd rfl h
    | (rename_i h1 h2 h3 h4
       have := nlt_t h1
       have := nle_t h2
       have := nlt_t h3
       have := nle_t h4
       have e : (0 : Int32).toInt = 0 := rfl
       omega)
theorem stands_t {s : St} {x y : Int32} (h : ¬ m_L_stands s x y = 0) : 0 ≤ x.toInt ∧ x.toInt < (s 0 4).toInt ∧ 0 ≤ y.toInt ∧ y.toInt < (s 0 5).toInt := by
  unfold m_L_stands at h
  split at h
  · exact absurd rfl h
  · rename_i h1
    exact has_t h1
theorem iscell_t {s : St} {x y : Int32} (h : ¬ m_R_isCell s x y = 0) (h6 : 1 ≤ (s 0 6).toInt) (h7 : 1 ≤ (s 0 7).toInt) : 0 ≤ x.toInt ∧ x.toInt < (s 0 6).toInt ∧ 0 ≤ y.toInt ∧ y.toInt < (s 0 7).toInt := by
  have e1 : (1 : Int32).toInt = 1 := rfl
  have r1 := t_rng (s 0 6)
  have r2 := t_rng (s 0 7)
  have d1 : (s 0 6 - 1).toInt = (s 0 6).toInt - 1 := t_sub (by omega) (by omega)
  have d2 : (s 0 7 - 1).toInt = (s 0 7).toInt - 1 := t_sub (by omega) (by omega)
  have e0 : (0 : Int32).toInt = 0 := rfl
  unfold m_R_isCell at h
  split at h
  · exact absurd rfl h
  · split at h
    · exact absurd rfl h
    · rename_i h1 h2
      have := in_t h1
      have := in_t h2
      omega
def okL (s : St) : Prop := 1 ≤ (s 0 4).toInt ∧ (s 0 4).toInt ≤ 8 ∧ 1 ≤ (s 0 5).toInt ∧ (s 0 5).toInt ≤ 6
theorem okL_lin {s : St} (h : okL s) : 1 ≤ (s 0 4).toInt ∧ (s 0 4).toInt ≤ 8 ∧ 1 ≤ (s 0 5).toInt ∧ (s 0 5).toInt ≤ 6 := h
def okB (s : St) : Prop := (0 ≤ (s 0 5).toInt ∧ (s 0 5).toInt ≤ 16) ∧ ∀ i, i < 16 → 0 ≤ (s 2 i).toInt ∧ (s 2 i).toInt ≤ 60
theorem okB_lin {s : St} (h : okB s) : 0 ≤ (s 0 5).toInt ∧ (s 0 5).toInt ≤ 16 := h.1
theorem okB_h {s : St} (h : okB s) {i : Int32} (h1 : 0 ≤ i.toInt) (h2 : i.toInt < (s 0 5).toInt) : 0 ≤ (s 2 (Int32.toNatClampNeg i)).toInt ∧ (s 2 (Int32.toNatClampNeg i)).toInt ≤ 60 := by
  refine h.2 _ ?_
  have := h.1
  have e : (Int32.toNatClampNeg i : Int) = i.toInt := by
    show ((i.toInt.toNat : Nat) : Int) = i.toInt
    omega
  omega
theorem place_t {x y : Int32} (h : -1000 ≤ x.toInt ∧ x.toInt ≤ 1000 ∧ -1000 ≤ y.toInt ∧ y.toInt ≤ 1000) : (m_L_place x y).toInt = x.toInt * 6 + y.toInt := by
  have e : (6 : Int32).toInt = 6 := rfl
  unfold m_L_place
  have m1 : (x * 6).toInt = x.toInt * 6 := by
    rw [t_mul (by rw [e]; omega) (by rw [e]; omega), e]
  rw [t_add (by rw [m1]; omega) (by rw [m1]; omega), m1]
theorem weightPlace_t {x y : Int32} (h : -1000 ≤ x.toInt ∧ x.toInt ≤ 1000 ∧ -1000 ≤ y.toInt ∧ y.toInt ≤ 1000) : (m_L_weightPlace x y).toInt = 4 + x.toInt + 3 * y.toInt := by
  have e : (4 : Int32).toInt = 4 := rfl
  have e3 : (3 : Int32).toInt = 3 := rfl
  unfold m_L_weightPlace
  have m1 : (4 + x).toInt = 4 + x.toInt := by
    rw [t_add (by rw [e]; omega) (by rw [e]; omega), e]
  have m2 : (3 * y).toInt = 3 * y.toInt := by
    rw [t_mul (by rw [e3]; omega) (by rw [e3]; omega), e3]
  rw [t_add (by rw [m1, m2]; omega) (by rw [m1, m2]; omega), m1, m2]
theorem wl_inv {σ : Type} {f : σ → Option σ} {P : σ → Prop} (hf : ∀ s t, f s = some t → P s → P t) : ∀ (n : Nat) (s : σ), P s → P (wl f n s)
  | 0, s, h => by rw [wl_zero]; exact h
  | n + 1, s, h => by
    cases e : f s with
    | none => rw [wl_none e]; exact h
    | some t => rw [wl_some e]; exact wl_inv hf n t (hf s t e h)
theorem up_ne {s : St} {k i k' : Nat} {x : Int32} (h : k' ≠ k) : up s k i x k' = s k' := by simp only [up, if_neg h]
theorem up_eq {s : St} {k i : Nat} {x : Int32} : up s k i x k = upd (s k) i x := by simp only [up, if_true]
theorem up_get {s : St} {k i : Nat} {x : Int32} : up s k i x k i = x := by simp [up, upd]
theorem TR_t {s : St} {a b : Int32} : 1 ≤ (m_M_turnOfRelease s a b).toInt ∧ (m_M_turnOfRelease s a b).toInt ≤ 161 := by
  unfold m_M_turnOfRelease
  split
  · decide
  · split
    · decide
    · rename_i h1 h2
      rw [lg_cmp_lt] at h1
      rw [lg_cmp_gt] at h2
      generalize m_T_up ((100 + b.toInt64) * 2 * a.toInt64) ((s 1 1).toInt64 + 2 * a.toInt64) = z at h1 h2 ⊢
      rw [Int64.lt_iff_toInt_lt] at h1 h2
      have e1 : (1 : Int64).toInt = 1 := rfl
      have e2 : (160 : Int64).toInt = 160 := rfl
      rw [Int64.toInt_toInt32, t_bmod (by omega) (by omega)]
      omega
theorem cl_0 : Int32.toNatClampNeg 0 = 0 := by decide +kernel
theorem cl_1 : Int32.toNatClampNeg 1 = 1 := by decide +kernel
theorem cl_2 : Int32.toNatClampNeg 2 = 2 := by decide +kernel
theorem cl_3 : Int32.toNatClampNeg 3 = 3 := by decide +kernel
theorem cl_4 : Int32.toNatClampNeg 4 = 4 := by decide +kernel
theorem cl_5 : Int32.toNatClampNeg 5 = 5 := by decide +kernel
theorem cl_6 : Int32.toNatClampNeg 6 = 6 := by decide +kernel
theorem cl_7 : Int32.toNatClampNeg 7 = 7 := by decide +kernel
theorem cl_8 : Int32.toNatClampNeg 8 = 8 := by decide +kernel
theorem okL_c1 {s : St} (h : okL s) : (s 0 4 - 1).toInt = (s 0 4).toInt - 1 := by
  obtain ⟨h1, h2, -, -⟩ := h
  have e := tl_1
  rw [t_sub (by rw [e]; omega) (by rw [e]; omega), e]
theorem shl_tab : ∀ n : Nat, n < 7 → ((1 : Int32) <<< (Int32.ofInt n &&& 31)).toInt = 2 ^ n := by decide +kernel
theorem i_ofInt {x : Int32} {n : Nat} (h : x.toInt = n) : x = Int32.ofInt n := by rw [← h, Int32.ofInt_toInt]
theorem okL_shl {s : St} (h : okL s) : ((1 : Int32) <<< (s 0 5 &&& 31)).toInt ≤ 64 ∧ 2 ≤ ((1 : Int32) <<< (s 0 5 &&& 31)).toInt := by
  obtain ⟨-, -, h1, h2⟩ := h
  obtain ⟨n, hn⟩ : ∃ n : Nat, (s 0 5).toInt = n := ⟨(s 0 5).toInt.toNat, by omega⟩
  rw [i_ofInt hn, shl_tab n (by omega)]
  have : n = 1 ∨ n = 2 ∨ n = 3 ∨ n = 4 ∨ n = 5 ∨ n = 6 := by omega
  rcases this with rfl | rfl | rfl | rfl | rfl | rfl <;> decide
theorem fr_B_bear {s : St} {a b c : Int32} {k j : Nat} (h : k ≠ 4 ∧ k ≠ 5) : m_B_bear s a b c k j = s k j := by
  unfold m_B_bear
  split
  · rw [up_ne h.2]
  · rw [up_ne h.2, up_ne h.1]
theorem okB_bear {s : St} {a b c : Int32} (h : okB s) : okB (m_B_bear s a b c) := by
  unfold okB
  rw [fr_B_bear (by decide)]
  exact ⟨h.1, fun i hi => by rw [fr_B_bear (by decide)]; exact h.2 i hi⟩
def okR (s : St) : Prop := ((5 ≤ (s 1 0).toInt ∧ (s 1 0).toInt ≤ 40 ∧ 20 ≤ (s 1 1).toInt ∧ (s 1 1).toInt ≤ 160 ∧ 100 ≤ (s 1 2).toInt ∧ (s 1 2).toInt ≤ 9000 ∧ 10 ≤ (s 1 3).toInt ∧ (s 1 3).toInt ≤ 160 ∧ 0 ≤ (s 1 4).toInt ∧ (s 1 4).toInt ≤ 60 ∧ 10 ≤ (s 1 5).toInt ∧ (s 1 5).toInt ≤ 60 ∧ 0 ≤ (s 1 6).toInt ∧ (s 1 6).toInt ≤ 900 ∧ 1 ≤ (s 1 7).toInt ∧ (s 1 7).toInt ≤ 300 ∧ 0 ≤ (s 1 8).toInt ∧ (s 1 8).toInt ≤ 2) ∧
  0 ≤ (s 0 3).toInt ∧ (s 0 3).toInt ≤ 16 ∧ 1 ≤ (s 0 6).toInt ∧ (s 0 6).toInt ≤ 8 ∧ 1 ≤ (s 0 7).toInt ∧ (s 0 7).toInt ≤ 6 ∧ 0 ≤ (s 0 11).toInt ∧ (s 0 11).toInt ≤ 2 ∧ 1 ≤ (s 0 16).toInt ∧ (s 0 16).toInt ≤ 20) ∧ ∀ i, i < 16 → 0 ≤ (s 5 i).toInt ∧ (s 5 i).toInt ≤ 60
theorem okR_lin {s : St} (h : okR s) : ((5 ≤ (s 1 0).toInt ∧ (s 1 0).toInt ≤ 40 ∧ 20 ≤ (s 1 1).toInt ∧ (s 1 1).toInt ≤ 160 ∧ 100 ≤ (s 1 2).toInt ∧ (s 1 2).toInt ≤ 9000 ∧ 10 ≤ (s 1 3).toInt ∧ (s 1 3).toInt ≤ 160 ∧ 0 ≤ (s 1 4).toInt ∧ (s 1 4).toInt ≤ 60 ∧ 10 ≤ (s 1 5).toInt ∧ (s 1 5).toInt ≤ 60 ∧ 0 ≤ (s 1 6).toInt ∧ (s 1 6).toInt ≤ 900 ∧ 1 ≤ (s 1 7).toInt ∧ (s 1 7).toInt ≤ 300 ∧ 0 ≤ (s 1 8).toInt ∧ (s 1 8).toInt ≤ 2) ∧
  0 ≤ (s 0 3).toInt ∧ (s 0 3).toInt ≤ 16 ∧ 1 ≤ (s 0 6).toInt ∧ (s 0 6).toInt ≤ 8 ∧ 1 ≤ (s 0 7).toInt ∧ (s 0 7).toInt ≤ 6 ∧ 0 ≤ (s 0 11).toInt ∧ (s 0 11).toInt ≤ 2 ∧ 1 ≤ (s 0 16).toInt ∧ (s 0 16).toInt ≤ 20) := h.1
theorem okR_fr {s t : St} (h : okR s) (h1 : t 1 = s 1) (h5 : t 5 = s 5) (h0 : ∀ j, j < 19 → t 0 j = s 0 j) : okR t := by
  unfold okR
  rw [h1, h5, h0 3 (by decide), h0 6 (by decide), h0 7 (by decide), h0 11 (by decide), h0 16 (by decide)]
  exact h
theorem l_rng (x : Int64) : -9223372036854775808 ≤ x.toInt ∧ x.toInt < 9223372036854775808 := by
  have h1 := Int64.minValue_le_toInt x
  have h2 := Int64.toInt_le x
  simp only [Int64.toInt_minValue, Int64.toInt_maxValue] at h1 h2
  omega
theorem l_bmod {z : Int} (h1 : -9223372036854775808 ≤ z) (h2 : z < 9223372036854775808) : z.bmod (2 ^ 64) = z := by
  rw [Int.bmod_def]
  split <;> omega
theorem l_add {x y : Int64} (h1 : -9223372036854775808 ≤ x.toInt + y.toInt) (h2 : x.toInt + y.toInt < 9223372036854775808) : (x + y).toInt = x.toInt + y.toInt := by
  rw [Int64.toInt_add]; exact l_bmod h1 h2
theorem l_sub {x y : Int64} (h1 : -9223372036854775808 ≤ x.toInt - y.toInt) (h2 : x.toInt - y.toInt < 9223372036854775808) : (x - y).toInt = x.toInt - y.toInt := by
  rw [Int64.toInt_sub]; exact l_bmod h1 h2
theorem l_mul {x y : Int64} (h1 : -9223372036854775808 ≤ x.toInt * y.toInt) (h2 : x.toInt * y.toInt < 9223372036854775808) : (x * y).toInt = x.toInt * y.toInt := by
  rw [Int64.toInt_mul]; exact l_bmod h1 h2
theorem mul_bd {a b A B : Int} (h1 : 0 ≤ a) (h2 : a ≤ A) (h3 : 0 ≤ b) (h4 : b ≤ B) : 0 ≤ a * b ∧ a * b ≤ A * B :=
  ⟨Int.mul_nonneg h1 h3, Int.mul_le_mul h2 h4 h3 (Int.le_trans h1 h2)⟩
theorem ld_nz {s : St} (h : okR s) {f : Int64} (h0 : 0 ≤ f.toInt) (h1 : f.toInt ≤ 200000) : ¬ ((Int32.toInt64 (s 1 2)) * (Int32.toInt64 (s 1 0)) * (Int32.toInt64 (s 1 0)) + (Int32.toInt64 (s 1 7)) * f) = 0 := by
  have n := okR_lin h
  intro e
  have e := congrArg Int64.toInt e
  have a1 := mul_bd (a := (s 1 2).toInt) (b := (s 1 0).toInt) (A := 9000) (B := 40) (by omega) (by omega) (by omega) (by omega)
  have m1 : ((Int32.toInt64 (s 1 2)) * (Int32.toInt64 (s 1 0))).toInt = (s 1 2).toInt * (s 1 0).toInt := by
    rw [l_mul] <;> simp only [Int32.toInt_toInt64] <;> omega
  have a2 := mul_bd (a := (s 1 2).toInt * (s 1 0).toInt) (b := (s 1 0).toInt) (A := 360000) (B := 40) (by omega) (by omega) (by omega) (by omega)
  have m2 : ((Int32.toInt64 (s 1 2)) * (Int32.toInt64 (s 1 0)) * (Int32.toInt64 (s 1 0))).toInt = (s 1 2).toInt * (s 1 0).toInt * (s 1 0).toInt := by
    rw [l_mul] <;> rw [m1] <;> simp only [Int32.toInt_toInt64] <;> omega
  have a3 := mul_bd (a := (s 1 7).toInt) (b := f.toInt) (A := 300) (B := 200000) (by omega) (by omega) (by omega) (by omega)
  have m3 : ((Int32.toInt64 (s 1 7)) * f).toInt = (s 1 7).toInt * f.toInt := by
    rw [l_mul] <;> simp only [Int32.toInt_toInt64] <;> omega
  rw [l_add (by rw [m2, m3]; omega) (by rw [m2, m3]; omega), m2, m3] at e
  have z : (0 : Int64).toInt = 0 := by decide
  rw [z] at e
  have p1 : 0 < (s 1 2).toInt * (s 1 0).toInt := Int.mul_pos (by omega) (by omega)
  have p2 : 0 < (s 1 2).toInt * (s 1 0).toInt * (s 1 0).toInt := Int.mul_pos p1 (by omega)
  omega
theorem far_b {s : St} (h : okR s) {a : Int32} (h0 : 10 ≤ a.toInt) (h1 : a.toInt ≤ 160) : 0 ≤ ((Int32.toInt64 ((s 1 1) + a)) * (Int32.toInt64 ((s 1 1) + a))).toInt ∧ ((Int32.toInt64 ((s 1 1) + a)) * (Int32.toInt64 ((s 1 1) + a))).toInt ≤ 200000 := by
  have n := okR_lin h
  have e : ((s 1 1) + a).toInt = (s 1 1).toInt + a.toInt := t_add (by omega) (by omega)
  have b := mul_bd (a := (s 1 1).toInt + a.toInt) (b := (s 1 1).toInt + a.toInt) (A := 320) (B := 320) (by omega) (by omega) (by omega) (by omega)
  rw [l_mul] <;> simp only [Int32.toInt_toInt64, e] <;> omega
theorem two_nz {a : Int32} (h : 10 ≤ a.toInt ∧ a.toInt ≤ 160) : ¬ 2 * a = 0 := by
  intro e
  have e := congrArg Int32.toInt e
  rw [t_mul (by rw [tl_2]; omega) (by rw [tl_2]; omega), tl_2, tl_0] at e
  omega
theorem up_other {s : St} {K i k j : Nat} {x : Int32} (h : k ≠ K ∨ j ≠ i) : up s K i x k j = s k j := by
  by_cases e : k = K
  · subst e
    rw [up_eq]
    have hj : j ≠ i := by omega
    simp [upd, hj]
  · rw [up_ne e]
theorem fr_wl {σ : Type} (pr : σ → St) {f : σ → Option σ} {C : Nat → Nat → Prop} (hf : ∀ s t, f s = some t → ∀ k j, C k j → pr t k j = pr s k j) (n : Nat) (s : σ) {k j : Nat} (h : C k j) : pr (wl f n s) k j = pr s k j :=
  wl_inv (P := fun v => ∀ k j, C k j → pr v k j = pr s k j) (fun a b e i k j c => (hf a b e k j c).trans (i k j c)) n s (fun _ _ _ => rfl) k j h
theorem fr_R_step {s : St} {a b : Int32} {k j : Nat} (h : k ≠ 0 ∨ j < 19 ∨ 25 < j) : m_R_step s a b k j = s k j := by
  have hl : ∀ n v, (wl (g_R_step_44 a b) n v).1 k j = v.1 k j := by
    intro n v
    refine fr_wl (fun v : St × Int32 => v.1) (C := fun k j => k ≠ 0 ∨ j < 19 ∨ 25 < j) ?_ n v h
    intro v t e k j hk
    unfold g_R_step_44 f_R_step_44 at e
    repeat' split at e
    all_goals (cases e <;> (try dsimp only) <;> (repeat rw [up_other (by omega)]))
  unfold m_R_step
  have hb : ∀ t, b_R_step_129 t a b k j = t k j := by
    intro t
    unfold b_R_step_129
    split
    · rfl
    · split
      · rw [up_other (by omega)]
      · unfold b_R_step_194 b_R_step_245 b_R_step_270 b_R_step_302
        split <;> (repeat rw [up_other (by omega)])
  rw [hb, hl]
  dsimp only
  repeat rw [up_other (by omega)]
theorem okR_step {s : St} {a b : Int32} (h : okR s) : okR (m_R_step s a b) :=
  okR_fr h (funext fun j => fr_R_step (by omega)) (funext fun j => fr_R_step (by omega)) (fun j hj => fr_R_step (by omega))
theorem fr_R_keep {s : St} {k j : Nat} (h : k ≠ 29 ∧ k ≠ 30 ∧ k ≠ 31) : m_R_keep s k j = s k j := by
  unfold m_R_keep b_R_keep_50
  refine (fr_wl (fun v : St × Int32 => v.1) (C := fun k j => k ≠ 29 ∧ k ≠ 30 ∧ k ≠ 31) ?_ _ _ h)
  intro v t e k j hk
  unfold g_R_keep_2 f_R_keep_2 at e
  repeat' split at e
  all_goals (cases e <;> (try dsimp only) <;> (repeat rw [up_other (by omega)]))
theorem fr_R_giveBack {s : St} {k j : Nat} (h : k ≠ 9 ∧ k ≠ 10 ∧ k ≠ 11) : m_R_giveBack s k j = s k j := by
  unfold m_R_giveBack b_R_giveBack_50
  refine (fr_wl (fun v : St × Int32 => v.1) (C := fun k j => k ≠ 9 ∧ k ≠ 10 ∧ k ≠ 11) ?_ _ _ h)
  intro v t e k j hk
  unfold g_R_giveBack_2 f_R_giveBack_2 at e
  repeat' split at e
  all_goals (cases e <;> (try dsimp only) <;> (repeat rw [up_other (by omega)]))
theorem fr_R_strike {s : St} {x y f : Int32} {k j : Nat} (h : k ≠ 9 ∧ k ≠ 10 ∧ k ≠ 11) : (m_R_strike s x y f).2 k j = s k j := by
  have hl : ∀ n v, (wl (g_R_strike_83 x) n v).1 k j = v.1 k j := by
    intro n v
    refine fr_wl (fun v : St × Int32 × Int32 => v.1) (C := fun k j => k ≠ 9 ∧ k ≠ 10 ∧ k ≠ 11) ?_ n v h
    intro v t e k j hk
    unfold g_R_strike_83 f_R_strike_83 at e
    repeat' split at e
    all_goals (cases e <;> (try dsimp only) <;> (repeat rw [up_other (by omega)]))
  unfold m_R_strike b_R_strike_156
  repeat' split
  all_goals first
    | rfl
    | (dsimp only; rw [hl]; dsimp only; repeat rw [up_other (by omega)])
theorem okR_keep {s : St} (h : okR s) : okR (m_R_keep s) :=
  okR_fr h (funext fun j => fr_R_keep (by omega)) (funext fun j => fr_R_keep (by omega)) (fun j hj => fr_R_keep (by omega))
theorem okR_giveBack {s : St} (h : okR s) : okR (m_R_giveBack s) :=
  okR_fr h (funext fun j => fr_R_giveBack (by omega)) (funext fun j => fr_R_giveBack (by omega)) (fun j hj => fr_R_giveBack (by omega))
theorem okR_strike {s : St} {x y f : Int32} (h : okR s) : okR (m_R_strike s x y f).2 :=
  okR_fr h (funext fun j => fr_R_strike (by omega)) (funext fun j => fr_R_strike (by omega)) (fun j hj => fr_R_strike (by omega))
theorem fr_R_cheaper {s : St} {a v : Int32} {k j : Nat} (h : k ≠ 33) : m_R_cheaper s a v k j = s k j := by
  unfold m_R_cheaper
  repeat' split
  all_goals first
    | rfl
    | (repeat rw [up_other (by omega)])
theorem okR_cheaper {s : St} {a v : Int32} (h : okR s) : okR (m_R_cheaper s a v) :=
  okR_fr h (funext fun j => fr_R_cheaper (by omega)) (funext fun j => fr_R_cheaper (by omega)) (fun j hj => fr_R_cheaper (by omega))
theorem takes3_t {s : St} {a : Int32} (h : ¬ m_M_takes s 3 a = 0) : 10 ≤ a.toInt ∧ a.toInt ≤ 160 := by
  have e1 : (zML (Int32.toNatClampNeg 3)).toInt = 10 := by decide +kernel
  have e2 : (zMM (Int32.toNatClampNeg 3)).toInt = 160 := by decide +kernel
  unfold m_M_takes at h
  split at h
  · exact absurd rfl h
  · split at h
    · exact absurd rfl h
    · rename_i h2
      have := within_t h2
      rw [e1, e2] at this
      exact this
theorem okL_mul {s : St} (h : okL s) : 1 ≤ (s 0 4 * s 0 5).toInt ∧ (s 0 4 * s 0 5).toInt ≤ 48 := by
  have n := okL_lin h
  have b := mul_bd (a := (s 0 4).toInt) (b := (s 0 5).toInt) (A := 8) (B := 6) (by omega) (by omega) (by omega) (by omega)
  have p : 0 < (s 0 4).toInt * (s 0 5).toInt := Int.mul_pos (by omega) (by omega)
  rw [t_mul (by omega) (by omega)]
  omega
theorem okR_mul {s : St} (h : okR s) : 1 ≤ (s 0 6 * s 0 7).toInt ∧ (s 0 6 * s 0 7).toInt ≤ 48 := by
  have n := okR_lin h
  have b := mul_bd (a := (s 0 6).toInt) (b := (s 0 7).toInt) (A := 8) (B := 6) (by omega) (by omega) (by omega) (by omega)
  have p : 0 < (s 0 6).toInt * (s 0 7).toInt := Int.mul_pos (by omega) (by omega)
  rw [t_mul (by omega) (by omega)]
  omega
theorem size_t {x : Int32} (h : -1000000 ≤ x.toInt ∧ x.toInt ≤ 1000000) : (m_R_size x).toInt = x.toInt.natAbs := by
  unfold m_R_size
  have e0 := tl_0
  split
  · rename_i h1
    have h1 := le_t h1
    omega
  · rename_i h1
    have h1 := nle_t h1
    rw [Int32.toInt_neg, t_bmod (by omega) (by omega)]
    omega
theorem sd_nz {x : Int32} (h : -180 ≤ x.toInt ∧ x.toInt ≤ 180) : ¬ (40500 - (m_R_size x) * (180 - (m_R_size x))) = 0 := by
  have e := size_t (x := x) (by omega)
  generalize m_R_size x = a at e
  have a1 : (180 - a).toInt = 180 - a.toInt := by rw [t_sub (by rw [tl_180]; omega) (by rw [tl_180]; omega), tl_180]
  have b := mul_bd (a := a.toInt) (b := 180 - a.toInt) (A := 180) (B := 180) (by omega) (by omega) (by omega) (by omega)
  have a2 : (a * (180 - a)).toInt = a.toInt * (180 - a.toInt) := by rw [t_mul (by rw [a1]; omega) (by rw [a1]; omega), a1]
  intro z
  have z := congrArg Int32.toInt z
  rw [t_sub (by rw [tl_40500, a2]; omega) (by rw [tl_40500, a2]; omega), tl_40500, a2, tl_0] at z
  omega
theorem fl_nz {s : St} (h : okR s) : ¬ (20 * (s 1 7) + 2000) = 0 := by
  have n := okR_lin h
  have a1 : (20 * (s 1 7)).toInt = 20 * (s 1 7).toInt := by rw [t_mul (by rw [tl_20]; omega) (by rw [tl_20]; omega), tl_20]
  intro z
  have z := congrArg Int32.toInt z
  rw [t_add (by rw [tl_2000, a1]; omega) (by rw [tl_2000, a1]; omega), tl_2000, a1, tl_0] at z
  omega
theorem two_b {a : Int32} (h : 1 ≤ a.toInt ∧ a.toInt ≤ 89) : -180 ≤ (2 * a).toInt ∧ (2 * a).toInt ≤ 180 := by
  rw [t_mul (by rw [tl_2]; omega) (by rw [tl_2]; omega), tl_2]
  omega
theorem sub_b {a b : Int32} (h : 1 ≤ a.toInt ∧ a.toInt ≤ 160) (h2 : 10 ≤ b.toInt ∧ b.toInt ≤ 60) : -180 ≤ (a - b).toInt ∧ (a - b).toInt ≤ 180 := by
  rw [t_sub (by omega) (by omega)]
  omega
theorem SH_t {s : St} {d : Int32} : (m_B_surestHook s d).toInt = -9 ∨ (0 ≤ (m_B_surestHook s d).toInt ∧ (m_B_surestHook s d).toInt ≤ 60) := by
  have key := wl_inv (f := g_B_surestHook_9 s d) (P := fun v => (v.1.toInt = -9 ∨ (0 ≤ v.1.toInt ∧ v.1.toInt ≤ 60)) ∧ 0 ≤ v.2.2.toInt ∧ v.2.2.toInt ≤ 61) ?_ 62 ((-9), 1000000, 0) ⟨Or.inl (by decide), by decide, by decide⟩
  · exact key.1
  · intro v t e h
    unfold g_B_surestHook_9 f_B_surestHook_9 at e
    split at e
    · cases e
    · rename_i h1
      have h1 := nle_t h1
      rw [tl_61] at h1
      have u := t_inc (x := v.2.2) (by omega)
      repeat' split at e
      all_goals (cases e; dsimp only; omega)
theorem in_nar {a b c : Int32} : narrow .boolean (.int (m_R_in a b c)) = .int (m_R_in a b c) := by
  unfold m_R_in
  repeat' split
  all_goals decide
theorem cell_b {s : St} (h : okR s) {x y : Int32} (h1 : 0 ≤ x.toInt ∧ x.toInt < (s 0 6).toInt ∧ 0 ≤ y.toInt ∧ y.toInt < (s 0 7).toInt) : (x + (s 0 6) * y).toInt = x.toInt + (s 0 6).toInt * y.toInt ∧ 0 ≤ (x + (s 0 6) * y).toInt ∧ (x + (s 0 6) * y).toInt ≤ 47 := by
  have n := okR_lin h
  have b := mul_bd (a := (s 0 6).toInt) (b := y.toInt) (A := (s 0 6).toInt) (B := 5) (by omega) (by omega) (by omega) (by omega)
  have a1 : ((s 0 6) * y).toInt = (s 0 6).toInt * y.toInt := t_mul (by omega) (by omega)
  have a2 : (x + (s 0 6) * y).toInt = x.toInt + (s 0 6).toInt * y.toInt := by rw [t_add (by rw [a1]; omega) (by rw [a1]; omega), a1]
  exact ⟨a2, by omega, by omega⟩
theorem cell_in {s : St} (h : okR s) {x y : Int32} (h1 : 0 ≤ x.toInt ∧ x.toInt < (s 0 6).toInt ∧ 0 ≤ y.toInt ∧ y.toInt < (s 0 7).toInt) : vp_in (x + (s 0 6) * y) 48 := by
  have := cell_b h h1
  exact vp_in_iff.mpr (by omega)
theorem cell_in2 {s : St} (h : okR s) {x y : Int32} (h1 : 0 ≤ x.toInt ∧ x.toInt < (s 0 6).toInt ∧ 1 ≤ y.toInt ∧ y.toInt < (s 0 7).toInt) : vp_in (x + (s 0 6) * y - (s 0 6)) 48 := by
  have n := okR_lin h
  have c := cell_b h (x := x) (y := y) (by omega)
  have e : (s 0 6).toInt * y.toInt = (s 0 6).toInt * (y.toInt - 1) + (s 0 6).toInt := by rw [Int.mul_sub, Int.mul_one]; omega
  have p := Int.mul_nonneg (a := (s 0 6).toInt) (b := y.toInt - 1) (by omega) (by omega)
  have a : (x + (s 0 6) * y - (s 0 6)).toInt = (x + (s 0 6) * y).toInt - (s 0 6).toInt := t_sub (by omega) (by omega)
  exact vp_in_iff.mpr (by omega)
theorem isforce_t {f : Int32} (h : ¬ m_R_isForce f = 0) : 1 ≤ f.toInt ∧ f.toInt ≤ 99 := by
  unfold m_R_isForce at h
  have := in_t h
  rw [tl_1, tl_99] at this
  exact this
theorem dbl {a : Int32} (h : 0 ≤ a.toInt ∧ a.toInt ≤ 3) : (2 * a).toInt = 2 * a.toInt ∧ (2 * a + 1).toInt = 2 * a.toInt + 1 ∧ (2 * a + 2).toInt = 2 * a.toInt + 2 := by
  have e : (2 * a).toInt = 2 * a.toInt := by rw [t_mul (by rw [tl_2]; omega) (by rw [tl_2]; omega), tl_2]
  refine ⟨e, ?_, ?_⟩
  · rw [t_add (by rw [tl_1, e]; omega) (by rw [tl_1, e]; omega), tl_1, e]
  · rw [t_add (by rw [tl_2, e]; omega) (by rw [tl_2, e]; omega), tl_2, e]
theorem mul9 {a : Int32} (h : 0 ≤ a.toInt ∧ a.toInt ≤ 100000) : (a * 9).toInt = a.toInt * 9 := by
  rw [t_mul (by rw [tl_9]; omega) (by rw [tl_9]; omega), tl_9]
theorem rem9 {a : Int32} (h : 0 ≤ a.toInt) : (a / 9).toInt = a.toInt / 9 ∧ (a - a / 9 * 9).toInt = a.toInt % 9 := by
  have r := t_rng a
  have e : (a / 9).toInt = a.toInt / 9 := by
    rw [Int32.toInt_div, tl_9, Int.tdiv_eq_ediv_of_nonneg h, t_bmod (by omega) (by omega)]
  have e2 : (a / 9 * 9).toInt = a.toInt / 9 * 9 := by
    rw [t_mul (by rw [tl_9, e]; omega) (by rw [tl_9, e]; omega), tl_9, e]
  refine ⟨e, ?_⟩
  rw [t_sub (by rw [e2]; omega) (by rw [e2]; omega), e2]
  omega
theorem sc_in {a b : Int32} (h : -1 ≤ a.toInt ∧ a.toInt ≤ 1 ∧ -1 ≤ b.toInt ∧ b.toInt ≤ 1) : vp_in ((a + 1) + (3 * (b + 1))) 9 := by
  have e1 : (a + 1).toInt = a.toInt + 1 := t_inc (by omega)
  have e2 : (b + 1).toInt = b.toInt + 1 := t_inc (by omega)
  have e3 : (3 * (b + 1)).toInt = 3 * (b.toInt + 1) := by rw [t_mul (by rw [tl_3, e2]; omega) (by rw [tl_3, e2]; omega), tl_3, e2]
  have e4 : ((a + 1) + (3 * (b + 1))).toInt = a.toInt + 1 + 3 * (b.toInt + 1) := by rw [t_add (by rw [e1, e3]; omega) (by rw [e1, e3]; omega), e1, e3]
  exact vp_in_iff.mpr (by omega)
theorem okR_h {s : St} (h : okR s) {i : Int32} (h1 : 0 ≤ i.toInt) (h2 : i.toInt < (s 0 3).toInt) : vp_in (s 5 (Int32.toNatClampNeg i)) 61 := by
  have n := okR_lin h
  have e : (Int32.toNatClampNeg i : Int) = i.toInt := by
    show ((i.toInt.toNat : Nat) : Int) = i.toInt
    omega
  have := h.2 (Int32.toNatClampNeg i) (by omega)
  exact vp_in_iff.mpr (by omega)
