/-! the hits to open a column; the column that opens soonest -/
theorem fe_st {st pr : Nat → Bool} {p : Nat} : ∀ {k : Nat}, fe st pr p k → ∀ j, j < k → p.testBit j = true → st j = true
  | 0, _, j, h, _ => by omega
  | k + 1, f, j, h, t => by
    by_cases e : j = k
    · rw [e] at t ⊢; exact (f.2 t).1
    · exact fe_st f.1 j (by omega) t
section SOON
variable {sL sR : St} {f : Int32} {xn : Nat}
theorem open_L (hR : okR sR) (hL : relL sL sR) (hx : (xn : Int) < (sR 0 6).toInt) (hf : 1 ≤ f.toInt ∧ f.toInt ≤ 99) {x : Int32} (hxt : x.toInt = (xn : Int)) : m_L_hitsToOpen sL x f = (m_R_fewest sR x f).1 := by
  have nR := okR_lin hR
  have hkeep := fun v a b => keep_L hR hL hx hf (x := x) (v := v) hxt a b
  obtain ⟨rA, rB⟩ := few_R hR hL hx hf hxt
  obtain ⟨c1, c2, c3⟩ := hL.2.2.2.2 xn hx
  have hcst := cst_b hR hL hx hf
  obtain ⟨h, eh⟩ : ∃ h, h = (sR 0 7).toInt.toNat := ⟨_, rfl⟩
  rw [← eh] at rA rB c1 c2 hkeep
  rw [powi] at c1 hkeep
  have h6 : h ≤ 6 := by omega
  have pw := pow_le64 h6
  have eN : ((1 : Int32) <<< ((sL 0 5) &&& 31)).toInt = ((2 ^ h : Nat) : Int) := by
    rw [hL.2.1, eq_ofNat (i := sR 0 7) (k := h) (by omega)]; exact shl_tab7 h (by omega)
  have hvn : sL 2 xn = Int32.ofNat (sL 2 xn).toInt.toNat := eq_ofNat (by omega)
  have sub : ∀ (k : Nat) (y : Int32), k < 2 ^ h → y.toInt = (k : Int) → ((y &&& (sL 2 xn ^^^ (-1)) = 0) ↔ ∀ j, j < 6 → k.testBit j = true → stB sL xn j = true) := by
    intro k y hk hy
    rw [eq_ofNat hy, hvn]
    exact sub_tab k (by omega) _ (by omega)
  have k := wl_run (f := g_L_hitsToOpen_22 sL x f) (fun k s => s.2.toInt = (k : Int) ∧ (∀ p, p < k → ((∀ j, j < 6 → p.testBit j = true → stB sL xn j = true) ∧ (pc p h : Int) ≤ (sR 0 11).toInt) → s.1.toInt ≤ (m_L_hitsToKeep sL x (Int32.ofNat p) f).toInt) ∧ (s.1 = 1000000 ∨ ∃ p, p < k ∧ ((∀ j, j < 6 → p.testBit j = true → stB sL xn j = true) ∧ (pc p h : Int) ≤ (sR 0 11).toInt) ∧ s.1 = m_L_hitsToKeep sL x (Int32.ofNat p) f)) (2 ^ h) (by
    rintro k ⟨b, y⟩ hk ⟨g1, g2, g3⟩
    dsimp only at g1 g2 g3
    have n1 : ¬ ((1 : Int32) <<< ((sL 0 5) &&& 31)) ≤ y := fun q => by have := le_t q; omega
    have hi : (y + 1).toInt = ((k + 1 : Nat) : Int) := by rw [t_inc (by omega)]; omega
    have ecx : Int32.toNatClampNeg x = xn := cl_n hxt
    have hg : g_L_hitsToOpen_22 sL x f (b, y) = f_L_hitsToOpen_22 sL x f b y := rfl
    have hbc : (m_J_bitCount y).toInt = (pc k h : Int) := by
      rw [bc_cnt h6 (v := y) (by omega) (by rw [powi]; omega), ← pc_cntb, show y.toInt.toNat = k by omega]
    have ey : y = Int32.ofNat k := eq_ofNat g1
    have skip : ¬ ((∀ j, j < 6 → k.testBit j = true → stB sL xn j = true) ∧ (pc k h : Int) ≤ (sR 0 11).toInt) → (b, y + 1).2.toInt = ((k + 1 : Nat) : Int) ∧ (∀ p, p < k + 1 → ((∀ j, j < 6 → p.testBit j = true → stB sL xn j = true) ∧ (pc p h : Int) ≤ (sR 0 11).toInt) → (b, y + 1).1.toInt ≤ (m_L_hitsToKeep sL x (Int32.ofNat p) f).toInt) ∧ ((b, y + 1).1 = 1000000 ∨ ∃ p, p < k + 1 ∧ ((∀ j, j < 6 → p.testBit j = true → stB sL xn j = true) ∧ (pc p h : Int) ≤ (sR 0 11).toInt) ∧ (b, y + 1).1 = m_L_hitsToKeep sL x (Int32.ofNat p) f) := by
      intro q
      refine ⟨hi, fun p hp hv => ?_, ?_⟩
      · by_cases e : p = k
        · rw [e] at hv; exact absurd hv q
        · exact g2 p (by omega) hv
      · rcases g3 with g | ⟨p, p1, p2⟩
        · exact Or.inl g
        · exact Or.inr ⟨p, by omega, p2⟩
    by_cases s1 : y &&& (sL 2 xn ^^^ (-1)) = 0
    · have v1 := (sub k y hk g1).mp s1
      by_cases s2 : sL 0 6 < m_J_bitCount y
      · have := lt_t s2
        rw [hbc, hL.2.2.1] at this
        refine ⟨(b, y + 1), ?_, skip (fun q => by have := q.2; omega)⟩
        rw [hg]
        unfold f_L_hitsToOpen_22
        rw [if_neg n1, ecx, if_pos s1, if_pos s2]
      · have := nlt_t s2
        rw [hbc, hL.2.2.1] at this
        by_cases c : m_L_hitsToKeep sL x y f < b
        · have lc := lt_t c
          refine ⟨(m_L_hitsToKeep sL x y f, y + 1), ?_, hi, fun p hp hv => ?_, Or.inr ⟨k, by omega, ⟨v1, this⟩, by rw [← ey]⟩⟩
          · rw [hg]
            unfold f_L_hitsToOpen_22
            rw [if_neg n1, ecx, if_pos s1, if_neg s2, if_pos c]
          · dsimp only
            by_cases e : p = k
            · rw [e, ← ey]; omega
            · have := g2 p (by omega) hv
              omega
        · have lc := nlt_t c
          refine ⟨(b, y + 1), ?_, hi, fun p hp hv => ?_, ?_⟩
          · rw [hg]
            unfold f_L_hitsToOpen_22
            rw [if_neg n1, ecx, if_pos s1, if_neg s2, if_neg c]
          · dsimp only
            by_cases e : p = k
            · rw [e, ← ey]; omega
            · exact g2 p (by omega) hv
          · rcases g3 with g | ⟨p, p1, p2⟩
            · exact Or.inl g
            · exact Or.inr ⟨p, by omega, p2⟩
    · refine ⟨(b, y + 1), ?_, skip (fun q => s1 ((sub k y hk g1).mpr q.1))⟩
      rw [hg]
      unfold f_L_hitsToOpen_22
      rw [if_neg n1, ecx, if_neg s1]) (by
    rintro ⟨b, y⟩ ⟨g1, g2, g3⟩
    dsimp only at g1
    show f_L_hitsToOpen_22 sL x f b y = none
    unfold f_L_hitsToOpen_22
    rw [if_pos (Int32.le_iff_toInt_le.mpr (by rw [eN]; omega))]) 65 0 (1000000, 0) (by omega) (by omega) ⟨by rw [tl_0]; rfl, fun p hp => by omega, Or.inl rfl⟩
  have c1' : (sL 0 4 - 1).toInt = (sR 0 6).toInt - 1 := by rw [hL.1, t_sub (by rw [tl_1]; omega) (by rw [tl_1]; omega), tl_1]
  unfold m_L_hitsToOpen b_L_hitsToOpen_90
  rw [if_neg (by rw [within_1 (by rw [tl_0]; omega) (by omega)]; decide)]
  generalize (wl (g_L_hitsToOpen_22 sL x f) 65 (1000000, 0)) = W at k ⊢
  generalize (m_R_fewest sR x f).1 = r at rA rB ⊢
  obtain ⟨-, w1, w2⟩ := k
  have r0 := rA 0 (fe_0 h) (by rw [pc_0]; omega)
  have r1 := (co_b (p := 0) (pr := prB sL xn) hcst h).2
  obtain ⟨p, p1, p2, p3, p4⟩ := rB (by omega)
  have val : ∀ p, p < 2 ^ h → ((∀ j, j < 6 → p.testBit j = true → stB sL xn j = true)) → (fe (stB sL xn) (prB sL xn) p h ∧ (m_L_hitsToKeep sL x (Int32.ofNat p) f).toInt = co (stB sL xn) (prB sL xn) (cst sL xn f) p h) ∨ (¬ fe (stB sL xn) (prB sL xn) p h ∧ m_L_hitsToKeep sL x (Int32.ofNat p) f = 1000000) := by
    intro p hp hv
    have et : (Int32.ofNat p).toInt = (p : Int) := ofNat_t (by omega)
    have q := hkeep (Int32.ofNat p) ⟨by omega, by omega⟩ (fun k hk => by rw [et]; exact hv k (by omega))
    rw [et] at q
    exact q
  have vp : ∀ j, j < 6 → p.testBit j = true → stB sL xn j = true := by
    intro j _ tj
    by_cases e : j < h
    · exact fe_st p2 j e tj
    · have := Nat.pow_le_pow_right (n := 2) (by decide) (show h ≤ j by omega)
      rw [Nat.testBit_lt_two_pow (show p < 2 ^ j by omega)] at tj
      cases tj
  have l1 := w1 p p1 ⟨vp, p3⟩
  have l2 : (m_L_hitsToKeep sL x (Int32.ofNat p) f).toInt = r.toInt := by
    rcases val p p1 vp with q | q
    · exact q.2.trans p4
    · exact absurd p2 q.1
  have l3 : r.toInt ≤ W.1.toInt := by
    rcases w2 with q | ⟨p', q1, q2, q3⟩
    · rw [q, t1m]; omega
    · rw [q3]
      rcases val p' q1 q2.1 with z | z
      · have := rA p' z.1 q2.2
        omega
      · rw [z.2, t1m]; omega
  exact t_ext (by omega)
end SOON
variable {sT : St} {vT : Int64} {sM sB sL sS sR : St} {vR : Int64}
theorem P_soonest (h : Rel sT vT sM sB sL sS sR vR) (a1 a2 : Int32) : (m_T_soonest sT sL a1 a2) = (m_R_soonest sR a1 a2).1 ∧ Rel sT vT sM sB sL sS (m_R_soonest sR a1 a2).2 vR := by
  unfold m_T_soonest m_R_soonest m_R_isForce
  rw [in_eq, in_eq]
  by_cases c1 : m_T_within a1 1 99 = 0
  · rw [if_pos c1, if_pos c1]; exact ⟨rfl, h⟩
  have w := within_t c1
  rw [tl_1, tl_99] at w
  by_cases c2 : m_T_within a2 0 1 = 0
  · rw [if_neg c1, if_neg c1, if_pos c2, if_pos c2]; exact ⟨rfl, h⟩
  rw [if_neg c1, if_neg c1, if_neg c2, if_neg c2]
  have nR := okR_lin h.1
  have hL := h.2.2.2.2.1
  have frame : ∀ {t : St}, Rs sR t → okR t ∧ relL sL t ∧ t 0 6 = sR 0 6 := fun {t} r => ⟨(Rel_scr h r).1, (Rel_scr h r).2.2.2.2.1, r.fld (by omega)⟩
  have op : ∀ {t : St} {x : Int32} {k : Nat}, Rs sR t → x.toInt = (k : Int) → (k : Int) < (sR 0 6).toInt → m_L_hitsToOpen sL x a1 = (m_R_fewest t x a1).1 := by
    intro t x k r hx hk
    obtain ⟨q1, q2, q3⟩ := frame r
    exact open_L q1 q2 (by rw [q3]; exact hk) w hx
  have k := wl_sim (f := g_L_soonestColumn_4 sL a1) (g := g_R_soonest_31 a1) (fun k (s : Int32 × Int32) t => Rs sR t.1 ∧ s.1 = t.2.1 ∧ t.2.2.1 = m_L_hitsToOpen sL s.1 a1 ∧ s.2 = t.2.2.2 ∧ s.2.toInt = (k : Int) + 1) ((sR 0 6).toInt.toNat - 1) (by
    rintro k ⟨b, i⟩ ⟨t, rb, rl, j⟩ hk ⟨g1, g2, g3, g4, g5⟩
    dsimp only at g1 g2 g3 g4 g5
    subst g2; subst g4; subst g3
    have n1 : ¬ sL 0 4 ≤ i := fun q => by have := le_t q; rw [hL.1] at this; omega
    have n2 : ¬ t 0 6 ≤ i := fun q => by have := le_t q; rw [(frame g1).2.2] at this; omega
    have e := op (x := i) (k := k + 1) g1 (by omega) (by omega)
    have hi : (i + 1).toInt = ((k + 1 : Nat) : Int) + 1 := by rw [t_inc (by omega)]; omega
    have r2 : Rs sR (m_R_fewest t i a1).2 := g1.tr Rs.fewest
    by_cases c : m_L_hitsToOpen sL b a1 ≤ m_L_hitsToOpen sL i a1
    · refine ⟨(b, i + 1), ((m_R_fewest t i a1).2, b, m_L_hitsToOpen sL b a1, i + 1), ?_, ?_, r2, rfl, rfl, rfl, hi⟩
      · show f_L_soonestColumn_4 sL a1 b i = _
        unfold f_L_soonestColumn_4
        rw [if_neg n1, if_pos c]
      · show f_R_soonest_31 a1 t b _ i = _
        unfold f_R_soonest_31
        rw [if_neg n2, ← e, if_pos c, if_pos c]
    · refine ⟨(i, i + 1), ((m_R_fewest t i a1).2, i, m_L_hitsToOpen sL i a1, i + 1), ?_, ?_, r2, rfl, rfl, rfl, hi⟩
      · show f_L_soonestColumn_4 sL a1 b i = _
        unfold f_L_soonestColumn_4
        rw [if_neg n1, if_neg c]
      · show f_R_soonest_31 a1 t b _ i = _
        unfold f_R_soonest_31
        rw [if_neg n2, ← e, if_neg c, if_neg c]) (by
    rintro ⟨b, i⟩ ⟨t, rb, rl, j⟩ ⟨g1, g2, g3, g4, g5⟩
    dsimp only at g1 g4 g5
    subst g4
    refine ⟨?_, ?_⟩
    · show f_L_soonestColumn_4 sL a1 b i = _
      unfold f_L_soonestColumn_4
      rw [if_pos (Int32.le_iff_toInt_le.mpr (by rw [hL.1]; omega))]
    · show f_R_soonest_31 a1 t rb rl i = _
      unfold f_R_soonest_31
      rw [if_pos (Int32.le_iff_toInt_le.mpr (by rw [(frame g1).2.2]; omega))]) 9 9 0 (0, 1) ((m_R_fewest sR 0 a1).2, 0, (m_R_fewest sR 0 a1).1, 1) (by omega) (by omega) (by omega) ⟨Rs.fewest, rfl, (op (x := 0) (k := 0) Rs.rf (by rw [tl_0]; rfl) (by omega)).symm, rfl, by rw [tl_1]; rfl⟩
  unfold m_L_soonestColumn b_L_soonestColumn_35 b_R_soonest_85
  generalize (wl (g_L_soonestColumn_4 sL a1) 9 (0, 1)) = A at k ⊢
  generalize (wl (g_R_soonest_31 a1) 9 ((m_R_fewest sR 0 a1).2, 0, (m_R_fewest sR 0 a1).1, 1)) = B at k ⊢
  obtain ⟨k1, k2, k3, -, -⟩ := k
  by_cases z : a2 = 0
  · rw [if_pos z, if_pos z]; exact ⟨k2, Rel_scr h k1⟩
  · rw [if_neg z, if_neg z]; exact ⟨k3.symm, Rel_scr h k1⟩
