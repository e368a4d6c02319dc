/-! the fewest hits, whole: the reference's number and the class' number are the least over the same sets -/
theorem t1m : (1000000 : Int32).toInt = 1000000 := by decide +kernel
theorem sub_tab : ∀ n : Nat, n < 64 → ∀ v : Nat, v < 64 → ((Int32.ofNat n &&& (Int32.ofNat v ^^^ (-1)) = 0) ↔ ∀ k : Nat, k < 6 → n.testBit k = true → v.testBit k = true) := by decide +kernel
theorem shl_tab7 : ∀ h : Nat, h < 7 → ((1 : Int32) <<< (Int32.ofNat h &&& 31)).toInt = ((2 ^ h : Nat) : Int) := by decide +kernel
theorem pc_cntb {v : Int32} : ∀ {k : Nat}, pc v.toInt.toNat k = cntb v k
  | 0 => rfl
  | k + 1 => by
    unfold pc cntb
    rw [@pc_cntb v k]
section LESS
variable {sL sR : St} {f : Int32} {xn : Nat}
theorem few_R (hR : okR sR) (hL : relL sL sR) (hx : (xn : Int) < (sR 0 6).toInt) (hf : 1 ≤ f.toInt ∧ f.toInt ≤ 99) {x : Int32} (hxt : x.toInt = (xn : Int)) : (∀ p, fe (stB sL xn) (prB sL xn) p (sR 0 7).toInt.toNat → (pc p (sR 0 7).toInt.toNat : Int) ≤ (sR 0 11).toInt → (m_R_fewest sR x f).1.toInt ≤ co (stB sL xn) (prB sL xn) (cst sL xn f) p (sR 0 7).toInt.toNat) ∧ ((m_R_fewest sR x f).1.toInt < 100000 → ∃ p, p < 2 ^ (sR 0 7).toInt.toNat ∧ fe (stB sL xn) (prB sL xn) p (sR 0 7).toInt.toNat ∧ (pc p (sR 0 7).toInt.toNat : Int) ≤ (sR 0 11).toInt ∧ co (stB sL xn) (prB sL xn) (cst sL xn f) p (sR 0 7).toInt.toNat = (m_R_fewest sR x f).1.toInt) := by
  have nR := okR_lin hR
  obtain ⟨h, eh⟩ : ∃ h, h = (sR 0 7).toInt.toNat := ⟨_, rfl⟩
  have k0 := wl_run (f := g_R_fewest_6 100000) (fun m v => (∀ p j, p ≠ 32 → v.1 p j = sR p j) ∧ (∀ i, i < m → v.1 32 i = (if i = 0 then 0 else 100000)) ∧ v.2.toInt = (m : Int)) 6 (by
    rintro m ⟨v, i⟩ hm ⟨g1, g2, g3⟩
    dsimp only at g1 g2 g3
    refine ⟨(up v 32 m (if m = 0 then 0 else 100000), i + 1), ?_, ?_, ?_, ?_⟩
    · show f_R_fewest_6 100000 v i = _
      unfold f_R_fewest_6
      rw [if_neg (fun q => by have := le_t q; rw [t6] at this; omega), cl_n g3]
      by_cases z : i = 0
      · have := congrArg Int32.toInt z
        rw [tl_0] at this
        rw [if_pos z, if_pos (show m = 0 by omega)]
      · rw [if_neg z, if_neg (show ¬ m = 0 from fun q => z (t_ext (by rw [tl_0]; omega)))]
    · intro p j hp
      dsimp only
      rw [up_ne hp]; exact g1 p j hp
    · intro j hj
      dsimp only
      rw [up_row]
      by_cases e : j = m
      · rw [if_pos e, e]
      · rw [if_neg e]; exact g2 j (by omega)
    · dsimp only
      rw [t_inc (by omega)]; omega) (by
    rintro ⟨v, i⟩ ⟨g1, g2, g3⟩
    dsimp only at g3
    show f_R_fewest_6 100000 v i = none
    unfold f_R_fewest_6
    rw [if_pos (Int32.le_iff_toInt_le.mpr (by rw [t6]; omega))]) 7 0 (sR, 0) (by omega) (by omega) ⟨fun _ _ _ => rfl, fun i hi => by omega, by rw [tl_0]; rfl⟩
  have hm : (m_R_fewest sR x f).1 = (wl (g_R_fewest_292 (wl (g_R_fewest_39 x f 100000) 7 ((wl (g_R_fewest_6 100000) 7 (sR, 0)).1, 0)).1) 7 (100000, 0)).1 := rfl
  rw [hm, ← eh]
  generalize (wl (g_R_fewest_6 100000) 7 (sR, 0)) = U at k0 ⊢
  obtain ⟨u1, u2, -⟩ := k0
  have k1 := wl_run (f := g_R_fewest_39 x f 100000) (fun k v => (∀ p j, p ≠ 32 ∧ p ≠ 33 → v.1 p j = sR p j) ∧ tabOk (stB sL xn) (prB sL xn) (cst sL xn f) (fun i => (v.1 32 i).toInt) k ∧ v.2.toInt = (k : Int)) h (by
    rintro k ⟨v, y⟩ hk ⟨g1, g2, g3⟩
    dsimp only at g1 g2 g3
    have a : At sR x y xn k := ⟨hxt, g3, hx, by omega⟩
    obtain ⟨r1, r2⟩ := few_row hR hL hx hf (u := v) (y := y) (x := x) (ci := x + (v 0 6) * y) (k := k) (by omega) g1 (by rw [g1 0 6 (by omega)]; exact a.idx hR) g2
    refine ⟨((wl g_R_fewest_253 7 ((wl (g_R_fewest_86 f 100000 (x + (v 0 6) * y)) 4 ((wl (g_R_fewest_62 100000) 7 (v, 0)).1, 0)).1, 0)).1, y + 1), ?_, r1, r2, ?_⟩
    · show f_R_fewest_39 x f 100000 v y = _
      unfold f_R_fewest_39
      rw [if_neg (fun q => by have := le_t q; rw [g1 0 7 (by omega)] at this; omega)]
      rfl
    · dsimp only
      rw [t_inc (by omega)]; omega) (by
    rintro ⟨v, y⟩ ⟨g1, g2, g3⟩
    dsimp only at g1 g3
    show f_R_fewest_39 x f 100000 v y = none
    unfold f_R_fewest_39
    rw [if_pos (Int32.le_iff_toInt_le.mpr (by rw [g1 0 7 (by omega)]; omega))]) 7 0 (U.1, 0) (by omega) (by omega) ⟨fun p j hp => u1 p j hp.1, tab_0 (by show (U.1 32 0).toInt = 0; rw [u2 0 (by omega), if_pos rfl, tl_0]) (fun i h1 h2 => by show (U.1 32 i).toInt = 100000; rw [u2 i h2, if_neg (by omega), t100k]), by rw [tl_0]; rfl⟩
  generalize (wl (g_R_fewest_39 x f 100000) 7 (U.1, 0)) = V at k1 ⊢
  obtain ⟨v1, tab, -⟩ := k1
  have e11 : V.1 0 11 = sR 0 11 := v1 0 11 (by omega)
  have eN : ((2 * (V.1 0 11)) + 2).toInt = 2 * (sR 0 11).toInt + 2 := by rw [e11]; exact (dbl (a := sR 0 11) (by omega)).2.2
  have k2 := wl_run (f := g_R_fewest_292 V.1) (fun m v => (∀ i, i < m → v.1.toInt ≤ (V.1 32 i).toInt) ∧ (v.1 = 100000 ∨ ∃ i, i < m ∧ v.1 = V.1 32 i) ∧ v.2.toInt = (m : Int)) (2 * (sR 0 11).toInt.toNat + 2) (by
    rintro m ⟨b, i⟩ hm ⟨g1, g2, g3⟩
    dsimp only at g1 g2 g3
    have n1 : ¬ ((2 * (V.1 0 11)) + 2) ≤ i := fun q => by have := le_t q; omega
    have hi : (i + 1).toInt = ((m + 1 : Nat) : Int) := by rw [t_inc (by omega)]; omega
    by_cases c : b ≤ V.1 32 m
    · have := le_t c
      refine ⟨(b, i + 1), ?_, ?_, ?_, hi⟩
      · show f_R_fewest_292 V.1 b i = _
        unfold f_R_fewest_292
        rw [if_neg n1, cl_n g3, if_pos c]
      · intro j hj
        by_cases e : j = m
        · rw [e]; exact this
        · exact g1 j (by omega)
      · rcases g2 with g | ⟨j, j1, j2⟩
        · exact Or.inl g
        · exact Or.inr ⟨j, by omega, j2⟩
    · have := nle_t c
      refine ⟨(V.1 32 m, i + 1), ?_, ?_, ?_, hi⟩
      · show f_R_fewest_292 V.1 b i = _
        unfold f_R_fewest_292
        rw [if_neg n1, cl_n g3, if_neg c]
      · intro j hj
        dsimp only
        by_cases e : j = m
        · rw [e]; omega
        · have := g1 j (by omega)
          omega
      · exact Or.inr ⟨m, by omega, rfl⟩) (by
    rintro ⟨b, i⟩ ⟨g1, g2, g3⟩
    dsimp only at g3
    show f_R_fewest_292 V.1 b i = none
    unfold f_R_fewest_292
    rw [if_pos (Int32.le_iff_toInt_le.mpr (by rw [eN]; omega))]) 7 0 (100000, 0) (by omega) (by omega) ⟨fun i hi => by omega, Or.inl rfl, by rw [tl_0]; rfl⟩
  generalize (wl (g_R_fewest_292 V.1) 7 (100000, 0)) = W at k2 ⊢
  obtain ⟨w1, w2, -⟩ := k2
  obtain ⟨t0, t1, t2⟩ := tab
  dsimp only at t0 t1 t2
  refine ⟨fun p hp hc => ?_, fun hlt => ?_⟩
  · have q := t1 (pc p h) (by omega) p hp rfl
    have q2 := w1 (2 * pc p h + (if onP p h then 0 else 1)) (by split <;> omega)
    omega
  · rcases w2 with w2 | ⟨i, i1, i2⟩
    · rw [w2, t100k] at hlt; omega
    · have ei : i = 2 * (i / 2) + (if (i % 2 == 0) then 0 else 1) := by
        by_cases c : i % 2 = 0
        · rw [if_pos (by simpa using c)]; omega
        · rw [if_neg (by simpa using c)]; omega
      have hK : (V.1 32 (2 * (i / 2) + (if (i % 2 == 0) then 0 else 1))).toInt = W.1.toInt := by rw [← ei, i2]
      obtain ⟨p, p1, p2, p3, -, p5⟩ := t2 (i / 2) (by omega) (i % 2 == 0) (by rw [hK]; exact hlt)
      exact ⟨p, p1, p2, by rw [p3]; omega, p5.trans hK⟩
/-- what one set of cells costs, in the class -/
theorem keep_L (hR : okR sR) (hL : relL sL sR) (hx : (xn : Int) < (sR 0 6).toInt) (hf : 1 ≤ f.toInt ∧ f.toInt ≤ 99) {x v : Int32} (hxt : x.toInt = (xn : Int)) (hv : 0 ≤ v.toInt ∧ v.toInt < 2 ^ (sR 0 7).toInt.toNat) (hs : ∀ k, k < (sR 0 7).toInt.toNat → v.toInt.toNat.testBit k = true → stB sL xn k = true) : (fe (stB sL xn) (prB sL xn) v.toInt.toNat (sR 0 7).toInt.toNat ∧ (m_L_hitsToKeep sL x v f).toInt = co (stB sL xn) (prB sL xn) (cst sL xn f) v.toInt.toNat (sR 0 7).toInt.toNat) ∨ (¬ fe (stB sL xn) (prB sL xn) v.toInt.toNat (sR 0 7).toInt.toNat ∧ m_L_hitsToKeep sL x v f = 1000000) := by
  have nR := okR_lin hR
  obtain ⟨c1, c2, c3⟩ := hL.2.2.2.2 xn hx
  have hcst := cst_b hR hL hx hf
  obtain ⟨h, eh⟩ : ∃ h, h = (sR 0 7).toInt.toNat := ⟨_, rfl⟩
  rw [← eh] at hv hs c1 c2 ⊢
  have h6 : h ≤ 6 := by omega
  refine wc_run (f := g_L_hitsToKeep_6 sL x v f) (d := 0) (fun k s => s.2.toInt = (k : Int) ∧ fe (stB sL xn) (prB sL xn) v.toInt.toNat k ∧ s.1.toInt = co (stB sL xn) (prB sL xn) (cst sL xn f) v.toInt.toNat k) (fun r => (fe (stB sL xn) (prB sL xn) v.toInt.toNat h ∧ r.toInt = co (stB sL xn) (prB sL xn) (cst sL xn f) v.toInt.toNat h) ∨ (¬ fe (stB sL xn) (prB sL xn) v.toInt.toNat h ∧ r = 1000000)) h ?_ ?_ 7 0 (0, 0) (by omega) (by omega) ⟨by rw [tl_0]; rfl, trivial, by rw [tl_0]; rfl⟩
  · rintro k ⟨c, y⟩ hk ⟨g1, g2, g3⟩
    dsimp only at g1 g3
    have a : At sR x y xn k := ⟨hxt, g1, hx, by omega⟩
    have hi : (y + 1).toInt = ((k + 1 : Nat) : Int) := by rw [t_inc (by omega)]; omega
    have n1 : ¬ sL 0 5 ≤ y := fun q => by have := le_t q; rw [hL.2.1] at this; omega
    have hb := co_b (p := v.toInt.toNat) (pr := prB sL xn) hcst k
    have e2 : m_L_holds (sL 2 xn) y = bt (sL 2 xn) k := holds_bt h6 c1.1 c1.2 g1 hk
    have e3 : m_L_holds (sL 3 xn) y = bt (sL 3 xn) k := holds_bt h6 c2.1 c2.2 g1 hk
    have ev : m_L_holds v y = bt v k := holds_bt h6 hv.1 hv.2 g1 hk
    have el : sL 1 (Int32.toNatClampNeg (m_L_place x y)) = sL 1 (6 * xn + k) := by rw [a.place hR]
    have ecx : Int32.toNatClampNeg x = xn := cl_n hxt
    -- the price of a strong cell
    have pu : stB sL xn k = true → (c + (Int64.toInt32 (m_T_up (Int32.toInt64 (sL 1 (6 * xn + k))) (Int32.toInt64 f)))).toInt = c.toInt + cst sL xn f k := by
      intro sk
      have s1 := (c3 k (by omega)).2.2.2.2 (bt_iff.1.mpr sk)
      have hc := hcst k sk
      have eu : (m_T_up (Int32.toInt64 (sL 1 (6 * xn + k))) (Int32.toInt64 f)).toInt = cst sL xn f k := by
        rw [up_t (by rw [il_t]; omega) (by rw [il_t]; omega), il_t, il_t, ceil_e (by omega)]
        rfl
      rw [t_add (by rw [li_t (by omega) (by omega)]; omega) (by rw [li_t (by omega) (by omega)]; omega), li_t (by omega) (by omega), eu]
    -- what must be shown of the next number
    have fin : ∀ z : Int32, (v.toInt.toNat.testBit k = true → onP v.toInt.toNat k = true ∨ prB sL xn k = true) → z.toInt = c.toInt + (if stB sL xn k = true ∧ v.toInt.toNat.testBit k = false then (if onP v.toInt.toNat k = true then cst sL xn f k else if prB sL xn k = true then 1 else 0) else 0) → (z, y + 1).2.toInt = ((k + 1 : Nat) : Int) ∧ fe (stB sL xn) (prB sL xn) v.toInt.toNat (k + 1) ∧ (z, y + 1).1.toInt = co (stB sL xn) (prB sL xn) (cst sL xn f) v.toInt.toNat (k + 1) := by
      intro z z1 z2
      refine ⟨hi, ⟨g2, fun q => ⟨hs k hk q, z1 q⟩⟩, ?_⟩
      show z.toInt = co _ _ _ _ k + _
      rw [z2, g3]
    have hg : g_L_hitsToKeep_6 sL x v f (c, y) = f_L_hitsToKeep_6 sL x v f c y := rfl
    rw [hg]
    unfold f_L_hitsToKeep_6
    rw [if_neg n1, ev, ecx, e2, e3, el]
    have fa : ∀ b : Bool, ¬ b = true → b = false := fun b q => by simpa using q
    -- a cell on which all below stand
    have strong : onP v.toInt.toNat k = true → (∃ t, (if bt v k = 0 then (if bt (sL 2 xn) k = 0 then (Sum.inl (c, y + 1) : (Int32 × Int32) ⊕ Int32) else (if bt v k = 0 then Sum.inl ((c + (Int64.toInt32 (m_T_up (Int32.toInt64 (sL 1 (6 * xn + k))) (Int32.toInt64 f)))), y + 1) else Sum.inl (c, y + 1))) else (if bt (sL 2 xn) k = 0 then Sum.inl (c, y + 1) else (if bt v k = 0 then Sum.inl ((c + (Int64.toInt32 (m_T_up (Int32.toInt64 (sL 1 (6 * xn + k))) (Int32.toInt64 f)))), y + 1) else Sum.inl (c, y + 1)))) = Sum.inl t ∧ t.2.toInt = ((k + 1 : Nat) : Int) ∧ fe (stB sL xn) (prB sL xn) v.toInt.toNat (k + 1) ∧ t.1.toInt = co (stB sL xn) (prB sL xn) (cst sL xn f) v.toInt.toNat (k + 1)) := by
      intro o
      by_cases bv : bt v k = 0
      · have tv := bt_iff.2.mp bv
        by_cases bs : bt (sL 2 xn) k = 0
        · have ts := bt_iff.2.mp bs
          refine ⟨(c, y + 1), by rw [if_pos bv, if_pos bs], fin c (fun q => absurd q tv) ?_⟩
          rw [if_neg (fun q => ts q.1)]; omega
        · have ts := bt_iff.1.mp (bt_01.resolve_left bs)
          refine ⟨((c + (Int64.toInt32 (m_T_up (Int32.toInt64 (sL 1 (6 * xn + k))) (Int32.toInt64 f)))), y + 1), by rw [if_pos bv, if_neg bs, if_pos bv], fin _ (fun q => absurd q tv) ?_⟩
          rw [if_pos ⟨ts, fa _ tv⟩, if_pos o]; exact pu ts
      · have tv := bt_iff.1.mp (bt_01.resolve_left bv)
        refine ⟨(c, y + 1), by rw [if_neg bv]; split <;> rfl, fin c (fun _ => Or.inl o) ?_⟩
        rw [if_neg (fun q => by rw [tv] at q; exact absurd q.2 (by decide))]; omega
    by_cases y0 : y ≤ 0
    · have := le_t y0
      rw [tl_0] at this
      rw [if_pos y0]
      obtain ⟨t, t1, t2⟩ := strong (by rw [show k = 0 by omega]; rfl)
      refine Or.inl ⟨t, ?_, t2⟩
      rw [← t1]
    · have := nle_t y0
      rw [tl_0] at this
      rw [if_neg y0]
      obtain ⟨j, rfl⟩ : ∃ j, k = j + 1 := ⟨k - 1, by omega⟩
      have ep : m_L_holds v (y - 1) = bt v j := holds_bt h6 hv.1 hv.2 (by rw [t_sub (by rw [tl_1]; omega) (by rw [tl_1]; omega), tl_1]; omega) (by omega)
      rw [ep]
      by_cases bj : bt v j = 0
      · have oj : ¬ onP v.toInt.toNat (j + 1) = true := by rw [onP_s]; exact bt_iff.2.mp bj
        rw [if_pos bj]
        by_cases b3 : bt (sL 3 xn) (j + 1) = 0
        · have t3 := bt_iff.2.mp b3
          rw [if_pos b3]
          by_cases bv : bt v (j + 1) = 0
          · have tv := bt_iff.2.mp bv
            rw [if_pos bv]
            refine Or.inl ⟨(c, y + 1), by split <;> rfl, fin c (fun q => absurd q tv) ?_⟩
            rw [if_neg oj, if_neg (show ¬ prB sL xn (j + 1) = true from t3)]
            split <;> omega
          · have tv := bt_iff.1.mp (bt_01.resolve_left bv)
            exact Or.inr ⟨1000000, by rw [if_neg bv], Or.inr ⟨fun q => ((fe_mono (show j + 1 + 1 ≤ h by omega) q).2 tv).2.elim oj t3, rfl⟩⟩
        · have t3 := bt_iff.1.mp (bt_01.resolve_left b3)
          rw [if_neg b3]
          have i1 : (c + 1).toInt = c.toInt + 1 := t_inc (by omega)
          by_cases bv : bt v (j + 1) = 0
          · have tv := bt_iff.2.mp bv
            rw [if_pos bv]
            by_cases bs : bt (sL 2 xn) (j + 1) = 0
            · have ts := bt_iff.2.mp bs
              refine Or.inl ⟨(c, y + 1), by rw [if_pos bs], fin c (fun q => absurd q tv) ?_⟩
              rw [if_neg (fun q => ts q.1)]; omega
            · have ts := bt_iff.1.mp (bt_01.resolve_left bs)
              refine Or.inl ⟨(c + 1, y + 1), by rw [if_neg bs, if_pos bv], fin _ (fun q => absurd q tv) ?_⟩
              rw [if_pos ⟨ts, fa _ tv⟩, if_neg oj, if_pos (show prB sL xn (j + 1) = true from t3)]; exact i1
          · have tv := bt_iff.1.mp (bt_01.resolve_left bv)
            refine Or.inl ⟨(c, y + 1), by rw [if_neg bv]; split <;> rfl, fin c (fun _ => Or.inr t3) ?_⟩
            rw [if_neg (fun q => by rw [tv] at q; exact absurd q.2 (by decide))]; omega
      · have oj : onP v.toInt.toNat (j + 1) = true := by rw [onP_s]; exact bt_iff.1.mp (bt_01.resolve_left bj)
        rw [if_neg bj]
        obtain ⟨t, t1, t2⟩ := strong oj
        refine Or.inl ⟨t, ?_, t2⟩
        rw [← t1]
  · rintro ⟨c, y⟩ ⟨g1, g2, g3⟩
    dsimp only at g1 g3
    refine ⟨c, ?_, Or.inl ⟨g2, g3⟩⟩
    show f_L_hitsToKeep_6 sL x v f c y = _
    unfold f_L_hitsToKeep_6
    rw [if_pos (Int32.le_iff_toInt_le.mpr (by rw [hL.2.1]; omega))]
end LESS
