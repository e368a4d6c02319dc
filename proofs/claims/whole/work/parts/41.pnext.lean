/-! span, next, surest -/
section S
variable {sT : St} {vT : Int64} {sM sB sL sS sR : St} {vR : Int64} {g : Nat → Int32} {X Y : St} {n : Nat}
theorem pairY_of (hs : ∀ s, s < 31 → scOk g sR s n (X 4 s) (X 5 s)) (hy : ∀ s j, s < 31 → j < 25 → prOk g sR (Y 28 (25 * s + j)) s j n) : pairY Y (fun s => (X 4 s).toInt) (fun s => (X 5 s).toInt) := by
  intro s j h1 h2
  have q := (hs s h1).2.2 ((j : Int) - 12) (by omega) (by omega)
  rcases hy s j h1 h2 with ⟨a1, a2⟩ | ⟨a1, a2⟩
  · exact Or.inl ⟨q.mpr a1, a2⟩
  · exact Or.inr ⟨fun k => a1 (q.mp k), a2⟩
theorem lp_st {h : Int32} {hn : Nat} (eh : h.toInt = (hn : Int)) (hr : 0 ≤ (X 1 hn).toInt ∧ (X 1 hn).toInt ≤ 30000) (hs : ∀ s, s < 31 → scOk g sR s n (X 4 s) (X 5 s)) (s : Nat) (h31 : s < 31) : (lp X h (s + 1)).toInt = (if (X 4 s).toInt ≤ (X 5 s).toInt then min (lp X h s).toInt ((X 1 hn).toInt * (85 + (s : Int)) / 100 + (X 4 s).toInt) else (lp X h s).toInt) ∧ (gp X h (s + 1)).toInt = (if (X 4 s).toInt ≤ (X 5 s).toInt then max (gp X h s).toInt ((X 1 hn).toInt * (85 + (s : Int)) / 100 + (X 5 s).toInt) else (gp X h s).toInt) := by
  obtain ⟨o1, o2, -⟩ := hs s h31
  have sb := sc_b hr h31
  have st := scaled_t (sB := X) (si := Int32.ofNat s) (hi := h) (s := s) (h := hn) (ofNat_t (by omega)) eh h31 hr
  have el : lp X h (s + 1) = if X 5 s < X 4 s then lp X h s else (if ((m_B_scaled X (Int32.ofNat s) h) + (X 4 s)) < lp X h s then ((m_B_scaled X (Int32.ofNat s) h) + (X 4 s)) else lp X h s) := rfl
  have eg : gp X h (s + 1) = if X 5 s < X 4 s then gp X h s else (if gp X h s < ((m_B_scaled X (Int32.ofNat s) h) + (X 5 s)) then ((m_B_scaled X (Int32.ofNat s) h) + (X 5 s)) else gp X h s) := rfl
  rw [el, eg]
  generalize m_B_scaled X (Int32.ofNat s) h = m at st ⊢
  rw [← st] at sb ⊢
  by_cases c : X 5 s < X 4 s
  · have l := lt_t c
    rw [if_pos c, if_pos c, if_neg (by omega), if_neg (by omega)]
    exact ⟨rfl, rfl⟩
  · have l := nlt_t c
    rw [if_neg c, if_neg c, if_pos l, if_pos l]
    have e1 : (m + X 4 s).toInt = m.toInt + (X 4 s).toInt := t_add (by omega) (by omega)
    have e2 : (m + X 5 s).toInt = m.toInt + (X 5 s).toInt := t_add (by omega) (by omega)
    constructor
    · by_cases d : m + X 4 s < lp X h s
      · have := lt_t d
        rw [if_pos d]; omega
      · have := nlt_t d
        rw [if_neg d]; omega
    · by_cases d : gp X h s < m + X 5 s
      · have := lt_t d
        rw [if_pos d]; omega
      · have := nlt_t d
        rw [if_neg d]; omega
theorem lp_f {h : Int32} {hn : Nat} (eh : h.toInt = (hn : Int)) (hr : 0 ≤ (X 1 hn).toInt ∧ (X 1 hn).toInt ≤ 30000) (hs : ∀ s, s < 31 → scOk g sR s n (X 4 s) (X 5 s)) : ∀ s : Nat, s ≤ 31 → ((anyL (fun s => (X 4 s).toInt) (fun s => (X 5 s).toInt) s → (-12 ≤ (lp X h s).toInt ∧ (lp X h s).toInt ≤ 40000) ∧ (-12 ≤ (gp X h s).toInt ∧ (gp X h s).toInt ≤ 40000)) ∧ (¬ anyL (fun s => (X 4 s).toInt) (fun s => (X 5 s).toInt) s → (lp X h s).toInt = 1000000 ∧ (gp X h s).toInt = -1000000))
  | 0, _ => ⟨fun ⟨t, ht, _⟩ => by omega, fun _ => ⟨tmax, by show (-1000000 : Int32).toInt = -1000000; decide +kernel⟩⟩
  | s + 1, h1 => by
    have ih := lp_f eh hr hs s (by omega)
    obtain ⟨q1, q2⟩ := lp_st eh hr hs s (by omega)
    obtain ⟨o1, o2, -⟩ := hs s (by omega)
    have sb := sc_b hr (s := s) (by omega)
    rw [q1, q2, anyL_s]
    try dsimp only
    by_cases c : (X 4 s).toInt ≤ (X 5 s).toInt
    · rw [if_pos c, if_pos c]
      refine ⟨fun _ => ?_, fun A => absurd (Or.inr c) A⟩
      by_cases A : anyL (fun s => (X 4 s).toInt) (fun s => (X 5 s).toInt) s
      · have := ih.1 A; omega
      · have := ih.2 A; omega
    · rw [if_neg c, if_neg c]
      refine ⟨fun A => ih.1 (A.resolve_right c), fun A => ih.2 (fun k => A (Or.inl k))⟩
theorem span_both {h : Int32} {hn : Nat} (eh : h.toInt = (hn : Int)) (h61 : hn < 61) (hg : gOk g) (hX : ∀ k, k < 61 → X 1 k = g k) (hY : ∀ k, k < 61 → Y 27 k = g k) (hs : ∀ s, s < 31 → scOk g sR s n (X 4 s) (X 5 s)) (hy : ∀ s j, s < 31 → j < 25 → prOk g sR (Y 28 (25 * s + j)) s j n) (h9 : ¬ g hn = -9) (hA : anyL (fun s => (X 4 s).toInt) (fun s => (X 5 s).toInt) 31) :
    m_R_spanOf Y h 0 = m_B_leastPlace X h ∧ m_R_spanOf Y h 1 = m_B_greatestPlace X h ∧ (-12 ≤ (m_B_leastPlace X h).toInt ∧ (m_B_leastPlace X h).toInt ≤ 40000) ∧ (-12 ≤ (m_B_greatestPlace X h).toInt ∧ (m_B_greatestPlace X h).toInt ≤ 40000) := by
  have rb := (hg hn h61).resolve_left h9
  have eX := hX hn h61
  have eY := hY hn h61
  have hrX : 0 ≤ (X 1 hn).toInt ∧ (X 1 hn).toInt ≤ 30000 := by rw [eX]; exact rb
  have hrY : 0 ≤ (Y 27 hn).toInt ∧ (Y 27 hn).toInt ≤ 30000 := by rw [eY]; exact rb
  have exy : X 1 hn = Y 27 hn := eX.trans eY.symm
  have py := pairY_of hs hy
  have hb : ∀ s, s < 31 → -12 ≤ (X 4 s).toInt ∧ (X 5 s).toInt ≤ 12 := fun s h => ⟨(hs s h).1.1, (hs s h).2.1.2⟩
  have f := lp_f eh hrX hs
  have st := lp_st eh hrX hs
  rw [least_lp, greatest_gp]
  have m1 := spanMin (L := lp X h) eh hrY hb py (fun s h => by rw [(st s h).1, exy]) (fun s h A => ((f s h).1 A).1.1) (fun s h A => ((f s h).2 A).1) hA
  have m2 := spanMax (L := gp X h) eh hrY hb py (fun s h => by rw [(st s h).2, exy]) (fun s h A => ((f s h).1 A).2.1) (fun s h A => ((f s h).2 A).2) hA
  have b := (f 31 (by omega)).1 hA
  exact ⟨m1, m2, b.1, b.2⟩
theorem any_of (hs : ∀ s, s < 31 → scOk g sR s (sR 0 3).toInt.toNat (X 4 s) (X 5 s)) (h0 : ¬ m_B_pairsLeft X = 0) : anyL (fun s => (X 4 s).toInt) (fun s => (X 5 s).toInt) 31 := by
  refine Classical.byContradiction (fun A => h0 ?_)
  have z : ∀ s, s ≤ 31 → SB X s = 0 := by
    intro s
    induction s with
    | zero => intro _; rfl
    | succ s ih =>
      intro hh
      show SB X s + leftN (X 4 s).toInt (X 5 s).toInt = 0
      rw [ih (by omega)]
      unfold leftN
      rw [if_neg (fun k => A ⟨s, by omega, k⟩)]
      rfl
  exact t_ext (by rw [pairsB hs, z 31 (by omega), tl_0])
theorem pairs_nn (hs : ∀ s, s < 31 → scOk g sR s (sR 0 3).toInt.toNat (X 4 s) (X 5 s)) : (m_B_pairsLeft X ≤ 0) ↔ m_B_pairsLeft X = 0 := by
  have b := SB_b hs 31 (by omega)
  have e := pairsB hs
  constructor
  · intro q
    have := le_t q
    rw [tl_0] at this
    exact t_ext (by rw [tl_0]; omega)
  · intro q
    rw [q]; decide
set_option maxRecDepth 100000 in
theorem P_span (h : Rel sT vT sM sB sL sS sR vR) (a1 a2 : Int32) : (m_T_span sT sM sB a1 a2).1 = (m_R_span sR a1 a2).1 ∧ Rel sT vT (m_T_span sT sM sB a1 a2).2.1 (m_T_span sT sM sB a1 a2).2.2 sL sS (m_R_span sR a1 a2).2 vR := by
  obtain ⟨g, hg, hr, hX, hY, hs, hy, hp⟩ := book_both h
  unfold m_T_span m_R_span m_B_places
  by_cases c : m_T_within a1 0 60 = 0
  · have c' : m_R_in a1 0 60 = 0 := c
    rw [if_pos c, if_pos c']
    exact ⟨rfl, h⟩
  have c' : ¬ m_R_in a1 0 60 = 0 := c
  rw [if_neg c, if_neg c']
  by_cases d : m_T_within a2 0 1 = 0
  · have d' : m_R_in a2 0 1 = 0 := d
    rw [if_pos d, if_pos d']
    exact ⟨rfl, h⟩
  have d' : ¬ m_R_in a2 0 1 = 0 := d
  rw [if_neg d, if_neg d']
  have w := within_t c
  rw [tl_0, tl_60] at w
  have w2 := within_t d
  rw [tl_0, tl_1] at w2
  generalize m_B_study sM sB = S at hr hX hs hp ⊢
  generalize m_R_findLeft sR = F at hr hY hy hp ⊢
  have eh : a1.toInt = ((a1.toInt.toNat : Nat) : Int) := by omega
  have hc : Int32.toNatClampNeg a1 = a1.toInt.toNat := rfl
  rw [hc, hX _ (by omega), ← hp]
  by_cases z : m_B_pairsLeft S.2 = 0
  · rw [if_pos z, if_pos ((pairs_nn hs).mpr z), ite_self, if_pos rfl]
    exact ⟨rfl, hr⟩
  rw [if_neg z, if_neg (fun q => z ((pairs_nn hs).mp q))]
  by_cases n9g : g a1.toInt.toNat = -9
  · rw [if_pos n9g, if_pos rfl, spanNone eh (by rw [hY _ (by omega)]; exact n9g), spanNone eh (by rw [hY _ (by omega)]; exact n9g), ite_self]
    exact ⟨rfl, hr⟩
  rw [if_neg n9g, if_neg (show ¬ (1 : Int32) = 0 by decide)]
  obtain ⟨s1, s2, -, -⟩ := span_both eh (by omega) hg hX hY hs hy n9g (any_of hs z)
  rw [s1, s2]
  by_cases e : a2 = 0
  · rw [if_pos e, if_neg (by rw [e]; decide)]
    exact ⟨rfl, hr⟩
  · have e1 : a2 = 1 := t_ext (by have := ne_t e; rw [tl_0] at this; rw [tl_1]; omega)
    rw [if_neg e, if_pos e1]
    exact ⟨rfl, hr⟩
set_option maxRecDepth 100000 in
theorem P_next (h : Rel sT vT sM sB sL sS sR vR) : (m_T_next sT sM sB).1 = (m_R_next sR).1 ∧ Rel sT vT (m_T_next sT sM sB).2.1 (m_T_next sT sM sB).2.2 sL sS (m_R_next sR).2 vR := by
  obtain ⟨g, hg, hr, hX, hY, hs, hy, hp⟩ := book_both h
  have z61 : (61 : Int32).toInt = 61 := by decide +kernel
  unfold m_T_next m_R_next m_B_widestHook b_B_widestHook_58 b_R_next_84
  generalize m_B_study sM sB = S at hr hX hs hp ⊢
  generalize m_R_findLeft sR = F at hr hY hy hp ⊢
  have hpl : ∀ (x : Int32) (k : Nat), x.toInt = (k : Int) → k < 61 → m_B_places S.2 x = if g k = -9 then 0 else (if m_B_pairsLeft S.2 = 0 then 0 else 1) := by
    intro x k hx hk
    unfold m_B_places
    rw [cl_n hx, hX k hk]
    by_cases q : g k = -9
    · rw [if_pos q, if_pos q]
    · rw [if_neg q, if_neg q]
      by_cases z : m_B_pairsLeft S.2 = 0
      · rw [if_pos z, if_pos ((pairs_nn hs).mpr z)]
      · rw [if_neg z, if_neg (fun q => z ((pairs_nn hs).mp q))]
  by_cases z : m_B_pairsLeft S.2 = 0
  · rw [if_pos (hp.symm.trans z)]
    refine ⟨?_, hr⟩
    have k := wl_run (f := g_B_widestHook_7 S.2) (fun k v => v.1 = -9 ∧ v.2.1 = -1 ∧ v.2.2.toInt = (k : Int)) 61 (by
      rintro k ⟨b, w, x⟩ hk ⟨h1, h2, h3⟩
      dsimp only at h1 h2 h3
      subst h1; subst h2
      refine ⟨(-9, -1, x + 1), ?_, rfl, rfl, by dsimp only; rw [t_inc (by omega)]; omega⟩
      show f_B_widestHook_7 S.2 (-9) (-1) x = _
      unfold f_B_widestHook_7
      rw [if_neg (fun q => by have := le_t q; omega), hpl x k h3 hk, if_pos z, ite_self, if_pos rfl, if_pos (by decide)]) (by
      rintro ⟨b, w, x⟩ ⟨h1, h2, h3⟩
      dsimp only at h3
      show f_B_widestHook_7 S.2 b w x = none
      unfold f_B_widestHook_7
      rw [if_pos (Int32.le_iff_toInt_le.mpr (by omega))]) 62 0 ((-9), (-1), 0) (by omega) (by omega) ⟨rfl, rfl, by rw [tl_0]; rfl⟩
    exact k.1
  · rw [if_neg (fun q => z (hp.trans q))]
    refine ⟨?_, hr⟩
    have A := any_of hs z
    refine congrArg Prod.fst (wl_sim (f := g_B_widestHook_7 S.2) (g := g_R_next_17 F.2) (fun k (s t : Int32 × Int32 × Int32) => s = t ∧ s.2.2.toInt = (k : Int)) 61 ?_ ?_ 62 62 0 ((-9), (-1), 0) ((-9), (-1), 0) (by omega) (by omega) (by omega) ⟨rfl, by rw [tl_0]; rfl⟩).1
    · rintro k ⟨b, w, x⟩ t hk ⟨rfl, h3⟩
      dsimp only at h3
      have hx1 : (x + 1).toInt = ((k + 1 : Nat) : Int) := by rw [t_inc (by omega)]; omega
      have n1 : ¬ 61 ≤ x := fun q => by have := le_t q; omega
      have eB : g_B_widestHook_7 S.2 (b, w, x) = f_B_widestHook_7 S.2 b w x := rfl
      have eR : g_R_next_17 F.2 (b, w, x) = f_R_next_17 F.2 b w x := rfl
      rw [eB, eR]
      unfold f_B_widestHook_7 f_R_next_17
      rw [if_neg n1, if_neg n1, hpl x k h3 hk, cl_n h3, hY k hk]
      by_cases q : g k = -9
      · rw [if_pos q, if_pos q, if_pos rfl]
        by_cases r : (-1 : Int32) ≤ w
        · rw [if_pos r, if_pos r, if_pos r]
          exact ⟨_, _, rfl, rfl, rfl, hx1⟩
        · rw [if_neg r, if_neg r, if_neg r]
          exact ⟨_, _, rfl, rfl, rfl, hx1⟩
      · rw [if_neg q, if_neg z, if_neg q, if_neg (show ¬ (1 : Int32) = 0 by decide)]
        obtain ⟨s1, s2, -, -⟩ := span_both h3 hk hg hX hY hs hy q A
        rw [s1, s2]
        by_cases r : m_B_greatestPlace S.2 x - m_B_leastPlace S.2 x ≤ w
        · rw [if_pos r, if_pos r, if_pos r]
          exact ⟨_, _, rfl, rfl, rfl, hx1⟩
        · rw [if_neg r, if_neg r, if_neg r]
          exact ⟨_, _, rfl, rfl, rfl, hx1⟩
    · rintro ⟨b, w, x⟩ t ⟨rfl, h3⟩
      dsimp only at h3
      have n1 : 61 ≤ x := Int32.le_iff_toInt_le.mpr (by omega)
      refine ⟨?_, ?_⟩
      · show f_B_widestHook_7 S.2 b w x = none
        unfold f_B_widestHook_7
        rw [if_pos n1]
      · show f_R_next_17 F.2 b w x = none
        unfold f_R_next_17
        rw [if_pos n1]
set_option maxRecDepth 100000 in
theorem P_surest (h : Rel sT vT sM sB sL sS sR vR) (a1 a2 : Int32) : (m_T_surest sT sM sB a1 a2).1 = (m_R_surest sR a1 a2).1 ∧ Rel sT vT (m_T_surest sT sM sB a1 a2).2.1 (m_T_surest sT sM sB a1 a2).2.2 sL sS (m_R_surest sR a1 a2).2 vR := by
  obtain ⟨g, hg, hr, hX, hY, hs, hy, hp⟩ := book_both h
  have z61 : (61 : Int32).toInt = 61 := by decide +kernel
  unfold m_T_surest m_R_surest b_R_surest_131
  by_cases c : m_T_within a1 0 2000 = 0
  · have c' : m_R_in a1 0 2000 = 0 := c
    rw [if_pos c, if_pos c']
    exact ⟨rfl, h⟩
  have c' : ¬ m_R_in a1 0 2000 = 0 := c
  rw [if_neg c, if_neg c']
  by_cases d : m_T_within a2 0 1 = 0
  · have d' : m_R_in a2 0 1 = 0 := d
    rw [if_pos d, if_pos d']
    exact ⟨rfl, h⟩
  have d' : ¬ m_R_in a2 0 1 = 0 := d
  rw [if_neg d, if_neg d']
  have w := within_t c
  rw [tl_0, tl_2000] at w
  generalize m_B_study sM sB = S at hr hX hs hp ⊢
  generalize m_R_findLeft sR = F at hr hY hy hp ⊢
  have hpl : ∀ (x : Int32) (k : Nat), x.toInt = (k : Int) → k < 61 → m_B_places S.2 x = if g k = -9 then 0 else (if m_B_pairsLeft S.2 = 0 then 0 else 1) := by
    intro x k hx hk
    unfold m_B_places
    rw [cl_n hx, hX k hk]
    by_cases q : g k = -9
    · rw [if_pos q, if_pos q]
    · rw [if_neg q, if_neg q]
      by_cases z : m_B_pairsLeft S.2 = 0
      · rw [if_pos z, if_pos ((pairs_nn hs).mpr z)]
      · rw [if_neg z, if_neg (fun q => z ((pairs_nn hs).mp q))]
  by_cases z : m_B_pairsLeft S.2 = 0
  · have k := wl_run (f := g_B_surestHook_9 S.2 a1) (fun k v => v.1 = -9 ∧ v.2.1 = 1000000 ∧ v.2.2.toInt = (k : Int)) 61 (by
      rintro k ⟨b, l, x⟩ hk ⟨h1, h2, h3⟩
      dsimp only at h1 h2 h3
      subst h1; subst h2
      refine ⟨(-9, 1000000, x + 1), ?_, rfl, rfl, by dsimp only; rw [t_inc (by omega)]; omega⟩
      show f_B_surestHook_9 S.2 a1 (-9) 1000000 x = _
      unfold f_B_surestHook_9
      rw [if_neg (fun q => by have := le_t q; omega), hpl x k h3 hk, if_pos z, ite_self, if_pos rfl, if_pos (by decide)]) (by
      rintro ⟨b, w, x⟩ ⟨h1, h2, h3⟩
      dsimp only at h3
      show f_B_surestHook_9 S.2 a1 b w x = none
      unfold f_B_surestHook_9
      rw [if_pos (Int32.le_iff_toInt_le.mpr (by omega))]) 62 0 ((-9), 1000000, 0) (by omega) (by omega) ⟨rfl, rfl, by rw [tl_0]; rfl⟩
    have e : m_B_surestHook S.2 a1 = -9 := k.1
    rw [if_pos (hp.symm.trans z), e, if_pos rfl]
    exact ⟨rfl, hr⟩
  have A := any_of hs z
  rw [if_neg (fun q => z (hp.trans q))]
  have miss : ∀ (x : Int32) (k : Nat), x.toInt = (k : Int) → k < 61 → ¬ g k = -9 → m_B_farthestMiss S.2 x a1 = (if m_R_size (m_B_greatestPlace S.2 x - a1) ≤ m_R_size (m_B_leastPlace S.2 x - a1) then m_R_size (m_B_leastPlace S.2 x - a1) else m_R_size (m_B_greatestPlace S.2 x - a1)) ∧ (0 ≤ (m_B_farthestMiss S.2 x a1).toInt ∧ (m_B_farthestMiss S.2 x a1).toInt ≤ 100000) := by
    intro x k hx hk q
    obtain ⟨-, -, b1, b2⟩ := span_both hx hk hg hX hY hs hy q A
    have e1 : (m_B_leastPlace S.2 x - a1).toInt = (m_B_leastPlace S.2 x).toInt - a1.toInt := t_sub (by omega) (by omega)
    have e2 : (m_B_greatestPlace S.2 x - a1).toInt = (m_B_greatestPlace S.2 x).toInt - a1.toInt := t_sub (by omega) (by omega)
    obtain ⟨p1, p2⟩ := abs_t (x := m_B_leastPlace S.2 x - a1) (by omega)
    obtain ⟨r1, r2⟩ := abs_t (x := m_B_greatestPlace S.2 x - a1) (by omega)
    unfold m_B_farthestMiss
    rw [p1, r1]
    by_cases t : m_R_size (m_B_leastPlace S.2 x - a1) < m_R_size (m_B_greatestPlace S.2 x - a1)
    · have l := lt_t t
      rw [if_pos t, if_neg (fun q => by have := le_t q; omega)]
      exact ⟨rfl, by omega, by omega⟩
    · have l := nlt_t t
      rw [if_neg t, if_pos (Int32.le_iff_toInt_le.mpr l)]
      exact ⟨rfl, by omega, by omega⟩
  have key := wl_sim (f := g_B_surestHook_9 S.2 a1) (g := g_R_surest_42 F.2 a1) (fun k (s t : Int32 × Int32 × Int32) => s.1 = t.1 ∧ s.2.2 = t.2.2 ∧ s.2.2.toInt = (k : Int) ∧ ((s.1 = -9 ∧ s.2.1 = 1000000 ∧ t.2.1 = -9) ∨ (¬ s.1 = -9 ∧ s.2.1 = t.2.1 ∧ t.2.1 = m_B_farthestMiss S.2 s.1 a1 ∧ s.2.1.toInt ≤ 100000))) 61 ?_ ?_ 62 62 0 ((-9), 1000000, 0) ((-9), (-9), 0) (by omega) (by omega) (by omega) ⟨rfl, rfl, by rw [tl_0]; rfl, Or.inl ⟨rfl, rfl, rfl⟩⟩
  · have eH : m_B_surestHook S.2 a1 = (wl (g_B_surestHook_9 S.2 a1) 62 ((-9), 1000000, 0)).1 := rfl
    rw [eH]
    generalize (wl (g_B_surestHook_9 S.2 a1) 62 ((-9), 1000000, 0)) = U at key ⊢
    generalize (wl (g_R_surest_42 F.2 a1) 62 ((-9), (-9), 0)) = V at key ⊢
    obtain ⟨k1, -, -, k4⟩ := key
    rcases k4 with ⟨m1, -, m3⟩ | ⟨m1, m2, m3, -⟩
    · rw [if_pos m1, m1, ← k1, m1, m3, ite_self]
      exact ⟨rfl, hr⟩
    · rw [if_neg m1]
      by_cases e : a2 = 0
      · rw [if_pos e, if_pos e]
        exact ⟨k1, hr⟩
      · rw [if_neg e, if_neg e]
        exact ⟨m3.symm, hr⟩
  · rintro k ⟨b, l, x⟩ ⟨b', l', x'⟩ hk ⟨h1, h2, h3, h4⟩
    dsimp only at h1 h2 h3 h4
    subst h1; subst h2
    have hx1 : (x + 1).toInt = ((k + 1 : Nat) : Int) := by rw [t_inc (by omega)]; omega
    have n1 : ¬ 61 ≤ x := fun q => by have := le_t q; omega
    have eB : g_B_surestHook_9 S.2 a1 (b, l, x) = f_B_surestHook_9 S.2 a1 b l x := rfl
    have eR : g_R_surest_42 F.2 a1 (b, l', x) = f_R_surest_42 F.2 a1 b l' x := rfl
    rw [eB, eR]
    have hxn : ¬ x = -9 := n9 (by omega)
    by_cases q : g k = -9
    · have lm : l ≤ 1000000 := Int32.le_iff_toInt_le.mpr (by
        rw [tmax]
        rcases h4 with ⟨-, j2, -⟩ | ⟨-, -, -, j4⟩
        · have := congrArg Int32.toInt j2
          rw [tmax] at this
          omega
        · omega)
      unfold f_B_surestHook_9 f_R_surest_42
      rw [if_neg n1, if_neg n1, hpl x k h3 hk, cl_n h3, hY k hk, if_pos q, if_pos q, if_pos rfl, if_pos lm]
      exact ⟨_, _, rfl, rfl, rfl, rfl, hx1, h4⟩
    obtain ⟨s1, s2, -, -⟩ := span_both h3 hk hg hX hY hs hy q A
    obtain ⟨m1, m2⟩ := miss x k h3 hk q
    have fB : f_B_surestHook_9 S.2 a1 b l x = if l ≤ m_B_farthestMiss S.2 x a1 then some (b, l, x + 1) else some (x, m_B_farthestMiss S.2 x a1, x + 1) := by
      unfold f_B_surestHook_9
      rw [if_neg n1, hpl x k h3 hk, if_neg q, if_neg z, if_neg (show ¬ (1 : Int32) = 0 by decide)]
    have fR : f_R_surest_42 F.2 a1 b l' x = if b = -9 then some (x, m_B_farthestMiss S.2 x a1, x + 1) else (if l' ≤ m_B_farthestMiss S.2 x a1 then some (b, l', x + 1) else some (x, m_B_farthestMiss S.2 x a1, x + 1)) := by
      unfold f_R_surest_42
      rw [if_neg n1, cl_n h3, hY k hk, if_neg q, s1, s2, m1]
      by_cases t : m_R_size (m_B_greatestPlace S.2 x - a1) ≤ m_R_size (m_B_leastPlace S.2 x - a1)
      · rw [if_pos t, if_pos t]
      · rw [if_neg t, if_neg t]
    rw [fB, fR]
    rcases h4 with ⟨j1, j2, j3⟩ | ⟨j1, j2, j3, j4⟩
    · have nl : ¬ l ≤ m_B_farthestMiss S.2 x a1 := fun e => by have := le_t e; rw [j2, tmax] at this; omega
      rw [if_neg nl, if_pos j1]
      exact ⟨_, _, rfl, rfl, rfl, rfl, hx1, Or.inr ⟨hxn, rfl, rfl, m2.2⟩⟩
    · rw [if_neg j1, ← j2]
      by_cases t : l ≤ m_B_farthestMiss S.2 x a1
      · rw [if_pos t]
        exact ⟨_, _, rfl, rfl, rfl, rfl, hx1, Or.inr ⟨j1, rfl, (by dsimp only; rw [j2]; exact j3), j4⟩⟩
      · rw [if_neg t]
        exact ⟨_, _, rfl, rfl, rfl, rfl, hx1, Or.inr ⟨hxn, rfl, rfl, m2.2⟩⟩
  · rintro ⟨b, l, x⟩ ⟨b', l', x'⟩ ⟨h1, h2, h3, -⟩
    dsimp only at h2 h3
    subst h2
    have n1 : 61 ≤ x := Int32.le_iff_toInt_le.mpr (by omega)
    refine ⟨?_, ?_⟩
    · show f_B_surestHook_9 S.2 a1 b l x = none
      unfold f_B_surestHook_9
      rw [if_pos n1]
    · show f_R_surest_42 F.2 a1 b' l' x = none
      unfold f_R_surest_42
      rw [if_pos n1]
end S
