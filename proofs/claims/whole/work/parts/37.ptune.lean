/-! tune -/
def tuI (sM sR : St) (d : Int32) (m : St) (near : Int32) (t : St) (bs bh br : Int32) : Prop :=
  (∀ k j, k ≠ 3 ∧ k ≠ 4 → m k j = sM k j) ∧ Rs sR t ∧ m 4 0 = bs ∧ m 4 1 = bh ∧ m 4 2 = br ∧ ((bs = -9 ∧ near = 1000000) ∨ (10 ≤ bs.toInt ∧ near = m_R_size (br - d) ∧ 0 ≤ br.toInt ∧ br.toInt ≤ 30000))
theorem tmax : (1000000 : Int32).toInt = 1000000 := by decide +kernel
section S
variable {sT : St} {vT : Int64} {sM sB sL sS sR : St} {vR : Int64}
theorem tu_in (hR : okR sR) (hM : relM sM sR) {d a near bs bh br : Int32} {m t : St} (hd : 0 ≤ d.toInt ∧ d.toInt ≤ 2000) (ha : 10 ≤ a.toInt ∧ a.toInt ≤ 160) (hI : tuI sM sR d m near t bs bh br) :
    tuI sM sR d (wl (g_M_tuneTo_26 d a) 62 (m, near, 0)).1 (wl (g_M_tuneTo_26 d a) 62 (m, near, 0)).2.1 (wl (g_R_tune_70 d a) 62 (t, bs, bh, br, 0)).1 (wl (g_R_tune_70 d a) 62 (t, bs, bh, br, 0)).2.1 (wl (g_R_tune_70 d a) 62 (t, bs, bh, br, 0)).2.2.1 (wl (g_R_tune_70 d a) 62 (t, bs, bh, br, 0)).2.2.2.1 := by
  have z60 := tl_60
  have z61 : (61 : Int32).toInt = 61 := by decide +kernel
  have key := wl_sim (f := g_M_tuneTo_26 d a) (g := g_R_tune_70 d a) (fun k s u => tuI sM sR d s.1 s.2.1 u.1 u.2.1 u.2.2.1 u.2.2.2.1 ∧ s.2.2.toInt = (k : Int) ∧ s.2.2 = u.2.2.2.2) 61 ?_ ?_ 62 62 0 (m, near, 0) (t, bs, bh, br, 0) (by omega) (by omega) (by omega) ⟨hI, by rw [tl_0]; rfl, rfl⟩
  · exact key.1
  · rintro k ⟨m, near, h⟩ ⟨t, bs, bh, br, h'⟩ hk ⟨hI, hh, e⟩
    dsimp only at hI hh e
    subst e
    obtain ⟨i1, i2, i3, i4, i5, i6⟩ := hI
    have hRt := okR_ext hR (i2.row (by decide) (by decide)) (i2.row (by decide) (by decide)) (i2.fld (by decide)) (i2.fld (by decide)) (i2.fld (by decide)) (i2.fld (by decide)) (i2.fld (by decide))
    have hMt := relM_ext (relM_scr hM i1) (i2.row (k := 1) (by decide) (by decide)) (i2.fld (by decide))
    obtain ⟨r1, -, r3, r4⟩ := reckon_step (a := a) (b := h) hRt hMt ha (by omega)
    have hh' : (h + 1).toInt = ((k + 1 : Nat) : Int) := by rw [t_inc (by omega)]; omega
    have fr' : ∀ p j, p ≠ 3 ∧ p ≠ 4 → (m_M_reckon m a h).2 p j = sM p j := fun p j hp => (r3 p j hp.1).trans (i1 p j hp)
    have rs' : Rs sR (m_R_step t a h) := i2.tr Rs.step
    have n1 : ¬ 60 < h := fun q => by have := lt_t q; omega
    have n2 : ¬ 61 ≤ h := fun q => by have := le_t q; omega
    have hfM : g_M_tuneTo_26 d a (m, near, h) = (if m_R_step t a h 0 25 = -9 then some ((m_M_reckon m a h).2, near, h + 1) else (if near ≤ m_R_size (m_R_step t a h 0 25 - d) then some ((m_M_reckon m a h).2, near, h + 1) else some (m_M_keepTuning (m_M_reckon m a h).2 a h (m_R_step t a h 0 25), m_R_size (m_R_step t a h 0 25 - d), h + 1))) := by
      show f_M_tuneTo_26 d a m near h = _
      unfold f_M_tuneTo_26
      rw [if_neg n1, r1]
      by_cases c : m_R_step t a h 0 25 = -9
      · rw [if_pos c, if_pos c]
      · have rb := r4.resolve_left c
        have ed : (m_R_step t a h 0 25 - d).toInt = (m_R_step t a h 0 25).toInt - d.toInt := t_sub (by omega) (by omega)
        rw [if_neg c, if_neg c, (abs_t (x := m_R_step t a h 0 25 - d) (by omega)).1]
    have hfR : g_R_tune_70 d a (t, bs, bh, br, h) = (if m_R_step t a h 0 25 = -9 then some (m_R_step t a h, bs, bh, br, h + 1) else (if bs = -9 then some (m_R_step t a h, a, h, m_R_step t a h 0 25, h + 1) else (if m_R_size (br - d) ≤ m_R_size (m_R_step t a h 0 25 - d) then some (m_R_step t a h, bs, bh, br, h + 1) else some (m_R_step t a h, a, h, m_R_step t a h 0 25, h + 1)))) := by
      show f_R_tune_70 d a t bs bh br h = _
      unfold f_R_tune_70
      rw [if_neg n2]
    have e4 : ∀ j, (m_M_reckon m a h).2 4 j = m 4 j := fun j => r3 4 j (by omega)
    by_cases c : m_R_step t a h 0 25 = -9
    · exact ⟨_, _, by rw [hfM, if_pos c], by rw [hfR, if_pos c], ⟨fr', rs', (e4 0).trans i3, (e4 1).trans i4, (e4 2).trans i5, i6⟩, hh', rfl⟩
    have rb := r4.resolve_left c
    have ed : (m_R_step t a h 0 25 - d).toInt = (m_R_step t a h 0 25).toInt - d.toInt := t_sub (by omega) (by omega)
    have sz := (abs_t (x := m_R_step t a h 0 25 - d) (by omega)).2
    have kt : ∀ s : St, (∀ p j, p ≠ 3 ∧ p ≠ 4 → s p j = sM p j) → tuI sM sR d (m_M_keepTuning s a h (m_R_step t a h 0 25)) (m_R_size (m_R_step t a h 0 25 - d)) (m_R_step t a h) a h (m_R_step t a h 0 25) := by
      intro s hs
      unfold m_M_keepTuning
      refine ⟨fun p j hp => ?_, rs', ?_, ?_, ?_, Or.inr ⟨ha.1, rfl, rb⟩⟩
      · rw [up_ne hp.2, up_ne hp.2, up_ne hp.2]; exact hs p j hp
      · rw [up_other (by omega), up_other (by omega), up_get]
      · rw [up_other (by omega), up_get]
      · rw [up_get]
    rcases i6 with ⟨j1, j2⟩ | ⟨j1, j2, j3⟩
    · have n3 : ¬ near ≤ m_R_size (m_R_step t a h 0 25 - d) := fun q => by have := le_t q; rw [j2, tmax, sz] at this; omega
      exact ⟨_, _, by rw [hfM, if_neg c, if_neg n3], by rw [hfR, if_neg c, if_pos j1], kt _ fr', hh', rfl⟩
    · have n9' : ¬ bs = -9 := n9 (by omega)
      by_cases q : near ≤ m_R_size (m_R_step t a h 0 25 - d)
      · exact ⟨_, _, by rw [hfM, if_neg c, if_pos q], by rw [hfR, if_neg c, if_neg n9', if_pos (by rw [← j2]; exact q)], ⟨fr', rs', (e4 0).trans i3, (e4 1).trans i4, (e4 2).trans i5, Or.inr ⟨j1, j2, j3⟩⟩, hh', rfl⟩
      · exact ⟨_, _, by rw [hfM, if_neg c, if_neg q], by rw [hfR, if_neg c, if_neg n9', if_neg (by rw [← j2]; exact q)], kt _ fr', hh', rfl⟩
  · rintro ⟨m, near, h⟩ ⟨t, bs, bh, br, h'⟩ ⟨hI, hh, e⟩
    dsimp only at hh e
    subst e
    refine ⟨?_, ?_⟩
    · show f_M_tuneTo_26 d a m near h = none
      unfold f_M_tuneTo_26
      rw [if_pos (Int32.lt_iff_toInt_lt.mpr (by omega))]
    · show f_R_tune_70 d a t bs bh br h = none
      unfold f_R_tune_70
      rw [if_pos (Int32.le_iff_toInt_le.mpr (by omega))]
theorem tu_out (hR : okR sR) (hM : relM sM sR) {d p1 p2 near bs bh br : Int32} {m t : St} (hd : 0 ≤ d.toInt ∧ d.toInt ≤ 2000) (hp : 10 ≤ p1.toInt ∧ p1.toInt ≤ p2.toInt ∧ p2.toInt ≤ 160) (hI : tuI sM sR d m near t bs bh br) :
    tuI sM sR d (wl (g_M_tuneTo_17 p2 d) 152 (m, near, p1)).1 (wl (g_M_tuneTo_17 p2 d) 152 (m, near, p1)).2.1 (wl (g_R_tune_61 p2 d) 152 (t, bs, bh, br, p1)).1 (wl (g_R_tune_61 p2 d) 152 (t, bs, bh, br, p1)).2.1 (wl (g_R_tune_61 p2 d) 152 (t, bs, bh, br, p1)).2.2.1 (wl (g_R_tune_61 p2 d) 152 (t, bs, bh, br, p1)).2.2.2.1 := by
  have key := wl_sim (f := g_M_tuneTo_17 p2 d) (g := g_R_tune_61 p2 d) (fun k s u => tuI sM sR d s.1 s.2.1 u.1 u.2.1 u.2.2.1 u.2.2.2.1 ∧ s.2.2.toInt = p1.toInt + (k : Int) ∧ s.2.2 = u.2.2.2.2) (p2.toInt - p1.toInt + 1).toNat ?_ ?_ 152 152 0 (m, near, p1) (t, bs, bh, br, p1) (by omega) (by omega) (by omega) ⟨hI, by show p1.toInt = p1.toInt + ((0 : Nat) : Int); omega, rfl⟩
  · exact key.1
  · rintro k ⟨m, near, a⟩ ⟨t, bs, bh, br, a'⟩ hk ⟨hI, hh, e⟩
    dsimp only at hI hh e
    subst e
    have q := tu_in hR hM (a := a) hd (by omega) hI
    have n : ¬ p2 < a := fun q => by have := lt_t q; omega
    refine ⟨((wl (g_M_tuneTo_26 d a) 62 (m, near, 0)).1, (wl (g_M_tuneTo_26 d a) 62 (m, near, 0)).2.1, a + 1), ((wl (g_R_tune_70 d a) 62 (t, bs, bh, br, 0)).1, (wl (g_R_tune_70 d a) 62 (t, bs, bh, br, 0)).2.1, (wl (g_R_tune_70 d a) 62 (t, bs, bh, br, 0)).2.2.1, (wl (g_R_tune_70 d a) 62 (t, bs, bh, br, 0)).2.2.2.1, a + 1), ?_, ?_, q, ?_, rfl⟩
    · show f_M_tuneTo_17 p2 d m near a = _
      unfold f_M_tuneTo_17 b_M_tuneTo_86
      rw [if_neg n]
    · show f_R_tune_61 p2 d t bs bh br a = _
      unfold f_R_tune_61 b_R_tune_140
      rw [if_neg n]
    · dsimp only
      rw [t_inc (by omega)]; omega
  · rintro ⟨m, near, a⟩ ⟨t, bs, bh, br, a'⟩ ⟨hI, hh, e⟩
    dsimp only at hh e
    subst e
    refine ⟨?_, ?_⟩
    · show f_M_tuneTo_17 p2 d m near a = none
      unfold f_M_tuneTo_17
      rw [if_pos (Int32.lt_iff_toInt_lt.mpr (by omega))]
    · show f_R_tune_61 p2 d t bs bh br a = none
      unfold f_R_tune_61
      rw [if_pos (Int32.lt_iff_toInt_lt.mpr (by omega))]
theorem takes3 {s : St} {v : Int32} : m_M_takes s 3 v = 0 ↔ m_T_within v 10 160 = 0 := by
  unfold m_M_takes
  rw [if_neg (show ¬ m_T_within 3 0 8 = 0 by decide), cl_3]
  show (if m_T_within v 10 160 = 0 then (0 : Int32) else 1) = 0 ↔ _
  by_cases c : m_T_within v 10 160 = 0
  · rw [if_pos c]; exact ⟨fun _ => c, fun _ => rfl⟩
  · rw [if_neg c]; exact ⟨fun q => absurd q (by decide), fun q => absurd q c⟩
theorem P_tune (h : Rel sT vT sM sB sL sS sR vR) (a1 a2 a3 a4 : Int32) : (m_T_tune sT sM a1 a2 a3 a4).1 = (m_R_tune sR a1 a2 a3 a4).1 ∧ Rel sT vT (m_T_tune sT sM a1 a2 a3 a4).2 sB sL sS (m_R_tune sR a1 a2 a3 a4).2 vR := by
  have hR := h.1
  have hM := h.2.2.1
  have z10 := tl_10
  have z160 : (160 : Int32).toInt = 160 := by decide +kernel
  have z0 := tl_0
  have z1 := tl_1
  have z2 := tl_2
  unfold m_T_tune m_R_tune b_R_tune_146 m_M_tuned
  by_cases c1 : m_T_within a1 10 160 = 0
  · have c1' : m_R_in a1 10 160 = 0 := c1
    rw [if_pos (takes3.mpr c1), if_pos c1']
    exact ⟨rfl, h⟩
  have c1' : ¬ m_R_in a1 10 160 = 0 := c1
  have w1 := within_t c1
  rw [z10, z160] at w1
  rw [if_neg (fun q => c1 (takes3.mp q)), if_neg c1']
  by_cases c2 : m_R_in a2 a1 160 = 0
  · have w2 := within_n c2
    rw [z160] at w2
    rw [if_pos c2]
    refine ⟨?_, ?_⟩
    · by_cases d2 : m_M_takes sM 3 a2 = 0
      · rw [if_pos d2]
      · rw [if_neg d2]
        have d3 := within_t (fun q => d2 (takes3.mpr q))
        rw [z10, z160] at d3
        rw [if_pos (Int32.lt_iff_toInt_lt.mpr (by omega))]
    · by_cases d2 : m_M_takes sM 3 a2 = 0
      · rw [if_pos d2]; exact h
      · rw [if_neg d2]
        have d3 := within_t (fun q => d2 (takes3.mpr q))
        rw [z10, z160] at d3
        rw [if_pos (Int32.lt_iff_toInt_lt.mpr (by omega))]; exact h
  have w2 := within_t (show ¬ m_T_within a2 a1 160 = 0 from c2)
  rw [z160] at w2
  rw [if_neg c2, if_neg (fun q => by have := within_n (takes3.mp q); rw [z10, z160] at this; omega), if_neg (fun q => by have := lt_t q; omega)]
  by_cases c3 : m_T_within a3 0 2000 = 0
  · have c3' : m_R_in a3 0 2000 = 0 := c3
    rw [if_pos c3, if_pos c3']
    exact ⟨rfl, h⟩
  have c3' : ¬ m_R_in a3 0 2000 = 0 := c3
  have w3 := within_t c3
  rw [z0, tl_2000] at w3
  rw [if_neg c3, if_neg c3']
  by_cases c4 : m_T_within a4 0 2 = 0
  · have c4' : m_R_in a4 0 2 = 0 := c4
    rw [if_pos c4, if_pos c4']
    exact ⟨rfl, h⟩
  have c4' : ¬ m_R_in a4 0 2 = 0 := c4
  have w4 := within_t c4
  rw [z0, z2] at w4
  rw [if_neg c4, if_neg c4', if_neg c4]
  have I0 : tuI sM sR a3 (m_M_keepTuning sM (-9) (-9) (-9)) 1000000 sR (-9) (-9) (-9) := by
    unfold m_M_keepTuning
    refine ⟨fun p j hp => ?_, Rs.rf, ?_, ?_, ?_, Or.inl ⟨rfl, rfl⟩⟩
    · rw [up_ne hp.2, up_ne hp.2, up_ne hp.2]
    · rw [up_other (by omega), up_other (by omega), up_get]
    · rw [up_other (by omega), up_get]
    · rw [up_get]
  have q := tu_out hR hM w3 ⟨w1.1, w2.1, w2.2⟩ I0
  have eT : m_M_tuneTo sM a1 a2 a3 = (wl (g_M_tuneTo_17 a2 a3) 152 ((m_M_keepTuning sM (-9) (-9) (-9)), 1000000, a1)).1 := rfl
  rw [eT]
  generalize (wl (g_M_tuneTo_17 a2 a3) 152 ((m_M_keepTuning sM (-9) (-9) (-9)), 1000000, a1)) = X at q ⊢
  generalize (wl (g_R_tune_61 a2 a3) 152 (sR, (-9), (-9), (-9), a1)) = Y at q ⊢
  obtain ⟨i1, i2, i3, i4, i5, -⟩ := q
  have hr := Rel_M (Rel_scr h i2) i1
  by_cases e0 : a4 = 0
  · rw [if_pos e0, e0, cl_0]; exact ⟨i3, hr⟩
  rw [if_neg e0]
  by_cases e1 : a4 = 1
  · rw [if_pos e1, e1, cl_1]; exact ⟨i4, hr⟩
  rw [if_neg e1]
  have n0 := ne_t e0
  have n1 := ne_t e1
  have e2 : a4 = 2 := t_ext (by omega)
  rw [e2, cl_2]
  exact ⟨i5, hr⟩
end S
