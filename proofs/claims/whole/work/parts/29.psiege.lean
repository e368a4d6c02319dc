/-! the siege: days and shots -/
theorem wl_end {σ : Type} {f : σ → Option σ} (I : Nat → σ → Prop) (E : σ → Prop) (N : Nat) (hs : ∀ k s, k < N → I k s → (∃ t, f s = some t ∧ I (k + 1) t) ∨ (f s = none ∧ E s)) (he : ∀ s, I N s → f s = none ∧ E s) : ∀ (n k : Nat) (s : σ), k ≤ N → N < n + k → I k s → E (wl f n s) := by
  intro n
  induction n with
  | zero => intro k s h1 h2; omega
  | succ n ih =>
    intro k s h1 h2 h
    by_cases e : k = N
    · subst e
      obtain ⟨e1, e2⟩ := he s h
      rw [wl_none e1]
      exact e2
    · rcases hs k s (by omega) h with ⟨t, ht, h3⟩ | ⟨e1, e2⟩
      · rw [wl_some ht]
        exact ih (k + 1) t (by omega) (by omega) h3
      · rw [wl_none e1]
        exact e2
theorem wc_sim2 {σ τ ρ π : Type} {f : σ → σ ⊕ ρ} {g : τ → τ ⊕ π} {d : ρ} {d' : π} (I : Nat → σ → τ → Prop) (E : ρ → π → Prop) (N M : Nat) (hs : ∀ k s t, k < N → I k s t → (∃ s' t', f s = .inl s' ∧ g t = .inl t' ∧ I (k + 1) s' t') ∨ (∃ r q, f s = .inr r ∧ g t = .inr q ∧ E r q)) (he : ∀ s t m, I N s t → M < m + N → ∃ r, f s = .inr r ∧ E r (wc g d' m t)) : ∀ (n m k : Nat) (s : σ) (t : τ), k ≤ N → N ≤ M → N < n + k → M < m + k → I k s t → E (wc f d n s) (wc g d' m t) := by
  intro n
  induction n with
  | zero => intro m k s t h1 h0 h2; omega
  | succ n ih =>
    intro m k s t h1 h0 h2 h3 h
    by_cases e : k = N
    · subst e
      obtain ⟨r, e1, h4⟩ := he s t m h h3
      rw [wc_inr e1]
      exact h4
    match m, h3 with
    | 0, h3 => omega
    | m + 1, h3 =>
      rcases hs k s t (by omega) h with ⟨s', t', e1, e2, h4⟩ | ⟨r, q, e1, e2, h4⟩
      · rw [wc_inl e1, wc_inl e2]
        exact ih m (k + 1) s' t' (by omega) h0 (by omega) (by omega) h4
      · rw [wc_inr e1, wc_inr e2]
        exact h4
/-- timber and wear after k shots -/
def sh (c life t0 w0 : Int32) : Nat → Int32 × Int32
  | 0 => (t0, w0)
  | k + 1 => if (sh c life t0 w0 k).2 + c < life then ((sh c life t0 w0 k).1, (sh c life t0 w0 k).2 + c) else ((sh c life t0 w0 k).1 + (-3), 0)
theorem tm3 : (-3 : Int32).toInt = -3 := by decide +kernel
section SH
variable {c life t0 w0 : Int32}
theorem sh_b (hc : 1 ≤ c.toInt ∧ c.toInt ≤ 2) (hl : 1 ≤ life.toInt ∧ life.toInt ≤ 200) (ht : 0 ≤ t0.toInt ∧ t0.toInt ≤ 9999) (hw : 0 ≤ w0.toInt ∧ w0.toInt < life.toInt) : ∀ k : Nat, k ≤ 60 → t0.toInt - 3 * (k : Int) ≤ (sh c life t0 w0 k).1.toInt ∧ (sh c life t0 w0 k).1.toInt ≤ t0.toInt ∧ 0 ≤ (sh c life t0 w0 k).2.toInt ∧ (sh c life t0 w0 k).2.toInt < life.toInt
  | 0, _ => by unfold sh; dsimp only; omega
  | k + 1, hk => by
    have ih := sh_b hc hl ht hw k (by omega)
    unfold sh
    split
    · rename_i q
      have := lt_t q
      dsimp only
      rw [t_add (by omega) (by omega)] at this ⊢
      omega
    · dsimp only
      rw [t_add (by rw [tm3]; omega) (by rw [tm3]; omega), tm3, tl_0]
      omega
theorem sh_m (hc : 1 ≤ c.toInt ∧ c.toInt ≤ 2) (hl : 1 ≤ life.toInt ∧ life.toInt ≤ 200) (ht : 0 ≤ t0.toInt ∧ t0.toInt ≤ 9999) (hw : 0 ≤ w0.toInt ∧ w0.toInt < life.toInt) (k : Nat) : ∀ r : Nat, k ≤ r → r ≤ 60 → (sh c life t0 w0 r).1.toInt ≤ (sh c life t0 w0 k).1.toInt
  | 0, h, _ => by rw [show k = 0 by omega]; exact Int.le_refl _
  | r + 1, h, h6 => by
    by_cases e : k = r + 1
    · rw [e]; exact Int.le_refl _
    have ih := sh_m hc hl ht hw k r (by omega) (by omega)
    have b := sh_b hc hl ht hw r (by omega)
    rw [sh]
    split
    · exact ih
    · dsimp only
      rw [t_add (by rw [tm3]; omega) (by rw [tm3]; omega), tm3]
      omega
end SH
section DAY
variable {sS sR : St} {r x8 e st t0 w0 : Int32} {rn : Nat}
theorem shS {x9 : Int32} (hr : r.toInt = (rn : Int)) (hr6 : rn ≤ 60) : (wl (g_S_wholeDays_116 sS r x9) 61 (t0, w0, 0)).1 = (sh (if x9 = 0 then 1 else 2) (sS 1 4) t0 w0 rn).1 ∧ (wl (g_S_wholeDays_116 sS r x9) 61 (t0, w0, 0)).2.1 = (sh (if x9 = 0 then 1 else 2) (sS 1 4) t0 w0 rn).2 := by
  have k := wl_run (f := g_S_wholeDays_116 sS r x9) (fun k s => s.1 = (sh (if x9 = 0 then 1 else 2) (sS 1 4) t0 w0 k).1 ∧ s.2.1 = (sh (if x9 = 0 then 1 else 2) (sS 1 4) t0 w0 k).2 ∧ s.2.2.toInt = (k : Int)) rn (by
    rintro k ⟨t, w, i⟩ hk ⟨h1, h2, h3⟩
    dsimp only at h1 h2 h3
    have hi : (i + 1).toInt = ((k + 1 : Nat) : Int) := by rw [t_inc (by omega)]; omega
    have n : ¬ r ≤ i := fun q => by have := le_t q; omega
    rw [sh, ← h1, ← h2]
    by_cases c : x9 = 0
    · by_cases q : w + 1 < sS 1 4
      · refine ⟨(t, w + 1, i + 1), ?_, by rw [if_pos c, if_pos q], by rw [if_pos c, if_pos q], hi⟩
        show f_S_wholeDays_116 sS r x9 t w i = _
        unfold f_S_wholeDays_116
        rw [if_neg n, if_pos c, if_pos q]
      · refine ⟨(t + (-3), 0, i + 1), ?_, by rw [if_pos c, if_neg q], by rw [if_pos c, if_neg q], hi⟩
        show f_S_wholeDays_116 sS r x9 t w i = _
        unfold f_S_wholeDays_116
        rw [if_neg n, if_pos c, if_neg q]
    · by_cases q : w + 2 < sS 1 4
      · refine ⟨(t, w + 2, i + 1), ?_, by rw [if_neg c, if_pos q], by rw [if_neg c, if_pos q], hi⟩
        show f_S_wholeDays_116 sS r x9 t w i = _
        unfold f_S_wholeDays_116
        rw [if_neg n, if_neg c, if_pos q]
      · refine ⟨(t + (-3), 0, i + 1), ?_, by rw [if_neg c, if_neg q], by rw [if_neg c, if_neg q], hi⟩
        show f_S_wholeDays_116 sS r x9 t w i = _
        unfold f_S_wholeDays_116
        rw [if_neg n, if_neg c, if_neg q]) (by
    rintro ⟨t, w, i⟩ ⟨h1, h2, h3⟩
    dsimp only at h3
    show f_S_wholeDays_116 sS r x9 t w i = none
    unfold f_S_wholeDays_116
    rw [if_pos (Int32.le_iff_toInt_le.mpr (by omega))]) 61 0 (t0, w0, 0) (by omega) (by omega) ⟨rfl, rfl, by rw [tl_0]; rfl⟩
  exact ⟨k.1, k.2.1⟩
/-- a day of rn shots comes to its end -/
def dayOk (c life T e st t0 w0 : Int32) (rn : Nat) : Prop := (rn : Int) * e.toInt ≤ T.toInt ∧ (rn : Int) ≤ st.toInt ∧ 0 ≤ (sh c life t0 w0 rn).1.toInt
theorem sg_i {i : Int32} {k rn : Nat} (h : i.toInt = (k : Int)) (hk : k < rn) (hr : rn ≤ 60) : (i + 1).toInt = ((k + 1 : Nat) : Int) := by rw [t_inc (by omega)]; omega
theorem sg_s {s st : Int32} {k : Nat} (h : s.toInt = st.toInt - (k : Int)) (h4 : (k : Int) ≤ st.toInt) (hst : 0 ≤ st.toInt ∧ st.toInt ≤ 9999) : (s + (-1)).toInt = st.toInt - ((k + 1 : Nat) : Int) := by rw [t_dec (by omega)]; omega
theorem sg_t {t : Int32} (h : -1000 ≤ t.toInt) (h2 : t.toInt ≤ 100000) : (t + (-3)).toInt = t.toInt - 3 := by rw [t_add (by rw [tm3]; omega) (by rw [tm3]; omega), tm3]; omega
theorem sg_T {T' e T : Int32} {k : Nat} (h5 : T'.toInt = T.toInt - (k : Int) * e.toInt) (h6 : (k : Int) * e.toInt ≤ T.toInt) (hke : 0 ≤ (k : Int) * e.toInt) (hT : 0 ≤ T.toInt ∧ T.toInt ≤ 6000) (he : 0 ≤ e.toInt ∧ e.toInt ≤ 500) (ek : ((k + 1 : Nat) : Int) * e.toInt = (k : Int) * e.toInt + e.toInt) : (T' - e).toInt = T.toInt - ((k + 1 : Nat) : Int) * e.toInt := by
  rw [t_sub (by omega) (by omega), ek]
  omega
theorem shR {T : Int32} (hr : r.toInt = (rn : Int)) (hr6 : rn ≤ 60) (hT : 0 ≤ T.toInt ∧ T.toInt ≤ 6000) (he : 0 ≤ e.toInt ∧ e.toInt ≤ 500) (hst : 0 ≤ st.toInt ∧ st.toInt ≤ 9999) (ht : 0 ≤ t0.toInt ∧ t0.toInt ≤ 9999) (hl : 1 ≤ (sR 16 4).toInt ∧ (sR 16 4).toInt ≤ 200) (hw : 0 ≤ w0.toInt ∧ w0.toInt < (sR 16 4).toInt) :
    (fun u : Int32 × Int32 × Int32 × Int32 × Int32 × Int32 => (u.2.2.2.2.1 = 1 ∧ dayOk (if x8 = 0 then 1 else 2) (sR 16 4) T e st t0 w0 rn ∧ u.1.toInt = st.toInt - (rn : Int) ∧ u.2.1 = (sh (if x8 = 0 then 1 else 2) (sR 16 4) t0 w0 rn).1 ∧ u.2.2.1 = (sh (if x8 = 0 then 1 else 2) (sR 16 4) t0 w0 rn).2) ∨ (u.2.2.2.2.1 = 0 ∧ ¬ dayOk (if x8 = 0 then 1 else 2) (sR 16 4) T e st t0 w0 rn)) (wl (g_R_lastsBy_147 sR r x8 e) 61 (st, t0, w0, T, 1, 0)) := by
  have hc : 1 ≤ (if x8 = 0 then (1 : Int32) else 2).toInt ∧ (if x8 = 0 then (1 : Int32) else 2).toInt ≤ 2 := by
    split
    · rw [tl_1]; omega
    · rw [tl_2]; omega
  have hcc : ∀ w : Int32, (if x8 = 0 then w + 1 else w + 2) = w + (if x8 = 0 then (1 : Int32) else 2) := fun w => by split <;> rfl
  have tm1 := tl_m1
  have tz3 := tl_3
  generalize hcd : (if x8 = 0 then (1 : Int32) else 2) = c at hc hcc ⊢
  refine wl_end (fun k (u : Int32 × Int32 × Int32 × Int32 × Int32 × Int32) => (u.2.2.2.2.1 = 1 ∧ u.2.2.2.2.2.toInt = (k : Int) ∧ u.1.toInt = st.toInt - (k : Int) ∧ (k : Int) ≤ st.toInt ∧ u.2.2.2.1.toInt = T.toInt - (k : Int) * e.toInt ∧ (k : Int) * e.toInt ≤ T.toInt ∧ u.2.1 = (sh c (sR 16 4) t0 w0 k).1 ∧ u.2.2.1 = (sh c (sR 16 4) t0 w0 k).2 ∧ 0 ≤ (sh c (sR 16 4) t0 w0 k).1.toInt) ∨ (u.2.2.2.2.1 = 0 ∧ ¬ dayOk c (sR 16 4) T e st t0 w0 rn)) _ rn ?_ ?_ 61 0 (st, t0, w0, T, 1, 0) (by omega) (by omega) (Or.inl ⟨rfl, by rw [tl_0]; rfl, by show st.toInt = st.toInt - ((0 : Nat) : Int); omega, by omega, by show T.toInt = T.toInt - ((0 : Nat) : Int) * e.toInt; simp, by simp; omega, rfl, rfl, by unfold sh; exact ht.1⟩)
  · rintro k ⟨s, t, w, T', a, i⟩ hk h
    dsimp only at h
    rcases h with ⟨h1, h2, h3, h4, h5, h6, h7, h8, h9⟩ | ⟨h1, h2⟩
    · left
      subst h1
      have b := sh_b hc hl ht hw k (by omega)
      have b' := sh_b hc hl ht hw (k + 1) (by omega)
      have hm := sh_m hc hl ht hw (k + 1) rn (by omega) (by omega)
      rw [← h7, ← h8] at b
      rw [← h7] at h9
      have n1 : ¬ r ≤ i := fun q => by have := le_t q; omega
      have n2 : ¬ (1 : Int32) = 0 := by decide
      obtain ⟨i', ei⟩ : ∃ z, z = i + 1 := ⟨_, rfl⟩
      obtain ⟨s', es⟩ : ∃ z, z = s + (-1) := ⟨_, rfl⟩
      obtain ⟨t', et⟩ : ∃ z, z = t + (-3) := ⟨_, rfl⟩
      obtain ⟨w', ew⟩ : ∃ z, z = w + c := ⟨_, rfl⟩
      obtain ⟨T'', eT⟩ : ∃ z, z = T' - e := ⟨_, rfl⟩
      have hke : 0 ≤ (k : Int) * e.toInt := Int.mul_nonneg (by omega) he.1
      have ek : ((k + 1 : Nat) : Int) * e.toInt = (k : Int) * e.toInt + e.toInt := by rw [Int.natCast_add, Int.add_mul]; simp
      have hmo : ((k + 1 : Nat) : Int) * e.toInt ≤ (rn : Int) * e.toInt := Int.mul_le_mul_of_nonneg_right (by omega) he.1
      have hi : i'.toInt = ((k + 1 : Nat) : Int) := by rw [ei]; exact sg_i h2 hk hr6
      have hs' : s'.toInt = st.toInt - ((k + 1 : Nat) : Int) := by rw [es]; exact sg_s h3 h4 hst
      have ht3 : t'.toInt = t.toInt - 3 := by rw [et]; exact sg_t (by omega) (by omega)
      have hT' : T''.toInt = T.toInt - ((k + 1 : Nat) : Int) * e.toInt := by rw [eT]; exact sg_T h5 h6 hke hT he ek
      have hnext : sh c (sR 16 4) t0 w0 (k + 1) = if w' < sR 16 4 then (t, w') else (t', 0) := by rw [sh, ← h7, ← h8, ew, et]
      have hf : g_R_lastsBy_147 sR r x8 e (s, t, w, T', 1, i) = (if T' < e then some (s', t, w', T'', 0, i') else if s ≤ 0 then some (s', t, w', T'', 0, i') else if w' < sR 16 4 then some (s', t, w', T'', 1, i') else if t < 3 then some (s', t', 0, T'', 0, i') else some (s', t', 0, T'', 1, i')) := by
        show f_R_lastsBy_147 sR r x8 e s t w T' 1 i = _
        unfold f_R_lastsBy_147
        rw [if_neg n1, if_neg n2, ei, es, et, ew, eT]
        by_cases z : x8 = 0
        · rw [if_pos z] at hcd
          subst hcd
          simp only [if_pos z]
        · rw [if_neg z] at hcd
          subst hcd
          simp only [if_neg z]
      clear ei es et ew eT hcc
      by_cases q1 : T' < e
      · have := lt_t q1
        exact ⟨_, by rw [hf, if_pos q1], Or.inr ⟨rfl, fun o => by have := o.1; omega⟩⟩
      have l1 := nlt_t q1
      by_cases q2 : s ≤ 0
      · have := le_t q2
        rw [tl_0] at this
        exact ⟨_, by rw [hf, if_neg q1, if_pos q2], Or.inr ⟨rfl, fun o => by have := o.2.1; omega⟩⟩
      have l2 := nle_t q2
      rw [tl_0] at l2
      by_cases q3 : w' < sR 16 4
      · rw [if_pos q3] at hnext
        refine ⟨(s', t, w', T'', 1, i'), by rw [hf, if_neg q1, if_neg q2, if_pos q3], Or.inl ⟨rfl, hi, hs', by omega, hT', by omega, ?_, ?_, ?_⟩⟩
        · rw [hnext]
        · rw [hnext]
        · rw [hnext]; exact h9
      rw [if_neg q3] at hnext
      by_cases q4 : t < 3
      · have l4 := lt_t q4
        rw [tz3] at l4
        refine ⟨(s', t', 0, T'', 0, i'), by rw [hf, if_neg q1, if_neg q2, if_neg q3, if_pos q4], Or.inr ⟨rfl, fun o => ?_⟩⟩
        have o3 := o.2.2
        rw [hnext] at hm
        dsimp only at hm
        omega
      · have l4 := nlt_t q4
        rw [tz3] at l4
        refine ⟨(s', t', 0, T'', 1, i'), by rw [hf, if_neg q1, if_neg q2, if_neg q3, if_neg q4], Or.inl ⟨rfl, hi, hs', by omega, hT', by omega, ?_, ?_, ?_⟩⟩
        · rw [hnext]
        · rw [hnext]
        · rw [hnext]
          dsimp only
          omega
    · right
      refine ⟨?_, Or.inr ⟨h1, h2⟩⟩
      show f_R_lastsBy_147 sR r x8 e s t w T' a i = none
      unfold f_R_lastsBy_147
      rw [if_pos h1, ite_self]
  · rintro ⟨s, t, w, T', a, i⟩ h
    dsimp only at h
    rcases h with ⟨h1, h2, h3, h4, h5, h6, h7, h8, h9⟩ | ⟨h1, h2⟩
    · refine ⟨?_, Or.inl ⟨h1, ⟨h6, h4, h9⟩, h3, h7, h8⟩⟩
      show f_R_lastsBy_147 sR r x8 e s t w T' a i = none
      unfold f_R_lastsBy_147
      rw [if_pos (Int32.le_iff_toInt_le.mpr (by omega))]
    · refine ⟨?_, Or.inr ⟨h1, h2⟩⟩
      show f_R_lastsBy_147 sR r x8 e s t w T' a i = none
      unfold f_R_lastsBy_147
      rw [if_pos h1, ite_self]
theorem shR0 {T : Int32} : (wl (g_R_lastsBy_147 sR r x8 e) 61 (st, t0, w0, T, 0, 0)).2.2.2.2.1 = 0 := by
  rw [wl_none]
  show f_R_lastsBy_147 sR r x8 e st t0 w0 T 0 0 = none
  unfold f_R_lastsBy_147
  rw [if_pos rfl, ite_self]
end DAY
