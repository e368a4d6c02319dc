/-! loops, frames, numbers: what the pure part rests on -/
theorem wl_run {σ : Type} {f : σ → Option σ} (I : Nat → σ → Prop) (N : Nat) (hs : ∀ k s, k < N → I k s → ∃ t, f s = some t ∧ I (k + 1) t) (he : ∀ s, I N s → f s = none) : ∀ (n k : Nat) (s : σ), k ≤ N → N < n + k → I k s → I N (wl f n s) := by
  intro n
  induction n with
  | zero => intro k s h1 h2; omega
  | succ n ih =>
    intro k s h1 h2 h
    by_cases e : k = N
    · subst e
      rw [wl_none (he s h)]
      exact h
    · obtain ⟨t, ht, h3⟩ := hs k s (by omega) h
      rw [wl_some ht]
      exact ih (k + 1) t (by omega) (by omega) h3
theorem wl_sim {σ τ : Type} {f : σ → Option σ} {g : τ → Option τ} (I : Nat → σ → τ → Prop) (N : Nat) (hs : ∀ k s t, k < N → I k s t → ∃ s' t', f s = some s' ∧ g t = some t' ∧ I (k + 1) s' t') (he : ∀ s t, I N s t → f s = none ∧ g t = none) : ∀ (n m k : Nat) (s : σ) (t : τ), k ≤ N → N < n + k → N < m + k → I k s t → I N (wl f n s) (wl g m t) := by
  intro n
  induction n with
  | zero => intro m k s t h1 h2; omega
  | succ n ih =>
    intro m k s t h1 h2 h3 h
    match m, h3 with
    | 0, h3 => omega
    | m + 1, h3 =>
      by_cases e : k = N
      · subst e
        rw [wl_none (he s t h).1, wl_none (he s t h).2]
        exact h
      · obtain ⟨s', t', e1, e2, h4⟩ := hs k s t (by omega) h
        rw [wl_some e1, wl_some e2]
        exact ih m (k + 1) s' t' (by omega) (by omega) (by omega) h4
theorem wc_run {σ ρ : Type} {f : σ → σ ⊕ ρ} {d : ρ} (I : Nat → σ → Prop) (E : ρ → Prop) (N : Nat) (hs : ∀ k s, k < N → I k s → (∃ t, f s = .inl t ∧ I (k + 1) t) ∨ (∃ r, f s = .inr r ∧ E r)) (he : ∀ s, I N s → ∃ r, f s = .inr r ∧ E r) : ∀ (n k : Nat) (s : σ), k ≤ N → N < n + k → I k s → E (wc f d n s) := by
  intro n
  induction n with
  | zero => intro k s h1 h2; omega
  | succ n ih =>
    intro k s h1 h2 h
    by_cases e : k = N
    · subst e
      obtain ⟨r, e1, h3⟩ := he s h
      rw [wc_inr e1]
      exact h3
    · rcases hs k s (by omega) h with ⟨t, e1, h3⟩ | ⟨r, e1, h3⟩
      · rw [wc_inl e1]
        exact ih (k + 1) t (by omega) (by omega) h3
      · rw [wc_inr e1]
        exact h3
theorem wc_sim {σ τ ρ π : Type} {f : σ → σ ⊕ ρ} {g : τ → τ ⊕ π} {d : ρ} {d' : π} (I : Nat → σ → τ → Prop) (E : ρ → π → Prop) (N : Nat) (hs : ∀ k s t, k < N → I k s t → (∃ s' t', f s = .inl s' ∧ g t = .inl t' ∧ I (k + 1) s' t') ∨ (∃ r q, f s = .inr r ∧ g t = .inr q ∧ E r q)) (he : ∀ s t, I N s t → ∃ r q, f s = .inr r ∧ g t = .inr q ∧ E r q) : ∀ (n m k : Nat) (s : σ) (t : τ), k ≤ N → N < n + k → N < m + k → I k s t → E (wc f d n s) (wc g d' m t) := by
  intro n
  induction n with
  | zero => intro m k s t h1 h2; omega
  | succ n ih =>
    intro m k s t h1 h2 h3 h
    match m, h3 with
    | 0, h3 => omega
    | m + 1, h3 =>
      by_cases e : k = N
      · subst e
        obtain ⟨r, q, e1, e2, h4⟩ := he s t h
        rw [wc_inr e1, wc_inr e2]
        exact h4
      · rcases hs k s t (by omega) h with ⟨s', t', e1, e2, h4⟩ | ⟨r, q, e1, e2, h4⟩
        · rw [wc_inl e1, wc_inl e2]
          exact ih m (k + 1) s' t' (by omega) (by omega) (by omega) h4
        · rw [wc_inr e1, wc_inr e2]
          exact h4
theorem cl_t {i : Int32} : Int32.toNatClampNeg i = i.toInt.toNat := rfl
theorem cl_n {i : Int32} {k : Nat} (h : i.toInt = (k : Int)) : Int32.toNatClampNeg i = k := by rw [cl_t, h]; omega
theorem ofNat_t {k : Nat} (h : k < 2147483648) : (Int32.ofNat k).toInt = (k : Int) := Int32.toInt_ofNat_of_lt (by omega)
theorem eq_ofNat {i : Int32} {k : Nat} (h : i.toInt = (k : Int)) : i = Int32.ofNat k := by
  have h2 := t_rng i
  exact Int32.toInt_inj.mp (by rw [h, ofNat_t (by omega)])
theorem t_ext {a b : Int32} (h : a.toInt = b.toInt) : a = b := Int32.toInt_inj.mp h
theorem t_neg {x : Int32} (h : -2147483648 < x.toInt) : (-x).toInt = -x.toInt := by
  have := t_rng x
  rw [Int32.toInt_neg]; exact t_bmod (by omega) (by omega)
theorem l_ext {a b : Int64} (h : a.toInt = b.toInt) : a = b := Int64.toInt_inj.mp h
theorem l_neg {x : Int64} (h : -9223372036854775808 < x.toInt) : (-x).toInt = -x.toInt := by
  have := l_rng x
  rw [Int64.toInt_neg]; exact l_bmod (by omega) (by omega)
theorem il_t (x : Int32) : (Int32.toInt64 x).toInt = x.toInt := Int32.toInt_toInt64 x
theorem li_t {x : Int64} (h1 : -2147483648 ≤ x.toInt) (h2 : x.toInt < 2147483648) : (Int64.toInt32 x).toInt = x.toInt := by
  rw [Int64.toInt_toInt32]; exact t_bmod h1 h2
theorem t_div {a b : Int32} (h : 0 ≤ a.toInt) : (a / b).toInt = a.toInt.tdiv b.toInt := by
  have h2 := t_rng a
  rw [Int32.toInt_div]
  refine t_bmod ?_ ?_
  · by_cases hb : 0 ≤ b.toInt
    · have := Int.tdiv_nonneg h hb; omega
    · have h3 : a.toInt.tdiv b.toInt = -(a.toInt.tdiv (-b.toInt)) := by rw [Int.tdiv_neg, Int.neg_neg]
      have h4 : a.toInt.tdiv (-b.toInt) ≤ a.toInt := by
        have := Int.tdiv_le_self (-b.toInt) h
        exact this
      omega
  · have := Int.tdiv_le_self b.toInt h
    omega
theorem up_row {s : St} {k i j : Nat} {x : Int32} : up s k i x k j = if j = i then x else s k j := by
  rw [up_eq]; rfl
/-- rows that only questions write -/
def scr (k j : Nat) : Prop := (k = 0 ∧ 19 ≤ j ∧ j ≤ 25) ∨ (27 ≤ k ∧ k ≤ 33)
def Rs (s t : St) : Prop := ∀ k j, ¬ scr k j → t k j = s k j
theorem Rs.rf {s : St} : Rs s s := fun _ _ _ => rfl
theorem Rs.tr {s t u : St} (h1 : Rs s t) (h2 : Rs t u) : Rs s u := fun k j h => (h2 k j h).trans (h1 k j h)
theorem Rs.row {s t : St} (h : Rs s t) {k : Nat} (h1 : k ≠ 0) (h2 : k < 27) : t k = s k := funext fun j => h k j (by unfold scr; omega)
theorem Rs.fld {s t : St} (h : Rs s t) {j : Nat} (h1 : j < 19) : t 0 j = s 0 j := h 0 j (by unfold scr; omega)
theorem Rs.step {s : St} {a b : Int32} : Rs s (m_R_step s a b) := fun k j h => fr_R_step (by unfold scr at h; omega)
theorem Rs.findLeft {s : St} : Rs s (m_R_findLeft s).2 := fun k j h => fr_R_findLeft (by unfold scr at h; omega)
theorem Rs.fewest {s : St} {x f : Int32} : Rs s (m_R_fewest s x f).2 := fun k j h => fr_R_fewest (by unfold scr at h; omega)
theorem okR_ext {s t : St} (h : okR s) (h1 : t 1 = s 1) (h5 : t 5 = s 5) (e3 : t 0 3 = s 0 3) (e6 : t 0 6 = s 0 6) (e7 : t 0 7 = s 0 7) (e11 : t 0 11 = s 0 11) (e16 : t 0 16 = s 0 16) : okR t := by
  unfold okR
  rw [h1, h5, e3, e6, e7, e11, e16]
  exact h
theorem givenAt_ext {s t : St} (h1 : t 1 = s 1) (x : Int32) : m_R_givenAt t x = m_R_givenAt s x := by
  unfold m_R_givenAt
  rw [h1]
theorem relT_ext {sT : St} {vT : Int64} {s t : St} {vR : Int64} (h : relT sT vT s vR) (e13 : t 0 13 = s 0 13) (e14 : t 0 14 = s 0 14) : relT sT vT t vR := by
  unfold relT
  rw [e13, e14]
  exact h
theorem relM_ext {sM s t : St} (h : relM sM s) (h1 : t 1 = s 1) (e1 : t 0 1 = s 0 1) : relM sM t := by
  unfold relM
  rw [h1, e1]
  refine ⟨h.1, h.2.1, h.2.2.1, fun k a b => ?_, h.2.2.2.2⟩
  rw [givenAt_ext h1]
  exact h.2.2.2.1 k a b
theorem relB_ext {sB s t : St} (h : relB sB s) (h5 : t 5 = s 5) (h6 : t 6 = s 6) (e3 : t 0 3 = s 0 3) (e2 : t 0 2 = s 0 2) : relB sB t := by
  unfold relB
  rw [h5, h6, e3, e2]
  exact h
theorem relL_ext {sL s t : St} (h : relL sL s) (h9 : t 9 = s 9) (h10 : t 10 = s 10) (h11 : t 11 = s 11) (h13 : t 13 = s 13) (e6 : t 0 6 = s 0 6) (e7 : t 0 7 = s 0 7) (e11 : t 0 11 = s 0 11) : relL sL t := by
  unfold relL relC
  rw [h9, h10, h11, h13, e6, e7, e11]
  exact h
theorem relS_ext {sS s t : St} (h : relS sS s) (h16 : t 16 = s 16) (e16 : t 0 16 = s 0 16) (e17 : t 0 17 = s 0 17) : relS sS t := by
  unfold relS
  rw [h16, e16, e17]
  exact h
section REL
variable {sT : St} {vT : Int64} {sM sB sL sS sR : St} {vR : Int64} {t : St}
theorem Rel_scr (h : Rel sT vT sM sB sL sS sR vR) (r : Rs sR t) : Rel sT vT sM sB sL sS t vR :=
  ⟨okR_ext h.1 (r.row (by decide) (by decide)) (r.row (by decide) (by decide)) (r.fld (by decide)) (r.fld (by decide)) (r.fld (by decide)) (r.fld (by decide)) (r.fld (by decide)),
   relT_ext h.2.1 (r.fld (by decide)) (r.fld (by decide)), relM_ext h.2.2.1 (r.row (by decide) (by decide)) (r.fld (by decide)),
   relB_ext h.2.2.2.1 (r.row (by decide) (by decide)) (r.row (by decide) (by decide)) (r.fld (by decide)) (r.fld (by decide)),
   relL_ext h.2.2.2.2.1 (r.row (by decide) (by decide)) (r.row (by decide) (by decide)) (r.row (by decide) (by decide)) (r.row (by decide) (by decide)) (r.fld (by decide)) (r.fld (by decide)) (r.fld (by decide)),
   relS_ext h.2.2.2.2.2 (r.row (by decide) (by decide)) (r.fld (by decide)) (r.fld (by decide))⟩
theorem relM_scr {sM' : St} (h : relM sM sR) (r : ∀ k j, k ≠ 3 ∧ k ≠ 4 → sM' k j = sM k j) : relM sM' sR := by
  have e1 : sM' 1 = sM 1 := funext fun j => r 1 j (by omega)
  have e2 : sM' 2 = sM 2 := funext fun j => r 2 j (by omega)
  have e0 : sM' 0 = sM 0 := funext fun j => r 0 j (by omega)
  unfold relM
  rw [e1, e2, e0]
  exact h
theorem relB_scr {sB' : St} (h : relB sB sR) (r : ∀ k j, k ≠ 1 ∧ k ≠ 4 ∧ k ≠ 5 → sB' k j = sB k j) : relB sB' sR := by
  have e2 : sB' 2 = sB 2 := funext fun j => r 2 j (by omega)
  have e3 : sB' 3 = sB 3 := funext fun j => r 3 j (by omega)
  have e0 : sB' 0 = sB 0 := funext fun j => r 0 j (by omega)
  unfold relB
  rw [e2, e3, e0]
  exact h
theorem Rel_M {sM' : St} (h : Rel sT vT sM sB sL sS sR vR) (r : ∀ k j, k ≠ 3 ∧ k ≠ 4 → sM' k j = sM k j) : Rel sT vT sM' sB sL sS sR vR :=
  ⟨h.1, h.2.1, relM_scr h.2.2.1 r, h.2.2.2⟩
theorem Rel_B {sB' : St} (h : Rel sT vT sM sB sL sS sR vR) (r : ∀ k j, k ≠ 1 ∧ k ≠ 4 ∧ k ≠ 5 → sB' k j = sB k j) : Rel sT vT sM sB' sL sS sR vR :=
  ⟨h.1, h.2.1, h.2.2.1, relB_scr h.2.2.2.1 r, h.2.2.2.2⟩
end REL
theorem in_eq {a b c : Int32} : m_R_in a b c = m_T_within a b c := rfl
theorem within_n {a b c : Int32} (h : m_T_within a b c = 0) : a.toInt < b.toInt ∨ c.toInt < a.toInt := by
  unfold m_T_within at h
  by_cases h1 : a < b
  · exact Or.inl (lt_t h1)
  · rw [if_neg h1] at h
    by_cases h2 : c < a
    · exact Or.inr (lt_t h2)
    · rw [if_neg h2] at h; exact absurd h (by decide)
theorem Rel_st {sT : St} {vT : Int64} {sM sB sL sS sR : St} {vR : Int64} (h : Rel sT vT sM sB sL sS sR vR) {x : Int32} (hx : 0 ≤ x.toInt ∧ x.toInt ≤ 3) : Rel (up sT 0 4 x) vT sM sB sL sS (up sR 0 13 x) vR := by
  obtain ⟨hR, hT, hM, hB, hL, hS⟩ := h
  refine ⟨okR_ext hR (up_ne (by decide)) (up_ne (by decide)) (up_other (by decide)) (up_other (by decide)) (up_other (by decide)) (up_other (by decide)) (up_other (by decide)), ?_, relM_ext hM (up_ne (by decide)) (up_other (by decide)), relB_ext hB (up_ne (by decide)) (up_ne (by decide)) (up_other (by decide)) (up_other (by decide)), relL_ext hL (up_ne (by decide)) (up_ne (by decide)) (up_ne (by decide)) (up_ne (by decide)) (up_other (by decide)) (up_other (by decide)) (up_other (by decide)), relS_ext hS (up_ne (by decide)) (up_other (by decide)) (up_other (by decide))⟩
  unfold relT
  have e5 : up sT 0 4 x 0 5 = sT 0 5 := up_other (by decide)
  have e14 : up sR 0 13 x 0 14 = sR 0 14 := up_other (by decide)
  rw [up_get, up_get, e5, e14]
  exact ⟨rfl, hT.2.1, hT.2.2.1, hx⟩
