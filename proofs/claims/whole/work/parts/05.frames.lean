set_option maxRecDepth 100000 in
theorem fr_R_findLeft {s : St} {k j : Nat} (h : (k ≠ 0 ∨ j < 19 ∨ 25 < j) ∧ k ≠ 27 ∧ k ≠ 28) : (m_R_findLeft s).2 k j = s k j := by
  have h2 : ∀ n v, (wl g_R_findLeft_2 n v).1 k j = v.1 k j := by
    intro n v
    refine fr_wl (fun v : St × Int32 => v.1) (C := fun k j => (k ≠ 0 ∨ j < 19 ∨ 25 < j) ∧ k ≠ 27 ∧ k ≠ 28) ?_ n v h
    intro v t e k j hk
    unfold g_R_findLeft_2 f_R_findLeft_2 at e
    repeat' split at e
    all_goals (cases e <;> (try dsimp only) <;> (repeat rw [up_other (by omega)]) <;> (try rw [fr_R_step (by omega)]))
  have h55 : ∀ x n v k j, ((k ≠ 0 ∨ j < 19 ∨ 25 < j) ∧ k ≠ 27 ∧ k ≠ 28) → (wl (g_R_findLeft_55 x) n v).1 k j = v.1 k j := by
    intro x n v k j h
    refine fr_wl (fun v : St × Int32 => v.1) (C := fun k j => (k ≠ 0 ∨ j < 19 ∨ 25 < j) ∧ k ≠ 27 ∧ k ≠ 28) ?_ n v h
    intro v t e k j hk
    unfold g_R_findLeft_55 f_R_findLeft_55 at e
    repeat' split at e
    all_goals (cases e <;> (try dsimp only) <;> (repeat rw [up_other (by omega)]))
  have h39 : ∀ n v, (wl g_R_findLeft_39 n v).1 k j = v.1 k j := by
    intro n v
    refine fr_wl (fun v : St × Int32 × Int32 => v.1) (C := fun k j => (k ≠ 0 ∨ j < 19 ∨ 25 < j) ∧ k ≠ 27 ∧ k ≠ 28) ?_ n v h
    intro v t e k j hk
    unfold g_R_findLeft_39 f_R_findLeft_39 at e
    split at e
    · cases e
    · unfold b_R_findLeft_128 at e
      cases e
      dsimp only
      rw [h55 _ _ _ _ _ hk]
      dsimp only
      rw [up_other (by omega)]
  unfold m_R_findLeft b_R_findLeft_35 b_R_findLeft_143
  dsimp only
  rw [h39]
  dsimp only
  rw [h2]
theorem okR_findLeft {s : St} (h : okR s) : okR (m_R_findLeft s).2 :=
  okR_fr h (funext fun j => fr_R_findLeft (by omega)) (funext fun j => fr_R_findLeft (by omega)) (fun j hj => fr_R_findLeft (by omega))
theorem fr_R_worthOf {s : St} {x y f : Int32} {k j : Nat} (h : (k ≠ 9 ∧ k ≠ 10 ∧ k ≠ 11) ∧ k ≠ 29 ∧ k ≠ 30 ∧ k ≠ 31) : (m_R_worthOf s x y f).2 k j = s k j := by
  have hl : ∀ n v, (wl (g_R_worthOf_10 x y f) n v).1 k j = v.1 k j := by
    intro n v
    refine fr_wl (fun v : St × Int32 × Int32 => v.1) (C := fun k j => (k ≠ 9 ∧ k ≠ 10 ∧ k ≠ 11) ∧ k ≠ 29 ∧ k ≠ 30 ∧ k ≠ 31) ?_ n v h
    intro v t e k j hk
    unfold g_R_worthOf_10 f_R_worthOf_10 at e
    split at e
    · cases e
    · cases e
      dsimp only
      rw [fr_R_giveBack hk.1, fr_R_strike hk.1]
  unfold m_R_worthOf b_R_worthOf_61
  dsimp only
  rw [hl]
  dsimp only
  rw [fr_R_keep h.2]
theorem okR_worthOf {s : St} {x y f : Int32} (h : okR s) : okR (m_R_worthOf s x y f).2 :=
  okR_fr h (funext fun j => fr_R_worthOf (by omega)) (funext fun j => fr_R_worthOf (by omega)) (fun j hj => fr_R_worthOf (by omega))
theorem fr_R_fewest {s : St} {x f : Int32} {k j : Nat} (h : k ≠ 32 ∧ k ≠ 33) : (m_R_fewest s x f).2 k j = s k j := by
  have h6 : ∀ c n v, (wl (g_R_fewest_6 c) n v).1 k j = v.1 k j := by
    intro c n v
    refine fr_wl (fun v : St × Int32 => v.1) (C := fun k j => k ≠ 32 ∧ k ≠ 33) ?_ n v h
    intro v t e k j hk
    unfold g_R_fewest_6 f_R_fewest_6 at e
    repeat' split at e
    all_goals (cases e <;> (try dsimp only) <;> (repeat rw [up_other (by omega)]))
  have h62 : ∀ c n v k j, (k ≠ 32 ∧ k ≠ 33) → (wl (g_R_fewest_62 c) n v).1 k j = v.1 k j := by
    intro c n v k j h
    refine fr_wl (fun v : St × Int32 => v.1) (C := fun k j => k ≠ 32 ∧ k ≠ 33) ?_ n v h
    intro v t e k j hk
    unfold g_R_fewest_62 f_R_fewest_62 at e
    repeat' split at e
    all_goals (cases e <;> (try dsimp only) <;> (repeat rw [up_other (by omega)]))
  have h253 : ∀ n v k j, (k ≠ 32 ∧ k ≠ 33) → (wl g_R_fewest_253 n v).1 k j = v.1 k j := by
    intro n v k j h
    refine fr_wl (fun v : St × Int32 => v.1) (C := fun k j => k ≠ 32 ∧ k ≠ 33) ?_ n v h
    intro v t e k j hk
    unfold g_R_fewest_253 f_R_fewest_253 at e
    repeat' split at e
    all_goals (cases e <;> (try dsimp only) <;> (repeat rw [up_other (by omega)]))
  have h86 : ∀ a b c n v k j, (k ≠ 32 ∧ k ≠ 33) → (wl (g_R_fewest_86 a b c) n v).1 k j = v.1 k j := by
    intro a b c n v k j h
    refine fr_wl (fun v : St × Int32 => v.1) (C := fun k j => k ≠ 32 ∧ k ≠ 33) ?_ n v h
    intro v t e k j hk
    unfold g_R_fewest_86 f_R_fewest_86 at e
    repeat' split at e
    all_goals (cases e <;> (try dsimp only) <;> (repeat rw [fr_R_cheaper hk.2]))
  have h39 : ∀ a b c n v, (wl (g_R_fewest_39 a b c) n v).1 k j = v.1 k j := by
    intro a b c n v
    refine fr_wl (fun v : St × Int32 => v.1) (C := fun k j => k ≠ 32 ∧ k ≠ 33) ?_ n v h
    intro v t e k j hk
    unfold g_R_fewest_39 f_R_fewest_39 at e
    split at e
    · cases e
    · unfold b_R_fewest_83 b_R_fewest_250 b_R_fewest_280 at e
      cases e
      dsimp only
      rw [h253 _ _ _ _ hk]
      dsimp only
      rw [h86 _ _ _ _ _ _ _ hk]
      dsimp only
      rw [h62 _ _ _ _ _ hk]
  unfold m_R_fewest b_R_fewest_36 b_R_fewest_286 b_R_fewest_337
  dsimp only
  rw [h39]
  dsimp only
  rw [h6]
theorem okR_fewest {s : St} {x f : Int32} (h : okR s) : okR (m_R_fewest s x f).2 :=
  okR_fr h (funext fun j => fr_R_fewest (by omega)) (funext fun j => fr_R_fewest (by omega)) (fun j hj => fr_R_fewest (by omega))
theorem fr_L_dropUnheld {s : St} {x : Int32} {k j : Nat} (h : k ≠ 1 ∧ k ≠ 2 ∧ k ≠ 3) : m_L_dropUnheld s x k j = s k j := by
  unfold m_L_dropUnheld b_L_dropUnheld_58
  refine fr_wl (fun v : St × Int32 => v.1) (C := fun k j => k ≠ 1 ∧ k ≠ 2 ∧ k ≠ 3) ?_ _ _ h
  intro v t e k j hk
  unfold g_L_dropUnheld_2 f_L_dropUnheld_2 at e
  repeat' split at e
  all_goals (cases e <;> (try dsimp only) <;> (repeat rw [up_other (by omega)]))
theorem fr_L_strike {s : St} {x y f : Int32} {k j : Nat} (h : k ≠ 1 ∧ k ≠ 2 ∧ k ≠ 3) : (m_L_strike s x y f).2 k j = s k j := by
  unfold m_L_strike
  repeat' split
  all_goals ((try dsimp only) <;> (try rw [fr_L_dropUnheld h]) <;> (repeat rw [up_other (by omega)]))
theorem fr_L_fallsBy {s : St} {x y f : Int32} {k j : Nat} (h : k ≠ 1 ∧ k ≠ 2 ∧ k ≠ 3) : (m_L_fallsBy s x y f).2 k j = s k j := by
  unfold m_L_fallsBy
  repeat' split
  all_goals ((try dsimp only) <;> (repeat rw [up_other (by omega)]) <;> (try rw [fr_L_strike h]))
theorem okL_fr {s t : St} (h : okL s) (h0 : t 0 = s 0) : okL t := by
  unfold okL
  rw [h0]
  exact h
theorem okL_strike {s : St} {x y f : Int32} (h : okL s) : okL (m_L_strike s x y f).2 := okL_fr h (funext fun j => fr_L_strike (by omega))
theorem okL_dropUnheld {s : St} {x : Int32} (h : okL s) : okL (m_L_dropUnheld s x) := okL_fr h (funext fun j => fr_L_dropUnheld (by omega))
theorem okL_fallsBy {s : St} {x y f : Int32} (h : okL s) : okL (m_L_fallsBy s x y f).2 := okL_fr h (funext fun j => fr_L_fallsBy (by omega))
theorem fr_L_worthOf {s : St} {x y f : Int32} {k j : Nat} (h : k ≠ 1 ∧ k ≠ 2 ∧ k ≠ 3) : (m_L_worthOf s x y f).2 k j = s k j := by
  have h15 : ∀ c n v k j, (k ≠ 1 ∧ k ≠ 2 ∧ k ≠ 3) → (wl (g_L_worthOf_15 x y f c) n v).1 k j = v.1 k j := by
    intro c n v k j h
    refine fr_wl (fun v : St × Int32 × Int32 => v.1) (C := fun k j => k ≠ 1 ∧ k ≠ 2 ∧ k ≠ 3) ?_ n v h
    intro v t e k j hk
    unfold g_L_worthOf_15 f_L_worthOf_15 at e
    repeat' split at e
    all_goals (cases e <;> (try dsimp only) <;> (try rw [fr_L_fallsBy hk]))
  have h6 : ∀ n v, (wl (g_L_worthOf_6 x y f) n v).1 k j = v.1 k j := by
    intro n v
    refine fr_wl (fun v : St × Int32 × Int32 => v.1) (C := fun k j => k ≠ 1 ∧ k ≠ 2 ∧ k ≠ 3) ?_ n v h
    intro v t e k j hk
    unfold g_L_worthOf_6 f_L_worthOf_6 at e
    split at e
    · cases e
    · unfold b_L_worthOf_58 at e
      cases e
      dsimp only
      rw [h15 _ _ _ _ _ hk]
  unfold m_L_worthOf b_L_worthOf_64
  dsimp only
  rw [h6]
theorem okL_worthOf {s : St} {x y f : Int32} (h : okL s) : okL (m_L_worthOf s x y f).2 := okL_fr h (funext fun j => fr_L_worthOf (by omega))
theorem fr_L_bestAim {s : St} {f : Int32} {k j : Nat} (h : k ≠ 1 ∧ k ≠ 2 ∧ k ≠ 3) : (m_L_bestAim s f).2 k j = s k j := by
  have hl : ∀ n v, (wl (g_L_bestAim_7 f) n v).1 k j = v.1 k j := by
    intro n v
    refine fr_wl (fun v : St × Int32 × Int32 × Int32 => v.1) (C := fun k j => k ≠ 1 ∧ k ≠ 2 ∧ k ≠ 3) ?_ n v h
    intro v t e k j hk
    unfold g_L_bestAim_7 f_L_bestAim_7 at e
    repeat' split at e
    all_goals (cases e <;> (try dsimp only) <;> (try rw [fr_L_worthOf hk]))
  unfold m_L_bestAim b_L_bestAim_58
  dsimp only
  rw [hl]
theorem okL_bestAim {s : St} {f : Int32} (h : okL s) : okL (m_L_bestAim s f).2 := okL_fr h (funext fun j => fr_L_bestAim (by omega))
