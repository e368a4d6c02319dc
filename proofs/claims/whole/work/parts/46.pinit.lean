/-! the first state -/
theorem okR_i : okR i_R := by
  unfold okR
  exact ⟨by decide +kernel, by decide +kernel⟩
theorem P_init : Rel n_T 0 n_M n_B n_L n_S n_R 0 := by
  obtain ⟨hl, fr⟩ := build_rel (sL := i_L) (sR := i_R) (a1 := 5) (a2 := 3) (by decide +kernel) (by decide +kernel) (by decide +kernel) (by decide +kernel) (by decide +kernel) (by decide +kernel)
  have rw_ : ∀ a, a ≠ 9 ∧ a ≠ 10 ∧ a ≠ 11 → n_R a = i_R a := fun a h => funext fun j => fr a j h
  have fd : ∀ j, n_R 0 j = i_R 0 j := fun j => fr 0 j (by omega)
  refine ⟨okR_ext okR_i (rw_ 1 (by decide)) (rw_ 5 (by decide)) (fd 3) (fd 6) (fd 7) (fd 11) (fd 16), relT_ext (s := i_R) ?_ (fd 13) (fd 14), relM_ext (s := i_R) (relM_turn okR_i ?_ ?_ ?_) (rw_ 1 (by decide)) (fd 1), relB_ext (s := i_R) ?_ (rw_ 5 (by decide)) (rw_ 6 (by decide)) (fd 3) (fd 2), hl, relS_ext (s := i_R) ?_ (rw_ 16 (by decide)) (fd 16) (fd 17)⟩
  · unfold relT; decide +kernel
  · decide +kernel
  · decide +kernel
  · decide +kernel
  · unfold relB; decide +kernel
  · unfold relS; decide +kernel
