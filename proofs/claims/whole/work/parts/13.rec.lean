def m_L_heldAfter0 (sL : St) (p1 : Int32) (p2 : Int32) (p3 : Int32) : Int64 :=
  1
def b_L_heldBy1_110 (sL_110 : St) (x6_110 : Int32) (x7_110 : Int32) (x8_110 : Int32) (x9_110 : Int32) (x10_110 : Int32) (y0_110 : Int64) : Int64 × St :=
  (y0_110, (up (up (up sL_110 2 (Int32.toNatClampNeg x6_110) x8_110) 3 (Int32.toNatClampNeg x6_110) x9_110) 1 (Int32.toNatClampNeg (m_L_place x6_110 x7_110)) x10_110))
def b_L_heldBy1_18 (sL_18 : St) (p2 : Int32) (p3 : Int32) (p4 : Int32) (x6_18 : Int32) (x7_18 : Int32) : Int64 × St :=
  (if (m_L_stands sL_18 x6_18 x7_18) = 0 then ((m_L_heldAfter0 sL_18 p2 p3 p4), sL_18)
  else (if (m_L_isOpen (m_L_strike sL_18 x6_18 x7_18 p4).2 x6_18) = 0 then (b_L_heldBy1_110 (m_L_strike sL_18 x6_18 x7_18 p4).2 x6_18 x7_18 (sL_18 2 (Int32.toNatClampNeg x6_18)) (sL_18 3 (Int32.toNatClampNeg x6_18)) (sL_18 1 (Int32.toNatClampNeg (m_L_place x6_18 x7_18))) (m_L_heldAfter0 (m_L_strike sL_18 x6_18 x7_18 p4).2 p2 p3 p4))
  else (b_L_heldBy1_110 (m_L_strike sL_18 x6_18 x7_18 p4).2 x6_18 x7_18 (sL_18 2 (Int32.toNatClampNeg x6_18)) (sL_18 3 (Int32.toNatClampNeg x6_18)) (sL_18 1 (Int32.toNatClampNeg (m_L_place x6_18 x7_18))) 0)))
def m_L_heldBy1 (sL : St) (p1 : Int32) (p2 : Int32) (p3 : Int32) (p4 : Int32) : Int64 × St :=
  (b_L_heldBy1_18 sL p2 p3 p4 ((p2 + (p1 - p1 / 3 * 3)) - 1) ((p3 + (p1 / 3)) - 1))
theorem fr_L_heldBy1 {s : St} {w x y f : Int32} {k j : Nat} (h : k ≠ 1 ∧ k ≠ 2 ∧ k ≠ 3) : (m_L_heldBy1 s w x y f).2 k j = s k j := by
  unfold m_L_heldBy1 b_L_heldBy1_18 b_L_heldBy1_110
  repeat' split
  all_goals ((try dsimp only) <;> (repeat rw [up_other (by omega)]) <;> (try rw [fr_L_strike h]))
theorem okL_heldBy1 {s : St} {w x y f : Int32} (h : okL s) : okL (m_L_heldBy1 s w x y f).2 := okL_fr h (funext fun j => fr_L_heldBy1 (by omega))
def f_L_heldAfter1_19  (p1 : Int32) (p2 : Int32) (p3 : Int32) (sL_19 : St) (x5_19 : Int64) (x7_19 : Int32) : Option (St × Int64 × Int32) :=
  (if 9 ≤ x7_19 then none
  else (if (sL_19 4 (Int32.toNatClampNeg x7_19)) ≤ 0 then some (sL_19, x5_19, (x7_19 + 1))
  else some ((m_L_heldBy1 sL_19 x7_19 p1 p2 p3).2, (x5_19 + ((Int32.toInt64 (sL_19 4 (Int32.toNatClampNeg x7_19))) * (m_L_heldBy1 sL_19 x7_19 p1 p2 p3).1)), (x7_19 + 1))))
def g_L_heldAfter1_19  (p1 : Int32) (p2 : Int32) (p3 : Int32) : St × Int64 × Int32 → Option (St × Int64 × Int32) := fun v => f_L_heldAfter1_19 p1 p2 p3 v.1 v.2.1 v.2.2
def b_L_heldAfter1_70 (sL_70 : St) (x5_70 : Int64) : Int64 × St :=
  (x5_70, sL_70)
def m_L_heldAfter1 (sL : St) (p1 : Int32) (p2 : Int32) (p3 : Int32) : Int64 × St :=
  (b_L_heldAfter1_70 (wl (g_L_heldAfter1_19 p1 p2 p3) 10 (sL, 0, 0)).1 (wl (g_L_heldAfter1_19 p1 p2 p3) 10 (sL, 0, 0)).2.1)
theorem fr_L_heldAfter1 {s : St} {x y f : Int32} {k j : Nat} (h : k ≠ 1 ∧ k ≠ 2 ∧ k ≠ 3) : (m_L_heldAfter1 s x y f).2 k j = s k j := by
  have hl : ∀ n v, (wl (g_L_heldAfter1_19 x y f) n v).1 k j = v.1 k j := by
    intro n v
    refine fr_wl (fun v : St × Int64 × Int32 => v.1) (C := fun k j => k ≠ 1 ∧ k ≠ 2 ∧ k ≠ 3) ?_ n v h
    intro v t e k j hk
    unfold g_L_heldAfter1_19 f_L_heldAfter1_19 at e
    repeat' split at e
    all_goals (cases e <;> (try dsimp only) <;> (try rw [fr_L_heldBy1 hk]))
  unfold m_L_heldAfter1 b_L_heldAfter1_70
  dsimp only
  rw [hl]
def b_L_heldBy2_110 (sL_110 : St) (x6_110 : Int32) (x7_110 : Int32) (x8_110 : Int32) (x9_110 : Int32) (x10_110 : Int32) (y0_110 : Int64) : Int64 × St :=
  (y0_110, (up (up (up sL_110 2 (Int32.toNatClampNeg x6_110) x8_110) 3 (Int32.toNatClampNeg x6_110) x9_110) 1 (Int32.toNatClampNeg (m_L_place x6_110 x7_110)) x10_110))
def b_L_heldBy2_18 (sL_18 : St) (p2 : Int32) (p3 : Int32) (p4 : Int32) (x6_18 : Int32) (x7_18 : Int32) : Int64 × St :=
  (if (m_L_stands sL_18 x6_18 x7_18) = 0 then ((m_L_heldAfter1 sL_18 p2 p3 p4).1, (m_L_heldAfter1 sL_18 p2 p3 p4).2)
  else (if (m_L_isOpen (m_L_strike sL_18 x6_18 x7_18 p4).2 x6_18) = 0 then (b_L_heldBy2_110 (m_L_heldAfter1 (m_L_strike sL_18 x6_18 x7_18 p4).2 p2 p3 p4).2 x6_18 x7_18 (sL_18 2 (Int32.toNatClampNeg x6_18)) (sL_18 3 (Int32.toNatClampNeg x6_18)) (sL_18 1 (Int32.toNatClampNeg (m_L_place x6_18 x7_18))) (m_L_heldAfter1 (m_L_strike sL_18 x6_18 x7_18 p4).2 p2 p3 p4).1)
  else (b_L_heldBy2_110 (m_L_strike sL_18 x6_18 x7_18 p4).2 x6_18 x7_18 (sL_18 2 (Int32.toNatClampNeg x6_18)) (sL_18 3 (Int32.toNatClampNeg x6_18)) (sL_18 1 (Int32.toNatClampNeg (m_L_place x6_18 x7_18))) 0)))
def m_L_heldBy2 (sL : St) (p1 : Int32) (p2 : Int32) (p3 : Int32) (p4 : Int32) : Int64 × St :=
  (b_L_heldBy2_18 sL p2 p3 p4 ((p2 + (p1 - p1 / 3 * 3)) - 1) ((p3 + (p1 / 3)) - 1))
theorem fr_L_heldBy2 {s : St} {w x y f : Int32} {k j : Nat} (h : k ≠ 1 ∧ k ≠ 2 ∧ k ≠ 3) : (m_L_heldBy2 s w x y f).2 k j = s k j := by
  unfold m_L_heldBy2 b_L_heldBy2_18 b_L_heldBy2_110
  repeat' split
  all_goals ((try dsimp only) <;> (repeat rw [up_other (by omega)]) <;> (try rw [fr_L_heldAfter1 h]) <;> (try rw [fr_L_strike h]))
theorem okL_heldBy2 {s : St} {w x y f : Int32} (h : okL s) : okL (m_L_heldBy2 s w x y f).2 := okL_fr h (funext fun j => fr_L_heldBy2 (by omega))
def f_L_heldAfter2_19  (p1 : Int32) (p2 : Int32) (p3 : Int32) (sL_19 : St) (x5_19 : Int64) (x7_19 : Int32) : Option (St × Int64 × Int32) :=
  (if 9 ≤ x7_19 then none
  else (if (sL_19 4 (Int32.toNatClampNeg x7_19)) ≤ 0 then some (sL_19, x5_19, (x7_19 + 1))
  else some ((m_L_heldBy2 sL_19 x7_19 p1 p2 p3).2, (x5_19 + ((Int32.toInt64 (sL_19 4 (Int32.toNatClampNeg x7_19))) * (m_L_heldBy2 sL_19 x7_19 p1 p2 p3).1)), (x7_19 + 1))))
def g_L_heldAfter2_19  (p1 : Int32) (p2 : Int32) (p3 : Int32) : St × Int64 × Int32 → Option (St × Int64 × Int32) := fun v => f_L_heldAfter2_19 p1 p2 p3 v.1 v.2.1 v.2.2
def b_L_heldAfter2_70 (sL_70 : St) (x5_70 : Int64) : Int64 × St :=
  (x5_70, sL_70)
def m_L_heldAfter2 (sL : St) (p1 : Int32) (p2 : Int32) (p3 : Int32) : Int64 × St :=
  (b_L_heldAfter2_70 (wl (g_L_heldAfter2_19 p1 p2 p3) 10 (sL, 0, 0)).1 (wl (g_L_heldAfter2_19 p1 p2 p3) 10 (sL, 0, 0)).2.1)
theorem fr_L_heldAfter2 {s : St} {x y f : Int32} {k j : Nat} (h : k ≠ 1 ∧ k ≠ 2 ∧ k ≠ 3) : (m_L_heldAfter2 s x y f).2 k j = s k j := by
  have hl : ∀ n v, (wl (g_L_heldAfter2_19 x y f) n v).1 k j = v.1 k j := by
    intro n v
    refine fr_wl (fun v : St × Int64 × Int32 => v.1) (C := fun k j => k ≠ 1 ∧ k ≠ 2 ∧ k ≠ 3) ?_ n v h
    intro v t e k j hk
    unfold g_L_heldAfter2_19 f_L_heldAfter2_19 at e
    repeat' split at e
    all_goals (cases e <;> (try dsimp only) <;> (try rw [fr_L_heldBy2 hk]))
  unfold m_L_heldAfter2 b_L_heldAfter2_70
  dsimp only
  rw [hl]
def b_L_heldBy3_110 (sL_110 : St) (x6_110 : Int32) (x7_110 : Int32) (x8_110 : Int32) (x9_110 : Int32) (x10_110 : Int32) (y0_110 : Int64) : Int64 × St :=
  (y0_110, (up (up (up sL_110 2 (Int32.toNatClampNeg x6_110) x8_110) 3 (Int32.toNatClampNeg x6_110) x9_110) 1 (Int32.toNatClampNeg (m_L_place x6_110 x7_110)) x10_110))
def b_L_heldBy3_18 (sL_18 : St) (p2 : Int32) (p3 : Int32) (p4 : Int32) (x6_18 : Int32) (x7_18 : Int32) : Int64 × St :=
  (if (m_L_stands sL_18 x6_18 x7_18) = 0 then ((m_L_heldAfter2 sL_18 p2 p3 p4).1, (m_L_heldAfter2 sL_18 p2 p3 p4).2)
  else (if (m_L_isOpen (m_L_strike sL_18 x6_18 x7_18 p4).2 x6_18) = 0 then (b_L_heldBy3_110 (m_L_heldAfter2 (m_L_strike sL_18 x6_18 x7_18 p4).2 p2 p3 p4).2 x6_18 x7_18 (sL_18 2 (Int32.toNatClampNeg x6_18)) (sL_18 3 (Int32.toNatClampNeg x6_18)) (sL_18 1 (Int32.toNatClampNeg (m_L_place x6_18 x7_18))) (m_L_heldAfter2 (m_L_strike sL_18 x6_18 x7_18 p4).2 p2 p3 p4).1)
  else (b_L_heldBy3_110 (m_L_strike sL_18 x6_18 x7_18 p4).2 x6_18 x7_18 (sL_18 2 (Int32.toNatClampNeg x6_18)) (sL_18 3 (Int32.toNatClampNeg x6_18)) (sL_18 1 (Int32.toNatClampNeg (m_L_place x6_18 x7_18))) 0)))
def m_L_heldBy3 (sL : St) (p1 : Int32) (p2 : Int32) (p3 : Int32) (p4 : Int32) : Int64 × St :=
  (b_L_heldBy3_18 sL p2 p3 p4 ((p2 + (p1 - p1 / 3 * 3)) - 1) ((p3 + (p1 / 3)) - 1))
theorem fr_L_heldBy3 {s : St} {w x y f : Int32} {k j : Nat} (h : k ≠ 1 ∧ k ≠ 2 ∧ k ≠ 3) : (m_L_heldBy3 s w x y f).2 k j = s k j := by
  unfold m_L_heldBy3 b_L_heldBy3_18 b_L_heldBy3_110
  repeat' split
  all_goals ((try dsimp only) <;> (repeat rw [up_other (by omega)]) <;> (try rw [fr_L_heldAfter2 h]) <;> (try rw [fr_L_strike h]))
theorem okL_heldBy3 {s : St} {w x y f : Int32} (h : okL s) : okL (m_L_heldBy3 s w x y f).2 := okL_fr h (funext fun j => fr_L_heldBy3 (by omega))
def f_L_heldAfter3_19  (p1 : Int32) (p2 : Int32) (p3 : Int32) (sL_19 : St) (x5_19 : Int64) (x7_19 : Int32) : Option (St × Int64 × Int32) :=
  (if 9 ≤ x7_19 then none
  else (if (sL_19 4 (Int32.toNatClampNeg x7_19)) ≤ 0 then some (sL_19, x5_19, (x7_19 + 1))
  else some ((m_L_heldBy3 sL_19 x7_19 p1 p2 p3).2, (x5_19 + ((Int32.toInt64 (sL_19 4 (Int32.toNatClampNeg x7_19))) * (m_L_heldBy3 sL_19 x7_19 p1 p2 p3).1)), (x7_19 + 1))))
def g_L_heldAfter3_19  (p1 : Int32) (p2 : Int32) (p3 : Int32) : St × Int64 × Int32 → Option (St × Int64 × Int32) := fun v => f_L_heldAfter3_19 p1 p2 p3 v.1 v.2.1 v.2.2
def b_L_heldAfter3_70 (sL_70 : St) (x5_70 : Int64) : Int64 × St :=
  (x5_70, sL_70)
def m_L_heldAfter3 (sL : St) (p1 : Int32) (p2 : Int32) (p3 : Int32) : Int64 × St :=
  (b_L_heldAfter3_70 (wl (g_L_heldAfter3_19 p1 p2 p3) 10 (sL, 0, 0)).1 (wl (g_L_heldAfter3_19 p1 p2 p3) 10 (sL, 0, 0)).2.1)
theorem fr_L_heldAfter3 {s : St} {x y f : Int32} {k j : Nat} (h : k ≠ 1 ∧ k ≠ 2 ∧ k ≠ 3) : (m_L_heldAfter3 s x y f).2 k j = s k j := by
  have hl : ∀ n v, (wl (g_L_heldAfter3_19 x y f) n v).1 k j = v.1 k j := by
    intro n v
    refine fr_wl (fun v : St × Int64 × Int32 => v.1) (C := fun k j => k ≠ 1 ∧ k ≠ 2 ∧ k ≠ 3) ?_ n v h
    intro v t e k j hk
    unfold g_L_heldAfter3_19 f_L_heldAfter3_19 at e
    repeat' split at e
    all_goals (cases e <;> (try dsimp only) <;> (try rw [fr_L_heldBy3 hk]))
  unfold m_L_heldAfter3 b_L_heldAfter3_70
  dsimp only
  rw [hl]
def b_L_heldBy4_110 (sL_110 : St) (x6_110 : Int32) (x7_110 : Int32) (x8_110 : Int32) (x9_110 : Int32) (x10_110 : Int32) (y0_110 : Int64) : Int64 × St :=
  (y0_110, (up (up (up sL_110 2 (Int32.toNatClampNeg x6_110) x8_110) 3 (Int32.toNatClampNeg x6_110) x9_110) 1 (Int32.toNatClampNeg (m_L_place x6_110 x7_110)) x10_110))
def b_L_heldBy4_18 (sL_18 : St) (p2 : Int32) (p3 : Int32) (p4 : Int32) (x6_18 : Int32) (x7_18 : Int32) : Int64 × St :=
  (if (m_L_stands sL_18 x6_18 x7_18) = 0 then ((m_L_heldAfter3 sL_18 p2 p3 p4).1, (m_L_heldAfter3 sL_18 p2 p3 p4).2)
  else (if (m_L_isOpen (m_L_strike sL_18 x6_18 x7_18 p4).2 x6_18) = 0 then (b_L_heldBy4_110 (m_L_heldAfter3 (m_L_strike sL_18 x6_18 x7_18 p4).2 p2 p3 p4).2 x6_18 x7_18 (sL_18 2 (Int32.toNatClampNeg x6_18)) (sL_18 3 (Int32.toNatClampNeg x6_18)) (sL_18 1 (Int32.toNatClampNeg (m_L_place x6_18 x7_18))) (m_L_heldAfter3 (m_L_strike sL_18 x6_18 x7_18 p4).2 p2 p3 p4).1)
  else (b_L_heldBy4_110 (m_L_strike sL_18 x6_18 x7_18 p4).2 x6_18 x7_18 (sL_18 2 (Int32.toNatClampNeg x6_18)) (sL_18 3 (Int32.toNatClampNeg x6_18)) (sL_18 1 (Int32.toNatClampNeg (m_L_place x6_18 x7_18))) 0)))
def m_L_heldBy4 (sL : St) (p1 : Int32) (p2 : Int32) (p3 : Int32) (p4 : Int32) : Int64 × St :=
  (b_L_heldBy4_18 sL p2 p3 p4 ((p2 + (p1 - p1 / 3 * 3)) - 1) ((p3 + (p1 / 3)) - 1))
theorem fr_L_heldBy4 {s : St} {w x y f : Int32} {k j : Nat} (h : k ≠ 1 ∧ k ≠ 2 ∧ k ≠ 3) : (m_L_heldBy4 s w x y f).2 k j = s k j := by
  unfold m_L_heldBy4 b_L_heldBy4_18 b_L_heldBy4_110
  repeat' split
  all_goals ((try dsimp only) <;> (repeat rw [up_other (by omega)]) <;> (try rw [fr_L_heldAfter3 h]) <;> (try rw [fr_L_strike h]))
theorem okL_heldBy4 {s : St} {w x y f : Int32} (h : okL s) : okL (m_L_heldBy4 s w x y f).2 := okL_fr h (funext fun j => fr_L_heldBy4 (by omega))
def f_L_heldAfter4_19  (p1 : Int32) (p2 : Int32) (p3 : Int32) (sL_19 : St) (x5_19 : Int64) (x7_19 : Int32) : Option (St × Int64 × Int32) :=
  (if 9 ≤ x7_19 then none
  else (if (sL_19 4 (Int32.toNatClampNeg x7_19)) ≤ 0 then some (sL_19, x5_19, (x7_19 + 1))
  else some ((m_L_heldBy4 sL_19 x7_19 p1 p2 p3).2, (x5_19 + ((Int32.toInt64 (sL_19 4 (Int32.toNatClampNeg x7_19))) * (m_L_heldBy4 sL_19 x7_19 p1 p2 p3).1)), (x7_19 + 1))))
def g_L_heldAfter4_19  (p1 : Int32) (p2 : Int32) (p3 : Int32) : St × Int64 × Int32 → Option (St × Int64 × Int32) := fun v => f_L_heldAfter4_19 p1 p2 p3 v.1 v.2.1 v.2.2
def b_L_heldAfter4_70 (sL_70 : St) (x5_70 : Int64) : Int64 × St :=
  (x5_70, sL_70)
def m_L_heldAfter4 (sL : St) (p1 : Int32) (p2 : Int32) (p3 : Int32) : Int64 × St :=
  (b_L_heldAfter4_70 (wl (g_L_heldAfter4_19 p1 p2 p3) 10 (sL, 0, 0)).1 (wl (g_L_heldAfter4_19 p1 p2 p3) 10 (sL, 0, 0)).2.1)
theorem fr_L_heldAfter4 {s : St} {x y f : Int32} {k j : Nat} (h : k ≠ 1 ∧ k ≠ 2 ∧ k ≠ 3) : (m_L_heldAfter4 s x y f).2 k j = s k j := by
  have hl : ∀ n v, (wl (g_L_heldAfter4_19 x y f) n v).1 k j = v.1 k j := by
    intro n v
    refine fr_wl (fun v : St × Int64 × Int32 => v.1) (C := fun k j => k ≠ 1 ∧ k ≠ 2 ∧ k ≠ 3) ?_ n v h
    intro v t e k j hk
    unfold g_L_heldAfter4_19 f_L_heldAfter4_19 at e
    repeat' split at e
    all_goals (cases e <;> (try dsimp only) <;> (try rw [fr_L_heldBy4 hk]))
  unfold m_L_heldAfter4 b_L_heldAfter4_70
  dsimp only
  rw [hl]
def m_T_held (sT : St) (sL : St) (p1 : Int32) (p2 : Int32) (p3 : Int32) (p4 : Int32) : Int64 × St :=
  (if (m_L_has sL p1 p2) = 0 then ((-1), sL)
  else (if (m_T_within p3 1 99) = 0 then ((-1), sL)
  else (if (m_T_within p4 1 4) = 0 then ((-1), sL)
  else (if p4 = 1 then (if (m_L_firstOpen sL) = (-9) then ((m_L_heldAfter1 sL p1 p2 p3).1, (m_L_heldAfter1 sL p1 p2 p3).2)
  else (0, sL))
  else (if p4 = 2 then (if (m_L_firstOpen sL) = (-9) then ((m_L_heldAfter2 sL p1 p2 p3).1, (m_L_heldAfter2 sL p1 p2 p3).2)
  else (0, sL))
  else (if p4 = 3 then (if (m_L_firstOpen sL) = (-9) then ((m_L_heldAfter3 sL p1 p2 p3).1, (m_L_heldAfter3 sL p1 p2 p3).2)
  else (0, sL))
  else (if p4 = 4 then (if (m_L_firstOpen sL) = (-9) then ((m_L_heldAfter4 sL p1 p2 p3).1, (m_L_heldAfter4 sL p1 p2 p3).2)
  else (0, sL))
  else (0, sL))))))))
abbrev rm_L_heldAfter0 : Room := { frames := 0, cells := 0, slots := 0, locals := 0 }
set_option maxHeartbeats 4000000 in
set_option maxRecDepth 100000 in
theorem K_L_heldAfter0 {l : Launch} {D : va_G} {cI : ClassId} {lo : Nat} {g : Nat → Nat} (hg : wI g 12 17 lo) (sL : St) (p1 : Int32) (p2 : Int32) (p3 : Int32) (h0 : okL sL) : ROl l D cI lo yX3_heldAfter wsX3_heldAfter rm_L_heldAfter0 [.ref (g 12), .int p1, .int p2, .int p3, .int 0] (fun H => va_P D vwCl (cellL cI g sL) H) (m_L_heldAfter0 sL p1 p2 p3) := by
  refine ofW_ROl (cc := cX3_heldAfter) (maxL := 8) (by decide +kernel) rfl (Nat.le_of_ble_eq_true rfl) ?_
  intro p e s m args below meth c Q hx hb hml hown hts hE hP hret ls hl
  have hown : s.vm.findClass RX3 = some m.cls := hown
  have hPL := hP
  have hA : ∀ q : Nat, (fun _ : Nat => False) q → lo ≤ q := fun _ h => h.elim
  have hS : va_S (fun _ : Nat => False) s.heap s.heap [] := va_S.rf
  have hinL : ∀ w ∈ wsX30, w ∈ wsX3_heldAfter := fun w h => List.mem_cons_of_mem _ (List.mem_append_right _ h)
  have hl : lv_has ls 8 [(0, .ref (g 12)), (1, .int p1), (2, .int p2), (3, .int p3), (4, .int 0)] := hl
  have nh0 := okL_lin h0
  have hM : (m_L_heldAfter0 sL p1 p2 p3) = (m_L_heldAfter0 sL p1 p2 p3) := rfl
  refine lv_iload hx hb dX3_heldAfter_0 (lv_at hl 4 rfl) ?_
  refine lv_if_le (tgt := 11) hx hb dX3_heldAfter_2 (by decide) (fun _ => ?_) (fun c => absurd (by decide) c)
  refine lv_lconst (v := 1) hx hb dX3_heldAfter_11 (by decide) ?_
  have hM : (m_L_heldAfter0 sL p1 p2 p3) = (1 : Int64) := hM
  exact hret _ _ ls dX3_heldAfter_12 hM.symm
abbrev rm_L_heldBy1 : Room := { frames := 3, cells := 0, slots := 0, locals := 69 }
set_option maxHeartbeats 4000000 in
set_option maxRecDepth 100000 in
theorem K_L_heldBy1 {l : Launch} {D : va_G} {cI : ClassId} {lo : Nat} {g : Nat → Nat} (hg : wI g 12 17 lo) (sL : St) (p1 : Int32) (p2 : Int32) (p3 : Int32) (p4 : Int32) (h0 : okL sL) (h1 : 0 ≤ p1.toInt ∧ p1.toInt ≤ 8) : WRl l D cI lo yX3_heldBy wsX3_heldBy rm_L_heldBy1 [.ref (g 12), .int p1, .int p2, .int p3, .int p4, .int 1] (fun H => va_P D vwCl (cellL cI g sL) H) (m_L_heldBy1 sL p1 p2 p3 p4).1 (fun H => va_P D vwCl (cellL cI g (m_L_heldBy1 sL p1 p2 p3 p4).2) H) (wA g 12 17) := by
  refine ofW_WRl (cc := cX3_heldBy) (maxL := 13) (by decide +kernel) rfl (Nat.le_of_ble_eq_true rfl) ?_
  intro p e s m args below meth c Q hx hb hml hown hts hE hP hret ls hl
  have hown : s.vm.findClass RX3 = some m.cls := hown
  have hPL := hP
  have hA := wA.lo hg
  have hS : va_S (wA g 12 17) s.heap s.heap [] := va_S.rf
  obtain ⟨H, hH⟩ : ∃ z, z = s.heap := ⟨_, rfl⟩
  obtain ⟨locs, hlocs⟩ : ∃ z : List Loc, z = [] := ⟨_, rfl⟩
  have hPL : va_P D vwCl (cellL cI g sL) H := by rw [hH]; exact hPL
  have hS : va_S (wA g 12 17) s.heap H locs := by rw [hH, hlocs]; exact va_S.rf
  have gW : W p l e rm_L_heldBy1 s m args below meth c H locs 0 0 Q (F0 m 0 ls []) → W p l e rm_L_heldBy1 s m args below meth c s.heap [] 0 0 Q (F0 m 0 ls []) := by rw [hH, hlocs]; exact id
  refine gW ?_
  have hinL : ∀ w ∈ wsX30, w ∈ wsX3_heldBy := fun w h => List.mem_cons_of_mem _ (List.mem_append_right _ h)
  have hl : lv_has ls 13 [(0, .ref (g 12)), (1, .int p1), (2, .int p2), (3, .int p3), (4, .int p4), (5, .int 1)] := hl
  have nh0 := okL_lin h0
  have J_110 : ∀ (sL_110 : St) (x6_110 : Int32) (x7_110 : Int32) (x8_110 : Int32) (x9_110 : Int32) (x10_110 : Int32) (y0_110 : Int64) (H : Heap) (locs : List Loc) (ls : Array Slot), 0 ≤ x6_110.toInt ∧ x6_110.toInt ≤ 7 ∧ 0 ≤ x7_110.toInt ∧ x7_110.toInt ≤ 5 → va_P D vwCl (cellL cI g sL_110) H → va_S (wA g 12 17) s.heap H locs → lv_has ls 13 [(0, .ref (g 12)), (6, .int x6_110), (7, .int x7_110), (8, .int x8_110), (9, .int x9_110), (10, .int x10_110)] → (m_L_heldBy1 sL p1 p2 p3 p4) = b_L_heldBy1_110 sL_110 x6_110 x7_110 x8_110 x9_110 x10_110 y0_110 → W p l e rm_L_heldBy1 s m args below meth c H locs 0 0 Q (F0 m 110 ls [.long y0_110]) := by
    intro sL_110 x6_110 x7_110 x8_110 x9_110 x10_110 y0_110 H locs ls i110_0 hPL hS hl hM
    refine lv_lstore (lv' := [(11, .long y0_110), (0, .ref (g 12)), (6, .int x6_110), (7, .int x7_110), (8, .int x8_110), (9, .int x9_110), (10, .int x10_110)]) hx hb dX3_heldBy_110 hl (by decide) rfl (fun ls hl => ?_)
    refine lv_aload_n hx hb dX3_heldBy_112 rfl (lv_at hl 1 rfl) ?_
    refine va_get (D := D) (ci := 3) (v := .ref (g 14)) (C := RX3) (T := TX3) (N := 7) hx hb hts hinL hown hE.1 hPL 0 rfl rfl 1 (by decide) (hts (.fieldLink RX3 15 "WallStones$Wall" "standing" "[I") (List.mem_of_getElem? (i := 1) rfl)) (fun _ h9 => h9) rfl dX3_heldBy_113 ?_
    refine lv_iload hx hb dX3_heldBy_116 (lv_at hl 2 rfl) ?_
    refine lv_iload hx hb dX3_heldBy_118 (lv_at hl 4 rfl) ?_
    refine va_iast hx hb hE.1 hPL (wD_of hg (c := 12) (n := 5) (by decide) (by decide) rfl) hS 2 0 rfl rfl (vp_in_iff.mpr (by omega)) dX3_heldBy_120 (fun H locs hPn _ hS => ?_)
    have hPL : va_P D vwCl (cellL cI g (up sL_110 2 (Int32.toNatClampNeg x6_110) x8_110)) H := (congrArg (fun z => va_P D vwCl z H) setL_L2).mp hPn
    refine lv_aload_n hx hb dX3_heldBy_121 rfl (lv_at hl 1 rfl) ?_
    refine va_get (D := D) (ci := 3) (v := .ref (g 15)) (C := RX3) (T := TX3) (N := 7) hx hb hts hinL hown hE.1 hPL 0 rfl rfl 2 (by decide) (hts (.fieldLink RX3 18 "WallStones$Wall" "propped" "[I") (List.mem_of_getElem? (i := 2) rfl)) (fun _ h9 => h9) rfl dX3_heldBy_122 ?_
    refine lv_iload hx hb dX3_heldBy_125 (lv_at hl 2 rfl) ?_
    refine lv_iload hx hb dX3_heldBy_127 (lv_at hl 5 rfl) ?_
    refine va_iast hx hb hE.1 hPL (wD_of hg (c := 12) (n := 5) (by decide) (by decide) rfl) hS 3 0 rfl rfl (vp_in_iff.mpr (by omega)) dX3_heldBy_129 (fun H locs hPn _ hS => ?_)
    have hPL : va_P D vwCl (cellL cI g (up (up sL_110 2 (Int32.toNatClampNeg x6_110) x8_110) 3 (Int32.toNatClampNeg x6_110) x9_110)) H := (congrArg (fun z => va_P D vwCl z H) setL_L3).mp hPn
    refine lv_aload_n hx hb dX3_heldBy_130 rfl (lv_at hl 1 rfl) ?_
    refine va_get (D := D) (ci := 3) (v := .ref (g 13)) (C := RX3) (T := TX3) (N := 7) hx hb hts hinL hown hE.1 hPL 0 rfl rfl 0 (by decide) (hts (.fieldLink RX3 11 "WallStones$Wall" "strengths" "[I") (List.mem_of_getElem? (i := 3) rfl)) (fun _ h9 => h9) rfl dX3_heldBy_131 ?_
    refine lv_iload hx hb dX3_heldBy_134 (lv_at hl 2 rfl) ?_
    refine lv_iload hx hb dX3_heldBy_136 (lv_at hl 3 rfl) ?_
    refine runS_i (va_runS (As := [.int x6_110, .int x7_110]) (rest := [.ref (g 13)]) ⟨hx, hb, hml, hown, hts⟩ (K_L_place x6_110 x7_110) (va_cwS 2 hts gX3_heldBy_X3_place rfl rfl rfl (by decide +kernel) ⟨Nat.le_of_ble_eq_true rfl, Nat.le_of_ble_eq_true rfl⟩) (preS_of hE hA hS trivial) rfl rfl hl.1 rfl (lv_room (Nat.le_of_ble_eq_true rfl)) dX3_heldBy_138 ⟨Nat.zero_le _, Nat.zero_le _⟩) ?_
    have w1 : (m_L_place x6_110 x7_110).toInt = x6_110.toInt * 6 + x7_110.toInt := place_t (by first | omega | decide)
    refine lv_iload hx hb dX3_heldBy_141 (lv_at hl 6 rfl) ?_
    refine va_iast hx hb hE.1 hPL (wD_of hg (c := 12) (n := 5) (by decide) (by decide) rfl) hS 1 0 rfl rfl (vp_in_iff.mpr (by omega)) dX3_heldBy_143 (fun H locs hPn _ hS => ?_)
    have hPL : va_P D vwCl (cellL cI g (up (up (up sL_110 2 (Int32.toNatClampNeg x6_110) x8_110) 3 (Int32.toNatClampNeg x6_110) x9_110) 1 (Int32.toNatClampNeg (m_L_place x6_110 x7_110)) x10_110)) H := (congrArg (fun z => va_P D vwCl z H) setL_L1).mp hPn
    refine lv_lload hx hb dX3_heldBy_144 (lv_at hl 0 rfl) ?_
    have hM : (m_L_heldBy1 sL p1 p2 p3 p4) = ((y0_110, (up (up (up sL_110 2 (Int32.toNatClampNeg x6_110) x8_110) 3 (Int32.toNatClampNeg x6_110) x9_110) 1 (Int32.toNatClampNeg (m_L_place x6_110 x7_110)) x10_110)) : Int64 × St) := hM
    exact hret y0_110 H locs _ ls dX3_heldBy_146 (ret1 hM) (rP_v1 (P := fun (z0 : St) => va_P D vwCl (cellL cI g z0) H) hM hPL) hS
  have J_18 : ∀ (sL_18 : St) (x6_18 : Int32) (x7_18 : Int32) (H : Heap) (locs : List Loc) (ls : Array Slot), okL sL_18 → va_P D vwCl (cellL cI g sL_18) H → va_S (wA g 12 17) s.heap H locs → lv_has ls 13 [(0, .ref (g 12)), (2, .int p2), (3, .int p3), (4, .int p4), (5, .int 1), (6, .int x6_18), (7, .int x7_18)] → (m_L_heldBy1 sL p1 p2 p3 p4) = b_L_heldBy1_18 sL_18 p2 p3 p4 x6_18 x7_18 → W p l e rm_L_heldBy1 s m args below meth c H locs 0 0 Q (F0 m 18 ls []) := by
    intro sL_18 x6_18 x7_18 H locs ls i18_0 hPL hS hl hM
    have ni18_0 := okL_lin i18_0
    refine lv_aload_n hx hb dX3_heldBy_18 rfl (lv_at hl 0 rfl) ?_
    refine lv_iload hx hb dX3_heldBy_19 (lv_at hl 5 rfl) ?_
    refine lv_iload hx hb dX3_heldBy_21 (lv_at hl 6 rfl) ?_
    refine runS_i (va_runV (As := [.int x6_18, .int x7_18]) (rest := []) ⟨hx, hb, hml, hown, hts⟩ (K_L_stands hg sL_18 x6_18 x7_18 (by assumption)) (cwV 2 hts gX3_heldBy_X3_stands rfl rfl rfl (by decide +kernel) ⟨Nat.le_of_ble_eq_true rfl, Nat.le_of_ble_eq_true rfl⟩) (preV_of hE hA hS hPL (va_recv hE.1 hPL (ci := 3) (q0 := 0) rfl rfl)) rfl rfl hl.1 rfl (lv_room (Nat.le_of_ble_eq_true rfl)) dX3_heldBy_23 ⟨Nat.zero_le _, Nat.zero_le _⟩) ?_
    refine lv_if_ne (tgt := 42) hx hb dX3_heldBy_26 (by decide) (fun c_2 => ?_) (fun c_2 => ?_)
    · have hM := hM.trans (if_neg c_2)
      have t_2 := ne_t c_2
      rw [tl_0] at t_2
      have u_2 := stands_t c_2
      refine lv_aload_n hx hb dX3_heldBy_42 rfl (lv_at hl 0 rfl) ?_
      refine va_get (D := D) (ci := 3) (v := .ref (g 14)) (C := RX3) (T := TX3) (N := 7) hx hb hts hinL hown hE.1 hPL 0 rfl rfl 1 (by decide) (hts (.fieldLink RX3 15 "WallStones$Wall" "standing" "[I") (List.mem_of_getElem? (i := 1) rfl)) (fun _ h9 => h9) rfl dX3_heldBy_43 ?_
      refine lv_iload hx hb dX3_heldBy_46 (lv_at hl 5 rfl) ?_
      refine va_iald hx hb hE.1 hPL 2 0 rfl rfl (vp_in_iff.mpr (by omega)) dX3_heldBy_48 ?_
      refine W.eq (g2 := F0 m 49 ls [.int (sL_18 2 (Int32.toNatClampNeg x6_18))]) rfl ?_
      refine lv_istore (lv' := [(8, .int (sL_18 2 (Int32.toNatClampNeg x6_18))), (0, .ref (g 12)), (2, .int p2), (3, .int p3), (4, .int p4), (5, .int 1), (6, .int x6_18), (7, .int x7_18)]) hx hb dX3_heldBy_49 hl (by decide) rfl (fun ls hl => ?_)
      refine lv_aload_n hx hb dX3_heldBy_51 rfl (lv_at hl 1 rfl) ?_
      refine va_get (D := D) (ci := 3) (v := .ref (g 15)) (C := RX3) (T := TX3) (N := 7) hx hb hts hinL hown hE.1 hPL 0 rfl rfl 2 (by decide) (hts (.fieldLink RX3 18 "WallStones$Wall" "propped" "[I") (List.mem_of_getElem? (i := 2) rfl)) (fun _ h9 => h9) rfl dX3_heldBy_52 ?_
      refine lv_iload hx hb dX3_heldBy_55 (lv_at hl 6 rfl) ?_
      refine va_iald hx hb hE.1 hPL 3 0 rfl rfl (vp_in_iff.mpr (by omega)) dX3_heldBy_57 ?_
      refine W.eq (g2 := F0 m 58 ls [.int (sL_18 3 (Int32.toNatClampNeg x6_18))]) rfl ?_
      refine lv_istore (lv' := [(9, .int (sL_18 3 (Int32.toNatClampNeg x6_18))), (8, .int (sL_18 2 (Int32.toNatClampNeg x6_18))), (0, .ref (g 12)), (2, .int p2), (3, .int p3), (4, .int p4), (5, .int 1), (6, .int x6_18), (7, .int x7_18)]) hx hb dX3_heldBy_58 hl (by decide) rfl (fun ls hl => ?_)
      refine lv_aload_n hx hb dX3_heldBy_60 rfl (lv_at hl 2 rfl) ?_
      refine va_get (D := D) (ci := 3) (v := .ref (g 13)) (C := RX3) (T := TX3) (N := 7) hx hb hts hinL hown hE.1 hPL 0 rfl rfl 0 (by decide) (hts (.fieldLink RX3 11 "WallStones$Wall" "strengths" "[I") (List.mem_of_getElem? (i := 3) rfl)) (fun _ h9 => h9) rfl dX3_heldBy_61 ?_
      refine lv_iload hx hb dX3_heldBy_64 (lv_at hl 7 rfl) ?_
      refine lv_iload hx hb dX3_heldBy_66 (lv_at hl 8 rfl) ?_
      refine runS_i (va_runS (As := [.int x6_18, .int x7_18]) (rest := [.ref (g 13)]) ⟨hx, hb, hml, hown, hts⟩ (K_L_place x6_18 x7_18) (va_cwS 2 hts gX3_heldBy_X3_place rfl rfl rfl (by decide +kernel) ⟨Nat.le_of_ble_eq_true rfl, Nat.le_of_ble_eq_true rfl⟩) (preS_of hE hA hS trivial) rfl rfl hl.1 rfl (lv_room (Nat.le_of_ble_eq_true rfl)) dX3_heldBy_68 ⟨Nat.zero_le _, Nat.zero_le _⟩) ?_
      have w3 : (m_L_place x6_18 x7_18).toInt = x6_18.toInt * 6 + x7_18.toInt := place_t (by first | omega | decide)
      refine va_iald hx hb hE.1 hPL 1 0 rfl rfl (vp_in_iff.mpr (by omega)) dX3_heldBy_71 ?_
      refine W.eq (g2 := F0 m 72 ls [.int (sL_18 1 (Int32.toNatClampNeg (m_L_place x6_18 x7_18)))]) rfl ?_
      refine lv_istore (lv' := [(10, .int (sL_18 1 (Int32.toNatClampNeg (m_L_place x6_18 x7_18)))), (9, .int (sL_18 3 (Int32.toNatClampNeg x6_18))), (8, .int (sL_18 2 (Int32.toNatClampNeg x6_18))), (0, .ref (g 12)), (2, .int p2), (3, .int p3), (4, .int p4), (5, .int 1), (6, .int x6_18), (7, .int x7_18)]) hx hb dX3_heldBy_72 hl (by decide) rfl (fun ls hl => ?_)
      refine lv_aload_n hx hb dX3_heldBy_74 rfl (lv_at hl 3 rfl) ?_
      refine lv_iload hx hb dX3_heldBy_75 (lv_at hl 8 rfl) ?_
      refine lv_iload hx hb dX3_heldBy_77 (lv_at hl 9 rfl) ?_
      refine lv_iload hx hb dX3_heldBy_79 (lv_at hl 6 rfl) ?_
      refine runW_i (va_runV (As := [.int x6_18, .int x7_18, .int p4]) (rest := []) ⟨hx, hb, hml, hown, hts⟩ (K_L_strike hg sL_18 x6_18 x7_18 p4 (by assumption)) (cwV 3 hts gX3_heldBy_X3_strike rfl rfl rfl (by decide +kernel) ⟨Nat.le_of_ble_eq_true rfl, Nat.le_of_ble_eq_true rfl⟩) (preV_of hE hA hS hPL (va_recv hE.1 hPL (ci := 3) (q0 := 0) rfl rfl)) rfl rfl hl.1 rfl (lv_room (Nat.le_of_ble_eq_true rfl)) dX3_heldBy_81 ⟨Nat.zero_le _, Nat.zero_le _⟩) hS (fun _ h9 => h9) (fun H locs hQ hk hS => ?_)
      have hPL : va_P D vwCl (cellL cI g (m_L_strike sL_18 x6_18 x7_18 p4).2) H := hQ
      have v4 : okL (m_L_strike sL_18 x6_18 x7_18 p4).2 := okL_strike (by assumption)
      have w4_4 : ((m_L_strike sL_18 x6_18 x7_18 p4).2 0 4).toInt = (sL_18 0 4).toInt := congrArg Int32.toInt (fr_L_strike (by omega))
      have w4_5 : ((m_L_strike sL_18 x6_18 x7_18 p4).2 0 5).toInt = (sL_18 0 5).toInt := congrArg Int32.toInt (fr_L_strike (by omega))
      refine lv_pop hx hb dX3_heldBy_84 rfl ?_
      refine lv_aload_n hx hb dX3_heldBy_85 rfl (lv_at hl 3 rfl) ?_
      refine lv_iload hx hb dX3_heldBy_86 (lv_at hl 8 rfl) ?_
      refine runS_i (va_runV (As := [.int x6_18]) (rest := []) ⟨hx, hb, hml, hown, hts⟩ (K_L_isOpen hg (m_L_strike sL_18 x6_18 x7_18 p4).2 x6_18 (by omega)) (cwV 1 hts gX3_heldBy_X3_isOpen rfl rfl rfl (by decide +kernel) ⟨Nat.le_of_ble_eq_true rfl, Nat.le_of_ble_eq_true rfl⟩) (preV_of hE hA hS hPL (va_recv hE.1 hPL (ci := 3) (q0 := 0) rfl rfl)) rfl rfl hl.1 rfl (lv_room (Nat.le_of_ble_eq_true rfl)) dX3_heldBy_88 ⟨Nat.zero_le _, Nat.zero_le _⟩) ?_
      refine lv_if_eq (tgt := 98) hx hb dX3_heldBy_91 (by decide) (fun c_5 => ?_) (fun c_5 => ?_)
      · have hM := hM.trans (if_pos c_5)
        have t_5 := eq_t c_5
        rw [tl_0] at t_5
        refine lv_aload_n hx hb dX3_heldBy_98 rfl (lv_at hl 3 rfl) ?_
        refine lv_iload_n hx hb dX3_heldBy_99 rfl (lv_at hl 4 rfl) ?_
        refine lv_iload_n hx hb dX3_heldBy_100 rfl (lv_at hl 5 rfl) ?_
        refine lv_iload hx hb dX3_heldBy_101 (lv_at hl 6 rfl) ?_
        refine lv_iload hx hb dX3_heldBy_103 (lv_at hl 7 rfl) ?_
        refine lv_iconst (v := 1) hx hb dX3_heldBy_105 (by decide) ?_
        refine lv_isub hx hb dX3_heldBy_106 ?_
        refine W.eq (congrArg (fun z => F0 m 107 ls [.int z, .int p4, .int p3, .int p2, .ref (g 12)]) (show (1 : Int32) - 1 = 0 by decide +kernel)) ?_
        have z6 := tl_0
        refine runS_l (va_runS (As := [.ref (g 12), .int p2, .int p3, .int p4, .int 0]) (rest := []) ⟨hx, hb, hml, hown, hts⟩ (K_L_heldAfter0 hg (m_L_strike sL_18 x6_18 x7_18 p4).2 p2 p3 p4 (by assumption)) (va_cwS 5 hts gX3_heldBy_X3_heldAfter rfl rfl rfl (by decide +kernel) ⟨Nat.le_of_ble_eq_true rfl, Nat.le_of_ble_eq_true rfl⟩) (preS_of hE hA hS hPL) rfl rfl hl.1 rfl (lv_room (Nat.le_of_ble_eq_true rfl)) dX3_heldBy_107 ⟨Nat.zero_le _, Nat.zero_le _⟩) ?_
        exact J_110 (m_L_strike sL_18 x6_18 x7_18 p4).2 x6_18 x7_18 (sL_18 2 (Int32.toNatClampNeg x6_18)) (sL_18 3 (Int32.toNatClampNeg x6_18)) (sL_18 1 (Int32.toNatClampNeg (m_L_place x6_18 x7_18))) (m_L_heldAfter0 (m_L_strike sL_18 x6_18 x7_18 p4).2 p2 p3 p4) H locs ls (by omega) hPL hS (lv_sub hl [3, 8, 9, 2, 1, 0] rfl) hM
      · have hM := hM.trans (if_neg c_5)
        have t_5 := ne_t c_5
        rw [tl_0] at t_5
        refine lv_lconst (v := 0) hx hb dX3_heldBy_94 (by decide) ?_
        refine lv_goto (tgt := 110) hx hb dX3_heldBy_95 (by decide) ?_
        exact J_110 (m_L_strike sL_18 x6_18 x7_18 p4).2 x6_18 x7_18 (sL_18 2 (Int32.toNatClampNeg x6_18)) (sL_18 3 (Int32.toNatClampNeg x6_18)) (sL_18 1 (Int32.toNatClampNeg (m_L_place x6_18 x7_18))) 0 H locs ls (by omega) hPL hS (lv_sub hl [3, 8, 9, 2, 1, 0] rfl) hM
    · have hM := hM.trans (if_pos c_2)
      have t_2 := eq_t c_2
      rw [tl_0] at t_2
      refine lv_aload_n hx hb dX3_heldBy_29 rfl (lv_at hl 0 rfl) ?_
      refine lv_iload_n hx hb dX3_heldBy_30 rfl (lv_at hl 1 rfl) ?_
      refine lv_iload_n hx hb dX3_heldBy_31 rfl (lv_at hl 2 rfl) ?_
      refine lv_iload hx hb dX3_heldBy_32 (lv_at hl 3 rfl) ?_
      refine lv_iload hx hb dX3_heldBy_34 (lv_at hl 4 rfl) ?_
      refine lv_iconst (v := 1) hx hb dX3_heldBy_36 (by decide) ?_
      refine lv_isub hx hb dX3_heldBy_37 ?_
      refine W.eq (congrArg (fun z => F0 m 38 ls [.int z, .int p4, .int p3, .int p2, .ref (g 12)]) (show (1 : Int32) - 1 = 0 by decide +kernel)) ?_
      have z7 := tl_0
      refine runS_l (va_runS (As := [.ref (g 12), .int p2, .int p3, .int p4, .int 0]) (rest := []) ⟨hx, hb, hml, hown, hts⟩ (K_L_heldAfter0 hg sL_18 p2 p3 p4 (by assumption)) (va_cwS 5 hts gX3_heldBy_X3_heldAfter rfl rfl rfl (by decide +kernel) ⟨Nat.le_of_ble_eq_true rfl, Nat.le_of_ble_eq_true rfl⟩) (preS_of hE hA hS hPL) rfl rfl hl.1 rfl (lv_room (Nat.le_of_ble_eq_true rfl)) dX3_heldBy_38 ⟨Nat.zero_le _, Nat.zero_le _⟩) ?_
      have hM : (m_L_heldBy1 sL p1 p2 p3 p4) = (((m_L_heldAfter0 sL_18 p2 p3 p4), sL_18) : Int64 × St) := hM
      exact hret (m_L_heldAfter0 sL_18 p2 p3 p4) H locs _ ls dX3_heldBy_41 (ret1 hM) (rP_v1 (P := fun (z0 : St) => va_P D vwCl (cellL cI g z0) H) hM hPL) hS
  have hM : (m_L_heldBy1 sL p1 p2 p3 p4) = (m_L_heldBy1 sL p1 p2 p3 p4) := rfl
  refine lv_iload_n hx hb dX3_heldBy_0 rfl (lv_at hl 2 rfl) ?_
  refine lv_iload_n hx hb dX3_heldBy_1 rfl (lv_at hl 1 rfl) ?_
  refine lv_iconst (v := 3) hx hb dX3_heldBy_2 (by decide) ?_
  refine lv_irem hx hb dX3_heldBy_3 (by decide) ?_
  refine lv_iadd hx hb dX3_heldBy_4 ?_
  refine lv_iconst (v := 1) hx hb dX3_heldBy_5 (by decide) ?_
  refine lv_isub hx hb dX3_heldBy_6 ?_
  refine lv_istore (lv' := [(6, .int ((p2 + (p1 - p1 / 3 * 3)) - 1)), (0, .ref (g 12)), (1, .int p1), (2, .int p2), (3, .int p3), (4, .int p4), (5, .int 1)]) hx hb dX3_heldBy_7 hl (by decide) rfl (fun ls hl => ?_)
  refine lv_iload_n hx hb dX3_heldBy_9 rfl (lv_at hl 4 rfl) ?_
  refine lv_iload_n hx hb dX3_heldBy_10 rfl (lv_at hl 2 rfl) ?_
  refine lv_iconst (v := 3) hx hb dX3_heldBy_11 (by decide) ?_
  refine lv_idiv hx hb dX3_heldBy_12 (by decide) ?_
  refine lv_iadd hx hb dX3_heldBy_13 ?_
  refine lv_iconst (v := 1) hx hb dX3_heldBy_14 (by decide) ?_
  refine lv_isub hx hb dX3_heldBy_15 ?_
  refine lv_istore (lv' := [(7, .int ((p3 + (p1 / 3)) - 1)), (6, .int ((p2 + (p1 - p1 / 3 * 3)) - 1)), (0, .ref (g 12)), (1, .int p1), (2, .int p2), (3, .int p3), (4, .int p4), (5, .int 1)]) hx hb dX3_heldBy_16 hl (by decide) rfl (fun ls hl => ?_)
  have z8 := tl_1
  exact J_18 sL ((p2 + (p1 - p1 / 3 * 3)) - 1) ((p3 + (p1 / 3)) - 1) H locs ls (by assumption) hPL hS (lv_sub hl [2, 4, 5, 6, 7, 1, 0] rfl) hM
abbrev rm_L_heldAfter1 : Room := { frames := 4, cells := 0, slots := 0, locals := 101 }
set_option maxHeartbeats 4000000 in
set_option maxRecDepth 100000 in
theorem K_L_heldAfter1 {l : Launch} {D : va_G} {cI : ClassId} {lo : Nat} {g : Nat → Nat} (hg : wI g 12 17 lo) (sL : St) (p1 : Int32) (p2 : Int32) (p3 : Int32) (h0 : okL sL) : WRl l D cI lo yX3_heldAfter wsX3_heldAfter rm_L_heldAfter1 [.ref (g 12), .int p1, .int p2, .int p3, .int 1] (fun H => va_P D vwCl (cellL cI g sL) H) (m_L_heldAfter1 sL p1 p2 p3).1 (fun H => va_P D vwCl (cellL cI g (m_L_heldAfter1 sL p1 p2 p3).2) H) (wA g 12 17) := by
  refine ofW_WRl (cc := cX3_heldAfter) (maxL := 8) (by decide +kernel) rfl (Nat.le_of_ble_eq_true rfl) ?_
  intro p e s m args below meth c Q hx hb hml hown hts hE hP hret ls hl
  have hown : s.vm.findClass RX3 = some m.cls := hown
  have hPL := hP
  have hA := wA.lo hg
  have hS : va_S (wA g 12 17) s.heap s.heap [] := va_S.rf
  obtain ⟨H, hH⟩ : ∃ z, z = s.heap := ⟨_, rfl⟩
  obtain ⟨locs, hlocs⟩ : ∃ z : List Loc, z = [] := ⟨_, rfl⟩
  have hPL : va_P D vwCl (cellL cI g sL) H := by rw [hH]; exact hPL
  have hS : va_S (wA g 12 17) s.heap H locs := by rw [hH, hlocs]; exact va_S.rf
  have gW : W p l e rm_L_heldAfter1 s m args below meth c H locs 0 0 Q (F0 m 0 ls []) → W p l e rm_L_heldAfter1 s m args below meth c s.heap [] 0 0 Q (F0 m 0 ls []) := by rw [hH, hlocs]; exact id
  refine gW ?_
  have hinL : ∀ w ∈ wsX30, w ∈ wsX3_heldAfter := fun w h => List.mem_cons_of_mem _ (List.mem_append_right _ h)
  have hl : lv_has ls 8 [(0, .ref (g 12)), (1, .int p1), (2, .int p2), (3, .int p3), (4, .int 1)] := hl
  have nh0 := okL_lin h0
  have L_19 : ∀ (n : Nat) (sL_19 : St) (x5_19 : Int64) (x7_19 : Int32) (H : Heap) (locs : List Loc) (ls : Array Slot), 0 ≤ x7_19.toInt ∧ x7_19.toInt ≤ 9 → okL sL_19 → (9 - x7_19.toInt).toNat < n → va_P D vwCl (cellL cI g sL_19) H → va_S (wA g 12 17) s.heap H locs → lv_has ls 8 [(0, .ref (g 12)), (1, .int p1), (2, .int p2), (3, .int p3), (4, .int 1), (5, .long x5_19), (7, .int x7_19)] → (∀ (H : Heap) (locs : List Loc) (ls : Array Slot), 0 ≤ (wl (g_L_heldAfter1_19 p1 p2 p3) n (sL_19, x5_19, x7_19)).2.2.toInt ∧ (wl (g_L_heldAfter1_19 p1 p2 p3) n (sL_19, x5_19, x7_19)).2.2.toInt ≤ 9 → okL (wl (g_L_heldAfter1_19 p1 p2 p3) n (sL_19, x5_19, x7_19)).1 → va_P D vwCl (cellL cI g (wl (g_L_heldAfter1_19 p1 p2 p3) n (sL_19, x5_19, x7_19)).1) H → va_S (wA g 12 17) s.heap H locs → lv_has ls 8 [(5, .long (wl (g_L_heldAfter1_19 p1 p2 p3) n (sL_19, x5_19, x7_19)).2.1)] → W p l e rm_L_heldAfter1 s m args below meth c H locs 0 0 Q (F0 m 70 ls [])) → W p l e rm_L_heldAfter1 s m args below meth c H locs 0 0 Q (F0 m 19 ls []) := by
    intro n
    induction n with
    | zero =>
      intro sL_19 x5_19 x7_19 H locs ls i19_0 i19_1 hn19 hPL hS hl kk
      exact absurd hn19 (Nat.not_lt_zero _)
    | succ n ih =>
      intro sL_19 x5_19 x7_19 H locs ls i19_0 i19_1 hn19 hPL hS hl kk
      have ni19_1 := okL_lin i19_1
      have hM : (g_L_heldAfter1_19 p1 p2 p3) (sL_19, x5_19, x7_19) = (g_L_heldAfter1_19 p1 p2 p3) (sL_19, x5_19, x7_19) := rfl
      refine lv_iload hx hb dX3_heldAfter_19 (lv_at hl 6 rfl) ?_
      refine lv_aload_n hx hb dX3_heldAfter_21 rfl (lv_at hl 0 rfl) ?_
      refine va_get (D := D) (ci := 3) (v := .ref (g 16)) (C := RX3) (T := TX3) (N := 7) hx hb hts hinL hown hE.1 hPL 0 rfl rfl 3 (by decide) (hts (.fieldLink RX3 21 "WallStones$Wall" "weights" "[I") (List.mem_of_getElem? (i := 1) rfl)) (fun _ h9 => h9) rfl dX3_heldAfter_22 ?_
      refine va_alen hx hb hE.1 hPL 4 0 rfl rfl (v := 9) rfl dX3_heldAfter_25 ?_
      refine lv_icmp_ge (tgt := 70) hx hb dX3_heldAfter_26 (by decide) (fun c_1 => ?_) (fun c_1 => ?_)
      · have hM := hM.trans (if_pos c_1)
        have t_1 := le_t c_1
        rw [tl_9] at t_1
        rw [wl_none hM] at kk
        try dsimp only at kk
        exact kk H locs ls (by omega) (by assumption) hPL hS (lv_sub hl [5] rfl)
      · have hM := hM.trans (if_neg c_1)
        have t_1 := nle_t c_1
        rw [tl_9] at t_1
        refine lv_aload_n hx hb dX3_heldAfter_29 rfl (lv_at hl 0 rfl) ?_
        refine va_get (D := D) (ci := 3) (v := .ref (g 16)) (C := RX3) (T := TX3) (N := 7) hx hb hts hinL hown hE.1 hPL 0 rfl rfl 3 (by decide) (hts (.fieldLink RX3 21 "WallStones$Wall" "weights" "[I") (List.mem_of_getElem? (i := 1) rfl)) (fun _ h9 => h9) rfl dX3_heldAfter_30 ?_
        refine lv_iload hx hb dX3_heldAfter_33 (lv_at hl 6 rfl) ?_
        refine va_iald hx hb hE.1 hPL 4 0 rfl rfl (vp_in_iff.mpr (by omega)) dX3_heldAfter_35 ?_
        refine W.eq (g2 := F0 m 36 ls [.int (sL_19 4 (Int32.toNatClampNeg x7_19))]) rfl ?_
        refine lv_if_le (tgt := 64) hx hb dX3_heldAfter_36 (by decide) (fun c_2 => ?_) (fun c_2 => ?_)
        · have hM := hM.trans (if_pos c_2)
          have t_2 := le_t c_2
          rw [tl_0] at t_2
          refine lv_iinc (v := (x7_19 + 1)) (lv' := [(7, .int (x7_19 + 1)), (0, .ref (g 12)), (1, .int p1), (2, .int p2), (3, .int p3), (4, .int 1), (5, .long x5_19)]) hx hb dX3_heldAfter_64 hl (k := 6) rfl rfl (by decide) rfl (fun ls hl => ?_)
          refine lv_goto (tgt := 19) hx hb dX3_heldAfter_67 (by decide) ?_
          have := t_inc (x := x7_19) (by omega)
          rw [wl_some hM] at kk
          exact ih sL_19 x5_19 (x7_19 + 1) H locs ls (by omega) (by assumption) (by omega) hPL hS (lv_sub hl [1, 2, 3, 4, 5, 6, 0] rfl) kk
        · have hM := hM.trans (if_neg c_2)
          have t_2 := nle_t c_2
          rw [tl_0] at t_2
          refine lv_lload hx hb dX3_heldAfter_39 (lv_at hl 5 rfl) ?_
          refine lv_aload_n hx hb dX3_heldAfter_41 rfl (lv_at hl 0 rfl) ?_
          refine va_get (D := D) (ci := 3) (v := .ref (g 16)) (C := RX3) (T := TX3) (N := 7) hx hb hts hinL hown hE.1 hPL 0 rfl rfl 3 (by decide) (hts (.fieldLink RX3 21 "WallStones$Wall" "weights" "[I") (List.mem_of_getElem? (i := 1) rfl)) (fun _ h9 => h9) rfl dX3_heldAfter_42 ?_
          refine lv_iload hx hb dX3_heldAfter_45 (lv_at hl 6 rfl) ?_
          refine va_iald hx hb hE.1 hPL 4 0 rfl rfl (vp_in_iff.mpr (by omega)) dX3_heldAfter_47 ?_
          refine W.eq (g2 := F0 m 48 ls [.int (sL_19 4 (Int32.toNatClampNeg x7_19)), .long x5_19]) rfl ?_
          refine lv_i2l (v := (Int32.toInt64 (sL_19 4 (Int32.toNatClampNeg x7_19)))) hx hb dX3_heldAfter_48 rfl ?_
          refine lv_aload_n hx hb dX3_heldAfter_49 rfl (lv_at hl 0 rfl) ?_
          refine lv_iload hx hb dX3_heldAfter_50 (lv_at hl 6 rfl) ?_
          refine lv_iload_n hx hb dX3_heldAfter_52 rfl (lv_at hl 1 rfl) ?_
          refine lv_iload_n hx hb dX3_heldAfter_53 rfl (lv_at hl 2 rfl) ?_
          refine lv_iload_n hx hb dX3_heldAfter_54 rfl (lv_at hl 3 rfl) ?_
          refine lv_iload hx hb dX3_heldAfter_55 (lv_at hl 4 rfl) ?_
          have z3 := tl_1
          refine runW_l (va_runS (As := [.ref (g 12), .int x7_19, .int p1, .int p2, .int p3, .int 1]) (rest := [.long (Int32.toInt64 (sL_19 4 (Int32.toNatClampNeg x7_19))), .long x5_19]) ⟨hx, hb, hml, hown, hts⟩ (K_L_heldBy1 hg sL_19 x7_19 p1 p2 p3 (by assumption) (by omega)) (va_cwS 6 hts gX3_heldAfter_X3_heldBy rfl rfl rfl (by decide +kernel) ⟨Nat.le_of_ble_eq_true rfl, Nat.le_of_ble_eq_true rfl⟩) (preS_of hE hA hS hPL) rfl rfl hl.1 rfl (lv_room (Nat.le_of_ble_eq_true rfl)) dX3_heldAfter_57 ⟨Nat.zero_le _, Nat.zero_le _⟩) hS (fun _ h9 => h9) (fun H locs hQ hk hS => ?_)
          have hPL : va_P D vwCl (cellL cI g (m_L_heldBy1 sL_19 x7_19 p1 p2 p3).2) H := hQ
          have v4 : okL (m_L_heldBy1 sL_19 x7_19 p1 p2 p3).2 := okL_heldBy1 (by assumption)
          have w4_4 : ((m_L_heldBy1 sL_19 x7_19 p1 p2 p3).2 0 4).toInt = (sL_19 0 4).toInt := congrArg Int32.toInt (fr_L_heldBy1 (by omega))
          have w4_5 : ((m_L_heldBy1 sL_19 x7_19 p1 p2 p3).2 0 5).toInt = (sL_19 0 5).toInt := congrArg Int32.toInt (fr_L_heldBy1 (by omega))
          refine lv_lmul hx hb dX3_heldAfter_60 ?_
          refine lv_ladd hx hb dX3_heldAfter_61 ?_
          refine lv_lstore (lv' := [(5, .long (x5_19 + ((Int32.toInt64 (sL_19 4 (Int32.toNatClampNeg x7_19))) * (m_L_heldBy1 sL_19 x7_19 p1 p2 p3).1))), (0, .ref (g 12)), (1, .int p1), (2, .int p2), (3, .int p3), (4, .int 1), (7, .int x7_19)]) hx hb dX3_heldAfter_62 hl (by decide) rfl (fun ls hl => ?_)
          refine lv_iinc (v := (x7_19 + 1)) (lv' := [(7, .int (x7_19 + 1)), (5, .long (x5_19 + ((Int32.toInt64 (sL_19 4 (Int32.toNatClampNeg x7_19))) * (m_L_heldBy1 sL_19 x7_19 p1 p2 p3).1))), (0, .ref (g 12)), (1, .int p1), (2, .int p2), (3, .int p3), (4, .int 1)]) hx hb dX3_heldAfter_64 hl (k := 6) rfl rfl (by decide) rfl (fun ls hl => ?_)
          refine lv_goto (tgt := 19) hx hb dX3_heldAfter_67 (by decide) ?_
          have := t_inc (x := x7_19) (by omega)
          rw [wl_some hM] at kk
          exact ih (m_L_heldBy1 sL_19 x7_19 p1 p2 p3).2 (x5_19 + ((Int32.toInt64 (sL_19 4 (Int32.toNatClampNeg x7_19))) * (m_L_heldBy1 sL_19 x7_19 p1 p2 p3).1)) (x7_19 + 1) H locs ls (by omega) (by assumption) (by omega) hPL hS (lv_sub hl [2, 3, 4, 5, 6, 1, 0] rfl) kk
  have J_70 : ∀ (sL_70 : St) (x5_70 : Int64) (H : Heap) (locs : List Loc) (ls : Array Slot), va_P D vwCl (cellL cI g sL_70) H → va_S (wA g 12 17) s.heap H locs → lv_has ls 8 [(5, .long x5_70)] → (m_L_heldAfter1 sL p1 p2 p3) = b_L_heldAfter1_70 sL_70 x5_70 → W p l e rm_L_heldAfter1 s m args below meth c H locs 0 0 Q (F0 m 70 ls []) := by
    intro sL_70 x5_70 H locs ls hPL hS hl hM
    refine lv_lload hx hb dX3_heldAfter_70 (lv_at hl 0 rfl) ?_
    have hM : (m_L_heldAfter1 sL p1 p2 p3) = ((x5_70, sL_70) : Int64 × St) := hM
    exact hret x5_70 H locs _ ls dX3_heldAfter_72 (ret1 hM) (rP_v1 (P := fun (z0 : St) => va_P D vwCl (cellL cI g z0) H) hM hPL) hS
  have hM : (m_L_heldAfter1 sL p1 p2 p3) = (m_L_heldAfter1 sL p1 p2 p3) := rfl
  refine lv_iload hx hb dX3_heldAfter_0 (lv_at hl 4 rfl) ?_
  refine lv_if_le (tgt := 11) hx hb dX3_heldAfter_2 (by decide) (fun c => absurd c (by decide)) (fun _ => ?_)
  refine lv_iload hx hb dX3_heldAfter_5 (lv_at hl 4 rfl) ?_
  refine lv_iconst (v := 4) hx hb dX3_heldAfter_7 (by decide) ?_
  refine lv_icmp_le (tgt := 13) hx hb dX3_heldAfter_8 (by decide) (fun _ => ?_) (fun c => absurd (by decide) c)
  refine lv_lconst (v := 0) hx hb dX3_heldAfter_13 (by decide) ?_
  refine lv_lstore (lv' := [(5, .long 0), (0, .ref (g 12)), (1, .int p1), (2, .int p2), (3, .int p3), (4, .int 1)]) hx hb dX3_heldAfter_14 hl (by decide) rfl (fun ls hl => ?_)
  refine lv_iconst (v := 0) hx hb dX3_heldAfter_16 (by decide) ?_
  refine lv_istore (lv' := [(7, .int 0), (5, .long 0), (0, .ref (g 12)), (1, .int p1), (2, .int p2), (3, .int p3), (4, .int 1)]) hx hb dX3_heldAfter_17 hl (by decide) rfl (fun ls hl => ?_)
  have z5 := tl_0
  have z6 := tl_1
  refine L_19 10 sL 0 0 H locs ls (by omega) (by assumption) (by omega) hPL hS (lv_sub hl [2, 3, 4, 5, 6, 1, 0] rfl) (fun H locs ls k0 k1 hPL hS hl => ?_)
  have nk1 := okL_lin k1
  exact J_70 (wl (g_L_heldAfter1_19 p1 p2 p3) 10 (sL, 0, 0)).1 (wl (g_L_heldAfter1_19 p1 p2 p3) 10 (sL, 0, 0)).2.1 H locs ls hPL hS (lv_sub hl [0] rfl) hM
abbrev rm_L_heldBy2 : Room := { frames := 5, cells := 0, slots := 0, locals := 128 }
set_option maxHeartbeats 4000000 in
set_option maxRecDepth 100000 in
theorem K_L_heldBy2 {l : Launch} {D : va_G} {cI : ClassId} {lo : Nat} {g : Nat → Nat} (hg : wI g 12 17 lo) (sL : St) (p1 : Int32) (p2 : Int32) (p3 : Int32) (p4 : Int32) (h0 : okL sL) (h1 : 0 ≤ p1.toInt ∧ p1.toInt ≤ 8) : WRl l D cI lo yX3_heldBy wsX3_heldBy rm_L_heldBy2 [.ref (g 12), .int p1, .int p2, .int p3, .int p4, .int 2] (fun H => va_P D vwCl (cellL cI g sL) H) (m_L_heldBy2 sL p1 p2 p3 p4).1 (fun H => va_P D vwCl (cellL cI g (m_L_heldBy2 sL p1 p2 p3 p4).2) H) (wA g 12 17) := by
  refine ofW_WRl (cc := cX3_heldBy) (maxL := 13) (by decide +kernel) rfl (Nat.le_of_ble_eq_true rfl) ?_
  intro p e s m args below meth c Q hx hb hml hown hts hE hP hret ls hl
  have hown : s.vm.findClass RX3 = some m.cls := hown
  have hPL := hP
  have hA := wA.lo hg
  have hS : va_S (wA g 12 17) s.heap s.heap [] := va_S.rf
  obtain ⟨H, hH⟩ : ∃ z, z = s.heap := ⟨_, rfl⟩
  obtain ⟨locs, hlocs⟩ : ∃ z : List Loc, z = [] := ⟨_, rfl⟩
  have hPL : va_P D vwCl (cellL cI g sL) H := by rw [hH]; exact hPL
  have hS : va_S (wA g 12 17) s.heap H locs := by rw [hH, hlocs]; exact va_S.rf
  have gW : W p l e rm_L_heldBy2 s m args below meth c H locs 0 0 Q (F0 m 0 ls []) → W p l e rm_L_heldBy2 s m args below meth c s.heap [] 0 0 Q (F0 m 0 ls []) := by rw [hH, hlocs]; exact id
  refine gW ?_
  have hinL : ∀ w ∈ wsX30, w ∈ wsX3_heldBy := fun w h => List.mem_cons_of_mem _ (List.mem_append_right _ h)
  have hl : lv_has ls 13 [(0, .ref (g 12)), (1, .int p1), (2, .int p2), (3, .int p3), (4, .int p4), (5, .int 2)] := hl
  have nh0 := okL_lin h0
  have J_110 : ∀ (sL_110 : St) (x6_110 : Int32) (x7_110 : Int32) (x8_110 : Int32) (x9_110 : Int32) (x10_110 : Int32) (y0_110 : Int64) (H : Heap) (locs : List Loc) (ls : Array Slot), 0 ≤ x6_110.toInt ∧ x6_110.toInt ≤ 7 ∧ 0 ≤ x7_110.toInt ∧ x7_110.toInt ≤ 5 → va_P D vwCl (cellL cI g sL_110) H → va_S (wA g 12 17) s.heap H locs → lv_has ls 13 [(0, .ref (g 12)), (6, .int x6_110), (7, .int x7_110), (8, .int x8_110), (9, .int x9_110), (10, .int x10_110)] → (m_L_heldBy2 sL p1 p2 p3 p4) = b_L_heldBy2_110 sL_110 x6_110 x7_110 x8_110 x9_110 x10_110 y0_110 → W p l e rm_L_heldBy2 s m args below meth c H locs 0 0 Q (F0 m 110 ls [.long y0_110]) := by
    intro sL_110 x6_110 x7_110 x8_110 x9_110 x10_110 y0_110 H locs ls i110_0 hPL hS hl hM
    refine lv_lstore (lv' := [(11, .long y0_110), (0, .ref (g 12)), (6, .int x6_110), (7, .int x7_110), (8, .int x8_110), (9, .int x9_110), (10, .int x10_110)]) hx hb dX3_heldBy_110 hl (by decide) rfl (fun ls hl => ?_)
    refine lv_aload_n hx hb dX3_heldBy_112 rfl (lv_at hl 1 rfl) ?_
    refine va_get (D := D) (ci := 3) (v := .ref (g 14)) (C := RX3) (T := TX3) (N := 7) hx hb hts hinL hown hE.1 hPL 0 rfl rfl 1 (by decide) (hts (.fieldLink RX3 15 "WallStones$Wall" "standing" "[I") (List.mem_of_getElem? (i := 1) rfl)) (fun _ h9 => h9) rfl dX3_heldBy_113 ?_
    refine lv_iload hx hb dX3_heldBy_116 (lv_at hl 2 rfl) ?_
    refine lv_iload hx hb dX3_heldBy_118 (lv_at hl 4 rfl) ?_
    refine va_iast hx hb hE.1 hPL (wD_of hg (c := 12) (n := 5) (by decide) (by decide) rfl) hS 2 0 rfl rfl (vp_in_iff.mpr (by omega)) dX3_heldBy_120 (fun H locs hPn _ hS => ?_)
    have hPL : va_P D vwCl (cellL cI g (up sL_110 2 (Int32.toNatClampNeg x6_110) x8_110)) H := (congrArg (fun z => va_P D vwCl z H) setL_L2).mp hPn
    refine lv_aload_n hx hb dX3_heldBy_121 rfl (lv_at hl 1 rfl) ?_
    refine va_get (D := D) (ci := 3) (v := .ref (g 15)) (C := RX3) (T := TX3) (N := 7) hx hb hts hinL hown hE.1 hPL 0 rfl rfl 2 (by decide) (hts (.fieldLink RX3 18 "WallStones$Wall" "propped" "[I") (List.mem_of_getElem? (i := 2) rfl)) (fun _ h9 => h9) rfl dX3_heldBy_122 ?_
    refine lv_iload hx hb dX3_heldBy_125 (lv_at hl 2 rfl) ?_
    refine lv_iload hx hb dX3_heldBy_127 (lv_at hl 5 rfl) ?_
    refine va_iast hx hb hE.1 hPL (wD_of hg (c := 12) (n := 5) (by decide) (by decide) rfl) hS 3 0 rfl rfl (vp_in_iff.mpr (by omega)) dX3_heldBy_129 (fun H locs hPn _ hS => ?_)
    have hPL : va_P D vwCl (cellL cI g (up (up sL_110 2 (Int32.toNatClampNeg x6_110) x8_110) 3 (Int32.toNatClampNeg x6_110) x9_110)) H := (congrArg (fun z => va_P D vwCl z H) setL_L3).mp hPn
    refine lv_aload_n hx hb dX3_heldBy_130 rfl (lv_at hl 1 rfl) ?_
    refine va_get (D := D) (ci := 3) (v := .ref (g 13)) (C := RX3) (T := TX3) (N := 7) hx hb hts hinL hown hE.1 hPL 0 rfl rfl 0 (by decide) (hts (.fieldLink RX3 11 "WallStones$Wall" "strengths" "[I") (List.mem_of_getElem? (i := 3) rfl)) (fun _ h9 => h9) rfl dX3_heldBy_131 ?_
    refine lv_iload hx hb dX3_heldBy_134 (lv_at hl 2 rfl) ?_
    refine lv_iload hx hb dX3_heldBy_136 (lv_at hl 3 rfl) ?_
    refine runS_i (va_runS (As := [.int x6_110, .int x7_110]) (rest := [.ref (g 13)]) ⟨hx, hb, hml, hown, hts⟩ (K_L_place x6_110 x7_110) (va_cwS 2 hts gX3_heldBy_X3_place rfl rfl rfl (by decide +kernel) ⟨Nat.le_of_ble_eq_true rfl, Nat.le_of_ble_eq_true rfl⟩) (preS_of hE hA hS trivial) rfl rfl hl.1 rfl (lv_room (Nat.le_of_ble_eq_true rfl)) dX3_heldBy_138 ⟨Nat.zero_le _, Nat.zero_le _⟩) ?_
    have w1 : (m_L_place x6_110 x7_110).toInt = x6_110.toInt * 6 + x7_110.toInt := place_t (by first | omega | decide)
    refine lv_iload hx hb dX3_heldBy_141 (lv_at hl 6 rfl) ?_
    refine va_iast hx hb hE.1 hPL (wD_of hg (c := 12) (n := 5) (by decide) (by decide) rfl) hS 1 0 rfl rfl (vp_in_iff.mpr (by omega)) dX3_heldBy_143 (fun H locs hPn _ hS => ?_)
    have hPL : va_P D vwCl (cellL cI g (up (up (up sL_110 2 (Int32.toNatClampNeg x6_110) x8_110) 3 (Int32.toNatClampNeg x6_110) x9_110) 1 (Int32.toNatClampNeg (m_L_place x6_110 x7_110)) x10_110)) H := (congrArg (fun z => va_P D vwCl z H) setL_L1).mp hPn
    refine lv_lload hx hb dX3_heldBy_144 (lv_at hl 0 rfl) ?_
    have hM : (m_L_heldBy2 sL p1 p2 p3 p4) = ((y0_110, (up (up (up sL_110 2 (Int32.toNatClampNeg x6_110) x8_110) 3 (Int32.toNatClampNeg x6_110) x9_110) 1 (Int32.toNatClampNeg (m_L_place x6_110 x7_110)) x10_110)) : Int64 × St) := hM
    exact hret y0_110 H locs _ ls dX3_heldBy_146 (ret1 hM) (rP_v1 (P := fun (z0 : St) => va_P D vwCl (cellL cI g z0) H) hM hPL) hS
  have J_18 : ∀ (sL_18 : St) (x6_18 : Int32) (x7_18 : Int32) (H : Heap) (locs : List Loc) (ls : Array Slot), okL sL_18 → va_P D vwCl (cellL cI g sL_18) H → va_S (wA g 12 17) s.heap H locs → lv_has ls 13 [(0, .ref (g 12)), (2, .int p2), (3, .int p3), (4, .int p4), (5, .int 2), (6, .int x6_18), (7, .int x7_18)] → (m_L_heldBy2 sL p1 p2 p3 p4) = b_L_heldBy2_18 sL_18 p2 p3 p4 x6_18 x7_18 → W p l e rm_L_heldBy2 s m args below meth c H locs 0 0 Q (F0 m 18 ls []) := by
    intro sL_18 x6_18 x7_18 H locs ls i18_0 hPL hS hl hM
    have ni18_0 := okL_lin i18_0
    refine lv_aload_n hx hb dX3_heldBy_18 rfl (lv_at hl 0 rfl) ?_
    refine lv_iload hx hb dX3_heldBy_19 (lv_at hl 5 rfl) ?_
    refine lv_iload hx hb dX3_heldBy_21 (lv_at hl 6 rfl) ?_
    refine runS_i (va_runV (As := [.int x6_18, .int x7_18]) (rest := []) ⟨hx, hb, hml, hown, hts⟩ (K_L_stands hg sL_18 x6_18 x7_18 (by assumption)) (cwV 2 hts gX3_heldBy_X3_stands rfl rfl rfl (by decide +kernel) ⟨Nat.le_of_ble_eq_true rfl, Nat.le_of_ble_eq_true rfl⟩) (preV_of hE hA hS hPL (va_recv hE.1 hPL (ci := 3) (q0 := 0) rfl rfl)) rfl rfl hl.1 rfl (lv_room (Nat.le_of_ble_eq_true rfl)) dX3_heldBy_23 ⟨Nat.zero_le _, Nat.zero_le _⟩) ?_
    refine lv_if_ne (tgt := 42) hx hb dX3_heldBy_26 (by decide) (fun c_2 => ?_) (fun c_2 => ?_)
    · have hM := hM.trans (if_neg c_2)
      have t_2 := ne_t c_2
      rw [tl_0] at t_2
      have u_2 := stands_t c_2
      refine lv_aload_n hx hb dX3_heldBy_42 rfl (lv_at hl 0 rfl) ?_
      refine va_get (D := D) (ci := 3) (v := .ref (g 14)) (C := RX3) (T := TX3) (N := 7) hx hb hts hinL hown hE.1 hPL 0 rfl rfl 1 (by decide) (hts (.fieldLink RX3 15 "WallStones$Wall" "standing" "[I") (List.mem_of_getElem? (i := 1) rfl)) (fun _ h9 => h9) rfl dX3_heldBy_43 ?_
      refine lv_iload hx hb dX3_heldBy_46 (lv_at hl 5 rfl) ?_
      refine va_iald hx hb hE.1 hPL 2 0 rfl rfl (vp_in_iff.mpr (by omega)) dX3_heldBy_48 ?_
      refine W.eq (g2 := F0 m 49 ls [.int (sL_18 2 (Int32.toNatClampNeg x6_18))]) rfl ?_
      refine lv_istore (lv' := [(8, .int (sL_18 2 (Int32.toNatClampNeg x6_18))), (0, .ref (g 12)), (2, .int p2), (3, .int p3), (4, .int p4), (5, .int 2), (6, .int x6_18), (7, .int x7_18)]) hx hb dX3_heldBy_49 hl (by decide) rfl (fun ls hl => ?_)
      refine lv_aload_n hx hb dX3_heldBy_51 rfl (lv_at hl 1 rfl) ?_
      refine va_get (D := D) (ci := 3) (v := .ref (g 15)) (C := RX3) (T := TX3) (N := 7) hx hb hts hinL hown hE.1 hPL 0 rfl rfl 2 (by decide) (hts (.fieldLink RX3 18 "WallStones$Wall" "propped" "[I") (List.mem_of_getElem? (i := 2) rfl)) (fun _ h9 => h9) rfl dX3_heldBy_52 ?_
      refine lv_iload hx hb dX3_heldBy_55 (lv_at hl 6 rfl) ?_
      refine va_iald hx hb hE.1 hPL 3 0 rfl rfl (vp_in_iff.mpr (by omega)) dX3_heldBy_57 ?_
      refine W.eq (g2 := F0 m 58 ls [.int (sL_18 3 (Int32.toNatClampNeg x6_18))]) rfl ?_
      refine lv_istore (lv' := [(9, .int (sL_18 3 (Int32.toNatClampNeg x6_18))), (8, .int (sL_18 2 (Int32.toNatClampNeg x6_18))), (0, .ref (g 12)), (2, .int p2), (3, .int p3), (4, .int p4), (5, .int 2), (6, .int x6_18), (7, .int x7_18)]) hx hb dX3_heldBy_58 hl (by decide) rfl (fun ls hl => ?_)
      refine lv_aload_n hx hb dX3_heldBy_60 rfl (lv_at hl 2 rfl) ?_
      refine va_get (D := D) (ci := 3) (v := .ref (g 13)) (C := RX3) (T := TX3) (N := 7) hx hb hts hinL hown hE.1 hPL 0 rfl rfl 0 (by decide) (hts (.fieldLink RX3 11 "WallStones$Wall" "strengths" "[I") (List.mem_of_getElem? (i := 3) rfl)) (fun _ h9 => h9) rfl dX3_heldBy_61 ?_
      refine lv_iload hx hb dX3_heldBy_64 (lv_at hl 7 rfl) ?_
      refine lv_iload hx hb dX3_heldBy_66 (lv_at hl 8 rfl) ?_
      refine runS_i (va_runS (As := [.int x6_18, .int x7_18]) (rest := [.ref (g 13)]) ⟨hx, hb, hml, hown, hts⟩ (K_L_place x6_18 x7_18) (va_cwS 2 hts gX3_heldBy_X3_place rfl rfl rfl (by decide +kernel) ⟨Nat.le_of_ble_eq_true rfl, Nat.le_of_ble_eq_true rfl⟩) (preS_of hE hA hS trivial) rfl rfl hl.1 rfl (lv_room (Nat.le_of_ble_eq_true rfl)) dX3_heldBy_68 ⟨Nat.zero_le _, Nat.zero_le _⟩) ?_
      have w3 : (m_L_place x6_18 x7_18).toInt = x6_18.toInt * 6 + x7_18.toInt := place_t (by first | omega | decide)
      refine va_iald hx hb hE.1 hPL 1 0 rfl rfl (vp_in_iff.mpr (by omega)) dX3_heldBy_71 ?_
      refine W.eq (g2 := F0 m 72 ls [.int (sL_18 1 (Int32.toNatClampNeg (m_L_place x6_18 x7_18)))]) rfl ?_
      refine lv_istore (lv' := [(10, .int (sL_18 1 (Int32.toNatClampNeg (m_L_place x6_18 x7_18)))), (9, .int (sL_18 3 (Int32.toNatClampNeg x6_18))), (8, .int (sL_18 2 (Int32.toNatClampNeg x6_18))), (0, .ref (g 12)), (2, .int p2), (3, .int p3), (4, .int p4), (5, .int 2), (6, .int x6_18), (7, .int x7_18)]) hx hb dX3_heldBy_72 hl (by decide) rfl (fun ls hl => ?_)
      refine lv_aload_n hx hb dX3_heldBy_74 rfl (lv_at hl 3 rfl) ?_
      refine lv_iload hx hb dX3_heldBy_75 (lv_at hl 8 rfl) ?_
      refine lv_iload hx hb dX3_heldBy_77 (lv_at hl 9 rfl) ?_
      refine lv_iload hx hb dX3_heldBy_79 (lv_at hl 6 rfl) ?_
      refine runW_i (va_runV (As := [.int x6_18, .int x7_18, .int p4]) (rest := []) ⟨hx, hb, hml, hown, hts⟩ (K_L_strike hg sL_18 x6_18 x7_18 p4 (by assumption)) (cwV 3 hts gX3_heldBy_X3_strike rfl rfl rfl (by decide +kernel) ⟨Nat.le_of_ble_eq_true rfl, Nat.le_of_ble_eq_true rfl⟩) (preV_of hE hA hS hPL (va_recv hE.1 hPL (ci := 3) (q0 := 0) rfl rfl)) rfl rfl hl.1 rfl (lv_room (Nat.le_of_ble_eq_true rfl)) dX3_heldBy_81 ⟨Nat.zero_le _, Nat.zero_le _⟩) hS (fun _ h9 => h9) (fun H locs hQ hk hS => ?_)
      have hPL : va_P D vwCl (cellL cI g (m_L_strike sL_18 x6_18 x7_18 p4).2) H := hQ
      have v4 : okL (m_L_strike sL_18 x6_18 x7_18 p4).2 := okL_strike (by assumption)
      have w4_4 : ((m_L_strike sL_18 x6_18 x7_18 p4).2 0 4).toInt = (sL_18 0 4).toInt := congrArg Int32.toInt (fr_L_strike (by omega))
      have w4_5 : ((m_L_strike sL_18 x6_18 x7_18 p4).2 0 5).toInt = (sL_18 0 5).toInt := congrArg Int32.toInt (fr_L_strike (by omega))
      refine lv_pop hx hb dX3_heldBy_84 rfl ?_
      refine lv_aload_n hx hb dX3_heldBy_85 rfl (lv_at hl 3 rfl) ?_
      refine lv_iload hx hb dX3_heldBy_86 (lv_at hl 8 rfl) ?_
      refine runS_i (va_runV (As := [.int x6_18]) (rest := []) ⟨hx, hb, hml, hown, hts⟩ (K_L_isOpen hg (m_L_strike sL_18 x6_18 x7_18 p4).2 x6_18 (by omega)) (cwV 1 hts gX3_heldBy_X3_isOpen rfl rfl rfl (by decide +kernel) ⟨Nat.le_of_ble_eq_true rfl, Nat.le_of_ble_eq_true rfl⟩) (preV_of hE hA hS hPL (va_recv hE.1 hPL (ci := 3) (q0 := 0) rfl rfl)) rfl rfl hl.1 rfl (lv_room (Nat.le_of_ble_eq_true rfl)) dX3_heldBy_88 ⟨Nat.zero_le _, Nat.zero_le _⟩) ?_
      refine lv_if_eq (tgt := 98) hx hb dX3_heldBy_91 (by decide) (fun c_5 => ?_) (fun c_5 => ?_)
      · have hM := hM.trans (if_pos c_5)
        have t_5 := eq_t c_5
        rw [tl_0] at t_5
        refine lv_aload_n hx hb dX3_heldBy_98 rfl (lv_at hl 3 rfl) ?_
        refine lv_iload_n hx hb dX3_heldBy_99 rfl (lv_at hl 4 rfl) ?_
        refine lv_iload_n hx hb dX3_heldBy_100 rfl (lv_at hl 5 rfl) ?_
        refine lv_iload hx hb dX3_heldBy_101 (lv_at hl 6 rfl) ?_
        refine lv_iload hx hb dX3_heldBy_103 (lv_at hl 7 rfl) ?_
        refine lv_iconst (v := 1) hx hb dX3_heldBy_105 (by decide) ?_
        refine lv_isub hx hb dX3_heldBy_106 ?_
        refine W.eq (congrArg (fun z => F0 m 107 ls [.int z, .int p4, .int p3, .int p2, .ref (g 12)]) (show (2 : Int32) - 1 = 1 by decide +kernel)) ?_
        have z6 := tl_1
        refine runW_l (va_runS (As := [.ref (g 12), .int p2, .int p3, .int p4, .int 1]) (rest := []) ⟨hx, hb, hml, hown, hts⟩ (K_L_heldAfter1 hg (m_L_strike sL_18 x6_18 x7_18 p4).2 p2 p3 p4 (by assumption)) (va_cwS 5 hts gX3_heldBy_X3_heldAfter rfl rfl rfl (by decide +kernel) ⟨Nat.le_of_ble_eq_true rfl, Nat.le_of_ble_eq_true rfl⟩) (preS_of hE hA hS hPL) rfl rfl hl.1 rfl (lv_room (Nat.le_of_ble_eq_true rfl)) dX3_heldBy_107 ⟨Nat.zero_le _, Nat.zero_le _⟩) hS (fun _ h9 => h9) (fun H locs hQ hk hS => ?_)
        have hPL : va_P D vwCl (cellL cI g (m_L_heldAfter1 (m_L_strike sL_18 x6_18 x7_18 p4).2 p2 p3 p4).2) H := hQ
        exact J_110 (m_L_heldAfter1 (m_L_strike sL_18 x6_18 x7_18 p4).2 p2 p3 p4).2 x6_18 x7_18 (sL_18 2 (Int32.toNatClampNeg x6_18)) (sL_18 3 (Int32.toNatClampNeg x6_18)) (sL_18 1 (Int32.toNatClampNeg (m_L_place x6_18 x7_18))) (m_L_heldAfter1 (m_L_strike sL_18 x6_18 x7_18 p4).2 p2 p3 p4).1 H locs ls (by omega) hPL hS (lv_sub hl [3, 8, 9, 2, 1, 0] rfl) hM
      · have hM := hM.trans (if_neg c_5)
        have t_5 := ne_t c_5
        rw [tl_0] at t_5
        refine lv_lconst (v := 0) hx hb dX3_heldBy_94 (by decide) ?_
        refine lv_goto (tgt := 110) hx hb dX3_heldBy_95 (by decide) ?_
        exact J_110 (m_L_strike sL_18 x6_18 x7_18 p4).2 x6_18 x7_18 (sL_18 2 (Int32.toNatClampNeg x6_18)) (sL_18 3 (Int32.toNatClampNeg x6_18)) (sL_18 1 (Int32.toNatClampNeg (m_L_place x6_18 x7_18))) 0 H locs ls (by omega) hPL hS (lv_sub hl [3, 8, 9, 2, 1, 0] rfl) hM
    · have hM := hM.trans (if_pos c_2)
      have t_2 := eq_t c_2
      rw [tl_0] at t_2
      refine lv_aload_n hx hb dX3_heldBy_29 rfl (lv_at hl 0 rfl) ?_
      refine lv_iload_n hx hb dX3_heldBy_30 rfl (lv_at hl 1 rfl) ?_
      refine lv_iload_n hx hb dX3_heldBy_31 rfl (lv_at hl 2 rfl) ?_
      refine lv_iload hx hb dX3_heldBy_32 (lv_at hl 3 rfl) ?_
      refine lv_iload hx hb dX3_heldBy_34 (lv_at hl 4 rfl) ?_
      refine lv_iconst (v := 1) hx hb dX3_heldBy_36 (by decide) ?_
      refine lv_isub hx hb dX3_heldBy_37 ?_
      refine W.eq (congrArg (fun z => F0 m 38 ls [.int z, .int p4, .int p3, .int p2, .ref (g 12)]) (show (2 : Int32) - 1 = 1 by decide +kernel)) ?_
      have z7 := tl_1
      refine runW_l (va_runS (As := [.ref (g 12), .int p2, .int p3, .int p4, .int 1]) (rest := []) ⟨hx, hb, hml, hown, hts⟩ (K_L_heldAfter1 hg sL_18 p2 p3 p4 (by assumption)) (va_cwS 5 hts gX3_heldBy_X3_heldAfter rfl rfl rfl (by decide +kernel) ⟨Nat.le_of_ble_eq_true rfl, Nat.le_of_ble_eq_true rfl⟩) (preS_of hE hA hS hPL) rfl rfl hl.1 rfl (lv_room (Nat.le_of_ble_eq_true rfl)) dX3_heldBy_38 ⟨Nat.zero_le _, Nat.zero_le _⟩) hS (fun _ h9 => h9) (fun H locs hQ hk hS => ?_)
      have hPL : va_P D vwCl (cellL cI g (m_L_heldAfter1 sL_18 p2 p3 p4).2) H := hQ
      have hM : (m_L_heldBy2 sL p1 p2 p3 p4) = (((m_L_heldAfter1 sL_18 p2 p3 p4).1, (m_L_heldAfter1 sL_18 p2 p3 p4).2) : Int64 × St) := hM
      exact hret (m_L_heldAfter1 sL_18 p2 p3 p4).1 H locs _ ls dX3_heldBy_41 (ret1 hM) (rP_v1 (P := fun (z0 : St) => va_P D vwCl (cellL cI g z0) H) hM hPL) hS
  have hM : (m_L_heldBy2 sL p1 p2 p3 p4) = (m_L_heldBy2 sL p1 p2 p3 p4) := rfl
  refine lv_iload_n hx hb dX3_heldBy_0 rfl (lv_at hl 2 rfl) ?_
  refine lv_iload_n hx hb dX3_heldBy_1 rfl (lv_at hl 1 rfl) ?_
  refine lv_iconst (v := 3) hx hb dX3_heldBy_2 (by decide) ?_
  refine lv_irem hx hb dX3_heldBy_3 (by decide) ?_
  refine lv_iadd hx hb dX3_heldBy_4 ?_
  refine lv_iconst (v := 1) hx hb dX3_heldBy_5 (by decide) ?_
  refine lv_isub hx hb dX3_heldBy_6 ?_
  refine lv_istore (lv' := [(6, .int ((p2 + (p1 - p1 / 3 * 3)) - 1)), (0, .ref (g 12)), (1, .int p1), (2, .int p2), (3, .int p3), (4, .int p4), (5, .int 2)]) hx hb dX3_heldBy_7 hl (by decide) rfl (fun ls hl => ?_)
  refine lv_iload_n hx hb dX3_heldBy_9 rfl (lv_at hl 4 rfl) ?_
  refine lv_iload_n hx hb dX3_heldBy_10 rfl (lv_at hl 2 rfl) ?_
  refine lv_iconst (v := 3) hx hb dX3_heldBy_11 (by decide) ?_
  refine lv_idiv hx hb dX3_heldBy_12 (by decide) ?_
  refine lv_iadd hx hb dX3_heldBy_13 ?_
  refine lv_iconst (v := 1) hx hb dX3_heldBy_14 (by decide) ?_
  refine lv_isub hx hb dX3_heldBy_15 ?_
  refine lv_istore (lv' := [(7, .int ((p3 + (p1 / 3)) - 1)), (6, .int ((p2 + (p1 - p1 / 3 * 3)) - 1)), (0, .ref (g 12)), (1, .int p1), (2, .int p2), (3, .int p3), (4, .int p4), (5, .int 2)]) hx hb dX3_heldBy_16 hl (by decide) rfl (fun ls hl => ?_)
  have z8 := tl_2
  exact J_18 sL ((p2 + (p1 - p1 / 3 * 3)) - 1) ((p3 + (p1 / 3)) - 1) H locs ls (by assumption) hPL hS (lv_sub hl [2, 4, 5, 6, 7, 1, 0] rfl) hM
abbrev rm_L_heldAfter2 : Room := { frames := 6, cells := 0, slots := 0, locals := 160 }
set_option maxHeartbeats 4000000 in
set_option maxRecDepth 100000 in
theorem K_L_heldAfter2 {l : Launch} {D : va_G} {cI : ClassId} {lo : Nat} {g : Nat → Nat} (hg : wI g 12 17 lo) (sL : St) (p1 : Int32) (p2 : Int32) (p3 : Int32) (h0 : okL sL) : WRl l D cI lo yX3_heldAfter wsX3_heldAfter rm_L_heldAfter2 [.ref (g 12), .int p1, .int p2, .int p3, .int 2] (fun H => va_P D vwCl (cellL cI g sL) H) (m_L_heldAfter2 sL p1 p2 p3).1 (fun H => va_P D vwCl (cellL cI g (m_L_heldAfter2 sL p1 p2 p3).2) H) (wA g 12 17) := by
  refine ofW_WRl (cc := cX3_heldAfter) (maxL := 8) (by decide +kernel) rfl (Nat.le_of_ble_eq_true rfl) ?_
  intro p e s m args below meth c Q hx hb hml hown hts hE hP hret ls hl
  have hown : s.vm.findClass RX3 = some m.cls := hown
  have hPL := hP
  have hA := wA.lo hg
  have hS : va_S (wA g 12 17) s.heap s.heap [] := va_S.rf
  obtain ⟨H, hH⟩ : ∃ z, z = s.heap := ⟨_, rfl⟩
  obtain ⟨locs, hlocs⟩ : ∃ z : List Loc, z = [] := ⟨_, rfl⟩
  have hPL : va_P D vwCl (cellL cI g sL) H := by rw [hH]; exact hPL
  have hS : va_S (wA g 12 17) s.heap H locs := by rw [hH, hlocs]; exact va_S.rf
  have gW : W p l e rm_L_heldAfter2 s m args below meth c H locs 0 0 Q (F0 m 0 ls []) → W p l e rm_L_heldAfter2 s m args below meth c s.heap [] 0 0 Q (F0 m 0 ls []) := by rw [hH, hlocs]; exact id
  refine gW ?_
  have hinL : ∀ w ∈ wsX30, w ∈ wsX3_heldAfter := fun w h => List.mem_cons_of_mem _ (List.mem_append_right _ h)
  have hl : lv_has ls 8 [(0, .ref (g 12)), (1, .int p1), (2, .int p2), (3, .int p3), (4, .int 2)] := hl
  have nh0 := okL_lin h0
  have L_19 : ∀ (n : Nat) (sL_19 : St) (x5_19 : Int64) (x7_19 : Int32) (H : Heap) (locs : List Loc) (ls : Array Slot), 0 ≤ x7_19.toInt ∧ x7_19.toInt ≤ 9 → okL sL_19 → (9 - x7_19.toInt).toNat < n → va_P D vwCl (cellL cI g sL_19) H → va_S (wA g 12 17) s.heap H locs → lv_has ls 8 [(0, .ref (g 12)), (1, .int p1), (2, .int p2), (3, .int p3), (4, .int 2), (5, .long x5_19), (7, .int x7_19)] → (∀ (H : Heap) (locs : List Loc) (ls : Array Slot), 0 ≤ (wl (g_L_heldAfter2_19 p1 p2 p3) n (sL_19, x5_19, x7_19)).2.2.toInt ∧ (wl (g_L_heldAfter2_19 p1 p2 p3) n (sL_19, x5_19, x7_19)).2.2.toInt ≤ 9 → okL (wl (g_L_heldAfter2_19 p1 p2 p3) n (sL_19, x5_19, x7_19)).1 → va_P D vwCl (cellL cI g (wl (g_L_heldAfter2_19 p1 p2 p3) n (sL_19, x5_19, x7_19)).1) H → va_S (wA g 12 17) s.heap H locs → lv_has ls 8 [(5, .long (wl (g_L_heldAfter2_19 p1 p2 p3) n (sL_19, x5_19, x7_19)).2.1)] → W p l e rm_L_heldAfter2 s m args below meth c H locs 0 0 Q (F0 m 70 ls [])) → W p l e rm_L_heldAfter2 s m args below meth c H locs 0 0 Q (F0 m 19 ls []) := by
    intro n
    induction n with
    | zero =>
      intro sL_19 x5_19 x7_19 H locs ls i19_0 i19_1 hn19 hPL hS hl kk
      exact absurd hn19 (Nat.not_lt_zero _)
    | succ n ih =>
      intro sL_19 x5_19 x7_19 H locs ls i19_0 i19_1 hn19 hPL hS hl kk
      have ni19_1 := okL_lin i19_1
      have hM : (g_L_heldAfter2_19 p1 p2 p3) (sL_19, x5_19, x7_19) = (g_L_heldAfter2_19 p1 p2 p3) (sL_19, x5_19, x7_19) := rfl
      refine lv_iload hx hb dX3_heldAfter_19 (lv_at hl 6 rfl) ?_
      refine lv_aload_n hx hb dX3_heldAfter_21 rfl (lv_at hl 0 rfl) ?_
      refine va_get (D := D) (ci := 3) (v := .ref (g 16)) (C := RX3) (T := TX3) (N := 7) hx hb hts hinL hown hE.1 hPL 0 rfl rfl 3 (by decide) (hts (.fieldLink RX3 21 "WallStones$Wall" "weights" "[I") (List.mem_of_getElem? (i := 1) rfl)) (fun _ h9 => h9) rfl dX3_heldAfter_22 ?_
      refine va_alen hx hb hE.1 hPL 4 0 rfl rfl (v := 9) rfl dX3_heldAfter_25 ?_
      refine lv_icmp_ge (tgt := 70) hx hb dX3_heldAfter_26 (by decide) (fun c_1 => ?_) (fun c_1 => ?_)
      · have hM := hM.trans (if_pos c_1)
        have t_1 := le_t c_1
        rw [tl_9] at t_1
        rw [wl_none hM] at kk
        try dsimp only at kk
        exact kk H locs ls (by omega) (by assumption) hPL hS (lv_sub hl [5] rfl)
      · have hM := hM.trans (if_neg c_1)
        have t_1 := nle_t c_1
        rw [tl_9] at t_1
        refine lv_aload_n hx hb dX3_heldAfter_29 rfl (lv_at hl 0 rfl) ?_
        refine va_get (D := D) (ci := 3) (v := .ref (g 16)) (C := RX3) (T := TX3) (N := 7) hx hb hts hinL hown hE.1 hPL 0 rfl rfl 3 (by decide) (hts (.fieldLink RX3 21 "WallStones$Wall" "weights" "[I") (List.mem_of_getElem? (i := 1) rfl)) (fun _ h9 => h9) rfl dX3_heldAfter_30 ?_
        refine lv_iload hx hb dX3_heldAfter_33 (lv_at hl 6 rfl) ?_
        refine va_iald hx hb hE.1 hPL 4 0 rfl rfl (vp_in_iff.mpr (by omega)) dX3_heldAfter_35 ?_
        refine W.eq (g2 := F0 m 36 ls [.int (sL_19 4 (Int32.toNatClampNeg x7_19))]) rfl ?_
        refine lv_if_le (tgt := 64) hx hb dX3_heldAfter_36 (by decide) (fun c_2 => ?_) (fun c_2 => ?_)
        · have hM := hM.trans (if_pos c_2)
          have t_2 := le_t c_2
          rw [tl_0] at t_2
          refine lv_iinc (v := (x7_19 + 1)) (lv' := [(7, .int (x7_19 + 1)), (0, .ref (g 12)), (1, .int p1), (2, .int p2), (3, .int p3), (4, .int 2), (5, .long x5_19)]) hx hb dX3_heldAfter_64 hl (k := 6) rfl rfl (by decide) rfl (fun ls hl => ?_)
          refine lv_goto (tgt := 19) hx hb dX3_heldAfter_67 (by decide) ?_
          have := t_inc (x := x7_19) (by omega)
          rw [wl_some hM] at kk
          exact ih sL_19 x5_19 (x7_19 + 1) H locs ls (by omega) (by assumption) (by omega) hPL hS (lv_sub hl [1, 2, 3, 4, 5, 6, 0] rfl) kk
        · have hM := hM.trans (if_neg c_2)
          have t_2 := nle_t c_2
          rw [tl_0] at t_2
          refine lv_lload hx hb dX3_heldAfter_39 (lv_at hl 5 rfl) ?_
          refine lv_aload_n hx hb dX3_heldAfter_41 rfl (lv_at hl 0 rfl) ?_
          refine va_get (D := D) (ci := 3) (v := .ref (g 16)) (C := RX3) (T := TX3) (N := 7) hx hb hts hinL hown hE.1 hPL 0 rfl rfl 3 (by decide) (hts (.fieldLink RX3 21 "WallStones$Wall" "weights" "[I") (List.mem_of_getElem? (i := 1) rfl)) (fun _ h9 => h9) rfl dX3_heldAfter_42 ?_
          refine lv_iload hx hb dX3_heldAfter_45 (lv_at hl 6 rfl) ?_
          refine va_iald hx hb hE.1 hPL 4 0 rfl rfl (vp_in_iff.mpr (by omega)) dX3_heldAfter_47 ?_
          refine W.eq (g2 := F0 m 48 ls [.int (sL_19 4 (Int32.toNatClampNeg x7_19)), .long x5_19]) rfl ?_
          refine lv_i2l (v := (Int32.toInt64 (sL_19 4 (Int32.toNatClampNeg x7_19)))) hx hb dX3_heldAfter_48 rfl ?_
          refine lv_aload_n hx hb dX3_heldAfter_49 rfl (lv_at hl 0 rfl) ?_
          refine lv_iload hx hb dX3_heldAfter_50 (lv_at hl 6 rfl) ?_
          refine lv_iload_n hx hb dX3_heldAfter_52 rfl (lv_at hl 1 rfl) ?_
          refine lv_iload_n hx hb dX3_heldAfter_53 rfl (lv_at hl 2 rfl) ?_
          refine lv_iload_n hx hb dX3_heldAfter_54 rfl (lv_at hl 3 rfl) ?_
          refine lv_iload hx hb dX3_heldAfter_55 (lv_at hl 4 rfl) ?_
          have z3 := tl_2
          refine runW_l (va_runS (As := [.ref (g 12), .int x7_19, .int p1, .int p2, .int p3, .int 2]) (rest := [.long (Int32.toInt64 (sL_19 4 (Int32.toNatClampNeg x7_19))), .long x5_19]) ⟨hx, hb, hml, hown, hts⟩ (K_L_heldBy2 hg sL_19 x7_19 p1 p2 p3 (by assumption) (by omega)) (va_cwS 6 hts gX3_heldAfter_X3_heldBy rfl rfl rfl (by decide +kernel) ⟨Nat.le_of_ble_eq_true rfl, Nat.le_of_ble_eq_true rfl⟩) (preS_of hE hA hS hPL) rfl rfl hl.1 rfl (lv_room (Nat.le_of_ble_eq_true rfl)) dX3_heldAfter_57 ⟨Nat.zero_le _, Nat.zero_le _⟩) hS (fun _ h9 => h9) (fun H locs hQ hk hS => ?_)
          have hPL : va_P D vwCl (cellL cI g (m_L_heldBy2 sL_19 x7_19 p1 p2 p3).2) H := hQ
          have v4 : okL (m_L_heldBy2 sL_19 x7_19 p1 p2 p3).2 := okL_heldBy2 (by assumption)
          have w4_4 : ((m_L_heldBy2 sL_19 x7_19 p1 p2 p3).2 0 4).toInt = (sL_19 0 4).toInt := congrArg Int32.toInt (fr_L_heldBy2 (by omega))
          have w4_5 : ((m_L_heldBy2 sL_19 x7_19 p1 p2 p3).2 0 5).toInt = (sL_19 0 5).toInt := congrArg Int32.toInt (fr_L_heldBy2 (by omega))
          refine lv_lmul hx hb dX3_heldAfter_60 ?_
          refine lv_ladd hx hb dX3_heldAfter_61 ?_
          refine lv_lstore (lv' := [(5, .long (x5_19 + ((Int32.toInt64 (sL_19 4 (Int32.toNatClampNeg x7_19))) * (m_L_heldBy2 sL_19 x7_19 p1 p2 p3).1))), (0, .ref (g 12)), (1, .int p1), (2, .int p2), (3, .int p3), (4, .int 2), (7, .int x7_19)]) hx hb dX3_heldAfter_62 hl (by decide) rfl (fun ls hl => ?_)
          refine lv_iinc (v := (x7_19 + 1)) (lv' := [(7, .int (x7_19 + 1)), (5, .long (x5_19 + ((Int32.toInt64 (sL_19 4 (Int32.toNatClampNeg x7_19))) * (m_L_heldBy2 sL_19 x7_19 p1 p2 p3).1))), (0, .ref (g 12)), (1, .int p1), (2, .int p2), (3, .int p3), (4, .int 2)]) hx hb dX3_heldAfter_64 hl (k := 6) rfl rfl (by decide) rfl (fun ls hl => ?_)
          refine lv_goto (tgt := 19) hx hb dX3_heldAfter_67 (by decide) ?_
          have := t_inc (x := x7_19) (by omega)
          rw [wl_some hM] at kk
          exact ih (m_L_heldBy2 sL_19 x7_19 p1 p2 p3).2 (x5_19 + ((Int32.toInt64 (sL_19 4 (Int32.toNatClampNeg x7_19))) * (m_L_heldBy2 sL_19 x7_19 p1 p2 p3).1)) (x7_19 + 1) H locs ls (by omega) (by assumption) (by omega) hPL hS (lv_sub hl [2, 3, 4, 5, 6, 1, 0] rfl) kk
  have J_70 : ∀ (sL_70 : St) (x5_70 : Int64) (H : Heap) (locs : List Loc) (ls : Array Slot), va_P D vwCl (cellL cI g sL_70) H → va_S (wA g 12 17) s.heap H locs → lv_has ls 8 [(5, .long x5_70)] → (m_L_heldAfter2 sL p1 p2 p3) = b_L_heldAfter2_70 sL_70 x5_70 → W p l e rm_L_heldAfter2 s m args below meth c H locs 0 0 Q (F0 m 70 ls []) := by
    intro sL_70 x5_70 H locs ls hPL hS hl hM
    refine lv_lload hx hb dX3_heldAfter_70 (lv_at hl 0 rfl) ?_
    have hM : (m_L_heldAfter2 sL p1 p2 p3) = ((x5_70, sL_70) : Int64 × St) := hM
    exact hret x5_70 H locs _ ls dX3_heldAfter_72 (ret1 hM) (rP_v1 (P := fun (z0 : St) => va_P D vwCl (cellL cI g z0) H) hM hPL) hS
  have hM : (m_L_heldAfter2 sL p1 p2 p3) = (m_L_heldAfter2 sL p1 p2 p3) := rfl
  refine lv_iload hx hb dX3_heldAfter_0 (lv_at hl 4 rfl) ?_
  refine lv_if_le (tgt := 11) hx hb dX3_heldAfter_2 (by decide) (fun c => absurd c (by decide)) (fun _ => ?_)
  refine lv_iload hx hb dX3_heldAfter_5 (lv_at hl 4 rfl) ?_
  refine lv_iconst (v := 4) hx hb dX3_heldAfter_7 (by decide) ?_
  refine lv_icmp_le (tgt := 13) hx hb dX3_heldAfter_8 (by decide) (fun _ => ?_) (fun c => absurd (by decide) c)
  refine lv_lconst (v := 0) hx hb dX3_heldAfter_13 (by decide) ?_
  refine lv_lstore (lv' := [(5, .long 0), (0, .ref (g 12)), (1, .int p1), (2, .int p2), (3, .int p3), (4, .int 2)]) hx hb dX3_heldAfter_14 hl (by decide) rfl (fun ls hl => ?_)
  refine lv_iconst (v := 0) hx hb dX3_heldAfter_16 (by decide) ?_
  refine lv_istore (lv' := [(7, .int 0), (5, .long 0), (0, .ref (g 12)), (1, .int p1), (2, .int p2), (3, .int p3), (4, .int 2)]) hx hb dX3_heldAfter_17 hl (by decide) rfl (fun ls hl => ?_)
  have z5 := tl_0
  have z6 := tl_2
  refine L_19 10 sL 0 0 H locs ls (by omega) (by assumption) (by omega) hPL hS (lv_sub hl [2, 3, 4, 5, 6, 1, 0] rfl) (fun H locs ls k0 k1 hPL hS hl => ?_)
  have nk1 := okL_lin k1
  exact J_70 (wl (g_L_heldAfter2_19 p1 p2 p3) 10 (sL, 0, 0)).1 (wl (g_L_heldAfter2_19 p1 p2 p3) 10 (sL, 0, 0)).2.1 H locs ls hPL hS (lv_sub hl [0] rfl) hM
abbrev rm_L_heldBy3 : Room := { frames := 7, cells := 0, slots := 0, locals := 187 }
set_option maxHeartbeats 4000000 in
set_option maxRecDepth 100000 in
theorem K_L_heldBy3 {l : Launch} {D : va_G} {cI : ClassId} {lo : Nat} {g : Nat → Nat} (hg : wI g 12 17 lo) (sL : St) (p1 : Int32) (p2 : Int32) (p3 : Int32) (p4 : Int32) (h0 : okL sL) (h1 : 0 ≤ p1.toInt ∧ p1.toInt ≤ 8) : WRl l D cI lo yX3_heldBy wsX3_heldBy rm_L_heldBy3 [.ref (g 12), .int p1, .int p2, .int p3, .int p4, .int 3] (fun H => va_P D vwCl (cellL cI g sL) H) (m_L_heldBy3 sL p1 p2 p3 p4).1 (fun H => va_P D vwCl (cellL cI g (m_L_heldBy3 sL p1 p2 p3 p4).2) H) (wA g 12 17) := by
  refine ofW_WRl (cc := cX3_heldBy) (maxL := 13) (by decide +kernel) rfl (Nat.le_of_ble_eq_true rfl) ?_
  intro p e s m args below meth c Q hx hb hml hown hts hE hP hret ls hl
  have hown : s.vm.findClass RX3 = some m.cls := hown
  have hPL := hP
  have hA := wA.lo hg
  have hS : va_S (wA g 12 17) s.heap s.heap [] := va_S.rf
  obtain ⟨H, hH⟩ : ∃ z, z = s.heap := ⟨_, rfl⟩
  obtain ⟨locs, hlocs⟩ : ∃ z : List Loc, z = [] := ⟨_, rfl⟩
  have hPL : va_P D vwCl (cellL cI g sL) H := by rw [hH]; exact hPL
  have hS : va_S (wA g 12 17) s.heap H locs := by rw [hH, hlocs]; exact va_S.rf
  have gW : W p l e rm_L_heldBy3 s m args below meth c H locs 0 0 Q (F0 m 0 ls []) → W p l e rm_L_heldBy3 s m args below meth c s.heap [] 0 0 Q (F0 m 0 ls []) := by rw [hH, hlocs]; exact id
  refine gW ?_
  have hinL : ∀ w ∈ wsX30, w ∈ wsX3_heldBy := fun w h => List.mem_cons_of_mem _ (List.mem_append_right _ h)
  have hl : lv_has ls 13 [(0, .ref (g 12)), (1, .int p1), (2, .int p2), (3, .int p3), (4, .int p4), (5, .int 3)] := hl
  have nh0 := okL_lin h0
  have J_110 : ∀ (sL_110 : St) (x6_110 : Int32) (x7_110 : Int32) (x8_110 : Int32) (x9_110 : Int32) (x10_110 : Int32) (y0_110 : Int64) (H : Heap) (locs : List Loc) (ls : Array Slot), 0 ≤ x6_110.toInt ∧ x6_110.toInt ≤ 7 ∧ 0 ≤ x7_110.toInt ∧ x7_110.toInt ≤ 5 → va_P D vwCl (cellL cI g sL_110) H → va_S (wA g 12 17) s.heap H locs → lv_has ls 13 [(0, .ref (g 12)), (6, .int x6_110), (7, .int x7_110), (8, .int x8_110), (9, .int x9_110), (10, .int x10_110)] → (m_L_heldBy3 sL p1 p2 p3 p4) = b_L_heldBy3_110 sL_110 x6_110 x7_110 x8_110 x9_110 x10_110 y0_110 → W p l e rm_L_heldBy3 s m args below meth c H locs 0 0 Q (F0 m 110 ls [.long y0_110]) := by
    intro sL_110 x6_110 x7_110 x8_110 x9_110 x10_110 y0_110 H locs ls i110_0 hPL hS hl hM
    refine lv_lstore (lv' := [(11, .long y0_110), (0, .ref (g 12)), (6, .int x6_110), (7, .int x7_110), (8, .int x8_110), (9, .int x9_110), (10, .int x10_110)]) hx hb dX3_heldBy_110 hl (by decide) rfl (fun ls hl => ?_)
    refine lv_aload_n hx hb dX3_heldBy_112 rfl (lv_at hl 1 rfl) ?_
    refine va_get (D := D) (ci := 3) (v := .ref (g 14)) (C := RX3) (T := TX3) (N := 7) hx hb hts hinL hown hE.1 hPL 0 rfl rfl 1 (by decide) (hts (.fieldLink RX3 15 "WallStones$Wall" "standing" "[I") (List.mem_of_getElem? (i := 1) rfl)) (fun _ h9 => h9) rfl dX3_heldBy_113 ?_
    refine lv_iload hx hb dX3_heldBy_116 (lv_at hl 2 rfl) ?_
    refine lv_iload hx hb dX3_heldBy_118 (lv_at hl 4 rfl) ?_
    refine va_iast hx hb hE.1 hPL (wD_of hg (c := 12) (n := 5) (by decide) (by decide) rfl) hS 2 0 rfl rfl (vp_in_iff.mpr (by omega)) dX3_heldBy_120 (fun H locs hPn _ hS => ?_)
    have hPL : va_P D vwCl (cellL cI g (up sL_110 2 (Int32.toNatClampNeg x6_110) x8_110)) H := (congrArg (fun z => va_P D vwCl z H) setL_L2).mp hPn
    refine lv_aload_n hx hb dX3_heldBy_121 rfl (lv_at hl 1 rfl) ?_
    refine va_get (D := D) (ci := 3) (v := .ref (g 15)) (C := RX3) (T := TX3) (N := 7) hx hb hts hinL hown hE.1 hPL 0 rfl rfl 2 (by decide) (hts (.fieldLink RX3 18 "WallStones$Wall" "propped" "[I") (List.mem_of_getElem? (i := 2) rfl)) (fun _ h9 => h9) rfl dX3_heldBy_122 ?_
    refine lv_iload hx hb dX3_heldBy_125 (lv_at hl 2 rfl) ?_
    refine lv_iload hx hb dX3_heldBy_127 (lv_at hl 5 rfl) ?_
    refine va_iast hx hb hE.1 hPL (wD_of hg (c := 12) (n := 5) (by decide) (by decide) rfl) hS 3 0 rfl rfl (vp_in_iff.mpr (by omega)) dX3_heldBy_129 (fun H locs hPn _ hS => ?_)
    have hPL : va_P D vwCl (cellL cI g (up (up sL_110 2 (Int32.toNatClampNeg x6_110) x8_110) 3 (Int32.toNatClampNeg x6_110) x9_110)) H := (congrArg (fun z => va_P D vwCl z H) setL_L3).mp hPn
    refine lv_aload_n hx hb dX3_heldBy_130 rfl (lv_at hl 1 rfl) ?_
    refine va_get (D := D) (ci := 3) (v := .ref (g 13)) (C := RX3) (T := TX3) (N := 7) hx hb hts hinL hown hE.1 hPL 0 rfl rfl 0 (by decide) (hts (.fieldLink RX3 11 "WallStones$Wall" "strengths" "[I") (List.mem_of_getElem? (i := 3) rfl)) (fun _ h9 => h9) rfl dX3_heldBy_131 ?_
    refine lv_iload hx hb dX3_heldBy_134 (lv_at hl 2 rfl) ?_
    refine lv_iload hx hb dX3_heldBy_136 (lv_at hl 3 rfl) ?_
    refine runS_i (va_runS (As := [.int x6_110, .int x7_110]) (rest := [.ref (g 13)]) ⟨hx, hb, hml, hown, hts⟩ (K_L_place x6_110 x7_110) (va_cwS 2 hts gX3_heldBy_X3_place rfl rfl rfl (by decide +kernel) ⟨Nat.le_of_ble_eq_true rfl, Nat.le_of_ble_eq_true rfl⟩) (preS_of hE hA hS trivial) rfl rfl hl.1 rfl (lv_room (Nat.le_of_ble_eq_true rfl)) dX3_heldBy_138 ⟨Nat.zero_le _, Nat.zero_le _⟩) ?_
    have w1 : (m_L_place x6_110 x7_110).toInt = x6_110.toInt * 6 + x7_110.toInt := place_t (by first | omega | decide)
    refine lv_iload hx hb dX3_heldBy_141 (lv_at hl 6 rfl) ?_
    refine va_iast hx hb hE.1 hPL (wD_of hg (c := 12) (n := 5) (by decide) (by decide) rfl) hS 1 0 rfl rfl (vp_in_iff.mpr (by omega)) dX3_heldBy_143 (fun H locs hPn _ hS => ?_)
    have hPL : va_P D vwCl (cellL cI g (up (up (up sL_110 2 (Int32.toNatClampNeg x6_110) x8_110) 3 (Int32.toNatClampNeg x6_110) x9_110) 1 (Int32.toNatClampNeg (m_L_place x6_110 x7_110)) x10_110)) H := (congrArg (fun z => va_P D vwCl z H) setL_L1).mp hPn
    refine lv_lload hx hb dX3_heldBy_144 (lv_at hl 0 rfl) ?_
    have hM : (m_L_heldBy3 sL p1 p2 p3 p4) = ((y0_110, (up (up (up sL_110 2 (Int32.toNatClampNeg x6_110) x8_110) 3 (Int32.toNatClampNeg x6_110) x9_110) 1 (Int32.toNatClampNeg (m_L_place x6_110 x7_110)) x10_110)) : Int64 × St) := hM
    exact hret y0_110 H locs _ ls dX3_heldBy_146 (ret1 hM) (rP_v1 (P := fun (z0 : St) => va_P D vwCl (cellL cI g z0) H) hM hPL) hS
  have J_18 : ∀ (sL_18 : St) (x6_18 : Int32) (x7_18 : Int32) (H : Heap) (locs : List Loc) (ls : Array Slot), okL sL_18 → va_P D vwCl (cellL cI g sL_18) H → va_S (wA g 12 17) s.heap H locs → lv_has ls 13 [(0, .ref (g 12)), (2, .int p2), (3, .int p3), (4, .int p4), (5, .int 3), (6, .int x6_18), (7, .int x7_18)] → (m_L_heldBy3 sL p1 p2 p3 p4) = b_L_heldBy3_18 sL_18 p2 p3 p4 x6_18 x7_18 → W p l e rm_L_heldBy3 s m args below meth c H locs 0 0 Q (F0 m 18 ls []) := by
    intro sL_18 x6_18 x7_18 H locs ls i18_0 hPL hS hl hM
    have ni18_0 := okL_lin i18_0
    refine lv_aload_n hx hb dX3_heldBy_18 rfl (lv_at hl 0 rfl) ?_
    refine lv_iload hx hb dX3_heldBy_19 (lv_at hl 5 rfl) ?_
    refine lv_iload hx hb dX3_heldBy_21 (lv_at hl 6 rfl) ?_
    refine runS_i (va_runV (As := [.int x6_18, .int x7_18]) (rest := []) ⟨hx, hb, hml, hown, hts⟩ (K_L_stands hg sL_18 x6_18 x7_18 (by assumption)) (cwV 2 hts gX3_heldBy_X3_stands rfl rfl rfl (by decide +kernel) ⟨Nat.le_of_ble_eq_true rfl, Nat.le_of_ble_eq_true rfl⟩) (preV_of hE hA hS hPL (va_recv hE.1 hPL (ci := 3) (q0 := 0) rfl rfl)) rfl rfl hl.1 rfl (lv_room (Nat.le_of_ble_eq_true rfl)) dX3_heldBy_23 ⟨Nat.zero_le _, Nat.zero_le _⟩) ?_
    refine lv_if_ne (tgt := 42) hx hb dX3_heldBy_26 (by decide) (fun c_2 => ?_) (fun c_2 => ?_)
    · have hM := hM.trans (if_neg c_2)
      have t_2 := ne_t c_2
      rw [tl_0] at t_2
      have u_2 := stands_t c_2
      refine lv_aload_n hx hb dX3_heldBy_42 rfl (lv_at hl 0 rfl) ?_
      refine va_get (D := D) (ci := 3) (v := .ref (g 14)) (C := RX3) (T := TX3) (N := 7) hx hb hts hinL hown hE.1 hPL 0 rfl rfl 1 (by decide) (hts (.fieldLink RX3 15 "WallStones$Wall" "standing" "[I") (List.mem_of_getElem? (i := 1) rfl)) (fun _ h9 => h9) rfl dX3_heldBy_43 ?_
      refine lv_iload hx hb dX3_heldBy_46 (lv_at hl 5 rfl) ?_
      refine va_iald hx hb hE.1 hPL 2 0 rfl rfl (vp_in_iff.mpr (by omega)) dX3_heldBy_48 ?_
      refine W.eq (g2 := F0 m 49 ls [.int (sL_18 2 (Int32.toNatClampNeg x6_18))]) rfl ?_
      refine lv_istore (lv' := [(8, .int (sL_18 2 (Int32.toNatClampNeg x6_18))), (0, .ref (g 12)), (2, .int p2), (3, .int p3), (4, .int p4), (5, .int 3), (6, .int x6_18), (7, .int x7_18)]) hx hb dX3_heldBy_49 hl (by decide) rfl (fun ls hl => ?_)
      refine lv_aload_n hx hb dX3_heldBy_51 rfl (lv_at hl 1 rfl) ?_
      refine va_get (D := D) (ci := 3) (v := .ref (g 15)) (C := RX3) (T := TX3) (N := 7) hx hb hts hinL hown hE.1 hPL 0 rfl rfl 2 (by decide) (hts (.fieldLink RX3 18 "WallStones$Wall" "propped" "[I") (List.mem_of_getElem? (i := 2) rfl)) (fun _ h9 => h9) rfl dX3_heldBy_52 ?_
      refine lv_iload hx hb dX3_heldBy_55 (lv_at hl 6 rfl) ?_
      refine va_iald hx hb hE.1 hPL 3 0 rfl rfl (vp_in_iff.mpr (by omega)) dX3_heldBy_57 ?_
      refine W.eq (g2 := F0 m 58 ls [.int (sL_18 3 (Int32.toNatClampNeg x6_18))]) rfl ?_
      refine lv_istore (lv' := [(9, .int (sL_18 3 (Int32.toNatClampNeg x6_18))), (8, .int (sL_18 2 (Int32.toNatClampNeg x6_18))), (0, .ref (g 12)), (2, .int p2), (3, .int p3), (4, .int p4), (5, .int 3), (6, .int x6_18), (7, .int x7_18)]) hx hb dX3_heldBy_58 hl (by decide) rfl (fun ls hl => ?_)
      refine lv_aload_n hx hb dX3_heldBy_60 rfl (lv_at hl 2 rfl) ?_
      refine va_get (D := D) (ci := 3) (v := .ref (g 13)) (C := RX3) (T := TX3) (N := 7) hx hb hts hinL hown hE.1 hPL 0 rfl rfl 0 (by decide) (hts (.fieldLink RX3 11 "WallStones$Wall" "strengths" "[I") (List.mem_of_getElem? (i := 3) rfl)) (fun _ h9 => h9) rfl dX3_heldBy_61 ?_
      refine lv_iload hx hb dX3_heldBy_64 (lv_at hl 7 rfl) ?_
      refine lv_iload hx hb dX3_heldBy_66 (lv_at hl 8 rfl) ?_
      refine runS_i (va_runS (As := [.int x6_18, .int x7_18]) (rest := [.ref (g 13)]) ⟨hx, hb, hml, hown, hts⟩ (K_L_place x6_18 x7_18) (va_cwS 2 hts gX3_heldBy_X3_place rfl rfl rfl (by decide +kernel) ⟨Nat.le_of_ble_eq_true rfl, Nat.le_of_ble_eq_true rfl⟩) (preS_of hE hA hS trivial) rfl rfl hl.1 rfl (lv_room (Nat.le_of_ble_eq_true rfl)) dX3_heldBy_68 ⟨Nat.zero_le _, Nat.zero_le _⟩) ?_
      have w3 : (m_L_place x6_18 x7_18).toInt = x6_18.toInt * 6 + x7_18.toInt := place_t (by first | omega | decide)
      refine va_iald hx hb hE.1 hPL 1 0 rfl rfl (vp_in_iff.mpr (by omega)) dX3_heldBy_71 ?_
      refine W.eq (g2 := F0 m 72 ls [.int (sL_18 1 (Int32.toNatClampNeg (m_L_place x6_18 x7_18)))]) rfl ?_
      refine lv_istore (lv' := [(10, .int (sL_18 1 (Int32.toNatClampNeg (m_L_place x6_18 x7_18)))), (9, .int (sL_18 3 (Int32.toNatClampNeg x6_18))), (8, .int (sL_18 2 (Int32.toNatClampNeg x6_18))), (0, .ref (g 12)), (2, .int p2), (3, .int p3), (4, .int p4), (5, .int 3), (6, .int x6_18), (7, .int x7_18)]) hx hb dX3_heldBy_72 hl (by decide) rfl (fun ls hl => ?_)
      refine lv_aload_n hx hb dX3_heldBy_74 rfl (lv_at hl 3 rfl) ?_
      refine lv_iload hx hb dX3_heldBy_75 (lv_at hl 8 rfl) ?_
      refine lv_iload hx hb dX3_heldBy_77 (lv_at hl 9 rfl) ?_
      refine lv_iload hx hb dX3_heldBy_79 (lv_at hl 6 rfl) ?_
      refine runW_i (va_runV (As := [.int x6_18, .int x7_18, .int p4]) (rest := []) ⟨hx, hb, hml, hown, hts⟩ (K_L_strike hg sL_18 x6_18 x7_18 p4 (by assumption)) (cwV 3 hts gX3_heldBy_X3_strike rfl rfl rfl (by decide +kernel) ⟨Nat.le_of_ble_eq_true rfl, Nat.le_of_ble_eq_true rfl⟩) (preV_of hE hA hS hPL (va_recv hE.1 hPL (ci := 3) (q0 := 0) rfl rfl)) rfl rfl hl.1 rfl (lv_room (Nat.le_of_ble_eq_true rfl)) dX3_heldBy_81 ⟨Nat.zero_le _, Nat.zero_le _⟩) hS (fun _ h9 => h9) (fun H locs hQ hk hS => ?_)
      have hPL : va_P D vwCl (cellL cI g (m_L_strike sL_18 x6_18 x7_18 p4).2) H := hQ
      have v4 : okL (m_L_strike sL_18 x6_18 x7_18 p4).2 := okL_strike (by assumption)
      have w4_4 : ((m_L_strike sL_18 x6_18 x7_18 p4).2 0 4).toInt = (sL_18 0 4).toInt := congrArg Int32.toInt (fr_L_strike (by omega))
      have w4_5 : ((m_L_strike sL_18 x6_18 x7_18 p4).2 0 5).toInt = (sL_18 0 5).toInt := congrArg Int32.toInt (fr_L_strike (by omega))
      refine lv_pop hx hb dX3_heldBy_84 rfl ?_
      refine lv_aload_n hx hb dX3_heldBy_85 rfl (lv_at hl 3 rfl) ?_
      refine lv_iload hx hb dX3_heldBy_86 (lv_at hl 8 rfl) ?_
      refine runS_i (va_runV (As := [.int x6_18]) (rest := []) ⟨hx, hb, hml, hown, hts⟩ (K_L_isOpen hg (m_L_strike sL_18 x6_18 x7_18 p4).2 x6_18 (by omega)) (cwV 1 hts gX3_heldBy_X3_isOpen rfl rfl rfl (by decide +kernel) ⟨Nat.le_of_ble_eq_true rfl, Nat.le_of_ble_eq_true rfl⟩) (preV_of hE hA hS hPL (va_recv hE.1 hPL (ci := 3) (q0 := 0) rfl rfl)) rfl rfl hl.1 rfl (lv_room (Nat.le_of_ble_eq_true rfl)) dX3_heldBy_88 ⟨Nat.zero_le _, Nat.zero_le _⟩) ?_
      refine lv_if_eq (tgt := 98) hx hb dX3_heldBy_91 (by decide) (fun c_5 => ?_) (fun c_5 => ?_)
      · have hM := hM.trans (if_pos c_5)
        have t_5 := eq_t c_5
        rw [tl_0] at t_5
        refine lv_aload_n hx hb dX3_heldBy_98 rfl (lv_at hl 3 rfl) ?_
        refine lv_iload_n hx hb dX3_heldBy_99 rfl (lv_at hl 4 rfl) ?_
        refine lv_iload_n hx hb dX3_heldBy_100 rfl (lv_at hl 5 rfl) ?_
        refine lv_iload hx hb dX3_heldBy_101 (lv_at hl 6 rfl) ?_
        refine lv_iload hx hb dX3_heldBy_103 (lv_at hl 7 rfl) ?_
        refine lv_iconst (v := 1) hx hb dX3_heldBy_105 (by decide) ?_
        refine lv_isub hx hb dX3_heldBy_106 ?_
        refine W.eq (congrArg (fun z => F0 m 107 ls [.int z, .int p4, .int p3, .int p2, .ref (g 12)]) (show (3 : Int32) - 1 = 2 by decide +kernel)) ?_
        have z6 := tl_2
        refine runW_l (va_runS (As := [.ref (g 12), .int p2, .int p3, .int p4, .int 2]) (rest := []) ⟨hx, hb, hml, hown, hts⟩ (K_L_heldAfter2 hg (m_L_strike sL_18 x6_18 x7_18 p4).2 p2 p3 p4 (by assumption)) (va_cwS 5 hts gX3_heldBy_X3_heldAfter rfl rfl rfl (by decide +kernel) ⟨Nat.le_of_ble_eq_true rfl, Nat.le_of_ble_eq_true rfl⟩) (preS_of hE hA hS hPL) rfl rfl hl.1 rfl (lv_room (Nat.le_of_ble_eq_true rfl)) dX3_heldBy_107 ⟨Nat.zero_le _, Nat.zero_le _⟩) hS (fun _ h9 => h9) (fun H locs hQ hk hS => ?_)
        have hPL : va_P D vwCl (cellL cI g (m_L_heldAfter2 (m_L_strike sL_18 x6_18 x7_18 p4).2 p2 p3 p4).2) H := hQ
        exact J_110 (m_L_heldAfter2 (m_L_strike sL_18 x6_18 x7_18 p4).2 p2 p3 p4).2 x6_18 x7_18 (sL_18 2 (Int32.toNatClampNeg x6_18)) (sL_18 3 (Int32.toNatClampNeg x6_18)) (sL_18 1 (Int32.toNatClampNeg (m_L_place x6_18 x7_18))) (m_L_heldAfter2 (m_L_strike sL_18 x6_18 x7_18 p4).2 p2 p3 p4).1 H locs ls (by omega) hPL hS (lv_sub hl [3, 8, 9, 2, 1, 0] rfl) hM
      · have hM := hM.trans (if_neg c_5)
        have t_5 := ne_t c_5
        rw [tl_0] at t_5
        refine lv_lconst (v := 0) hx hb dX3_heldBy_94 (by decide) ?_
        refine lv_goto (tgt := 110) hx hb dX3_heldBy_95 (by decide) ?_
        exact J_110 (m_L_strike sL_18 x6_18 x7_18 p4).2 x6_18 x7_18 (sL_18 2 (Int32.toNatClampNeg x6_18)) (sL_18 3 (Int32.toNatClampNeg x6_18)) (sL_18 1 (Int32.toNatClampNeg (m_L_place x6_18 x7_18))) 0 H locs ls (by omega) hPL hS (lv_sub hl [3, 8, 9, 2, 1, 0] rfl) hM
    · have hM := hM.trans (if_pos c_2)
      have t_2 := eq_t c_2
      rw [tl_0] at t_2
      refine lv_aload_n hx hb dX3_heldBy_29 rfl (lv_at hl 0 rfl) ?_
      refine lv_iload_n hx hb dX3_heldBy_30 rfl (lv_at hl 1 rfl) ?_
      refine lv_iload_n hx hb dX3_heldBy_31 rfl (lv_at hl 2 rfl) ?_
      refine lv_iload hx hb dX3_heldBy_32 (lv_at hl 3 rfl) ?_
      refine lv_iload hx hb dX3_heldBy_34 (lv_at hl 4 rfl) ?_
      refine lv_iconst (v := 1) hx hb dX3_heldBy_36 (by decide) ?_
      refine lv_isub hx hb dX3_heldBy_37 ?_
      refine W.eq (congrArg (fun z => F0 m 38 ls [.int z, .int p4, .int p3, .int p2, .ref (g 12)]) (show (3 : Int32) - 1 = 2 by decide +kernel)) ?_
      have z7 := tl_2
      refine runW_l (va_runS (As := [.ref (g 12), .int p2, .int p3, .int p4, .int 2]) (rest := []) ⟨hx, hb, hml, hown, hts⟩ (K_L_heldAfter2 hg sL_18 p2 p3 p4 (by assumption)) (va_cwS 5 hts gX3_heldBy_X3_heldAfter rfl rfl rfl (by decide +kernel) ⟨Nat.le_of_ble_eq_true rfl, Nat.le_of_ble_eq_true rfl⟩) (preS_of hE hA hS hPL) rfl rfl hl.1 rfl (lv_room (Nat.le_of_ble_eq_true rfl)) dX3_heldBy_38 ⟨Nat.zero_le _, Nat.zero_le _⟩) hS (fun _ h9 => h9) (fun H locs hQ hk hS => ?_)
      have hPL : va_P D vwCl (cellL cI g (m_L_heldAfter2 sL_18 p2 p3 p4).2) H := hQ
      have hM : (m_L_heldBy3 sL p1 p2 p3 p4) = (((m_L_heldAfter2 sL_18 p2 p3 p4).1, (m_L_heldAfter2 sL_18 p2 p3 p4).2) : Int64 × St) := hM
      exact hret (m_L_heldAfter2 sL_18 p2 p3 p4).1 H locs _ ls dX3_heldBy_41 (ret1 hM) (rP_v1 (P := fun (z0 : St) => va_P D vwCl (cellL cI g z0) H) hM hPL) hS
  have hM : (m_L_heldBy3 sL p1 p2 p3 p4) = (m_L_heldBy3 sL p1 p2 p3 p4) := rfl
  refine lv_iload_n hx hb dX3_heldBy_0 rfl (lv_at hl 2 rfl) ?_
  refine lv_iload_n hx hb dX3_heldBy_1 rfl (lv_at hl 1 rfl) ?_
  refine lv_iconst (v := 3) hx hb dX3_heldBy_2 (by decide) ?_
  refine lv_irem hx hb dX3_heldBy_3 (by decide) ?_
  refine lv_iadd hx hb dX3_heldBy_4 ?_
  refine lv_iconst (v := 1) hx hb dX3_heldBy_5 (by decide) ?_
  refine lv_isub hx hb dX3_heldBy_6 ?_
  refine lv_istore (lv' := [(6, .int ((p2 + (p1 - p1 / 3 * 3)) - 1)), (0, .ref (g 12)), (1, .int p1), (2, .int p2), (3, .int p3), (4, .int p4), (5, .int 3)]) hx hb dX3_heldBy_7 hl (by decide) rfl (fun ls hl => ?_)
  refine lv_iload_n hx hb dX3_heldBy_9 rfl (lv_at hl 4 rfl) ?_
  refine lv_iload_n hx hb dX3_heldBy_10 rfl (lv_at hl 2 rfl) ?_
  refine lv_iconst (v := 3) hx hb dX3_heldBy_11 (by decide) ?_
  refine lv_idiv hx hb dX3_heldBy_12 (by decide) ?_
  refine lv_iadd hx hb dX3_heldBy_13 ?_
  refine lv_iconst (v := 1) hx hb dX3_heldBy_14 (by decide) ?_
  refine lv_isub hx hb dX3_heldBy_15 ?_
  refine lv_istore (lv' := [(7, .int ((p3 + (p1 / 3)) - 1)), (6, .int ((p2 + (p1 - p1 / 3 * 3)) - 1)), (0, .ref (g 12)), (1, .int p1), (2, .int p2), (3, .int p3), (4, .int p4), (5, .int 3)]) hx hb dX3_heldBy_16 hl (by decide) rfl (fun ls hl => ?_)
  have z8 := tl_3
  exact J_18 sL ((p2 + (p1 - p1 / 3 * 3)) - 1) ((p3 + (p1 / 3)) - 1) H locs ls (by assumption) hPL hS (lv_sub hl [2, 4, 5, 6, 7, 1, 0] rfl) hM
abbrev rm_L_heldAfter3 : Room := { frames := 8, cells := 0, slots := 0, locals := 219 }
set_option maxHeartbeats 4000000 in
set_option maxRecDepth 100000 in
theorem K_L_heldAfter3 {l : Launch} {D : va_G} {cI : ClassId} {lo : Nat} {g : Nat → Nat} (hg : wI g 12 17 lo) (sL : St) (p1 : Int32) (p2 : Int32) (p3 : Int32) (h0 : okL sL) : WRl l D cI lo yX3_heldAfter wsX3_heldAfter rm_L_heldAfter3 [.ref (g 12), .int p1, .int p2, .int p3, .int 3] (fun H => va_P D vwCl (cellL cI g sL) H) (m_L_heldAfter3 sL p1 p2 p3).1 (fun H => va_P D vwCl (cellL cI g (m_L_heldAfter3 sL p1 p2 p3).2) H) (wA g 12 17) := by
  refine ofW_WRl (cc := cX3_heldAfter) (maxL := 8) (by decide +kernel) rfl (Nat.le_of_ble_eq_true rfl) ?_
  intro p e s m args below meth c Q hx hb hml hown hts hE hP hret ls hl
  have hown : s.vm.findClass RX3 = some m.cls := hown
  have hPL := hP
  have hA := wA.lo hg
  have hS : va_S (wA g 12 17) s.heap s.heap [] := va_S.rf
  obtain ⟨H, hH⟩ : ∃ z, z = s.heap := ⟨_, rfl⟩
  obtain ⟨locs, hlocs⟩ : ∃ z : List Loc, z = [] := ⟨_, rfl⟩
  have hPL : va_P D vwCl (cellL cI g sL) H := by rw [hH]; exact hPL
  have hS : va_S (wA g 12 17) s.heap H locs := by rw [hH, hlocs]; exact va_S.rf
  have gW : W p l e rm_L_heldAfter3 s m args below meth c H locs 0 0 Q (F0 m 0 ls []) → W p l e rm_L_heldAfter3 s m args below meth c s.heap [] 0 0 Q (F0 m 0 ls []) := by rw [hH, hlocs]; exact id
  refine gW ?_
  have hinL : ∀ w ∈ wsX30, w ∈ wsX3_heldAfter := fun w h => List.mem_cons_of_mem _ (List.mem_append_right _ h)
  have hl : lv_has ls 8 [(0, .ref (g 12)), (1, .int p1), (2, .int p2), (3, .int p3), (4, .int 3)] := hl
  have nh0 := okL_lin h0
  have L_19 : ∀ (n : Nat) (sL_19 : St) (x5_19 : Int64) (x7_19 : Int32) (H : Heap) (locs : List Loc) (ls : Array Slot), 0 ≤ x7_19.toInt ∧ x7_19.toInt ≤ 9 → okL sL_19 → (9 - x7_19.toInt).toNat < n → va_P D vwCl (cellL cI g sL_19) H → va_S (wA g 12 17) s.heap H locs → lv_has ls 8 [(0, .ref (g 12)), (1, .int p1), (2, .int p2), (3, .int p3), (4, .int 3), (5, .long x5_19), (7, .int x7_19)] → (∀ (H : Heap) (locs : List Loc) (ls : Array Slot), 0 ≤ (wl (g_L_heldAfter3_19 p1 p2 p3) n (sL_19, x5_19, x7_19)).2.2.toInt ∧ (wl (g_L_heldAfter3_19 p1 p2 p3) n (sL_19, x5_19, x7_19)).2.2.toInt ≤ 9 → okL (wl (g_L_heldAfter3_19 p1 p2 p3) n (sL_19, x5_19, x7_19)).1 → va_P D vwCl (cellL cI g (wl (g_L_heldAfter3_19 p1 p2 p3) n (sL_19, x5_19, x7_19)).1) H → va_S (wA g 12 17) s.heap H locs → lv_has ls 8 [(5, .long (wl (g_L_heldAfter3_19 p1 p2 p3) n (sL_19, x5_19, x7_19)).2.1)] → W p l e rm_L_heldAfter3 s m args below meth c H locs 0 0 Q (F0 m 70 ls [])) → W p l e rm_L_heldAfter3 s m args below meth c H locs 0 0 Q (F0 m 19 ls []) := by
    intro n
    induction n with
    | zero =>
      intro sL_19 x5_19 x7_19 H locs ls i19_0 i19_1 hn19 hPL hS hl kk
      exact absurd hn19 (Nat.not_lt_zero _)
    | succ n ih =>
      intro sL_19 x5_19 x7_19 H locs ls i19_0 i19_1 hn19 hPL hS hl kk
      have ni19_1 := okL_lin i19_1
      have hM : (g_L_heldAfter3_19 p1 p2 p3) (sL_19, x5_19, x7_19) = (g_L_heldAfter3_19 p1 p2 p3) (sL_19, x5_19, x7_19) := rfl
      refine lv_iload hx hb dX3_heldAfter_19 (lv_at hl 6 rfl) ?_
      refine lv_aload_n hx hb dX3_heldAfter_21 rfl (lv_at hl 0 rfl) ?_
      refine va_get (D := D) (ci := 3) (v := .ref (g 16)) (C := RX3) (T := TX3) (N := 7) hx hb hts hinL hown hE.1 hPL 0 rfl rfl 3 (by decide) (hts (.fieldLink RX3 21 "WallStones$Wall" "weights" "[I") (List.mem_of_getElem? (i := 1) rfl)) (fun _ h9 => h9) rfl dX3_heldAfter_22 ?_
      refine va_alen hx hb hE.1 hPL 4 0 rfl rfl (v := 9) rfl dX3_heldAfter_25 ?_
      refine lv_icmp_ge (tgt := 70) hx hb dX3_heldAfter_26 (by decide) (fun c_1 => ?_) (fun c_1 => ?_)
      · have hM := hM.trans (if_pos c_1)
        have t_1 := le_t c_1
        rw [tl_9] at t_1
        rw [wl_none hM] at kk
        try dsimp only at kk
        exact kk H locs ls (by omega) (by assumption) hPL hS (lv_sub hl [5] rfl)
      · have hM := hM.trans (if_neg c_1)
        have t_1 := nle_t c_1
        rw [tl_9] at t_1
        refine lv_aload_n hx hb dX3_heldAfter_29 rfl (lv_at hl 0 rfl) ?_
        refine va_get (D := D) (ci := 3) (v := .ref (g 16)) (C := RX3) (T := TX3) (N := 7) hx hb hts hinL hown hE.1 hPL 0 rfl rfl 3 (by decide) (hts (.fieldLink RX3 21 "WallStones$Wall" "weights" "[I") (List.mem_of_getElem? (i := 1) rfl)) (fun _ h9 => h9) rfl dX3_heldAfter_30 ?_
        refine lv_iload hx hb dX3_heldAfter_33 (lv_at hl 6 rfl) ?_
        refine va_iald hx hb hE.1 hPL 4 0 rfl rfl (vp_in_iff.mpr (by omega)) dX3_heldAfter_35 ?_
        refine W.eq (g2 := F0 m 36 ls [.int (sL_19 4 (Int32.toNatClampNeg x7_19))]) rfl ?_
        refine lv_if_le (tgt := 64) hx hb dX3_heldAfter_36 (by decide) (fun c_2 => ?_) (fun c_2 => ?_)
        · have hM := hM.trans (if_pos c_2)
          have t_2 := le_t c_2
          rw [tl_0] at t_2
          refine lv_iinc (v := (x7_19 + 1)) (lv' := [(7, .int (x7_19 + 1)), (0, .ref (g 12)), (1, .int p1), (2, .int p2), (3, .int p3), (4, .int 3), (5, .long x5_19)]) hx hb dX3_heldAfter_64 hl (k := 6) rfl rfl (by decide) rfl (fun ls hl => ?_)
          refine lv_goto (tgt := 19) hx hb dX3_heldAfter_67 (by decide) ?_
          have := t_inc (x := x7_19) (by omega)
          rw [wl_some hM] at kk
          exact ih sL_19 x5_19 (x7_19 + 1) H locs ls (by omega) (by assumption) (by omega) hPL hS (lv_sub hl [1, 2, 3, 4, 5, 6, 0] rfl) kk
        · have hM := hM.trans (if_neg c_2)
          have t_2 := nle_t c_2
          rw [tl_0] at t_2
          refine lv_lload hx hb dX3_heldAfter_39 (lv_at hl 5 rfl) ?_
          refine lv_aload_n hx hb dX3_heldAfter_41 rfl (lv_at hl 0 rfl) ?_
          refine va_get (D := D) (ci := 3) (v := .ref (g 16)) (C := RX3) (T := TX3) (N := 7) hx hb hts hinL hown hE.1 hPL 0 rfl rfl 3 (by decide) (hts (.fieldLink RX3 21 "WallStones$Wall" "weights" "[I") (List.mem_of_getElem? (i := 1) rfl)) (fun _ h9 => h9) rfl dX3_heldAfter_42 ?_
          refine lv_iload hx hb dX3_heldAfter_45 (lv_at hl 6 rfl) ?_
          refine va_iald hx hb hE.1 hPL 4 0 rfl rfl (vp_in_iff.mpr (by omega)) dX3_heldAfter_47 ?_
          refine W.eq (g2 := F0 m 48 ls [.int (sL_19 4 (Int32.toNatClampNeg x7_19)), .long x5_19]) rfl ?_
          refine lv_i2l (v := (Int32.toInt64 (sL_19 4 (Int32.toNatClampNeg x7_19)))) hx hb dX3_heldAfter_48 rfl ?_
          refine lv_aload_n hx hb dX3_heldAfter_49 rfl (lv_at hl 0 rfl) ?_
          refine lv_iload hx hb dX3_heldAfter_50 (lv_at hl 6 rfl) ?_
          refine lv_iload_n hx hb dX3_heldAfter_52 rfl (lv_at hl 1 rfl) ?_
          refine lv_iload_n hx hb dX3_heldAfter_53 rfl (lv_at hl 2 rfl) ?_
          refine lv_iload_n hx hb dX3_heldAfter_54 rfl (lv_at hl 3 rfl) ?_
          refine lv_iload hx hb dX3_heldAfter_55 (lv_at hl 4 rfl) ?_
          have z3 := tl_3
          refine runW_l (va_runS (As := [.ref (g 12), .int x7_19, .int p1, .int p2, .int p3, .int 3]) (rest := [.long (Int32.toInt64 (sL_19 4 (Int32.toNatClampNeg x7_19))), .long x5_19]) ⟨hx, hb, hml, hown, hts⟩ (K_L_heldBy3 hg sL_19 x7_19 p1 p2 p3 (by assumption) (by omega)) (va_cwS 6 hts gX3_heldAfter_X3_heldBy rfl rfl rfl (by decide +kernel) ⟨Nat.le_of_ble_eq_true rfl, Nat.le_of_ble_eq_true rfl⟩) (preS_of hE hA hS hPL) rfl rfl hl.1 rfl (lv_room (Nat.le_of_ble_eq_true rfl)) dX3_heldAfter_57 ⟨Nat.zero_le _, Nat.zero_le _⟩) hS (fun _ h9 => h9) (fun H locs hQ hk hS => ?_)
          have hPL : va_P D vwCl (cellL cI g (m_L_heldBy3 sL_19 x7_19 p1 p2 p3).2) H := hQ
          have v4 : okL (m_L_heldBy3 sL_19 x7_19 p1 p2 p3).2 := okL_heldBy3 (by assumption)
          have w4_4 : ((m_L_heldBy3 sL_19 x7_19 p1 p2 p3).2 0 4).toInt = (sL_19 0 4).toInt := congrArg Int32.toInt (fr_L_heldBy3 (by omega))
          have w4_5 : ((m_L_heldBy3 sL_19 x7_19 p1 p2 p3).2 0 5).toInt = (sL_19 0 5).toInt := congrArg Int32.toInt (fr_L_heldBy3 (by omega))
          refine lv_lmul hx hb dX3_heldAfter_60 ?_
          refine lv_ladd hx hb dX3_heldAfter_61 ?_
          refine lv_lstore (lv' := [(5, .long (x5_19 + ((Int32.toInt64 (sL_19 4 (Int32.toNatClampNeg x7_19))) * (m_L_heldBy3 sL_19 x7_19 p1 p2 p3).1))), (0, .ref (g 12)), (1, .int p1), (2, .int p2), (3, .int p3), (4, .int 3), (7, .int x7_19)]) hx hb dX3_heldAfter_62 hl (by decide) rfl (fun ls hl => ?_)
          refine lv_iinc (v := (x7_19 + 1)) (lv' := [(7, .int (x7_19 + 1)), (5, .long (x5_19 + ((Int32.toInt64 (sL_19 4 (Int32.toNatClampNeg x7_19))) * (m_L_heldBy3 sL_19 x7_19 p1 p2 p3).1))), (0, .ref (g 12)), (1, .int p1), (2, .int p2), (3, .int p3), (4, .int 3)]) hx hb dX3_heldAfter_64 hl (k := 6) rfl rfl (by decide) rfl (fun ls hl => ?_)
          refine lv_goto (tgt := 19) hx hb dX3_heldAfter_67 (by decide) ?_
          have := t_inc (x := x7_19) (by omega)
          rw [wl_some hM] at kk
          exact ih (m_L_heldBy3 sL_19 x7_19 p1 p2 p3).2 (x5_19 + ((Int32.toInt64 (sL_19 4 (Int32.toNatClampNeg x7_19))) * (m_L_heldBy3 sL_19 x7_19 p1 p2 p3).1)) (x7_19 + 1) H locs ls (by omega) (by assumption) (by omega) hPL hS (lv_sub hl [2, 3, 4, 5, 6, 1, 0] rfl) kk
  have J_70 : ∀ (sL_70 : St) (x5_70 : Int64) (H : Heap) (locs : List Loc) (ls : Array Slot), va_P D vwCl (cellL cI g sL_70) H → va_S (wA g 12 17) s.heap H locs → lv_has ls 8 [(5, .long x5_70)] → (m_L_heldAfter3 sL p1 p2 p3) = b_L_heldAfter3_70 sL_70 x5_70 → W p l e rm_L_heldAfter3 s m args below meth c H locs 0 0 Q (F0 m 70 ls []) := by
    intro sL_70 x5_70 H locs ls hPL hS hl hM
    refine lv_lload hx hb dX3_heldAfter_70 (lv_at hl 0 rfl) ?_
    have hM : (m_L_heldAfter3 sL p1 p2 p3) = ((x5_70, sL_70) : Int64 × St) := hM
    exact hret x5_70 H locs _ ls dX3_heldAfter_72 (ret1 hM) (rP_v1 (P := fun (z0 : St) => va_P D vwCl (cellL cI g z0) H) hM hPL) hS
  have hM : (m_L_heldAfter3 sL p1 p2 p3) = (m_L_heldAfter3 sL p1 p2 p3) := rfl
  refine lv_iload hx hb dX3_heldAfter_0 (lv_at hl 4 rfl) ?_
  refine lv_if_le (tgt := 11) hx hb dX3_heldAfter_2 (by decide) (fun c => absurd c (by decide)) (fun _ => ?_)
  refine lv_iload hx hb dX3_heldAfter_5 (lv_at hl 4 rfl) ?_
  refine lv_iconst (v := 4) hx hb dX3_heldAfter_7 (by decide) ?_
  refine lv_icmp_le (tgt := 13) hx hb dX3_heldAfter_8 (by decide) (fun _ => ?_) (fun c => absurd (by decide) c)
  refine lv_lconst (v := 0) hx hb dX3_heldAfter_13 (by decide) ?_
  refine lv_lstore (lv' := [(5, .long 0), (0, .ref (g 12)), (1, .int p1), (2, .int p2), (3, .int p3), (4, .int 3)]) hx hb dX3_heldAfter_14 hl (by decide) rfl (fun ls hl => ?_)
  refine lv_iconst (v := 0) hx hb dX3_heldAfter_16 (by decide) ?_
  refine lv_istore (lv' := [(7, .int 0), (5, .long 0), (0, .ref (g 12)), (1, .int p1), (2, .int p2), (3, .int p3), (4, .int 3)]) hx hb dX3_heldAfter_17 hl (by decide) rfl (fun ls hl => ?_)
  have z5 := tl_0
  have z6 := tl_3
  refine L_19 10 sL 0 0 H locs ls (by omega) (by assumption) (by omega) hPL hS (lv_sub hl [2, 3, 4, 5, 6, 1, 0] rfl) (fun H locs ls k0 k1 hPL hS hl => ?_)
  have nk1 := okL_lin k1
  exact J_70 (wl (g_L_heldAfter3_19 p1 p2 p3) 10 (sL, 0, 0)).1 (wl (g_L_heldAfter3_19 p1 p2 p3) 10 (sL, 0, 0)).2.1 H locs ls hPL hS (lv_sub hl [0] rfl) hM
abbrev rm_L_heldBy4 : Room := { frames := 9, cells := 0, slots := 0, locals := 246 }
set_option maxHeartbeats 4000000 in
set_option maxRecDepth 100000 in
theorem K_L_heldBy4 {l : Launch} {D : va_G} {cI : ClassId} {lo : Nat} {g : Nat → Nat} (hg : wI g 12 17 lo) (sL : St) (p1 : Int32) (p2 : Int32) (p3 : Int32) (p4 : Int32) (h0 : okL sL) (h1 : 0 ≤ p1.toInt ∧ p1.toInt ≤ 8) : WRl l D cI lo yX3_heldBy wsX3_heldBy rm_L_heldBy4 [.ref (g 12), .int p1, .int p2, .int p3, .int p4, .int 4] (fun H => va_P D vwCl (cellL cI g sL) H) (m_L_heldBy4 sL p1 p2 p3 p4).1 (fun H => va_P D vwCl (cellL cI g (m_L_heldBy4 sL p1 p2 p3 p4).2) H) (wA g 12 17) := by
  refine ofW_WRl (cc := cX3_heldBy) (maxL := 13) (by decide +kernel) rfl (Nat.le_of_ble_eq_true rfl) ?_
  intro p e s m args below meth c Q hx hb hml hown hts hE hP hret ls hl
  have hown : s.vm.findClass RX3 = some m.cls := hown
  have hPL := hP
  have hA := wA.lo hg
  have hS : va_S (wA g 12 17) s.heap s.heap [] := va_S.rf
  obtain ⟨H, hH⟩ : ∃ z, z = s.heap := ⟨_, rfl⟩
  obtain ⟨locs, hlocs⟩ : ∃ z : List Loc, z = [] := ⟨_, rfl⟩
  have hPL : va_P D vwCl (cellL cI g sL) H := by rw [hH]; exact hPL
  have hS : va_S (wA g 12 17) s.heap H locs := by rw [hH, hlocs]; exact va_S.rf
  have gW : W p l e rm_L_heldBy4 s m args below meth c H locs 0 0 Q (F0 m 0 ls []) → W p l e rm_L_heldBy4 s m args below meth c s.heap [] 0 0 Q (F0 m 0 ls []) := by rw [hH, hlocs]; exact id
  refine gW ?_
  have hinL : ∀ w ∈ wsX30, w ∈ wsX3_heldBy := fun w h => List.mem_cons_of_mem _ (List.mem_append_right _ h)
  have hl : lv_has ls 13 [(0, .ref (g 12)), (1, .int p1), (2, .int p2), (3, .int p3), (4, .int p4), (5, .int 4)] := hl
  have nh0 := okL_lin h0
  have J_110 : ∀ (sL_110 : St) (x6_110 : Int32) (x7_110 : Int32) (x8_110 : Int32) (x9_110 : Int32) (x10_110 : Int32) (y0_110 : Int64) (H : Heap) (locs : List Loc) (ls : Array Slot), 0 ≤ x6_110.toInt ∧ x6_110.toInt ≤ 7 ∧ 0 ≤ x7_110.toInt ∧ x7_110.toInt ≤ 5 → va_P D vwCl (cellL cI g sL_110) H → va_S (wA g 12 17) s.heap H locs → lv_has ls 13 [(0, .ref (g 12)), (6, .int x6_110), (7, .int x7_110), (8, .int x8_110), (9, .int x9_110), (10, .int x10_110)] → (m_L_heldBy4 sL p1 p2 p3 p4) = b_L_heldBy4_110 sL_110 x6_110 x7_110 x8_110 x9_110 x10_110 y0_110 → W p l e rm_L_heldBy4 s m args below meth c H locs 0 0 Q (F0 m 110 ls [.long y0_110]) := by
    intro sL_110 x6_110 x7_110 x8_110 x9_110 x10_110 y0_110 H locs ls i110_0 hPL hS hl hM
    refine lv_lstore (lv' := [(11, .long y0_110), (0, .ref (g 12)), (6, .int x6_110), (7, .int x7_110), (8, .int x8_110), (9, .int x9_110), (10, .int x10_110)]) hx hb dX3_heldBy_110 hl (by decide) rfl (fun ls hl => ?_)
    refine lv_aload_n hx hb dX3_heldBy_112 rfl (lv_at hl 1 rfl) ?_
    refine va_get (D := D) (ci := 3) (v := .ref (g 14)) (C := RX3) (T := TX3) (N := 7) hx hb hts hinL hown hE.1 hPL 0 rfl rfl 1 (by decide) (hts (.fieldLink RX3 15 "WallStones$Wall" "standing" "[I") (List.mem_of_getElem? (i := 1) rfl)) (fun _ h9 => h9) rfl dX3_heldBy_113 ?_
    refine lv_iload hx hb dX3_heldBy_116 (lv_at hl 2 rfl) ?_
    refine lv_iload hx hb dX3_heldBy_118 (lv_at hl 4 rfl) ?_
    refine va_iast hx hb hE.1 hPL (wD_of hg (c := 12) (n := 5) (by decide) (by decide) rfl) hS 2 0 rfl rfl (vp_in_iff.mpr (by omega)) dX3_heldBy_120 (fun H locs hPn _ hS => ?_)
    have hPL : va_P D vwCl (cellL cI g (up sL_110 2 (Int32.toNatClampNeg x6_110) x8_110)) H := (congrArg (fun z => va_P D vwCl z H) setL_L2).mp hPn
    refine lv_aload_n hx hb dX3_heldBy_121 rfl (lv_at hl 1 rfl) ?_
    refine va_get (D := D) (ci := 3) (v := .ref (g 15)) (C := RX3) (T := TX3) (N := 7) hx hb hts hinL hown hE.1 hPL 0 rfl rfl 2 (by decide) (hts (.fieldLink RX3 18 "WallStones$Wall" "propped" "[I") (List.mem_of_getElem? (i := 2) rfl)) (fun _ h9 => h9) rfl dX3_heldBy_122 ?_
    refine lv_iload hx hb dX3_heldBy_125 (lv_at hl 2 rfl) ?_
    refine lv_iload hx hb dX3_heldBy_127 (lv_at hl 5 rfl) ?_
    refine va_iast hx hb hE.1 hPL (wD_of hg (c := 12) (n := 5) (by decide) (by decide) rfl) hS 3 0 rfl rfl (vp_in_iff.mpr (by omega)) dX3_heldBy_129 (fun H locs hPn _ hS => ?_)
    have hPL : va_P D vwCl (cellL cI g (up (up sL_110 2 (Int32.toNatClampNeg x6_110) x8_110) 3 (Int32.toNatClampNeg x6_110) x9_110)) H := (congrArg (fun z => va_P D vwCl z H) setL_L3).mp hPn
    refine lv_aload_n hx hb dX3_heldBy_130 rfl (lv_at hl 1 rfl) ?_
    refine va_get (D := D) (ci := 3) (v := .ref (g 13)) (C := RX3) (T := TX3) (N := 7) hx hb hts hinL hown hE.1 hPL 0 rfl rfl 0 (by decide) (hts (.fieldLink RX3 11 "WallStones$Wall" "strengths" "[I") (List.mem_of_getElem? (i := 3) rfl)) (fun _ h9 => h9) rfl dX3_heldBy_131 ?_
    refine lv_iload hx hb dX3_heldBy_134 (lv_at hl 2 rfl) ?_
    refine lv_iload hx hb dX3_heldBy_136 (lv_at hl 3 rfl) ?_
    refine runS_i (va_runS (As := [.int x6_110, .int x7_110]) (rest := [.ref (g 13)]) ⟨hx, hb, hml, hown, hts⟩ (K_L_place x6_110 x7_110) (va_cwS 2 hts gX3_heldBy_X3_place rfl rfl rfl (by decide +kernel) ⟨Nat.le_of_ble_eq_true rfl, Nat.le_of_ble_eq_true rfl⟩) (preS_of hE hA hS trivial) rfl rfl hl.1 rfl (lv_room (Nat.le_of_ble_eq_true rfl)) dX3_heldBy_138 ⟨Nat.zero_le _, Nat.zero_le _⟩) ?_
    have w1 : (m_L_place x6_110 x7_110).toInt = x6_110.toInt * 6 + x7_110.toInt := place_t (by first | omega | decide)
    refine lv_iload hx hb dX3_heldBy_141 (lv_at hl 6 rfl) ?_
    refine va_iast hx hb hE.1 hPL (wD_of hg (c := 12) (n := 5) (by decide) (by decide) rfl) hS 1 0 rfl rfl (vp_in_iff.mpr (by omega)) dX3_heldBy_143 (fun H locs hPn _ hS => ?_)
    have hPL : va_P D vwCl (cellL cI g (up (up (up sL_110 2 (Int32.toNatClampNeg x6_110) x8_110) 3 (Int32.toNatClampNeg x6_110) x9_110) 1 (Int32.toNatClampNeg (m_L_place x6_110 x7_110)) x10_110)) H := (congrArg (fun z => va_P D vwCl z H) setL_L1).mp hPn
    refine lv_lload hx hb dX3_heldBy_144 (lv_at hl 0 rfl) ?_
    have hM : (m_L_heldBy4 sL p1 p2 p3 p4) = ((y0_110, (up (up (up sL_110 2 (Int32.toNatClampNeg x6_110) x8_110) 3 (Int32.toNatClampNeg x6_110) x9_110) 1 (Int32.toNatClampNeg (m_L_place x6_110 x7_110)) x10_110)) : Int64 × St) := hM
    exact hret y0_110 H locs _ ls dX3_heldBy_146 (ret1 hM) (rP_v1 (P := fun (z0 : St) => va_P D vwCl (cellL cI g z0) H) hM hPL) hS
  have J_18 : ∀ (sL_18 : St) (x6_18 : Int32) (x7_18 : Int32) (H : Heap) (locs : List Loc) (ls : Array Slot), okL sL_18 → va_P D vwCl (cellL cI g sL_18) H → va_S (wA g 12 17) s.heap H locs → lv_has ls 13 [(0, .ref (g 12)), (2, .int p2), (3, .int p3), (4, .int p4), (5, .int 4), (6, .int x6_18), (7, .int x7_18)] → (m_L_heldBy4 sL p1 p2 p3 p4) = b_L_heldBy4_18 sL_18 p2 p3 p4 x6_18 x7_18 → W p l e rm_L_heldBy4 s m args below meth c H locs 0 0 Q (F0 m 18 ls []) := by
    intro sL_18 x6_18 x7_18 H locs ls i18_0 hPL hS hl hM
    have ni18_0 := okL_lin i18_0
    refine lv_aload_n hx hb dX3_heldBy_18 rfl (lv_at hl 0 rfl) ?_
    refine lv_iload hx hb dX3_heldBy_19 (lv_at hl 5 rfl) ?_
    refine lv_iload hx hb dX3_heldBy_21 (lv_at hl 6 rfl) ?_
    refine runS_i (va_runV (As := [.int x6_18, .int x7_18]) (rest := []) ⟨hx, hb, hml, hown, hts⟩ (K_L_stands hg sL_18 x6_18 x7_18 (by assumption)) (cwV 2 hts gX3_heldBy_X3_stands rfl rfl rfl (by decide +kernel) ⟨Nat.le_of_ble_eq_true rfl, Nat.le_of_ble_eq_true rfl⟩) (preV_of hE hA hS hPL (va_recv hE.1 hPL (ci := 3) (q0 := 0) rfl rfl)) rfl rfl hl.1 rfl (lv_room (Nat.le_of_ble_eq_true rfl)) dX3_heldBy_23 ⟨Nat.zero_le _, Nat.zero_le _⟩) ?_
    refine lv_if_ne (tgt := 42) hx hb dX3_heldBy_26 (by decide) (fun c_2 => ?_) (fun c_2 => ?_)
    · have hM := hM.trans (if_neg c_2)
      have t_2 := ne_t c_2
      rw [tl_0] at t_2
      have u_2 := stands_t c_2
      refine lv_aload_n hx hb dX3_heldBy_42 rfl (lv_at hl 0 rfl) ?_
      refine va_get (D := D) (ci := 3) (v := .ref (g 14)) (C := RX3) (T := TX3) (N := 7) hx hb hts hinL hown hE.1 hPL 0 rfl rfl 1 (by decide) (hts (.fieldLink RX3 15 "WallStones$Wall" "standing" "[I") (List.mem_of_getElem? (i := 1) rfl)) (fun _ h9 => h9) rfl dX3_heldBy_43 ?_
      refine lv_iload hx hb dX3_heldBy_46 (lv_at hl 5 rfl) ?_
      refine va_iald hx hb hE.1 hPL 2 0 rfl rfl (vp_in_iff.mpr (by omega)) dX3_heldBy_48 ?_
      refine W.eq (g2 := F0 m 49 ls [.int (sL_18 2 (Int32.toNatClampNeg x6_18))]) rfl ?_
      refine lv_istore (lv' := [(8, .int (sL_18 2 (Int32.toNatClampNeg x6_18))), (0, .ref (g 12)), (2, .int p2), (3, .int p3), (4, .int p4), (5, .int 4), (6, .int x6_18), (7, .int x7_18)]) hx hb dX3_heldBy_49 hl (by decide) rfl (fun ls hl => ?_)
      refine lv_aload_n hx hb dX3_heldBy_51 rfl (lv_at hl 1 rfl) ?_
      refine va_get (D := D) (ci := 3) (v := .ref (g 15)) (C := RX3) (T := TX3) (N := 7) hx hb hts hinL hown hE.1 hPL 0 rfl rfl 2 (by decide) (hts (.fieldLink RX3 18 "WallStones$Wall" "propped" "[I") (List.mem_of_getElem? (i := 2) rfl)) (fun _ h9 => h9) rfl dX3_heldBy_52 ?_
      refine lv_iload hx hb dX3_heldBy_55 (lv_at hl 6 rfl) ?_
      refine va_iald hx hb hE.1 hPL 3 0 rfl rfl (vp_in_iff.mpr (by omega)) dX3_heldBy_57 ?_
      refine W.eq (g2 := F0 m 58 ls [.int (sL_18 3 (Int32.toNatClampNeg x6_18))]) rfl ?_
      refine lv_istore (lv' := [(9, .int (sL_18 3 (Int32.toNatClampNeg x6_18))), (8, .int (sL_18 2 (Int32.toNatClampNeg x6_18))), (0, .ref (g 12)), (2, .int p2), (3, .int p3), (4, .int p4), (5, .int 4), (6, .int x6_18), (7, .int x7_18)]) hx hb dX3_heldBy_58 hl (by decide) rfl (fun ls hl => ?_)
      refine lv_aload_n hx hb dX3_heldBy_60 rfl (lv_at hl 2 rfl) ?_
      refine va_get (D := D) (ci := 3) (v := .ref (g 13)) (C := RX3) (T := TX3) (N := 7) hx hb hts hinL hown hE.1 hPL 0 rfl rfl 0 (by decide) (hts (.fieldLink RX3 11 "WallStones$Wall" "strengths" "[I") (List.mem_of_getElem? (i := 3) rfl)) (fun _ h9 => h9) rfl dX3_heldBy_61 ?_
      refine lv_iload hx hb dX3_heldBy_64 (lv_at hl 7 rfl) ?_
      refine lv_iload hx hb dX3_heldBy_66 (lv_at hl 8 rfl) ?_
      refine runS_i (va_runS (As := [.int x6_18, .int x7_18]) (rest := [.ref (g 13)]) ⟨hx, hb, hml, hown, hts⟩ (K_L_place x6_18 x7_18) (va_cwS 2 hts gX3_heldBy_X3_place rfl rfl rfl (by decide +kernel) ⟨Nat.le_of_ble_eq_true rfl, Nat.le_of_ble_eq_true rfl⟩) (preS_of hE hA hS trivial) rfl rfl hl.1 rfl (lv_room (Nat.le_of_ble_eq_true rfl)) dX3_heldBy_68 ⟨Nat.zero_le _, Nat.zero_le _⟩) ?_
      have w3 : (m_L_place x6_18 x7_18).toInt = x6_18.toInt * 6 + x7_18.toInt := place_t (by first | omega | decide)
      refine va_iald hx hb hE.1 hPL 1 0 rfl rfl (vp_in_iff.mpr (by omega)) dX3_heldBy_71 ?_
      refine W.eq (g2 := F0 m 72 ls [.int (sL_18 1 (Int32.toNatClampNeg (m_L_place x6_18 x7_18)))]) rfl ?_
      refine lv_istore (lv' := [(10, .int (sL_18 1 (Int32.toNatClampNeg (m_L_place x6_18 x7_18)))), (9, .int (sL_18 3 (Int32.toNatClampNeg x6_18))), (8, .int (sL_18 2 (Int32.toNatClampNeg x6_18))), (0, .ref (g 12)), (2, .int p2), (3, .int p3), (4, .int p4), (5, .int 4), (6, .int x6_18), (7, .int x7_18)]) hx hb dX3_heldBy_72 hl (by decide) rfl (fun ls hl => ?_)
      refine lv_aload_n hx hb dX3_heldBy_74 rfl (lv_at hl 3 rfl) ?_
      refine lv_iload hx hb dX3_heldBy_75 (lv_at hl 8 rfl) ?_
      refine lv_iload hx hb dX3_heldBy_77 (lv_at hl 9 rfl) ?_
      refine lv_iload hx hb dX3_heldBy_79 (lv_at hl 6 rfl) ?_
      refine runW_i (va_runV (As := [.int x6_18, .int x7_18, .int p4]) (rest := []) ⟨hx, hb, hml, hown, hts⟩ (K_L_strike hg sL_18 x6_18 x7_18 p4 (by assumption)) (cwV 3 hts gX3_heldBy_X3_strike rfl rfl rfl (by decide +kernel) ⟨Nat.le_of_ble_eq_true rfl, Nat.le_of_ble_eq_true rfl⟩) (preV_of hE hA hS hPL (va_recv hE.1 hPL (ci := 3) (q0 := 0) rfl rfl)) rfl rfl hl.1 rfl (lv_room (Nat.le_of_ble_eq_true rfl)) dX3_heldBy_81 ⟨Nat.zero_le _, Nat.zero_le _⟩) hS (fun _ h9 => h9) (fun H locs hQ hk hS => ?_)
      have hPL : va_P D vwCl (cellL cI g (m_L_strike sL_18 x6_18 x7_18 p4).2) H := hQ
      have v4 : okL (m_L_strike sL_18 x6_18 x7_18 p4).2 := okL_strike (by assumption)
      have w4_4 : ((m_L_strike sL_18 x6_18 x7_18 p4).2 0 4).toInt = (sL_18 0 4).toInt := congrArg Int32.toInt (fr_L_strike (by omega))
      have w4_5 : ((m_L_strike sL_18 x6_18 x7_18 p4).2 0 5).toInt = (sL_18 0 5).toInt := congrArg Int32.toInt (fr_L_strike (by omega))
      refine lv_pop hx hb dX3_heldBy_84 rfl ?_
      refine lv_aload_n hx hb dX3_heldBy_85 rfl (lv_at hl 3 rfl) ?_
      refine lv_iload hx hb dX3_heldBy_86 (lv_at hl 8 rfl) ?_
      refine runS_i (va_runV (As := [.int x6_18]) (rest := []) ⟨hx, hb, hml, hown, hts⟩ (K_L_isOpen hg (m_L_strike sL_18 x6_18 x7_18 p4).2 x6_18 (by omega)) (cwV 1 hts gX3_heldBy_X3_isOpen rfl rfl rfl (by decide +kernel) ⟨Nat.le_of_ble_eq_true rfl, Nat.le_of_ble_eq_true rfl⟩) (preV_of hE hA hS hPL (va_recv hE.1 hPL (ci := 3) (q0 := 0) rfl rfl)) rfl rfl hl.1 rfl (lv_room (Nat.le_of_ble_eq_true rfl)) dX3_heldBy_88 ⟨Nat.zero_le _, Nat.zero_le _⟩) ?_
      refine lv_if_eq (tgt := 98) hx hb dX3_heldBy_91 (by decide) (fun c_5 => ?_) (fun c_5 => ?_)
      · have hM := hM.trans (if_pos c_5)
        have t_5 := eq_t c_5
        rw [tl_0] at t_5
        refine lv_aload_n hx hb dX3_heldBy_98 rfl (lv_at hl 3 rfl) ?_
        refine lv_iload_n hx hb dX3_heldBy_99 rfl (lv_at hl 4 rfl) ?_
        refine lv_iload_n hx hb dX3_heldBy_100 rfl (lv_at hl 5 rfl) ?_
        refine lv_iload hx hb dX3_heldBy_101 (lv_at hl 6 rfl) ?_
        refine lv_iload hx hb dX3_heldBy_103 (lv_at hl 7 rfl) ?_
        refine lv_iconst (v := 1) hx hb dX3_heldBy_105 (by decide) ?_
        refine lv_isub hx hb dX3_heldBy_106 ?_
        refine W.eq (congrArg (fun z => F0 m 107 ls [.int z, .int p4, .int p3, .int p2, .ref (g 12)]) (show (4 : Int32) - 1 = 3 by decide +kernel)) ?_
        have z6 := tl_3
        refine runW_l (va_runS (As := [.ref (g 12), .int p2, .int p3, .int p4, .int 3]) (rest := []) ⟨hx, hb, hml, hown, hts⟩ (K_L_heldAfter3 hg (m_L_strike sL_18 x6_18 x7_18 p4).2 p2 p3 p4 (by assumption)) (va_cwS 5 hts gX3_heldBy_X3_heldAfter rfl rfl rfl (by decide +kernel) ⟨Nat.le_of_ble_eq_true rfl, Nat.le_of_ble_eq_true rfl⟩) (preS_of hE hA hS hPL) rfl rfl hl.1 rfl (lv_room (Nat.le_of_ble_eq_true rfl)) dX3_heldBy_107 ⟨Nat.zero_le _, Nat.zero_le _⟩) hS (fun _ h9 => h9) (fun H locs hQ hk hS => ?_)
        have hPL : va_P D vwCl (cellL cI g (m_L_heldAfter3 (m_L_strike sL_18 x6_18 x7_18 p4).2 p2 p3 p4).2) H := hQ
        exact J_110 (m_L_heldAfter3 (m_L_strike sL_18 x6_18 x7_18 p4).2 p2 p3 p4).2 x6_18 x7_18 (sL_18 2 (Int32.toNatClampNeg x6_18)) (sL_18 3 (Int32.toNatClampNeg x6_18)) (sL_18 1 (Int32.toNatClampNeg (m_L_place x6_18 x7_18))) (m_L_heldAfter3 (m_L_strike sL_18 x6_18 x7_18 p4).2 p2 p3 p4).1 H locs ls (by omega) hPL hS (lv_sub hl [3, 8, 9, 2, 1, 0] rfl) hM
      · have hM := hM.trans (if_neg c_5)
        have t_5 := ne_t c_5
        rw [tl_0] at t_5
        refine lv_lconst (v := 0) hx hb dX3_heldBy_94 (by decide) ?_
        refine lv_goto (tgt := 110) hx hb dX3_heldBy_95 (by decide) ?_
        exact J_110 (m_L_strike sL_18 x6_18 x7_18 p4).2 x6_18 x7_18 (sL_18 2 (Int32.toNatClampNeg x6_18)) (sL_18 3 (Int32.toNatClampNeg x6_18)) (sL_18 1 (Int32.toNatClampNeg (m_L_place x6_18 x7_18))) 0 H locs ls (by omega) hPL hS (lv_sub hl [3, 8, 9, 2, 1, 0] rfl) hM
    · have hM := hM.trans (if_pos c_2)
      have t_2 := eq_t c_2
      rw [tl_0] at t_2
      refine lv_aload_n hx hb dX3_heldBy_29 rfl (lv_at hl 0 rfl) ?_
      refine lv_iload_n hx hb dX3_heldBy_30 rfl (lv_at hl 1 rfl) ?_
      refine lv_iload_n hx hb dX3_heldBy_31 rfl (lv_at hl 2 rfl) ?_
      refine lv_iload hx hb dX3_heldBy_32 (lv_at hl 3 rfl) ?_
      refine lv_iload hx hb dX3_heldBy_34 (lv_at hl 4 rfl) ?_
      refine lv_iconst (v := 1) hx hb dX3_heldBy_36 (by decide) ?_
      refine lv_isub hx hb dX3_heldBy_37 ?_
      refine W.eq (congrArg (fun z => F0 m 38 ls [.int z, .int p4, .int p3, .int p2, .ref (g 12)]) (show (4 : Int32) - 1 = 3 by decide +kernel)) ?_
      have z7 := tl_3
      refine runW_l (va_runS (As := [.ref (g 12), .int p2, .int p3, .int p4, .int 3]) (rest := []) ⟨hx, hb, hml, hown, hts⟩ (K_L_heldAfter3 hg sL_18 p2 p3 p4 (by assumption)) (va_cwS 5 hts gX3_heldBy_X3_heldAfter rfl rfl rfl (by decide +kernel) ⟨Nat.le_of_ble_eq_true rfl, Nat.le_of_ble_eq_true rfl⟩) (preS_of hE hA hS hPL) rfl rfl hl.1 rfl (lv_room (Nat.le_of_ble_eq_true rfl)) dX3_heldBy_38 ⟨Nat.zero_le _, Nat.zero_le _⟩) hS (fun _ h9 => h9) (fun H locs hQ hk hS => ?_)
      have hPL : va_P D vwCl (cellL cI g (m_L_heldAfter3 sL_18 p2 p3 p4).2) H := hQ
      have hM : (m_L_heldBy4 sL p1 p2 p3 p4) = (((m_L_heldAfter3 sL_18 p2 p3 p4).1, (m_L_heldAfter3 sL_18 p2 p3 p4).2) : Int64 × St) := hM
      exact hret (m_L_heldAfter3 sL_18 p2 p3 p4).1 H locs _ ls dX3_heldBy_41 (ret1 hM) (rP_v1 (P := fun (z0 : St) => va_P D vwCl (cellL cI g z0) H) hM hPL) hS
  have hM : (m_L_heldBy4 sL p1 p2 p3 p4) = (m_L_heldBy4 sL p1 p2 p3 p4) := rfl
  refine lv_iload_n hx hb dX3_heldBy_0 rfl (lv_at hl 2 rfl) ?_
  refine lv_iload_n hx hb dX3_heldBy_1 rfl (lv_at hl 1 rfl) ?_
  refine lv_iconst (v := 3) hx hb dX3_heldBy_2 (by decide) ?_
  refine lv_irem hx hb dX3_heldBy_3 (by decide) ?_
  refine lv_iadd hx hb dX3_heldBy_4 ?_
  refine lv_iconst (v := 1) hx hb dX3_heldBy_5 (by decide) ?_
  refine lv_isub hx hb dX3_heldBy_6 ?_
  refine lv_istore (lv' := [(6, .int ((p2 + (p1 - p1 / 3 * 3)) - 1)), (0, .ref (g 12)), (1, .int p1), (2, .int p2), (3, .int p3), (4, .int p4), (5, .int 4)]) hx hb dX3_heldBy_7 hl (by decide) rfl (fun ls hl => ?_)
  refine lv_iload_n hx hb dX3_heldBy_9 rfl (lv_at hl 4 rfl) ?_
  refine lv_iload_n hx hb dX3_heldBy_10 rfl (lv_at hl 2 rfl) ?_
  refine lv_iconst (v := 3) hx hb dX3_heldBy_11 (by decide) ?_
  refine lv_idiv hx hb dX3_heldBy_12 (by decide) ?_
  refine lv_iadd hx hb dX3_heldBy_13 ?_
  refine lv_iconst (v := 1) hx hb dX3_heldBy_14 (by decide) ?_
  refine lv_isub hx hb dX3_heldBy_15 ?_
  refine lv_istore (lv' := [(7, .int ((p3 + (p1 / 3)) - 1)), (6, .int ((p2 + (p1 - p1 / 3 * 3)) - 1)), (0, .ref (g 12)), (1, .int p1), (2, .int p2), (3, .int p3), (4, .int p4), (5, .int 4)]) hx hb dX3_heldBy_16 hl (by decide) rfl (fun ls hl => ?_)
  have z8 := tl_4
  exact J_18 sL ((p2 + (p1 - p1 / 3 * 3)) - 1) ((p3 + (p1 / 3)) - 1) H locs ls (by assumption) hPL hS (lv_sub hl [2, 4, 5, 6, 7, 1, 0] rfl) hM
abbrev rm_L_heldAfter4 : Room := { frames := 10, cells := 0, slots := 0, locals := 278 }
set_option maxHeartbeats 4000000 in
set_option maxRecDepth 100000 in
theorem K_L_heldAfter4 {l : Launch} {D : va_G} {cI : ClassId} {lo : Nat} {g : Nat → Nat} (hg : wI g 12 17 lo) (sL : St) (p1 : Int32) (p2 : Int32) (p3 : Int32) (h0 : okL sL) : WRl l D cI lo yX3_heldAfter wsX3_heldAfter rm_L_heldAfter4 [.ref (g 12), .int p1, .int p2, .int p3, .int 4] (fun H => va_P D vwCl (cellL cI g sL) H) (m_L_heldAfter4 sL p1 p2 p3).1 (fun H => va_P D vwCl (cellL cI g (m_L_heldAfter4 sL p1 p2 p3).2) H) (wA g 12 17) := by
  refine ofW_WRl (cc := cX3_heldAfter) (maxL := 8) (by decide +kernel) rfl (Nat.le_of_ble_eq_true rfl) ?_
  intro p e s m args below meth c Q hx hb hml hown hts hE hP hret ls hl
  have hown : s.vm.findClass RX3 = some m.cls := hown
  have hPL := hP
  have hA := wA.lo hg
  have hS : va_S (wA g 12 17) s.heap s.heap [] := va_S.rf
  obtain ⟨H, hH⟩ : ∃ z, z = s.heap := ⟨_, rfl⟩
  obtain ⟨locs, hlocs⟩ : ∃ z : List Loc, z = [] := ⟨_, rfl⟩
  have hPL : va_P D vwCl (cellL cI g sL) H := by rw [hH]; exact hPL
  have hS : va_S (wA g 12 17) s.heap H locs := by rw [hH, hlocs]; exact va_S.rf
  have gW : W p l e rm_L_heldAfter4 s m args below meth c H locs 0 0 Q (F0 m 0 ls []) → W p l e rm_L_heldAfter4 s m args below meth c s.heap [] 0 0 Q (F0 m 0 ls []) := by rw [hH, hlocs]; exact id
  refine gW ?_
  have hinL : ∀ w ∈ wsX30, w ∈ wsX3_heldAfter := fun w h => List.mem_cons_of_mem _ (List.mem_append_right _ h)
  have hl : lv_has ls 8 [(0, .ref (g 12)), (1, .int p1), (2, .int p2), (3, .int p3), (4, .int 4)] := hl
  have nh0 := okL_lin h0
  have L_19 : ∀ (n : Nat) (sL_19 : St) (x5_19 : Int64) (x7_19 : Int32) (H : Heap) (locs : List Loc) (ls : Array Slot), 0 ≤ x7_19.toInt ∧ x7_19.toInt ≤ 9 → okL sL_19 → (9 - x7_19.toInt).toNat < n → va_P D vwCl (cellL cI g sL_19) H → va_S (wA g 12 17) s.heap H locs → lv_has ls 8 [(0, .ref (g 12)), (1, .int p1), (2, .int p2), (3, .int p3), (4, .int 4), (5, .long x5_19), (7, .int x7_19)] → (∀ (H : Heap) (locs : List Loc) (ls : Array Slot), 0 ≤ (wl (g_L_heldAfter4_19 p1 p2 p3) n (sL_19, x5_19, x7_19)).2.2.toInt ∧ (wl (g_L_heldAfter4_19 p1 p2 p3) n (sL_19, x5_19, x7_19)).2.2.toInt ≤ 9 → okL (wl (g_L_heldAfter4_19 p1 p2 p3) n (sL_19, x5_19, x7_19)).1 → va_P D vwCl (cellL cI g (wl (g_L_heldAfter4_19 p1 p2 p3) n (sL_19, x5_19, x7_19)).1) H → va_S (wA g 12 17) s.heap H locs → lv_has ls 8 [(5, .long (wl (g_L_heldAfter4_19 p1 p2 p3) n (sL_19, x5_19, x7_19)).2.1)] → W p l e rm_L_heldAfter4 s m args below meth c H locs 0 0 Q (F0 m 70 ls [])) → W p l e rm_L_heldAfter4 s m args below meth c H locs 0 0 Q (F0 m 19 ls []) := by
    intro n
    induction n with
    | zero =>
      intro sL_19 x5_19 x7_19 H locs ls i19_0 i19_1 hn19 hPL hS hl kk
      exact absurd hn19 (Nat.not_lt_zero _)
    | succ n ih =>
      intro sL_19 x5_19 x7_19 H locs ls i19_0 i19_1 hn19 hPL hS hl kk
      have ni19_1 := okL_lin i19_1
      have hM : (g_L_heldAfter4_19 p1 p2 p3) (sL_19, x5_19, x7_19) = (g_L_heldAfter4_19 p1 p2 p3) (sL_19, x5_19, x7_19) := rfl
      refine lv_iload hx hb dX3_heldAfter_19 (lv_at hl 6 rfl) ?_
      refine lv_aload_n hx hb dX3_heldAfter_21 rfl (lv_at hl 0 rfl) ?_
      refine va_get (D := D) (ci := 3) (v := .ref (g 16)) (C := RX3) (T := TX3) (N := 7) hx hb hts hinL hown hE.1 hPL 0 rfl rfl 3 (by decide) (hts (.fieldLink RX3 21 "WallStones$Wall" "weights" "[I") (List.mem_of_getElem? (i := 1) rfl)) (fun _ h9 => h9) rfl dX3_heldAfter_22 ?_
      refine va_alen hx hb hE.1 hPL 4 0 rfl rfl (v := 9) rfl dX3_heldAfter_25 ?_
      refine lv_icmp_ge (tgt := 70) hx hb dX3_heldAfter_26 (by decide) (fun c_1 => ?_) (fun c_1 => ?_)
      · have hM := hM.trans (if_pos c_1)
        have t_1 := le_t c_1
        rw [tl_9] at t_1
        rw [wl_none hM] at kk
        try dsimp only at kk
        exact kk H locs ls (by omega) (by assumption) hPL hS (lv_sub hl [5] rfl)
      · have hM := hM.trans (if_neg c_1)
        have t_1 := nle_t c_1
        rw [tl_9] at t_1
        refine lv_aload_n hx hb dX3_heldAfter_29 rfl (lv_at hl 0 rfl) ?_
        refine va_get (D := D) (ci := 3) (v := .ref (g 16)) (C := RX3) (T := TX3) (N := 7) hx hb hts hinL hown hE.1 hPL 0 rfl rfl 3 (by decide) (hts (.fieldLink RX3 21 "WallStones$Wall" "weights" "[I") (List.mem_of_getElem? (i := 1) rfl)) (fun _ h9 => h9) rfl dX3_heldAfter_30 ?_
        refine lv_iload hx hb dX3_heldAfter_33 (lv_at hl 6 rfl) ?_
        refine va_iald hx hb hE.1 hPL 4 0 rfl rfl (vp_in_iff.mpr (by omega)) dX3_heldAfter_35 ?_
        refine W.eq (g2 := F0 m 36 ls [.int (sL_19 4 (Int32.toNatClampNeg x7_19))]) rfl ?_
        refine lv_if_le (tgt := 64) hx hb dX3_heldAfter_36 (by decide) (fun c_2 => ?_) (fun c_2 => ?_)
        · have hM := hM.trans (if_pos c_2)
          have t_2 := le_t c_2
          rw [tl_0] at t_2
          refine lv_iinc (v := (x7_19 + 1)) (lv' := [(7, .int (x7_19 + 1)), (0, .ref (g 12)), (1, .int p1), (2, .int p2), (3, .int p3), (4, .int 4), (5, .long x5_19)]) hx hb dX3_heldAfter_64 hl (k := 6) rfl rfl (by decide) rfl (fun ls hl => ?_)
          refine lv_goto (tgt := 19) hx hb dX3_heldAfter_67 (by decide) ?_
          have := t_inc (x := x7_19) (by omega)
          rw [wl_some hM] at kk
          exact ih sL_19 x5_19 (x7_19 + 1) H locs ls (by omega) (by assumption) (by omega) hPL hS (lv_sub hl [1, 2, 3, 4, 5, 6, 0] rfl) kk
        · have hM := hM.trans (if_neg c_2)
          have t_2 := nle_t c_2
          rw [tl_0] at t_2
          refine lv_lload hx hb dX3_heldAfter_39 (lv_at hl 5 rfl) ?_
          refine lv_aload_n hx hb dX3_heldAfter_41 rfl (lv_at hl 0 rfl) ?_
          refine va_get (D := D) (ci := 3) (v := .ref (g 16)) (C := RX3) (T := TX3) (N := 7) hx hb hts hinL hown hE.1 hPL 0 rfl rfl 3 (by decide) (hts (.fieldLink RX3 21 "WallStones$Wall" "weights" "[I") (List.mem_of_getElem? (i := 1) rfl)) (fun _ h9 => h9) rfl dX3_heldAfter_42 ?_
          refine lv_iload hx hb dX3_heldAfter_45 (lv_at hl 6 rfl) ?_
          refine va_iald hx hb hE.1 hPL 4 0 rfl rfl (vp_in_iff.mpr (by omega)) dX3_heldAfter_47 ?_
          refine W.eq (g2 := F0 m 48 ls [.int (sL_19 4 (Int32.toNatClampNeg x7_19)), .long x5_19]) rfl ?_
          refine lv_i2l (v := (Int32.toInt64 (sL_19 4 (Int32.toNatClampNeg x7_19)))) hx hb dX3_heldAfter_48 rfl ?_
          refine lv_aload_n hx hb dX3_heldAfter_49 rfl (lv_at hl 0 rfl) ?_
          refine lv_iload hx hb dX3_heldAfter_50 (lv_at hl 6 rfl) ?_
          refine lv_iload_n hx hb dX3_heldAfter_52 rfl (lv_at hl 1 rfl) ?_
          refine lv_iload_n hx hb dX3_heldAfter_53 rfl (lv_at hl 2 rfl) ?_
          refine lv_iload_n hx hb dX3_heldAfter_54 rfl (lv_at hl 3 rfl) ?_
          refine lv_iload hx hb dX3_heldAfter_55 (lv_at hl 4 rfl) ?_
          have z3 := tl_4
          refine runW_l (va_runS (As := [.ref (g 12), .int x7_19, .int p1, .int p2, .int p3, .int 4]) (rest := [.long (Int32.toInt64 (sL_19 4 (Int32.toNatClampNeg x7_19))), .long x5_19]) ⟨hx, hb, hml, hown, hts⟩ (K_L_heldBy4 hg sL_19 x7_19 p1 p2 p3 (by assumption) (by omega)) (va_cwS 6 hts gX3_heldAfter_X3_heldBy rfl rfl rfl (by decide +kernel) ⟨Nat.le_of_ble_eq_true rfl, Nat.le_of_ble_eq_true rfl⟩) (preS_of hE hA hS hPL) rfl rfl hl.1 rfl (lv_room (Nat.le_of_ble_eq_true rfl)) dX3_heldAfter_57 ⟨Nat.zero_le _, Nat.zero_le _⟩) hS (fun _ h9 => h9) (fun H locs hQ hk hS => ?_)
          have hPL : va_P D vwCl (cellL cI g (m_L_heldBy4 sL_19 x7_19 p1 p2 p3).2) H := hQ
          have v4 : okL (m_L_heldBy4 sL_19 x7_19 p1 p2 p3).2 := okL_heldBy4 (by assumption)
          have w4_4 : ((m_L_heldBy4 sL_19 x7_19 p1 p2 p3).2 0 4).toInt = (sL_19 0 4).toInt := congrArg Int32.toInt (fr_L_heldBy4 (by omega))
          have w4_5 : ((m_L_heldBy4 sL_19 x7_19 p1 p2 p3).2 0 5).toInt = (sL_19 0 5).toInt := congrArg Int32.toInt (fr_L_heldBy4 (by omega))
          refine lv_lmul hx hb dX3_heldAfter_60 ?_
          refine lv_ladd hx hb dX3_heldAfter_61 ?_
          refine lv_lstore (lv' := [(5, .long (x5_19 + ((Int32.toInt64 (sL_19 4 (Int32.toNatClampNeg x7_19))) * (m_L_heldBy4 sL_19 x7_19 p1 p2 p3).1))), (0, .ref (g 12)), (1, .int p1), (2, .int p2), (3, .int p3), (4, .int 4), (7, .int x7_19)]) hx hb dX3_heldAfter_62 hl (by decide) rfl (fun ls hl => ?_)
          refine lv_iinc (v := (x7_19 + 1)) (lv' := [(7, .int (x7_19 + 1)), (5, .long (x5_19 + ((Int32.toInt64 (sL_19 4 (Int32.toNatClampNeg x7_19))) * (m_L_heldBy4 sL_19 x7_19 p1 p2 p3).1))), (0, .ref (g 12)), (1, .int p1), (2, .int p2), (3, .int p3), (4, .int 4)]) hx hb dX3_heldAfter_64 hl (k := 6) rfl rfl (by decide) rfl (fun ls hl => ?_)
          refine lv_goto (tgt := 19) hx hb dX3_heldAfter_67 (by decide) ?_
          have := t_inc (x := x7_19) (by omega)
          rw [wl_some hM] at kk
          exact ih (m_L_heldBy4 sL_19 x7_19 p1 p2 p3).2 (x5_19 + ((Int32.toInt64 (sL_19 4 (Int32.toNatClampNeg x7_19))) * (m_L_heldBy4 sL_19 x7_19 p1 p2 p3).1)) (x7_19 + 1) H locs ls (by omega) (by assumption) (by omega) hPL hS (lv_sub hl [2, 3, 4, 5, 6, 1, 0] rfl) kk
  have J_70 : ∀ (sL_70 : St) (x5_70 : Int64) (H : Heap) (locs : List Loc) (ls : Array Slot), va_P D vwCl (cellL cI g sL_70) H → va_S (wA g 12 17) s.heap H locs → lv_has ls 8 [(5, .long x5_70)] → (m_L_heldAfter4 sL p1 p2 p3) = b_L_heldAfter4_70 sL_70 x5_70 → W p l e rm_L_heldAfter4 s m args below meth c H locs 0 0 Q (F0 m 70 ls []) := by
    intro sL_70 x5_70 H locs ls hPL hS hl hM
    refine lv_lload hx hb dX3_heldAfter_70 (lv_at hl 0 rfl) ?_
    have hM : (m_L_heldAfter4 sL p1 p2 p3) = ((x5_70, sL_70) : Int64 × St) := hM
    exact hret x5_70 H locs _ ls dX3_heldAfter_72 (ret1 hM) (rP_v1 (P := fun (z0 : St) => va_P D vwCl (cellL cI g z0) H) hM hPL) hS
  have hM : (m_L_heldAfter4 sL p1 p2 p3) = (m_L_heldAfter4 sL p1 p2 p3) := rfl
  refine lv_iload hx hb dX3_heldAfter_0 (lv_at hl 4 rfl) ?_
  refine lv_if_le (tgt := 11) hx hb dX3_heldAfter_2 (by decide) (fun c => absurd c (by decide)) (fun _ => ?_)
  refine lv_iload hx hb dX3_heldAfter_5 (lv_at hl 4 rfl) ?_
  refine lv_iconst (v := 4) hx hb dX3_heldAfter_7 (by decide) ?_
  refine lv_icmp_le (tgt := 13) hx hb dX3_heldAfter_8 (by decide) (fun _ => ?_) (fun c => absurd (by decide) c)
  refine lv_lconst (v := 0) hx hb dX3_heldAfter_13 (by decide) ?_
  refine lv_lstore (lv' := [(5, .long 0), (0, .ref (g 12)), (1, .int p1), (2, .int p2), (3, .int p3), (4, .int 4)]) hx hb dX3_heldAfter_14 hl (by decide) rfl (fun ls hl => ?_)
  refine lv_iconst (v := 0) hx hb dX3_heldAfter_16 (by decide) ?_
  refine lv_istore (lv' := [(7, .int 0), (5, .long 0), (0, .ref (g 12)), (1, .int p1), (2, .int p2), (3, .int p3), (4, .int 4)]) hx hb dX3_heldAfter_17 hl (by decide) rfl (fun ls hl => ?_)
  have z5 := tl_0
  have z6 := tl_4
  refine L_19 10 sL 0 0 H locs ls (by omega) (by assumption) (by omega) hPL hS (lv_sub hl [2, 3, 4, 5, 6, 1, 0] rfl) (fun H locs ls k0 k1 hPL hS hl => ?_)
  have nk1 := okL_lin k1
  exact J_70 (wl (g_L_heldAfter4_19 p1 p2 p3) 10 (sL, 0, 0)).1 (wl (g_L_heldAfter4_19 p1 p2 p3) 10 (sL, 0, 0)).2.1 H locs ls hPL hS (lv_sub hl [0] rfl) hM
abbrev rm_T_held : Room := { frames := 11, cells := 0, slots := 0, locals := 305 }
set_option maxHeartbeats 4000000 in
set_option maxRecDepth 100000 in
theorem K_T_held {l : Launch} {D : va_G} {cI : ClassId} {lo : Nat} {g : Nat → Nat} (hg : wI g 0 19 lo) (sT : St) (vT : Int64) (sM : St) (sB : St) (sL : St) (sS : St) (p1 : Int32) (p2 : Int32) (p3 : Int32) (p4 : Int32) (h0 : okL sL) : WRl l D cI lo yX4_held wsX4_held rm_T_held [.ref (g 0), .int p1, .int p2, .int p3, .int p4] (fun H => va_P D vwCl (cellT cI g sT vT) H ∧ va_P D vwCl (cellM cI g sM) H ∧ va_P D vwCl (cellB cI g sB) H ∧ va_P D vwCl (cellL cI g sL) H ∧ va_P D vwCl (cellS cI g sS) H) (m_T_held sT sL p1 p2 p3 p4).1 (fun H => va_P D vwCl (cellT cI g sT vT) H ∧ va_P D vwCl (cellM cI g sM) H ∧ va_P D vwCl (cellB cI g sB) H ∧ va_P D vwCl (cellL cI g (m_T_held sT sL p1 p2 p3 p4).2) H ∧ va_P D vwCl (cellS cI g sS) H) (wA g 0 19) := by
  refine ofW_WRl (cc := cX4_held) (maxL := 5) (by decide +kernel) rfl (Nat.le_of_ble_eq_true rfl) ?_
  intro p e s m args below meth c Q hx hb hml hown hts hE hP hret ls hl
  have hown : s.vm.findClass RX4 = some m.cls := hown
  obtain ⟨hPT, hPM, hPB, hPL, hPS⟩ := hP
  have hA := wA.lo hg
  have hS : va_S (wA g 0 19) s.heap s.heap [] := va_S.rf
  obtain ⟨H, hH⟩ : ∃ z, z = s.heap := ⟨_, rfl⟩
  obtain ⟨locs, hlocs⟩ : ∃ z : List Loc, z = [] := ⟨_, rfl⟩
  have hPT : va_P D vwCl (cellT cI g sT vT) H := by rw [hH]; exact hPT
  have hPM : va_P D vwCl (cellM cI g sM) H := by rw [hH]; exact hPM
  have hPB : va_P D vwCl (cellB cI g sB) H := by rw [hH]; exact hPB
  have hPL : va_P D vwCl (cellL cI g sL) H := by rw [hH]; exact hPL
  have hPS : va_P D vwCl (cellS cI g sS) H := by rw [hH]; exact hPS
  have hS : va_S (wA g 0 19) s.heap H locs := by rw [hH, hlocs]; exact va_S.rf
  have gW : W p l e rm_T_held s m args below meth c H locs 0 0 Q (F0 m 0 ls []) → W p l e rm_T_held s m args below meth c s.heap [] 0 0 Q (F0 m 0 ls []) := by rw [hH, hlocs]; exact id
  refine gW ?_
  have hinT : ∀ w ∈ wsX40, w ∈ wsX4_held := fun w h => List.mem_cons_of_mem _ (List.mem_append_left _ (List.mem_append_right _ h))
  have hinL : ∀ w ∈ wsX30, w ∈ wsX4_held := fun w h => List.mem_cons_of_mem _ (List.mem_append_right _ h)
  have hl : lv_has ls 5 [(0, .ref (g 0)), (1, .int p1), (2, .int p2), (3, .int p3), (4, .int p4)] := hl
  have nh0 := okL_lin h0
  have hM : (m_T_held sT sL p1 p2 p3 p4) = (m_T_held sT sL p1 p2 p3 p4) := rfl
  refine lv_aload_n hx hb dX4_held_0 rfl (lv_at hl 0 rfl) ?_
  refine va_get (D := D) (ci := 4) (v := .ref (g 12)) (C := RX4) (T := TX4) (N := 7) hx hb hts hinT hown hE.1 hPT 0 rfl rfl 2 (by decide) (hts (.fieldLink RX4 26 "WallStones" "stones" "LWallStones$Wall;") (List.mem_of_getElem? (i := 1) rfl)) (fun _ h9 => h9) rfl dX4_held_1 ?_
  refine lv_iload_n hx hb dX4_held_4 rfl (lv_at hl 1 rfl) ?_
  refine lv_iload_n hx hb dX4_held_5 rfl (lv_at hl 2 rfl) ?_
  refine runS_i (va_runV (As := [.int p1, .int p2]) (rest := []) ⟨hx, hb, hml, hown, hts⟩ (K_L_has (hg.sub (by decide) (by decide)) sL p1 p2) (cwV 2 hts gX4_held_X3_has rfl rfl rfl (by decide +kernel) ⟨Nat.le_of_ble_eq_true rfl, Nat.le_of_ble_eq_true rfl⟩) (preV_of hE hA hS hPL (va_recv hE.1 hPL (ci := 3) (q0 := 0) rfl rfl)) rfl rfl hl.1 rfl (lv_room (Nat.le_of_ble_eq_true rfl)) dX4_held_6 ⟨Nat.zero_le _, Nat.zero_le _⟩) ?_
  refine lv_if_eq (tgt := 32) hx hb dX4_held_9 (by decide) (fun c_1 => ?_) (fun c_1 => ?_)
  · have hM := hM.trans (if_pos c_1)
    have t_1 := eq_t c_1
    rw [tl_0] at t_1
    refine lv_ldc2 (own := RX4) (index := 175) (v := (-1)) hx hb hown (hts (.constantLong RX4 175 (-1)) (List.mem_of_getElem? (i := 2) rfl)) dX4_held_32 ?_
    have hM : (m_T_held sT sL p1 p2 p3 p4) = (((-1), sL) : Int64 × St) := hM
    exact hret (-1) H locs _ ls dX4_held_35 (ret1 hM) (rP_v1 (P := fun (z0 : St) => va_P D vwCl (cellT cI g sT vT) H ∧ va_P D vwCl (cellM cI g sM) H ∧ va_P D vwCl (cellB cI g sB) H ∧ va_P D vwCl (cellL cI g z0) H ∧ va_P D vwCl (cellS cI g sS) H) hM ⟨hPT, hPM, hPB, hPL, hPS⟩) hS
  · have hM := hM.trans (if_neg c_1)
    have t_1 := ne_t c_1
    rw [tl_0] at t_1
    have u_1 := has_t c_1
    refine lv_iload_n hx hb dX4_held_12 rfl (lv_at hl 3 rfl) ?_
    refine lv_iconst (v := 1) hx hb dX4_held_13 (by decide) ?_
    refine lv_bipush (v := 99) hx hb dX4_held_14 (by decide) ?_
    refine runS_i (va_runS (As := [.int p3, .int 1, .int 99]) (rest := []) ⟨hx, hb, hml, hown, hts⟩ (K_T_within p3 1 99) (va_cwS 3 hts gX4_held_X4_within rfl rfl rfl (by decide +kernel) ⟨Nat.le_of_ble_eq_true rfl, Nat.le_of_ble_eq_true rfl⟩) (preS_of hE hA hS trivial) rfl rfl hl.1 rfl (lv_room (Nat.le_of_ble_eq_true rfl)) dX4_held_16 ⟨Nat.zero_le _, Nat.zero_le _⟩) ?_
    refine lv_if_eq (tgt := 32) hx hb dX4_held_19 (by decide) (fun c_2 => ?_) (fun c_2 => ?_)
    · have hM := hM.trans (if_pos c_2)
      have t_2 := eq_t c_2
      rw [tl_0] at t_2
      refine lv_ldc2 (own := RX4) (index := 175) (v := (-1)) hx hb hown (hts (.constantLong RX4 175 (-1)) (List.mem_of_getElem? (i := 2) rfl)) dX4_held_32 ?_
      have hM : (m_T_held sT sL p1 p2 p3 p4) = (((-1), sL) : Int64 × St) := hM
      exact hret (-1) H locs _ ls dX4_held_35 (ret1 hM) (rP_v1 (P := fun (z0 : St) => va_P D vwCl (cellT cI g sT vT) H ∧ va_P D vwCl (cellM cI g sM) H ∧ va_P D vwCl (cellB cI g sB) H ∧ va_P D vwCl (cellL cI g z0) H ∧ va_P D vwCl (cellS cI g sS) H) hM ⟨hPT, hPM, hPB, hPL, hPS⟩) hS
    · have hM := hM.trans (if_neg c_2)
      have t_2 := ne_t c_2
      rw [tl_0] at t_2
      have u_2 := within_t c_2
      rw [tl_1, tl_99] at u_2
      refine lv_iload hx hb dX4_held_22 (lv_at hl 4 rfl) ?_
      refine lv_iconst (v := 1) hx hb dX4_held_24 (by decide) ?_
      refine lv_iconst (v := 4) hx hb dX4_held_25 (by decide) ?_
      refine runS_i (va_runS (As := [.int p4, .int 1, .int 4]) (rest := []) ⟨hx, hb, hml, hown, hts⟩ (K_T_within p4 1 4) (va_cwS 3 hts gX4_held_X4_within rfl rfl rfl (by decide +kernel) ⟨Nat.le_of_ble_eq_true rfl, Nat.le_of_ble_eq_true rfl⟩) (preS_of hE hA hS trivial) rfl rfl hl.1 rfl (lv_room (Nat.le_of_ble_eq_true rfl)) dX4_held_26 ⟨Nat.zero_le _, Nat.zero_le _⟩) ?_
      refine lv_if_ne (tgt := 36) hx hb dX4_held_29 (by decide) (fun c_3 => ?_) (fun c_3 => ?_)
      · have hM := hM.trans (if_neg c_3)
        have t_3 := ne_t c_3
        rw [tl_0] at t_3
        have u_3 := within_t c_3
        rw [tl_1, tl_4] at u_3
        by_cases c_4 : p4 = 1
        · have hM := hM.trans (if_pos c_4)
          subst c_4
          refine lv_aload_n hx hb dX4_held_36 rfl (lv_at hl 0 rfl) ?_
          refine va_get (D := D) (ci := 4) (v := .ref (g 12)) (C := RX4) (T := TX4) (N := 7) hx hb hts hinT hown hE.1 hPT 0 rfl rfl 2 (by decide) (hts (.fieldLink RX4 26 "WallStones" "stones" "LWallStones$Wall;") (List.mem_of_getElem? (i := 1) rfl)) (fun _ h9 => h9) rfl dX4_held_37 ?_
          refine runS_i (va_runV (As := []) (rest := []) ⟨hx, hb, hml, hown, hts⟩ (K_L_firstOpen (hg.sub (by decide) (by decide)) sL (by assumption)) (cwV 0 hts gX4_held_X3_firstOpen rfl rfl rfl (by decide +kernel) ⟨Nat.le_of_ble_eq_true rfl, Nat.le_of_ble_eq_true rfl⟩) (preV_of hE hA hS hPL (va_recv hE.1 hPL (ci := 3) (q0 := 0) rfl rfl)) rfl rfl hl.1 rfl (lv_room (Nat.le_of_ble_eq_true rfl)) dX4_held_40 ⟨Nat.zero_le _, Nat.zero_le _⟩) ?_
          refine lv_bipush (v := (-9)) hx hb dX4_held_43 (by decide) ?_
          refine lv_icmp_ne (tgt := 63) hx hb dX4_held_45 (by decide) (fun c_5 => ?_) (fun c_5 => ?_)
          · have hM := hM.trans (if_neg c_5)
            have t_5 := ne_t c_5
            rw [tl_m9] at t_5
            refine lv_lconst (v := 0) hx hb dX4_held_63 (by decide) ?_
            have hM : (m_T_held sT sL p1 p2 p3 1) = ((0, sL) : Int64 × St) := hM
            exact hret 0 H locs _ ls dX4_held_64 (ret1 hM) (rP_v1 (P := fun (z0 : St) => va_P D vwCl (cellT cI g sT vT) H ∧ va_P D vwCl (cellM cI g sM) H ∧ va_P D vwCl (cellB cI g sB) H ∧ va_P D vwCl (cellL cI g z0) H ∧ va_P D vwCl (cellS cI g sS) H) hM ⟨hPT, hPM, hPB, hPL, hPS⟩) hS
          · have hM := hM.trans (if_pos c_5)
            have t_5 := eq_t c_5
            rw [tl_m9] at t_5
            refine lv_aload_n hx hb dX4_held_48 rfl (lv_at hl 0 rfl) ?_
            refine va_get (D := D) (ci := 4) (v := .ref (g 12)) (C := RX4) (T := TX4) (N := 7) hx hb hts hinT hown hE.1 hPT 0 rfl rfl 2 (by decide) (hts (.fieldLink RX4 26 "WallStones" "stones" "LWallStones$Wall;") (List.mem_of_getElem? (i := 1) rfl)) (fun _ h9 => h9) rfl dX4_held_49 ?_
            refine lv_iload_n hx hb dX4_held_52 rfl (lv_at hl 1 rfl) ?_
            refine lv_iload_n hx hb dX4_held_53 rfl (lv_at hl 2 rfl) ?_
            refine lv_iload_n hx hb dX4_held_54 rfl (lv_at hl 3 rfl) ?_
            refine lv_iload hx hb dX4_held_55 (lv_at hl 4 rfl) ?_
            have z6 := tl_1
            refine runW_l (va_runSN (As := [.ref (g 12), .int p1, .int p2, .int p3, .int 1]) (rest := []) ⟨hx, hb, hml, hown, hts⟩ (K_L_heldAfter1 (hg.sub (by decide) (by decide)) sL p1 p2 p3 (by assumption)) ⟨va_cnB 5 hts gX4_held_X3_heldAfter_n177 rfl rfl rfl hE.2.1.2.2.2.2.2.2.2.2.2 (hts (.initialized RX3) (List.mem_of_getElem? (i := 6) rfl)) (by decide +kernel) ⟨Nat.le_of_ble_eq_true rfl, Nat.le_of_ble_eq_true rfl⟩, (hts (.static yX3_heldAfter) (List.mem_of_getElem? (i := 31) rfl)), trivial⟩ (preS_of hE hA hS hPL) rfl rfl hl.1 rfl (lv_room (Nat.le_of_ble_eq_true rfl)) dX4_held_57 ⟨Nat.zero_le _, Nat.zero_le _⟩) hS (fun _ h9 => wA.sub (by decide) (by decide) _ h9) (fun H locs hQ hk hS => ?_)
            have hPT : va_P D vwCl (cellT cI g sT vT) H := wKeep hPT (wOff hg (c := 0) (n := 1) (x := 12) (y := 17) (by decide) (by decide) (by decide) (by decide) (by decide) rfl) hk
            have hPM : va_P D vwCl (cellM cI g sM) H := wKeep hPM (wOff hg (c := 1) (n := 5) (x := 12) (y := 17) (by decide) (by decide) (by decide) (by decide) (by decide) rfl) hk
            have hPB : va_P D vwCl (cellB cI g sB) H := wKeep hPB (wOff hg (c := 6) (n := 6) (x := 12) (y := 17) (by decide) (by decide) (by decide) (by decide) (by decide) rfl) hk
            have hPS : va_P D vwCl (cellS cI g sS) H := wKeep hPS (wOff hg (c := 17) (n := 2) (x := 12) (y := 17) (by decide) (by decide) (by decide) (by decide) (by decide) rfl) hk
            have hPL : va_P D vwCl (cellL cI g (m_L_heldAfter1 sL p1 p2 p3).2) H := hQ
            refine lv_goto (tgt := 64) hx hb dX4_held_60 (by decide) ?_
            have hM : (m_T_held sT sL p1 p2 p3 1) = (((m_L_heldAfter1 sL p1 p2 p3).1, (m_L_heldAfter1 sL p1 p2 p3).2) : Int64 × St) := hM
            exact hret (m_L_heldAfter1 sL p1 p2 p3).1 H locs _ ls dX4_held_64 (ret1 hM) (rP_v1 (P := fun (z0 : St) => va_P D vwCl (cellT cI g sT vT) H ∧ va_P D vwCl (cellM cI g sM) H ∧ va_P D vwCl (cellB cI g sB) H ∧ va_P D vwCl (cellL cI g z0) H ∧ va_P D vwCl (cellS cI g sS) H) hM ⟨hPT, hPM, hPB, hPL, hPS⟩) hS
        · have hM := hM.trans (if_neg c_4)
          have t_4 := ne_t c_4
          rw [tl_1] at t_4
          by_cases c_7 : p4 = 2
          · have hM := hM.trans (if_pos c_7)
            subst c_7
            refine lv_aload_n hx hb dX4_held_36 rfl (lv_at hl 0 rfl) ?_
            refine va_get (D := D) (ci := 4) (v := .ref (g 12)) (C := RX4) (T := TX4) (N := 7) hx hb hts hinT hown hE.1 hPT 0 rfl rfl 2 (by decide) (hts (.fieldLink RX4 26 "WallStones" "stones" "LWallStones$Wall;") (List.mem_of_getElem? (i := 1) rfl)) (fun _ h9 => h9) rfl dX4_held_37 ?_
            refine runS_i (va_runV (As := []) (rest := []) ⟨hx, hb, hml, hown, hts⟩ (K_L_firstOpen (hg.sub (by decide) (by decide)) sL (by assumption)) (cwV 0 hts gX4_held_X3_firstOpen rfl rfl rfl (by decide +kernel) ⟨Nat.le_of_ble_eq_true rfl, Nat.le_of_ble_eq_true rfl⟩) (preV_of hE hA hS hPL (va_recv hE.1 hPL (ci := 3) (q0 := 0) rfl rfl)) rfl rfl hl.1 rfl (lv_room (Nat.le_of_ble_eq_true rfl)) dX4_held_40 ⟨Nat.zero_le _, Nat.zero_le _⟩) ?_
            refine lv_bipush (v := (-9)) hx hb dX4_held_43 (by decide) ?_
            refine lv_icmp_ne (tgt := 63) hx hb dX4_held_45 (by decide) (fun c_8 => ?_) (fun c_8 => ?_)
            · have hM := hM.trans (if_neg c_8)
              have t_8 := ne_t c_8
              rw [tl_m9] at t_8
              refine lv_lconst (v := 0) hx hb dX4_held_63 (by decide) ?_
              have hM : (m_T_held sT sL p1 p2 p3 2) = ((0, sL) : Int64 × St) := hM
              exact hret 0 H locs _ ls dX4_held_64 (ret1 hM) (rP_v1 (P := fun (z0 : St) => va_P D vwCl (cellT cI g sT vT) H ∧ va_P D vwCl (cellM cI g sM) H ∧ va_P D vwCl (cellB cI g sB) H ∧ va_P D vwCl (cellL cI g z0) H ∧ va_P D vwCl (cellS cI g sS) H) hM ⟨hPT, hPM, hPB, hPL, hPS⟩) hS
            · have hM := hM.trans (if_pos c_8)
              have t_8 := eq_t c_8
              rw [tl_m9] at t_8
              refine lv_aload_n hx hb dX4_held_48 rfl (lv_at hl 0 rfl) ?_
              refine va_get (D := D) (ci := 4) (v := .ref (g 12)) (C := RX4) (T := TX4) (N := 7) hx hb hts hinT hown hE.1 hPT 0 rfl rfl 2 (by decide) (hts (.fieldLink RX4 26 "WallStones" "stones" "LWallStones$Wall;") (List.mem_of_getElem? (i := 1) rfl)) (fun _ h9 => h9) rfl dX4_held_49 ?_
              refine lv_iload_n hx hb dX4_held_52 rfl (lv_at hl 1 rfl) ?_
              refine lv_iload_n hx hb dX4_held_53 rfl (lv_at hl 2 rfl) ?_
              refine lv_iload_n hx hb dX4_held_54 rfl (lv_at hl 3 rfl) ?_
              refine lv_iload hx hb dX4_held_55 (lv_at hl 4 rfl) ?_
              have z9 := tl_2
              refine runW_l (va_runSN (As := [.ref (g 12), .int p1, .int p2, .int p3, .int 2]) (rest := []) ⟨hx, hb, hml, hown, hts⟩ (K_L_heldAfter2 (hg.sub (by decide) (by decide)) sL p1 p2 p3 (by assumption)) ⟨va_cnB 5 hts gX4_held_X3_heldAfter_n177 rfl rfl rfl hE.2.1.2.2.2.2.2.2.2.2.2 (hts (.initialized RX3) (List.mem_of_getElem? (i := 6) rfl)) (by decide +kernel) ⟨Nat.le_of_ble_eq_true rfl, Nat.le_of_ble_eq_true rfl⟩, (hts (.static yX3_heldAfter) (List.mem_of_getElem? (i := 31) rfl)), trivial⟩ (preS_of hE hA hS hPL) rfl rfl hl.1 rfl (lv_room (Nat.le_of_ble_eq_true rfl)) dX4_held_57 ⟨Nat.zero_le _, Nat.zero_le _⟩) hS (fun _ h9 => wA.sub (by decide) (by decide) _ h9) (fun H locs hQ hk hS => ?_)
              have hPT : va_P D vwCl (cellT cI g sT vT) H := wKeep hPT (wOff hg (c := 0) (n := 1) (x := 12) (y := 17) (by decide) (by decide) (by decide) (by decide) (by decide) rfl) hk
              have hPM : va_P D vwCl (cellM cI g sM) H := wKeep hPM (wOff hg (c := 1) (n := 5) (x := 12) (y := 17) (by decide) (by decide) (by decide) (by decide) (by decide) rfl) hk
              have hPB : va_P D vwCl (cellB cI g sB) H := wKeep hPB (wOff hg (c := 6) (n := 6) (x := 12) (y := 17) (by decide) (by decide) (by decide) (by decide) (by decide) rfl) hk
              have hPS : va_P D vwCl (cellS cI g sS) H := wKeep hPS (wOff hg (c := 17) (n := 2) (x := 12) (y := 17) (by decide) (by decide) (by decide) (by decide) (by decide) rfl) hk
              have hPL : va_P D vwCl (cellL cI g (m_L_heldAfter2 sL p1 p2 p3).2) H := hQ
              refine lv_goto (tgt := 64) hx hb dX4_held_60 (by decide) ?_
              have hM : (m_T_held sT sL p1 p2 p3 2) = (((m_L_heldAfter2 sL p1 p2 p3).1, (m_L_heldAfter2 sL p1 p2 p3).2) : Int64 × St) := hM
              exact hret (m_L_heldAfter2 sL p1 p2 p3).1 H locs _ ls dX4_held_64 (ret1 hM) (rP_v1 (P := fun (z0 : St) => va_P D vwCl (cellT cI g sT vT) H ∧ va_P D vwCl (cellM cI g sM) H ∧ va_P D vwCl (cellB cI g sB) H ∧ va_P D vwCl (cellL cI g z0) H ∧ va_P D vwCl (cellS cI g sS) H) hM ⟨hPT, hPM, hPB, hPL, hPS⟩) hS
          · have hM := hM.trans (if_neg c_7)
            have t_7 := ne_t c_7
            rw [tl_2] at t_7
            by_cases c_10 : p4 = 3
            · have hM := hM.trans (if_pos c_10)
              subst c_10
              refine lv_aload_n hx hb dX4_held_36 rfl (lv_at hl 0 rfl) ?_
              refine va_get (D := D) (ci := 4) (v := .ref (g 12)) (C := RX4) (T := TX4) (N := 7) hx hb hts hinT hown hE.1 hPT 0 rfl rfl 2 (by decide) (hts (.fieldLink RX4 26 "WallStones" "stones" "LWallStones$Wall;") (List.mem_of_getElem? (i := 1) rfl)) (fun _ h9 => h9) rfl dX4_held_37 ?_
              refine runS_i (va_runV (As := []) (rest := []) ⟨hx, hb, hml, hown, hts⟩ (K_L_firstOpen (hg.sub (by decide) (by decide)) sL (by assumption)) (cwV 0 hts gX4_held_X3_firstOpen rfl rfl rfl (by decide +kernel) ⟨Nat.le_of_ble_eq_true rfl, Nat.le_of_ble_eq_true rfl⟩) (preV_of hE hA hS hPL (va_recv hE.1 hPL (ci := 3) (q0 := 0) rfl rfl)) rfl rfl hl.1 rfl (lv_room (Nat.le_of_ble_eq_true rfl)) dX4_held_40 ⟨Nat.zero_le _, Nat.zero_le _⟩) ?_
              refine lv_bipush (v := (-9)) hx hb dX4_held_43 (by decide) ?_
              refine lv_icmp_ne (tgt := 63) hx hb dX4_held_45 (by decide) (fun c_11 => ?_) (fun c_11 => ?_)
              · have hM := hM.trans (if_neg c_11)
                have t_11 := ne_t c_11
                rw [tl_m9] at t_11
                refine lv_lconst (v := 0) hx hb dX4_held_63 (by decide) ?_
                have hM : (m_T_held sT sL p1 p2 p3 3) = ((0, sL) : Int64 × St) := hM
                exact hret 0 H locs _ ls dX4_held_64 (ret1 hM) (rP_v1 (P := fun (z0 : St) => va_P D vwCl (cellT cI g sT vT) H ∧ va_P D vwCl (cellM cI g sM) H ∧ va_P D vwCl (cellB cI g sB) H ∧ va_P D vwCl (cellL cI g z0) H ∧ va_P D vwCl (cellS cI g sS) H) hM ⟨hPT, hPM, hPB, hPL, hPS⟩) hS
              · have hM := hM.trans (if_pos c_11)
                have t_11 := eq_t c_11
                rw [tl_m9] at t_11
                refine lv_aload_n hx hb dX4_held_48 rfl (lv_at hl 0 rfl) ?_
                refine va_get (D := D) (ci := 4) (v := .ref (g 12)) (C := RX4) (T := TX4) (N := 7) hx hb hts hinT hown hE.1 hPT 0 rfl rfl 2 (by decide) (hts (.fieldLink RX4 26 "WallStones" "stones" "LWallStones$Wall;") (List.mem_of_getElem? (i := 1) rfl)) (fun _ h9 => h9) rfl dX4_held_49 ?_
                refine lv_iload_n hx hb dX4_held_52 rfl (lv_at hl 1 rfl) ?_
                refine lv_iload_n hx hb dX4_held_53 rfl (lv_at hl 2 rfl) ?_
                refine lv_iload_n hx hb dX4_held_54 rfl (lv_at hl 3 rfl) ?_
                refine lv_iload hx hb dX4_held_55 (lv_at hl 4 rfl) ?_
                have z12 := tl_3
                refine runW_l (va_runSN (As := [.ref (g 12), .int p1, .int p2, .int p3, .int 3]) (rest := []) ⟨hx, hb, hml, hown, hts⟩ (K_L_heldAfter3 (hg.sub (by decide) (by decide)) sL p1 p2 p3 (by assumption)) ⟨va_cnB 5 hts gX4_held_X3_heldAfter_n177 rfl rfl rfl hE.2.1.2.2.2.2.2.2.2.2.2 (hts (.initialized RX3) (List.mem_of_getElem? (i := 6) rfl)) (by decide +kernel) ⟨Nat.le_of_ble_eq_true rfl, Nat.le_of_ble_eq_true rfl⟩, (hts (.static yX3_heldAfter) (List.mem_of_getElem? (i := 31) rfl)), trivial⟩ (preS_of hE hA hS hPL) rfl rfl hl.1 rfl (lv_room (Nat.le_of_ble_eq_true rfl)) dX4_held_57 ⟨Nat.zero_le _, Nat.zero_le _⟩) hS (fun _ h9 => wA.sub (by decide) (by decide) _ h9) (fun H locs hQ hk hS => ?_)
                have hPT : va_P D vwCl (cellT cI g sT vT) H := wKeep hPT (wOff hg (c := 0) (n := 1) (x := 12) (y := 17) (by decide) (by decide) (by decide) (by decide) (by decide) rfl) hk
                have hPM : va_P D vwCl (cellM cI g sM) H := wKeep hPM (wOff hg (c := 1) (n := 5) (x := 12) (y := 17) (by decide) (by decide) (by decide) (by decide) (by decide) rfl) hk
                have hPB : va_P D vwCl (cellB cI g sB) H := wKeep hPB (wOff hg (c := 6) (n := 6) (x := 12) (y := 17) (by decide) (by decide) (by decide) (by decide) (by decide) rfl) hk
                have hPS : va_P D vwCl (cellS cI g sS) H := wKeep hPS (wOff hg (c := 17) (n := 2) (x := 12) (y := 17) (by decide) (by decide) (by decide) (by decide) (by decide) rfl) hk
                have hPL : va_P D vwCl (cellL cI g (m_L_heldAfter3 sL p1 p2 p3).2) H := hQ
                refine lv_goto (tgt := 64) hx hb dX4_held_60 (by decide) ?_
                have hM : (m_T_held sT sL p1 p2 p3 3) = (((m_L_heldAfter3 sL p1 p2 p3).1, (m_L_heldAfter3 sL p1 p2 p3).2) : Int64 × St) := hM
                exact hret (m_L_heldAfter3 sL p1 p2 p3).1 H locs _ ls dX4_held_64 (ret1 hM) (rP_v1 (P := fun (z0 : St) => va_P D vwCl (cellT cI g sT vT) H ∧ va_P D vwCl (cellM cI g sM) H ∧ va_P D vwCl (cellB cI g sB) H ∧ va_P D vwCl (cellL cI g z0) H ∧ va_P D vwCl (cellS cI g sS) H) hM ⟨hPT, hPM, hPB, hPL, hPS⟩) hS
            · have hM := hM.trans (if_neg c_10)
              have t_10 := ne_t c_10
              rw [tl_3] at t_10
              by_cases c_13 : p4 = 4
              · have hM := hM.trans (if_pos c_13)
                subst c_13
                refine lv_aload_n hx hb dX4_held_36 rfl (lv_at hl 0 rfl) ?_
                refine va_get (D := D) (ci := 4) (v := .ref (g 12)) (C := RX4) (T := TX4) (N := 7) hx hb hts hinT hown hE.1 hPT 0 rfl rfl 2 (by decide) (hts (.fieldLink RX4 26 "WallStones" "stones" "LWallStones$Wall;") (List.mem_of_getElem? (i := 1) rfl)) (fun _ h9 => h9) rfl dX4_held_37 ?_
                refine runS_i (va_runV (As := []) (rest := []) ⟨hx, hb, hml, hown, hts⟩ (K_L_firstOpen (hg.sub (by decide) (by decide)) sL (by assumption)) (cwV 0 hts gX4_held_X3_firstOpen rfl rfl rfl (by decide +kernel) ⟨Nat.le_of_ble_eq_true rfl, Nat.le_of_ble_eq_true rfl⟩) (preV_of hE hA hS hPL (va_recv hE.1 hPL (ci := 3) (q0 := 0) rfl rfl)) rfl rfl hl.1 rfl (lv_room (Nat.le_of_ble_eq_true rfl)) dX4_held_40 ⟨Nat.zero_le _, Nat.zero_le _⟩) ?_
                refine lv_bipush (v := (-9)) hx hb dX4_held_43 (by decide) ?_
                refine lv_icmp_ne (tgt := 63) hx hb dX4_held_45 (by decide) (fun c_14 => ?_) (fun c_14 => ?_)
                · have hM := hM.trans (if_neg c_14)
                  have t_14 := ne_t c_14
                  rw [tl_m9] at t_14
                  refine lv_lconst (v := 0) hx hb dX4_held_63 (by decide) ?_
                  have hM : (m_T_held sT sL p1 p2 p3 4) = ((0, sL) : Int64 × St) := hM
                  exact hret 0 H locs _ ls dX4_held_64 (ret1 hM) (rP_v1 (P := fun (z0 : St) => va_P D vwCl (cellT cI g sT vT) H ∧ va_P D vwCl (cellM cI g sM) H ∧ va_P D vwCl (cellB cI g sB) H ∧ va_P D vwCl (cellL cI g z0) H ∧ va_P D vwCl (cellS cI g sS) H) hM ⟨hPT, hPM, hPB, hPL, hPS⟩) hS
                · have hM := hM.trans (if_pos c_14)
                  have t_14 := eq_t c_14
                  rw [tl_m9] at t_14
                  refine lv_aload_n hx hb dX4_held_48 rfl (lv_at hl 0 rfl) ?_
                  refine va_get (D := D) (ci := 4) (v := .ref (g 12)) (C := RX4) (T := TX4) (N := 7) hx hb hts hinT hown hE.1 hPT 0 rfl rfl 2 (by decide) (hts (.fieldLink RX4 26 "WallStones" "stones" "LWallStones$Wall;") (List.mem_of_getElem? (i := 1) rfl)) (fun _ h9 => h9) rfl dX4_held_49 ?_
                  refine lv_iload_n hx hb dX4_held_52 rfl (lv_at hl 1 rfl) ?_
                  refine lv_iload_n hx hb dX4_held_53 rfl (lv_at hl 2 rfl) ?_
                  refine lv_iload_n hx hb dX4_held_54 rfl (lv_at hl 3 rfl) ?_
                  refine lv_iload hx hb dX4_held_55 (lv_at hl 4 rfl) ?_
                  have z15 := tl_4
                  refine runW_l (va_runSN (As := [.ref (g 12), .int p1, .int p2, .int p3, .int 4]) (rest := []) ⟨hx, hb, hml, hown, hts⟩ (K_L_heldAfter4 (hg.sub (by decide) (by decide)) sL p1 p2 p3 (by assumption)) ⟨va_cnB 5 hts gX4_held_X3_heldAfter_n177 rfl rfl rfl hE.2.1.2.2.2.2.2.2.2.2.2 (hts (.initialized RX3) (List.mem_of_getElem? (i := 6) rfl)) (by decide +kernel) ⟨Nat.le_of_ble_eq_true rfl, Nat.le_of_ble_eq_true rfl⟩, (hts (.static yX3_heldAfter) (List.mem_of_getElem? (i := 31) rfl)), trivial⟩ (preS_of hE hA hS hPL) rfl rfl hl.1 rfl (lv_room (Nat.le_of_ble_eq_true rfl)) dX4_held_57 ⟨Nat.zero_le _, Nat.zero_le _⟩) hS (fun _ h9 => wA.sub (by decide) (by decide) _ h9) (fun H locs hQ hk hS => ?_)
                  have hPT : va_P D vwCl (cellT cI g sT vT) H := wKeep hPT (wOff hg (c := 0) (n := 1) (x := 12) (y := 17) (by decide) (by decide) (by decide) (by decide) (by decide) rfl) hk
                  have hPM : va_P D vwCl (cellM cI g sM) H := wKeep hPM (wOff hg (c := 1) (n := 5) (x := 12) (y := 17) (by decide) (by decide) (by decide) (by decide) (by decide) rfl) hk
                  have hPB : va_P D vwCl (cellB cI g sB) H := wKeep hPB (wOff hg (c := 6) (n := 6) (x := 12) (y := 17) (by decide) (by decide) (by decide) (by decide) (by decide) rfl) hk
                  have hPS : va_P D vwCl (cellS cI g sS) H := wKeep hPS (wOff hg (c := 17) (n := 2) (x := 12) (y := 17) (by decide) (by decide) (by decide) (by decide) (by decide) rfl) hk
                  have hPL : va_P D vwCl (cellL cI g (m_L_heldAfter4 sL p1 p2 p3).2) H := hQ
                  refine lv_goto (tgt := 64) hx hb dX4_held_60 (by decide) ?_
                  have hM : (m_T_held sT sL p1 p2 p3 4) = (((m_L_heldAfter4 sL p1 p2 p3).1, (m_L_heldAfter4 sL p1 p2 p3).2) : Int64 × St) := hM
                  exact hret (m_L_heldAfter4 sL p1 p2 p3).1 H locs _ ls dX4_held_64 (ret1 hM) (rP_v1 (P := fun (z0 : St) => va_P D vwCl (cellT cI g sT vT) H ∧ va_P D vwCl (cellM cI g sM) H ∧ va_P D vwCl (cellB cI g sB) H ∧ va_P D vwCl (cellL cI g z0) H ∧ va_P D vwCl (cellS cI g sS) H) hM ⟨hPT, hPM, hPB, hPL, hPS⟩) hS
              · have hM := hM.trans (if_neg c_13)
                have t_13 := ne_t c_13
                rw [tl_4] at t_13
                exact False.elim (by omega)
      · have hM := hM.trans (if_pos c_3)
        have t_3 := eq_t c_3
        rw [tl_0] at t_3
        refine lv_ldc2 (own := RX4) (index := 175) (v := (-1)) hx hb hown (hts (.constantLong RX4 175 (-1)) (List.mem_of_getElem? (i := 2) rfl)) dX4_held_32 ?_
        have hM : (m_T_held sT sL p1 p2 p3 p4) = (((-1), sL) : Int64 × St) := hM
        exact hret (-1) H locs _ ls dX4_held_35 (ret1 hM) (rP_v1 (P := fun (z0 : St) => va_P D vwCl (cellT cI g sT vT) H ∧ va_P D vwCl (cellM cI g sM) H ∧ va_P D vwCl (cellB cI g sB) H ∧ va_P D vwCl (cellL cI g z0) H ∧ va_P D vwCl (cellS cI g sS) H) hM ⟨hPT, hPM, hPB, hPL, hPS⟩) hS
