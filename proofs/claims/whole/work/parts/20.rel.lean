/-! how the class' state and the reference's belong together -/
/-- bit y of a column's number, as the reference keeps it -/
def bt (v : Int32) (y : Nat) : Int32 := if v.toInt.toNat.testBit y then 1 else 0
def relT (sT : St) (vT : Int64) (sR : St) (vR : Int64) : Prop :=
  sT 0 4 = sR 0 13 ∧ sT 0 5 = sR 0 14 ∧ vT = vR ∧ 0 ≤ (sR 0 13).toInt ∧ (sR 0 13).toInt ≤ 3
def relM (sM sR : St) : Prop :=
  (∀ i, i < 9 → sM 1 i = sR 1 i) ∧ sM 0 5 = sR 0 1 ∧ (-20 ≤ (sR 0 1).toInt ∧ (sR 0 1).toInt ≤ 20) ∧
  (∀ t : Nat, 1 ≤ t → t ≤ 160 → sM 2 t = m_R_givenAt sR (Int32.ofNat t)) ∧
  (1 ≤ (sM 0 4).toInt ∧ (sM 0 4).toInt ≤ 161) ∧
  (∀ t : Nat, 1 ≤ t → (t : Int) < (sM 0 4).toInt → 0 < (sM 2 t).toInt) ∧
  ((sM 0 4).toInt ≤ 160 → (sM 2 (sM 0 4).toInt.toNat).toInt ≤ 0)
def relB (sB sR : St) : Prop :=
  sB 0 5 = sR 0 3 ∧ sB 0 6 = sR 0 2 ∧ (0 ≤ (sR 0 2).toInt ∧ (sR 0 2).toInt ≤ 50) ∧
  ∀ i, i < 16 → sB 2 i = sR 5 i ∧ sB 3 i = sR 6 i ∧ 0 ≤ (sR 6 i).toInt ∧ (sR 6 i).toInt ≤ 2000
/-- column x -/
def relC (sL sR : St) (x : Nat) : Prop :=
  (0 ≤ (sL 2 x).toInt ∧ (sL 2 x).toInt < 2 ^ (sR 0 7).toInt.toNat) ∧ (0 ≤ (sL 3 x).toInt ∧ (sL 3 x).toInt < 2 ^ (sR 0 7).toInt.toNat) ∧
  ∀ y : Nat, (y : Int) < (sR 0 7).toInt →
    sR 9 (x + (sR 0 6).toInt.toNat * y) = bt (sL 2 x) y ∧ sR 11 (x + (sR 0 6).toInt.toNat * y) = bt (sL 3 x) y ∧
    sL 1 (6 * x + y) = sR 10 (x + (sR 0 6).toInt.toNat * y) ∧ (-99 ≤ (sL 1 (6 * x + y)).toInt ∧ (sL 1 (6 * x + y)).toInt ≤ 99) ∧
    (bt (sL 2 x) y = 1 → 1 ≤ (sL 1 (6 * x + y)).toInt)
def relL (sL sR : St) : Prop :=
  sL 0 4 = sR 0 6 ∧ sL 0 5 = sR 0 7 ∧ sL 0 6 = sR 0 11 ∧ (∀ i, i < 9 → sL 4 i = sR 13 i ∧ 0 ≤ (sR 13 i).toInt ∧ (sR 13 i).toInt ≤ 9) ∧
  ∀ x : Nat, (x : Int) < (sR 0 6).toInt → relC sL sR x
def relS (sS sR : St) : Prop :=
  (∀ i, i < 5 → sS 1 i = sR 16 i) ∧ (1 ≤ (sR 16 0).toInt ∧ (sR 16 0).toInt ≤ 200) ∧ (0 ≤ (sR 16 1).toInt ∧ (sR 16 1).toInt ≤ 9999) ∧ (0 ≤ (sR 16 2).toInt ∧ (sR 16 2).toInt ≤ 9999) ∧ (0 ≤ (sR 16 3).toInt ∧ (sR 16 3).toInt ≤ 9999) ∧ (1 ≤ (sR 16 4).toInt ∧ (sR 16 4).toInt ≤ 200) ∧
  sS 0 1 = sR 0 16 ∧ sS 0 2 = sR 0 17 ∧ 0 ≤ (sR 0 17).toInt
def Rel (sT : St) (vT : Int64) (sM sB sL sS sR : St) (vR : Int64) : Prop :=
  okR sR ∧ relT sT vT sR vR ∧ relM sM sR ∧ relB sB sR ∧ relL sL sR ∧ relS sS sR
theorem Rel_okB {sT : St} {vT : Int64} {sM sB sL sS sR : St} {vR : Int64} (h : Rel sT vT sM sB sL sS sR vR) : okB sB := by
  obtain ⟨hR, -, -, ⟨h5, -, -, hs⟩, -, -⟩ := h
  have nR := okR_lin hR
  refine ⟨by rw [h5]; omega, fun i hi => ?_⟩
  rw [(hs i hi).1]
  exact hR.2 i hi
theorem Rel_okL {sT : St} {vT : Int64} {sM sB sL sS sR : St} {vR : Int64} (h : Rel sT vT sM sB sL sS sR vR) : okL sL := by
  obtain ⟨hR, -, -, -, ⟨h4, h5, -⟩, -⟩ := h
  have nR := okR_lin hR
  unfold okL
  rw [h4, h5]
  omega
