/-! the reference's pairs; left -/
def sumI (f : Nat → Int32) : Nat → Int
  | 0 => 0
  | k + 1 => sumI f k + (f k).toInt
theorem sumI_ext {f g : Nat → Int32} : ∀ {k : Nat}, (∀ i, i < k → f i = g i) → sumI f k = sumI g k
  | 0, _ => rfl
  | k + 1, h => by
    unfold sumI
    rw [sumI_ext (fun i hi => h i (by omega)), h k (by omega)]
def prOk (g : Nat → Int32) (sR : St) (x : Int32) (s j k : Nat) : Prop := (Qk g sR s ((j : Int) - 12) k ∧ x = 1) ∨ (¬ Qk g sR s ((j : Int) - 12) k ∧ x = 0)
section FIND
variable {sM sB sR : St} {g : Nat → Int32}
set_option maxRecDepth 100000 in
theorem find_spec (hR : okR sR) (hM : relM sM sR) (hB : relB sB sR) (hgd : ∀ h, h < 61 → g h = m_R_step sR (sR 1 3) (Int32.ofNat h) 0 25) (hg : gOk g) :
    Rs sR (m_R_findLeft sR).2 ∧ (∀ h, h < 61 → (m_R_findLeft sR).2 27 h = g h) ∧ (∀ s j, s < 31 → j < 25 → prOk g sR ((m_R_findLeft sR).2 28 (25 * s + j)) s j (sR 0 3).toInt.toNat) ∧ (m_R_findLeft sR).1.toInt = sumI ((m_R_findLeft sR).2 28) 775 := by
  have nR := okR_lin hR
  have z61 : (61 : Int32).toInt = 61 := by decide +kernel
  have z775 : (775 : Int32).toInt = 775 := by decide +kernel
  have k1 := wl_run (f := g_R_findLeft_2) (fun k v => Rs sR v.1 ∧ (∀ h, h < k → v.1 27 h = g h) ∧ v.2.toInt = (k : Int)) 61 (by
    rintro k ⟨t, i⟩ hk ⟨g1, g2, g3⟩
    dsimp only at g1 g2 g3
    have hRt := okR_ext hR (g1.row (by decide) (by decide)) (g1.row (by decide) (by decide)) (g1.fld (by decide)) (g1.fld (by decide)) (g1.fld (by decide)) (g1.fld (by decide)) (g1.fld (by decide))
    have hMt := relM_ext hM (g1.row (k := 1) (by decide) (by decide)) (g1.fld (by decide))
    have ei : i = Int32.ofNat k := eq_ofNat g3
    have q1 := (reckon_step (a := sR 1 3) (b := i) hRt hMt (by omega) (by omega)).1
    have q2 := (reckon_step (a := sR 1 3) (b := i) hR hM (by omega) (by omega)).1
    have e : m_R_step t (sR 1 3) i 0 25 = g k := by rw [hgd k hk, ← ei, ← q1, q2]
    have e13 : t 1 3 = sR 1 3 := by rw [g1.row (k := 1) (by decide) (by decide)]
    refine ⟨(up (m_R_step t (sR 1 3) i) 27 k (g k), i + 1), ?_, ?_, ?_, ?_⟩
    · show f_R_findLeft_2 t i = _
      unfold f_R_findLeft_2
      rw [if_neg (fun q => by have := le_t q; omega), cl_n g3, e13, e]
    · intro p j hp
      dsimp only
      rw [up_ne (fun q => hp (by unfold scr; omega))]
      exact (g1.tr Rs.step) p j hp
    · intro h hh
      dsimp only
      rw [up_row]
      by_cases e : h = k
      · rw [if_pos e, e]
      · rw [if_neg e, fr_R_step (by omega)]; exact g2 h (by omega)
    · dsimp only
      rw [t_inc (by omega)]; omega) (by
    rintro ⟨t, i⟩ ⟨g1, g2, g3⟩
    dsimp only at g3
    show f_R_findLeft_2 t i = none
    unfold f_R_findLeft_2
    rw [if_pos (Int32.le_iff_toInt_le.mpr (by omega))]) 62 0 (sR, 0) (by omega) (by omega) ⟨Rs.rf, fun h hh => by omega, by rw [tl_0]; rfl⟩
  have hst : m_R_findLeft sR = ((wl g_R_findLeft_39 776 ((wl g_R_findLeft_2 62 (sR, 0)).1, 0, 0)).2.1, (wl g_R_findLeft_39 776 ((wl g_R_findLeft_2 62 (sR, 0)).1, 0, 0)).1) := rfl
  rw [hst]
  dsimp only
  generalize (wl g_R_findLeft_2 62 (sR, 0)) = V at k1 ⊢
  obtain ⟨v1, v2, -⟩ := k1
  have k2 := wl_run (f := g_R_findLeft_39) (fun k v => Rs sR v.1 ∧ (∀ h, h < 61 → v.1 27 h = g h) ∧ (∀ p, p < k → prOk g sR (v.1 28 p) (p / 25) (p % 25) (sR 0 3).toInt.toNat) ∧ (v.2.1.toInt = sumI (v.1 28) k ∧ 0 ≤ v.2.1.toInt ∧ v.2.1.toInt ≤ (k : Int)) ∧ v.2.2.toInt = (k : Int)) 775 (by
    rintro p ⟨u, c, x⟩ hp ⟨g1, g2, g3, g4, g5⟩
    dsimp only at g1 g2 g3 g4 g5
    have k3 := wl_run (f := g_R_findLeft_55 x) (fun k w => Rs sR w.1 ∧ (∀ h, h < 61 → w.1 27 h = g h) ∧ (∀ q, q ≠ p → w.1 28 q = u 28 q) ∧ prOk g sR (w.1 28 p) (p / 25) (p % 25) k ∧ w.2.toInt = (k : Int)) (sR 0 3).toInt.toNat (by
      rintro k ⟨w, i⟩ hk ⟨q1, q2, q3, q4, q5⟩
      dsimp only at q1 q2 q3 q4 q5
      have hk16 : k < 16 := by omega
      have hh := hR.2 k hk16
      have hf := hB.2.2.2 k hk16
      have hp2 := hB.2.2.1
      have e03 : w 0 3 = sR 0 3 := q1.fld (by decide)
      have e02 : w 0 2 = sR 0 2 := q1.fld (by decide)
      have e5 : w 5 = sR 5 := q1.row (by decide) (by decide)
      have e6 : w 6 = sR 6 := q1.row (by decide) (by decide)
      have ec : Int32.toNatClampNeg (sR 5 k) = (sR 5 k).toInt.toNat := rfl
      have hi : (i + 1).toInt = ((k + 1 : Nat) : Int) := by rw [t_inc (by omega)]; omega
      have eg : w 27 (sR 5 k).toInt.toNat = g (sR 5 k).toInt.toNat := q2 _ (by omega)
      have frs : ∀ z, Rs sR (up w 28 p z) := fun z a j ha => by rw [up_ne (fun q => ha (by unfold scr; omega))]; exact q1 a j ha
      have fr27 : ∀ z h, h < 61 → up w 28 p z 27 h = g h := fun z h hh => by rw [up_other (by omega)]; exact q2 h hh
      have fr28 : ∀ z q, q ≠ p → up w 28 p z 28 q = u 28 q := fun z q hq => by rw [up_other (by omega)]; exact q3 q hq
      have hfm : g_R_findLeft_55 x (w, i) = (if g (sR 5 k).toInt.toNat = -9 then some ((up w 28 p 0), (i + 1)) else (if (m_R_size ((m_R_lands (g (sR 5 k).toInt.toNat) x) - (sR 6 k))) ≤ (sR 0 2) then some ((up w 28 p (w 28 p)), (i + 1)) else some ((up w 28 p 0), (i + 1)))) := by
        show f_R_findLeft_55 x w i = _
        unfold f_R_findLeft_55
        rw [if_neg (fun q => by have := le_t q; rw [e03] at this; omega), cl_n q5, cl_n g5, e02, e5, e6, ec, eg]
      by_cases c9 : g (sR 5 k).toInt.toNat = -9
      · refine ⟨_, by rw [hfm, if_pos c9], frs 0, fr27 0, fr28 0, Or.inr ⟨fun q => (Qk_s.mp q).2.1 c9, (up_get : up w 28 p 0 28 p = 0)⟩, hi⟩
      have rb := (hg _ (by omega)).resolve_left c9
      have lt := lands_t (r := g (sR 5 k).toInt.toNat) (p := x) (s := p / 25) (j := p % 25) rb (by rw [g5]; congr 1; omega) (by omega) (by omega)
      have sb := sc_b rb (s := p / 25) (by omega)
      have ed : ((m_R_lands (g (sR 5 k).toInt.toNat) x) - (sR 6 k)).toInt = (m_R_lands (g (sR 5 k).toInt.toNat) x).toInt - (sR 6 k).toInt := t_sub (by omega) (by omega)
      have sz := size_t (x := (m_R_lands (g (sR 5 k).toInt.toNat) x) - (sR 6 k)) (by omega)
      rw [ed] at sz
      by_cases cs : (m_R_size ((m_R_lands (g (sR 5 k).toInt.toNat) x) - (sR 6 k))) ≤ (sR 0 2)
      · have l := le_t cs
        rw [sz] at l
        refine ⟨_, by rw [hfm, if_neg c9, if_pos cs], frs (w 28 p), fr27 (w 28 p), fr28 (w 28 p), ?_, hi⟩
        dsimp only
        rw [up_get]
        rcases q4 with ⟨a1, a2⟩ | ⟨a1, a2⟩
        · exact Or.inl ⟨Qk_s.mpr ⟨a1, c9, by omega, by omega⟩, a2⟩
        · exact Or.inr ⟨fun q => a1 (Qk_s.mp q).1, a2⟩
      · have l := nle_t cs
        rw [sz] at l
        refine ⟨_, by rw [hfm, if_neg c9, if_neg cs], frs 0, fr27 0, fr28 0, Or.inr ⟨fun q => ?_, (up_get : up w 28 p 0 28 p = 0)⟩, hi⟩
        have := (Qk_s.mp q).2.2
        omega) (by
      rintro ⟨w, i⟩ ⟨q1, q2, q3, q4, q5⟩
      dsimp only at q1 q5
      have e03 : w 0 3 = sR 0 3 := q1.fld (by decide)
      show f_R_findLeft_55 x w i = none
      unfold f_R_findLeft_55
      rw [if_pos (Int32.le_iff_toInt_le.mpr (by rw [e03]; omega))]) 17 0 ((up u 28 p 1), 0) (by omega) (by omega) ⟨fun a j ha => by dsimp only; rw [up_ne (fun q => ha (by unfold scr; omega))]; exact g1 a j ha, fun h hh => by dsimp only; rw [up_other (by omega)]; exact g2 h hh, fun q hq => (up_other (by omega) : up u 28 p 1 28 q = u 28 q), Or.inl ⟨fun i hi => by omega, (up_get : up u 28 p 1 28 p = 1)⟩, by rw [tl_0]; rfl⟩
    have hf : g_R_findLeft_39 (u, c, x) = some ((wl (g_R_findLeft_55 x) 17 ((up u 28 p 1), 0)).1, c + (wl (g_R_findLeft_55 x) 17 ((up u 28 p 1), 0)).1 28 p, x + 1) := by
      show f_R_findLeft_39 u c x = _
      unfold f_R_findLeft_39 b_R_findLeft_128
      rw [if_neg (fun q => by have := le_t q; omega), cl_n g5]
    refine ⟨_, hf, ?_⟩
    generalize (wl (g_R_findLeft_55 x) 17 ((up u 28 p 1), 0)) = Z at k3 ⊢
    obtain ⟨q1, q2, q3, q4, -⟩ := k3
    have zb : 0 ≤ (Z.1 28 p).toInt ∧ (Z.1 28 p).toInt ≤ 1 := by
      rcases q4 with ⟨-, a2⟩ | ⟨-, a2⟩
      · rw [a2, tl_1]; omega
      · rw [a2, tl_0]; omega
    have ea : (c + Z.1 28 p).toInt = c.toInt + (Z.1 28 p).toInt := t_add (by omega) (by omega)
    refine ⟨q1, q2, fun q hq => ?_, ⟨?_, ?_, ?_⟩, ?_⟩
    · by_cases e : q = p
      · rw [e]; exact q4
      · dsimp only
        rw [q3 q e]
        exact g3 q (by omega)
    · dsimp only
      rw [ea, g4.1]
      show _ = sumI (Z.1 28) p + (Z.1 28 p).toInt
      rw [sumI_ext (f := u 28) (g := Z.1 28) (fun i hi => (q3 i (by omega)).symm)]
    · dsimp only
      rw [ea]; omega
    · dsimp only
      rw [ea]; omega
    · dsimp only
      rw [t_inc (by omega)]; omega) (by
    rintro ⟨u, c, x⟩ ⟨g1, g2, g3, g4, g5⟩
    dsimp only at g5
    show f_R_findLeft_39 u c x = none
    unfold f_R_findLeft_39
    rw [if_pos (Int32.le_iff_toInt_le.mpr (by omega))]) 776 0 (V.1, 0, 0) (by omega) (by omega) ⟨v1, v2, fun p hp => by omega, ⟨by rw [tl_0]; rfl, by rw [tl_0]; omega, by rw [tl_0]; omega⟩, by rw [tl_0]; rfl⟩
  obtain ⟨w1, w2, w3, w4, -⟩ := k2
  refine ⟨w1, w2, fun s j hs hj => ?_, w4.1⟩
  have q := w3 (25 * s + j) (by omega)
  rw [show (25 * s + j) / 25 = s by omega, show (25 * s + j) % 25 = j by omega] at q
  exact q
/-- how many drifts of a scale are left -/
def leftN (lo hi : Int) : Int := if lo ≤ hi then hi - lo + 1 else 0
def SB (B : St) : Nat → Int
  | 0 => 0
  | s + 1 => SB B s + leftN (B 4 s).toInt (B 5 s).toInt
theorem SB_b {B : St} (hs : ∀ s, s < 31 → scOk g sR s (sR 0 3).toInt.toNat (B 4 s) (B 5 s)) : ∀ s, s ≤ 31 → 0 ≤ SB B s ∧ SB B s ≤ 25 * (s : Int)
  | 0, _ => by unfold SB; omega
  | s + 1, h => by
    have ih := SB_b hs s (by omega)
    obtain ⟨o1, o2, -⟩ := hs s (by omega)
    unfold SB leftN
    split <;> omega
theorem pairsB {B : St} (hs : ∀ s, s < 31 → scOk g sR s (sR 0 3).toInt.toNat (B 4 s) (B 5 s)) : (m_B_pairsLeft B).toInt = SB B 31 := by
  have z31 : (31 : Int32).toInt = 31 := by decide +kernel
  have k := wl_run (f := g_B_pairsLeft_4 B) (fun k v => v.1.toInt = SB B k ∧ v.2.toInt = (k : Int)) 31 (by
    rintro k ⟨c, i⟩ hk ⟨g1, g2⟩
    dsimp only at g1 g2
    have b := SB_b hs k (by omega)
    obtain ⟨o1, o2, -⟩ := hs k hk
    have hi : (i + 1).toInt = ((k + 1 : Nat) : Int) := by rw [t_inc (by omega)]; omega
    have n : ¬ 31 ≤ i := fun q => by have := le_t q; omega
    by_cases c1 : B 5 k < B 4 k
    · have l := lt_t c1
      refine ⟨(c + 0, i + 1), ?_, ?_, hi⟩
      · show f_B_pairsLeft_4 B c i = _
        unfold f_B_pairsLeft_4 m_B_isLeft
        rw [if_neg n, cl_n g2, if_pos c1, if_pos rfl]
      · dsimp only
        rw [t_add (by rw [tl_0]; omega) (by rw [tl_0]; omega), tl_0]
        unfold SB leftN
        rw [if_neg (by omega)]; omega
    · have l := nlt_t c1
      have e1 : (B 5 k - B 4 k).toInt = (B 5 k).toInt - (B 4 k).toInt := t_sub (by omega) (by omega)
      have e2 : (B 5 k - B 4 k + 1).toInt = (B 5 k).toInt - (B 4 k).toInt + 1 := by rw [t_inc (by omega), e1]
      refine ⟨(c + (B 5 k - B 4 k + 1), i + 1), ?_, ?_, hi⟩
      · show f_B_pairsLeft_4 B c i = _
        unfold f_B_pairsLeft_4 m_B_isLeft
        rw [if_neg n, cl_n g2, if_neg c1, if_neg (by decide)]
      · dsimp only
        rw [t_add (by omega) (by omega), e2]
        unfold SB leftN
        rw [if_pos (by omega)]; omega) (by
    rintro ⟨c, i⟩ ⟨g1, g2⟩
    dsimp only at g2
    show f_B_pairsLeft_4 B c i = none
    unfold f_B_pairsLeft_4
    rw [if_pos (Int32.le_iff_toInt_le.mpr (by omega))]) 32 0 (0, 0) (by omega) (by omega) ⟨by rw [tl_0]; rfl, by rw [tl_0]; rfl⟩
  exact k.1
theorem pairsR {B Y : St} (hs : ∀ s, s < 31 → scOk g sR s (sR 0 3).toInt.toNat (B 4 s) (B 5 s)) (hy : ∀ s j, s < 31 → j < 25 → prOk g sR (Y 28 (25 * s + j)) s j (sR 0 3).toInt.toNat) : sumI (Y 28) 775 = SB B 31 := by
  have inner : ∀ s, s < 31 → sumI (Y 28) (25 * s) = SB B s → ∀ j, j ≤ 25 → sumI (Y 28) (25 * s + j) = SB B s + (if (B 4 s).toInt ≤ (B 5 s).toInt then min (j : Int) ((B 5 s).toInt + 13) - min (j : Int) ((B 4 s).toInt + 12) else 0) := by
    intro s hs1 h0 j
    obtain ⟨o1, o2, o3⟩ := hs s hs1
    induction j with
    | zero =>
      intro _
      rw [show 25 * s + 0 = 25 * s by omega, h0]
      by_cases c : (B 4 s).toInt ≤ (B 5 s).toInt
      · rw [if_pos c]; omega
      · rw [if_neg c]; omega
    | succ j ih =>
      intro hj
      have ih := ih (by omega)
      show sumI (Y 28) (25 * s + j) + (Y 28 (25 * s + j)).toInt = _
      rw [ih]
      have q := o3 ((j : Int) - 12) (by omega) (by omega)
      rcases hy s j hs1 (by omega) with ⟨a1, a2⟩ | ⟨a1, a2⟩
      · have l := q.mpr a1
        rw [a2, tl_1, if_pos (by omega), if_pos (by omega)]; omega
      · have l : ¬ ((B 4 s).toInt ≤ (j : Int) - 12 ∧ (j : Int) - 12 ≤ (B 5 s).toInt) := fun k => a1 (q.mp k)
        rw [a2, tl_0]
        by_cases c : (B 4 s).toInt ≤ (B 5 s).toInt
        · rw [if_pos c, if_pos c]; omega
        · rw [if_neg c, if_neg c]; omega
  have outer : ∀ s, s ≤ 31 → sumI (Y 28) (25 * s) = SB B s := by
    intro s
    induction s with
    | zero => intro _; rfl
    | succ s ih =>
      intro h
      have ih := ih (by omega)
      have q := inner s (by omega) ih 25 (by omega)
      obtain ⟨o1, o2, -⟩ := hs s (by omega)
      rw [show 25 * (s + 1) = 25 * s + 25 by omega, q]
      show _ = SB B s + leftN (B 4 s).toInt (B 5 s).toInt
      unfold leftN
      by_cases c : (B 4 s).toInt ≤ (B 5 s).toInt
      · rw [if_pos c, if_pos c]; omega
      · rw [if_neg c, if_neg c]
  exact outer 31 (by omega)
end FIND
section S
variable {sT : St} {vT : Int64} {sM sB sL sS sR : St} {vR : Int64}
/-- all that the questions of the book need of both sides -/
theorem book_both (h : Rel sT vT sM sB sL sS sR vR) : ∃ g : Nat → Int32, gOk g ∧ Rel sT vT (m_B_study sM sB).1 (m_B_study sM sB).2 sL sS (m_R_findLeft sR).2 vR ∧ (∀ k, k < 61 → (m_B_study sM sB).2 1 k = g k) ∧ (∀ k, k < 61 → (m_R_findLeft sR).2 27 k = g k) ∧ (∀ s, s < 31 → scOk g sR s (sR 0 3).toInt.toNat ((m_B_study sM sB).2 4 s) ((m_B_study sM sB).2 5 s)) ∧ (∀ s j, s < 31 → j < 25 → prOk g sR ((m_R_findLeft sR).2 28 (25 * s + j)) s j (sR 0 3).toInt.toNat) ∧ m_B_pairsLeft (m_B_study sM sB).2 = (m_R_findLeft sR).1 := by
  have hR := h.1
  have hM := h.2.2.1
  have hB := h.2.2.2.1
  have nR := okR_lin hR
  have hg : gOk (fun k => m_R_step sR (sR 1 3) (Int32.ofNat k) 0 25) := by
    intro k hk
    exact (reckon_step (a := sR 1 3) (b := Int32.ofNat k) hR hM (by omega) (by rw [ofNat_t (by omega)]; omega)).2.2.2
  have hgd : ∀ k, k < 61 → (fun k => m_R_step sR (sR 1 3) (Int32.ofNat k) 0 25) k = m_R_step sR (sR 1 3) (Int32.ofNat k) 0 25 := fun k _ => rfl
  obtain ⟨a1, a2, a3, a4⟩ := study_spec hR hM hB hgd hg
  obtain ⟨b1, b2, b3, b4⟩ := find_spec hR hM hB hgd hg
  refine ⟨_, hg, Rel_B (Rel_M (Rel_scr h b1) (fun k j hk => a1 k j hk.1)) a2, a3, b2, a4, b3, t_ext ?_⟩
  rw [pairsB a4, b4, pairsR a4 b3]
set_option maxRecDepth 100000 in
theorem P_left (h : Rel sT vT sM sB sL sS sR vR) : (m_T_left sT sM sB).1 = (m_R_left sR).1 ∧ Rel sT vT (m_T_left sT sM sB).2.1 (m_T_left sT sM sB).2.2 sL sS (m_R_left sR).2 vR := by
  obtain ⟨g, -, q1, -, -, -, -, q2⟩ := book_both h
  unfold m_T_left m_R_left
  generalize m_R_findLeft sR = Y at q1 q2 ⊢
  generalize m_B_study sM sB = X at q1 q2 ⊢
  exact ⟨q2, q1⟩
end S
