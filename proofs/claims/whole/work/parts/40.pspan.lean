/-! where a hook lands: the least and the greatest place, on both sides -/
def lp (X : St) (h : Int32) : Nat → Int32
  | 0 => 1000000
  | s + 1 => if X 5 s < X 4 s then lp X h s else (if ((m_B_scaled X (Int32.ofNat s) h) + (X 4 s)) < lp X h s then ((m_B_scaled X (Int32.ofNat s) h) + (X 4 s)) else lp X h s)
def gp (X : St) (h : Int32) : Nat → Int32
  | 0 => -1000000
  | s + 1 => if X 5 s < X 4 s then gp X h s else (if gp X h s < ((m_B_scaled X (Int32.ofNat s) h) + (X 5 s)) then ((m_B_scaled X (Int32.ofNat s) h) + (X 5 s)) else gp X h s)
theorem z31' : (31 : Int32).toInt = 31 := by decide +kernel
theorem least_lp {X : St} {h : Int32} : m_B_leastPlace X h = lp X h 31 := by
  have k := wl_run (f := g_B_leastPlace_5 X h) (fun k v => v.1 = lp X h k ∧ v.2.toInt = (k : Int)) 31 (by
    rintro k ⟨c, i⟩ hk ⟨g1, g2⟩
    dsimp only at g1 g2
    have hi : (i + 1).toInt = ((k + 1 : Nat) : Int) := by rw [t_inc (by omega)]; omega
    have n : ¬ 31 ≤ i := fun q => by have := le_t q; rw [z31'] at this; omega
    have ei : i = Int32.ofNat k := eq_ofNat g2
    have hc : Int32.toNatClampNeg i = k := cl_n g2
    refine ⟨(lp X h (k + 1), i + 1), ?_, rfl, hi⟩
    have el : lp X h (k + 1) = if X 5 k < X 4 k then lp X h k else (if ((m_B_scaled X (Int32.ofNat k) h) + (X 4 k)) < lp X h k then ((m_B_scaled X (Int32.ofNat k) h) + (X 4 k)) else lp X h k) := rfl
    rw [el]
    show f_B_leastPlace_5 X h c i = _
    unfold f_B_leastPlace_5 m_B_isLeft
    rw [if_neg n, hc, g1]
    by_cases c1 : X 5 k < X 4 k
    · rw [if_pos c1, if_pos rfl, if_pos c1]
    · rw [if_neg c1, if_neg (show ¬ (1 : Int32) = 0 by decide), ei, if_neg c1]) (by
    rintro ⟨c, i⟩ ⟨g1, g2⟩
    dsimp only at g2
    show f_B_leastPlace_5 X h c i = none
    unfold f_B_leastPlace_5
    rw [if_pos (Int32.le_iff_toInt_le.mpr (by rw [z31']; omega))]) 32 0 (1000000, 0) (by omega) (by omega) ⟨rfl, by rw [tl_0]; rfl⟩
  exact k.1
theorem greatest_gp {X : St} {h : Int32} : m_B_greatestPlace X h = gp X h 31 := by
  have k := wl_run (f := g_B_greatestPlace_5 X h) (fun k v => v.1 = gp X h k ∧ v.2.toInt = (k : Int)) 31 (by
    rintro k ⟨c, i⟩ hk ⟨g1, g2⟩
    dsimp only at g1 g2
    have hi : (i + 1).toInt = ((k + 1 : Nat) : Int) := by rw [t_inc (by omega)]; omega
    have n : ¬ 31 ≤ i := fun q => by have := le_t q; rw [z31'] at this; omega
    have ei : i = Int32.ofNat k := eq_ofNat g2
    have hc : Int32.toNatClampNeg i = k := cl_n g2
    refine ⟨(gp X h (k + 1), i + 1), ?_, rfl, hi⟩
    have el : gp X h (k + 1) = if X 5 k < X 4 k then gp X h k else (if gp X h k < ((m_B_scaled X (Int32.ofNat k) h) + (X 5 k)) then ((m_B_scaled X (Int32.ofNat k) h) + (X 5 k)) else gp X h k) := rfl
    rw [el]
    show f_B_greatestPlace_5 X h c i = _
    unfold f_B_greatestPlace_5 m_B_isLeft
    rw [if_neg n, hc, g1]
    by_cases c1 : X 5 k < X 4 k
    · rw [if_pos c1, if_pos rfl, if_pos c1]
    · rw [if_neg c1, if_neg (show ¬ (1 : Int32) = 0 by decide), ei, if_neg c1]) (by
    rintro ⟨c, i⟩ ⟨g1, g2⟩
    dsimp only at g2
    show f_B_greatestPlace_5 X h c i = none
    unfold f_B_greatestPlace_5
    rw [if_pos (Int32.le_iff_toInt_le.mpr (by rw [z31']; omega))]) 32 0 ((-1000000), 0) (by omega) (by omega) ⟨rfl, by rw [tl_0]; rfl⟩
  exact k.1
/-- some scale below s is left -/
def anyL (lo hi : Nat → Int) (s : Nat) : Prop := ∃ t, t < s ∧ lo t ≤ hi t
theorem anyL_s {lo hi : Nat → Int} {s : Nat} : anyL lo hi (s + 1) ↔ anyL lo hi s ∨ lo s ≤ hi s := by
  constructor
  · rintro ⟨t, h1, h2⟩
    by_cases e : t = s
    · rw [e] at h2; exact Or.inr h2
    · exact Or.inl ⟨t, by omega, h2⟩
  · rintro (⟨t, h1, h2⟩ | h)
    · exact ⟨t, by omega, h2⟩
    · exact ⟨s, by omega, h⟩
def Wm (lo hi sc : Nat → Int) (L : Nat → Int32) (s j : Nat) (v : Int32) : Prop := ((s < 31 ∧ lo s ≤ hi s ∧ lo s + 12 < (j : Int)) → v.toInt = min (L s).toInt (sc s + lo s)) ∧ (¬ (s < 31 ∧ lo s ≤ hi s ∧ lo s + 12 < (j : Int)) → (anyL lo hi s → v = L s) ∧ (¬ anyL lo hi s → v = -1000))
def Wx (lo hi sc : Nat → Int) (L : Nat → Int32) (s j : Nat) (v : Int32) : Prop := ((s < 31 ∧ lo s ≤ hi s ∧ lo s + 12 < (j : Int)) → v.toInt = max (L s).toInt (sc s + min ((j : Int) - 13) (hi s))) ∧ (¬ (s < 31 ∧ lo s ≤ hi s ∧ lo s + 12 < (j : Int)) → (anyL lo hi s → v = L s) ∧ (¬ anyL lo hi s → v = -1000))
theorem tm1000 : (-1000 : Int32).toInt = -1000 := by decide +kernel
theorem z775' : (775 : Int32).toInt = 775 := by decide +kernel
section SPAN
variable {Y : St} {h : Int32} {hn : Nat} {lo hi : Nat → Int} {L : Nat → Int32}
def pairY (Y : St) (lo hi : Nat → Int) : Prop := ∀ s j : Nat, s < 31 → j < 25 → ((lo s ≤ (j : Int) - 12 ∧ (j : Int) - 12 ≤ hi s) ∧ Y 28 (25 * s + j) = 1) ∨ (¬ (lo s ≤ (j : Int) - 12 ∧ (j : Int) - 12 ≤ hi s) ∧ Y 28 (25 * s + j) = 0)
set_option maxRecDepth 100000 in
theorem spanMin (eh : h.toInt = (hn : Int)) (hr : 0 ≤ (Y 27 hn).toInt ∧ (Y 27 hn).toInt ≤ 30000) (hb : ∀ s, s < 31 → -12 ≤ lo s ∧ hi s ≤ 12) (hy : pairY Y lo hi)
    (hLs : ∀ s, s < 31 → (L (s + 1)).toInt = if lo s ≤ hi s then min (L s).toInt ((Y 27 hn).toInt * (85 + (s : Int)) / 100 + lo s) else (L s).toInt) (hLn : ∀ s, s ≤ 31 → anyL lo hi s → -12 ≤ (L s).toInt) (hLm : ∀ s, s ≤ 31 → ¬ anyL lo hi s → (L s).toInt = 1000000) (ha : anyL lo hi 31) : m_R_spanOf Y h 0 = L 31 := by
  have n9r : ¬ Y 27 hn = -9 := n9 hr.1
  have k := wl_run (f := g_R_spanOf_7 Y h 0) (fun p v => Wm lo hi (fun s => (Y 27 hn).toInt * (85 + (s : Int)) / 100) L (p / 25) (p % 25) v.1 ∧ v.2.toInt = (p : Int)) 775 (by
    rintro p ⟨v, x⟩ hp ⟨hW, hx⟩
    dsimp only at hW hx
    have hs : p / 25 < 31 := by omega
    have hj : p % 25 < 25 := by omega
    have hp25 : 25 * (p / 25) + p % 25 = p := by omega
    generalize p / 25 = s at hW hs hp25
    generalize p % 25 = j at hW hj hp25
    have hx1 : (x + 1).toInt = ((p + 1 : Nat) : Int) := by rw [t_inc (by omega)]; omega
    have lt := lands_t (r := Y 27 hn) (p := x) (s := s) (j := j) hr (by rw [hx, hp25]) hs hj
    have sb := sc_b hr hs
    have pr := hy s j hs hj
    rw [hp25] at pr
    have b := hb s hs
    have hf : g_R_spanOf_7 Y h 0 (v, x) = some ((if Y 28 p = 1 then (if v = -1000 then m_R_lands (Y 27 hn) x else (if v ≤ m_R_lands (Y 27 hn) x then v else m_R_lands (Y 27 hn) x)) else v), x + 1) := by
      show f_R_spanOf_7 Y h 0 v x = _
      unfold f_R_spanOf_7
      rw [if_neg (fun q => by have := le_t q; rw [z775'] at this; omega), cl_n hx, cl_n eh, if_neg n9r, if_pos rfl]
      by_cases c1 : Y 28 p = 1
      · rw [if_pos c1, if_pos c1]
        by_cases c2 : v = -1000
        · rw [if_pos c2, if_pos c2]
        · rw [if_neg c2, if_neg c2]
          split <;> rfl
      · rw [if_neg c1, if_neg c1]
    obtain ⟨v', ev⟩ : ∃ z, z = (if Y 28 p = 1 then (if v = -1000 then m_R_lands (Y 27 hn) x else (if v ≤ m_R_lands (Y 27 hn) x then v else m_R_lands (Y 27 hn) x)) else v) := ⟨_, rfl⟩
    rw [← ev] at hf
    obtain ⟨sc, hsc⟩ : ∃ z, z = (Y 27 hn).toInt * (85 + (s : Int)) / 100 := ⟨_, rfl⟩
    have hLs' := hLs s hs
    have hn' := hLn s (by omega)
    have hm' := hLm s (by omega)
    unfold Wm at hW
    dsimp only at hW
    rw [← hsc] at lt sb hLs' hW
    generalize m_R_lands (Y 27 hn) x = at_ at lt ev
    have hW1 : Wm lo hi (fun s => (Y 27 hn).toInt * (85 + (s : Int)) / 100) L s (j + 1) v' := by
      unfold Wm
      dsimp only
      rw [← hsc]
      rcases pr with ⟨p1, p2⟩ | ⟨p1, p2⟩
      · rw [if_pos p2] at ev
        refine ⟨fun _ => ?_, fun q => absurd ⟨hs, by omega, by omega⟩ q⟩
        by_cases c : lo s + 12 < (j : Int)
        · have w := hW.1 ⟨hs, by omega, c⟩
          have nv : ¬ v = -1000 := fun e => by
            rw [e, tm1000] at w
            by_cases A : anyL lo hi s
            · have := hn' A; omega
            · have := hm' A; omega
          rw [if_neg nv] at ev
          by_cases c2 : v ≤ at_
          · rw [if_pos c2] at ev; rw [ev]; exact w
          · have := nle_t c2
            rw [if_neg c2] at ev
            rw [ev]; omega
        · have w := hW.2 (fun q => c q.2.2)
          by_cases A : anyL lo hi s
          · have e := w.1 A
            have := hn' A
            have nv : ¬ v = -1000 := fun e2 => by rw [← e, e2, tm1000] at this; omega
            rw [if_neg nv] at ev
            by_cases c2 : v ≤ at_
            · have := le_t c2
              rw [if_pos c2] at ev; rw [ev, e]; rw [e] at this; omega
            · have := nle_t c2
              rw [if_neg c2] at ev; rw [ev]; rw [e] at this; omega
          · have e := w.2 A
            have := hm' A
            rw [if_pos e] at ev
            rw [ev]; omega
      · rw [if_neg (by rw [p2]; decide)] at ev
        rw [ev]
        by_cases c : lo s ≤ hi s ∧ lo s + 12 < (j : Int)
        · have w := hW.1 ⟨hs, c⟩
          exact ⟨fun _ => w, fun q => absurd ⟨hs, c.1, by omega⟩ q⟩
        · have w := hW.2 (fun q => c q.2)
          exact ⟨fun q => absurd ⟨by omega, by omega⟩ p1, fun _ => w⟩
    refine ⟨(v', x + 1), hf, ?_, hx1⟩
    dsimp only
    by_cases j25 : j + 1 = 25
    · rw [show (p + 1) / 25 = s + 1 by omega, show (p + 1) % 25 = 0 by omega]
      unfold Wm at hW1 ⊢
      dsimp only at hW1 ⊢
      rw [← hsc] at hW1
      refine ⟨fun q => ?_, fun _ => ⟨fun A => ?_, fun A => ?_⟩⟩
      · have := (hb (s + 1) q.1).1
        omega
      · by_cases c : lo s ≤ hi s
        · have w := hW1.1 ⟨hs, c, by omega⟩
          rw [if_pos c] at hLs'
          exact t_ext (by omega)
        · have w := hW1.2 (fun q => c q.2.1)
          rw [if_neg c] at hLs'
          rcases anyL_s.mp A with A | A
          · rw [w.1 A]; exact t_ext hLs'.symm
          · exact absurd A c
      · have c : ¬ lo s ≤ hi s := fun k => A (anyL_s.mpr (Or.inr k))
        exact (hW1.2 (fun q => c q.2.1)).2 (fun k => A (anyL_s.mpr (Or.inl k)))
    · rw [show (p + 1) / 25 = s by omega, show (p + 1) % 25 = j + 1 by omega]
      exact hW1) (by
    rintro ⟨v, x⟩ ⟨hW, hx⟩
    dsimp only at hx
    show f_R_spanOf_7 Y h 0 v x = none
    unfold f_R_spanOf_7
    rw [if_pos (Int32.le_iff_toInt_le.mpr (by rw [z775']; omega))]) 776 0 ((-1000), 0) (by omega) (by omega) ⟨(show Wm lo hi _ L 0 0 (-1000) from ⟨fun q => by have := (hb 0 (by omega)).1; have := q.2.2; omega, fun _ => ⟨fun ⟨t, ht, _⟩ => by omega, fun _ => rfl⟩⟩), by rw [tl_0]; rfl⟩
  have w := k.1
  unfold m_R_spanOf b_R_spanOf_89
  exact (w.2 (fun q => by omega)).1 ha
set_option maxRecDepth 100000 in
theorem spanMax (eh : h.toInt = (hn : Int)) (hr : 0 ≤ (Y 27 hn).toInt ∧ (Y 27 hn).toInt ≤ 30000) (hb : ∀ s, s < 31 → -12 ≤ lo s ∧ hi s ≤ 12) (hy : pairY Y lo hi)
    (hLs : ∀ s, s < 31 → (L (s + 1)).toInt = if lo s ≤ hi s then max (L s).toInt ((Y 27 hn).toInt * (85 + (s : Int)) / 100 + hi s) else (L s).toInt) (hLn : ∀ s, s ≤ 31 → anyL lo hi s → -12 ≤ (L s).toInt) (hLm : ∀ s, s ≤ 31 → ¬ anyL lo hi s → (L s).toInt = -1000000) (ha : anyL lo hi 31) : m_R_spanOf Y h 1 = L 31 := by
  have n9r : ¬ Y 27 hn = -9 := n9 hr.1
  have k := wl_run (f := g_R_spanOf_7 Y h 1) (fun p v => Wx lo hi (fun s => (Y 27 hn).toInt * (85 + (s : Int)) / 100) L (p / 25) (p % 25) v.1 ∧ v.2.toInt = (p : Int)) 775 (by
    rintro p ⟨v, x⟩ hp ⟨hW, hx⟩
    dsimp only at hW hx
    have hs : p / 25 < 31 := by omega
    have hj : p % 25 < 25 := by omega
    have hp25 : 25 * (p / 25) + p % 25 = p := by omega
    generalize p / 25 = s at hW hs hp25
    generalize p % 25 = j at hW hj hp25
    have hx1 : (x + 1).toInt = ((p + 1 : Nat) : Int) := by rw [t_inc (by omega)]; omega
    have lt := lands_t (r := Y 27 hn) (p := x) (s := s) (j := j) hr (by rw [hx, hp25]) hs hj
    have sb := sc_b hr hs
    have pr := hy s j hs hj
    rw [hp25] at pr
    have b := hb s hs
    have hf : g_R_spanOf_7 Y h 1 (v, x) = some ((if Y 28 p = 1 then (if v = -1000 then m_R_lands (Y 27 hn) x else (if m_R_lands (Y 27 hn) x ≤ v then v else m_R_lands (Y 27 hn) x)) else v), x + 1) := by
      show f_R_spanOf_7 Y h 1 v x = _
      unfold f_R_spanOf_7
      rw [if_neg (fun q => by have := le_t q; rw [z775'] at this; omega), cl_n hx, cl_n eh, if_neg n9r, if_neg (show ¬ (1 : Int32) = 0 by decide)]
      by_cases c1 : Y 28 p = 1
      · rw [if_pos c1, if_pos c1]
        by_cases c2 : v = -1000
        · rw [if_pos c2, if_pos c2]
        · rw [if_neg c2, if_neg c2]
          split <;> rfl
      · rw [if_neg c1, if_neg c1]
    obtain ⟨v', ev⟩ : ∃ z, z = (if Y 28 p = 1 then (if v = -1000 then m_R_lands (Y 27 hn) x else (if m_R_lands (Y 27 hn) x ≤ v then v else m_R_lands (Y 27 hn) x)) else v) := ⟨_, rfl⟩
    rw [← ev] at hf
    obtain ⟨sc, hsc⟩ : ∃ z, z = (Y 27 hn).toInt * (85 + (s : Int)) / 100 := ⟨_, rfl⟩
    have hLs' := hLs s hs
    have hn' := hLn s (by omega)
    have hm' := hLm s (by omega)
    unfold Wx at hW
    dsimp only at hW
    rw [← hsc] at lt sb hLs' hW
    generalize m_R_lands (Y 27 hn) x = at_ at lt ev
    have hW1 : Wx lo hi (fun s => (Y 27 hn).toInt * (85 + (s : Int)) / 100) L s (j + 1) v' := by
      unfold Wx
      dsimp only
      rw [← hsc]
      rcases pr with ⟨p1, p2⟩ | ⟨p1, p2⟩
      · rw [if_pos p2] at ev
        refine ⟨fun _ => ?_, fun q => absurd ⟨hs, by omega, by omega⟩ q⟩
        by_cases c : lo s + 12 < (j : Int)
        · have w := hW.1 ⟨hs, by omega, c⟩
          have nv : ¬ v = -1000 := fun e => by
            rw [e, tm1000] at w
            omega
          rw [if_neg nv] at ev
          by_cases c2 : at_ ≤ v
          · have := le_t c2
            rw [if_pos c2] at ev; rw [ev]; omega
          · have := nle_t c2
            rw [if_neg c2] at ev
            rw [ev]; omega
        · have w := hW.2 (fun q => c q.2.2)
          by_cases A : anyL lo hi s
          · have e := w.1 A
            have := hn' A
            have nv : ¬ v = -1000 := fun e2 => by rw [← e, e2, tm1000] at this; omega
            rw [if_neg nv] at ev
            by_cases c2 : at_ ≤ v
            · have := le_t c2
              rw [if_pos c2] at ev; rw [ev, e]; rw [e] at this; omega
            · have := nle_t c2
              rw [if_neg c2] at ev; rw [ev]; rw [e] at this; omega
          · have e := w.2 A
            have := hm' A
            rw [if_pos e] at ev
            rw [ev]; omega
      · rw [if_neg (by rw [p2]; decide)] at ev
        rw [ev]
        by_cases c : lo s ≤ hi s ∧ lo s + 12 < (j : Int)
        · have w := hW.1 ⟨hs, c⟩
          exact ⟨fun _ => by omega, fun q => absurd ⟨hs, c.1, by omega⟩ q⟩
        · have w := hW.2 (fun q => c q.2)
          exact ⟨fun q => absurd ⟨by omega, by omega⟩ p1, fun _ => w⟩
    refine ⟨(v', x + 1), hf, ?_, hx1⟩
    dsimp only
    by_cases j25 : j + 1 = 25
    · rw [show (p + 1) / 25 = s + 1 by omega, show (p + 1) % 25 = 0 by omega]
      unfold Wx at hW1 ⊢
      dsimp only at hW1 ⊢
      rw [← hsc] at hW1
      refine ⟨fun q => ?_, fun _ => ⟨fun A => ?_, fun A => ?_⟩⟩
      · have := (hb (s + 1) q.1).1
        omega
      · by_cases c : lo s ≤ hi s
        · have w := hW1.1 ⟨hs, c, by omega⟩
          rw [if_pos c] at hLs'
          exact t_ext (by omega)
        · have w := hW1.2 (fun q => c q.2.1)
          rw [if_neg c] at hLs'
          rcases anyL_s.mp A with A | A
          · rw [w.1 A]; exact t_ext hLs'.symm
          · exact absurd A c
      · have c : ¬ lo s ≤ hi s := fun k => A (anyL_s.mpr (Or.inr k))
        exact (hW1.2 (fun q => c q.2.1)).2 (fun k => A (anyL_s.mpr (Or.inl k)))
    · rw [show (p + 1) / 25 = s by omega, show (p + 1) % 25 = j + 1 by omega]
      exact hW1) (by
    rintro ⟨v, x⟩ ⟨hW, hx⟩
    dsimp only at hx
    show f_R_spanOf_7 Y h 1 v x = none
    unfold f_R_spanOf_7
    rw [if_pos (Int32.le_iff_toInt_le.mpr (by rw [z775']; omega))]) 776 0 ((-1000), 0) (by omega) (by omega) ⟨(show Wx lo hi _ L 0 0 (-1000) from ⟨fun q => by have := (hb 0 (by omega)).1; have := q.2.2; omega, fun _ => ⟨fun ⟨t, ht, _⟩ => by omega, fun _ => rfl⟩⟩), by rw [tl_0]; rfl⟩
  have w := k.1
  unfold m_R_spanOf b_R_spanOf_89
  exact (w.2 (fun q => by omega)).1 ha
set_option maxRecDepth 100000 in
theorem spanNone {q : Int32} (eh : h.toInt = (hn : Int)) (hr : Y 27 hn = -9) : m_R_spanOf Y h q = -1000 := by
  have k := wl_run (f := g_R_spanOf_7 Y h q) (fun p v => v.1 = -1000 ∧ v.2.toInt = (p : Int)) 775 (by
    rintro p ⟨v, x⟩ hp ⟨h1, hx⟩
    dsimp only at h1 hx
    refine ⟨(v, x + 1), ?_, h1, by dsimp only; rw [t_inc (by omega)]; omega⟩
    show f_R_spanOf_7 Y h q v x = _
    unfold f_R_spanOf_7
    rw [if_neg (fun q => by have := le_t q; rw [z775'] at this; omega), cl_n eh, if_pos hr, ite_self]) (by
    rintro ⟨v, x⟩ ⟨h1, hx⟩
    dsimp only at hx
    show f_R_spanOf_7 Y h q v x = none
    unfold f_R_spanOf_7
    rw [if_pos (Int32.le_iff_toInt_le.mpr (by rw [z775']; omega))]) 776 0 ((-1000), 0) (by omega) (by omega) ⟨rfl, by rw [tl_0]; rfl⟩
  unfold m_R_spanOf b_R_spanOf_89
  exact k.1
end SPAN
