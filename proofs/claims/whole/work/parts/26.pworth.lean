/-! worth and aim: hits that are taken back -/
/-- the reference's state but for what questions write, and but for cells that no wall has -/
def Rw (s t : St) : Prop := ∀ k j, ¬ scr k j → (k = 9 ∨ k = 10 ∨ k = 11 → j < 48) → t k j = s k j
theorem Rw.rf {s : St} : Rw s s := fun _ _ _ _ => rfl
theorem Rw.tr {s t u : St} (h1 : Rw s t) (h2 : Rw t u) : Rw s u := fun k j h g => (h2 k j h g).trans (h1 k j h g)
theorem Rw.ofs {s t : St} (h : Rs s t) : Rw s t := fun k j g _ => h k j g
theorem Rw.row {s t : St} (h : Rw s t) {k : Nat} (h1 : k ≠ 0 ∧ k ≠ 9 ∧ k ≠ 10 ∧ k ≠ 11) (h2 : k < 27) : t k = s k := funext fun j => h k j (by unfold scr; omega) (by omega)
theorem Rw.fld {s t : St} (h : Rw s t) {j : Nat} (h1 : j < 19) : t 0 j = s 0 j := h 0 j (by unfold scr; omega) (by omega)
theorem Rw.cel {s t : St} (h : Rw s t) {k j : Nat} (hk : k = 9 ∨ k = 10 ∨ k = 11) (hj : j < 48) : t k j = s k j := h k j (by unfold scr; omega) (fun _ => hj)
theorem Rw_okR {s t : St} (h : Rw s t) (hR : okR s) : okR t := okR_ext hR (h.row (by omega) (by omega)) (h.row (by omega) (by omega)) (h.fld (by omega)) (h.fld (by omega)) (h.fld (by omega)) (h.fld (by omega)) (h.fld (by omega))
theorem idx48 {w h x y : Nat} (hw : w ≤ 8) (hh : h ≤ 6) (hx : x < w) (hy : y < h) : x + w * y < 48 := by
  have q1 : x + w * y < w * (y + 1) := by rw [Nat.mul_add, Nat.mul_one]; omega
  have q2 : w * (y + 1) ≤ 8 * 6 := Nat.mul_le_mul hw (by omega)
  omega
theorem Rw_relL {s t sL : St} (h : Rw s t) (hR : okR s) (hL : relL sL s) : relL sL t := by
  have nR := okR_lin hR
  have e6 := h.fld (j := 6) (by omega)
  have e7 := h.fld (j := 7) (by omega)
  refine ⟨by rw [e6]; exact hL.1, by rw [e7]; exact hL.2.1, by rw [h.fld (j := 11) (by omega)]; exact hL.2.2.1, fun i hi => by rw [h.row (k := 13) (by omega) (by omega)]; exact hL.2.2.2.1 i hi, fun x hx => ?_⟩
  rw [e6] at hx
  refine relC_fr (hL.2.2.2.2 x hx) rfl rfl e6 e7 (fun y hy => ?_)
  have := idx48 (w := (s 0 6).toInt.toNat) (h := (s 0 7).toInt.toNat) (x := x) (y := y) (by omega) (by omega) (by omega) (by omega)
  exact ⟨rfl, h.cel (by omega) this, h.cel (by omega) this, h.cel (by omega) this⟩
theorem Rel_rw {sT : St} {vT : Int64} {sM sB sL sS sR : St} {vR : Int64} {t : St} (h : Rel sT vT sM sB sL sS sR vR) (r : Rw sR t) : Rel sT vT sM sB sL sS t vR :=
  ⟨Rw_okR r h.1, relT_ext h.2.1 (r.fld (by decide)) (r.fld (by decide)), relM_ext h.2.2.1 (r.row (by decide) (by decide)) (r.fld (by decide)),
   relB_ext h.2.2.2.1 (r.row (by decide) (by decide)) (r.row (by decide) (by decide)) (r.fld (by decide)) (r.fld (by decide)),
   Rw_relL r h.1 h.2.2.2.2.1, relS_ext h.2.2.2.2.2 (r.row (by decide) (by decide)) (r.fld (by decide)) (r.fld (by decide))⟩
/-- the wall as it was kept -/
def Kp (s t : St) : Prop := ∀ j, j < 48 → t 29 j = s 9 j ∧ t 30 j = s 10 j ∧ t 31 j = s 11 j
theorem l48 : (48 : Int32).toInt = 48 := by decide +kernel
theorem keep_spec {s : St} : Rs s (m_R_keep s) ∧ Kp s (m_R_keep s) := by
  have k := wl_run (f := g_R_keep_2) (fun k u => (∀ j, j < k → u.1 29 j = s 9 j ∧ u.1 30 j = s 10 j ∧ u.1 31 j = s 11 j) ∧ (∀ a j, a ≠ 29 ∧ a ≠ 30 ∧ a ≠ 31 → u.1 a j = s a j) ∧ u.2.toInt = (k : Int)) 48 (by
    rintro k ⟨u, i⟩ hk ⟨g1, g2, g3⟩
    dsimp only at g1 g2 g3
    refine ⟨(up (up (up u 29 k (u 9 k)) 30 k (u 10 k)) 31 k (u 11 k), i + 1), ?_, ?_, ?_, ?_⟩
    · show f_R_keep_2 u i = _
      unfold f_R_keep_2
      rw [if_neg (fun q => by have := le_t q; rw [l48] at this; omega), cl_n g3]
    · intro j hj
      dsimp only
      rw [up_other (s := up (up u 29 k _) 30 k _) (by omega), up_other (s := up u 29 k _) (by omega), up_row, up_other (s := up (up u 29 k _) 30 k _) (by omega), up_row, up_row, up_other (s := u) (by omega), up_other (s := up u 29 k _) (by omega), up_other (s := u) (by omega)]
      by_cases e : j = k
      · rw [if_pos e, if_pos e, if_pos e, e, g2 9 k (by omega), g2 10 k (by omega), g2 11 k (by omega)]; exact ⟨rfl, rfl, rfl⟩
      · rw [if_neg e, if_neg e, if_neg e]; exact g1 j (by omega)
    · intro a j ha
      dsimp only
      rw [up_other (by omega), up_other (by omega), up_other (by omega)]
      exact g2 a j ha
    · dsimp only
      rw [t_inc (by omega)]; omega) (by
    rintro ⟨u, i⟩ ⟨g1, g2, g3⟩
    dsimp only at g3
    show f_R_keep_2 u i = none
    unfold f_R_keep_2
    rw [if_pos (Int32.le_iff_toInt_le.mpr (by rw [l48]; omega))]) 49 0 (s, 0) (by omega) (by omega) ⟨fun j hj => by omega, fun _ _ _ => rfl, by rw [tl_0]; rfl⟩
  exact ⟨fun a j h => k.2.1 a j (by unfold scr at h; omega), fun j hj => k.1 j hj⟩
theorem giveBack_spec {s : St} : (∀ j, j < 48 → m_R_giveBack s 9 j = s 29 j ∧ m_R_giveBack s 10 j = s 30 j ∧ m_R_giveBack s 11 j = s 31 j) ∧ ∀ a j, a ≠ 9 ∧ a ≠ 10 ∧ a ≠ 11 → m_R_giveBack s a j = s a j := by
  have k := wl_run (f := g_R_giveBack_2) (fun k u => (∀ j, j < k → u.1 9 j = s 29 j ∧ u.1 10 j = s 30 j ∧ u.1 11 j = s 31 j) ∧ (∀ a j, a ≠ 9 ∧ a ≠ 10 ∧ a ≠ 11 → u.1 a j = s a j) ∧ u.2.toInt = (k : Int)) 48 (by
    rintro k ⟨u, i⟩ hk ⟨g1, g2, g3⟩
    dsimp only at g1 g2 g3
    refine ⟨(up (up (up u 9 k (u 29 k)) 10 k (u 30 k)) 11 k (u 31 k), i + 1), ?_, ?_, ?_, ?_⟩
    · show f_R_giveBack_2 u i = _
      unfold f_R_giveBack_2
      rw [if_neg (fun q => by have := le_t q; rw [l48] at this; omega), cl_n g3]
    · intro j hj
      dsimp only
      rw [up_other (s := up (up u 9 k _) 10 k _) (by omega), up_other (s := up u 9 k _) (by omega), up_row, up_other (s := up (up u 9 k _) 10 k _) (by omega), up_row, up_row, up_other (s := u) (by omega), up_other (s := up u 9 k _) (by omega), up_other (s := u) (by omega)]
      by_cases e : j = k
      · rw [if_pos e, if_pos e, if_pos e, e, g2 29 k (by omega), g2 30 k (by omega), g2 31 k (by omega)]; exact ⟨rfl, rfl, rfl⟩
      · rw [if_neg e, if_neg e, if_neg e]; exact g1 j (by omega)
    · intro a j ha
      dsimp only
      rw [up_other (by omega), up_other (by omega), up_other (by omega)]
      exact g2 a j ha
    · dsimp only
      rw [t_inc (by omega)]; omega) (by
    rintro ⟨u, i⟩ ⟨g1, g2, g3⟩
    dsimp only at g3
    show f_R_giveBack_2 u i = none
    unfold f_R_giveBack_2
    rw [if_pos (Int32.le_iff_toInt_le.mpr (by rw [l48]; omega))]) 49 0 (s, 0) (by omega) (by omega) ⟨fun j hj => by omega, fun _ _ _ => rfl, by rw [tl_0]; rfl⟩
  exact ⟨fun j hj => k.1 j hj, k.2.1⟩
/-- hits since the wall was kept, then given back -/
theorem back_rw {s t u : St} (h : Rw s t) (kp : Kp s t) (fr : ∀ a j, a ≠ 9 ∧ a ≠ 10 ∧ a ≠ 11 → u a j = t a j) : Rw s (m_R_giveBack u) ∧ Kp s (m_R_giveBack u) := by
  obtain ⟨g1, g2⟩ := giveBack_spec (s := u)
  refine ⟨fun k j hs h48 => ?_, fun j hj => ?_⟩
  · by_cases hk : k = 9 ∨ k = 10 ∨ k = 11
    · have hj := h48 hk
      obtain ⟨a1, a2, a3⟩ := g1 j hj
      obtain ⟨b1, b2, b3⟩ := kp j hj
      rcases hk with e | e | e
      · subst e; rw [a1, fr 29 j (by omega), b1]
      · subst e; rw [a2, fr 30 j (by omega), b2]
      · subst e; rw [a3, fr 31 j (by omega), b3]
    · rw [g2 k j (by omega), fr k j (by omega)]
      exact h k j hs h48
  · rw [g2 29 j (by omega), g2 30 j (by omega), g2 31 j (by omega), fr 29 j (by omega), fr 30 j (by omega), fr 31 j (by omega)]
    exact kp j hj
theorem strike_b {sL sR : St} (hR : okR sR) (hL : relL sL sR) (x y f : Int32) (hf : 1 ≤ f.toInt ∧ f.toInt ≤ 99) : 0 ≤ (m_L_strike sL x y f).1.toInt ∧ (m_L_strike sL x y f).1.toInt ≤ 6 := by
  have nR := okR_lin hR
  obtain ⟨-, k2, k3, -, k5⟩ := strike_sim hR hL x y f hf
  rcases has_cases hR hL x y with ⟨a1, a2⟩ | ⟨a1, a2, xn, yn, a⟩
  · have s0 : m_L_stands sL x y = 0 := by unfold m_L_stands; rw [if_pos a1]
    unfold m_L_strike
    rw [if_pos s0, tl_0]; omega
  have hc := hL.2.2.2.2 xn a.2.2.1
  have e6 := k3 0 6 (by omega)
  have e7 := k3 0 7 (by omega)
  have hc2 := (k2.2.2.2.2 xn (by rw [e6]; exact a.2.2.1)).1
  rw [e7] at hc2
  have b1 := bc_cnt (v := sL 2 xn) (h := (sR 0 7).toInt.toNat) (by omega) hc.1.1 hc.1.2
  have b2 := bc_cnt (h := (sR 0 7).toInt.toNat) (by omega) hc2.1 hc2.2
  have q1 := cnt_6 (v := sL 2 xn) (h := (sR 0 7).toInt.toNat) (by omega) hc.1.1 hc.1.2
  have q2 := k5 xn a.2.2.1
  unfold m_L_strike at b2 q2 ⊢
  rw [a.x] at b2 q2 ⊢
  split at b2
  · rename_i c
    rw [if_pos c, tl_0]; omega
  · rename_i c
    rw [if_neg c] at q2 ⊢
    split at b2
    · rename_i d
      rw [if_pos d] at q2 ⊢
      dsimp only at b2 q2 ⊢
      rw [t_sub (by omega) (by omega)]; omega
    · rename_i d
      rw [if_neg d] at q2 ⊢
      dsimp only at b2 q2 ⊢
      rw [t_sub (by omega) (by omega)]; omega
theorem fallsBy_spec {sL sR : St} (hR : okR sR) (hL : relL sL sR) (x y f : Int32) (hf : 1 ≤ f.toInt ∧ f.toInt ≤ 99) : m_L_fallsBy sL x y f = ((m_L_strike sL x y f).1, sL) := by
  unfold m_L_fallsBy
  by_cases c : m_L_stands sL x y = 0
  · rw [if_pos c]
    unfold m_L_strike
    rw [if_pos c]
  rw [if_neg c]
  refine Prod.ext rfl ?_
  dsimp only
  have hd : ∀ (s : St) a j, ¬ (a = 2 ∧ j = Int32.toNatClampNeg x) → m_L_dropUnheld s x a j = s a j := by
    intro s a j h
    unfold m_L_dropUnheld b_L_dropUnheld_58
    refine fr_wl (fun v : St × Int32 => v.1) (C := fun a j => ¬ (a = 2 ∧ j = Int32.toNatClampNeg x)) ?_ 8 (s, 1) h
    intro v t e k j hk
    unfold g_L_dropUnheld_2 f_L_dropUnheld_2 at e
    repeat' split at e
    all_goals (cases e <;> (try dsimp only) <;> (repeat rw [up_other (by omega)]))
  have fr : ∀ a j, ¬ (a = 2 ∧ j = Int32.toNatClampNeg x) → ¬ (a = 3 ∧ j = Int32.toNatClampNeg x) → ¬ (a = 1 ∧ j = Int32.toNatClampNeg (m_L_place x y)) → (m_L_strike sL x y f).2 a j = sL a j := by
    intro a j h2 h3 h1
    unfold m_L_strike
    rw [if_neg c]
    split
    · dsimp only
      rw [hd _ a j h2, up_other (by omega), up_other (by omega)]
    · dsimp only
      rw [hd _ a j h2, up_other (by omega), up_other (by omega), up_other (by omega)]
  funext a j
  by_cases e1 : a = 1 ∧ j = Int32.toNatClampNeg (m_L_place x y)
  · rw [e1.1, e1.2, up_get]
  rw [up_other (by omega)]
  by_cases e3 : a = 3 ∧ j = Int32.toNatClampNeg x
  · rw [e3.1, e3.2, up_get]
  rw [up_other (by omega)]
  by_cases e2 : a = 2 ∧ j = Int32.toNatClampNeg x
  · rw [e2.1, e2.2, up_get]
  rw [up_other (by omega)]
  exact fr a j e2 e3 e1
/-- the nine spots of a shot -/
def spotX (x : Int32) (k : Nat) : Int32 := x + Int32.ofNat (k % 3) - 1
def spotY (y : Int32) (k : Nat) : Int32 := y + Int32.ofNat (k / 3) - 1
def worthS (sL : St) (x y f : Int32) : Nat → Int32
  | 0 => 0
  | k + 1 => worthS sL x y f k + (sL 4 k) * (m_L_strike sL (spotX x k) (spotY y k) f).1
theorem sh_a (x : Int32) : x + (-1) = x + 0 - 1 ∧ x + 0 = x + 1 - 1 ∧ x + 1 = x + 2 - 1 := by
  simp only [Int32.sub_eq_add_neg, Int32.add_assoc]
  exact ⟨congrArg (x + ·) (by decide), congrArg (x + ·) (by decide), congrArg (x + ·) (by decide)⟩
theorem sh_t {x c : Int32} {j : Nat} (hj : j < 3) (hc : c.toInt = (j : Int) - 1) : x + c = x + Int32.ofNat j - 1 := by
  obtain ⟨h1, h2, h3⟩ := sh_a x
  match j, hj with
  | 0, _ => rw [t_ext (a := c) (b := -1) (by rw [hc, tl_m1]; rfl)]; exact h1
  | 1, _ => rw [t_ext (a := c) (b := 0) (by rw [hc, tl_0]; rfl)]; exact h2
  | 2, _ => rw [t_ext (a := c) (b := 1) (by rw [hc, tl_1]; rfl)]; exact h3
theorem worthS_b {sL sR : St} (hR : okR sR) (hL : relL sL sR) {x y f : Int32} (hf : 1 ≤ f.toInt ∧ f.toInt ≤ 99) : ∀ k, k ≤ 9 → 0 ≤ (worthS sL x y f k).toInt ∧ (worthS sL x y f k).toInt ≤ 54 * (k : Int)
  | 0, _ => by unfold worthS; rw [tl_0]; omega
  | k + 1, hk => by
    have ih := worthS_b hR hL (x := x) (y := y) hf k (by omega)
    have hw := hL.2.2.2.1 k (by omega)
    rw [← hw.1] at hw
    have hb := strike_b hR hL (spotX x k) (spotY y k) f hf
    have m := mul_bd hw.2.1 hw.2.2 hb.1 hb.2
    have e : ((sL 4 k) * (m_L_strike sL (spotX x k) (spotY y k) f).1).toInt = (sL 4 k).toInt * (m_L_strike sL (spotX x k) (spotY y k) f).1.toInt := t_mul (by omega) (by omega)
    unfold worthS
    rw [t_add (by omega) (by omega), e]
    omega
theorem worthL {sL sR : St} (hR : okR sR) (hL : relL sL sR) (x y f : Int32) (hf : 1 ≤ f.toInt ∧ f.toInt ≤ 99) : m_L_worthOf sL x y f = (worthS sL x y f 9, sL) := by
  have z1 := tl_1
  have inner : ∀ (u : Nat) (up_ : Int32), u < 3 → up_.toInt = (u : Int) - 1 → (wl (g_L_worthOf_15 x y f up_) 4 (sL, worthS sL x y f (3 * u), -1)).1 = sL ∧ (wl (g_L_worthOf_15 x y f up_) 4 (sL, worthS sL x y f (3 * u), -1)).2.1 = worthS sL x y f (3 * u + 3) := by
    intro u up_ hu hup
    have k := wl_run (f := g_L_worthOf_15 x y f up_) (fun j s => s.1 = sL ∧ s.2.1 = worthS sL x y f (3 * u + j) ∧ s.2.2.toInt = (j : Int) - 1) 3 (by
      rintro j ⟨s, w, c⟩ hj ⟨h1, h2, h3⟩
      dsimp only at h1 h2 h3
      subst h1; subst h2
      refine ⟨(s, worthS s x y f (3 * u + (j + 1)), c + 1), ?_, rfl, rfl, ?_⟩
      · show f_L_worthOf_15 x y f up_ s _ c = _
        unfold f_L_worthOf_15
        rw [if_neg (fun q => by have := lt_t q; omega), fallsBy_spec hR hL _ _ f hf]
        have ex : x + c = spotX x (3 * u + j) := by
          unfold spotX
          rw [show (3 * u + j) % 3 = j by omega]
          exact sh_t hj h3
        have ey : y + up_ = spotY y (3 * u + j) := by
          unfold spotY
          rw [show (3 * u + j) / 3 = u by omega]
          exact sh_t hu hup
        have ei : Int32.toNatClampNeg (m_L_weightPlace c up_) = 3 * u + j := by
          refine cl_n ?_
          rw [weightPlace_t (by omega)]
          omega
        rw [ex, ey, ei]
        rfl
      · dsimp only
        rw [t_inc (by omega)]; omega) (by
      rintro ⟨s, w, c⟩ ⟨h1, h2, h3⟩
      dsimp only at h3
      show f_L_worthOf_15 x y f up_ s w c = none
      unfold f_L_worthOf_15
      rw [if_pos (Int32.lt_iff_toInt_lt.mpr (by omega))]) 4 0 (sL, worthS sL x y f (3 * u), -1) (by omega) (by omega) ⟨rfl, rfl, by rw [tl_m1]; rfl⟩
    exact ⟨k.1, k.2.1⟩
  have k := wl_run (f := g_L_worthOf_6 x y f) (fun u s => s.1 = sL ∧ s.2.1 = worthS sL x y f (3 * u) ∧ s.2.2.toInt = (u : Int) - 1) 3 (by
    rintro u ⟨s, w, c⟩ hj ⟨h1, h2, h3⟩
    dsimp only at h1 h2 h3
    subst h1; subst h2
    obtain ⟨i1, i2⟩ := inner u c hj h3
    refine ⟨(s, worthS s x y f (3 * (u + 1)), c + 1), ?_, rfl, rfl, ?_⟩
    · show f_L_worthOf_6 x y f s _ c = _
      unfold f_L_worthOf_6 b_L_worthOf_58
      rw [if_neg (fun q => by have := lt_t q; omega), i1, i2]
      rfl
    · dsimp only
      rw [t_inc (by omega)]; omega) (by
    rintro ⟨s, w, c⟩ ⟨h1, h2, h3⟩
    dsimp only at h3
    show f_L_worthOf_6 x y f s w c = none
    unfold f_L_worthOf_6
    rw [if_pos (Int32.lt_iff_toInt_lt.mpr (by omega))]) 4 0 (sL, 0, -1) (by omega) (by omega) ⟨rfl, rfl, by rw [tl_m1]; rfl⟩
  unfold m_L_worthOf b_L_worthOf_64
  exact Prod.ext k.2.1 k.1
theorem div3 {i : Int32} {k : Nat} (h : i.toInt = (k : Int)) (hk : k < 9) : i - i / 3 * 3 = Int32.ofNat (k % 3) ∧ i / 3 = Int32.ofNat (k / 3) := by
  rw [eq_ofNat h]
  have t : ∀ n : Nat, n < 9 → Int32.ofNat n - Int32.ofNat n / 3 * 3 = Int32.ofNat (n % 3) ∧ Int32.ofNat n / 3 = Int32.ofNat (n / 3) := by decide +kernel
  exact t k hk
theorem worthR {sL sR : St} (hR : okR sR) (hL : relL sL sR) (x y f : Int32) (hf : 1 ≤ f.toInt ∧ f.toInt ≤ 99) : (m_R_worthOf sR x y f).1 = worthS sL x y f 9 ∧ Rw sR (m_R_worthOf sR x y f).2 := by
  obtain ⟨kp1, kp2⟩ := keep_spec (s := sR)
  have z9 : (9 : Int32).toInt = 9 := by decide +kernel
  have k := wl_run (f := g_R_worthOf_10 x y f) (fun j s => Rw sR s.1 ∧ Kp sR s.1 ∧ s.2.1 = worthS sL x y f j ∧ s.2.2.toInt = (j : Int)) 9 (by
    rintro j ⟨s, w, c⟩ hj ⟨h1, h2, h3, h4⟩
    dsimp only at h1 h2 h3 h4
    subst h3
    have hRs := Rw_okR h1 hR
    have hLs := Rw_relL h1 hR hL
    obtain ⟨d1, d2⟩ := div3 h4 hj
    obtain ⟨q1, -, q3, -⟩ := strike_sim hRs hLs (spotX x j) (spotY y j) f hf
    obtain ⟨b1, b2⟩ := back_rw h1 h2 q3
    refine ⟨(m_R_giveBack (m_R_strike s (spotX x j) (spotY y j) f).2, worthS sL x y f (j + 1), c + 1), ?_, b1, b2, rfl, ?_⟩
    · show f_R_worthOf_10 x y f s _ c = _
      unfold f_R_worthOf_10
      rw [if_neg (fun q => by have := le_t q; omega), d1, d2, cl_n h4]
      show some (m_R_giveBack (m_R_strike s (spotX x j) (spotY y j) f).2, worthS sL x y f j + s 13 j * (m_R_strike s (spotX x j) (spotY y j) f).1, c + 1) = _
      rw [← q1, h1.row (k := 13) (by omega) (by omega), ← (hL.2.2.2.1 j hj).1]
      rfl
    · dsimp only
      rw [t_inc (by omega)]; omega) (by
    rintro ⟨s, w, c⟩ ⟨h1, h2, h3, h4⟩
    dsimp only at h4
    show f_R_worthOf_10 x y f s w c = none
    unfold f_R_worthOf_10
    rw [if_pos (Int32.le_iff_toInt_le.mpr (by omega))]) 10 0 (m_R_keep sR, 0, 0) (by omega) (by omega) ⟨Rw.ofs kp1, kp2, rfl, by rw [tl_0]; rfl⟩
  exact ⟨k.2.2.1, k.1⟩
