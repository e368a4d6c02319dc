/-! held: the sum over all runs of shots -/
def sm (g : Nat → Int) : Nat → Int
  | 0 => 0
  | k + 1 => sm g k + g k
theorem sm_congr {a b : Nat → Int} : ∀ {n : Nat}, (∀ k, k < n → a k = b k) → sm a n = sm b n
  | 0, _ => rfl
  | n + 1, h => by
    unfold sm
    rw [sm_congr (fun k hk => h k (by omega)), h n (by omega)]
theorem sm_add {a b : Nat → Int} : ∀ {n : Nat}, sm (fun k => a k + b k) n = sm a n + sm b n
  | 0 => rfl
  | n + 1 => by
    unfold sm
    rw [@sm_add a b n]
    omega
theorem sm_mul {a : Nat → Int} {c : Int} : ∀ {n : Nat}, sm (fun k => c * a k) n = c * sm a n
  | 0 => by unfold sm; rw [Int.mul_zero]
  | n + 1 => by
    unfold sm
    rw [@sm_mul a c n, Int.mul_add]
theorem sm_ap {g : Nat → Int} {n : Nat} : ∀ {m : Nat}, sm g (n + m) = sm g n + sm (fun i => g (n + i)) m
  | 0 => by show sm g n = sm g n + 0; omega
  | m + 1 => by
    show sm g (n + m) + g (n + m) = sm g n + (sm (fun i => g (n + i)) m + g (n + m))
    rw [@sm_ap g n m]; omega
theorem sm_0 : ∀ {n : Nat}, sm (fun _ => 0) n = 0
  | 0 => rfl
  | n + 1 => by
    unfold sm
    rw [@sm_0 n]; rfl
theorem sm_b {a : Nat → Int} {B : Int} : ∀ {n : Nat}, (∀ k, k < n → 0 ≤ a k ∧ a k ≤ B) → 0 ≤ sm a n ∧ sm a n ≤ (n : Int) * B
  | 0, _ => by
    show (0 : Int) ≤ 0 ∧ (0 : Int) ≤ 0 * B
    rw [Int.zero_mul]; omega
  | n + 1, h => by
    have ih := @sm_b a B n (fun k hk => h k (by omega))
    have hn := h n (by omega)
    have e : ((n + 1 : Nat) : Int) * B = (n : Int) * B + B := by
      rw [show ((n + 1 : Nat) : Int) = (n : Int) + 1 by omega, Int.add_mul, Int.one_mul]
    rw [e]
    show 0 ≤ sm a n + a n ∧ sm a n + a n ≤ _
    omega
theorem sm_9 {g : Nat → Nat → Int} : ∀ {m : Nat}, sm (fun r => g (r % 9) (r / 9)) (9 * m) = sm (fun k => sm (g k) m) 9
  | 0 => rfl
  | m + 1 => by
    rw [show 9 * (m + 1) = 9 * m + 9 by omega, sm_ap, @sm_9 g m]
    refine Eq.trans ?_ (sm_add (a := fun k => sm (g k) m) (b := fun k => g k m) (n := 9)).symm
    refine congrArg (sm (fun k => sm (g k) m) 9 + ·) (sm_congr fun k hk => ?_)
    show g ((9 * m + k) % 9) ((9 * m + k) / 9) = g k m
    rw [show (9 * m + k) % 9 = k by omega, show (9 * m + k) / 9 = m by omega]
def stk (s : St) (x y f : Int32) (k : Nat) : St := (m_L_strike s (spotX x k) (spotY y k) f).2
/-- one row of shots, in order -/
def vl (x y f : Int32) : Nat → Nat → St → Int
  | 0, _, s => if m_L_firstOpen s = -9 then 1 else 0
  | n + 1, r, s => (s 4 (r % 9)).toInt * vl x y f n (r / 9) (stk s x y f (r % 9))
def tot (x y f : Int32) (n : Nat) (s : St) : Int := sm (fun r => vl x y f n r s) (9 ^ n)
theorem tot_s {x y f : Int32} {n : Nat} {s : St} : tot x y f (n + 1) s = sm (fun k => (s 4 k).toInt * tot x y f n (stk s x y f k)) 9 := by
  unfold tot
  rw [show 9 ^ (n + 1) = 9 * 9 ^ n by rw [Nat.pow_succ, Nat.mul_comm]]
  refine Eq.trans (sm_9 (g := fun k q => (s 4 k).toInt * vl x y f n q (stk s x y f k)) (m := 9 ^ n)) ?_
  exact sm_congr (fun k hk => sm_mul)
def Wt (s : St) : Prop := ∀ k, k < 9 → 0 ≤ (s 4 k).toInt ∧ (s 4 k).toInt ≤ 9
theorem Wt_stk {s : St} {x y f : Int32} {k : Nat} (h : Wt s) : Wt (stk s x y f k) := fun j hj => by
  unfold stk
  rw [fr_L_strike (by omega)]
  exact h j hj
theorem Wt_of {sL sR : St} (hL : relL sL sR) : Wt sL := fun k hk => by
  have q := hL.2.2.2.1 k hk
  rw [q.1]; exact q.2
theorem vl_b {x y f : Int32} : ∀ {n r : Nat} {s : St}, Wt s → 0 ≤ vl x y f n r s ∧ vl x y f n r s ≤ ((9 ^ n : Nat) : Int)
  | 0, r, s, h => by
    show 0 ≤ (if m_L_firstOpen s = -9 then (1 : Int) else 0) ∧ (if m_L_firstOpen s = -9 then (1 : Int) else 0) ≤ 1
    split <;> omega
  | n + 1, r, s, h => by
    have ih := @vl_b x y f n (r / 9) (stk s x y f (r % 9)) (Wt_stk h)
    have hw := h (r % 9) (by omega)
    have m := mul_bd hw.1 hw.2 ih.1 ih.2
    rw [show ((9 ^ (n + 1) : Nat) : Int) = 9 * ((9 ^ n : Nat) : Int) by rw [Nat.pow_succ]; omega]
    exact m
/-- what one shot of a run is worth -/
def hb (H : St → Int) (x y f : Int32) (s : St) (k : Nat) : Int := if m_L_stands s (spotX x k) (spotY y k) = 0 then H s else if m_L_isOpen (stk s x y f k) (spotX x k) = 0 then H (stk s x y f k) else 0
def hv (x y f : Int32) : Nat → St → Int
  | 0, _ => 1
  | n + 1, s => sm (fun k => (s 4 k).toInt * hb (fun t => hv x y f n t) x y f s k) 9
theorem hb_b {H : St → Int} {x y f : Int32} {s : St} {k : Nat} {M : Int} (hM : 0 ≤ M) (h : Wt s) (hH : ∀ t, Wt t → 0 ≤ H t ∧ H t ≤ M) : 0 ≤ hb H x y f s k ∧ hb H x y f s k ≤ M := by
  unfold hb
  split
  · exact hH s h
  · split
    · exact hH _ (Wt_stk h)
    · omega
theorem hv_b {x y f : Int32} : ∀ {n : Nat} {s : St}, Wt s → 0 ≤ hv x y f n s ∧ hv x y f n s ≤ ((81 ^ n : Nat) : Int)
  | 0, s, h => by
    show (0 : Int) ≤ 1 ∧ (1 : Int) ≤ 1
    omega
  | n + 1, s, h => by
    have b := sm_b (a := fun k => (s 4 k).toInt * hb (fun t => hv x y f n t) x y f s k) (B := 9 * ((81 ^ n : Nat) : Int)) (n := 9) (fun k hk => by
      have hw := h k hk
      have q := hb_b (H := fun t => hv x y f n t) (x := x) (y := y) (f := f) (k := k) (M := ((81 ^ n : Nat) : Int)) (Int.natCast_nonneg _) h (fun t ht => hv_b ht)
      exact mul_bd hw.1 hw.2 q.1 q.2)
    rw [show ((81 ^ (n + 1) : Nat) : Int) = ((9 : Nat) : Int) * (9 * ((81 ^ n : Nat) : Int)) by rw [Nat.pow_succ]; omega]
    exact b
/-- no column is open -/
def NO (sL sR : St) : Prop := ∀ z : Nat, (z : Int) < (sR 0 6).toInt → (sR 0 11).toInt < (cntb (sL 2 z) (sR 0 7).toInt.toNat : Int)
theorem strike_col {s : St} {x y f : Int32} {j : Nat} (h : j ≠ Int32.toNatClampNeg x) : (m_L_strike s x y f).2 2 j = s 2 j := by
  have hd : ∀ (s : St) a j, ¬ (a = 2 ∧ j = Int32.toNatClampNeg x) → m_L_dropUnheld s x a j = s a j := by
    intro s a j h
    unfold m_L_dropUnheld b_L_dropUnheld_58
    refine fr_wl (fun v : St × Int32 => v.1) (C := fun a j => ¬ (a = 2 ∧ j = Int32.toNatClampNeg x)) ?_ 8 (s, 1) h
    intro v t e k j hk
    unfold g_L_dropUnheld_2 f_L_dropUnheld_2 at e
    repeat' split at e
    all_goals (cases e <;> (try dsimp only) <;> (repeat rw [up_other (by omega)]))
  unfold m_L_strike
  split
  · rfl
  · split
    · dsimp only
      rw [hd _ 2 j (by omega), up_other (by omega), up_other (by omega)]
    · dsimp only
      rw [hd _ 2 j (by omega), up_other (by omega), up_other (by omega), up_other (by omega)]
theorem okR_w {sR tR : St} (hR : okR sR) (fr : ∀ a j, a ≠ 9 ∧ a ≠ 10 ∧ a ≠ 11 → tR a j = sR a j) : okR tR := by
  have row : ∀ a, a ≠ 9 ∧ a ≠ 10 ∧ a ≠ 11 → tR a = sR a := fun a ha => funext fun j => fr a j ha
  have e0 := row 0 (by omega)
  exact okR_ext hR (row 1 (by omega)) (row 5 (by omega)) (by rw [e0]) (by rw [e0]) (by rw [e0]) (by rw [e0]) (by rw [e0])
section HELD
variable {sL sR : St} {x y f : Int32}
theorem isO (hR : okR sR) (hL : relL sL sR) {x : Int32} {z : Nat} (hx : x.toInt = (z : Int)) (hz : (z : Int) < (sR 0 6).toInt) : m_L_isOpen sL x = 0 ↔ (sR 0 11).toInt < (cntb (sL 2 z) (sR 0 7).toInt.toNat : Int) := by
  have nR := okR_lin hR
  have hc := hL.2.2.2.2 z hz
  have b := bc_cnt (v := sL 2 z) (h := (sR 0 7).toInt.toNat) (by omega) hc.1.1 hc.1.2
  unfold m_L_isOpen
  rw [cl_n hx, hL.2.2.1]
  by_cases c : sR 0 11 < m_J_bitCount (sL 2 z)
  · have := lt_t c
    rw [if_pos c]; exact ⟨fun _ => by omega, fun _ => rfl⟩
  · have := nlt_t c
    rw [if_neg c]; exact ⟨fun q => absurd q (by decide), fun q => absurd q (by omega)⟩
theorem fo_iff (hR : okR sR) (hL : relL sL sR) : m_L_firstOpen sL = -9 ↔ NO sL sR := by
  have nR := okR_lin hR
  have k : (m_L_firstOpen sL = -9 ∧ NO sL sR) ∨ (¬ m_L_firstOpen sL = -9 ∧ ¬ NO sL sR) := by
    refine wc_run (f := g_L_firstOpen_2 sL) (d := 0) (fun k s => s.toInt = (k : Int) ∧ ∀ z : Nat, z < k → (sR 0 11).toInt < (cntb (sL 2 z) (sR 0 7).toInt.toNat : Int)) (fun r => (r = -9 ∧ NO sL sR) ∨ (¬ r = -9 ∧ ¬ NO sL sR)) (sR 0 6).toInt.toNat ?_ ?_ 9 0 0 (by omega) (by omega) ⟨by rw [tl_0]; rfl, fun z hz => by omega⟩
    · rintro k s hk ⟨h1, h2⟩
      have n1 : ¬ sL 0 4 ≤ s := fun q => by have := le_t q; rw [hL.1] at this; omega
      have io := isO hR hL h1 (by omega)
      by_cases c : m_L_isOpen sL s = 0
      · refine Or.inl ⟨s + 1, ?_, ?_, fun z hz => ?_⟩
        · show f_L_firstOpen_2 sL s = _
          unfold f_L_firstOpen_2
          rw [if_neg n1, if_pos c]
        · rw [t_inc (by omega)]; omega
        · by_cases e : z = k
          · rw [e]; exact io.mp c
          · exact h2 z (by omega)
      · refine Or.inr ⟨s, ?_, Or.inr ⟨fun q => ?_, fun q => c (io.mpr (q k (by omega)))⟩⟩
        · show f_L_firstOpen_2 sL s = _
          unfold f_L_firstOpen_2
          rw [if_neg n1, if_neg c]
        · rw [q, tl_m9] at h1; omega
    · rintro s ⟨h1, h2⟩
      refine ⟨-9, ?_, Or.inl ⟨rfl, fun z hz => h2 z (by omega)⟩⟩
      show f_L_firstOpen_2 sL s = _
      unfold f_L_firstOpen_2
      rw [if_pos (Int32.le_iff_toInt_le.mpr (by rw [hL.1]; omega))]
  rcases k with ⟨k1, k2⟩ | ⟨k1, k2⟩
  · exact ⟨fun _ => k2, fun _ => k1⟩
  · exact ⟨fun q => absurd q k1, fun q => absurd q k2⟩
theorem tot_eq (hf : 1 ≤ f.toInt ∧ f.toInt ≤ 99) : ∀ (n : Nat) (sL sR : St), okR sR → relL sL sR → (m_L_firstOpen sL = -9 → tot x y f n sL = hv x y f n sL) ∧ (¬ m_L_firstOpen sL = -9 → tot x y f n sL = 0)
  | 0, sL, sR, hR, hL => by
    have e : tot x y f 0 sL = 0 + (if m_L_firstOpen sL = -9 then 1 else 0) := rfl
    refine ⟨fun c => ?_, fun c => ?_⟩
    · rw [e, if_pos c]; rfl
    · rw [e, if_neg c]; rfl
  | n + 1, sL, sR, hR, hL => by
    have ih := tot_eq hf n
    have nR := okR_lin hR
    have st : ∀ k, okR (m_R_strike sR (spotX x k) (spotY y k) f).2 ∧ relL (stk sL x y f k) (m_R_strike sR (spotX x k) (spotY y k) f).2 ∧ hitFr sL sR (stk sL x y f k) (m_R_strike sR (spotX x k) (spotY y k) f).2 := by
      intro k
      obtain ⟨-, s2, s3⟩ := strike_sim hR hL (spotX x k) (spotY y k) f hf
      exact ⟨okR_w hR s3.1, s2, s3⟩
    rw [tot_s]
    refine ⟨fun c => ?_, fun c => ?_⟩
    · refine sm_congr (fun k hk => congrArg ((sL 4 k).toInt * ·) ?_)
      obtain ⟨hR', s2, s3, s4, s5⟩ := st k
      have e6 := s3 0 6 (by omega)
      have e7 := s3 0 7 (by omega)
      have e11 := s3 0 11 (by omega)
      unfold hb
      by_cases cs : m_L_stands sL (spotX x k) (spotY y k) = 0
      · rw [if_pos cs]
        have es : stk sL x y f k = sL := by
          unfold stk m_L_strike
          rw [if_pos cs]
        rw [es]
        exact (ih sL sR hR hL).1 c
      rw [if_neg cs]
      rcases has_cases hR hL (spotX x k) (spotY y k) with ⟨a1, a2⟩ | ⟨a1, a2, xn, yn, a⟩
      · exact absurd (by unfold m_L_stands; rw [if_pos a1]) cs
      have io := isO hR' s2 a.1 (by rw [e6]; exact a.2.2.1)
      by_cases o : m_L_isOpen (stk sL x y f k) (spotX x k) = 0
      · rw [if_pos o]
        refine (ih _ _ hR' s2).1 ((fo_iff hR' s2).mpr (fun z hz => ?_))
        by_cases e : z = xn
        · rw [e]; exact io.mp o
        · have q := (fo_iff hR hL).mp c z (by rw [← e6]; exact hz)
          have ec : stk sL x y f k 2 z = sL 2 z := strike_col (by rw [a.x]; exact e)
          rw [ec, e7, e11]; exact q
      · rw [if_neg o]
        exact (ih _ _ hR' s2).2 (fun q => o (io.mpr ((fo_iff hR' s2).mp q xn (by rw [e6]; exact a.2.2.1))))
    · refine (sm_congr (b := fun _ => 0) (fun k hk => ?_)).trans sm_0
      obtain ⟨hR', s2, s3, s4, s5⟩ := st k
      have e6 := s3 0 6 (by omega)
      have e7 := s3 0 7 (by omega)
      have e11 := s3 0 11 (by omega)
      rw [(ih _ _ hR' s2).2 (fun q => c ((fo_iff hR hL).mpr (fun z hz => ?_))), Int.mul_zero]
      have q2 := (fo_iff hR' s2).mp q z (by rw [e6]; exact hz)
      have q3 := s5 z hz
      rw [e7, e11] at q2
      omega
theorem restore (hR : okR sR) (hL : relL sL sR) {X Y : Int32} (hf : 1 ≤ f.toInt ∧ f.toInt ≤ 99) (c : ¬ m_L_stands sL X Y = 0) : up (up (up (m_L_strike sL X Y f).2 2 (Int32.toNatClampNeg X) (sL 2 (Int32.toNatClampNeg X))) 3 (Int32.toNatClampNeg X) (sL 3 (Int32.toNatClampNeg X))) 1 (Int32.toNatClampNeg (m_L_place X Y)) (sL 1 (Int32.toNatClampNeg (m_L_place X Y))) = sL := by
  have h := congrArg Prod.snd (fallsBy_spec hR hL X Y f hf)
  unfold m_L_fallsBy at h
  rw [if_neg c] at h
  exact h
theorem hB1 (hR : okR sR) (hL : relL sL sR) (hf : 1 ≤ f.toInt ∧ f.toInt ≤ 99) {kI : Int32} {k : Nat} (hk : kI.toInt = (k : Int)) (h9 : k < 9) : (m_L_heldBy1 sL kI x y f).2 = sL ∧ (m_L_heldBy1 sL kI x y f).1.toInt = hb (fun t => hv x y f 0 t) x y f sL k := by
  obtain ⟨d1, d2⟩ := div3 hk h9
  unfold m_L_heldBy1
  rw [d1, d2]
  show (b_L_heldBy1_18 sL x y f (spotX x k) (spotY y k)).2 = sL ∧ (b_L_heldBy1_18 sL x y f (spotX x k) (spotY y k)).1.toInt = _
  unfold b_L_heldBy1_18 b_L_heldBy1_110 hb
  by_cases c : m_L_stands sL (spotX x k) (spotY y k) = 0
  · rw [if_pos c, if_pos c]
    exact ⟨rfl, by show (1 : Int64).toInt = 1; decide⟩
  obtain ⟨-, s2, s3⟩ := strike_sim hR hL (spotX x k) (spotY y k) f hf
  have hR' := okR_w hR s3.1
  have rs := restore hR hL hf c
  rw [if_neg c, if_neg c]
  by_cases o : m_L_isOpen (m_L_strike sL (spotX x k) (spotY y k) f).2 (spotX x k) = 0
  · have o' : m_L_isOpen (stk sL x y f k) (spotX x k) = 0 := o
    rw [if_pos o, if_pos o']
    exact ⟨rs, by show (1 : Int64).toInt = 1; decide⟩
  · have o' : ¬ m_L_isOpen (stk sL x y f k) (spotX x k) = 0 := o
    rw [if_neg o, if_neg o']
    exact ⟨rs, by show (0 : Int64).toInt = 0; decide⟩
theorem hA1 (hR : okR sR) (hL : relL sL sR) (hf : 1 ≤ f.toInt ∧ f.toInt ≤ 99) : (m_L_heldAfter1 sL x y f).2 = sL ∧ (m_L_heldAfter1 sL x y f).1.toInt = hv x y f 1 sL := by
  have w : Wt sL := Wt_of hL
  have hbb : ∀ k, 0 ≤ hb (fun t => hv x y f 0 t) x y f sL k ∧ hb (fun t => hv x y f 0 t) x y f sL k ≤ 1 := fun k => hb_b (by omega) w (fun t ht => by
    have q := hv_b (x := x) (y := y) (f := f) (n := 0) ht
    rw [show ((81 ^ 0 : Nat) : Int) = 1 by decide] at q
    exact q)
  have k := wl_run (f := g_L_heldAfter1_19 x y f) (fun j s => s.1 = sL ∧ s.2.1.toInt = sm (fun k => (sL 4 k).toInt * hb (fun t => hv x y f 0 t) x y f sL k) j ∧ s.2.2.toInt = (j : Int)) 9 (by
    rintro j ⟨s, v, c⟩ hj ⟨g1, g2, g3⟩
    dsimp only at g1 g2 g3
    subst g1
    have n1 : ¬ 9 ≤ c := fun q => by have := le_t q; rw [tl_9] at this; omega
    have hw := w j hj
    have hi : (c + 1).toInt = ((j + 1 : Nat) : Int) := by rw [t_inc (by omega)]; omega
    by_cases z : s 4 j ≤ 0
    · have zz := le_t z
      rw [tl_0] at zz
      refine ⟨(s, v, c + 1), ?_, rfl, ?_, hi⟩
      · show f_L_heldAfter1_19 x y f s v c = _
        unfold f_L_heldAfter1_19
        rw [if_neg n1, cl_n g3, if_pos z]
      · show v.toInt = sm _ j + (s 4 j).toInt * _
        rw [show (s 4 j).toInt = 0 by omega, Int.zero_mul, g2, Int.add_zero]
    · have B := hB1 (x := x) (y := y) hR hL hf g3 hj
      have hq := hbb j
      have m := mul_bd hw.1 hw.2 hq.1 hq.2
      have sb := sm_b (a := fun k => (s 4 k).toInt * hb (fun t => hv x y f 0 t) x y f s k) (B := 9 * 1) (n := j) (fun k hk => mul_bd (w k (by omega)).1 (w k (by omega)).2 (hbb k).1 (hbb k).2)
      have e : ((Int32.toInt64 (s 4 j)) * (m_L_heldBy1 s c x y f).1).toInt = (s 4 j).toInt * hb (fun t => hv x y f 0 t) x y f s j := by
        rw [l_mul (by rw [il_t, B.2]; omega) (by rw [il_t, B.2]; omega), il_t, B.2]
      refine ⟨((m_L_heldBy1 s c x y f).2, v + (Int32.toInt64 (s 4 j)) * (m_L_heldBy1 s c x y f).1, c + 1), ?_, B.1, ?_, hi⟩
      · show f_L_heldAfter1_19 x y f s v c = _
        unfold f_L_heldAfter1_19
        rw [if_neg n1, cl_n g3, if_neg z]
      · show (v + (Int32.toInt64 (s 4 j)) * (m_L_heldBy1 s c x y f).1).toInt = sm _ j + (s 4 j).toInt * _
        rw [l_add (by rw [e, g2]; omega) (by rw [e, g2]; omega), e, g2]) (by
    rintro ⟨s, v, c⟩ ⟨g1, g2, g3⟩
    dsimp only at g3
    show f_L_heldAfter1_19 x y f s v c = none
    unfold f_L_heldAfter1_19
    rw [if_pos (Int32.le_iff_toInt_le.mpr (by rw [tl_9]; omega))]) 10 0 (sL, 0, 0) (by omega) (by omega) ⟨rfl, by show (0 : Int64).toInt = 0; decide, by rw [tl_0]; rfl⟩
  exact ⟨k.1, k.2.1⟩
theorem hB2 (hR : okR sR) (hL : relL sL sR) (hf : 1 ≤ f.toInt ∧ f.toInt ≤ 99) {kI : Int32} {k : Nat} (hk : kI.toInt = (k : Int)) (h9 : k < 9) : (m_L_heldBy2 sL kI x y f).2 = sL ∧ (m_L_heldBy2 sL kI x y f).1.toInt = hb (fun t => hv x y f 1 t) x y f sL k := by
  obtain ⟨d1, d2⟩ := div3 hk h9
  unfold m_L_heldBy2
  rw [d1, d2]
  show (b_L_heldBy2_18 sL x y f (spotX x k) (spotY y k)).2 = sL ∧ (b_L_heldBy2_18 sL x y f (spotX x k) (spotY y k)).1.toInt = _
  unfold b_L_heldBy2_18 b_L_heldBy2_110 hb
  by_cases c : m_L_stands sL (spotX x k) (spotY y k) = 0
  · rw [if_pos c, if_pos c]
    exact hA1 hR hL hf
  obtain ⟨-, s2, s3⟩ := strike_sim hR hL (spotX x k) (spotY y k) f hf
  have hR' := okR_w hR s3.1
  have rs := restore hR hL hf c
  rw [if_neg c, if_neg c]
  by_cases o : m_L_isOpen (m_L_strike sL (spotX x k) (spotY y k) f).2 (spotX x k) = 0
  · have o' : m_L_isOpen (stk sL x y f k) (spotX x k) = 0 := o
    rw [if_pos o, if_pos o']
    have q := hA1 (x := x) (y := y) hR' s2 hf
    refine ⟨?_, q.2⟩
    dsimp only
    rw [q.1]
    exact rs
  · have o' : ¬ m_L_isOpen (stk sL x y f k) (spotX x k) = 0 := o
    rw [if_neg o, if_neg o']
    exact ⟨rs, by show (0 : Int64).toInt = 0; decide⟩
theorem hA2 (hR : okR sR) (hL : relL sL sR) (hf : 1 ≤ f.toInt ∧ f.toInt ≤ 99) : (m_L_heldAfter2 sL x y f).2 = sL ∧ (m_L_heldAfter2 sL x y f).1.toInt = hv x y f 2 sL := by
  have w : Wt sL := Wt_of hL
  have hbb : ∀ k, 0 ≤ hb (fun t => hv x y f 1 t) x y f sL k ∧ hb (fun t => hv x y f 1 t) x y f sL k ≤ 81 := fun k => hb_b (by omega) w (fun t ht => by
    have q := hv_b (x := x) (y := y) (f := f) (n := 1) ht
    rw [show ((81 ^ 1 : Nat) : Int) = 81 by decide] at q
    exact q)
  have k := wl_run (f := g_L_heldAfter2_19 x y f) (fun j s => s.1 = sL ∧ s.2.1.toInt = sm (fun k => (sL 4 k).toInt * hb (fun t => hv x y f 1 t) x y f sL k) j ∧ s.2.2.toInt = (j : Int)) 9 (by
    rintro j ⟨s, v, c⟩ hj ⟨g1, g2, g3⟩
    dsimp only at g1 g2 g3
    subst g1
    have n1 : ¬ 9 ≤ c := fun q => by have := le_t q; rw [tl_9] at this; omega
    have hw := w j hj
    have hi : (c + 1).toInt = ((j + 1 : Nat) : Int) := by rw [t_inc (by omega)]; omega
    by_cases z : s 4 j ≤ 0
    · have zz := le_t z
      rw [tl_0] at zz
      refine ⟨(s, v, c + 1), ?_, rfl, ?_, hi⟩
      · show f_L_heldAfter2_19 x y f s v c = _
        unfold f_L_heldAfter2_19
        rw [if_neg n1, cl_n g3, if_pos z]
      · show v.toInt = sm _ j + (s 4 j).toInt * _
        rw [show (s 4 j).toInt = 0 by omega, Int.zero_mul, g2, Int.add_zero]
    · have B := hB2 (x := x) (y := y) hR hL hf g3 hj
      have hq := hbb j
      have m := mul_bd hw.1 hw.2 hq.1 hq.2
      have sb := sm_b (a := fun k => (s 4 k).toInt * hb (fun t => hv x y f 1 t) x y f s k) (B := 9 * 81) (n := j) (fun k hk => mul_bd (w k (by omega)).1 (w k (by omega)).2 (hbb k).1 (hbb k).2)
      have e : ((Int32.toInt64 (s 4 j)) * (m_L_heldBy2 s c x y f).1).toInt = (s 4 j).toInt * hb (fun t => hv x y f 1 t) x y f s j := by
        rw [l_mul (by rw [il_t, B.2]; omega) (by rw [il_t, B.2]; omega), il_t, B.2]
      refine ⟨((m_L_heldBy2 s c x y f).2, v + (Int32.toInt64 (s 4 j)) * (m_L_heldBy2 s c x y f).1, c + 1), ?_, B.1, ?_, hi⟩
      · show f_L_heldAfter2_19 x y f s v c = _
        unfold f_L_heldAfter2_19
        rw [if_neg n1, cl_n g3, if_neg z]
      · show (v + (Int32.toInt64 (s 4 j)) * (m_L_heldBy2 s c x y f).1).toInt = sm _ j + (s 4 j).toInt * _
        rw [l_add (by rw [e, g2]; omega) (by rw [e, g2]; omega), e, g2]) (by
    rintro ⟨s, v, c⟩ ⟨g1, g2, g3⟩
    dsimp only at g3
    show f_L_heldAfter2_19 x y f s v c = none
    unfold f_L_heldAfter2_19
    rw [if_pos (Int32.le_iff_toInt_le.mpr (by rw [tl_9]; omega))]) 10 0 (sL, 0, 0) (by omega) (by omega) ⟨rfl, by show (0 : Int64).toInt = 0; decide, by rw [tl_0]; rfl⟩
  exact ⟨k.1, k.2.1⟩
theorem hB3 (hR : okR sR) (hL : relL sL sR) (hf : 1 ≤ f.toInt ∧ f.toInt ≤ 99) {kI : Int32} {k : Nat} (hk : kI.toInt = (k : Int)) (h9 : k < 9) : (m_L_heldBy3 sL kI x y f).2 = sL ∧ (m_L_heldBy3 sL kI x y f).1.toInt = hb (fun t => hv x y f 2 t) x y f sL k := by
  obtain ⟨d1, d2⟩ := div3 hk h9
  unfold m_L_heldBy3
  rw [d1, d2]
  show (b_L_heldBy3_18 sL x y f (spotX x k) (spotY y k)).2 = sL ∧ (b_L_heldBy3_18 sL x y f (spotX x k) (spotY y k)).1.toInt = _
  unfold b_L_heldBy3_18 b_L_heldBy3_110 hb
  by_cases c : m_L_stands sL (spotX x k) (spotY y k) = 0
  · rw [if_pos c, if_pos c]
    exact hA2 hR hL hf
  obtain ⟨-, s2, s3⟩ := strike_sim hR hL (spotX x k) (spotY y k) f hf
  have hR' := okR_w hR s3.1
  have rs := restore hR hL hf c
  rw [if_neg c, if_neg c]
  by_cases o : m_L_isOpen (m_L_strike sL (spotX x k) (spotY y k) f).2 (spotX x k) = 0
  · have o' : m_L_isOpen (stk sL x y f k) (spotX x k) = 0 := o
    rw [if_pos o, if_pos o']
    have q := hA2 (x := x) (y := y) hR' s2 hf
    refine ⟨?_, q.2⟩
    dsimp only
    rw [q.1]
    exact rs
  · have o' : ¬ m_L_isOpen (stk sL x y f k) (spotX x k) = 0 := o
    rw [if_neg o, if_neg o']
    exact ⟨rs, by show (0 : Int64).toInt = 0; decide⟩
theorem hA3 (hR : okR sR) (hL : relL sL sR) (hf : 1 ≤ f.toInt ∧ f.toInt ≤ 99) : (m_L_heldAfter3 sL x y f).2 = sL ∧ (m_L_heldAfter3 sL x y f).1.toInt = hv x y f 3 sL := by
  have w : Wt sL := Wt_of hL
  have hbb : ∀ k, 0 ≤ hb (fun t => hv x y f 2 t) x y f sL k ∧ hb (fun t => hv x y f 2 t) x y f sL k ≤ 6561 := fun k => hb_b (by omega) w (fun t ht => by
    have q := hv_b (x := x) (y := y) (f := f) (n := 2) ht
    rw [show ((81 ^ 2 : Nat) : Int) = 6561 by decide] at q
    exact q)
  have k := wl_run (f := g_L_heldAfter3_19 x y f) (fun j s => s.1 = sL ∧ s.2.1.toInt = sm (fun k => (sL 4 k).toInt * hb (fun t => hv x y f 2 t) x y f sL k) j ∧ s.2.2.toInt = (j : Int)) 9 (by
    rintro j ⟨s, v, c⟩ hj ⟨g1, g2, g3⟩
    dsimp only at g1 g2 g3
    subst g1
    have n1 : ¬ 9 ≤ c := fun q => by have := le_t q; rw [tl_9] at this; omega
    have hw := w j hj
    have hi : (c + 1).toInt = ((j + 1 : Nat) : Int) := by rw [t_inc (by omega)]; omega
    by_cases z : s 4 j ≤ 0
    · have zz := le_t z
      rw [tl_0] at zz
      refine ⟨(s, v, c + 1), ?_, rfl, ?_, hi⟩
      · show f_L_heldAfter3_19 x y f s v c = _
        unfold f_L_heldAfter3_19
        rw [if_neg n1, cl_n g3, if_pos z]
      · show v.toInt = sm _ j + (s 4 j).toInt * _
        rw [show (s 4 j).toInt = 0 by omega, Int.zero_mul, g2, Int.add_zero]
    · have B := hB3 (x := x) (y := y) hR hL hf g3 hj
      have hq := hbb j
      have m := mul_bd hw.1 hw.2 hq.1 hq.2
      have sb := sm_b (a := fun k => (s 4 k).toInt * hb (fun t => hv x y f 2 t) x y f s k) (B := 9 * 6561) (n := j) (fun k hk => mul_bd (w k (by omega)).1 (w k (by omega)).2 (hbb k).1 (hbb k).2)
      have e : ((Int32.toInt64 (s 4 j)) * (m_L_heldBy3 s c x y f).1).toInt = (s 4 j).toInt * hb (fun t => hv x y f 2 t) x y f s j := by
        rw [l_mul (by rw [il_t, B.2]; omega) (by rw [il_t, B.2]; omega), il_t, B.2]
      refine ⟨((m_L_heldBy3 s c x y f).2, v + (Int32.toInt64 (s 4 j)) * (m_L_heldBy3 s c x y f).1, c + 1), ?_, B.1, ?_, hi⟩
      · show f_L_heldAfter3_19 x y f s v c = _
        unfold f_L_heldAfter3_19
        rw [if_neg n1, cl_n g3, if_neg z]
      · show (v + (Int32.toInt64 (s 4 j)) * (m_L_heldBy3 s c x y f).1).toInt = sm _ j + (s 4 j).toInt * _
        rw [l_add (by rw [e, g2]; omega) (by rw [e, g2]; omega), e, g2]) (by
    rintro ⟨s, v, c⟩ ⟨g1, g2, g3⟩
    dsimp only at g3
    show f_L_heldAfter3_19 x y f s v c = none
    unfold f_L_heldAfter3_19
    rw [if_pos (Int32.le_iff_toInt_le.mpr (by rw [tl_9]; omega))]) 10 0 (sL, 0, 0) (by omega) (by omega) ⟨rfl, by show (0 : Int64).toInt = 0; decide, by rw [tl_0]; rfl⟩
  exact ⟨k.1, k.2.1⟩
theorem hB4 (hR : okR sR) (hL : relL sL sR) (hf : 1 ≤ f.toInt ∧ f.toInt ≤ 99) {kI : Int32} {k : Nat} (hk : kI.toInt = (k : Int)) (h9 : k < 9) : (m_L_heldBy4 sL kI x y f).2 = sL ∧ (m_L_heldBy4 sL kI x y f).1.toInt = hb (fun t => hv x y f 3 t) x y f sL k := by
  obtain ⟨d1, d2⟩ := div3 hk h9
  unfold m_L_heldBy4
  rw [d1, d2]
  show (b_L_heldBy4_18 sL x y f (spotX x k) (spotY y k)).2 = sL ∧ (b_L_heldBy4_18 sL x y f (spotX x k) (spotY y k)).1.toInt = _
  unfold b_L_heldBy4_18 b_L_heldBy4_110 hb
  by_cases c : m_L_stands sL (spotX x k) (spotY y k) = 0
  · rw [if_pos c, if_pos c]
    exact hA3 hR hL hf
  obtain ⟨-, s2, s3⟩ := strike_sim hR hL (spotX x k) (spotY y k) f hf
  have hR' := okR_w hR s3.1
  have rs := restore hR hL hf c
  rw [if_neg c, if_neg c]
  by_cases o : m_L_isOpen (m_L_strike sL (spotX x k) (spotY y k) f).2 (spotX x k) = 0
  · have o' : m_L_isOpen (stk sL x y f k) (spotX x k) = 0 := o
    rw [if_pos o, if_pos o']
    have q := hA3 (x := x) (y := y) hR' s2 hf
    refine ⟨?_, q.2⟩
    dsimp only
    rw [q.1]
    exact rs
  · have o' : ¬ m_L_isOpen (stk sL x y f k) (spotX x k) = 0 := o
    rw [if_neg o, if_neg o']
    exact ⟨rs, by show (0 : Int64).toInt = 0; decide⟩
theorem hA4 (hR : okR sR) (hL : relL sL sR) (hf : 1 ≤ f.toInt ∧ f.toInt ≤ 99) : (m_L_heldAfter4 sL x y f).2 = sL ∧ (m_L_heldAfter4 sL x y f).1.toInt = hv x y f 4 sL := by
  have w : Wt sL := Wt_of hL
  have hbb : ∀ k, 0 ≤ hb (fun t => hv x y f 3 t) x y f sL k ∧ hb (fun t => hv x y f 3 t) x y f sL k ≤ 531441 := fun k => hb_b (by omega) w (fun t ht => by
    have q := hv_b (x := x) (y := y) (f := f) (n := 3) ht
    rw [show ((81 ^ 3 : Nat) : Int) = 531441 by decide] at q
    exact q)
  have k := wl_run (f := g_L_heldAfter4_19 x y f) (fun j s => s.1 = sL ∧ s.2.1.toInt = sm (fun k => (sL 4 k).toInt * hb (fun t => hv x y f 3 t) x y f sL k) j ∧ s.2.2.toInt = (j : Int)) 9 (by
    rintro j ⟨s, v, c⟩ hj ⟨g1, g2, g3⟩
    dsimp only at g1 g2 g3
    subst g1
    have n1 : ¬ 9 ≤ c := fun q => by have := le_t q; rw [tl_9] at this; omega
    have hw := w j hj
    have hi : (c + 1).toInt = ((j + 1 : Nat) : Int) := by rw [t_inc (by omega)]; omega
    by_cases z : s 4 j ≤ 0
    · have zz := le_t z
      rw [tl_0] at zz
      refine ⟨(s, v, c + 1), ?_, rfl, ?_, hi⟩
      · show f_L_heldAfter4_19 x y f s v c = _
        unfold f_L_heldAfter4_19
        rw [if_neg n1, cl_n g3, if_pos z]
      · show v.toInt = sm _ j + (s 4 j).toInt * _
        rw [show (s 4 j).toInt = 0 by omega, Int.zero_mul, g2, Int.add_zero]
    · have B := hB4 (x := x) (y := y) hR hL hf g3 hj
      have hq := hbb j
      have m := mul_bd hw.1 hw.2 hq.1 hq.2
      have sb := sm_b (a := fun k => (s 4 k).toInt * hb (fun t => hv x y f 3 t) x y f s k) (B := 9 * 531441) (n := j) (fun k hk => mul_bd (w k (by omega)).1 (w k (by omega)).2 (hbb k).1 (hbb k).2)
      have e : ((Int32.toInt64 (s 4 j)) * (m_L_heldBy4 s c x y f).1).toInt = (s 4 j).toInt * hb (fun t => hv x y f 3 t) x y f s j := by
        rw [l_mul (by rw [il_t, B.2]; omega) (by rw [il_t, B.2]; omega), il_t, B.2]
      refine ⟨((m_L_heldBy4 s c x y f).2, v + (Int32.toInt64 (s 4 j)) * (m_L_heldBy4 s c x y f).1, c + 1), ?_, B.1, ?_, hi⟩
      · show f_L_heldAfter4_19 x y f s v c = _
        unfold f_L_heldAfter4_19
        rw [if_neg n1, cl_n g3, if_neg z]
      · show (v + (Int32.toInt64 (s 4 j)) * (m_L_heldBy4 s c x y f).1).toInt = sm _ j + (s 4 j).toInt * _
        rw [l_add (by rw [e, g2]; omega) (by rw [e, g2]; omega), e, g2]) (by
    rintro ⟨s, v, c⟩ ⟨g1, g2, g3⟩
    dsimp only at g3
    show f_L_heldAfter4_19 x y f s v c = none
    unfold f_L_heldAfter4_19
    rw [if_pos (Int32.le_iff_toInt_le.mpr (by rw [tl_9]; omega))]) 10 0 (sL, 0, 0) (by omega) (by omega) ⟨rfl, by show (0 : Int64).toInt = 0; decide, by rw [tl_0]; rfl⟩
  exact ⟨k.1, k.2.1⟩
theorem p9 {n : Nat} (h : n ≤ 4) : 9 ^ n ≤ 6561 := Nat.pow_le_pow_right (n := 9) (by decide) h
theorem dig {a : Int32} {r : Nat} (h : a.toInt = (r : Int)) (hr : r ≤ 6561) : (a - a / 9 * 9).toInt = ((r % 9 : Nat) : Int) ∧ (a / 9).toInt = ((r / 9 : Nat) : Int) := by
  have e : (a / 9).toInt = ((r / 9 : Nat) : Int) := by rw [t_dive (by omega), tl_9]; omega
  have e2 : (a / 9 * 9).toInt = ((r / 9 : Nat) : Int) * 9 := by rw [t_mul (by rw [e, tl_9]; omega) (by rw [e, tl_9]; omega), e, tl_9]
  refine ⟨?_, e⟩
  rw [t_sub (by omega) (by omega)]
  omega
/-- one row of the reference -/
theorem row_R (hR : okR sR) (hL : relL sL sR) (hf : 1 ≤ f.toInt ∧ f.toInt ≤ 99) {p4 rI : Int32} {n r : Nat} (hn : p4.toInt = (n : Int)) (h4 : n ≤ 4) (hr : rI.toInt = (r : Int)) (hr9 : r ≤ 6561) : (fun v : St × Int32 × Int64 × Int32 => (∀ a j, a ≠ 9 ∧ a ≠ 10 ∧ a ≠ 11 → v.1 a j = sR a j) ∧ (0 ≤ v.2.2.1.toInt ∧ v.2.2.1.toInt ≤ 6561) ∧ (v.2.2.1.toInt ≤ 0 → vl x y f n r sL = 0) ∧ (0 < v.2.2.1.toInt → vl x y f n r sL = v.2.2.1.toInt * (if m_R_open v.1 = -9 then 1 else 0))) (wl (g_R_held_83 x y f p4) 5 (sR, rI, 1, 0)) := by
  refine wl_end (f := g_R_held_83 x y f p4) (fun j v => ∃ (tL : St) (rn : Nat), okR v.1 ∧ relL tL v.1 ∧ (∀ a j, a ≠ 9 ∧ a ≠ 10 ∧ a ≠ 11 → v.1 a j = sR a j) ∧ v.2.1.toInt = (rn : Int) ∧ rn ≤ 6561 ∧ (0 ≤ v.2.2.1.toInt ∧ v.2.2.1.toInt ≤ ((9 ^ j : Nat) : Int)) ∧ vl x y f n r sL = v.2.2.1.toInt * vl x y f (n - j) rn tL ∧ v.2.2.2.toInt = (j : Int)) (fun v => (∀ a j, a ≠ 9 ∧ a ≠ 10 ∧ a ≠ 11 → v.1 a j = sR a j) ∧ (0 ≤ v.2.2.1.toInt ∧ v.2.2.1.toInt ≤ 6561) ∧ (v.2.2.1.toInt ≤ 0 → vl x y f n r sL = 0) ∧ (0 < v.2.2.1.toInt → vl x y f n r sL = v.2.2.1.toInt * (if m_R_open v.1 = -9 then 1 else 0))) n ?_ ?_ 5 0 (sR, rI, 1, 0) (by omega) (by omega) ⟨sL, r, hR, hL, fun _ _ _ => rfl, hr, hr9, by show 0 ≤ (1 : Int64).toInt ∧ (1 : Int64).toInt ≤ 1; decide, by show vl x y f n r sL = (1 : Int64).toInt * vl x y f n r sL; rw [show (1 : Int64).toInt = 1 by decide, Int.one_mul], by show (0 : Int32).toInt = _; rw [tl_0]; rfl⟩
  · rintro j ⟨t, a, P, c⟩ hj ⟨tL, rn, i1, i2, i3, i4, i5, i6, i7, i8⟩
    dsimp only at i1 i2 i3 i4 i6 i7 i8
    have n1 : ¬ p4 ≤ c := fun q => by have := le_t q; omega
    have pj : 9 ^ j ≤ 729 := show 9 ^ j ≤ 9 ^ 3 from Nat.pow_le_pow_right (by decide) (by omega)
    have ps : 9 ^ (j + 1) = 9 * 9 ^ j := by rw [Nat.pow_succ, Nat.mul_comm]
    by_cases z : lg_cmp P 0 ≤ 0
    · have zz := lgc_pos.mp z
      refine Or.inr ⟨?_, i3, ⟨i6.1, ?_⟩, fun _ => ?_, fun q => ?_⟩
      · show f_R_held_83 x y f p4 t a P c = none
        unfold f_R_held_83
        rw [if_neg n1, if_pos z]
      · show P.toInt ≤ 6561
        omega
      · rw [i7, show P.toInt = 0 by omega, Int.zero_mul]
      · have q : 0 < P.toInt := q
        omega
    obtain ⟨m, em⟩ : ∃ m, n - j = m + 1 := ⟨n - j - 1, by omega⟩
    have em' : n - (j + 1) = m := by omega
    rw [em] at i7
    have ev : vl x y f (m + 1) rn tL = (tL 4 (rn % 9)).toInt * vl x y f m (rn / 9) (stk tL x y f (rn % 9)) := rfl
    obtain ⟨d1, d2⟩ := dig i4 i5
    have hw := i2.2.2.2.1 (rn % 9) (by omega)
    have hc1 : (c + 1).toInt = ((j + 1 : Nat) : Int) := by rw [t_inc (by omega)]; omega
    have cd : Int32.toNatClampNeg (a - a / 9 * 9) = rn % 9 := cl_n d1
    have mb := mul_bd i6.1 i6.2 hw.2.1 hw.2.2
    have eP : (P * Int32.toInt64 (t 13 (rn % 9))).toInt = P.toInt * (t 13 (rn % 9)).toInt := by
      rw [l_mul (by rw [il_t]; omega) (by rw [il_t]; omega), il_t]
    have bP : 0 ≤ (P * Int32.toInt64 (t 13 (rn % 9))).toInt ∧ (P * Int32.toInt64 (t 13 (rn % 9))).toInt ≤ ((9 ^ (j + 1) : Nat) : Int) := by rw [eP, ps]; omega
    by_cases z2 : lg_cmp (P * Int32.toInt64 (t 13 (rn % 9))) 0 ≤ 0
    · have zz := lgc_pos.mp z2
      refine Or.inl ⟨(t, a / 9, P * Int32.toInt64 (t 13 (rn % 9)), c + 1), ?_, tL, rn / 9, i1, i2, i3, d2, by omega, bP, ?_, hc1⟩
      · show f_R_held_83 x y f p4 t a P c = _
        unfold f_R_held_83
        rw [if_neg n1, if_neg z, cd, if_pos z2]
      · have e0 : (P * Int32.toInt64 (t 13 (rn % 9))).toInt = 0 := by omega
        show vl x y f n r sL = (P * Int32.toInt64 (t 13 (rn % 9))).toInt * _
        rw [e0, Int.zero_mul, i7, ev, hw.1, ← Int.mul_assoc, ← eP, e0, Int.zero_mul]
    · obtain ⟨t1, t2⟩ := div3 d1 (by omega)
      obtain ⟨-, s2, s3⟩ := strike_sim i1 i2 (spotX x (rn % 9)) (spotY y (rn % 9)) f hf
      refine Or.inl ⟨((m_R_strike t (spotX x (rn % 9)) (spotY y (rn % 9)) f).2, a / 9, P * Int32.toInt64 (t 13 (rn % 9)), c + 1), ?_, stk tL x y f (rn % 9), rn / 9, okR_w i1 s3.1, s2, fun p q hp => (s3.1 p q hp).trans (i3 p q hp), d2, by omega, bP, ?_, hc1⟩
      · show f_R_held_83 x y f p4 t a P c = _
        unfold f_R_held_83
        rw [if_neg n1, if_neg z, cd, if_neg z2, t1, t2]
        rfl
      · show vl x y f n r sL = (P * Int32.toInt64 (t 13 (rn % 9))).toInt * _
        rw [i7, ev, hw.1, ← Int.mul_assoc, ← eP, em']
  · rintro ⟨t, a, P, c⟩ ⟨tL, rn, i1, i2, i3, i4, i5, i6, i7, i8⟩
    dsimp only at i1 i2 i3 i4 i6 i7 i8
    have pn := p9 h4
    refine ⟨?_, i3, ⟨i6.1, ?_⟩, fun q => ?_, fun q => ?_⟩
    · show f_R_held_83 x y f p4 t a P c = none
      unfold f_R_held_83
      rw [if_pos (Int32.le_iff_toInt_le.mpr (by omega))]
    · show P.toInt ≤ 6561
      omega
    · have q : P.toInt ≤ 0 := q
      rw [i7, show P.toInt = 0 by omega, Int.zero_mul]
    · show vl x y f n r sL = P.toInt * (if m_R_open t = -9 then 1 else 0)
      rw [i7, show n - n = 0 by omega, ← open_eq i1 i2]
      rfl
theorem held_R (hR : okR sR) (hL : relL sL sR) (hf : 1 ≤ f.toInt ∧ f.toInt ≤ 99) {p4 NI : Int32} {n F : Nat} (hn : p4.toInt = (n : Int)) (h4 : n ≤ 4) (hN : NI.toInt = ((9 ^ n : Nat) : Int)) (hF : 9 ^ n < F) : Rw sR (wl (g_R_held_66 x y f p4 NI) F (m_R_keep sR, 0, 0)).1 ∧ (wl (g_R_held_66 x y f p4 NI) F (m_R_keep sR, 0, 0)).2.1.toInt = tot x y f n sL := by
  obtain ⟨kp1, kp2⟩ := keep_spec (s := sR)
  have pn := p9 h4
  have k := wl_run (f := g_R_held_66 x y f p4 NI) (fun m v => Rw sR v.1 ∧ Kp sR v.1 ∧ v.2.1.toInt = sm (fun r => vl x y f n r sL) m ∧ v.2.2.toInt = (m : Int)) (9 ^ n) (by
    rintro m ⟨s, v, c⟩ hm ⟨g1, g2, g3, g4⟩
    dsimp only at g1 g2 g3 g4
    have n1 : ¬ NI ≤ c := fun q => by have := le_t q; omega
    have hi : (c + 1).toInt = ((m + 1 : Nat) : Int) := by rw [t_inc (by omega)]; omega
    have row := row_R (x := x) (y := y) (Rw_okR g1 hR) (Rw_relL g1 hR hL) hf hn h4 (rI := c) (r := m) g4 (by omega)
    have sb := sm_b (a := fun r => vl x y f n r sL) (B := 6561) (n := m) (fun r _ => by have := vl_b (x := x) (y := y) (f := f) (n := n) (r := r) (Wt_of hL); exact ⟨this.1, by omega⟩)
    show ∃ t, f_R_held_66 x y f p4 NI s v c = some t ∧ _
    unfold f_R_held_66 b_R_held_160
    rw [if_neg n1]
    generalize (wl (g_R_held_83 x y f p4) 5 (s, c, 1, 0)) = U at row ⊢
    obtain ⟨f1, f2, f3, f4⟩ := row
    have bk := back_rw g1 g2 f1
    by_cases z : lg_cmp U.2.2.1 0 ≤ 0
    · refine ⟨(m_R_giveBack U.1, v + 0, c + 1), by rw [if_pos z], bk.1, bk.2, ?_, hi⟩
      show (v + 0).toInt = sm _ m + vl x y f n m sL
      rw [f3 (lgc_pos.mp z), Int64.add_zero, g3, Int.add_zero]
    · have zz : 0 < U.2.2.1.toInt := by
        have : ¬ U.2.2.1.toInt ≤ 0 := fun q => z (lgc_pos.mpr q)
        omega
      have f5 := f4 zz
      by_cases o : m_R_open U.1 = -9
      · rw [if_pos o, Int.mul_one] at f5
        refine ⟨(m_R_giveBack U.1, v + U.2.2.1, c + 1), by rw [if_neg z, if_pos o], bk.1, bk.2, ?_, hi⟩
        show (v + U.2.2.1).toInt = sm _ m + vl x y f n m sL
        rw [f5, l_add (by omega) (by omega), g3]
      · rw [if_neg o, Int.mul_zero] at f5
        refine ⟨(m_R_giveBack U.1, v + 0, c + 1), by rw [if_neg z, if_neg o], bk.1, bk.2, ?_, hi⟩
        show (v + 0).toInt = sm _ m + vl x y f n m sL
        rw [f5, Int64.add_zero, g3, Int.add_zero]) (by
    rintro ⟨s, v, c⟩ ⟨g1, g2, g3, g4⟩
    dsimp only at g4
    show f_R_held_66 x y f p4 NI s v c = none
    unfold f_R_held_66
    rw [if_pos (Int32.le_iff_toInt_le.mpr (by omega))]) F 0 (m_R_keep sR, 0, 0) (Nat.zero_le _) (by rw [Nat.add_zero]; exact hF) ⟨Rw.ofs kp1, kp2, by show (0 : Int64).toInt = 0; decide, by rw [tl_0]; rfl⟩
  exact ⟨k.1, k.2.2.1⟩
theorem pow_R {p4 : Int32} {n : Nat} (hn : p4.toInt = (n : Int)) (h4 : n ≤ 4) : (wl (g_R_held_36 sR p4) 5 (1, 0)).1.toInt = ((9 ^ n : Nat) : Int) := by
  have k := wl_run (f := g_R_held_36 sR p4) (fun m v => v.1.toInt = ((9 ^ m : Nat) : Int) ∧ v.2.toInt = (m : Int)) n (by
    rintro m ⟨v, c⟩ hm ⟨g1, g2⟩
    dsimp only at g1 g2
    have pm := p9 (n := m) (by omega)
    have ps : 9 ^ (m + 1) = 9 * 9 ^ m := by rw [Nat.pow_succ, Nat.mul_comm]
    refine ⟨(v * 9, c + 1), ?_, ?_, ?_⟩
    · show f_R_held_36 sR p4 v c = _
      unfold f_R_held_36
      rw [if_neg (fun q => by have := le_t q; omega)]
    · dsimp only
      rw [t_mul (by rw [tl_9]; omega) (by rw [tl_9]; omega), tl_9, g1, ps]; omega
    · dsimp only
      rw [t_inc (by omega)]; omega) (by
    rintro ⟨v, c⟩ ⟨g1, g2⟩
    dsimp only at g2
    show f_R_held_36 sR p4 v c = none
    unfold f_R_held_36
    rw [if_pos (Int32.le_iff_toInt_le.mpr (by omega))]) 5 0 (1, 0) (by omega) (by omega) ⟨by rw [tl_1]; rfl, by rw [tl_0]; rfl⟩
  exact k.1
theorem held_L (hR : okR sR) (hL : relL sL sR) (hf : 1 ≤ f.toInt ∧ f.toInt ≤ 99) {p4 : Int32} {n : Nat} (hn : p4.toInt = (n : Int)) (h1 : 1 ≤ n) (h4 : n ≤ 4) : (fun X : Int64 × St => X.2 = sL ∧ X.1.toInt = tot x y f n sL) (if p4 = 1 then (if (m_L_firstOpen sL) = (-9) then ((m_L_heldAfter1 sL x y f).1, (m_L_heldAfter1 sL x y f).2)
  else (0, sL))
  else (if p4 = 2 then (if (m_L_firstOpen sL) = (-9) then ((m_L_heldAfter2 sL x y f).1, (m_L_heldAfter2 sL x y f).2)
  else (0, sL))
  else (if p4 = 3 then (if (m_L_firstOpen sL) = (-9) then ((m_L_heldAfter3 sL x y f).1, (m_L_heldAfter3 sL x y f).2)
  else (0, sL))
  else (if p4 = 4 then (if (m_L_firstOpen sL) = (-9) then ((m_L_heldAfter4 sL x y f).1, (m_L_heldAfter4 sL x y f).2)
  else (0, sL))
  else (0, sL))))) := by
  have te := tot_eq (x := x) (y := y) hf n sL sR hR hL
  have z : (0 : Int64).toInt = 0 := by decide
  have e4 : n = 1 ∨ n = 2 ∨ n = 3 ∨ n = 4 := by omega
  rcases e4 with e | e | e | e
  · subst e
    have ep : p4 = 1 := t_ext (by rw [tl_1]; omega)
    subst ep
    rw [if_pos rfl]
    by_cases fo : m_L_firstOpen sL = -9
    · rw [if_pos fo]
      have q := hA1 (x := x) (y := y) hR hL hf
      exact ⟨q.1, q.2.trans (te.1 fo).symm⟩
    · rw [if_neg fo]
      exact ⟨rfl, z.trans (te.2 fo).symm⟩
  · subst e
    have ep : p4 = 2 := t_ext (by rw [tl_2]; omega)
    subst ep
    rw [if_neg (show ¬ (2 : Int32) = 1 by decide), if_pos rfl]
    by_cases fo : m_L_firstOpen sL = -9
    · rw [if_pos fo]
      have q := hA2 (x := x) (y := y) hR hL hf
      exact ⟨q.1, q.2.trans (te.1 fo).symm⟩
    · rw [if_neg fo]
      exact ⟨rfl, z.trans (te.2 fo).symm⟩
  · subst e
    have ep : p4 = 3 := t_ext (by rw [tl_3]; omega)
    subst ep
    rw [if_neg (show ¬ (3 : Int32) = 1 by decide), if_neg (show ¬ (3 : Int32) = 2 by decide), if_pos rfl]
    by_cases fo : m_L_firstOpen sL = -9
    · rw [if_pos fo]
      have q := hA3 (x := x) (y := y) hR hL hf
      exact ⟨q.1, q.2.trans (te.1 fo).symm⟩
    · rw [if_neg fo]
      exact ⟨rfl, z.trans (te.2 fo).symm⟩
  · subst e
    have ep : p4 = 4 := t_ext (by rw [tl_4]; omega)
    subst ep
    rw [if_neg (show ¬ (4 : Int32) = 1 by decide), if_neg (show ¬ (4 : Int32) = 2 by decide), if_neg (show ¬ (4 : Int32) = 3 by decide), if_pos rfl]
    by_cases fo : m_L_firstOpen sL = -9
    · rw [if_pos fo]
      have q := hA4 (x := x) (y := y) hR hL hf
      exact ⟨q.1, q.2.trans (te.1 fo).symm⟩
    · rw [if_neg fo]
      exact ⟨rfl, z.trans (te.2 fo).symm⟩
end HELD
theorem P_held {sT : St} {vT : Int64} {sM sB sL sS sR : St} {vR : Int64} (h : Rel sT vT sM sB sL sS sR vR) (a1 a2 a3 a4 : Int32) : (m_T_held sT sL a1 a2 a3 a4).1 = (m_R_held sR a1 a2 a3 a4).1 ∧ Rel sT vT sM sB (m_T_held sT sL a1 a2 a3 a4).2 sS (m_R_held sR a1 a2 a3 a4).2 vR := by
  have hR := h.1
  have hL := h.2.2.2.2.1
  unfold m_T_held m_R_held m_R_isForce b_R_held_56 b_R_held_197
  rcases has_cases hR hL a1 a2 with ⟨b1, b2⟩ | ⟨b1, b2, xn, yn, a⟩
  · rw [if_pos b1, if_pos b2]
    exact ⟨rfl, h⟩
  have n1 : ¬ m_L_has sL a1 a2 = 0 := by rw [b1]; decide
  have n2 : ¬ m_R_isCell sR a1 a2 = 0 := by rw [b2]; decide
  rw [if_neg n1, if_neg n2]
  by_cases c : m_T_within a3 1 99 = 0
  · have c' : m_R_in a3 1 99 = 0 := c
    rw [if_pos c, if_pos c']
    exact ⟨rfl, h⟩
  have c' : ¬ m_R_in a3 1 99 = 0 := c
  rw [if_neg c, if_neg c']
  have w := within_t c
  rw [tl_1, tl_99] at w
  by_cases d : m_T_within a4 1 4 = 0
  · have d' : m_R_in a4 1 4 = 0 := d
    rw [if_pos d, if_pos d']
    exact ⟨rfl, h⟩
  have d' : ¬ m_R_in a4 1 4 = 0 := d
  rw [if_neg d, if_neg d']
  have w4 := within_t d
  rw [tl_1, tl_4] at w4
  obtain ⟨n, hn⟩ : ∃ n : Nat, a4.toInt = (n : Int) := ⟨a4.toInt.toNat, by omega⟩
  have qL := held_L (x := a1) (y := a2) hR hL w hn (by omega) (by omega)
  have pn := p9 (n := n) (by omega)
  have qR := held_R (x := a1) (y := a2) (F := 6562) hR hL w hn (by omega) (pow_R (sR := sR) hn (by omega)) (by omega)
  obtain ⟨l1, l2⟩ := qL
  obtain ⟨r1, r2⟩ := qR
  refine ⟨l_ext (l2.trans r2.symm), ?_⟩
  rw [l1]
  exact Rel_rw h r1
