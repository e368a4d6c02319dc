/-! the book: what is left of the scales and drifts, on both sides -/
/-- the first k shots bear scale s and drift d -/
def Qk (g : Nat → Int32) (sR : St) (s : Nat) (d : Int) (k : Nat) : Prop := ∀ i, i < k → ¬ g (sR 5 i).toInt.toNat = -9 ∧ -(sR 0 2).toInt ≤ (g (sR 5 i).toInt.toNat).toInt * (85 + (s : Int)) / 100 + d - (sR 6 i).toInt ∧ (g (sR 5 i).toInt.toNat).toInt * (85 + (s : Int)) / 100 + d - (sR 6 i).toInt ≤ (sR 0 2).toInt
theorem Qk_s {g : Nat → Int32} {sR : St} {s : Nat} {d : Int} {k : Nat} : Qk g sR s d (k + 1) ↔ Qk g sR s d k ∧ (¬ g (sR 5 k).toInt.toNat = -9 ∧ -(sR 0 2).toInt ≤ (g (sR 5 k).toInt.toNat).toInt * (85 + (s : Int)) / 100 + d - (sR 6 k).toInt ∧ (g (sR 5 k).toInt.toNat).toInt * (85 + (s : Int)) / 100 + d - (sR 6 k).toInt ≤ (sR 0 2).toInt) := by
  constructor
  · intro h
    exact ⟨fun i hi => h i (by omega), h k (by omega)⟩
  · rintro ⟨h1, h2⟩ i hi
    by_cases e : i = k
    · rw [e]; exact h2
    · exact h1 i (by omega)
def gOk (g : Nat → Int32) : Prop := ∀ h, h < 61 → g h = -9 ∨ (0 ≤ (g h).toInt ∧ (g h).toInt ≤ 30000)
/-- where a hook lands by a scale -/
theorem sc_b {r : Int32} (hr : 0 ≤ r.toInt ∧ r.toInt ≤ 30000) {s : Nat} (hs : s < 31) : 0 ≤ r.toInt * (85 + (s : Int)) ∧ r.toInt * (85 + (s : Int)) ≤ 3450000 ∧ 0 ≤ r.toInt * (85 + (s : Int)) / 100 ∧ r.toInt * (85 + (s : Int)) / 100 ≤ 34500 := by
  have := mul_bd (a := r.toInt) (b := 85 + (s : Int)) (A := 30000) (B := 115) hr.1 hr.2 (by omega) (by omega)
  omega
theorem scaled_t {sB : St} {si hi : Int32} {s h : Nat} (es : si.toInt = (s : Int)) (eh : hi.toInt = (h : Int)) (hs : s < 31) (hr : 0 ≤ (sB 1 h).toInt ∧ (sB 1 h).toInt ≤ 30000) : (m_B_scaled sB si hi).toInt = (sB 1 h).toInt * (85 + (s : Int)) / 100 := by
  have b := sc_b hr hs
  have z85 : (85 : Int32).toInt = 85 := by decide +kernel
  have e85 : (85 + si).toInt = 85 + (s : Int) := by rw [t_add (by omega) (by omega), z85, es]
  unfold m_B_scaled
  rw [cl_n eh]
  have lm : (Int32.toInt64 (sB 1 h) * Int32.toInt64 (85 + si)).toInt = (sB 1 h).toInt * (85 + (s : Int)) := by rw [l_mul (by rw [il_t, il_t, e85]; omega) (by rw [il_t, il_t, e85]; omega), il_t, il_t, e85]
  have ld := down_t (a := Int32.toInt64 (sB 1 h) * Int32.toInt64 (85 + si)) (b := 100) (by rw [l100]; omega) (by omega)
  rw [lm, l100] at ld
  rw [li_t (by omega) (by omega), ld]
theorem lands_t {r p : Int32} {s j : Nat} (hr : 0 ≤ r.toInt ∧ r.toInt ≤ 30000) (hp : p.toInt = ((25 * s + j : Nat) : Int)) (hs : s < 31) (hj : j < 25) : (m_R_lands r p).toInt = r.toInt * (85 + (s : Int)) / 100 + (j : Int) - 12 := by
  have b := sc_b hr hs
  have z25 : (25 : Int32).toInt = 25 := by decide +kernel
  have z85 : (85 : Int32).toInt = 85 := by decide +kernel
  have z12 : (12 : Int32).toInt = 12 := by decide +kernel
  have d1 : (p / 25).toInt = (s : Int) := by rw [t_dive (by omega), z25]; omega
  have m1 : (p / 25 * 25).toInt = 25 * (s : Int) := by rw [t_mul (by rw [d1, z25]; omega) (by rw [d1, z25]; omega), d1, z25]; omega
  have r1 : (p - p / 25 * 25).toInt = (j : Int) := by rw [t_sub (by omega) (by omega), m1]; omega
  have a1 : (85 + p / 25).toInt = 85 + (s : Int) := by rw [t_add (by omega) (by omega), z85, d1]
  have m2 : (r * (85 + p / 25)).toInt = r.toInt * (85 + (s : Int)) := by rw [t_mul (by rw [a1]; omega) (by rw [a1]; omega), a1]
  have d2 : ((r * (85 + p / 25)) / 100).toInt = r.toInt * (85 + (s : Int)) / 100 := by rw [t_dive (by omega), m2, tl_100]
  have a2 : (((r * (85 + p / 25)) / 100) + (p - p / 25 * 25)).toInt = r.toInt * (85 + (s : Int)) / 100 + (j : Int) := by rw [t_add (by omega) (by omega), d2, r1]
  unfold m_R_lands
  rw [t_sub (by omega) (by omega), a2, z12]
/-- the least and the greatest drift of scale s -/
def scOk (g : Nat → Int32) (sR : St) (s k : Nat) (lo hi : Int32) : Prop := (-12 ≤ lo.toInt ∧ lo.toInt ≤ 100000) ∧ (-100000 ≤ hi.toInt ∧ hi.toInt ≤ 12) ∧ ∀ d : Int, -12 ≤ d → d ≤ 12 → ((lo.toInt ≤ d ∧ d ≤ hi.toInt) ↔ Qk g sR s d k)
section BOOK
variable {sM sB sR : St} {g : Nat → Int32}
theorem bear_ok {s k : Nat} {si : Int32} {u : St} (hB : relB sB sR) (hg : gOk g) (hr : ∀ h, h < 61 → u 1 h = g h) (hu : ∀ p j, p ≠ 1 ∧ p ≠ 4 ∧ p ≠ 5 → u p j = sB p j) (hh : 0 ≤ (sR 5 k).toInt ∧ (sR 5 k).toInt ≤ 60) (hk : k < 16) (es : si.toInt = (s : Int)) (hs : s < 31) (ok : scOk g sR s k (u 4 s) (u 5 s)) :
    scOk g sR s (k + 1) (m_B_bear u si (sB 2 k) (sB 3 k) 4 s) (m_B_bear u si (sB 2 k) (sB 3 k) 5 s) := by
  obtain ⟨o1, o2, o3⟩ := ok
  obtain ⟨b1, b2, b3, b4⟩ := hB.2.2.2 k hk
  have hp := hB.2.2.1
  have e6 : u 0 6 = sR 0 2 := (hu 0 6 (by omega)).trans hB.2.1
  have eh : (sB 2 k).toInt = (((sR 5 k).toInt.toNat : Nat) : Int) := by rw [b1]; omega
  have h61 : (sR 5 k).toInt.toNat < 61 := by omega
  have ec : Int32.toNatClampNeg (sB 2 k) = (sR 5 k).toInt.toNat := cl_n eh
  unfold m_B_bear
  rw [ec, cl_n es, hr _ h61, e6]
  rcases hg _ h61 with c | c
  · rw [if_pos c, up_other (by omega), up_get]
    have z13 : (-13 : Int32).toInt = -13 := by decide +kernel
    refine ⟨o1, by rw [z13]; omega, fun d d1 d2 => ?_⟩
    rw [z13]
    constructor
    · intro q; omega
    · intro q
      exact absurd c (Qk_s.mp q).2.1
  have n9c : ¬ g (sR 5 k).toInt.toNat = -9 := n9 c.1
  rw [if_neg n9c, up_other (s := up u 4 s _) (by omega), up_get, up_get, b2]
  have st := scaled_t (sB := u) es eh hs (by rw [hr _ h61]; exact c)
  rw [hr _ h61] at st
  have sb := sc_b c hs
  generalize m_B_scaled u si (sB 2 k) = m at st ⊢
  have em : ((sR 6 k) - m).toInt = (sR 6 k).toInt - m.toInt := t_sub (by omega) (by omega)
  have el : (((sR 6 k) - m) - (sR 0 2)).toInt = (sR 6 k).toInt - m.toInt - (sR 0 2).toInt := by rw [t_sub (by omega) (by omega), em]
  have er : (((sR 6 k) - m) + (sR 0 2)).toInt = (sR 6 k).toInt - m.toInt + (sR 0 2).toInt := by rw [t_add (by omega) (by omega), em]
  generalize (((sR 6 k) - m) - (sR 0 2)) = L at el ⊢
  generalize (((sR 6 k) - m) + (sR 0 2)) = H at er ⊢
  have eLo : (if u 4 s < L then L else u 4 s).toInt = max (u 4 s).toInt L.toInt := by
    by_cases q : u 4 s < L
    · have := lt_t q
      rw [if_pos q]; omega
    · have := nlt_t q
      rw [if_neg q]; omega
  have eHi : (if H < u 5 s then H else u 5 s).toInt = min (u 5 s).toInt H.toInt := by
    by_cases q : H < u 5 s
    · have := lt_t q
      rw [if_pos q]; omega
    · have := nlt_t q
      rw [if_neg q]; omega
  unfold scOk
  rw [eLo, eHi]
  refine ⟨by omega, by omega, fun d d1 d2 => ?_⟩
  rw [Qk_s, ← o3 d d1 d2, ← st]
  constructor
  · intro q
    exact ⟨by omega, n9c, by omega, by omega⟩
  · rintro ⟨q1, -, q2, q3⟩
    omega
/-- the ranges by hook: the same whatever the rest -/
theorem study_spec (hR : okR sR) (hM : relM sM sR) (hB : relB sB sR) (hgd : ∀ h, h < 61 → g h = m_R_step sR (sR 1 3) (Int32.ofNat h) 0 25) (hg : gOk g) :
    (∀ k j, k ≠ 3 → (m_B_study sM sB).1 k j = sM k j) ∧ (∀ k j, k ≠ 1 ∧ k ≠ 4 ∧ k ≠ 5 → (m_B_study sM sB).2 k j = sB k j) ∧ (∀ h, h < 61 → (m_B_study sM sB).2 1 h = g h) ∧ ∀ s, s < 31 → scOk g sR s (sR 0 3).toInt.toNat ((m_B_study sM sB).2 4 s) ((m_B_study sM sB).2 5 s) := by
  have nR := okR_lin hR
  have z61 : (61 : Int32).toInt = 61 := by decide +kernel
  have z31 : (31 : Int32).toInt = 31 := by decide +kernel
  have z12 : (12 : Int32).toInt = 12 := by decide +kernel
  have zm12 : (-12 : Int32).toInt = -12 := by decide +kernel
  -- the ranges
  have k1 := wl_run (f := g_B_study_7 (m_M_slingNow sM)) (fun k v => (∀ p j, p ≠ 3 → v.1 p j = sM p j) ∧ (∀ p j, p ≠ 1 → v.2.1 p j = sB p j) ∧ (∀ h, h < k → v.2.1 1 h = g h) ∧ v.2.2.toInt = (k : Int)) 61 (by
    rintro k ⟨m, u, i⟩ hk ⟨g1, g2, g3, g4⟩
    dsimp only at g1 g2 g3 g4
    have hMm := relM_scr (sM' := m) hM (fun p j hp => g1 p j hp.1)
    have ei : i = Int32.ofNat k := eq_ofNat g4
    obtain ⟨r1, -, r3, -⟩ := reckon_step (a := sR 1 3) (b := i) hR hMm (by omega) (by omega)
    rw [ei, ← hgd k hk, ← ei] at r1
    have e13 : m_M_slingNow sM = sR 1 3 := hM.1 3 (by decide)
    refine ⟨((m_M_reckon m (m_M_slingNow sM) i).2, up u 1 k (m_M_reckon m (m_M_slingNow sM) i).1, i + 1), ?_, ?_, ?_, ?_, ?_⟩
    · show f_B_study_7 (m_M_slingNow sM) m u i = _
      unfold f_B_study_7
      rw [if_neg (fun q => by have := le_t q; omega), cl_n g4]
    · intro p j hp
      dsimp only
      rw [e13, r3 p j hp]
      exact g1 p j hp
    · intro p j hp
      dsimp only
      rw [up_ne hp]
      exact g2 p j hp
    · intro h hh
      dsimp only
      rw [up_row, e13, r1]
      by_cases e : h = k
      · rw [if_pos e, e]
      · rw [if_neg e]; exact g3 h (by omega)
    · dsimp only
      rw [t_inc (by omega)]; omega) (by
    rintro ⟨m, u, i⟩ ⟨g1, g2, g3, g4⟩
    dsimp only at g4
    show f_B_study_7 (m_M_slingNow sM) m u i = none
    unfold f_B_study_7
    rw [if_pos (Int32.le_iff_toInt_le.mpr (by omega))]) 62 0 (sM, sB, 0) (by omega) (by omega) ⟨fun _ _ _ => rfl, fun _ _ _ => rfl, fun h hh => by omega, by rw [tl_0]; rfl⟩
  have hst : m_B_study sM sB = ((wl (g_B_study_7 (m_M_slingNow sM)) 62 (sM, sB, 0)).1, (wl (g_B_study_36 (wl (g_B_study_7 (m_M_slingNow sM)) 62 (sM, sB, 0)).1) 32 ((wl (g_B_study_7 (m_M_slingNow sM)) 62 (sM, sB, 0)).2.1, 0)).1) := rfl
  rw [hst]
  dsimp only
  generalize (wl (g_B_study_7 (m_M_slingNow sM)) 62 (sM, sB, 0)) = V at k1 ⊢
  obtain ⟨v1, v2, v3, -⟩ := k1
  -- the scales
  have k2 := wl_run (f := g_B_study_36 V.1) (fun k v => (∀ p j, p ≠ 1 ∧ p ≠ 4 ∧ p ≠ 5 → v.1 p j = sB p j) ∧ (∀ h, h < 61 → v.1 1 h = g h) ∧ (∀ s, s < k → scOk g sR s (sR 0 3).toInt.toNat (v.1 4 s) (v.1 5 s)) ∧ v.2.toInt = (k : Int)) 31 (by
    rintro s ⟨u, si⟩ hs ⟨g1, g2, g3, g4⟩
    dsimp only at g1 g2 g3 g4
    have k3 := wl_run (f := g_B_study_61 V.1 si) (fun k v => (∀ p j, p ≠ 1 ∧ p ≠ 4 ∧ p ≠ 5 → v.1 p j = sB p j) ∧ (∀ h, h < 61 → v.1 1 h = g h) ∧ (∀ t, t < s → v.1 4 t = u 4 t ∧ v.1 5 t = u 5 t) ∧ scOk g sR s k (v.1 4 s) (v.1 5 s) ∧ v.2.toInt = (k : Int)) (sR 0 3).toInt.toNat (by
      rintro k ⟨w, i⟩ hk ⟨q1, q2, q3, q4, q5⟩
      dsimp only at q1 q2 q3 q4 q5
      have hk16 : k < 16 := by omega
      have bo := bear_ok (s := s) (k := k) (si := si) (u := w) hB hg q2 q1 (hR.2 k hk16) hk16 g4 hs q4
      have w5 : w 0 5 = sR 0 3 := (q1 0 5 (by omega)).trans hB.1
      have w2 : w 2 k = sB 2 k := q1 2 k (by omega)
      have w3 : w 3 k = sB 3 k := q1 3 k (by omega)
      have fr : ∀ p j, (p ≠ 4 ∧ p ≠ 5) ∨ j ≠ s → m_B_bear w si (sB 2 k) (sB 3 k) p j = w p j := by
        intro p j hp
        unfold m_B_bear
        rw [cl_n g4]
        split
        · rw [up_other (by omega)]
        · rw [up_other (by omega), up_other (by omega)]
      refine ⟨(m_B_bear w si (sB 2 k) (sB 3 k), i + 1), ?_, ?_, ?_, ?_, bo, ?_⟩
      · show f_B_study_61 V.1 si w i = _
        unfold f_B_study_61
        rw [if_neg (fun q => by have := le_t q; rw [w5] at this; omega), cl_n q5, w2, w3]
      · intro p j hp
        dsimp only
        rw [fr p j (by omega)]
        exact q1 p j hp
      · intro h hh
        dsimp only
        rw [fr 1 h (by omega)]
        exact q2 h hh
      · intro t ht
        dsimp only
        rw [fr 4 t (by omega), fr 5 t (by omega)]
        exact q3 t ht
      · dsimp only
        rw [t_inc (by omega)]; omega) (by
      rintro ⟨w, i⟩ ⟨q1, q2, q3, q4, q5⟩
      dsimp only at q1 q5
      have w5 : w 0 5 = sR 0 3 := (q1 0 5 (by omega)).trans hB.1
      show f_B_study_61 V.1 si w i = none
      unfold f_B_study_61
      rw [if_pos (Int32.le_iff_toInt_le.mpr (by rw [w5]; omega))]) 17 0 ((up (up u 4 s (-12)) 5 s 12), 0) (by omega) (by omega) ⟨fun p j hp => by dsimp only; rw [up_ne hp.2.2, up_ne hp.2.1]; exact g1 p j hp, fun h hh => by dsimp only; rw [up_other (by omega), up_other (by omega)]; exact g2 h hh, fun t ht => by dsimp only; rw [up_other (by omega), up_other (by omega), up_other (by omega), up_other (by omega)]; exact ⟨rfl, rfl⟩, by
        dsimp only
        rw [up_other (by omega), up_get, up_get]
        refine ⟨by rw [zm12]; omega, by rw [z12]; omega, fun d d1 d2 => ?_⟩
        rw [zm12, z12]
        exact ⟨fun _ i hi => by omega, fun _ => ⟨d1, d2⟩⟩, by rw [tl_0]; rfl⟩
    refine ⟨((wl (g_B_study_61 V.1 si) 17 ((up (up u 4 s (-12)) 5 s 12), 0)).1, si + 1), ?_, ?_⟩
    · show f_B_study_36 V.1 u si = _
      unfold f_B_study_36 b_B_study_95
      rw [if_neg (fun q => by have := le_t q; omega), cl_n g4]
    · generalize (wl (g_B_study_61 V.1 si) 17 ((up (up u 4 s (-12)) 5 s 12), 0)) = Z at k3 ⊢
      obtain ⟨q1, q2, q3, q4, -⟩ := k3
      refine ⟨q1, q2, fun t ht => ?_, ?_⟩
      · by_cases e : t = s
        · rw [e]; exact q4
        · rw [(q3 t (by omega)).1, (q3 t (by omega)).2]
          exact g3 t (by omega)
      · dsimp only
        rw [t_inc (by omega)]; omega) (by
    rintro ⟨u, si⟩ ⟨g1, g2, g3, g4⟩
    dsimp only at g4
    show f_B_study_36 V.1 u si = none
    unfold f_B_study_36
    rw [if_pos (Int32.le_iff_toInt_le.mpr (by omega))]) 32 0 (V.2.1, 0) (by omega) (by omega) ⟨fun p j hp => v2 p j hp.1, v3, fun s hs => by omega, by rw [tl_0]; rfl⟩
  exact ⟨v1, k2.1, k2.2.1, k2.2.2.1⟩
end BOOK
