theorem wDis {A : Nat → Prop} {ws : va_W} {g gR : Nat → Nat} (hD : va_D A ws) (hm : ws.map Prod.fst = (List.range 19).map g ++ (List.range 16).map gR) : ∀ i j : Nat, i < 19 → j < 16 → g i ≠ gR j := by
  intro i j hi hj e
  have h1 : (ws.map Prod.fst)[i]? = some (g i) := by
    rw [hm, List.getElem?_append_left (by simpa using hi), List.getElem?_map, List.getElem?_range hi]; rfl
  have h2 : (ws.map Prod.fst)[19 + j]? = some (gR j) := by
    rw [hm, List.getElem?_append_right (by simp)]
    simp only [List.length_map, List.length_range, Nat.add_sub_cancel_left]
    rw [List.getElem?_map, List.getElem?_range hj]; rfl
  rw [List.getElem?_map] at h1 h2
  cases a1 : ws[i]? with
  | none => rw [a1] at h1; cases h1
  | some p =>
    cases a2 : ws[19 + j]? with
    | none => rw [a2] at h2; cases h2
    | some q =>
      rw [a1] at h1; rw [a2] at h2
      have := hD.1 _ _ _ _ a1 a2 (by rw [Option.some.inj h1, Option.some.inj h2, e])
      omega
set_option maxHeartbeats 4000000 in
set_option maxRecDepth 100000 in
theorem whole_start {p : Program} {e : Env} {s : State} {m : MethodId} {below : List Frame} {meth : Method} {c : Code} (l : Launch) (hflags : l.flags = flags0) {b L : Nat} {xs : Nat → Int32} (hL : L ≤ 2560) (C0 : lw_At p s m meth c b L xs) : W p l e room_1 s m #[Value.ref b] below meth c s.heap [] 0 0 (lw_Z below #[Value.ref b] s) (entryFrame m ([Value.ref b] : List Value).toArray 4) := by
  obtain ⟨hx, hb, hr, hml, hown, hts, hX, hbl, hlocks, hgv⟩ := id C0
  have hown : s.vm.findClass RL = some m.cls := hown
  obtain ⟨c0, iS0, hKn0⟩ := u_known (C := RX0) (T := TX0) (N := 7) (n := 7) hts inX0 (hts (.instantiable RX0 7) (List.mem_of_getElem? (i := 92) (by decide +kernel)))
  obtain ⟨c1, iS1, hKn1⟩ := u_known (C := RX1) (T := TX1) (N := 6) (n := 6) hts inX1 (hts (.instantiable RX1 6) (List.mem_of_getElem? (i := 46) (by decide +kernel)))
  obtain ⟨c2, iS2, hKn2⟩ := u_known (C := RX2) (T := TX2) (N := 3) (n := 3) hts inX2 (hts (.instantiable RX2 3) (List.mem_of_getElem? (i := 152) (by decide +kernel)))
  obtain ⟨c3, iS3, hKn3⟩ := u_known (C := RX3) (T := TX3) (N := 7) (n := 7) hts inX3 (hts (.instantiable RX3 7) (List.mem_of_getElem? (i := 120) (by decide +kernel)))
  obtain ⟨c4, iS4, hKn4⟩ := u_known (C := RX4) (T := TX4) (N := 7) (n := 7) hts inX4 (hts (.instantiable RX4 7) (List.mem_of_getElem? (i := 38) (by decide +kernel)))
  obtain ⟨c5, iS5, hKn5⟩ := u_known (C := RX5) (T := TX5) (N := 33) (n := 33) hts inX5 (hts (.instantiable RX5 33) (List.mem_of_getElem? (i := 681) (by decide +kernel)))
  obtain ⟨D, hKc⟩ : ∃ D : va_G, ∀ (k : Nat) (q : vw_C), vwCl[k]? = some q → u_Kn s q.1 q.2.1 q.2.2 (D.1 k) (D.2 k) := by
    refine ⟨(fun k => if k = 0 then c0 else if k = 1 then c1 else if k = 2 then c2 else if k = 3 then c3 else if k = 4 then c4 else c5, fun k => if k = 0 then iS0 else if k = 1 then iS1 else if k = 2 then iS2 else if k = 3 then iS3 else if k = 4 then iS4 else iS5), ?_⟩
    intro k q hq
    match k, hq with
    | 0, hq => cases hq; exact hKn0
    | 1, hq => cases hq; exact hKn1
    | 2, hq => cases hq; exact hKn2
    | 3, hq => cases hq; exact hKn3
    | 4, hq => cases hq; exact hKn4
    | 5, hq => cases hq; exact hKn5
    | k + 6, hq => simp [vwCl] at hq
  obtain ⟨cI, kI, comp, hcI, hkI, hkind⟩ := Cond.arrayClass_spec (hts (.arrayClass .int) (List.mem_of_getElem? (i := 90) (by decide +kernel)))
  have hK : va_K D vwCl [(cI, .int)] s := by
    refine ⟨hKc, fun k q h => ?_⟩
    match k, h with
    | 0, h => cases h; exact ⟨fun n z => ⟨fun k h => (by cases h), kI, hkI, comp, hkind⟩, hcI⟩
    | k + 1, h => simp at h
  have hNE : NE s := ⟨va_Nw.of rfl (hts (.methodLinkNest RX0 61 yX4_down "WallStones") (List.mem_of_getElem? (i := 349) (by decide +kernel))), va_Nw.of rfl (hts (.methodLinkNest RX1 27 yX4_within "WallStones") (List.mem_of_getElem? (i := 197) (by decide +kernel))), va_Nw.of rfl (hts (.methodLinkNest RX1 45 yX4_sineOf "WallStones") (List.mem_of_getElem? (i := 55) (by decide +kernel))), va_Nw.of rfl (hts (.methodLinkNest RX1 54 yX4_down "WallStones") (List.mem_of_getElem? (i := 70) (by decide +kernel))), va_Nw.of rfl (hts (.methodLinkNest RX1 62 yX4_up "WallStones") (List.mem_of_getElem? (i := 241) (by decide +kernel))), va_Nw.of rfl (hts (.methodLinkNest RX2 19 yX4_within "WallStones") (List.mem_of_getElem? (i := 611) (by decide +kernel))), va_Nw.of rfl (hts (.methodLinkNest RX2 48 yX4_up "WallStones") (List.mem_of_getElem? (i := 646) (by decide +kernel))), va_Nw.of rfl (hts (.methodLinkNest RX3 69 yX4_within "WallStones") (List.mem_of_getElem? (i := 505) (by decide +kernel))), va_Nw.of rfl (hts (.methodLinkNest RX3 83 yX4_up "WallStones") (List.mem_of_getElem? (i := 511) (by decide +kernel))), va_Nw.of rfl (hts (.methodLinkNest RX4 177 yX3_heldAfter "WallStones") (List.mem_of_getElem? (i := 562) (by decide +kernel)))⟩
  have hs := flat_of_before _ hgv
  have hzML : zT "WallStones$Machine" "LEAST" 9 zML s.heap.size s s.heap := by
    obtain ⟨t, e1, e2⟩ := va_Tof (args := #[Value.ref b]) (s := s) (tm := (Term.static "WallStones$Machine" "LEAST" "[I")) (ty := .int) (N := 9) (f := fun j => .int (zML j)) (A := fun q => s.heap.size ≤ q) (by decide) (hs (Cond.arrayOf (Term.static "WallStones$Machine" "LEAST" "[I") .int) (by decide +kernel)) (va_eqt (hs (Cond.eq (.length (Term.static "WallStones$Machine" "LEAST" "[I")) (.int 9)) (by decide +kernel))) (fun j hj => by
      match j, hj with
      | 0, _ => exact va_eqt (z := 5) (hs (Cond.eq (.elem (Term.static "WallStones$Machine" "LEAST" "[I") (.int 0)) (.int 5)) (by decide +kernel))
      | 1, _ => exact va_eqt (z := 20) (hs (Cond.eq (.elem (Term.static "WallStones$Machine" "LEAST" "[I") (.int 1)) (.int 20)) (by decide +kernel))
      | 2, _ => exact va_eqt (z := 100) (hs (Cond.eq (.elem (Term.static "WallStones$Machine" "LEAST" "[I") (.int 2)) (.int 100)) (by decide +kernel))
      | 3, _ => exact va_eqt (z := 10) (hs (Cond.eq (.elem (Term.static "WallStones$Machine" "LEAST" "[I") (.int 3)) (.int 10)) (by decide +kernel))
      | 4, _ => exact va_eqt (z := 0) (hs (Cond.eq (.elem (Term.static "WallStones$Machine" "LEAST" "[I") (.int 4)) (.int 0)) (by decide +kernel))
      | 5, _ => exact va_eqt (z := 10) (hs (Cond.eq (.elem (Term.static "WallStones$Machine" "LEAST" "[I") (.int 5)) (.int 10)) (by decide +kernel))
      | 6, _ => exact va_eqt (z := 0) (hs (Cond.eq (.elem (Term.static "WallStones$Machine" "LEAST" "[I") (.int 6)) (.int 0)) (by decide +kernel))
      | 7, _ => exact va_eqt (z := 1) (hs (Cond.eq (.elem (Term.static "WallStones$Machine" "LEAST" "[I") (.int 7)) (.int 1)) (by decide +kernel))
      | 8, _ => exact va_eqt (z := 0) (hs (Cond.eq (.elem (Term.static "WallStones$Machine" "LEAST" "[I") (.int 8)) (.int 0)) (by decide +kernel))
      | k + 9, h => omega) (fun a h => Nat.not_le.mpr h)
    exact ⟨t, va_Zof (hts (.laysStatic "WallStones$Machine" "LEAST" "[I") (List.mem_of_getElem? (i := 201) (by decide +kernel))) (hts (.initialized "WallStones$Machine") (List.mem_of_getElem? (i := 30) (by decide +kernel))) e1 (fun a h => Nat.not_le.mpr h), e2⟩
  have hzMM : zT "WallStones$Machine" "MOST" 9 zMM s.heap.size s s.heap := by
    obtain ⟨t, e1, e2⟩ := va_Tof (args := #[Value.ref b]) (s := s) (tm := (Term.static "WallStones$Machine" "MOST" "[I")) (ty := .int) (N := 9) (f := fun j => .int (zMM j)) (A := fun q => s.heap.size ≤ q) (by decide) (hs (Cond.arrayOf (Term.static "WallStones$Machine" "MOST" "[I") .int) (by decide +kernel)) (va_eqt (hs (Cond.eq (.length (Term.static "WallStones$Machine" "MOST" "[I")) (.int 9)) (by decide +kernel))) (fun j hj => by
      match j, hj with
      | 0, _ => exact va_eqt (z := 40) (hs (Cond.eq (.elem (Term.static "WallStones$Machine" "MOST" "[I") (.int 0)) (.int 40)) (by decide +kernel))
      | 1, _ => exact va_eqt (z := 160) (hs (Cond.eq (.elem (Term.static "WallStones$Machine" "MOST" "[I") (.int 1)) (.int 160)) (by decide +kernel))
      | 2, _ => exact va_eqt (z := 9000) (hs (Cond.eq (.elem (Term.static "WallStones$Machine" "MOST" "[I") (.int 2)) (.int 9000)) (by decide +kernel))
      | 3, _ => exact va_eqt (z := 160) (hs (Cond.eq (.elem (Term.static "WallStones$Machine" "MOST" "[I") (.int 3)) (.int 160)) (by decide +kernel))
      | 4, _ => exact va_eqt (z := 60) (hs (Cond.eq (.elem (Term.static "WallStones$Machine" "MOST" "[I") (.int 4)) (.int 60)) (by decide +kernel))
      | 5, _ => exact va_eqt (z := 60) (hs (Cond.eq (.elem (Term.static "WallStones$Machine" "MOST" "[I") (.int 5)) (.int 60)) (by decide +kernel))
      | 6, _ => exact va_eqt (z := 900) (hs (Cond.eq (.elem (Term.static "WallStones$Machine" "MOST" "[I") (.int 6)) (.int 900)) (by decide +kernel))
      | 7, _ => exact va_eqt (z := 300) (hs (Cond.eq (.elem (Term.static "WallStones$Machine" "MOST" "[I") (.int 7)) (.int 300)) (by decide +kernel))
      | 8, _ => exact va_eqt (z := 2) (hs (Cond.eq (.elem (Term.static "WallStones$Machine" "MOST" "[I") (.int 8)) (.int 2)) (by decide +kernel))
      | k + 9, h => omega) (fun a h => Nat.not_le.mpr h)
    exact ⟨t, va_Zof (hts (.laysStatic "WallStones$Machine" "MOST" "[I") (List.mem_of_getElem? (i := 203) (by decide +kernel))) (hts (.initialized "WallStones$Machine") (List.mem_of_getElem? (i := 30) (by decide +kernel))) e1 (fun a h => Nat.not_le.mpr h), e2⟩
  have hzSL : zT "WallStones$Siege" "LEAST" 5 zSL s.heap.size s s.heap := by
    obtain ⟨t, e1, e2⟩ := va_Tof (args := #[Value.ref b]) (s := s) (tm := (Term.static "WallStones$Siege" "LEAST" "[I")) (ty := .int) (N := 5) (f := fun j => .int (zSL j)) (A := fun q => s.heap.size ≤ q) (by decide) (hs (Cond.arrayOf (Term.static "WallStones$Siege" "LEAST" "[I") .int) (by decide +kernel)) (va_eqt (hs (Cond.eq (.length (Term.static "WallStones$Siege" "LEAST" "[I")) (.int 5)) (by decide +kernel))) (fun j hj => by
      match j, hj with
      | 0, _ => exact va_eqt (z := 1) (hs (Cond.eq (.elem (Term.static "WallStones$Siege" "LEAST" "[I") (.int 0)) (.int 1)) (by decide +kernel))
      | 1, _ => exact va_eqt (z := 0) (hs (Cond.eq (.elem (Term.static "WallStones$Siege" "LEAST" "[I") (.int 1)) (.int 0)) (by decide +kernel))
      | 2, _ => exact va_eqt (z := 0) (hs (Cond.eq (.elem (Term.static "WallStones$Siege" "LEAST" "[I") (.int 2)) (.int 0)) (by decide +kernel))
      | 3, _ => exact va_eqt (z := 0) (hs (Cond.eq (.elem (Term.static "WallStones$Siege" "LEAST" "[I") (.int 3)) (.int 0)) (by decide +kernel))
      | 4, _ => exact va_eqt (z := 1) (hs (Cond.eq (.elem (Term.static "WallStones$Siege" "LEAST" "[I") (.int 4)) (.int 1)) (by decide +kernel))
      | k + 5, h => omega) (fun a h => Nat.not_le.mpr h)
    exact ⟨t, va_Zof (hts (.laysStatic "WallStones$Siege" "LEAST" "[I") (List.mem_of_getElem? (i := 613) (by decide +kernel))) (hts (.initialized "WallStones$Siege") (List.mem_of_getElem? (i := 34) (by decide +kernel))) e1 (fun a h => Nat.not_le.mpr h), e2⟩
  have hzSM : zT "WallStones$Siege" "MOST" 5 zSM s.heap.size s s.heap := by
    obtain ⟨t, e1, e2⟩ := va_Tof (args := #[Value.ref b]) (s := s) (tm := (Term.static "WallStones$Siege" "MOST" "[I")) (ty := .int) (N := 5) (f := fun j => .int (zSM j)) (A := fun q => s.heap.size ≤ q) (by decide) (hs (Cond.arrayOf (Term.static "WallStones$Siege" "MOST" "[I") .int) (by decide +kernel)) (va_eqt (hs (Cond.eq (.length (Term.static "WallStones$Siege" "MOST" "[I")) (.int 5)) (by decide +kernel))) (fun j hj => by
      match j, hj with
      | 0, _ => exact va_eqt (z := 200) (hs (Cond.eq (.elem (Term.static "WallStones$Siege" "MOST" "[I") (.int 0)) (.int 200)) (by decide +kernel))
      | 1, _ => exact va_eqt (z := 9999) (hs (Cond.eq (.elem (Term.static "WallStones$Siege" "MOST" "[I") (.int 1)) (.int 9999)) (by decide +kernel))
      | 2, _ => exact va_eqt (z := 9999) (hs (Cond.eq (.elem (Term.static "WallStones$Siege" "MOST" "[I") (.int 2)) (.int 9999)) (by decide +kernel))
      | 3, _ => exact va_eqt (z := 9999) (hs (Cond.eq (.elem (Term.static "WallStones$Siege" "MOST" "[I") (.int 3)) (.int 9999)) (by decide +kernel))
      | 4, _ => exact va_eqt (z := 200) (hs (Cond.eq (.elem (Term.static "WallStones$Siege" "MOST" "[I") (.int 4)) (.int 200)) (by decide +kernel))
      | k + 5, h => omega) (fun a h => Nat.not_le.mpr h)
    exact ⟨t, va_Zof (hts (.laysStatic "WallStones$Siege" "MOST" "[I") (List.mem_of_getElem? (i := 615) (by decide +kernel))) (hts (.initialized "WallStones$Siege") (List.mem_of_getElem? (i := 34) (by decide +kernel))) e1 (fun a h => Nat.not_le.mpr h), e2⟩
  have hE : EV D cI s.heap.size s s.heap := ⟨hK, hNE, hzML, hzMM, hzSL, hzSM⟩
  have hA9 : ∀ q : Nat, s.heap.size ≤ q → (fun q : Nat => s.heap.size ≤ q) q := fun _ h => h
  have hA : ∀ q : Nat, (fun q : Nat => s.heap.size ≤ q) q → s.heap.size ≤ q := fun _ h => h
  have hS : va_S (fun q : Nat => s.heap.size ≤ q) s.heap s.heap [] := va_S.rf
  have hP : va_P D vwCl [] s.heap := fun k q h => by simp at h
  have hD : va_D (fun q : Nat => s.heap.size ≤ q) [] := ⟨fun i j p q h => by simp at h, fun k q h => by simp at h⟩
  have hl := lv_entry ([.ref b]) (n := 4) (Nat.le_of_ble_eq_true rfl)
  rw [lg_entry_eq]
  generalize (lg_sl ([.ref b]) ++ List.replicate (4 - (lg_sl ([.ref b])).length) Slot.unset).toArray = ls at hl ⊢
  have hl : lv_has ls 4 [(0, .ref b)] := hl
  refine va_new (ci := 4) (fs := [.null, .null, .null, .null, .int 0, .int 0, .long 0]) (C := RX4) (T := TX4) (N := 7) hx hb hts inX4 tyX4 tyX4_ok hown (hts (.classLink RL 7 RX4) (List.mem_of_getElem? (i := 37) (by decide +kernel))) (hts (.instantiable RX4 7) (List.mem_of_getElem? (i := 38) (by decide +kernel))) (hts (.initialized RX4) (List.mem_of_getElem? (i := 29) (by decide +kernel))) hE.1 hP hD hS hA9 rfl (fun j hj => by rcases (show j = 0 ∨ j = 1 ∨ j = 2 ∨ j = 3 ∨ j = 4 ∨ j = 5 ∨ j = 6 by omega) with rfl | rfl | rfl | rfl | rfl | rfl | rfl <;> rfl) (Nat.le_of_ble_eq_true rfl) (Nat.le_of_ble_eq_true rfl) dL_law_0 (fun qT H hP hD hS => ?_)
  have hP : va_P D vwCl [(qT, (.inr (4, [.null, .null, .null, .null, .int 0, .int 0, .long 0]) : va_E))] H := hP
  have hD : va_D (fun q : Nat => s.heap.size ≤ q) [(qT, (.inr (4, [.null, .null, .null, .null, .int 0, .int 0, .long 0]) : va_E))] := hD
  refine lv_dup hx hb dL_law_3 rfl ?_
  have hPc := hP.sub (ws' := [(qT, (.inr (4, [.null, .null, .null, .null, .int 0, .int 0, .long 0]) : va_E))]) [0] rfl
  have hq9 : s.heap.size ≤ qT := hA _ (hD.2 0 (qT, (.inr (4, [.null, .null, .null, .null, .int 0, .int 0, .long 0]) : va_E)) rfl)
  have hz9 : s.heap.size ≤ H.size := hS.1
  have hFc := va_free (wc := [(qT, (.inr (4, [.null, .null, .null, .null, .int 0, .int 0, .long 0]) : va_E))]) hD hS hA9 [0] rfl
  refine va_callv (va_runI (As := []) (rest := [.ref qT]) ⟨hx, hb, hml, hown, hts⟩ (K_T_init (h0 := qT) (sz := H.size) hq9 hz9) (cwI 0 hts gL_law_X4_init rfl rfl rfl (hts (.initialized RX4) (List.mem_of_getElem? (i := 29) (by decide +kernel))) (hts (.methodLink RL 9 yX4_init) (List.mem_of_getElem? (i := 39) (by decide +kernel))) (hts (.instanceMethod yX4_init) (List.mem_of_getElem? (i := 40) (by decide +kernel))) rfl (by decide +kernel) ⟨Nat.le_of_ble_eq_true rfl, Nat.le_of_ble_eq_true rfl⟩) (preS_of (As := [.ref qT]) hE hA hS ⟨rfl, hPc⟩) rfl rfl hl.1 rfl (lv_room (Nat.le_of_ble_eq_true rfl)) dL_law_4 ⟨Nat.le_of_ble_eq_true rfl, Nat.le_of_ble_eq_true rfl⟩) hS (fun q _ h => hFc q h) hFc (fun u t H1 locs ht hvm hw hB hz1 hk1 hS => ?_)
  obtain ⟨g, eg, hP1, hD1⟩ := hB
  rw [ht] at hP1
  obtain ⟨hP7, hD7⟩ := va_join (wr := []) (w1 := (((((cellT cI g n_T 0) ++ cellM cI g n_M) ++ cellB cI g n_B) ++ cellL cI g n_L) ++ cellS cI g n_S)) hP hD [0] [] rfl rfl (by decide) (by decide) hk1 hFc hP1 hD1
  subst eg
  clear hP1 hD1 hk1 hFc hPc
  have hP : va_P D vwCl (((((cellT cI g n_T 0) ++ cellM cI g n_M) ++ cellB cI g n_B) ++ cellL cI g n_L) ++ cellS cI g n_S) H1 := hP7
  have hD : va_D (fun q : Nat => s.heap.size ≤ q) (((((cellT cI g n_T 0) ++ cellM cI g n_M) ++ cellB cI g n_B) ++ cellL cI g n_L) ++ cellS cI g n_S) := hD7
  refine lv_astore_n (lv' := [(1, .ref (g 0)), (0, .ref b)]) hx hb dL_law_7 rfl hl (by decide) rfl (fun ls hl => ?_)
  refine va_new (ci := 5) (fs := [.null, .int 0, .int 0, .int 0, .null, .null, .int 0, .int 0, .null, .null, .null, .int 0, .null, .int 0, .int 0, .null, .int 0, .int 0, .long 0, .int 0, .int 0, .int 0, .int 0, .int 0, .int 0, .int 0, .null, .null, .null, .null, .null, .null, .null]) (C := RX5) (T := TX5) (N := 33) hx hb hts inX5 tyX5 tyX5_ok hown (hts (.classLink RL 10 RX5) (List.mem_of_getElem? (i := 680) (by decide +kernel))) (hts (.instantiable RX5 33) (List.mem_of_getElem? (i := 681) (by decide +kernel))) (hts (.initialized RX5) (List.mem_of_getElem? (i := 35) (by decide +kernel))) hE.1 hP hD hS hA9 rfl (fun j hj => by rcases (show j = 0 ∨ j = 1 ∨ j = 2 ∨ j = 3 ∨ j = 4 ∨ j = 5 ∨ j = 6 ∨ j = 7 ∨ j = 8 ∨ j = 9 ∨ j = 10 ∨ j = 11 ∨ j = 12 ∨ j = 13 ∨ j = 14 ∨ j = 15 ∨ j = 16 ∨ j = 17 ∨ j = 18 ∨ j = 19 ∨ j = 20 ∨ j = 21 ∨ j = 22 ∨ j = 23 ∨ j = 24 ∨ j = 25 ∨ j = 26 ∨ j = 27 ∨ j = 28 ∨ j = 29 ∨ j = 30 ∨ j = 31 ∨ j = 32 by omega) with rfl | rfl | rfl | rfl | rfl | rfl | rfl | rfl | rfl | rfl | rfl | rfl | rfl | rfl | rfl | rfl | rfl | rfl | rfl | rfl | rfl | rfl | rfl | rfl | rfl | rfl | rfl | rfl | rfl | rfl | rfl | rfl | rfl <;> rfl) (Nat.le_of_ble_eq_true rfl) (Nat.le_of_ble_eq_true rfl) dL_law_8 (fun qR H hP hD hS => ?_)
  have hP : va_P D vwCl ((((((cellT cI g n_T 0) ++ cellM cI g n_M) ++ cellB cI g n_B) ++ cellL cI g n_L) ++ cellS cI g n_S) ++ [(qR, (.inr (5, [.null, .int 0, .int 0, .int 0, .null, .null, .int 0, .int 0, .null, .null, .null, .int 0, .null, .int 0, .int 0, .null, .int 0, .int 0, .long 0, .int 0, .int 0, .int 0, .int 0, .int 0, .int 0, .int 0, .null, .null, .null, .null, .null, .null, .null]) : va_E))]) H := hP
  have hD : va_D (fun q : Nat => s.heap.size ≤ q) ((((((cellT cI g n_T 0) ++ cellM cI g n_M) ++ cellB cI g n_B) ++ cellL cI g n_L) ++ cellS cI g n_S) ++ [(qR, (.inr (5, [.null, .int 0, .int 0, .int 0, .null, .null, .int 0, .int 0, .null, .null, .null, .int 0, .null, .int 0, .int 0, .null, .int 0, .int 0, .long 0, .int 0, .int 0, .int 0, .int 0, .int 0, .int 0, .int 0, .null, .null, .null, .null, .null, .null, .null]) : va_E))]) := hD
  refine lv_dup hx hb dL_law_11 rfl ?_
  have hPc := hP.sub (ws' := [(qR, (.inr (5, [.null, .int 0, .int 0, .int 0, .null, .null, .int 0, .int 0, .null, .null, .null, .int 0, .null, .int 0, .int 0, .null, .int 0, .int 0, .long 0, .int 0, .int 0, .int 0, .int 0, .int 0, .int 0, .int 0, .null, .null, .null, .null, .null, .null, .null]) : va_E))]) [19] rfl
  have hq9 : s.heap.size ≤ qR := hA _ (hD.2 19 (qR, (.inr (5, [.null, .int 0, .int 0, .int 0, .null, .null, .int 0, .int 0, .null, .null, .null, .int 0, .null, .int 0, .int 0, .null, .int 0, .int 0, .long 0, .int 0, .int 0, .int 0, .int 0, .int 0, .int 0, .int 0, .null, .null, .null, .null, .null, .null, .null]) : va_E)) rfl)
  have hz9 : s.heap.size ≤ H.size := hS.1
  have hFc := va_free (wc := [(qR, (.inr (5, [.null, .int 0, .int 0, .int 0, .null, .null, .int 0, .int 0, .null, .null, .null, .int 0, .null, .int 0, .int 0, .null, .int 0, .int 0, .long 0, .int 0, .int 0, .int 0, .int 0, .int 0, .int 0, .int 0, .null, .null, .null, .null, .null, .null, .null]) : va_E))]) hD hS hA9 [19] rfl
  refine va_callv (va_runI (As := []) (rest := [.ref qR]) ⟨hx, hb, hml, hown, hts⟩ (K_R_init (h0 := qR) (sz := H.size) hq9 hz9) (cwI 0 hts gL_law_X5_init rfl rfl rfl (hts (.initialized RX5) (List.mem_of_getElem? (i := 35) (by decide +kernel))) (hts (.methodLink RL 12 yX5_init) (List.mem_of_getElem? (i := 682) (by decide +kernel))) (hts (.instanceMethod yX5_init) (List.mem_of_getElem? (i := 683) (by decide +kernel))) rfl (by decide +kernel) ⟨Nat.le_of_ble_eq_true rfl, Nat.le_of_ble_eq_true rfl⟩) (preS_of (As := [.ref qR]) hE hA hS ⟨rfl, hPc⟩) rfl rfl hl.1 rfl (lv_room (Nat.le_of_ble_eq_true rfl)) dL_law_12 ⟨Nat.le_of_ble_eq_true rfl, Nat.le_of_ble_eq_true rfl⟩) hS (fun q _ h => hFc q h) hFc (fun u t H1 locs ht hvm hw hB hz1 hk1 hS => ?_)
  obtain ⟨gR, eg, hP1, hD1⟩ := hB
  rw [ht] at hP1
  obtain ⟨hP7, hD7⟩ := va_join (wr := (((((cellT cI g n_T 0) ++ cellM cI g n_M) ++ cellB cI g n_B) ++ cellL cI g n_L) ++ cellS cI g n_S)) (w1 := (cellR cI gR n_R 0)) hP hD [19] [0, 1, 2, 3, 4, 5, 6, 7, 8, 9, 10, 11, 12, 13, 14, 15, 16, 17, 18] rfl rfl (by decide) (by decide) hk1 hFc hP1 hD1
  subst eg
  clear hP1 hD1 hk1 hFc hPc
  have hP : va_P D vwCl ((((((cellT cI g n_T 0) ++ cellM cI g n_M) ++ cellB cI g n_B) ++ cellL cI g n_L) ++ cellS cI g n_S) ++ (cellR cI gR n_R 0)) H1 := hP7
  have hD : va_D (fun q : Nat => s.heap.size ≤ q) ((((((cellT cI g n_T 0) ++ cellM cI g n_M) ++ cellB cI g n_B) ++ cellL cI g n_L) ++ cellS cI g n_S) ++ (cellR cI gR n_R 0)) := hD7
  refine lv_astore_n (lv' := [(2, .ref (gR 0)), (1, .ref (g 0)), (0, .ref b)]) hx hb dL_law_15 rfl hl (by decide) rfl (fun ls hl => ?_)
  refine lv_iconst (v := 0) hx hb dL_law_16 (by decide) ?_
  refine lv_istore_n (lv' := [(3, .int 0), (2, .ref (gR 0)), (1, .ref (g 0)), (0, .ref b)]) hx hb dL_law_17 rfl hl (by decide) rfl (fun ls hl => ?_)
  refine W.widen (k := 600000) (n := 7302250) (Nat.le_of_ble_eq_true rfl) (Nat.le_of_ble_eq_true rfl) ?_
  have hPT := hP.sub (ws' := cellT cI g n_T 0) [0] rfl
  have hPM := hP.sub (ws' := cellM cI g n_M) [1, 2, 3, 4, 5] rfl
  have hPB := hP.sub (ws' := cellB cI g n_B) [6, 7, 8, 9, 10, 11] rfl
  have hPL := hP.sub (ws' := cellL cI g n_L) [12, 13, 14, 15, 16] rfl
  have hPS := hP.sub (ws' := cellS cI g n_S) [17, 18] rfl
  have hPR := hP.sub (ws' := cellR cI gR n_R 0) [19, 20, 21, 22, 23, 24, 25, 26, 27, 28, 29, 30, 31, 32, 33, 34] rfl
  have hDT := hD.sub (ws' := ((((cellT cI g n_T 0) ++ cellM cI g n_M) ++ cellB cI g n_B) ++ cellL cI g n_L) ++ cellS cI g n_S) [0, 1, 2, 3, 4, 5, 6, 7, 8, 9, 10, 11, 12, 13, 14, 15, 16, 17, 18] (by decide) rfl
  have hDR := hD.sub (ws' := cellR cI gR n_R 0) [19, 20, 21, 22, 23, 24, 25, 26, 27, 28, 29, 30, 31, 32, 33, 34] (by decide) rfl
  have hg : wI g 0 19 s.heap.size := wI_of (c := 0) (n := 19) hDT rfl (fun _ h => h)
  have hgR : wI gR 0 16 s.heap.size := wI_of (c := 0) (n := 16) hDR rfl (fun _ h => h)
  have hdis : ∀ i j : Nat, i < 19 → j < 16 → g i ≠ gR j := wDis hD rfl
  have z0 := tl_0
  exact law_loop hL C0 hE hg hgR hdis (L + 1) 0 n_T 0 n_M n_B n_L n_S n_R 0 _ _ ls (by omega) (by omega) (by omega) P_init ⟨hPT, hPM, hPB, hPL, hPS, hPR⟩ hS (lv_sub hl [3, 2, 1, 0] rfl)
