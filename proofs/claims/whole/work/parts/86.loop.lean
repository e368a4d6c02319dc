theorem ts_0 : (0 : Int32).toInt = 0 := by decide +kernel
theorem ts_1 : (1 : Int32).toInt = 1 := by decide +kernel
theorem ts_2 : (2 : Int32).toInt = 2 := by decide +kernel
theorem ts_3 : (3 : Int32).toInt = 3 := by decide +kernel
theorem ts_4 : (4 : Int32).toInt = 4 := by decide +kernel
theorem ts_5 : (5 : Int32).toInt = 5 := by decide +kernel
theorem ts_6 : (6 : Int32).toInt = 6 := by decide +kernel
theorem ts_7 : (7 : Int32).toInt = 7 := by decide +kernel
theorem ts_8 : (8 : Int32).toInt = 8 := by decide +kernel
theorem ts_9 : (9 : Int32).toInt = 9 := by decide +kernel
theorem ts_10 : (10 : Int32).toInt = 10 := by decide +kernel
theorem ts_11 : (11 : Int32).toInt = 11 := by decide +kernel
theorem ts_12 : (12 : Int32).toInt = 12 := by decide +kernel
theorem ts_13 : (13 : Int32).toInt = 13 := by decide +kernel
theorem ts_14 : (14 : Int32).toInt = 14 := by decide +kernel
theorem ts_15 : (15 : Int32).toInt = 15 := by decide +kernel
theorem ts_16 : (16 : Int32).toInt = 16 := by decide +kernel
theorem ts_17 : (17 : Int32).toInt = 17 := by decide +kernel
theorem ts_18 : (18 : Int32).toInt = 18 := by decide +kernel
theorem ts_19 : (19 : Int32).toInt = 19 := by decide +kernel
theorem ts_20 : (20 : Int32).toInt = 20 := by decide +kernel
theorem ts_21 : (21 : Int32).toInt = 21 := by decide +kernel
theorem ts_22 : (22 : Int32).toInt = 22 := by decide +kernel
theorem ts_23 : (23 : Int32).toInt = 23 := by decide +kernel
theorem ts_24 : (24 : Int32).toInt = 24 := by decide +kernel
theorem ts_25 : (25 : Int32).toInt = 25 := by decide +kernel
theorem ts_26 : (26 : Int32).toInt = 26 := by decide +kernel
theorem ts_27 : (27 : Int32).toInt = 27 := by decide +kernel
theorem ts_28 : (28 : Int32).toInt = 28 := by decide +kernel
theorem ts_29 : (29 : Int32).toInt = 29 := by decide +kernel
theorem ts_30 : (30 : Int32).toInt = 30 := by decide +kernel
theorem ts_31 : (31 : Int32).toInt = 31 := by decide +kernel
theorem ts_32 : (32 : Int32).toInt = 32 := by decide +kernel
theorem ts_33 : (33 : Int32).toInt = 33 := by decide +kernel
theorem ts_34 : (34 : Int32).toInt = 34 := by decide +kernel
set_option maxHeartbeats 4000000 in
set_option maxRecDepth 100000 in
theorem law_switch {p : Program} {e : Env} {s : State} {m : MethodId} {below : List Frame} {meth : Method} {c : Code} {l : Launch} {b L : Nat} {xs : Nat → Int32} (hL : L ≤ 2560) (C0 : lw_At p s m meth c b L xs) {D : va_G} {cI : ClassId} (hE : EV D cI s.heap.size s s.heap) {g gR : Nat → Nat} (hg : wI g 0 19 s.heap.size) (hgR : wI gR 0 16 s.heap.size) (hdis : ∀ i j : Nat, i < 19 → j < 16 → g i ≠ gR j) {i3 w : Int32} (h0 : 0 ≤ i3.toInt) (h5 : i3.toInt + 5 ≤ (L : Int)) {sT : St} {vT : Int64} {sM sB sL sS sR : St} {vR : Int64} (hr9 : Rel sT vT sM sB sL sS sR vR) {H : Heap} {locs : List Loc} {ls : Array Slot} (hW : Wd D cI g gR sT vT sM sB sL sS sR vR H) (hS : va_S (fun q : Nat => s.heap.size ≤ q) s.heap H locs) (hl : lv_has ls 4 [(0, .ref b), (1, .ref (g 0)), (2, .ref (gR 0)), (3, .int i3)]) (kk : (∀ (sT : St) (vT : Int64) (sM sB sL sS sR : St) (vR : Int64) (H : Heap) (locs : List Loc) (ls : Array Slot), Rel sT vT sM sB sL sS sR vR → Wd D cI g gR sT vT sM sB sL sS sR vR H → va_S (fun q : Nat => s.heap.size ≤ q) s.heap H locs → lv_has ls 4 [(0, .ref b), (1, .ref (g 0)), (2, .ref (gR 0)), (3, .int i3)] → W p l e room_1 s m #[Value.ref b] below meth c H locs 600000 7302250 (lw_Z below #[Value.ref b] s) (F0 m 1215 ls []))) : W p l e room_1 s m #[Value.ref b] below meth c H locs 600000 7302250 (lw_Z below #[Value.ref b] s) (F0 m 32 ls [.int w]) := by
  obtain ⟨hx, hb, hr, hml, hown, hts0, hX, hbl, hlocks, hgv⟩ := id C0
  by_cases c_0 : w = 0
  · refine lv_tableIn (tgt := 188) hx hb dL_law_32 (by rw [c_0]; decide) (by rw [c_0]; decide) (by rw [c_0]; rfl) (by decide) ?_
    exact lc_0 hL C0 hE hg hgR hdis h0 h5 hr9 hW hS hl kk
  have t_0 := ne_t c_0
  rw [ts_0] at t_0
  by_cases c_1 : w = 1
  · refine lv_tableIn (tgt := 221) hx hb dL_law_32 (by rw [c_1]; decide) (by rw [c_1]; decide) (by rw [c_1]; rfl) (by decide) ?_
    exact lc_1 hL C0 hE hg hgR hdis h0 h5 hr9 hW hS hl kk
  have t_1 := ne_t c_1
  rw [ts_1] at t_1
  by_cases c_2 : w = 2
  · refine lv_tableIn (tgt := 244) hx hb dL_law_32 (by rw [c_2]; decide) (by rw [c_2]; decide) (by rw [c_2]; rfl) (by decide) ?_
    exact lc_2 hL C0 hE hg hgR hdis h0 h5 hr9 hW hS hl kk
  have t_2 := ne_t c_2
  rw [ts_2] at t_2
  by_cases c_3 : w = 3
  · refine lv_tableIn (tgt := 267) hx hb dL_law_32 (by rw [c_3]; decide) (by rw [c_3]; decide) (by rw [c_3]; rfl) (by decide) ?_
    exact lc_3 hL C0 hE hg hgR hdis h0 h5 hr9 hW hS hl kk
  have t_3 := ne_t c_3
  rw [ts_3] at t_3
  by_cases c_4 : w = 4
  · refine lv_tableIn (tgt := 290) hx hb dL_law_32 (by rw [c_4]; decide) (by rw [c_4]; decide) (by rw [c_4]; rfl) (by decide) ?_
    exact lc_4 hL C0 hE hg hgR hdis h0 h5 hr9 hW hS hl kk
  have t_4 := ne_t c_4
  rw [ts_4] at t_4
  by_cases c_5 : w = 5
  · refine lv_tableIn (tgt := 323) hx hb dL_law_32 (by rw [c_5]; decide) (by rw [c_5]; decide) (by rw [c_5]; rfl) (by decide) ?_
    exact lc_5 hL C0 hE hg hgR hdis h0 h5 hr9 hW hS hl kk
  have t_5 := ne_t c_5
  rw [ts_5] at t_5
  by_cases c_6 : w = 6
  · refine lv_tableIn (tgt := 376) hx hb dL_law_32 (by rw [c_6]; decide) (by rw [c_6]; decide) (by rw [c_6]; rfl) (by decide) ?_
    exact lc_6 hL C0 hE hg hgR hdis h0 h5 hr9 hW hS hl kk
  have t_6 := ne_t c_6
  rw [ts_6] at t_6
  by_cases c_7 : w = 7
  · refine lv_tableIn (tgt := 399) hx hb dL_law_32 (by rw [c_7]; decide) (by rw [c_7]; decide) (by rw [c_7]; rfl) (by decide) ?_
    exact lc_7 hL C0 hE hg hgR hdis h0 h5 hr9 hW hS hl kk
  have t_7 := ne_t c_7
  rw [ts_7] at t_7
  by_cases c_8 : w = 8
  · refine lv_tableIn (tgt := 432) hx hb dL_law_32 (by rw [c_8]; decide) (by rw [c_8]; decide) (by rw [c_8]; rfl) (by decide) ?_
    exact lc_8 hL C0 hE hg hgR hdis h0 h5 hr9 hW hS hl kk
  have t_8 := ne_t c_8
  rw [ts_8] at t_8
  by_cases c_9 : w = 9
  · refine lv_tableIn (tgt := 445) hx hb dL_law_32 (by rw [c_9]; decide) (by rw [c_9]; decide) (by rw [c_9]; rfl) (by decide) ?_
    exact lc_9 hL C0 hE hg hgR hdis h0 h5 hr9 hW hS hl kk
  have t_9 := ne_t c_9
  rw [ts_9] at t_9
  by_cases c_10 : w = 10
  · refine lv_tableIn (tgt := 458) hx hb dL_law_32 (by rw [c_10]; decide) (by rw [c_10]; decide) (by rw [c_10]; rfl) (by decide) ?_
    exact lc_10 hL C0 hE hg hgR hdis h0 h5 hr9 hW hS hl kk
  have t_10 := ne_t c_10
  rw [ts_10] at t_10
  by_cases c_11 : w = 11
  · refine lv_tableIn (tgt := 491) hx hb dL_law_32 (by rw [c_11]; decide) (by rw [c_11]; decide) (by rw [c_11]; rfl) (by decide) ?_
    exact lc_11 hL C0 hE hg hgR hdis h0 h5 hr9 hW hS hl kk
  have t_11 := ne_t c_11
  rw [ts_11] at t_11
  by_cases c_12 : w = 12
  · refine lv_tableIn (tgt := 504) hx hb dL_law_32 (by rw [c_12]; decide) (by rw [c_12]; decide) (by rw [c_12]; rfl) (by decide) ?_
    exact lc_12 hL C0 hE hg hgR hdis h0 h5 hr9 hW hS hl kk
  have t_12 := ne_t c_12
  rw [ts_12] at t_12
  by_cases c_13 : w = 13
  · refine lv_tableIn (tgt := 537) hx hb dL_law_32 (by rw [c_13]; decide) (by rw [c_13]; decide) (by rw [c_13]; rfl) (by decide) ?_
    exact lc_13 hL C0 hE hg hgR hdis h0 h5 hr9 hW hS hl kk
  have t_13 := ne_t c_13
  rw [ts_13] at t_13
  by_cases c_14 : w = 14
  · refine lv_tableIn (tgt := 570) hx hb dL_law_32 (by rw [c_14]; decide) (by rw [c_14]; decide) (by rw [c_14]; rfl) (by decide) ?_
    exact lc_14 hL C0 hE hg hgR hdis h0 h5 hr9 hW hS hl kk
  have t_14 := ne_t c_14
  rw [ts_14] at t_14
  by_cases c_15 : w = 15
  · refine lv_tableIn (tgt := 613) hx hb dL_law_32 (by rw [c_15]; decide) (by rw [c_15]; decide) (by rw [c_15]; rfl) (by decide) ?_
    exact lc_15 hL C0 hE hg hgR hdis h0 h5 hr9 hW hS hl kk
  have t_15 := ne_t c_15
  rw [ts_15] at t_15
  by_cases c_16 : w = 16
  · refine lv_tableIn (tgt := 646) hx hb dL_law_32 (by rw [c_16]; decide) (by rw [c_16]; decide) (by rw [c_16]; rfl) (by decide) ?_
    exact lc_16 hL C0 hE hg hgR hdis h0 h5 hr9 hW hS hl kk
  have t_16 := ne_t c_16
  rw [ts_16] at t_16
  by_cases c_17 : w = 17
  · refine lv_tableIn (tgt := 689) hx hb dL_law_32 (by rw [c_17]; decide) (by rw [c_17]; decide) (by rw [c_17]; rfl) (by decide) ?_
    exact lc_17 hL C0 hE hg hgR hdis h0 h5 hr9 hW hS hl kk
  have t_17 := ne_t c_17
  rw [ts_17] at t_17
  by_cases c_18 : w = 18
  · refine lv_tableIn (tgt := 732) hx hb dL_law_32 (by rw [c_18]; decide) (by rw [c_18]; decide) (by rw [c_18]; rfl) (by decide) ?_
    exact lc_18 hL C0 hE hg hgR hdis h0 h5 hr9 hW hS hl kk
  have t_18 := ne_t c_18
  rw [ts_18] at t_18
  by_cases c_19 : w = 19
  · refine lv_tableIn (tgt := 755) hx hb dL_law_32 (by rw [c_19]; decide) (by rw [c_19]; decide) (by rw [c_19]; rfl) (by decide) ?_
    exact lc_19 hL C0 hE hg hgR hdis h0 h5 hr9 hW hS hl kk
  have t_19 := ne_t c_19
  rw [ts_19] at t_19
  by_cases c_20 : w = 20
  · refine lv_tableIn (tgt := 768) hx hb dL_law_32 (by rw [c_20]; decide) (by rw [c_20]; decide) (by rw [c_20]; rfl) (by decide) ?_
    exact lc_20 hL C0 hE hg hgR hdis h0 h5 hr9 hW hS hl kk
  have t_20 := ne_t c_20
  rw [ts_20] at t_20
  by_cases c_21 : w = 21
  · refine lv_tableIn (tgt := 801) hx hb dL_law_32 (by rw [c_21]; decide) (by rw [c_21]; decide) (by rw [c_21]; rfl) (by decide) ?_
    exact lc_21 hL C0 hE hg hgR hdis h0 h5 hr9 hW hS hl kk
  have t_21 := ne_t c_21
  rw [ts_21] at t_21
  by_cases c_22 : w = 22
  · refine lv_tableIn (tgt := 844) hx hb dL_law_32 (by rw [c_22]; decide) (by rw [c_22]; decide) (by rw [c_22]; rfl) (by decide) ?_
    exact lc_22 hL C0 hE hg hgR hdis h0 h5 hr9 hW hS hl kk
  have t_22 := ne_t c_22
  rw [ts_22] at t_22
  by_cases c_23 : w = 23
  · refine lv_tableIn (tgt := 887) hx hb dL_law_32 (by rw [c_23]; decide) (by rw [c_23]; decide) (by rw [c_23]; rfl) (by decide) ?_
    exact lc_23 hL C0 hE hg hgR hdis h0 h5 hr9 hW hS hl kk
  have t_23 := ne_t c_23
  rw [ts_23] at t_23
  by_cases c_24 : w = 24
  · refine lv_tableIn (tgt := 920) hx hb dL_law_32 (by rw [c_24]; decide) (by rw [c_24]; decide) (by rw [c_24]; rfl) (by decide) ?_
    exact lc_24 hL C0 hE hg hgR hdis h0 h5 hr9 hW hS hl kk
  have t_24 := ne_t c_24
  rw [ts_24] at t_24
  by_cases c_25 : w = 25
  · refine lv_tableIn (tgt := 974) hx hb dL_law_32 (by rw [c_25]; decide) (by rw [c_25]; decide) (by rw [c_25]; rfl) (by decide) ?_
    exact lc_25 hL C0 hE hg hgR hdis h0 h5 hr9 hW hS hl kk
  have t_25 := ne_t c_25
  rw [ts_25] at t_25
  by_cases c_26 : w = 26
  · refine lv_tableIn (tgt := 987) hx hb dL_law_32 (by rw [c_26]; decide) (by rw [c_26]; decide) (by rw [c_26]; rfl) (by decide) ?_
    exact lc_26 hL C0 hE hg hgR hdis h0 h5 hr9 hW hS hl kk
  have t_26 := ne_t c_26
  rw [ts_26] at t_26
  by_cases c_27 : w = 27
  · refine lv_tableIn (tgt := 1000) hx hb dL_law_32 (by rw [c_27]; decide) (by rw [c_27]; decide) (by rw [c_27]; rfl) (by decide) ?_
    exact lc_27 hL C0 hE hg hgR hdis h0 h5 hr9 hW hS hl kk
  have t_27 := ne_t c_27
  rw [ts_27] at t_27
  by_cases c_28 : w = 28
  · refine lv_tableIn (tgt := 1023) hx hb dL_law_32 (by rw [c_28]; decide) (by rw [c_28]; decide) (by rw [c_28]; rfl) (by decide) ?_
    exact lc_28 hL C0 hE hg hgR hdis h0 h5 hr9 hW hS hl kk
  have t_28 := ne_t c_28
  rw [ts_28] at t_28
  by_cases c_29 : w = 29
  · refine lv_tableIn (tgt := 1066) hx hb dL_law_32 (by rw [c_29]; decide) (by rw [c_29]; decide) (by rw [c_29]; rfl) (by decide) ?_
    exact lc_29 hL C0 hE hg hgR hdis h0 h5 hr9 hW hS hl kk
  have t_29 := ne_t c_29
  rw [ts_29] at t_29
  by_cases c_30 : w = 30
  · refine lv_tableIn (tgt := 1099) hx hb dL_law_32 (by rw [c_30]; decide) (by rw [c_30]; decide) (by rw [c_30]; rfl) (by decide) ?_
    exact lc_30 hL C0 hE hg hgR hdis h0 h5 hr9 hW hS hl kk
  have t_30 := ne_t c_30
  rw [ts_30] at t_30
  by_cases c_31 : w = 31
  · refine lv_tableIn (tgt := 1132) hx hb dL_law_32 (by rw [c_31]; decide) (by rw [c_31]; decide) (by rw [c_31]; rfl) (by decide) ?_
    exact lc_31 hL C0 hE hg hgR hdis h0 h5 hr9 hW hS hl kk
  have t_31 := ne_t c_31
  rw [ts_31] at t_31
  by_cases c_32 : w = 32
  · refine lv_tableIn (tgt := 1155) hx hb dL_law_32 (by rw [c_32]; decide) (by rw [c_32]; decide) (by rw [c_32]; rfl) (by decide) ?_
    exact lc_32 hL C0 hE hg hgR hdis h0 h5 hr9 hW hS hl kk
  have t_32 := ne_t c_32
  rw [ts_32] at t_32
  by_cases c_33 : w = 33
  · refine lv_tableIn (tgt := 1178) hx hb dL_law_32 (by rw [c_33]; decide) (by rw [c_33]; decide) (by rw [c_33]; rfl) (by decide) ?_
    exact lc_33 hL C0 hE hg hgR hdis h0 h5 hr9 hW hS hl kk
  have t_33 := ne_t c_33
  rw [ts_33] at t_33
  by_cases c_34 : w = 34
  · refine lv_tableIn (tgt := 1201) hx hb dL_law_32 (by rw [c_34]; decide) (by rw [c_34]; decide) (by rw [c_34]; rfl) (by decide) ?_
    exact lc_34 hL C0 hE hg hgR hdis h0 h5 hr9 hW hS hl kk
  have t_34 := ne_t c_34
  rw [ts_34] at t_34
  refine lv_tableOut (tgt := 1215) hx hb dL_law_32 (by omega) (by decide) ?_
  exact kk _ _ _ _ _ _ _ _ H locs ls hr9 hW hS hl
set_option maxHeartbeats 4000000 in
set_option maxRecDepth 100000 in
theorem law_loop {p : Program} {e : Env} {s : State} {m : MethodId} {below : List Frame} {meth : Method} {c : Code} {l : Launch} {b L : Nat} {xs : Nat → Int32} (hL : L ≤ 2560) (C0 : lw_At p s m meth c b L xs) {D : va_G} {cI : ClassId} (hE : EV D cI s.heap.size s s.heap) {g gR : Nat → Nat} (hg : wI g 0 19 s.heap.size) (hgR : wI gR 0 16 s.heap.size) (hdis : ∀ i j : Nat, i < 19 → j < 16 → g i ≠ gR j) : ∀ (n : Nat) (i3 : Int32) (sT : St) (vT : Int64) (sM sB sL sS sR : St) (vR : Int64) (H : Heap) (locs : List Loc) (ls : Array Slot), 0 ≤ i3.toInt → i3.toInt ≤ (L : Int) → ((L : Int) - i3.toInt).toNat < n → Rel sT vT sM sB sL sS sR vR → Wd D cI g gR sT vT sM sB sL sS sR vR H → va_S (fun q : Nat => s.heap.size ≤ q) s.heap H locs → lv_has ls 4 [(0, .ref b), (1, .ref (g 0)), (2, .ref (gR 0)), (3, .int i3)] → W p l e room_1 s m #[Value.ref b] below meth c H locs 600000 7302250 (lw_Z below #[Value.ref b] s) (F0 m 18 ls []) := by
  obtain ⟨hx, hb, hr, hml, hown, hts0, hX, hbl, hlocks, hgv⟩ := id C0
  have hbA : ¬ (fun q : Nat => s.heap.size ≤ q) b := Nat.not_le.mpr hbl
  have z5 := tl_5
  have hLi : (Int32.ofNat L).toInt = (L : Int) := by rw [Int32.toInt_ofNat_of_lt (by omega)]
  intro n
  induction n with
  | zero =>
    intro i3 sT vT sM sB sL sS sR vR H locs ls h0 h1 hn
    exact absurd hn (Nat.not_lt_zero _)
  | succ n ih =>
    intro i3 sT vT sM sB sL sS sR vR H locs ls h0 h1 hn hr9 hW hS hl
    have kk : i3.toInt + 5 ≤ (L : Int) → (∀ (sT : St) (vT : Int64) (sM sB sL sS sR : St) (vR : Int64) (H : Heap) (locs : List Loc) (ls : Array Slot), Rel sT vT sM sB sL sS sR vR → Wd D cI g gR sT vT sM sB sL sS sR vR H → va_S (fun q : Nat => s.heap.size ≤ q) s.heap H locs → lv_has ls 4 [(0, .ref b), (1, .ref (g 0)), (2, .ref (gR 0)), (3, .int i3)] → W p l e room_1 s m #[Value.ref b] below meth c H locs 600000 7302250 (lw_Z below #[Value.ref b] s) (F0 m 1215 ls [])) := by
      intro h5 sT vT sM sB sL sS sR vR H locs ls hr9 hW hS hl
      refine lv_iinc (v := (i3 + 5)) (lv' := [(3, .int (i3 + 5)), (0, .ref b), (1, .ref (g 0)), (2, .ref (gR 0))]) hx hb dL_law_1215 hl (k := 3) rfl rfl (by decide) rfl (fun ls hl => ?_)
      refine lv_goto (tgt := 18) hx hb dL_law_1218 (by decide) ?_
      have e5 := t_add (x := i3) (y := 5) (by omega) (by omega)
      exact ih (i3 + 5) sT vT sM sB sL sS sR vR H locs ls (by omega) (by omega) (by omega) hr9 hW hS (lv_sub hl [1, 2, 3, 0] rfl)
    refine lv_iload_n hx hb dL_law_18 rfl (lv_at hl 3 rfl) ?_
    refine lv_aload_n hx hb dL_law_19 rfl (lv_at hl 0 rfl) ?_
    refine va_slen hx hb hX hbl hbA hS dL_law_20 ?_
    refine lv_iconst (v := 5) hx hb dL_law_21 (by decide) ?_
    refine lv_isub hx hb dL_law_22 ?_
    have eL := t_sub (x := Int32.ofNat L) (y := 5) (by omega) (by omega)
    refine lv_icmp_gt (tgt := 1221) hx hb dL_law_23 (by decide) (fun c => ?_) (fun c => ?_)
    · clear kk ih
      refine lv_iconst (v := 1) hx hb dL_law_1221 (by decide) ?_
      refine va_forget (fun q hq => hS.2.2 q hq) ?_
      exact lw_ret hx hb hr hlocks dL_law_1222
    · have h5 : i3.toInt + 5 ≤ (L : Int) := by have := nlt_t c; omega
      have kk := kk h5
      refine lv_aload_n hx hb dL_law_26 rfl (lv_at hl 0 rfl) ?_
      refine lv_iload_n hx hb dL_law_27 rfl (lv_at hl 3 rfl) ?_
      refine va_sld hx hb hX hbl hbA hS (vp_in_iff.mpr (by omega)) dL_law_28 ?_
      refine lv_bipush (v := 63) hx hb dL_law_29 (by decide) ?_
      refine lv_iand hx hb dL_law_31 ?_
      obtain ⟨w, hw⟩ : ∃ w, w = (xs (Int32.toNatClampNeg i3) &&& 63) := ⟨_, rfl⟩
      rw [← hw]
      clear hw ih
      exact law_switch hL C0 hE hg hgR hdis h0 h5 hr9 hW hS hl kk
