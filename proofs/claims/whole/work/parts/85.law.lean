def Wd (D : va_G) (cI : ClassId) (g gR : Nat → Nat) (sT : St) (vT : Int64) (sM sB sL sS sR : St) (vR : Int64) (H : Heap) : Prop := va_P D vwCl (cellT cI g sT vT) H ∧ va_P D vwCl (cellM cI g sM) H ∧ va_P D vwCl (cellB cI g sB) H ∧ va_P D vwCl (cellL cI g sL) H ∧ va_P D vwCl (cellS cI g sS) H ∧ va_P D vwCl (cellR cI gR sR vR) H
theorem sc_i {i k : Int32} {L : Nat} (h0 : 0 ≤ i.toInt) (h5 : i.toInt + 5 ≤ (L : Int)) (hL : L ≤ 2560) (hk : 0 ≤ k.toInt) (hk4 : k.toInt ≤ 4) : vp_in (i + k) L := by
  have := t_add (x := i) (y := k) (by omega) (by omega)
  exact vp_in_iff.mpr (by omega)
theorem wOffL {g gR : Nat → Nat} {ws : va_W} {c n x y : Nat} (h : ∀ i j : Nat, i < y → j < c + n → g i ≠ gR j) (hm : ws.map Prod.fst = (List.range n).map (fun i => gR (c + i))) : ∀ (k : Nat) (q : Nat × va_E), ws[k]? = some q → ¬ wA g x y q.1 := by
  rintro k q hk ⟨i, p, r, e⟩
  obtain ⟨l1, e1⟩ := wD_at hm hk
  exact h i (c + k) r (by omega) (by rw [← e1, e])
theorem lgc_eq {a b : Int64} (h : a = b) : lg_cmp a b = 0 := by
  subst h
  unfold lg_cmp
  simp
set_option maxHeartbeats 4000000 in
set_option maxRecDepth 100000 in
theorem lc_0 {p : Program} {e : Env} {s : State} {m : MethodId} {below : List Frame} {meth : Method} {c : Code} {l : Launch} {b L : Nat} {xs : Nat → Int32} (hL : L ≤ 2560) (C0 : lw_At p s m meth c b L xs) {D : va_G} {cI : ClassId} (hE : EV D cI s.heap.size s s.heap) {g gR : Nat → Nat} (hg : wI g 0 19 s.heap.size) (hgR : wI gR 0 16 s.heap.size) (hdis : ∀ i j : Nat, i < 19 → j < 16 → g i ≠ gR j) {i3 : Int32} (h0 : 0 ≤ i3.toInt) (h5 : i3.toInt + 5 ≤ (L : Int)) {sT : St} {vT : Int64} {sM sB sL sS sR : St} {vR : Int64} (hr9 : Rel sT vT sM sB sL sS sR vR) {H : Heap} {locs : List Loc} {ls : Array Slot} (hW : Wd D cI g gR sT vT sM sB sL sS sR vR H) (hS : va_S (fun q : Nat => s.heap.size ≤ q) s.heap H locs) (hl : lv_has ls 4 [(0, .ref b), (1, .ref (g 0)), (2, .ref (gR 0)), (3, .int i3)]) (kk : (∀ (sT : St) (vT : Int64) (sM sB sL sS sR : St) (vR : Int64) (H : Heap) (locs : List Loc) (ls : Array Slot), Rel sT vT sM sB sL sS sR vR → Wd D cI g gR sT vT sM sB sL sS sR vR H → va_S (fun q : Nat => s.heap.size ≤ q) s.heap H locs → lv_has ls 4 [(0, .ref b), (1, .ref (g 0)), (2, .ref (gR 0)), (3, .int i3)] → W p l e room_1 s m #[Value.ref b] below meth c H locs 600000 7302250 (lw_Z below #[Value.ref b] s) (F0 m 1215 ls []))) : W p l e room_1 s m #[Value.ref b] below meth c H locs 600000 7302250 (lw_Z below #[Value.ref b] s) (F0 m 188 ls []) := by
  obtain ⟨hx, hb, hr, hml, hown, hts0, hX, hbl, hlocks, hgv⟩ := id C0
  have hts := hts0
  have hown : s.vm.findClass RL = some m.cls := hown
  have hbA : ¬ (fun q : Nat => s.heap.size ≤ q) b := Nat.not_le.mpr hbl
  have hA : ∀ q : Nat, (fun q : Nat => s.heap.size ≤ q) q → s.heap.size ≤ q := fun _ h => h
  have z1 := tl_1
  have z2 := tl_2
  have z3 := tl_3
  have z4 := tl_4
  have oL := Rel_okL hr9
  have oB := Rel_okB hr9
  have oR := hr9.1
  obtain ⟨hPT, hPM, hPB, hPL, hPS, hPR⟩ := hW
  refine lv_aload_n hx hb dL_law_188 rfl (lv_at hl 1 rfl) ?_
  refine lv_aload_n hx hb dL_law_189 rfl (lv_at hl 0 rfl) ?_
  refine lv_iload_n hx hb dL_law_190 rfl (lv_at hl 3 rfl) ?_
  refine lv_iconst (v := 1) hx hb dL_law_191 (by decide) ?_
  refine lv_iadd hx hb dL_law_192 ?_
  refine va_sld hx hb hX hbl hbA hS (sc_i h0 h5 hL (by omega) (by omega)) dL_law_193 ?_
  refine lv_aload_n hx hb dL_law_194 rfl (lv_at hl 0 rfl) ?_
  refine lv_iload_n hx hb dL_law_195 rfl (lv_at hl 3 rfl) ?_
  refine lv_iconst (v := 2) hx hb dL_law_196 (by decide) ?_
  refine lv_iadd hx hb dL_law_197 ?_
  refine va_sld hx hb hX hbl hbA hS (sc_i h0 h5 hL (by omega) (by omega)) dL_law_198 ?_
  refine runW_i (P := fun H => va_P D vwCl (cellT cI g (m_T_set sT sM (xs (Int32.toNatClampNeg (i3 + 1))) (xs (Int32.toNatClampNeg (i3 + 2)))).2.1 vT) H ∧ va_P D vwCl (cellM cI g (m_T_set sT sM (xs (Int32.toNatClampNeg (i3 + 1))) (xs (Int32.toNatClampNeg (i3 + 2)))).2.2) H ∧ va_P D vwCl (cellB cI g sB) H ∧ va_P D vwCl (cellL cI g sL) H ∧ va_P D vwCl (cellS cI g sS) H) (va_runV (As := [.int (xs (Int32.toNatClampNeg (i3 + 1))), .int (xs (Int32.toNatClampNeg (i3 + 2)))]) (rest := []) ⟨hx, hb, hml, hown, hts⟩ (K_T_set hg sT vT sM sB sL sS (xs (Int32.toNatClampNeg (i3 + 1))) (xs (Int32.toNatClampNeg (i3 + 2)))) (cwV 2 hts gL_law_X4_set rfl rfl rfl (by decide +kernel) ⟨Nat.le_of_ble_eq_true rfl, Nat.le_of_ble_eq_true rfl⟩) (preV_of hE hA hS ⟨hPT, hPM, hPB, hPL, hPS⟩ (va_recv hE.1 hPT (ci := 4) (q0 := 0) rfl rfl)) rfl rfl hl.1 rfl (lv_room (Nat.le_of_ble_eq_true rfl)) dL_law_199 ⟨Nat.le_refl _, Nat.le_refl _⟩) hS (fun q h9 => wA.lo hg q h9) (fun H locs hQ hk hS => ?_)
  have hPR := wKeep hPR (wOffL (c := 0) (n := 16) (x := 0) hdis rfl) hk
  obtain ⟨hPT, hPM, hPB, hPL, hPS⟩ := hQ
  refine lv_aload_n hx hb dL_law_202 rfl (lv_at hl 2 rfl) ?_
  refine lv_aload_n hx hb dL_law_203 rfl (lv_at hl 0 rfl) ?_
  refine lv_iload_n hx hb dL_law_204 rfl (lv_at hl 3 rfl) ?_
  refine lv_iconst (v := 1) hx hb dL_law_205 (by decide) ?_
  refine lv_iadd hx hb dL_law_206 ?_
  refine va_sld hx hb hX hbl hbA hS (sc_i h0 h5 hL (by omega) (by omega)) dL_law_207 ?_
  refine lv_aload_n hx hb dL_law_208 rfl (lv_at hl 0 rfl) ?_
  refine lv_iload_n hx hb dL_law_209 rfl (lv_at hl 3 rfl) ?_
  refine lv_iconst (v := 2) hx hb dL_law_210 (by decide) ?_
  refine lv_iadd hx hb dL_law_211 ?_
  refine va_sld hx hb hX hbl hbA hS (sc_i h0 h5 hL (by omega) (by omega)) dL_law_212 ?_
  refine runW_i (P := fun H => va_P D vwCl (cellR cI gR (m_R_set sR (xs (Int32.toNatClampNeg (i3 + 1))) (xs (Int32.toNatClampNeg (i3 + 2)))).2 vR) H) (va_runV (As := [.int (xs (Int32.toNatClampNeg (i3 + 1))), .int (xs (Int32.toNatClampNeg (i3 + 2)))]) (rest := [.int (m_T_set sT sM (xs (Int32.toNatClampNeg (i3 + 1))) (xs (Int32.toNatClampNeg (i3 + 2)))).1]) ⟨hx, hb, hml, hown, hts⟩ (K_R_set hgR sR vR (xs (Int32.toNatClampNeg (i3 + 1))) (xs (Int32.toNatClampNeg (i3 + 2)))) (cwV 2 hts gL_law_X5_set rfl rfl rfl (by decide +kernel) ⟨Nat.le_of_ble_eq_true rfl, Nat.le_of_ble_eq_true rfl⟩) (preV_of hE hA hS hPR (va_recv hE.1 hPR (ci := 5) (q0 := 0) rfl rfl)) rfl rfl hl.1 rfl (lv_room (Nat.le_of_ble_eq_true rfl)) dL_law_213 ⟨Nat.le_refl _, Nat.le_refl _⟩) hS (fun q h9 => wA.lo hgR q h9) (fun H locs hQ hk hS => ?_)
  have hPT := wKeep hPT (wOffL (gR := g) (g := gR) (c := 0) (n := 1) (x := 0) (y := 16) (fun i j hi hj e => hdis j i (by omega) hi e.symm) rfl) hk
  have hPM := wKeep hPM (wOffL (gR := g) (g := gR) (c := 1) (n := 5) (x := 0) (y := 16) (fun i j hi hj e => hdis j i (by omega) hi e.symm) rfl) hk
  have hPB := wKeep hPB (wOffL (gR := g) (g := gR) (c := 6) (n := 6) (x := 0) (y := 16) (fun i j hi hj e => hdis j i (by omega) hi e.symm) rfl) hk
  have hPL := wKeep hPL (wOffL (gR := g) (g := gR) (c := 12) (n := 5) (x := 0) (y := 16) (fun i j hi hj e => hdis j i (by omega) hi e.symm) rfl) hk
  have hPS := wKeep hPS (wOffL (gR := g) (g := gR) (c := 17) (n := 2) (x := 0) (y := 16) (fun i j hi hj e => hdis j i (by omega) hi e.symm) rfl) hk
  have hPR := hQ
  have hp9 := P_set hr9 (xs (Int32.toNatClampNeg (i3 + 1))) (xs (Int32.toNatClampNeg (i3 + 2)))
  refine lv_icmp_eq (tgt := 1215) hx hb dL_law_216 (by decide) (fun c => ?_) (fun c => absurd hp9.1 c)
  exact kk _ _ _ _ _ _ _ _ H locs ls hp9.2 ⟨hPT, hPM, hPB, hPL, hPS, hPR⟩ hS hl
set_option maxHeartbeats 4000000 in
set_option maxRecDepth 100000 in
theorem lc_1 {p : Program} {e : Env} {s : State} {m : MethodId} {below : List Frame} {meth : Method} {c : Code} {l : Launch} {b L : Nat} {xs : Nat → Int32} (hL : L ≤ 2560) (C0 : lw_At p s m meth c b L xs) {D : va_G} {cI : ClassId} (hE : EV D cI s.heap.size s s.heap) {g gR : Nat → Nat} (hg : wI g 0 19 s.heap.size) (hgR : wI gR 0 16 s.heap.size) (hdis : ∀ i j : Nat, i < 19 → j < 16 → g i ≠ gR j) {i3 : Int32} (h0 : 0 ≤ i3.toInt) (h5 : i3.toInt + 5 ≤ (L : Int)) {sT : St} {vT : Int64} {sM sB sL sS sR : St} {vR : Int64} (hr9 : Rel sT vT sM sB sL sS sR vR) {H : Heap} {locs : List Loc} {ls : Array Slot} (hW : Wd D cI g gR sT vT sM sB sL sS sR vR H) (hS : va_S (fun q : Nat => s.heap.size ≤ q) s.heap H locs) (hl : lv_has ls 4 [(0, .ref b), (1, .ref (g 0)), (2, .ref (gR 0)), (3, .int i3)]) (kk : (∀ (sT : St) (vT : Int64) (sM sB sL sS sR : St) (vR : Int64) (H : Heap) (locs : List Loc) (ls : Array Slot), Rel sT vT sM sB sL sS sR vR → Wd D cI g gR sT vT sM sB sL sS sR vR H → va_S (fun q : Nat => s.heap.size ≤ q) s.heap H locs → lv_has ls 4 [(0, .ref b), (1, .ref (g 0)), (2, .ref (gR 0)), (3, .int i3)] → W p l e room_1 s m #[Value.ref b] below meth c H locs 600000 7302250 (lw_Z below #[Value.ref b] s) (F0 m 1215 ls []))) : W p l e room_1 s m #[Value.ref b] below meth c H locs 600000 7302250 (lw_Z below #[Value.ref b] s) (F0 m 221 ls []) := by
  obtain ⟨hx, hb, hr, hml, hown, hts0, hX, hbl, hlocks, hgv⟩ := id C0
  have hts := hts0
  have hown : s.vm.findClass RL = some m.cls := hown
  have hbA : ¬ (fun q : Nat => s.heap.size ≤ q) b := Nat.not_le.mpr hbl
  have hA : ∀ q : Nat, (fun q : Nat => s.heap.size ≤ q) q → s.heap.size ≤ q := fun _ h => h
  have z1 := tl_1
  have z2 := tl_2
  have z3 := tl_3
  have z4 := tl_4
  have oL := Rel_okL hr9
  have oB := Rel_okB hr9
  have oR := hr9.1
  obtain ⟨hPT, hPM, hPB, hPL, hPS, hPR⟩ := hW
  refine lv_aload_n hx hb dL_law_221 rfl (lv_at hl 1 rfl) ?_
  refine lv_aload_n hx hb dL_law_222 rfl (lv_at hl 0 rfl) ?_
  refine lv_iload_n hx hb dL_law_223 rfl (lv_at hl 3 rfl) ?_
  refine lv_iconst (v := 1) hx hb dL_law_224 (by decide) ?_
  refine lv_iadd hx hb dL_law_225 ?_
  refine va_sld hx hb hX hbl hbA hS (sc_i h0 h5 hL (by omega) (by omega)) dL_law_226 ?_
  refine runW_i (P := fun H => va_P D vwCl (cellT cI g sT vT) H ∧ va_P D vwCl (cellM cI g (m_T_wind sT sM (xs (Int32.toNatClampNeg (i3 + 1)))).2) H ∧ va_P D vwCl (cellB cI g sB) H ∧ va_P D vwCl (cellL cI g sL) H ∧ va_P D vwCl (cellS cI g sS) H) (va_runV (As := [.int (xs (Int32.toNatClampNeg (i3 + 1)))]) (rest := []) ⟨hx, hb, hml, hown, hts⟩ (K_T_wind hg sT vT sM sB sL sS (xs (Int32.toNatClampNeg (i3 + 1)))) (cwV 1 hts gL_law_X4_wind rfl rfl rfl (by decide +kernel) ⟨Nat.le_of_ble_eq_true rfl, Nat.le_of_ble_eq_true rfl⟩) (preV_of hE hA hS ⟨hPT, hPM, hPB, hPL, hPS⟩ (va_recv hE.1 hPT (ci := 4) (q0 := 0) rfl rfl)) rfl rfl hl.1 rfl (lv_room (Nat.le_of_ble_eq_true rfl)) dL_law_227 ⟨Nat.le_refl _, Nat.le_refl _⟩) hS (fun q h9 => wA.lo hg q h9) (fun H locs hQ hk hS => ?_)
  have hPR := wKeep hPR (wOffL (c := 0) (n := 16) (x := 0) hdis rfl) hk
  obtain ⟨hPT, hPM, hPB, hPL, hPS⟩ := hQ
  refine lv_aload_n hx hb dL_law_230 rfl (lv_at hl 2 rfl) ?_
  refine lv_aload_n hx hb dL_law_231 rfl (lv_at hl 0 rfl) ?_
  refine lv_iload_n hx hb dL_law_232 rfl (lv_at hl 3 rfl) ?_
  refine lv_iconst (v := 1) hx hb dL_law_233 (by decide) ?_
  refine lv_iadd hx hb dL_law_234 ?_
  refine va_sld hx hb hX hbl hbA hS (sc_i h0 h5 hL (by omega) (by omega)) dL_law_235 ?_
  refine runW_i (P := fun H => va_P D vwCl (cellR cI gR (m_R_wind sR (xs (Int32.toNatClampNeg (i3 + 1)))).2 vR) H) (va_runV (As := [.int (xs (Int32.toNatClampNeg (i3 + 1)))]) (rest := [.int (m_T_wind sT sM (xs (Int32.toNatClampNeg (i3 + 1)))).1]) ⟨hx, hb, hml, hown, hts⟩ (K_R_wind hgR sR vR (xs (Int32.toNatClampNeg (i3 + 1)))) (cwV 1 hts gL_law_X5_wind rfl rfl rfl (by decide +kernel) ⟨Nat.le_of_ble_eq_true rfl, Nat.le_of_ble_eq_true rfl⟩) (preV_of hE hA hS hPR (va_recv hE.1 hPR (ci := 5) (q0 := 0) rfl rfl)) rfl rfl hl.1 rfl (lv_room (Nat.le_of_ble_eq_true rfl)) dL_law_236 ⟨Nat.le_refl _, Nat.le_refl _⟩) hS (fun q h9 => wA.lo hgR q h9) (fun H locs hQ hk hS => ?_)
  have hPT := wKeep hPT (wOffL (gR := g) (g := gR) (c := 0) (n := 1) (x := 0) (y := 16) (fun i j hi hj e => hdis j i (by omega) hi e.symm) rfl) hk
  have hPM := wKeep hPM (wOffL (gR := g) (g := gR) (c := 1) (n := 5) (x := 0) (y := 16) (fun i j hi hj e => hdis j i (by omega) hi e.symm) rfl) hk
  have hPB := wKeep hPB (wOffL (gR := g) (g := gR) (c := 6) (n := 6) (x := 0) (y := 16) (fun i j hi hj e => hdis j i (by omega) hi e.symm) rfl) hk
  have hPL := wKeep hPL (wOffL (gR := g) (g := gR) (c := 12) (n := 5) (x := 0) (y := 16) (fun i j hi hj e => hdis j i (by omega) hi e.symm) rfl) hk
  have hPS := wKeep hPS (wOffL (gR := g) (g := gR) (c := 17) (n := 2) (x := 0) (y := 16) (fun i j hi hj e => hdis j i (by omega) hi e.symm) rfl) hk
  have hPR := hQ
  have hp9 := P_wind hr9 (xs (Int32.toNatClampNeg (i3 + 1)))
  refine lv_icmp_eq (tgt := 1215) hx hb dL_law_239 (by decide) (fun c => ?_) (fun c => absurd hp9.1 c)
  exact kk _ _ _ _ _ _ _ _ H locs ls hp9.2 ⟨hPT, hPM, hPB, hPL, hPS, hPR⟩ hS hl
set_option maxHeartbeats 4000000 in
set_option maxRecDepth 100000 in
theorem lc_2 {p : Program} {e : Env} {s : State} {m : MethodId} {below : List Frame} {meth : Method} {c : Code} {l : Launch} {b L : Nat} {xs : Nat → Int32} (hL : L ≤ 2560) (C0 : lw_At p s m meth c b L xs) {D : va_G} {cI : ClassId} (hE : EV D cI s.heap.size s s.heap) {g gR : Nat → Nat} (hg : wI g 0 19 s.heap.size) (hgR : wI gR 0 16 s.heap.size) (hdis : ∀ i j : Nat, i < 19 → j < 16 → g i ≠ gR j) {i3 : Int32} (h0 : 0 ≤ i3.toInt) (h5 : i3.toInt + 5 ≤ (L : Int)) {sT : St} {vT : Int64} {sM sB sL sS sR : St} {vR : Int64} (hr9 : Rel sT vT sM sB sL sS sR vR) {H : Heap} {locs : List Loc} {ls : Array Slot} (hW : Wd D cI g gR sT vT sM sB sL sS sR vR H) (hS : va_S (fun q : Nat => s.heap.size ≤ q) s.heap H locs) (hl : lv_has ls 4 [(0, .ref b), (1, .ref (g 0)), (2, .ref (gR 0)), (3, .int i3)]) (kk : (∀ (sT : St) (vT : Int64) (sM sB sL sS sR : St) (vR : Int64) (H : Heap) (locs : List Loc) (ls : Array Slot), Rel sT vT sM sB sL sS sR vR → Wd D cI g gR sT vT sM sB sL sS sR vR H → va_S (fun q : Nat => s.heap.size ≤ q) s.heap H locs → lv_has ls 4 [(0, .ref b), (1, .ref (g 0)), (2, .ref (gR 0)), (3, .int i3)] → W p l e room_1 s m #[Value.ref b] below meth c H locs 600000 7302250 (lw_Z below #[Value.ref b] s) (F0 m 1215 ls []))) : W p l e room_1 s m #[Value.ref b] below meth c H locs 600000 7302250 (lw_Z below #[Value.ref b] s) (F0 m 244 ls []) := by
  obtain ⟨hx, hb, hr, hml, hown, hts0, hX, hbl, hlocks, hgv⟩ := id C0
  have hts := hts0
  have hown : s.vm.findClass RL = some m.cls := hown
  have hbA : ¬ (fun q : Nat => s.heap.size ≤ q) b := Nat.not_le.mpr hbl
  have hA : ∀ q : Nat, (fun q : Nat => s.heap.size ≤ q) q → s.heap.size ≤ q := fun _ h => h
  have z1 := tl_1
  have z2 := tl_2
  have z3 := tl_3
  have z4 := tl_4
  have oL := Rel_okL hr9
  have oB := Rel_okB hr9
  have oR := hr9.1
  obtain ⟨hPT, hPM, hPB, hPL, hPS, hPR⟩ := hW
  refine lv_aload_n hx hb dL_law_244 rfl (lv_at hl 1 rfl) ?_
  refine lv_aload_n hx hb dL_law_245 rfl (lv_at hl 0 rfl) ?_
  refine lv_iload_n hx hb dL_law_246 rfl (lv_at hl 3 rfl) ?_
  refine lv_iconst (v := 1) hx hb dL_law_247 (by decide) ?_
  refine lv_iadd hx hb dL_law_248 ?_
  refine va_sld hx hb hX hbl hbA hS (sc_i h0 h5 hL (by omega) (by omega)) dL_law_249 ?_
  refine runS_i (va_runV (As := [.int (xs (Int32.toNatClampNeg (i3 + 1)))]) (rest := []) ⟨hx, hb, hml, hown, hts⟩ (K_T_sine hg sT vT sM sB sL sS (xs (Int32.toNatClampNeg (i3 + 1)))) (cwV 1 hts gL_law_X4_sine rfl rfl rfl (by decide +kernel) ⟨Nat.le_of_ble_eq_true rfl, Nat.le_of_ble_eq_true rfl⟩) (preV_of hE hA hS ⟨hPT, hPM, hPB, hPL, hPS⟩ (va_recv hE.1 hPT (ci := 4) (q0 := 0) rfl rfl)) rfl rfl hl.1 rfl (lv_room (Nat.le_of_ble_eq_true rfl)) dL_law_250 ⟨Nat.le_refl _, Nat.le_refl _⟩) ?_
  refine lv_aload_n hx hb dL_law_253 rfl (lv_at hl 2 rfl) ?_
  refine lv_aload_n hx hb dL_law_254 rfl (lv_at hl 0 rfl) ?_
  refine lv_iload_n hx hb dL_law_255 rfl (lv_at hl 3 rfl) ?_
  refine lv_iconst (v := 1) hx hb dL_law_256 (by decide) ?_
  refine lv_iadd hx hb dL_law_257 ?_
  refine va_sld hx hb hX hbl hbA hS (sc_i h0 h5 hL (by omega) (by omega)) dL_law_258 ?_
  refine runS_i (va_runV (As := [.int (xs (Int32.toNatClampNeg (i3 + 1)))]) (rest := [.int (m_T_sine sT (xs (Int32.toNatClampNeg (i3 + 1))))]) ⟨hx, hb, hml, hown, hts⟩ (K_R_sine hgR sR vR (xs (Int32.toNatClampNeg (i3 + 1)))) (cwV 1 hts gL_law_X5_sine rfl rfl rfl (by decide +kernel) ⟨Nat.le_of_ble_eq_true rfl, Nat.le_of_ble_eq_true rfl⟩) (preV_of hE hA hS hPR (va_recv hE.1 hPR (ci := 5) (q0 := 0) rfl rfl)) rfl rfl hl.1 rfl (lv_room (Nat.le_of_ble_eq_true rfl)) dL_law_259 ⟨Nat.le_refl _, Nat.le_refl _⟩) ?_
  have hp9 := P_sine hr9 (xs (Int32.toNatClampNeg (i3 + 1)))
  refine lv_icmp_eq (tgt := 1215) hx hb dL_law_262 (by decide) (fun c => ?_) (fun c => absurd hp9.1 c)
  exact kk _ _ _ _ _ _ _ _ H locs ls hp9.2 ⟨hPT, hPM, hPB, hPL, hPS, hPR⟩ hS hl
set_option maxHeartbeats 4000000 in
set_option maxRecDepth 100000 in
theorem lc_3 {p : Program} {e : Env} {s : State} {m : MethodId} {below : List Frame} {meth : Method} {c : Code} {l : Launch} {b L : Nat} {xs : Nat → Int32} (hL : L ≤ 2560) (C0 : lw_At p s m meth c b L xs) {D : va_G} {cI : ClassId} (hE : EV D cI s.heap.size s s.heap) {g gR : Nat → Nat} (hg : wI g 0 19 s.heap.size) (hgR : wI gR 0 16 s.heap.size) (hdis : ∀ i j : Nat, i < 19 → j < 16 → g i ≠ gR j) {i3 : Int32} (h0 : 0 ≤ i3.toInt) (h5 : i3.toInt + 5 ≤ (L : Int)) {sT : St} {vT : Int64} {sM sB sL sS sR : St} {vR : Int64} (hr9 : Rel sT vT sM sB sL sS sR vR) {H : Heap} {locs : List Loc} {ls : Array Slot} (hW : Wd D cI g gR sT vT sM sB sL sS sR vR H) (hS : va_S (fun q : Nat => s.heap.size ≤ q) s.heap H locs) (hl : lv_has ls 4 [(0, .ref b), (1, .ref (g 0)), (2, .ref (gR 0)), (3, .int i3)]) (kk : (∀ (sT : St) (vT : Int64) (sM sB sL sS sR : St) (vR : Int64) (H : Heap) (locs : List Loc) (ls : Array Slot), Rel sT vT sM sB sL sS sR vR → Wd D cI g gR sT vT sM sB sL sS sR vR H → va_S (fun q : Nat => s.heap.size ≤ q) s.heap H locs → lv_has ls 4 [(0, .ref b), (1, .ref (g 0)), (2, .ref (gR 0)), (3, .int i3)] → W p l e room_1 s m #[Value.ref b] below meth c H locs 600000 7302250 (lw_Z below #[Value.ref b] s) (F0 m 1215 ls []))) : W p l e room_1 s m #[Value.ref b] below meth c H locs 600000 7302250 (lw_Z below #[Value.ref b] s) (F0 m 267 ls []) := by
  obtain ⟨hx, hb, hr, hml, hown, hts0, hX, hbl, hlocks, hgv⟩ := id C0
  have hts := hts0
  have hown : s.vm.findClass RL = some m.cls := hown
  have hbA : ¬ (fun q : Nat => s.heap.size ≤ q) b := Nat.not_le.mpr hbl
  have hA : ∀ q : Nat, (fun q : Nat => s.heap.size ≤ q) q → s.heap.size ≤ q := fun _ h => h
  have z1 := tl_1
  have z2 := tl_2
  have z3 := tl_3
  have z4 := tl_4
  have oL := Rel_okL hr9
  have oB := Rel_okB hr9
  have oR := hr9.1
  obtain ⟨hPT, hPM, hPB, hPL, hPS, hPR⟩ := hW
  refine lv_aload_n hx hb dL_law_267 rfl (lv_at hl 1 rfl) ?_
  refine lv_aload_n hx hb dL_law_268 rfl (lv_at hl 0 rfl) ?_
  refine lv_iload_n hx hb dL_law_269 rfl (lv_at hl 3 rfl) ?_
  refine lv_iconst (v := 1) hx hb dL_law_270 (by decide) ?_
  refine lv_iadd hx hb dL_law_271 ?_
  refine va_sld hx hb hX hbl hbA hS (sc_i h0 h5 hL (by omega) (by omega)) dL_law_272 ?_
  refine runW_i (P := fun H => va_P D vwCl (cellT cI g sT vT) H ∧ va_P D vwCl (cellM cI g (m_T_throwing sT sM (xs (Int32.toNatClampNeg (i3 + 1)))).2) H ∧ va_P D vwCl (cellB cI g sB) H ∧ va_P D vwCl (cellL cI g sL) H ∧ va_P D vwCl (cellS cI g sS) H) (va_runV (As := [.int (xs (Int32.toNatClampNeg (i3 + 1)))]) (rest := []) ⟨hx, hb, hml, hown, hts⟩ (K_T_throwing hg sT vT sM sB sL sS (xs (Int32.toNatClampNeg (i3 + 1)))) (cwV 1 hts gL_law_X4_throwing rfl rfl rfl (by decide +kernel) ⟨Nat.le_of_ble_eq_true rfl, Nat.le_of_ble_eq_true rfl⟩) (preV_of hE hA hS ⟨hPT, hPM, hPB, hPL, hPS⟩ (va_recv hE.1 hPT (ci := 4) (q0 := 0) rfl rfl)) rfl rfl hl.1 rfl (lv_room (Nat.le_of_ble_eq_true rfl)) dL_law_273 ⟨Nat.le_refl _, Nat.le_refl _⟩) hS (fun q h9 => wA.lo hg q h9) (fun H locs hQ hk hS => ?_)
  have hPR := wKeep hPR (wOffL (c := 0) (n := 16) (x := 0) hdis rfl) hk
  obtain ⟨hPT, hPM, hPB, hPL, hPS⟩ := hQ
  refine lv_aload_n hx hb dL_law_276 rfl (lv_at hl 2 rfl) ?_
  refine lv_aload_n hx hb dL_law_277 rfl (lv_at hl 0 rfl) ?_
  refine lv_iload_n hx hb dL_law_278 rfl (lv_at hl 3 rfl) ?_
  refine lv_iconst (v := 1) hx hb dL_law_279 (by decide) ?_
  refine lv_iadd hx hb dL_law_280 ?_
  refine va_sld hx hb hX hbl hbA hS (sc_i h0 h5 hL (by omega) (by omega)) dL_law_281 ?_
  refine runW_i (P := fun H => va_P D vwCl (cellR cI gR (m_R_throwing sR (xs (Int32.toNatClampNeg (i3 + 1)))).2 vR) H) (va_runV (As := [.int (xs (Int32.toNatClampNeg (i3 + 1)))]) (rest := [.int (m_T_throwing sT sM (xs (Int32.toNatClampNeg (i3 + 1)))).1]) ⟨hx, hb, hml, hown, hts⟩ (K_R_throwing hgR sR vR (xs (Int32.toNatClampNeg (i3 + 1))) oR) (cwV 1 hts gL_law_X5_throwing rfl rfl rfl (by decide +kernel) ⟨Nat.le_of_ble_eq_true rfl, Nat.le_of_ble_eq_true rfl⟩) (preV_of hE hA hS hPR (va_recv hE.1 hPR (ci := 5) (q0 := 0) rfl rfl)) rfl rfl hl.1 rfl (lv_room (Nat.le_of_ble_eq_true rfl)) dL_law_282 ⟨Nat.le_refl _, Nat.le_refl _⟩) hS (fun q h9 => wA.lo hgR q h9) (fun H locs hQ hk hS => ?_)
  have hPT := wKeep hPT (wOffL (gR := g) (g := gR) (c := 0) (n := 1) (x := 0) (y := 16) (fun i j hi hj e => hdis j i (by omega) hi e.symm) rfl) hk
  have hPM := wKeep hPM (wOffL (gR := g) (g := gR) (c := 1) (n := 5) (x := 0) (y := 16) (fun i j hi hj e => hdis j i (by omega) hi e.symm) rfl) hk
  have hPB := wKeep hPB (wOffL (gR := g) (g := gR) (c := 6) (n := 6) (x := 0) (y := 16) (fun i j hi hj e => hdis j i (by omega) hi e.symm) rfl) hk
  have hPL := wKeep hPL (wOffL (gR := g) (g := gR) (c := 12) (n := 5) (x := 0) (y := 16) (fun i j hi hj e => hdis j i (by omega) hi e.symm) rfl) hk
  have hPS := wKeep hPS (wOffL (gR := g) (g := gR) (c := 17) (n := 2) (x := 0) (y := 16) (fun i j hi hj e => hdis j i (by omega) hi e.symm) rfl) hk
  have hPR := hQ
  have hp9 := P_throwing hr9 (xs (Int32.toNatClampNeg (i3 + 1)))
  refine lv_icmp_eq (tgt := 1215) hx hb dL_law_285 (by decide) (fun c => ?_) (fun c => absurd hp9.1 c)
  exact kk _ _ _ _ _ _ _ _ H locs ls hp9.2 ⟨hPT, hPM, hPB, hPL, hPS, hPR⟩ hS hl
set_option maxHeartbeats 4000000 in
set_option maxRecDepth 100000 in
theorem lc_4 {p : Program} {e : Env} {s : State} {m : MethodId} {below : List Frame} {meth : Method} {c : Code} {l : Launch} {b L : Nat} {xs : Nat → Int32} (hL : L ≤ 2560) (C0 : lw_At p s m meth c b L xs) {D : va_G} {cI : ClassId} (hE : EV D cI s.heap.size s s.heap) {g gR : Nat → Nat} (hg : wI g 0 19 s.heap.size) (hgR : wI gR 0 16 s.heap.size) (hdis : ∀ i j : Nat, i < 19 → j < 16 → g i ≠ gR j) {i3 : Int32} (h0 : 0 ≤ i3.toInt) (h5 : i3.toInt + 5 ≤ (L : Int)) {sT : St} {vT : Int64} {sM sB sL sS sR : St} {vR : Int64} (hr9 : Rel sT vT sM sB sL sS sR vR) {H : Heap} {locs : List Loc} {ls : Array Slot} (hW : Wd D cI g gR sT vT sM sB sL sS sR vR H) (hS : va_S (fun q : Nat => s.heap.size ≤ q) s.heap H locs) (hl : lv_has ls 4 [(0, .ref b), (1, .ref (g 0)), (2, .ref (gR 0)), (3, .int i3)]) (kk : (∀ (sT : St) (vT : Int64) (sM sB sL sS sR : St) (vR : Int64) (H : Heap) (locs : List Loc) (ls : Array Slot), Rel sT vT sM sB sL sS sR vR → Wd D cI g gR sT vT sM sB sL sS sR vR H → va_S (fun q : Nat => s.heap.size ≤ q) s.heap H locs → lv_has ls 4 [(0, .ref b), (1, .ref (g 0)), (2, .ref (gR 0)), (3, .int i3)] → W p l e room_1 s m #[Value.ref b] below meth c H locs 600000 7302250 (lw_Z below #[Value.ref b] s) (F0 m 1215 ls []))) : W p l e room_1 s m #[Value.ref b] below meth c H locs 600000 7302250 (lw_Z below #[Value.ref b] s) (F0 m 290 ls []) := by
  obtain ⟨hx, hb, hr, hml, hown, hts0, hX, hbl, hlocks, hgv⟩ := id C0
  have hts := hts0
  have hown : s.vm.findClass RL = some m.cls := hown
  have hbA : ¬ (fun q : Nat => s.heap.size ≤ q) b := Nat.not_le.mpr hbl
  have hA : ∀ q : Nat, (fun q : Nat => s.heap.size ≤ q) q → s.heap.size ≤ q := fun _ h => h
  have z1 := tl_1
  have z2 := tl_2
  have z3 := tl_3
  have z4 := tl_4
  have oL := Rel_okL hr9
  have oB := Rel_okB hr9
  have oR := hr9.1
  obtain ⟨hPT, hPM, hPB, hPL, hPS, hPR⟩ := hW
  refine lv_aload_n hx hb dL_law_290 rfl (lv_at hl 1 rfl) ?_
  refine lv_aload_n hx hb dL_law_291 rfl (lv_at hl 0 rfl) ?_
  refine lv_iload_n hx hb dL_law_292 rfl (lv_at hl 3 rfl) ?_
  refine lv_iconst (v := 1) hx hb dL_law_293 (by decide) ?_
  refine lv_iadd hx hb dL_law_294 ?_
  refine va_sld hx hb hX hbl hbA hS (sc_i h0 h5 hL (by omega) (by omega)) dL_law_295 ?_
  refine lv_aload_n hx hb dL_law_296 rfl (lv_at hl 0 rfl) ?_
  refine lv_iload_n hx hb dL_law_297 rfl (lv_at hl 3 rfl) ?_
  refine lv_iconst (v := 2) hx hb dL_law_298 (by decide) ?_
  refine lv_iadd hx hb dL_law_299 ?_
  refine va_sld hx hb hX hbl hbA hS (sc_i h0 h5 hL (by omega) (by omega)) dL_law_300 ?_
  refine runW_i (P := fun H => va_P D vwCl (cellT cI g sT (m_T_flight sT vT sM (xs (Int32.toNatClampNeg (i3 + 1))) (xs (Int32.toNatClampNeg (i3 + 2)))).2) H ∧ va_P D vwCl (cellM cI g sM) H ∧ va_P D vwCl (cellB cI g sB) H ∧ va_P D vwCl (cellL cI g sL) H ∧ va_P D vwCl (cellS cI g sS) H) (va_runV (As := [.int (xs (Int32.toNatClampNeg (i3 + 1))), .int (xs (Int32.toNatClampNeg (i3 + 2)))]) (rest := []) ⟨hx, hb, hml, hown, hts⟩ (K_T_flight hg sT vT sM sB sL sS (xs (Int32.toNatClampNeg (i3 + 1))) (xs (Int32.toNatClampNeg (i3 + 2)))) (cwV 2 hts gL_law_X4_flight rfl rfl rfl (by decide +kernel) ⟨Nat.le_of_ble_eq_true rfl, Nat.le_of_ble_eq_true rfl⟩) (preV_of hE hA hS ⟨hPT, hPM, hPB, hPL, hPS⟩ (va_recv hE.1 hPT (ci := 4) (q0 := 0) rfl rfl)) rfl rfl hl.1 rfl (lv_room (Nat.le_of_ble_eq_true rfl)) dL_law_301 ⟨Nat.le_refl _, Nat.le_refl _⟩) hS (fun q h9 => wA.lo hg q h9) (fun H locs hQ hk hS => ?_)
  have hPR := wKeep hPR (wOffL (c := 0) (n := 16) (x := 0) hdis rfl) hk
  obtain ⟨hPT, hPM, hPB, hPL, hPS⟩ := hQ
  refine lv_aload_n hx hb dL_law_304 rfl (lv_at hl 2 rfl) ?_
  refine lv_aload_n hx hb dL_law_305 rfl (lv_at hl 0 rfl) ?_
  refine lv_iload_n hx hb dL_law_306 rfl (lv_at hl 3 rfl) ?_
  refine lv_iconst (v := 1) hx hb dL_law_307 (by decide) ?_
  refine lv_iadd hx hb dL_law_308 ?_
  refine va_sld hx hb hX hbl hbA hS (sc_i h0 h5 hL (by omega) (by omega)) dL_law_309 ?_
  refine lv_aload_n hx hb dL_law_310 rfl (lv_at hl 0 rfl) ?_
  refine lv_iload_n hx hb dL_law_311 rfl (lv_at hl 3 rfl) ?_
  refine lv_iconst (v := 2) hx hb dL_law_312 (by decide) ?_
  refine lv_iadd hx hb dL_law_313 ?_
  refine va_sld hx hb hX hbl hbA hS (sc_i h0 h5 hL (by omega) (by omega)) dL_law_314 ?_
  refine runW_i (P := fun H => va_P D vwCl (cellR cI gR sR (m_R_flight sR vR (xs (Int32.toNatClampNeg (i3 + 1))) (xs (Int32.toNatClampNeg (i3 + 2)))).2) H) (va_runV (As := [.int (xs (Int32.toNatClampNeg (i3 + 1))), .int (xs (Int32.toNatClampNeg (i3 + 2)))]) (rest := [.int (m_T_flight sT vT sM (xs (Int32.toNatClampNeg (i3 + 1))) (xs (Int32.toNatClampNeg (i3 + 2)))).1]) ⟨hx, hb, hml, hown, hts⟩ (K_R_flight hgR sR vR (xs (Int32.toNatClampNeg (i3 + 1))) (xs (Int32.toNatClampNeg (i3 + 2))) oR) (cwV 2 hts gL_law_X5_flight rfl rfl rfl (by decide +kernel) ⟨Nat.le_of_ble_eq_true rfl, Nat.le_of_ble_eq_true rfl⟩) (preV_of hE hA hS hPR (va_recv hE.1 hPR (ci := 5) (q0 := 0) rfl rfl)) rfl rfl hl.1 rfl (lv_room (Nat.le_of_ble_eq_true rfl)) dL_law_315 ⟨Nat.le_refl _, Nat.le_refl _⟩) hS (fun q h9 => wA.lo hgR q h9) (fun H locs hQ hk hS => ?_)
  have hPT := wKeep hPT (wOffL (gR := g) (g := gR) (c := 0) (n := 1) (x := 0) (y := 16) (fun i j hi hj e => hdis j i (by omega) hi e.symm) rfl) hk
  have hPM := wKeep hPM (wOffL (gR := g) (g := gR) (c := 1) (n := 5) (x := 0) (y := 16) (fun i j hi hj e => hdis j i (by omega) hi e.symm) rfl) hk
  have hPB := wKeep hPB (wOffL (gR := g) (g := gR) (c := 6) (n := 6) (x := 0) (y := 16) (fun i j hi hj e => hdis j i (by omega) hi e.symm) rfl) hk
  have hPL := wKeep hPL (wOffL (gR := g) (g := gR) (c := 12) (n := 5) (x := 0) (y := 16) (fun i j hi hj e => hdis j i (by omega) hi e.symm) rfl) hk
  have hPS := wKeep hPS (wOffL (gR := g) (g := gR) (c := 17) (n := 2) (x := 0) (y := 16) (fun i j hi hj e => hdis j i (by omega) hi e.symm) rfl) hk
  have hPR := hQ
  have hp9 := P_flight hr9 (xs (Int32.toNatClampNeg (i3 + 1))) (xs (Int32.toNatClampNeg (i3 + 2)))
  refine lv_icmp_eq (tgt := 1215) hx hb dL_law_318 (by decide) (fun c => ?_) (fun c => absurd hp9.1 c)
  exact kk _ _ _ _ _ _ _ _ H locs ls hp9.2 ⟨hPT, hPM, hPB, hPL, hPS, hPR⟩ hS hl
set_option maxHeartbeats 4000000 in
set_option maxRecDepth 100000 in
theorem lc_5 {p : Program} {e : Env} {s : State} {m : MethodId} {below : List Frame} {meth : Method} {c : Code} {l : Launch} {b L : Nat} {xs : Nat → Int32} (hL : L ≤ 2560) (C0 : lw_At p s m meth c b L xs) {D : va_G} {cI : ClassId} (hE : EV D cI s.heap.size s s.heap) {g gR : Nat → Nat} (hg : wI g 0 19 s.heap.size) (hgR : wI gR 0 16 s.heap.size) (hdis : ∀ i j : Nat, i < 19 → j < 16 → g i ≠ gR j) {i3 : Int32} (h0 : 0 ≤ i3.toInt) (h5 : i3.toInt + 5 ≤ (L : Int)) {sT : St} {vT : Int64} {sM sB sL sS sR : St} {vR : Int64} (hr9 : Rel sT vT sM sB sL sS sR vR) {H : Heap} {locs : List Loc} {ls : Array Slot} (hW : Wd D cI g gR sT vT sM sB sL sS sR vR H) (hS : va_S (fun q : Nat => s.heap.size ≤ q) s.heap H locs) (hl : lv_has ls 4 [(0, .ref b), (1, .ref (g 0)), (2, .ref (gR 0)), (3, .int i3)]) (kk : (∀ (sT : St) (vT : Int64) (sM sB sL sS sR : St) (vR : Int64) (H : Heap) (locs : List Loc) (ls : Array Slot), Rel sT vT sM sB sL sS sR vR → Wd D cI g gR sT vT sM sB sL sS sR vR H → va_S (fun q : Nat => s.heap.size ≤ q) s.heap H locs → lv_has ls 4 [(0, .ref b), (1, .ref (g 0)), (2, .ref (gR 0)), (3, .int i3)] → W p l e room_1 s m #[Value.ref b] below meth c H locs 600000 7302250 (lw_Z below #[Value.ref b] s) (F0 m 1215 ls []))) : W p l e room_1 s m #[Value.ref b] below meth c H locs 600000 7302250 (lw_Z below #[Value.ref b] s) (F0 m 323 ls []) := by
  obtain ⟨hx, hb, hr, hml, hown, hts0, hX, hbl, hlocks, hgv⟩ := id C0
  have hts := hts0
  have hown : s.vm.findClass RL = some m.cls := hown
  have hbA : ¬ (fun q : Nat => s.heap.size ≤ q) b := Nat.not_le.mpr hbl
  have hA : ∀ q : Nat, (fun q : Nat => s.heap.size ≤ q) q → s.heap.size ≤ q := fun _ h => h
  have z1 := tl_1
  have z2 := tl_2
  have z3 := tl_3
  have z4 := tl_4
  have oL := Rel_okL hr9
  have oB := Rel_okB hr9
  have oR := hr9.1
  obtain ⟨hPT, hPM, hPB, hPL, hPS, hPR⟩ := hW
  refine lv_aload_n hx hb dL_law_323 rfl (lv_at hl 1 rfl) ?_
  refine lv_aload_n hx hb dL_law_324 rfl (lv_at hl 0 rfl) ?_
  refine lv_iload_n hx hb dL_law_325 rfl (lv_at hl 3 rfl) ?_
  refine lv_iconst (v := 1) hx hb dL_law_326 (by decide) ?_
  refine lv_iadd hx hb dL_law_327 ?_
  refine va_sld hx hb hX hbl hbA hS (sc_i h0 h5 hL (by omega) (by omega)) dL_law_328 ?_
  refine lv_aload_n hx hb dL_law_329 rfl (lv_at hl 0 rfl) ?_
  refine lv_iload_n hx hb dL_law_330 rfl (lv_at hl 3 rfl) ?_
  refine lv_iconst (v := 2) hx hb dL_law_331 (by decide) ?_
  refine lv_iadd hx hb dL_law_332 ?_
  refine va_sld hx hb hX hbl hbA hS (sc_i h0 h5 hL (by omega) (by omega)) dL_law_333 ?_
  refine lv_aload_n hx hb dL_law_334 rfl (lv_at hl 0 rfl) ?_
  refine lv_iload_n hx hb dL_law_335 rfl (lv_at hl 3 rfl) ?_
  refine lv_iconst (v := 3) hx hb dL_law_336 (by decide) ?_
  refine lv_iadd hx hb dL_law_337 ?_
  refine va_sld hx hb hX hbl hbA hS (sc_i h0 h5 hL (by omega) (by omega)) dL_law_338 ?_
  refine lv_aload_n hx hb dL_law_339 rfl (lv_at hl 0 rfl) ?_
  refine lv_iload_n hx hb dL_law_340 rfl (lv_at hl 3 rfl) ?_
  refine lv_iconst (v := 4) hx hb dL_law_341 (by decide) ?_
  refine lv_iadd hx hb dL_law_342 ?_
  refine va_sld hx hb hX hbl hbA hS (sc_i h0 h5 hL (by omega) (by omega)) dL_law_343 ?_
  refine runW_i (P := fun H => va_P D vwCl (cellT cI g sT vT) H ∧ va_P D vwCl (cellM cI g (m_T_tune sT sM (xs (Int32.toNatClampNeg (i3 + 1))) (xs (Int32.toNatClampNeg (i3 + 2))) (xs (Int32.toNatClampNeg (i3 + 3))) (xs (Int32.toNatClampNeg (i3 + 4)))).2) H ∧ va_P D vwCl (cellB cI g sB) H ∧ va_P D vwCl (cellL cI g sL) H ∧ va_P D vwCl (cellS cI g sS) H) (va_runV (As := [.int (xs (Int32.toNatClampNeg (i3 + 1))), .int (xs (Int32.toNatClampNeg (i3 + 2))), .int (xs (Int32.toNatClampNeg (i3 + 3))), .int (xs (Int32.toNatClampNeg (i3 + 4)))]) (rest := []) ⟨hx, hb, hml, hown, hts⟩ (K_T_tune hg sT vT sM sB sL sS (xs (Int32.toNatClampNeg (i3 + 1))) (xs (Int32.toNatClampNeg (i3 + 2))) (xs (Int32.toNatClampNeg (i3 + 3))) (xs (Int32.toNatClampNeg (i3 + 4)))) (cwV 4 hts gL_law_X4_tune rfl rfl rfl (by decide +kernel) ⟨Nat.le_of_ble_eq_true rfl, Nat.le_of_ble_eq_true rfl⟩) (preV_of hE hA hS ⟨hPT, hPM, hPB, hPL, hPS⟩ (va_recv hE.1 hPT (ci := 4) (q0 := 0) rfl rfl)) rfl rfl hl.1 rfl (lv_room (Nat.le_of_ble_eq_true rfl)) dL_law_344 ⟨Nat.le_refl _, Nat.le_refl _⟩) hS (fun q h9 => wA.lo hg q h9) (fun H locs hQ hk hS => ?_)
  have hPR := wKeep hPR (wOffL (c := 0) (n := 16) (x := 0) hdis rfl) hk
  obtain ⟨hPT, hPM, hPB, hPL, hPS⟩ := hQ
  refine lv_aload_n hx hb dL_law_347 rfl (lv_at hl 2 rfl) ?_
  refine lv_aload_n hx hb dL_law_348 rfl (lv_at hl 0 rfl) ?_
  refine lv_iload_n hx hb dL_law_349 rfl (lv_at hl 3 rfl) ?_
  refine lv_iconst (v := 1) hx hb dL_law_350 (by decide) ?_
  refine lv_iadd hx hb dL_law_351 ?_
  refine va_sld hx hb hX hbl hbA hS (sc_i h0 h5 hL (by omega) (by omega)) dL_law_352 ?_
  refine lv_aload_n hx hb dL_law_353 rfl (lv_at hl 0 rfl) ?_
  refine lv_iload_n hx hb dL_law_354 rfl (lv_at hl 3 rfl) ?_
  refine lv_iconst (v := 2) hx hb dL_law_355 (by decide) ?_
  refine lv_iadd hx hb dL_law_356 ?_
  refine va_sld hx hb hX hbl hbA hS (sc_i h0 h5 hL (by omega) (by omega)) dL_law_357 ?_
  refine lv_aload_n hx hb dL_law_358 rfl (lv_at hl 0 rfl) ?_
  refine lv_iload_n hx hb dL_law_359 rfl (lv_at hl 3 rfl) ?_
  refine lv_iconst (v := 3) hx hb dL_law_360 (by decide) ?_
  refine lv_iadd hx hb dL_law_361 ?_
  refine va_sld hx hb hX hbl hbA hS (sc_i h0 h5 hL (by omega) (by omega)) dL_law_362 ?_
  refine lv_aload_n hx hb dL_law_363 rfl (lv_at hl 0 rfl) ?_
  refine lv_iload_n hx hb dL_law_364 rfl (lv_at hl 3 rfl) ?_
  refine lv_iconst (v := 4) hx hb dL_law_365 (by decide) ?_
  refine lv_iadd hx hb dL_law_366 ?_
  refine va_sld hx hb hX hbl hbA hS (sc_i h0 h5 hL (by omega) (by omega)) dL_law_367 ?_
  refine runW_i (P := fun H => va_P D vwCl (cellR cI gR (m_R_tune sR (xs (Int32.toNatClampNeg (i3 + 1))) (xs (Int32.toNatClampNeg (i3 + 2))) (xs (Int32.toNatClampNeg (i3 + 3))) (xs (Int32.toNatClampNeg (i3 + 4)))).2 vR) H) (va_runV (As := [.int (xs (Int32.toNatClampNeg (i3 + 1))), .int (xs (Int32.toNatClampNeg (i3 + 2))), .int (xs (Int32.toNatClampNeg (i3 + 3))), .int (xs (Int32.toNatClampNeg (i3 + 4)))]) (rest := [.int (m_T_tune sT sM (xs (Int32.toNatClampNeg (i3 + 1))) (xs (Int32.toNatClampNeg (i3 + 2))) (xs (Int32.toNatClampNeg (i3 + 3))) (xs (Int32.toNatClampNeg (i3 + 4)))).1]) ⟨hx, hb, hml, hown, hts⟩ (K_R_tune hgR sR vR (xs (Int32.toNatClampNeg (i3 + 1))) (xs (Int32.toNatClampNeg (i3 + 2))) (xs (Int32.toNatClampNeg (i3 + 3))) (xs (Int32.toNatClampNeg (i3 + 4))) oR) (cwV 4 hts gL_law_X5_tune rfl rfl rfl (by decide +kernel) ⟨Nat.le_of_ble_eq_true rfl, Nat.le_of_ble_eq_true rfl⟩) (preV_of hE hA hS hPR (va_recv hE.1 hPR (ci := 5) (q0 := 0) rfl rfl)) rfl rfl hl.1 rfl (lv_room (Nat.le_of_ble_eq_true rfl)) dL_law_368 ⟨Nat.le_refl _, Nat.le_refl _⟩) hS (fun q h9 => wA.lo hgR q h9) (fun H locs hQ hk hS => ?_)
  have hPT := wKeep hPT (wOffL (gR := g) (g := gR) (c := 0) (n := 1) (x := 0) (y := 16) (fun i j hi hj e => hdis j i (by omega) hi e.symm) rfl) hk
  have hPM := wKeep hPM (wOffL (gR := g) (g := gR) (c := 1) (n := 5) (x := 0) (y := 16) (fun i j hi hj e => hdis j i (by omega) hi e.symm) rfl) hk
  have hPB := wKeep hPB (wOffL (gR := g) (g := gR) (c := 6) (n := 6) (x := 0) (y := 16) (fun i j hi hj e => hdis j i (by omega) hi e.symm) rfl) hk
  have hPL := wKeep hPL (wOffL (gR := g) (g := gR) (c := 12) (n := 5) (x := 0) (y := 16) (fun i j hi hj e => hdis j i (by omega) hi e.symm) rfl) hk
  have hPS := wKeep hPS (wOffL (gR := g) (g := gR) (c := 17) (n := 2) (x := 0) (y := 16) (fun i j hi hj e => hdis j i (by omega) hi e.symm) rfl) hk
  have hPR := hQ
  have hp9 := P_tune hr9 (xs (Int32.toNatClampNeg (i3 + 1))) (xs (Int32.toNatClampNeg (i3 + 2))) (xs (Int32.toNatClampNeg (i3 + 3))) (xs (Int32.toNatClampNeg (i3 + 4)))
  refine lv_icmp_eq (tgt := 1215) hx hb dL_law_371 (by decide) (fun c => ?_) (fun c => absurd hp9.1 c)
  exact kk _ _ _ _ _ _ _ _ H locs ls hp9.2 ⟨hPT, hPM, hPB, hPL, hPS, hPR⟩ hS hl
set_option maxHeartbeats 4000000 in
set_option maxRecDepth 100000 in
theorem lc_6 {p : Program} {e : Env} {s : State} {m : MethodId} {below : List Frame} {meth : Method} {c : Code} {l : Launch} {b L : Nat} {xs : Nat → Int32} (hL : L ≤ 2560) (C0 : lw_At p s m meth c b L xs) {D : va_G} {cI : ClassId} (hE : EV D cI s.heap.size s s.heap) {g gR : Nat → Nat} (hg : wI g 0 19 s.heap.size) (hgR : wI gR 0 16 s.heap.size) (hdis : ∀ i j : Nat, i < 19 → j < 16 → g i ≠ gR j) {i3 : Int32} (h0 : 0 ≤ i3.toInt) (h5 : i3.toInt + 5 ≤ (L : Int)) {sT : St} {vT : Int64} {sM sB sL sS sR : St} {vR : Int64} (hr9 : Rel sT vT sM sB sL sS sR vR) {H : Heap} {locs : List Loc} {ls : Array Slot} (hW : Wd D cI g gR sT vT sM sB sL sS sR vR H) (hS : va_S (fun q : Nat => s.heap.size ≤ q) s.heap H locs) (hl : lv_has ls 4 [(0, .ref b), (1, .ref (g 0)), (2, .ref (gR 0)), (3, .int i3)]) (kk : (∀ (sT : St) (vT : Int64) (sM sB sL sS sR : St) (vR : Int64) (H : Heap) (locs : List Loc) (ls : Array Slot), Rel sT vT sM sB sL sS sR vR → Wd D cI g gR sT vT sM sB sL sS sR vR H → va_S (fun q : Nat => s.heap.size ≤ q) s.heap H locs → lv_has ls 4 [(0, .ref b), (1, .ref (g 0)), (2, .ref (gR 0)), (3, .int i3)] → W p l e room_1 s m #[Value.ref b] below meth c H locs 600000 7302250 (lw_Z below #[Value.ref b] s) (F0 m 1215 ls []))) : W p l e room_1 s m #[Value.ref b] below meth c H locs 600000 7302250 (lw_Z below #[Value.ref b] s) (F0 m 376 ls []) := by
  obtain ⟨hx, hb, hr, hml, hown, hts0, hX, hbl, hlocks, hgv⟩ := id C0
  have hts := hts0
  have hown : s.vm.findClass RL = some m.cls := hown
  have hbA : ¬ (fun q : Nat => s.heap.size ≤ q) b := Nat.not_le.mpr hbl
  have hA : ∀ q : Nat, (fun q : Nat => s.heap.size ≤ q) q → s.heap.size ≤ q := fun _ h => h
  have z1 := tl_1
  have z2 := tl_2
  have z3 := tl_3
  have z4 := tl_4
  have oL := Rel_okL hr9
  have oB := Rel_okB hr9
  have oR := hr9.1
  obtain ⟨hPT, hPM, hPB, hPL, hPS, hPR⟩ := hW
  refine lv_aload_n hx hb dL_law_376 rfl (lv_at hl 1 rfl) ?_
  refine lv_aload_n hx hb dL_law_377 rfl (lv_at hl 0 rfl) ?_
  refine lv_iload_n hx hb dL_law_378 rfl (lv_at hl 3 rfl) ?_
  refine lv_iconst (v := 1) hx hb dL_law_379 (by decide) ?_
  refine lv_iadd hx hb dL_law_380 ?_
  refine va_sld hx hb hX hbl hbA hS (sc_i h0 h5 hL (by omega) (by omega)) dL_law_381 ?_
  refine runW_i (P := fun H => va_P D vwCl (cellT cI g sT vT) H ∧ va_P D vwCl (cellM cI g sM) H ∧ va_P D vwCl (cellB cI g (m_T_spread sT sB (xs (Int32.toNatClampNeg (i3 + 1)))).2) H ∧ va_P D vwCl (cellL cI g sL) H ∧ va_P D vwCl (cellS cI g sS) H) (va_runV (As := [.int (xs (Int32.toNatClampNeg (i3 + 1)))]) (rest := []) ⟨hx, hb, hml, hown, hts⟩ (K_T_spread hg sT vT sM sB sL sS (xs (Int32.toNatClampNeg (i3 + 1)))) (cwV 1 hts gL_law_X4_spread rfl rfl rfl (by decide +kernel) ⟨Nat.le_of_ble_eq_true rfl, Nat.le_of_ble_eq_true rfl⟩) (preV_of hE hA hS ⟨hPT, hPM, hPB, hPL, hPS⟩ (va_recv hE.1 hPT (ci := 4) (q0 := 0) rfl rfl)) rfl rfl hl.1 rfl (lv_room (Nat.le_of_ble_eq_true rfl)) dL_law_382 ⟨Nat.le_refl _, Nat.le_refl _⟩) hS (fun q h9 => wA.lo hg q h9) (fun H locs hQ hk hS => ?_)
  have hPR := wKeep hPR (wOffL (c := 0) (n := 16) (x := 0) hdis rfl) hk
  obtain ⟨hPT, hPM, hPB, hPL, hPS⟩ := hQ
  refine lv_aload_n hx hb dL_law_385 rfl (lv_at hl 2 rfl) ?_
  refine lv_aload_n hx hb dL_law_386 rfl (lv_at hl 0 rfl) ?_
  refine lv_iload_n hx hb dL_law_387 rfl (lv_at hl 3 rfl) ?_
  refine lv_iconst (v := 1) hx hb dL_law_388 (by decide) ?_
  refine lv_iadd hx hb dL_law_389 ?_
  refine va_sld hx hb hX hbl hbA hS (sc_i h0 h5 hL (by omega) (by omega)) dL_law_390 ?_
  refine runW_i (P := fun H => va_P D vwCl (cellR cI gR (m_R_spread sR (xs (Int32.toNatClampNeg (i3 + 1)))).2 vR) H) (va_runV (As := [.int (xs (Int32.toNatClampNeg (i3 + 1)))]) (rest := [.int (m_T_spread sT sB (xs (Int32.toNatClampNeg (i3 + 1)))).1]) ⟨hx, hb, hml, hown, hts⟩ (K_R_spread hgR sR vR (xs (Int32.toNatClampNeg (i3 + 1)))) (cwV 1 hts gL_law_X5_spread rfl rfl rfl (by decide +kernel) ⟨Nat.le_of_ble_eq_true rfl, Nat.le_of_ble_eq_true rfl⟩) (preV_of hE hA hS hPR (va_recv hE.1 hPR (ci := 5) (q0 := 0) rfl rfl)) rfl rfl hl.1 rfl (lv_room (Nat.le_of_ble_eq_true rfl)) dL_law_391 ⟨Nat.le_refl _, Nat.le_refl _⟩) hS (fun q h9 => wA.lo hgR q h9) (fun H locs hQ hk hS => ?_)
  have hPT := wKeep hPT (wOffL (gR := g) (g := gR) (c := 0) (n := 1) (x := 0) (y := 16) (fun i j hi hj e => hdis j i (by omega) hi e.symm) rfl) hk
  have hPM := wKeep hPM (wOffL (gR := g) (g := gR) (c := 1) (n := 5) (x := 0) (y := 16) (fun i j hi hj e => hdis j i (by omega) hi e.symm) rfl) hk
  have hPB := wKeep hPB (wOffL (gR := g) (g := gR) (c := 6) (n := 6) (x := 0) (y := 16) (fun i j hi hj e => hdis j i (by omega) hi e.symm) rfl) hk
  have hPL := wKeep hPL (wOffL (gR := g) (g := gR) (c := 12) (n := 5) (x := 0) (y := 16) (fun i j hi hj e => hdis j i (by omega) hi e.symm) rfl) hk
  have hPS := wKeep hPS (wOffL (gR := g) (g := gR) (c := 17) (n := 2) (x := 0) (y := 16) (fun i j hi hj e => hdis j i (by omega) hi e.symm) rfl) hk
  have hPR := hQ
  have hp9 := P_spread hr9 (xs (Int32.toNatClampNeg (i3 + 1)))
  refine lv_icmp_eq (tgt := 1215) hx hb dL_law_394 (by decide) (fun c => ?_) (fun c => absurd hp9.1 c)
  exact kk _ _ _ _ _ _ _ _ H locs ls hp9.2 ⟨hPT, hPM, hPB, hPL, hPS, hPR⟩ hS hl
set_option maxHeartbeats 4000000 in
set_option maxRecDepth 100000 in
theorem lc_7 {p : Program} {e : Env} {s : State} {m : MethodId} {below : List Frame} {meth : Method} {c : Code} {l : Launch} {b L : Nat} {xs : Nat → Int32} (hL : L ≤ 2560) (C0 : lw_At p s m meth c b L xs) {D : va_G} {cI : ClassId} (hE : EV D cI s.heap.size s s.heap) {g gR : Nat → Nat} (hg : wI g 0 19 s.heap.size) (hgR : wI gR 0 16 s.heap.size) (hdis : ∀ i j : Nat, i < 19 → j < 16 → g i ≠ gR j) {i3 : Int32} (h0 : 0 ≤ i3.toInt) (h5 : i3.toInt + 5 ≤ (L : Int)) {sT : St} {vT : Int64} {sM sB sL sS sR : St} {vR : Int64} (hr9 : Rel sT vT sM sB sL sS sR vR) {H : Heap} {locs : List Loc} {ls : Array Slot} (hW : Wd D cI g gR sT vT sM sB sL sS sR vR H) (hS : va_S (fun q : Nat => s.heap.size ≤ q) s.heap H locs) (hl : lv_has ls 4 [(0, .ref b), (1, .ref (g 0)), (2, .ref (gR 0)), (3, .int i3)]) (kk : (∀ (sT : St) (vT : Int64) (sM sB sL sS sR : St) (vR : Int64) (H : Heap) (locs : List Loc) (ls : Array Slot), Rel sT vT sM sB sL sS sR vR → Wd D cI g gR sT vT sM sB sL sS sR vR H → va_S (fun q : Nat => s.heap.size ≤ q) s.heap H locs → lv_has ls 4 [(0, .ref b), (1, .ref (g 0)), (2, .ref (gR 0)), (3, .int i3)] → W p l e room_1 s m #[Value.ref b] below meth c H locs 600000 7302250 (lw_Z below #[Value.ref b] s) (F0 m 1215 ls []))) : W p l e room_1 s m #[Value.ref b] below meth c H locs 600000 7302250 (lw_Z below #[Value.ref b] s) (F0 m 399 ls []) := by
  obtain ⟨hx, hb, hr, hml, hown, hts0, hX, hbl, hlocks, hgv⟩ := id C0
  have hts := hts0
  have hown : s.vm.findClass RL = some m.cls := hown
  have hbA : ¬ (fun q : Nat => s.heap.size ≤ q) b := Nat.not_le.mpr hbl
  have hA : ∀ q : Nat, (fun q : Nat => s.heap.size ≤ q) q → s.heap.size ≤ q := fun _ h => h
  have z1 := tl_1
  have z2 := tl_2
  have z3 := tl_3
  have z4 := tl_4
  have oL := Rel_okL hr9
  have oB := Rel_okB hr9
  have oR := hr9.1
  obtain ⟨hPT, hPM, hPB, hPL, hPS, hPR⟩ := hW
  refine lv_aload_n hx hb dL_law_399 rfl (lv_at hl 1 rfl) ?_
  refine lv_aload_n hx hb dL_law_400 rfl (lv_at hl 0 rfl) ?_
  refine lv_iload_n hx hb dL_law_401 rfl (lv_at hl 3 rfl) ?_
  refine lv_iconst (v := 1) hx hb dL_law_402 (by decide) ?_
  refine lv_iadd hx hb dL_law_403 ?_
  refine va_sld hx hb hX hbl hbA hS (sc_i h0 h5 hL (by omega) (by omega)) dL_law_404 ?_
  refine lv_aload_n hx hb dL_law_405 rfl (lv_at hl 0 rfl) ?_
  refine lv_iload_n hx hb dL_law_406 rfl (lv_at hl 3 rfl) ?_
  refine lv_iconst (v := 2) hx hb dL_law_407 (by decide) ?_
  refine lv_iadd hx hb dL_law_408 ?_
  refine va_sld hx hb hX hbl hbA hS (sc_i h0 h5 hL (by omega) (by omega)) dL_law_409 ?_
  refine runW_i (P := fun H => va_P D vwCl (cellT cI g sT vT) H ∧ va_P D vwCl (cellM cI g sM) H ∧ va_P D vwCl (cellB cI g (m_T_shot sT sB (xs (Int32.toNatClampNeg (i3 + 1))) (xs (Int32.toNatClampNeg (i3 + 2)))).2) H ∧ va_P D vwCl (cellL cI g sL) H ∧ va_P D vwCl (cellS cI g sS) H) (va_runV (As := [.int (xs (Int32.toNatClampNeg (i3 + 1))), .int (xs (Int32.toNatClampNeg (i3 + 2)))]) (rest := []) ⟨hx, hb, hml, hown, hts⟩ (K_T_shot hg sT vT sM sB sL sS (xs (Int32.toNatClampNeg (i3 + 1))) (xs (Int32.toNatClampNeg (i3 + 2))) oB) (cwV 2 hts gL_law_X4_shot rfl rfl rfl (by decide +kernel) ⟨Nat.le_of_ble_eq_true rfl, Nat.le_of_ble_eq_true rfl⟩) (preV_of hE hA hS ⟨hPT, hPM, hPB, hPL, hPS⟩ (va_recv hE.1 hPT (ci := 4) (q0 := 0) rfl rfl)) rfl rfl hl.1 rfl (lv_room (Nat.le_of_ble_eq_true rfl)) dL_law_410 ⟨Nat.le_refl _, Nat.le_refl _⟩) hS (fun q h9 => wA.lo hg q h9) (fun H locs hQ hk hS => ?_)
  have hPR := wKeep hPR (wOffL (c := 0) (n := 16) (x := 0) hdis rfl) hk
  obtain ⟨hPT, hPM, hPB, hPL, hPS⟩ := hQ
  refine lv_aload_n hx hb dL_law_413 rfl (lv_at hl 2 rfl) ?_
  refine lv_aload_n hx hb dL_law_414 rfl (lv_at hl 0 rfl) ?_
  refine lv_iload_n hx hb dL_law_415 rfl (lv_at hl 3 rfl) ?_
  refine lv_iconst (v := 1) hx hb dL_law_416 (by decide) ?_
  refine lv_iadd hx hb dL_law_417 ?_
  refine va_sld hx hb hX hbl hbA hS (sc_i h0 h5 hL (by omega) (by omega)) dL_law_418 ?_
  refine lv_aload_n hx hb dL_law_419 rfl (lv_at hl 0 rfl) ?_
  refine lv_iload_n hx hb dL_law_420 rfl (lv_at hl 3 rfl) ?_
  refine lv_iconst (v := 2) hx hb dL_law_421 (by decide) ?_
  refine lv_iadd hx hb dL_law_422 ?_
  refine va_sld hx hb hX hbl hbA hS (sc_i h0 h5 hL (by omega) (by omega)) dL_law_423 ?_
  refine runW_i (P := fun H => va_P D vwCl (cellR cI gR (m_R_shot sR (xs (Int32.toNatClampNeg (i3 + 1))) (xs (Int32.toNatClampNeg (i3 + 2)))).2 vR) H) (va_runV (As := [.int (xs (Int32.toNatClampNeg (i3 + 1))), .int (xs (Int32.toNatClampNeg (i3 + 2)))]) (rest := [.int (m_T_shot sT sB (xs (Int32.toNatClampNeg (i3 + 1))) (xs (Int32.toNatClampNeg (i3 + 2)))).1]) ⟨hx, hb, hml, hown, hts⟩ (K_R_shot hgR sR vR (xs (Int32.toNatClampNeg (i3 + 1))) (xs (Int32.toNatClampNeg (i3 + 2))) oR) (cwV 2 hts gL_law_X5_shot rfl rfl rfl (by decide +kernel) ⟨Nat.le_of_ble_eq_true rfl, Nat.le_of_ble_eq_true rfl⟩) (preV_of hE hA hS hPR (va_recv hE.1 hPR (ci := 5) (q0 := 0) rfl rfl)) rfl rfl hl.1 rfl (lv_room (Nat.le_of_ble_eq_true rfl)) dL_law_424 ⟨Nat.le_refl _, Nat.le_refl _⟩) hS (fun q h9 => wA.lo hgR q h9) (fun H locs hQ hk hS => ?_)
  have hPT := wKeep hPT (wOffL (gR := g) (g := gR) (c := 0) (n := 1) (x := 0) (y := 16) (fun i j hi hj e => hdis j i (by omega) hi e.symm) rfl) hk
  have hPM := wKeep hPM (wOffL (gR := g) (g := gR) (c := 1) (n := 5) (x := 0) (y := 16) (fun i j hi hj e => hdis j i (by omega) hi e.symm) rfl) hk
  have hPB := wKeep hPB (wOffL (gR := g) (g := gR) (c := 6) (n := 6) (x := 0) (y := 16) (fun i j hi hj e => hdis j i (by omega) hi e.symm) rfl) hk
  have hPL := wKeep hPL (wOffL (gR := g) (g := gR) (c := 12) (n := 5) (x := 0) (y := 16) (fun i j hi hj e => hdis j i (by omega) hi e.symm) rfl) hk
  have hPS := wKeep hPS (wOffL (gR := g) (g := gR) (c := 17) (n := 2) (x := 0) (y := 16) (fun i j hi hj e => hdis j i (by omega) hi e.symm) rfl) hk
  have hPR := hQ
  have hp9 := P_shot hr9 (xs (Int32.toNatClampNeg (i3 + 1))) (xs (Int32.toNatClampNeg (i3 + 2)))
  refine lv_icmp_eq (tgt := 1215) hx hb dL_law_427 (by decide) (fun c => ?_) (fun c => absurd hp9.1 c)
  exact kk _ _ _ _ _ _ _ _ H locs ls hp9.2 ⟨hPT, hPM, hPB, hPL, hPS, hPR⟩ hS hl
set_option maxHeartbeats 4000000 in
set_option maxRecDepth 100000 in
theorem lc_8 {p : Program} {e : Env} {s : State} {m : MethodId} {below : List Frame} {meth : Method} {c : Code} {l : Launch} {b L : Nat} {xs : Nat → Int32} (hL : L ≤ 2560) (C0 : lw_At p s m meth c b L xs) {D : va_G} {cI : ClassId} (hE : EV D cI s.heap.size s s.heap) {g gR : Nat → Nat} (hg : wI g 0 19 s.heap.size) (hgR : wI gR 0 16 s.heap.size) (hdis : ∀ i j : Nat, i < 19 → j < 16 → g i ≠ gR j) {i3 : Int32} (h0 : 0 ≤ i3.toInt) (h5 : i3.toInt + 5 ≤ (L : Int)) {sT : St} {vT : Int64} {sM sB sL sS sR : St} {vR : Int64} (hr9 : Rel sT vT sM sB sL sS sR vR) {H : Heap} {locs : List Loc} {ls : Array Slot} (hW : Wd D cI g gR sT vT sM sB sL sS sR vR H) (hS : va_S (fun q : Nat => s.heap.size ≤ q) s.heap H locs) (hl : lv_has ls 4 [(0, .ref b), (1, .ref (g 0)), (2, .ref (gR 0)), (3, .int i3)]) (kk : (∀ (sT : St) (vT : Int64) (sM sB sL sS sR : St) (vR : Int64) (H : Heap) (locs : List Loc) (ls : Array Slot), Rel sT vT sM sB sL sS sR vR → Wd D cI g gR sT vT sM sB sL sS sR vR H → va_S (fun q : Nat => s.heap.size ≤ q) s.heap H locs → lv_has ls 4 [(0, .ref b), (1, .ref (g 0)), (2, .ref (gR 0)), (3, .int i3)] → W p l e room_1 s m #[Value.ref b] below meth c H locs 600000 7302250 (lw_Z below #[Value.ref b] s) (F0 m 1215 ls []))) : W p l e room_1 s m #[Value.ref b] below meth c H locs 600000 7302250 (lw_Z below #[Value.ref b] s) (F0 m 432 ls []) := by
  obtain ⟨hx, hb, hr, hml, hown, hts0, hX, hbl, hlocks, hgv⟩ := id C0
  have hts := hts0
  have hown : s.vm.findClass RL = some m.cls := hown
  have hbA : ¬ (fun q : Nat => s.heap.size ≤ q) b := Nat.not_le.mpr hbl
  have hA : ∀ q : Nat, (fun q : Nat => s.heap.size ≤ q) q → s.heap.size ≤ q := fun _ h => h
  have z1 := tl_1
  have z2 := tl_2
  have z3 := tl_3
  have z4 := tl_4
  have oL := Rel_okL hr9
  have oB := Rel_okB hr9
  have oR := hr9.1
  obtain ⟨hPT, hPM, hPB, hPL, hPS, hPR⟩ := hW
  refine lv_aload_n hx hb dL_law_432 rfl (lv_at hl 1 rfl) ?_
  refine runW_i (P := fun H => va_P D vwCl (cellT cI g sT vT) H ∧ va_P D vwCl (cellM cI g sM) H ∧ va_P D vwCl (cellB cI g (m_T_clear sT sB).2) H ∧ va_P D vwCl (cellL cI g sL) H ∧ va_P D vwCl (cellS cI g sS) H) (va_runV (As := []) (rest := []) ⟨hx, hb, hml, hown, hts⟩ (K_T_clear hg sT vT sM sB sL sS) (cwV 0 hts gL_law_X4_clear rfl rfl rfl (by decide +kernel) ⟨Nat.le_of_ble_eq_true rfl, Nat.le_of_ble_eq_true rfl⟩) (preV_of hE hA hS ⟨hPT, hPM, hPB, hPL, hPS⟩ (va_recv hE.1 hPT (ci := 4) (q0 := 0) rfl rfl)) rfl rfl hl.1 rfl (lv_room (Nat.le_of_ble_eq_true rfl)) dL_law_433 ⟨Nat.le_refl _, Nat.le_refl _⟩) hS (fun q h9 => wA.lo hg q h9) (fun H locs hQ hk hS => ?_)
  have hPR := wKeep hPR (wOffL (c := 0) (n := 16) (x := 0) hdis rfl) hk
  obtain ⟨hPT, hPM, hPB, hPL, hPS⟩ := hQ
  refine lv_aload_n hx hb dL_law_436 rfl (lv_at hl 2 rfl) ?_
  refine runW_i (P := fun H => va_P D vwCl (cellR cI gR (m_R_clear sR).2 vR) H) (va_runV (As := []) (rest := [.int (m_T_clear sT sB).1]) ⟨hx, hb, hml, hown, hts⟩ (K_R_clear hgR sR vR) (cwV 0 hts gL_law_X5_clear rfl rfl rfl (by decide +kernel) ⟨Nat.le_of_ble_eq_true rfl, Nat.le_of_ble_eq_true rfl⟩) (preV_of hE hA hS hPR (va_recv hE.1 hPR (ci := 5) (q0 := 0) rfl rfl)) rfl rfl hl.1 rfl (lv_room (Nat.le_of_ble_eq_true rfl)) dL_law_437 ⟨Nat.le_refl _, Nat.le_refl _⟩) hS (fun q h9 => wA.lo hgR q h9) (fun H locs hQ hk hS => ?_)
  have hPT := wKeep hPT (wOffL (gR := g) (g := gR) (c := 0) (n := 1) (x := 0) (y := 16) (fun i j hi hj e => hdis j i (by omega) hi e.symm) rfl) hk
  have hPM := wKeep hPM (wOffL (gR := g) (g := gR) (c := 1) (n := 5) (x := 0) (y := 16) (fun i j hi hj e => hdis j i (by omega) hi e.symm) rfl) hk
  have hPB := wKeep hPB (wOffL (gR := g) (g := gR) (c := 6) (n := 6) (x := 0) (y := 16) (fun i j hi hj e => hdis j i (by omega) hi e.symm) rfl) hk
  have hPL := wKeep hPL (wOffL (gR := g) (g := gR) (c := 12) (n := 5) (x := 0) (y := 16) (fun i j hi hj e => hdis j i (by omega) hi e.symm) rfl) hk
  have hPS := wKeep hPS (wOffL (gR := g) (g := gR) (c := 17) (n := 2) (x := 0) (y := 16) (fun i j hi hj e => hdis j i (by omega) hi e.symm) rfl) hk
  have hPR := hQ
  have hp9 := P_clear hr9
  refine lv_icmp_eq (tgt := 1215) hx hb dL_law_440 (by decide) (fun c => ?_) (fun c => absurd hp9.1 c)
  exact kk _ _ _ _ _ _ _ _ H locs ls hp9.2 ⟨hPT, hPM, hPB, hPL, hPS, hPR⟩ hS hl
set_option maxHeartbeats 4000000 in
set_option maxRecDepth 100000 in
theorem lc_9 {p : Program} {e : Env} {s : State} {m : MethodId} {below : List Frame} {meth : Method} {c : Code} {l : Launch} {b L : Nat} {xs : Nat → Int32} (hL : L ≤ 2560) (C0 : lw_At p s m meth c b L xs) {D : va_G} {cI : ClassId} (hE : EV D cI s.heap.size s s.heap) {g gR : Nat → Nat} (hg : wI g 0 19 s.heap.size) (hgR : wI gR 0 16 s.heap.size) (hdis : ∀ i j : Nat, i < 19 → j < 16 → g i ≠ gR j) {i3 : Int32} (h0 : 0 ≤ i3.toInt) (h5 : i3.toInt + 5 ≤ (L : Int)) {sT : St} {vT : Int64} {sM sB sL sS sR : St} {vR : Int64} (hr9 : Rel sT vT sM sB sL sS sR vR) {H : Heap} {locs : List Loc} {ls : Array Slot} (hW : Wd D cI g gR sT vT sM sB sL sS sR vR H) (hS : va_S (fun q : Nat => s.heap.size ≤ q) s.heap H locs) (hl : lv_has ls 4 [(0, .ref b), (1, .ref (g 0)), (2, .ref (gR 0)), (3, .int i3)]) (kk : (∀ (sT : St) (vT : Int64) (sM sB sL sS sR : St) (vR : Int64) (H : Heap) (locs : List Loc) (ls : Array Slot), Rel sT vT sM sB sL sS sR vR → Wd D cI g gR sT vT sM sB sL sS sR vR H → va_S (fun q : Nat => s.heap.size ≤ q) s.heap H locs → lv_has ls 4 [(0, .ref b), (1, .ref (g 0)), (2, .ref (gR 0)), (3, .int i3)] → W p l e room_1 s m #[Value.ref b] below meth c H locs 600000 7302250 (lw_Z below #[Value.ref b] s) (F0 m 1215 ls []))) : W p l e room_1 s m #[Value.ref b] below meth c H locs 600000 7302250 (lw_Z below #[Value.ref b] s) (F0 m 445 ls []) := by
  obtain ⟨hx, hb, hr, hml, hown, hts0, hX, hbl, hlocks, hgv⟩ := id C0
  have hts := hts0
  have hown : s.vm.findClass RL = some m.cls := hown
  have hbA : ¬ (fun q : Nat => s.heap.size ≤ q) b := Nat.not_le.mpr hbl
  have hA : ∀ q : Nat, (fun q : Nat => s.heap.size ≤ q) q → s.heap.size ≤ q := fun _ h => h
  have z1 := tl_1
  have z2 := tl_2
  have z3 := tl_3
  have z4 := tl_4
  have oL := Rel_okL hr9
  have oB := Rel_okB hr9
  have oR := hr9.1
  obtain ⟨hPT, hPM, hPB, hPL, hPS, hPR⟩ := hW
  refine lv_aload_n hx hb dL_law_445 rfl (lv_at hl 1 rfl) ?_
  refine runW_i (P := fun H => va_P D vwCl (cellT cI g sT vT) H ∧ va_P D vwCl (cellM cI g (m_T_left sT sM sB).2.1) H ∧ va_P D vwCl (cellB cI g (m_T_left sT sM sB).2.2) H ∧ va_P D vwCl (cellL cI g sL) H ∧ va_P D vwCl (cellS cI g sS) H) (va_runV (As := []) (rest := []) ⟨hx, hb, hml, hown, hts⟩ (K_T_left hg sT vT sM sB sL sS oB) (cwV 0 hts gL_law_X4_left rfl rfl rfl (by decide +kernel) ⟨Nat.le_of_ble_eq_true rfl, Nat.le_of_ble_eq_true rfl⟩) (preV_of hE hA hS ⟨hPT, hPM, hPB, hPL, hPS⟩ (va_recv hE.1 hPT (ci := 4) (q0 := 0) rfl rfl)) rfl rfl hl.1 rfl (lv_room (Nat.le_of_ble_eq_true rfl)) dL_law_446 ⟨Nat.le_refl _, Nat.le_refl _⟩) hS (fun q h9 => wA.lo hg q h9) (fun H locs hQ hk hS => ?_)
  have hPR := wKeep hPR (wOffL (c := 0) (n := 16) (x := 0) hdis rfl) hk
  obtain ⟨hPT, hPM, hPB, hPL, hPS⟩ := hQ
  refine lv_aload_n hx hb dL_law_449 rfl (lv_at hl 2 rfl) ?_
  refine runW_i (P := fun H => va_P D vwCl (cellR cI gR (m_R_left sR).2 vR) H) (va_runV (As := []) (rest := [.int (m_T_left sT sM sB).1]) ⟨hx, hb, hml, hown, hts⟩ (K_R_left hgR sR vR oR) (cwV 0 hts gL_law_X5_left rfl rfl rfl (by decide +kernel) ⟨Nat.le_of_ble_eq_true rfl, Nat.le_of_ble_eq_true rfl⟩) (preV_of hE hA hS hPR (va_recv hE.1 hPR (ci := 5) (q0 := 0) rfl rfl)) rfl rfl hl.1 rfl (lv_room (Nat.le_of_ble_eq_true rfl)) dL_law_450 ⟨Nat.le_refl _, Nat.le_refl _⟩) hS (fun q h9 => wA.lo hgR q h9) (fun H locs hQ hk hS => ?_)
  have hPT := wKeep hPT (wOffL (gR := g) (g := gR) (c := 0) (n := 1) (x := 0) (y := 16) (fun i j hi hj e => hdis j i (by omega) hi e.symm) rfl) hk
  have hPM := wKeep hPM (wOffL (gR := g) (g := gR) (c := 1) (n := 5) (x := 0) (y := 16) (fun i j hi hj e => hdis j i (by omega) hi e.symm) rfl) hk
  have hPB := wKeep hPB (wOffL (gR := g) (g := gR) (c := 6) (n := 6) (x := 0) (y := 16) (fun i j hi hj e => hdis j i (by omega) hi e.symm) rfl) hk
  have hPL := wKeep hPL (wOffL (gR := g) (g := gR) (c := 12) (n := 5) (x := 0) (y := 16) (fun i j hi hj e => hdis j i (by omega) hi e.symm) rfl) hk
  have hPS := wKeep hPS (wOffL (gR := g) (g := gR) (c := 17) (n := 2) (x := 0) (y := 16) (fun i j hi hj e => hdis j i (by omega) hi e.symm) rfl) hk
  have hPR := hQ
  have hp9 := P_left hr9
  refine lv_icmp_eq (tgt := 1215) hx hb dL_law_453 (by decide) (fun c => ?_) (fun c => absurd hp9.1 c)
  exact kk _ _ _ _ _ _ _ _ H locs ls hp9.2 ⟨hPT, hPM, hPB, hPL, hPS, hPR⟩ hS hl
set_option maxHeartbeats 4000000 in
set_option maxRecDepth 100000 in
theorem lc_10 {p : Program} {e : Env} {s : State} {m : MethodId} {below : List Frame} {meth : Method} {c : Code} {l : Launch} {b L : Nat} {xs : Nat → Int32} (hL : L ≤ 2560) (C0 : lw_At p s m meth c b L xs) {D : va_G} {cI : ClassId} (hE : EV D cI s.heap.size s s.heap) {g gR : Nat → Nat} (hg : wI g 0 19 s.heap.size) (hgR : wI gR 0 16 s.heap.size) (hdis : ∀ i j : Nat, i < 19 → j < 16 → g i ≠ gR j) {i3 : Int32} (h0 : 0 ≤ i3.toInt) (h5 : i3.toInt + 5 ≤ (L : Int)) {sT : St} {vT : Int64} {sM sB sL sS sR : St} {vR : Int64} (hr9 : Rel sT vT sM sB sL sS sR vR) {H : Heap} {locs : List Loc} {ls : Array Slot} (hW : Wd D cI g gR sT vT sM sB sL sS sR vR H) (hS : va_S (fun q : Nat => s.heap.size ≤ q) s.heap H locs) (hl : lv_has ls 4 [(0, .ref b), (1, .ref (g 0)), (2, .ref (gR 0)), (3, .int i3)]) (kk : (∀ (sT : St) (vT : Int64) (sM sB sL sS sR : St) (vR : Int64) (H : Heap) (locs : List Loc) (ls : Array Slot), Rel sT vT sM sB sL sS sR vR → Wd D cI g gR sT vT sM sB sL sS sR vR H → va_S (fun q : Nat => s.heap.size ≤ q) s.heap H locs → lv_has ls 4 [(0, .ref b), (1, .ref (g 0)), (2, .ref (gR 0)), (3, .int i3)] → W p l e room_1 s m #[Value.ref b] below meth c H locs 600000 7302250 (lw_Z below #[Value.ref b] s) (F0 m 1215 ls []))) : W p l e room_1 s m #[Value.ref b] below meth c H locs 600000 7302250 (lw_Z below #[Value.ref b] s) (F0 m 458 ls []) := by
  obtain ⟨hx, hb, hr, hml, hown, hts0, hX, hbl, hlocks, hgv⟩ := id C0
  have hts := hts0
  have hown : s.vm.findClass RL = some m.cls := hown
  have hbA : ¬ (fun q : Nat => s.heap.size ≤ q) b := Nat.not_le.mpr hbl
  have hA : ∀ q : Nat, (fun q : Nat => s.heap.size ≤ q) q → s.heap.size ≤ q := fun _ h => h
  have z1 := tl_1
  have z2 := tl_2
  have z3 := tl_3
  have z4 := tl_4
  have oL := Rel_okL hr9
  have oB := Rel_okB hr9
  have oR := hr9.1
  obtain ⟨hPT, hPM, hPB, hPL, hPS, hPR⟩ := hW
  refine lv_aload_n hx hb dL_law_458 rfl (lv_at hl 1 rfl) ?_
  refine lv_aload_n hx hb dL_law_459 rfl (lv_at hl 0 rfl) ?_
  refine lv_iload_n hx hb dL_law_460 rfl (lv_at hl 3 rfl) ?_
  refine lv_iconst (v := 1) hx hb dL_law_461 (by decide) ?_
  refine lv_iadd hx hb dL_law_462 ?_
  refine va_sld hx hb hX hbl hbA hS (sc_i h0 h5 hL (by omega) (by omega)) dL_law_463 ?_
  refine lv_aload_n hx hb dL_law_464 rfl (lv_at hl 0 rfl) ?_
  refine lv_iload_n hx hb dL_law_465 rfl (lv_at hl 3 rfl) ?_
  refine lv_iconst (v := 2) hx hb dL_law_466 (by decide) ?_
  refine lv_iadd hx hb dL_law_467 ?_
  refine va_sld hx hb hX hbl hbA hS (sc_i h0 h5 hL (by omega) (by omega)) dL_law_468 ?_
  refine runW_i (P := fun H => va_P D vwCl (cellT cI g sT vT) H ∧ va_P D vwCl (cellM cI g (m_T_span sT sM sB (xs (Int32.toNatClampNeg (i3 + 1))) (xs (Int32.toNatClampNeg (i3 + 2)))).2.1) H ∧ va_P D vwCl (cellB cI g (m_T_span sT sM sB (xs (Int32.toNatClampNeg (i3 + 1))) (xs (Int32.toNatClampNeg (i3 + 2)))).2.2) H ∧ va_P D vwCl (cellL cI g sL) H ∧ va_P D vwCl (cellS cI g sS) H) (va_runV (As := [.int (xs (Int32.toNatClampNeg (i3 + 1))), .int (xs (Int32.toNatClampNeg (i3 + 2)))]) (rest := []) ⟨hx, hb, hml, hown, hts⟩ (K_T_span hg sT vT sM sB sL sS (xs (Int32.toNatClampNeg (i3 + 1))) (xs (Int32.toNatClampNeg (i3 + 2))) oB) (cwV 2 hts gL_law_X4_span rfl rfl rfl (by decide +kernel) ⟨Nat.le_of_ble_eq_true rfl, Nat.le_of_ble_eq_true rfl⟩) (preV_of hE hA hS ⟨hPT, hPM, hPB, hPL, hPS⟩ (va_recv hE.1 hPT (ci := 4) (q0 := 0) rfl rfl)) rfl rfl hl.1 rfl (lv_room (Nat.le_of_ble_eq_true rfl)) dL_law_469 ⟨Nat.le_refl _, Nat.le_refl _⟩) hS (fun q h9 => wA.lo hg q h9) (fun H locs hQ hk hS => ?_)
  have hPR := wKeep hPR (wOffL (c := 0) (n := 16) (x := 0) hdis rfl) hk
  obtain ⟨hPT, hPM, hPB, hPL, hPS⟩ := hQ
  refine lv_aload_n hx hb dL_law_472 rfl (lv_at hl 2 rfl) ?_
  refine lv_aload_n hx hb dL_law_473 rfl (lv_at hl 0 rfl) ?_
  refine lv_iload_n hx hb dL_law_474 rfl (lv_at hl 3 rfl) ?_
  refine lv_iconst (v := 1) hx hb dL_law_475 (by decide) ?_
  refine lv_iadd hx hb dL_law_476 ?_
  refine va_sld hx hb hX hbl hbA hS (sc_i h0 h5 hL (by omega) (by omega)) dL_law_477 ?_
  refine lv_aload_n hx hb dL_law_478 rfl (lv_at hl 0 rfl) ?_
  refine lv_iload_n hx hb dL_law_479 rfl (lv_at hl 3 rfl) ?_
  refine lv_iconst (v := 2) hx hb dL_law_480 (by decide) ?_
  refine lv_iadd hx hb dL_law_481 ?_
  refine va_sld hx hb hX hbl hbA hS (sc_i h0 h5 hL (by omega) (by omega)) dL_law_482 ?_
  refine runW_i (P := fun H => va_P D vwCl (cellR cI gR (m_R_span sR (xs (Int32.toNatClampNeg (i3 + 1))) (xs (Int32.toNatClampNeg (i3 + 2)))).2 vR) H) (va_runV (As := [.int (xs (Int32.toNatClampNeg (i3 + 1))), .int (xs (Int32.toNatClampNeg (i3 + 2)))]) (rest := [.int (m_T_span sT sM sB (xs (Int32.toNatClampNeg (i3 + 1))) (xs (Int32.toNatClampNeg (i3 + 2)))).1]) ⟨hx, hb, hml, hown, hts⟩ (K_R_span hgR sR vR (xs (Int32.toNatClampNeg (i3 + 1))) (xs (Int32.toNatClampNeg (i3 + 2))) oR) (cwV 2 hts gL_law_X5_span rfl rfl rfl (by decide +kernel) ⟨Nat.le_of_ble_eq_true rfl, Nat.le_of_ble_eq_true rfl⟩) (preV_of hE hA hS hPR (va_recv hE.1 hPR (ci := 5) (q0 := 0) rfl rfl)) rfl rfl hl.1 rfl (lv_room (Nat.le_of_ble_eq_true rfl)) dL_law_483 ⟨Nat.le_refl _, Nat.le_refl _⟩) hS (fun q h9 => wA.lo hgR q h9) (fun H locs hQ hk hS => ?_)
  have hPT := wKeep hPT (wOffL (gR := g) (g := gR) (c := 0) (n := 1) (x := 0) (y := 16) (fun i j hi hj e => hdis j i (by omega) hi e.symm) rfl) hk
  have hPM := wKeep hPM (wOffL (gR := g) (g := gR) (c := 1) (n := 5) (x := 0) (y := 16) (fun i j hi hj e => hdis j i (by omega) hi e.symm) rfl) hk
  have hPB := wKeep hPB (wOffL (gR := g) (g := gR) (c := 6) (n := 6) (x := 0) (y := 16) (fun i j hi hj e => hdis j i (by omega) hi e.symm) rfl) hk
  have hPL := wKeep hPL (wOffL (gR := g) (g := gR) (c := 12) (n := 5) (x := 0) (y := 16) (fun i j hi hj e => hdis j i (by omega) hi e.symm) rfl) hk
  have hPS := wKeep hPS (wOffL (gR := g) (g := gR) (c := 17) (n := 2) (x := 0) (y := 16) (fun i j hi hj e => hdis j i (by omega) hi e.symm) rfl) hk
  have hPR := hQ
  have hp9 := P_span hr9 (xs (Int32.toNatClampNeg (i3 + 1))) (xs (Int32.toNatClampNeg (i3 + 2)))
  refine lv_icmp_eq (tgt := 1215) hx hb dL_law_486 (by decide) (fun c => ?_) (fun c => absurd hp9.1 c)
  exact kk _ _ _ _ _ _ _ _ H locs ls hp9.2 ⟨hPT, hPM, hPB, hPL, hPS, hPR⟩ hS hl
set_option maxHeartbeats 4000000 in
set_option maxRecDepth 100000 in
theorem lc_11 {p : Program} {e : Env} {s : State} {m : MethodId} {below : List Frame} {meth : Method} {c : Code} {l : Launch} {b L : Nat} {xs : Nat → Int32} (hL : L ≤ 2560) (C0 : lw_At p s m meth c b L xs) {D : va_G} {cI : ClassId} (hE : EV D cI s.heap.size s s.heap) {g gR : Nat → Nat} (hg : wI g 0 19 s.heap.size) (hgR : wI gR 0 16 s.heap.size) (hdis : ∀ i j : Nat, i < 19 → j < 16 → g i ≠ gR j) {i3 : Int32} (h0 : 0 ≤ i3.toInt) (h5 : i3.toInt + 5 ≤ (L : Int)) {sT : St} {vT : Int64} {sM sB sL sS sR : St} {vR : Int64} (hr9 : Rel sT vT sM sB sL sS sR vR) {H : Heap} {locs : List Loc} {ls : Array Slot} (hW : Wd D cI g gR sT vT sM sB sL sS sR vR H) (hS : va_S (fun q : Nat => s.heap.size ≤ q) s.heap H locs) (hl : lv_has ls 4 [(0, .ref b), (1, .ref (g 0)), (2, .ref (gR 0)), (3, .int i3)]) (kk : (∀ (sT : St) (vT : Int64) (sM sB sL sS sR : St) (vR : Int64) (H : Heap) (locs : List Loc) (ls : Array Slot), Rel sT vT sM sB sL sS sR vR → Wd D cI g gR sT vT sM sB sL sS sR vR H → va_S (fun q : Nat => s.heap.size ≤ q) s.heap H locs → lv_has ls 4 [(0, .ref b), (1, .ref (g 0)), (2, .ref (gR 0)), (3, .int i3)] → W p l e room_1 s m #[Value.ref b] below meth c H locs 600000 7302250 (lw_Z below #[Value.ref b] s) (F0 m 1215 ls []))) : W p l e room_1 s m #[Value.ref b] below meth c H locs 600000 7302250 (lw_Z below #[Value.ref b] s) (F0 m 491 ls []) := by
  obtain ⟨hx, hb, hr, hml, hown, hts0, hX, hbl, hlocks, hgv⟩ := id C0
  have hts := hts0
  have hown : s.vm.findClass RL = some m.cls := hown
  have hbA : ¬ (fun q : Nat => s.heap.size ≤ q) b := Nat.not_le.mpr hbl
  have hA : ∀ q : Nat, (fun q : Nat => s.heap.size ≤ q) q → s.heap.size ≤ q := fun _ h => h
  have z1 := tl_1
  have z2 := tl_2
  have z3 := tl_3
  have z4 := tl_4
  have oL := Rel_okL hr9
  have oB := Rel_okB hr9
  have oR := hr9.1
  obtain ⟨hPT, hPM, hPB, hPL, hPS, hPR⟩ := hW
  refine lv_aload_n hx hb dL_law_491 rfl (lv_at hl 1 rfl) ?_
  refine runW_i (P := fun H => va_P D vwCl (cellT cI g sT vT) H ∧ va_P D vwCl (cellM cI g (m_T_next sT sM sB).2.1) H ∧ va_P D vwCl (cellB cI g (m_T_next sT sM sB).2.2) H ∧ va_P D vwCl (cellL cI g sL) H ∧ va_P D vwCl (cellS cI g sS) H) (va_runV (As := []) (rest := []) ⟨hx, hb, hml, hown, hts⟩ (K_T_next hg sT vT sM sB sL sS oB) (cwV 0 hts gL_law_X4_next rfl rfl rfl (by decide +kernel) ⟨Nat.le_of_ble_eq_true rfl, Nat.le_of_ble_eq_true rfl⟩) (preV_of hE hA hS ⟨hPT, hPM, hPB, hPL, hPS⟩ (va_recv hE.1 hPT (ci := 4) (q0 := 0) rfl rfl)) rfl rfl hl.1 rfl (lv_room (Nat.le_of_ble_eq_true rfl)) dL_law_492 ⟨Nat.le_refl _, Nat.le_refl _⟩) hS (fun q h9 => wA.lo hg q h9) (fun H locs hQ hk hS => ?_)
  have hPR := wKeep hPR (wOffL (c := 0) (n := 16) (x := 0) hdis rfl) hk
  obtain ⟨hPT, hPM, hPB, hPL, hPS⟩ := hQ
  refine lv_aload_n hx hb dL_law_495 rfl (lv_at hl 2 rfl) ?_
  refine runW_i (P := fun H => va_P D vwCl (cellR cI gR (m_R_next sR).2 vR) H) (va_runV (As := []) (rest := [.int (m_T_next sT sM sB).1]) ⟨hx, hb, hml, hown, hts⟩ (K_R_next hgR sR vR oR) (cwV 0 hts gL_law_X5_next rfl rfl rfl (by decide +kernel) ⟨Nat.le_of_ble_eq_true rfl, Nat.le_of_ble_eq_true rfl⟩) (preV_of hE hA hS hPR (va_recv hE.1 hPR (ci := 5) (q0 := 0) rfl rfl)) rfl rfl hl.1 rfl (lv_room (Nat.le_of_ble_eq_true rfl)) dL_law_496 ⟨Nat.le_refl _, Nat.le_refl _⟩) hS (fun q h9 => wA.lo hgR q h9) (fun H locs hQ hk hS => ?_)
  have hPT := wKeep hPT (wOffL (gR := g) (g := gR) (c := 0) (n := 1) (x := 0) (y := 16) (fun i j hi hj e => hdis j i (by omega) hi e.symm) rfl) hk
  have hPM := wKeep hPM (wOffL (gR := g) (g := gR) (c := 1) (n := 5) (x := 0) (y := 16) (fun i j hi hj e => hdis j i (by omega) hi e.symm) rfl) hk
  have hPB := wKeep hPB (wOffL (gR := g) (g := gR) (c := 6) (n := 6) (x := 0) (y := 16) (fun i j hi hj e => hdis j i (by omega) hi e.symm) rfl) hk
  have hPL := wKeep hPL (wOffL (gR := g) (g := gR) (c := 12) (n := 5) (x := 0) (y := 16) (fun i j hi hj e => hdis j i (by omega) hi e.symm) rfl) hk
  have hPS := wKeep hPS (wOffL (gR := g) (g := gR) (c := 17) (n := 2) (x := 0) (y := 16) (fun i j hi hj e => hdis j i (by omega) hi e.symm) rfl) hk
  have hPR := hQ
  have hp9 := P_next hr9
  refine lv_icmp_eq (tgt := 1215) hx hb dL_law_499 (by decide) (fun c => ?_) (fun c => absurd hp9.1 c)
  exact kk _ _ _ _ _ _ _ _ H locs ls hp9.2 ⟨hPT, hPM, hPB, hPL, hPS, hPR⟩ hS hl
set_option maxHeartbeats 4000000 in
set_option maxRecDepth 100000 in
theorem lc_12 {p : Program} {e : Env} {s : State} {m : MethodId} {below : List Frame} {meth : Method} {c : Code} {l : Launch} {b L : Nat} {xs : Nat → Int32} (hL : L ≤ 2560) (C0 : lw_At p s m meth c b L xs) {D : va_G} {cI : ClassId} (hE : EV D cI s.heap.size s s.heap) {g gR : Nat → Nat} (hg : wI g 0 19 s.heap.size) (hgR : wI gR 0 16 s.heap.size) (hdis : ∀ i j : Nat, i < 19 → j < 16 → g i ≠ gR j) {i3 : Int32} (h0 : 0 ≤ i3.toInt) (h5 : i3.toInt + 5 ≤ (L : Int)) {sT : St} {vT : Int64} {sM sB sL sS sR : St} {vR : Int64} (hr9 : Rel sT vT sM sB sL sS sR vR) {H : Heap} {locs : List Loc} {ls : Array Slot} (hW : Wd D cI g gR sT vT sM sB sL sS sR vR H) (hS : va_S (fun q : Nat => s.heap.size ≤ q) s.heap H locs) (hl : lv_has ls 4 [(0, .ref b), (1, .ref (g 0)), (2, .ref (gR 0)), (3, .int i3)]) (kk : (∀ (sT : St) (vT : Int64) (sM sB sL sS sR : St) (vR : Int64) (H : Heap) (locs : List Loc) (ls : Array Slot), Rel sT vT sM sB sL sS sR vR → Wd D cI g gR sT vT sM sB sL sS sR vR H → va_S (fun q : Nat => s.heap.size ≤ q) s.heap H locs → lv_has ls 4 [(0, .ref b), (1, .ref (g 0)), (2, .ref (gR 0)), (3, .int i3)] → W p l e room_1 s m #[Value.ref b] below meth c H locs 600000 7302250 (lw_Z below #[Value.ref b] s) (F0 m 1215 ls []))) : W p l e room_1 s m #[Value.ref b] below meth c H locs 600000 7302250 (lw_Z below #[Value.ref b] s) (F0 m 504 ls []) := by
  obtain ⟨hx, hb, hr, hml, hown, hts0, hX, hbl, hlocks, hgv⟩ := id C0
  have hts := hts0
  have hown : s.vm.findClass RL = some m.cls := hown
  have hbA : ¬ (fun q : Nat => s.heap.size ≤ q) b := Nat.not_le.mpr hbl
  have hA : ∀ q : Nat, (fun q : Nat => s.heap.size ≤ q) q → s.heap.size ≤ q := fun _ h => h
  have z1 := tl_1
  have z2 := tl_2
  have z3 := tl_3
  have z4 := tl_4
  have oL := Rel_okL hr9
  have oB := Rel_okB hr9
  have oR := hr9.1
  obtain ⟨hPT, hPM, hPB, hPL, hPS, hPR⟩ := hW
  refine lv_aload_n hx hb dL_law_504 rfl (lv_at hl 1 rfl) ?_
  refine lv_aload_n hx hb dL_law_505 rfl (lv_at hl 0 rfl) ?_
  refine lv_iload_n hx hb dL_law_506 rfl (lv_at hl 3 rfl) ?_
  refine lv_iconst (v := 1) hx hb dL_law_507 (by decide) ?_
  refine lv_iadd hx hb dL_law_508 ?_
  refine va_sld hx hb hX hbl hbA hS (sc_i h0 h5 hL (by omega) (by omega)) dL_law_509 ?_
  refine lv_aload_n hx hb dL_law_510 rfl (lv_at hl 0 rfl) ?_
  refine lv_iload_n hx hb dL_law_511 rfl (lv_at hl 3 rfl) ?_
  refine lv_iconst (v := 2) hx hb dL_law_512 (by decide) ?_
  refine lv_iadd hx hb dL_law_513 ?_
  refine va_sld hx hb hX hbl hbA hS (sc_i h0 h5 hL (by omega) (by omega)) dL_law_514 ?_
  refine runW_i (P := fun H => va_P D vwCl (cellT cI g sT vT) H ∧ va_P D vwCl (cellM cI g (m_T_surest sT sM sB (xs (Int32.toNatClampNeg (i3 + 1))) (xs (Int32.toNatClampNeg (i3 + 2)))).2.1) H ∧ va_P D vwCl (cellB cI g (m_T_surest sT sM sB (xs (Int32.toNatClampNeg (i3 + 1))) (xs (Int32.toNatClampNeg (i3 + 2)))).2.2) H ∧ va_P D vwCl (cellL cI g sL) H ∧ va_P D vwCl (cellS cI g sS) H) (va_runV (As := [.int (xs (Int32.toNatClampNeg (i3 + 1))), .int (xs (Int32.toNatClampNeg (i3 + 2)))]) (rest := []) ⟨hx, hb, hml, hown, hts⟩ (K_T_surest hg sT vT sM sB sL sS (xs (Int32.toNatClampNeg (i3 + 1))) (xs (Int32.toNatClampNeg (i3 + 2))) oB) (cwV 2 hts gL_law_X4_surest rfl rfl rfl (by decide +kernel) ⟨Nat.le_of_ble_eq_true rfl, Nat.le_of_ble_eq_true rfl⟩) (preV_of hE hA hS ⟨hPT, hPM, hPB, hPL, hPS⟩ (va_recv hE.1 hPT (ci := 4) (q0 := 0) rfl rfl)) rfl rfl hl.1 rfl (lv_room (Nat.le_of_ble_eq_true rfl)) dL_law_515 ⟨Nat.le_refl _, Nat.le_refl _⟩) hS (fun q h9 => wA.lo hg q h9) (fun H locs hQ hk hS => ?_)
  have hPR := wKeep hPR (wOffL (c := 0) (n := 16) (x := 0) hdis rfl) hk
  obtain ⟨hPT, hPM, hPB, hPL, hPS⟩ := hQ
  refine lv_aload_n hx hb dL_law_518 rfl (lv_at hl 2 rfl) ?_
  refine lv_aload_n hx hb dL_law_519 rfl (lv_at hl 0 rfl) ?_
  refine lv_iload_n hx hb dL_law_520 rfl (lv_at hl 3 rfl) ?_
  refine lv_iconst (v := 1) hx hb dL_law_521 (by decide) ?_
  refine lv_iadd hx hb dL_law_522 ?_
  refine va_sld hx hb hX hbl hbA hS (sc_i h0 h5 hL (by omega) (by omega)) dL_law_523 ?_
  refine lv_aload_n hx hb dL_law_524 rfl (lv_at hl 0 rfl) ?_
  refine lv_iload_n hx hb dL_law_525 rfl (lv_at hl 3 rfl) ?_
  refine lv_iconst (v := 2) hx hb dL_law_526 (by decide) ?_
  refine lv_iadd hx hb dL_law_527 ?_
  refine va_sld hx hb hX hbl hbA hS (sc_i h0 h5 hL (by omega) (by omega)) dL_law_528 ?_
  refine runW_i (P := fun H => va_P D vwCl (cellR cI gR (m_R_surest sR (xs (Int32.toNatClampNeg (i3 + 1))) (xs (Int32.toNatClampNeg (i3 + 2)))).2 vR) H) (va_runV (As := [.int (xs (Int32.toNatClampNeg (i3 + 1))), .int (xs (Int32.toNatClampNeg (i3 + 2)))]) (rest := [.int (m_T_surest sT sM sB (xs (Int32.toNatClampNeg (i3 + 1))) (xs (Int32.toNatClampNeg (i3 + 2)))).1]) ⟨hx, hb, hml, hown, hts⟩ (K_R_surest hgR sR vR (xs (Int32.toNatClampNeg (i3 + 1))) (xs (Int32.toNatClampNeg (i3 + 2))) oR) (cwV 2 hts gL_law_X5_surest rfl rfl rfl (by decide +kernel) ⟨Nat.le_of_ble_eq_true rfl, Nat.le_of_ble_eq_true rfl⟩) (preV_of hE hA hS hPR (va_recv hE.1 hPR (ci := 5) (q0 := 0) rfl rfl)) rfl rfl hl.1 rfl (lv_room (Nat.le_of_ble_eq_true rfl)) dL_law_529 ⟨Nat.le_refl _, Nat.le_refl _⟩) hS (fun q h9 => wA.lo hgR q h9) (fun H locs hQ hk hS => ?_)
  have hPT := wKeep hPT (wOffL (gR := g) (g := gR) (c := 0) (n := 1) (x := 0) (y := 16) (fun i j hi hj e => hdis j i (by omega) hi e.symm) rfl) hk
  have hPM := wKeep hPM (wOffL (gR := g) (g := gR) (c := 1) (n := 5) (x := 0) (y := 16) (fun i j hi hj e => hdis j i (by omega) hi e.symm) rfl) hk
  have hPB := wKeep hPB (wOffL (gR := g) (g := gR) (c := 6) (n := 6) (x := 0) (y := 16) (fun i j hi hj e => hdis j i (by omega) hi e.symm) rfl) hk
  have hPL := wKeep hPL (wOffL (gR := g) (g := gR) (c := 12) (n := 5) (x := 0) (y := 16) (fun i j hi hj e => hdis j i (by omega) hi e.symm) rfl) hk
  have hPS := wKeep hPS (wOffL (gR := g) (g := gR) (c := 17) (n := 2) (x := 0) (y := 16) (fun i j hi hj e => hdis j i (by omega) hi e.symm) rfl) hk
  have hPR := hQ
  have hp9 := P_surest hr9 (xs (Int32.toNatClampNeg (i3 + 1))) (xs (Int32.toNatClampNeg (i3 + 2)))
  refine lv_icmp_eq (tgt := 1215) hx hb dL_law_532 (by decide) (fun c => ?_) (fun c => absurd hp9.1 c)
  exact kk _ _ _ _ _ _ _ _ H locs ls hp9.2 ⟨hPT, hPM, hPB, hPL, hPS, hPR⟩ hS hl
set_option maxHeartbeats 4000000 in
set_option maxRecDepth 100000 in
theorem lc_13 {p : Program} {e : Env} {s : State} {m : MethodId} {below : List Frame} {meth : Method} {c : Code} {l : Launch} {b L : Nat} {xs : Nat → Int32} (hL : L ≤ 2560) (C0 : lw_At p s m meth c b L xs) {D : va_G} {cI : ClassId} (hE : EV D cI s.heap.size s s.heap) {g gR : Nat → Nat} (hg : wI g 0 19 s.heap.size) (hgR : wI gR 0 16 s.heap.size) (hdis : ∀ i j : Nat, i < 19 → j < 16 → g i ≠ gR j) {i3 : Int32} (h0 : 0 ≤ i3.toInt) (h5 : i3.toInt + 5 ≤ (L : Int)) {sT : St} {vT : Int64} {sM sB sL sS sR : St} {vR : Int64} (hr9 : Rel sT vT sM sB sL sS sR vR) {H : Heap} {locs : List Loc} {ls : Array Slot} (hW : Wd D cI g gR sT vT sM sB sL sS sR vR H) (hS : va_S (fun q : Nat => s.heap.size ≤ q) s.heap H locs) (hl : lv_has ls 4 [(0, .ref b), (1, .ref (g 0)), (2, .ref (gR 0)), (3, .int i3)]) (kk : (∀ (sT : St) (vT : Int64) (sM sB sL sS sR : St) (vR : Int64) (H : Heap) (locs : List Loc) (ls : Array Slot), Rel sT vT sM sB sL sS sR vR → Wd D cI g gR sT vT sM sB sL sS sR vR H → va_S (fun q : Nat => s.heap.size ≤ q) s.heap H locs → lv_has ls 4 [(0, .ref b), (1, .ref (g 0)), (2, .ref (gR 0)), (3, .int i3)] → W p l e room_1 s m #[Value.ref b] below meth c H locs 600000 7302250 (lw_Z below #[Value.ref b] s) (F0 m 1215 ls []))) : W p l e room_1 s m #[Value.ref b] below meth c H locs 600000 7302250 (lw_Z below #[Value.ref b] s) (F0 m 537 ls []) := by
  obtain ⟨hx, hb, hr, hml, hown, hts0, hX, hbl, hlocks, hgv⟩ := id C0
  have hts := hts0
  have hown : s.vm.findClass RL = some m.cls := hown
  have hbA : ¬ (fun q : Nat => s.heap.size ≤ q) b := Nat.not_le.mpr hbl
  have hA : ∀ q : Nat, (fun q : Nat => s.heap.size ≤ q) q → s.heap.size ≤ q := fun _ h => h
  have z1 := tl_1
  have z2 := tl_2
  have z3 := tl_3
  have z4 := tl_4
  have oL := Rel_okL hr9
  have oB := Rel_okB hr9
  have oR := hr9.1
  obtain ⟨hPT, hPM, hPB, hPL, hPS, hPR⟩ := hW
  refine lv_aload_n hx hb dL_law_537 rfl (lv_at hl 1 rfl) ?_
  refine lv_aload_n hx hb dL_law_538 rfl (lv_at hl 0 rfl) ?_
  refine lv_iload_n hx hb dL_law_539 rfl (lv_at hl 3 rfl) ?_
  refine lv_iconst (v := 1) hx hb dL_law_540 (by decide) ?_
  refine lv_iadd hx hb dL_law_541 ?_
  refine va_sld hx hb hX hbl hbA hS (sc_i h0 h5 hL (by omega) (by omega)) dL_law_542 ?_
  refine lv_aload_n hx hb dL_law_543 rfl (lv_at hl 0 rfl) ?_
  refine lv_iload_n hx hb dL_law_544 rfl (lv_at hl 3 rfl) ?_
  refine lv_iconst (v := 2) hx hb dL_law_545 (by decide) ?_
  refine lv_iadd hx hb dL_law_546 ?_
  refine va_sld hx hb hX hbl hbA hS (sc_i h0 h5 hL (by omega) (by omega)) dL_law_547 ?_
  refine runW_i (P := fun H => va_P D vwCl (cellT cI g sT vT) H ∧ va_P D vwCl (cellM cI g sM) H ∧ va_P D vwCl (cellB cI g sB) H ∧ va_P D vwCl (cellL cI g (m_T_wall sT sL (xs (Int32.toNatClampNeg (i3 + 1))) (xs (Int32.toNatClampNeg (i3 + 2)))).2) H ∧ va_P D vwCl (cellS cI g sS) H) (va_runV (As := [.int (xs (Int32.toNatClampNeg (i3 + 1))), .int (xs (Int32.toNatClampNeg (i3 + 2)))]) (rest := []) ⟨hx, hb, hml, hown, hts⟩ (K_T_wall hg sT vT sM sB sL sS (xs (Int32.toNatClampNeg (i3 + 1))) (xs (Int32.toNatClampNeg (i3 + 2)))) (cwV 2 hts gL_law_X4_wall rfl rfl rfl (by decide +kernel) ⟨Nat.le_of_ble_eq_true rfl, Nat.le_of_ble_eq_true rfl⟩) (preV_of hE hA hS ⟨hPT, hPM, hPB, hPL, hPS⟩ (va_recv hE.1 hPT (ci := 4) (q0 := 0) rfl rfl)) rfl rfl hl.1 rfl (lv_room (Nat.le_of_ble_eq_true rfl)) dL_law_548 ⟨Nat.le_refl _, Nat.le_refl _⟩) hS (fun q h9 => wA.lo hg q h9) (fun H locs hQ hk hS => ?_)
  have hPR := wKeep hPR (wOffL (c := 0) (n := 16) (x := 0) hdis rfl) hk
  obtain ⟨hPT, hPM, hPB, hPL, hPS⟩ := hQ
  refine lv_aload_n hx hb dL_law_551 rfl (lv_at hl 2 rfl) ?_
  refine lv_aload_n hx hb dL_law_552 rfl (lv_at hl 0 rfl) ?_
  refine lv_iload_n hx hb dL_law_553 rfl (lv_at hl 3 rfl) ?_
  refine lv_iconst (v := 1) hx hb dL_law_554 (by decide) ?_
  refine lv_iadd hx hb dL_law_555 ?_
  refine va_sld hx hb hX hbl hbA hS (sc_i h0 h5 hL (by omega) (by omega)) dL_law_556 ?_
  refine lv_aload_n hx hb dL_law_557 rfl (lv_at hl 0 rfl) ?_
  refine lv_iload_n hx hb dL_law_558 rfl (lv_at hl 3 rfl) ?_
  refine lv_iconst (v := 2) hx hb dL_law_559 (by decide) ?_
  refine lv_iadd hx hb dL_law_560 ?_
  refine va_sld hx hb hX hbl hbA hS (sc_i h0 h5 hL (by omega) (by omega)) dL_law_561 ?_
  refine runW_i (P := fun H => va_P D vwCl (cellR cI gR (m_R_wall sR (xs (Int32.toNatClampNeg (i3 + 1))) (xs (Int32.toNatClampNeg (i3 + 2)))).2 vR) H) (va_runV (As := [.int (xs (Int32.toNatClampNeg (i3 + 1))), .int (xs (Int32.toNatClampNeg (i3 + 2)))]) (rest := [.int (m_T_wall sT sL (xs (Int32.toNatClampNeg (i3 + 1))) (xs (Int32.toNatClampNeg (i3 + 2)))).1]) ⟨hx, hb, hml, hown, hts⟩ (K_R_wall hgR sR vR (xs (Int32.toNatClampNeg (i3 + 1))) (xs (Int32.toNatClampNeg (i3 + 2)))) (cwV 2 hts gL_law_X5_wall rfl rfl rfl (by decide +kernel) ⟨Nat.le_of_ble_eq_true rfl, Nat.le_of_ble_eq_true rfl⟩) (preV_of hE hA hS hPR (va_recv hE.1 hPR (ci := 5) (q0 := 0) rfl rfl)) rfl rfl hl.1 rfl (lv_room (Nat.le_of_ble_eq_true rfl)) dL_law_562 ⟨Nat.le_refl _, Nat.le_refl _⟩) hS (fun q h9 => wA.lo hgR q h9) (fun H locs hQ hk hS => ?_)
  have hPT := wKeep hPT (wOffL (gR := g) (g := gR) (c := 0) (n := 1) (x := 0) (y := 16) (fun i j hi hj e => hdis j i (by omega) hi e.symm) rfl) hk
  have hPM := wKeep hPM (wOffL (gR := g) (g := gR) (c := 1) (n := 5) (x := 0) (y := 16) (fun i j hi hj e => hdis j i (by omega) hi e.symm) rfl) hk
  have hPB := wKeep hPB (wOffL (gR := g) (g := gR) (c := 6) (n := 6) (x := 0) (y := 16) (fun i j hi hj e => hdis j i (by omega) hi e.symm) rfl) hk
  have hPL := wKeep hPL (wOffL (gR := g) (g := gR) (c := 12) (n := 5) (x := 0) (y := 16) (fun i j hi hj e => hdis j i (by omega) hi e.symm) rfl) hk
  have hPS := wKeep hPS (wOffL (gR := g) (g := gR) (c := 17) (n := 2) (x := 0) (y := 16) (fun i j hi hj e => hdis j i (by omega) hi e.symm) rfl) hk
  have hPR := hQ
  have hp9 := P_wall hr9 (xs (Int32.toNatClampNeg (i3 + 1))) (xs (Int32.toNatClampNeg (i3 + 2)))
  refine lv_icmp_eq (tgt := 1215) hx hb dL_law_565 (by decide) (fun c => ?_) (fun c => absurd hp9.1 c)
  exact kk _ _ _ _ _ _ _ _ H locs ls hp9.2 ⟨hPT, hPM, hPB, hPL, hPS, hPR⟩ hS hl
set_option maxHeartbeats 4000000 in
set_option maxRecDepth 100000 in
theorem lc_14 {p : Program} {e : Env} {s : State} {m : MethodId} {below : List Frame} {meth : Method} {c : Code} {l : Launch} {b L : Nat} {xs : Nat → Int32} (hL : L ≤ 2560) (C0 : lw_At p s m meth c b L xs) {D : va_G} {cI : ClassId} (hE : EV D cI s.heap.size s s.heap) {g gR : Nat → Nat} (hg : wI g 0 19 s.heap.size) (hgR : wI gR 0 16 s.heap.size) (hdis : ∀ i j : Nat, i < 19 → j < 16 → g i ≠ gR j) {i3 : Int32} (h0 : 0 ≤ i3.toInt) (h5 : i3.toInt + 5 ≤ (L : Int)) {sT : St} {vT : Int64} {sM sB sL sS sR : St} {vR : Int64} (hr9 : Rel sT vT sM sB sL sS sR vR) {H : Heap} {locs : List Loc} {ls : Array Slot} (hW : Wd D cI g gR sT vT sM sB sL sS sR vR H) (hS : va_S (fun q : Nat => s.heap.size ≤ q) s.heap H locs) (hl : lv_has ls 4 [(0, .ref b), (1, .ref (g 0)), (2, .ref (gR 0)), (3, .int i3)]) (kk : (∀ (sT : St) (vT : Int64) (sM sB sL sS sR : St) (vR : Int64) (H : Heap) (locs : List Loc) (ls : Array Slot), Rel sT vT sM sB sL sS sR vR → Wd D cI g gR sT vT sM sB sL sS sR vR H → va_S (fun q : Nat => s.heap.size ≤ q) s.heap H locs → lv_has ls 4 [(0, .ref b), (1, .ref (g 0)), (2, .ref (gR 0)), (3, .int i3)] → W p l e room_1 s m #[Value.ref b] below meth c H locs 600000 7302250 (lw_Z below #[Value.ref b] s) (F0 m 1215 ls []))) : W p l e room_1 s m #[Value.ref b] below meth c H locs 600000 7302250 (lw_Z below #[Value.ref b] s) (F0 m 570 ls []) := by
  obtain ⟨hx, hb, hr, hml, hown, hts0, hX, hbl, hlocks, hgv⟩ := id C0
  have hts := hts0
  have hown : s.vm.findClass RL = some m.cls := hown
  have hbA : ¬ (fun q : Nat => s.heap.size ≤ q) b := Nat.not_le.mpr hbl
  have hA : ∀ q : Nat, (fun q : Nat => s.heap.size ≤ q) q → s.heap.size ≤ q := fun _ h => h
  have z1 := tl_1
  have z2 := tl_2
  have z3 := tl_3
  have z4 := tl_4
  have oL := Rel_okL hr9
  have oB := Rel_okB hr9
  have oR := hr9.1
  obtain ⟨hPT, hPM, hPB, hPL, hPS, hPR⟩ := hW
  refine lv_aload_n hx hb dL_law_570 rfl (lv_at hl 1 rfl) ?_
  refine lv_aload_n hx hb dL_law_571 rfl (lv_at hl 0 rfl) ?_
  refine lv_iload_n hx hb dL_law_572 rfl (lv_at hl 3 rfl) ?_
  refine lv_iconst (v := 1) hx hb dL_law_573 (by decide) ?_
  refine lv_iadd hx hb dL_law_574 ?_
  refine va_sld hx hb hX hbl hbA hS (sc_i h0 h5 hL (by omega) (by omega)) dL_law_575 ?_
  refine lv_aload_n hx hb dL_law_576 rfl (lv_at hl 0 rfl) ?_
  refine lv_iload_n hx hb dL_law_577 rfl (lv_at hl 3 rfl) ?_
  refine lv_iconst (v := 2) hx hb dL_law_578 (by decide) ?_
  refine lv_iadd hx hb dL_law_579 ?_
  refine va_sld hx hb hX hbl hbA hS (sc_i h0 h5 hL (by omega) (by omega)) dL_law_580 ?_
  refine lv_aload_n hx hb dL_law_581 rfl (lv_at hl 0 rfl) ?_
  refine lv_iload_n hx hb dL_law_582 rfl (lv_at hl 3 rfl) ?_
  refine lv_iconst (v := 3) hx hb dL_law_583 (by decide) ?_
  refine lv_iadd hx hb dL_law_584 ?_
  refine va_sld hx hb hX hbl hbA hS (sc_i h0 h5 hL (by omega) (by omega)) dL_law_585 ?_
  refine runW_i (P := fun H => va_P D vwCl (cellT cI g sT vT) H ∧ va_P D vwCl (cellM cI g sM) H ∧ va_P D vwCl (cellB cI g sB) H ∧ va_P D vwCl (cellL cI g (m_T_strength sT sL (xs (Int32.toNatClampNeg (i3 + 1))) (xs (Int32.toNatClampNeg (i3 + 2))) (xs (Int32.toNatClampNeg (i3 + 3)))).2) H ∧ va_P D vwCl (cellS cI g sS) H) (va_runV (As := [.int (xs (Int32.toNatClampNeg (i3 + 1))), .int (xs (Int32.toNatClampNeg (i3 + 2))), .int (xs (Int32.toNatClampNeg (i3 + 3)))]) (rest := []) ⟨hx, hb, hml, hown, hts⟩ (K_T_strength hg sT vT sM sB sL sS (xs (Int32.toNatClampNeg (i3 + 1))) (xs (Int32.toNatClampNeg (i3 + 2))) (xs (Int32.toNatClampNeg (i3 + 3))) oL) (cwV 3 hts gL_law_X4_strength rfl rfl rfl (by decide +kernel) ⟨Nat.le_of_ble_eq_true rfl, Nat.le_of_ble_eq_true rfl⟩) (preV_of hE hA hS ⟨hPT, hPM, hPB, hPL, hPS⟩ (va_recv hE.1 hPT (ci := 4) (q0 := 0) rfl rfl)) rfl rfl hl.1 rfl (lv_room (Nat.le_of_ble_eq_true rfl)) dL_law_586 ⟨Nat.le_refl _, Nat.le_refl _⟩) hS (fun q h9 => wA.lo hg q h9) (fun H locs hQ hk hS => ?_)
  have hPR := wKeep hPR (wOffL (c := 0) (n := 16) (x := 0) hdis rfl) hk
  obtain ⟨hPT, hPM, hPB, hPL, hPS⟩ := hQ
  refine lv_aload_n hx hb dL_law_589 rfl (lv_at hl 2 rfl) ?_
  refine lv_aload_n hx hb dL_law_590 rfl (lv_at hl 0 rfl) ?_
  refine lv_iload_n hx hb dL_law_591 rfl (lv_at hl 3 rfl) ?_
  refine lv_iconst (v := 1) hx hb dL_law_592 (by decide) ?_
  refine lv_iadd hx hb dL_law_593 ?_
  refine va_sld hx hb hX hbl hbA hS (sc_i h0 h5 hL (by omega) (by omega)) dL_law_594 ?_
  refine lv_aload_n hx hb dL_law_595 rfl (lv_at hl 0 rfl) ?_
  refine lv_iload_n hx hb dL_law_596 rfl (lv_at hl 3 rfl) ?_
  refine lv_iconst (v := 2) hx hb dL_law_597 (by decide) ?_
  refine lv_iadd hx hb dL_law_598 ?_
  refine va_sld hx hb hX hbl hbA hS (sc_i h0 h5 hL (by omega) (by omega)) dL_law_599 ?_
  refine lv_aload_n hx hb dL_law_600 rfl (lv_at hl 0 rfl) ?_
  refine lv_iload_n hx hb dL_law_601 rfl (lv_at hl 3 rfl) ?_
  refine lv_iconst (v := 3) hx hb dL_law_602 (by decide) ?_
  refine lv_iadd hx hb dL_law_603 ?_
  refine va_sld hx hb hX hbl hbA hS (sc_i h0 h5 hL (by omega) (by omega)) dL_law_604 ?_
  refine runW_i (P := fun H => va_P D vwCl (cellR cI gR (m_R_strength sR (xs (Int32.toNatClampNeg (i3 + 1))) (xs (Int32.toNatClampNeg (i3 + 2))) (xs (Int32.toNatClampNeg (i3 + 3)))).2 vR) H) (va_runV (As := [.int (xs (Int32.toNatClampNeg (i3 + 1))), .int (xs (Int32.toNatClampNeg (i3 + 2))), .int (xs (Int32.toNatClampNeg (i3 + 3)))]) (rest := [.int (m_T_strength sT sL (xs (Int32.toNatClampNeg (i3 + 1))) (xs (Int32.toNatClampNeg (i3 + 2))) (xs (Int32.toNatClampNeg (i3 + 3)))).1]) ⟨hx, hb, hml, hown, hts⟩ (K_R_strength hgR sR vR (xs (Int32.toNatClampNeg (i3 + 1))) (xs (Int32.toNatClampNeg (i3 + 2))) (xs (Int32.toNatClampNeg (i3 + 3))) oR) (cwV 3 hts gL_law_X5_strength rfl rfl rfl (by decide +kernel) ⟨Nat.le_of_ble_eq_true rfl, Nat.le_of_ble_eq_true rfl⟩) (preV_of hE hA hS hPR (va_recv hE.1 hPR (ci := 5) (q0 := 0) rfl rfl)) rfl rfl hl.1 rfl (lv_room (Nat.le_of_ble_eq_true rfl)) dL_law_605 ⟨Nat.le_refl _, Nat.le_refl _⟩) hS (fun q h9 => wA.lo hgR q h9) (fun H locs hQ hk hS => ?_)
  have hPT := wKeep hPT (wOffL (gR := g) (g := gR) (c := 0) (n := 1) (x := 0) (y := 16) (fun i j hi hj e => hdis j i (by omega) hi e.symm) rfl) hk
  have hPM := wKeep hPM (wOffL (gR := g) (g := gR) (c := 1) (n := 5) (x := 0) (y := 16) (fun i j hi hj e => hdis j i (by omega) hi e.symm) rfl) hk
  have hPB := wKeep hPB (wOffL (gR := g) (g := gR) (c := 6) (n := 6) (x := 0) (y := 16) (fun i j hi hj e => hdis j i (by omega) hi e.symm) rfl) hk
  have hPL := wKeep hPL (wOffL (gR := g) (g := gR) (c := 12) (n := 5) (x := 0) (y := 16) (fun i j hi hj e => hdis j i (by omega) hi e.symm) rfl) hk
  have hPS := wKeep hPS (wOffL (gR := g) (g := gR) (c := 17) (n := 2) (x := 0) (y := 16) (fun i j hi hj e => hdis j i (by omega) hi e.symm) rfl) hk
  have hPR := hQ
  have hp9 := P_strength hr9 (xs (Int32.toNatClampNeg (i3 + 1))) (xs (Int32.toNatClampNeg (i3 + 2))) (xs (Int32.toNatClampNeg (i3 + 3)))
  refine lv_icmp_eq (tgt := 1215) hx hb dL_law_608 (by decide) (fun c => ?_) (fun c => absurd hp9.1 c)
  exact kk _ _ _ _ _ _ _ _ H locs ls hp9.2 ⟨hPT, hPM, hPB, hPL, hPS, hPR⟩ hS hl
set_option maxHeartbeats 4000000 in
set_option maxRecDepth 100000 in
theorem lc_15 {p : Program} {e : Env} {s : State} {m : MethodId} {below : List Frame} {meth : Method} {c : Code} {l : Launch} {b L : Nat} {xs : Nat → Int32} (hL : L ≤ 2560) (C0 : lw_At p s m meth c b L xs) {D : va_G} {cI : ClassId} (hE : EV D cI s.heap.size s s.heap) {g gR : Nat → Nat} (hg : wI g 0 19 s.heap.size) (hgR : wI gR 0 16 s.heap.size) (hdis : ∀ i j : Nat, i < 19 → j < 16 → g i ≠ gR j) {i3 : Int32} (h0 : 0 ≤ i3.toInt) (h5 : i3.toInt + 5 ≤ (L : Int)) {sT : St} {vT : Int64} {sM sB sL sS sR : St} {vR : Int64} (hr9 : Rel sT vT sM sB sL sS sR vR) {H : Heap} {locs : List Loc} {ls : Array Slot} (hW : Wd D cI g gR sT vT sM sB sL sS sR vR H) (hS : va_S (fun q : Nat => s.heap.size ≤ q) s.heap H locs) (hl : lv_has ls 4 [(0, .ref b), (1, .ref (g 0)), (2, .ref (gR 0)), (3, .int i3)]) (kk : (∀ (sT : St) (vT : Int64) (sM sB sL sS sR : St) (vR : Int64) (H : Heap) (locs : List Loc) (ls : Array Slot), Rel sT vT sM sB sL sS sR vR → Wd D cI g gR sT vT sM sB sL sS sR vR H → va_S (fun q : Nat => s.heap.size ≤ q) s.heap H locs → lv_has ls 4 [(0, .ref b), (1, .ref (g 0)), (2, .ref (gR 0)), (3, .int i3)] → W p l e room_1 s m #[Value.ref b] below meth c H locs 600000 7302250 (lw_Z below #[Value.ref b] s) (F0 m 1215 ls []))) : W p l e room_1 s m #[Value.ref b] below meth c H locs 600000 7302250 (lw_Z below #[Value.ref b] s) (F0 m 613 ls []) := by
  obtain ⟨hx, hb, hr, hml, hown, hts0, hX, hbl, hlocks, hgv⟩ := id C0
  have hts := hts0
  have hown : s.vm.findClass RL = some m.cls := hown
  have hbA : ¬ (fun q : Nat => s.heap.size ≤ q) b := Nat.not_le.mpr hbl
  have hA : ∀ q : Nat, (fun q : Nat => s.heap.size ≤ q) q → s.heap.size ≤ q := fun _ h => h
  have z1 := tl_1
  have z2 := tl_2
  have z3 := tl_3
  have z4 := tl_4
  have oL := Rel_okL hr9
  have oB := Rel_okB hr9
  have oR := hr9.1
  obtain ⟨hPT, hPM, hPB, hPL, hPS, hPR⟩ := hW
  refine lv_aload_n hx hb dL_law_613 rfl (lv_at hl 1 rfl) ?_
  refine lv_aload_n hx hb dL_law_614 rfl (lv_at hl 0 rfl) ?_
  refine lv_iload_n hx hb dL_law_615 rfl (lv_at hl 3 rfl) ?_
  refine lv_iconst (v := 1) hx hb dL_law_616 (by decide) ?_
  refine lv_iadd hx hb dL_law_617 ?_
  refine va_sld hx hb hX hbl hbA hS (sc_i h0 h5 hL (by omega) (by omega)) dL_law_618 ?_
  refine lv_aload_n hx hb dL_law_619 rfl (lv_at hl 0 rfl) ?_
  refine lv_iload_n hx hb dL_law_620 rfl (lv_at hl 3 rfl) ?_
  refine lv_iconst (v := 2) hx hb dL_law_621 (by decide) ?_
  refine lv_iadd hx hb dL_law_622 ?_
  refine va_sld hx hb hX hbl hbA hS (sc_i h0 h5 hL (by omega) (by omega)) dL_law_623 ?_
  refine runW_i (P := fun H => va_P D vwCl (cellT cI g sT vT) H ∧ va_P D vwCl (cellM cI g sM) H ∧ va_P D vwCl (cellB cI g sB) H ∧ va_P D vwCl (cellL cI g (m_T_prop sT sL (xs (Int32.toNatClampNeg (i3 + 1))) (xs (Int32.toNatClampNeg (i3 + 2)))).2) H ∧ va_P D vwCl (cellS cI g sS) H) (va_runV (As := [.int (xs (Int32.toNatClampNeg (i3 + 1))), .int (xs (Int32.toNatClampNeg (i3 + 2)))]) (rest := []) ⟨hx, hb, hml, hown, hts⟩ (K_T_prop hg sT vT sM sB sL sS (xs (Int32.toNatClampNeg (i3 + 1))) (xs (Int32.toNatClampNeg (i3 + 2))) oL) (cwV 2 hts gL_law_X4_prop rfl rfl rfl (by decide +kernel) ⟨Nat.le_of_ble_eq_true rfl, Nat.le_of_ble_eq_true rfl⟩) (preV_of hE hA hS ⟨hPT, hPM, hPB, hPL, hPS⟩ (va_recv hE.1 hPT (ci := 4) (q0 := 0) rfl rfl)) rfl rfl hl.1 rfl (lv_room (Nat.le_of_ble_eq_true rfl)) dL_law_624 ⟨Nat.le_refl _, Nat.le_refl _⟩) hS (fun q h9 => wA.lo hg q h9) (fun H locs hQ hk hS => ?_)
  have hPR := wKeep hPR (wOffL (c := 0) (n := 16) (x := 0) hdis rfl) hk
  obtain ⟨hPT, hPM, hPB, hPL, hPS⟩ := hQ
  refine lv_aload_n hx hb dL_law_627 rfl (lv_at hl 2 rfl) ?_
  refine lv_aload_n hx hb dL_law_628 rfl (lv_at hl 0 rfl) ?_
  refine lv_iload_n hx hb dL_law_629 rfl (lv_at hl 3 rfl) ?_
  refine lv_iconst (v := 1) hx hb dL_law_630 (by decide) ?_
  refine lv_iadd hx hb dL_law_631 ?_
  refine va_sld hx hb hX hbl hbA hS (sc_i h0 h5 hL (by omega) (by omega)) dL_law_632 ?_
  refine lv_aload_n hx hb dL_law_633 rfl (lv_at hl 0 rfl) ?_
  refine lv_iload_n hx hb dL_law_634 rfl (lv_at hl 3 rfl) ?_
  refine lv_iconst (v := 2) hx hb dL_law_635 (by decide) ?_
  refine lv_iadd hx hb dL_law_636 ?_
  refine va_sld hx hb hX hbl hbA hS (sc_i h0 h5 hL (by omega) (by omega)) dL_law_637 ?_
  refine runW_i (P := fun H => va_P D vwCl (cellR cI gR (m_R_prop sR (xs (Int32.toNatClampNeg (i3 + 1))) (xs (Int32.toNatClampNeg (i3 + 2)))).2 vR) H) (va_runV (As := [.int (xs (Int32.toNatClampNeg (i3 + 1))), .int (xs (Int32.toNatClampNeg (i3 + 2)))]) (rest := [.int (m_T_prop sT sL (xs (Int32.toNatClampNeg (i3 + 1))) (xs (Int32.toNatClampNeg (i3 + 2)))).1]) ⟨hx, hb, hml, hown, hts⟩ (K_R_prop hgR sR vR (xs (Int32.toNatClampNeg (i3 + 1))) (xs (Int32.toNatClampNeg (i3 + 2))) oR) (cwV 2 hts gL_law_X5_prop rfl rfl rfl (by decide +kernel) ⟨Nat.le_of_ble_eq_true rfl, Nat.le_of_ble_eq_true rfl⟩) (preV_of hE hA hS hPR (va_recv hE.1 hPR (ci := 5) (q0 := 0) rfl rfl)) rfl rfl hl.1 rfl (lv_room (Nat.le_of_ble_eq_true rfl)) dL_law_638 ⟨Nat.le_refl _, Nat.le_refl _⟩) hS (fun q h9 => wA.lo hgR q h9) (fun H locs hQ hk hS => ?_)
  have hPT := wKeep hPT (wOffL (gR := g) (g := gR) (c := 0) (n := 1) (x := 0) (y := 16) (fun i j hi hj e => hdis j i (by omega) hi e.symm) rfl) hk
  have hPM := wKeep hPM (wOffL (gR := g) (g := gR) (c := 1) (n := 5) (x := 0) (y := 16) (fun i j hi hj e => hdis j i (by omega) hi e.symm) rfl) hk
  have hPB := wKeep hPB (wOffL (gR := g) (g := gR) (c := 6) (n := 6) (x := 0) (y := 16) (fun i j hi hj e => hdis j i (by omega) hi e.symm) rfl) hk
  have hPL := wKeep hPL (wOffL (gR := g) (g := gR) (c := 12) (n := 5) (x := 0) (y := 16) (fun i j hi hj e => hdis j i (by omega) hi e.symm) rfl) hk
  have hPS := wKeep hPS (wOffL (gR := g) (g := gR) (c := 17) (n := 2) (x := 0) (y := 16) (fun i j hi hj e => hdis j i (by omega) hi e.symm) rfl) hk
  have hPR := hQ
  have hp9 := P_prop hr9 (xs (Int32.toNatClampNeg (i3 + 1))) (xs (Int32.toNatClampNeg (i3 + 2)))
  refine lv_icmp_eq (tgt := 1215) hx hb dL_law_641 (by decide) (fun c => ?_) (fun c => absurd hp9.1 c)
  exact kk _ _ _ _ _ _ _ _ H locs ls hp9.2 ⟨hPT, hPM, hPB, hPL, hPS, hPR⟩ hS hl
set_option maxHeartbeats 4000000 in
set_option maxRecDepth 100000 in
theorem lc_16 {p : Program} {e : Env} {s : State} {m : MethodId} {below : List Frame} {meth : Method} {c : Code} {l : Launch} {b L : Nat} {xs : Nat → Int32} (hL : L ≤ 2560) (C0 : lw_At p s m meth c b L xs) {D : va_G} {cI : ClassId} (hE : EV D cI s.heap.size s s.heap) {g gR : Nat → Nat} (hg : wI g 0 19 s.heap.size) (hgR : wI gR 0 16 s.heap.size) (hdis : ∀ i j : Nat, i < 19 → j < 16 → g i ≠ gR j) {i3 : Int32} (h0 : 0 ≤ i3.toInt) (h5 : i3.toInt + 5 ≤ (L : Int)) {sT : St} {vT : Int64} {sM sB sL sS sR : St} {vR : Int64} (hr9 : Rel sT vT sM sB sL sS sR vR) {H : Heap} {locs : List Loc} {ls : Array Slot} (hW : Wd D cI g gR sT vT sM sB sL sS sR vR H) (hS : va_S (fun q : Nat => s.heap.size ≤ q) s.heap H locs) (hl : lv_has ls 4 [(0, .ref b), (1, .ref (g 0)), (2, .ref (gR 0)), (3, .int i3)]) (kk : (∀ (sT : St) (vT : Int64) (sM sB sL sS sR : St) (vR : Int64) (H : Heap) (locs : List Loc) (ls : Array Slot), Rel sT vT sM sB sL sS sR vR → Wd D cI g gR sT vT sM sB sL sS sR vR H → va_S (fun q : Nat => s.heap.size ≤ q) s.heap H locs → lv_has ls 4 [(0, .ref b), (1, .ref (g 0)), (2, .ref (gR 0)), (3, .int i3)] → W p l e room_1 s m #[Value.ref b] below meth c H locs 600000 7302250 (lw_Z below #[Value.ref b] s) (F0 m 1215 ls []))) : W p l e room_1 s m #[Value.ref b] below meth c H locs 600000 7302250 (lw_Z below #[Value.ref b] s) (F0 m 646 ls []) := by
  obtain ⟨hx, hb, hr, hml, hown, hts0, hX, hbl, hlocks, hgv⟩ := id C0
  have hts := hts0
  have hown : s.vm.findClass RL = some m.cls := hown
  have hbA : ¬ (fun q : Nat => s.heap.size ≤ q) b := Nat.not_le.mpr hbl
  have hA : ∀ q : Nat, (fun q : Nat => s.heap.size ≤ q) q → s.heap.size ≤ q := fun _ h => h
  have z1 := tl_1
  have z2 := tl_2
  have z3 := tl_3
  have z4 := tl_4
  have oL := Rel_okL hr9
  have oB := Rel_okB hr9
  have oR := hr9.1
  obtain ⟨hPT, hPM, hPB, hPL, hPS, hPR⟩ := hW
  refine lv_aload_n hx hb dL_law_646 rfl (lv_at hl 1 rfl) ?_
  refine lv_aload_n hx hb dL_law_647 rfl (lv_at hl 0 rfl) ?_
  refine lv_iload_n hx hb dL_law_648 rfl (lv_at hl 3 rfl) ?_
  refine lv_iconst (v := 1) hx hb dL_law_649 (by decide) ?_
  refine lv_iadd hx hb dL_law_650 ?_
  refine va_sld hx hb hX hbl hbA hS (sc_i h0 h5 hL (by omega) (by omega)) dL_law_651 ?_
  refine lv_aload_n hx hb dL_law_652 rfl (lv_at hl 0 rfl) ?_
  refine lv_iload_n hx hb dL_law_653 rfl (lv_at hl 3 rfl) ?_
  refine lv_iconst (v := 2) hx hb dL_law_654 (by decide) ?_
  refine lv_iadd hx hb dL_law_655 ?_
  refine va_sld hx hb hX hbl hbA hS (sc_i h0 h5 hL (by omega) (by omega)) dL_law_656 ?_
  refine lv_aload_n hx hb dL_law_657 rfl (lv_at hl 0 rfl) ?_
  refine lv_iload_n hx hb dL_law_658 rfl (lv_at hl 3 rfl) ?_
  refine lv_iconst (v := 3) hx hb dL_law_659 (by decide) ?_
  refine lv_iadd hx hb dL_law_660 ?_
  refine va_sld hx hb hX hbl hbA hS (sc_i h0 h5 hL (by omega) (by omega)) dL_law_661 ?_
  refine runW_i (P := fun H => va_P D vwCl (cellT cI g sT vT) H ∧ va_P D vwCl (cellM cI g sM) H ∧ va_P D vwCl (cellB cI g sB) H ∧ va_P D vwCl (cellL cI g (m_T_hit sT sL (xs (Int32.toNatClampNeg (i3 + 1))) (xs (Int32.toNatClampNeg (i3 + 2))) (xs (Int32.toNatClampNeg (i3 + 3)))).2) H ∧ va_P D vwCl (cellS cI g sS) H) (va_runV (As := [.int (xs (Int32.toNatClampNeg (i3 + 1))), .int (xs (Int32.toNatClampNeg (i3 + 2))), .int (xs (Int32.toNatClampNeg (i3 + 3)))]) (rest := []) ⟨hx, hb, hml, hown, hts⟩ (K_T_hit hg sT vT sM sB sL sS (xs (Int32.toNatClampNeg (i3 + 1))) (xs (Int32.toNatClampNeg (i3 + 2))) (xs (Int32.toNatClampNeg (i3 + 3))) oL) (cwV 3 hts gL_law_X4_hit rfl rfl rfl (by decide +kernel) ⟨Nat.le_of_ble_eq_true rfl, Nat.le_of_ble_eq_true rfl⟩) (preV_of hE hA hS ⟨hPT, hPM, hPB, hPL, hPS⟩ (va_recv hE.1 hPT (ci := 4) (q0 := 0) rfl rfl)) rfl rfl hl.1 rfl (lv_room (Nat.le_of_ble_eq_true rfl)) dL_law_662 ⟨Nat.le_refl _, Nat.le_refl _⟩) hS (fun q h9 => wA.lo hg q h9) (fun H locs hQ hk hS => ?_)
  have hPR := wKeep hPR (wOffL (c := 0) (n := 16) (x := 0) hdis rfl) hk
  obtain ⟨hPT, hPM, hPB, hPL, hPS⟩ := hQ
  refine lv_aload_n hx hb dL_law_665 rfl (lv_at hl 2 rfl) ?_
  refine lv_aload_n hx hb dL_law_666 rfl (lv_at hl 0 rfl) ?_
  refine lv_iload_n hx hb dL_law_667 rfl (lv_at hl 3 rfl) ?_
  refine lv_iconst (v := 1) hx hb dL_law_668 (by decide) ?_
  refine lv_iadd hx hb dL_law_669 ?_
  refine va_sld hx hb hX hbl hbA hS (sc_i h0 h5 hL (by omega) (by omega)) dL_law_670 ?_
  refine lv_aload_n hx hb dL_law_671 rfl (lv_at hl 0 rfl) ?_
  refine lv_iload_n hx hb dL_law_672 rfl (lv_at hl 3 rfl) ?_
  refine lv_iconst (v := 2) hx hb dL_law_673 (by decide) ?_
  refine lv_iadd hx hb dL_law_674 ?_
  refine va_sld hx hb hX hbl hbA hS (sc_i h0 h5 hL (by omega) (by omega)) dL_law_675 ?_
  refine lv_aload_n hx hb dL_law_676 rfl (lv_at hl 0 rfl) ?_
  refine lv_iload_n hx hb dL_law_677 rfl (lv_at hl 3 rfl) ?_
  refine lv_iconst (v := 3) hx hb dL_law_678 (by decide) ?_
  refine lv_iadd hx hb dL_law_679 ?_
  refine va_sld hx hb hX hbl hbA hS (sc_i h0 h5 hL (by omega) (by omega)) dL_law_680 ?_
  refine runW_i (P := fun H => va_P D vwCl (cellR cI gR (m_R_hit sR (xs (Int32.toNatClampNeg (i3 + 1))) (xs (Int32.toNatClampNeg (i3 + 2))) (xs (Int32.toNatClampNeg (i3 + 3)))).2 vR) H) (va_runV (As := [.int (xs (Int32.toNatClampNeg (i3 + 1))), .int (xs (Int32.toNatClampNeg (i3 + 2))), .int (xs (Int32.toNatClampNeg (i3 + 3)))]) (rest := [.int (m_T_hit sT sL (xs (Int32.toNatClampNeg (i3 + 1))) (xs (Int32.toNatClampNeg (i3 + 2))) (xs (Int32.toNatClampNeg (i3 + 3)))).1]) ⟨hx, hb, hml, hown, hts⟩ (K_R_hit hgR sR vR (xs (Int32.toNatClampNeg (i3 + 1))) (xs (Int32.toNatClampNeg (i3 + 2))) (xs (Int32.toNatClampNeg (i3 + 3))) oR) (cwV 3 hts gL_law_X5_hit rfl rfl rfl (by decide +kernel) ⟨Nat.le_of_ble_eq_true rfl, Nat.le_of_ble_eq_true rfl⟩) (preV_of hE hA hS hPR (va_recv hE.1 hPR (ci := 5) (q0 := 0) rfl rfl)) rfl rfl hl.1 rfl (lv_room (Nat.le_of_ble_eq_true rfl)) dL_law_681 ⟨Nat.le_refl _, Nat.le_refl _⟩) hS (fun q h9 => wA.lo hgR q h9) (fun H locs hQ hk hS => ?_)
  have hPT := wKeep hPT (wOffL (gR := g) (g := gR) (c := 0) (n := 1) (x := 0) (y := 16) (fun i j hi hj e => hdis j i (by omega) hi e.symm) rfl) hk
  have hPM := wKeep hPM (wOffL (gR := g) (g := gR) (c := 1) (n := 5) (x := 0) (y := 16) (fun i j hi hj e => hdis j i (by omega) hi e.symm) rfl) hk
  have hPB := wKeep hPB (wOffL (gR := g) (g := gR) (c := 6) (n := 6) (x := 0) (y := 16) (fun i j hi hj e => hdis j i (by omega) hi e.symm) rfl) hk
  have hPL := wKeep hPL (wOffL (gR := g) (g := gR) (c := 12) (n := 5) (x := 0) (y := 16) (fun i j hi hj e => hdis j i (by omega) hi e.symm) rfl) hk
  have hPS := wKeep hPS (wOffL (gR := g) (g := gR) (c := 17) (n := 2) (x := 0) (y := 16) (fun i j hi hj e => hdis j i (by omega) hi e.symm) rfl) hk
  have hPR := hQ
  have hp9 := P_hit hr9 (xs (Int32.toNatClampNeg (i3 + 1))) (xs (Int32.toNatClampNeg (i3 + 2))) (xs (Int32.toNatClampNeg (i3 + 3)))
  refine lv_icmp_eq (tgt := 1215) hx hb dL_law_684 (by decide) (fun c => ?_) (fun c => absurd hp9.1 c)
  exact kk _ _ _ _ _ _ _ _ H locs ls hp9.2 ⟨hPT, hPM, hPB, hPL, hPS, hPR⟩ hS hl
set_option maxHeartbeats 4000000 in
set_option maxRecDepth 100000 in
theorem lc_17 {p : Program} {e : Env} {s : State} {m : MethodId} {below : List Frame} {meth : Method} {c : Code} {l : Launch} {b L : Nat} {xs : Nat → Int32} (hL : L ≤ 2560) (C0 : lw_At p s m meth c b L xs) {D : va_G} {cI : ClassId} (hE : EV D cI s.heap.size s s.heap) {g gR : Nat → Nat} (hg : wI g 0 19 s.heap.size) (hgR : wI gR 0 16 s.heap.size) (hdis : ∀ i j : Nat, i < 19 → j < 16 → g i ≠ gR j) {i3 : Int32} (h0 : 0 ≤ i3.toInt) (h5 : i3.toInt + 5 ≤ (L : Int)) {sT : St} {vT : Int64} {sM sB sL sS sR : St} {vR : Int64} (hr9 : Rel sT vT sM sB sL sS sR vR) {H : Heap} {locs : List Loc} {ls : Array Slot} (hW : Wd D cI g gR sT vT sM sB sL sS sR vR H) (hS : va_S (fun q : Nat => s.heap.size ≤ q) s.heap H locs) (hl : lv_has ls 4 [(0, .ref b), (1, .ref (g 0)), (2, .ref (gR 0)), (3, .int i3)]) (kk : (∀ (sT : St) (vT : Int64) (sM sB sL sS sR : St) (vR : Int64) (H : Heap) (locs : List Loc) (ls : Array Slot), Rel sT vT sM sB sL sS sR vR → Wd D cI g gR sT vT sM sB sL sS sR vR H → va_S (fun q : Nat => s.heap.size ≤ q) s.heap H locs → lv_has ls 4 [(0, .ref b), (1, .ref (g 0)), (2, .ref (gR 0)), (3, .int i3)] → W p l e room_1 s m #[Value.ref b] below meth c H locs 600000 7302250 (lw_Z below #[Value.ref b] s) (F0 m 1215 ls []))) : W p l e room_1 s m #[Value.ref b] below meth c H locs 600000 7302250 (lw_Z below #[Value.ref b] s) (F0 m 689 ls []) := by
  obtain ⟨hx, hb, hr, hml, hown, hts0, hX, hbl, hlocks, hgv⟩ := id C0
  have hts := hts0
  have hown : s.vm.findClass RL = some m.cls := hown
  have hbA : ¬ (fun q : Nat => s.heap.size ≤ q) b := Nat.not_le.mpr hbl
  have hA : ∀ q : Nat, (fun q : Nat => s.heap.size ≤ q) q → s.heap.size ≤ q := fun _ h => h
  have z1 := tl_1
  have z2 := tl_2
  have z3 := tl_3
  have z4 := tl_4
  have oL := Rel_okL hr9
  have oB := Rel_okB hr9
  have oR := hr9.1
  obtain ⟨hPT, hPM, hPB, hPL, hPS, hPR⟩ := hW
  refine lv_aload_n hx hb dL_law_689 rfl (lv_at hl 1 rfl) ?_
  refine lv_aload_n hx hb dL_law_690 rfl (lv_at hl 0 rfl) ?_
  refine lv_iload_n hx hb dL_law_691 rfl (lv_at hl 3 rfl) ?_
  refine lv_iconst (v := 1) hx hb dL_law_692 (by decide) ?_
  refine lv_iadd hx hb dL_law_693 ?_
  refine va_sld hx hb hX hbl hbA hS (sc_i h0 h5 hL (by omega) (by omega)) dL_law_694 ?_
  refine lv_aload_n hx hb dL_law_695 rfl (lv_at hl 0 rfl) ?_
  refine lv_iload_n hx hb dL_law_696 rfl (lv_at hl 3 rfl) ?_
  refine lv_iconst (v := 2) hx hb dL_law_697 (by decide) ?_
  refine lv_iadd hx hb dL_law_698 ?_
  refine va_sld hx hb hX hbl hbA hS (sc_i h0 h5 hL (by omega) (by omega)) dL_law_699 ?_
  refine lv_aload_n hx hb dL_law_700 rfl (lv_at hl 0 rfl) ?_
  refine lv_iload_n hx hb dL_law_701 rfl (lv_at hl 3 rfl) ?_
  refine lv_iconst (v := 3) hx hb dL_law_702 (by decide) ?_
  refine lv_iadd hx hb dL_law_703 ?_
  refine va_sld hx hb hX hbl hbA hS (sc_i h0 h5 hL (by omega) (by omega)) dL_law_704 ?_
  refine runS_i (va_runV (As := [.int (xs (Int32.toNatClampNeg (i3 + 1))), .int (xs (Int32.toNatClampNeg (i3 + 2))), .int (xs (Int32.toNatClampNeg (i3 + 3)))]) (rest := []) ⟨hx, hb, hml, hown, hts⟩ (K_T_cell hg sT vT sM sB sL sS (xs (Int32.toNatClampNeg (i3 + 1))) (xs (Int32.toNatClampNeg (i3 + 2))) (xs (Int32.toNatClampNeg (i3 + 3))) oL) (cwV 3 hts gL_law_X4_cell rfl rfl rfl (by decide +kernel) ⟨Nat.le_of_ble_eq_true rfl, Nat.le_of_ble_eq_true rfl⟩) (preV_of hE hA hS ⟨hPT, hPM, hPB, hPL, hPS⟩ (va_recv hE.1 hPT (ci := 4) (q0 := 0) rfl rfl)) rfl rfl hl.1 rfl (lv_room (Nat.le_of_ble_eq_true rfl)) dL_law_705 ⟨Nat.le_refl _, Nat.le_refl _⟩) ?_
  refine lv_aload_n hx hb dL_law_708 rfl (lv_at hl 2 rfl) ?_
  refine lv_aload_n hx hb dL_law_709 rfl (lv_at hl 0 rfl) ?_
  refine lv_iload_n hx hb dL_law_710 rfl (lv_at hl 3 rfl) ?_
  refine lv_iconst (v := 1) hx hb dL_law_711 (by decide) ?_
  refine lv_iadd hx hb dL_law_712 ?_
  refine va_sld hx hb hX hbl hbA hS (sc_i h0 h5 hL (by omega) (by omega)) dL_law_713 ?_
  refine lv_aload_n hx hb dL_law_714 rfl (lv_at hl 0 rfl) ?_
  refine lv_iload_n hx hb dL_law_715 rfl (lv_at hl 3 rfl) ?_
  refine lv_iconst (v := 2) hx hb dL_law_716 (by decide) ?_
  refine lv_iadd hx hb dL_law_717 ?_
  refine va_sld hx hb hX hbl hbA hS (sc_i h0 h5 hL (by omega) (by omega)) dL_law_718 ?_
  refine lv_aload_n hx hb dL_law_719 rfl (lv_at hl 0 rfl) ?_
  refine lv_iload_n hx hb dL_law_720 rfl (lv_at hl 3 rfl) ?_
  refine lv_iconst (v := 3) hx hb dL_law_721 (by decide) ?_
  refine lv_iadd hx hb dL_law_722 ?_
  refine va_sld hx hb hX hbl hbA hS (sc_i h0 h5 hL (by omega) (by omega)) dL_law_723 ?_
  refine runS_i (va_runV (As := [.int (xs (Int32.toNatClampNeg (i3 + 1))), .int (xs (Int32.toNatClampNeg (i3 + 2))), .int (xs (Int32.toNatClampNeg (i3 + 3)))]) (rest := [.int (m_T_cell sT sL (xs (Int32.toNatClampNeg (i3 + 1))) (xs (Int32.toNatClampNeg (i3 + 2))) (xs (Int32.toNatClampNeg (i3 + 3))))]) ⟨hx, hb, hml, hown, hts⟩ (K_R_cell hgR sR vR (xs (Int32.toNatClampNeg (i3 + 1))) (xs (Int32.toNatClampNeg (i3 + 2))) (xs (Int32.toNatClampNeg (i3 + 3))) oR) (cwV 3 hts gL_law_X5_cell rfl rfl rfl (by decide +kernel) ⟨Nat.le_of_ble_eq_true rfl, Nat.le_of_ble_eq_true rfl⟩) (preV_of hE hA hS hPR (va_recv hE.1 hPR (ci := 5) (q0 := 0) rfl rfl)) rfl rfl hl.1 rfl (lv_room (Nat.le_of_ble_eq_true rfl)) dL_law_724 ⟨Nat.le_refl _, Nat.le_refl _⟩) ?_
  have hp9 := P_cell hr9 (xs (Int32.toNatClampNeg (i3 + 1))) (xs (Int32.toNatClampNeg (i3 + 2))) (xs (Int32.toNatClampNeg (i3 + 3)))
  refine lv_icmp_eq (tgt := 1215) hx hb dL_law_727 (by decide) (fun c => ?_) (fun c => absurd hp9.1 c)
  exact kk _ _ _ _ _ _ _ _ H locs ls hp9.2 ⟨hPT, hPM, hPB, hPL, hPS, hPR⟩ hS hl
set_option maxHeartbeats 4000000 in
set_option maxRecDepth 100000 in
theorem lc_18 {p : Program} {e : Env} {s : State} {m : MethodId} {below : List Frame} {meth : Method} {c : Code} {l : Launch} {b L : Nat} {xs : Nat → Int32} (hL : L ≤ 2560) (C0 : lw_At p s m meth c b L xs) {D : va_G} {cI : ClassId} (hE : EV D cI s.heap.size s s.heap) {g gR : Nat → Nat} (hg : wI g 0 19 s.heap.size) (hgR : wI gR 0 16 s.heap.size) (hdis : ∀ i j : Nat, i < 19 → j < 16 → g i ≠ gR j) {i3 : Int32} (h0 : 0 ≤ i3.toInt) (h5 : i3.toInt + 5 ≤ (L : Int)) {sT : St} {vT : Int64} {sM sB sL sS sR : St} {vR : Int64} (hr9 : Rel sT vT sM sB sL sS sR vR) {H : Heap} {locs : List Loc} {ls : Array Slot} (hW : Wd D cI g gR sT vT sM sB sL sS sR vR H) (hS : va_S (fun q : Nat => s.heap.size ≤ q) s.heap H locs) (hl : lv_has ls 4 [(0, .ref b), (1, .ref (g 0)), (2, .ref (gR 0)), (3, .int i3)]) (kk : (∀ (sT : St) (vT : Int64) (sM sB sL sS sR : St) (vR : Int64) (H : Heap) (locs : List Loc) (ls : Array Slot), Rel sT vT sM sB sL sS sR vR → Wd D cI g gR sT vT sM sB sL sS sR vR H → va_S (fun q : Nat => s.heap.size ≤ q) s.heap H locs → lv_has ls 4 [(0, .ref b), (1, .ref (g 0)), (2, .ref (gR 0)), (3, .int i3)] → W p l e room_1 s m #[Value.ref b] below meth c H locs 600000 7302250 (lw_Z below #[Value.ref b] s) (F0 m 1215 ls []))) : W p l e room_1 s m #[Value.ref b] below meth c H locs 600000 7302250 (lw_Z below #[Value.ref b] s) (F0 m 732 ls []) := by
  obtain ⟨hx, hb, hr, hml, hown, hts0, hX, hbl, hlocks, hgv⟩ := id C0
  have hts := hts0
  have hown : s.vm.findClass RL = some m.cls := hown
  have hbA : ¬ (fun q : Nat => s.heap.size ≤ q) b := Nat.not_le.mpr hbl
  have hA : ∀ q : Nat, (fun q : Nat => s.heap.size ≤ q) q → s.heap.size ≤ q := fun _ h => h
  have z1 := tl_1
  have z2 := tl_2
  have z3 := tl_3
  have z4 := tl_4
  have oL := Rel_okL hr9
  have oB := Rel_okB hr9
  have oR := hr9.1
  obtain ⟨hPT, hPM, hPB, hPL, hPS, hPR⟩ := hW
  refine lv_aload_n hx hb dL_law_732 rfl (lv_at hl 1 rfl) ?_
  refine lv_aload_n hx hb dL_law_733 rfl (lv_at hl 0 rfl) ?_
  refine lv_iload_n hx hb dL_law_734 rfl (lv_at hl 3 rfl) ?_
  refine lv_iconst (v := 1) hx hb dL_law_735 (by decide) ?_
  refine lv_iadd hx hb dL_law_736 ?_
  refine va_sld hx hb hX hbl hbA hS (sc_i h0 h5 hL (by omega) (by omega)) dL_law_737 ?_
  refine runW_i (P := fun H => va_P D vwCl (cellT cI g sT vT) H ∧ va_P D vwCl (cellM cI g sM) H ∧ va_P D vwCl (cellB cI g sB) H ∧ va_P D vwCl (cellL cI g (m_T_level sT sL (xs (Int32.toNatClampNeg (i3 + 1)))).2) H ∧ va_P D vwCl (cellS cI g sS) H) (va_runV (As := [.int (xs (Int32.toNatClampNeg (i3 + 1)))]) (rest := []) ⟨hx, hb, hml, hown, hts⟩ (K_T_level hg sT vT sM sB sL sS (xs (Int32.toNatClampNeg (i3 + 1)))) (cwV 1 hts gL_law_X4_level rfl rfl rfl (by decide +kernel) ⟨Nat.le_of_ble_eq_true rfl, Nat.le_of_ble_eq_true rfl⟩) (preV_of hE hA hS ⟨hPT, hPM, hPB, hPL, hPS⟩ (va_recv hE.1 hPT (ci := 4) (q0 := 0) rfl rfl)) rfl rfl hl.1 rfl (lv_room (Nat.le_of_ble_eq_true rfl)) dL_law_738 ⟨Nat.le_refl _, Nat.le_refl _⟩) hS (fun q h9 => wA.lo hg q h9) (fun H locs hQ hk hS => ?_)
  have hPR := wKeep hPR (wOffL (c := 0) (n := 16) (x := 0) hdis rfl) hk
  obtain ⟨hPT, hPM, hPB, hPL, hPS⟩ := hQ
  refine lv_aload_n hx hb dL_law_741 rfl (lv_at hl 2 rfl) ?_
  refine lv_aload_n hx hb dL_law_742 rfl (lv_at hl 0 rfl) ?_
  refine lv_iload_n hx hb dL_law_743 rfl (lv_at hl 3 rfl) ?_
  refine lv_iconst (v := 1) hx hb dL_law_744 (by decide) ?_
  refine lv_iadd hx hb dL_law_745 ?_
  refine va_sld hx hb hX hbl hbA hS (sc_i h0 h5 hL (by omega) (by omega)) dL_law_746 ?_
  refine runW_i (P := fun H => va_P D vwCl (cellR cI gR (m_R_level sR (xs (Int32.toNatClampNeg (i3 + 1)))).2 vR) H) (va_runV (As := [.int (xs (Int32.toNatClampNeg (i3 + 1)))]) (rest := [.int (m_T_level sT sL (xs (Int32.toNatClampNeg (i3 + 1)))).1]) ⟨hx, hb, hml, hown, hts⟩ (K_R_level hgR sR vR (xs (Int32.toNatClampNeg (i3 + 1)))) (cwV 1 hts gL_law_X5_level rfl rfl rfl (by decide +kernel) ⟨Nat.le_of_ble_eq_true rfl, Nat.le_of_ble_eq_true rfl⟩) (preV_of hE hA hS hPR (va_recv hE.1 hPR (ci := 5) (q0 := 0) rfl rfl)) rfl rfl hl.1 rfl (lv_room (Nat.le_of_ble_eq_true rfl)) dL_law_747 ⟨Nat.le_refl _, Nat.le_refl _⟩) hS (fun q h9 => wA.lo hgR q h9) (fun H locs hQ hk hS => ?_)
  have hPT := wKeep hPT (wOffL (gR := g) (g := gR) (c := 0) (n := 1) (x := 0) (y := 16) (fun i j hi hj e => hdis j i (by omega) hi e.symm) rfl) hk
  have hPM := wKeep hPM (wOffL (gR := g) (g := gR) (c := 1) (n := 5) (x := 0) (y := 16) (fun i j hi hj e => hdis j i (by omega) hi e.symm) rfl) hk
  have hPB := wKeep hPB (wOffL (gR := g) (g := gR) (c := 6) (n := 6) (x := 0) (y := 16) (fun i j hi hj e => hdis j i (by omega) hi e.symm) rfl) hk
  have hPL := wKeep hPL (wOffL (gR := g) (g := gR) (c := 12) (n := 5) (x := 0) (y := 16) (fun i j hi hj e => hdis j i (by omega) hi e.symm) rfl) hk
  have hPS := wKeep hPS (wOffL (gR := g) (g := gR) (c := 17) (n := 2) (x := 0) (y := 16) (fun i j hi hj e => hdis j i (by omega) hi e.symm) rfl) hk
  have hPR := hQ
  have hp9 := P_level hr9 (xs (Int32.toNatClampNeg (i3 + 1)))
  refine lv_icmp_eq (tgt := 1215) hx hb dL_law_750 (by decide) (fun c => ?_) (fun c => absurd hp9.1 c)
  exact kk _ _ _ _ _ _ _ _ H locs ls hp9.2 ⟨hPT, hPM, hPB, hPL, hPS, hPR⟩ hS hl
set_option maxHeartbeats 4000000 in
set_option maxRecDepth 100000 in
theorem lc_19 {p : Program} {e : Env} {s : State} {m : MethodId} {below : List Frame} {meth : Method} {c : Code} {l : Launch} {b L : Nat} {xs : Nat → Int32} (hL : L ≤ 2560) (C0 : lw_At p s m meth c b L xs) {D : va_G} {cI : ClassId} (hE : EV D cI s.heap.size s s.heap) {g gR : Nat → Nat} (hg : wI g 0 19 s.heap.size) (hgR : wI gR 0 16 s.heap.size) (hdis : ∀ i j : Nat, i < 19 → j < 16 → g i ≠ gR j) {i3 : Int32} (h0 : 0 ≤ i3.toInt) (h5 : i3.toInt + 5 ≤ (L : Int)) {sT : St} {vT : Int64} {sM sB sL sS sR : St} {vR : Int64} (hr9 : Rel sT vT sM sB sL sS sR vR) {H : Heap} {locs : List Loc} {ls : Array Slot} (hW : Wd D cI g gR sT vT sM sB sL sS sR vR H) (hS : va_S (fun q : Nat => s.heap.size ≤ q) s.heap H locs) (hl : lv_has ls 4 [(0, .ref b), (1, .ref (g 0)), (2, .ref (gR 0)), (3, .int i3)]) (kk : (∀ (sT : St) (vT : Int64) (sM sB sL sS sR : St) (vR : Int64) (H : Heap) (locs : List Loc) (ls : Array Slot), Rel sT vT sM sB sL sS sR vR → Wd D cI g gR sT vT sM sB sL sS sR vR H → va_S (fun q : Nat => s.heap.size ≤ q) s.heap H locs → lv_has ls 4 [(0, .ref b), (1, .ref (g 0)), (2, .ref (gR 0)), (3, .int i3)] → W p l e room_1 s m #[Value.ref b] below meth c H locs 600000 7302250 (lw_Z below #[Value.ref b] s) (F0 m 1215 ls []))) : W p l e room_1 s m #[Value.ref b] below meth c H locs 600000 7302250 (lw_Z below #[Value.ref b] s) (F0 m 755 ls []) := by
  obtain ⟨hx, hb, hr, hml, hown, hts0, hX, hbl, hlocks, hgv⟩ := id C0
  have hts := hts0
  have hown : s.vm.findClass RL = some m.cls := hown
  have hbA : ¬ (fun q : Nat => s.heap.size ≤ q) b := Nat.not_le.mpr hbl
  have hA : ∀ q : Nat, (fun q : Nat => s.heap.size ≤ q) q → s.heap.size ≤ q := fun _ h => h
  have z1 := tl_1
  have z2 := tl_2
  have z3 := tl_3
  have z4 := tl_4
  have oL := Rel_okL hr9
  have oB := Rel_okB hr9
  have oR := hr9.1
  obtain ⟨hPT, hPM, hPB, hPL, hPS, hPR⟩ := hW
  refine lv_aload_n hx hb dL_law_755 rfl (lv_at hl 1 rfl) ?_
  refine runS_i (va_runV (As := []) (rest := []) ⟨hx, hb, hml, hown, hts⟩ (K_T_open hg sT vT sM sB sL sS oL) (cwV 0 hts gL_law_X4_open rfl rfl rfl (by decide +kernel) ⟨Nat.le_of_ble_eq_true rfl, Nat.le_of_ble_eq_true rfl⟩) (preV_of hE hA hS ⟨hPT, hPM, hPB, hPL, hPS⟩ (va_recv hE.1 hPT (ci := 4) (q0 := 0) rfl rfl)) rfl rfl hl.1 rfl (lv_room (Nat.le_of_ble_eq_true rfl)) dL_law_756 ⟨Nat.le_refl _, Nat.le_refl _⟩) ?_
  refine lv_aload_n hx hb dL_law_759 rfl (lv_at hl 2 rfl) ?_
  refine runS_i (va_runV (As := []) (rest := [.int (m_T_open sT sL)]) ⟨hx, hb, hml, hown, hts⟩ (K_R_open hgR sR vR oR) (cwV 0 hts gL_law_X5_open rfl rfl rfl (by decide +kernel) ⟨Nat.le_of_ble_eq_true rfl, Nat.le_of_ble_eq_true rfl⟩) (preV_of hE hA hS hPR (va_recv hE.1 hPR (ci := 5) (q0 := 0) rfl rfl)) rfl rfl hl.1 rfl (lv_room (Nat.le_of_ble_eq_true rfl)) dL_law_760 ⟨Nat.le_refl _, Nat.le_refl _⟩) ?_
  have hp9 := P_open hr9
  refine lv_icmp_eq (tgt := 1215) hx hb dL_law_763 (by decide) (fun c => ?_) (fun c => absurd hp9.1 c)
  exact kk _ _ _ _ _ _ _ _ H locs ls hp9.2 ⟨hPT, hPM, hPB, hPL, hPS, hPR⟩ hS hl
set_option maxHeartbeats 4000000 in
set_option maxRecDepth 100000 in
theorem lc_20 {p : Program} {e : Env} {s : State} {m : MethodId} {below : List Frame} {meth : Method} {c : Code} {l : Launch} {b L : Nat} {xs : Nat → Int32} (hL : L ≤ 2560) (C0 : lw_At p s m meth c b L xs) {D : va_G} {cI : ClassId} (hE : EV D cI s.heap.size s s.heap) {g gR : Nat → Nat} (hg : wI g 0 19 s.heap.size) (hgR : wI gR 0 16 s.heap.size) (hdis : ∀ i j : Nat, i < 19 → j < 16 → g i ≠ gR j) {i3 : Int32} (h0 : 0 ≤ i3.toInt) (h5 : i3.toInt + 5 ≤ (L : Int)) {sT : St} {vT : Int64} {sM sB sL sS sR : St} {vR : Int64} (hr9 : Rel sT vT sM sB sL sS sR vR) {H : Heap} {locs : List Loc} {ls : Array Slot} (hW : Wd D cI g gR sT vT sM sB sL sS sR vR H) (hS : va_S (fun q : Nat => s.heap.size ≤ q) s.heap H locs) (hl : lv_has ls 4 [(0, .ref b), (1, .ref (g 0)), (2, .ref (gR 0)), (3, .int i3)]) (kk : (∀ (sT : St) (vT : Int64) (sM sB sL sS sR : St) (vR : Int64) (H : Heap) (locs : List Loc) (ls : Array Slot), Rel sT vT sM sB sL sS sR vR → Wd D cI g gR sT vT sM sB sL sS sR vR H → va_S (fun q : Nat => s.heap.size ≤ q) s.heap H locs → lv_has ls 4 [(0, .ref b), (1, .ref (g 0)), (2, .ref (gR 0)), (3, .int i3)] → W p l e room_1 s m #[Value.ref b] below meth c H locs 600000 7302250 (lw_Z below #[Value.ref b] s) (F0 m 1215 ls []))) : W p l e room_1 s m #[Value.ref b] below meth c H locs 600000 7302250 (lw_Z below #[Value.ref b] s) (F0 m 768 ls []) := by
  obtain ⟨hx, hb, hr, hml, hown, hts0, hX, hbl, hlocks, hgv⟩ := id C0
  have hts := hts0
  have hown : s.vm.findClass RL = some m.cls := hown
  have hbA : ¬ (fun q : Nat => s.heap.size ≤ q) b := Nat.not_le.mpr hbl
  have hA : ∀ q : Nat, (fun q : Nat => s.heap.size ≤ q) q → s.heap.size ≤ q := fun _ h => h
  have z1 := tl_1
  have z2 := tl_2
  have z3 := tl_3
  have z4 := tl_4
  have oL := Rel_okL hr9
  have oB := Rel_okB hr9
  have oR := hr9.1
  obtain ⟨hPT, hPM, hPB, hPL, hPS, hPR⟩ := hW
  refine lv_aload_n hx hb dL_law_768 rfl (lv_at hl 1 rfl) ?_
  refine lv_aload_n hx hb dL_law_769 rfl (lv_at hl 0 rfl) ?_
  refine lv_iload_n hx hb dL_law_770 rfl (lv_at hl 3 rfl) ?_
  refine lv_iconst (v := 1) hx hb dL_law_771 (by decide) ?_
  refine lv_iadd hx hb dL_law_772 ?_
  refine va_sld hx hb hX hbl hbA hS (sc_i h0 h5 hL (by omega) (by omega)) dL_law_773 ?_
  refine lv_aload_n hx hb dL_law_774 rfl (lv_at hl 0 rfl) ?_
  refine lv_iload_n hx hb dL_law_775 rfl (lv_at hl 3 rfl) ?_
  refine lv_iconst (v := 2) hx hb dL_law_776 (by decide) ?_
  refine lv_iadd hx hb dL_law_777 ?_
  refine va_sld hx hb hX hbl hbA hS (sc_i h0 h5 hL (by omega) (by omega)) dL_law_778 ?_
  refine runS_i (va_runV (As := [.int (xs (Int32.toNatClampNeg (i3 + 1))), .int (xs (Int32.toNatClampNeg (i3 + 2)))]) (rest := []) ⟨hx, hb, hml, hown, hts⟩ (K_T_soonest hg sT vT sM sB sL sS (xs (Int32.toNatClampNeg (i3 + 1))) (xs (Int32.toNatClampNeg (i3 + 2))) oL) (cwV 2 hts gL_law_X4_soonest rfl rfl rfl (by decide +kernel) ⟨Nat.le_of_ble_eq_true rfl, Nat.le_of_ble_eq_true rfl⟩) (preV_of hE hA hS ⟨hPT, hPM, hPB, hPL, hPS⟩ (va_recv hE.1 hPT (ci := 4) (q0 := 0) rfl rfl)) rfl rfl hl.1 rfl (lv_room (Nat.le_of_ble_eq_true rfl)) dL_law_779 ⟨Nat.le_refl _, Nat.le_refl _⟩) ?_
  refine lv_aload_n hx hb dL_law_782 rfl (lv_at hl 2 rfl) ?_
  refine lv_aload_n hx hb dL_law_783 rfl (lv_at hl 0 rfl) ?_
  refine lv_iload_n hx hb dL_law_784 rfl (lv_at hl 3 rfl) ?_
  refine lv_iconst (v := 1) hx hb dL_law_785 (by decide) ?_
  refine lv_iadd hx hb dL_law_786 ?_
  refine va_sld hx hb hX hbl hbA hS (sc_i h0 h5 hL (by omega) (by omega)) dL_law_787 ?_
  refine lv_aload_n hx hb dL_law_788 rfl (lv_at hl 0 rfl) ?_
  refine lv_iload_n hx hb dL_law_789 rfl (lv_at hl 3 rfl) ?_
  refine lv_iconst (v := 2) hx hb dL_law_790 (by decide) ?_
  refine lv_iadd hx hb dL_law_791 ?_
  refine va_sld hx hb hX hbl hbA hS (sc_i h0 h5 hL (by omega) (by omega)) dL_law_792 ?_
  refine runW_i (P := fun H => va_P D vwCl (cellR cI gR (m_R_soonest sR (xs (Int32.toNatClampNeg (i3 + 1))) (xs (Int32.toNatClampNeg (i3 + 2)))).2 vR) H) (va_runV (As := [.int (xs (Int32.toNatClampNeg (i3 + 1))), .int (xs (Int32.toNatClampNeg (i3 + 2)))]) (rest := [.int (m_T_soonest sT sL (xs (Int32.toNatClampNeg (i3 + 1))) (xs (Int32.toNatClampNeg (i3 + 2))))]) ⟨hx, hb, hml, hown, hts⟩ (K_R_soonest hgR sR vR (xs (Int32.toNatClampNeg (i3 + 1))) (xs (Int32.toNatClampNeg (i3 + 2))) oR) (cwV 2 hts gL_law_X5_soonest rfl rfl rfl (by decide +kernel) ⟨Nat.le_of_ble_eq_true rfl, Nat.le_of_ble_eq_true rfl⟩) (preV_of hE hA hS hPR (va_recv hE.1 hPR (ci := 5) (q0 := 0) rfl rfl)) rfl rfl hl.1 rfl (lv_room (Nat.le_of_ble_eq_true rfl)) dL_law_793 ⟨Nat.le_refl _, Nat.le_refl _⟩) hS (fun q h9 => wA.lo hgR q h9) (fun H locs hQ hk hS => ?_)
  have hPT := wKeep hPT (wOffL (gR := g) (g := gR) (c := 0) (n := 1) (x := 0) (y := 16) (fun i j hi hj e => hdis j i (by omega) hi e.symm) rfl) hk
  have hPM := wKeep hPM (wOffL (gR := g) (g := gR) (c := 1) (n := 5) (x := 0) (y := 16) (fun i j hi hj e => hdis j i (by omega) hi e.symm) rfl) hk
  have hPB := wKeep hPB (wOffL (gR := g) (g := gR) (c := 6) (n := 6) (x := 0) (y := 16) (fun i j hi hj e => hdis j i (by omega) hi e.symm) rfl) hk
  have hPL := wKeep hPL (wOffL (gR := g) (g := gR) (c := 12) (n := 5) (x := 0) (y := 16) (fun i j hi hj e => hdis j i (by omega) hi e.symm) rfl) hk
  have hPS := wKeep hPS (wOffL (gR := g) (g := gR) (c := 17) (n := 2) (x := 0) (y := 16) (fun i j hi hj e => hdis j i (by omega) hi e.symm) rfl) hk
  have hPR := hQ
  have hp9 := P_soonest hr9 (xs (Int32.toNatClampNeg (i3 + 1))) (xs (Int32.toNatClampNeg (i3 + 2)))
  refine lv_icmp_eq (tgt := 1215) hx hb dL_law_796 (by decide) (fun c => ?_) (fun c => absurd hp9.1 c)
  exact kk _ _ _ _ _ _ _ _ H locs ls hp9.2 ⟨hPT, hPM, hPB, hPL, hPS, hPR⟩ hS hl
set_option maxHeartbeats 4000000 in
set_option maxRecDepth 100000 in
theorem lc_21 {p : Program} {e : Env} {s : State} {m : MethodId} {below : List Frame} {meth : Method} {c : Code} {l : Launch} {b L : Nat} {xs : Nat → Int32} (hL : L ≤ 2560) (C0 : lw_At p s m meth c b L xs) {D : va_G} {cI : ClassId} (hE : EV D cI s.heap.size s s.heap) {g gR : Nat → Nat} (hg : wI g 0 19 s.heap.size) (hgR : wI gR 0 16 s.heap.size) (hdis : ∀ i j : Nat, i < 19 → j < 16 → g i ≠ gR j) {i3 : Int32} (h0 : 0 ≤ i3.toInt) (h5 : i3.toInt + 5 ≤ (L : Int)) {sT : St} {vT : Int64} {sM sB sL sS sR : St} {vR : Int64} (hr9 : Rel sT vT sM sB sL sS sR vR) {H : Heap} {locs : List Loc} {ls : Array Slot} (hW : Wd D cI g gR sT vT sM sB sL sS sR vR H) (hS : va_S (fun q : Nat => s.heap.size ≤ q) s.heap H locs) (hl : lv_has ls 4 [(0, .ref b), (1, .ref (g 0)), (2, .ref (gR 0)), (3, .int i3)]) (kk : (∀ (sT : St) (vT : Int64) (sM sB sL sS sR : St) (vR : Int64) (H : Heap) (locs : List Loc) (ls : Array Slot), Rel sT vT sM sB sL sS sR vR → Wd D cI g gR sT vT sM sB sL sS sR vR H → va_S (fun q : Nat => s.heap.size ≤ q) s.heap H locs → lv_has ls 4 [(0, .ref b), (1, .ref (g 0)), (2, .ref (gR 0)), (3, .int i3)] → W p l e room_1 s m #[Value.ref b] below meth c H locs 600000 7302250 (lw_Z below #[Value.ref b] s) (F0 m 1215 ls []))) : W p l e room_1 s m #[Value.ref b] below meth c H locs 600000 7302250 (lw_Z below #[Value.ref b] s) (F0 m 801 ls []) := by
  obtain ⟨hx, hb, hr, hml, hown, hts0, hX, hbl, hlocks, hgv⟩ := id C0
  have hts := hts0
  have hown : s.vm.findClass RL = some m.cls := hown
  have hbA : ¬ (fun q : Nat => s.heap.size ≤ q) b := Nat.not_le.mpr hbl
  have hA : ∀ q : Nat, (fun q : Nat => s.heap.size ≤ q) q → s.heap.size ≤ q := fun _ h => h
  have z1 := tl_1
  have z2 := tl_2
  have z3 := tl_3
  have z4 := tl_4
  have oL := Rel_okL hr9
  have oB := Rel_okB hr9
  have oR := hr9.1
  obtain ⟨hPT, hPM, hPB, hPL, hPS, hPR⟩ := hW
  refine lv_aload_n hx hb dL_law_801 rfl (lv_at hl 1 rfl) ?_
  refine lv_aload_n hx hb dL_law_802 rfl (lv_at hl 0 rfl) ?_
  refine lv_iload_n hx hb dL_law_803 rfl (lv_at hl 3 rfl) ?_
  refine lv_iconst (v := 1) hx hb dL_law_804 (by decide) ?_
  refine lv_iadd hx hb dL_law_805 ?_
  refine va_sld hx hb hX hbl hbA hS (sc_i h0 h5 hL (by omega) (by omega)) dL_law_806 ?_
  refine lv_aload_n hx hb dL_law_807 rfl (lv_at hl 0 rfl) ?_
  refine lv_iload_n hx hb dL_law_808 rfl (lv_at hl 3 rfl) ?_
  refine lv_iconst (v := 2) hx hb dL_law_809 (by decide) ?_
  refine lv_iadd hx hb dL_law_810 ?_
  refine va_sld hx hb hX hbl hbA hS (sc_i h0 h5 hL (by omega) (by omega)) dL_law_811 ?_
  refine lv_aload_n hx hb dL_law_812 rfl (lv_at hl 0 rfl) ?_
  refine lv_iload_n hx hb dL_law_813 rfl (lv_at hl 3 rfl) ?_
  refine lv_iconst (v := 3) hx hb dL_law_814 (by decide) ?_
  refine lv_iadd hx hb dL_law_815 ?_
  refine va_sld hx hb hX hbl hbA hS (sc_i h0 h5 hL (by omega) (by omega)) dL_law_816 ?_
  refine runW_i (P := fun H => va_P D vwCl (cellT cI g sT vT) H ∧ va_P D vwCl (cellM cI g sM) H ∧ va_P D vwCl (cellB cI g sB) H ∧ va_P D vwCl (cellL cI g (m_T_scatter sT sL (xs (Int32.toNatClampNeg (i3 + 1))) (xs (Int32.toNatClampNeg (i3 + 2))) (xs (Int32.toNatClampNeg (i3 + 3)))).2) H ∧ va_P D vwCl (cellS cI g sS) H) (va_runV (As := [.int (xs (Int32.toNatClampNeg (i3 + 1))), .int (xs (Int32.toNatClampNeg (i3 + 2))), .int (xs (Int32.toNatClampNeg (i3 + 3)))]) (rest := []) ⟨hx, hb, hml, hown, hts⟩ (K_T_scatter hg sT vT sM sB sL sS (xs (Int32.toNatClampNeg (i3 + 1))) (xs (Int32.toNatClampNeg (i3 + 2))) (xs (Int32.toNatClampNeg (i3 + 3))) oL) (cwV 3 hts gL_law_X4_scatter rfl rfl rfl (by decide +kernel) ⟨Nat.le_of_ble_eq_true rfl, Nat.le_of_ble_eq_true rfl⟩) (preV_of hE hA hS ⟨hPT, hPM, hPB, hPL, hPS⟩ (va_recv hE.1 hPT (ci := 4) (q0 := 0) rfl rfl)) rfl rfl hl.1 rfl (lv_room (Nat.le_of_ble_eq_true rfl)) dL_law_817 ⟨Nat.le_refl _, Nat.le_refl _⟩) hS (fun q h9 => wA.lo hg q h9) (fun H locs hQ hk hS => ?_)
  have hPR := wKeep hPR (wOffL (c := 0) (n := 16) (x := 0) hdis rfl) hk
  obtain ⟨hPT, hPM, hPB, hPL, hPS⟩ := hQ
  refine lv_aload_n hx hb dL_law_820 rfl (lv_at hl 2 rfl) ?_
  refine lv_aload_n hx hb dL_law_821 rfl (lv_at hl 0 rfl) ?_
  refine lv_iload_n hx hb dL_law_822 rfl (lv_at hl 3 rfl) ?_
  refine lv_iconst (v := 1) hx hb dL_law_823 (by decide) ?_
  refine lv_iadd hx hb dL_law_824 ?_
  refine va_sld hx hb hX hbl hbA hS (sc_i h0 h5 hL (by omega) (by omega)) dL_law_825 ?_
  refine lv_aload_n hx hb dL_law_826 rfl (lv_at hl 0 rfl) ?_
  refine lv_iload_n hx hb dL_law_827 rfl (lv_at hl 3 rfl) ?_
  refine lv_iconst (v := 2) hx hb dL_law_828 (by decide) ?_
  refine lv_iadd hx hb dL_law_829 ?_
  refine va_sld hx hb hX hbl hbA hS (sc_i h0 h5 hL (by omega) (by omega)) dL_law_830 ?_
  refine lv_aload_n hx hb dL_law_831 rfl (lv_at hl 0 rfl) ?_
  refine lv_iload_n hx hb dL_law_832 rfl (lv_at hl 3 rfl) ?_
  refine lv_iconst (v := 3) hx hb dL_law_833 (by decide) ?_
  refine lv_iadd hx hb dL_law_834 ?_
  refine va_sld hx hb hX hbl hbA hS (sc_i h0 h5 hL (by omega) (by omega)) dL_law_835 ?_
  refine runW_i (P := fun H => va_P D vwCl (cellR cI gR (m_R_scatter sR (xs (Int32.toNatClampNeg (i3 + 1))) (xs (Int32.toNatClampNeg (i3 + 2))) (xs (Int32.toNatClampNeg (i3 + 3)))).2 vR) H) (va_runV (As := [.int (xs (Int32.toNatClampNeg (i3 + 1))), .int (xs (Int32.toNatClampNeg (i3 + 2))), .int (xs (Int32.toNatClampNeg (i3 + 3)))]) (rest := [.int (m_T_scatter sT sL (xs (Int32.toNatClampNeg (i3 + 1))) (xs (Int32.toNatClampNeg (i3 + 2))) (xs (Int32.toNatClampNeg (i3 + 3)))).1]) ⟨hx, hb, hml, hown, hts⟩ (K_R_scatter hgR sR vR (xs (Int32.toNatClampNeg (i3 + 1))) (xs (Int32.toNatClampNeg (i3 + 2))) (xs (Int32.toNatClampNeg (i3 + 3)))) (cwV 3 hts gL_law_X5_scatter rfl rfl rfl (by decide +kernel) ⟨Nat.le_of_ble_eq_true rfl, Nat.le_of_ble_eq_true rfl⟩) (preV_of hE hA hS hPR (va_recv hE.1 hPR (ci := 5) (q0 := 0) rfl rfl)) rfl rfl hl.1 rfl (lv_room (Nat.le_of_ble_eq_true rfl)) dL_law_836 ⟨Nat.le_refl _, Nat.le_refl _⟩) hS (fun q h9 => wA.lo hgR q h9) (fun H locs hQ hk hS => ?_)
  have hPT := wKeep hPT (wOffL (gR := g) (g := gR) (c := 0) (n := 1) (x := 0) (y := 16) (fun i j hi hj e => hdis j i (by omega) hi e.symm) rfl) hk
  have hPM := wKeep hPM (wOffL (gR := g) (g := gR) (c := 1) (n := 5) (x := 0) (y := 16) (fun i j hi hj e => hdis j i (by omega) hi e.symm) rfl) hk
  have hPB := wKeep hPB (wOffL (gR := g) (g := gR) (c := 6) (n := 6) (x := 0) (y := 16) (fun i j hi hj e => hdis j i (by omega) hi e.symm) rfl) hk
  have hPL := wKeep hPL (wOffL (gR := g) (g := gR) (c := 12) (n := 5) (x := 0) (y := 16) (fun i j hi hj e => hdis j i (by omega) hi e.symm) rfl) hk
  have hPS := wKeep hPS (wOffL (gR := g) (g := gR) (c := 17) (n := 2) (x := 0) (y := 16) (fun i j hi hj e => hdis j i (by omega) hi e.symm) rfl) hk
  have hPR := hQ
  have hp9 := P_scatter hr9 (xs (Int32.toNatClampNeg (i3 + 1))) (xs (Int32.toNatClampNeg (i3 + 2))) (xs (Int32.toNatClampNeg (i3 + 3)))
  refine lv_icmp_eq (tgt := 1215) hx hb dL_law_839 (by decide) (fun c => ?_) (fun c => absurd hp9.1 c)
  exact kk _ _ _ _ _ _ _ _ H locs ls hp9.2 ⟨hPT, hPM, hPB, hPL, hPS, hPR⟩ hS hl
set_option maxHeartbeats 4000000 in
set_option maxRecDepth 100000 in
theorem lc_22 {p : Program} {e : Env} {s : State} {m : MethodId} {below : List Frame} {meth : Method} {c : Code} {l : Launch} {b L : Nat} {xs : Nat → Int32} (hL : L ≤ 2560) (C0 : lw_At p s m meth c b L xs) {D : va_G} {cI : ClassId} (hE : EV D cI s.heap.size s s.heap) {g gR : Nat → Nat} (hg : wI g 0 19 s.heap.size) (hgR : wI gR 0 16 s.heap.size) (hdis : ∀ i j : Nat, i < 19 → j < 16 → g i ≠ gR j) {i3 : Int32} (h0 : 0 ≤ i3.toInt) (h5 : i3.toInt + 5 ≤ (L : Int)) {sT : St} {vT : Int64} {sM sB sL sS sR : St} {vR : Int64} (hr9 : Rel sT vT sM sB sL sS sR vR) {H : Heap} {locs : List Loc} {ls : Array Slot} (hW : Wd D cI g gR sT vT sM sB sL sS sR vR H) (hS : va_S (fun q : Nat => s.heap.size ≤ q) s.heap H locs) (hl : lv_has ls 4 [(0, .ref b), (1, .ref (g 0)), (2, .ref (gR 0)), (3, .int i3)]) (kk : (∀ (sT : St) (vT : Int64) (sM sB sL sS sR : St) (vR : Int64) (H : Heap) (locs : List Loc) (ls : Array Slot), Rel sT vT sM sB sL sS sR vR → Wd D cI g gR sT vT sM sB sL sS sR vR H → va_S (fun q : Nat => s.heap.size ≤ q) s.heap H locs → lv_has ls 4 [(0, .ref b), (1, .ref (g 0)), (2, .ref (gR 0)), (3, .int i3)] → W p l e room_1 s m #[Value.ref b] below meth c H locs 600000 7302250 (lw_Z below #[Value.ref b] s) (F0 m 1215 ls []))) : W p l e room_1 s m #[Value.ref b] below meth c H locs 600000 7302250 (lw_Z below #[Value.ref b] s) (F0 m 844 ls []) := by
  obtain ⟨hx, hb, hr, hml, hown, hts0, hX, hbl, hlocks, hgv⟩ := id C0
  have hts := hts0
  have hown : s.vm.findClass RL = some m.cls := hown
  have hbA : ¬ (fun q : Nat => s.heap.size ≤ q) b := Nat.not_le.mpr hbl
  have hA : ∀ q : Nat, (fun q : Nat => s.heap.size ≤ q) q → s.heap.size ≤ q := fun _ h => h
  have z1 := tl_1
  have z2 := tl_2
  have z3 := tl_3
  have z4 := tl_4
  have oL := Rel_okL hr9
  have oB := Rel_okB hr9
  have oR := hr9.1
  obtain ⟨hPT, hPM, hPB, hPL, hPS, hPR⟩ := hW
  refine lv_aload_n hx hb dL_law_844 rfl (lv_at hl 1 rfl) ?_
  refine lv_aload_n hx hb dL_law_845 rfl (lv_at hl 0 rfl) ?_
  refine lv_iload_n hx hb dL_law_846 rfl (lv_at hl 3 rfl) ?_
  refine lv_iconst (v := 1) hx hb dL_law_847 (by decide) ?_
  refine lv_iadd hx hb dL_law_848 ?_
  refine va_sld hx hb hX hbl hbA hS (sc_i h0 h5 hL (by omega) (by omega)) dL_law_849 ?_
  refine lv_aload_n hx hb dL_law_850 rfl (lv_at hl 0 rfl) ?_
  refine lv_iload_n hx hb dL_law_851 rfl (lv_at hl 3 rfl) ?_
  refine lv_iconst (v := 2) hx hb dL_law_852 (by decide) ?_
  refine lv_iadd hx hb dL_law_853 ?_
  refine va_sld hx hb hX hbl hbA hS (sc_i h0 h5 hL (by omega) (by omega)) dL_law_854 ?_
  refine lv_aload_n hx hb dL_law_855 rfl (lv_at hl 0 rfl) ?_
  refine lv_iload_n hx hb dL_law_856 rfl (lv_at hl 3 rfl) ?_
  refine lv_iconst (v := 3) hx hb dL_law_857 (by decide) ?_
  refine lv_iadd hx hb dL_law_858 ?_
  refine va_sld hx hb hX hbl hbA hS (sc_i h0 h5 hL (by omega) (by omega)) dL_law_859 ?_
  refine runW_i (P := fun H => va_P D vwCl (cellT cI g sT vT) H ∧ va_P D vwCl (cellM cI g sM) H ∧ va_P D vwCl (cellB cI g sB) H ∧ va_P D vwCl (cellL cI g (m_T_worth sT sL (xs (Int32.toNatClampNeg (i3 + 1))) (xs (Int32.toNatClampNeg (i3 + 2))) (xs (Int32.toNatClampNeg (i3 + 3)))).2) H ∧ va_P D vwCl (cellS cI g sS) H) (va_runV (As := [.int (xs (Int32.toNatClampNeg (i3 + 1))), .int (xs (Int32.toNatClampNeg (i3 + 2))), .int (xs (Int32.toNatClampNeg (i3 + 3)))]) (rest := []) ⟨hx, hb, hml, hown, hts⟩ (K_T_worth hg sT vT sM sB sL sS (xs (Int32.toNatClampNeg (i3 + 1))) (xs (Int32.toNatClampNeg (i3 + 2))) (xs (Int32.toNatClampNeg (i3 + 3))) oL) (cwV 3 hts gL_law_X4_worth rfl rfl rfl (by decide +kernel) ⟨Nat.le_of_ble_eq_true rfl, Nat.le_of_ble_eq_true rfl⟩) (preV_of hE hA hS ⟨hPT, hPM, hPB, hPL, hPS⟩ (va_recv hE.1 hPT (ci := 4) (q0 := 0) rfl rfl)) rfl rfl hl.1 rfl (lv_room (Nat.le_of_ble_eq_true rfl)) dL_law_860 ⟨Nat.le_refl _, Nat.le_refl _⟩) hS (fun q h9 => wA.lo hg q h9) (fun H locs hQ hk hS => ?_)
  have hPR := wKeep hPR (wOffL (c := 0) (n := 16) (x := 0) hdis rfl) hk
  obtain ⟨hPT, hPM, hPB, hPL, hPS⟩ := hQ
  refine lv_aload_n hx hb dL_law_863 rfl (lv_at hl 2 rfl) ?_
  refine lv_aload_n hx hb dL_law_864 rfl (lv_at hl 0 rfl) ?_
  refine lv_iload_n hx hb dL_law_865 rfl (lv_at hl 3 rfl) ?_
  refine lv_iconst (v := 1) hx hb dL_law_866 (by decide) ?_
  refine lv_iadd hx hb dL_law_867 ?_
  refine va_sld hx hb hX hbl hbA hS (sc_i h0 h5 hL (by omega) (by omega)) dL_law_868 ?_
  refine lv_aload_n hx hb dL_law_869 rfl (lv_at hl 0 rfl) ?_
  refine lv_iload_n hx hb dL_law_870 rfl (lv_at hl 3 rfl) ?_
  refine lv_iconst (v := 2) hx hb dL_law_871 (by decide) ?_
  refine lv_iadd hx hb dL_law_872 ?_
  refine va_sld hx hb hX hbl hbA hS (sc_i h0 h5 hL (by omega) (by omega)) dL_law_873 ?_
  refine lv_aload_n hx hb dL_law_874 rfl (lv_at hl 0 rfl) ?_
  refine lv_iload_n hx hb dL_law_875 rfl (lv_at hl 3 rfl) ?_
  refine lv_iconst (v := 3) hx hb dL_law_876 (by decide) ?_
  refine lv_iadd hx hb dL_law_877 ?_
  refine va_sld hx hb hX hbl hbA hS (sc_i h0 h5 hL (by omega) (by omega)) dL_law_878 ?_
  refine runW_i (P := fun H => va_P D vwCl (cellR cI gR (m_R_worth sR (xs (Int32.toNatClampNeg (i3 + 1))) (xs (Int32.toNatClampNeg (i3 + 2))) (xs (Int32.toNatClampNeg (i3 + 3)))).2 vR) H) (va_runV (As := [.int (xs (Int32.toNatClampNeg (i3 + 1))), .int (xs (Int32.toNatClampNeg (i3 + 2))), .int (xs (Int32.toNatClampNeg (i3 + 3)))]) (rest := [.int (m_T_worth sT sL (xs (Int32.toNatClampNeg (i3 + 1))) (xs (Int32.toNatClampNeg (i3 + 2))) (xs (Int32.toNatClampNeg (i3 + 3)))).1]) ⟨hx, hb, hml, hown, hts⟩ (K_R_worth hgR sR vR (xs (Int32.toNatClampNeg (i3 + 1))) (xs (Int32.toNatClampNeg (i3 + 2))) (xs (Int32.toNatClampNeg (i3 + 3))) oR) (cwV 3 hts gL_law_X5_worth rfl rfl rfl (by decide +kernel) ⟨Nat.le_of_ble_eq_true rfl, Nat.le_of_ble_eq_true rfl⟩) (preV_of hE hA hS hPR (va_recv hE.1 hPR (ci := 5) (q0 := 0) rfl rfl)) rfl rfl hl.1 rfl (lv_room (Nat.le_of_ble_eq_true rfl)) dL_law_879 ⟨Nat.le_refl _, Nat.le_refl _⟩) hS (fun q h9 => wA.lo hgR q h9) (fun H locs hQ hk hS => ?_)
  have hPT := wKeep hPT (wOffL (gR := g) (g := gR) (c := 0) (n := 1) (x := 0) (y := 16) (fun i j hi hj e => hdis j i (by omega) hi e.symm) rfl) hk
  have hPM := wKeep hPM (wOffL (gR := g) (g := gR) (c := 1) (n := 5) (x := 0) (y := 16) (fun i j hi hj e => hdis j i (by omega) hi e.symm) rfl) hk
  have hPB := wKeep hPB (wOffL (gR := g) (g := gR) (c := 6) (n := 6) (x := 0) (y := 16) (fun i j hi hj e => hdis j i (by omega) hi e.symm) rfl) hk
  have hPL := wKeep hPL (wOffL (gR := g) (g := gR) (c := 12) (n := 5) (x := 0) (y := 16) (fun i j hi hj e => hdis j i (by omega) hi e.symm) rfl) hk
  have hPS := wKeep hPS (wOffL (gR := g) (g := gR) (c := 17) (n := 2) (x := 0) (y := 16) (fun i j hi hj e => hdis j i (by omega) hi e.symm) rfl) hk
  have hPR := hQ
  have hp9 := P_worth hr9 (xs (Int32.toNatClampNeg (i3 + 1))) (xs (Int32.toNatClampNeg (i3 + 2))) (xs (Int32.toNatClampNeg (i3 + 3)))
  refine lv_icmp_eq (tgt := 1215) hx hb dL_law_882 (by decide) (fun c => ?_) (fun c => absurd hp9.1 c)
  exact kk _ _ _ _ _ _ _ _ H locs ls hp9.2 ⟨hPT, hPM, hPB, hPL, hPS, hPR⟩ hS hl
set_option maxHeartbeats 4000000 in
set_option maxRecDepth 100000 in
theorem lc_23 {p : Program} {e : Env} {s : State} {m : MethodId} {below : List Frame} {meth : Method} {c : Code} {l : Launch} {b L : Nat} {xs : Nat → Int32} (hL : L ≤ 2560) (C0 : lw_At p s m meth c b L xs) {D : va_G} {cI : ClassId} (hE : EV D cI s.heap.size s s.heap) {g gR : Nat → Nat} (hg : wI g 0 19 s.heap.size) (hgR : wI gR 0 16 s.heap.size) (hdis : ∀ i j : Nat, i < 19 → j < 16 → g i ≠ gR j) {i3 : Int32} (h0 : 0 ≤ i3.toInt) (h5 : i3.toInt + 5 ≤ (L : Int)) {sT : St} {vT : Int64} {sM sB sL sS sR : St} {vR : Int64} (hr9 : Rel sT vT sM sB sL sS sR vR) {H : Heap} {locs : List Loc} {ls : Array Slot} (hW : Wd D cI g gR sT vT sM sB sL sS sR vR H) (hS : va_S (fun q : Nat => s.heap.size ≤ q) s.heap H locs) (hl : lv_has ls 4 [(0, .ref b), (1, .ref (g 0)), (2, .ref (gR 0)), (3, .int i3)]) (kk : (∀ (sT : St) (vT : Int64) (sM sB sL sS sR : St) (vR : Int64) (H : Heap) (locs : List Loc) (ls : Array Slot), Rel sT vT sM sB sL sS sR vR → Wd D cI g gR sT vT sM sB sL sS sR vR H → va_S (fun q : Nat => s.heap.size ≤ q) s.heap H locs → lv_has ls 4 [(0, .ref b), (1, .ref (g 0)), (2, .ref (gR 0)), (3, .int i3)] → W p l e room_1 s m #[Value.ref b] below meth c H locs 600000 7302250 (lw_Z below #[Value.ref b] s) (F0 m 1215 ls []))) : W p l e room_1 s m #[Value.ref b] below meth c H locs 600000 7302250 (lw_Z below #[Value.ref b] s) (F0 m 887 ls []) := by
  obtain ⟨hx, hb, hr, hml, hown, hts0, hX, hbl, hlocks, hgv⟩ := id C0
  have hts := hts0
  have hown : s.vm.findClass RL = some m.cls := hown
  have hbA : ¬ (fun q : Nat => s.heap.size ≤ q) b := Nat.not_le.mpr hbl
  have hA : ∀ q : Nat, (fun q : Nat => s.heap.size ≤ q) q → s.heap.size ≤ q := fun _ h => h
  have z1 := tl_1
  have z2 := tl_2
  have z3 := tl_3
  have z4 := tl_4
  have oL := Rel_okL hr9
  have oB := Rel_okB hr9
  have oR := hr9.1
  obtain ⟨hPT, hPM, hPB, hPL, hPS, hPR⟩ := hW
  refine lv_aload_n hx hb dL_law_887 rfl (lv_at hl 1 rfl) ?_
  refine lv_aload_n hx hb dL_law_888 rfl (lv_at hl 0 rfl) ?_
  refine lv_iload_n hx hb dL_law_889 rfl (lv_at hl 3 rfl) ?_
  refine lv_iconst (v := 1) hx hb dL_law_890 (by decide) ?_
  refine lv_iadd hx hb dL_law_891 ?_
  refine va_sld hx hb hX hbl hbA hS (sc_i h0 h5 hL (by omega) (by omega)) dL_law_892 ?_
  refine lv_aload_n hx hb dL_law_893 rfl (lv_at hl 0 rfl) ?_
  refine lv_iload_n hx hb dL_law_894 rfl (lv_at hl 3 rfl) ?_
  refine lv_iconst (v := 2) hx hb dL_law_895 (by decide) ?_
  refine lv_iadd hx hb dL_law_896 ?_
  refine va_sld hx hb hX hbl hbA hS (sc_i h0 h5 hL (by omega) (by omega)) dL_law_897 ?_
  refine runW_i (P := fun H => va_P D vwCl (cellT cI g sT vT) H ∧ va_P D vwCl (cellM cI g sM) H ∧ va_P D vwCl (cellB cI g sB) H ∧ va_P D vwCl (cellL cI g (m_T_aim sT sL (xs (Int32.toNatClampNeg (i3 + 1))) (xs (Int32.toNatClampNeg (i3 + 2)))).2) H ∧ va_P D vwCl (cellS cI g sS) H) (va_runV (As := [.int (xs (Int32.toNatClampNeg (i3 + 1))), .int (xs (Int32.toNatClampNeg (i3 + 2)))]) (rest := []) ⟨hx, hb, hml, hown, hts⟩ (K_T_aim hg sT vT sM sB sL sS (xs (Int32.toNatClampNeg (i3 + 1))) (xs (Int32.toNatClampNeg (i3 + 2))) oL) (cwV 2 hts gL_law_X4_aim rfl rfl rfl (by decide +kernel) ⟨Nat.le_of_ble_eq_true rfl, Nat.le_of_ble_eq_true rfl⟩) (preV_of hE hA hS ⟨hPT, hPM, hPB, hPL, hPS⟩ (va_recv hE.1 hPT (ci := 4) (q0 := 0) rfl rfl)) rfl rfl hl.1 rfl (lv_room (Nat.le_of_ble_eq_true rfl)) dL_law_898 ⟨Nat.le_refl _, Nat.le_refl _⟩) hS (fun q h9 => wA.lo hg q h9) (fun H locs hQ hk hS => ?_)
  have hPR := wKeep hPR (wOffL (c := 0) (n := 16) (x := 0) hdis rfl) hk
  obtain ⟨hPT, hPM, hPB, hPL, hPS⟩ := hQ
  refine lv_aload_n hx hb dL_law_901 rfl (lv_at hl 2 rfl) ?_
  refine lv_aload_n hx hb dL_law_902 rfl (lv_at hl 0 rfl) ?_
  refine lv_iload_n hx hb dL_law_903 rfl (lv_at hl 3 rfl) ?_
  refine lv_iconst (v := 1) hx hb dL_law_904 (by decide) ?_
  refine lv_iadd hx hb dL_law_905 ?_
  refine va_sld hx hb hX hbl hbA hS (sc_i h0 h5 hL (by omega) (by omega)) dL_law_906 ?_
  refine lv_aload_n hx hb dL_law_907 rfl (lv_at hl 0 rfl) ?_
  refine lv_iload_n hx hb dL_law_908 rfl (lv_at hl 3 rfl) ?_
  refine lv_iconst (v := 2) hx hb dL_law_909 (by decide) ?_
  refine lv_iadd hx hb dL_law_910 ?_
  refine va_sld hx hb hX hbl hbA hS (sc_i h0 h5 hL (by omega) (by omega)) dL_law_911 ?_
  refine runW_i (P := fun H => va_P D vwCl (cellR cI gR (m_R_aim sR (xs (Int32.toNatClampNeg (i3 + 1))) (xs (Int32.toNatClampNeg (i3 + 2)))).2 vR) H) (va_runV (As := [.int (xs (Int32.toNatClampNeg (i3 + 1))), .int (xs (Int32.toNatClampNeg (i3 + 2)))]) (rest := [.int (m_T_aim sT sL (xs (Int32.toNatClampNeg (i3 + 1))) (xs (Int32.toNatClampNeg (i3 + 2)))).1]) ⟨hx, hb, hml, hown, hts⟩ (K_R_aim hgR sR vR (xs (Int32.toNatClampNeg (i3 + 1))) (xs (Int32.toNatClampNeg (i3 + 2))) oR) (cwV 2 hts gL_law_X5_aim rfl rfl rfl (by decide +kernel) ⟨Nat.le_of_ble_eq_true rfl, Nat.le_of_ble_eq_true rfl⟩) (preV_of hE hA hS hPR (va_recv hE.1 hPR (ci := 5) (q0 := 0) rfl rfl)) rfl rfl hl.1 rfl (lv_room (Nat.le_of_ble_eq_true rfl)) dL_law_912 ⟨Nat.le_refl _, Nat.le_refl _⟩) hS (fun q h9 => wA.lo hgR q h9) (fun H locs hQ hk hS => ?_)
  have hPT := wKeep hPT (wOffL (gR := g) (g := gR) (c := 0) (n := 1) (x := 0) (y := 16) (fun i j hi hj e => hdis j i (by omega) hi e.symm) rfl) hk
  have hPM := wKeep hPM (wOffL (gR := g) (g := gR) (c := 1) (n := 5) (x := 0) (y := 16) (fun i j hi hj e => hdis j i (by omega) hi e.symm) rfl) hk
  have hPB := wKeep hPB (wOffL (gR := g) (g := gR) (c := 6) (n := 6) (x := 0) (y := 16) (fun i j hi hj e => hdis j i (by omega) hi e.symm) rfl) hk
  have hPL := wKeep hPL (wOffL (gR := g) (g := gR) (c := 12) (n := 5) (x := 0) (y := 16) (fun i j hi hj e => hdis j i (by omega) hi e.symm) rfl) hk
  have hPS := wKeep hPS (wOffL (gR := g) (g := gR) (c := 17) (n := 2) (x := 0) (y := 16) (fun i j hi hj e => hdis j i (by omega) hi e.symm) rfl) hk
  have hPR := hQ
  have hp9 := P_aim hr9 (xs (Int32.toNatClampNeg (i3 + 1))) (xs (Int32.toNatClampNeg (i3 + 2)))
  refine lv_icmp_eq (tgt := 1215) hx hb dL_law_915 (by decide) (fun c => ?_) (fun c => absurd hp9.1 c)
  exact kk _ _ _ _ _ _ _ _ H locs ls hp9.2 ⟨hPT, hPM, hPB, hPL, hPS, hPR⟩ hS hl
set_option maxHeartbeats 4000000 in
set_option maxRecDepth 100000 in
theorem lc_24 {p : Program} {e : Env} {s : State} {m : MethodId} {below : List Frame} {meth : Method} {c : Code} {l : Launch} {b L : Nat} {xs : Nat → Int32} (hL : L ≤ 2560) (C0 : lw_At p s m meth c b L xs) {D : va_G} {cI : ClassId} (hE : EV D cI s.heap.size s s.heap) {g gR : Nat → Nat} (hg : wI g 0 19 s.heap.size) (hgR : wI gR 0 16 s.heap.size) (hdis : ∀ i j : Nat, i < 19 → j < 16 → g i ≠ gR j) {i3 : Int32} (h0 : 0 ≤ i3.toInt) (h5 : i3.toInt + 5 ≤ (L : Int)) {sT : St} {vT : Int64} {sM sB sL sS sR : St} {vR : Int64} (hr9 : Rel sT vT sM sB sL sS sR vR) {H : Heap} {locs : List Loc} {ls : Array Slot} (hW : Wd D cI g gR sT vT sM sB sL sS sR vR H) (hS : va_S (fun q : Nat => s.heap.size ≤ q) s.heap H locs) (hl : lv_has ls 4 [(0, .ref b), (1, .ref (g 0)), (2, .ref (gR 0)), (3, .int i3)]) (kk : (∀ (sT : St) (vT : Int64) (sM sB sL sS sR : St) (vR : Int64) (H : Heap) (locs : List Loc) (ls : Array Slot), Rel sT vT sM sB sL sS sR vR → Wd D cI g gR sT vT sM sB sL sS sR vR H → va_S (fun q : Nat => s.heap.size ≤ q) s.heap H locs → lv_has ls 4 [(0, .ref b), (1, .ref (g 0)), (2, .ref (gR 0)), (3, .int i3)] → W p l e room_1 s m #[Value.ref b] below meth c H locs 600000 7302250 (lw_Z below #[Value.ref b] s) (F0 m 1215 ls []))) : W p l e room_1 s m #[Value.ref b] below meth c H locs 600000 7302250 (lw_Z below #[Value.ref b] s) (F0 m 920 ls []) := by
  obtain ⟨hx, hb, hr, hml, hown, hts0, hX, hbl, hlocks, hgv⟩ := id C0
  have hts := hts0
  have hown : s.vm.findClass RL = some m.cls := hown
  have hbA : ¬ (fun q : Nat => s.heap.size ≤ q) b := Nat.not_le.mpr hbl
  have hA : ∀ q : Nat, (fun q : Nat => s.heap.size ≤ q) q → s.heap.size ≤ q := fun _ h => h
  have z1 := tl_1
  have z2 := tl_2
  have z3 := tl_3
  have z4 := tl_4
  have oL := Rel_okL hr9
  have oB := Rel_okB hr9
  have oR := hr9.1
  obtain ⟨hPT, hPM, hPB, hPL, hPS, hPR⟩ := hW
  refine lv_aload_n hx hb dL_law_920 rfl (lv_at hl 1 rfl) ?_
  refine lv_aload_n hx hb dL_law_921 rfl (lv_at hl 0 rfl) ?_
  refine lv_iload_n hx hb dL_law_922 rfl (lv_at hl 3 rfl) ?_
  refine lv_iconst (v := 1) hx hb dL_law_923 (by decide) ?_
  refine lv_iadd hx hb dL_law_924 ?_
  refine va_sld hx hb hX hbl hbA hS (sc_i h0 h5 hL (by omega) (by omega)) dL_law_925 ?_
  refine lv_aload_n hx hb dL_law_926 rfl (lv_at hl 0 rfl) ?_
  refine lv_iload_n hx hb dL_law_927 rfl (lv_at hl 3 rfl) ?_
  refine lv_iconst (v := 2) hx hb dL_law_928 (by decide) ?_
  refine lv_iadd hx hb dL_law_929 ?_
  refine va_sld hx hb hX hbl hbA hS (sc_i h0 h5 hL (by omega) (by omega)) dL_law_930 ?_
  refine lv_aload_n hx hb dL_law_931 rfl (lv_at hl 0 rfl) ?_
  refine lv_iload_n hx hb dL_law_932 rfl (lv_at hl 3 rfl) ?_
  refine lv_iconst (v := 3) hx hb dL_law_933 (by decide) ?_
  refine lv_iadd hx hb dL_law_934 ?_
  refine va_sld hx hb hX hbl hbA hS (sc_i h0 h5 hL (by omega) (by omega)) dL_law_935 ?_
  refine lv_aload_n hx hb dL_law_936 rfl (lv_at hl 0 rfl) ?_
  refine lv_iload_n hx hb dL_law_937 rfl (lv_at hl 3 rfl) ?_
  refine lv_iconst (v := 4) hx hb dL_law_938 (by decide) ?_
  refine lv_iadd hx hb dL_law_939 ?_
  refine va_sld hx hb hX hbl hbA hS (sc_i h0 h5 hL (by omega) (by omega)) dL_law_940 ?_
  refine runW_l (P := fun H => va_P D vwCl (cellT cI g sT vT) H ∧ va_P D vwCl (cellM cI g sM) H ∧ va_P D vwCl (cellB cI g sB) H ∧ va_P D vwCl (cellL cI g (m_T_held sT sL (xs (Int32.toNatClampNeg (i3 + 1))) (xs (Int32.toNatClampNeg (i3 + 2))) (xs (Int32.toNatClampNeg (i3 + 3))) (xs (Int32.toNatClampNeg (i3 + 4)))).2) H ∧ va_P D vwCl (cellS cI g sS) H) (va_runV (As := [.int (xs (Int32.toNatClampNeg (i3 + 1))), .int (xs (Int32.toNatClampNeg (i3 + 2))), .int (xs (Int32.toNatClampNeg (i3 + 3))), .int (xs (Int32.toNatClampNeg (i3 + 4)))]) (rest := []) ⟨hx, hb, hml, hown, hts⟩ (K_T_held hg sT vT sM sB sL sS (xs (Int32.toNatClampNeg (i3 + 1))) (xs (Int32.toNatClampNeg (i3 + 2))) (xs (Int32.toNatClampNeg (i3 + 3))) (xs (Int32.toNatClampNeg (i3 + 4))) oL) (cwV 4 hts gL_law_X4_held rfl rfl rfl (by decide +kernel) ⟨Nat.le_of_ble_eq_true rfl, Nat.le_of_ble_eq_true rfl⟩) (preV_of hE hA hS ⟨hPT, hPM, hPB, hPL, hPS⟩ (va_recv hE.1 hPT (ci := 4) (q0 := 0) rfl rfl)) rfl rfl hl.1 rfl (lv_room (Nat.le_of_ble_eq_true rfl)) dL_law_941 ⟨Nat.le_refl _, Nat.le_refl _⟩) hS (fun q h9 => wA.lo hg q h9) (fun H locs hQ hk hS => ?_)
  have hPR := wKeep hPR (wOffL (c := 0) (n := 16) (x := 0) hdis rfl) hk
  obtain ⟨hPT, hPM, hPB, hPL, hPS⟩ := hQ
  refine lv_aload_n hx hb dL_law_944 rfl (lv_at hl 2 rfl) ?_
  refine lv_aload_n hx hb dL_law_945 rfl (lv_at hl 0 rfl) ?_
  refine lv_iload_n hx hb dL_law_946 rfl (lv_at hl 3 rfl) ?_
  refine lv_iconst (v := 1) hx hb dL_law_947 (by decide) ?_
  refine lv_iadd hx hb dL_law_948 ?_
  refine va_sld hx hb hX hbl hbA hS (sc_i h0 h5 hL (by omega) (by omega)) dL_law_949 ?_
  refine lv_aload_n hx hb dL_law_950 rfl (lv_at hl 0 rfl) ?_
  refine lv_iload_n hx hb dL_law_951 rfl (lv_at hl 3 rfl) ?_
  refine lv_iconst (v := 2) hx hb dL_law_952 (by decide) ?_
  refine lv_iadd hx hb dL_law_953 ?_
  refine va_sld hx hb hX hbl hbA hS (sc_i h0 h5 hL (by omega) (by omega)) dL_law_954 ?_
  refine lv_aload_n hx hb dL_law_955 rfl (lv_at hl 0 rfl) ?_
  refine lv_iload_n hx hb dL_law_956 rfl (lv_at hl 3 rfl) ?_
  refine lv_iconst (v := 3) hx hb dL_law_957 (by decide) ?_
  refine lv_iadd hx hb dL_law_958 ?_
  refine va_sld hx hb hX hbl hbA hS (sc_i h0 h5 hL (by omega) (by omega)) dL_law_959 ?_
  refine lv_aload_n hx hb dL_law_960 rfl (lv_at hl 0 rfl) ?_
  refine lv_iload_n hx hb dL_law_961 rfl (lv_at hl 3 rfl) ?_
  refine lv_iconst (v := 4) hx hb dL_law_962 (by decide) ?_
  refine lv_iadd hx hb dL_law_963 ?_
  refine va_sld hx hb hX hbl hbA hS (sc_i h0 h5 hL (by omega) (by omega)) dL_law_964 ?_
  refine runW_l (P := fun H => va_P D vwCl (cellR cI gR (m_R_held sR (xs (Int32.toNatClampNeg (i3 + 1))) (xs (Int32.toNatClampNeg (i3 + 2))) (xs (Int32.toNatClampNeg (i3 + 3))) (xs (Int32.toNatClampNeg (i3 + 4)))).2 vR) H) (va_runV (As := [.int (xs (Int32.toNatClampNeg (i3 + 1))), .int (xs (Int32.toNatClampNeg (i3 + 2))), .int (xs (Int32.toNatClampNeg (i3 + 3))), .int (xs (Int32.toNatClampNeg (i3 + 4)))]) (rest := [.long (m_T_held sT sL (xs (Int32.toNatClampNeg (i3 + 1))) (xs (Int32.toNatClampNeg (i3 + 2))) (xs (Int32.toNatClampNeg (i3 + 3))) (xs (Int32.toNatClampNeg (i3 + 4)))).1]) ⟨hx, hb, hml, hown, hts⟩ (K_R_held hgR sR vR (xs (Int32.toNatClampNeg (i3 + 1))) (xs (Int32.toNatClampNeg (i3 + 2))) (xs (Int32.toNatClampNeg (i3 + 3))) (xs (Int32.toNatClampNeg (i3 + 4))) oR) (cwV 4 hts gL_law_X5_held rfl rfl rfl (by decide +kernel) ⟨Nat.le_of_ble_eq_true rfl, Nat.le_of_ble_eq_true rfl⟩) (preV_of hE hA hS hPR (va_recv hE.1 hPR (ci := 5) (q0 := 0) rfl rfl)) rfl rfl hl.1 rfl (lv_room (Nat.le_of_ble_eq_true rfl)) dL_law_965 ⟨Nat.le_refl _, Nat.le_refl _⟩) hS (fun q h9 => wA.lo hgR q h9) (fun H locs hQ hk hS => ?_)
  have hPT := wKeep hPT (wOffL (gR := g) (g := gR) (c := 0) (n := 1) (x := 0) (y := 16) (fun i j hi hj e => hdis j i (by omega) hi e.symm) rfl) hk
  have hPM := wKeep hPM (wOffL (gR := g) (g := gR) (c := 1) (n := 5) (x := 0) (y := 16) (fun i j hi hj e => hdis j i (by omega) hi e.symm) rfl) hk
  have hPB := wKeep hPB (wOffL (gR := g) (g := gR) (c := 6) (n := 6) (x := 0) (y := 16) (fun i j hi hj e => hdis j i (by omega) hi e.symm) rfl) hk
  have hPL := wKeep hPL (wOffL (gR := g) (g := gR) (c := 12) (n := 5) (x := 0) (y := 16) (fun i j hi hj e => hdis j i (by omega) hi e.symm) rfl) hk
  have hPS := wKeep hPS (wOffL (gR := g) (g := gR) (c := 17) (n := 2) (x := 0) (y := 16) (fun i j hi hj e => hdis j i (by omega) hi e.symm) rfl) hk
  have hPR := hQ
  have hp9 := P_held hr9 (xs (Int32.toNatClampNeg (i3 + 1))) (xs (Int32.toNatClampNeg (i3 + 2))) (xs (Int32.toNatClampNeg (i3 + 3))) (xs (Int32.toNatClampNeg (i3 + 4)))
  refine W.lcmp hx hb dL_law_968 ?_
  refine lv_if_eq (tgt := 1215) hx hb dL_law_969 (by decide) (fun c => ?_) (fun c => absurd (lgc_eq hp9.1) c)
  exact kk _ _ _ _ _ _ _ _ H locs ls hp9.2 ⟨hPT, hPM, hPB, hPL, hPS, hPR⟩ hS hl
set_option maxHeartbeats 4000000 in
set_option maxRecDepth 100000 in
theorem lc_25 {p : Program} {e : Env} {s : State} {m : MethodId} {below : List Frame} {meth : Method} {c : Code} {l : Launch} {b L : Nat} {xs : Nat → Int32} (hL : L ≤ 2560) (C0 : lw_At p s m meth c b L xs) {D : va_G} {cI : ClassId} (hE : EV D cI s.heap.size s s.heap) {g gR : Nat → Nat} (hg : wI g 0 19 s.heap.size) (hgR : wI gR 0 16 s.heap.size) (hdis : ∀ i j : Nat, i < 19 → j < 16 → g i ≠ gR j) {i3 : Int32} (h0 : 0 ≤ i3.toInt) (h5 : i3.toInt + 5 ≤ (L : Int)) {sT : St} {vT : Int64} {sM sB sL sS sR : St} {vR : Int64} (hr9 : Rel sT vT sM sB sL sS sR vR) {H : Heap} {locs : List Loc} {ls : Array Slot} (hW : Wd D cI g gR sT vT sM sB sL sS sR vR H) (hS : va_S (fun q : Nat => s.heap.size ≤ q) s.heap H locs) (hl : lv_has ls 4 [(0, .ref b), (1, .ref (g 0)), (2, .ref (gR 0)), (3, .int i3)]) (kk : (∀ (sT : St) (vT : Int64) (sM sB sL sS sR : St) (vR : Int64) (H : Heap) (locs : List Loc) (ls : Array Slot), Rel sT vT sM sB sL sS sR vR → Wd D cI g gR sT vT sM sB sL sS sR vR H → va_S (fun q : Nat => s.heap.size ≤ q) s.heap H locs → lv_has ls 4 [(0, .ref b), (1, .ref (g 0)), (2, .ref (gR 0)), (3, .int i3)] → W p l e room_1 s m #[Value.ref b] below meth c H locs 600000 7302250 (lw_Z below #[Value.ref b] s) (F0 m 1215 ls []))) : W p l e room_1 s m #[Value.ref b] below meth c H locs 600000 7302250 (lw_Z below #[Value.ref b] s) (F0 m 974 ls []) := by
  obtain ⟨hx, hb, hr, hml, hown, hts0, hX, hbl, hlocks, hgv⟩ := id C0
  have hts := hts0
  have hown : s.vm.findClass RL = some m.cls := hown
  have hbA : ¬ (fun q : Nat => s.heap.size ≤ q) b := Nat.not_le.mpr hbl
  have hA : ∀ q : Nat, (fun q : Nat => s.heap.size ≤ q) q → s.heap.size ≤ q := fun _ h => h
  have z1 := tl_1
  have z2 := tl_2
  have z3 := tl_3
  have z4 := tl_4
  have oL := Rel_okL hr9
  have oB := Rel_okB hr9
  have oR := hr9.1
  obtain ⟨hPT, hPM, hPB, hPL, hPS, hPR⟩ := hW
  refine lv_aload_n hx hb dL_law_974 rfl (lv_at hl 1 rfl) ?_
  refine runW_i (P := fun H => va_P D vwCl (cellT cI g (m_T_wound sT).2 vT) H ∧ va_P D vwCl (cellM cI g sM) H ∧ va_P D vwCl (cellB cI g sB) H ∧ va_P D vwCl (cellL cI g sL) H ∧ va_P D vwCl (cellS cI g sS) H) (va_runV (As := []) (rest := []) ⟨hx, hb, hml, hown, hts⟩ (K_T_wound hg sT vT sM sB sL sS) (cwV 0 hts gL_law_X4_wound rfl rfl rfl (by decide +kernel) ⟨Nat.le_of_ble_eq_true rfl, Nat.le_of_ble_eq_true rfl⟩) (preV_of hE hA hS ⟨hPT, hPM, hPB, hPL, hPS⟩ (va_recv hE.1 hPT (ci := 4) (q0 := 0) rfl rfl)) rfl rfl hl.1 rfl (lv_room (Nat.le_of_ble_eq_true rfl)) dL_law_975 ⟨Nat.le_refl _, Nat.le_refl _⟩) hS (fun q h9 => wA.lo hg q h9) (fun H locs hQ hk hS => ?_)
  have hPR := wKeep hPR (wOffL (c := 0) (n := 16) (x := 0) hdis rfl) hk
  obtain ⟨hPT, hPM, hPB, hPL, hPS⟩ := hQ
  refine lv_aload_n hx hb dL_law_978 rfl (lv_at hl 2 rfl) ?_
  refine runW_i (P := fun H => va_P D vwCl (cellR cI gR (m_R_wound sR).2 vR) H) (va_runV (As := []) (rest := [.int (m_T_wound sT).1]) ⟨hx, hb, hml, hown, hts⟩ (K_R_wound hgR sR vR) (cwV 0 hts gL_law_X5_wound rfl rfl rfl (by decide +kernel) ⟨Nat.le_of_ble_eq_true rfl, Nat.le_of_ble_eq_true rfl⟩) (preV_of hE hA hS hPR (va_recv hE.1 hPR (ci := 5) (q0 := 0) rfl rfl)) rfl rfl hl.1 rfl (lv_room (Nat.le_of_ble_eq_true rfl)) dL_law_979 ⟨Nat.le_refl _, Nat.le_refl _⟩) hS (fun q h9 => wA.lo hgR q h9) (fun H locs hQ hk hS => ?_)
  have hPT := wKeep hPT (wOffL (gR := g) (g := gR) (c := 0) (n := 1) (x := 0) (y := 16) (fun i j hi hj e => hdis j i (by omega) hi e.symm) rfl) hk
  have hPM := wKeep hPM (wOffL (gR := g) (g := gR) (c := 1) (n := 5) (x := 0) (y := 16) (fun i j hi hj e => hdis j i (by omega) hi e.symm) rfl) hk
  have hPB := wKeep hPB (wOffL (gR := g) (g := gR) (c := 6) (n := 6) (x := 0) (y := 16) (fun i j hi hj e => hdis j i (by omega) hi e.symm) rfl) hk
  have hPL := wKeep hPL (wOffL (gR := g) (g := gR) (c := 12) (n := 5) (x := 0) (y := 16) (fun i j hi hj e => hdis j i (by omega) hi e.symm) rfl) hk
  have hPS := wKeep hPS (wOffL (gR := g) (g := gR) (c := 17) (n := 2) (x := 0) (y := 16) (fun i j hi hj e => hdis j i (by omega) hi e.symm) rfl) hk
  have hPR := hQ
  have hp9 := P_wound hr9
  refine lv_icmp_eq (tgt := 1215) hx hb dL_law_982 (by decide) (fun c => ?_) (fun c => absurd hp9.1 c)
  exact kk _ _ _ _ _ _ _ _ H locs ls hp9.2 ⟨hPT, hPM, hPB, hPL, hPS, hPR⟩ hS hl
set_option maxHeartbeats 4000000 in
set_option maxRecDepth 100000 in
theorem lc_26 {p : Program} {e : Env} {s : State} {m : MethodId} {below : List Frame} {meth : Method} {c : Code} {l : Launch} {b L : Nat} {xs : Nat → Int32} (hL : L ≤ 2560) (C0 : lw_At p s m meth c b L xs) {D : va_G} {cI : ClassId} (hE : EV D cI s.heap.size s s.heap) {g gR : Nat → Nat} (hg : wI g 0 19 s.heap.size) (hgR : wI gR 0 16 s.heap.size) (hdis : ∀ i j : Nat, i < 19 → j < 16 → g i ≠ gR j) {i3 : Int32} (h0 : 0 ≤ i3.toInt) (h5 : i3.toInt + 5 ≤ (L : Int)) {sT : St} {vT : Int64} {sM sB sL sS sR : St} {vR : Int64} (hr9 : Rel sT vT sM sB sL sS sR vR) {H : Heap} {locs : List Loc} {ls : Array Slot} (hW : Wd D cI g gR sT vT sM sB sL sS sR vR H) (hS : va_S (fun q : Nat => s.heap.size ≤ q) s.heap H locs) (hl : lv_has ls 4 [(0, .ref b), (1, .ref (g 0)), (2, .ref (gR 0)), (3, .int i3)]) (kk : (∀ (sT : St) (vT : Int64) (sM sB sL sS sR : St) (vR : Int64) (H : Heap) (locs : List Loc) (ls : Array Slot), Rel sT vT sM sB sL sS sR vR → Wd D cI g gR sT vT sM sB sL sS sR vR H → va_S (fun q : Nat => s.heap.size ≤ q) s.heap H locs → lv_has ls 4 [(0, .ref b), (1, .ref (g 0)), (2, .ref (gR 0)), (3, .int i3)] → W p l e room_1 s m #[Value.ref b] below meth c H locs 600000 7302250 (lw_Z below #[Value.ref b] s) (F0 m 1215 ls []))) : W p l e room_1 s m #[Value.ref b] below meth c H locs 600000 7302250 (lw_Z below #[Value.ref b] s) (F0 m 987 ls []) := by
  obtain ⟨hx, hb, hr, hml, hown, hts0, hX, hbl, hlocks, hgv⟩ := id C0
  have hts := hts0
  have hown : s.vm.findClass RL = some m.cls := hown
  have hbA : ¬ (fun q : Nat => s.heap.size ≤ q) b := Nat.not_le.mpr hbl
  have hA : ∀ q : Nat, (fun q : Nat => s.heap.size ≤ q) q → s.heap.size ≤ q := fun _ h => h
  have z1 := tl_1
  have z2 := tl_2
  have z3 := tl_3
  have z4 := tl_4
  have oL := Rel_okL hr9
  have oB := Rel_okB hr9
  have oR := hr9.1
  obtain ⟨hPT, hPM, hPB, hPL, hPS, hPR⟩ := hW
  refine lv_aload_n hx hb dL_law_987 rfl (lv_at hl 1 rfl) ?_
  refine runW_i (P := fun H => va_P D vwCl (cellT cI g (m_T_sling sT).2 vT) H ∧ va_P D vwCl (cellM cI g sM) H ∧ va_P D vwCl (cellB cI g sB) H ∧ va_P D vwCl (cellL cI g sL) H ∧ va_P D vwCl (cellS cI g sS) H) (va_runV (As := []) (rest := []) ⟨hx, hb, hml, hown, hts⟩ (K_T_sling hg sT vT sM sB sL sS) (cwV 0 hts gL_law_X4_sling rfl rfl rfl (by decide +kernel) ⟨Nat.le_of_ble_eq_true rfl, Nat.le_of_ble_eq_true rfl⟩) (preV_of hE hA hS ⟨hPT, hPM, hPB, hPL, hPS⟩ (va_recv hE.1 hPT (ci := 4) (q0 := 0) rfl rfl)) rfl rfl hl.1 rfl (lv_room (Nat.le_of_ble_eq_true rfl)) dL_law_988 ⟨Nat.le_refl _, Nat.le_refl _⟩) hS (fun q h9 => wA.lo hg q h9) (fun H locs hQ hk hS => ?_)
  have hPR := wKeep hPR (wOffL (c := 0) (n := 16) (x := 0) hdis rfl) hk
  obtain ⟨hPT, hPM, hPB, hPL, hPS⟩ := hQ
  refine lv_aload_n hx hb dL_law_991 rfl (lv_at hl 2 rfl) ?_
  refine runW_i (P := fun H => va_P D vwCl (cellR cI gR (m_R_sling sR).2 vR) H) (va_runV (As := []) (rest := [.int (m_T_sling sT).1]) ⟨hx, hb, hml, hown, hts⟩ (K_R_sling hgR sR vR) (cwV 0 hts gL_law_X5_sling rfl rfl rfl (by decide +kernel) ⟨Nat.le_of_ble_eq_true rfl, Nat.le_of_ble_eq_true rfl⟩) (preV_of hE hA hS hPR (va_recv hE.1 hPR (ci := 5) (q0 := 0) rfl rfl)) rfl rfl hl.1 rfl (lv_room (Nat.le_of_ble_eq_true rfl)) dL_law_992 ⟨Nat.le_refl _, Nat.le_refl _⟩) hS (fun q h9 => wA.lo hgR q h9) (fun H locs hQ hk hS => ?_)
  have hPT := wKeep hPT (wOffL (gR := g) (g := gR) (c := 0) (n := 1) (x := 0) (y := 16) (fun i j hi hj e => hdis j i (by omega) hi e.symm) rfl) hk
  have hPM := wKeep hPM (wOffL (gR := g) (g := gR) (c := 1) (n := 5) (x := 0) (y := 16) (fun i j hi hj e => hdis j i (by omega) hi e.symm) rfl) hk
  have hPB := wKeep hPB (wOffL (gR := g) (g := gR) (c := 6) (n := 6) (x := 0) (y := 16) (fun i j hi hj e => hdis j i (by omega) hi e.symm) rfl) hk
  have hPL := wKeep hPL (wOffL (gR := g) (g := gR) (c := 12) (n := 5) (x := 0) (y := 16) (fun i j hi hj e => hdis j i (by omega) hi e.symm) rfl) hk
  have hPS := wKeep hPS (wOffL (gR := g) (g := gR) (c := 17) (n := 2) (x := 0) (y := 16) (fun i j hi hj e => hdis j i (by omega) hi e.symm) rfl) hk
  have hPR := hQ
  have hp9 := P_sling hr9
  refine lv_icmp_eq (tgt := 1215) hx hb dL_law_995 (by decide) (fun c => ?_) (fun c => absurd hp9.1 c)
  exact kk _ _ _ _ _ _ _ _ H locs ls hp9.2 ⟨hPT, hPM, hPB, hPL, hPS, hPR⟩ hS hl
set_option maxHeartbeats 4000000 in
set_option maxRecDepth 100000 in
theorem lc_27 {p : Program} {e : Env} {s : State} {m : MethodId} {below : List Frame} {meth : Method} {c : Code} {l : Launch} {b L : Nat} {xs : Nat → Int32} (hL : L ≤ 2560) (C0 : lw_At p s m meth c b L xs) {D : va_G} {cI : ClassId} (hE : EV D cI s.heap.size s s.heap) {g gR : Nat → Nat} (hg : wI g 0 19 s.heap.size) (hgR : wI gR 0 16 s.heap.size) (hdis : ∀ i j : Nat, i < 19 → j < 16 → g i ≠ gR j) {i3 : Int32} (h0 : 0 ≤ i3.toInt) (h5 : i3.toInt + 5 ≤ (L : Int)) {sT : St} {vT : Int64} {sM sB sL sS sR : St} {vR : Int64} (hr9 : Rel sT vT sM sB sL sS sR vR) {H : Heap} {locs : List Loc} {ls : Array Slot} (hW : Wd D cI g gR sT vT sM sB sL sS sR vR H) (hS : va_S (fun q : Nat => s.heap.size ≤ q) s.heap H locs) (hl : lv_has ls 4 [(0, .ref b), (1, .ref (g 0)), (2, .ref (gR 0)), (3, .int i3)]) (kk : (∀ (sT : St) (vT : Int64) (sM sB sL sS sR : St) (vR : Int64) (H : Heap) (locs : List Loc) (ls : Array Slot), Rel sT vT sM sB sL sS sR vR → Wd D cI g gR sT vT sM sB sL sS sR vR H → va_S (fun q : Nat => s.heap.size ≤ q) s.heap H locs → lv_has ls 4 [(0, .ref b), (1, .ref (g 0)), (2, .ref (gR 0)), (3, .int i3)] → W p l e room_1 s m #[Value.ref b] below meth c H locs 600000 7302250 (lw_Z below #[Value.ref b] s) (F0 m 1215 ls []))) : W p l e room_1 s m #[Value.ref b] below meth c H locs 600000 7302250 (lw_Z below #[Value.ref b] s) (F0 m 1000 ls []) := by
  obtain ⟨hx, hb, hr, hml, hown, hts0, hX, hbl, hlocks, hgv⟩ := id C0
  have hts := hts0
  have hown : s.vm.findClass RL = some m.cls := hown
  have hbA : ¬ (fun q : Nat => s.heap.size ≤ q) b := Nat.not_le.mpr hbl
  have hA : ∀ q : Nat, (fun q : Nat => s.heap.size ≤ q) q → s.heap.size ≤ q := fun _ h => h
  have z1 := tl_1
  have z2 := tl_2
  have z3 := tl_3
  have z4 := tl_4
  have oL := Rel_okL hr9
  have oB := Rel_okB hr9
  have oR := hr9.1
  obtain ⟨hPT, hPM, hPB, hPL, hPS, hPR⟩ := hW
  refine lv_aload_n hx hb dL_law_1000 rfl (lv_at hl 1 rfl) ?_
  refine lv_aload_n hx hb dL_law_1001 rfl (lv_at hl 0 rfl) ?_
  refine lv_iload_n hx hb dL_law_1002 rfl (lv_at hl 3 rfl) ?_
  refine lv_iconst (v := 1) hx hb dL_law_1003 (by decide) ?_
  refine lv_iadd hx hb dL_law_1004 ?_
  refine va_sld hx hb hX hbl hbA hS (sc_i h0 h5 hL (by omega) (by omega)) dL_law_1005 ?_
  refine runW_i (P := fun H => va_P D vwCl (cellT cI g (m_T_near sT (xs (Int32.toNatClampNeg (i3 + 1)))).2 vT) H ∧ va_P D vwCl (cellM cI g sM) H ∧ va_P D vwCl (cellB cI g sB) H ∧ va_P D vwCl (cellL cI g sL) H ∧ va_P D vwCl (cellS cI g sS) H) (va_runV (As := [.int (xs (Int32.toNatClampNeg (i3 + 1)))]) (rest := []) ⟨hx, hb, hml, hown, hts⟩ (K_T_near hg sT vT sM sB sL sS (xs (Int32.toNatClampNeg (i3 + 1)))) (cwV 1 hts gL_law_X4_near rfl rfl rfl (by decide +kernel) ⟨Nat.le_of_ble_eq_true rfl, Nat.le_of_ble_eq_true rfl⟩) (preV_of hE hA hS ⟨hPT, hPM, hPB, hPL, hPS⟩ (va_recv hE.1 hPT (ci := 4) (q0 := 0) rfl rfl)) rfl rfl hl.1 rfl (lv_room (Nat.le_of_ble_eq_true rfl)) dL_law_1006 ⟨Nat.le_refl _, Nat.le_refl _⟩) hS (fun q h9 => wA.lo hg q h9) (fun H locs hQ hk hS => ?_)
  have hPR := wKeep hPR (wOffL (c := 0) (n := 16) (x := 0) hdis rfl) hk
  obtain ⟨hPT, hPM, hPB, hPL, hPS⟩ := hQ
  refine lv_aload_n hx hb dL_law_1009 rfl (lv_at hl 2 rfl) ?_
  refine lv_aload_n hx hb dL_law_1010 rfl (lv_at hl 0 rfl) ?_
  refine lv_iload_n hx hb dL_law_1011 rfl (lv_at hl 3 rfl) ?_
  refine lv_iconst (v := 1) hx hb dL_law_1012 (by decide) ?_
  refine lv_iadd hx hb dL_law_1013 ?_
  refine va_sld hx hb hX hbl hbA hS (sc_i h0 h5 hL (by omega) (by omega)) dL_law_1014 ?_
  refine runW_i (P := fun H => va_P D vwCl (cellR cI gR (m_R_near sR (xs (Int32.toNatClampNeg (i3 + 1)))).2 vR) H) (va_runV (As := [.int (xs (Int32.toNatClampNeg (i3 + 1)))]) (rest := [.int (m_T_near sT (xs (Int32.toNatClampNeg (i3 + 1)))).1]) ⟨hx, hb, hml, hown, hts⟩ (K_R_near hgR sR vR (xs (Int32.toNatClampNeg (i3 + 1)))) (cwV 1 hts gL_law_X5_near rfl rfl rfl (by decide +kernel) ⟨Nat.le_of_ble_eq_true rfl, Nat.le_of_ble_eq_true rfl⟩) (preV_of hE hA hS hPR (va_recv hE.1 hPR (ci := 5) (q0 := 0) rfl rfl)) rfl rfl hl.1 rfl (lv_room (Nat.le_of_ble_eq_true rfl)) dL_law_1015 ⟨Nat.le_refl _, Nat.le_refl _⟩) hS (fun q h9 => wA.lo hgR q h9) (fun H locs hQ hk hS => ?_)
  have hPT := wKeep hPT (wOffL (gR := g) (g := gR) (c := 0) (n := 1) (x := 0) (y := 16) (fun i j hi hj e => hdis j i (by omega) hi e.symm) rfl) hk
  have hPM := wKeep hPM (wOffL (gR := g) (g := gR) (c := 1) (n := 5) (x := 0) (y := 16) (fun i j hi hj e => hdis j i (by omega) hi e.symm) rfl) hk
  have hPB := wKeep hPB (wOffL (gR := g) (g := gR) (c := 6) (n := 6) (x := 0) (y := 16) (fun i j hi hj e => hdis j i (by omega) hi e.symm) rfl) hk
  have hPL := wKeep hPL (wOffL (gR := g) (g := gR) (c := 12) (n := 5) (x := 0) (y := 16) (fun i j hi hj e => hdis j i (by omega) hi e.symm) rfl) hk
  have hPS := wKeep hPS (wOffL (gR := g) (g := gR) (c := 17) (n := 2) (x := 0) (y := 16) (fun i j hi hj e => hdis j i (by omega) hi e.symm) rfl) hk
  have hPR := hQ
  have hp9 := P_near hr9 (xs (Int32.toNatClampNeg (i3 + 1)))
  refine lv_icmp_eq (tgt := 1215) hx hb dL_law_1018 (by decide) (fun c => ?_) (fun c => absurd hp9.1 c)
  exact kk _ _ _ _ _ _ _ _ H locs ls hp9.2 ⟨hPT, hPM, hPB, hPL, hPS, hPR⟩ hS hl
set_option maxHeartbeats 4000000 in
set_option maxRecDepth 100000 in
theorem lc_28 {p : Program} {e : Env} {s : State} {m : MethodId} {below : List Frame} {meth : Method} {c : Code} {l : Launch} {b L : Nat} {xs : Nat → Int32} (hL : L ≤ 2560) (C0 : lw_At p s m meth c b L xs) {D : va_G} {cI : ClassId} (hE : EV D cI s.heap.size s s.heap) {g gR : Nat → Nat} (hg : wI g 0 19 s.heap.size) (hgR : wI gR 0 16 s.heap.size) (hdis : ∀ i j : Nat, i < 19 → j < 16 → g i ≠ gR j) {i3 : Int32} (h0 : 0 ≤ i3.toInt) (h5 : i3.toInt + 5 ≤ (L : Int)) {sT : St} {vT : Int64} {sM sB sL sS sR : St} {vR : Int64} (hr9 : Rel sT vT sM sB sL sS sR vR) {H : Heap} {locs : List Loc} {ls : Array Slot} (hW : Wd D cI g gR sT vT sM sB sL sS sR vR H) (hS : va_S (fun q : Nat => s.heap.size ≤ q) s.heap H locs) (hl : lv_has ls 4 [(0, .ref b), (1, .ref (g 0)), (2, .ref (gR 0)), (3, .int i3)]) (kk : (∀ (sT : St) (vT : Int64) (sM sB sL sS sR : St) (vR : Int64) (H : Heap) (locs : List Loc) (ls : Array Slot), Rel sT vT sM sB sL sS sR vR → Wd D cI g gR sT vT sM sB sL sS sR vR H → va_S (fun q : Nat => s.heap.size ≤ q) s.heap H locs → lv_has ls 4 [(0, .ref b), (1, .ref (g 0)), (2, .ref (gR 0)), (3, .int i3)] → W p l e room_1 s m #[Value.ref b] below meth c H locs 600000 7302250 (lw_Z below #[Value.ref b] s) (F0 m 1215 ls []))) : W p l e room_1 s m #[Value.ref b] below meth c H locs 600000 7302250 (lw_Z below #[Value.ref b] s) (F0 m 1023 ls []) := by
  obtain ⟨hx, hb, hr, hml, hown, hts0, hX, hbl, hlocks, hgv⟩ := id C0
  have hts := hts0
  have hown : s.vm.findClass RL = some m.cls := hown
  have hbA : ¬ (fun q : Nat => s.heap.size ≤ q) b := Nat.not_le.mpr hbl
  have hA : ∀ q : Nat, (fun q : Nat => s.heap.size ≤ q) q → s.heap.size ≤ q := fun _ h => h
  have z1 := tl_1
  have z2 := tl_2
  have z3 := tl_3
  have z4 := tl_4
  have oL := Rel_okL hr9
  have oB := Rel_okB hr9
  have oR := hr9.1
  obtain ⟨hPT, hPM, hPB, hPL, hPS, hPR⟩ := hW
  refine lv_aload_n hx hb dL_law_1023 rfl (lv_at hl 1 rfl) ?_
  refine lv_aload_n hx hb dL_law_1024 rfl (lv_at hl 0 rfl) ?_
  refine lv_iload_n hx hb dL_law_1025 rfl (lv_at hl 3 rfl) ?_
  refine lv_iconst (v := 1) hx hb dL_law_1026 (by decide) ?_
  refine lv_iadd hx hb dL_law_1027 ?_
  refine va_sld hx hb hX hbl hbA hS (sc_i h0 h5 hL (by omega) (by omega)) dL_law_1028 ?_
  refine lv_aload_n hx hb dL_law_1029 rfl (lv_at hl 0 rfl) ?_
  refine lv_iload_n hx hb dL_law_1030 rfl (lv_at hl 3 rfl) ?_
  refine lv_iconst (v := 2) hx hb dL_law_1031 (by decide) ?_
  refine lv_iadd hx hb dL_law_1032 ?_
  refine va_sld hx hb hX hbl hbA hS (sc_i h0 h5 hL (by omega) (by omega)) dL_law_1033 ?_
  refine lv_aload_n hx hb dL_law_1034 rfl (lv_at hl 0 rfl) ?_
  refine lv_iload_n hx hb dL_law_1035 rfl (lv_at hl 3 rfl) ?_
  refine lv_iconst (v := 3) hx hb dL_law_1036 (by decide) ?_
  refine lv_iadd hx hb dL_law_1037 ?_
  refine va_sld hx hb hX hbl hbA hS (sc_i h0 h5 hL (by omega) (by omega)) dL_law_1038 ?_
  refine runW_i (P := fun H => va_P D vwCl (cellT cI g (m_T_loose sT sM sL sS (xs (Int32.toNatClampNeg (i3 + 1))) (xs (Int32.toNatClampNeg (i3 + 2))) (xs (Int32.toNatClampNeg (i3 + 3)))).2.1 vT) H ∧ va_P D vwCl (cellM cI g (m_T_loose sT sM sL sS (xs (Int32.toNatClampNeg (i3 + 1))) (xs (Int32.toNatClampNeg (i3 + 2))) (xs (Int32.toNatClampNeg (i3 + 3)))).2.2.1) H ∧ va_P D vwCl (cellB cI g sB) H ∧ va_P D vwCl (cellL cI g (m_T_loose sT sM sL sS (xs (Int32.toNatClampNeg (i3 + 1))) (xs (Int32.toNatClampNeg (i3 + 2))) (xs (Int32.toNatClampNeg (i3 + 3)))).2.2.2.1) H ∧ va_P D vwCl (cellS cI g (m_T_loose sT sM sL sS (xs (Int32.toNatClampNeg (i3 + 1))) (xs (Int32.toNatClampNeg (i3 + 2))) (xs (Int32.toNatClampNeg (i3 + 3)))).2.2.2.2) H) (va_runV (As := [.int (xs (Int32.toNatClampNeg (i3 + 1))), .int (xs (Int32.toNatClampNeg (i3 + 2))), .int (xs (Int32.toNatClampNeg (i3 + 3)))]) (rest := []) ⟨hx, hb, hml, hown, hts⟩ (K_T_loose hg sT vT sM sB sL sS (xs (Int32.toNatClampNeg (i3 + 1))) (xs (Int32.toNatClampNeg (i3 + 2))) (xs (Int32.toNatClampNeg (i3 + 3))) oL) (cwV 3 hts gL_law_X4_loose rfl rfl rfl (by decide +kernel) ⟨Nat.le_of_ble_eq_true rfl, Nat.le_of_ble_eq_true rfl⟩) (preV_of hE hA hS ⟨hPT, hPM, hPB, hPL, hPS⟩ (va_recv hE.1 hPT (ci := 4) (q0 := 0) rfl rfl)) rfl rfl hl.1 rfl (lv_room (Nat.le_of_ble_eq_true rfl)) dL_law_1039 ⟨Nat.le_refl _, Nat.le_refl _⟩) hS (fun q h9 => wA.lo hg q h9) (fun H locs hQ hk hS => ?_)
  have hPR := wKeep hPR (wOffL (c := 0) (n := 16) (x := 0) hdis rfl) hk
  obtain ⟨hPT, hPM, hPB, hPL, hPS⟩ := hQ
  refine lv_aload_n hx hb dL_law_1042 rfl (lv_at hl 2 rfl) ?_
  refine lv_aload_n hx hb dL_law_1043 rfl (lv_at hl 0 rfl) ?_
  refine lv_iload_n hx hb dL_law_1044 rfl (lv_at hl 3 rfl) ?_
  refine lv_iconst (v := 1) hx hb dL_law_1045 (by decide) ?_
  refine lv_iadd hx hb dL_law_1046 ?_
  refine va_sld hx hb hX hbl hbA hS (sc_i h0 h5 hL (by omega) (by omega)) dL_law_1047 ?_
  refine lv_aload_n hx hb dL_law_1048 rfl (lv_at hl 0 rfl) ?_
  refine lv_iload_n hx hb dL_law_1049 rfl (lv_at hl 3 rfl) ?_
  refine lv_iconst (v := 2) hx hb dL_law_1050 (by decide) ?_
  refine lv_iadd hx hb dL_law_1051 ?_
  refine va_sld hx hb hX hbl hbA hS (sc_i h0 h5 hL (by omega) (by omega)) dL_law_1052 ?_
  refine lv_aload_n hx hb dL_law_1053 rfl (lv_at hl 0 rfl) ?_
  refine lv_iload_n hx hb dL_law_1054 rfl (lv_at hl 3 rfl) ?_
  refine lv_iconst (v := 3) hx hb dL_law_1055 (by decide) ?_
  refine lv_iadd hx hb dL_law_1056 ?_
  refine va_sld hx hb hX hbl hbA hS (sc_i h0 h5 hL (by omega) (by omega)) dL_law_1057 ?_
  refine runW_i (P := fun H => va_P D vwCl (cellR cI gR (m_R_loose sR (xs (Int32.toNatClampNeg (i3 + 1))) (xs (Int32.toNatClampNeg (i3 + 2))) (xs (Int32.toNatClampNeg (i3 + 3)))).2 vR) H) (va_runV (As := [.int (xs (Int32.toNatClampNeg (i3 + 1))), .int (xs (Int32.toNatClampNeg (i3 + 2))), .int (xs (Int32.toNatClampNeg (i3 + 3)))]) (rest := [.int (m_T_loose sT sM sL sS (xs (Int32.toNatClampNeg (i3 + 1))) (xs (Int32.toNatClampNeg (i3 + 2))) (xs (Int32.toNatClampNeg (i3 + 3)))).1]) ⟨hx, hb, hml, hown, hts⟩ (K_R_loose hgR sR vR (xs (Int32.toNatClampNeg (i3 + 1))) (xs (Int32.toNatClampNeg (i3 + 2))) (xs (Int32.toNatClampNeg (i3 + 3))) oR) (cwV 3 hts gL_law_X5_loose rfl rfl rfl (by decide +kernel) ⟨Nat.le_of_ble_eq_true rfl, Nat.le_of_ble_eq_true rfl⟩) (preV_of hE hA hS hPR (va_recv hE.1 hPR (ci := 5) (q0 := 0) rfl rfl)) rfl rfl hl.1 rfl (lv_room (Nat.le_of_ble_eq_true rfl)) dL_law_1058 ⟨Nat.le_refl _, Nat.le_refl _⟩) hS (fun q h9 => wA.lo hgR q h9) (fun H locs hQ hk hS => ?_)
  have hPT := wKeep hPT (wOffL (gR := g) (g := gR) (c := 0) (n := 1) (x := 0) (y := 16) (fun i j hi hj e => hdis j i (by omega) hi e.symm) rfl) hk
  have hPM := wKeep hPM (wOffL (gR := g) (g := gR) (c := 1) (n := 5) (x := 0) (y := 16) (fun i j hi hj e => hdis j i (by omega) hi e.symm) rfl) hk
  have hPB := wKeep hPB (wOffL (gR := g) (g := gR) (c := 6) (n := 6) (x := 0) (y := 16) (fun i j hi hj e => hdis j i (by omega) hi e.symm) rfl) hk
  have hPL := wKeep hPL (wOffL (gR := g) (g := gR) (c := 12) (n := 5) (x := 0) (y := 16) (fun i j hi hj e => hdis j i (by omega) hi e.symm) rfl) hk
  have hPS := wKeep hPS (wOffL (gR := g) (g := gR) (c := 17) (n := 2) (x := 0) (y := 16) (fun i j hi hj e => hdis j i (by omega) hi e.symm) rfl) hk
  have hPR := hQ
  have hp9 := P_loose hr9 (xs (Int32.toNatClampNeg (i3 + 1))) (xs (Int32.toNatClampNeg (i3 + 2))) (xs (Int32.toNatClampNeg (i3 + 3)))
  refine lv_icmp_eq (tgt := 1215) hx hb dL_law_1061 (by decide) (fun c => ?_) (fun c => absurd hp9.1 c)
  exact kk _ _ _ _ _ _ _ _ H locs ls hp9.2 ⟨hPT, hPM, hPB, hPL, hPS, hPR⟩ hS hl
set_option maxHeartbeats 4000000 in
set_option maxRecDepth 100000 in
theorem lc_29 {p : Program} {e : Env} {s : State} {m : MethodId} {below : List Frame} {meth : Method} {c : Code} {l : Launch} {b L : Nat} {xs : Nat → Int32} (hL : L ≤ 2560) (C0 : lw_At p s m meth c b L xs) {D : va_G} {cI : ClassId} (hE : EV D cI s.heap.size s s.heap) {g gR : Nat → Nat} (hg : wI g 0 19 s.heap.size) (hgR : wI gR 0 16 s.heap.size) (hdis : ∀ i j : Nat, i < 19 → j < 16 → g i ≠ gR j) {i3 : Int32} (h0 : 0 ≤ i3.toInt) (h5 : i3.toInt + 5 ≤ (L : Int)) {sT : St} {vT : Int64} {sM sB sL sS sR : St} {vR : Int64} (hr9 : Rel sT vT sM sB sL sS sR vR) {H : Heap} {locs : List Loc} {ls : Array Slot} (hW : Wd D cI g gR sT vT sM sB sL sS sR vR H) (hS : va_S (fun q : Nat => s.heap.size ≤ q) s.heap H locs) (hl : lv_has ls 4 [(0, .ref b), (1, .ref (g 0)), (2, .ref (gR 0)), (3, .int i3)]) (kk : (∀ (sT : St) (vT : Int64) (sM sB sL sS sR : St) (vR : Int64) (H : Heap) (locs : List Loc) (ls : Array Slot), Rel sT vT sM sB sL sS sR vR → Wd D cI g gR sT vT sM sB sL sS sR vR H → va_S (fun q : Nat => s.heap.size ≤ q) s.heap H locs → lv_has ls 4 [(0, .ref b), (1, .ref (g 0)), (2, .ref (gR 0)), (3, .int i3)] → W p l e room_1 s m #[Value.ref b] below meth c H locs 600000 7302250 (lw_Z below #[Value.ref b] s) (F0 m 1215 ls []))) : W p l e room_1 s m #[Value.ref b] below meth c H locs 600000 7302250 (lw_Z below #[Value.ref b] s) (F0 m 1066 ls []) := by
  obtain ⟨hx, hb, hr, hml, hown, hts0, hX, hbl, hlocks, hgv⟩ := id C0
  have hts := hts0
  have hown : s.vm.findClass RL = some m.cls := hown
  have hbA : ¬ (fun q : Nat => s.heap.size ≤ q) b := Nat.not_le.mpr hbl
  have hA : ∀ q : Nat, (fun q : Nat => s.heap.size ≤ q) q → s.heap.size ≤ q := fun _ h => h
  have z1 := tl_1
  have z2 := tl_2
  have z3 := tl_3
  have z4 := tl_4
  have oL := Rel_okL hr9
  have oB := Rel_okB hr9
  have oR := hr9.1
  obtain ⟨hPT, hPM, hPB, hPL, hPS, hPR⟩ := hW
  refine lv_aload_n hx hb dL_law_1066 rfl (lv_at hl 1 rfl) ?_
  refine lv_aload_n hx hb dL_law_1067 rfl (lv_at hl 0 rfl) ?_
  refine lv_iload_n hx hb dL_law_1068 rfl (lv_at hl 3 rfl) ?_
  refine lv_iconst (v := 1) hx hb dL_law_1069 (by decide) ?_
  refine lv_iadd hx hb dL_law_1070 ?_
  refine va_sld hx hb hX hbl hbA hS (sc_i h0 h5 hL (by omega) (by omega)) dL_law_1071 ?_
  refine lv_aload_n hx hb dL_law_1072 rfl (lv_at hl 0 rfl) ?_
  refine lv_iload_n hx hb dL_law_1073 rfl (lv_at hl 3 rfl) ?_
  refine lv_iconst (v := 2) hx hb dL_law_1074 (by decide) ?_
  refine lv_iadd hx hb dL_law_1075 ?_
  refine va_sld hx hb hX hbl hbA hS (sc_i h0 h5 hL (by omega) (by omega)) dL_law_1076 ?_
  refine runW_i (P := fun H => va_P D vwCl (cellT cI g sT vT) H ∧ va_P D vwCl (cellM cI g sM) H ∧ va_P D vwCl (cellB cI g sB) H ∧ va_P D vwCl (cellL cI g sL) H ∧ va_P D vwCl (cellS cI g (m_T_store sT sS (xs (Int32.toNatClampNeg (i3 + 1))) (xs (Int32.toNatClampNeg (i3 + 2)))).2) H) (va_runV (As := [.int (xs (Int32.toNatClampNeg (i3 + 1))), .int (xs (Int32.toNatClampNeg (i3 + 2)))]) (rest := []) ⟨hx, hb, hml, hown, hts⟩ (K_T_store hg sT vT sM sB sL sS (xs (Int32.toNatClampNeg (i3 + 1))) (xs (Int32.toNatClampNeg (i3 + 2)))) (cwV 2 hts gL_law_X4_store rfl rfl rfl (by decide +kernel) ⟨Nat.le_of_ble_eq_true rfl, Nat.le_of_ble_eq_true rfl⟩) (preV_of hE hA hS ⟨hPT, hPM, hPB, hPL, hPS⟩ (va_recv hE.1 hPT (ci := 4) (q0 := 0) rfl rfl)) rfl rfl hl.1 rfl (lv_room (Nat.le_of_ble_eq_true rfl)) dL_law_1077 ⟨Nat.le_refl _, Nat.le_refl _⟩) hS (fun q h9 => wA.lo hg q h9) (fun H locs hQ hk hS => ?_)
  have hPR := wKeep hPR (wOffL (c := 0) (n := 16) (x := 0) hdis rfl) hk
  obtain ⟨hPT, hPM, hPB, hPL, hPS⟩ := hQ
  refine lv_aload_n hx hb dL_law_1080 rfl (lv_at hl 2 rfl) ?_
  refine lv_aload_n hx hb dL_law_1081 rfl (lv_at hl 0 rfl) ?_
  refine lv_iload_n hx hb dL_law_1082 rfl (lv_at hl 3 rfl) ?_
  refine lv_iconst (v := 1) hx hb dL_law_1083 (by decide) ?_
  refine lv_iadd hx hb dL_law_1084 ?_
  refine va_sld hx hb hX hbl hbA hS (sc_i h0 h5 hL (by omega) (by omega)) dL_law_1085 ?_
  refine lv_aload_n hx hb dL_law_1086 rfl (lv_at hl 0 rfl) ?_
  refine lv_iload_n hx hb dL_law_1087 rfl (lv_at hl 3 rfl) ?_
  refine lv_iconst (v := 2) hx hb dL_law_1088 (by decide) ?_
  refine lv_iadd hx hb dL_law_1089 ?_
  refine va_sld hx hb hX hbl hbA hS (sc_i h0 h5 hL (by omega) (by omega)) dL_law_1090 ?_
  refine runW_i (P := fun H => va_P D vwCl (cellR cI gR (m_R_store sR (xs (Int32.toNatClampNeg (i3 + 1))) (xs (Int32.toNatClampNeg (i3 + 2)))).2 vR) H) (va_runV (As := [.int (xs (Int32.toNatClampNeg (i3 + 1))), .int (xs (Int32.toNatClampNeg (i3 + 2)))]) (rest := [.int (m_T_store sT sS (xs (Int32.toNatClampNeg (i3 + 1))) (xs (Int32.toNatClampNeg (i3 + 2)))).1]) ⟨hx, hb, hml, hown, hts⟩ (K_R_store hgR sR vR (xs (Int32.toNatClampNeg (i3 + 1))) (xs (Int32.toNatClampNeg (i3 + 2)))) (cwV 2 hts gL_law_X5_store rfl rfl rfl (by decide +kernel) ⟨Nat.le_of_ble_eq_true rfl, Nat.le_of_ble_eq_true rfl⟩) (preV_of hE hA hS hPR (va_recv hE.1 hPR (ci := 5) (q0 := 0) rfl rfl)) rfl rfl hl.1 rfl (lv_room (Nat.le_of_ble_eq_true rfl)) dL_law_1091 ⟨Nat.le_refl _, Nat.le_refl _⟩) hS (fun q h9 => wA.lo hgR q h9) (fun H locs hQ hk hS => ?_)
  have hPT := wKeep hPT (wOffL (gR := g) (g := gR) (c := 0) (n := 1) (x := 0) (y := 16) (fun i j hi hj e => hdis j i (by omega) hi e.symm) rfl) hk
  have hPM := wKeep hPM (wOffL (gR := g) (g := gR) (c := 1) (n := 5) (x := 0) (y := 16) (fun i j hi hj e => hdis j i (by omega) hi e.symm) rfl) hk
  have hPB := wKeep hPB (wOffL (gR := g) (g := gR) (c := 6) (n := 6) (x := 0) (y := 16) (fun i j hi hj e => hdis j i (by omega) hi e.symm) rfl) hk
  have hPL := wKeep hPL (wOffL (gR := g) (g := gR) (c := 12) (n := 5) (x := 0) (y := 16) (fun i j hi hj e => hdis j i (by omega) hi e.symm) rfl) hk
  have hPS := wKeep hPS (wOffL (gR := g) (g := gR) (c := 17) (n := 2) (x := 0) (y := 16) (fun i j hi hj e => hdis j i (by omega) hi e.symm) rfl) hk
  have hPR := hQ
  have hp9 := P_store hr9 (xs (Int32.toNatClampNeg (i3 + 1))) (xs (Int32.toNatClampNeg (i3 + 2)))
  refine lv_icmp_eq (tgt := 1215) hx hb dL_law_1094 (by decide) (fun c => ?_) (fun c => absurd hp9.1 c)
  exact kk _ _ _ _ _ _ _ _ H locs ls hp9.2 ⟨hPT, hPM, hPB, hPL, hPS, hPR⟩ hS hl
set_option maxHeartbeats 4000000 in
set_option maxRecDepth 100000 in
theorem lc_30 {p : Program} {e : Env} {s : State} {m : MethodId} {below : List Frame} {meth : Method} {c : Code} {l : Launch} {b L : Nat} {xs : Nat → Int32} (hL : L ≤ 2560) (C0 : lw_At p s m meth c b L xs) {D : va_G} {cI : ClassId} (hE : EV D cI s.heap.size s s.heap) {g gR : Nat → Nat} (hg : wI g 0 19 s.heap.size) (hgR : wI gR 0 16 s.heap.size) (hdis : ∀ i j : Nat, i < 19 → j < 16 → g i ≠ gR j) {i3 : Int32} (h0 : 0 ≤ i3.toInt) (h5 : i3.toInt + 5 ≤ (L : Int)) {sT : St} {vT : Int64} {sM sB sL sS sR : St} {vR : Int64} (hr9 : Rel sT vT sM sB sL sS sR vR) {H : Heap} {locs : List Loc} {ls : Array Slot} (hW : Wd D cI g gR sT vT sM sB sL sS sR vR H) (hS : va_S (fun q : Nat => s.heap.size ≤ q) s.heap H locs) (hl : lv_has ls 4 [(0, .ref b), (1, .ref (g 0)), (2, .ref (gR 0)), (3, .int i3)]) (kk : (∀ (sT : St) (vT : Int64) (sM sB sL sS sR : St) (vR : Int64) (H : Heap) (locs : List Loc) (ls : Array Slot), Rel sT vT sM sB sL sS sR vR → Wd D cI g gR sT vT sM sB sL sS sR vR H → va_S (fun q : Nat => s.heap.size ≤ q) s.heap H locs → lv_has ls 4 [(0, .ref b), (1, .ref (g 0)), (2, .ref (gR 0)), (3, .int i3)] → W p l e room_1 s m #[Value.ref b] below meth c H locs 600000 7302250 (lw_Z below #[Value.ref b] s) (F0 m 1215 ls []))) : W p l e room_1 s m #[Value.ref b] below meth c H locs 600000 7302250 (lw_Z below #[Value.ref b] s) (F0 m 1099 ls []) := by
  obtain ⟨hx, hb, hr, hml, hown, hts0, hX, hbl, hlocks, hgv⟩ := id C0
  have hts := hts0
  have hown : s.vm.findClass RL = some m.cls := hown
  have hbA : ¬ (fun q : Nat => s.heap.size ≤ q) b := Nat.not_le.mpr hbl
  have hA : ∀ q : Nat, (fun q : Nat => s.heap.size ≤ q) q → s.heap.size ≤ q := fun _ h => h
  have z1 := tl_1
  have z2 := tl_2
  have z3 := tl_3
  have z4 := tl_4
  have oL := Rel_okL hr9
  have oB := Rel_okB hr9
  have oR := hr9.1
  obtain ⟨hPT, hPM, hPB, hPL, hPS, hPR⟩ := hW
  refine lv_aload_n hx hb dL_law_1099 rfl (lv_at hl 1 rfl) ?_
  refine lv_aload_n hx hb dL_law_1100 rfl (lv_at hl 0 rfl) ?_
  refine lv_iload_n hx hb dL_law_1101 rfl (lv_at hl 3 rfl) ?_
  refine lv_iconst (v := 1) hx hb dL_law_1102 (by decide) ?_
  refine lv_iadd hx hb dL_law_1103 ?_
  refine va_sld hx hb hX hbl hbA hS (sc_i h0 h5 hL (by omega) (by omega)) dL_law_1104 ?_
  refine lv_aload_n hx hb dL_law_1105 rfl (lv_at hl 0 rfl) ?_
  refine lv_iload_n hx hb dL_law_1106 rfl (lv_at hl 3 rfl) ?_
  refine lv_iconst (v := 2) hx hb dL_law_1107 (by decide) ?_
  refine lv_iadd hx hb dL_law_1108 ?_
  refine va_sld hx hb hX hbl hbA hS (sc_i h0 h5 hL (by omega) (by omega)) dL_law_1109 ?_
  refine runW_i (P := fun H => va_P D vwCl (cellT cI g sT vT) H ∧ va_P D vwCl (cellM cI g sM) H ∧ va_P D vwCl (cellB cI g sB) H ∧ va_P D vwCl (cellL cI g sL) H ∧ va_P D vwCl (cellS cI g (m_T_wet sT sS (xs (Int32.toNatClampNeg (i3 + 1))) (xs (Int32.toNatClampNeg (i3 + 2)))).2) H) (va_runV (As := [.int (xs (Int32.toNatClampNeg (i3 + 1))), .int (xs (Int32.toNatClampNeg (i3 + 2)))]) (rest := []) ⟨hx, hb, hml, hown, hts⟩ (K_T_wet hg sT vT sM sB sL sS (xs (Int32.toNatClampNeg (i3 + 1))) (xs (Int32.toNatClampNeg (i3 + 2)))) (cwV 2 hts gL_law_X4_wet rfl rfl rfl (by decide +kernel) ⟨Nat.le_of_ble_eq_true rfl, Nat.le_of_ble_eq_true rfl⟩) (preV_of hE hA hS ⟨hPT, hPM, hPB, hPL, hPS⟩ (va_recv hE.1 hPT (ci := 4) (q0 := 0) rfl rfl)) rfl rfl hl.1 rfl (lv_room (Nat.le_of_ble_eq_true rfl)) dL_law_1110 ⟨Nat.le_refl _, Nat.le_refl _⟩) hS (fun q h9 => wA.lo hg q h9) (fun H locs hQ hk hS => ?_)
  have hPR := wKeep hPR (wOffL (c := 0) (n := 16) (x := 0) hdis rfl) hk
  obtain ⟨hPT, hPM, hPB, hPL, hPS⟩ := hQ
  refine lv_aload_n hx hb dL_law_1113 rfl (lv_at hl 2 rfl) ?_
  refine lv_aload_n hx hb dL_law_1114 rfl (lv_at hl 0 rfl) ?_
  refine lv_iload_n hx hb dL_law_1115 rfl (lv_at hl 3 rfl) ?_
  refine lv_iconst (v := 1) hx hb dL_law_1116 (by decide) ?_
  refine lv_iadd hx hb dL_law_1117 ?_
  refine va_sld hx hb hX hbl hbA hS (sc_i h0 h5 hL (by omega) (by omega)) dL_law_1118 ?_
  refine lv_aload_n hx hb dL_law_1119 rfl (lv_at hl 0 rfl) ?_
  refine lv_iload_n hx hb dL_law_1120 rfl (lv_at hl 3 rfl) ?_
  refine lv_iconst (v := 2) hx hb dL_law_1121 (by decide) ?_
  refine lv_iadd hx hb dL_law_1122 ?_
  refine va_sld hx hb hX hbl hbA hS (sc_i h0 h5 hL (by omega) (by omega)) dL_law_1123 ?_
  refine runW_i (P := fun H => va_P D vwCl (cellR cI gR (m_R_wet sR (xs (Int32.toNatClampNeg (i3 + 1))) (xs (Int32.toNatClampNeg (i3 + 2)))).2 vR) H) (va_runV (As := [.int (xs (Int32.toNatClampNeg (i3 + 1))), .int (xs (Int32.toNatClampNeg (i3 + 2)))]) (rest := [.int (m_T_wet sT sS (xs (Int32.toNatClampNeg (i3 + 1))) (xs (Int32.toNatClampNeg (i3 + 2)))).1]) ⟨hx, hb, hml, hown, hts⟩ (K_R_wet hgR sR vR (xs (Int32.toNatClampNeg (i3 + 1))) (xs (Int32.toNatClampNeg (i3 + 2)))) (cwV 2 hts gL_law_X5_wet rfl rfl rfl (by decide +kernel) ⟨Nat.le_of_ble_eq_true rfl, Nat.le_of_ble_eq_true rfl⟩) (preV_of hE hA hS hPR (va_recv hE.1 hPR (ci := 5) (q0 := 0) rfl rfl)) rfl rfl hl.1 rfl (lv_room (Nat.le_of_ble_eq_true rfl)) dL_law_1124 ⟨Nat.le_refl _, Nat.le_refl _⟩) hS (fun q h9 => wA.lo hgR q h9) (fun H locs hQ hk hS => ?_)
  have hPT := wKeep hPT (wOffL (gR := g) (g := gR) (c := 0) (n := 1) (x := 0) (y := 16) (fun i j hi hj e => hdis j i (by omega) hi e.symm) rfl) hk
  have hPM := wKeep hPM (wOffL (gR := g) (g := gR) (c := 1) (n := 5) (x := 0) (y := 16) (fun i j hi hj e => hdis j i (by omega) hi e.symm) rfl) hk
  have hPB := wKeep hPB (wOffL (gR := g) (g := gR) (c := 6) (n := 6) (x := 0) (y := 16) (fun i j hi hj e => hdis j i (by omega) hi e.symm) rfl) hk
  have hPL := wKeep hPL (wOffL (gR := g) (g := gR) (c := 12) (n := 5) (x := 0) (y := 16) (fun i j hi hj e => hdis j i (by omega) hi e.symm) rfl) hk
  have hPS := wKeep hPS (wOffL (gR := g) (g := gR) (c := 17) (n := 2) (x := 0) (y := 16) (fun i j hi hj e => hdis j i (by omega) hi e.symm) rfl) hk
  have hPR := hQ
  have hp9 := P_wet hr9 (xs (Int32.toNatClampNeg (i3 + 1))) (xs (Int32.toNatClampNeg (i3 + 2)))
  refine lv_icmp_eq (tgt := 1215) hx hb dL_law_1127 (by decide) (fun c => ?_) (fun c => absurd hp9.1 c)
  exact kk _ _ _ _ _ _ _ _ H locs ls hp9.2 ⟨hPT, hPM, hPB, hPL, hPS, hPR⟩ hS hl
set_option maxHeartbeats 4000000 in
set_option maxRecDepth 100000 in
theorem lc_31 {p : Program} {e : Env} {s : State} {m : MethodId} {below : List Frame} {meth : Method} {c : Code} {l : Launch} {b L : Nat} {xs : Nat → Int32} (hL : L ≤ 2560) (C0 : lw_At p s m meth c b L xs) {D : va_G} {cI : ClassId} (hE : EV D cI s.heap.size s s.heap) {g gR : Nat → Nat} (hg : wI g 0 19 s.heap.size) (hgR : wI gR 0 16 s.heap.size) (hdis : ∀ i j : Nat, i < 19 → j < 16 → g i ≠ gR j) {i3 : Int32} (h0 : 0 ≤ i3.toInt) (h5 : i3.toInt + 5 ≤ (L : Int)) {sT : St} {vT : Int64} {sM sB sL sS sR : St} {vR : Int64} (hr9 : Rel sT vT sM sB sL sS sR vR) {H : Heap} {locs : List Loc} {ls : Array Slot} (hW : Wd D cI g gR sT vT sM sB sL sS sR vR H) (hS : va_S (fun q : Nat => s.heap.size ≤ q) s.heap H locs) (hl : lv_has ls 4 [(0, .ref b), (1, .ref (g 0)), (2, .ref (gR 0)), (3, .int i3)]) (kk : (∀ (sT : St) (vT : Int64) (sM sB sL sS sR : St) (vR : Int64) (H : Heap) (locs : List Loc) (ls : Array Slot), Rel sT vT sM sB sL sS sR vR → Wd D cI g gR sT vT sM sB sL sS sR vR H → va_S (fun q : Nat => s.heap.size ≤ q) s.heap H locs → lv_has ls 4 [(0, .ref b), (1, .ref (g 0)), (2, .ref (gR 0)), (3, .int i3)] → W p l e room_1 s m #[Value.ref b] below meth c H locs 600000 7302250 (lw_Z below #[Value.ref b] s) (F0 m 1215 ls []))) : W p l e room_1 s m #[Value.ref b] below meth c H locs 600000 7302250 (lw_Z below #[Value.ref b] s) (F0 m 1132 ls []) := by
  obtain ⟨hx, hb, hr, hml, hown, hts0, hX, hbl, hlocks, hgv⟩ := id C0
  have hts := hts0
  have hown : s.vm.findClass RL = some m.cls := hown
  have hbA : ¬ (fun q : Nat => s.heap.size ≤ q) b := Nat.not_le.mpr hbl
  have hA : ∀ q : Nat, (fun q : Nat => s.heap.size ≤ q) q → s.heap.size ≤ q := fun _ h => h
  have z1 := tl_1
  have z2 := tl_2
  have z3 := tl_3
  have z4 := tl_4
  have oL := Rel_okL hr9
  have oB := Rel_okB hr9
  have oR := hr9.1
  obtain ⟨hPT, hPM, hPB, hPL, hPS, hPR⟩ := hW
  refine lv_aload_n hx hb dL_law_1132 rfl (lv_at hl 1 rfl) ?_
  refine lv_aload_n hx hb dL_law_1133 rfl (lv_at hl 0 rfl) ?_
  refine lv_iload_n hx hb dL_law_1134 rfl (lv_at hl 3 rfl) ?_
  refine lv_iconst (v := 1) hx hb dL_law_1135 (by decide) ?_
  refine lv_iadd hx hb dL_law_1136 ?_
  refine va_sld hx hb hX hbl hbA hS (sc_i h0 h5 hL (by omega) (by omega)) dL_law_1137 ?_
  refine runS_i (va_runV (As := [.int (xs (Int32.toNatClampNeg (i3 + 1)))]) (rest := []) ⟨hx, hb, hml, hown, hts⟩ (K_T_lasts hg sT vT sM sB sL sS (xs (Int32.toNatClampNeg (i3 + 1)))) (cwV 1 hts gL_law_X4_lasts rfl rfl rfl (by decide +kernel) ⟨Nat.le_of_ble_eq_true rfl, Nat.le_of_ble_eq_true rfl⟩) (preV_of hE hA hS ⟨hPT, hPM, hPB, hPL, hPS⟩ (va_recv hE.1 hPT (ci := 4) (q0 := 0) rfl rfl)) rfl rfl hl.1 rfl (lv_room (Nat.le_of_ble_eq_true rfl)) dL_law_1138 ⟨Nat.le_refl _, Nat.le_refl _⟩) ?_
  refine lv_aload_n hx hb dL_law_1141 rfl (lv_at hl 2 rfl) ?_
  refine lv_aload_n hx hb dL_law_1142 rfl (lv_at hl 0 rfl) ?_
  refine lv_iload_n hx hb dL_law_1143 rfl (lv_at hl 3 rfl) ?_
  refine lv_iconst (v := 1) hx hb dL_law_1144 (by decide) ?_
  refine lv_iadd hx hb dL_law_1145 ?_
  refine va_sld hx hb hX hbl hbA hS (sc_i h0 h5 hL (by omega) (by omega)) dL_law_1146 ?_
  refine runS_i (va_runV (As := [.int (xs (Int32.toNatClampNeg (i3 + 1)))]) (rest := [.int (m_T_lasts sT sM sS (xs (Int32.toNatClampNeg (i3 + 1))))]) ⟨hx, hb, hml, hown, hts⟩ (K_R_lasts hgR sR vR (xs (Int32.toNatClampNeg (i3 + 1))) oR) (cwV 1 hts gL_law_X5_lasts rfl rfl rfl (by decide +kernel) ⟨Nat.le_of_ble_eq_true rfl, Nat.le_of_ble_eq_true rfl⟩) (preV_of hE hA hS hPR (va_recv hE.1 hPR (ci := 5) (q0 := 0) rfl rfl)) rfl rfl hl.1 rfl (lv_room (Nat.le_of_ble_eq_true rfl)) dL_law_1147 ⟨Nat.le_refl _, Nat.le_refl _⟩) ?_
  have hp9 := P_lasts hr9 (xs (Int32.toNatClampNeg (i3 + 1)))
  refine lv_icmp_eq (tgt := 1215) hx hb dL_law_1150 (by decide) (fun c => ?_) (fun c => absurd hp9.1 c)
  exact kk _ _ _ _ _ _ _ _ H locs ls hp9.2 ⟨hPT, hPM, hPB, hPL, hPS, hPR⟩ hS hl
set_option maxHeartbeats 4000000 in
set_option maxRecDepth 100000 in
theorem lc_32 {p : Program} {e : Env} {s : State} {m : MethodId} {below : List Frame} {meth : Method} {c : Code} {l : Launch} {b L : Nat} {xs : Nat → Int32} (hL : L ≤ 2560) (C0 : lw_At p s m meth c b L xs) {D : va_G} {cI : ClassId} (hE : EV D cI s.heap.size s s.heap) {g gR : Nat → Nat} (hg : wI g 0 19 s.heap.size) (hgR : wI gR 0 16 s.heap.size) (hdis : ∀ i j : Nat, i < 19 → j < 16 → g i ≠ gR j) {i3 : Int32} (h0 : 0 ≤ i3.toInt) (h5 : i3.toInt + 5 ≤ (L : Int)) {sT : St} {vT : Int64} {sM sB sL sS sR : St} {vR : Int64} (hr9 : Rel sT vT sM sB sL sS sR vR) {H : Heap} {locs : List Loc} {ls : Array Slot} (hW : Wd D cI g gR sT vT sM sB sL sS sR vR H) (hS : va_S (fun q : Nat => s.heap.size ≤ q) s.heap H locs) (hl : lv_has ls 4 [(0, .ref b), (1, .ref (g 0)), (2, .ref (gR 0)), (3, .int i3)]) (kk : (∀ (sT : St) (vT : Int64) (sM sB sL sS sR : St) (vR : Int64) (H : Heap) (locs : List Loc) (ls : Array Slot), Rel sT vT sM sB sL sS sR vR → Wd D cI g gR sT vT sM sB sL sS sR vR H → va_S (fun q : Nat => s.heap.size ≤ q) s.heap H locs → lv_has ls 4 [(0, .ref b), (1, .ref (g 0)), (2, .ref (gR 0)), (3, .int i3)] → W p l e room_1 s m #[Value.ref b] below meth c H locs 600000 7302250 (lw_Z below #[Value.ref b] s) (F0 m 1215 ls []))) : W p l e room_1 s m #[Value.ref b] below meth c H locs 600000 7302250 (lw_Z below #[Value.ref b] s) (F0 m 1155 ls []) := by
  obtain ⟨hx, hb, hr, hml, hown, hts0, hX, hbl, hlocks, hgv⟩ := id C0
  have hts := hts0
  have hown : s.vm.findClass RL = some m.cls := hown
  have hbA : ¬ (fun q : Nat => s.heap.size ≤ q) b := Nat.not_le.mpr hbl
  have hA : ∀ q : Nat, (fun q : Nat => s.heap.size ≤ q) q → s.heap.size ≤ q := fun _ h => h
  have z1 := tl_1
  have z2 := tl_2
  have z3 := tl_3
  have z4 := tl_4
  have oL := Rel_okL hr9
  have oB := Rel_okB hr9
  have oR := hr9.1
  obtain ⟨hPT, hPM, hPB, hPL, hPS, hPR⟩ := hW
  refine lv_aload_n hx hb dL_law_1155 rfl (lv_at hl 1 rfl) ?_
  refine lv_aload_n hx hb dL_law_1156 rfl (lv_at hl 0 rfl) ?_
  refine lv_iload_n hx hb dL_law_1157 rfl (lv_at hl 3 rfl) ?_
  refine lv_iconst (v := 1) hx hb dL_law_1158 (by decide) ?_
  refine lv_iadd hx hb dL_law_1159 ?_
  refine va_sld hx hb hX hbl hbA hS (sc_i h0 h5 hL (by omega) (by omega)) dL_law_1160 ?_
  refine runS_i (va_runV (As := [.int (xs (Int32.toNatClampNeg (i3 + 1)))]) (rest := []) ⟨hx, hb, hml, hown, hts⟩ (K_T_rate hg sT vT sM sB sL sS (xs (Int32.toNatClampNeg (i3 + 1)))) (cwV 1 hts gL_law_X4_rate rfl rfl rfl (by decide +kernel) ⟨Nat.le_of_ble_eq_true rfl, Nat.le_of_ble_eq_true rfl⟩) (preV_of hE hA hS ⟨hPT, hPM, hPB, hPL, hPS⟩ (va_recv hE.1 hPT (ci := 4) (q0 := 0) rfl rfl)) rfl rfl hl.1 rfl (lv_room (Nat.le_of_ble_eq_true rfl)) dL_law_1161 ⟨Nat.le_refl _, Nat.le_refl _⟩) ?_
  refine lv_aload_n hx hb dL_law_1164 rfl (lv_at hl 2 rfl) ?_
  refine lv_aload_n hx hb dL_law_1165 rfl (lv_at hl 0 rfl) ?_
  refine lv_iload_n hx hb dL_law_1166 rfl (lv_at hl 3 rfl) ?_
  refine lv_iconst (v := 1) hx hb dL_law_1167 (by decide) ?_
  refine lv_iadd hx hb dL_law_1168 ?_
  refine va_sld hx hb hX hbl hbA hS (sc_i h0 h5 hL (by omega) (by omega)) dL_law_1169 ?_
  refine runS_i (va_runV (As := [.int (xs (Int32.toNatClampNeg (i3 + 1)))]) (rest := [.int (m_T_rate sT sM sS (xs (Int32.toNatClampNeg (i3 + 1))))]) ⟨hx, hb, hml, hown, hts⟩ (K_R_rate hgR sR vR (xs (Int32.toNatClampNeg (i3 + 1))) oR) (cwV 1 hts gL_law_X5_rate rfl rfl rfl (by decide +kernel) ⟨Nat.le_of_ble_eq_true rfl, Nat.le_of_ble_eq_true rfl⟩) (preV_of hE hA hS hPR (va_recv hE.1 hPR (ci := 5) (q0 := 0) rfl rfl)) rfl rfl hl.1 rfl (lv_room (Nat.le_of_ble_eq_true rfl)) dL_law_1170 ⟨Nat.le_refl _, Nat.le_refl _⟩) ?_
  have hp9 := P_rate hr9 (xs (Int32.toNatClampNeg (i3 + 1)))
  refine lv_icmp_eq (tgt := 1215) hx hb dL_law_1173 (by decide) (fun c => ?_) (fun c => absurd hp9.1 c)
  exact kk _ _ _ _ _ _ _ _ H locs ls hp9.2 ⟨hPT, hPM, hPB, hPL, hPS, hPR⟩ hS hl
set_option maxHeartbeats 4000000 in
set_option maxRecDepth 100000 in
theorem lc_33 {p : Program} {e : Env} {s : State} {m : MethodId} {below : List Frame} {meth : Method} {c : Code} {l : Launch} {b L : Nat} {xs : Nat → Int32} (hL : L ≤ 2560) (C0 : lw_At p s m meth c b L xs) {D : va_G} {cI : ClassId} (hE : EV D cI s.heap.size s s.heap) {g gR : Nat → Nat} (hg : wI g 0 19 s.heap.size) (hgR : wI gR 0 16 s.heap.size) (hdis : ∀ i j : Nat, i < 19 → j < 16 → g i ≠ gR j) {i3 : Int32} (h0 : 0 ≤ i3.toInt) (h5 : i3.toInt + 5 ≤ (L : Int)) {sT : St} {vT : Int64} {sM sB sL sS sR : St} {vR : Int64} (hr9 : Rel sT vT sM sB sL sS sR vR) {H : Heap} {locs : List Loc} {ls : Array Slot} (hW : Wd D cI g gR sT vT sM sB sL sS sR vR H) (hS : va_S (fun q : Nat => s.heap.size ≤ q) s.heap H locs) (hl : lv_has ls 4 [(0, .ref b), (1, .ref (g 0)), (2, .ref (gR 0)), (3, .int i3)]) (kk : (∀ (sT : St) (vT : Int64) (sM sB sL sS sR : St) (vR : Int64) (H : Heap) (locs : List Loc) (ls : Array Slot), Rel sT vT sM sB sL sS sR vR → Wd D cI g gR sT vT sM sB sL sS sR vR H → va_S (fun q : Nat => s.heap.size ≤ q) s.heap H locs → lv_has ls 4 [(0, .ref b), (1, .ref (g 0)), (2, .ref (gR 0)), (3, .int i3)] → W p l e room_1 s m #[Value.ref b] below meth c H locs 600000 7302250 (lw_Z below #[Value.ref b] s) (F0 m 1215 ls []))) : W p l e room_1 s m #[Value.ref b] below meth c H locs 600000 7302250 (lw_Z below #[Value.ref b] s) (F0 m 1178 ls []) := by
  obtain ⟨hx, hb, hr, hml, hown, hts0, hX, hbl, hlocks, hgv⟩ := id C0
  have hts := hts0
  have hown : s.vm.findClass RL = some m.cls := hown
  have hbA : ¬ (fun q : Nat => s.heap.size ≤ q) b := Nat.not_le.mpr hbl
  have hA : ∀ q : Nat, (fun q : Nat => s.heap.size ≤ q) q → s.heap.size ≤ q := fun _ h => h
  have z1 := tl_1
  have z2 := tl_2
  have z3 := tl_3
  have z4 := tl_4
  have oL := Rel_okL hr9
  have oB := Rel_okB hr9
  have oR := hr9.1
  obtain ⟨hPT, hPM, hPB, hPL, hPS, hPR⟩ := hW
  refine lv_aload_n hx hb dL_law_1178 rfl (lv_at hl 1 rfl) ?_
  refine lv_aload_n hx hb dL_law_1179 rfl (lv_at hl 0 rfl) ?_
  refine lv_iload_n hx hb dL_law_1180 rfl (lv_at hl 3 rfl) ?_
  refine lv_iconst (v := 1) hx hb dL_law_1181 (by decide) ?_
  refine lv_iadd hx hb dL_law_1182 ?_
  refine va_sld hx hb hX hbl hbA hS (sc_i h0 h5 hL (by omega) (by omega)) dL_law_1183 ?_
  refine runS_i (va_runV (As := [.int (xs (Int32.toNatClampNeg (i3 + 1)))]) (rest := []) ⟨hx, hb, hml, hown, hts⟩ (K_T_count hg sT vT sM sB sL sS (xs (Int32.toNatClampNeg (i3 + 1))) oL) (cwV 1 hts gL_law_X4_count rfl rfl rfl (by decide +kernel) ⟨Nat.le_of_ble_eq_true rfl, Nat.le_of_ble_eq_true rfl⟩) (preV_of hE hA hS ⟨hPT, hPM, hPB, hPL, hPS⟩ (va_recv hE.1 hPT (ci := 4) (q0 := 0) rfl rfl)) rfl rfl hl.1 rfl (lv_room (Nat.le_of_ble_eq_true rfl)) dL_law_1184 ⟨Nat.le_refl _, Nat.le_refl _⟩) ?_
  refine lv_aload_n hx hb dL_law_1187 rfl (lv_at hl 2 rfl) ?_
  refine lv_aload_n hx hb dL_law_1188 rfl (lv_at hl 0 rfl) ?_
  refine lv_iload_n hx hb dL_law_1189 rfl (lv_at hl 3 rfl) ?_
  refine lv_iconst (v := 1) hx hb dL_law_1190 (by decide) ?_
  refine lv_iadd hx hb dL_law_1191 ?_
  refine va_sld hx hb hX hbl hbA hS (sc_i h0 h5 hL (by omega) (by omega)) dL_law_1192 ?_
  refine runS_i (va_runV (As := [.int (xs (Int32.toNatClampNeg (i3 + 1)))]) (rest := [.int (m_T_count sT sB sL sS (xs (Int32.toNatClampNeg (i3 + 1))))]) ⟨hx, hb, hml, hown, hts⟩ (K_R_count hgR sR vR (xs (Int32.toNatClampNeg (i3 + 1))) oR) (cwV 1 hts gL_law_X5_count rfl rfl rfl (by decide +kernel) ⟨Nat.le_of_ble_eq_true rfl, Nat.le_of_ble_eq_true rfl⟩) (preV_of hE hA hS hPR (va_recv hE.1 hPR (ci := 5) (q0 := 0) rfl rfl)) rfl rfl hl.1 rfl (lv_room (Nat.le_of_ble_eq_true rfl)) dL_law_1193 ⟨Nat.le_refl _, Nat.le_refl _⟩) ?_
  have hp9 := P_count hr9 (xs (Int32.toNatClampNeg (i3 + 1)))
  refine lv_icmp_eq (tgt := 1215) hx hb dL_law_1196 (by decide) (fun c => ?_) (fun c => absurd hp9.1 c)
  exact kk _ _ _ _ _ _ _ _ H locs ls hp9.2 ⟨hPT, hPM, hPB, hPL, hPS, hPR⟩ hS hl
set_option maxHeartbeats 4000000 in
set_option maxRecDepth 100000 in
theorem lc_34 {p : Program} {e : Env} {s : State} {m : MethodId} {below : List Frame} {meth : Method} {c : Code} {l : Launch} {b L : Nat} {xs : Nat → Int32} (hL : L ≤ 2560) (C0 : lw_At p s m meth c b L xs) {D : va_G} {cI : ClassId} (hE : EV D cI s.heap.size s s.heap) {g gR : Nat → Nat} (hg : wI g 0 19 s.heap.size) (hgR : wI gR 0 16 s.heap.size) (hdis : ∀ i j : Nat, i < 19 → j < 16 → g i ≠ gR j) {i3 : Int32} (h0 : 0 ≤ i3.toInt) (h5 : i3.toInt + 5 ≤ (L : Int)) {sT : St} {vT : Int64} {sM sB sL sS sR : St} {vR : Int64} (hr9 : Rel sT vT sM sB sL sS sR vR) {H : Heap} {locs : List Loc} {ls : Array Slot} (hW : Wd D cI g gR sT vT sM sB sL sS sR vR H) (hS : va_S (fun q : Nat => s.heap.size ≤ q) s.heap H locs) (hl : lv_has ls 4 [(0, .ref b), (1, .ref (g 0)), (2, .ref (gR 0)), (3, .int i3)]) (kk : (∀ (sT : St) (vT : Int64) (sM sB sL sS sR : St) (vR : Int64) (H : Heap) (locs : List Loc) (ls : Array Slot), Rel sT vT sM sB sL sS sR vR → Wd D cI g gR sT vT sM sB sL sS sR vR H → va_S (fun q : Nat => s.heap.size ≤ q) s.heap H locs → lv_has ls 4 [(0, .ref b), (1, .ref (g 0)), (2, .ref (gR 0)), (3, .int i3)] → W p l e room_1 s m #[Value.ref b] below meth c H locs 600000 7302250 (lw_Z below #[Value.ref b] s) (F0 m 1215 ls []))) : W p l e room_1 s m #[Value.ref b] below meth c H locs 600000 7302250 (lw_Z below #[Value.ref b] s) (F0 m 1201 ls []) := by
  obtain ⟨hx, hb, hr, hml, hown, hts0, hX, hbl, hlocks, hgv⟩ := id C0
  have hts := hts0
  have hown : s.vm.findClass RL = some m.cls := hown
  have hbA : ¬ (fun q : Nat => s.heap.size ≤ q) b := Nat.not_le.mpr hbl
  have hA : ∀ q : Nat, (fun q : Nat => s.heap.size ≤ q) q → s.heap.size ≤ q := fun _ h => h
  have z1 := tl_1
  have z2 := tl_2
  have z3 := tl_3
  have z4 := tl_4
  have oL := Rel_okL hr9
  have oB := Rel_okB hr9
  have oR := hr9.1
  obtain ⟨hPT, hPM, hPB, hPL, hPS, hPR⟩ := hW
  refine lv_aload_n hx hb dL_law_1201 rfl (lv_at hl 1 rfl) ?_
  refine runS_l (va_runV (As := []) (rest := []) ⟨hx, hb, hml, hown, hts⟩ (K_T_trace hg sT vT sM sB sL sS) (cwV 0 hts gL_law_X4_trace rfl rfl rfl (by decide +kernel) ⟨Nat.le_of_ble_eq_true rfl, Nat.le_of_ble_eq_true rfl⟩) (preV_of hE hA hS ⟨hPT, hPM, hPB, hPL, hPS⟩ (va_recv hE.1 hPT (ci := 4) (q0 := 0) rfl rfl)) rfl rfl hl.1 rfl (lv_room (Nat.le_of_ble_eq_true rfl)) dL_law_1202 ⟨Nat.le_refl _, Nat.le_refl _⟩) ?_
  refine lv_aload_n hx hb dL_law_1205 rfl (lv_at hl 2 rfl) ?_
  refine runS_l (va_runV (As := []) (rest := [.long (m_T_trace sT vT)]) ⟨hx, hb, hml, hown, hts⟩ (K_R_trace hgR sR vR) (cwV 0 hts gL_law_X5_trace rfl rfl rfl (by decide +kernel) ⟨Nat.le_of_ble_eq_true rfl, Nat.le_of_ble_eq_true rfl⟩) (preV_of hE hA hS hPR (va_recv hE.1 hPR (ci := 5) (q0 := 0) rfl rfl)) rfl rfl hl.1 rfl (lv_room (Nat.le_of_ble_eq_true rfl)) dL_law_1206 ⟨Nat.le_refl _, Nat.le_refl _⟩) ?_
  have hp9 := P_trace hr9
  refine W.lcmp hx hb dL_law_1209 ?_
  refine lv_if_eq (tgt := 1215) hx hb dL_law_1210 (by decide) (fun c => ?_) (fun c => absurd (lgc_eq hp9.1) c)
  exact kk _ _ _ _ _ _ _ _ H locs ls hp9.2 ⟨hPT, hPM, hPB, hPL, hPS, hPR⟩ hS hl
