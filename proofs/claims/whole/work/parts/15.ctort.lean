def gT (h0 : Nat) (gM gB gL gS : Nat → Nat) : Nat → Nat := fun i => if i = 0 then h0 else if i < 6 then gM i else if i < 12 then gB i else if i < 17 then gL i else gS i
def n_T : St := fun _ _ => 0
theorem jn_T {cI : ClassId} {h0 : Nat} {gM gB gL gS : Nat → Nat} {s : St} {v4 v5 : Int32} {v : Int64} (h4 : s 0 4 = v4) (h5 : s 0 5 = v5) : cellT cI (gT h0 gM gB gL gS) s v = ([(h0, .inr (4, [.ref (gM 1), .ref (gB 6), .ref (gL 12), .ref (gS 17), .int v4, .int v5, .long v]))] : va_W) := by subst h4; subst h5; rfl
theorem jn_M {cI : ClassId} {h0 : Nat} {gM gB gL gS : Nat → Nat} {s : St} : cellM cI (gT h0 gM gB gL gS) s = cellM cI gM s := rfl
theorem jn_B {cI : ClassId} {h0 : Nat} {gM gB gL gS : Nat → Nat} {s : St} : cellB cI (gT h0 gM gB gL gS) s = cellB cI gB s := rfl
theorem jn_L {cI : ClassId} {h0 : Nat} {gM gB gL gS : Nat → Nat} {s : St} : cellL cI (gT h0 gM gB gL gS) s = cellL cI gL s := rfl
theorem jn_S {cI : ClassId} {h0 : Nat} {gM gB gL gS : Nat → Nat} {s : St} : cellS cI (gT h0 gM gB gL gS) s = cellS cI gS s := rfl
abbrev rm_T_init : Room := { frames := 6, cells := 18, slots := 436, locals := 200 }
set_option maxHeartbeats 4000000 in
set_option maxRecDepth 100000 in
theorem K_T_init {l : Launch} {D : va_G} {cI : ClassId} {lo h0 sz : Nat} (hlo : lo ≤ h0) (hls : lo ≤ sz) : NW l D cI lo yX4_init wsX4_init rm_T_init h0 (va_A [(h0, (.inr (4, [.null, .null, .null, .null, .int 0, .int 0, .long 0]) : va_E))] sz) 18 436 (fun H => H.size = sz ∧ va_P D vwCl [(h0, (.inr (4, [.null, .null, .null, .null, .int 0, .int 0, .long 0]) : va_E))] H) (fun H => ∃ g : Nat → Nat, g 0 = h0 ∧ va_P D vwCl (((((cellT cI g n_T 0) ++ cellM cI g n_M) ++ cellB cI g n_B) ++ cellL cI g n_L) ++ cellS cI g n_S) H ∧ va_D (va_A [(h0, (.inr (4, [.null, .null, .null, .null, .int 0, .int 0, .long 0]) : va_E))] sz) (((((cellT cI g n_T 0) ++ cellM cI g n_M) ++ cellB cI g n_B) ++ cellL cI g n_L) ++ cellS cI g n_S)) := by
  refine ofW_NW (cc := cX4_init) (maxL := 1) (by decide +kernel) rfl rfl (Nat.le_of_ble_eq_true rfl) ?_
  intro p e s m args below meth c Q hx hb hml hown hts hE hP hin9 hret ls hl
  have hown : s.vm.findClass RX4 = some m.cls := hown
  obtain ⟨hsz, hP⟩ := hP
  obtain ⟨A, hA8⟩ : ∃ A, A = va_A [(h0, (.inr (4, [.null, .null, .null, .null, .int 0, .int 0, .long 0]) : va_E))] sz := ⟨_, rfl⟩
  rw [← hA8] at hret
  have hA : ∀ q, A q → lo ≤ q := by rw [hA8]; exact va_A.lo (fun k q hk => by match k, hk with | 0, hk => cases hk; exact hlo) hls
  have hA9 : ∀ q : Nat, s.heap.size ≤ q → A q := fun q h => by rw [hA8]; exact Or.inr (by omega)
  have hD : va_D A [(h0, (.inr (4, [.null, .null, .null, .null, .int 0, .int 0, .long 0]) : va_E))] := ⟨fun i j p q hi hj _ => by match i, j, hi, hj with | 0, 0, _, _ => rfl, fun k q hk => by match k, hk with | 0, hk => cases hk; rw [hA8]; exact Or.inl ⟨0, _, rfl⟩⟩
  have hS : va_S A s.heap s.heap [] := va_S.rf
  have hl : lv_has ls 1 [(0, .ref h0)] := hl
  have hinT : ∀ w ∈ wsX40, w ∈ wsX4_init := fun w h => List.mem_cons_of_mem _ (List.mem_append_left _ (List.mem_append_left _ (List.mem_append_left _ (List.mem_append_right _ h))))
  have hinM : ∀ w ∈ wsX10, w ∈ wsX4_init := fun w h => List.mem_cons_of_mem _ (List.mem_append_left _ (List.mem_append_left _ (List.mem_append_left _ (List.mem_append_left _ (List.mem_append_right _ h)))))
  have hinB : ∀ w ∈ wsX00, w ∈ wsX4_init := fun w h => List.mem_cons_of_mem _ (List.mem_append_left _ (List.mem_append_left _ (List.mem_append_right _ h)))
  have hinL : ∀ w ∈ wsX30, w ∈ wsX4_init := fun w h => List.mem_cons_of_mem _ (List.mem_append_left _ (List.mem_append_right _ h))
  have hinS : ∀ w ∈ wsX20, w ∈ wsX4_init := fun w h => List.mem_cons_of_mem _ (List.mem_append_right _ h)
  refine lv_aload_n hx hb dX4_init_0 rfl (lv_at hl 0 rfl) ?_
  refine W.objInit hx hb hown (hts (.methodLink RX4 1 objectInit) (List.mem_of_getElem? (i := 1) rfl)) (hts (.instanceMethod objectInit) (List.mem_of_getElem? (i := 2) rfl)) (hts _ (List.mem_of_getElem? (i := 3) rfl)) rfl (by rw [hml]; exact hl.1) rfl dX4_init_1 (Nat.le_of_ble_eq_true rfl) (Nat.le_of_ble_eq_true rfl) ?_
  refine W.eq (g2 := F0 m 4 ls []) rfl ?_
  refine lv_aload_n hx hb dX4_init_4 rfl (lv_at hl 0 rfl) ?_
  refine va_new (ci := 1) (fs := [.null, .null, .null, .null, .int 0, .int 0]) (C := RX1) (T := TX1) (N := 6) hx hb hts hinM tyX1 tyX1_ok hown (hts (.classLink RX4 7 RX1) (List.mem_of_getElem? (i := 4) rfl)) (hts (.instantiable RX1 6) (List.mem_of_getElem? (i := 5) rfl)) (hts (.initialized RX1) (List.mem_of_getElem? (i := 6) rfl)) hE.1 hP hD hS hA9 rfl (fun j hj => by rcases (show j = 0 ∨ j = 1 ∨ j = 2 ∨ j = 3 ∨ j = 4 ∨ j = 5 by omega) with rfl | rfl | rfl | rfl | rfl | rfl <;> rfl) (Nat.le_of_ble_eq_true rfl) (Nat.le_of_ble_eq_true rfl) dX4_init_5 (fun qM H hP hD hS => ?_)
  have hP : va_P D vwCl ([(h0, .inr (4, [.null, .null, .null, .null, .int 0, .int 0, .long 0]))] ++ [(qM, (.inr (1, [.null, .null, .null, .null, .int 0, .int 0]) : va_E))]) H := hP
  have hD : va_D A ([(h0, .inr (4, [.null, .null, .null, .null, .int 0, .int 0, .long 0]))] ++ [(qM, (.inr (1, [.null, .null, .null, .null, .int 0, .int 0]) : va_E))]) := hD
  refine lv_dup hx hb dX4_init_8 rfl ?_
  have hPc := hP.sub (ws' := [(qM, (.inr (1, [.null, .null, .null, .null, .int 0, .int 0]) : va_E))]) [1] rfl
  have hq9 : lo ≤ qM := hA _ (hD.2 1 (qM, (.inr (1, [.null, .null, .null, .null, .int 0, .int 0]) : va_E)) rfl)
  have hz9 : lo ≤ H.size := Nat.le_trans (hsz ▸ hls) hS.1
  have hFc := va_free (wc := [(qM, (.inr (1, [.null, .null, .null, .null, .int 0, .int 0]) : va_E))]) hD hS hA9 [1] rfl
  refine va_callv (va_runI (As := []) (rest := [.ref qM, .ref h0]) ⟨hx, hb, hml, hown, hts⟩ (K_M_init (h0 := qM) (sz := H.size) hq9 hz9) (cwI 0 hts gX4_init_X1_init rfl rfl rfl (hts (.initialized RX1) (List.mem_of_getElem? (i := 6) rfl)) (hts (.methodLink RX4 9 yX1_init) (List.mem_of_getElem? (i := 21) rfl)) (hts (.instanceMethod yX1_init) (List.mem_of_getElem? (i := 22) rfl)) rfl (by decide +kernel) ⟨Nat.le_of_ble_eq_true rfl, Nat.le_of_ble_eq_true rfl⟩) (preS_of (As := [.ref qM]) hE hA hS ⟨rfl, hPc⟩) rfl rfl hl.1 rfl (lv_room (Nat.le_of_ble_eq_true rfl)) dX4_init_9 ⟨Nat.le_of_ble_eq_true rfl, Nat.le_of_ble_eq_true rfl⟩) hS (fun q _ h => hFc q h) hFc (fun u t H1 locs ht hvm hw hB hz1 hk1 hS => ?_)
  obtain ⟨gM, eM, hP1, hD1⟩ := hB
  rw [ht] at hP1
  obtain ⟨hP, hD⟩ := va_join (wr := [(h0, .inr (4, [.null, .null, .null, .null, .int 0, .int 0, .long 0]))]) (w1 := cellM cI gM n_M) hP hD [1] [0] rfl rfl (by decide) (by decide) hk1 hFc hP1 hD1
  refine va_putF (D := D) (ci := 4) (v := .ref qM) (ty := (.object "WallStones$Machine")) (C := RX4) (T := TX4) (N := 7) hx hb hts hinT tyX4 tyX4_ok nmX4 hown hE.1 hP hD hS 0 rfl rfl 0 (by decide) (hts (.fieldLink RX4 10 "WallStones" "engine" "LWallStones$Machine;") (List.mem_of_getElem? (i := 7) rfl)) (fun _ h9 => h9) rfl hin9 rfl (by decide +kernel) rfl rfl (Nat.le_of_ble_eq_true rfl) dX4_init_12 (fun H locs hP hD hS => ?_)
  have hP : va_P D vwCl ([(h0, .inr (4, [.ref qM, .null, .null, .null, .int 0, .int 0, .long 0]))] ++ cellM cI gM n_M) H := hP
  have hD : va_D A ([(h0, .inr (4, [.ref qM, .null, .null, .null, .int 0, .int 0, .long 0]))] ++ cellM cI gM n_M) := hD
  refine lv_aload_n hx hb dX4_init_15 rfl (lv_at hl 0 rfl) ?_
  refine va_new (ci := 0) (fs := [.null, .null, .null, .null, .null, .int 0, .int 0]) (C := RX0) (T := TX0) (N := 7) hx hb hts hinB tyX0 tyX0_ok hown (hts (.classLink RX4 16 RX0) (List.mem_of_getElem? (i := 8) rfl)) (hts (.instantiable RX0 7) (List.mem_of_getElem? (i := 9) rfl)) (hts (.initialized RX0) (List.mem_of_getElem? (i := 10) rfl)) hE.1 hP hD hS hA9 rfl (fun j hj => by rcases (show j = 0 ∨ j = 1 ∨ j = 2 ∨ j = 3 ∨ j = 4 ∨ j = 5 ∨ j = 6 by omega) with rfl | rfl | rfl | rfl | rfl | rfl | rfl <;> rfl) (Nat.le_of_ble_eq_true rfl) (Nat.le_of_ble_eq_true rfl) dX4_init_16 (fun qB H hP hD hS => ?_)
  have hP : va_P D vwCl (([(h0, .inr (4, [.ref qM, .null, .null, .null, .int 0, .int 0, .long 0]))] ++ cellM cI gM n_M) ++ [(qB, (.inr (0, [.null, .null, .null, .null, .null, .int 0, .int 0]) : va_E))]) H := hP
  have hD : va_D A (([(h0, .inr (4, [.ref qM, .null, .null, .null, .int 0, .int 0, .long 0]))] ++ cellM cI gM n_M) ++ [(qB, (.inr (0, [.null, .null, .null, .null, .null, .int 0, .int 0]) : va_E))]) := hD
  refine lv_dup hx hb dX4_init_19 rfl ?_
  have hPc := hP.sub (ws' := [(qB, (.inr (0, [.null, .null, .null, .null, .null, .int 0, .int 0]) : va_E))]) [6] rfl
  have hq9 : lo ≤ qB := hA _ (hD.2 6 (qB, (.inr (0, [.null, .null, .null, .null, .null, .int 0, .int 0]) : va_E)) rfl)
  have hz9 : lo ≤ H.size := Nat.le_trans (hsz ▸ hls) hS.1
  have hFc := va_free (wc := [(qB, (.inr (0, [.null, .null, .null, .null, .null, .int 0, .int 0]) : va_E))]) hD hS hA9 [6] rfl
  refine va_callv (va_runI (As := []) (rest := [.ref qB, .ref h0]) ⟨hx, hb, hml, hown, hts⟩ (K_B_init (h0 := qB) (sz := H.size) hq9 hz9) (cwI 0 hts gX4_init_X0_init rfl rfl rfl (hts (.initialized RX0) (List.mem_of_getElem? (i := 10) rfl)) (hts (.methodLink RX4 18 yX0_init) (List.mem_of_getElem? (i := 52) rfl)) (hts (.instanceMethod yX0_init) (List.mem_of_getElem? (i := 53) rfl)) rfl (by decide +kernel) ⟨Nat.le_of_ble_eq_true rfl, Nat.le_of_ble_eq_true rfl⟩) (preS_of (As := [.ref qB]) hE hA hS ⟨rfl, hPc⟩) rfl rfl hl.1 rfl (lv_room (Nat.le_of_ble_eq_true rfl)) dX4_init_20 ⟨Nat.le_of_ble_eq_true rfl, Nat.le_of_ble_eq_true rfl⟩) hS (fun q _ h => hFc q h) hFc (fun u t H1 locs ht hvm hw hB hz1 hk1 hS => ?_)
  obtain ⟨gB, eB, hP1, hD1⟩ := hB
  rw [ht] at hP1
  obtain ⟨hP, hD⟩ := va_join (wr := ([(h0, .inr (4, [.ref qM, .null, .null, .null, .int 0, .int 0, .long 0]))] ++ cellM cI gM n_M)) (w1 := cellB cI gB n_B) hP hD [6] [0, 1, 2, 3, 4, 5] rfl rfl (by decide) (by decide) hk1 hFc hP1 hD1
  refine va_putF (D := D) (ci := 4) (v := .ref qB) (ty := (.object "WallStones$Book")) (C := RX4) (T := TX4) (N := 7) hx hb hts hinT tyX4 tyX4_ok nmX4 hown hE.1 hP hD hS 0 rfl rfl 1 (by decide) (hts (.fieldLink RX4 19 "WallStones" "book" "LWallStones$Book;") (List.mem_of_getElem? (i := 11) rfl)) (fun _ h9 => h9) rfl hin9 rfl (by decide +kernel) rfl rfl (Nat.le_of_ble_eq_true rfl) dX4_init_23 (fun H locs hP hD hS => ?_)
  have hP : va_P D vwCl (([(h0, .inr (4, [.ref qM, .ref qB, .null, .null, .int 0, .int 0, .long 0]))] ++ cellM cI gM n_M) ++ cellB cI gB n_B) H := hP
  have hD : va_D A (([(h0, .inr (4, [.ref qM, .ref qB, .null, .null, .int 0, .int 0, .long 0]))] ++ cellM cI gM n_M) ++ cellB cI gB n_B) := hD
  refine lv_aload_n hx hb dX4_init_26 rfl (lv_at hl 0 rfl) ?_
  refine va_new (ci := 3) (fs := [.null, .null, .null, .null, .int 0, .int 0, .int 0]) (C := RX3) (T := TX3) (N := 7) hx hb hts hinL tyX3 tyX3_ok hown (hts (.classLink RX4 23 RX3) (List.mem_of_getElem? (i := 12) rfl)) (hts (.instantiable RX3 7) (List.mem_of_getElem? (i := 13) rfl)) (hts (.initialized RX3) (List.mem_of_getElem? (i := 14) rfl)) hE.1 hP hD hS hA9 rfl (fun j hj => by rcases (show j = 0 ∨ j = 1 ∨ j = 2 ∨ j = 3 ∨ j = 4 ∨ j = 5 ∨ j = 6 by omega) with rfl | rfl | rfl | rfl | rfl | rfl | rfl <;> rfl) (Nat.le_of_ble_eq_true rfl) (Nat.le_of_ble_eq_true rfl) dX4_init_27 (fun qL H hP hD hS => ?_)
  have hP : va_P D vwCl ((([(h0, .inr (4, [.ref qM, .ref qB, .null, .null, .int 0, .int 0, .long 0]))] ++ cellM cI gM n_M) ++ cellB cI gB n_B) ++ [(qL, (.inr (3, [.null, .null, .null, .null, .int 0, .int 0, .int 0]) : va_E))]) H := hP
  have hD : va_D A ((([(h0, .inr (4, [.ref qM, .ref qB, .null, .null, .int 0, .int 0, .long 0]))] ++ cellM cI gM n_M) ++ cellB cI gB n_B) ++ [(qL, (.inr (3, [.null, .null, .null, .null, .int 0, .int 0, .int 0]) : va_E))]) := hD
  refine lv_dup hx hb dX4_init_30 rfl ?_
  have hPc := hP.sub (ws' := [(qL, (.inr (3, [.null, .null, .null, .null, .int 0, .int 0, .int 0]) : va_E))]) [12] rfl
  have hq9 : lo ≤ qL := hA _ (hD.2 12 (qL, (.inr (3, [.null, .null, .null, .null, .int 0, .int 0, .int 0]) : va_E)) rfl)
  have hz9 : lo ≤ H.size := Nat.le_trans (hsz ▸ hls) hS.1
  have hFc := va_free (wc := [(qL, (.inr (3, [.null, .null, .null, .null, .int 0, .int 0, .int 0]) : va_E))]) hD hS hA9 [12] rfl
  refine va_callv (va_runI (As := []) (rest := [.ref qL, .ref h0]) ⟨hx, hb, hml, hown, hts⟩ (K_L_init (h0 := qL) (sz := H.size) hq9 hz9) (cwI 0 hts gX4_init_X3_init rfl rfl rfl (hts (.initialized RX3) (List.mem_of_getElem? (i := 14) rfl)) (hts (.methodLink RX4 25 yX3_init) (List.mem_of_getElem? (i := 62) rfl)) (hts (.instanceMethod yX3_init) (List.mem_of_getElem? (i := 63) rfl)) rfl (by decide +kernel) ⟨Nat.le_of_ble_eq_true rfl, Nat.le_of_ble_eq_true rfl⟩) (preS_of (As := [.ref qL]) hE hA hS ⟨rfl, hPc⟩) rfl rfl hl.1 rfl (lv_room (Nat.le_of_ble_eq_true rfl)) dX4_init_31 ⟨Nat.le_of_ble_eq_true rfl, Nat.le_of_ble_eq_true rfl⟩) hS (fun q _ h => hFc q h) hFc (fun u t H1 locs ht hvm hw hB hz1 hk1 hS => ?_)
  obtain ⟨gL, eL, hP1, hD1⟩ := hB
  rw [ht] at hP1
  obtain ⟨hP, hD⟩ := va_join (wr := (([(h0, .inr (4, [.ref qM, .ref qB, .null, .null, .int 0, .int 0, .long 0]))] ++ cellM cI gM n_M) ++ cellB cI gB n_B)) (w1 := cellL cI gL n_L) hP hD [12] [0, 1, 2, 3, 4, 5, 6, 7, 8, 9, 10, 11] rfl rfl (by decide) (by decide) hk1 hFc hP1 hD1
  refine va_putF (D := D) (ci := 4) (v := .ref qL) (ty := (.object "WallStones$Wall")) (C := RX4) (T := TX4) (N := 7) hx hb hts hinT tyX4 tyX4_ok nmX4 hown hE.1 hP hD hS 0 rfl rfl 2 (by decide) (hts (.fieldLink RX4 26 "WallStones" "stones" "LWallStones$Wall;") (List.mem_of_getElem? (i := 15) rfl)) (fun _ h9 => h9) rfl hin9 rfl (by decide +kernel) rfl rfl (Nat.le_of_ble_eq_true rfl) dX4_init_34 (fun H locs hP hD hS => ?_)
  have hP : va_P D vwCl ((([(h0, .inr (4, [.ref qM, .ref qB, .ref qL, .null, .int 0, .int 0, .long 0]))] ++ cellM cI gM n_M) ++ cellB cI gB n_B) ++ cellL cI gL n_L) H := hP
  have hD : va_D A ((([(h0, .inr (4, [.ref qM, .ref qB, .ref qL, .null, .int 0, .int 0, .long 0]))] ++ cellM cI gM n_M) ++ cellB cI gB n_B) ++ cellL cI gL n_L) := hD
  refine lv_aload_n hx hb dX4_init_37 rfl (lv_at hl 0 rfl) ?_
  refine va_new (ci := 2) (fs := [.null, .int 0, .int 0]) (C := RX2) (T := TX2) (N := 3) hx hb hts hinS tyX2 tyX2_ok hown (hts (.classLink RX4 30 RX2) (List.mem_of_getElem? (i := 16) rfl)) (hts (.instantiable RX2 3) (List.mem_of_getElem? (i := 17) rfl)) (hts (.initialized RX2) (List.mem_of_getElem? (i := 18) rfl)) hE.1 hP hD hS hA9 rfl (fun j hj => by rcases (show j = 0 ∨ j = 1 ∨ j = 2 by omega) with rfl | rfl | rfl <;> rfl) (Nat.le_of_ble_eq_true rfl) (Nat.le_of_ble_eq_true rfl) dX4_init_38 (fun qS H hP hD hS => ?_)
  have hP : va_P D vwCl (((([(h0, .inr (4, [.ref qM, .ref qB, .ref qL, .null, .int 0, .int 0, .long 0]))] ++ cellM cI gM n_M) ++ cellB cI gB n_B) ++ cellL cI gL n_L) ++ [(qS, (.inr (2, [.null, .int 0, .int 0]) : va_E))]) H := hP
  have hD : va_D A (((([(h0, .inr (4, [.ref qM, .ref qB, .ref qL, .null, .int 0, .int 0, .long 0]))] ++ cellM cI gM n_M) ++ cellB cI gB n_B) ++ cellL cI gL n_L) ++ [(qS, (.inr (2, [.null, .int 0, .int 0]) : va_E))]) := hD
  refine lv_dup hx hb dX4_init_41 rfl ?_
  have hPc := hP.sub (ws' := [(qS, (.inr (2, [.null, .int 0, .int 0]) : va_E))]) [17] rfl
  have hq9 : lo ≤ qS := hA _ (hD.2 17 (qS, (.inr (2, [.null, .int 0, .int 0]) : va_E)) rfl)
  have hz9 : lo ≤ H.size := Nat.le_trans (hsz ▸ hls) hS.1
  have hFc := va_free (wc := [(qS, (.inr (2, [.null, .int 0, .int 0]) : va_E))]) hD hS hA9 [17] rfl
  refine va_callv (va_runI (As := []) (rest := [.ref qS, .ref h0]) ⟨hx, hb, hml, hown, hts⟩ (K_S_init (h0 := qS) (sz := H.size) hq9 hz9) (cwI 0 hts gX4_init_X2_init rfl rfl rfl (hts (.initialized RX2) (List.mem_of_getElem? (i := 18) rfl)) (hts (.methodLink RX4 32 yX2_init) (List.mem_of_getElem? (i := 76) rfl)) (hts (.instanceMethod yX2_init) (List.mem_of_getElem? (i := 77) rfl)) rfl (by decide +kernel) ⟨Nat.le_of_ble_eq_true rfl, Nat.le_of_ble_eq_true rfl⟩) (preS_of (As := [.ref qS]) hE hA hS ⟨rfl, hPc⟩) rfl rfl hl.1 rfl (lv_room (Nat.le_of_ble_eq_true rfl)) dX4_init_42 ⟨Nat.le_of_ble_eq_true rfl, Nat.le_of_ble_eq_true rfl⟩) hS (fun q _ h => hFc q h) hFc (fun u t H1 locs ht hvm hw hB hz1 hk1 hS => ?_)
  obtain ⟨gS, eS, hP1, hD1⟩ := hB
  rw [ht] at hP1
  obtain ⟨hP, hD⟩ := va_join (wr := ((([(h0, .inr (4, [.ref qM, .ref qB, .ref qL, .null, .int 0, .int 0, .long 0]))] ++ cellM cI gM n_M) ++ cellB cI gB n_B) ++ cellL cI gL n_L)) (w1 := cellS cI gS n_S) hP hD [17] [0, 1, 2, 3, 4, 5, 6, 7, 8, 9, 10, 11, 12, 13, 14, 15, 16] rfl rfl (by decide) (by decide) hk1 hFc hP1 hD1
  refine va_putF (D := D) (ci := 4) (v := .ref qS) (ty := (.object "WallStones$Siege")) (C := RX4) (T := TX4) (N := 7) hx hb hts hinT tyX4 tyX4_ok nmX4 hown hE.1 hP hD hS 0 rfl rfl 3 (by decide) (hts (.fieldLink RX4 33 "WallStones" "siege" "LWallStones$Siege;") (List.mem_of_getElem? (i := 19) rfl)) (fun _ h9 => h9) rfl hin9 rfl (by decide +kernel) rfl rfl (Nat.le_of_ble_eq_true rfl) dX4_init_45 (fun H locs hP hD hS => ?_)
  have hP : va_P D vwCl (((([(h0, .inr (4, [.ref qM, .ref qB, .ref qL, .ref qS, .int 0, .int 0, .long 0]))] ++ cellM cI gM n_M) ++ cellB cI gB n_B) ++ cellL cI gL n_L) ++ cellS cI gS n_S) H := hP
  have hD : va_D A (((([(h0, .inr (4, [.ref qM, .ref qB, .ref qL, .ref qS, .int 0, .int 0, .long 0]))] ++ cellM cI gM n_M) ++ cellB cI gB n_B) ++ cellL cI gL n_L) ++ cellS cI gS n_S) := hD
  refine lv_aload_n hx hb dX4_init_48 rfl (lv_at hl 0 rfl) ?_
  refine lv_iconst (v := 0) hx hb dX4_init_49 (by decide) ?_
  refine va_put (D := D) (ci := 4) (v := .int 0) (ty := .int) (C := RX4) (T := TX4) (N := 7) hx hb hts hinT tyX4 tyX4_ok nmX4 hown hE.1 hP hD hS 0 rfl rfl 4 (by decide) (hts (.fieldLink RX4 37 "WallStones" "handling" "I") (List.mem_of_getElem? (i := 20) rfl)) (fun _ h9 => h9) rfl (by decide +kernel) rfl rfl (Nat.le_of_ble_eq_true rfl) dX4_init_50 (fun H locs hP hD hS => ?_)
  have hP : va_P D vwCl (((([(h0, .inr (4, [.ref qM, .ref qB, .ref qL, .ref qS, .int 0, .int 0, .long 0]))] ++ cellM cI gM n_M) ++ cellB cI gB n_B) ++ cellL cI gL n_L) ++ cellS cI gS n_S) H := hP
  have hD : va_D A (((([(h0, .inr (4, [.ref qM, .ref qB, .ref qL, .ref qS, .int 0, .int 0, .long 0]))] ++ cellM cI gM n_M) ++ cellB cI gB n_B) ++ cellL cI gL n_L) ++ cellS cI gS n_S) := hD
  subst eM
  subst eB
  subst eL
  subst eS
  rw [← jn_T (h0 := h0) (gM := gM) (gB := gB) (gL := gL) (gS := gS) (s := n_T) (v4 := 0) (v5 := 0) (v := 0) rfl rfl, ← jn_M (h0 := h0) (gM := gM) (gB := gB) (gL := gL) (gS := gS), ← jn_B (h0 := h0) (gM := gM) (gB := gB) (gL := gL) (gS := gS), ← jn_L (h0 := h0) (gM := gM) (gB := gB) (gL := gL) (gS := gS), ← jn_S (h0 := h0) (gM := gM) (gB := gB) (gL := gL) (gS := gS)] at hP hD
  exact hret H _ _ ls dX4_init_53 ⟨gT h0 gM gB gL gS, rfl, hP, hD⟩ hS
