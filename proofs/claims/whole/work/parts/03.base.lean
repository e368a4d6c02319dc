/-! base: the geometry of the cells, the surroundings of every call, one row a kind of call -/
abbrev St : Type := Nat → Nat → Int32
def up (σ : St) (k i : Nat) (x : Int32) : St := fun a => if a = k then upd (σ k) i x else σ a
/-- the addresses g a .. g (b - 1) are apart, and from lo on -/
def wI (g : Nat → Nat) (a b lo : Nat) : Prop := (∀ i j, a ≤ i → i < b → a ≤ j → j < b → g i = g j → i = j) ∧ ∀ i, a ≤ i → i < b → lo ≤ g i
def wA (g : Nat → Nat) (a b : Nat) : Nat → Prop := fun q => ∃ i, a ≤ i ∧ i < b ∧ q = g i
theorem wI.sub {g : Nat → Nat} {a b lo c d : Nat} (h : wI g a b lo) (h1 : a ≤ c) (h2 : d ≤ b) : wI g c d lo :=
  ⟨fun i j p q r t => h.1 i j (by omega) (by omega) (by omega) (by omega), fun i p q => h.2 i (by omega) (by omega)⟩
theorem wA.sub {g : Nat → Nat} {a b c d : Nat} (h1 : a ≤ c) (h2 : d ≤ b) : ∀ q, wA g c d q → wA g a b q := by
  rintro q ⟨i, p, r, e⟩
  exact ⟨i, by omega, by omega, e⟩
theorem wA.lo {g : Nat → Nat} {a b lo : Nat} (h : wI g a b lo) : ∀ q, wA g a b q → lo ≤ q := by
  rintro q ⟨i, p, r, rfl⟩
  exact h.2 i p r
theorem wD_at {g : Nat → Nat} {ws : va_W} {c n : Nat} (hm : ws.map Prod.fst = (List.range n).map (fun i => g (c + i))) {k : Nat} {q : Nat × va_E} (h : ws[k]? = some q) : k < n ∧ q.1 = g (c + k) := by
  have h1 : (ws.map Prod.fst)[k]? = some q.1 := by rw [List.getElem?_map, h]; rfl
  rw [hm, List.getElem?_map] at h1
  by_cases hk : k < n
  · rw [List.getElem?_range hk] at h1
    exact ⟨hk, (Option.some.inj h1).symm⟩
  · rw [List.getElem?_eq_none (by simpa using hk)] at h1
    cases h1
theorem wD_of {g : Nat → Nat} {a b lo : Nat} {ws : va_W} {c n : Nat} (h : wI g a b lo) (h1 : a ≤ c) (h2 : c + n ≤ b) (hm : ws.map Prod.fst = (List.range n).map (fun i => g (c + i))) : va_D (wA g a b) ws := by
  refine ⟨fun i j p q hi hj e => ?_, fun k q hk => ?_⟩
  · obtain ⟨l1, e1⟩ := wD_at hm hi
    obtain ⟨l2, e2⟩ := wD_at hm hj
    have := h.1 (c + i) (c + j) (by omega) (by omega) (by omega) (by omega) (by rw [← e1, ← e2, e])
    omega
  · obtain ⟨l1, e1⟩ := wD_at hm hk
    exact ⟨c + k, by omega, by omega, e1⟩
/-- cells apart from what a call may write stay -/
theorem wKeep {D : va_G} {cl : List vw_C} {ws : va_W} {H H1 : Heap} {B : Nat → Prop} (hP : va_P D cl ws H) (hn : ∀ (k : Nat) (q : Nat × va_E), ws[k]? = some q → ¬ B q.1) (hk : ∀ q : Nat, q < H.size → ¬ B q → H1[q]? = H[q]?) : va_P D cl ws H1 :=
  hP.kept (fun k q h => hk q.1 (hP k q h).lt (hn k q h))
theorem wOff {g : Nat → Nat} {a b lo : Nat} {ws : va_W} {c n x y : Nat} (h : wI g a b lo) (h1 : a ≤ c) (h2 : c + n ≤ b) (h3 : a ≤ x) (h4 : y ≤ b) (hxy : y ≤ c ∨ c + n ≤ x) (hm : ws.map Prod.fst = (List.range n).map (fun i => g (c + i))) : ∀ (k : Nat) (q : Nat × va_E), ws[k]? = some q → ¬ wA g x y q.1 := by
  rintro k q hk ⟨i, p, r, e⟩
  obtain ⟨l1, e1⟩ := wD_at hm hk
  have := h.1 (c + k) i (by omega) (by omega) (by omega) (by omega) (by rw [← e1, e])
  omega
/-- a static array that nobody writes -/
def zT (C n : String) (N : Nat) (f : Nat → Int32) (lo : Nat) (U : State) (H : Heap) : Prop := ∃ t : Nat, va_Z C n "[I" (.ref t) (fun q => lo ≤ q) U H ∧ va_T .int t N (fun j => .int (f j)) (fun q => lo ≤ q) U H
theorem zT.call {C n : String} {N : Nat} {f : Nat → Int32} {lo : Nat} {s U : State} {H H1 : Heap} (h : zT C n N f lo s H) (hvm : s.vm.Alike U.vm) (hq : ∀ a : Nat, a < H.size → ¬ lo ≤ a → H1[a]? = H[a]?) : zT C n N f lo U H1 := by
  obtain ⟨t, h1, h2⟩ := h
  exact ⟨t, (h1.moved hvm).kept hq, (h2.moved hvm).kept hq⟩
def zML : Nat → Int32 := fun j => ([5, 20, 100, 10, 0, 10, 0, 1, 0] : List Int32).getD j 0
def zMM : Nat → Int32 := fun j => ([40, 160, 9000, 160, 60, 60, 900, 300, 2] : List Int32).getD j 0
def zSL : Nat → Int32 := fun j => ([1, 0, 0, 0, 1] : List Int32).getD j 0
def zSM : Nat → Int32 := fun j => ([200, 9999, 9999, 9999, 200] : List Int32).getD j 0
/-- the links of a class to the private methods of its nest mates -/
def NE (U : State) : Prop := va_Nw (.methodLinkNest RX0 61 yX4_down "WallStones") U ∧ va_Nw (.methodLinkNest RX1 27 yX4_within "WallStones") U ∧ va_Nw (.methodLinkNest RX1 45 yX4_sineOf "WallStones") U ∧ va_Nw (.methodLinkNest RX1 54 yX4_down "WallStones") U ∧ va_Nw (.methodLinkNest RX1 62 yX4_up "WallStones") U ∧ va_Nw (.methodLinkNest RX2 19 yX4_within "WallStones") U ∧ va_Nw (.methodLinkNest RX2 48 yX4_up "WallStones") U ∧ va_Nw (.methodLinkNest RX3 69 yX4_within "WallStones") U ∧ va_Nw (.methodLinkNest RX3 83 yX4_up "WallStones") U ∧ va_Nw (.methodLinkNest RX4 177 yX3_heldAfter "WallStones") U
theorem NE.same {u U : State} (h : u.vm = U.vm) (k : NE u) : NE U := by
  obtain ⟨h0, h1, h2, h3, h4, h5, h6, h7, h8, h9⟩ := k
  exact ⟨va_Nw.same rfl h h0, va_Nw.same rfl h h1, va_Nw.same rfl h h2, va_Nw.same rfl h h3, va_Nw.same rfl h h4, va_Nw.same rfl h h5, va_Nw.same rfl h h6, va_Nw.same rfl h h7, va_Nw.same rfl h h8, va_Nw.same rfl h h9⟩
theorem NE.warm {s U : State} (h : s.WarmedH U.vm) (k : NE s) : NE U := by
  obtain ⟨h0, h1, h2, h3, h4, h5, h6, h7, h8, h9⟩ := k
  exact ⟨va_Nw.warmM h h0, va_Nw.warmM h h1, va_Nw.warmM h h2, va_Nw.warmM h h3, va_Nw.warmM h h4, va_Nw.warmM h h5, va_Nw.warmM h h6, va_Nw.warmM h h7, va_Nw.warmM h h8, va_Nw.warmM h h9⟩
def ZS (lo : Nat) (U : State) (H : Heap) : Prop := zT "WallStones$Machine" "LEAST" 9 zML lo U H ∧ zT "WallStones$Machine" "MOST" 9 zMM lo U H ∧ zT "WallStones$Siege" "LEAST" 5 zSL lo U H ∧ zT "WallStones$Siege" "MOST" 5 zSM lo U H
theorem ZS.call {lo : Nat} {s U : State} {H H1 : Heap} (k : ZS lo s H) (hvm : s.vm.Alike U.vm) (hq : ∀ a : Nat, a < H.size → ¬ lo ≤ a → H1[a]? = H[a]?) : ZS lo U H1 := by
  obtain ⟨h0, h1, h2, h3⟩ := k
  exact ⟨h0.call hvm hq, h1.call hvm hq, h2.call hvm hq, h3.call hvm hq⟩
/-- what holds around every call: the classes, the nest links, the static arrays -/
def EV (D : va_G) (cI : ClassId) (lo : Nat) (U : State) (H : Heap) : Prop := va_K D vwCl [(cI, .int)] U ∧ NE U ∧ ZS lo U H
theorem EV.calling {D : va_G} {cI : ClassId} {lo : Nat} {U : State} {H : Heap} {g : JFrame} {mk : MethodId} {a : Array Value} (h : EV D cI lo U H) : EV D cI lo (U.calling g mk a) H :=
  ⟨va_K.moved (u := U) (U := U.calling g mk a) (Vm.Alike.refl U.vm) h.1, NE.same rfl h.2.1, ZS.call h.2.2 (Vm.Alike.refl U.vm) (fun _ _ _ => rfl)⟩
theorem EV.call {D : va_G} {cI : ClassId} {lo : Nat} {s U : State} {A : Nat → Prop} {H : Heap} {locs : List Loc} (h : EV D cI lo s s.heap) (hA : ∀ q, A q → lo ≤ q) (hS : va_S A s.heap H locs) (hW : s.WarmedH U.vm) : EV D cI lo U H :=
  ⟨va_K.moved hW.alike h.1, h.2.1.warm hW, ZS.call h.2.2 hW.alike (fun a h1 h2 => hS.2.1 a h1 (fun z => h2 (hA a z)))⟩
/-- the start of a method: its arguments, the surroundings, and what P says of the heap -/
def cB (D : va_G) (cI : ClassId) (lo : Nat) (av : List Value) (P : Heap → Prop) : Array Value → State → Prop := va_Pc av (fun U => EV D cI lo U U.heap ∧ P U.heap)
theorem cB.blind {D : va_G} {cI : ClassId} {lo : Nat} {av : List Value} {P : Heap → Prop} : FrameBlind (cB D cI lo av P) := fun _ _ _ _ q => ⟨q.1, EV.calling q.2.1, q.2.2⟩
/-- contracts: nothing is written, an int or a long comes; cells of A are written: an int, a long, nothing comes, and the heap keeps Q -/
def ROi (l : Launch) (D : va_G) (cI : ClassId) (lo : Nat) (y : MethodName) (ws : List Cond) (rm : Room) (av : List Value) (P : Heap → Prop) (r : Int32) : Prop := Met l y ws rm (cB D cI lo av P) (vp_Si (fun x => x = r)) 0 0 (fun _ => False)
def ROl (l : Launch) (D : va_G) (cI : ClassId) (lo : Nat) (y : MethodName) (ws : List Cond) (rm : Room) (av : List Value) (P : Heap → Prop) (r : Int64) : Prop := Met l y ws rm (cB D cI lo av P) (vp_Sl (fun x => x = r)) 0 0 (fun _ => False)
def WRi (l : Launch) (D : va_G) (cI : ClassId) (lo : Nat) (y : MethodName) (ws : List Cond) (rm : Room) (av : List Value) (P : Heap → Prop) (r : Int32) (Q : Heap → Prop) (A : Nat → Prop) : Prop := Met l y ws rm (cB D cI lo av P) (va_Qi (fun (x : Int32) (_ : Unit) => x = r) (fun _ t => Q t.heap) A) 0 0 A
def WRl (l : Launch) (D : va_G) (cI : ClassId) (lo : Nat) (y : MethodName) (ws : List Cond) (rm : Room) (av : List Value) (P : Heap → Prop) (r : Int64) (Q : Heap → Prop) (A : Nat → Prop) : Prop := Met l y ws rm (cB D cI lo av P) (va_Ql (fun (x : Int64) (_ : Unit) => x = r) (fun _ t => Q t.heap) A) 0 0 A
def WRv (l : Launch) (D : va_G) (cI : ClassId) (lo : Nat) (y : MethodName) (ws : List Cond) (rm : Room) (av : List Value) (P : Heap → Prop) (Q : Heap → Prop) (A : Nat → Prop) : Prop := Met l y ws rm (cB D cI lo av P) (va_Qv (fun (_ : Unit) => True) (fun _ t => Q t.heap) A) 0 0 A
section CALLS
variable {p : Program} {l : Launch} {e : Env} {R : Room} {s : State} {m : MethodId} {args : Array Value} {below : List Frame} {meth : Method} {c : Code} {H : Heap} {locs : List Loc} {cells slots : Nat} {Q : State → Prop}
variable {pc : Nat} {ls : Array Slot} {rest st0 : List Value} {a : Array Value} {A A1 : Nat → Prop}
theorem runS_i {r : Int32} (hr : va_Run p l e R s m args below meth c H locs cells slots 0 0 (F0 m pc ls st0) rest (vp_Si (fun x => x = r) a) (fun _ => False))
    (kk : W p l e R s m args below meth c H locs cells slots Q (F0 m (pc + 3) ls (.int r :: rest))) : W p l e R s m args below meth c H locs cells slots Q (F0 m pc ls st0) := by
  intro T hT X
  obtain ⟨v, st₀, t, T', L, h0, X', hL, e1, -, ⟨r', hv, hp, hh⟩, st⟩ := hr T hT X
  cases hv
  subst hp
  obtain ⟨t2, a1, b1⟩ := kk T' (by rw [e1, hh, h0]) (Stand.forget X' (fun q h => (hL q h).elim))
  exact ⟨t2, st t2 a1, b1⟩
theorem runS_l {r : Int64} (hr : va_Run p l e R s m args below meth c H locs cells slots 0 0 (F0 m pc ls st0) rest (vp_Sl (fun x => x = r) a) (fun _ => False))
    (kk : W p l e R s m args below meth c H locs cells slots Q (F0 m (pc + 3) ls (.long r :: rest))) : W p l e R s m args below meth c H locs cells slots Q (F0 m pc ls st0) := by
  intro T hT X
  obtain ⟨v, st₀, t, T', L, h0, X', hL, e1, -, ⟨r', hv, hp, hh⟩, st⟩ := hr T hT X
  cases hv
  subst hp
  obtain ⟨t2, a1, b1⟩ := kk T' (by rw [e1, hh, h0]) (Stand.forget X' (fun q h => (hL q h).elim))
  exact ⟨t2, st t2 a1, b1⟩
theorem runW_i {r : Int32} {P : Heap → Prop} (hr : va_Run p l e R s m args below meth c H locs cells slots 0 0 (F0 m pc ls st0) rest (va_Qi (fun (x : Int32) (_ : Unit) => x = r) (fun _ t => P t.heap) A1 a) A1) (hS : va_S A s.heap H locs) (hA1 : ∀ q, A1 q → A q)
    (kk : ∀ (H1 : Heap) (locs1 : List Loc), P H1 → (∀ q : Nat, q < H.size → ¬ A1 q → H1[q]? = H[q]?) → va_S A s.heap H1 locs1 → W p l e R s m args below meth c H1 locs1 cells slots Q (F0 m (pc + 3) ls (.int r :: rest))) : W p l e R s m args below meth c H locs cells slots Q (F0 m pc ls st0) :=
  va_calli hr hS (fun q _ h => hA1 q h) hA1 (fun r' _ t H1 locs1 ht _ hp hb _ hk hS1 => by subst hp; subst ht; exact kk _ _ hb hk hS1)
theorem runW_l {r : Int64} {P : Heap → Prop} (hr : va_Run p l e R s m args below meth c H locs cells slots 0 0 (F0 m pc ls st0) rest (va_Ql (fun (x : Int64) (_ : Unit) => x = r) (fun _ t => P t.heap) A1 a) A1) (hS : va_S A s.heap H locs) (hA1 : ∀ q, A1 q → A q)
    (kk : ∀ (H1 : Heap) (locs1 : List Loc), P H1 → (∀ q : Nat, q < H.size → ¬ A1 q → H1[q]? = H[q]?) → va_S A s.heap H1 locs1 → W p l e R s m args below meth c H1 locs1 cells slots Q (F0 m (pc + 3) ls (.long r :: rest))) : W p l e R s m args below meth c H locs cells slots Q (F0 m pc ls st0) :=
  va_calll hr hS (fun q _ h => hA1 q h) hA1 (fun r' _ t H1 locs1 ht _ hp hb _ hk hS1 => by subst hp; subst ht; exact kk _ _ hb hk hS1)
theorem runW_v {P : Heap → Prop} (hr : va_Run p l e R s m args below meth c H locs cells slots 0 0 (F0 m pc ls st0) rest (va_Qv (fun (_ : Unit) => True) (fun _ t => P t.heap) A1 a) A1) (hS : va_S A s.heap H locs) (hA1 : ∀ q, A1 q → A q)
    (kk : ∀ (H1 : Heap) (locs1 : List Loc), P H1 → (∀ q : Nat, q < H.size → ¬ A1 q → H1[q]? = H[q]?) → va_S A s.heap H1 locs1 → W p l e R s m args below meth c H1 locs1 cells slots Q (F0 m (pc + 3) ls rest)) : W p l e R s m args below meth c H locs cells slots Q (F0 m pc ls st0) :=
  va_callv hr hS (fun q _ h => hA1 q h) hA1 (fun _ t H1 locs1 ht _ _ hb _ hk hS1 => by subst ht; exact kk _ _ hb hk hS1)
variable {D : va_G} {cI : ClassId} {lo : Nat} {P : Heap → Prop}
theorem preV_of {C : String} {b : Addr} {As : List Value} (hE : EV D cI lo s s.heap) (hA : ∀ q, A q → lo ≤ q) (hS : va_S A s.heap H locs) (hP : P H) (hrc : ∃ cell : Cell, H[b]? = some cell ∧ cell.vm.isStatics = false ∧ s.vm.findClass C = some cell.cls) : PreV s H C b (cB D cI lo (.ref b :: As) P) As :=
  ⟨cB.blind, hrc, fun U hU hW => ⟨rfl, by rw [hU]; exact hE.call hA hS hW, by rw [hU]; exact hP⟩⟩
theorem preS_of {As : List Value} (hE : EV D cI lo s s.heap) (hA : ∀ q, A q → lo ≤ q) (hS : va_S A s.heap H locs) (hP : P H) : PreS s H (cB D cI lo As P) As :=
  ⟨cB.blind, fun U hU hW => ⟨rfl, by rw [hU]; exact hE.call hA hS hW, by rw [hU]; exact hP⟩⟩
end CALLS
section OFW
variable {l : Launch} {D : va_G} {cI : ClassId} {lo : Nat} {y : MethodName} {ws ws' : List Cond} {rm : Room} {av : List Value} {P Qh : Heap → Prop} {A : Nat → Prop} {cc : ByteArray} {maxL : Nat} {ty : FieldType}
theorem ofW_ROi {r : Int32} (hy : plainFor y = true) (hw : ws = Cond.code y cc maxL (some ty) :: ws') (hlen : (lg_sl av).length ≤ maxL)
    (body : ∀ (p : Program) (e : Env) (s : State) (m : MethodId) (args : Array Value) (below : List Frame) (meth : Method) (c : Code) (Q : State → Prop), p.tables.exec = Jvm.exec → c.code = cc → c.maxLocals = maxL → s.vm.findClass y.cls = some m.cls → (∀ w ∈ ws, w.before args s = true) → EV D cI lo s s.heap → P s.heap →
      (∀ (v : Int32) (pc : Nat) (ls : Array Slot), narrow ty (.int v) = .int v → decode cc pc = .ok (.ireturn, 1) → v = r → W p l e rm s m args below meth c s.heap [] 0 0 Q (F0 m pc ls [.int v])) →
      ∀ ls : Array Slot, lv_has ls maxL (lv_args 0 av) → W p l e rm s m args below meth c s.heap [] 0 0 Q (F0 m 0 ls [])) : ROi l D cI lo y ws rm av P r := by
  refine va_MetF (cc := cc) (maxL := maxL) (ret := some ty) hy hw ?_
  intro p e s m args below meth c s₁ B hml hv
  obtain ⟨rfl, hE, hP⟩ := hv
  rw [lg_entry_eq]
  exact body p e s m _ below meth c _ B.exec B.bytes hml (findClass_of_methodNamed B.named) (atoms_spec (ws := ws) B.pre) hE hP
    (fun v pc ls hn hd he => W.zret (v := v) B.exec B.bytes B.returns hn (fun t ht hW => ⟨v, rfl, he, ht⟩) (fun q h => by cases h) hd B.notSynchronized) _ (lv_entry av hlen)
theorem ofW_ROl {r : Int64} (hy : plainFor y = true) (hw : ws = Cond.code y cc maxL (some .long) :: ws') (hlen : (lg_sl av).length ≤ maxL)
    (body : ∀ (p : Program) (e : Env) (s : State) (m : MethodId) (args : Array Value) (below : List Frame) (meth : Method) (c : Code) (Q : State → Prop), p.tables.exec = Jvm.exec → c.code = cc → c.maxLocals = maxL → s.vm.findClass y.cls = some m.cls → (∀ w ∈ ws, w.before args s = true) → EV D cI lo s s.heap → P s.heap →
      (∀ (v : Int64) (pc : Nat) (ls : Array Slot), decode cc pc = .ok (.lreturn, 1) → v = r → W p l e rm s m args below meth c s.heap [] 0 0 Q (F0 m pc ls [.long v])) →
      ∀ ls : Array Slot, lv_has ls maxL (lv_args 0 av) → W p l e rm s m args below meth c s.heap [] 0 0 Q (F0 m 0 ls [])) : ROl l D cI lo y ws rm av P r := by
  refine va_MetF (cc := cc) (maxL := maxL) (ret := some .long) hy hw ?_
  intro p e s m args below meth c s₁ B hml hv
  obtain ⟨rfl, hE, hP⟩ := hv
  rw [lg_entry_eq]
  exact body p e s m _ below meth c _ B.exec B.bytes hml (findClass_of_methodNamed B.named) (atoms_spec (ws := ws) B.pre) hE hP
    (fun v pc ls hd he => W.lret (v := v) B.exec B.bytes B.returns (fun t ht hW => ⟨v, rfl, he, ht⟩) (fun q h => by cases h) hd B.notSynchronized) _ (lv_entry av hlen)
theorem ofW_WRi {r : Int32} (hy : plainFor y = true) (hw : ws = Cond.code y cc maxL (some ty) :: ws') (hlen : (lg_sl av).length ≤ maxL)
    (body : ∀ (p : Program) (e : Env) (s : State) (m : MethodId) (args : Array Value) (below : List Frame) (meth : Method) (c : Code) (Q : State → Prop), p.tables.exec = Jvm.exec → c.code = cc → c.maxLocals = maxL → s.vm.findClass y.cls = some m.cls → (∀ w ∈ ws, w.before args s = true) → EV D cI lo s s.heap → P s.heap →
      (∀ (v : Int32) (H : Heap) (locs : List Loc) (pc : Nat) (ls : Array Slot), narrow ty (.int v) = .int v → decode cc pc = .ok (.ireturn, 1) → v = r → Qh H → va_S A s.heap H locs → W p l e rm s m args below meth c H locs 0 0 Q (F0 m pc ls [.int v])) →
      ∀ ls : Array Slot, lv_has ls maxL (lv_args 0 av) → W p l e rm s m args below meth c s.heap [] 0 0 Q (F0 m 0 ls [])) : WRi l D cI lo y ws rm av P r Qh A := by
  refine va_MetF (cc := cc) (maxL := maxL) (ret := some ty) hy hw ?_
  intro p e s m args below meth c s₁ B hml hv
  obtain ⟨rfl, hE, hP⟩ := hv
  rw [lg_entry_eq]
  exact body p e s m _ below meth c _ B.exec B.bytes hml (findClass_of_methodNamed B.named) (atoms_spec (ws := ws) B.pre) hE hP
    (fun v H locs pc ls hn hd he hq hS => W.zret (v := v) B.exec B.bytes B.returns hn (fun t ht hW => ⟨⟨v, (), rfl, he, by show Qh t.heap; rw [ht]; exact hq⟩, hS.F ht⟩) hS.2.2 hd B.notSynchronized) _ (lv_entry av hlen)
theorem ofW_WRl {r : Int64} (hy : plainFor y = true) (hw : ws = Cond.code y cc maxL (some .long) :: ws') (hlen : (lg_sl av).length ≤ maxL)
    (body : ∀ (p : Program) (e : Env) (s : State) (m : MethodId) (args : Array Value) (below : List Frame) (meth : Method) (c : Code) (Q : State → Prop), p.tables.exec = Jvm.exec → c.code = cc → c.maxLocals = maxL → s.vm.findClass y.cls = some m.cls → (∀ w ∈ ws, w.before args s = true) → EV D cI lo s s.heap → P s.heap →
      (∀ (v : Int64) (H : Heap) (locs : List Loc) (pc : Nat) (ls : Array Slot), decode cc pc = .ok (.lreturn, 1) → v = r → Qh H → va_S A s.heap H locs → W p l e rm s m args below meth c H locs 0 0 Q (F0 m pc ls [.long v])) →
      ∀ ls : Array Slot, lv_has ls maxL (lv_args 0 av) → W p l e rm s m args below meth c s.heap [] 0 0 Q (F0 m 0 ls [])) : WRl l D cI lo y ws rm av P r Qh A := by
  refine va_MetF (cc := cc) (maxL := maxL) (ret := some .long) hy hw ?_
  intro p e s m args below meth c s₁ B hml hv
  obtain ⟨rfl, hE, hP⟩ := hv
  rw [lg_entry_eq]
  exact body p e s m _ below meth c _ B.exec B.bytes hml (findClass_of_methodNamed B.named) (atoms_spec (ws := ws) B.pre) hE hP
    (fun v H locs pc ls hd he hq hS => W.lret (v := v) B.exec B.bytes B.returns (fun t ht hW => ⟨⟨v, (), rfl, he, by show Qh t.heap; rw [ht]; exact hq⟩, hS.F ht⟩) hS.2.2 hd B.notSynchronized) _ (lv_entry av hlen)
theorem ofW_WRv (hy : plainFor y = true) (hw : ws = Cond.code y cc maxL none :: ws') (hlen : (lg_sl av).length ≤ maxL)
    (body : ∀ (p : Program) (e : Env) (s : State) (m : MethodId) (args : Array Value) (below : List Frame) (meth : Method) (c : Code) (Q : State → Prop), p.tables.exec = Jvm.exec → c.code = cc → c.maxLocals = maxL → s.vm.findClass y.cls = some m.cls → (∀ w ∈ ws, w.before args s = true) → EV D cI lo s s.heap → P s.heap →
      (∀ (H : Heap) (locs : List Loc) (pc : Nat) (ls : Array Slot), decode cc pc = .ok (.return_, 1) → Qh H → va_S A s.heap H locs → W p l e rm s m args below meth c H locs 0 0 Q (F0 m pc ls [])) →
      ∀ ls : Array Slot, lv_has ls maxL (lv_args 0 av) → W p l e rm s m args below meth c s.heap [] 0 0 Q (F0 m 0 ls [])) : WRv l D cI lo y ws rm av P Qh A := by
  refine va_MetF (cc := cc) (maxL := maxL) (ret := none) hy hw ?_
  intro p e s m args below meth c s₁ B hml hv
  obtain ⟨rfl, hE, hP⟩ := hv
  rw [lg_entry_eq]
  exact body p e s m _ below meth c _ B.exec B.bytes hml (findClass_of_methodNamed B.named) (atoms_spec (ws := ws) B.pre) hE hP
    (fun H locs pc ls hd hq hS => W.vret B.exec B.bytes B.returns (fun t ht hW => ⟨⟨(), rfl, trivial, by show Qh t.heap; rw [ht]; exact hq⟩, hS.F ht⟩) hS.2.2 hd B.notSynchronized) _ (lv_entry av hlen)
end OFW
/-- a loop whose only end is at its head; a loop that may also answer -/
def wl {σ : Type} (f : σ → Option σ) (n : Nat) (s : σ) : σ :=
  match n with
  | 0 => s
  | k + 1 => match f s with
    | none => s
    | some t => wl f k t
termination_by n
theorem wl_none {σ : Type} {f : σ → Option σ} {n : Nat} {s : σ} (h : f s = none) : wl f (n + 1) s = s := by rw [wl, h]
theorem wl_some {σ : Type} {f : σ → Option σ} {n : Nat} {s t : σ} (h : f s = some t) : wl f (n + 1) s = wl f n t := by rw [wl, h]
theorem wl_zero {σ : Type} {f : σ → Option σ} {s : σ} : wl f 0 s = s := by rw [wl]
def wc {σ ρ : Type} (f : σ → σ ⊕ ρ) (d : ρ) (n : Nat) (s : σ) : ρ :=
  match n with
  | 0 => d
  | k + 1 => match f s with
    | .inl t => wc f d k t
    | .inr r => r
termination_by n
theorem wc_inl {σ ρ : Type} {f : σ → σ ⊕ ρ} {d : ρ} {n : Nat} {s t : σ} (h : f s = .inl t) : wc f d (n + 1) s = wc f d n t := by rw [wc, h]
theorem wc_inr {σ ρ : Type} {f : σ → σ ⊕ ρ} {d : ρ} {n : Nat} {s : σ} {r : ρ} (h : f s = .inr r) : wc f d (n + 1) s = r := by rw [wc, h]
/-- what a comparison says of the numbers -/
theorem lt_t {a b : Int32} (h : a < b) : a.toInt < b.toInt := Int32.lt_iff_toInt_lt.mp h
theorem le_t {a b : Int32} (h : a ≤ b) : a.toInt ≤ b.toInt := Int32.le_iff_toInt_le.mp h
theorem nlt_t {a b : Int32} (h : ¬ a < b) : b.toInt ≤ a.toInt := Int.not_lt.mp (fun k => h (Int32.lt_iff_toInt_lt.mpr k))
theorem nle_t {a b : Int32} (h : ¬ a ≤ b) : b.toInt < a.toInt := Int.not_le.mp (fun k => h (Int32.le_iff_toInt_le.mpr k))
theorem eq_t {a b : Int32} (h : a = b) : a.toInt = b.toInt := by rw [h]
theorem ne_t {a b : Int32} (h : ¬ a = b) : a.toInt ≠ b.toInt := fun k => h (Int32.toInt_inj.mp k)
theorem ii_ne {a b : Int32} (h : a.toInt ≠ b.toInt) : ¬ a = b := fun k => h (by rw [k])
theorem t_rng (x : Int32) : -2147483648 ≤ x.toInt ∧ x.toInt < 2147483648 := by
  have h1 := Int32.minValue_le_toInt x
  have h2 := Int32.toInt_le x
  simp only [Int32.toInt_minValue, Int32.toInt_maxValue] at h1 h2
  omega
theorem t_bmod {z : Int} (h1 : -2147483648 ≤ z) (h2 : z < 2147483648) : z.bmod (2 ^ 32) = z := by
  rw [Int.bmod_def]
  split <;> omega
theorem t_add {x y : Int32} (h1 : -2147483648 ≤ x.toInt + y.toInt) (h2 : x.toInt + y.toInt < 2147483648) : (x + y).toInt = x.toInt + y.toInt := by
  rw [Int32.toInt_add]; exact t_bmod h1 h2
theorem t_sub {x y : Int32} (h1 : -2147483648 ≤ x.toInt - y.toInt) (h2 : x.toInt - y.toInt < 2147483648) : (x - y).toInt = x.toInt - y.toInt := by
  rw [Int32.toInt_sub]; exact t_bmod h1 h2
theorem t_mul {x y : Int32} (h1 : -2147483648 ≤ x.toInt * y.toInt) (h2 : x.toInt * y.toInt < 2147483648) : (x * y).toInt = x.toInt * y.toInt := by
  rw [Int32.toInt_mul]; exact t_bmod h1 h2
theorem t_inc {x : Int32} (h : x.toInt < 2147483647) : (x + 1).toInt = x.toInt + 1 := by
  have := t_rng x
  have e : (1 : Int32).toInt = 1 := by decide
  rw [t_add (by rw [e]; omega) (by rw [e]; omega), e]
theorem t_dec {x : Int32} (h : -2147483648 < x.toInt) : (x + (-1)).toInt = x.toInt - 1 := by
  have := t_rng x
  have e : (-1 : Int32).toInt = -1 := by decide
  rw [t_add (by rw [e]; omega) (by rw [e]; omega), e]
  omega
theorem nr_i (v : Int32) : narrow .int (.int v) = .int v := rfl
theorem ret1 {α β : Type} {a : α} {b : β} {z : α × β} (h : z = (a, b)) : a = z.1 := by rw [h]
theorem rP_s1 {β : Type} {P : β → Prop} {b z : β} (h : z = b) (k : P b) : P z := by rw [h]; exact k
theorem rP_s2 {β γ : Type} {P : β → γ → Prop} {b : β} {c : γ} {z : β × γ} (h : z = (b, c)) (k : P b c) : P z.1 z.2 := by subst h; exact k
theorem rP_v1 {α β : Type} {P : β → Prop} {a : α} {b : β} {z : α × β} (h : z = (a, b)) (k : P b) : P z.2 := by subst h; exact k
theorem rP_v2 {α β γ : Type} {P : β → γ → Prop} {a : α} {b : β} {c : γ} {z : α × β × γ} (h : z = (a, b, c)) (k : P b c) : P z.2.1 z.2.2 := by subst h; exact k
theorem rP_v3 {α β γ δ : Type} {P : β → γ → δ → Prop} {a : α} {b : β} {c : γ} {d : δ} {z : α × β × γ × δ} (h : z = (a, b, c, d)) (k : P b c d) : P z.2.1 z.2.2.1 z.2.2.2 := by subst h; exact k
theorem rP_v4 {α β γ δ ε : Type} {P : β → γ → δ → ε → Prop} {a : α} {b : β} {c : γ} {d : δ} {e : ε} {z : α × β × γ × δ × ε} (h : z = (a, b, c, d, e)) (k : P b c d e) : P z.2.1 z.2.2.1 z.2.2.2.1 z.2.2.2.2 := by subst h; exact k
abbrev cellT (cI : ClassId) (g : Nat → Nat) (s : St) (v : Int64) : va_W := [(g 0, .inr (4, [.ref (g 1), .ref (g 6), .ref (g 12), .ref (g 17), .int (s 0 4), .int (s 0 5), .long v]))]
abbrev cellM (cI : ClassId) (g : Nat → Nat) (s : St) : va_W := [(g 1, .inr (1, [.ref (g 2), .ref (g 3), .ref (g 4), .ref (g 5), .int (s 0 4), .int (s 0 5)])), (g 2, .inl (cI, 9, .inl (s 1))), (g 3, .inl (cI, 161, .inl (s 2))), (g 4, .inl (cI, 7, .inl (s 3))), (g 5, .inl (cI, 3, .inl (s 4)))]
abbrev cellB (cI : ClassId) (g : Nat → Nat) (s : St) : va_W := [(g 6, .inr (0, [.ref (g 7), .ref (g 8), .ref (g 9), .ref (g 10), .ref (g 11), .int (s 0 5), .int (s 0 6)])), (g 7, .inl (cI, 61, .inl (s 1))), (g 8, .inl (cI, 16, .inl (s 2))), (g 9, .inl (cI, 16, .inl (s 3))), (g 10, .inl (cI, 31, .inl (s 4))), (g 11, .inl (cI, 31, .inl (s 5)))]
abbrev cellL (cI : ClassId) (g : Nat → Nat) (s : St) : va_W := [(g 12, .inr (3, [.ref (g 13), .ref (g 14), .ref (g 15), .ref (g 16), .int (s 0 4), .int (s 0 5), .int (s 0 6)])), (g 13, .inl (cI, 48, .inl (s 1))), (g 14, .inl (cI, 8, .inl (s 2))), (g 15, .inl (cI, 8, .inl (s 3))), (g 16, .inl (cI, 9, .inl (s 4)))]
abbrev cellS (cI : ClassId) (g : Nat → Nat) (s : St) : va_W := [(g 17, .inr (2, [.ref (g 18), .int (s 0 1), .int (s 0 2)])), (g 18, .inl (cI, 5, .inl (s 1)))]
abbrev cellR (cI : ClassId) (g : Nat → Nat) (s : St) (v : Int64) : va_W := [(g 0, .inr (5, [.ref (g 1), .int (s 0 1), .int (s 0 2), .int (s 0 3), .ref (g 2), .ref (g 3), .int (s 0 6), .int (s 0 7), .ref (g 4), .ref (g 5), .ref (g 6), .int (s 0 11), .ref (g 7), .int (s 0 13), .int (s 0 14), .ref (g 8), .int (s 0 16), .int (s 0 17), .long v, .int (s 0 19), .int (s 0 20), .int (s 0 21), .int (s 0 22), .int (s 0 23), .int (s 0 24), .int (s 0 25), .ref (g 9), .ref (g 10), .ref (g 11), .ref (g 12), .ref (g 13), .ref (g 14), .ref (g 15)])), (g 1, .inl (cI, 9, .inl (s 1))), (g 2, .inl (cI, 16, .inl (s 5))), (g 3, .inl (cI, 16, .inl (s 6))), (g 4, .inl (cI, 48, .inl (s 9))), (g 5, .inl (cI, 48, .inl (s 10))), (g 6, .inl (cI, 48, .inl (s 11))), (g 7, .inl (cI, 9, .inl (s 13))), (g 8, .inl (cI, 5, .inl (s 16))), (g 9, .inl (cI, 61, .inl (s 27))), (g 10, .inl (cI, 775, .inl (s 28))), (g 11, .inl (cI, 48, .inl (s 29))), (g 12, .inl (cI, 48, .inl (s 30))), (g 13, .inl (cI, 48, .inl (s 31))), (g 14, .inl (cI, 6, .inl (s 32))), (g 15, .inl (cI, 6, .inl (s 33)))]
theorem setM_M1 {cI : ClassId} {g : Nat → Nat} {sM : St} {i : Nat} {x : Int32} : (cellM cI g sM).set 1 (g 2, .inl (cI, 9, .inl (upd (sM 1) i x))) = cellM cI g (up sM 1 i x) := rfl
theorem setM_M2 {cI : ClassId} {g : Nat → Nat} {sM : St} {i : Nat} {x : Int32} : (cellM cI g sM).set 2 (g 3, .inl (cI, 161, .inl (upd (sM 2) i x))) = cellM cI g (up sM 2 i x) := rfl
theorem setM_M3 {cI : ClassId} {g : Nat → Nat} {sM : St} {i : Nat} {x : Int32} : (cellM cI g sM).set 3 (g 4, .inl (cI, 7, .inl (upd (sM 3) i x))) = cellM cI g (up sM 3 i x) := rfl
theorem setM_M4 {cI : ClassId} {g : Nat → Nat} {sM : St} {i : Nat} {x : Int32} : (cellM cI g sM).set 4 (g 5, .inl (cI, 3, .inl (upd (sM 4) i x))) = cellM cI g (up sM 4 i x) := rfl
theorem putM_M4 {cI : ClassId} {g : Nat → Nat} {sM : St} {x : Int32} : (cellM cI g sM).set 0 (g 1, .inr (1, ([.ref (g 2), .ref (g 3), .ref (g 4), .ref (g 5), .int (sM 0 4), .int (sM 0 5)] : List Value).set 4 (.int x))) = cellM cI g (up sM 0 4 x) := rfl
theorem putM_M5 {cI : ClassId} {g : Nat → Nat} {sM : St} {x : Int32} : (cellM cI g sM).set 0 (g 1, .inr (1, ([.ref (g 2), .ref (g 3), .ref (g 4), .ref (g 5), .int (sM 0 4), .int (sM 0 5)] : List Value).set 5 (.int x))) = cellM cI g (up sM 0 5 x) := rfl
theorem setB_B1 {cI : ClassId} {g : Nat → Nat} {sB : St} {i : Nat} {x : Int32} : (cellB cI g sB).set 1 (g 7, .inl (cI, 61, .inl (upd (sB 1) i x))) = cellB cI g (up sB 1 i x) := rfl
theorem setB_B2 {cI : ClassId} {g : Nat → Nat} {sB : St} {i : Nat} {x : Int32} : (cellB cI g sB).set 2 (g 8, .inl (cI, 16, .inl (upd (sB 2) i x))) = cellB cI g (up sB 2 i x) := rfl
theorem setB_B3 {cI : ClassId} {g : Nat → Nat} {sB : St} {i : Nat} {x : Int32} : (cellB cI g sB).set 3 (g 9, .inl (cI, 16, .inl (upd (sB 3) i x))) = cellB cI g (up sB 3 i x) := rfl
theorem setB_B4 {cI : ClassId} {g : Nat → Nat} {sB : St} {i : Nat} {x : Int32} : (cellB cI g sB).set 4 (g 10, .inl (cI, 31, .inl (upd (sB 4) i x))) = cellB cI g (up sB 4 i x) := rfl
theorem setB_B5 {cI : ClassId} {g : Nat → Nat} {sB : St} {i : Nat} {x : Int32} : (cellB cI g sB).set 5 (g 11, .inl (cI, 31, .inl (upd (sB 5) i x))) = cellB cI g (up sB 5 i x) := rfl
theorem putB_B5 {cI : ClassId} {g : Nat → Nat} {sB : St} {x : Int32} : (cellB cI g sB).set 0 (g 6, .inr (0, ([.ref (g 7), .ref (g 8), .ref (g 9), .ref (g 10), .ref (g 11), .int (sB 0 5), .int (sB 0 6)] : List Value).set 5 (.int x))) = cellB cI g (up sB 0 5 x) := rfl
theorem putB_B6 {cI : ClassId} {g : Nat → Nat} {sB : St} {x : Int32} : (cellB cI g sB).set 0 (g 6, .inr (0, ([.ref (g 7), .ref (g 8), .ref (g 9), .ref (g 10), .ref (g 11), .int (sB 0 5), .int (sB 0 6)] : List Value).set 6 (.int x))) = cellB cI g (up sB 0 6 x) := rfl
theorem setL_L1 {cI : ClassId} {g : Nat → Nat} {sL : St} {i : Nat} {x : Int32} : (cellL cI g sL).set 1 (g 13, .inl (cI, 48, .inl (upd (sL 1) i x))) = cellL cI g (up sL 1 i x) := rfl
theorem setL_L2 {cI : ClassId} {g : Nat → Nat} {sL : St} {i : Nat} {x : Int32} : (cellL cI g sL).set 2 (g 14, .inl (cI, 8, .inl (upd (sL 2) i x))) = cellL cI g (up sL 2 i x) := rfl
theorem setL_L3 {cI : ClassId} {g : Nat → Nat} {sL : St} {i : Nat} {x : Int32} : (cellL cI g sL).set 3 (g 15, .inl (cI, 8, .inl (upd (sL 3) i x))) = cellL cI g (up sL 3 i x) := rfl
theorem setL_L4 {cI : ClassId} {g : Nat → Nat} {sL : St} {i : Nat} {x : Int32} : (cellL cI g sL).set 4 (g 16, .inl (cI, 9, .inl (upd (sL 4) i x))) = cellL cI g (up sL 4 i x) := rfl
theorem putL_L4 {cI : ClassId} {g : Nat → Nat} {sL : St} {x : Int32} : (cellL cI g sL).set 0 (g 12, .inr (3, ([.ref (g 13), .ref (g 14), .ref (g 15), .ref (g 16), .int (sL 0 4), .int (sL 0 5), .int (sL 0 6)] : List Value).set 4 (.int x))) = cellL cI g (up sL 0 4 x) := rfl
theorem putL_L5 {cI : ClassId} {g : Nat → Nat} {sL : St} {x : Int32} : (cellL cI g sL).set 0 (g 12, .inr (3, ([.ref (g 13), .ref (g 14), .ref (g 15), .ref (g 16), .int (sL 0 4), .int (sL 0 5), .int (sL 0 6)] : List Value).set 5 (.int x))) = cellL cI g (up sL 0 5 x) := rfl
theorem putL_L6 {cI : ClassId} {g : Nat → Nat} {sL : St} {x : Int32} : (cellL cI g sL).set 0 (g 12, .inr (3, ([.ref (g 13), .ref (g 14), .ref (g 15), .ref (g 16), .int (sL 0 4), .int (sL 0 5), .int (sL 0 6)] : List Value).set 6 (.int x))) = cellL cI g (up sL 0 6 x) := rfl
theorem setS_S1 {cI : ClassId} {g : Nat → Nat} {sS : St} {i : Nat} {x : Int32} : (cellS cI g sS).set 1 (g 18, .inl (cI, 5, .inl (upd (sS 1) i x))) = cellS cI g (up sS 1 i x) := rfl
theorem putS_S1 {cI : ClassId} {g : Nat → Nat} {sS : St} {x : Int32} : (cellS cI g sS).set 0 (g 17, .inr (2, ([.ref (g 18), .int (sS 0 1), .int (sS 0 2)] : List Value).set 1 (.int x))) = cellS cI g (up sS 0 1 x) := rfl
theorem putS_S2 {cI : ClassId} {g : Nat → Nat} {sS : St} {x : Int32} : (cellS cI g sS).set 0 (g 17, .inr (2, ([.ref (g 18), .int (sS 0 1), .int (sS 0 2)] : List Value).set 2 (.int x))) = cellS cI g (up sS 0 2 x) := rfl
theorem setR_R1 {cI : ClassId} {g : Nat → Nat} {sR : St} {vR : Int64} {i : Nat} {x : Int32} : (cellR cI g sR vR).set 1 (g 1, .inl (cI, 9, .inl (upd (sR 1) i x))) = cellR cI g (up sR 1 i x) vR := rfl
theorem putR_R1 {cI : ClassId} {g : Nat → Nat} {sR : St} {vR : Int64} {x : Int32} : (cellR cI g sR vR).set 0 (g 0, .inr (5, ([.ref (g 1), .int (sR 0 1), .int (sR 0 2), .int (sR 0 3), .ref (g 2), .ref (g 3), .int (sR 0 6), .int (sR 0 7), .ref (g 4), .ref (g 5), .ref (g 6), .int (sR 0 11), .ref (g 7), .int (sR 0 13), .int (sR 0 14), .ref (g 8), .int (sR 0 16), .int (sR 0 17), .long vR, .int (sR 0 19), .int (sR 0 20), .int (sR 0 21), .int (sR 0 22), .int (sR 0 23), .int (sR 0 24), .int (sR 0 25), .ref (g 9), .ref (g 10), .ref (g 11), .ref (g 12), .ref (g 13), .ref (g 14), .ref (g 15)] : List Value).set 1 (.int x))) = cellR cI g (up sR 0 1 x) vR := rfl
theorem putR_R2 {cI : ClassId} {g : Nat → Nat} {sR : St} {vR : Int64} {x : Int32} : (cellR cI g sR vR).set 0 (g 0, .inr (5, ([.ref (g 1), .int (sR 0 1), .int (sR 0 2), .int (sR 0 3), .ref (g 2), .ref (g 3), .int (sR 0 6), .int (sR 0 7), .ref (g 4), .ref (g 5), .ref (g 6), .int (sR 0 11), .ref (g 7), .int (sR 0 13), .int (sR 0 14), .ref (g 8), .int (sR 0 16), .int (sR 0 17), .long vR, .int (sR 0 19), .int (sR 0 20), .int (sR 0 21), .int (sR 0 22), .int (sR 0 23), .int (sR 0 24), .int (sR 0 25), .ref (g 9), .ref (g 10), .ref (g 11), .ref (g 12), .ref (g 13), .ref (g 14), .ref (g 15)] : List Value).set 2 (.int x))) = cellR cI g (up sR 0 2 x) vR := rfl
theorem putR_R3 {cI : ClassId} {g : Nat → Nat} {sR : St} {vR : Int64} {x : Int32} : (cellR cI g sR vR).set 0 (g 0, .inr (5, ([.ref (g 1), .int (sR 0 1), .int (sR 0 2), .int (sR 0 3), .ref (g 2), .ref (g 3), .int (sR 0 6), .int (sR 0 7), .ref (g 4), .ref (g 5), .ref (g 6), .int (sR 0 11), .ref (g 7), .int (sR 0 13), .int (sR 0 14), .ref (g 8), .int (sR 0 16), .int (sR 0 17), .long vR, .int (sR 0 19), .int (sR 0 20), .int (sR 0 21), .int (sR 0 22), .int (sR 0 23), .int (sR 0 24), .int (sR 0 25), .ref (g 9), .ref (g 10), .ref (g 11), .ref (g 12), .ref (g 13), .ref (g 14), .ref (g 15)] : List Value).set 3 (.int x))) = cellR cI g (up sR 0 3 x) vR := rfl
theorem setR_R5 {cI : ClassId} {g : Nat → Nat} {sR : St} {vR : Int64} {i : Nat} {x : Int32} : (cellR cI g sR vR).set 2 (g 2, .inl (cI, 16, .inl (upd (sR 5) i x))) = cellR cI g (up sR 5 i x) vR := rfl
theorem setR_R6 {cI : ClassId} {g : Nat → Nat} {sR : St} {vR : Int64} {i : Nat} {x : Int32} : (cellR cI g sR vR).set 3 (g 3, .inl (cI, 16, .inl (upd (sR 6) i x))) = cellR cI g (up sR 6 i x) vR := rfl
theorem putR_R6 {cI : ClassId} {g : Nat → Nat} {sR : St} {vR : Int64} {x : Int32} : (cellR cI g sR vR).set 0 (g 0, .inr (5, ([.ref (g 1), .int (sR 0 1), .int (sR 0 2), .int (sR 0 3), .ref (g 2), .ref (g 3), .int (sR 0 6), .int (sR 0 7), .ref (g 4), .ref (g 5), .ref (g 6), .int (sR 0 11), .ref (g 7), .int (sR 0 13), .int (sR 0 14), .ref (g 8), .int (sR 0 16), .int (sR 0 17), .long vR, .int (sR 0 19), .int (sR 0 20), .int (sR 0 21), .int (sR 0 22), .int (sR 0 23), .int (sR 0 24), .int (sR 0 25), .ref (g 9), .ref (g 10), .ref (g 11), .ref (g 12), .ref (g 13), .ref (g 14), .ref (g 15)] : List Value).set 6 (.int x))) = cellR cI g (up sR 0 6 x) vR := rfl
theorem putR_R7 {cI : ClassId} {g : Nat → Nat} {sR : St} {vR : Int64} {x : Int32} : (cellR cI g sR vR).set 0 (g 0, .inr (5, ([.ref (g 1), .int (sR 0 1), .int (sR 0 2), .int (sR 0 3), .ref (g 2), .ref (g 3), .int (sR 0 6), .int (sR 0 7), .ref (g 4), .ref (g 5), .ref (g 6), .int (sR 0 11), .ref (g 7), .int (sR 0 13), .int (sR 0 14), .ref (g 8), .int (sR 0 16), .int (sR 0 17), .long vR, .int (sR 0 19), .int (sR 0 20), .int (sR 0 21), .int (sR 0 22), .int (sR 0 23), .int (sR 0 24), .int (sR 0 25), .ref (g 9), .ref (g 10), .ref (g 11), .ref (g 12), .ref (g 13), .ref (g 14), .ref (g 15)] : List Value).set 7 (.int x))) = cellR cI g (up sR 0 7 x) vR := rfl
theorem setR_R9 {cI : ClassId} {g : Nat → Nat} {sR : St} {vR : Int64} {i : Nat} {x : Int32} : (cellR cI g sR vR).set 4 (g 4, .inl (cI, 48, .inl (upd (sR 9) i x))) = cellR cI g (up sR 9 i x) vR := rfl
theorem setR_R10 {cI : ClassId} {g : Nat → Nat} {sR : St} {vR : Int64} {i : Nat} {x : Int32} : (cellR cI g sR vR).set 5 (g 5, .inl (cI, 48, .inl (upd (sR 10) i x))) = cellR cI g (up sR 10 i x) vR := rfl
theorem setR_R11 {cI : ClassId} {g : Nat → Nat} {sR : St} {vR : Int64} {i : Nat} {x : Int32} : (cellR cI g sR vR).set 6 (g 6, .inl (cI, 48, .inl (upd (sR 11) i x))) = cellR cI g (up sR 11 i x) vR := rfl
theorem putR_R11 {cI : ClassId} {g : Nat → Nat} {sR : St} {vR : Int64} {x : Int32} : (cellR cI g sR vR).set 0 (g 0, .inr (5, ([.ref (g 1), .int (sR 0 1), .int (sR 0 2), .int (sR 0 3), .ref (g 2), .ref (g 3), .int (sR 0 6), .int (sR 0 7), .ref (g 4), .ref (g 5), .ref (g 6), .int (sR 0 11), .ref (g 7), .int (sR 0 13), .int (sR 0 14), .ref (g 8), .int (sR 0 16), .int (sR 0 17), .long vR, .int (sR 0 19), .int (sR 0 20), .int (sR 0 21), .int (sR 0 22), .int (sR 0 23), .int (sR 0 24), .int (sR 0 25), .ref (g 9), .ref (g 10), .ref (g 11), .ref (g 12), .ref (g 13), .ref (g 14), .ref (g 15)] : List Value).set 11 (.int x))) = cellR cI g (up sR 0 11 x) vR := rfl
theorem setR_R13 {cI : ClassId} {g : Nat → Nat} {sR : St} {vR : Int64} {i : Nat} {x : Int32} : (cellR cI g sR vR).set 7 (g 7, .inl (cI, 9, .inl (upd (sR 13) i x))) = cellR cI g (up sR 13 i x) vR := rfl
theorem putR_R13 {cI : ClassId} {g : Nat → Nat} {sR : St} {vR : Int64} {x : Int32} : (cellR cI g sR vR).set 0 (g 0, .inr (5, ([.ref (g 1), .int (sR 0 1), .int (sR 0 2), .int (sR 0 3), .ref (g 2), .ref (g 3), .int (sR 0 6), .int (sR 0 7), .ref (g 4), .ref (g 5), .ref (g 6), .int (sR 0 11), .ref (g 7), .int (sR 0 13), .int (sR 0 14), .ref (g 8), .int (sR 0 16), .int (sR 0 17), .long vR, .int (sR 0 19), .int (sR 0 20), .int (sR 0 21), .int (sR 0 22), .int (sR 0 23), .int (sR 0 24), .int (sR 0 25), .ref (g 9), .ref (g 10), .ref (g 11), .ref (g 12), .ref (g 13), .ref (g 14), .ref (g 15)] : List Value).set 13 (.int x))) = cellR cI g (up sR 0 13 x) vR := rfl
theorem putR_R14 {cI : ClassId} {g : Nat → Nat} {sR : St} {vR : Int64} {x : Int32} : (cellR cI g sR vR).set 0 (g 0, .inr (5, ([.ref (g 1), .int (sR 0 1), .int (sR 0 2), .int (sR 0 3), .ref (g 2), .ref (g 3), .int (sR 0 6), .int (sR 0 7), .ref (g 4), .ref (g 5), .ref (g 6), .int (sR 0 11), .ref (g 7), .int (sR 0 13), .int (sR 0 14), .ref (g 8), .int (sR 0 16), .int (sR 0 17), .long vR, .int (sR 0 19), .int (sR 0 20), .int (sR 0 21), .int (sR 0 22), .int (sR 0 23), .int (sR 0 24), .int (sR 0 25), .ref (g 9), .ref (g 10), .ref (g 11), .ref (g 12), .ref (g 13), .ref (g 14), .ref (g 15)] : List Value).set 14 (.int x))) = cellR cI g (up sR 0 14 x) vR := rfl
theorem setR_R16 {cI : ClassId} {g : Nat → Nat} {sR : St} {vR : Int64} {i : Nat} {x : Int32} : (cellR cI g sR vR).set 8 (g 8, .inl (cI, 5, .inl (upd (sR 16) i x))) = cellR cI g (up sR 16 i x) vR := rfl
theorem putR_R16 {cI : ClassId} {g : Nat → Nat} {sR : St} {vR : Int64} {x : Int32} : (cellR cI g sR vR).set 0 (g 0, .inr (5, ([.ref (g 1), .int (sR 0 1), .int (sR 0 2), .int (sR 0 3), .ref (g 2), .ref (g 3), .int (sR 0 6), .int (sR 0 7), .ref (g 4), .ref (g 5), .ref (g 6), .int (sR 0 11), .ref (g 7), .int (sR 0 13), .int (sR 0 14), .ref (g 8), .int (sR 0 16), .int (sR 0 17), .long vR, .int (sR 0 19), .int (sR 0 20), .int (sR 0 21), .int (sR 0 22), .int (sR 0 23), .int (sR 0 24), .int (sR 0 25), .ref (g 9), .ref (g 10), .ref (g 11), .ref (g 12), .ref (g 13), .ref (g 14), .ref (g 15)] : List Value).set 16 (.int x))) = cellR cI g (up sR 0 16 x) vR := rfl
theorem putR_R17 {cI : ClassId} {g : Nat → Nat} {sR : St} {vR : Int64} {x : Int32} : (cellR cI g sR vR).set 0 (g 0, .inr (5, ([.ref (g 1), .int (sR 0 1), .int (sR 0 2), .int (sR 0 3), .ref (g 2), .ref (g 3), .int (sR 0 6), .int (sR 0 7), .ref (g 4), .ref (g 5), .ref (g 6), .int (sR 0 11), .ref (g 7), .int (sR 0 13), .int (sR 0 14), .ref (g 8), .int (sR 0 16), .int (sR 0 17), .long vR, .int (sR 0 19), .int (sR 0 20), .int (sR 0 21), .int (sR 0 22), .int (sR 0 23), .int (sR 0 24), .int (sR 0 25), .ref (g 9), .ref (g 10), .ref (g 11), .ref (g 12), .ref (g 13), .ref (g 14), .ref (g 15)] : List Value).set 17 (.int x))) = cellR cI g (up sR 0 17 x) vR := rfl
theorem putR_R18 {cI : ClassId} {g : Nat → Nat} {sR : St} {vR : Int64} {x : Int64} : (cellR cI g sR vR).set 0 (g 0, .inr (5, ([.ref (g 1), .int (sR 0 1), .int (sR 0 2), .int (sR 0 3), .ref (g 2), .ref (g 3), .int (sR 0 6), .int (sR 0 7), .ref (g 4), .ref (g 5), .ref (g 6), .int (sR 0 11), .ref (g 7), .int (sR 0 13), .int (sR 0 14), .ref (g 8), .int (sR 0 16), .int (sR 0 17), .long vR, .int (sR 0 19), .int (sR 0 20), .int (sR 0 21), .int (sR 0 22), .int (sR 0 23), .int (sR 0 24), .int (sR 0 25), .ref (g 9), .ref (g 10), .ref (g 11), .ref (g 12), .ref (g 13), .ref (g 14), .ref (g 15)] : List Value).set 18 (.long x))) = cellR cI g sR x := rfl
theorem putR_R19 {cI : ClassId} {g : Nat → Nat} {sR : St} {vR : Int64} {x : Int32} : (cellR cI g sR vR).set 0 (g 0, .inr (5, ([.ref (g 1), .int (sR 0 1), .int (sR 0 2), .int (sR 0 3), .ref (g 2), .ref (g 3), .int (sR 0 6), .int (sR 0 7), .ref (g 4), .ref (g 5), .ref (g 6), .int (sR 0 11), .ref (g 7), .int (sR 0 13), .int (sR 0 14), .ref (g 8), .int (sR 0 16), .int (sR 0 17), .long vR, .int (sR 0 19), .int (sR 0 20), .int (sR 0 21), .int (sR 0 22), .int (sR 0 23), .int (sR 0 24), .int (sR 0 25), .ref (g 9), .ref (g 10), .ref (g 11), .ref (g 12), .ref (g 13), .ref (g 14), .ref (g 15)] : List Value).set 19 (.int x))) = cellR cI g (up sR 0 19 x) vR := rfl
theorem putR_R20 {cI : ClassId} {g : Nat → Nat} {sR : St} {vR : Int64} {x : Int32} : (cellR cI g sR vR).set 0 (g 0, .inr (5, ([.ref (g 1), .int (sR 0 1), .int (sR 0 2), .int (sR 0 3), .ref (g 2), .ref (g 3), .int (sR 0 6), .int (sR 0 7), .ref (g 4), .ref (g 5), .ref (g 6), .int (sR 0 11), .ref (g 7), .int (sR 0 13), .int (sR 0 14), .ref (g 8), .int (sR 0 16), .int (sR 0 17), .long vR, .int (sR 0 19), .int (sR 0 20), .int (sR 0 21), .int (sR 0 22), .int (sR 0 23), .int (sR 0 24), .int (sR 0 25), .ref (g 9), .ref (g 10), .ref (g 11), .ref (g 12), .ref (g 13), .ref (g 14), .ref (g 15)] : List Value).set 20 (.int x))) = cellR cI g (up sR 0 20 x) vR := rfl
theorem putR_R21 {cI : ClassId} {g : Nat → Nat} {sR : St} {vR : Int64} {x : Int32} : (cellR cI g sR vR).set 0 (g 0, .inr (5, ([.ref (g 1), .int (sR 0 1), .int (sR 0 2), .int (sR 0 3), .ref (g 2), .ref (g 3), .int (sR 0 6), .int (sR 0 7), .ref (g 4), .ref (g 5), .ref (g 6), .int (sR 0 11), .ref (g 7), .int (sR 0 13), .int (sR 0 14), .ref (g 8), .int (sR 0 16), .int (sR 0 17), .long vR, .int (sR 0 19), .int (sR 0 20), .int (sR 0 21), .int (sR 0 22), .int (sR 0 23), .int (sR 0 24), .int (sR 0 25), .ref (g 9), .ref (g 10), .ref (g 11), .ref (g 12), .ref (g 13), .ref (g 14), .ref (g 15)] : List Value).set 21 (.int x))) = cellR cI g (up sR 0 21 x) vR := rfl
theorem putR_R22 {cI : ClassId} {g : Nat → Nat} {sR : St} {vR : Int64} {x : Int32} : (cellR cI g sR vR).set 0 (g 0, .inr (5, ([.ref (g 1), .int (sR 0 1), .int (sR 0 2), .int (sR 0 3), .ref (g 2), .ref (g 3), .int (sR 0 6), .int (sR 0 7), .ref (g 4), .ref (g 5), .ref (g 6), .int (sR 0 11), .ref (g 7), .int (sR 0 13), .int (sR 0 14), .ref (g 8), .int (sR 0 16), .int (sR 0 17), .long vR, .int (sR 0 19), .int (sR 0 20), .int (sR 0 21), .int (sR 0 22), .int (sR 0 23), .int (sR 0 24), .int (sR 0 25), .ref (g 9), .ref (g 10), .ref (g 11), .ref (g 12), .ref (g 13), .ref (g 14), .ref (g 15)] : List Value).set 22 (.int x))) = cellR cI g (up sR 0 22 x) vR := rfl
theorem putR_R23 {cI : ClassId} {g : Nat → Nat} {sR : St} {vR : Int64} {x : Int32} : (cellR cI g sR vR).set 0 (g 0, .inr (5, ([.ref (g 1), .int (sR 0 1), .int (sR 0 2), .int (sR 0 3), .ref (g 2), .ref (g 3), .int (sR 0 6), .int (sR 0 7), .ref (g 4), .ref (g 5), .ref (g 6), .int (sR 0 11), .ref (g 7), .int (sR 0 13), .int (sR 0 14), .ref (g 8), .int (sR 0 16), .int (sR 0 17), .long vR, .int (sR 0 19), .int (sR 0 20), .int (sR 0 21), .int (sR 0 22), .int (sR 0 23), .int (sR 0 24), .int (sR 0 25), .ref (g 9), .ref (g 10), .ref (g 11), .ref (g 12), .ref (g 13), .ref (g 14), .ref (g 15)] : List Value).set 23 (.int x))) = cellR cI g (up sR 0 23 x) vR := rfl
theorem putR_R24 {cI : ClassId} {g : Nat → Nat} {sR : St} {vR : Int64} {x : Int32} : (cellR cI g sR vR).set 0 (g 0, .inr (5, ([.ref (g 1), .int (sR 0 1), .int (sR 0 2), .int (sR 0 3), .ref (g 2), .ref (g 3), .int (sR 0 6), .int (sR 0 7), .ref (g 4), .ref (g 5), .ref (g 6), .int (sR 0 11), .ref (g 7), .int (sR 0 13), .int (sR 0 14), .ref (g 8), .int (sR 0 16), .int (sR 0 17), .long vR, .int (sR 0 19), .int (sR 0 20), .int (sR 0 21), .int (sR 0 22), .int (sR 0 23), .int (sR 0 24), .int (sR 0 25), .ref (g 9), .ref (g 10), .ref (g 11), .ref (g 12), .ref (g 13), .ref (g 14), .ref (g 15)] : List Value).set 24 (.int x))) = cellR cI g (up sR 0 24 x) vR := rfl
theorem putR_R25 {cI : ClassId} {g : Nat → Nat} {sR : St} {vR : Int64} {x : Int32} : (cellR cI g sR vR).set 0 (g 0, .inr (5, ([.ref (g 1), .int (sR 0 1), .int (sR 0 2), .int (sR 0 3), .ref (g 2), .ref (g 3), .int (sR 0 6), .int (sR 0 7), .ref (g 4), .ref (g 5), .ref (g 6), .int (sR 0 11), .ref (g 7), .int (sR 0 13), .int (sR 0 14), .ref (g 8), .int (sR 0 16), .int (sR 0 17), .long vR, .int (sR 0 19), .int (sR 0 20), .int (sR 0 21), .int (sR 0 22), .int (sR 0 23), .int (sR 0 24), .int (sR 0 25), .ref (g 9), .ref (g 10), .ref (g 11), .ref (g 12), .ref (g 13), .ref (g 14), .ref (g 15)] : List Value).set 25 (.int x))) = cellR cI g (up sR 0 25 x) vR := rfl
theorem setR_R27 {cI : ClassId} {g : Nat → Nat} {sR : St} {vR : Int64} {i : Nat} {x : Int32} : (cellR cI g sR vR).set 9 (g 9, .inl (cI, 61, .inl (upd (sR 27) i x))) = cellR cI g (up sR 27 i x) vR := rfl
theorem setR_R28 {cI : ClassId} {g : Nat → Nat} {sR : St} {vR : Int64} {i : Nat} {x : Int32} : (cellR cI g sR vR).set 10 (g 10, .inl (cI, 775, .inl (upd (sR 28) i x))) = cellR cI g (up sR 28 i x) vR := rfl
theorem setR_R29 {cI : ClassId} {g : Nat → Nat} {sR : St} {vR : Int64} {i : Nat} {x : Int32} : (cellR cI g sR vR).set 11 (g 11, .inl (cI, 48, .inl (upd (sR 29) i x))) = cellR cI g (up sR 29 i x) vR := rfl
theorem setR_R30 {cI : ClassId} {g : Nat → Nat} {sR : St} {vR : Int64} {i : Nat} {x : Int32} : (cellR cI g sR vR).set 12 (g 12, .inl (cI, 48, .inl (upd (sR 30) i x))) = cellR cI g (up sR 30 i x) vR := rfl
theorem setR_R31 {cI : ClassId} {g : Nat → Nat} {sR : St} {vR : Int64} {i : Nat} {x : Int32} : (cellR cI g sR vR).set 13 (g 13, .inl (cI, 48, .inl (upd (sR 31) i x))) = cellR cI g (up sR 31 i x) vR := rfl
theorem setR_R32 {cI : ClassId} {g : Nat → Nat} {sR : St} {vR : Int64} {i : Nat} {x : Int32} : (cellR cI g sR vR).set 14 (g 14, .inl (cI, 6, .inl (upd (sR 32) i x))) = cellR cI g (up sR 32 i x) vR := rfl
theorem setR_R33 {cI : ClassId} {g : Nat → Nat} {sR : St} {vR : Int64} {i : Nat} {x : Int32} : (cellR cI g sR vR).set 15 (g 15, .inl (cI, 6, .inl (upd (sR 33) i x))) = cellR cI g (up sR 33 i x) vR := rfl
theorem setMB_B1 {cI : ClassId} {g : Nat → Nat} {sM : St} {sB : St} {i : Nat} {x : Int32} : ((cellM cI g sM) ++ cellB cI g sB).set 6 (g 7, .inl (cI, 61, .inl (upd (sB 1) i x))) = (cellM cI g sM) ++ cellB cI g (up sB 1 i x) := rfl
theorem setMB_B2 {cI : ClassId} {g : Nat → Nat} {sM : St} {sB : St} {i : Nat} {x : Int32} : ((cellM cI g sM) ++ cellB cI g sB).set 7 (g 8, .inl (cI, 16, .inl (upd (sB 2) i x))) = (cellM cI g sM) ++ cellB cI g (up sB 2 i x) := rfl
theorem setMB_B3 {cI : ClassId} {g : Nat → Nat} {sM : St} {sB : St} {i : Nat} {x : Int32} : ((cellM cI g sM) ++ cellB cI g sB).set 8 (g 9, .inl (cI, 16, .inl (upd (sB 3) i x))) = (cellM cI g sM) ++ cellB cI g (up sB 3 i x) := rfl
theorem setMB_B4 {cI : ClassId} {g : Nat → Nat} {sM : St} {sB : St} {i : Nat} {x : Int32} : ((cellM cI g sM) ++ cellB cI g sB).set 9 (g 10, .inl (cI, 31, .inl (upd (sB 4) i x))) = (cellM cI g sM) ++ cellB cI g (up sB 4 i x) := rfl
theorem setMB_B5 {cI : ClassId} {g : Nat → Nat} {sM : St} {sB : St} {i : Nat} {x : Int32} : ((cellM cI g sM) ++ cellB cI g sB).set 10 (g 11, .inl (cI, 31, .inl (upd (sB 5) i x))) = (cellM cI g sM) ++ cellB cI g (up sB 5 i x) := rfl
theorem putMB_B5 {cI : ClassId} {g : Nat → Nat} {sM : St} {sB : St} {x : Int32} : ((cellM cI g sM) ++ cellB cI g sB).set 5 (g 6, .inr (0, ([.ref (g 7), .ref (g 8), .ref (g 9), .ref (g 10), .ref (g 11), .int (sB 0 5), .int (sB 0 6)] : List Value).set 5 (.int x))) = (cellM cI g sM) ++ cellB cI g (up sB 0 5 x) := rfl
theorem putMB_B6 {cI : ClassId} {g : Nat → Nat} {sM : St} {sB : St} {x : Int32} : ((cellM cI g sM) ++ cellB cI g sB).set 5 (g 6, .inr (0, ([.ref (g 7), .ref (g 8), .ref (g 9), .ref (g 10), .ref (g 11), .int (sB 0 5), .int (sB 0 6)] : List Value).set 6 (.int x))) = (cellM cI g sM) ++ cellB cI g (up sB 0 6 x) := rfl
theorem putTMBLS_T4 {cI : ClassId} {g : Nat → Nat} {sT : St} {vT : Int64} {sM : St} {sB : St} {sL : St} {sS : St} {x : Int32} : (((((cellT cI g sT vT) ++ cellM cI g sM) ++ cellB cI g sB) ++ cellL cI g sL) ++ cellS cI g sS).set 0 (g 0, .inr (4, ([.ref (g 1), .ref (g 6), .ref (g 12), .ref (g 17), .int (sT 0 4), .int (sT 0 5), .long vT] : List Value).set 4 (.int x))) = ((((cellT cI g (up sT 0 4 x) vT) ++ cellM cI g sM) ++ cellB cI g sB) ++ cellL cI g sL) ++ cellS cI g sS := rfl
theorem putTMBLS_T5 {cI : ClassId} {g : Nat → Nat} {sT : St} {vT : Int64} {sM : St} {sB : St} {sL : St} {sS : St} {x : Int32} : (((((cellT cI g sT vT) ++ cellM cI g sM) ++ cellB cI g sB) ++ cellL cI g sL) ++ cellS cI g sS).set 0 (g 0, .inr (4, ([.ref (g 1), .ref (g 6), .ref (g 12), .ref (g 17), .int (sT 0 4), .int (sT 0 5), .long vT] : List Value).set 5 (.int x))) = ((((cellT cI g (up sT 0 5 x) vT) ++ cellM cI g sM) ++ cellB cI g sB) ++ cellL cI g sL) ++ cellS cI g sS := rfl
theorem putTMBLS_T6 {cI : ClassId} {g : Nat → Nat} {sT : St} {vT : Int64} {sM : St} {sB : St} {sL : St} {sS : St} {x : Int64} : (((((cellT cI g sT vT) ++ cellM cI g sM) ++ cellB cI g sB) ++ cellL cI g sL) ++ cellS cI g sS).set 0 (g 0, .inr (4, ([.ref (g 1), .ref (g 6), .ref (g 12), .ref (g 17), .int (sT 0 4), .int (sT 0 5), .long vT] : List Value).set 6 (.long x))) = ((((cellT cI g sT x) ++ cellM cI g sM) ++ cellB cI g sB) ++ cellL cI g sL) ++ cellS cI g sS := rfl

theorem tl_m1000000 : ((-1000000) : Int32).toInt = (-1000000) := by decide +kernel
theorem tl_m2000 : ((-2000) : Int32).toInt = (-2000) := by decide +kernel
theorem tl_m1000 : ((-1000) : Int32).toInt = (-1000) := by decide +kernel
theorem tl_m180 : ((-180) : Int32).toInt = (-180) := by decide +kernel
theorem tl_m100 : ((-100) : Int32).toInt = (-100) := by decide +kernel
theorem tl_m20 : ((-20) : Int32).toInt = (-20) := by decide +kernel
theorem tl_m13 : ((-13) : Int32).toInt = (-13) := by decide +kernel
theorem tl_m12 : ((-12) : Int32).toInt = (-12) := by decide +kernel
theorem tl_m9 : ((-9) : Int32).toInt = (-9) := by decide +kernel
theorem tl_m3 : ((-3) : Int32).toInt = (-3) := by decide +kernel
theorem tl_m2 : ((-2) : Int32).toInt = (-2) := by decide +kernel
theorem tl_m1 : ((-1) : Int32).toInt = (-1) := by decide +kernel
theorem tl_0 : (0 : Int32).toInt = 0 := by decide +kernel
theorem tl_1 : (1 : Int32).toInt = 1 := by decide +kernel
theorem tl_2 : (2 : Int32).toInt = 2 := by decide +kernel
theorem tl_3 : (3 : Int32).toInt = 3 := by decide +kernel
theorem tl_4 : (4 : Int32).toInt = 4 := by decide +kernel
theorem tl_5 : (5 : Int32).toInt = 5 := by decide +kernel
theorem tl_6 : (6 : Int32).toInt = 6 := by decide +kernel
theorem tl_7 : (7 : Int32).toInt = 7 := by decide +kernel
theorem tl_8 : (8 : Int32).toInt = 8 := by decide +kernel
theorem tl_9 : (9 : Int32).toInt = 9 := by decide +kernel
theorem tl_10 : (10 : Int32).toInt = 10 := by decide +kernel
theorem tl_11 : (11 : Int32).toInt = 11 := by decide +kernel
theorem tl_12 : (12 : Int32).toInt = 12 := by decide +kernel
theorem tl_16 : (16 : Int32).toInt = 16 := by decide +kernel
theorem tl_20 : (20 : Int32).toInt = 20 := by decide +kernel
theorem tl_25 : (25 : Int32).toInt = 25 := by decide +kernel
theorem tl_30 : (30 : Int32).toInt = 30 := by decide +kernel
theorem tl_31 : (31 : Int32).toInt = 31 := by decide +kernel
theorem tl_40 : (40 : Int32).toInt = 40 := by decide +kernel
theorem tl_48 : (48 : Int32).toInt = 48 := by decide +kernel
theorem tl_50 : (50 : Int32).toInt = 50 := by decide +kernel
theorem tl_60 : (60 : Int32).toInt = 60 := by decide +kernel
theorem tl_61 : (61 : Int32).toInt = 61 := by decide +kernel
theorem tl_63 : (63 : Int32).toInt = 63 := by decide +kernel
theorem tl_85 : (85 : Int32).toInt = 85 := by decide +kernel
theorem tl_89 : (89 : Int32).toInt = 89 := by decide +kernel
theorem tl_99 : (99 : Int32).toInt = 99 := by decide +kernel
theorem tl_100 : (100 : Int32).toInt = 100 := by decide +kernel
theorem tl_111 : (111 : Int32).toInt = 111 := by decide +kernel
theorem tl_160 : (160 : Int32).toInt = 160 := by decide +kernel
theorem tl_161 : (161 : Int32).toInt = 161 := by decide +kernel
theorem tl_180 : (180 : Int32).toInt = 180 := by decide +kernel
theorem tl_200 : (200 : Int32).toInt = 200 := by decide +kernel
theorem tl_300 : (300 : Int32).toInt = 300 := by decide +kernel
theorem tl_500 : (500 : Int32).toInt = 500 := by decide +kernel
theorem tl_775 : (775 : Int32).toInt = 775 := by decide +kernel
theorem tl_900 : (900 : Int32).toInt = 900 := by decide +kernel
theorem tl_999 : (999 : Int32).toInt = 999 := by decide +kernel
theorem tl_1000 : (1000 : Int32).toInt = 1000 := by decide +kernel
theorem tl_2000 : (2000 : Int32).toInt = 2000 := by decide +kernel
theorem tl_4000 : (4000 : Int32).toInt = 4000 := by decide +kernel
theorem tl_9000 : (9000 : Int32).toInt = 9000 := by decide +kernel
theorem tl_9999 : (9999 : Int32).toInt = 9999 := by decide +kernel
theorem tl_20000 : (20000 : Int32).toInt = 20000 := by decide +kernel
theorem tl_40500 : (40500 : Int32).toInt = 40500 := by decide +kernel
theorem tl_100000 : (100000 : Int32).toInt = 100000 := by decide +kernel
theorem tl_1000000 : (1000000 : Int32).toInt = 1000000 := by decide +kernel
theorem tl_252645135 : (252645135 : Int32).toInt = 252645135 := by decide +kernel
theorem tl_858993459 : (858993459 : Int32).toInt = 858993459 := by decide +kernel
theorem tl_1431655765 : (1431655765 : Int32).toInt = 1431655765 := by decide +kernel
