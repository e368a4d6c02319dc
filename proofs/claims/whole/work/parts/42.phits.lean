/-! the fewest hits: sets of cells against the table by rows -/
def onP (p k : Nat) : Bool := k == 0 || p.testBit (k - 1)
def fe (st pr : Nat → Bool) (p : Nat) : Nat → Prop
  | 0 => True
  | k + 1 => fe st pr p k ∧ (p.testBit k = true → st k = true ∧ (onP p k = true ∨ pr k = true))
def pc (p : Nat) : Nat → Nat
  | 0 => 0
  | k + 1 => pc p k + (if p.testBit k then 1 else 0)
def co (st pr : Nat → Bool) (c : Nat → Int) (p : Nat) : Nat → Int
  | 0 => 0
  | k + 1 => co st pr c p k + (if st k = true ∧ p.testBit k = false then (if onP p k = true then c k else if pr k = true then 1 else 0) else 0)
theorem onP_s {p k : Nat} : onP p (k + 1) = p.testBit k := by simp [onP]
section PATH
variable {st pr : Nat → Bool} {c : Nat → Int}
theorem onP_ext {p q k : Nat} (h : ∀ j, j < k → p.testBit j = q.testBit j) : onP p k = onP q k := by
  cases k with
  | zero => rfl
  | succ k => rw [onP_s, onP_s, h k (by omega)]
theorem fe_ext {p q : Nat} : ∀ {k : Nat}, (∀ j, j < k → p.testBit j = q.testBit j) → (fe st pr p k ↔ fe st pr q k)
  | 0, _ => Iff.rfl
  | k + 1, h => by
    unfold fe
    rw [fe_ext (fun j hj => h j (by omega)), h k (by omega), onP_ext (fun j hj => h j (by omega))]
theorem pc_ext {p q : Nat} : ∀ {k : Nat}, (∀ j, j < k → p.testBit j = q.testBit j) → pc p k = pc q k
  | 0, _ => rfl
  | k + 1, h => by
    unfold pc
    rw [pc_ext (fun j hj => h j (by omega)), h k (by omega)]
theorem co_ext {p q : Nat} : ∀ {k : Nat}, (∀ j, j < k → p.testBit j = q.testBit j) → co st pr c p k = co st pr c q k
  | 0, _ => rfl
  | k + 1, h => by
    unfold co
    rw [co_ext (fun j hj => h j (by omega)), h k (by omega), onP_ext (fun j hj => h j (by omega))]
theorem fe_mono {p : Nat} {k : Nat} : ∀ {n : Nat}, k ≤ n → fe st pr p n → fe st pr p k
  | 0, h, f => by rw [show k = 0 by omega]; exact f
  | n + 1, h, f => by
    by_cases e : k = n + 1
    · rw [e]; exact f
    · exact fe_mono (by omega) f.1
theorem co_b {p : Nat} (hc : ∀ k, st k = true → 0 ≤ c k ∧ c k ≤ 99) : ∀ k, 0 ≤ co st pr c p k ∧ co st pr c p k ≤ 99 * (k : Int)
  | 0 => by unfold co; omega
  | k + 1 => by
    have ih := co_b (p := p) hc k
    unfold co
    split
    · rename_i q
      have := hc k q.1
      split
      · omega
      · split <;> omega
    · omega
theorem fe_0 : ∀ k, fe st pr 0 k
  | 0 => trivial
  | k + 1 => ⟨fe_0 k, fun h => by simp at h⟩
theorem pc_0 : ∀ k, pc 0 k = 0
  | 0 => rfl
  | k + 1 => by unfold pc; rw [pc_0 k]; simp
/-- a table K of six numbers is right for the first k rows -/
def tabOk (st pr : Nat → Bool) (c : Nat → Int) (K : Nat → Int) (k : Nat) : Prop :=
  (∀ i, i < 6 → 0 ≤ K i ∧ K i ≤ 100000 + 100 * (k : Int)) ∧
  (∀ n, n < 3 → ∀ p, fe st pr p k → pc p k = n → K (2 * n + (if onP p k then 0 else 1)) ≤ co st pr c p k) ∧
  (∀ n, n < 3 → ∀ b : Bool, K (2 * n + (if b then 0 else 1)) < 100000 → ∃ p, p < 2 ^ k ∧ fe st pr p k ∧ pc p k = n ∧ onP p k = b ∧ co st pr c p k = K (2 * n + (if b then 0 else 1)))
def nOff (s1 p1 : Bool) (ck on off : Int) : Int := if s1 = true then min 100000 (min (on + ck) (off + (if p1 = true then 1 else 0))) else min 100000 (min on off)
def nOn (s1 p1 : Bool) (on off : Int) : Int := if s1 = true then min 100000 (min on (if p1 = true then off else 100000)) else 100000
theorem tab_step {K K' : Nat → Int} {k : Nat} (hc : ∀ k, st k = true → 0 ≤ c k ∧ c k ≤ 99) (h : tabOk st pr c K k) (h0 : K' 0 = 100000) (hoff : ∀ n, n < 3 → K' (2 * n + 1) = nOff (st k) (pr k) (c k) (K (2 * n)) (K (2 * n + 1))) (hon : ∀ n, n < 2 → K' (2 * n + 2) = nOn (st k) (pr k) (K (2 * n)) (K (2 * n + 1))) : tabOk st pr c K' (k + 1) := by
  obtain ⟨b0, b1, b2⟩ := h
  have hb : ∀ n, n < 3 → (0 ≤ K (2 * n) ∧ 0 ≤ K (2 * n + 1)) := fun n hn => ⟨(b0 _ (by omega)).1, (b0 _ (by omega)).1⟩
  have key : ∀ i, i < 6 → 0 ≤ K' i ∧ K' i ≤ 100000 := by
    intro i hi
    have e1 : i = 0 ∨ (∃ n, n < 3 ∧ i = 2 * n + 1) ∨ (∃ n, n < 2 ∧ i = 2 * n + 2) := by
      by_cases z : i = 0
      · exact Or.inl z
      · by_cases o : i % 2 = 1
        · exact Or.inr (Or.inl ⟨i / 2, by omega, by omega⟩)
        · exact Or.inr (Or.inr ⟨i / 2 - 1, by omega, by omega⟩)
    rcases e1 with e | ⟨n, hn, e⟩ | ⟨n, hn, e⟩
    · rw [e, h0]; omega
    · have := hb n hn
      rw [e, hoff n hn]
      unfold nOff
      split
      · rename_i q
        have := hc k q
        split <;> omega
      · omega
    · have := hb n (by omega)
      rw [e, hon n hn]
      unfold nOn
      split
      · split <;> omega
      · omega
  refine ⟨fun i hi => by have := key i hi; omega, ?_, ?_⟩
  · intro n hn p hf hp
    rw [onP_s]
    unfold fe at hf
    unfold pc at hp
    unfold co
    by_cases t : p.testBit k = true
    · rw [if_pos t] at hp
      rw [if_pos t, if_neg (by rw [t]; simp)]
      obtain ⟨q1, q2⟩ := hf.2 t
      obtain ⟨m, rfl⟩ : ∃ m, n = m + 1 := ⟨n - 1, by omega⟩
      have ih := b1 m (by omega) p hf.1 (by omega)
      rw [show 2 * (m + 1) + 0 = 2 * m + 2 by omega, hon m (by omega)]
      unfold nOn
      rw [if_pos q1]
      by_cases o : onP p k = true
      · rw [if_pos o] at ih
        have : 2 * m + 0 = 2 * m := by omega
        rw [this] at ih
        omega
      · rw [if_neg o] at ih
        rw [if_pos (q2.resolve_left o)]
        omega
    · have t' : p.testBit k = false := by simpa using t
      rw [if_neg t] at hp
      rw [if_neg t, hoff n hn]
      have ih := b1 n hn p hf.1 (by omega)
      unfold nOff
      by_cases s1 : st k = true
      · rw [if_pos s1, if_pos (show st k = true ∧ p.testBit k = false from ⟨s1, t'⟩)]
        by_cases o : onP p k = true
        · rw [if_pos o] at ih ⊢
          have : 2 * n + 0 = 2 * n := by omega
          rw [this] at ih
          omega
        · rw [if_neg o] at ih ⊢
          omega
      · rw [if_neg s1, if_neg (fun q => s1 q.1)]
        by_cases o : onP p k = true
        · rw [if_pos o] at ih
          have : 2 * n + 0 = 2 * n := by omega
          rw [this] at ih
          omega
        · rw [if_neg o] at ih
          omega
  · intro n hn b hlt
    -- a path without row k
    have drop : ∀ p, p < 2 ^ k → (∀ j, j < k → p.testBit j = p.testBit j) ∧ p.testBit k = false ∧ p < 2 ^ (k + 1) := fun p hp => ⟨fun _ _ => rfl, Nat.testBit_lt_two_pow hp, by rw [Nat.pow_succ]; omega⟩
    cases b with
    | false =>
      rw [if_neg (by decide)] at hlt ⊢
      rw [hoff n hn] at hlt ⊢
      unfold nOff at hlt ⊢
      -- which of the two was the cheaper
      have mk : ∀ (b : Bool) (e : Int), K (2 * n + (if b then 0 else 1)) < 100000 → (∀ p, onP p k = b → p.testBit k = false → (if st k = true ∧ p.testBit k = false then (if onP p k = true then c k else if pr k = true then 1 else 0) else 0) = e) → ∃ p, p < 2 ^ (k + 1) ∧ fe st pr p (k + 1) ∧ pc p (k + 1) = n ∧ onP p (k + 1) = false ∧ co st pr c p (k + 1) = K (2 * n + (if b then 0 else 1)) + e := by
        intro b e hk he
        obtain ⟨p, p1, p2, p3, p4, p5⟩ := b2 n hn b hk
        obtain ⟨-, d2, d3⟩ := drop p p1
        refine ⟨p, d3, ⟨p2, fun q => by rw [d2] at q; cases q⟩, ?_, ?_, ?_⟩
        · unfold pc; rw [d2, p3]; simp
        · rw [onP_s, d2]
        · show co st pr c p k + _ = _
          rw [p5, he p p4 d2]
      by_cases s1 : st k = true
      · rw [if_pos s1] at hlt ⊢
        have hck := hc k s1
        by_cases w : K (2 * n) + c k ≤ K (2 * n + 1) + (if pr k = true then 1 else 0)
        · have hk : K (2 * n) < 100000 := by omega
          obtain ⟨p, p1, p2, p3, p4, p5⟩ := mk true (c k) (by rw [if_pos rfl]; exact hk) (fun p hp ht => by rw [if_pos ⟨s1, ht⟩, if_pos hp])
          refine ⟨p, p1, p2, p3, p4, ?_⟩
          rw [p5, if_pos rfl]
          show K (2 * n) + c k = _
          omega
        · have hk : K (2 * n + 1) < 100000 := by
            by_cases q : pr k = true
            · rw [if_pos q] at hlt w; omega
            · rw [if_neg q] at hlt w; omega
          obtain ⟨p, p1, p2, p3, p4, p5⟩ := mk false (if pr k = true then 1 else 0) (by rw [if_neg (by decide)]; exact hk) (fun p hp ht => by rw [if_pos ⟨s1, ht⟩, if_neg (by rw [hp]; decide)])
          refine ⟨p, p1, p2, p3, p4, ?_⟩
          rw [p5, if_neg (by decide)]
          omega
      · rw [if_neg s1] at hlt ⊢
        by_cases w : K (2 * n) ≤ K (2 * n + 1)
        · obtain ⟨p, p1, p2, p3, p4, p5⟩ := mk true 0 (by rw [if_pos rfl]; show K (2 * n) < _; omega) (fun p hp ht => by rw [if_neg (fun q => s1 q.1)])
          refine ⟨p, p1, p2, p3, p4, ?_⟩
          rw [p5, if_pos rfl]
          show K (2 * n) + 0 = _
          omega
        · obtain ⟨p, p1, p2, p3, p4, p5⟩ := mk false 0 (by rw [if_neg (by decide)]; omega) (fun p hp ht => by rw [if_neg (fun q => s1 q.1)])
          refine ⟨p, p1, p2, p3, p4, ?_⟩
          rw [p5, if_neg (by decide)]
          omega
    | true =>
      rw [if_pos rfl] at hlt ⊢
      cases n with
      | zero =>
        rw [show 2 * 0 + 0 = 0 by omega, h0] at hlt
        omega
      | succ m =>
        rw [show 2 * (m + 1) + 0 = 2 * m + 2 by omega, hon m (by omega)] at hlt ⊢
        unfold nOn at hlt ⊢
        by_cases s1 : st k = true
        · rw [if_pos s1] at hlt ⊢
          have mk : ∀ b : Bool, K (2 * m + (if b then 0 else 1)) < 100000 → (b = true ∨ pr k = true) → ∃ p, p < 2 ^ (k + 1) ∧ fe st pr p (k + 1) ∧ pc p (k + 1) = m + 1 ∧ onP p (k + 1) = true ∧ co st pr c p (k + 1) = K (2 * m + (if b then 0 else 1)) := by
            intro b hk hp
            obtain ⟨p, p1, p2, p3, p4, p5⟩ := b2 m (by omega) b hk
            have tk : (2 ^ k + p).testBit k = true := by rw [Nat.testBit_two_pow_add_eq, Nat.testBit_lt_two_pow p1]; rfl
            have tj : ∀ j, j < k → (2 ^ k + p).testBit j = p.testBit j := fun j hj => Nat.testBit_two_pow_add_gt hj p
            refine ⟨2 ^ k + p, by rw [Nat.pow_succ]; omega, ⟨(fe_ext tj).mpr p2, fun _ => ⟨s1, ?_⟩⟩, ?_, ?_, ?_⟩
            · rw [onP_ext tj, p4]; exact hp
            · unfold pc; rw [pc_ext tj, p3, tk]; simp
            · rw [onP_s, tk]
            · show co st pr c (2 ^ k + p) k + _ = _
              rw [co_ext tj, p5, if_neg (show ¬ (st k = true ∧ (2 ^ k + p).testBit k = false) by rw [tk]; simp)]
              omega
          by_cases w : K (2 * m) < 100000 ∧ (K (2 * m) ≤ K (2 * m + 1) ∨ ¬ pr k = true)
          · obtain ⟨p, p1, p2, p3, p4, p5⟩ := mk true (by rw [if_pos rfl]; exact w.1) (Or.inl rfl)
            refine ⟨p, p1, p2, p3, p4, ?_⟩
            rw [p5, if_pos rfl]
            show K (2 * m) = _
            by_cases q : pr k = true
            · rw [if_pos q]
              have := w.2.resolve_right (fun z => z q)
              omega
            · rw [if_neg q]; omega
          · have q : pr k = true := by
              by_cases q : pr k = true
              · exact q
              · rw [if_neg q] at hlt
                exact absurd ⟨by omega, Or.inr q⟩ w
            rw [if_pos q] at hlt ⊢
            have hk : K (2 * m + 1) < 100000 := by
              by_cases z : K (2 * m) < 100000
              · have : ¬ K (2 * m) ≤ K (2 * m + 1) := fun y => w ⟨z, Or.inl y⟩
                omega
              · omega
            obtain ⟨p, p1, p2, p3, p4, p5⟩ := mk false (by rw [if_neg (by decide)]; exact hk) (Or.inr q)
            refine ⟨p, p1, p2, p3, p4, ?_⟩
            rw [p5, if_neg (by decide)]
            by_cases z : K (2 * m) < 100000
            · have : ¬ K (2 * m) ≤ K (2 * m + 1) := fun y => w ⟨z, Or.inl y⟩
              omega
            · omega
        · rw [if_neg s1] at hlt
          omega
theorem tab_0 {K : Nat → Int} (h0 : K 0 = 0) (h1 : ∀ i, 0 < i → i < 6 → K i = 100000) : tabOk st pr c K 0 := by
  refine ⟨fun i hi => ?_, fun n hn p _ hp => ?_, fun n hn b hlt => ?_⟩
  · by_cases e : i = 0
    · rw [e, h0]; omega
    · rw [h1 i (by omega) hi]; omega
  · have : n = 0 := hp.symm
    subst this
    show K (2 * 0 + (if true then 0 else 1)) ≤ 0
    rw [if_pos rfl, h0]; omega
  · by_cases e : 2 * n + (if b then 0 else 1) = 0
    · cases b with
      | false => rw [if_neg (by decide)] at e; omega
      | true =>
        rw [if_pos rfl] at e
        have : n = 0 := by omega
        subst this
        exact ⟨0, by decide, trivial, rfl, rfl, by rw [if_pos rfl, h0]; rfl⟩
    · rw [h1 _ (by omega) (by split <;> omega)] at hlt
      omega
end PATH
