section
-- ===== PART A: goes FIRST, ahead of the names: the tables' words, and 'selects' of the private methods out of them =====
/-- a private method of a class that the tables say can be made, by its rows of tables_1 -/
def lw_okq (q : MethodName × Nat) : Prop := (q.1.cls ≠ "java/lang/invoke/MethodHandle" ∧ q.1.cls ≠ "java/lang/invoke/VarHandle") ∧ Cond.instantiable q.1.cls q.2 ∈ tables_1 ∧ Cond.privateMethod q.1 ∈ tables_1 ∧ Cond.instanceMethod q.1 ∈ tables_1
theorem lw_p0 : lw_okq (⟨"WallStones$Machine", "turnBeam", "()V"⟩, 6) := ⟨⟨by decide +kernel, by decide +kernel⟩, List.mem_of_getElem? (i := 18) (by decide +kernel), List.mem_of_getElem? (i := 24) (by decide +kernel), List.mem_of_getElem? (i := 25) (by decide +kernel)⟩
theorem lw_p1 : lw_okq (⟨"WallStones$Machine", "turnOfRelease", "(II)I"⟩, 6) := ⟨⟨by decide +kernel, by decide +kernel⟩, List.mem_of_getElem? (i := 18) (by decide +kernel), List.mem_of_getElem? (i := 208) (by decide +kernel), List.mem_of_getElem? (i := 209) (by decide +kernel)⟩
theorem lw_p2 : lw_okq (⟨"WallStones$Machine", "reckonRelease", "(III)V"⟩, 6) := ⟨⟨by decide +kernel, by decide +kernel⟩, List.mem_of_getElem? (i := 18) (by decide +kernel), List.mem_of_getElem? (i := 218) (by decide +kernel), List.mem_of_getElem? (i := 219) (by decide +kernel)⟩
theorem lw_p3 : lw_okq (⟨"WallStones$Machine", "speedFor", "(II)J"⟩, 6) := ⟨⟨by decide +kernel, by decide +kernel⟩, List.mem_of_getElem? (i := 18) (by decide +kernel), List.mem_of_getElem? (i := 222) (by decide +kernel), List.mem_of_getElem? (i := 223) (by decide +kernel)⟩
theorem lw_p4 : lw_okq (⟨"WallStones$Machine", "keepTuning", "(III)V"⟩, 6) := ⟨⟨by decide +kernel, by decide +kernel⟩, List.mem_of_getElem? (i := 18) (by decide +kernel), List.mem_of_getElem? (i := 262) (by decide +kernel), List.mem_of_getElem? (i := 263) (by decide +kernel)⟩
theorem lw_p5 : lw_okq (⟨"WallStones$Book", "bear", "(III)V"⟩, 7) := ⟨⟨by decide +kernel, by decide +kernel⟩, List.mem_of_getElem? (i := 64) (by decide +kernel), List.mem_of_getElem? (i := 313) (by decide +kernel), List.mem_of_getElem? (i := 314) (by decide +kernel)⟩
theorem lw_p6 : lw_okq (⟨"WallStones$Book", "scaled", "(II)I"⟩, 7) := ⟨⟨by decide +kernel, by decide +kernel⟩, List.mem_of_getElem? (i := 64) (by decide +kernel), List.mem_of_getElem? (i := 317) (by decide +kernel), List.mem_of_getElem? (i := 318) (by decide +kernel)⟩
theorem lw_p7 : lw_okq (⟨"WallStones$Book", "isLeft", "(I)Z"⟩, 7) := ⟨⟨by decide +kernel, by decide +kernel⟩, List.mem_of_getElem? (i := 64) (by decide +kernel), List.mem_of_getElem? (i := 331) (by decide +kernel), List.mem_of_getElem? (i := 332) (by decide +kernel)⟩
theorem lw_p8 : lw_okq (⟨"WallStones$Wall", "dropUnheld", "(I)V"⟩, 7) := ⟨⟨by decide +kernel, by decide +kernel⟩, List.mem_of_getElem? (i := 92) (by decide +kernel), List.mem_of_getElem? (i := 430) (by decide +kernel), List.mem_of_getElem? (i := 431) (by decide +kernel)⟩
theorem lw_p9 : lw_okq (⟨"WallStones$Wall", "isOpen", "(I)Z"⟩, 7) := ⟨⟨by decide +kernel, by decide +kernel⟩, List.mem_of_getElem? (i := 92) (by decide +kernel), List.mem_of_getElem? (i := 462) (by decide +kernel), List.mem_of_getElem? (i := 463) (by decide +kernel)⟩
theorem lw_p10 : lw_okq (⟨"WallStones$Wall", "hitsToKeep", "(III)I"⟩, 7) := ⟨⟨by decide +kernel, by decide +kernel⟩, List.mem_of_getElem? (i := 92) (by decide +kernel), List.mem_of_getElem? (i := 480) (by decide +kernel), List.mem_of_getElem? (i := 481) (by decide +kernel)⟩
theorem lw_p11 : lw_okq (⟨"WallStones$Wall", "fallsBy", "(III)I"⟩, 7) := ⟨⟨by decide +kernel, by decide +kernel⟩, List.mem_of_getElem? (i := 92) (by decide +kernel), List.mem_of_getElem? (i := 506) (by decide +kernel), List.mem_of_getElem? (i := 507) (by decide +kernel)⟩
theorem lw_p12 : lw_okq (⟨"WallStones$Siege", "isWet", "(I)Z"⟩, 3) := ⟨⟨by decide +kernel, by decide +kernel⟩, List.mem_of_getElem? (i := 124) (by decide +kernel), List.mem_of_getElem? (i := 614) (by decide +kernel), List.mem_of_getElem? (i := 615) (by decide +kernel)⟩
theorem lw_p13 : lw_okq (⟨"WallStonesModel", "newWall", "()V"⟩, 33) := ⟨⟨by decide +kernel, by decide +kernel⟩, List.mem_of_getElem? (i := 653) (by decide +kernel), List.mem_of_getElem? (i := 659) (by decide +kernel), List.mem_of_getElem? (i := 660) (by decide +kernel)⟩
theorem lw_p14 : lw_okq (⟨"WallStonesModel", "step", "(II)V"⟩, 33) := ⟨⟨by decide +kernel, by decide +kernel⟩, List.mem_of_getElem? (i := 653) (by decide +kernel), List.mem_of_getElem? (i := 795) (by decide +kernel), List.mem_of_getElem? (i := 796) (by decide +kernel)⟩
theorem lw_p15 : lw_okq (⟨"WallStonesModel", "givenAt", "(I)I"⟩, 33) := ⟨⟨by decide +kernel, by decide +kernel⟩, List.mem_of_getElem? (i := 653) (by decide +kernel), List.mem_of_getElem? (i := 799) (by decide +kernel), List.mem_of_getElem? (i := 800) (by decide +kernel)⟩
def lw_privs_1 : List (MethodName × Nat) := [(⟨"WallStones$Machine", "turnBeam", "()V"⟩, 6), (⟨"WallStones$Machine", "turnOfRelease", "(II)I"⟩, 6), (⟨"WallStones$Machine", "reckonRelease", "(III)V"⟩, 6), (⟨"WallStones$Machine", "speedFor", "(II)J"⟩, 6), (⟨"WallStones$Machine", "keepTuning", "(III)V"⟩, 6), (⟨"WallStones$Book", "bear", "(III)V"⟩, 7), (⟨"WallStones$Book", "scaled", "(II)I"⟩, 7), (⟨"WallStones$Book", "isLeft", "(I)Z"⟩, 7), (⟨"WallStones$Wall", "dropUnheld", "(I)V"⟩, 7), (⟨"WallStones$Wall", "isOpen", "(I)Z"⟩, 7), (⟨"WallStones$Wall", "hitsToKeep", "(III)I"⟩, 7), (⟨"WallStones$Wall", "fallsBy", "(III)I"⟩, 7), (⟨"WallStones$Siege", "isWet", "(I)Z"⟩, 3), (⟨"WallStonesModel", "newWall", "()V"⟩, 33), (⟨"WallStonesModel", "step", "(II)V"⟩, 33), (⟨"WallStonesModel", "givenAt", "(I)I"⟩, 33)]
theorem lw_r1 : ∀ q ∈ lw_privs_1, lw_okq q := List.forall_mem_cons.mpr ⟨lw_p0, List.forall_mem_cons.mpr ⟨lw_p1, List.forall_mem_cons.mpr ⟨lw_p2, List.forall_mem_cons.mpr ⟨lw_p3, List.forall_mem_cons.mpr ⟨lw_p4, List.forall_mem_cons.mpr ⟨lw_p5, List.forall_mem_cons.mpr ⟨lw_p6, List.forall_mem_cons.mpr ⟨lw_p7, List.forall_mem_cons.mpr ⟨lw_p8, List.forall_mem_cons.mpr ⟨lw_p9, List.forall_mem_cons.mpr ⟨lw_p10, List.forall_mem_cons.mpr ⟨lw_p11, List.forall_mem_cons.mpr ⟨lw_p12, List.forall_mem_cons.mpr ⟨lw_p13, List.forall_mem_cons.mpr ⟨lw_p14, List.forall_mem_cons.mpr ⟨lw_p15, fun _ h => absurd h List.not_mem_nil⟩⟩⟩⟩⟩⟩⟩⟩⟩⟩⟩⟩⟩⟩⟩⟩
theorem lw_p16 : lw_okq (⟨"WallStonesModel", "flightOf", "(II)I"⟩, 33) := ⟨⟨by decide +kernel, by decide +kernel⟩, List.mem_of_getElem? (i := 653) (by decide +kernel), List.mem_of_getElem? (i := 806) (by decide +kernel), List.mem_of_getElem? (i := 807) (by decide +kernel)⟩
theorem lw_p17 : lw_okq (⟨"WallStonesModel", "findLeft", "()I"⟩, 33) := ⟨⟨by decide +kernel, by decide +kernel⟩, List.mem_of_getElem? (i := 653) (by decide +kernel), List.mem_of_getElem? (i := 836) (by decide +kernel), List.mem_of_getElem? (i := 837) (by decide +kernel)⟩
theorem lw_p18 : lw_okq (⟨"WallStonesModel", "spanOf", "(IZ)I"⟩, 33) := ⟨⟨by decide +kernel, by decide +kernel⟩, List.mem_of_getElem? (i := 653) (by decide +kernel), List.mem_of_getElem? (i := 847) (by decide +kernel), List.mem_of_getElem? (i := 848) (by decide +kernel)⟩
theorem lw_p19 : lw_okq (⟨"WallStonesModel", "isCell", "(II)Z"⟩, 33) := ⟨⟨by decide +kernel, by decide +kernel⟩, List.mem_of_getElem? (i := 653) (by decide +kernel), List.mem_of_getElem? (i := 867) (by decide +kernel), List.mem_of_getElem? (i := 868) (by decide +kernel)⟩
theorem lw_p20 : lw_okq (⟨"WallStonesModel", "strike", "(III)I"⟩, 33) := ⟨⟨by decide +kernel, by decide +kernel⟩, List.mem_of_getElem? (i := 653) (by decide +kernel), List.mem_of_getElem? (i := 882) (by decide +kernel), List.mem_of_getElem? (i := 883) (by decide +kernel)⟩
theorem lw_p21 : lw_okq (⟨"WallStonesModel", "standing", "(I)I"⟩, 33) := ⟨⟨by decide +kernel, by decide +kernel⟩, List.mem_of_getElem? (i := 653) (by decide +kernel), List.mem_of_getElem? (i := 898) (by decide +kernel), List.mem_of_getElem? (i := 899) (by decide +kernel)⟩
theorem lw_p22 : lw_okq (⟨"WallStonesModel", "fewest", "(II)I"⟩, 33) := ⟨⟨by decide +kernel, by decide +kernel⟩, List.mem_of_getElem? (i := 653) (by decide +kernel), List.mem_of_getElem? (i := 906) (by decide +kernel), List.mem_of_getElem? (i := 907) (by decide +kernel)⟩
theorem lw_p23 : lw_okq (⟨"WallStonesModel", "cheaper", "(II)V"⟩, 33) := ⟨⟨by decide +kernel, by decide +kernel⟩, List.mem_of_getElem? (i := 653) (by decide +kernel), List.mem_of_getElem? (i := 911) (by decide +kernel), List.mem_of_getElem? (i := 912) (by decide +kernel)⟩
theorem lw_p24 : lw_okq (⟨"WallStonesModel", "worthOf", "(III)I"⟩, 33) := ⟨⟨by decide +kernel, by decide +kernel⟩, List.mem_of_getElem? (i := 653) (by decide +kernel), List.mem_of_getElem? (i := 923) (by decide +kernel), List.mem_of_getElem? (i := 924) (by decide +kernel)⟩
theorem lw_p25 : lw_okq (⟨"WallStonesModel", "keep", "()V"⟩, 33) := ⟨⟨by decide +kernel, by decide +kernel⟩, List.mem_of_getElem? (i := 653) (by decide +kernel), List.mem_of_getElem? (i := 927) (by decide +kernel), List.mem_of_getElem? (i := 928) (by decide +kernel)⟩
theorem lw_p26 : lw_okq (⟨"WallStonesModel", "giveBack", "()V"⟩, 33) := ⟨⟨by decide +kernel, by decide +kernel⟩, List.mem_of_getElem? (i := 653) (by decide +kernel), List.mem_of_getElem? (i := 931) (by decide +kernel), List.mem_of_getElem? (i := 932) (by decide +kernel)⟩
theorem lw_p27 : lw_okq (⟨"WallStonesModel", "lastsBy", "(I)I"⟩, 33) := ⟨⟨by decide +kernel, by decide +kernel⟩, List.mem_of_getElem? (i := 653) (by decide +kernel), List.mem_of_getElem? (i := 973) (by decide +kernel), List.mem_of_getElem? (i := 974) (by decide +kernel)⟩
def lw_privs_2 : List (MethodName × Nat) := [(⟨"WallStonesModel", "flightOf", "(II)I"⟩, 33), (⟨"WallStonesModel", "findLeft", "()I"⟩, 33), (⟨"WallStonesModel", "spanOf", "(IZ)I"⟩, 33), (⟨"WallStonesModel", "isCell", "(II)Z"⟩, 33), (⟨"WallStonesModel", "strike", "(III)I"⟩, 33), (⟨"WallStonesModel", "standing", "(I)I"⟩, 33), (⟨"WallStonesModel", "fewest", "(II)I"⟩, 33), (⟨"WallStonesModel", "cheaper", "(II)V"⟩, 33), (⟨"WallStonesModel", "worthOf", "(III)I"⟩, 33), (⟨"WallStonesModel", "keep", "()V"⟩, 33), (⟨"WallStonesModel", "giveBack", "()V"⟩, 33), (⟨"WallStonesModel", "lastsBy", "(I)I"⟩, 33)]
theorem lw_r2 : ∀ q ∈ lw_privs_2, lw_okq q := List.forall_mem_cons.mpr ⟨lw_p16, List.forall_mem_cons.mpr ⟨lw_p17, List.forall_mem_cons.mpr ⟨lw_p18, List.forall_mem_cons.mpr ⟨lw_p19, List.forall_mem_cons.mpr ⟨lw_p20, List.forall_mem_cons.mpr ⟨lw_p21, List.forall_mem_cons.mpr ⟨lw_p22, List.forall_mem_cons.mpr ⟨lw_p23, List.forall_mem_cons.mpr ⟨lw_p24, List.forall_mem_cons.mpr ⟨lw_p25, List.forall_mem_cons.mpr ⟨lw_p26, List.forall_mem_cons.mpr ⟨lw_p27, fun _ h => absurd h List.not_mem_nil⟩⟩⟩⟩⟩⟩⟩⟩⟩⟩⟩⟩
def lw_privs : List (MethodName × Nat) := lw_privs_1 ++ (lw_privs_2)
def lw_tbl : List Cond := k2_sels lw_privs ++ tables_1
theorem lw_privs_ok : ∀ q ∈ lw_privs, lw_okq q := by
  show ∀ q ∈ lw_privs_1 ++ (lw_privs_2), lw_okq q
  exact List.forall_mem_append.mpr ⟨lw_r1, lw_r2⟩
-- ===== end of PART A; then your names; then what follows =====
end
section
/-! ===== BEGIN words of one list among another's, by their places ===== -/
theorem goodIn_r {big : List Cond} (ws : List Cond) (ps : List Nat) (hp : ws = ps.filterMap (fun i => big[i]?)) (h : ws.all goodWord = true) : GoodIn big ws := by
  intro w hw
  have h1 := List.all_eq_true.mp h w hw
  rw [hp] at hw
  obtain ⟨i, -, hi⟩ := List.mem_filterMap.mp hw
  have hm : w ∈ big := by first | exact List.mem_of_getElem? hi | exact List.getElem?_mem hi
  exact ⟨hm, good_of_word h1⟩
theorem goodIn_app {big a b : List Cond} (ha : GoodIn big a) (hb : GoodIn big b) : GoodIn big (a ++ b) := fun w h => (List.mem_append.mp h).elim (ha w) (hb w)
theorem goodIn_ca {big a b : List Cond} {c : Cond} (ha : GoodIn big (c :: a)) (hb : GoodIn big b) : GoodIn big (c :: (a ++ b)) := fun w h => (List.mem_cons.mp h).elim (fun e => ha w (List.mem_cons.mpr (Or.inl e))) (fun h => (List.mem_append.mp h).elim (fun h => ha w (List.mem_cons.mpr (Or.inr h))) (hb w))
theorem goodIn_sub {big ws : List Cond} (hm : ∀ w ∈ ws, w ∈ big) (h : ws.all goodWord = true) : GoodIn big ws := fun w hw => ⟨hm w hw, good_of_word (List.all_eq_true.mp h w hw)⟩
/-! ===== END ===== -/

/-! ===== BEGIN printed: names, fields, word lists, decode rows ===== -/
def RX0 : String := "WallStones$Book"
def TX0 : u_T := fun k => match k with
  | 0 => ("WallStones$Book", "ranges", "[I", true)
  | 1 => ("WallStones$Book", "shotHook", "[I", true)
  | 2 => ("WallStones$Book", "shotFell", "[I", true)
  | 3 => ("WallStones$Book", "leastDrift", "[I", true)
  | 4 => ("WallStones$Book", "greatestDrift", "[I", true)
  | 5 => ("WallStones$Book", "shots", "I", false)
  | _ => ("WallStones$Book", "spreadNow", "I", false)
def tyX0 : Nat → FieldType := fun k => match k with
  | 0 => .array .int
  | 1 => .array .int
  | 2 => .array .int
  | 3 => .array .int
  | 4 => .array .int
  | 5 => .int
  | _ => .int
abbrev wsX00 : List Cond := u_ws RX0 TX0 7
theorem nmX0 : ∀ a, a < 7 → ∀ b, b < 7 → a ≠ b → (TX0 a).2.1 ≠ (TX0 b).2.1 := by decide +kernel
theorem tyX0_ok : ∀ k, k < 7 → parseFieldDescriptor (TX0 k).2.2.1 = some (tyX0 k) := by decide +kernel
abbrev cX0_init : ByteArray := prog_2_method_1_code
def yX0_init : MethodName := ⟨RX0, "<init>", "()V"⟩
abbrev cX0_putSpread : ByteArray := prog_2_method_2_code
def yX0_putSpread : MethodName := ⟨RX0, "putSpread", "(I)I"⟩
abbrev cX0_tell : ByteArray := prog_2_method_3_code
def yX0_tell : MethodName := ⟨RX0, "tell", "(II)Z"⟩
abbrev cX0_told : ByteArray := prog_2_method_4_code
def yX0_told : MethodName := ⟨RX0, "told", "()I"⟩
abbrev cX0_forgetShots : ByteArray := prog_2_method_5_code
def yX0_forgetShots : MethodName := ⟨RX0, "forgetShots", "()I"⟩
abbrev cX0_study : ByteArray := prog_2_method_6_code
def yX0_study : MethodName := ⟨RX0, "study", "(LWallStones$Machine;)V"⟩
abbrev cX0_bear : ByteArray := prog_2_method_7_code
def yX0_bear : MethodName := ⟨RX0, "bear", "(III)V"⟩
abbrev cX0_scaled : ByteArray := prog_2_method_8_code
def yX0_scaled : MethodName := ⟨RX0, "scaled", "(II)I"⟩
abbrev cX0_isLeft : ByteArray := prog_2_method_9_code
def yX0_isLeft : MethodName := ⟨RX0, "isLeft", "(I)Z"⟩
abbrev cX0_pairsLeft : ByteArray := prog_2_method_10_code
def yX0_pairsLeft : MethodName := ⟨RX0, "pairsLeft", "()I"⟩
abbrev cX0_places : ByteArray := prog_2_method_11_code
def yX0_places : MethodName := ⟨RX0, "places", "(I)Z"⟩
abbrev cX0_leastPlace : ByteArray := prog_2_method_12_code
def yX0_leastPlace : MethodName := ⟨RX0, "leastPlace", "(I)I"⟩
abbrev cX0_greatestPlace : ByteArray := prog_2_method_13_code
def yX0_greatestPlace : MethodName := ⟨RX0, "greatestPlace", "(I)I"⟩
abbrev cX0_widestHook : ByteArray := prog_2_method_14_code
def yX0_widestHook : MethodName := ⟨RX0, "widestHook", "()I"⟩
abbrev cX0_farthestMiss : ByteArray := prog_2_method_15_code
def yX0_farthestMiss : MethodName := ⟨RX0, "farthestMiss", "(II)I"⟩
abbrev cX0_surestHook : ByteArray := prog_2_method_16_code
def yX0_surestHook : MethodName := ⟨RX0, "surestHook", "(I)I"⟩
def RX1 : String := "WallStones$Machine"
def TX1 : u_T := fun k => match k with
  | 0 => ("WallStones$Machine", "number", "[I", true)
  | 1 => ("WallStones$Machine", "given", "[I", true)
  | 2 => ("WallStones$Machine", "reckoning", "[I", true)
  | 3 => ("WallStones$Machine", "tuning", "[I", true)
  | 4 => ("WallStones$Machine", "stallTurn", "I", false)
  | _ => ("WallStones$Machine", "windNow", "I", false)
def tyX1 : Nat → FieldType := fun k => match k with
  | 0 => .array .int
  | 1 => .array .int
  | 2 => .array .int
  | 3 => .array .int
  | 4 => .int
  | _ => .int
abbrev wsX10 : List Cond := u_ws RX1 TX1 6
theorem nmX1 : ∀ a, a < 6 → ∀ b, b < 6 → a ≠ b → (TX1 a).2.1 ≠ (TX1 b).2.1 := by decide +kernel
theorem tyX1_ok : ∀ k, k < 6 → parseFieldDescriptor (TX1 k).2.2.1 = some (tyX1 k) := by decide +kernel
abbrev cX1_init : ByteArray := prog_3_method_1_code
def yX1_init : MethodName := ⟨RX1, "<init>", "()V"⟩
abbrev cX1_takes : ByteArray := prog_3_method_2_code
def yX1_takes : MethodName := ⟨RX1, "takes", "(II)Z"⟩
abbrev cX1_put : ByteArray := prog_3_method_3_code
def yX1_put : MethodName := ⟨RX1, "put", "(II)I"⟩
abbrev cX1_putWind : ByteArray := prog_3_method_4_code
def yX1_putWind : MethodName := ⟨RX1, "putWind", "(I)I"⟩
abbrev cX1_turnBeam : ByteArray := prog_3_method_5_code
def yX1_turnBeam : MethodName := ⟨RX1, "turnBeam", "()V"⟩
abbrev cX1_turnOfRelease : ByteArray := prog_3_method_6_code
def yX1_turnOfRelease : MethodName := ⟨RX1, "turnOfRelease", "(II)I"⟩
abbrev cX1_slingNow : ByteArray := prog_3_method_7_code
def yX1_slingNow : MethodName := ⟨RX1, "slingNow", "()I"⟩
abbrev cX1_reckonOwn : ByteArray := prog_3_method_8_code
def yX1_reckonOwn : MethodName := ⟨RX1, "reckonOwn", "()I"⟩
abbrev cX1_reckon : ByteArray := prog_3_method_9_code
def yX1_reckon : MethodName := ⟨RX1, "reckon", "(II)I"⟩
abbrev cX1_reckonRelease : ByteArray := prog_3_method_10_code
def yX1_reckonRelease : MethodName := ⟨RX1, "reckonRelease", "(III)V"⟩
abbrev cX1_speedFor : ByteArray := prog_3_method_11_code
def yX1_speedFor : MethodName := ⟨RX1, "speedFor", "(II)J"⟩
abbrev cX1_flightOf : ByteArray := prog_3_method_12_code
def yX1_flightOf : MethodName := ⟨RX1, "flightOf", "(II)I"⟩
abbrev cX1_bodiesAsked : ByteArray := prog_3_method_13_code
def yX1_bodiesAsked : MethodName := ⟨RX1, "bodiesAsked", "(I)I"⟩
abbrev cX1_reckoned : ByteArray := prog_3_method_14_code
def yX1_reckoned : MethodName := ⟨RX1, "reckoned", "(I)I"⟩
abbrev cX1_tuneTo : ByteArray := prog_3_method_15_code
def yX1_tuneTo : MethodName := ⟨RX1, "tuneTo", "(III)V"⟩
abbrev cX1_keepTuning : ByteArray := prog_3_method_16_code
def yX1_keepTuning : MethodName := ⟨RX1, "keepTuning", "(III)V"⟩
abbrev cX1_tuned : ByteArray := prog_3_method_17_code
def yX1_tuned : MethodName := ⟨RX1, "tuned", "(I)I"⟩
abbrev cX1_forceAt : ByteArray := prog_3_method_18_code
def yX1_forceAt : MethodName := ⟨RX1, "forceAt", "(I)I"⟩
abbrev cX1_turnsOfShot : ByteArray := prog_3_method_19_code
def yX1_turnsOfShot : MethodName := ⟨RX1, "turnsOfShot", "()I"⟩
def RX2 : String := "WallStones$Siege"
def TX2 : u_T := fun k => match k with
  | 0 => ("WallStones$Siege", "stored", "[I", true)
  | 1 => ("WallStones$Siege", "wetRow", "I", false)
  | _ => ("WallStones$Siege", "wetBits", "I", false)
def tyX2 : Nat → FieldType := fun k => match k with
  | 0 => .array .int
  | 1 => .int
  | _ => .int
abbrev wsX20 : List Cond := u_ws RX2 TX2 3
theorem nmX2 : ∀ a, a < 3 → ∀ b, b < 3 → a ≠ b → (TX2 a).2.1 ≠ (TX2 b).2.1 := by decide +kernel
theorem tyX2_ok : ∀ k, k < 3 → parseFieldDescriptor (TX2 k).2.2.1 = some (tyX2 k) := by decide +kernel
abbrev cX2_init : ByteArray := prog_4_method_1_code
def yX2_init : MethodName := ⟨RX2, "<init>", "()V"⟩
abbrev cX2_takes : ByteArray := prog_4_method_2_code
def yX2_takes : MethodName := ⟨RX2, "takes", "(II)Z"⟩
abbrev cX2_put : ByteArray := prog_4_method_3_code
def yX2_put : MethodName := ⟨RX2, "put", "(II)I"⟩
abbrev cX2_stones : ByteArray := prog_4_method_4_code
def yX2_stones : MethodName := ⟨RX2, "stones", "()I"⟩
abbrev cX2_spendStone : ByteArray := prog_4_method_5_code
def yX2_spendStone : MethodName := ⟨RX2, "spendStone", "()V"⟩
abbrev cX2_putWet : ByteArray := prog_4_method_6_code
def yX2_putWet : MethodName := ⟨RX2, "putWet", "(II)V"⟩
abbrev cX2_isWet : ByteArray := prog_4_method_7_code
def yX2_isWet : MethodName := ⟨RX2, "isWet", "(I)Z"⟩
abbrev cX2_wholeDays : ByteArray := prog_4_method_8_code
def yX2_wholeDays : MethodName := ⟨RX2, "wholeDays", "(III)I"⟩
abbrev cX2_bestRate : ByteArray := prog_4_method_9_code
def yX2_bestRate : MethodName := ⟨RX2, "bestRate", "(II)I"⟩
def RX3 : String := "WallStones$Wall"
def TX3 : u_T := fun k => match k with
  | 0 => ("WallStones$Wall", "strengths", "[I", true)
  | 1 => ("WallStones$Wall", "standing", "[I", true)
  | 2 => ("WallStones$Wall", "propped", "[I", true)
  | 3 => ("WallStones$Wall", "weights", "[I", true)
  | 4 => ("WallStones$Wall", "columns", "I", false)
  | 5 => ("WallStones$Wall", "rows", "I", false)
  | _ => ("WallStones$Wall", "levelNow", "I", false)
def tyX3 : Nat → FieldType := fun k => match k with
  | 0 => .array .int
  | 1 => .array .int
  | 2 => .array .int
  | 3 => .array .int
  | 4 => .int
  | 5 => .int
  | _ => .int
abbrev wsX30 : List Cond := u_ws RX3 TX3 7
theorem nmX3 : ∀ a, a < 7 → ∀ b, b < 7 → a ≠ b → (TX3 a).2.1 ≠ (TX3 b).2.1 := by decide +kernel
theorem tyX3_ok : ∀ k, k < 7 → parseFieldDescriptor (TX3 k).2.2.1 = some (tyX3 k) := by decide +kernel
abbrev cX3_init : ByteArray := prog_5_method_1_code
def yX3_init : MethodName := ⟨RX3, "<init>", "()V"⟩
abbrev cX3_build : ByteArray := prog_5_method_2_code
def yX3_build : MethodName := ⟨RX3, "build", "(II)V"⟩
abbrev cX3_wide : ByteArray := prog_5_method_3_code
def yX3_wide : MethodName := ⟨RX3, "wide", "()I"⟩
abbrev cX3_high : ByteArray := prog_5_method_4_code
def yX3_high : MethodName := ⟨RX3, "high", "()I"⟩
abbrev cX3_has : ByteArray := prog_5_method_5_code
def yX3_has : MethodName := ⟨RX3, "has", "(II)Z"⟩
abbrev cX3_place : ByteArray := prog_5_method_6_code
def yX3_place : MethodName := ⟨RX3, "place", "(II)I"⟩
abbrev cX3_holds : ByteArray := prog_5_method_7_code
def yX3_holds : MethodName := ⟨RX3, "holds", "(II)Z"⟩
abbrev cX3_stands : ByteArray := prog_5_method_8_code
def yX3_stands : MethodName := ⟨RX3, "stands", "(II)Z"⟩
abbrev cX3_isPropped : ByteArray := prog_5_method_9_code
def yX3_isPropped : MethodName := ⟨RX3, "isPropped", "(II)Z"⟩
abbrev cX3_strengthAt : ByteArray := prog_5_method_10_code
def yX3_strengthAt : MethodName := ⟨RX3, "strengthAt", "(II)I"⟩
abbrev cX3_putStrength : ByteArray := prog_5_method_11_code
def yX3_putStrength : MethodName := ⟨RX3, "putStrength", "(III)I"⟩
abbrev cX3_putProp : ByteArray := prog_5_method_12_code
def yX3_putProp : MethodName := ⟨RX3, "putProp", "(II)I"⟩
abbrev cX3_strike : ByteArray := prog_5_method_13_code
def yX3_strike : MethodName := ⟨RX3, "strike", "(III)I"⟩
abbrev cX3_dropUnheld : ByteArray := prog_5_method_14_code
def yX3_dropUnheld : MethodName := ⟨RX3, "dropUnheld", "(I)V"⟩
abbrev cX3_putLevel : ByteArray := prog_5_method_15_code
def yX3_putLevel : MethodName := ⟨RX3, "putLevel", "(I)I"⟩
abbrev cX3_isOpen : ByteArray := prog_5_method_16_code
def yX3_isOpen : MethodName := ⟨RX3, "isOpen", "(I)Z"⟩
abbrev cX3_firstOpen : ByteArray := prog_5_method_17_code
def yX3_firstOpen : MethodName := ⟨RX3, "firstOpen", "()I"⟩
abbrev cX3_openColumns : ByteArray := prog_5_method_18_code
def yX3_openColumns : MethodName := ⟨RX3, "openColumns", "()I"⟩
abbrev cX3_standingCells : ByteArray := prog_5_method_19_code
def yX3_standingCells : MethodName := ⟨RX3, "standingCells", "()I"⟩
abbrev cX3_soonestColumn : ByteArray := prog_5_method_20_code
def yX3_soonestColumn : MethodName := ⟨RX3, "soonestColumn", "(I)I"⟩
abbrev cX3_hitsToOpen : ByteArray := prog_5_method_21_code
def yX3_hitsToOpen : MethodName := ⟨RX3, "hitsToOpen", "(II)I"⟩
abbrev cX3_hitsToKeep : ByteArray := prog_5_method_22_code
def yX3_hitsToKeep : MethodName := ⟨RX3, "hitsToKeep", "(III)I"⟩
abbrev cX3_weightPlace : ByteArray := prog_5_method_23_code
def yX3_weightPlace : MethodName := ⟨RX3, "weightPlace", "(II)I"⟩
abbrev cX3_putWeight : ByteArray := prog_5_method_24_code
def yX3_putWeight : MethodName := ⟨RX3, "putWeight", "(III)I"⟩
abbrev cX3_worthOf : ByteArray := prog_5_method_25_code
def yX3_worthOf : MethodName := ⟨RX3, "worthOf", "(III)I"⟩
abbrev cX3_fallsBy : ByteArray := prog_5_method_26_code
def yX3_fallsBy : MethodName := ⟨RX3, "fallsBy", "(III)I"⟩
abbrev cX3_columnOf : ByteArray := prog_5_method_27_code
def yX3_columnOf : MethodName := ⟨RX3, "columnOf", "(I)I"⟩
abbrev cX3_rowOf : ByteArray := prog_5_method_28_code
def yX3_rowOf : MethodName := ⟨RX3, "rowOf", "(I)I"⟩
abbrev cX3_bestAim : ByteArray := prog_5_method_29_code
def yX3_bestAim : MethodName := ⟨RX3, "bestAim", "(I)I"⟩
abbrev cX3_heldAfter : ByteArray := prog_5_method_30_code
def yX3_heldAfter : MethodName := ⟨RX3, "heldAfter", "(LWallStones$Wall;IIII)J"⟩
abbrev cX3_heldBy : ByteArray := prog_5_method_31_code
def yX3_heldBy : MethodName := ⟨RX3, "heldBy", "(LWallStones$Wall;IIIII)J"⟩
def RX4 : String := "WallStones"
def TX4 : u_T := fun k => match k with
  | 0 => ("WallStones", "engine", "LWallStones$Machine;", true)
  | 1 => ("WallStones", "book", "LWallStones$Book;", true)
  | 2 => ("WallStones", "stones", "LWallStones$Wall;", true)
  | 3 => ("WallStones", "siege", "LWallStones$Siege;", true)
  | 4 => ("WallStones", "handling", "I", false)
  | 5 => ("WallStones", "loosed", "I", false)
  | _ => ("WallStones", "traced", "J", false)
def tyX4 : Nat → FieldType := fun k => match k with
  | 0 => .object "WallStones$Machine"
  | 1 => .object "WallStones$Book"
  | 2 => .object "WallStones$Wall"
  | 3 => .object "WallStones$Siege"
  | 4 => .int
  | 5 => .int
  | _ => .long
abbrev wsX40 : List Cond := u_ws RX4 TX4 7
theorem nmX4 : ∀ a, a < 7 → ∀ b, b < 7 → a ≠ b → (TX4 a).2.1 ≠ (TX4 b).2.1 := by decide +kernel
theorem tyX4_ok : ∀ k, k < 7 → parseFieldDescriptor (TX4 k).2.2.1 = some (tyX4 k) := by decide +kernel
abbrev cX4_init : ByteArray := prog_1_method_1_code
def yX4_init : MethodName := ⟨RX4, "<init>", "()V"⟩
abbrev cX4_set : ByteArray := prog_1_method_2_code
def yX4_set : MethodName := ⟨RX4, "set", "(II)I"⟩
abbrev cX4_wind : ByteArray := prog_1_method_3_code
def yX4_wind : MethodName := ⟨RX4, "wind", "(I)I"⟩
abbrev cX4_sine : ByteArray := prog_1_method_4_code
def yX4_sine : MethodName := ⟨RX4, "sine", "(I)I"⟩
abbrev cX4_throwing : ByteArray := prog_1_method_5_code
def yX4_throwing : MethodName := ⟨RX4, "throwing", "(I)I"⟩
abbrev cX4_flight : ByteArray := prog_1_method_6_code
def yX4_flight : MethodName := ⟨RX4, "flight", "(II)I"⟩
abbrev cX4_tune : ByteArray := prog_1_method_7_code
def yX4_tune : MethodName := ⟨RX4, "tune", "(IIII)I"⟩
abbrev cX4_spread : ByteArray := prog_1_method_8_code
def yX4_spread : MethodName := ⟨RX4, "spread", "(I)I"⟩
abbrev cX4_shot : ByteArray := prog_1_method_9_code
def yX4_shot : MethodName := ⟨RX4, "shot", "(II)I"⟩
abbrev cX4_clear : ByteArray := prog_1_method_10_code
def yX4_clear : MethodName := ⟨RX4, "clear", "()I"⟩
abbrev cX4_left : ByteArray := prog_1_method_11_code
def yX4_left : MethodName := ⟨RX4, "left", "()I"⟩
abbrev cX4_span : ByteArray := prog_1_method_12_code
def yX4_span : MethodName := ⟨RX4, "span", "(II)I"⟩
abbrev cX4_next : ByteArray := prog_1_method_13_code
def yX4_next : MethodName := ⟨RX4, "next", "()I"⟩
abbrev cX4_surest : ByteArray := prog_1_method_14_code
def yX4_surest : MethodName := ⟨RX4, "surest", "(II)I"⟩
abbrev cX4_wall : ByteArray := prog_1_method_15_code
def yX4_wall : MethodName := ⟨RX4, "wall", "(II)I"⟩
abbrev cX4_strength : ByteArray := prog_1_method_16_code
def yX4_strength : MethodName := ⟨RX4, "strength", "(III)I"⟩
abbrev cX4_prop : ByteArray := prog_1_method_17_code
def yX4_prop : MethodName := ⟨RX4, "prop", "(II)I"⟩
abbrev cX4_hit : ByteArray := prog_1_method_18_code
def yX4_hit : MethodName := ⟨RX4, "hit", "(III)I"⟩
abbrev cX4_cell : ByteArray := prog_1_method_19_code
def yX4_cell : MethodName := ⟨RX4, "cell", "(III)I"⟩
abbrev cX4_level : ByteArray := prog_1_method_20_code
def yX4_level : MethodName := ⟨RX4, "level", "(I)I"⟩
abbrev cX4_open : ByteArray := prog_1_method_21_code
def yX4_open : MethodName := ⟨RX4, "open", "()I"⟩
abbrev cX4_soonest : ByteArray := prog_1_method_22_code
def yX4_soonest : MethodName := ⟨RX4, "soonest", "(II)I"⟩
abbrev cX4_scatter : ByteArray := prog_1_method_23_code
def yX4_scatter : MethodName := ⟨RX4, "scatter", "(III)I"⟩
abbrev cX4_worth : ByteArray := prog_1_method_24_code
def yX4_worth : MethodName := ⟨RX4, "worth", "(III)I"⟩
abbrev cX4_aim : ByteArray := prog_1_method_25_code
def yX4_aim : MethodName := ⟨RX4, "aim", "(II)I"⟩
abbrev cX4_held : ByteArray := prog_1_method_26_code
def yX4_held : MethodName := ⟨RX4, "held", "(IIII)J"⟩
abbrev cX4_wound : ByteArray := prog_1_method_27_code
def yX4_wound : MethodName := ⟨RX4, "wound", "()I"⟩
abbrev cX4_sling : ByteArray := prog_1_method_28_code
def yX4_sling : MethodName := ⟨RX4, "sling", "()I"⟩
abbrev cX4_near : ByteArray := prog_1_method_29_code
def yX4_near : MethodName := ⟨RX4, "near", "(I)I"⟩
abbrev cX4_loose : ByteArray := prog_1_method_30_code
def yX4_loose : MethodName := ⟨RX4, "loose", "(III)I"⟩
abbrev cX4_store : ByteArray := prog_1_method_31_code
def yX4_store : MethodName := ⟨RX4, "store", "(II)I"⟩
abbrev cX4_wet : ByteArray := prog_1_method_32_code
def yX4_wet : MethodName := ⟨RX4, "wet", "(II)I"⟩
abbrev cX4_lasts : ByteArray := prog_1_method_33_code
def yX4_lasts : MethodName := ⟨RX4, "lasts", "(I)I"⟩
abbrev cX4_rate : ByteArray := prog_1_method_34_code
def yX4_rate : MethodName := ⟨RX4, "rate", "(I)I"⟩
abbrev cX4_count : ByteArray := prog_1_method_35_code
def yX4_count : MethodName := ⟨RX4, "count", "(I)I"⟩
abbrev cX4_trace : ByteArray := prog_1_method_36_code
def yX4_trace : MethodName := ⟨RX4, "trace", "()J"⟩
abbrev cX4_within : ByteArray := prog_1_method_37_code
def yX4_within : MethodName := ⟨RX4, "within", "(III)Z"⟩
abbrev cX4_down : ByteArray := prog_1_method_38_code
def yX4_down : MethodName := ⟨RX4, "down", "(JJ)J"⟩
abbrev cX4_up : ByteArray := prog_1_method_39_code
def yX4_up : MethodName := ⟨RX4, "up", "(JJ)J"⟩
abbrev cX4_sineOf : ByteArray := prog_1_method_40_code
def yX4_sineOf : MethodName := ⟨RX4, "sineOf", "(I)I"⟩
def RX5 : String := "WallStonesModel"
def TX5 : u_T := fun k => match k with
  | 0 => ("WallStonesModel", "told", "[I", true)
  | 1 => ("WallStonesModel", "windNow", "I", false)
  | 2 => ("WallStonesModel", "spread", "I", false)
  | 3 => ("WallStonesModel", "shots", "I", false)
  | 4 => ("WallStonesModel", "shotHook", "[I", true)
  | 5 => ("WallStonesModel", "shotFell", "[I", true)
  | 6 => ("WallStonesModel", "width", "I", false)
  | 7 => ("WallStonesModel", "height", "I", false)
  | 8 => ("WallStonesModel", "stands", "[I", true)
  | 9 => ("WallStonesModel", "strength", "[I", true)
  | 10 => ("WallStonesModel", "propped", "[I", true)
  | 11 => ("WallStonesModel", "level", "I", false)
  | 12 => ("WallStonesModel", "scatter", "[I", true)
  | 13 => ("WallStonesModel", "state", "I", false)
  | 14 => ("WallStonesModel", "loosed", "I", false)
  | 15 => ("WallStonesModel", "store", "[I", true)
  | 16 => ("WallStonesModel", "wetMany", "I", false)
  | 17 => ("WallStonesModel", "wetBits", "I", false)
  | 18 => ("WallStonesModel", "trace", "J", false)
  | 19 => ("WallStonesModel", "letsGo", "I", false)
  | 20 => ("WallStonesModel", "stalls", "I", false)
  | 21 => ("WallStonesModel", "given", "I", false)
  | 22 => ("WallStonesModel", "rise", "I", false)
  | 23 => ("WallStonesModel", "speed", "I", false)
  | 24 => ("WallStonesModel", "reach", "I", false)
  | 25 => ("WallStonesModel", "range", "I", false)
  | 26 => ("WallStonesModel", "book", "[I", true)
  | 27 => ("WallStonesModel", "isLeft", "[I", true)
  | 28 => ("WallStonesModel", "keptStands", "[I", true)
  | 29 => ("WallStonesModel", "keptStrength", "[I", true)
  | 30 => ("WallStonesModel", "keptPropped", "[I", true)
  | 31 => ("WallStonesModel", "cost", "[I", true)
  | _ => ("WallStonesModel", "then", "[I", true)
def tyX5 : Nat → FieldType := fun k => match k with
  | 0 => .array .int
  | 1 => .int
  | 2 => .int
  | 3 => .int
  | 4 => .array .int
  | 5 => .array .int
  | 6 => .int
  | 7 => .int
  | 8 => .array .int
  | 9 => .array .int
  | 10 => .array .int
  | 11 => .int
  | 12 => .array .int
  | 13 => .int
  | 14 => .int
  | 15 => .array .int
  | 16 => .int
  | 17 => .int
  | 18 => .long
  | 19 => .int
  | 20 => .int
  | 21 => .int
  | 22 => .int
  | 23 => .int
  | 24 => .int
  | 25 => .int
  | 26 => .array .int
  | 27 => .array .int
  | 28 => .array .int
  | 29 => .array .int
  | 30 => .array .int
  | 31 => .array .int
  | _ => .array .int
abbrev wsX50 : List Cond := u_ws RX5 TX5 33
theorem nmX5 : ∀ a, a < 33 → ∀ b, b < 33 → a ≠ b → (TX5 a).2.1 ≠ (TX5 b).2.1 := by decide +kernel
theorem tyX5_ok : ∀ k, k < 33 → parseFieldDescriptor (TX5 k).2.2.1 = some (tyX5 k) := by decide +kernel
abbrev cX5_init : ByteArray := prog_7_method_1_code
def yX5_init : MethodName := ⟨RX5, "<init>", "()V"⟩
abbrev cX5_in : ByteArray := prog_7_method_3_code
def yX5_in : MethodName := ⟨RX5, "in", "(III)Z"⟩
abbrev cX5_size : ByteArray := prog_7_method_4_code
def yX5_size : MethodName := ⟨RX5, "size", "(I)I"⟩
abbrev cX5_least : ByteArray := prog_7_method_5_code
def yX5_least : MethodName := ⟨RX5, "least", "(I)I"⟩
abbrev cX5_most : ByteArray := prog_7_method_6_code
def yX5_most : MethodName := ⟨RX5, "most", "(I)I"⟩
abbrev cX5_set : ByteArray := prog_7_method_7_code
def yX5_set : MethodName := ⟨RX5, "set", "(II)I"⟩
abbrev cX5_wind : ByteArray := prog_7_method_8_code
def yX5_wind : MethodName := ⟨RX5, "wind", "(I)I"⟩
abbrev cX5_sineOf : ByteArray := prog_7_method_9_code
def yX5_sineOf : MethodName := ⟨RX5, "sineOf", "(I)I"⟩
abbrev cX5_sine : ByteArray := prog_7_method_10_code
def yX5_sine : MethodName := ⟨RX5, "sine", "(I)I"⟩
abbrev cX5_givenAt : ByteArray := prog_7_method_11_code
def yX5_givenAt : MethodName := ⟨RX5, "givenAt", "(I)I"⟩
abbrev cX5_flightOf : ByteArray := prog_7_method_12_code
def yX5_flightOf : MethodName := ⟨RX5, "flightOf", "(II)I"⟩
abbrev cX5_step : ByteArray := prog_7_method_13_code
def yX5_step : MethodName := ⟨RX5, "step", "(II)V"⟩
abbrev cX5_throwing : ByteArray := prog_7_method_14_code
def yX5_throwing : MethodName := ⟨RX5, "throwing", "(I)I"⟩
abbrev cX5_flight : ByteArray := prog_7_method_15_code
def yX5_flight : MethodName := ⟨RX5, "flight", "(II)I"⟩
abbrev cX5_tune : ByteArray := prog_7_method_16_code
def yX5_tune : MethodName := ⟨RX5, "tune", "(IIII)I"⟩
abbrev cX5_spread : ByteArray := prog_7_method_17_code
def yX5_spread : MethodName := ⟨RX5, "spread", "(I)I"⟩
abbrev cX5_shot : ByteArray := prog_7_method_18_code
def yX5_shot : MethodName := ⟨RX5, "shot", "(II)I"⟩
abbrev cX5_clear : ByteArray := prog_7_method_19_code
def yX5_clear : MethodName := ⟨RX5, "clear", "()I"⟩
abbrev cX5_lands : ByteArray := prog_7_method_20_code
def yX5_lands : MethodName := ⟨RX5, "lands", "(II)I"⟩
abbrev cX5_findLeft : ByteArray := prog_7_method_21_code
def yX5_findLeft : MethodName := ⟨RX5, "findLeft", "()I"⟩
abbrev cX5_left : ByteArray := prog_7_method_22_code
def yX5_left : MethodName := ⟨RX5, "left", "()I"⟩
abbrev cX5_spanOf : ByteArray := prog_7_method_23_code
def yX5_spanOf : MethodName := ⟨RX5, "spanOf", "(IZ)I"⟩
abbrev cX5_span : ByteArray := prog_7_method_24_code
def yX5_span : MethodName := ⟨RX5, "span", "(II)I"⟩
abbrev cX5_next : ByteArray := prog_7_method_25_code
def yX5_next : MethodName := ⟨RX5, "next", "()I"⟩
abbrev cX5_surest : ByteArray := prog_7_method_26_code
def yX5_surest : MethodName := ⟨RX5, "surest", "(II)I"⟩
abbrev cX5_newWall : ByteArray := prog_7_method_27_code
def yX5_newWall : MethodName := ⟨RX5, "newWall", "()V"⟩
abbrev cX5_wall : ByteArray := prog_7_method_28_code
def yX5_wall : MethodName := ⟨RX5, "wall", "(II)I"⟩
abbrev cX5_isCell : ByteArray := prog_7_method_29_code
def yX5_isCell : MethodName := ⟨RX5, "isCell", "(II)Z"⟩
abbrev cX5_strength : ByteArray := prog_7_method_30_code
def yX5_strength : MethodName := ⟨RX5, "strength", "(III)I"⟩
abbrev cX5_prop : ByteArray := prog_7_method_31_code
def yX5_prop : MethodName := ⟨RX5, "prop", "(II)I"⟩
abbrev cX5_keep : ByteArray := prog_7_method_32_code
def yX5_keep : MethodName := ⟨RX5, "keep", "()V"⟩
abbrev cX5_giveBack : ByteArray := prog_7_method_33_code
def yX5_giveBack : MethodName := ⟨RX5, "giveBack", "()V"⟩
abbrev cX5_strike : ByteArray := prog_7_method_34_code
def yX5_strike : MethodName := ⟨RX5, "strike", "(III)I"⟩
abbrev cX5_isForce : ByteArray := prog_7_method_35_code
def yX5_isForce : MethodName := ⟨RX5, "isForce", "(I)Z"⟩
abbrev cX5_hit : ByteArray := prog_7_method_36_code
def yX5_hit : MethodName := ⟨RX5, "hit", "(III)I"⟩
abbrev cX5_cell : ByteArray := prog_7_method_37_code
def yX5_cell : MethodName := ⟨RX5, "cell", "(III)I"⟩
abbrev cX5_level : ByteArray := prog_7_method_38_code
def yX5_level : MethodName := ⟨RX5, "level", "(I)I"⟩
abbrev cX5_standing : ByteArray := prog_7_method_39_code
def yX5_standing : MethodName := ⟨RX5, "standing", "(I)I"⟩
abbrev cX5_open : ByteArray := prog_7_method_40_code
def yX5_open : MethodName := ⟨RX5, "open", "()I"⟩
abbrev cX5_cheaper : ByteArray := prog_7_method_41_code
def yX5_cheaper : MethodName := ⟨RX5, "cheaper", "(II)V"⟩
abbrev cX5_fewest : ByteArray := prog_7_method_42_code
def yX5_fewest : MethodName := ⟨RX5, "fewest", "(II)I"⟩
abbrev cX5_soonest : ByteArray := prog_7_method_43_code
def yX5_soonest : MethodName := ⟨RX5, "soonest", "(II)I"⟩
abbrev cX5_scatter : ByteArray := prog_7_method_44_code
def yX5_scatter : MethodName := ⟨RX5, "scatter", "(III)I"⟩
abbrev cX5_worthOf : ByteArray := prog_7_method_45_code
def yX5_worthOf : MethodName := ⟨RX5, "worthOf", "(III)I"⟩
abbrev cX5_worth : ByteArray := prog_7_method_46_code
def yX5_worth : MethodName := ⟨RX5, "worth", "(III)I"⟩
abbrev cX5_aim : ByteArray := prog_7_method_47_code
def yX5_aim : MethodName := ⟨RX5, "aim", "(II)I"⟩
abbrev cX5_held : ByteArray := prog_7_method_48_code
def yX5_held : MethodName := ⟨RX5, "held", "(IIII)J"⟩
abbrev cX5_wound : ByteArray := prog_7_method_49_code
def yX5_wound : MethodName := ⟨RX5, "wound", "()I"⟩
abbrev cX5_sling : ByteArray := prog_7_method_50_code
def yX5_sling : MethodName := ⟨RX5, "sling", "()I"⟩
abbrev cX5_near : ByteArray := prog_7_method_51_code
def yX5_near : MethodName := ⟨RX5, "near", "(I)I"⟩
abbrev cX5_loose : ByteArray := prog_7_method_52_code
def yX5_loose : MethodName := ⟨RX5, "loose", "(III)I"⟩
abbrev cX5_store : ByteArray := prog_7_method_53_code
def yX5_store : MethodName := ⟨RX5, "store", "(II)I"⟩
abbrev cX5_wet : ByteArray := prog_7_method_54_code
def yX5_wet : MethodName := ⟨RX5, "wet", "(II)I"⟩
abbrev cX5_lastsBy : ByteArray := prog_7_method_55_code
def yX5_lastsBy : MethodName := ⟨RX5, "lastsBy", "(I)I"⟩
abbrev cX5_lasts : ByteArray := prog_7_method_56_code
def yX5_lasts : MethodName := ⟨RX5, "lasts", "(I)I"⟩
abbrev cX5_rate : ByteArray := prog_7_method_57_code
def yX5_rate : MethodName := ⟨RX5, "rate", "(I)I"⟩
abbrev cX5_count : ByteArray := prog_7_method_58_code
def yX5_count : MethodName := ⟨RX5, "count", "(I)I"⟩
abbrev cX5_trace : ByteArray := prog_7_method_59_code
def yX5_trace : MethodName := ⟨RX5, "trace", "()J"⟩
def RJ6 : String := "java/lang/Integer"
def TJ6 : u_T := fun k => match k with
  | _ => ("", "", "", false)
def tyJ6 : Nat → FieldType := fun k => match k with
  | _ => .int
abbrev wsJ60 : List Cond := u_ws RJ6 TJ6 0
theorem nmJ6 : ∀ a, a < 0 → ∀ b, b < 0 → a ≠ b → (TJ6 a).2.1 ≠ (TJ6 b).2.1 := by decide +kernel
theorem tyJ6_ok : ∀ k, k < 0 → parseFieldDescriptor (TJ6 k).2.2.1 = some (tyJ6 k) := by decide +kernel
abbrev cJ6_bitCount_0f7a4 : ByteArray := prog_8_method_49_code
def yJ6_bitCount_0f7a4 : MethodName := ⟨RJ6, "bitCount", "(I)I"⟩
def RJ9 : String := "java/lang/Math"
def TJ9 : u_T := fun k => match k with
  | _ => ("", "", "", false)
def tyJ9 : Nat → FieldType := fun k => match k with
  | _ => .int
abbrev wsJ90 : List Cond := u_ws RJ9 TJ9 0
theorem nmJ9 : ∀ a, a < 0 → ∀ b, b < 0 → a ≠ b → (TJ9 a).2.1 ≠ (TJ9 b).2.1 := by decide +kernel
theorem tyJ9_ok : ∀ k, k < 0 → parseFieldDescriptor (TJ9 k).2.2.1 = some (tyJ9 k) := by decide +kernel
abbrev cJ9_floorDiv_f86c9 : ByteArray := prog_9_method_49_code
def yJ9_floorDiv_f86c9 : MethodName := ⟨RJ9, "floorDiv", "(JJ)J"⟩
abbrev cJ9_abs_0f7a4 : ByteArray := prog_9_method_59_code
def yJ9_abs_0f7a4 : MethodName := ⟨RJ9, "abs", "(I)I"⟩
abbrev cJ9_max_7cf53 : ByteArray := prog_9_method_65_code
def yJ9_max_7cf53 : MethodName := ⟨RJ9, "max", "(II)I"⟩
abbrev cJ9_max_f86c9 : ByteArray := prog_9_method_66_code
def yJ9_max_f86c9 : MethodName := ⟨RJ9, "max", "(JJ)J"⟩
abbrev cJ9_min_7cf53 : ByteArray := prog_9_method_69_code
def yJ9_min_7cf53 : MethodName := ⟨RJ9, "min", "(II)I"⟩
abbrev cJ9_min_f86c9 : ByteArray := prog_9_method_70_code
def yJ9_min_f86c9 : MethodName := ⟨RJ9, "min", "(JJ)J"⟩
def RL : String := "WallStonesLaw"
abbrev cL_law : ByteArray := code
def yL_law : MethodName := ⟨RL, "law", "([I)Z"⟩
def wsX0_init : List Cond := .code yX0_init cX0_init 1 none :: ([.methodLink RX0 3 objectInit, .instanceMethod objectInit, .code objectInit ⟨#[0xb1]⟩ 1 none, .arrayClass .int, .fieldLink RX0 11 "WallStones$Book" "ranges" "[I", .fieldLink RX0 17 "WallStones$Book" "shotHook" "[I", .fieldLink RX0 20 "WallStones$Book" "shotFell" "[I", .fieldLink RX0 23 "WallStones$Book" "leastDrift" "[I", .fieldLink RX0 26 "WallStones$Book" "greatestDrift" "[I", .fieldLink RX0 29 "WallStones$Book" "spreadNow" "I"] ++ wsX00)
def wsX0_putSpread : List Cond := .code yX0_putSpread cX0_putSpread 3 (some .int) :: ([.fieldLink RX0 29 "WallStones$Book" "spreadNow" "I"] ++ wsX00)
def wsX0_tell : List Cond := .code yX0_tell cX0_tell 3 (some .boolean) :: ([.fieldLink RX0 33 "WallStones$Book" "shots" "I", .fieldLink RX0 17 "WallStones$Book" "shotHook" "[I", .fieldLink RX0 20 "WallStones$Book" "shotFell" "[I"] ++ wsX00)
def wsX0_told : List Cond := .code yX0_told cX0_told 1 (some .int) :: ([.fieldLink RX0 33 "WallStones$Book" "shots" "I"] ++ wsX00)
def wsX0_forgetShots : List Cond := .code yX0_forgetShots cX0_forgetShots 2 (some .int) :: ([.fieldLink RX0 33 "WallStones$Book" "shots" "I"] ++ wsX00)
def wsX1_slingNow : List Cond := .code yX1_slingNow cX1_slingNow 1 (some .int) :: ([.fieldLink RX1 11 "WallStones$Machine" "number" "[I"] ++ wsX10)
def wsJ9_floorDiv_f86c9 : List Cond := .code yJ9_floorDiv_f86c9 cJ9_floorDiv_f86c9 6 (some .long) :: ([])
def wsX4_up : List Cond := .code yX4_up cX4_up 4 (some .long) :: ([.methodLink RX4 223 yJ9_floorDiv_f86c9, .static yJ9_floorDiv_f86c9, .initialized RJ9, .code yJ9_floorDiv_f86c9 cJ9_floorDiv_f86c9 6 (some .long)])
def wsX1_turnOfRelease : List Cond := .code yX1_turnOfRelease cX1_turnOfRelease 7 (some .int) :: ([.constantLong RX1 58 (100), .constantLong RX1 60 (2), .fieldLink RX1 11 "WallStones$Machine" "number" "[I", .constantLong RX1 65 (160), .static yX4_up, .initialized RX4, .code yX4_up cX4_up 4 (some .long), .methodLink RX4 223 yJ9_floorDiv_f86c9, .static yJ9_floorDiv_f86c9, .initialized RJ9, .code yJ9_floorDiv_f86c9 cJ9_floorDiv_f86c9 6 (some .long)] ++ wsX10)
def wsX4_within : List Cond := .code yX4_within cX4_within 3 (some .boolean) :: ([])
def wsX4_down : List Cond := .code yX4_down cX4_down 4 (some .long) :: ([.methodLink RX4 223 yJ9_floorDiv_f86c9, .static yJ9_floorDiv_f86c9, .initialized RJ9, .code yJ9_floorDiv_f86c9 cJ9_floorDiv_f86c9 6 (some .long)])
def wsX1_speedFor : List Cond := .code yX1_speedFor cX1_speedFor 9 (some .long) :: ([.fieldLink RX1 11 "WallStones$Machine" "number" "[I", .constantLong RX1 60 (2), .static yX4_down, .initialized RX4, .code yX4_down cX4_down 4 (some .long), .methodLink RX4 223 yJ9_floorDiv_f86c9, .static yJ9_floorDiv_f86c9, .initialized RJ9, .code yJ9_floorDiv_f86c9 cJ9_floorDiv_f86c9 6 (some .long)] ++ wsX10)
def wsX4_sineOf : List Cond := .code yX4_sineOf cX4_sineOf 5 (some .int) :: ([.methodLink RX4 189 Lib.Math.abs.name, .static Lib.Math.abs.name, .initialized "java/lang/Math", .code Lib.Math.abs.name Lib.Math.abs.code 1 (some .int), .constantLong RX4 227 (4000), .constantLong RX4 229 (40500), .methodLink RX4 231 yX4_down, .static yX4_down, .initialized RX4, .code yX4_down cX4_down 4 (some .long), .methodLink RX4 223 yJ9_floorDiv_f86c9, .static yJ9_floorDiv_f86c9, .initialized RJ9, .code yJ9_floorDiv_f86c9 cJ9_floorDiv_f86c9 6 (some .long)])
def wsX1_flightOf : List Cond := .code yX1_flightOf cX1_flightOf 5 (some .int) :: ([.constantLong RX1 92 (20), .fieldLink RX1 11 "WallStones$Machine" "number" "[I", .constantLong RX1 94 (2000), .methodLink RX1 96 Lib.MathLoose.max_long.x, .static Lib.MathLoose.max_long.x, .initialized "java/lang/Math", .code Lib.MathLoose.max_long.x Lib.MathLoose.max_long.code 4 (some .long), .constantLong RX1 98 (8), .constantLong RX1 60 (2), .constantLong RX1 100 (25), .constantLong RX1 102 (3), .static yX4_down, .initialized RX4, .code yX4_down cX4_down 4 (some .long), .methodLink RX4 223 yJ9_floorDiv_f86c9, .static yJ9_floorDiv_f86c9, .initialized RJ9, .code yJ9_floorDiv_f86c9 cJ9_floorDiv_f86c9 6 (some .long), .static yX4_up, .code yX4_up cX4_up 4 (some .long)] ++ wsX10)
def wsX1_reckonRelease_r1 : List Cond := [Cond.fieldLink RX1 11 "WallStones$Machine" "number" "[I", Cond.fieldLink RX1 18 "WallStones$Machine" "reckoning" "[I", Cond.fieldLink RX1 15 "WallStones$Machine" "given" "[I", Cond.constantLong RX1 82 (8000), Cond.fieldLink RX1 41 "WallStones$Machine" "windNow" "I", Cond.methodLink RX1 87 Lib.Math.max.name, Cond.static Lib.Math.max.name, Cond.initialized "java/lang/Math", Cond.code Lib.Math.max.name Lib.Math.max.code 2 (some .int), Cond.static yX4_within, Cond.initialized RX4, Cond.code yX4_within cX4_within 3 (some .boolean), Cond.methodLink RX1 78 yX1_speedFor, Cond.instanceMethod yX1_speedFor, Cond.selects RX1 yX1_speedFor yX1_speedFor, Cond.initialized RX1, Cond.code yX1_speedFor cX1_speedFor 9 (some .long), Cond.constantLong RX1 60 (2), Cond.static yX4_down, Cond.code yX4_down cX4_down 4 (some .long), Cond.methodLink RX4 223 yJ9_floorDiv_f86c9, Cond.static yJ9_floorDiv_f86c9, Cond.initialized RJ9, Cond.code yJ9_floorDiv_f86c9 cJ9_floorDiv_f86c9 6 (some .long)]
def wsX1_reckonRelease_r2 : List Cond := [Cond.static yX4_sineOf, Cond.code yX4_sineOf cX4_sineOf 5 (some .int), Cond.methodLink RX4 189 Lib.Math.abs.name, Cond.static Lib.Math.abs.name, Cond.code Lib.Math.abs.name Lib.Math.abs.code 1 (some .int), Cond.constantLong RX4 227 (4000), Cond.constantLong RX4 229 (40500), Cond.methodLink RX4 231 yX4_down, Cond.methodLink RX1 84 yX1_flightOf, Cond.instanceMethod yX1_flightOf, Cond.selects RX1 yX1_flightOf yX1_flightOf, Cond.code yX1_flightOf cX1_flightOf 5 (some .int), Cond.constantLong RX1 92 (20), Cond.constantLong RX1 94 (2000), Cond.methodLink RX1 96 Lib.MathLoose.max_long.x, Cond.static Lib.MathLoose.max_long.x, Cond.code Lib.MathLoose.max_long.x Lib.MathLoose.max_long.code 4 (some .long), Cond.constantLong RX1 98 (8), Cond.constantLong RX1 100 (25), Cond.constantLong RX1 102 (3), Cond.static yX4_up, Cond.code yX4_up cX4_up 4 (some .long)]
def wsX1_reckonRelease : List Cond := .code yX1_reckonRelease cX1_reckonRelease 10 none :: ((wsX1_reckonRelease_r1 ++ wsX1_reckonRelease_r2) ++ wsX10)
def wsX1_reckon_r1 : List Cond := [Cond.fieldLink RX1 18 "WallStones$Machine" "reckoning" "[I", Cond.fieldLink RX1 49 "WallStones$Machine" "stallTurn" "I", Cond.methodLink RX1 71 yX1_turnOfRelease, Cond.instanceMethod yX1_turnOfRelease, Cond.selects RX1 yX1_turnOfRelease yX1_turnOfRelease, Cond.initialized RX1, Cond.code yX1_turnOfRelease cX1_turnOfRelease 7 (some .int), Cond.constantLong RX1 58 (100), Cond.constantLong RX1 60 (2), Cond.fieldLink RX1 11 "WallStones$Machine" "number" "[I", Cond.constantLong RX1 65 (160), Cond.static yX4_up, Cond.initialized RX4, Cond.code yX4_up cX4_up 4 (some .long), Cond.methodLink RX4 223 yJ9_floorDiv_f86c9, Cond.static yJ9_floorDiv_f86c9, Cond.initialized RJ9, Cond.code yJ9_floorDiv_f86c9 cJ9_floorDiv_f86c9 6 (some .long), Cond.methodLink RX1 74 yX1_reckonRelease, Cond.instanceMethod yX1_reckonRelease, Cond.selects RX1 yX1_reckonRelease yX1_reckonRelease, Cond.code yX1_reckonRelease cX1_reckonRelease 10 none, Cond.fieldLink RX1 15 "WallStones$Machine" "given" "[I", Cond.constantLong RX1 82 (8000)]
def wsX1_reckon_r2 : List Cond := [Cond.fieldLink RX1 41 "WallStones$Machine" "windNow" "I", Cond.methodLink RX1 87 Lib.Math.max.name, Cond.static Lib.Math.max.name, Cond.initialized "java/lang/Math", Cond.code Lib.Math.max.name Lib.Math.max.code 2 (some .int), Cond.static yX4_within, Cond.code yX4_within cX4_within 3 (some .boolean), Cond.methodLink RX1 78 yX1_speedFor, Cond.instanceMethod yX1_speedFor, Cond.selects RX1 yX1_speedFor yX1_speedFor, Cond.code yX1_speedFor cX1_speedFor 9 (some .long), Cond.static yX4_down, Cond.code yX4_down cX4_down 4 (some .long), Cond.static yX4_sineOf, Cond.code yX4_sineOf cX4_sineOf 5 (some .int), Cond.methodLink RX4 189 Lib.Math.abs.name, Cond.static Lib.Math.abs.name, Cond.code Lib.Math.abs.name Lib.Math.abs.code 1 (some .int), Cond.constantLong RX4 227 (4000), Cond.constantLong RX4 229 (40500), Cond.methodLink RX4 231 yX4_down, Cond.methodLink RX1 84 yX1_flightOf, Cond.instanceMethod yX1_flightOf, Cond.selects RX1 yX1_flightOf yX1_flightOf]
def wsX1_reckon_r3 : List Cond := [Cond.code yX1_flightOf cX1_flightOf 5 (some .int), Cond.constantLong RX1 92 (20), Cond.constantLong RX1 94 (2000), Cond.methodLink RX1 96 Lib.MathLoose.max_long.x, Cond.static Lib.MathLoose.max_long.x, Cond.code Lib.MathLoose.max_long.x Lib.MathLoose.max_long.code 4 (some .long), Cond.constantLong RX1 98 (8), Cond.constantLong RX1 100 (25), Cond.constantLong RX1 102 (3)]
def wsX1_reckon : List Cond := .code yX1_reckon cX1_reckon 4 (some .int) :: ((wsX1_reckon_r1 ++ (wsX1_reckon_r2 ++ wsX1_reckon_r3)) ++ wsX10)
def wsX0_scaled : List Cond := .code yX0_scaled cX0_scaled 3 (some .int) :: ([.fieldLink RX0 11 "WallStones$Book" "ranges" "[I", .constantLong RX0 59 (100), .static yX4_down, .initialized RX4, .code yX4_down cX4_down 4 (some .long), .methodLink RX4 223 yJ9_floorDiv_f86c9, .static yJ9_floorDiv_f86c9, .initialized RJ9, .code yJ9_floorDiv_f86c9 cJ9_floorDiv_f86c9 6 (some .long)] ++ wsX00)
def wsX0_bear : List Cond := .code yX0_bear cX0_bear 5 none :: ([.fieldLink RX0 11 "WallStones$Book" "ranges" "[I", .fieldLink RX0 26 "WallStones$Book" "greatestDrift" "[I", .fieldLink RX0 23 "WallStones$Book" "leastDrift" "[I", .fieldLink RX0 29 "WallStones$Book" "spreadNow" "I", .methodLink RX0 51 Lib.Math.max.name, .static Lib.Math.max.name, .initialized "java/lang/Math", .code Lib.Math.max.name Lib.Math.max.code 2 (some .int), .methodLink RX0 56 Lib.Math.min.name, .static Lib.Math.min.name, .code Lib.Math.min.name Lib.Math.min.code 2 (some .int), .methodLink RX0 48 yX0_scaled, .instanceMethod yX0_scaled, .selects RX0 yX0_scaled yX0_scaled, .initialized RX0, .code yX0_scaled cX0_scaled 3 (some .int), .constantLong RX0 59 (100), .static yX4_down, .initialized RX4, .code yX4_down cX4_down 4 (some .long), .methodLink RX4 223 yJ9_floorDiv_f86c9, .static yJ9_floorDiv_f86c9, .initialized RJ9, .code yJ9_floorDiv_f86c9 cJ9_floorDiv_f86c9 6 (some .long)] ++ wsX00)
def wsX0_study_r1 : List Cond := [Cond.fieldLink RX0 11 "WallStones$Book" "ranges" "[I", Cond.fieldLink RX0 23 "WallStones$Book" "leastDrift" "[I", Cond.fieldLink RX0 26 "WallStones$Book" "greatestDrift" "[I", Cond.fieldLink RX0 33 "WallStones$Book" "shots" "I", Cond.fieldLink RX0 17 "WallStones$Book" "shotHook" "[I", Cond.fieldLink RX0 20 "WallStones$Book" "shotFell" "[I", Cond.methodLink RX0 36 yX1_slingNow, Cond.instanceMethod yX1_slingNow, Cond.selects RX1 yX1_slingNow yX1_slingNow, Cond.initialized RX1, Cond.code yX1_slingNow cX1_slingNow 1 (some .int), Cond.fieldLink RX1 11 "WallStones$Machine" "number" "[I", Cond.methodLink RX0 40 yX1_reckon, Cond.instanceMethod yX1_reckon, Cond.selects RX1 yX1_reckon yX1_reckon, Cond.code yX1_reckon cX1_reckon 4 (some .int), Cond.fieldLink RX1 18 "WallStones$Machine" "reckoning" "[I", Cond.fieldLink RX1 49 "WallStones$Machine" "stallTurn" "I", Cond.methodLink RX1 71 yX1_turnOfRelease, Cond.instanceMethod yX1_turnOfRelease, Cond.selects RX1 yX1_turnOfRelease yX1_turnOfRelease, Cond.code yX1_turnOfRelease cX1_turnOfRelease 7 (some .int), Cond.constantLong RX1 58 (100), Cond.constantLong RX1 60 (2)]
def wsX0_study_r2 : List Cond := [Cond.constantLong RX1 65 (160), Cond.static yX4_up, Cond.initialized RX4, Cond.code yX4_up cX4_up 4 (some .long), Cond.methodLink RX4 223 yJ9_floorDiv_f86c9, Cond.static yJ9_floorDiv_f86c9, Cond.initialized RJ9, Cond.code yJ9_floorDiv_f86c9 cJ9_floorDiv_f86c9 6 (some .long), Cond.methodLink RX1 74 yX1_reckonRelease, Cond.instanceMethod yX1_reckonRelease, Cond.selects RX1 yX1_reckonRelease yX1_reckonRelease, Cond.code yX1_reckonRelease cX1_reckonRelease 10 none, Cond.fieldLink RX1 15 "WallStones$Machine" "given" "[I", Cond.constantLong RX1 82 (8000), Cond.fieldLink RX1 41 "WallStones$Machine" "windNow" "I", Cond.methodLink RX1 87 Lib.Math.max.name, Cond.static Lib.Math.max.name, Cond.initialized "java/lang/Math", Cond.code Lib.Math.max.name Lib.Math.max.code 2 (some .int), Cond.static yX4_within, Cond.code yX4_within cX4_within 3 (some .boolean), Cond.methodLink RX1 78 yX1_speedFor, Cond.instanceMethod yX1_speedFor, Cond.selects RX1 yX1_speedFor yX1_speedFor]
def wsX0_study_r3 : List Cond := [Cond.code yX1_speedFor cX1_speedFor 9 (some .long), Cond.static yX4_down, Cond.code yX4_down cX4_down 4 (some .long), Cond.static yX4_sineOf, Cond.code yX4_sineOf cX4_sineOf 5 (some .int), Cond.methodLink RX4 189 Lib.Math.abs.name, Cond.static Lib.Math.abs.name, Cond.code Lib.Math.abs.name Lib.Math.abs.code 1 (some .int), Cond.constantLong RX4 227 (4000), Cond.constantLong RX4 229 (40500), Cond.methodLink RX4 231 yX4_down, Cond.methodLink RX1 84 yX1_flightOf, Cond.instanceMethod yX1_flightOf, Cond.selects RX1 yX1_flightOf yX1_flightOf, Cond.code yX1_flightOf cX1_flightOf 5 (some .int), Cond.constantLong RX1 92 (20), Cond.constantLong RX1 94 (2000), Cond.methodLink RX1 96 Lib.MathLoose.max_long.x, Cond.static Lib.MathLoose.max_long.x, Cond.code Lib.MathLoose.max_long.x Lib.MathLoose.max_long.code 4 (some .long), Cond.constantLong RX1 98 (8), Cond.constantLong RX1 100 (25), Cond.constantLong RX1 102 (3), Cond.methodLink RX0 44 yX0_bear]
def wsX0_study_r4 : List Cond := [Cond.instanceMethod yX0_bear, Cond.selects RX0 yX0_bear yX0_bear, Cond.initialized RX0, Cond.code yX0_bear cX0_bear 5 none, Cond.fieldLink RX0 29 "WallStones$Book" "spreadNow" "I", Cond.methodLink RX0 51 Lib.Math.max.name, Cond.methodLink RX0 56 Lib.Math.min.name, Cond.static Lib.Math.min.name, Cond.code Lib.Math.min.name Lib.Math.min.code 2 (some .int), Cond.methodLink RX0 48 yX0_scaled, Cond.instanceMethod yX0_scaled, Cond.selects RX0 yX0_scaled yX0_scaled, Cond.code yX0_scaled cX0_scaled 3 (some .int), Cond.constantLong RX0 59 (100)]
def wsX0_study : List Cond := .code yX0_study cX0_study 5 none :: ((wsX0_study_r1 ++ (wsX0_study_r2 ++ (wsX0_study_r3 ++ wsX0_study_r4))) ++ wsX00 ++ wsX10)
def wsX0_isLeft : List Cond := .code yX0_isLeft cX0_isLeft 2 (some .boolean) :: ([.fieldLink RX0 23 "WallStones$Book" "leastDrift" "[I", .fieldLink RX0 26 "WallStones$Book" "greatestDrift" "[I"] ++ wsX00)
def wsX0_pairsLeft : List Cond := .code yX0_pairsLeft cX0_pairsLeft 3 (some .int) :: ([.fieldLink RX0 26 "WallStones$Book" "greatestDrift" "[I", .fieldLink RX0 23 "WallStones$Book" "leastDrift" "[I", .methodLink RX0 65 yX0_isLeft, .instanceMethod yX0_isLeft, .selects RX0 yX0_isLeft yX0_isLeft, .initialized RX0, .code yX0_isLeft cX0_isLeft 2 (some .boolean)] ++ wsX00)
def wsX0_places : List Cond := .code yX0_places cX0_places 2 (some .boolean) :: ([.fieldLink RX0 11 "WallStones$Book" "ranges" "[I", .methodLink RX0 69 yX0_pairsLeft, .instanceMethod yX0_pairsLeft, .selects RX0 yX0_pairsLeft yX0_pairsLeft, .initialized RX0, .code yX0_pairsLeft cX0_pairsLeft 3 (some .int), .fieldLink RX0 26 "WallStones$Book" "greatestDrift" "[I", .fieldLink RX0 23 "WallStones$Book" "leastDrift" "[I", .methodLink RX0 65 yX0_isLeft, .instanceMethod yX0_isLeft, .selects RX0 yX0_isLeft yX0_isLeft, .code yX0_isLeft cX0_isLeft 2 (some .boolean)] ++ wsX00)
def wsX0_leastPlace_r1 : List Cond := [Cond.constant RX0 74 (2147483647), Cond.fieldLink RX0 23 "WallStones$Book" "leastDrift" "[I", Cond.methodLink RX0 56 Lib.Math.min.name, Cond.static Lib.Math.min.name, Cond.initialized "java/lang/Math", Cond.code Lib.Math.min.name Lib.Math.min.code 2 (some .int), Cond.methodLink RX0 65 yX0_isLeft, Cond.instanceMethod yX0_isLeft, Cond.selects RX0 yX0_isLeft yX0_isLeft, Cond.initialized RX0, Cond.code yX0_isLeft cX0_isLeft 2 (some .boolean), Cond.fieldLink RX0 26 "WallStones$Book" "greatestDrift" "[I", Cond.methodLink RX0 48 yX0_scaled, Cond.instanceMethod yX0_scaled, Cond.selects RX0 yX0_scaled yX0_scaled, Cond.code yX0_scaled cX0_scaled 3 (some .int), Cond.fieldLink RX0 11 "WallStones$Book" "ranges" "[I", Cond.constantLong RX0 59 (100), Cond.static yX4_down, Cond.initialized RX4, Cond.code yX4_down cX4_down 4 (some .long), Cond.methodLink RX4 223 yJ9_floorDiv_f86c9, Cond.static yJ9_floorDiv_f86c9, Cond.initialized RJ9]
def wsX0_leastPlace_r2 : List Cond := [Cond.code yJ9_floorDiv_f86c9 cJ9_floorDiv_f86c9 6 (some .long)]
def wsX0_leastPlace : List Cond := .code yX0_leastPlace cX0_leastPlace 4 (some .int) :: ((wsX0_leastPlace_r1 ++ wsX0_leastPlace_r2) ++ wsX00)
def wsX0_greatestPlace_r1 : List Cond := [Cond.constant RX0 75 (-2147483648), Cond.fieldLink RX0 26 "WallStones$Book" "greatestDrift" "[I", Cond.methodLink RX0 51 Lib.Math.max.name, Cond.static Lib.Math.max.name, Cond.initialized "java/lang/Math", Cond.code Lib.Math.max.name Lib.Math.max.code 2 (some .int), Cond.methodLink RX0 65 yX0_isLeft, Cond.instanceMethod yX0_isLeft, Cond.selects RX0 yX0_isLeft yX0_isLeft, Cond.initialized RX0, Cond.code yX0_isLeft cX0_isLeft 2 (some .boolean), Cond.fieldLink RX0 23 "WallStones$Book" "leastDrift" "[I", Cond.methodLink RX0 48 yX0_scaled, Cond.instanceMethod yX0_scaled, Cond.selects RX0 yX0_scaled yX0_scaled, Cond.code yX0_scaled cX0_scaled 3 (some .int), Cond.fieldLink RX0 11 "WallStones$Book" "ranges" "[I", Cond.constantLong RX0 59 (100), Cond.static yX4_down, Cond.initialized RX4, Cond.code yX4_down cX4_down 4 (some .long), Cond.methodLink RX4 223 yJ9_floorDiv_f86c9, Cond.static yJ9_floorDiv_f86c9, Cond.initialized RJ9]
def wsX0_greatestPlace_r2 : List Cond := [Cond.code yJ9_floorDiv_f86c9 cJ9_floorDiv_f86c9 6 (some .long)]
def wsX0_greatestPlace : List Cond := .code yX0_greatestPlace cX0_greatestPlace 4 (some .int) :: ((wsX0_greatestPlace_r1 ++ wsX0_greatestPlace_r2) ++ wsX00)
def wsX0_widestHook_r1 : List Cond := [Cond.fieldLink RX0 11 "WallStones$Book" "ranges" "[I", Cond.methodLink RX0 76 yX0_places, Cond.instanceMethod yX0_places, Cond.selects RX0 yX0_places yX0_places, Cond.initialized RX0, Cond.code yX0_places cX0_places 2 (some .boolean), Cond.methodLink RX0 69 yX0_pairsLeft, Cond.instanceMethod yX0_pairsLeft, Cond.selects RX0 yX0_pairsLeft yX0_pairsLeft, Cond.code yX0_pairsLeft cX0_pairsLeft 3 (some .int), Cond.fieldLink RX0 26 "WallStones$Book" "greatestDrift" "[I", Cond.fieldLink RX0 23 "WallStones$Book" "leastDrift" "[I", Cond.methodLink RX0 65 yX0_isLeft, Cond.instanceMethod yX0_isLeft, Cond.selects RX0 yX0_isLeft yX0_isLeft, Cond.code yX0_isLeft cX0_isLeft 2 (some .boolean), Cond.methodLink RX0 79 yX0_greatestPlace, Cond.instanceMethod yX0_greatestPlace, Cond.selects RX0 yX0_greatestPlace yX0_greatestPlace, Cond.code yX0_greatestPlace cX0_greatestPlace 4 (some .int), Cond.constant RX0 75 (-2147483648), Cond.methodLink RX0 51 Lib.Math.max.name, Cond.static Lib.Math.max.name, Cond.initialized "java/lang/Math"]
def wsX0_widestHook_r2 : List Cond := [Cond.code Lib.Math.max.name Lib.Math.max.code 2 (some .int), Cond.methodLink RX0 48 yX0_scaled, Cond.instanceMethod yX0_scaled, Cond.selects RX0 yX0_scaled yX0_scaled, Cond.code yX0_scaled cX0_scaled 3 (some .int), Cond.constantLong RX0 59 (100), Cond.static yX4_down, Cond.initialized RX4, Cond.code yX4_down cX4_down 4 (some .long), Cond.methodLink RX4 223 yJ9_floorDiv_f86c9, Cond.static yJ9_floorDiv_f86c9, Cond.initialized RJ9, Cond.code yJ9_floorDiv_f86c9 cJ9_floorDiv_f86c9 6 (some .long), Cond.methodLink RX0 83 yX0_leastPlace, Cond.instanceMethod yX0_leastPlace, Cond.selects RX0 yX0_leastPlace yX0_leastPlace, Cond.code yX0_leastPlace cX0_leastPlace 4 (some .int), Cond.constant RX0 74 (2147483647), Cond.methodLink RX0 56 Lib.Math.min.name, Cond.static Lib.Math.min.name, Cond.code Lib.Math.min.name Lib.Math.min.code 2 (some .int)]
def wsX0_widestHook : List Cond := .code yX0_widestHook cX0_widestHook 5 (some .int) :: ((wsX0_widestHook_r1 ++ wsX0_widestHook_r2) ++ wsX00)
def wsX0_farthestMiss_r1 : List Cond := [Cond.methodLink RX0 86 Lib.Math.abs.name, Cond.static Lib.Math.abs.name, Cond.initialized "java/lang/Math", Cond.code Lib.Math.abs.name Lib.Math.abs.code 1 (some .int), Cond.methodLink RX0 51 Lib.Math.max.name, Cond.static Lib.Math.max.name, Cond.code Lib.Math.max.name Lib.Math.max.code 2 (some .int), Cond.methodLink RX0 83 yX0_leastPlace, Cond.instanceMethod yX0_leastPlace, Cond.selects RX0 yX0_leastPlace yX0_leastPlace, Cond.initialized RX0, Cond.code yX0_leastPlace cX0_leastPlace 4 (some .int), Cond.constant RX0 74 (2147483647), Cond.fieldLink RX0 23 "WallStones$Book" "leastDrift" "[I", Cond.methodLink RX0 56 Lib.Math.min.name, Cond.static Lib.Math.min.name, Cond.code Lib.Math.min.name Lib.Math.min.code 2 (some .int), Cond.methodLink RX0 65 yX0_isLeft, Cond.instanceMethod yX0_isLeft, Cond.selects RX0 yX0_isLeft yX0_isLeft, Cond.code yX0_isLeft cX0_isLeft 2 (some .boolean), Cond.fieldLink RX0 26 "WallStones$Book" "greatestDrift" "[I", Cond.methodLink RX0 48 yX0_scaled, Cond.instanceMethod yX0_scaled]
def wsX0_farthestMiss_r2 : List Cond := [Cond.selects RX0 yX0_scaled yX0_scaled, Cond.code yX0_scaled cX0_scaled 3 (some .int), Cond.fieldLink RX0 11 "WallStones$Book" "ranges" "[I", Cond.constantLong RX0 59 (100), Cond.static yX4_down, Cond.initialized RX4, Cond.code yX4_down cX4_down 4 (some .long), Cond.methodLink RX4 223 yJ9_floorDiv_f86c9, Cond.static yJ9_floorDiv_f86c9, Cond.initialized RJ9, Cond.code yJ9_floorDiv_f86c9 cJ9_floorDiv_f86c9 6 (some .long), Cond.methodLink RX0 79 yX0_greatestPlace, Cond.instanceMethod yX0_greatestPlace, Cond.selects RX0 yX0_greatestPlace yX0_greatestPlace, Cond.code yX0_greatestPlace cX0_greatestPlace 4 (some .int), Cond.constant RX0 75 (-2147483648)]
def wsX0_farthestMiss : List Cond := .code yX0_farthestMiss cX0_farthestMiss 3 (some .int) :: ((wsX0_farthestMiss_r1 ++ wsX0_farthestMiss_r2) ++ wsX00)
def wsX0_surestHook_r1 : List Cond := [Cond.constant RX0 74 (2147483647), Cond.fieldLink RX0 11 "WallStones$Book" "ranges" "[I", Cond.methodLink RX0 76 yX0_places, Cond.instanceMethod yX0_places, Cond.selects RX0 yX0_places yX0_places, Cond.initialized RX0, Cond.code yX0_places cX0_places 2 (some .boolean), Cond.methodLink RX0 69 yX0_pairsLeft, Cond.instanceMethod yX0_pairsLeft, Cond.selects RX0 yX0_pairsLeft yX0_pairsLeft, Cond.code yX0_pairsLeft cX0_pairsLeft 3 (some .int), Cond.fieldLink RX0 26 "WallStones$Book" "greatestDrift" "[I", Cond.fieldLink RX0 23 "WallStones$Book" "leastDrift" "[I", Cond.methodLink RX0 65 yX0_isLeft, Cond.instanceMethod yX0_isLeft, Cond.selects RX0 yX0_isLeft yX0_isLeft, Cond.code yX0_isLeft cX0_isLeft 2 (some .boolean), Cond.methodLink RX0 89 yX0_farthestMiss, Cond.instanceMethod yX0_farthestMiss, Cond.selects RX0 yX0_farthestMiss yX0_farthestMiss, Cond.code yX0_farthestMiss cX0_farthestMiss 3 (some .int), Cond.methodLink RX0 86 Lib.Math.abs.name, Cond.static Lib.Math.abs.name, Cond.initialized "java/lang/Math"]
def wsX0_surestHook_r2 : List Cond := [Cond.code Lib.Math.abs.name Lib.Math.abs.code 1 (some .int), Cond.methodLink RX0 51 Lib.Math.max.name, Cond.static Lib.Math.max.name, Cond.code Lib.Math.max.name Lib.Math.max.code 2 (some .int), Cond.methodLink RX0 83 yX0_leastPlace, Cond.instanceMethod yX0_leastPlace, Cond.selects RX0 yX0_leastPlace yX0_leastPlace, Cond.code yX0_leastPlace cX0_leastPlace 4 (some .int), Cond.methodLink RX0 56 Lib.Math.min.name, Cond.static Lib.Math.min.name, Cond.code Lib.Math.min.name Lib.Math.min.code 2 (some .int), Cond.methodLink RX0 48 yX0_scaled, Cond.instanceMethod yX0_scaled, Cond.selects RX0 yX0_scaled yX0_scaled, Cond.code yX0_scaled cX0_scaled 3 (some .int), Cond.constantLong RX0 59 (100), Cond.static yX4_down, Cond.initialized RX4, Cond.code yX4_down cX4_down 4 (some .long), Cond.methodLink RX4 223 yJ9_floorDiv_f86c9, Cond.static yJ9_floorDiv_f86c9, Cond.initialized RJ9, Cond.code yJ9_floorDiv_f86c9 cJ9_floorDiv_f86c9 6 (some .long), Cond.methodLink RX0 79 yX0_greatestPlace]
def wsX0_surestHook_r3 : List Cond := [Cond.instanceMethod yX0_greatestPlace, Cond.selects RX0 yX0_greatestPlace yX0_greatestPlace, Cond.code yX0_greatestPlace cX0_greatestPlace 4 (some .int), Cond.constant RX0 75 (-2147483648)]
def wsX0_surestHook : List Cond := .code yX0_surestHook cX0_surestHook 6 (some .int) :: ((wsX0_surestHook_r1 ++ (wsX0_surestHook_r2 ++ wsX0_surestHook_r3)) ++ wsX00)
def wsX1_turnBeam : List Cond := .code yX1_turnBeam cX1_turnBeam 6 none :: ([.fieldLink RX1 11 "WallStones$Machine" "number" "[I", .fieldLink RX1 49 "WallStones$Machine" "stallTurn" "I", .fieldLink RX1 15 "WallStones$Machine" "given" "[I", .constantLong RX1 52 (1000), .static yX4_sineOf, .initialized RX4, .code yX4_sineOf cX4_sineOf 5 (some .int), .methodLink RX4 189 Lib.Math.abs.name, .static Lib.Math.abs.name, .initialized "java/lang/Math", .code Lib.Math.abs.name Lib.Math.abs.code 1 (some .int), .constantLong RX4 227 (4000), .constantLong RX4 229 (40500), .methodLink RX4 231 yX4_down, .static yX4_down, .code yX4_down cX4_down 4 (some .long), .methodLink RX4 223 yJ9_floorDiv_f86c9, .static yJ9_floorDiv_f86c9, .initialized RJ9, .code yJ9_floorDiv_f86c9 cJ9_floorDiv_f86c9 6 (some .long)] ++ wsX10)
def wsX1_init_r1 : List Cond := [Cond.methodLink RX1 5 objectInit, Cond.instanceMethod objectInit, Cond.code objectInit ⟨#[0xb1]⟩ 1 none, Cond.arrayClass .int, Cond.fieldLink RX1 11 "WallStones$Machine" "number" "[I", Cond.fieldLink RX1 15 "WallStones$Machine" "given" "[I", Cond.fieldLink RX1 18 "WallStones$Machine" "reckoning" "[I", Cond.fieldLink RX1 21 "WallStones$Machine" "tuning" "[I", Cond.methodLink RX1 24 yX1_turnBeam, Cond.instanceMethod yX1_turnBeam, Cond.selects RX1 yX1_turnBeam yX1_turnBeam, Cond.initialized RX1, Cond.code yX1_turnBeam cX1_turnBeam 6 none, Cond.fieldLink RX1 49 "WallStones$Machine" "stallTurn" "I", Cond.constantLong RX1 52 (1000), Cond.static yX4_sineOf, Cond.initialized RX4, Cond.code yX4_sineOf cX4_sineOf 5 (some .int), Cond.methodLink RX4 189 Lib.Math.abs.name, Cond.static Lib.Math.abs.name, Cond.initialized "java/lang/Math", Cond.code Lib.Math.abs.name Lib.Math.abs.code 1 (some .int), Cond.constantLong RX4 227 (4000), Cond.constantLong RX4 229 (40500)]
def wsX1_init_r2 : List Cond := [Cond.methodLink RX4 231 yX4_down, Cond.static yX4_down, Cond.code yX4_down cX4_down 4 (some .long), Cond.methodLink RX4 223 yJ9_floorDiv_f86c9, Cond.static yJ9_floorDiv_f86c9, Cond.initialized RJ9, Cond.code yJ9_floorDiv_f86c9 cJ9_floorDiv_f86c9 6 (some .long)]
def wsX1_init : List Cond := .code yX1_init cX1_init 1 none :: ((wsX1_init_r1 ++ wsX1_init_r2) ++ wsX10)
def wsX1_takes : List Cond := .code yX1_takes cX1_takes 3 (some .boolean) :: ([.fieldLink RX1 31 "WallStones$Machine" "LEAST" "[I", .fieldLink RX1 34 "WallStones$Machine" "MOST" "[I", .static yX4_within, .initialized RX4, .code yX4_within cX4_within 3 (some .boolean)])
def wsX1_put_r1 : List Cond := [Cond.fieldLink RX1 11 "WallStones$Machine" "number" "[I", Cond.methodLink RX1 37 yX1_takes, Cond.instanceMethod yX1_takes, Cond.selects RX1 yX1_takes yX1_takes, Cond.initialized RX1, Cond.code yX1_takes cX1_takes 3 (some .boolean), Cond.fieldLink RX1 31 "WallStones$Machine" "LEAST" "[I", Cond.fieldLink RX1 34 "WallStones$Machine" "MOST" "[I", Cond.static yX4_within, Cond.initialized RX4, Cond.code yX4_within cX4_within 3 (some .boolean), Cond.methodLink RX1 24 yX1_turnBeam, Cond.instanceMethod yX1_turnBeam, Cond.selects RX1 yX1_turnBeam yX1_turnBeam, Cond.code yX1_turnBeam cX1_turnBeam 6 none, Cond.fieldLink RX1 49 "WallStones$Machine" "stallTurn" "I", Cond.fieldLink RX1 15 "WallStones$Machine" "given" "[I", Cond.constantLong RX1 52 (1000), Cond.static yX4_sineOf, Cond.code yX4_sineOf cX4_sineOf 5 (some .int), Cond.methodLink RX4 189 Lib.Math.abs.name, Cond.static Lib.Math.abs.name, Cond.initialized "java/lang/Math", Cond.code Lib.Math.abs.name Lib.Math.abs.code 1 (some .int)]
def wsX1_put_r2 : List Cond := [Cond.constantLong RX4 227 (4000), Cond.constantLong RX4 229 (40500), Cond.methodLink RX4 231 yX4_down, Cond.static yX4_down, Cond.code yX4_down cX4_down 4 (some .long), Cond.methodLink RX4 223 yJ9_floorDiv_f86c9, Cond.static yJ9_floorDiv_f86c9, Cond.initialized RJ9, Cond.code yJ9_floorDiv_f86c9 cJ9_floorDiv_f86c9 6 (some .long)]
def wsX1_put : List Cond := .code yX1_put cX1_put 4 (some .int) :: ((wsX1_put_r1 ++ wsX1_put_r2) ++ wsX10)
def wsX1_putWind : List Cond := .code yX1_putWind cX1_putWind 3 (some .int) :: ([.fieldLink RX1 41 "WallStones$Machine" "windNow" "I"] ++ wsX10)
def wsX1_reckonOwn_r1 : List Cond := [Cond.fieldLink RX1 11 "WallStones$Machine" "number" "[I", Cond.methodLink RX1 67 yX1_reckon, Cond.instanceMethod yX1_reckon, Cond.selects RX1 yX1_reckon yX1_reckon, Cond.initialized RX1, Cond.code yX1_reckon cX1_reckon 4 (some .int), Cond.fieldLink RX1 18 "WallStones$Machine" "reckoning" "[I", Cond.fieldLink RX1 49 "WallStones$Machine" "stallTurn" "I", Cond.methodLink RX1 71 yX1_turnOfRelease, Cond.instanceMethod yX1_turnOfRelease, Cond.selects RX1 yX1_turnOfRelease yX1_turnOfRelease, Cond.code yX1_turnOfRelease cX1_turnOfRelease 7 (some .int), Cond.constantLong RX1 58 (100), Cond.constantLong RX1 60 (2), Cond.constantLong RX1 65 (160), Cond.static yX4_up, Cond.initialized RX4, Cond.code yX4_up cX4_up 4 (some .long), Cond.methodLink RX4 223 yJ9_floorDiv_f86c9, Cond.static yJ9_floorDiv_f86c9, Cond.initialized RJ9, Cond.code yJ9_floorDiv_f86c9 cJ9_floorDiv_f86c9 6 (some .long), Cond.methodLink RX1 74 yX1_reckonRelease, Cond.instanceMethod yX1_reckonRelease]
def wsX1_reckonOwn_r2 : List Cond := [Cond.selects RX1 yX1_reckonRelease yX1_reckonRelease, Cond.code yX1_reckonRelease cX1_reckonRelease 10 none, Cond.fieldLink RX1 15 "WallStones$Machine" "given" "[I", Cond.constantLong RX1 82 (8000), Cond.fieldLink RX1 41 "WallStones$Machine" "windNow" "I", Cond.methodLink RX1 87 Lib.Math.max.name, Cond.static Lib.Math.max.name, Cond.initialized "java/lang/Math", Cond.code Lib.Math.max.name Lib.Math.max.code 2 (some .int), Cond.static yX4_within, Cond.code yX4_within cX4_within 3 (some .boolean), Cond.methodLink RX1 78 yX1_speedFor, Cond.instanceMethod yX1_speedFor, Cond.selects RX1 yX1_speedFor yX1_speedFor, Cond.code yX1_speedFor cX1_speedFor 9 (some .long), Cond.static yX4_down, Cond.code yX4_down cX4_down 4 (some .long), Cond.static yX4_sineOf, Cond.code yX4_sineOf cX4_sineOf 5 (some .int), Cond.methodLink RX4 189 Lib.Math.abs.name, Cond.static Lib.Math.abs.name, Cond.code Lib.Math.abs.name Lib.Math.abs.code 1 (some .int), Cond.constantLong RX4 227 (4000), Cond.constantLong RX4 229 (40500)]
def wsX1_reckonOwn_r3 : List Cond := [Cond.methodLink RX4 231 yX4_down, Cond.methodLink RX1 84 yX1_flightOf, Cond.instanceMethod yX1_flightOf, Cond.selects RX1 yX1_flightOf yX1_flightOf, Cond.code yX1_flightOf cX1_flightOf 5 (some .int), Cond.constantLong RX1 92 (20), Cond.constantLong RX1 94 (2000), Cond.methodLink RX1 96 Lib.MathLoose.max_long.x, Cond.static Lib.MathLoose.max_long.x, Cond.code Lib.MathLoose.max_long.x Lib.MathLoose.max_long.code 4 (some .long), Cond.constantLong RX1 98 (8), Cond.constantLong RX1 100 (25), Cond.constantLong RX1 102 (3)]
def wsX1_reckonOwn : List Cond := .code yX1_reckonOwn cX1_reckonOwn 1 (some .int) :: ((wsX1_reckonOwn_r1 ++ (wsX1_reckonOwn_r2 ++ wsX1_reckonOwn_r3)) ++ wsX10)
def wsX1_bodiesAsked : List Cond := .code yX1_bodiesAsked cX1_bodiesAsked 1 (some .int) :: ([])
def wsX1_reckoned : List Cond := .code yX1_reckoned cX1_reckoned 2 (some .int) :: ([.fieldLink RX1 18 "WallStones$Machine" "reckoning" "[I", .static yX4_within, .initialized RX4, .code yX4_within cX4_within 3 (some .boolean)] ++ wsX10)
def wsX1_keepTuning : List Cond := .code yX1_keepTuning cX1_keepTuning 4 none :: ([.fieldLink RX1 21 "WallStones$Machine" "tuning" "[I"] ++ wsX10)
def wsX1_tuneTo_r1 : List Cond := [Cond.constant RX1 109 (2147483647), Cond.methodLink RX1 110 Lib.Math.abs.name, Cond.static Lib.Math.abs.name, Cond.initialized "java/lang/Math", Cond.code Lib.Math.abs.name Lib.Math.abs.code 1 (some .int), Cond.methodLink RX1 104 yX1_keepTuning, Cond.instanceMethod yX1_keepTuning, Cond.selects RX1 yX1_keepTuning yX1_keepTuning, Cond.initialized RX1, Cond.code yX1_keepTuning cX1_keepTuning 4 none, Cond.fieldLink RX1 21 "WallStones$Machine" "tuning" "[I", Cond.methodLink RX1 67 yX1_reckon, Cond.instanceMethod yX1_reckon, Cond.selects RX1 yX1_reckon yX1_reckon, Cond.code yX1_reckon cX1_reckon 4 (some .int), Cond.fieldLink RX1 18 "WallStones$Machine" "reckoning" "[I", Cond.fieldLink RX1 49 "WallStones$Machine" "stallTurn" "I", Cond.methodLink RX1 71 yX1_turnOfRelease, Cond.instanceMethod yX1_turnOfRelease, Cond.selects RX1 yX1_turnOfRelease yX1_turnOfRelease, Cond.code yX1_turnOfRelease cX1_turnOfRelease 7 (some .int), Cond.constantLong RX1 58 (100), Cond.constantLong RX1 60 (2), Cond.fieldLink RX1 11 "WallStones$Machine" "number" "[I"]
def wsX1_tuneTo_r2 : List Cond := [Cond.constantLong RX1 65 (160), Cond.static yX4_up, Cond.initialized RX4, Cond.code yX4_up cX4_up 4 (some .long), Cond.methodLink RX4 223 yJ9_floorDiv_f86c9, Cond.static yJ9_floorDiv_f86c9, Cond.initialized RJ9, Cond.code yJ9_floorDiv_f86c9 cJ9_floorDiv_f86c9 6 (some .long), Cond.methodLink RX1 74 yX1_reckonRelease, Cond.instanceMethod yX1_reckonRelease, Cond.selects RX1 yX1_reckonRelease yX1_reckonRelease, Cond.code yX1_reckonRelease cX1_reckonRelease 10 none, Cond.fieldLink RX1 15 "WallStones$Machine" "given" "[I", Cond.constantLong RX1 82 (8000), Cond.fieldLink RX1 41 "WallStones$Machine" "windNow" "I", Cond.methodLink RX1 87 Lib.Math.max.name, Cond.static Lib.Math.max.name, Cond.code Lib.Math.max.name Lib.Math.max.code 2 (some .int), Cond.static yX4_within, Cond.code yX4_within cX4_within 3 (some .boolean), Cond.methodLink RX1 78 yX1_speedFor, Cond.instanceMethod yX1_speedFor, Cond.selects RX1 yX1_speedFor yX1_speedFor, Cond.code yX1_speedFor cX1_speedFor 9 (some .long)]
def wsX1_tuneTo_r3 : List Cond := [Cond.static yX4_down, Cond.code yX4_down cX4_down 4 (some .long), Cond.static yX4_sineOf, Cond.code yX4_sineOf cX4_sineOf 5 (some .int), Cond.methodLink RX4 189 Lib.Math.abs.name, Cond.constantLong RX4 227 (4000), Cond.constantLong RX4 229 (40500), Cond.methodLink RX4 231 yX4_down, Cond.methodLink RX1 84 yX1_flightOf, Cond.instanceMethod yX1_flightOf, Cond.selects RX1 yX1_flightOf yX1_flightOf, Cond.code yX1_flightOf cX1_flightOf 5 (some .int), Cond.constantLong RX1 92 (20), Cond.constantLong RX1 94 (2000), Cond.methodLink RX1 96 Lib.MathLoose.max_long.x, Cond.static Lib.MathLoose.max_long.x, Cond.code Lib.MathLoose.max_long.x Lib.MathLoose.max_long.code 4 (some .long), Cond.constantLong RX1 98 (8), Cond.constantLong RX1 100 (25), Cond.constantLong RX1 102 (3)]
def wsX1_tuneTo : List Cond := .code yX1_tuneTo cX1_tuneTo 9 none :: ((wsX1_tuneTo_r1 ++ (wsX1_tuneTo_r2 ++ wsX1_tuneTo_r3)) ++ wsX10)
def wsX1_tuned : List Cond := .code yX1_tuned cX1_tuned 2 (some .int) :: ([.fieldLink RX1 21 "WallStones$Machine" "tuning" "[I", .static yX4_within, .initialized RX4, .code yX4_within cX4_within 3 (some .boolean)] ++ wsX10)
def wsX1_forceAt : List Cond := .code yX1_forceAt cX1_forceAt 2 (some .int) :: ([.constantLong RX1 113 (99), .fieldLink RX1 11 "WallStones$Machine" "number" "[I", .constantLong RX1 115 (500), .methodLink RX1 117 Lib.MathLoose.min_long.x, .static Lib.MathLoose.min_long.x, .initialized "java/lang/Math", .code Lib.MathLoose.min_long.x Lib.MathLoose.min_long.code 4 (some .long), .static yX4_down, .initialized RX4, .code yX4_down cX4_down 4 (some .long), .methodLink RX4 223 yJ9_floorDiv_f86c9, .static yJ9_floorDiv_f86c9, .initialized RJ9, .code yJ9_floorDiv_f86c9 cJ9_floorDiv_f86c9 6 (some .long)] ++ wsX10)
def wsX1_turnsOfShot : List Cond := .code yX1_turnsOfShot cX1_turnsOfShot 1 (some .int) :: ([.fieldLink RX1 11 "WallStones$Machine" "number" "[I", .constantLong RX1 52 (1000), .static yX4_up, .initialized RX4, .code yX4_up cX4_up 4 (some .long), .methodLink RX4 223 yJ9_floorDiv_f86c9, .static yJ9_floorDiv_f86c9, .initialized RJ9, .code yJ9_floorDiv_f86c9 cJ9_floorDiv_f86c9 6 (some .long)] ++ wsX10)
def wsX2_init : List Cond := .code yX2_init cX2_init 1 none :: ([.methodLink RX2 3 objectInit, .instanceMethod objectInit, .code objectInit ⟨#[0xb1]⟩ 1 none, .arrayClass .int, .fieldLink RX2 9 "WallStones$Siege" "stored" "[I", .fieldLink RX2 15 "WallStones$Siege" "wetRow" "I"] ++ wsX20)
def wsX2_takes : List Cond := .code yX2_takes cX2_takes 3 (some .boolean) :: ([.fieldLink RX2 23 "WallStones$Siege" "LEAST" "[I", .fieldLink RX2 26 "WallStones$Siege" "MOST" "[I", .static yX4_within, .initialized RX4, .code yX4_within cX4_within 3 (some .boolean)])
def wsX2_put : List Cond := .code yX2_put cX2_put 4 (some .int) :: ([.fieldLink RX2 9 "WallStones$Siege" "stored" "[I", .methodLink RX2 29 yX2_takes, .instanceMethod yX2_takes, .selects RX2 yX2_takes yX2_takes, .initialized RX2, .code yX2_takes cX2_takes 3 (some .boolean), .fieldLink RX2 23 "WallStones$Siege" "LEAST" "[I", .fieldLink RX2 26 "WallStones$Siege" "MOST" "[I", .static yX4_within, .initialized RX4, .code yX4_within cX4_within 3 (some .boolean)] ++ wsX20)
def wsX2_stones : List Cond := .code yX2_stones cX2_stones 1 (some .int) :: ([.fieldLink RX2 9 "WallStones$Siege" "stored" "[I"] ++ wsX20)
def wsX2_spendStone : List Cond := .code yX2_spendStone cX2_spendStone 1 none :: ([.fieldLink RX2 9 "WallStones$Siege" "stored" "[I", .methodLink RX2 33 Lib.Math.max.name, .static Lib.Math.max.name, .initialized "java/lang/Math", .code Lib.Math.max.name Lib.Math.max.code 2 (some .int)] ++ wsX20)
def wsX2_putWet : List Cond := .code yX2_putWet cX2_putWet 3 none :: ([.fieldLink RX2 15 "WallStones$Siege" "wetRow" "I", .fieldLink RX2 39 "WallStones$Siege" "wetBits" "I"] ++ wsX20)
def wsX2_isWet : List Cond := .code yX2_isWet cX2_isWet 3 (some .boolean) :: ([.fieldLink RX2 15 "WallStones$Siege" "wetRow" "I", .fieldLink RX2 39 "WallStones$Siege" "wetBits" "I"] ++ wsX20)
def wsX2_wholeDays : List Cond := .code yX2_wholeDays cX2_wholeDays 12 (some .int) :: ([.fieldLink RX2 9 "WallStones$Siege" "stored" "[I", .constantLong RX2 46 (4), .methodLink RX2 42 yX2_isWet, .instanceMethod yX2_isWet, .selects RX2 yX2_isWet yX2_isWet, .initialized RX2, .code yX2_isWet cX2_isWet 3 (some .boolean), .fieldLink RX2 15 "WallStones$Siege" "wetRow" "I", .fieldLink RX2 39 "WallStones$Siege" "wetBits" "I", .static yX4_up, .initialized RX4, .code yX4_up cX4_up 4 (some .long), .methodLink RX4 223 yJ9_floorDiv_f86c9, .static yJ9_floorDiv_f86c9, .initialized RJ9, .code yJ9_floorDiv_f86c9 cJ9_floorDiv_f86c9 6 (some .long)] ++ wsX20)
def wsX2_bestRate : List Cond := .code yX2_bestRate cX2_bestRate 4 (some .int) :: ([.methodLink RX2 52 yX2_wholeDays, .instanceMethod yX2_wholeDays, .selects RX2 yX2_wholeDays yX2_wholeDays, .initialized RX2, .code yX2_wholeDays cX2_wholeDays 12 (some .int), .fieldLink RX2 9 "WallStones$Siege" "stored" "[I", .constantLong RX2 46 (4), .methodLink RX2 42 yX2_isWet, .instanceMethod yX2_isWet, .selects RX2 yX2_isWet yX2_isWet, .code yX2_isWet cX2_isWet 3 (some .boolean), .fieldLink RX2 15 "WallStones$Siege" "wetRow" "I", .fieldLink RX2 39 "WallStones$Siege" "wetBits" "I", .static yX4_up, .initialized RX4, .code yX4_up cX4_up 4 (some .long), .methodLink RX4 223 yJ9_floorDiv_f86c9, .static yJ9_floorDiv_f86c9, .initialized RJ9, .code yJ9_floorDiv_f86c9 cJ9_floorDiv_f86c9 6 (some .long)] ++ wsX20)
def wsX3_build : List Cond := .code yX3_build cX3_build 4 none :: ([.fieldLink RX3 28 "WallStones$Wall" "columns" "I", .fieldLink RX3 32 "WallStones$Wall" "rows" "I", .fieldLink RX3 11 "WallStones$Wall" "strengths" "[I", .fieldLink RX3 15 "WallStones$Wall" "standing" "[I", .fieldLink RX3 18 "WallStones$Wall" "propped" "[I"] ++ wsX30)
def wsX3_init : List Cond := .code yX3_init cX3_init 1 none :: ([.methodLink RX3 3 objectInit, .instanceMethod objectInit, .code objectInit ⟨#[0xb1]⟩ 1 none, .arrayClass .int, .fieldLink RX3 11 "WallStones$Wall" "strengths" "[I", .fieldLink RX3 15 "WallStones$Wall" "standing" "[I", .fieldLink RX3 18 "WallStones$Wall" "propped" "[I", .fieldLink RX3 21 "WallStones$Wall" "weights" "[I", .methodLink RX3 24 yX3_build, .instanceMethod yX3_build, .selects RX3 yX3_build yX3_build, .initialized RX3, .code yX3_build cX3_build 4 none, .fieldLink RX3 28 "WallStones$Wall" "columns" "I", .fieldLink RX3 32 "WallStones$Wall" "rows" "I"] ++ wsX30)
def wsX3_wide : List Cond := .code yX3_wide cX3_wide 1 (some .int) :: ([.fieldLink RX3 28 "WallStones$Wall" "columns" "I"] ++ wsX30)
def wsX3_high : List Cond := .code yX3_high cX3_high 1 (some .int) :: ([.fieldLink RX3 32 "WallStones$Wall" "rows" "I"] ++ wsX30)
def wsX3_has : List Cond := .code yX3_has cX3_has 3 (some .boolean) :: ([.fieldLink RX3 28 "WallStones$Wall" "columns" "I", .fieldLink RX3 32 "WallStones$Wall" "rows" "I"] ++ wsX30)
def wsX3_place : List Cond := .code yX3_place cX3_place 2 (some .int) :: ([])
def wsX3_holds : List Cond := .code yX3_holds cX3_holds 2 (some .boolean) :: ([])
def wsX3_stands : List Cond := .code yX3_stands cX3_stands 3 (some .boolean) :: ([.fieldLink RX3 15 "WallStones$Wall" "standing" "[I", .methodLink RX3 35 yX3_has, .instanceMethod yX3_has, .selects RX3 yX3_has yX3_has, .initialized RX3, .code yX3_has cX3_has 3 (some .boolean), .fieldLink RX3 28 "WallStones$Wall" "columns" "I", .fieldLink RX3 32 "WallStones$Wall" "rows" "I", .methodLink RX3 39 yX3_holds, .static yX3_holds, .code yX3_holds cX3_holds 2 (some .boolean)] ++ wsX30)
def wsX3_isPropped : List Cond := .code yX3_isPropped cX3_isPropped 3 (some .boolean) :: ([.fieldLink RX3 18 "WallStones$Wall" "propped" "[I", .methodLink RX3 35 yX3_has, .instanceMethod yX3_has, .selects RX3 yX3_has yX3_has, .initialized RX3, .code yX3_has cX3_has 3 (some .boolean), .fieldLink RX3 28 "WallStones$Wall" "columns" "I", .fieldLink RX3 32 "WallStones$Wall" "rows" "I", .methodLink RX3 39 yX3_holds, .static yX3_holds, .code yX3_holds cX3_holds 2 (some .boolean)] ++ wsX30)
def wsX3_strengthAt : List Cond := .code yX3_strengthAt cX3_strengthAt 3 (some .int) :: ([.fieldLink RX3 11 "WallStones$Wall" "strengths" "[I", .methodLink RX3 35 yX3_has, .instanceMethod yX3_has, .selects RX3 yX3_has yX3_has, .initialized RX3, .code yX3_has cX3_has 3 (some .boolean), .fieldLink RX3 28 "WallStones$Wall" "columns" "I", .fieldLink RX3 32 "WallStones$Wall" "rows" "I", .methodLink RX3 42 yX3_place, .static yX3_place, .code yX3_place cX3_place 2 (some .int)] ++ wsX30)
def wsX3_putStrength : List Cond := .code yX3_putStrength cX3_putStrength 5 (some .int) :: ([.fieldLink RX3 11 "WallStones$Wall" "strengths" "[I", .methodLink RX3 35 yX3_has, .instanceMethod yX3_has, .selects RX3 yX3_has yX3_has, .initialized RX3, .code yX3_has cX3_has 3 (some .boolean), .fieldLink RX3 28 "WallStones$Wall" "columns" "I", .fieldLink RX3 32 "WallStones$Wall" "rows" "I", .methodLink RX3 42 yX3_place, .static yX3_place, .code yX3_place cX3_place 2 (some .int)] ++ wsX30)
def wsX3_putProp : List Cond := .code yX3_putProp cX3_putProp 4 (some .int) :: ([.fieldLink RX3 18 "WallStones$Wall" "propped" "[I", .methodLink RX3 35 yX3_has, .instanceMethod yX3_has, .selects RX3 yX3_has yX3_has, .initialized RX3, .code yX3_has cX3_has 3 (some .boolean), .fieldLink RX3 28 "WallStones$Wall" "columns" "I", .fieldLink RX3 32 "WallStones$Wall" "rows" "I", .methodLink RX3 39 yX3_holds, .static yX3_holds, .code yX3_holds cX3_holds 2 (some .boolean)] ++ wsX30)
def wsJ6_bitCount_0f7a4 : List Cond := .code yJ6_bitCount_0f7a4 cJ6_bitCount_0f7a4 1 (some .int) :: ([.constant RJ6 265 (1431655765), .constant RJ6 266 (858993459), .constant RJ6 267 (252645135)])
def wsX3_dropUnheld : List Cond := .code yX3_dropUnheld cX3_dropUnheld 3 none :: ([.fieldLink RX3 32 "WallStones$Wall" "rows" "I", .fieldLink RX3 15 "WallStones$Wall" "standing" "[I", .fieldLink RX3 18 "WallStones$Wall" "propped" "[I", .methodLink RX3 39 yX3_holds, .static yX3_holds, .initialized RX3, .code yX3_holds cX3_holds 2 (some .boolean)] ++ wsX30)
def wsX3_strike_r1 : List Cond := [Cond.fieldLink RX3 15 "WallStones$Wall" "standing" "[I", Cond.fieldLink RX3 11 "WallStones$Wall" "strengths" "[I", Cond.fieldLink RX3 18 "WallStones$Wall" "propped" "[I", Cond.methodLink RX3 46 yX3_stands, Cond.instanceMethod yX3_stands, Cond.selects RX3 yX3_stands yX3_stands, Cond.initialized RX3, Cond.code yX3_stands cX3_stands 3 (some .boolean), Cond.methodLink RX3 35 yX3_has, Cond.instanceMethod yX3_has, Cond.selects RX3 yX3_has yX3_has, Cond.code yX3_has cX3_has 3 (some .boolean), Cond.fieldLink RX3 28 "WallStones$Wall" "columns" "I", Cond.fieldLink RX3 32 "WallStones$Wall" "rows" "I", Cond.methodLink RX3 39 yX3_holds, Cond.static yX3_holds, Cond.code yX3_holds cX3_holds 2 (some .boolean), Cond.methodLink RX3 49 yJ6_bitCount_0f7a4, Cond.static yJ6_bitCount_0f7a4, Cond.initialized RJ6, Cond.code yJ6_bitCount_0f7a4 cJ6_bitCount_0f7a4 1 (some .int), Cond.constant RJ6 265 (1431655765), Cond.constant RJ6 266 (858993459), Cond.constant RJ6 267 (252645135)]
def wsX3_strike_r2 : List Cond := [Cond.methodLink RX3 42 yX3_place, Cond.static yX3_place, Cond.code yX3_place cX3_place 2 (some .int), Cond.methodLink RX3 55 yX3_dropUnheld, Cond.instanceMethod yX3_dropUnheld, Cond.selects RX3 yX3_dropUnheld yX3_dropUnheld, Cond.code yX3_dropUnheld cX3_dropUnheld 3 none]
def wsX3_strike : List Cond := .code yX3_strike cX3_strike 6 (some .int) :: ((wsX3_strike_r1 ++ wsX3_strike_r2) ++ wsX30)
def wsX3_putLevel : List Cond := .code yX3_putLevel cX3_putLevel 3 (some .int) :: ([.fieldLink RX3 59 "WallStones$Wall" "levelNow" "I"] ++ wsX30)
def wsX3_isOpen : List Cond := .code yX3_isOpen cX3_isOpen 2 (some .boolean) :: ([.fieldLink RX3 15 "WallStones$Wall" "standing" "[I", .fieldLink RX3 59 "WallStones$Wall" "levelNow" "I", .methodLink RX3 49 yJ6_bitCount_0f7a4, .static yJ6_bitCount_0f7a4, .initialized RJ6, .code yJ6_bitCount_0f7a4 cJ6_bitCount_0f7a4 1 (some .int), .constant RJ6 265 (1431655765), .constant RJ6 266 (858993459), .constant RJ6 267 (252645135)] ++ wsX30)
def wsX3_firstOpen : List Cond := .code yX3_firstOpen cX3_firstOpen 2 (some .int) :: ([.fieldLink RX3 28 "WallStones$Wall" "columns" "I", .methodLink RX3 62 yX3_isOpen, .instanceMethod yX3_isOpen, .selects RX3 yX3_isOpen yX3_isOpen, .initialized RX3, .code yX3_isOpen cX3_isOpen 2 (some .boolean), .fieldLink RX3 15 "WallStones$Wall" "standing" "[I", .fieldLink RX3 59 "WallStones$Wall" "levelNow" "I", .methodLink RX3 49 yJ6_bitCount_0f7a4, .static yJ6_bitCount_0f7a4, .initialized RJ6, .code yJ6_bitCount_0f7a4 cJ6_bitCount_0f7a4 1 (some .int), .constant RJ6 265 (1431655765), .constant RJ6 266 (858993459), .constant RJ6 267 (252645135)] ++ wsX30)
def wsX3_openColumns : List Cond := .code yX3_openColumns cX3_openColumns 3 (some .int) :: ([.fieldLink RX3 28 "WallStones$Wall" "columns" "I", .methodLink RX3 62 yX3_isOpen, .instanceMethod yX3_isOpen, .selects RX3 yX3_isOpen yX3_isOpen, .initialized RX3, .code yX3_isOpen cX3_isOpen 2 (some .boolean), .fieldLink RX3 15 "WallStones$Wall" "standing" "[I", .fieldLink RX3 59 "WallStones$Wall" "levelNow" "I", .methodLink RX3 49 yJ6_bitCount_0f7a4, .static yJ6_bitCount_0f7a4, .initialized RJ6, .code yJ6_bitCount_0f7a4 cJ6_bitCount_0f7a4 1 (some .int), .constant RJ6 265 (1431655765), .constant RJ6 266 (858993459), .constant RJ6 267 (252645135)] ++ wsX30)
def wsX3_standingCells : List Cond := .code yX3_standingCells cX3_standingCells 3 (some .int) :: ([.fieldLink RX3 28 "WallStones$Wall" "columns" "I", .fieldLink RX3 15 "WallStones$Wall" "standing" "[I", .methodLink RX3 49 yJ6_bitCount_0f7a4, .static yJ6_bitCount_0f7a4, .initialized RJ6, .code yJ6_bitCount_0f7a4 cJ6_bitCount_0f7a4 1 (some .int), .constant RJ6 265 (1431655765), .constant RJ6 266 (858993459), .constant RJ6 267 (252645135)] ++ wsX30)
def wsX3_hitsToKeep : List Cond := .code yX3_hitsToKeep cX3_hitsToKeep 8 (some .int) :: ([.fieldLink RX3 32 "WallStones$Wall" "rows" "I", .fieldLink RX3 18 "WallStones$Wall" "propped" "[I", .constant RX3 73 (1000000), .fieldLink RX3 15 "WallStones$Wall" "standing" "[I", .fieldLink RX3 11 "WallStones$Wall" "strengths" "[I", .methodLink RX3 39 yX3_holds, .static yX3_holds, .initialized RX3, .code yX3_holds cX3_holds 2 (some .boolean), .methodLink RX3 42 yX3_place, .static yX3_place, .code yX3_place cX3_place 2 (some .int), .static yX4_up, .initialized RX4, .code yX4_up cX4_up 4 (some .long), .methodLink RX4 223 yJ9_floorDiv_f86c9, .static yJ9_floorDiv_f86c9, .initialized RJ9, .code yJ9_floorDiv_f86c9 cJ9_floorDiv_f86c9 6 (some .long)] ++ wsX30)
def wsX3_hitsToOpen_r1 : List Cond := [Cond.fieldLink RX3 28 "WallStones$Wall" "columns" "I", Cond.constant RX3 73 (1000000), Cond.fieldLink RX3 32 "WallStones$Wall" "rows" "I", Cond.fieldLink RX3 15 "WallStones$Wall" "standing" "[I", Cond.fieldLink RX3 59 "WallStones$Wall" "levelNow" "I", Cond.methodLink RX3 78 Lib.Math.min.name, Cond.static Lib.Math.min.name, Cond.initialized "java/lang/Math", Cond.code Lib.Math.min.name Lib.Math.min.code 2 (some .int), Cond.static yX4_within, Cond.initialized RX4, Cond.code yX4_within cX4_within 3 (some .boolean), Cond.methodLink RX3 49 yJ6_bitCount_0f7a4, Cond.static yJ6_bitCount_0f7a4, Cond.initialized RJ6, Cond.code yJ6_bitCount_0f7a4 cJ6_bitCount_0f7a4 1 (some .int), Cond.constant RJ6 265 (1431655765), Cond.constant RJ6 266 (858993459), Cond.constant RJ6 267 (252645135), Cond.methodLink RX3 74 yX3_hitsToKeep, Cond.instanceMethod yX3_hitsToKeep, Cond.selects RX3 yX3_hitsToKeep yX3_hitsToKeep, Cond.initialized RX3, Cond.code yX3_hitsToKeep cX3_hitsToKeep 8 (some .int)]
def wsX3_hitsToOpen_r2 : List Cond := [Cond.fieldLink RX3 18 "WallStones$Wall" "propped" "[I", Cond.fieldLink RX3 11 "WallStones$Wall" "strengths" "[I", Cond.methodLink RX3 39 yX3_holds, Cond.static yX3_holds, Cond.code yX3_holds cX3_holds 2 (some .boolean), Cond.methodLink RX3 42 yX3_place, Cond.static yX3_place, Cond.code yX3_place cX3_place 2 (some .int), Cond.static yX4_up, Cond.code yX4_up cX4_up 4 (some .long), Cond.methodLink RX4 223 yJ9_floorDiv_f86c9, Cond.static yJ9_floorDiv_f86c9, Cond.initialized RJ9, Cond.code yJ9_floorDiv_f86c9 cJ9_floorDiv_f86c9 6 (some .long)]
def wsX3_hitsToOpen : List Cond := .code yX3_hitsToOpen cX3_hitsToOpen 6 (some .int) :: ((wsX3_hitsToOpen_r1 ++ wsX3_hitsToOpen_r2) ++ wsX30)
def wsX3_soonestColumn_r1 : List Cond := [Cond.fieldLink RX3 28 "WallStones$Wall" "columns" "I", Cond.methodLink RX3 66 yX3_hitsToOpen, Cond.instanceMethod yX3_hitsToOpen, Cond.selects RX3 yX3_hitsToOpen yX3_hitsToOpen, Cond.initialized RX3, Cond.code yX3_hitsToOpen cX3_hitsToOpen 6 (some .int), Cond.constant RX3 73 (1000000), Cond.fieldLink RX3 32 "WallStones$Wall" "rows" "I", Cond.fieldLink RX3 15 "WallStones$Wall" "standing" "[I", Cond.fieldLink RX3 59 "WallStones$Wall" "levelNow" "I", Cond.methodLink RX3 78 Lib.Math.min.name, Cond.static Lib.Math.min.name, Cond.initialized "java/lang/Math", Cond.code Lib.Math.min.name Lib.Math.min.code 2 (some .int), Cond.static yX4_within, Cond.initialized RX4, Cond.code yX4_within cX4_within 3 (some .boolean), Cond.methodLink RX3 49 yJ6_bitCount_0f7a4, Cond.static yJ6_bitCount_0f7a4, Cond.initialized RJ6, Cond.code yJ6_bitCount_0f7a4 cJ6_bitCount_0f7a4 1 (some .int), Cond.constant RJ6 265 (1431655765), Cond.constant RJ6 266 (858993459), Cond.constant RJ6 267 (252645135)]
def wsX3_soonestColumn_r2 : List Cond := [Cond.methodLink RX3 74 yX3_hitsToKeep, Cond.instanceMethod yX3_hitsToKeep, Cond.selects RX3 yX3_hitsToKeep yX3_hitsToKeep, Cond.code yX3_hitsToKeep cX3_hitsToKeep 8 (some .int), Cond.fieldLink RX3 18 "WallStones$Wall" "propped" "[I", Cond.fieldLink RX3 11 "WallStones$Wall" "strengths" "[I", Cond.methodLink RX3 39 yX3_holds, Cond.static yX3_holds, Cond.code yX3_holds cX3_holds 2 (some .boolean), Cond.methodLink RX3 42 yX3_place, Cond.static yX3_place, Cond.code yX3_place cX3_place 2 (some .int), Cond.static yX4_up, Cond.code yX4_up cX4_up 4 (some .long), Cond.methodLink RX4 223 yJ9_floorDiv_f86c9, Cond.static yJ9_floorDiv_f86c9, Cond.initialized RJ9, Cond.code yJ9_floorDiv_f86c9 cJ9_floorDiv_f86c9 6 (some .long)]
def wsX3_soonestColumn : List Cond := .code yX3_soonestColumn cX3_soonestColumn 4 (some .int) :: ((wsX3_soonestColumn_r1 ++ wsX3_soonestColumn_r2) ++ wsX30)
def wsX3_weightPlace : List Cond := .code yX3_weightPlace cX3_weightPlace 2 (some .int) :: ([])
def wsX3_putWeight : List Cond := .code yX3_putWeight cX3_putWeight 6 (some .int) :: ([.fieldLink RX3 21 "WallStones$Wall" "weights" "[I", .methodLink RX3 87 yX3_weightPlace, .static yX3_weightPlace, .initialized RX3, .code yX3_weightPlace cX3_weightPlace 2 (some .int), .static yX4_within, .initialized RX4, .code yX4_within cX4_within 3 (some .boolean)] ++ wsX30)
def wsX3_fallsBy_r1 : List Cond := [Cond.fieldLink RX3 15 "WallStones$Wall" "standing" "[I", Cond.fieldLink RX3 18 "WallStones$Wall" "propped" "[I", Cond.fieldLink RX3 11 "WallStones$Wall" "strengths" "[I", Cond.methodLink RX3 46 yX3_stands, Cond.instanceMethod yX3_stands, Cond.selects RX3 yX3_stands yX3_stands, Cond.initialized RX3, Cond.code yX3_stands cX3_stands 3 (some .boolean), Cond.methodLink RX3 35 yX3_has, Cond.instanceMethod yX3_has, Cond.selects RX3 yX3_has yX3_has, Cond.code yX3_has cX3_has 3 (some .boolean), Cond.fieldLink RX3 28 "WallStones$Wall" "columns" "I", Cond.fieldLink RX3 32 "WallStones$Wall" "rows" "I", Cond.methodLink RX3 39 yX3_holds, Cond.static yX3_holds, Cond.code yX3_holds cX3_holds 2 (some .boolean), Cond.methodLink RX3 42 yX3_place, Cond.static yX3_place, Cond.code yX3_place cX3_place 2 (some .int), Cond.methodLink RX3 93 yX3_strike, Cond.instanceMethod yX3_strike, Cond.selects RX3 yX3_strike yX3_strike, Cond.code yX3_strike cX3_strike 6 (some .int)]
def wsX3_fallsBy_r2 : List Cond := [Cond.methodLink RX3 49 yJ6_bitCount_0f7a4, Cond.static yJ6_bitCount_0f7a4, Cond.initialized RJ6, Cond.code yJ6_bitCount_0f7a4 cJ6_bitCount_0f7a4 1 (some .int), Cond.constant RJ6 265 (1431655765), Cond.constant RJ6 266 (858993459), Cond.constant RJ6 267 (252645135), Cond.methodLink RX3 55 yX3_dropUnheld, Cond.instanceMethod yX3_dropUnheld, Cond.selects RX3 yX3_dropUnheld yX3_dropUnheld, Cond.code yX3_dropUnheld cX3_dropUnheld 3 none]
def wsX3_fallsBy : List Cond := .code yX3_fallsBy cX3_fallsBy 8 (some .int) :: ((wsX3_fallsBy_r1 ++ wsX3_fallsBy_r2) ++ wsX30)
def wsX3_worthOf_r1 : List Cond := [Cond.fieldLink RX3 21 "WallStones$Wall" "weights" "[I", Cond.methodLink RX3 87 yX3_weightPlace, Cond.static yX3_weightPlace, Cond.initialized RX3, Cond.code yX3_weightPlace cX3_weightPlace 2 (some .int), Cond.methodLink RX3 90 yX3_fallsBy, Cond.instanceMethod yX3_fallsBy, Cond.selects RX3 yX3_fallsBy yX3_fallsBy, Cond.code yX3_fallsBy cX3_fallsBy 8 (some .int), Cond.fieldLink RX3 15 "WallStones$Wall" "standing" "[I", Cond.fieldLink RX3 18 "WallStones$Wall" "propped" "[I", Cond.fieldLink RX3 11 "WallStones$Wall" "strengths" "[I", Cond.methodLink RX3 46 yX3_stands, Cond.instanceMethod yX3_stands, Cond.selects RX3 yX3_stands yX3_stands, Cond.code yX3_stands cX3_stands 3 (some .boolean), Cond.methodLink RX3 35 yX3_has, Cond.instanceMethod yX3_has, Cond.selects RX3 yX3_has yX3_has, Cond.code yX3_has cX3_has 3 (some .boolean), Cond.fieldLink RX3 28 "WallStones$Wall" "columns" "I", Cond.fieldLink RX3 32 "WallStones$Wall" "rows" "I", Cond.methodLink RX3 39 yX3_holds, Cond.static yX3_holds]
def wsX3_worthOf_r2 : List Cond := [Cond.code yX3_holds cX3_holds 2 (some .boolean), Cond.methodLink RX3 42 yX3_place, Cond.static yX3_place, Cond.code yX3_place cX3_place 2 (some .int), Cond.methodLink RX3 93 yX3_strike, Cond.instanceMethod yX3_strike, Cond.selects RX3 yX3_strike yX3_strike, Cond.code yX3_strike cX3_strike 6 (some .int), Cond.methodLink RX3 49 yJ6_bitCount_0f7a4, Cond.static yJ6_bitCount_0f7a4, Cond.initialized RJ6, Cond.code yJ6_bitCount_0f7a4 cJ6_bitCount_0f7a4 1 (some .int), Cond.constant RJ6 265 (1431655765), Cond.constant RJ6 266 (858993459), Cond.constant RJ6 267 (252645135), Cond.methodLink RX3 55 yX3_dropUnheld, Cond.instanceMethod yX3_dropUnheld, Cond.selects RX3 yX3_dropUnheld yX3_dropUnheld, Cond.code yX3_dropUnheld cX3_dropUnheld 3 none]
def wsX3_worthOf : List Cond := .code yX3_worthOf cX3_worthOf 7 (some .int) :: ((wsX3_worthOf_r1 ++ wsX3_worthOf_r2) ++ wsX30)
def wsX3_columnOf : List Cond := .code yX3_columnOf cX3_columnOf 2 (some .int) :: ([.fieldLink RX3 28 "WallStones$Wall" "columns" "I"] ++ wsX30)
def wsX3_rowOf : List Cond := .code yX3_rowOf cX3_rowOf 2 (some .int) :: ([.fieldLink RX3 28 "WallStones$Wall" "columns" "I"] ++ wsX30)
def wsX3_bestAim_r1 : List Cond := [Cond.fieldLink RX3 28 "WallStones$Wall" "columns" "I", Cond.fieldLink RX3 32 "WallStones$Wall" "rows" "I", Cond.methodLink RX3 96 yX3_columnOf, Cond.instanceMethod yX3_columnOf, Cond.selects RX3 yX3_columnOf yX3_columnOf, Cond.initialized RX3, Cond.code yX3_columnOf cX3_columnOf 2 (some .int), Cond.methodLink RX3 99 yX3_rowOf, Cond.instanceMethod yX3_rowOf, Cond.selects RX3 yX3_rowOf yX3_rowOf, Cond.code yX3_rowOf cX3_rowOf 2 (some .int), Cond.methodLink RX3 102 yX3_worthOf, Cond.instanceMethod yX3_worthOf, Cond.selects RX3 yX3_worthOf yX3_worthOf, Cond.code yX3_worthOf cX3_worthOf 7 (some .int), Cond.fieldLink RX3 21 "WallStones$Wall" "weights" "[I", Cond.methodLink RX3 87 yX3_weightPlace, Cond.static yX3_weightPlace, Cond.code yX3_weightPlace cX3_weightPlace 2 (some .int), Cond.methodLink RX3 90 yX3_fallsBy, Cond.instanceMethod yX3_fallsBy, Cond.selects RX3 yX3_fallsBy yX3_fallsBy, Cond.code yX3_fallsBy cX3_fallsBy 8 (some .int), Cond.fieldLink RX3 15 "WallStones$Wall" "standing" "[I"]
def wsX3_bestAim_r2 : List Cond := [Cond.fieldLink RX3 18 "WallStones$Wall" "propped" "[I", Cond.fieldLink RX3 11 "WallStones$Wall" "strengths" "[I", Cond.methodLink RX3 46 yX3_stands, Cond.instanceMethod yX3_stands, Cond.selects RX3 yX3_stands yX3_stands, Cond.code yX3_stands cX3_stands 3 (some .boolean), Cond.methodLink RX3 35 yX3_has, Cond.instanceMethod yX3_has, Cond.selects RX3 yX3_has yX3_has, Cond.code yX3_has cX3_has 3 (some .boolean), Cond.methodLink RX3 39 yX3_holds, Cond.static yX3_holds, Cond.code yX3_holds cX3_holds 2 (some .boolean), Cond.methodLink RX3 42 yX3_place, Cond.static yX3_place, Cond.code yX3_place cX3_place 2 (some .int), Cond.methodLink RX3 93 yX3_strike, Cond.instanceMethod yX3_strike, Cond.selects RX3 yX3_strike yX3_strike, Cond.code yX3_strike cX3_strike 6 (some .int), Cond.methodLink RX3 49 yJ6_bitCount_0f7a4, Cond.static yJ6_bitCount_0f7a4, Cond.initialized RJ6, Cond.code yJ6_bitCount_0f7a4 cJ6_bitCount_0f7a4 1 (some .int)]
def wsX3_bestAim_r3 : List Cond := [Cond.constant RJ6 265 (1431655765), Cond.constant RJ6 266 (858993459), Cond.constant RJ6 267 (252645135), Cond.methodLink RX3 55 yX3_dropUnheld, Cond.instanceMethod yX3_dropUnheld, Cond.selects RX3 yX3_dropUnheld yX3_dropUnheld, Cond.code yX3_dropUnheld cX3_dropUnheld 3 none]
def wsX3_bestAim : List Cond := .code yX3_bestAim cX3_bestAim 6 (some .int) :: ((wsX3_bestAim_r1 ++ (wsX3_bestAim_r2 ++ wsX3_bestAim_r3)) ++ wsX30)
def wsX3_heldAfter_r1 : List Cond := [Cond.fieldLink RX3 21 "WallStones$Wall" "weights" "[I", Cond.methodLink RX3 105 yX3_heldBy, Cond.static yX3_heldBy, Cond.initialized RX3, Cond.code yX3_heldBy cX3_heldBy 13 (some .long), Cond.fieldLink RX3 15 "WallStones$Wall" "standing" "[I", Cond.fieldLink RX3 18 "WallStones$Wall" "propped" "[I", Cond.fieldLink RX3 11 "WallStones$Wall" "strengths" "[I", Cond.methodLink RX3 46 yX3_stands, Cond.instanceMethod yX3_stands, Cond.selects RX3 yX3_stands yX3_stands, Cond.code yX3_stands cX3_stands 3 (some .boolean), Cond.methodLink RX3 35 yX3_has, Cond.instanceMethod yX3_has, Cond.selects RX3 yX3_has yX3_has, Cond.code yX3_has cX3_has 3 (some .boolean), Cond.fieldLink RX3 28 "WallStones$Wall" "columns" "I", Cond.fieldLink RX3 32 "WallStones$Wall" "rows" "I", Cond.methodLink RX3 39 yX3_holds, Cond.static yX3_holds, Cond.code yX3_holds cX3_holds 2 (some .boolean), Cond.methodLink RX3 109 yX3_heldAfter, Cond.static yX3_heldAfter, Cond.methodLink RX3 42 yX3_place]
def wsX3_heldAfter_r2 : List Cond := [Cond.static yX3_place, Cond.code yX3_place cX3_place 2 (some .int), Cond.methodLink RX3 93 yX3_strike, Cond.instanceMethod yX3_strike, Cond.selects RX3 yX3_strike yX3_strike, Cond.code yX3_strike cX3_strike 6 (some .int), Cond.methodLink RX3 49 yJ6_bitCount_0f7a4, Cond.static yJ6_bitCount_0f7a4, Cond.initialized RJ6, Cond.code yJ6_bitCount_0f7a4 cJ6_bitCount_0f7a4 1 (some .int), Cond.constant RJ6 265 (1431655765), Cond.constant RJ6 266 (858993459), Cond.constant RJ6 267 (252645135), Cond.methodLink RX3 55 yX3_dropUnheld, Cond.instanceMethod yX3_dropUnheld, Cond.selects RX3 yX3_dropUnheld yX3_dropUnheld, Cond.code yX3_dropUnheld cX3_dropUnheld 3 none, Cond.methodLink RX3 62 yX3_isOpen, Cond.instanceMethod yX3_isOpen, Cond.selects RX3 yX3_isOpen yX3_isOpen, Cond.code yX3_isOpen cX3_isOpen 2 (some .boolean), Cond.fieldLink RX3 59 "WallStones$Wall" "levelNow" "I"]
def wsX3_heldAfter : List Cond := .code yX3_heldAfter cX3_heldAfter 8 (some .long) :: ((wsX3_heldAfter_r1 ++ wsX3_heldAfter_r2) ++ wsX30)
def wsX3_heldBy_r1 : List Cond := [Cond.fieldLink RX3 15 "WallStones$Wall" "standing" "[I", Cond.fieldLink RX3 18 "WallStones$Wall" "propped" "[I", Cond.fieldLink RX3 11 "WallStones$Wall" "strengths" "[I", Cond.methodLink RX3 46 yX3_stands, Cond.instanceMethod yX3_stands, Cond.selects RX3 yX3_stands yX3_stands, Cond.initialized RX3, Cond.code yX3_stands cX3_stands 3 (some .boolean), Cond.methodLink RX3 35 yX3_has, Cond.instanceMethod yX3_has, Cond.selects RX3 yX3_has yX3_has, Cond.code yX3_has cX3_has 3 (some .boolean), Cond.fieldLink RX3 28 "WallStones$Wall" "columns" "I", Cond.fieldLink RX3 32 "WallStones$Wall" "rows" "I", Cond.methodLink RX3 39 yX3_holds, Cond.static yX3_holds, Cond.code yX3_holds cX3_holds 2 (some .boolean), Cond.methodLink RX3 109 yX3_heldAfter, Cond.static yX3_heldAfter, Cond.methodLink RX3 42 yX3_place, Cond.static yX3_place, Cond.code yX3_place cX3_place 2 (some .int), Cond.methodLink RX3 93 yX3_strike, Cond.instanceMethod yX3_strike]
def wsX3_heldBy_r2 : List Cond := [Cond.selects RX3 yX3_strike yX3_strike, Cond.code yX3_strike cX3_strike 6 (some .int), Cond.methodLink RX3 49 yJ6_bitCount_0f7a4, Cond.static yJ6_bitCount_0f7a4, Cond.initialized RJ6, Cond.code yJ6_bitCount_0f7a4 cJ6_bitCount_0f7a4 1 (some .int), Cond.constant RJ6 265 (1431655765), Cond.constant RJ6 266 (858993459), Cond.constant RJ6 267 (252645135), Cond.methodLink RX3 55 yX3_dropUnheld, Cond.instanceMethod yX3_dropUnheld, Cond.selects RX3 yX3_dropUnheld yX3_dropUnheld, Cond.code yX3_dropUnheld cX3_dropUnheld 3 none, Cond.methodLink RX3 62 yX3_isOpen, Cond.instanceMethod yX3_isOpen, Cond.selects RX3 yX3_isOpen yX3_isOpen, Cond.code yX3_isOpen cX3_isOpen 2 (some .boolean), Cond.fieldLink RX3 59 "WallStones$Wall" "levelNow" "I", Cond.code yX3_heldAfter cX3_heldAfter 8 (some .long), Cond.fieldLink RX3 21 "WallStones$Wall" "weights" "[I", Cond.methodLink RX3 105 yX3_heldBy, Cond.static yX3_heldBy]
def wsX3_heldBy : List Cond := .code yX3_heldBy cX3_heldBy 13 (some .long) :: ((wsX3_heldBy_r1 ++ wsX3_heldBy_r2) ++ wsX30)
def wsX4_init_r1 : List Cond := [Cond.methodLink RX4 1 objectInit, Cond.instanceMethod objectInit, Cond.code objectInit ⟨#[0xb1]⟩ 1 none, Cond.classLink RX4 7 RX1, Cond.instantiable RX1 6, Cond.initialized RX1, Cond.fieldLink RX4 10 "WallStones" "engine" "LWallStones$Machine;", Cond.classLink RX4 16 RX0, Cond.instantiable RX0 7, Cond.initialized RX0, Cond.fieldLink RX4 19 "WallStones" "book" "LWallStones$Book;", Cond.classLink RX4 23 RX3, Cond.instantiable RX3 7, Cond.initialized RX3, Cond.fieldLink RX4 26 "WallStones" "stones" "LWallStones$Wall;", Cond.classLink RX4 30 RX2, Cond.instantiable RX2 3, Cond.initialized RX2, Cond.fieldLink RX4 33 "WallStones" "siege" "LWallStones$Siege;", Cond.fieldLink RX4 37 "WallStones" "handling" "I", Cond.methodLink RX4 9 yX1_init, Cond.instanceMethod yX1_init, Cond.code yX1_init cX1_init 1 none, Cond.methodLink RX1 5 objectInit]
def wsX4_init_r2 : List Cond := [Cond.arrayClass .int, Cond.fieldLink RX1 11 "WallStones$Machine" "number" "[I", Cond.fieldLink RX1 15 "WallStones$Machine" "given" "[I", Cond.fieldLink RX1 18 "WallStones$Machine" "reckoning" "[I", Cond.fieldLink RX1 21 "WallStones$Machine" "tuning" "[I", Cond.methodLink RX1 24 yX1_turnBeam, Cond.instanceMethod yX1_turnBeam, Cond.selects RX1 yX1_turnBeam yX1_turnBeam, Cond.code yX1_turnBeam cX1_turnBeam 6 none, Cond.fieldLink RX1 49 "WallStones$Machine" "stallTurn" "I", Cond.constantLong RX1 52 (1000), Cond.static yX4_sineOf, Cond.initialized RX4, Cond.code yX4_sineOf cX4_sineOf 5 (some .int), Cond.methodLink RX4 189 Lib.Math.abs.name, Cond.static Lib.Math.abs.name, Cond.initialized "java/lang/Math", Cond.code Lib.Math.abs.name Lib.Math.abs.code 1 (some .int), Cond.constantLong RX4 227 (4000), Cond.constantLong RX4 229 (40500), Cond.methodLink RX4 231 yX4_down, Cond.static yX4_down, Cond.code yX4_down cX4_down 4 (some .long), Cond.methodLink RX4 223 yJ9_floorDiv_f86c9]
def wsX4_init_r3 : List Cond := [Cond.static yJ9_floorDiv_f86c9, Cond.initialized RJ9, Cond.code yJ9_floorDiv_f86c9 cJ9_floorDiv_f86c9 6 (some .long), Cond.methodLink RX4 18 yX0_init, Cond.instanceMethod yX0_init, Cond.code yX0_init cX0_init 1 none, Cond.methodLink RX0 3 objectInit, Cond.fieldLink RX0 11 "WallStones$Book" "ranges" "[I", Cond.fieldLink RX0 17 "WallStones$Book" "shotHook" "[I", Cond.fieldLink RX0 20 "WallStones$Book" "shotFell" "[I", Cond.fieldLink RX0 23 "WallStones$Book" "leastDrift" "[I", Cond.fieldLink RX0 26 "WallStones$Book" "greatestDrift" "[I", Cond.fieldLink RX0 29 "WallStones$Book" "spreadNow" "I", Cond.methodLink RX4 25 yX3_init, Cond.instanceMethod yX3_init, Cond.code yX3_init cX3_init 1 none, Cond.methodLink RX3 3 objectInit, Cond.fieldLink RX3 11 "WallStones$Wall" "strengths" "[I", Cond.fieldLink RX3 15 "WallStones$Wall" "standing" "[I", Cond.fieldLink RX3 18 "WallStones$Wall" "propped" "[I", Cond.fieldLink RX3 21 "WallStones$Wall" "weights" "[I", Cond.methodLink RX3 24 yX3_build, Cond.instanceMethod yX3_build, Cond.selects RX3 yX3_build yX3_build]
def wsX4_init_r4 : List Cond := [Cond.code yX3_build cX3_build 4 none, Cond.fieldLink RX3 28 "WallStones$Wall" "columns" "I", Cond.fieldLink RX3 32 "WallStones$Wall" "rows" "I", Cond.methodLink RX4 32 yX2_init, Cond.instanceMethod yX2_init, Cond.code yX2_init cX2_init 1 none, Cond.methodLink RX2 3 objectInit, Cond.fieldLink RX2 9 "WallStones$Siege" "stored" "[I", Cond.fieldLink RX2 15 "WallStones$Siege" "wetRow" "I"]
def wsX4_init : List Cond := .code yX4_init cX4_init 1 none :: ((wsX4_init_r1 ++ (wsX4_init_r2 ++ (wsX4_init_r3 ++ wsX4_init_r4))) ++ wsX10 ++ wsX40 ++ wsX00 ++ wsX30 ++ wsX20)
def wsX4_set_r1 : List Cond := [Cond.fieldLink RX4 10 "WallStones" "engine" "LWallStones$Machine;", Cond.fieldLink RX4 37 "WallStones" "handling" "I", Cond.methodLink RX4 41 yX1_takes, Cond.instanceMethod yX1_takes, Cond.selects RX1 yX1_takes yX1_takes, Cond.initialized RX1, Cond.code yX1_takes cX1_takes 3 (some .boolean), Cond.fieldLink RX1 31 "WallStones$Machine" "LEAST" "[I", Cond.fieldLink RX1 34 "WallStones$Machine" "MOST" "[I", Cond.static yX4_within, Cond.initialized RX4, Cond.code yX4_within cX4_within 3 (some .boolean), Cond.methodLink RX4 45 yX1_put, Cond.instanceMethod yX1_put, Cond.selects RX1 yX1_put yX1_put, Cond.code yX1_put cX1_put 4 (some .int), Cond.fieldLink RX1 11 "WallStones$Machine" "number" "[I", Cond.methodLink RX1 37 yX1_takes, Cond.methodLink RX1 24 yX1_turnBeam, Cond.instanceMethod yX1_turnBeam, Cond.selects RX1 yX1_turnBeam yX1_turnBeam, Cond.code yX1_turnBeam cX1_turnBeam 6 none, Cond.fieldLink RX1 49 "WallStones$Machine" "stallTurn" "I", Cond.fieldLink RX1 15 "WallStones$Machine" "given" "[I"]
def wsX4_set_r2 : List Cond := [Cond.constantLong RX1 52 (1000), Cond.static yX4_sineOf, Cond.code yX4_sineOf cX4_sineOf 5 (some .int), Cond.methodLink RX4 189 Lib.Math.abs.name, Cond.static Lib.Math.abs.name, Cond.initialized "java/lang/Math", Cond.code Lib.Math.abs.name Lib.Math.abs.code 1 (some .int), Cond.constantLong RX4 227 (4000), Cond.constantLong RX4 229 (40500), Cond.methodLink RX4 231 yX4_down, Cond.static yX4_down, Cond.code yX4_down cX4_down 4 (some .long), Cond.methodLink RX4 223 yJ9_floorDiv_f86c9, Cond.static yJ9_floorDiv_f86c9, Cond.initialized RJ9, Cond.code yJ9_floorDiv_f86c9 cJ9_floorDiv_f86c9 6 (some .long)]
def wsX4_set : List Cond := .code yX4_set cX4_set 3 (some .int) :: ((wsX4_set_r1 ++ wsX4_set_r2) ++ wsX40 ++ wsX10)
def wsX4_wind : List Cond := .code yX4_wind cX4_wind 2 (some .int) :: ([.fieldLink RX4 10 "WallStones" "engine" "LWallStones$Machine;", .methodLink RX4 49 yX4_within, .static yX4_within, .initialized RX4, .code yX4_within cX4_within 3 (some .boolean), .methodLink RX4 53 yX1_putWind, .instanceMethod yX1_putWind, .selects RX1 yX1_putWind yX1_putWind, .initialized RX1, .code yX1_putWind cX1_putWind 3 (some .int), .fieldLink RX1 41 "WallStones$Machine" "windNow" "I"] ++ wsX40 ++ wsX10)
def wsX4_sine : List Cond := .code yX4_sine cX4_sine 2 (some .int) :: ([.methodLink RX4 49 yX4_within, .static yX4_within, .initialized RX4, .code yX4_within cX4_within 3 (some .boolean), .methodLink RX4 57 yX4_sineOf, .static yX4_sineOf, .code yX4_sineOf cX4_sineOf 5 (some .int), .methodLink RX4 189 Lib.Math.abs.name, .static Lib.Math.abs.name, .initialized "java/lang/Math", .code Lib.Math.abs.name Lib.Math.abs.code 1 (some .int), .constantLong RX4 227 (4000), .constantLong RX4 229 (40500), .methodLink RX4 231 yX4_down, .static yX4_down, .code yX4_down cX4_down 4 (some .long), .methodLink RX4 223 yJ9_floorDiv_f86c9, .static yJ9_floorDiv_f86c9, .initialized RJ9, .code yJ9_floorDiv_f86c9 cJ9_floorDiv_f86c9 6 (some .long)])
def wsX4_throwing_r1 : List Cond := [Cond.fieldLink RX4 10 "WallStones" "engine" "LWallStones$Machine;", Cond.methodLink RX4 49 yX4_within, Cond.static yX4_within, Cond.initialized RX4, Cond.code yX4_within cX4_within 3 (some .boolean), Cond.methodLink RX4 60 yX1_reckonOwn, Cond.instanceMethod yX1_reckonOwn, Cond.selects RX1 yX1_reckonOwn yX1_reckonOwn, Cond.initialized RX1, Cond.code yX1_reckonOwn cX1_reckonOwn 1 (some .int), Cond.fieldLink RX1 11 "WallStones$Machine" "number" "[I", Cond.methodLink RX1 67 yX1_reckon, Cond.instanceMethod yX1_reckon, Cond.selects RX1 yX1_reckon yX1_reckon, Cond.code yX1_reckon cX1_reckon 4 (some .int), Cond.fieldLink RX1 18 "WallStones$Machine" "reckoning" "[I", Cond.fieldLink RX1 49 "WallStones$Machine" "stallTurn" "I", Cond.methodLink RX1 71 yX1_turnOfRelease, Cond.instanceMethod yX1_turnOfRelease, Cond.selects RX1 yX1_turnOfRelease yX1_turnOfRelease, Cond.code yX1_turnOfRelease cX1_turnOfRelease 7 (some .int), Cond.constantLong RX1 58 (100), Cond.constantLong RX1 60 (2), Cond.constantLong RX1 65 (160)]
def wsX4_throwing_r2 : List Cond := [Cond.static yX4_up, Cond.code yX4_up cX4_up 4 (some .long), Cond.methodLink RX4 223 yJ9_floorDiv_f86c9, Cond.static yJ9_floorDiv_f86c9, Cond.initialized RJ9, Cond.code yJ9_floorDiv_f86c9 cJ9_floorDiv_f86c9 6 (some .long), Cond.methodLink RX1 74 yX1_reckonRelease, Cond.instanceMethod yX1_reckonRelease, Cond.selects RX1 yX1_reckonRelease yX1_reckonRelease, Cond.code yX1_reckonRelease cX1_reckonRelease 10 none, Cond.fieldLink RX1 15 "WallStones$Machine" "given" "[I", Cond.constantLong RX1 82 (8000), Cond.fieldLink RX1 41 "WallStones$Machine" "windNow" "I", Cond.methodLink RX1 87 Lib.Math.max.name, Cond.static Lib.Math.max.name, Cond.initialized "java/lang/Math", Cond.code Lib.Math.max.name Lib.Math.max.code 2 (some .int), Cond.methodLink RX1 78 yX1_speedFor, Cond.instanceMethod yX1_speedFor, Cond.selects RX1 yX1_speedFor yX1_speedFor, Cond.code yX1_speedFor cX1_speedFor 9 (some .long), Cond.static yX4_down, Cond.code yX4_down cX4_down 4 (some .long), Cond.static yX4_sineOf]
def wsX4_throwing_r3 : List Cond := [Cond.code yX4_sineOf cX4_sineOf 5 (some .int), Cond.methodLink RX4 189 Lib.Math.abs.name, Cond.static Lib.Math.abs.name, Cond.code Lib.Math.abs.name Lib.Math.abs.code 1 (some .int), Cond.constantLong RX4 227 (4000), Cond.constantLong RX4 229 (40500), Cond.methodLink RX4 231 yX4_down, Cond.methodLink RX1 84 yX1_flightOf, Cond.instanceMethod yX1_flightOf, Cond.selects RX1 yX1_flightOf yX1_flightOf, Cond.code yX1_flightOf cX1_flightOf 5 (some .int), Cond.constantLong RX1 92 (20), Cond.constantLong RX1 94 (2000), Cond.methodLink RX1 96 Lib.MathLoose.max_long.x, Cond.static Lib.MathLoose.max_long.x, Cond.code Lib.MathLoose.max_long.x Lib.MathLoose.max_long.code 4 (some .long), Cond.constantLong RX1 98 (8), Cond.constantLong RX1 100 (25), Cond.constantLong RX1 102 (3), Cond.methodLink RX4 64 yX1_reckoned, Cond.instanceMethod yX1_reckoned, Cond.selects RX1 yX1_reckoned yX1_reckoned, Cond.code yX1_reckoned cX1_reckoned 2 (some .int)]
def wsX4_throwing : List Cond := .code yX4_throwing cX4_throwing 2 (some .int) :: ((wsX4_throwing_r1 ++ (wsX4_throwing_r2 ++ wsX4_throwing_r3)) ++ wsX40 ++ wsX10)
def wsX4_flight_r1 : List Cond := [Cond.fieldLink RX4 67 "WallStones" "traced" "J", Cond.fieldLink RX4 10 "WallStones" "engine" "LWallStones$Machine;", Cond.methodLink RX4 49 yX4_within, Cond.static yX4_within, Cond.initialized RX4, Cond.code yX4_within cX4_within 3 (some .boolean), Cond.methodLink RX4 71 yX1_bodiesAsked, Cond.static yX1_bodiesAsked, Cond.initialized RX1, Cond.code yX1_bodiesAsked cX1_bodiesAsked 1 (some .int), Cond.methodLink RX4 74 yX1_flightOf, Cond.instanceMethod yX1_flightOf, Cond.selects RX1 yX1_flightOf yX1_flightOf, Cond.code yX1_flightOf cX1_flightOf 5 (some .int), Cond.constantLong RX1 92 (20), Cond.fieldLink RX1 11 "WallStones$Machine" "number" "[I", Cond.constantLong RX1 94 (2000), Cond.methodLink RX1 96 Lib.MathLoose.max_long.x, Cond.static Lib.MathLoose.max_long.x, Cond.initialized "java/lang/Math", Cond.code Lib.MathLoose.max_long.x Lib.MathLoose.max_long.code 4 (some .long), Cond.constantLong RX1 98 (8), Cond.constantLong RX1 60 (2), Cond.constantLong RX1 100 (25)]
def wsX4_flight_r2 : List Cond := [Cond.constantLong RX1 102 (3), Cond.static yX4_down, Cond.code yX4_down cX4_down 4 (some .long), Cond.methodLink RX4 223 yJ9_floorDiv_f86c9, Cond.static yJ9_floorDiv_f86c9, Cond.initialized RJ9, Cond.code yJ9_floorDiv_f86c9 cJ9_floorDiv_f86c9 6 (some .long), Cond.static yX4_up, Cond.code yX4_up cX4_up 4 (some .long)]
def wsX4_flight : List Cond := .code yX4_flight cX4_flight 3 (some .int) :: ((wsX4_flight_r1 ++ wsX4_flight_r2) ++ wsX40 ++ wsX10)
def wsX4_tune_r1 : List Cond := [Cond.fieldLink RX4 10 "WallStones" "engine" "LWallStones$Machine;", Cond.methodLink RX4 41 yX1_takes, Cond.instanceMethod yX1_takes, Cond.selects RX1 yX1_takes yX1_takes, Cond.initialized RX1, Cond.code yX1_takes cX1_takes 3 (some .boolean), Cond.fieldLink RX1 31 "WallStones$Machine" "LEAST" "[I", Cond.fieldLink RX1 34 "WallStones$Machine" "MOST" "[I", Cond.static yX4_within, Cond.initialized RX4, Cond.code yX4_within cX4_within 3 (some .boolean), Cond.methodLink RX4 49 yX4_within, Cond.methodLink RX4 77 yX1_tuneTo, Cond.instanceMethod yX1_tuneTo, Cond.selects RX1 yX1_tuneTo yX1_tuneTo, Cond.code yX1_tuneTo cX1_tuneTo 9 none, Cond.constant RX1 109 (2147483647), Cond.methodLink RX1 110 Lib.Math.abs.name, Cond.static Lib.Math.abs.name, Cond.initialized "java/lang/Math", Cond.code Lib.Math.abs.name Lib.Math.abs.code 1 (some .int), Cond.methodLink RX1 104 yX1_keepTuning, Cond.instanceMethod yX1_keepTuning, Cond.selects RX1 yX1_keepTuning yX1_keepTuning]
def wsX4_tune_r2 : List Cond := [Cond.code yX1_keepTuning cX1_keepTuning 4 none, Cond.fieldLink RX1 21 "WallStones$Machine" "tuning" "[I", Cond.methodLink RX1 67 yX1_reckon, Cond.instanceMethod yX1_reckon, Cond.selects RX1 yX1_reckon yX1_reckon, Cond.code yX1_reckon cX1_reckon 4 (some .int), Cond.fieldLink RX1 18 "WallStones$Machine" "reckoning" "[I", Cond.fieldLink RX1 49 "WallStones$Machine" "stallTurn" "I", Cond.methodLink RX1 71 yX1_turnOfRelease, Cond.instanceMethod yX1_turnOfRelease, Cond.selects RX1 yX1_turnOfRelease yX1_turnOfRelease, Cond.code yX1_turnOfRelease cX1_turnOfRelease 7 (some .int), Cond.constantLong RX1 58 (100), Cond.constantLong RX1 60 (2), Cond.fieldLink RX1 11 "WallStones$Machine" "number" "[I", Cond.constantLong RX1 65 (160), Cond.static yX4_up, Cond.code yX4_up cX4_up 4 (some .long), Cond.methodLink RX4 223 yJ9_floorDiv_f86c9, Cond.static yJ9_floorDiv_f86c9, Cond.initialized RJ9, Cond.code yJ9_floorDiv_f86c9 cJ9_floorDiv_f86c9 6 (some .long), Cond.methodLink RX1 74 yX1_reckonRelease, Cond.instanceMethod yX1_reckonRelease]
def wsX4_tune_r3 : List Cond := [Cond.selects RX1 yX1_reckonRelease yX1_reckonRelease, Cond.code yX1_reckonRelease cX1_reckonRelease 10 none, Cond.fieldLink RX1 15 "WallStones$Machine" "given" "[I", Cond.constantLong RX1 82 (8000), Cond.fieldLink RX1 41 "WallStones$Machine" "windNow" "I", Cond.methodLink RX1 87 Lib.Math.max.name, Cond.static Lib.Math.max.name, Cond.code Lib.Math.max.name Lib.Math.max.code 2 (some .int), Cond.methodLink RX1 78 yX1_speedFor, Cond.instanceMethod yX1_speedFor, Cond.selects RX1 yX1_speedFor yX1_speedFor, Cond.code yX1_speedFor cX1_speedFor 9 (some .long), Cond.static yX4_down, Cond.code yX4_down cX4_down 4 (some .long), Cond.static yX4_sineOf, Cond.code yX4_sineOf cX4_sineOf 5 (some .int), Cond.methodLink RX4 189 Lib.Math.abs.name, Cond.constantLong RX4 227 (4000), Cond.constantLong RX4 229 (40500), Cond.methodLink RX4 231 yX4_down, Cond.methodLink RX1 84 yX1_flightOf, Cond.instanceMethod yX1_flightOf, Cond.selects RX1 yX1_flightOf yX1_flightOf, Cond.code yX1_flightOf cX1_flightOf 5 (some .int)]
def wsX4_tune_r4 : List Cond := [Cond.constantLong RX1 92 (20), Cond.constantLong RX1 94 (2000), Cond.methodLink RX1 96 Lib.MathLoose.max_long.x, Cond.static Lib.MathLoose.max_long.x, Cond.code Lib.MathLoose.max_long.x Lib.MathLoose.max_long.code 4 (some .long), Cond.constantLong RX1 98 (8), Cond.constantLong RX1 100 (25), Cond.constantLong RX1 102 (3), Cond.methodLink RX4 81 yX1_tuned, Cond.instanceMethod yX1_tuned, Cond.selects RX1 yX1_tuned yX1_tuned, Cond.code yX1_tuned cX1_tuned 2 (some .int)]
def wsX4_tune : List Cond := .code yX4_tune cX4_tune 5 (some .int) :: ((wsX4_tune_r1 ++ (wsX4_tune_r2 ++ (wsX4_tune_r3 ++ wsX4_tune_r4))) ++ wsX40 ++ wsX10)
def wsX4_spread : List Cond := .code yX4_spread cX4_spread 2 (some .int) :: ([.fieldLink RX4 19 "WallStones" "book" "LWallStones$Book;", .methodLink RX4 49 yX4_within, .static yX4_within, .initialized RX4, .code yX4_within cX4_within 3 (some .boolean), .methodLink RX4 84 yX0_putSpread, .instanceMethod yX0_putSpread, .selects RX0 yX0_putSpread yX0_putSpread, .initialized RX0, .code yX0_putSpread cX0_putSpread 3 (some .int), .fieldLink RX0 29 "WallStones$Book" "spreadNow" "I"] ++ wsX40 ++ wsX00)
def wsX4_shot : List Cond := .code yX4_shot cX4_shot 3 (some .int) :: ([.fieldLink RX4 19 "WallStones" "book" "LWallStones$Book;", .methodLink RX4 49 yX4_within, .static yX4_within, .initialized RX4, .code yX4_within cX4_within 3 (some .boolean), .methodLink RX4 87 yX0_tell, .instanceMethod yX0_tell, .selects RX0 yX0_tell yX0_tell, .initialized RX0, .code yX0_tell cX0_tell 3 (some .boolean), .fieldLink RX0 33 "WallStones$Book" "shots" "I", .fieldLink RX0 17 "WallStones$Book" "shotHook" "[I", .fieldLink RX0 20 "WallStones$Book" "shotFell" "[I", .methodLink RX4 90 yX0_told, .instanceMethod yX0_told, .selects RX0 yX0_told yX0_told, .code yX0_told cX0_told 1 (some .int)] ++ wsX40 ++ wsX00)
def wsX4_clear : List Cond := .code yX4_clear cX4_clear 1 (some .int) :: ([.fieldLink RX4 19 "WallStones" "book" "LWallStones$Book;", .methodLink RX4 93 yX0_forgetShots, .instanceMethod yX0_forgetShots, .selects RX0 yX0_forgetShots yX0_forgetShots, .initialized RX0, .code yX0_forgetShots cX0_forgetShots 2 (some .int), .fieldLink RX0 33 "WallStones$Book" "shots" "I"] ++ wsX40 ++ wsX00)
def wsX4_left_r1 : List Cond := [Cond.fieldLink RX4 19 "WallStones" "book" "LWallStones$Book;", Cond.fieldLink RX4 10 "WallStones" "engine" "LWallStones$Machine;", Cond.methodLink RX4 96 yX0_study, Cond.instanceMethod yX0_study, Cond.selects RX0 yX0_study yX0_study, Cond.initialized RX0, Cond.code yX0_study cX0_study 5 none, Cond.fieldLink RX0 11 "WallStones$Book" "ranges" "[I", Cond.fieldLink RX0 23 "WallStones$Book" "leastDrift" "[I", Cond.fieldLink RX0 26 "WallStones$Book" "greatestDrift" "[I", Cond.fieldLink RX0 33 "WallStones$Book" "shots" "I", Cond.fieldLink RX0 17 "WallStones$Book" "shotHook" "[I", Cond.fieldLink RX0 20 "WallStones$Book" "shotFell" "[I", Cond.methodLink RX0 36 yX1_slingNow, Cond.instanceMethod yX1_slingNow, Cond.selects RX1 yX1_slingNow yX1_slingNow, Cond.initialized RX1, Cond.code yX1_slingNow cX1_slingNow 1 (some .int), Cond.fieldLink RX1 11 "WallStones$Machine" "number" "[I", Cond.methodLink RX0 40 yX1_reckon, Cond.instanceMethod yX1_reckon, Cond.selects RX1 yX1_reckon yX1_reckon, Cond.code yX1_reckon cX1_reckon 4 (some .int), Cond.fieldLink RX1 18 "WallStones$Machine" "reckoning" "[I"]
def wsX4_left_r2 : List Cond := [Cond.fieldLink RX1 49 "WallStones$Machine" "stallTurn" "I", Cond.methodLink RX1 71 yX1_turnOfRelease, Cond.instanceMethod yX1_turnOfRelease, Cond.selects RX1 yX1_turnOfRelease yX1_turnOfRelease, Cond.code yX1_turnOfRelease cX1_turnOfRelease 7 (some .int), Cond.constantLong RX1 58 (100), Cond.constantLong RX1 60 (2), Cond.constantLong RX1 65 (160), Cond.static yX4_up, Cond.initialized RX4, Cond.code yX4_up cX4_up 4 (some .long), Cond.methodLink RX4 223 yJ9_floorDiv_f86c9, Cond.static yJ9_floorDiv_f86c9, Cond.initialized RJ9, Cond.code yJ9_floorDiv_f86c9 cJ9_floorDiv_f86c9 6 (some .long), Cond.methodLink RX1 74 yX1_reckonRelease, Cond.instanceMethod yX1_reckonRelease, Cond.selects RX1 yX1_reckonRelease yX1_reckonRelease, Cond.code yX1_reckonRelease cX1_reckonRelease 10 none, Cond.fieldLink RX1 15 "WallStones$Machine" "given" "[I", Cond.constantLong RX1 82 (8000), Cond.fieldLink RX1 41 "WallStones$Machine" "windNow" "I", Cond.methodLink RX1 87 Lib.Math.max.name, Cond.static Lib.Math.max.name]
def wsX4_left_r3 : List Cond := [Cond.initialized "java/lang/Math", Cond.code Lib.Math.max.name Lib.Math.max.code 2 (some .int), Cond.static yX4_within, Cond.code yX4_within cX4_within 3 (some .boolean), Cond.methodLink RX1 78 yX1_speedFor, Cond.instanceMethod yX1_speedFor, Cond.selects RX1 yX1_speedFor yX1_speedFor, Cond.code yX1_speedFor cX1_speedFor 9 (some .long), Cond.static yX4_down, Cond.code yX4_down cX4_down 4 (some .long), Cond.static yX4_sineOf, Cond.code yX4_sineOf cX4_sineOf 5 (some .int), Cond.methodLink RX4 189 Lib.Math.abs.name, Cond.static Lib.Math.abs.name, Cond.code Lib.Math.abs.name Lib.Math.abs.code 1 (some .int), Cond.constantLong RX4 227 (4000), Cond.constantLong RX4 229 (40500), Cond.methodLink RX4 231 yX4_down, Cond.methodLink RX1 84 yX1_flightOf, Cond.instanceMethod yX1_flightOf, Cond.selects RX1 yX1_flightOf yX1_flightOf, Cond.code yX1_flightOf cX1_flightOf 5 (some .int), Cond.constantLong RX1 92 (20), Cond.constantLong RX1 94 (2000)]
def wsX4_left_r4 : List Cond := [Cond.methodLink RX1 96 Lib.MathLoose.max_long.x, Cond.static Lib.MathLoose.max_long.x, Cond.code Lib.MathLoose.max_long.x Lib.MathLoose.max_long.code 4 (some .long), Cond.constantLong RX1 98 (8), Cond.constantLong RX1 100 (25), Cond.constantLong RX1 102 (3), Cond.methodLink RX0 44 yX0_bear, Cond.instanceMethod yX0_bear, Cond.selects RX0 yX0_bear yX0_bear, Cond.code yX0_bear cX0_bear 5 none, Cond.fieldLink RX0 29 "WallStones$Book" "spreadNow" "I", Cond.methodLink RX0 51 Lib.Math.max.name, Cond.methodLink RX0 56 Lib.Math.min.name, Cond.static Lib.Math.min.name, Cond.code Lib.Math.min.name Lib.Math.min.code 2 (some .int), Cond.methodLink RX0 48 yX0_scaled, Cond.instanceMethod yX0_scaled, Cond.selects RX0 yX0_scaled yX0_scaled, Cond.code yX0_scaled cX0_scaled 3 (some .int), Cond.constantLong RX0 59 (100), Cond.methodLink RX4 100 yX0_pairsLeft, Cond.instanceMethod yX0_pairsLeft, Cond.selects RX0 yX0_pairsLeft yX0_pairsLeft, Cond.code yX0_pairsLeft cX0_pairsLeft 3 (some .int)]
def wsX4_left_r5 : List Cond := [Cond.methodLink RX0 65 yX0_isLeft, Cond.instanceMethod yX0_isLeft, Cond.selects RX0 yX0_isLeft yX0_isLeft, Cond.code yX0_isLeft cX0_isLeft 2 (some .boolean)]
def wsX4_left : List Cond := .code yX4_left cX4_left 1 (some .int) :: ((wsX4_left_r1 ++ (wsX4_left_r2 ++ (wsX4_left_r3 ++ (wsX4_left_r4 ++ wsX4_left_r5)))) ++ wsX40 ++ wsX00 ++ wsX10)
def wsX4_span_r1 : List Cond := [Cond.fieldLink RX4 19 "WallStones" "book" "LWallStones$Book;", Cond.fieldLink RX4 10 "WallStones" "engine" "LWallStones$Machine;", Cond.methodLink RX4 49 yX4_within, Cond.static yX4_within, Cond.initialized RX4, Cond.code yX4_within cX4_within 3 (some .boolean), Cond.methodLink RX4 96 yX0_study, Cond.instanceMethod yX0_study, Cond.selects RX0 yX0_study yX0_study, Cond.initialized RX0, Cond.code yX0_study cX0_study 5 none, Cond.fieldLink RX0 11 "WallStones$Book" "ranges" "[I", Cond.fieldLink RX0 23 "WallStones$Book" "leastDrift" "[I", Cond.fieldLink RX0 26 "WallStones$Book" "greatestDrift" "[I", Cond.fieldLink RX0 33 "WallStones$Book" "shots" "I", Cond.fieldLink RX0 17 "WallStones$Book" "shotHook" "[I", Cond.fieldLink RX0 20 "WallStones$Book" "shotFell" "[I", Cond.methodLink RX0 36 yX1_slingNow, Cond.instanceMethod yX1_slingNow, Cond.selects RX1 yX1_slingNow yX1_slingNow, Cond.initialized RX1, Cond.code yX1_slingNow cX1_slingNow 1 (some .int), Cond.fieldLink RX1 11 "WallStones$Machine" "number" "[I", Cond.methodLink RX0 40 yX1_reckon]
def wsX4_span_r2 : List Cond := [Cond.instanceMethod yX1_reckon, Cond.selects RX1 yX1_reckon yX1_reckon, Cond.code yX1_reckon cX1_reckon 4 (some .int), Cond.fieldLink RX1 18 "WallStones$Machine" "reckoning" "[I", Cond.fieldLink RX1 49 "WallStones$Machine" "stallTurn" "I", Cond.methodLink RX1 71 yX1_turnOfRelease, Cond.instanceMethod yX1_turnOfRelease, Cond.selects RX1 yX1_turnOfRelease yX1_turnOfRelease, Cond.code yX1_turnOfRelease cX1_turnOfRelease 7 (some .int), Cond.constantLong RX1 58 (100), Cond.constantLong RX1 60 (2), Cond.constantLong RX1 65 (160), Cond.static yX4_up, Cond.code yX4_up cX4_up 4 (some .long), Cond.methodLink RX4 223 yJ9_floorDiv_f86c9, Cond.static yJ9_floorDiv_f86c9, Cond.initialized RJ9, Cond.code yJ9_floorDiv_f86c9 cJ9_floorDiv_f86c9 6 (some .long), Cond.methodLink RX1 74 yX1_reckonRelease, Cond.instanceMethod yX1_reckonRelease, Cond.selects RX1 yX1_reckonRelease yX1_reckonRelease, Cond.code yX1_reckonRelease cX1_reckonRelease 10 none, Cond.fieldLink RX1 15 "WallStones$Machine" "given" "[I", Cond.constantLong RX1 82 (8000)]
def wsX4_span_r3 : List Cond := [Cond.fieldLink RX1 41 "WallStones$Machine" "windNow" "I", Cond.methodLink RX1 87 Lib.Math.max.name, Cond.static Lib.Math.max.name, Cond.initialized "java/lang/Math", Cond.code Lib.Math.max.name Lib.Math.max.code 2 (some .int), Cond.methodLink RX1 78 yX1_speedFor, Cond.instanceMethod yX1_speedFor, Cond.selects RX1 yX1_speedFor yX1_speedFor, Cond.code yX1_speedFor cX1_speedFor 9 (some .long), Cond.static yX4_down, Cond.code yX4_down cX4_down 4 (some .long), Cond.static yX4_sineOf, Cond.code yX4_sineOf cX4_sineOf 5 (some .int), Cond.methodLink RX4 189 Lib.Math.abs.name, Cond.static Lib.Math.abs.name, Cond.code Lib.Math.abs.name Lib.Math.abs.code 1 (some .int), Cond.constantLong RX4 227 (4000), Cond.constantLong RX4 229 (40500), Cond.methodLink RX4 231 yX4_down, Cond.methodLink RX1 84 yX1_flightOf, Cond.instanceMethod yX1_flightOf, Cond.selects RX1 yX1_flightOf yX1_flightOf, Cond.code yX1_flightOf cX1_flightOf 5 (some .int), Cond.constantLong RX1 92 (20)]
def wsX4_span_r4 : List Cond := [Cond.constantLong RX1 94 (2000), Cond.methodLink RX1 96 Lib.MathLoose.max_long.x, Cond.static Lib.MathLoose.max_long.x, Cond.code Lib.MathLoose.max_long.x Lib.MathLoose.max_long.code 4 (some .long), Cond.constantLong RX1 98 (8), Cond.constantLong RX1 100 (25), Cond.constantLong RX1 102 (3), Cond.methodLink RX0 44 yX0_bear, Cond.instanceMethod yX0_bear, Cond.selects RX0 yX0_bear yX0_bear, Cond.code yX0_bear cX0_bear 5 none, Cond.fieldLink RX0 29 "WallStones$Book" "spreadNow" "I", Cond.methodLink RX0 51 Lib.Math.max.name, Cond.methodLink RX0 56 Lib.Math.min.name, Cond.static Lib.Math.min.name, Cond.code Lib.Math.min.name Lib.Math.min.code 2 (some .int), Cond.methodLink RX0 48 yX0_scaled, Cond.instanceMethod yX0_scaled, Cond.selects RX0 yX0_scaled yX0_scaled, Cond.code yX0_scaled cX0_scaled 3 (some .int), Cond.constantLong RX0 59 (100), Cond.methodLink RX4 103 yX0_places, Cond.instanceMethod yX0_places, Cond.selects RX0 yX0_places yX0_places]
def wsX4_span_r5 : List Cond := [Cond.code yX0_places cX0_places 2 (some .boolean), Cond.methodLink RX0 69 yX0_pairsLeft, Cond.instanceMethod yX0_pairsLeft, Cond.selects RX0 yX0_pairsLeft yX0_pairsLeft, Cond.code yX0_pairsLeft cX0_pairsLeft 3 (some .int), Cond.methodLink RX0 65 yX0_isLeft, Cond.instanceMethod yX0_isLeft, Cond.selects RX0 yX0_isLeft yX0_isLeft, Cond.code yX0_isLeft cX0_isLeft 2 (some .boolean), Cond.methodLink RX4 107 yX0_leastPlace, Cond.instanceMethod yX0_leastPlace, Cond.selects RX0 yX0_leastPlace yX0_leastPlace, Cond.code yX0_leastPlace cX0_leastPlace 4 (some .int), Cond.constant RX0 74 (2147483647), Cond.methodLink RX4 110 yX0_greatestPlace, Cond.instanceMethod yX0_greatestPlace, Cond.selects RX0 yX0_greatestPlace yX0_greatestPlace, Cond.code yX0_greatestPlace cX0_greatestPlace 4 (some .int), Cond.constant RX0 75 (-2147483648)]
def wsX4_span : List Cond := .code yX4_span cX4_span 3 (some .int) :: ((wsX4_span_r1 ++ (wsX4_span_r2 ++ (wsX4_span_r3 ++ (wsX4_span_r4 ++ wsX4_span_r5)))) ++ wsX40 ++ wsX00 ++ wsX10)
def wsX4_next_r1 : List Cond := [Cond.fieldLink RX4 19 "WallStones" "book" "LWallStones$Book;", Cond.fieldLink RX4 10 "WallStones" "engine" "LWallStones$Machine;", Cond.methodLink RX4 96 yX0_study, Cond.instanceMethod yX0_study, Cond.selects RX0 yX0_study yX0_study, Cond.initialized RX0, Cond.code yX0_study cX0_study 5 none, Cond.fieldLink RX0 11 "WallStones$Book" "ranges" "[I", Cond.fieldLink RX0 23 "WallStones$Book" "leastDrift" "[I", Cond.fieldLink RX0 26 "WallStones$Book" "greatestDrift" "[I", Cond.fieldLink RX0 33 "WallStones$Book" "shots" "I", Cond.fieldLink RX0 17 "WallStones$Book" "shotHook" "[I", Cond.fieldLink RX0 20 "WallStones$Book" "shotFell" "[I", Cond.methodLink RX0 36 yX1_slingNow, Cond.instanceMethod yX1_slingNow, Cond.selects RX1 yX1_slingNow yX1_slingNow, Cond.initialized RX1, Cond.code yX1_slingNow cX1_slingNow 1 (some .int), Cond.fieldLink RX1 11 "WallStones$Machine" "number" "[I", Cond.methodLink RX0 40 yX1_reckon, Cond.instanceMethod yX1_reckon, Cond.selects RX1 yX1_reckon yX1_reckon, Cond.code yX1_reckon cX1_reckon 4 (some .int), Cond.fieldLink RX1 18 "WallStones$Machine" "reckoning" "[I"]
def wsX4_next_r2 : List Cond := [Cond.fieldLink RX1 49 "WallStones$Machine" "stallTurn" "I", Cond.methodLink RX1 71 yX1_turnOfRelease, Cond.instanceMethod yX1_turnOfRelease, Cond.selects RX1 yX1_turnOfRelease yX1_turnOfRelease, Cond.code yX1_turnOfRelease cX1_turnOfRelease 7 (some .int), Cond.constantLong RX1 58 (100), Cond.constantLong RX1 60 (2), Cond.constantLong RX1 65 (160), Cond.static yX4_up, Cond.initialized RX4, Cond.code yX4_up cX4_up 4 (some .long), Cond.methodLink RX4 223 yJ9_floorDiv_f86c9, Cond.static yJ9_floorDiv_f86c9, Cond.initialized RJ9, Cond.code yJ9_floorDiv_f86c9 cJ9_floorDiv_f86c9 6 (some .long), Cond.methodLink RX1 74 yX1_reckonRelease, Cond.instanceMethod yX1_reckonRelease, Cond.selects RX1 yX1_reckonRelease yX1_reckonRelease, Cond.code yX1_reckonRelease cX1_reckonRelease 10 none, Cond.fieldLink RX1 15 "WallStones$Machine" "given" "[I", Cond.constantLong RX1 82 (8000), Cond.fieldLink RX1 41 "WallStones$Machine" "windNow" "I", Cond.methodLink RX1 87 Lib.Math.max.name, Cond.static Lib.Math.max.name]
def wsX4_next_r3 : List Cond := [Cond.initialized "java/lang/Math", Cond.code Lib.Math.max.name Lib.Math.max.code 2 (some .int), Cond.static yX4_within, Cond.code yX4_within cX4_within 3 (some .boolean), Cond.methodLink RX1 78 yX1_speedFor, Cond.instanceMethod yX1_speedFor, Cond.selects RX1 yX1_speedFor yX1_speedFor, Cond.code yX1_speedFor cX1_speedFor 9 (some .long), Cond.static yX4_down, Cond.code yX4_down cX4_down 4 (some .long), Cond.static yX4_sineOf, Cond.code yX4_sineOf cX4_sineOf 5 (some .int), Cond.methodLink RX4 189 Lib.Math.abs.name, Cond.static Lib.Math.abs.name, Cond.code Lib.Math.abs.name Lib.Math.abs.code 1 (some .int), Cond.constantLong RX4 227 (4000), Cond.constantLong RX4 229 (40500), Cond.methodLink RX4 231 yX4_down, Cond.methodLink RX1 84 yX1_flightOf, Cond.instanceMethod yX1_flightOf, Cond.selects RX1 yX1_flightOf yX1_flightOf, Cond.code yX1_flightOf cX1_flightOf 5 (some .int), Cond.constantLong RX1 92 (20), Cond.constantLong RX1 94 (2000)]
def wsX4_next_r4 : List Cond := [Cond.methodLink RX1 96 Lib.MathLoose.max_long.x, Cond.static Lib.MathLoose.max_long.x, Cond.code Lib.MathLoose.max_long.x Lib.MathLoose.max_long.code 4 (some .long), Cond.constantLong RX1 98 (8), Cond.constantLong RX1 100 (25), Cond.constantLong RX1 102 (3), Cond.methodLink RX0 44 yX0_bear, Cond.instanceMethod yX0_bear, Cond.selects RX0 yX0_bear yX0_bear, Cond.code yX0_bear cX0_bear 5 none, Cond.fieldLink RX0 29 "WallStones$Book" "spreadNow" "I", Cond.methodLink RX0 51 Lib.Math.max.name, Cond.methodLink RX0 56 Lib.Math.min.name, Cond.static Lib.Math.min.name, Cond.code Lib.Math.min.name Lib.Math.min.code 2 (some .int), Cond.methodLink RX0 48 yX0_scaled, Cond.instanceMethod yX0_scaled, Cond.selects RX0 yX0_scaled yX0_scaled, Cond.code yX0_scaled cX0_scaled 3 (some .int), Cond.constantLong RX0 59 (100), Cond.methodLink RX4 113 yX0_widestHook, Cond.instanceMethod yX0_widestHook, Cond.selects RX0 yX0_widestHook yX0_widestHook, Cond.code yX0_widestHook cX0_widestHook 5 (some .int)]
def wsX4_next_r5 : List Cond := [Cond.methodLink RX0 76 yX0_places, Cond.instanceMethod yX0_places, Cond.selects RX0 yX0_places yX0_places, Cond.code yX0_places cX0_places 2 (some .boolean), Cond.methodLink RX0 69 yX0_pairsLeft, Cond.instanceMethod yX0_pairsLeft, Cond.selects RX0 yX0_pairsLeft yX0_pairsLeft, Cond.code yX0_pairsLeft cX0_pairsLeft 3 (some .int), Cond.methodLink RX0 65 yX0_isLeft, Cond.instanceMethod yX0_isLeft, Cond.selects RX0 yX0_isLeft yX0_isLeft, Cond.code yX0_isLeft cX0_isLeft 2 (some .boolean), Cond.methodLink RX0 79 yX0_greatestPlace, Cond.instanceMethod yX0_greatestPlace, Cond.selects RX0 yX0_greatestPlace yX0_greatestPlace, Cond.code yX0_greatestPlace cX0_greatestPlace 4 (some .int), Cond.constant RX0 75 (-2147483648), Cond.methodLink RX0 83 yX0_leastPlace, Cond.instanceMethod yX0_leastPlace, Cond.selects RX0 yX0_leastPlace yX0_leastPlace, Cond.code yX0_leastPlace cX0_leastPlace 4 (some .int), Cond.constant RX0 74 (2147483647)]
def wsX4_next : List Cond := .code yX4_next cX4_next 1 (some .int) :: ((wsX4_next_r1 ++ (wsX4_next_r2 ++ (wsX4_next_r3 ++ (wsX4_next_r4 ++ wsX4_next_r5)))) ++ wsX40 ++ wsX00 ++ wsX10)
def wsX4_surest_r1 : List Cond := [Cond.fieldLink RX4 19 "WallStones" "book" "LWallStones$Book;", Cond.fieldLink RX4 10 "WallStones" "engine" "LWallStones$Machine;", Cond.methodLink RX4 49 yX4_within, Cond.static yX4_within, Cond.initialized RX4, Cond.code yX4_within cX4_within 3 (some .boolean), Cond.methodLink RX4 96 yX0_study, Cond.instanceMethod yX0_study, Cond.selects RX0 yX0_study yX0_study, Cond.initialized RX0, Cond.code yX0_study cX0_study 5 none, Cond.fieldLink RX0 11 "WallStones$Book" "ranges" "[I", Cond.fieldLink RX0 23 "WallStones$Book" "leastDrift" "[I", Cond.fieldLink RX0 26 "WallStones$Book" "greatestDrift" "[I", Cond.fieldLink RX0 33 "WallStones$Book" "shots" "I", Cond.fieldLink RX0 17 "WallStones$Book" "shotHook" "[I", Cond.fieldLink RX0 20 "WallStones$Book" "shotFell" "[I", Cond.methodLink RX0 36 yX1_slingNow, Cond.instanceMethod yX1_slingNow, Cond.selects RX1 yX1_slingNow yX1_slingNow, Cond.initialized RX1, Cond.code yX1_slingNow cX1_slingNow 1 (some .int), Cond.fieldLink RX1 11 "WallStones$Machine" "number" "[I", Cond.methodLink RX0 40 yX1_reckon]
def wsX4_surest_r2 : List Cond := [Cond.instanceMethod yX1_reckon, Cond.selects RX1 yX1_reckon yX1_reckon, Cond.code yX1_reckon cX1_reckon 4 (some .int), Cond.fieldLink RX1 18 "WallStones$Machine" "reckoning" "[I", Cond.fieldLink RX1 49 "WallStones$Machine" "stallTurn" "I", Cond.methodLink RX1 71 yX1_turnOfRelease, Cond.instanceMethod yX1_turnOfRelease, Cond.selects RX1 yX1_turnOfRelease yX1_turnOfRelease, Cond.code yX1_turnOfRelease cX1_turnOfRelease 7 (some .int), Cond.constantLong RX1 58 (100), Cond.constantLong RX1 60 (2), Cond.constantLong RX1 65 (160), Cond.static yX4_up, Cond.code yX4_up cX4_up 4 (some .long), Cond.methodLink RX4 223 yJ9_floorDiv_f86c9, Cond.static yJ9_floorDiv_f86c9, Cond.initialized RJ9, Cond.code yJ9_floorDiv_f86c9 cJ9_floorDiv_f86c9 6 (some .long), Cond.methodLink RX1 74 yX1_reckonRelease, Cond.instanceMethod yX1_reckonRelease, Cond.selects RX1 yX1_reckonRelease yX1_reckonRelease, Cond.code yX1_reckonRelease cX1_reckonRelease 10 none, Cond.fieldLink RX1 15 "WallStones$Machine" "given" "[I", Cond.constantLong RX1 82 (8000)]
def wsX4_surest_r3 : List Cond := [Cond.fieldLink RX1 41 "WallStones$Machine" "windNow" "I", Cond.methodLink RX1 87 Lib.Math.max.name, Cond.static Lib.Math.max.name, Cond.initialized "java/lang/Math", Cond.code Lib.Math.max.name Lib.Math.max.code 2 (some .int), Cond.methodLink RX1 78 yX1_speedFor, Cond.instanceMethod yX1_speedFor, Cond.selects RX1 yX1_speedFor yX1_speedFor, Cond.code yX1_speedFor cX1_speedFor 9 (some .long), Cond.static yX4_down, Cond.code yX4_down cX4_down 4 (some .long), Cond.static yX4_sineOf, Cond.code yX4_sineOf cX4_sineOf 5 (some .int), Cond.methodLink RX4 189 Lib.Math.abs.name, Cond.static Lib.Math.abs.name, Cond.code Lib.Math.abs.name Lib.Math.abs.code 1 (some .int), Cond.constantLong RX4 227 (4000), Cond.constantLong RX4 229 (40500), Cond.methodLink RX4 231 yX4_down, Cond.methodLink RX1 84 yX1_flightOf, Cond.instanceMethod yX1_flightOf, Cond.selects RX1 yX1_flightOf yX1_flightOf, Cond.code yX1_flightOf cX1_flightOf 5 (some .int), Cond.constantLong RX1 92 (20)]
def wsX4_surest_r4 : List Cond := [Cond.constantLong RX1 94 (2000), Cond.methodLink RX1 96 Lib.MathLoose.max_long.x, Cond.static Lib.MathLoose.max_long.x, Cond.code Lib.MathLoose.max_long.x Lib.MathLoose.max_long.code 4 (some .long), Cond.constantLong RX1 98 (8), Cond.constantLong RX1 100 (25), Cond.constantLong RX1 102 (3), Cond.methodLink RX0 44 yX0_bear, Cond.instanceMethod yX0_bear, Cond.selects RX0 yX0_bear yX0_bear, Cond.code yX0_bear cX0_bear 5 none, Cond.fieldLink RX0 29 "WallStones$Book" "spreadNow" "I", Cond.methodLink RX0 51 Lib.Math.max.name, Cond.methodLink RX0 56 Lib.Math.min.name, Cond.static Lib.Math.min.name, Cond.code Lib.Math.min.name Lib.Math.min.code 2 (some .int), Cond.methodLink RX0 48 yX0_scaled, Cond.instanceMethod yX0_scaled, Cond.selects RX0 yX0_scaled yX0_scaled, Cond.code yX0_scaled cX0_scaled 3 (some .int), Cond.constantLong RX0 59 (100), Cond.methodLink RX4 116 yX0_surestHook, Cond.instanceMethod yX0_surestHook, Cond.selects RX0 yX0_surestHook yX0_surestHook]
def wsX4_surest_r5 : List Cond := [Cond.code yX0_surestHook cX0_surestHook 6 (some .int), Cond.constant RX0 74 (2147483647), Cond.methodLink RX0 76 yX0_places, Cond.instanceMethod yX0_places, Cond.selects RX0 yX0_places yX0_places, Cond.code yX0_places cX0_places 2 (some .boolean), Cond.methodLink RX0 69 yX0_pairsLeft, Cond.instanceMethod yX0_pairsLeft, Cond.selects RX0 yX0_pairsLeft yX0_pairsLeft, Cond.code yX0_pairsLeft cX0_pairsLeft 3 (some .int), Cond.methodLink RX0 65 yX0_isLeft, Cond.instanceMethod yX0_isLeft, Cond.selects RX0 yX0_isLeft yX0_isLeft, Cond.code yX0_isLeft cX0_isLeft 2 (some .boolean), Cond.methodLink RX0 89 yX0_farthestMiss, Cond.instanceMethod yX0_farthestMiss, Cond.selects RX0 yX0_farthestMiss yX0_farthestMiss, Cond.code yX0_farthestMiss cX0_farthestMiss 3 (some .int), Cond.methodLink RX0 86 Lib.Math.abs.name, Cond.methodLink RX0 83 yX0_leastPlace, Cond.instanceMethod yX0_leastPlace, Cond.selects RX0 yX0_leastPlace yX0_leastPlace, Cond.code yX0_leastPlace cX0_leastPlace 4 (some .int), Cond.methodLink RX0 79 yX0_greatestPlace]
def wsX4_surest_r6 : List Cond := [Cond.instanceMethod yX0_greatestPlace, Cond.selects RX0 yX0_greatestPlace yX0_greatestPlace, Cond.code yX0_greatestPlace cX0_greatestPlace 4 (some .int), Cond.constant RX0 75 (-2147483648), Cond.methodLink RX4 119 yX0_farthestMiss]
def wsX4_surest : List Cond := .code yX4_surest cX4_surest 4 (some .int) :: ((wsX4_surest_r1 ++ (wsX4_surest_r2 ++ (wsX4_surest_r3 ++ (wsX4_surest_r4 ++ (wsX4_surest_r5 ++ wsX4_surest_r6))))) ++ wsX40 ++ wsX00 ++ wsX10)
def wsX4_wall : List Cond := .code yX4_wall cX4_wall 3 (some .int) :: ([.fieldLink RX4 26 "WallStones" "stones" "LWallStones$Wall;", .methodLink RX4 49 yX4_within, .static yX4_within, .initialized RX4, .code yX4_within cX4_within 3 (some .boolean), .methodLink RX4 122 yX3_build, .instanceMethod yX3_build, .selects RX3 yX3_build yX3_build, .initialized RX3, .code yX3_build cX3_build 4 none, .fieldLink RX3 28 "WallStones$Wall" "columns" "I", .fieldLink RX3 32 "WallStones$Wall" "rows" "I", .fieldLink RX3 11 "WallStones$Wall" "strengths" "[I", .fieldLink RX3 15 "WallStones$Wall" "standing" "[I", .fieldLink RX3 18 "WallStones$Wall" "propped" "[I"] ++ wsX40 ++ wsX30)
def wsX4_strength_r1 : List Cond := [Cond.fieldLink RX4 26 "WallStones" "stones" "LWallStones$Wall;", Cond.methodLink RX4 126 yX3_has, Cond.instanceMethod yX3_has, Cond.selects RX3 yX3_has yX3_has, Cond.initialized RX3, Cond.code yX3_has cX3_has 3 (some .boolean), Cond.fieldLink RX3 28 "WallStones$Wall" "columns" "I", Cond.fieldLink RX3 32 "WallStones$Wall" "rows" "I", Cond.methodLink RX4 49 yX4_within, Cond.static yX4_within, Cond.initialized RX4, Cond.code yX4_within cX4_within 3 (some .boolean), Cond.methodLink RX4 129 yX3_stands, Cond.instanceMethod yX3_stands, Cond.selects RX3 yX3_stands yX3_stands, Cond.code yX3_stands cX3_stands 3 (some .boolean), Cond.fieldLink RX3 15 "WallStones$Wall" "standing" "[I", Cond.methodLink RX3 35 yX3_has, Cond.methodLink RX3 39 yX3_holds, Cond.static yX3_holds, Cond.code yX3_holds cX3_holds 2 (some .boolean), Cond.methodLink RX4 132 yX3_putStrength, Cond.instanceMethod yX3_putStrength, Cond.selects RX3 yX3_putStrength yX3_putStrength]
def wsX4_strength_r2 : List Cond := [Cond.code yX3_putStrength cX3_putStrength 5 (some .int), Cond.fieldLink RX3 11 "WallStones$Wall" "strengths" "[I", Cond.methodLink RX3 42 yX3_place, Cond.static yX3_place, Cond.code yX3_place cX3_place 2 (some .int)]
def wsX4_strength : List Cond := .code yX4_strength cX4_strength 4 (some .int) :: ((wsX4_strength_r1 ++ wsX4_strength_r2) ++ wsX40 ++ wsX30)
def wsX4_prop : List Cond := .code yX4_prop cX4_prop 3 (some .int) :: ([.fieldLink RX4 26 "WallStones" "stones" "LWallStones$Wall;", .methodLink RX4 126 yX3_has, .instanceMethod yX3_has, .selects RX3 yX3_has yX3_has, .initialized RX3, .code yX3_has cX3_has 3 (some .boolean), .fieldLink RX3 28 "WallStones$Wall" "columns" "I", .fieldLink RX3 32 "WallStones$Wall" "rows" "I", .methodLink RX4 129 yX3_stands, .instanceMethod yX3_stands, .selects RX3 yX3_stands yX3_stands, .code yX3_stands cX3_stands 3 (some .boolean), .fieldLink RX3 15 "WallStones$Wall" "standing" "[I", .methodLink RX3 35 yX3_has, .methodLink RX3 39 yX3_holds, .static yX3_holds, .code yX3_holds cX3_holds 2 (some .boolean), .methodLink RX4 136 yX3_putProp, .instanceMethod yX3_putProp, .selects RX3 yX3_putProp yX3_putProp, .code yX3_putProp cX3_putProp 4 (some .int), .fieldLink RX3 18 "WallStones$Wall" "propped" "[I"] ++ wsX40 ++ wsX30)
def wsX4_hit_r1 : List Cond := [Cond.fieldLink RX4 26 "WallStones" "stones" "LWallStones$Wall;", Cond.methodLink RX4 126 yX3_has, Cond.instanceMethod yX3_has, Cond.selects RX3 yX3_has yX3_has, Cond.initialized RX3, Cond.code yX3_has cX3_has 3 (some .boolean), Cond.fieldLink RX3 28 "WallStones$Wall" "columns" "I", Cond.fieldLink RX3 32 "WallStones$Wall" "rows" "I", Cond.methodLink RX4 49 yX4_within, Cond.static yX4_within, Cond.initialized RX4, Cond.code yX4_within cX4_within 3 (some .boolean), Cond.methodLink RX4 129 yX3_stands, Cond.instanceMethod yX3_stands, Cond.selects RX3 yX3_stands yX3_stands, Cond.code yX3_stands cX3_stands 3 (some .boolean), Cond.fieldLink RX3 15 "WallStones$Wall" "standing" "[I", Cond.methodLink RX3 35 yX3_has, Cond.methodLink RX3 39 yX3_holds, Cond.static yX3_holds, Cond.code yX3_holds cX3_holds 2 (some .boolean), Cond.methodLink RX4 139 yX3_strike, Cond.instanceMethod yX3_strike, Cond.selects RX3 yX3_strike yX3_strike]
def wsX4_hit_r2 : List Cond := [Cond.code yX3_strike cX3_strike 6 (some .int), Cond.fieldLink RX3 11 "WallStones$Wall" "strengths" "[I", Cond.fieldLink RX3 18 "WallStones$Wall" "propped" "[I", Cond.methodLink RX3 46 yX3_stands, Cond.methodLink RX3 49 yJ6_bitCount_0f7a4, Cond.static yJ6_bitCount_0f7a4, Cond.initialized RJ6, Cond.code yJ6_bitCount_0f7a4 cJ6_bitCount_0f7a4 1 (some .int), Cond.constant RJ6 265 (1431655765), Cond.constant RJ6 266 (858993459), Cond.constant RJ6 267 (252645135), Cond.methodLink RX3 42 yX3_place, Cond.static yX3_place, Cond.code yX3_place cX3_place 2 (some .int), Cond.methodLink RX3 55 yX3_dropUnheld, Cond.instanceMethod yX3_dropUnheld, Cond.selects RX3 yX3_dropUnheld yX3_dropUnheld, Cond.code yX3_dropUnheld cX3_dropUnheld 3 none]
def wsX4_hit : List Cond := .code yX4_hit cX4_hit 4 (some .int) :: ((wsX4_hit_r1 ++ wsX4_hit_r2) ++ wsX40 ++ wsX30)
def wsX4_cell_r1 : List Cond := [Cond.fieldLink RX4 26 "WallStones" "stones" "LWallStones$Wall;", Cond.methodLink RX4 126 yX3_has, Cond.instanceMethod yX3_has, Cond.selects RX3 yX3_has yX3_has, Cond.initialized RX3, Cond.code yX3_has cX3_has 3 (some .boolean), Cond.fieldLink RX3 28 "WallStones$Wall" "columns" "I", Cond.fieldLink RX3 32 "WallStones$Wall" "rows" "I", Cond.methodLink RX4 129 yX3_stands, Cond.instanceMethod yX3_stands, Cond.selects RX3 yX3_stands yX3_stands, Cond.code yX3_stands cX3_stands 3 (some .boolean), Cond.fieldLink RX3 15 "WallStones$Wall" "standing" "[I", Cond.methodLink RX3 35 yX3_has, Cond.methodLink RX3 39 yX3_holds, Cond.static yX3_holds, Cond.code yX3_holds cX3_holds 2 (some .boolean), Cond.methodLink RX4 142 yX3_strengthAt, Cond.instanceMethod yX3_strengthAt, Cond.selects RX3 yX3_strengthAt yX3_strengthAt, Cond.code yX3_strengthAt cX3_strengthAt 3 (some .int), Cond.fieldLink RX3 11 "WallStones$Wall" "strengths" "[I", Cond.methodLink RX3 42 yX3_place, Cond.static yX3_place]
def wsX4_cell_r2 : List Cond := [Cond.code yX3_place cX3_place 2 (some .int), Cond.methodLink RX4 145 yX3_isPropped, Cond.instanceMethod yX3_isPropped, Cond.selects RX3 yX3_isPropped yX3_isPropped, Cond.code yX3_isPropped cX3_isPropped 3 (some .boolean), Cond.fieldLink RX3 18 "WallStones$Wall" "propped" "[I"]
def wsX4_cell : List Cond := .code yX4_cell cX4_cell 4 (some .int) :: ((wsX4_cell_r1 ++ wsX4_cell_r2) ++ wsX40 ++ wsX30)
def wsX4_level : List Cond := .code yX4_level cX4_level 2 (some .int) :: ([.fieldLink RX4 26 "WallStones" "stones" "LWallStones$Wall;", .methodLink RX4 49 yX4_within, .static yX4_within, .initialized RX4, .code yX4_within cX4_within 3 (some .boolean), .methodLink RX4 148 yX3_putLevel, .instanceMethod yX3_putLevel, .selects RX3 yX3_putLevel yX3_putLevel, .initialized RX3, .code yX3_putLevel cX3_putLevel 3 (some .int), .fieldLink RX3 59 "WallStones$Wall" "levelNow" "I"] ++ wsX40 ++ wsX30)
def wsX4_open : List Cond := .code yX4_open cX4_open 1 (some .int) :: ([.fieldLink RX4 26 "WallStones" "stones" "LWallStones$Wall;", .methodLink RX4 151 yX3_firstOpen, .instanceMethod yX3_firstOpen, .selects RX3 yX3_firstOpen yX3_firstOpen, .initialized RX3, .code yX3_firstOpen cX3_firstOpen 2 (some .int), .fieldLink RX3 28 "WallStones$Wall" "columns" "I", .methodLink RX3 62 yX3_isOpen, .instanceMethod yX3_isOpen, .selects RX3 yX3_isOpen yX3_isOpen, .code yX3_isOpen cX3_isOpen 2 (some .boolean), .fieldLink RX3 15 "WallStones$Wall" "standing" "[I", .fieldLink RX3 59 "WallStones$Wall" "levelNow" "I", .methodLink RX3 49 yJ6_bitCount_0f7a4, .static yJ6_bitCount_0f7a4, .initialized RJ6, .code yJ6_bitCount_0f7a4 cJ6_bitCount_0f7a4 1 (some .int), .constant RJ6 265 (1431655765), .constant RJ6 266 (858993459), .constant RJ6 267 (252645135)] ++ wsX40 ++ wsX30)
def wsX4_soonest_r1 : List Cond := [Cond.fieldLink RX4 26 "WallStones" "stones" "LWallStones$Wall;", Cond.methodLink RX4 49 yX4_within, Cond.static yX4_within, Cond.initialized RX4, Cond.code yX4_within cX4_within 3 (some .boolean), Cond.methodLink RX4 154 yX3_soonestColumn, Cond.instanceMethod yX3_soonestColumn, Cond.selects RX3 yX3_soonestColumn yX3_soonestColumn, Cond.initialized RX3, Cond.code yX3_soonestColumn cX3_soonestColumn 4 (some .int), Cond.fieldLink RX3 28 "WallStones$Wall" "columns" "I", Cond.methodLink RX3 66 yX3_hitsToOpen, Cond.instanceMethod yX3_hitsToOpen, Cond.selects RX3 yX3_hitsToOpen yX3_hitsToOpen, Cond.code yX3_hitsToOpen cX3_hitsToOpen 6 (some .int), Cond.constant RX3 73 (1000000), Cond.fieldLink RX3 32 "WallStones$Wall" "rows" "I", Cond.fieldLink RX3 15 "WallStones$Wall" "standing" "[I", Cond.fieldLink RX3 59 "WallStones$Wall" "levelNow" "I", Cond.methodLink RX3 78 Lib.Math.min.name, Cond.static Lib.Math.min.name, Cond.initialized "java/lang/Math", Cond.code Lib.Math.min.name Lib.Math.min.code 2 (some .int), Cond.methodLink RX3 49 yJ6_bitCount_0f7a4]
def wsX4_soonest_r2 : List Cond := [Cond.static yJ6_bitCount_0f7a4, Cond.initialized RJ6, Cond.code yJ6_bitCount_0f7a4 cJ6_bitCount_0f7a4 1 (some .int), Cond.constant RJ6 265 (1431655765), Cond.constant RJ6 266 (858993459), Cond.constant RJ6 267 (252645135), Cond.methodLink RX3 74 yX3_hitsToKeep, Cond.instanceMethod yX3_hitsToKeep, Cond.selects RX3 yX3_hitsToKeep yX3_hitsToKeep, Cond.code yX3_hitsToKeep cX3_hitsToKeep 8 (some .int), Cond.fieldLink RX3 18 "WallStones$Wall" "propped" "[I", Cond.fieldLink RX3 11 "WallStones$Wall" "strengths" "[I", Cond.methodLink RX3 39 yX3_holds, Cond.static yX3_holds, Cond.code yX3_holds cX3_holds 2 (some .boolean), Cond.methodLink RX3 42 yX3_place, Cond.static yX3_place, Cond.code yX3_place cX3_place 2 (some .int), Cond.static yX4_up, Cond.code yX4_up cX4_up 4 (some .long), Cond.methodLink RX4 223 yJ9_floorDiv_f86c9, Cond.static yJ9_floorDiv_f86c9, Cond.initialized RJ9, Cond.code yJ9_floorDiv_f86c9 cJ9_floorDiv_f86c9 6 (some .long)]
def wsX4_soonest_r3 : List Cond := [Cond.methodLink RX4 157 yX3_hitsToOpen]
def wsX4_soonest : List Cond := .code yX4_soonest cX4_soonest 4 (some .int) :: ((wsX4_soonest_r1 ++ (wsX4_soonest_r2 ++ wsX4_soonest_r3)) ++ wsX40 ++ wsX30)
def wsX4_scatter : List Cond := .code yX4_scatter cX4_scatter 4 (some .int) :: ([.fieldLink RX4 26 "WallStones" "stones" "LWallStones$Wall;", .methodLink RX4 49 yX4_within, .static yX4_within, .initialized RX4, .code yX4_within cX4_within 3 (some .boolean), .methodLink RX4 160 yX3_putWeight, .instanceMethod yX3_putWeight, .selects RX3 yX3_putWeight yX3_putWeight, .initialized RX3, .code yX3_putWeight cX3_putWeight 6 (some .int), .fieldLink RX3 21 "WallStones$Wall" "weights" "[I", .methodLink RX3 87 yX3_weightPlace, .static yX3_weightPlace, .code yX3_weightPlace cX3_weightPlace 2 (some .int)] ++ wsX40 ++ wsX30)
def wsX4_worth_r1 : List Cond := [Cond.fieldLink RX4 26 "WallStones" "stones" "LWallStones$Wall;", Cond.methodLink RX4 126 yX3_has, Cond.instanceMethod yX3_has, Cond.selects RX3 yX3_has yX3_has, Cond.initialized RX3, Cond.code yX3_has cX3_has 3 (some .boolean), Cond.fieldLink RX3 28 "WallStones$Wall" "columns" "I", Cond.fieldLink RX3 32 "WallStones$Wall" "rows" "I", Cond.methodLink RX4 49 yX4_within, Cond.static yX4_within, Cond.initialized RX4, Cond.code yX4_within cX4_within 3 (some .boolean), Cond.methodLink RX4 163 yX3_worthOf, Cond.instanceMethod yX3_worthOf, Cond.selects RX3 yX3_worthOf yX3_worthOf, Cond.code yX3_worthOf cX3_worthOf 7 (some .int), Cond.fieldLink RX3 21 "WallStones$Wall" "weights" "[I", Cond.methodLink RX3 87 yX3_weightPlace, Cond.static yX3_weightPlace, Cond.code yX3_weightPlace cX3_weightPlace 2 (some .int), Cond.methodLink RX3 90 yX3_fallsBy, Cond.instanceMethod yX3_fallsBy, Cond.selects RX3 yX3_fallsBy yX3_fallsBy, Cond.code yX3_fallsBy cX3_fallsBy 8 (some .int)]
def wsX4_worth_r2 : List Cond := [Cond.fieldLink RX3 15 "WallStones$Wall" "standing" "[I", Cond.fieldLink RX3 18 "WallStones$Wall" "propped" "[I", Cond.fieldLink RX3 11 "WallStones$Wall" "strengths" "[I", Cond.methodLink RX3 46 yX3_stands, Cond.instanceMethod yX3_stands, Cond.selects RX3 yX3_stands yX3_stands, Cond.code yX3_stands cX3_stands 3 (some .boolean), Cond.methodLink RX3 35 yX3_has, Cond.methodLink RX3 39 yX3_holds, Cond.static yX3_holds, Cond.code yX3_holds cX3_holds 2 (some .boolean), Cond.methodLink RX3 42 yX3_place, Cond.static yX3_place, Cond.code yX3_place cX3_place 2 (some .int), Cond.methodLink RX3 93 yX3_strike, Cond.instanceMethod yX3_strike, Cond.selects RX3 yX3_strike yX3_strike, Cond.code yX3_strike cX3_strike 6 (some .int), Cond.methodLink RX3 49 yJ6_bitCount_0f7a4, Cond.static yJ6_bitCount_0f7a4, Cond.initialized RJ6, Cond.code yJ6_bitCount_0f7a4 cJ6_bitCount_0f7a4 1 (some .int), Cond.constant RJ6 265 (1431655765), Cond.constant RJ6 266 (858993459)]
def wsX4_worth_r3 : List Cond := [Cond.constant RJ6 267 (252645135), Cond.methodLink RX3 55 yX3_dropUnheld, Cond.instanceMethod yX3_dropUnheld, Cond.selects RX3 yX3_dropUnheld yX3_dropUnheld, Cond.code yX3_dropUnheld cX3_dropUnheld 3 none]
def wsX4_worth : List Cond := .code yX4_worth cX4_worth 4 (some .int) :: ((wsX4_worth_r1 ++ (wsX4_worth_r2 ++ wsX4_worth_r3)) ++ wsX40 ++ wsX30)
def wsX4_aim_r1 : List Cond := [Cond.fieldLink RX4 26 "WallStones" "stones" "LWallStones$Wall;", Cond.methodLink RX4 49 yX4_within, Cond.static yX4_within, Cond.initialized RX4, Cond.code yX4_within cX4_within 3 (some .boolean), Cond.methodLink RX4 166 yX3_bestAim, Cond.instanceMethod yX3_bestAim, Cond.selects RX3 yX3_bestAim yX3_bestAim, Cond.initialized RX3, Cond.code yX3_bestAim cX3_bestAim 6 (some .int), Cond.fieldLink RX3 28 "WallStones$Wall" "columns" "I", Cond.fieldLink RX3 32 "WallStones$Wall" "rows" "I", Cond.methodLink RX3 96 yX3_columnOf, Cond.instanceMethod yX3_columnOf, Cond.selects RX3 yX3_columnOf yX3_columnOf, Cond.code yX3_columnOf cX3_columnOf 2 (some .int), Cond.methodLink RX3 99 yX3_rowOf, Cond.instanceMethod yX3_rowOf, Cond.selects RX3 yX3_rowOf yX3_rowOf, Cond.code yX3_rowOf cX3_rowOf 2 (some .int), Cond.methodLink RX3 102 yX3_worthOf, Cond.instanceMethod yX3_worthOf, Cond.selects RX3 yX3_worthOf yX3_worthOf, Cond.code yX3_worthOf cX3_worthOf 7 (some .int)]
def wsX4_aim_r2 : List Cond := [Cond.fieldLink RX3 21 "WallStones$Wall" "weights" "[I", Cond.methodLink RX3 87 yX3_weightPlace, Cond.static yX3_weightPlace, Cond.code yX3_weightPlace cX3_weightPlace 2 (some .int), Cond.methodLink RX3 90 yX3_fallsBy, Cond.instanceMethod yX3_fallsBy, Cond.selects RX3 yX3_fallsBy yX3_fallsBy, Cond.code yX3_fallsBy cX3_fallsBy 8 (some .int), Cond.fieldLink RX3 15 "WallStones$Wall" "standing" "[I", Cond.fieldLink RX3 18 "WallStones$Wall" "propped" "[I", Cond.fieldLink RX3 11 "WallStones$Wall" "strengths" "[I", Cond.methodLink RX3 46 yX3_stands, Cond.instanceMethod yX3_stands, Cond.selects RX3 yX3_stands yX3_stands, Cond.code yX3_stands cX3_stands 3 (some .boolean), Cond.methodLink RX3 35 yX3_has, Cond.instanceMethod yX3_has, Cond.selects RX3 yX3_has yX3_has, Cond.code yX3_has cX3_has 3 (some .boolean), Cond.methodLink RX3 39 yX3_holds, Cond.static yX3_holds, Cond.code yX3_holds cX3_holds 2 (some .boolean), Cond.methodLink RX3 42 yX3_place, Cond.static yX3_place]
def wsX4_aim_r3 : List Cond := [Cond.code yX3_place cX3_place 2 (some .int), Cond.methodLink RX3 93 yX3_strike, Cond.instanceMethod yX3_strike, Cond.selects RX3 yX3_strike yX3_strike, Cond.code yX3_strike cX3_strike 6 (some .int), Cond.methodLink RX3 49 yJ6_bitCount_0f7a4, Cond.static yJ6_bitCount_0f7a4, Cond.initialized RJ6, Cond.code yJ6_bitCount_0f7a4 cJ6_bitCount_0f7a4 1 (some .int), Cond.constant RJ6 265 (1431655765), Cond.constant RJ6 266 (858993459), Cond.constant RJ6 267 (252645135), Cond.methodLink RX3 55 yX3_dropUnheld, Cond.instanceMethod yX3_dropUnheld, Cond.selects RX3 yX3_dropUnheld yX3_dropUnheld, Cond.code yX3_dropUnheld cX3_dropUnheld 3 none, Cond.methodLink RX4 169 yX3_columnOf, Cond.methodLink RX4 172 yX3_rowOf, Cond.methodLink RX4 163 yX3_worthOf]
def wsX4_aim : List Cond := .code yX4_aim cX4_aim 4 (some .int) :: ((wsX4_aim_r1 ++ (wsX4_aim_r2 ++ wsX4_aim_r3)) ++ wsX40 ++ wsX30)
def wsX4_held_r1 : List Cond := [Cond.fieldLink RX4 26 "WallStones" "stones" "LWallStones$Wall;", Cond.constantLong RX4 175 (-1), Cond.methodLink RX4 126 yX3_has, Cond.instanceMethod yX3_has, Cond.selects RX3 yX3_has yX3_has, Cond.initialized RX3, Cond.code yX3_has cX3_has 3 (some .boolean), Cond.fieldLink RX3 28 "WallStones$Wall" "columns" "I", Cond.fieldLink RX3 32 "WallStones$Wall" "rows" "I", Cond.methodLink RX4 49 yX4_within, Cond.static yX4_within, Cond.initialized RX4, Cond.code yX4_within cX4_within 3 (some .boolean), Cond.methodLink RX4 151 yX3_firstOpen, Cond.instanceMethod yX3_firstOpen, Cond.selects RX3 yX3_firstOpen yX3_firstOpen, Cond.code yX3_firstOpen cX3_firstOpen 2 (some .int), Cond.methodLink RX3 62 yX3_isOpen, Cond.instanceMethod yX3_isOpen, Cond.selects RX3 yX3_isOpen yX3_isOpen, Cond.code yX3_isOpen cX3_isOpen 2 (some .boolean), Cond.fieldLink RX3 15 "WallStones$Wall" "standing" "[I", Cond.fieldLink RX3 59 "WallStones$Wall" "levelNow" "I", Cond.methodLink RX3 49 yJ6_bitCount_0f7a4]
def wsX4_held_r2 : List Cond := [Cond.static yJ6_bitCount_0f7a4, Cond.initialized RJ6, Cond.code yJ6_bitCount_0f7a4 cJ6_bitCount_0f7a4 1 (some .int), Cond.constant RJ6 265 (1431655765), Cond.constant RJ6 266 (858993459), Cond.constant RJ6 267 (252645135), Cond.static yX3_heldAfter, Cond.code yX3_heldAfter cX3_heldAfter 8 (some .long), Cond.fieldLink RX3 21 "WallStones$Wall" "weights" "[I", Cond.methodLink RX3 105 yX3_heldBy, Cond.static yX3_heldBy, Cond.code yX3_heldBy cX3_heldBy 13 (some .long), Cond.fieldLink RX3 18 "WallStones$Wall" "propped" "[I", Cond.fieldLink RX3 11 "WallStones$Wall" "strengths" "[I", Cond.methodLink RX3 46 yX3_stands, Cond.instanceMethod yX3_stands, Cond.selects RX3 yX3_stands yX3_stands, Cond.code yX3_stands cX3_stands 3 (some .boolean), Cond.methodLink RX3 35 yX3_has, Cond.methodLink RX3 39 yX3_holds, Cond.static yX3_holds, Cond.code yX3_holds cX3_holds 2 (some .boolean), Cond.methodLink RX3 109 yX3_heldAfter, Cond.methodLink RX3 42 yX3_place]
def wsX4_held_r3 : List Cond := [Cond.static yX3_place, Cond.code yX3_place cX3_place 2 (some .int), Cond.methodLink RX3 93 yX3_strike, Cond.instanceMethod yX3_strike, Cond.selects RX3 yX3_strike yX3_strike, Cond.code yX3_strike cX3_strike 6 (some .int), Cond.methodLink RX3 55 yX3_dropUnheld, Cond.instanceMethod yX3_dropUnheld, Cond.selects RX3 yX3_dropUnheld yX3_dropUnheld, Cond.code yX3_dropUnheld cX3_dropUnheld 3 none]
def wsX4_held : List Cond := .code yX4_held cX4_held 5 (some .long) :: ((wsX4_held_r1 ++ (wsX4_held_r2 ++ wsX4_held_r3)) ++ wsX40 ++ wsX30)
def wsX4_wound : List Cond := .code yX4_wound cX4_wound 1 (some .int) :: ([.fieldLink RX4 37 "WallStones" "handling" "I"] ++ wsX40)
def wsX4_sling : List Cond := .code yX4_sling cX4_sling 1 (some .int) :: ([.fieldLink RX4 37 "WallStones" "handling" "I"] ++ wsX40)
def wsX4_near : List Cond := .code yX4_near cX4_near 2 (some .int) :: ([.fieldLink RX4 37 "WallStones" "handling" "I", .methodLink RX4 49 yX4_within, .static yX4_within, .initialized RX4, .code yX4_within cX4_within 3 (some .boolean)] ++ wsX40)
def wsX4_loose_r1 : List Cond := [Cond.fieldLink RX4 26 "WallStones" "stones" "LWallStones$Wall;", Cond.fieldLink RX4 37 "WallStones" "handling" "I", Cond.fieldLink RX4 33 "WallStones" "siege" "LWallStones$Siege;", Cond.fieldLink RX4 183 "WallStones" "loosed" "I", Cond.fieldLink RX4 10 "WallStones" "engine" "LWallStones$Machine;", Cond.methodLink RX4 189 Lib.Math.abs.name, Cond.static Lib.Math.abs.name, Cond.initialized "java/lang/Math", Cond.code Lib.Math.abs.name Lib.Math.abs.code 1 (some .int), Cond.methodLink RX4 126 yX3_has, Cond.instanceMethod yX3_has, Cond.selects RX3 yX3_has yX3_has, Cond.initialized RX3, Cond.code yX3_has cX3_has 3 (some .boolean), Cond.fieldLink RX3 28 "WallStones$Wall" "columns" "I", Cond.fieldLink RX3 32 "WallStones$Wall" "rows" "I", Cond.methodLink RX4 49 yX4_within, Cond.static yX4_within, Cond.initialized RX4, Cond.code yX4_within cX4_within 3 (some .boolean), Cond.methodLink RX4 181 yX2_stones, Cond.instanceMethod yX2_stones, Cond.selects RX2 yX2_stones yX2_stones, Cond.initialized RX2]
def wsX4_loose_r2 : List Cond := [Cond.code yX2_stones cX2_stones 1 (some .int), Cond.fieldLink RX2 9 "WallStones$Siege" "stored" "[I", Cond.methodLink RX4 186 yX2_spendStone, Cond.instanceMethod yX2_spendStone, Cond.selects RX2 yX2_spendStone yX2_spendStone, Cond.code yX2_spendStone cX2_spendStone 1 none, Cond.methodLink RX2 33 Lib.Math.max.name, Cond.static Lib.Math.max.name, Cond.code Lib.Math.max.name Lib.Math.max.code 2 (some .int), Cond.methodLink RX4 60 yX1_reckonOwn, Cond.instanceMethod yX1_reckonOwn, Cond.selects RX1 yX1_reckonOwn yX1_reckonOwn, Cond.initialized RX1, Cond.code yX1_reckonOwn cX1_reckonOwn 1 (some .int), Cond.fieldLink RX1 11 "WallStones$Machine" "number" "[I", Cond.methodLink RX1 67 yX1_reckon, Cond.instanceMethod yX1_reckon, Cond.selects RX1 yX1_reckon yX1_reckon, Cond.code yX1_reckon cX1_reckon 4 (some .int), Cond.fieldLink RX1 18 "WallStones$Machine" "reckoning" "[I", Cond.fieldLink RX1 49 "WallStones$Machine" "stallTurn" "I", Cond.methodLink RX1 71 yX1_turnOfRelease, Cond.instanceMethod yX1_turnOfRelease, Cond.selects RX1 yX1_turnOfRelease yX1_turnOfRelease]
def wsX4_loose_r3 : List Cond := [Cond.code yX1_turnOfRelease cX1_turnOfRelease 7 (some .int), Cond.constantLong RX1 58 (100), Cond.constantLong RX1 60 (2), Cond.constantLong RX1 65 (160), Cond.static yX4_up, Cond.code yX4_up cX4_up 4 (some .long), Cond.methodLink RX4 223 yJ9_floorDiv_f86c9, Cond.static yJ9_floorDiv_f86c9, Cond.initialized RJ9, Cond.code yJ9_floorDiv_f86c9 cJ9_floorDiv_f86c9 6 (some .long), Cond.methodLink RX1 74 yX1_reckonRelease, Cond.instanceMethod yX1_reckonRelease, Cond.selects RX1 yX1_reckonRelease yX1_reckonRelease, Cond.code yX1_reckonRelease cX1_reckonRelease 10 none, Cond.fieldLink RX1 15 "WallStones$Machine" "given" "[I", Cond.constantLong RX1 82 (8000), Cond.fieldLink RX1 41 "WallStones$Machine" "windNow" "I", Cond.methodLink RX1 87 Lib.Math.max.name, Cond.methodLink RX1 78 yX1_speedFor, Cond.instanceMethod yX1_speedFor, Cond.selects RX1 yX1_speedFor yX1_speedFor, Cond.code yX1_speedFor cX1_speedFor 9 (some .long), Cond.static yX4_down, Cond.code yX4_down cX4_down 4 (some .long)]
def wsX4_loose_r4 : List Cond := [Cond.static yX4_sineOf, Cond.code yX4_sineOf cX4_sineOf 5 (some .int), Cond.constantLong RX4 227 (4000), Cond.constantLong RX4 229 (40500), Cond.methodLink RX4 231 yX4_down, Cond.methodLink RX1 84 yX1_flightOf, Cond.instanceMethod yX1_flightOf, Cond.selects RX1 yX1_flightOf yX1_flightOf, Cond.code yX1_flightOf cX1_flightOf 5 (some .int), Cond.constantLong RX1 92 (20), Cond.constantLong RX1 94 (2000), Cond.methodLink RX1 96 Lib.MathLoose.max_long.x, Cond.static Lib.MathLoose.max_long.x, Cond.code Lib.MathLoose.max_long.x Lib.MathLoose.max_long.code 4 (some .long), Cond.constantLong RX1 98 (8), Cond.constantLong RX1 100 (25), Cond.constantLong RX1 102 (3), Cond.methodLink RX4 129 yX3_stands, Cond.instanceMethod yX3_stands, Cond.selects RX3 yX3_stands yX3_stands, Cond.code yX3_stands cX3_stands 3 (some .boolean), Cond.fieldLink RX3 15 "WallStones$Wall" "standing" "[I", Cond.methodLink RX3 35 yX3_has, Cond.methodLink RX3 39 yX3_holds]
def wsX4_loose_r5 : List Cond := [Cond.static yX3_holds, Cond.code yX3_holds cX3_holds 2 (some .boolean), Cond.methodLink RX4 194 yX1_forceAt, Cond.instanceMethod yX1_forceAt, Cond.selects RX1 yX1_forceAt yX1_forceAt, Cond.code yX1_forceAt cX1_forceAt 2 (some .int), Cond.constantLong RX1 113 (99), Cond.constantLong RX1 115 (500), Cond.methodLink RX1 117 Lib.MathLoose.min_long.x, Cond.static Lib.MathLoose.min_long.x, Cond.code Lib.MathLoose.min_long.x Lib.MathLoose.min_long.code 4 (some .long), Cond.methodLink RX4 139 yX3_strike, Cond.instanceMethod yX3_strike, Cond.selects RX3 yX3_strike yX3_strike, Cond.code yX3_strike cX3_strike 6 (some .int), Cond.fieldLink RX3 11 "WallStones$Wall" "strengths" "[I", Cond.fieldLink RX3 18 "WallStones$Wall" "propped" "[I", Cond.methodLink RX3 46 yX3_stands, Cond.methodLink RX3 49 yJ6_bitCount_0f7a4, Cond.static yJ6_bitCount_0f7a4, Cond.initialized RJ6, Cond.code yJ6_bitCount_0f7a4 cJ6_bitCount_0f7a4 1 (some .int), Cond.constant RJ6 265 (1431655765), Cond.constant RJ6 266 (858993459)]
def wsX4_loose_r6 : List Cond := [Cond.constant RJ6 267 (252645135), Cond.methodLink RX3 42 yX3_place, Cond.static yX3_place, Cond.code yX3_place cX3_place 2 (some .int), Cond.methodLink RX3 55 yX3_dropUnheld, Cond.instanceMethod yX3_dropUnheld, Cond.selects RX3 yX3_dropUnheld yX3_dropUnheld, Cond.code yX3_dropUnheld cX3_dropUnheld 3 none]
def wsX4_loose : List Cond := .code yX4_loose cX4_loose 5 (some .int) :: ((wsX4_loose_r1 ++ (wsX4_loose_r2 ++ (wsX4_loose_r3 ++ (wsX4_loose_r4 ++ (wsX4_loose_r5 ++ wsX4_loose_r6))))) ++ wsX40 ++ wsX30 ++ wsX20 ++ wsX10)
def wsX4_store : List Cond := .code yX4_store cX4_store 3 (some .int) :: ([.fieldLink RX4 33 "WallStones" "siege" "LWallStones$Siege;", .methodLink RX4 197 yX2_takes, .instanceMethod yX2_takes, .selects RX2 yX2_takes yX2_takes, .initialized RX2, .code yX2_takes cX2_takes 3 (some .boolean), .fieldLink RX2 23 "WallStones$Siege" "LEAST" "[I", .fieldLink RX2 26 "WallStones$Siege" "MOST" "[I", .static yX4_within, .initialized RX4, .code yX4_within cX4_within 3 (some .boolean), .methodLink RX4 198 yX2_put, .instanceMethod yX2_put, .selects RX2 yX2_put yX2_put, .code yX2_put cX2_put 4 (some .int), .fieldLink RX2 9 "WallStones$Siege" "stored" "[I", .methodLink RX2 29 yX2_takes] ++ wsX40 ++ wsX20)
def wsX4_wet : List Cond := .code yX4_wet cX4_wet 3 (some .int) :: ([.fieldLink RX4 33 "WallStones" "siege" "LWallStones$Siege;", .methodLink RX4 49 yX4_within, .static yX4_within, .initialized RX4, .code yX4_within cX4_within 3 (some .boolean), .methodLink RX4 199 yX2_putWet, .instanceMethod yX2_putWet, .selects RX2 yX2_putWet yX2_putWet, .initialized RX2, .code yX2_putWet cX2_putWet 3 none, .fieldLink RX2 15 "WallStones$Siege" "wetRow" "I", .fieldLink RX2 39 "WallStones$Siege" "wetBits" "I"] ++ wsX40 ++ wsX20)
def wsX4_lasts_r1 : List Cond := [Cond.fieldLink RX4 33 "WallStones" "siege" "LWallStones$Siege;", Cond.fieldLink RX4 10 "WallStones" "engine" "LWallStones$Machine;", Cond.methodLink RX4 49 yX4_within, Cond.static yX4_within, Cond.initialized RX4, Cond.code yX4_within cX4_within 3 (some .boolean), Cond.methodLink RX4 202 yX1_turnsOfShot, Cond.instanceMethod yX1_turnsOfShot, Cond.selects RX1 yX1_turnsOfShot yX1_turnsOfShot, Cond.initialized RX1, Cond.code yX1_turnsOfShot cX1_turnsOfShot 1 (some .int), Cond.fieldLink RX1 11 "WallStones$Machine" "number" "[I", Cond.constantLong RX1 52 (1000), Cond.static yX4_up, Cond.code yX4_up cX4_up 4 (some .long), Cond.methodLink RX4 223 yJ9_floorDiv_f86c9, Cond.static yJ9_floorDiv_f86c9, Cond.initialized RJ9, Cond.code yJ9_floorDiv_f86c9 cJ9_floorDiv_f86c9 6 (some .long), Cond.methodLink RX4 205 yX2_wholeDays, Cond.instanceMethod yX2_wholeDays, Cond.selects RX2 yX2_wholeDays yX2_wholeDays, Cond.initialized RX2, Cond.code yX2_wholeDays cX2_wholeDays 12 (some .int)]
def wsX4_lasts_r2 : List Cond := [Cond.fieldLink RX2 9 "WallStones$Siege" "stored" "[I", Cond.constantLong RX2 46 (4), Cond.methodLink RX2 42 yX2_isWet, Cond.instanceMethod yX2_isWet, Cond.selects RX2 yX2_isWet yX2_isWet, Cond.code yX2_isWet cX2_isWet 3 (some .boolean), Cond.fieldLink RX2 15 "WallStones$Siege" "wetRow" "I", Cond.fieldLink RX2 39 "WallStones$Siege" "wetBits" "I"]
def wsX4_lasts : List Cond := .code yX4_lasts cX4_lasts 2 (some .int) :: ((wsX4_lasts_r1 ++ wsX4_lasts_r2) ++ wsX40 ++ wsX10 ++ wsX20)
def wsX4_rate_r1 : List Cond := [Cond.fieldLink RX4 33 "WallStones" "siege" "LWallStones$Siege;", Cond.fieldLink RX4 10 "WallStones" "engine" "LWallStones$Machine;", Cond.methodLink RX4 49 yX4_within, Cond.static yX4_within, Cond.initialized RX4, Cond.code yX4_within cX4_within 3 (some .boolean), Cond.methodLink RX4 202 yX1_turnsOfShot, Cond.instanceMethod yX1_turnsOfShot, Cond.selects RX1 yX1_turnsOfShot yX1_turnsOfShot, Cond.initialized RX1, Cond.code yX1_turnsOfShot cX1_turnsOfShot 1 (some .int), Cond.fieldLink RX1 11 "WallStones$Machine" "number" "[I", Cond.constantLong RX1 52 (1000), Cond.static yX4_up, Cond.code yX4_up cX4_up 4 (some .long), Cond.methodLink RX4 223 yJ9_floorDiv_f86c9, Cond.static yJ9_floorDiv_f86c9, Cond.initialized RJ9, Cond.code yJ9_floorDiv_f86c9 cJ9_floorDiv_f86c9 6 (some .long), Cond.methodLink RX4 208 yX2_bestRate, Cond.instanceMethod yX2_bestRate, Cond.selects RX2 yX2_bestRate yX2_bestRate, Cond.initialized RX2, Cond.code yX2_bestRate cX2_bestRate 4 (some .int)]
def wsX4_rate_r2 : List Cond := [Cond.methodLink RX2 52 yX2_wholeDays, Cond.instanceMethod yX2_wholeDays, Cond.selects RX2 yX2_wholeDays yX2_wholeDays, Cond.code yX2_wholeDays cX2_wholeDays 12 (some .int), Cond.fieldLink RX2 9 "WallStones$Siege" "stored" "[I", Cond.constantLong RX2 46 (4), Cond.methodLink RX2 42 yX2_isWet, Cond.instanceMethod yX2_isWet, Cond.selects RX2 yX2_isWet yX2_isWet, Cond.code yX2_isWet cX2_isWet 3 (some .boolean), Cond.fieldLink RX2 15 "WallStones$Siege" "wetRow" "I", Cond.fieldLink RX2 39 "WallStones$Siege" "wetBits" "I"]
def wsX4_rate : List Cond := .code yX4_rate cX4_rate 2 (some .int) :: ((wsX4_rate_r1 ++ wsX4_rate_r2) ++ wsX40 ++ wsX10 ++ wsX20)
def wsX4_count_r1 : List Cond := [Cond.fieldLink RX4 37 "WallStones" "handling" "I", Cond.fieldLink RX4 26 "WallStones" "stones" "LWallStones$Wall;", Cond.fieldLink RX4 19 "WallStones" "book" "LWallStones$Book;", Cond.fieldLink RX4 183 "WallStones" "loosed" "I", Cond.fieldLink RX4 33 "WallStones" "siege" "LWallStones$Siege;", Cond.methodLink RX4 211 yX3_wide, Cond.instanceMethod yX3_wide, Cond.selects RX3 yX3_wide yX3_wide, Cond.initialized RX3, Cond.code yX3_wide cX3_wide 1 (some .int), Cond.fieldLink RX3 28 "WallStones$Wall" "columns" "I", Cond.methodLink RX4 214 yX3_high, Cond.instanceMethod yX3_high, Cond.selects RX3 yX3_high yX3_high, Cond.code yX3_high cX3_high 1 (some .int), Cond.fieldLink RX3 32 "WallStones$Wall" "rows" "I", Cond.methodLink RX4 217 yX3_standingCells, Cond.instanceMethod yX3_standingCells, Cond.selects RX3 yX3_standingCells yX3_standingCells, Cond.code yX3_standingCells cX3_standingCells 3 (some .int), Cond.fieldLink RX3 15 "WallStones$Wall" "standing" "[I", Cond.methodLink RX3 49 yJ6_bitCount_0f7a4, Cond.static yJ6_bitCount_0f7a4, Cond.initialized RJ6]
def wsX4_count_r2 : List Cond := [Cond.code yJ6_bitCount_0f7a4 cJ6_bitCount_0f7a4 1 (some .int), Cond.constant RJ6 265 (1431655765), Cond.constant RJ6 266 (858993459), Cond.constant RJ6 267 (252645135), Cond.methodLink RX4 90 yX0_told, Cond.instanceMethod yX0_told, Cond.selects RX0 yX0_told yX0_told, Cond.initialized RX0, Cond.code yX0_told cX0_told 1 (some .int), Cond.fieldLink RX0 33 "WallStones$Book" "shots" "I", Cond.methodLink RX4 181 yX2_stones, Cond.instanceMethod yX2_stones, Cond.selects RX2 yX2_stones yX2_stones, Cond.initialized RX2, Cond.code yX2_stones cX2_stones 1 (some .int), Cond.fieldLink RX2 9 "WallStones$Siege" "stored" "[I", Cond.methodLink RX4 220 yX3_openColumns, Cond.instanceMethod yX3_openColumns, Cond.selects RX3 yX3_openColumns yX3_openColumns, Cond.code yX3_openColumns cX3_openColumns 3 (some .int), Cond.methodLink RX3 62 yX3_isOpen, Cond.instanceMethod yX3_isOpen, Cond.selects RX3 yX3_isOpen yX3_isOpen, Cond.code yX3_isOpen cX3_isOpen 2 (some .boolean)]
def wsX4_count_r3 : List Cond := [Cond.fieldLink RX3 59 "WallStones$Wall" "levelNow" "I"]
def wsX4_count : List Cond := .code yX4_count cX4_count 2 (some .int) :: ((wsX4_count_r1 ++ (wsX4_count_r2 ++ wsX4_count_r3)) ++ wsX40 ++ wsX30 ++ wsX00 ++ wsX20)
def wsX4_trace : List Cond := .code yX4_trace cX4_trace 1 (some .long) :: ([.fieldLink RX4 67 "WallStones" "traced" "J"] ++ wsX40)
def wsX5_newWall : List Cond := .code yX5_newWall cX5_newWall 2 none :: ([.fieldLink RX5 29 "WallStonesModel" "stands" "[I", .fieldLink RX5 32 "WallStonesModel" "strength" "[I", .fieldLink RX5 35 "WallStonesModel" "propped" "[I"] ++ wsX50)
def wsX5_init_r1 : List Cond := [Cond.methodLink RX5 1 objectInit, Cond.instanceMethod objectInit, Cond.code objectInit ⟨#[0xb1]⟩ 1 none, Cond.arrayClass .int, Cond.fieldLink RX5 7 "WallStonesModel" "told" "[I", Cond.fieldLink RX5 13 "WallStonesModel" "spread" "I", Cond.fieldLink RX5 17 "WallStonesModel" "shotHook" "[I", Cond.fieldLink RX5 20 "WallStonesModel" "shotFell" "[I", Cond.fieldLink RX5 23 "WallStonesModel" "width" "I", Cond.fieldLink RX5 26 "WallStonesModel" "height" "I", Cond.fieldLink RX5 29 "WallStonesModel" "stands" "[I", Cond.fieldLink RX5 32 "WallStonesModel" "strength" "[I", Cond.fieldLink RX5 35 "WallStonesModel" "propped" "[I", Cond.fieldLink RX5 38 "WallStonesModel" "scatter" "[I", Cond.fieldLink RX5 41 "WallStonesModel" "store" "[I", Cond.fieldLink RX5 44 "WallStonesModel" "wetMany" "I", Cond.fieldLink RX5 47 "WallStonesModel" "book" "[I", Cond.fieldLink RX5 50 "WallStonesModel" "isLeft" "[I", Cond.fieldLink RX5 53 "WallStonesModel" "keptStands" "[I", Cond.fieldLink RX5 56 "WallStonesModel" "keptStrength" "[I", Cond.fieldLink RX5 59 "WallStonesModel" "keptPropped" "[I", Cond.fieldLink RX5 62 "WallStonesModel" "cost" "[I", Cond.fieldLink RX5 65 "WallStonesModel" "then" "[I", Cond.methodLink RX5 68 yX5_newWall]
def wsX5_init_r2 : List Cond := [Cond.instanceMethod yX5_newWall, Cond.selects RX5 yX5_newWall yX5_newWall, Cond.initialized RX5, Cond.code yX5_newWall cX5_newWall 2 none]
def wsX5_init : List Cond := .code yX5_init cX5_init 1 none :: ((wsX5_init_r1 ++ wsX5_init_r2) ++ wsX50)
def wsX5_in : List Cond := .code yX5_in cX5_in 3 (some .boolean) :: ([])
def wsX5_size : List Cond := .code yX5_size cX5_size 1 (some .int) :: ([])
def wsX5_least : List Cond := .code yX5_least cX5_least 1 (some .int) :: ([])
def wsX5_most : List Cond := .code yX5_most cX5_most 1 (some .int) :: ([])
def wsX5_set : List Cond := .code yX5_set cX5_set 4 (some .int) :: ([.fieldLink RX5 7 "WallStonesModel" "told" "[I", .fieldLink RX5 82 "WallStonesModel" "state" "I", .methodLink RX5 71 yX5_in, .static yX5_in, .initialized RX5, .code yX5_in cX5_in 3 (some .boolean), .methodLink RX5 75 yX5_least, .static yX5_least, .code yX5_least cX5_least 1 (some .int), .methodLink RX5 79 yX5_most, .static yX5_most, .code yX5_most cX5_most 1 (some .int)] ++ wsX50)
def wsX5_wind : List Cond := .code yX5_wind cX5_wind 3 (some .int) :: ([.fieldLink RX5 85 "WallStonesModel" "windNow" "I", .methodLink RX5 71 yX5_in, .static yX5_in, .initialized RX5, .code yX5_in cX5_in 3 (some .boolean)] ++ wsX50)
def wsX5_sineOf : List Cond := .code yX5_sineOf cX5_sineOf 3 (some .int) :: ([.constant RX5 91 (40500), .methodLink RX5 88 yX5_size, .static yX5_size, .initialized RX5, .code yX5_size cX5_size 1 (some .int)])
def wsX5_sine : List Cond := .code yX5_sine cX5_sine 2 (some .int) :: ([.methodLink RX5 71 yX5_in, .static yX5_in, .initialized RX5, .code yX5_in cX5_in 3 (some .boolean), .methodLink RX5 92 yX5_sineOf, .static yX5_sineOf, .code yX5_sineOf cX5_sineOf 3 (some .int), .constant RX5 91 (40500), .methodLink RX5 88 yX5_size, .static yX5_size, .code yX5_size cX5_size 1 (some .int)])
def wsX5_givenAt : List Cond := .code yX5_givenAt cX5_givenAt 6 (some .int) :: ([.fieldLink RX5 7 "WallStonesModel" "told" "[I", .constantLong RX5 95 (1000), .methodLink RX5 92 yX5_sineOf, .static yX5_sineOf, .initialized RX5, .code yX5_sineOf cX5_sineOf 3 (some .int), .constant RX5 91 (40500), .methodLink RX5 88 yX5_size, .static yX5_size, .code yX5_size cX5_size 1 (some .int)] ++ wsX50)
def wsX5_flightOf : List Cond := .code yX5_flightOf cX5_flightOf 4 (some .int) :: ([.fieldLink RX5 7 "WallStonesModel" "told" "[I"] ++ wsX50)
def wsX5_step_r1 : List Cond := [Cond.fieldLink RX5 97 "WallStonesModel" "letsGo" "I", Cond.fieldLink RX5 100 "WallStonesModel" "stalls" "I", Cond.fieldLink RX5 103 "WallStonesModel" "given" "I", Cond.fieldLink RX5 106 "WallStonesModel" "rise" "I", Cond.fieldLink RX5 109 "WallStonesModel" "speed" "I", Cond.fieldLink RX5 112 "WallStonesModel" "reach" "I", Cond.fieldLink RX5 115 "WallStonesModel" "range" "I", Cond.fieldLink RX5 7 "WallStonesModel" "told" "[I", Cond.constantLong RX5 121 (2), Cond.constantLong RX5 123 (8000), Cond.fieldLink RX5 85 "WallStonesModel" "windNow" "I", Cond.methodLink RX5 118 yX5_givenAt, Cond.instanceMethod yX5_givenAt, Cond.selects RX5 yX5_givenAt yX5_givenAt, Cond.initialized RX5, Cond.code yX5_givenAt cX5_givenAt 6 (some .int), Cond.constantLong RX5 95 (1000), Cond.methodLink RX5 92 yX5_sineOf, Cond.static yX5_sineOf, Cond.code yX5_sineOf cX5_sineOf 3 (some .int), Cond.constant RX5 91 (40500), Cond.methodLink RX5 88 yX5_size, Cond.static yX5_size, Cond.code yX5_size cX5_size 1 (some .int)]
def wsX5_step_r2 : List Cond := [Cond.methodLink RX5 71 yX5_in, Cond.static yX5_in, Cond.code yX5_in cX5_in 3 (some .boolean), Cond.methodLink RX5 125 yX5_flightOf, Cond.instanceMethod yX5_flightOf, Cond.selects RX5 yX5_flightOf yX5_flightOf, Cond.code yX5_flightOf cX5_flightOf 4 (some .int)]
def wsX5_step : List Cond := .code yX5_step cX5_step 6 none :: ((wsX5_step_r1 ++ wsX5_step_r2) ++ wsX50)
def wsX5_throwing_r1 : List Cond := [Cond.fieldLink RX5 7 "WallStonesModel" "told" "[I", Cond.fieldLink RX5 97 "WallStonesModel" "letsGo" "I", Cond.fieldLink RX5 100 "WallStonesModel" "stalls" "I", Cond.fieldLink RX5 103 "WallStonesModel" "given" "I", Cond.fieldLink RX5 106 "WallStonesModel" "rise" "I", Cond.fieldLink RX5 109 "WallStonesModel" "speed" "I", Cond.fieldLink RX5 112 "WallStonesModel" "reach" "I", Cond.fieldLink RX5 115 "WallStonesModel" "range" "I", Cond.methodLink RX5 129 yX5_step, Cond.instanceMethod yX5_step, Cond.selects RX5 yX5_step yX5_step, Cond.initialized RX5, Cond.code yX5_step cX5_step 6 none, Cond.constantLong RX5 121 (2), Cond.constantLong RX5 123 (8000), Cond.fieldLink RX5 85 "WallStonesModel" "windNow" "I", Cond.methodLink RX5 118 yX5_givenAt, Cond.instanceMethod yX5_givenAt, Cond.selects RX5 yX5_givenAt yX5_givenAt, Cond.code yX5_givenAt cX5_givenAt 6 (some .int), Cond.constantLong RX5 95 (1000), Cond.methodLink RX5 92 yX5_sineOf, Cond.static yX5_sineOf, Cond.code yX5_sineOf cX5_sineOf 3 (some .int)]
def wsX5_throwing_r2 : List Cond := [Cond.constant RX5 91 (40500), Cond.methodLink RX5 88 yX5_size, Cond.static yX5_size, Cond.code yX5_size cX5_size 1 (some .int), Cond.methodLink RX5 71 yX5_in, Cond.static yX5_in, Cond.code yX5_in cX5_in 3 (some .boolean), Cond.methodLink RX5 125 yX5_flightOf, Cond.instanceMethod yX5_flightOf, Cond.selects RX5 yX5_flightOf yX5_flightOf, Cond.code yX5_flightOf cX5_flightOf 4 (some .int)]
def wsX5_throwing : List Cond := .code yX5_throwing cX5_throwing 2 (some .int) :: ((wsX5_throwing_r1 ++ wsX5_throwing_r2) ++ wsX50)
def wsX5_flight : List Cond := .code yX5_flight cX5_flight 3 (some .int) :: ([.fieldLink RX5 133 "WallStonesModel" "trace" "J", .constantLong RX5 137 (11), .constantLong RX5 139 (111), .methodLink RX5 71 yX5_in, .static yX5_in, .initialized RX5, .code yX5_in cX5_in 3 (some .boolean), .methodLink RX5 125 yX5_flightOf, .instanceMethod yX5_flightOf, .selects RX5 yX5_flightOf yX5_flightOf, .code yX5_flightOf cX5_flightOf 4 (some .int), .fieldLink RX5 7 "WallStonesModel" "told" "[I"] ++ wsX50)
def wsX5_tune_r1 : List Cond := [Cond.fieldLink RX5 115 "WallStonesModel" "range" "I", Cond.methodLink RX5 71 yX5_in, Cond.static yX5_in, Cond.initialized RX5, Cond.code yX5_in cX5_in 3 (some .boolean), Cond.methodLink RX5 129 yX5_step, Cond.instanceMethod yX5_step, Cond.selects RX5 yX5_step yX5_step, Cond.code yX5_step cX5_step 6 none, Cond.fieldLink RX5 97 "WallStonesModel" "letsGo" "I", Cond.fieldLink RX5 100 "WallStonesModel" "stalls" "I", Cond.fieldLink RX5 103 "WallStonesModel" "given" "I", Cond.fieldLink RX5 106 "WallStonesModel" "rise" "I", Cond.fieldLink RX5 109 "WallStonesModel" "speed" "I", Cond.fieldLink RX5 112 "WallStonesModel" "reach" "I", Cond.fieldLink RX5 7 "WallStonesModel" "told" "[I", Cond.constantLong RX5 121 (2), Cond.constantLong RX5 123 (8000), Cond.fieldLink RX5 85 "WallStonesModel" "windNow" "I", Cond.methodLink RX5 118 yX5_givenAt, Cond.instanceMethod yX5_givenAt, Cond.selects RX5 yX5_givenAt yX5_givenAt, Cond.code yX5_givenAt cX5_givenAt 6 (some .int), Cond.constantLong RX5 95 (1000)]
def wsX5_tune_r2 : List Cond := [Cond.methodLink RX5 92 yX5_sineOf, Cond.static yX5_sineOf, Cond.code yX5_sineOf cX5_sineOf 3 (some .int), Cond.constant RX5 91 (40500), Cond.methodLink RX5 88 yX5_size, Cond.static yX5_size, Cond.code yX5_size cX5_size 1 (some .int), Cond.methodLink RX5 125 yX5_flightOf, Cond.instanceMethod yX5_flightOf, Cond.selects RX5 yX5_flightOf yX5_flightOf, Cond.code yX5_flightOf cX5_flightOf 4 (some .int)]
def wsX5_tune : List Cond := .code yX5_tune cX5_tune 10 (some .int) :: ((wsX5_tune_r1 ++ wsX5_tune_r2) ++ wsX50)
def wsX5_spread : List Cond := .code yX5_spread cX5_spread 3 (some .int) :: ([.fieldLink RX5 13 "WallStonesModel" "spread" "I", .methodLink RX5 71 yX5_in, .static yX5_in, .initialized RX5, .code yX5_in cX5_in 3 (some .boolean)] ++ wsX50)
def wsX5_shot : List Cond := .code yX5_shot cX5_shot 3 (some .int) :: ([.fieldLink RX5 141 "WallStonesModel" "shots" "I", .fieldLink RX5 17 "WallStonesModel" "shotHook" "[I", .fieldLink RX5 20 "WallStonesModel" "shotFell" "[I", .methodLink RX5 71 yX5_in, .static yX5_in, .initialized RX5, .code yX5_in cX5_in 3 (some .boolean)] ++ wsX50)
def wsX5_clear : List Cond := .code yX5_clear cX5_clear 2 (some .int) :: ([.fieldLink RX5 141 "WallStonesModel" "shots" "I"] ++ wsX50)
def wsX5_lands : List Cond := .code yX5_lands cX5_lands 2 (some .int) :: ([])
def wsX5_findLeft_r1 : List Cond := [Cond.fieldLink RX5 7 "WallStonesModel" "told" "[I", Cond.fieldLink RX5 47 "WallStonesModel" "book" "[I", Cond.fieldLink RX5 115 "WallStonesModel" "range" "I", Cond.fieldLink RX5 50 "WallStonesModel" "isLeft" "[I", Cond.fieldLink RX5 141 "WallStonesModel" "shots" "I", Cond.fieldLink RX5 17 "WallStonesModel" "shotHook" "[I", Cond.fieldLink RX5 20 "WallStonesModel" "shotFell" "[I", Cond.fieldLink RX5 13 "WallStonesModel" "spread" "I", Cond.methodLink RX5 129 yX5_step, Cond.instanceMethod yX5_step, Cond.selects RX5 yX5_step yX5_step, Cond.initialized RX5, Cond.code yX5_step cX5_step 6 none, Cond.fieldLink RX5 97 "WallStonesModel" "letsGo" "I", Cond.fieldLink RX5 100 "WallStonesModel" "stalls" "I", Cond.fieldLink RX5 103 "WallStonesModel" "given" "I", Cond.fieldLink RX5 106 "WallStonesModel" "rise" "I", Cond.fieldLink RX5 109 "WallStonesModel" "speed" "I", Cond.fieldLink RX5 112 "WallStonesModel" "reach" "I", Cond.constantLong RX5 121 (2), Cond.constantLong RX5 123 (8000), Cond.fieldLink RX5 85 "WallStonesModel" "windNow" "I", Cond.methodLink RX5 118 yX5_givenAt, Cond.instanceMethod yX5_givenAt]
def wsX5_findLeft_r2 : List Cond := [Cond.selects RX5 yX5_givenAt yX5_givenAt, Cond.code yX5_givenAt cX5_givenAt 6 (some .int), Cond.constantLong RX5 95 (1000), Cond.methodLink RX5 92 yX5_sineOf, Cond.static yX5_sineOf, Cond.code yX5_sineOf cX5_sineOf 3 (some .int), Cond.constant RX5 91 (40500), Cond.methodLink RX5 88 yX5_size, Cond.static yX5_size, Cond.code yX5_size cX5_size 1 (some .int), Cond.methodLink RX5 71 yX5_in, Cond.static yX5_in, Cond.code yX5_in cX5_in 3 (some .boolean), Cond.methodLink RX5 125 yX5_flightOf, Cond.instanceMethod yX5_flightOf, Cond.selects RX5 yX5_flightOf yX5_flightOf, Cond.code yX5_flightOf cX5_flightOf 4 (some .int), Cond.methodLink RX5 144 yX5_lands, Cond.static yX5_lands, Cond.code yX5_lands cX5_lands 2 (some .int)]
def wsX5_findLeft : List Cond := .code yX5_findLeft cX5_findLeft 5 (some .int) :: ((wsX5_findLeft_r1 ++ wsX5_findLeft_r2) ++ wsX50)
def wsX5_left_r1 : List Cond := [Cond.methodLink RX5 147 yX5_findLeft, Cond.instanceMethod yX5_findLeft, Cond.selects RX5 yX5_findLeft yX5_findLeft, Cond.initialized RX5, Cond.code yX5_findLeft cX5_findLeft 5 (some .int), Cond.fieldLink RX5 7 "WallStonesModel" "told" "[I", Cond.fieldLink RX5 47 "WallStonesModel" "book" "[I", Cond.fieldLink RX5 115 "WallStonesModel" "range" "I", Cond.fieldLink RX5 50 "WallStonesModel" "isLeft" "[I", Cond.fieldLink RX5 141 "WallStonesModel" "shots" "I", Cond.fieldLink RX5 17 "WallStonesModel" "shotHook" "[I", Cond.fieldLink RX5 20 "WallStonesModel" "shotFell" "[I", Cond.fieldLink RX5 13 "WallStonesModel" "spread" "I", Cond.methodLink RX5 129 yX5_step, Cond.instanceMethod yX5_step, Cond.selects RX5 yX5_step yX5_step, Cond.code yX5_step cX5_step 6 none, Cond.fieldLink RX5 97 "WallStonesModel" "letsGo" "I", Cond.fieldLink RX5 100 "WallStonesModel" "stalls" "I", Cond.fieldLink RX5 103 "WallStonesModel" "given" "I", Cond.fieldLink RX5 106 "WallStonesModel" "rise" "I", Cond.fieldLink RX5 109 "WallStonesModel" "speed" "I", Cond.fieldLink RX5 112 "WallStonesModel" "reach" "I", Cond.constantLong RX5 121 (2)]
def wsX5_left_r2 : List Cond := [Cond.constantLong RX5 123 (8000), Cond.fieldLink RX5 85 "WallStonesModel" "windNow" "I", Cond.methodLink RX5 118 yX5_givenAt, Cond.instanceMethod yX5_givenAt, Cond.selects RX5 yX5_givenAt yX5_givenAt, Cond.code yX5_givenAt cX5_givenAt 6 (some .int), Cond.constantLong RX5 95 (1000), Cond.methodLink RX5 92 yX5_sineOf, Cond.static yX5_sineOf, Cond.code yX5_sineOf cX5_sineOf 3 (some .int), Cond.constant RX5 91 (40500), Cond.methodLink RX5 88 yX5_size, Cond.static yX5_size, Cond.code yX5_size cX5_size 1 (some .int), Cond.methodLink RX5 71 yX5_in, Cond.static yX5_in, Cond.code yX5_in cX5_in 3 (some .boolean), Cond.methodLink RX5 125 yX5_flightOf, Cond.instanceMethod yX5_flightOf, Cond.selects RX5 yX5_flightOf yX5_flightOf, Cond.code yX5_flightOf cX5_flightOf 4 (some .int), Cond.methodLink RX5 144 yX5_lands, Cond.static yX5_lands, Cond.code yX5_lands cX5_lands 2 (some .int)]
def wsX5_left : List Cond := .code yX5_left cX5_left 1 (some .int) :: ((wsX5_left_r1 ++ wsX5_left_r2) ++ wsX50)
def wsX5_spanOf : List Cond := .code yX5_spanOf cX5_spanOf 6 (some .int) :: ([.fieldLink RX5 50 "WallStonesModel" "isLeft" "[I", .fieldLink RX5 47 "WallStonesModel" "book" "[I", .methodLink RX5 144 yX5_lands, .static yX5_lands, .initialized RX5, .code yX5_lands cX5_lands 2 (some .int)] ++ wsX50)
def wsX5_span_r1 : List Cond := [Cond.methodLink RX5 71 yX5_in, Cond.static yX5_in, Cond.initialized RX5, Cond.code yX5_in cX5_in 3 (some .boolean), Cond.methodLink RX5 147 yX5_findLeft, Cond.instanceMethod yX5_findLeft, Cond.selects RX5 yX5_findLeft yX5_findLeft, Cond.code yX5_findLeft cX5_findLeft 5 (some .int), Cond.fieldLink RX5 7 "WallStonesModel" "told" "[I", Cond.fieldLink RX5 47 "WallStonesModel" "book" "[I", Cond.fieldLink RX5 115 "WallStonesModel" "range" "I", Cond.fieldLink RX5 50 "WallStonesModel" "isLeft" "[I", Cond.fieldLink RX5 141 "WallStonesModel" "shots" "I", Cond.fieldLink RX5 17 "WallStonesModel" "shotHook" "[I", Cond.fieldLink RX5 20 "WallStonesModel" "shotFell" "[I", Cond.fieldLink RX5 13 "WallStonesModel" "spread" "I", Cond.methodLink RX5 129 yX5_step, Cond.instanceMethod yX5_step, Cond.selects RX5 yX5_step yX5_step, Cond.code yX5_step cX5_step 6 none, Cond.fieldLink RX5 97 "WallStonesModel" "letsGo" "I", Cond.fieldLink RX5 100 "WallStonesModel" "stalls" "I", Cond.fieldLink RX5 103 "WallStonesModel" "given" "I", Cond.fieldLink RX5 106 "WallStonesModel" "rise" "I"]
def wsX5_span_r2 : List Cond := [Cond.fieldLink RX5 109 "WallStonesModel" "speed" "I", Cond.fieldLink RX5 112 "WallStonesModel" "reach" "I", Cond.constantLong RX5 121 (2), Cond.constantLong RX5 123 (8000), Cond.fieldLink RX5 85 "WallStonesModel" "windNow" "I", Cond.methodLink RX5 118 yX5_givenAt, Cond.instanceMethod yX5_givenAt, Cond.selects RX5 yX5_givenAt yX5_givenAt, Cond.code yX5_givenAt cX5_givenAt 6 (some .int), Cond.constantLong RX5 95 (1000), Cond.methodLink RX5 92 yX5_sineOf, Cond.static yX5_sineOf, Cond.code yX5_sineOf cX5_sineOf 3 (some .int), Cond.constant RX5 91 (40500), Cond.methodLink RX5 88 yX5_size, Cond.static yX5_size, Cond.code yX5_size cX5_size 1 (some .int), Cond.methodLink RX5 125 yX5_flightOf, Cond.instanceMethod yX5_flightOf, Cond.selects RX5 yX5_flightOf yX5_flightOf, Cond.code yX5_flightOf cX5_flightOf 4 (some .int), Cond.methodLink RX5 144 yX5_lands, Cond.static yX5_lands, Cond.code yX5_lands cX5_lands 2 (some .int)]
def wsX5_span_r3 : List Cond := [Cond.methodLink RX5 151 yX5_spanOf, Cond.instanceMethod yX5_spanOf, Cond.selects RX5 yX5_spanOf yX5_spanOf, Cond.code yX5_spanOf cX5_spanOf 6 (some .int)]
def wsX5_span : List Cond := .code yX5_span cX5_span 3 (some .int) :: ((wsX5_span_r1 ++ (wsX5_span_r2 ++ wsX5_span_r3)) ++ wsX50)
def wsX5_next_r1 : List Cond := [Cond.fieldLink RX5 47 "WallStonesModel" "book" "[I", Cond.methodLink RX5 147 yX5_findLeft, Cond.instanceMethod yX5_findLeft, Cond.selects RX5 yX5_findLeft yX5_findLeft, Cond.initialized RX5, Cond.code yX5_findLeft cX5_findLeft 5 (some .int), Cond.fieldLink RX5 7 "WallStonesModel" "told" "[I", Cond.fieldLink RX5 115 "WallStonesModel" "range" "I", Cond.fieldLink RX5 50 "WallStonesModel" "isLeft" "[I", Cond.fieldLink RX5 141 "WallStonesModel" "shots" "I", Cond.fieldLink RX5 17 "WallStonesModel" "shotHook" "[I", Cond.fieldLink RX5 20 "WallStonesModel" "shotFell" "[I", Cond.fieldLink RX5 13 "WallStonesModel" "spread" "I", Cond.methodLink RX5 129 yX5_step, Cond.instanceMethod yX5_step, Cond.selects RX5 yX5_step yX5_step, Cond.code yX5_step cX5_step 6 none, Cond.fieldLink RX5 97 "WallStonesModel" "letsGo" "I", Cond.fieldLink RX5 100 "WallStonesModel" "stalls" "I", Cond.fieldLink RX5 103 "WallStonesModel" "given" "I", Cond.fieldLink RX5 106 "WallStonesModel" "rise" "I", Cond.fieldLink RX5 109 "WallStonesModel" "speed" "I", Cond.fieldLink RX5 112 "WallStonesModel" "reach" "I", Cond.constantLong RX5 121 (2)]
def wsX5_next_r2 : List Cond := [Cond.constantLong RX5 123 (8000), Cond.fieldLink RX5 85 "WallStonesModel" "windNow" "I", Cond.methodLink RX5 118 yX5_givenAt, Cond.instanceMethod yX5_givenAt, Cond.selects RX5 yX5_givenAt yX5_givenAt, Cond.code yX5_givenAt cX5_givenAt 6 (some .int), Cond.constantLong RX5 95 (1000), Cond.methodLink RX5 92 yX5_sineOf, Cond.static yX5_sineOf, Cond.code yX5_sineOf cX5_sineOf 3 (some .int), Cond.constant RX5 91 (40500), Cond.methodLink RX5 88 yX5_size, Cond.static yX5_size, Cond.code yX5_size cX5_size 1 (some .int), Cond.methodLink RX5 71 yX5_in, Cond.static yX5_in, Cond.code yX5_in cX5_in 3 (some .boolean), Cond.methodLink RX5 125 yX5_flightOf, Cond.instanceMethod yX5_flightOf, Cond.selects RX5 yX5_flightOf yX5_flightOf, Cond.code yX5_flightOf cX5_flightOf 4 (some .int), Cond.methodLink RX5 144 yX5_lands, Cond.static yX5_lands, Cond.code yX5_lands cX5_lands 2 (some .int)]
def wsX5_next_r3 : List Cond := [Cond.methodLink RX5 151 yX5_spanOf, Cond.instanceMethod yX5_spanOf, Cond.selects RX5 yX5_spanOf yX5_spanOf, Cond.code yX5_spanOf cX5_spanOf 6 (some .int)]
def wsX5_next : List Cond := .code yX5_next cX5_next 5 (some .int) :: ((wsX5_next_r1 ++ (wsX5_next_r2 ++ wsX5_next_r3)) ++ wsX50)
def wsX5_surest_r1 : List Cond := [Cond.fieldLink RX5 47 "WallStonesModel" "book" "[I", Cond.methodLink RX5 71 yX5_in, Cond.static yX5_in, Cond.initialized RX5, Cond.code yX5_in cX5_in 3 (some .boolean), Cond.methodLink RX5 147 yX5_findLeft, Cond.instanceMethod yX5_findLeft, Cond.selects RX5 yX5_findLeft yX5_findLeft, Cond.code yX5_findLeft cX5_findLeft 5 (some .int), Cond.fieldLink RX5 7 "WallStonesModel" "told" "[I", Cond.fieldLink RX5 115 "WallStonesModel" "range" "I", Cond.fieldLink RX5 50 "WallStonesModel" "isLeft" "[I", Cond.fieldLink RX5 141 "WallStonesModel" "shots" "I", Cond.fieldLink RX5 17 "WallStonesModel" "shotHook" "[I", Cond.fieldLink RX5 20 "WallStonesModel" "shotFell" "[I", Cond.fieldLink RX5 13 "WallStonesModel" "spread" "I", Cond.methodLink RX5 129 yX5_step, Cond.instanceMethod yX5_step, Cond.selects RX5 yX5_step yX5_step, Cond.code yX5_step cX5_step 6 none, Cond.fieldLink RX5 97 "WallStonesModel" "letsGo" "I", Cond.fieldLink RX5 100 "WallStonesModel" "stalls" "I", Cond.fieldLink RX5 103 "WallStonesModel" "given" "I", Cond.fieldLink RX5 106 "WallStonesModel" "rise" "I"]
def wsX5_surest_r2 : List Cond := [Cond.fieldLink RX5 109 "WallStonesModel" "speed" "I", Cond.fieldLink RX5 112 "WallStonesModel" "reach" "I", Cond.constantLong RX5 121 (2), Cond.constantLong RX5 123 (8000), Cond.fieldLink RX5 85 "WallStonesModel" "windNow" "I", Cond.methodLink RX5 118 yX5_givenAt, Cond.instanceMethod yX5_givenAt, Cond.selects RX5 yX5_givenAt yX5_givenAt, Cond.code yX5_givenAt cX5_givenAt 6 (some .int), Cond.constantLong RX5 95 (1000), Cond.methodLink RX5 92 yX5_sineOf, Cond.static yX5_sineOf, Cond.code yX5_sineOf cX5_sineOf 3 (some .int), Cond.constant RX5 91 (40500), Cond.methodLink RX5 88 yX5_size, Cond.static yX5_size, Cond.code yX5_size cX5_size 1 (some .int), Cond.methodLink RX5 125 yX5_flightOf, Cond.instanceMethod yX5_flightOf, Cond.selects RX5 yX5_flightOf yX5_flightOf, Cond.code yX5_flightOf cX5_flightOf 4 (some .int), Cond.methodLink RX5 144 yX5_lands, Cond.static yX5_lands, Cond.code yX5_lands cX5_lands 2 (some .int)]
def wsX5_surest_r3 : List Cond := [Cond.methodLink RX5 151 yX5_spanOf, Cond.instanceMethod yX5_spanOf, Cond.selects RX5 yX5_spanOf yX5_spanOf, Cond.code yX5_spanOf cX5_spanOf 6 (some .int)]
def wsX5_surest : List Cond := .code yX5_surest cX5_surest 9 (some .int) :: ((wsX5_surest_r1 ++ (wsX5_surest_r2 ++ wsX5_surest_r3)) ++ wsX50)
def wsX5_wall : List Cond := .code yX5_wall cX5_wall 3 (some .int) :: ([.fieldLink RX5 23 "WallStonesModel" "width" "I", .fieldLink RX5 26 "WallStonesModel" "height" "I", .methodLink RX5 71 yX5_in, .static yX5_in, .initialized RX5, .code yX5_in cX5_in 3 (some .boolean), .methodLink RX5 68 yX5_newWall, .instanceMethod yX5_newWall, .selects RX5 yX5_newWall yX5_newWall, .code yX5_newWall cX5_newWall 2 none, .fieldLink RX5 29 "WallStonesModel" "stands" "[I", .fieldLink RX5 32 "WallStonesModel" "strength" "[I", .fieldLink RX5 35 "WallStonesModel" "propped" "[I"] ++ wsX50)
def wsX5_isCell : List Cond := .code yX5_isCell cX5_isCell 3 (some .boolean) :: ([.fieldLink RX5 23 "WallStonesModel" "width" "I", .fieldLink RX5 26 "WallStonesModel" "height" "I", .methodLink RX5 71 yX5_in, .static yX5_in, .initialized RX5, .code yX5_in cX5_in 3 (some .boolean)] ++ wsX50)
def wsX5_strength : List Cond := .code yX5_strength cX5_strength 6 (some .int) :: ([.fieldLink RX5 23 "WallStonesModel" "width" "I", .fieldLink RX5 29 "WallStonesModel" "stands" "[I", .fieldLink RX5 32 "WallStonesModel" "strength" "[I", .methodLink RX5 155 yX5_isCell, .instanceMethod yX5_isCell, .selects RX5 yX5_isCell yX5_isCell, .initialized RX5, .code yX5_isCell cX5_isCell 3 (some .boolean), .fieldLink RX5 26 "WallStonesModel" "height" "I", .methodLink RX5 71 yX5_in, .static yX5_in, .code yX5_in cX5_in 3 (some .boolean)] ++ wsX50)
def wsX5_prop : List Cond := .code yX5_prop cX5_prop 5 (some .int) :: ([.fieldLink RX5 23 "WallStonesModel" "width" "I", .fieldLink RX5 29 "WallStonesModel" "stands" "[I", .fieldLink RX5 35 "WallStonesModel" "propped" "[I", .methodLink RX5 155 yX5_isCell, .instanceMethod yX5_isCell, .selects RX5 yX5_isCell yX5_isCell, .initialized RX5, .code yX5_isCell cX5_isCell 3 (some .boolean), .fieldLink RX5 26 "WallStonesModel" "height" "I", .methodLink RX5 71 yX5_in, .static yX5_in, .code yX5_in cX5_in 3 (some .boolean)] ++ wsX50)
def wsX5_keep : List Cond := .code yX5_keep cX5_keep 2 none :: ([.fieldLink RX5 53 "WallStonesModel" "keptStands" "[I", .fieldLink RX5 29 "WallStonesModel" "stands" "[I", .fieldLink RX5 56 "WallStonesModel" "keptStrength" "[I", .fieldLink RX5 32 "WallStonesModel" "strength" "[I", .fieldLink RX5 59 "WallStonesModel" "keptPropped" "[I", .fieldLink RX5 35 "WallStonesModel" "propped" "[I"] ++ wsX50)
def wsX5_giveBack : List Cond := .code yX5_giveBack cX5_giveBack 2 none :: ([.fieldLink RX5 29 "WallStonesModel" "stands" "[I", .fieldLink RX5 53 "WallStonesModel" "keptStands" "[I", .fieldLink RX5 32 "WallStonesModel" "strength" "[I", .fieldLink RX5 56 "WallStonesModel" "keptStrength" "[I", .fieldLink RX5 35 "WallStonesModel" "propped" "[I", .fieldLink RX5 59 "WallStonesModel" "keptPropped" "[I"] ++ wsX50)
def wsX5_strike : List Cond := .code yX5_strike cX5_strike 8 (some .int) :: ([.fieldLink RX5 29 "WallStonesModel" "stands" "[I", .fieldLink RX5 23 "WallStonesModel" "width" "I", .fieldLink RX5 32 "WallStonesModel" "strength" "[I", .fieldLink RX5 35 "WallStonesModel" "propped" "[I", .fieldLink RX5 26 "WallStonesModel" "height" "I", .methodLink RX5 155 yX5_isCell, .instanceMethod yX5_isCell, .selects RX5 yX5_isCell yX5_isCell, .initialized RX5, .code yX5_isCell cX5_isCell 3 (some .boolean), .methodLink RX5 71 yX5_in, .static yX5_in, .code yX5_in cX5_in 3 (some .boolean)] ++ wsX50)
def wsX5_isForce : List Cond := .code yX5_isForce cX5_isForce 1 (some .boolean) :: ([.methodLink RX5 71 yX5_in, .static yX5_in, .initialized RX5, .code yX5_in cX5_in 3 (some .boolean)])
def wsX5_hit : List Cond := .code yX5_hit cX5_hit 4 (some .int) :: ([.fieldLink RX5 29 "WallStonesModel" "stands" "[I", .fieldLink RX5 23 "WallStonesModel" "width" "I", .methodLink RX5 155 yX5_isCell, .instanceMethod yX5_isCell, .selects RX5 yX5_isCell yX5_isCell, .initialized RX5, .code yX5_isCell cX5_isCell 3 (some .boolean), .fieldLink RX5 26 "WallStonesModel" "height" "I", .methodLink RX5 71 yX5_in, .static yX5_in, .code yX5_in cX5_in 3 (some .boolean), .methodLink RX5 159 yX5_isForce, .static yX5_isForce, .code yX5_isForce cX5_isForce 1 (some .boolean), .methodLink RX5 163 yX5_strike, .instanceMethod yX5_strike, .selects RX5 yX5_strike yX5_strike, .code yX5_strike cX5_strike 8 (some .int), .fieldLink RX5 32 "WallStonesModel" "strength" "[I", .fieldLink RX5 35 "WallStonesModel" "propped" "[I"] ++ wsX50)
def wsX5_cell : List Cond := .code yX5_cell cX5_cell 5 (some .int) :: ([.fieldLink RX5 23 "WallStonesModel" "width" "I", .fieldLink RX5 29 "WallStonesModel" "stands" "[I", .fieldLink RX5 32 "WallStonesModel" "strength" "[I", .fieldLink RX5 35 "WallStonesModel" "propped" "[I", .methodLink RX5 155 yX5_isCell, .instanceMethod yX5_isCell, .selects RX5 yX5_isCell yX5_isCell, .initialized RX5, .code yX5_isCell cX5_isCell 3 (some .boolean), .fieldLink RX5 26 "WallStonesModel" "height" "I", .methodLink RX5 71 yX5_in, .static yX5_in, .code yX5_in cX5_in 3 (some .boolean)] ++ wsX50)
def wsX5_level : List Cond := .code yX5_level cX5_level 3 (some .int) :: ([.fieldLink RX5 167 "WallStonesModel" "level" "I", .methodLink RX5 71 yX5_in, .static yX5_in, .initialized RX5, .code yX5_in cX5_in 3 (some .boolean)] ++ wsX50)
def wsX5_standing : List Cond := .code yX5_standing cX5_standing 4 (some .int) :: ([.fieldLink RX5 26 "WallStonesModel" "height" "I", .fieldLink RX5 29 "WallStonesModel" "stands" "[I", .fieldLink RX5 23 "WallStonesModel" "width" "I"] ++ wsX50)
def wsX5_open : List Cond := .code yX5_open cX5_open 2 (some .int) :: ([.fieldLink RX5 23 "WallStonesModel" "width" "I", .fieldLink RX5 167 "WallStonesModel" "level" "I", .methodLink RX5 170 yX5_standing, .instanceMethod yX5_standing, .selects RX5 yX5_standing yX5_standing, .initialized RX5, .code yX5_standing cX5_standing 4 (some .int), .fieldLink RX5 26 "WallStonesModel" "height" "I", .fieldLink RX5 29 "WallStonesModel" "stands" "[I"] ++ wsX50)
def wsX5_cheaper : List Cond := .code yX5_cheaper cX5_cheaper 3 none :: ([.fieldLink RX5 65 "WallStonesModel" "then" "[I"] ++ wsX50)
def wsX5_fewest : List Cond := .code yX5_fewest cX5_fewest 9 (some .int) :: ([.constant RX5 173 (100000), .fieldLink RX5 62 "WallStonesModel" "cost" "[I", .fieldLink RX5 26 "WallStonesModel" "height" "I", .fieldLink RX5 23 "WallStonesModel" "width" "I", .fieldLink RX5 65 "WallStonesModel" "then" "[I", .fieldLink RX5 29 "WallStonesModel" "stands" "[I", .fieldLink RX5 32 "WallStonesModel" "strength" "[I", .fieldLink RX5 35 "WallStonesModel" "propped" "[I", .fieldLink RX5 167 "WallStonesModel" "level" "I", .methodLink RX5 174 yX5_cheaper, .instanceMethod yX5_cheaper, .selects RX5 yX5_cheaper yX5_cheaper, .initialized RX5, .code yX5_cheaper cX5_cheaper 3 none] ++ wsX50)
def wsX5_soonest : List Cond := .code yX5_soonest cX5_soonest 7 (some .int) :: ([.fieldLink RX5 23 "WallStonesModel" "width" "I", .methodLink RX5 159 yX5_isForce, .static yX5_isForce, .initialized RX5, .code yX5_isForce cX5_isForce 1 (some .boolean), .methodLink RX5 71 yX5_in, .static yX5_in, .code yX5_in cX5_in 3 (some .boolean), .methodLink RX5 177 yX5_fewest, .instanceMethod yX5_fewest, .selects RX5 yX5_fewest yX5_fewest, .code yX5_fewest cX5_fewest 9 (some .int), .constant RX5 173 (100000), .fieldLink RX5 62 "WallStonesModel" "cost" "[I", .fieldLink RX5 26 "WallStonesModel" "height" "I", .fieldLink RX5 65 "WallStonesModel" "then" "[I", .fieldLink RX5 29 "WallStonesModel" "stands" "[I", .fieldLink RX5 32 "WallStonesModel" "strength" "[I", .fieldLink RX5 35 "WallStonesModel" "propped" "[I", .fieldLink RX5 167 "WallStonesModel" "level" "I", .methodLink RX5 174 yX5_cheaper, .instanceMethod yX5_cheaper, .selects RX5 yX5_cheaper yX5_cheaper, .code yX5_cheaper cX5_cheaper 3 none] ++ wsX50)
def wsX5_scatter : List Cond := .code yX5_scatter cX5_scatter 6 (some .int) :: ([.fieldLink RX5 38 "WallStonesModel" "scatter" "[I", .methodLink RX5 71 yX5_in, .static yX5_in, .initialized RX5, .code yX5_in cX5_in 3 (some .boolean)] ++ wsX50)
def wsX5_worthOf_r1 : List Cond := [Cond.fieldLink RX5 38 "WallStonesModel" "scatter" "[I", Cond.methodLink RX5 180 yX5_keep, Cond.instanceMethod yX5_keep, Cond.selects RX5 yX5_keep yX5_keep, Cond.initialized RX5, Cond.code yX5_keep cX5_keep 2 none, Cond.fieldLink RX5 53 "WallStonesModel" "keptStands" "[I", Cond.fieldLink RX5 29 "WallStonesModel" "stands" "[I", Cond.fieldLink RX5 56 "WallStonesModel" "keptStrength" "[I", Cond.fieldLink RX5 32 "WallStonesModel" "strength" "[I", Cond.fieldLink RX5 59 "WallStonesModel" "keptPropped" "[I", Cond.fieldLink RX5 35 "WallStonesModel" "propped" "[I", Cond.methodLink RX5 163 yX5_strike, Cond.instanceMethod yX5_strike, Cond.selects RX5 yX5_strike yX5_strike, Cond.code yX5_strike cX5_strike 8 (some .int), Cond.fieldLink RX5 23 "WallStonesModel" "width" "I", Cond.fieldLink RX5 26 "WallStonesModel" "height" "I", Cond.methodLink RX5 155 yX5_isCell, Cond.instanceMethod yX5_isCell, Cond.selects RX5 yX5_isCell yX5_isCell, Cond.code yX5_isCell cX5_isCell 3 (some .boolean), Cond.methodLink RX5 71 yX5_in, Cond.static yX5_in]
def wsX5_worthOf_r2 : List Cond := [Cond.code yX5_in cX5_in 3 (some .boolean), Cond.methodLink RX5 183 yX5_giveBack, Cond.instanceMethod yX5_giveBack, Cond.selects RX5 yX5_giveBack yX5_giveBack, Cond.code yX5_giveBack cX5_giveBack 2 none]
def wsX5_worthOf : List Cond := .code yX5_worthOf cX5_worthOf 6 (some .int) :: ((wsX5_worthOf_r1 ++ wsX5_worthOf_r2) ++ wsX50)
def wsX5_worth_r1 : List Cond := [Cond.methodLink RX5 155 yX5_isCell, Cond.instanceMethod yX5_isCell, Cond.selects RX5 yX5_isCell yX5_isCell, Cond.initialized RX5, Cond.code yX5_isCell cX5_isCell 3 (some .boolean), Cond.fieldLink RX5 23 "WallStonesModel" "width" "I", Cond.fieldLink RX5 26 "WallStonesModel" "height" "I", Cond.methodLink RX5 71 yX5_in, Cond.static yX5_in, Cond.code yX5_in cX5_in 3 (some .boolean), Cond.methodLink RX5 159 yX5_isForce, Cond.static yX5_isForce, Cond.code yX5_isForce cX5_isForce 1 (some .boolean), Cond.methodLink RX5 186 yX5_worthOf, Cond.instanceMethod yX5_worthOf, Cond.selects RX5 yX5_worthOf yX5_worthOf, Cond.code yX5_worthOf cX5_worthOf 6 (some .int), Cond.fieldLink RX5 38 "WallStonesModel" "scatter" "[I", Cond.methodLink RX5 180 yX5_keep, Cond.instanceMethod yX5_keep, Cond.selects RX5 yX5_keep yX5_keep, Cond.code yX5_keep cX5_keep 2 none, Cond.fieldLink RX5 53 "WallStonesModel" "keptStands" "[I", Cond.fieldLink RX5 29 "WallStonesModel" "stands" "[I"]
def wsX5_worth_r2 : List Cond := [Cond.fieldLink RX5 56 "WallStonesModel" "keptStrength" "[I", Cond.fieldLink RX5 32 "WallStonesModel" "strength" "[I", Cond.fieldLink RX5 59 "WallStonesModel" "keptPropped" "[I", Cond.fieldLink RX5 35 "WallStonesModel" "propped" "[I", Cond.methodLink RX5 163 yX5_strike, Cond.instanceMethod yX5_strike, Cond.selects RX5 yX5_strike yX5_strike, Cond.code yX5_strike cX5_strike 8 (some .int), Cond.methodLink RX5 183 yX5_giveBack, Cond.instanceMethod yX5_giveBack, Cond.selects RX5 yX5_giveBack yX5_giveBack, Cond.code yX5_giveBack cX5_giveBack 2 none]
def wsX5_worth : List Cond := .code yX5_worth cX5_worth 4 (some .int) :: ((wsX5_worth_r1 ++ wsX5_worth_r2) ++ wsX50)
def wsX5_aim_r1 : List Cond := [Cond.fieldLink RX5 23 "WallStonesModel" "width" "I", Cond.fieldLink RX5 26 "WallStonesModel" "height" "I", Cond.methodLink RX5 159 yX5_isForce, Cond.static yX5_isForce, Cond.initialized RX5, Cond.code yX5_isForce cX5_isForce 1 (some .boolean), Cond.methodLink RX5 71 yX5_in, Cond.static yX5_in, Cond.code yX5_in cX5_in 3 (some .boolean), Cond.methodLink RX5 186 yX5_worthOf, Cond.instanceMethod yX5_worthOf, Cond.selects RX5 yX5_worthOf yX5_worthOf, Cond.code yX5_worthOf cX5_worthOf 6 (some .int), Cond.fieldLink RX5 38 "WallStonesModel" "scatter" "[I", Cond.methodLink RX5 180 yX5_keep, Cond.instanceMethod yX5_keep, Cond.selects RX5 yX5_keep yX5_keep, Cond.code yX5_keep cX5_keep 2 none, Cond.fieldLink RX5 53 "WallStonesModel" "keptStands" "[I", Cond.fieldLink RX5 29 "WallStonesModel" "stands" "[I", Cond.fieldLink RX5 56 "WallStonesModel" "keptStrength" "[I", Cond.fieldLink RX5 32 "WallStonesModel" "strength" "[I", Cond.fieldLink RX5 59 "WallStonesModel" "keptPropped" "[I", Cond.fieldLink RX5 35 "WallStonesModel" "propped" "[I"]
def wsX5_aim_r2 : List Cond := [Cond.methodLink RX5 163 yX5_strike, Cond.instanceMethod yX5_strike, Cond.selects RX5 yX5_strike yX5_strike, Cond.code yX5_strike cX5_strike 8 (some .int), Cond.methodLink RX5 155 yX5_isCell, Cond.instanceMethod yX5_isCell, Cond.selects RX5 yX5_isCell yX5_isCell, Cond.code yX5_isCell cX5_isCell 3 (some .boolean), Cond.methodLink RX5 183 yX5_giveBack, Cond.instanceMethod yX5_giveBack, Cond.selects RX5 yX5_giveBack yX5_giveBack, Cond.code yX5_giveBack cX5_giveBack 2 none]
def wsX5_aim : List Cond := .code yX5_aim cX5_aim 7 (some .int) :: ((wsX5_aim_r1 ++ wsX5_aim_r2) ++ wsX50)
def wsX5_held_r1 : List Cond := [Cond.constantLong RX5 189 (-1), Cond.fieldLink RX5 38 "WallStonesModel" "scatter" "[I", Cond.methodLink RX5 155 yX5_isCell, Cond.instanceMethod yX5_isCell, Cond.selects RX5 yX5_isCell yX5_isCell, Cond.initialized RX5, Cond.code yX5_isCell cX5_isCell 3 (some .boolean), Cond.fieldLink RX5 23 "WallStonesModel" "width" "I", Cond.fieldLink RX5 26 "WallStonesModel" "height" "I", Cond.methodLink RX5 71 yX5_in, Cond.static yX5_in, Cond.code yX5_in cX5_in 3 (some .boolean), Cond.methodLink RX5 159 yX5_isForce, Cond.static yX5_isForce, Cond.code yX5_isForce cX5_isForce 1 (some .boolean), Cond.methodLink RX5 180 yX5_keep, Cond.instanceMethod yX5_keep, Cond.selects RX5 yX5_keep yX5_keep, Cond.code yX5_keep cX5_keep 2 none, Cond.fieldLink RX5 53 "WallStonesModel" "keptStands" "[I", Cond.fieldLink RX5 29 "WallStonesModel" "stands" "[I", Cond.fieldLink RX5 56 "WallStonesModel" "keptStrength" "[I", Cond.fieldLink RX5 32 "WallStonesModel" "strength" "[I", Cond.fieldLink RX5 59 "WallStonesModel" "keptPropped" "[I"]
def wsX5_held_r2 : List Cond := [Cond.fieldLink RX5 35 "WallStonesModel" "propped" "[I", Cond.methodLink RX5 163 yX5_strike, Cond.instanceMethod yX5_strike, Cond.selects RX5 yX5_strike yX5_strike, Cond.code yX5_strike cX5_strike 8 (some .int), Cond.methodLink RX5 191 yX5_open, Cond.instanceMethod yX5_open, Cond.selects RX5 yX5_open yX5_open, Cond.code yX5_open cX5_open 2 (some .int), Cond.fieldLink RX5 167 "WallStonesModel" "level" "I", Cond.methodLink RX5 170 yX5_standing, Cond.instanceMethod yX5_standing, Cond.selects RX5 yX5_standing yX5_standing, Cond.code yX5_standing cX5_standing 4 (some .int), Cond.methodLink RX5 183 yX5_giveBack, Cond.instanceMethod yX5_giveBack, Cond.selects RX5 yX5_giveBack yX5_giveBack, Cond.code yX5_giveBack cX5_giveBack 2 none]
def wsX5_held : List Cond := .code yX5_held cX5_held 15 (some .long) :: ((wsX5_held_r1 ++ wsX5_held_r2) ++ wsX50)
def wsX5_wound : List Cond := .code yX5_wound cX5_wound 1 (some .int) :: ([.fieldLink RX5 82 "WallStonesModel" "state" "I"] ++ wsX50)
def wsX5_sling : List Cond := .code yX5_sling cX5_sling 1 (some .int) :: ([.fieldLink RX5 82 "WallStonesModel" "state" "I"] ++ wsX50)
def wsX5_near : List Cond := .code yX5_near cX5_near 2 (some .int) :: ([.fieldLink RX5 82 "WallStonesModel" "state" "I", .methodLink RX5 71 yX5_in, .static yX5_in, .initialized RX5, .code yX5_in cX5_in 3 (some .boolean)] ++ wsX50)
def wsX5_loose_r1 : List Cond := [Cond.fieldLink RX5 82 "WallStonesModel" "state" "I", Cond.fieldLink RX5 41 "WallStonesModel" "store" "[I", Cond.fieldLink RX5 194 "WallStonesModel" "loosed" "I", Cond.fieldLink RX5 7 "WallStonesModel" "told" "[I", Cond.fieldLink RX5 115 "WallStonesModel" "range" "I", Cond.methodLink RX5 155 yX5_isCell, Cond.instanceMethod yX5_isCell, Cond.selects RX5 yX5_isCell yX5_isCell, Cond.initialized RX5, Cond.code yX5_isCell cX5_isCell 3 (some .boolean), Cond.fieldLink RX5 23 "WallStonesModel" "width" "I", Cond.fieldLink RX5 26 "WallStonesModel" "height" "I", Cond.methodLink RX5 71 yX5_in, Cond.static yX5_in, Cond.code yX5_in cX5_in 3 (some .boolean), Cond.methodLink RX5 129 yX5_step, Cond.instanceMethod yX5_step, Cond.selects RX5 yX5_step yX5_step, Cond.code yX5_step cX5_step 6 none, Cond.fieldLink RX5 97 "WallStonesModel" "letsGo" "I", Cond.fieldLink RX5 100 "WallStonesModel" "stalls" "I", Cond.fieldLink RX5 103 "WallStonesModel" "given" "I", Cond.fieldLink RX5 106 "WallStonesModel" "rise" "I", Cond.fieldLink RX5 109 "WallStonesModel" "speed" "I"]
def wsX5_loose_r2 : List Cond := [Cond.fieldLink RX5 112 "WallStonesModel" "reach" "I", Cond.constantLong RX5 121 (2), Cond.constantLong RX5 123 (8000), Cond.fieldLink RX5 85 "WallStonesModel" "windNow" "I", Cond.methodLink RX5 118 yX5_givenAt, Cond.instanceMethod yX5_givenAt, Cond.selects RX5 yX5_givenAt yX5_givenAt, Cond.code yX5_givenAt cX5_givenAt 6 (some .int), Cond.constantLong RX5 95 (1000), Cond.methodLink RX5 92 yX5_sineOf, Cond.static yX5_sineOf, Cond.code yX5_sineOf cX5_sineOf 3 (some .int), Cond.constant RX5 91 (40500), Cond.methodLink RX5 88 yX5_size, Cond.static yX5_size, Cond.code yX5_size cX5_size 1 (some .int), Cond.methodLink RX5 125 yX5_flightOf, Cond.instanceMethod yX5_flightOf, Cond.selects RX5 yX5_flightOf yX5_flightOf, Cond.code yX5_flightOf cX5_flightOf 4 (some .int), Cond.methodLink RX5 163 yX5_strike, Cond.instanceMethod yX5_strike, Cond.selects RX5 yX5_strike yX5_strike, Cond.code yX5_strike cX5_strike 8 (some .int)]
def wsX5_loose_r3 : List Cond := [Cond.fieldLink RX5 29 "WallStonesModel" "stands" "[I", Cond.fieldLink RX5 32 "WallStonesModel" "strength" "[I", Cond.fieldLink RX5 35 "WallStonesModel" "propped" "[I"]
def wsX5_loose : List Cond := .code yX5_loose cX5_loose 6 (some .int) :: ((wsX5_loose_r1 ++ (wsX5_loose_r2 ++ wsX5_loose_r3)) ++ wsX50)
def wsX5_store : List Cond := .code yX5_store cX5_store 6 (some .int) :: ([.fieldLink RX5 41 "WallStonesModel" "store" "[I", .methodLink RX5 71 yX5_in, .static yX5_in, .initialized RX5, .code yX5_in cX5_in 3 (some .boolean)] ++ wsX50)
def wsX5_wet : List Cond := .code yX5_wet cX5_wet 3 (some .int) :: ([.fieldLink RX5 44 "WallStonesModel" "wetMany" "I", .fieldLink RX5 197 "WallStonesModel" "wetBits" "I", .methodLink RX5 71 yX5_in, .static yX5_in, .initialized RX5, .code yX5_in cX5_in 3 (some .boolean)] ++ wsX50)
def wsX5_lastsBy : List Cond := .code yX5_lastsBy cX5_lastsBy 13 (some .int) :: ([.fieldLink RX5 41 "WallStonesModel" "store" "[I", .fieldLink RX5 7 "WallStonesModel" "told" "[I", .fieldLink RX5 197 "WallStonesModel" "wetBits" "I", .fieldLink RX5 44 "WallStonesModel" "wetMany" "I"] ++ wsX50)
def wsX5_lasts : List Cond := .code yX5_lasts cX5_lasts 2 (some .int) :: ([.methodLink RX5 71 yX5_in, .static yX5_in, .initialized RX5, .code yX5_in cX5_in 3 (some .boolean), .methodLink RX5 200 yX5_lastsBy, .instanceMethod yX5_lastsBy, .selects RX5 yX5_lastsBy yX5_lastsBy, .code yX5_lastsBy cX5_lastsBy 13 (some .int), .fieldLink RX5 41 "WallStonesModel" "store" "[I", .fieldLink RX5 7 "WallStonesModel" "told" "[I", .fieldLink RX5 197 "WallStonesModel" "wetBits" "I", .fieldLink RX5 44 "WallStonesModel" "wetMany" "I"] ++ wsX50)
def wsX5_rate : List Cond := .code yX5_rate cX5_rate 3 (some .int) :: ([.methodLink RX5 71 yX5_in, .static yX5_in, .initialized RX5, .code yX5_in cX5_in 3 (some .boolean), .methodLink RX5 200 yX5_lastsBy, .instanceMethod yX5_lastsBy, .selects RX5 yX5_lastsBy yX5_lastsBy, .code yX5_lastsBy cX5_lastsBy 13 (some .int), .fieldLink RX5 41 "WallStonesModel" "store" "[I", .fieldLink RX5 7 "WallStonesModel" "told" "[I", .fieldLink RX5 197 "WallStonesModel" "wetBits" "I", .fieldLink RX5 44 "WallStonesModel" "wetMany" "I"] ++ wsX50)
def wsX5_count : List Cond := .code yX5_count cX5_count 4 (some .int) :: ([.fieldLink RX5 82 "WallStonesModel" "state" "I", .fieldLink RX5 23 "WallStonesModel" "width" "I", .fieldLink RX5 26 "WallStonesModel" "height" "I", .fieldLink RX5 141 "WallStonesModel" "shots" "I", .fieldLink RX5 194 "WallStonesModel" "loosed" "I", .fieldLink RX5 41 "WallStonesModel" "store" "[I", .fieldLink RX5 167 "WallStonesModel" "level" "I", .methodLink RX5 170 yX5_standing, .instanceMethod yX5_standing, .selects RX5 yX5_standing yX5_standing, .initialized RX5, .code yX5_standing cX5_standing 4 (some .int), .fieldLink RX5 29 "WallStonesModel" "stands" "[I"] ++ wsX50)
def wsX5_trace : List Cond := .code yX5_trace cX5_trace 1 (some .long) :: ([.fieldLink RX5 133 "WallStonesModel" "trace" "J"] ++ wsX50)
def wsJ9_abs_0f7a4 : List Cond := .code yJ9_abs_0f7a4 cJ9_abs_0f7a4 1 (some .int) :: ([])
def wsJ9_max_7cf53 : List Cond := .code yJ9_max_7cf53 cJ9_max_7cf53 2 (some .int) :: ([])
def wsJ9_max_f86c9 : List Cond := .code yJ9_max_f86c9 cJ9_max_f86c9 4 (some .long) :: ([])
def wsJ9_min_7cf53 : List Cond := .code yJ9_min_7cf53 cJ9_min_7cf53 2 (some .int) :: ([])
def wsJ9_min_f86c9 : List Cond := .code yJ9_min_f86c9 cJ9_min_f86c9 4 (some .long) :: ([])
abbrev vwCl : List vw_C := [(RX0, TX0, 7), (RX1, TX1, 6), (RX2, TX2, 3), (RX3, TX3, 7), (RX4, TX4, 7), (RX5, TX5, 33)]
end
section
set_option maxRecDepth 20000 in
theorem ggX0_study_X1_slingNow : GoodIn wsX0_study wsX1_slingNow := goodIn_r _ [11, 12, 94, 95, 96, 97, 98, 99] (by decide +kernel) (by decide +kernel)
set_option maxRecDepth 20000 in
theorem gX0_study_X1_slingNow : GoodIn wsX0_study (wsV RX0 36 RX1 yX1_slingNow wsX1_slingNow) := goodIn_app (goodIn_of _ (by decide +kernel)) ggX0_study_X1_slingNow
set_option maxRecDepth 20000 in
theorem ggX0_study_X1_reckon : GoodIn wsX0_study wsX1_reckon := goodIn_r _ [16, 17, 18, 19, 20, 21, 10, 22, 23, 24, 12, 25, 26, 27, 28, 29, 30, 31, 32, 33, 34, 35, 36, 37, 38, 39, 40, 41, 42, 43, 44, 45, 46, 47, 48, 49, 50, 51, 52, 53, 54, 55, 56, 57, 58, 59, 60, 61, 62, 63, 64, 65, 66, 67, 68, 69, 70, 71, 94, 95, 96, 97, 98, 99] (by decide +kernel) (by decide +kernel)
set_option maxRecDepth 20000 in
theorem gX0_study_X1_reckon : GoodIn wsX0_study (wsV RX0 40 RX1 yX1_reckon wsX1_reckon) := goodIn_app (goodIn_of _ (by decide +kernel)) ggX0_study_X1_reckon
set_option maxRecDepth 20000 in
theorem ggX0_study_X0_bear : GoodIn wsX0_study wsX0_bear := goodIn_r _ [76, 1, 3, 2, 77, 78, 41, 42, 43, 79, 80, 81, 82, 83, 84, 75, 85, 86, 50, 27, 51, 29, 30, 31, 32, 87, 88, 89, 90, 91, 92, 93] (by decide +kernel) (by decide +kernel)
set_option maxRecDepth 20000 in
theorem gX0_study_X0_bear : GoodIn wsX0_study (wsV RX0 44 RX0 yX0_bear wsX0_bear) := goodIn_app (goodIn_of _ (by decide +kernel)) ggX0_study_X0_bear
set_option maxRecDepth 20000 in
theorem ggX0_bear_X0_scaled : GoodIn wsX0_bear wsX0_scaled := goodIn_r _ [16, 1, 17, 18, 19, 20, 21, 22, 23, 24, 25, 26, 27, 28, 29, 30, 31] (by decide +kernel) (by decide +kernel)
set_option maxRecDepth 20000 in
theorem gX0_bear_X0_scaled : GoodIn wsX0_bear (wsV RX0 48 RX0 yX0_scaled wsX0_scaled) := goodIn_app (goodIn_of _ (by decide +kernel)) ggX0_bear_X0_scaled
set_option maxRecDepth 20000 in
theorem ggX0_scaled_X4_down : GoodIn wsX0_scaled wsX4_down := goodIn_r _ [5, 6, 7, 8, 9] (by decide +kernel) (by decide +kernel)
set_option maxRecDepth 20000 in
theorem gX0_scaled_X4_down_n61 : GoodIn wsX0_scaled (wsX4_down) := ggX0_scaled_X4_down
set_option maxRecDepth 20000 in
theorem ggX0_pairsLeft_X0_isLeft : GoodIn wsX0_pairsLeft wsX0_isLeft := goodIn_r _ [7, 2, 1, 8, 9, 10, 11, 12, 13, 14] (by decide +kernel) (by decide +kernel)
set_option maxRecDepth 20000 in
theorem gX0_pairsLeft_X0_isLeft : GoodIn wsX0_pairsLeft (wsV RX0 65 RX0 yX0_isLeft wsX0_isLeft) := goodIn_app (goodIn_of _ (by decide +kernel)) ggX0_pairsLeft_X0_isLeft
set_option maxRecDepth 20000 in
theorem ggX0_places_X0_pairsLeft : GoodIn wsX0_places wsX0_pairsLeft := goodIn_r _ [6, 7, 8, 9, 10, 11, 5, 12, 13, 14, 15, 16, 17, 18, 19] (by decide +kernel) (by decide +kernel)
set_option maxRecDepth 20000 in
theorem gX0_places_X0_pairsLeft : GoodIn wsX0_places (wsV RX0 69 RX0 yX0_pairsLeft wsX0_pairsLeft) := goodIn_app (goodIn_of _ (by decide +kernel)) ggX0_places_X0_pairsLeft
set_option maxRecDepth 20000 in
theorem ggX0_leastPlace_X0_isLeft : GoodIn wsX0_leastPlace wsX0_isLeft := goodIn_r _ [11, 2, 12, 26, 27, 28, 29, 30, 31, 32] (by decide +kernel) (by decide +kernel)
set_option maxRecDepth 20000 in
theorem gX0_leastPlace_X0_isLeft : GoodIn wsX0_leastPlace (wsV RX0 65 RX0 yX0_isLeft wsX0_isLeft) := goodIn_app (goodIn_of _ (by decide +kernel)) ggX0_leastPlace_X0_isLeft
set_option maxRecDepth 20000 in
theorem ggX0_leastPlace_X0_scaled : GoodIn wsX0_leastPlace wsX0_scaled := goodIn_r _ [16, 17, 18, 19, 20, 21, 22, 23, 24, 25, 26, 27, 28, 29, 30, 31, 32] (by decide +kernel) (by decide +kernel)
set_option maxRecDepth 20000 in
theorem gX0_leastPlace_X0_scaled : GoodIn wsX0_leastPlace (wsV RX0 48 RX0 yX0_scaled wsX0_scaled) := goodIn_app (goodIn_of _ (by decide +kernel)) ggX0_leastPlace_X0_scaled
set_option maxRecDepth 20000 in
theorem ggX0_greatestPlace_X0_isLeft : GoodIn wsX0_greatestPlace wsX0_isLeft := goodIn_r _ [11, 12, 2, 26, 27, 28, 29, 30, 31, 32] (by decide +kernel) (by decide +kernel)
set_option maxRecDepth 20000 in
theorem gX0_greatestPlace_X0_isLeft : GoodIn wsX0_greatestPlace (wsV RX0 65 RX0 yX0_isLeft wsX0_isLeft) := goodIn_app (goodIn_of _ (by decide +kernel)) ggX0_greatestPlace_X0_isLeft
set_option maxRecDepth 20000 in
theorem ggX0_greatestPlace_X0_scaled : GoodIn wsX0_greatestPlace wsX0_scaled := goodIn_r _ [16, 17, 18, 19, 20, 21, 22, 23, 24, 25, 26, 27, 28, 29, 30, 31, 32] (by decide +kernel) (by decide +kernel)
set_option maxRecDepth 20000 in
theorem gX0_greatestPlace_X0_scaled : GoodIn wsX0_greatestPlace (wsV RX0 48 RX0 yX0_scaled wsX0_scaled) := goodIn_app (goodIn_of _ (by decide +kernel)) ggX0_greatestPlace_X0_scaled
set_option maxRecDepth 20000 in
theorem ggX0_widestHook_X0_places : GoodIn wsX0_widestHook wsX0_places := goodIn_r _ [6, 1, 7, 8, 9, 5, 10, 11, 12, 13, 14, 15, 16, 46, 47, 48, 49, 50, 51, 52] (by decide +kernel) (by decide +kernel)
set_option maxRecDepth 20000 in
theorem gX0_widestHook_X0_places : GoodIn wsX0_widestHook (wsV RX0 76 RX0 yX0_places wsX0_places) := goodIn_app (goodIn_of _ (by decide +kernel)) ggX0_widestHook_X0_places
set_option maxRecDepth 20000 in
theorem ggX0_widestHook_X0_greatestPlace : GoodIn wsX0_widestHook wsX0_greatestPlace := goodIn_r _ [20, 21, 11, 22, 23, 24, 25, 13, 14, 15, 5, 16, 12, 26, 27, 28, 29, 1, 30, 31, 32, 33, 34, 35, 36, 37, 46, 47, 48, 49, 50, 51, 52] (by decide +kernel) (by decide +kernel)
set_option maxRecDepth 20000 in
theorem gX0_widestHook_X0_greatestPlace : GoodIn wsX0_widestHook (wsV RX0 79 RX0 yX0_greatestPlace wsX0_greatestPlace) := goodIn_app (goodIn_of _ (by decide +kernel)) ggX0_widestHook_X0_greatestPlace
set_option maxRecDepth 20000 in
theorem ggX0_widestHook_X0_leastPlace : GoodIn wsX0_widestHook wsX0_leastPlace := goodIn_r _ [41, 42, 12, 43, 44, 24, 45, 13, 14, 15, 5, 16, 11, 26, 27, 28, 29, 1, 30, 31, 32, 33, 34, 35, 36, 37, 46, 47, 48, 49, 50, 51, 52] (by decide +kernel) (by decide +kernel)
set_option maxRecDepth 20000 in
theorem gX0_widestHook_X0_leastPlace : GoodIn wsX0_widestHook (wsV RX0 83 RX0 yX0_leastPlace wsX0_leastPlace) := goodIn_app (goodIn_of _ (by decide +kernel)) ggX0_widestHook_X0_leastPlace
set_option maxRecDepth 20000 in
theorem ggX0_farthestMiss_X0_leastPlace : GoodIn wsX0_farthestMiss wsX0_leastPlace := goodIn_r _ [12, 13, 14, 15, 16, 3, 17, 18, 19, 20, 11, 21, 22, 23, 24, 25, 26, 27, 28, 29, 30, 31, 32, 33, 34, 35, 41, 42, 43, 44, 45, 46, 47] (by decide +kernel) (by decide +kernel)
set_option maxRecDepth 20000 in
theorem gX0_farthestMiss_X0_leastPlace : GoodIn wsX0_farthestMiss (wsV RX0 83 RX0 yX0_leastPlace wsX0_leastPlace) := goodIn_app (goodIn_of _ (by decide +kernel)) ggX0_farthestMiss_X0_leastPlace
set_option maxRecDepth 20000 in
theorem ggX0_farthestMiss_X0_greatestPlace : GoodIn wsX0_farthestMiss wsX0_greatestPlace := goodIn_r _ [39, 40, 22, 5, 6, 3, 7, 18, 19, 20, 11, 21, 14, 23, 24, 25, 26, 27, 28, 29, 30, 31, 32, 33, 34, 35, 41, 42, 43, 44, 45, 46, 47] (by decide +kernel) (by decide +kernel)
set_option maxRecDepth 20000 in
theorem gX0_farthestMiss_X0_greatestPlace : GoodIn wsX0_farthestMiss (wsV RX0 79 RX0 yX0_greatestPlace wsX0_greatestPlace) := goodIn_app (goodIn_of _ (by decide +kernel)) ggX0_farthestMiss_X0_greatestPlace
set_option maxRecDepth 20000 in
theorem ggX0_surestHook_X0_places : GoodIn wsX0_surestHook wsX0_places := goodIn_r _ [7, 2, 8, 9, 10, 6, 11, 12, 13, 14, 15, 16, 17, 53, 54, 55, 56, 57, 58, 59] (by decide +kernel) (by decide +kernel)
set_option maxRecDepth 20000 in
theorem gX0_surestHook_X0_places : GoodIn wsX0_surestHook (wsV RX0 76 RX0 yX0_places wsX0_places) := goodIn_app (goodIn_of _ (by decide +kernel)) ggX0_surestHook_X0_places
set_option maxRecDepth 20000 in
theorem ggX0_surestHook_X0_farthestMiss : GoodIn wsX0_surestHook wsX0_farthestMiss := goodIn_r _ [21, 22, 23, 24, 25, 26, 27, 28, 29, 30, 31, 6, 32, 1, 13, 33, 34, 35, 14, 15, 16, 17, 12, 36, 37, 38, 39, 2, 40, 41, 42, 43, 44, 45, 46, 47, 48, 49, 50, 51, 52, 53, 54, 55, 56, 57, 58, 59] (by decide +kernel) (by decide +kernel)
set_option maxRecDepth 20000 in
theorem gX0_surestHook_X0_farthestMiss : GoodIn wsX0_surestHook (wsV RX0 89 RX0 yX0_farthestMiss wsX0_farthestMiss) := goodIn_app (goodIn_of _ (by decide +kernel)) ggX0_surestHook_X0_farthestMiss
set_option maxRecDepth 20000 in
theorem ggX1_init_X1_turnBeam : GoodIn wsX1_init wsX1_turnBeam := goodIn_r _ [13, 5, 14, 6, 15, 16, 17, 18, 19, 20, 21, 22, 23, 24, 25, 26, 27, 28, 29, 30, 31, 32, 33, 34, 35, 36, 37] (by decide +kernel) (by decide +kernel)
set_option maxRecDepth 20000 in
theorem gX1_init_X1_turnBeam : GoodIn wsX1_init (wsV RX1 24 RX1 yX1_turnBeam wsX1_turnBeam) := goodIn_app (goodIn_of _ (by decide +kernel)) ggX1_init_X1_turnBeam
set_option maxRecDepth 20000 in
theorem ggX1_takes_X4_within : GoodIn wsX1_takes wsX4_within := goodIn_r _ [5] (by decide +kernel) (by decide +kernel)
set_option maxRecDepth 20000 in
theorem gX1_takes_X4_within_n27 : GoodIn wsX1_takes (wsX4_within) := ggX1_takes_X4_within
set_option maxRecDepth 20000 in
theorem ggX1_put_X1_takes : GoodIn wsX1_put wsX1_takes := goodIn_r _ [6, 7, 8, 9, 10, 11] (by decide +kernel) (by decide +kernel)
set_option maxRecDepth 20000 in
theorem gX1_put_X1_takes : GoodIn wsX1_put (wsV RX1 37 RX1 yX1_takes wsX1_takes) := goodIn_app (goodIn_of _ (by decide +kernel)) ggX1_put_X1_takes
set_option maxRecDepth 20000 in
theorem ggX1_put_X1_turnBeam : GoodIn wsX1_put wsX1_turnBeam := goodIn_r _ [15, 1, 16, 17, 18, 19, 10, 20, 21, 22, 23, 24, 25, 26, 27, 28, 29, 30, 31, 32, 33, 34, 35, 36, 37, 38, 39] (by decide +kernel) (by decide +kernel)
set_option maxRecDepth 20000 in
theorem gX1_put_X1_turnBeam : GoodIn wsX1_put (wsV RX1 24 RX1 yX1_turnBeam wsX1_turnBeam) := goodIn_app (goodIn_of _ (by decide +kernel)) ggX1_put_X1_turnBeam
set_option maxRecDepth 20000 in
theorem ggX1_turnBeam_X4_sineOf : GoodIn wsX1_turnBeam wsX4_sineOf := goodIn_r _ [7, 8, 9, 10, 11, 12, 13, 14, 15, 6, 16, 17, 18, 19, 20] (by decide +kernel) (by decide +kernel)
set_option maxRecDepth 20000 in
theorem gX1_turnBeam_X4_sineOf_n45 : GoodIn wsX1_turnBeam (wsX4_sineOf) := ggX1_turnBeam_X4_sineOf
set_option maxRecDepth 20000 in
theorem ggX1_turnBeam_X4_down : GoodIn wsX1_turnBeam wsX4_down := goodIn_r _ [16, 17, 18, 19, 20] (by decide +kernel) (by decide +kernel)
set_option maxRecDepth 20000 in
theorem gX1_turnBeam_X4_down_n54 : GoodIn wsX1_turnBeam (wsX4_down) := ggX1_turnBeam_X4_down
set_option maxRecDepth 20000 in
theorem ggX1_turnOfRelease_X4_up : GoodIn wsX1_turnOfRelease wsX4_up := goodIn_r _ [7, 8, 9, 10, 11] (by decide +kernel) (by decide +kernel)
set_option maxRecDepth 20000 in
theorem gX1_turnOfRelease_X4_up_n62 : GoodIn wsX1_turnOfRelease (wsX4_up) := ggX1_turnOfRelease_X4_up
set_option maxRecDepth 20000 in
theorem ggX1_reckonOwn_X1_reckon : GoodIn wsX1_reckonOwn wsX1_reckon := goodIn_r _ [6, 7, 8, 9, 10, 11, 5, 12, 13, 14, 1, 15, 16, 17, 18, 19, 20, 21, 22, 23, 24, 25, 26, 27, 28, 29, 30, 31, 32, 33, 34, 35, 36, 37, 38, 39, 40, 41, 42, 43, 44, 45, 46, 47, 48, 49, 50, 51, 52, 53, 54, 55, 56, 57, 58, 59, 60, 61, 62, 63, 64, 65, 66, 67] (by decide +kernel) (by decide +kernel)
set_option maxRecDepth 20000 in
theorem gX1_reckonOwn_X1_reckon : GoodIn wsX1_reckonOwn (wsV RX1 67 RX1 yX1_reckon wsX1_reckon) := goodIn_app (goodIn_of _ (by decide +kernel)) ggX1_reckonOwn_X1_reckon
set_option maxRecDepth 20000 in
theorem ggX1_reckon_X1_turnOfRelease : GoodIn wsX1_reckon wsX1_turnOfRelease := goodIn_r _ [7, 8, 9, 10, 11, 12, 13, 14, 15, 16, 17, 18, 58, 59, 60, 61, 62, 63] (by decide +kernel) (by decide +kernel)
set_option maxRecDepth 20000 in
theorem gX1_reckon_X1_turnOfRelease : GoodIn wsX1_reckon (wsV RX1 71 RX1 yX1_turnOfRelease wsX1_turnOfRelease) := goodIn_app (goodIn_of _ (by decide +kernel)) ggX1_reckon_X1_turnOfRelease
set_option maxRecDepth 20000 in
theorem ggX1_reckon_X1_reckonRelease : GoodIn wsX1_reckon wsX1_reckonRelease := goodIn_r _ [22, 10, 1, 23, 24, 25, 26, 27, 28, 29, 30, 13, 31, 32, 33, 34, 6, 35, 9, 36, 37, 15, 16, 17, 18, 38, 39, 40, 41, 42, 43, 44, 45, 46, 47, 48, 49, 50, 51, 52, 53, 54, 55, 56, 57, 12, 14, 58, 59, 60, 61, 62, 63] (by decide +kernel) (by decide +kernel)
set_option maxRecDepth 20000 in
theorem gX1_reckon_X1_reckonRelease : GoodIn wsX1_reckon (wsV RX1 74 RX1 yX1_reckonRelease wsX1_reckonRelease) := goodIn_app (goodIn_of _ (by decide +kernel)) ggX1_reckon_X1_reckonRelease
set_option maxRecDepth 20000 in
theorem ggX1_reckonRelease_X4_within : GoodIn wsX1_reckonRelease wsX4_within := goodIn_r _ [12] (by decide +kernel) (by decide +kernel)
set_option maxRecDepth 20000 in
theorem gX1_reckonRelease_X4_within_n27 : GoodIn wsX1_reckonRelease (wsX4_within) := ggX1_reckonRelease_X4_within
set_option maxRecDepth 20000 in
theorem ggX1_reckonRelease_X1_speedFor : GoodIn wsX1_reckonRelease wsX1_speedFor := goodIn_r _ [17, 1, 18, 19, 11, 20, 21, 22, 23, 24, 47, 48, 49, 50, 51, 52] (by decide +kernel) (by decide +kernel)
set_option maxRecDepth 20000 in
theorem gX1_reckonRelease_X1_speedFor : GoodIn wsX1_reckonRelease (wsV RX1 78 RX1 yX1_speedFor wsX1_speedFor) := goodIn_app (goodIn_of _ (by decide +kernel)) ggX1_reckonRelease_X1_speedFor
set_option maxRecDepth 20000 in
theorem ggX1_reckonRelease_X4_sineOf : GoodIn wsX1_reckonRelease wsX4_sineOf := goodIn_r _ [26, 27, 28, 8, 29, 30, 31, 32, 19, 11, 20, 21, 22, 23, 24] (by decide +kernel) (by decide +kernel)
set_option maxRecDepth 20000 in
theorem gX1_reckonRelease_X4_sineOf_n45 : GoodIn wsX1_reckonRelease (wsX4_sineOf) := ggX1_reckonRelease_X4_sineOf
set_option maxRecDepth 20000 in
theorem ggX1_reckonRelease_X4_down : GoodIn wsX1_reckonRelease wsX4_down := goodIn_r _ [20, 21, 22, 23, 24] (by decide +kernel) (by decide +kernel)
set_option maxRecDepth 20000 in
theorem gX1_reckonRelease_X4_down_n54 : GoodIn wsX1_reckonRelease (wsX4_down) := ggX1_reckonRelease_X4_down
set_option maxRecDepth 20000 in
theorem ggX1_reckonRelease_X1_flightOf : GoodIn wsX1_reckonRelease wsX1_flightOf := goodIn_r _ [36, 37, 1, 38, 39, 40, 8, 41, 42, 18, 43, 44, 19, 11, 20, 21, 22, 23, 24, 45, 46, 47, 48, 49, 50, 51, 52] (by decide +kernel) (by decide +kernel)
set_option maxRecDepth 20000 in
theorem gX1_reckonRelease_X1_flightOf : GoodIn wsX1_reckonRelease (wsV RX1 84 RX1 yX1_flightOf wsX1_flightOf) := goodIn_app (goodIn_of _ (by decide +kernel)) ggX1_reckonRelease_X1_flightOf
set_option maxRecDepth 20000 in
theorem ggX1_speedFor_X4_down : GoodIn wsX1_speedFor wsX4_down := goodIn_r _ [5, 6, 7, 8, 9] (by decide +kernel) (by decide +kernel)
set_option maxRecDepth 20000 in
theorem gX1_speedFor_X4_down_n54 : GoodIn wsX1_speedFor (wsX4_down) := ggX1_speedFor_X4_down
set_option maxRecDepth 20000 in
theorem ggX1_flightOf_X4_down : GoodIn wsX1_flightOf wsX4_down := goodIn_r _ [14, 15, 16, 17, 18] (by decide +kernel) (by decide +kernel)
set_option maxRecDepth 20000 in
theorem gX1_flightOf_X4_down_n54 : GoodIn wsX1_flightOf (wsX4_down) := ggX1_flightOf_X4_down
set_option maxRecDepth 20000 in
theorem ggX1_flightOf_X4_up : GoodIn wsX1_flightOf wsX4_up := goodIn_r _ [20, 15, 16, 17, 18] (by decide +kernel) (by decide +kernel)
set_option maxRecDepth 20000 in
theorem gX1_flightOf_X4_up_n62 : GoodIn wsX1_flightOf (wsX4_up) := ggX1_flightOf_X4_up
set_option maxRecDepth 20000 in
theorem ggX1_reckoned_X4_within : GoodIn wsX1_reckoned wsX4_within := goodIn_r _ [4] (by decide +kernel) (by decide +kernel)
set_option maxRecDepth 20000 in
theorem gX1_reckoned_X4_within_n27 : GoodIn wsX1_reckoned (wsX4_within) := ggX1_reckoned_X4_within
set_option maxRecDepth 20000 in
theorem ggX1_tuneTo_X1_keepTuning : GoodIn wsX1_tuneTo wsX1_keepTuning := goodIn_r _ [10, 11, 69, 70, 71, 72, 73, 74] (by decide +kernel) (by decide +kernel)
set_option maxRecDepth 20000 in
theorem gX1_tuneTo_X1_keepTuning : GoodIn wsX1_tuneTo (wsV RX1 104 RX1 yX1_keepTuning wsX1_keepTuning) := goodIn_app (goodIn_of _ (by decide +kernel)) ggX1_tuneTo_X1_keepTuning
set_option maxRecDepth 20000 in
theorem ggX1_tuneTo_X1_reckon : GoodIn wsX1_tuneTo wsX1_reckon := goodIn_r _ [15, 16, 17, 18, 19, 20, 9, 21, 22, 23, 24, 25, 26, 27, 28, 29, 30, 31, 32, 33, 34, 35, 36, 37, 38, 39, 40, 41, 4, 42, 43, 44, 45, 46, 47, 48, 49, 50, 51, 52, 53, 3, 5, 54, 55, 56, 57, 58, 59, 60, 61, 62, 63, 64, 65, 66, 67, 68, 69, 70, 71, 72, 73, 74] (by decide +kernel) (by decide +kernel)
set_option maxRecDepth 20000 in
theorem gX1_tuneTo_X1_reckon : GoodIn wsX1_tuneTo (wsV RX1 67 RX1 yX1_reckon wsX1_reckon) := goodIn_app (goodIn_of _ (by decide +kernel)) ggX1_tuneTo_X1_reckon
set_option maxRecDepth 20000 in
theorem ggX1_tuned_X4_within : GoodIn wsX1_tuned wsX4_within := goodIn_r _ [4] (by decide +kernel) (by decide +kernel)
set_option maxRecDepth 20000 in
theorem gX1_tuned_X4_within_n27 : GoodIn wsX1_tuned (wsX4_within) := ggX1_tuned_X4_within
set_option maxRecDepth 20000 in
theorem ggX1_forceAt_X4_down : GoodIn wsX1_forceAt wsX4_down := goodIn_r _ [10, 11, 12, 13, 14] (by decide +kernel) (by decide +kernel)
set_option maxRecDepth 20000 in
theorem gX1_forceAt_X4_down_n54 : GoodIn wsX1_forceAt (wsX4_down) := ggX1_forceAt_X4_down
set_option maxRecDepth 20000 in
theorem ggX1_turnsOfShot_X4_up : GoodIn wsX1_turnsOfShot wsX4_up := goodIn_r _ [5, 6, 7, 8, 9] (by decide +kernel) (by decide +kernel)
set_option maxRecDepth 20000 in
theorem gX1_turnsOfShot_X4_up_n62 : GoodIn wsX1_turnsOfShot (wsX4_up) := ggX1_turnsOfShot_X4_up
set_option maxRecDepth 20000 in
theorem ggX2_takes_X4_within : GoodIn wsX2_takes wsX4_within := goodIn_r _ [5] (by decide +kernel) (by decide +kernel)
set_option maxRecDepth 20000 in
theorem gX2_takes_X4_within_n19 : GoodIn wsX2_takes (wsX4_within) := ggX2_takes_X4_within
set_option maxRecDepth 20000 in
theorem ggX2_put_X2_takes : GoodIn wsX2_put wsX2_takes := goodIn_r _ [6, 7, 8, 9, 10, 11] (by decide +kernel) (by decide +kernel)
set_option maxRecDepth 20000 in
theorem gX2_put_X2_takes : GoodIn wsX2_put (wsV RX2 29 RX2 yX2_takes wsX2_takes) := goodIn_app (goodIn_of _ (by decide +kernel)) ggX2_put_X2_takes
set_option maxRecDepth 20000 in
theorem ggX2_wholeDays_X2_isWet : GoodIn wsX2_wholeDays wsX2_isWet := goodIn_r _ [7, 8, 9, 17, 18, 19] (by decide +kernel) (by decide +kernel)
set_option maxRecDepth 20000 in
theorem gX2_wholeDays_X2_isWet : GoodIn wsX2_wholeDays (wsV RX2 42 RX2 yX2_isWet wsX2_isWet) := goodIn_app (goodIn_of _ (by decide +kernel)) ggX2_wholeDays_X2_isWet
set_option maxRecDepth 20000 in
theorem ggX2_wholeDays_X4_up : GoodIn wsX2_wholeDays wsX4_up := goodIn_r _ [12, 13, 14, 15, 16] (by decide +kernel) (by decide +kernel)
set_option maxRecDepth 20000 in
theorem gX2_wholeDays_X4_up_n48 : GoodIn wsX2_wholeDays (wsX4_up) := ggX2_wholeDays_X4_up
set_option maxRecDepth 20000 in
theorem ggX2_bestRate_X2_wholeDays : GoodIn wsX2_bestRate wsX2_wholeDays := goodIn_r _ [5, 6, 7, 8, 9, 10, 4, 11, 12, 13, 14, 15, 16, 17, 18, 19, 20, 21, 22, 23] (by decide +kernel) (by decide +kernel)
set_option maxRecDepth 20000 in
theorem gX2_bestRate_X2_wholeDays : GoodIn wsX2_bestRate (wsV RX2 52 RX2 yX2_wholeDays wsX2_wholeDays) := goodIn_app (goodIn_of _ (by decide +kernel)) ggX2_bestRate_X2_wholeDays
set_option maxRecDepth 20000 in
theorem ggX3_init_X3_build : GoodIn wsX3_init wsX3_build := goodIn_r _ [13, 14, 15, 5, 6, 7, 16, 17, 18, 19, 20, 21, 22] (by decide +kernel) (by decide +kernel)
set_option maxRecDepth 20000 in
theorem gX3_init_X3_build : GoodIn wsX3_init (wsV RX3 24 RX3 yX3_build wsX3_build) := goodIn_app (goodIn_of _ (by decide +kernel)) ggX3_init_X3_build
set_option maxRecDepth 20000 in
theorem ggX3_stands_X3_has : GoodIn wsX3_stands wsX3_has := goodIn_r _ [6, 7, 8, 12, 13, 14, 15, 16, 17, 18] (by decide +kernel) (by decide +kernel)
set_option maxRecDepth 20000 in
theorem gX3_stands_X3_has : GoodIn wsX3_stands (wsV RX3 35 RX3 yX3_has wsX3_has) := goodIn_app (goodIn_of _ (by decide +kernel)) ggX3_stands_X3_has
set_option maxRecDepth 20000 in
theorem ggX3_stands_X3_holds : GoodIn wsX3_stands wsX3_holds := goodIn_r _ [11] (by decide +kernel) (by decide +kernel)
set_option maxRecDepth 20000 in
theorem gX3_stands_X3_holds : GoodIn wsX3_stands (va_wsS RX3 39 yX3_holds wsX3_holds) := goodIn_app (goodIn_of _ (by decide +kernel)) ggX3_stands_X3_holds
set_option maxRecDepth 20000 in
theorem ggX3_isPropped_X3_has : GoodIn wsX3_isPropped wsX3_has := goodIn_r _ [6, 7, 8, 12, 13, 14, 15, 16, 17, 18] (by decide +kernel) (by decide +kernel)
set_option maxRecDepth 20000 in
theorem gX3_isPropped_X3_has : GoodIn wsX3_isPropped (wsV RX3 35 RX3 yX3_has wsX3_has) := goodIn_app (goodIn_of _ (by decide +kernel)) ggX3_isPropped_X3_has
set_option maxRecDepth 20000 in
theorem ggX3_isPropped_X3_holds : GoodIn wsX3_isPropped wsX3_holds := goodIn_r _ [11] (by decide +kernel) (by decide +kernel)
set_option maxRecDepth 20000 in
theorem gX3_isPropped_X3_holds : GoodIn wsX3_isPropped (va_wsS RX3 39 yX3_holds wsX3_holds) := goodIn_app (goodIn_of _ (by decide +kernel)) ggX3_isPropped_X3_holds
set_option maxRecDepth 20000 in
theorem ggX3_strengthAt_X3_has : GoodIn wsX3_strengthAt wsX3_has := goodIn_r _ [6, 7, 8, 12, 13, 14, 15, 16, 17, 18] (by decide +kernel) (by decide +kernel)
set_option maxRecDepth 20000 in
theorem gX3_strengthAt_X3_has : GoodIn wsX3_strengthAt (wsV RX3 35 RX3 yX3_has wsX3_has) := goodIn_app (goodIn_of _ (by decide +kernel)) ggX3_strengthAt_X3_has
set_option maxRecDepth 20000 in
theorem ggX3_strengthAt_X3_place : GoodIn wsX3_strengthAt wsX3_place := goodIn_r _ [11] (by decide +kernel) (by decide +kernel)
set_option maxRecDepth 20000 in
theorem gX3_strengthAt_X3_place : GoodIn wsX3_strengthAt (va_wsS RX3 42 yX3_place wsX3_place) := goodIn_app (goodIn_of _ (by decide +kernel)) ggX3_strengthAt_X3_place
set_option maxRecDepth 20000 in
theorem ggX3_putStrength_X3_has : GoodIn wsX3_putStrength wsX3_has := goodIn_r _ [6, 7, 8, 12, 13, 14, 15, 16, 17, 18] (by decide +kernel) (by decide +kernel)
set_option maxRecDepth 20000 in
theorem gX3_putStrength_X3_has : GoodIn wsX3_putStrength (wsV RX3 35 RX3 yX3_has wsX3_has) := goodIn_app (goodIn_of _ (by decide +kernel)) ggX3_putStrength_X3_has
set_option maxRecDepth 20000 in
theorem ggX3_putStrength_X3_place : GoodIn wsX3_putStrength wsX3_place := goodIn_r _ [11] (by decide +kernel) (by decide +kernel)
set_option maxRecDepth 20000 in
theorem gX3_putStrength_X3_place : GoodIn wsX3_putStrength (va_wsS RX3 42 yX3_place wsX3_place) := goodIn_app (goodIn_of _ (by decide +kernel)) ggX3_putStrength_X3_place
set_option maxRecDepth 20000 in
theorem ggX3_putProp_X3_has : GoodIn wsX3_putProp wsX3_has := goodIn_r _ [6, 7, 8, 12, 13, 14, 15, 16, 17, 18] (by decide +kernel) (by decide +kernel)
set_option maxRecDepth 20000 in
theorem gX3_putProp_X3_has : GoodIn wsX3_putProp (wsV RX3 35 RX3 yX3_has wsX3_has) := goodIn_app (goodIn_of _ (by decide +kernel)) ggX3_putProp_X3_has
set_option maxRecDepth 20000 in
theorem ggX3_putProp_X3_holds : GoodIn wsX3_putProp wsX3_holds := goodIn_r _ [11] (by decide +kernel) (by decide +kernel)
set_option maxRecDepth 20000 in
theorem gX3_putProp_X3_holds : GoodIn wsX3_putProp (va_wsS RX3 39 yX3_holds wsX3_holds) := goodIn_app (goodIn_of _ (by decide +kernel)) ggX3_putProp_X3_holds
set_option maxRecDepth 20000 in
theorem ggX3_strike_X3_stands : GoodIn wsX3_strike wsX3_stands := goodIn_r _ [8, 1, 9, 10, 11, 7, 12, 13, 14, 15, 16, 17, 32, 33, 34, 35, 36, 37, 38] (by decide +kernel) (by decide +kernel)
set_option maxRecDepth 20000 in
theorem gX3_strike_X3_stands : GoodIn wsX3_strike (wsV RX3 46 RX3 yX3_stands wsX3_stands) := goodIn_app (goodIn_of _ (by decide +kernel)) ggX3_strike_X3_stands
set_option maxRecDepth 20000 in
theorem ggX3_strike_J6_bitCount_0f7a4 : GoodIn wsX3_strike wsJ6_bitCount_0f7a4 := goodIn_r _ [21, 22, 23, 24] (by decide +kernel) (by decide +kernel)
set_option maxRecDepth 20000 in
theorem gX3_strike_J6_bitCount_0f7a4 : GoodIn wsX3_strike (va_wsS RX3 49 yJ6_bitCount_0f7a4 wsJ6_bitCount_0f7a4) := goodIn_app (goodIn_of _ (by decide +kernel)) ggX3_strike_J6_bitCount_0f7a4
set_option maxRecDepth 20000 in
theorem ggX3_strike_X3_place : GoodIn wsX3_strike wsX3_place := goodIn_r _ [27] (by decide +kernel) (by decide +kernel)
set_option maxRecDepth 20000 in
theorem gX3_strike_X3_place : GoodIn wsX3_strike (va_wsS RX3 42 yX3_place wsX3_place) := goodIn_app (goodIn_of _ (by decide +kernel)) ggX3_strike_X3_place
set_option maxRecDepth 20000 in
theorem ggX3_strike_X3_dropUnheld : GoodIn wsX3_strike wsX3_dropUnheld := goodIn_r _ [31, 14, 1, 3, 15, 16, 7, 17, 32, 33, 34, 35, 36, 37, 38] (by decide +kernel) (by decide +kernel)
set_option maxRecDepth 20000 in
theorem gX3_strike_X3_dropUnheld : GoodIn wsX3_strike (wsV RX3 55 RX3 yX3_dropUnheld wsX3_dropUnheld) := goodIn_app (goodIn_of _ (by decide +kernel)) ggX3_strike_X3_dropUnheld
set_option maxRecDepth 20000 in
theorem ggX3_dropUnheld_X3_holds : GoodIn wsX3_dropUnheld wsX3_holds := goodIn_r _ [7] (by decide +kernel) (by decide +kernel)
set_option maxRecDepth 20000 in
theorem gX3_dropUnheld_X3_holds : GoodIn wsX3_dropUnheld (va_wsS RX3 39 yX3_holds wsX3_holds) := goodIn_app (goodIn_of _ (by decide +kernel)) ggX3_dropUnheld_X3_holds
set_option maxRecDepth 20000 in
theorem ggX3_isOpen_J6_bitCount_0f7a4 : GoodIn wsX3_isOpen wsJ6_bitCount_0f7a4 := goodIn_r _ [6, 7, 8, 9] (by decide +kernel) (by decide +kernel)
set_option maxRecDepth 20000 in
theorem gX3_isOpen_J6_bitCount_0f7a4 : GoodIn wsX3_isOpen (va_wsS RX3 49 yJ6_bitCount_0f7a4 wsJ6_bitCount_0f7a4) := goodIn_app (goodIn_of _ (by decide +kernel)) ggX3_isOpen_J6_bitCount_0f7a4
set_option maxRecDepth 20000 in
theorem ggX3_firstOpen_X3_isOpen : GoodIn wsX3_firstOpen wsX3_isOpen := goodIn_r _ [6, 7, 8, 9, 10, 11, 12, 13, 14, 15, 16, 17, 18, 19, 20, 21, 22] (by decide +kernel) (by decide +kernel)
set_option maxRecDepth 20000 in
theorem gX3_firstOpen_X3_isOpen : GoodIn wsX3_firstOpen (wsV RX3 62 RX3 yX3_isOpen wsX3_isOpen) := goodIn_app (goodIn_of _ (by decide +kernel)) ggX3_firstOpen_X3_isOpen
set_option maxRecDepth 20000 in
theorem ggX3_openColumns_X3_isOpen : GoodIn wsX3_openColumns wsX3_isOpen := goodIn_r _ [6, 7, 8, 9, 10, 11, 12, 13, 14, 15, 16, 17, 18, 19, 20, 21, 22] (by decide +kernel) (by decide +kernel)
set_option maxRecDepth 20000 in
theorem gX3_openColumns_X3_isOpen : GoodIn wsX3_openColumns (wsV RX3 62 RX3 yX3_isOpen wsX3_isOpen) := goodIn_app (goodIn_of _ (by decide +kernel)) ggX3_openColumns_X3_isOpen
set_option maxRecDepth 20000 in
theorem ggX3_standingCells_J6_bitCount_0f7a4 : GoodIn wsX3_standingCells wsJ6_bitCount_0f7a4 := goodIn_r _ [6, 7, 8, 9] (by decide +kernel) (by decide +kernel)
set_option maxRecDepth 20000 in
theorem gX3_standingCells_J6_bitCount_0f7a4 : GoodIn wsX3_standingCells (va_wsS RX3 49 yJ6_bitCount_0f7a4 wsJ6_bitCount_0f7a4) := goodIn_app (goodIn_of _ (by decide +kernel)) ggX3_standingCells_J6_bitCount_0f7a4
set_option maxRecDepth 20000 in
theorem ggX3_soonestColumn_X3_hitsToOpen : GoodIn wsX3_soonestColumn wsX3_hitsToOpen := goodIn_r _ [6, 1, 7, 8, 9, 10, 11, 12, 13, 14, 15, 16, 17, 18, 19, 20, 21, 22, 23, 24, 25, 26, 27, 5, 28, 29, 30, 31, 32, 33, 34, 35, 36, 37, 38, 39, 40, 41, 42, 43, 44, 45, 46, 47, 48, 49] (by decide +kernel) (by decide +kernel)
set_option maxRecDepth 20000 in
theorem gX3_soonestColumn_X3_hitsToOpen : GoodIn wsX3_soonestColumn (wsV RX3 66 RX3 yX3_hitsToOpen wsX3_hitsToOpen) := goodIn_app (goodIn_of _ (by decide +kernel)) ggX3_soonestColumn_X3_hitsToOpen
set_option maxRecDepth 20000 in
theorem ggX3_hitsToOpen_X4_within : GoodIn wsX3_hitsToOpen wsX4_within := goodIn_r _ [12] (by decide +kernel) (by decide +kernel)
set_option maxRecDepth 20000 in
theorem gX3_hitsToOpen_X4_within_n69 : GoodIn wsX3_hitsToOpen (wsX4_within) := ggX3_hitsToOpen_X4_within
set_option maxRecDepth 20000 in
theorem ggX3_hitsToOpen_J6_bitCount_0f7a4 : GoodIn wsX3_hitsToOpen wsJ6_bitCount_0f7a4 := goodIn_r _ [16, 17, 18, 19] (by decide +kernel) (by decide +kernel)
set_option maxRecDepth 20000 in
theorem gX3_hitsToOpen_J6_bitCount_0f7a4 : GoodIn wsX3_hitsToOpen (va_wsS RX3 49 yJ6_bitCount_0f7a4 wsJ6_bitCount_0f7a4) := goodIn_app (goodIn_of _ (by decide +kernel)) ggX3_hitsToOpen_J6_bitCount_0f7a4
end
section
set_option maxRecDepth 20000 in
theorem ggX3_hitsToOpen_X3_hitsToKeep : GoodIn wsX3_hitsToOpen wsX3_hitsToKeep := goodIn_r _ [24, 3, 25, 2, 4, 26, 27, 28, 23, 29, 30, 31, 32, 33, 11, 34, 35, 36, 37, 38, 39, 40, 41, 42, 43, 44, 45] (by decide +kernel) (by decide +kernel)
set_option maxRecDepth 20000 in
theorem gX3_hitsToOpen_X3_hitsToKeep : GoodIn wsX3_hitsToOpen (wsV RX3 74 RX3 yX3_hitsToKeep wsX3_hitsToKeep) := goodIn_app (goodIn_of _ (by decide +kernel)) ggX3_hitsToOpen_X3_hitsToKeep
set_option maxRecDepth 20000 in
theorem ggX3_hitsToKeep_X3_holds : GoodIn wsX3_hitsToKeep wsX3_holds := goodIn_r _ [9] (by decide +kernel) (by decide +kernel)
set_option maxRecDepth 20000 in
theorem gX3_hitsToKeep_X3_holds : GoodIn wsX3_hitsToKeep (va_wsS RX3 39 yX3_holds wsX3_holds) := goodIn_app (goodIn_of _ (by decide +kernel)) ggX3_hitsToKeep_X3_holds
set_option maxRecDepth 20000 in
theorem ggX3_hitsToKeep_X3_place : GoodIn wsX3_hitsToKeep wsX3_place := goodIn_r _ [12] (by decide +kernel) (by decide +kernel)
set_option maxRecDepth 20000 in
theorem gX3_hitsToKeep_X3_place : GoodIn wsX3_hitsToKeep (va_wsS RX3 42 yX3_place wsX3_place) := goodIn_app (goodIn_of _ (by decide +kernel)) ggX3_hitsToKeep_X3_place
set_option maxRecDepth 20000 in
theorem ggX3_hitsToKeep_X4_up : GoodIn wsX3_hitsToKeep wsX4_up := goodIn_r _ [15, 16, 17, 18, 19] (by decide +kernel) (by decide +kernel)
set_option maxRecDepth 20000 in
theorem gX3_hitsToKeep_X4_up_n83 : GoodIn wsX3_hitsToKeep (wsX4_up) := ggX3_hitsToKeep_X4_up
set_option maxRecDepth 20000 in
theorem ggX3_putWeight_X3_weightPlace : GoodIn wsX3_putWeight wsX3_weightPlace := goodIn_r _ [5] (by decide +kernel) (by decide +kernel)
set_option maxRecDepth 20000 in
theorem gX3_putWeight_X3_weightPlace : GoodIn wsX3_putWeight (va_wsS RX3 87 yX3_weightPlace wsX3_weightPlace) := goodIn_app (goodIn_of _ (by decide +kernel)) ggX3_putWeight_X3_weightPlace
set_option maxRecDepth 20000 in
theorem ggX3_putWeight_X4_within : GoodIn wsX3_putWeight wsX4_within := goodIn_r _ [8] (by decide +kernel) (by decide +kernel)
set_option maxRecDepth 20000 in
theorem gX3_putWeight_X4_within_n69 : GoodIn wsX3_putWeight (wsX4_within) := ggX3_putWeight_X4_within
set_option maxRecDepth 20000 in
theorem ggX3_worthOf_X3_weightPlace : GoodIn wsX3_worthOf wsX3_weightPlace := goodIn_r _ [5] (by decide +kernel) (by decide +kernel)
set_option maxRecDepth 20000 in
theorem gX3_worthOf_X3_weightPlace : GoodIn wsX3_worthOf (va_wsS RX3 87 yX3_weightPlace wsX3_weightPlace) := goodIn_app (goodIn_of _ (by decide +kernel)) ggX3_worthOf_X3_weightPlace
set_option maxRecDepth 20000 in
theorem ggX3_worthOf_X3_fallsBy : GoodIn wsX3_worthOf wsX3_fallsBy := goodIn_r _ [9, 10, 11, 12, 13, 14, 15, 4, 16, 17, 18, 19, 20, 21, 22, 23, 24, 25, 26, 27, 28, 29, 30, 31, 32, 33, 34, 35, 36, 37, 38, 39, 40, 41, 42, 43, 44, 45, 46, 47, 48, 49, 50] (by decide +kernel) (by decide +kernel)
set_option maxRecDepth 20000 in
theorem gX3_worthOf_X3_fallsBy : GoodIn wsX3_worthOf (wsV RX3 90 RX3 yX3_fallsBy wsX3_fallsBy) := goodIn_app (goodIn_of _ (by decide +kernel)) ggX3_worthOf_X3_fallsBy
set_option maxRecDepth 20000 in
theorem ggX3_fallsBy_X3_stands : GoodIn wsX3_fallsBy wsX3_stands := goodIn_r _ [8, 1, 9, 10, 11, 7, 12, 13, 14, 15, 16, 17, 36, 37, 38, 39, 40, 41, 42] (by decide +kernel) (by decide +kernel)
set_option maxRecDepth 20000 in
theorem gX3_fallsBy_X3_stands : GoodIn wsX3_fallsBy (wsV RX3 46 RX3 yX3_stands wsX3_stands) := goodIn_app (goodIn_of _ (by decide +kernel)) ggX3_fallsBy_X3_stands
set_option maxRecDepth 20000 in
theorem ggX3_fallsBy_X3_place : GoodIn wsX3_fallsBy wsX3_place := goodIn_r _ [20] (by decide +kernel) (by decide +kernel)
set_option maxRecDepth 20000 in
theorem gX3_fallsBy_X3_place : GoodIn wsX3_fallsBy (va_wsS RX3 42 yX3_place wsX3_place) := goodIn_app (goodIn_of _ (by decide +kernel)) ggX3_fallsBy_X3_place
set_option maxRecDepth 20000 in
theorem ggX3_fallsBy_X3_strike : GoodIn wsX3_fallsBy wsX3_strike := goodIn_r _ [24, 1, 3, 2, 4, 5, 6, 7, 8, 9, 10, 11, 12, 13, 14, 15, 16, 17, 25, 26, 27, 28, 29, 30, 31, 18, 19, 20, 32, 33, 34, 35, 36, 37, 38, 39, 40, 41, 42] (by decide +kernel) (by decide +kernel)
set_option maxRecDepth 20000 in
theorem gX3_fallsBy_X3_strike : GoodIn wsX3_fallsBy (wsV RX3 93 RX3 yX3_strike wsX3_strike) := goodIn_app (goodIn_of _ (by decide +kernel)) ggX3_fallsBy_X3_strike
set_option maxRecDepth 20000 in
theorem ggX3_bestAim_X3_columnOf : GoodIn wsX3_bestAim wsX3_columnOf := goodIn_r _ [7, 1, 56, 57, 58, 59, 60, 61, 62] (by decide +kernel) (by decide +kernel)
set_option maxRecDepth 20000 in
theorem gX3_bestAim_X3_columnOf : GoodIn wsX3_bestAim (wsV RX3 96 RX3 yX3_columnOf wsX3_columnOf) := goodIn_app (goodIn_of _ (by decide +kernel)) ggX3_bestAim_X3_columnOf
set_option maxRecDepth 20000 in
theorem ggX3_bestAim_X3_rowOf : GoodIn wsX3_bestAim wsX3_rowOf := goodIn_r _ [11, 1, 56, 57, 58, 59, 60, 61, 62] (by decide +kernel) (by decide +kernel)
set_option maxRecDepth 20000 in
theorem gX3_bestAim_X3_rowOf : GoodIn wsX3_bestAim (wsV RX3 99 RX3 yX3_rowOf wsX3_rowOf) := goodIn_app (goodIn_of _ (by decide +kernel)) ggX3_bestAim_X3_rowOf
set_option maxRecDepth 20000 in
theorem ggX3_bestAim_X3_worthOf : GoodIn wsX3_bestAim wsX3_worthOf := goodIn_r _ [15, 16, 17, 18, 6, 19, 20, 21, 22, 23, 24, 25, 26, 27, 28, 29, 30, 31, 32, 33, 34, 1, 2, 35, 36, 37, 38, 39, 40, 41, 42, 43, 44, 45, 46, 47, 48, 49, 50, 51, 52, 53, 54, 55, 56, 57, 58, 59, 60, 61, 62] (by decide +kernel) (by decide +kernel)
set_option maxRecDepth 20000 in
theorem gX3_bestAim_X3_worthOf : GoodIn wsX3_bestAim (wsV RX3 102 RX3 yX3_worthOf wsX3_worthOf) := goodIn_app (goodIn_of _ (by decide +kernel)) ggX3_bestAim_X3_worthOf
set_option maxRecDepth 20000 in
theorem ggX3_heldAfter_X3_heldBy : GoodIn wsX3_heldAfter wsX3_heldBy := goodIn_r _ [5, 6, 7, 8, 9, 10, 11, 4, 12, 13, 14, 15, 16, 17, 18, 19, 20, 21, 22, 23, 24, 25, 26, 27, 28, 29, 30, 31, 32, 33, 34, 35, 36, 37, 38, 39, 40, 41, 42, 43, 44, 45, 46, 0, 1, 2, 3, 47, 48, 49, 50, 51, 52, 53] (by decide +kernel) (by decide +kernel)
set_option maxRecDepth 20000 in
theorem gX3_heldAfter_X3_heldBy : GoodIn wsX3_heldAfter (va_wsS RX3 105 yX3_heldBy wsX3_heldBy) := goodIn_app (goodIn_of _ (by decide +kernel)) ggX3_heldAfter_X3_heldBy
set_option maxRecDepth 20000 in
theorem ggX3_heldBy_X3_stands : GoodIn wsX3_heldBy wsX3_stands := goodIn_r _ [8, 1, 9, 10, 11, 7, 12, 13, 14, 15, 16, 17, 47, 48, 49, 50, 51, 52, 53] (by decide +kernel) (by decide +kernel)
set_option maxRecDepth 20000 in
theorem gX3_heldBy_X3_stands : GoodIn wsX3_heldBy (wsV RX3 46 RX3 yX3_stands wsX3_stands) := goodIn_app (goodIn_of _ (by decide +kernel)) ggX3_heldBy_X3_stands
set_option maxRecDepth 20000 in
theorem ggX3_heldBy_X3_heldAfter : GoodIn wsX3_heldBy wsX3_heldAfter := goodIn_r _ [43, 44, 45, 46, 7, 0, 1, 2, 3, 4, 5, 6, 8, 9, 10, 11, 12, 13, 14, 15, 16, 17, 18, 19, 20, 21, 22, 23, 24, 25, 26, 27, 28, 29, 30, 31, 32, 33, 34, 35, 36, 37, 38, 39, 40, 41, 42, 47, 48, 49, 50, 51, 52, 53] (by decide +kernel) (by decide +kernel)
set_option maxRecDepth 20000 in
theorem gX3_heldBy_X3_heldAfter : GoodIn wsX3_heldBy (va_wsS RX3 109 yX3_heldAfter wsX3_heldAfter) := goodIn_app (goodIn_of _ (by decide +kernel)) ggX3_heldBy_X3_heldAfter
set_option maxRecDepth 20000 in
theorem ggX3_heldBy_X3_place : GoodIn wsX3_heldBy wsX3_place := goodIn_r _ [22] (by decide +kernel) (by decide +kernel)
set_option maxRecDepth 20000 in
theorem gX3_heldBy_X3_place : GoodIn wsX3_heldBy (va_wsS RX3 42 yX3_place wsX3_place) := goodIn_app (goodIn_of _ (by decide +kernel)) ggX3_heldBy_X3_place
set_option maxRecDepth 20000 in
theorem ggX3_heldBy_X3_strike : GoodIn wsX3_heldBy wsX3_strike := goodIn_r _ [26, 1, 3, 2, 4, 5, 6, 7, 8, 9, 10, 11, 12, 13, 14, 15, 16, 17, 27, 28, 29, 30, 31, 32, 33, 20, 21, 22, 34, 35, 36, 37, 47, 48, 49, 50, 51, 52, 53] (by decide +kernel) (by decide +kernel)
set_option maxRecDepth 20000 in
theorem gX3_heldBy_X3_strike : GoodIn wsX3_heldBy (wsV RX3 93 RX3 yX3_strike wsX3_strike) := goodIn_app (goodIn_of _ (by decide +kernel)) ggX3_heldBy_X3_strike
set_option maxRecDepth 20000 in
theorem ggX3_heldBy_X3_isOpen : GoodIn wsX3_heldBy wsX3_isOpen := goodIn_r _ [41, 1, 42, 27, 28, 29, 30, 31, 32, 33, 47, 48, 49, 50, 51, 52, 53] (by decide +kernel) (by decide +kernel)
set_option maxRecDepth 20000 in
theorem gX3_heldBy_X3_isOpen : GoodIn wsX3_heldBy (wsV RX3 62 RX3 yX3_isOpen wsX3_isOpen) := goodIn_app (goodIn_of _ (by decide +kernel)) ggX3_heldBy_X3_isOpen
set_option maxRecDepth 20000 in
theorem ggX4_init_X1_init : GoodIn wsX4_init wsX1_init := goodIn_r _ [23, 24, 2, 3, 25, 26, 27, 28, 29, 30, 31, 32, 6, 33, 34, 35, 36, 37, 38, 39, 40, 41, 42, 43, 44, 45, 46, 47, 48, 49, 50, 51, 82, 83, 84, 85, 86, 87] (by decide +kernel) (by decide +kernel)
set_option maxRecDepth 20000 in
theorem gX4_init_X1_init : GoodIn wsX4_init (wsX1_init) := ggX4_init_X1_init
set_option maxRecDepth 20000 in
theorem ggX4_init_X0_init : GoodIn wsX4_init wsX0_init := goodIn_r _ [54, 55, 2, 3, 25, 56, 57, 58, 59, 60, 61, 95, 96, 97, 98, 99, 100, 101] (by decide +kernel) (by decide +kernel)
set_option maxRecDepth 20000 in
theorem gX4_init_X0_init : GoodIn wsX4_init (wsX0_init) := ggX4_init_X0_init
set_option maxRecDepth 20000 in
theorem ggX4_init_X3_init : GoodIn wsX4_init wsX3_init := goodIn_r _ [64, 65, 2, 3, 25, 66, 67, 68, 69, 70, 71, 72, 14, 73, 74, 75, 102, 103, 104, 105, 106, 107, 108] (by decide +kernel) (by decide +kernel)
set_option maxRecDepth 20000 in
theorem gX4_init_X3_init : GoodIn wsX4_init (wsX3_init) := ggX4_init_X3_init
set_option maxRecDepth 20000 in
theorem ggX4_init_X2_init : GoodIn wsX4_init wsX2_init := goodIn_r _ [78, 79, 2, 3, 25, 80, 81, 109, 110, 111] (by decide +kernel) (by decide +kernel)
set_option maxRecDepth 20000 in
theorem gX4_init_X2_init : GoodIn wsX4_init (wsX2_init) := ggX4_init_X2_init
set_option maxRecDepth 20000 in
theorem ggX4_set_X1_takes : GoodIn wsX4_set wsX1_takes := goodIn_r _ [7, 8, 9, 10, 11, 12] (by decide +kernel) (by decide +kernel)
set_option maxRecDepth 20000 in
theorem gX4_set_X1_takes : GoodIn wsX4_set (wsV RX4 41 RX1 yX1_takes wsX1_takes) := goodIn_app (goodIn_of _ (by decide +kernel)) ggX4_set_X1_takes
set_option maxRecDepth 20000 in
theorem ggX4_set_X1_put : GoodIn wsX4_set wsX1_put := goodIn_r _ [16, 17, 18, 4, 5, 6, 7, 8, 9, 10, 11, 12, 19, 20, 21, 22, 23, 24, 25, 26, 27, 28, 29, 30, 31, 32, 33, 34, 35, 36, 37, 38, 39, 40, 48, 49, 50, 51, 52, 53] (by decide +kernel) (by decide +kernel)
set_option maxRecDepth 20000 in
theorem gX4_set_X1_put : GoodIn wsX4_set (wsV RX4 45 RX1 yX1_put wsX1_put) := goodIn_app (goodIn_of _ (by decide +kernel)) ggX4_set_X1_put
set_option maxRecDepth 20000 in
theorem ggX4_wind_X4_within : GoodIn wsX4_wind wsX4_within := goodIn_r _ [5] (by decide +kernel) (by decide +kernel)
set_option maxRecDepth 20000 in
theorem gX4_wind_X4_within : GoodIn wsX4_wind (va_wsS RX4 49 yX4_within wsX4_within) := goodIn_app (goodIn_of _ (by decide +kernel)) ggX4_wind_X4_within
set_option maxRecDepth 20000 in
theorem ggX4_wind_X1_putWind : GoodIn wsX4_wind wsX1_putWind := goodIn_r _ [10, 11, 19, 20, 21, 22, 23, 24] (by decide +kernel) (by decide +kernel)
set_option maxRecDepth 20000 in
theorem gX4_wind_X1_putWind : GoodIn wsX4_wind (wsV RX4 53 RX1 yX1_putWind wsX1_putWind) := goodIn_app (goodIn_of _ (by decide +kernel)) ggX4_wind_X1_putWind
set_option maxRecDepth 20000 in
theorem ggX4_sine_X4_within : GoodIn wsX4_sine wsX4_within := goodIn_r _ [4] (by decide +kernel) (by decide +kernel)
set_option maxRecDepth 20000 in
theorem gX4_sine_X4_within : GoodIn wsX4_sine (va_wsS RX4 49 yX4_within wsX4_within) := goodIn_app (goodIn_of _ (by decide +kernel)) ggX4_sine_X4_within
set_option maxRecDepth 20000 in
theorem ggX4_sine_X4_sineOf : GoodIn wsX4_sine wsX4_sineOf := goodIn_r _ [7, 8, 9, 10, 11, 12, 13, 14, 15, 3, 16, 17, 18, 19, 20] (by decide +kernel) (by decide +kernel)
set_option maxRecDepth 20000 in
theorem gX4_sine_X4_sineOf : GoodIn wsX4_sine (va_wsS RX4 57 yX4_sineOf wsX4_sineOf) := goodIn_app (goodIn_of _ (by decide +kernel)) ggX4_sine_X4_sineOf
set_option maxRecDepth 20000 in
theorem ggX4_throwing_X4_within : GoodIn wsX4_throwing wsX4_within := goodIn_r _ [5] (by decide +kernel) (by decide +kernel)
set_option maxRecDepth 20000 in
theorem gX4_throwing_X4_within : GoodIn wsX4_throwing (va_wsS RX4 49 yX4_within wsX4_within) := goodIn_app (goodIn_of _ (by decide +kernel)) ggX4_throwing_X4_within
set_option maxRecDepth 20000 in
theorem ggX4_throwing_X1_reckonOwn : GoodIn wsX4_throwing wsX1_reckonOwn := goodIn_r _ [10, 11, 12, 13, 14, 9, 15, 16, 17, 18, 19, 20, 21, 22, 23, 24, 25, 4, 26, 27, 28, 29, 30, 31, 32, 33, 34, 35, 36, 37, 38, 39, 40, 41, 3, 5, 42, 43, 44, 45, 46, 47, 48, 49, 50, 51, 52, 53, 54, 55, 56, 57, 58, 59, 60, 61, 62, 63, 64, 65, 66, 67, 79, 80, 81, 82, 83, 84] (by decide +kernel) (by decide +kernel)
set_option maxRecDepth 20000 in
theorem gX4_throwing_X1_reckonOwn : GoodIn wsX4_throwing (wsV RX4 60 RX1 yX1_reckonOwn wsX1_reckonOwn) := goodIn_app (goodIn_of _ (by decide +kernel)) ggX4_throwing_X1_reckonOwn
set_option maxRecDepth 20000 in
theorem ggX4_throwing_X1_reckoned : GoodIn wsX4_throwing wsX1_reckoned := goodIn_r _ [71, 16, 3, 4, 5, 79, 80, 81, 82, 83, 84] (by decide +kernel) (by decide +kernel)
set_option maxRecDepth 20000 in
theorem gX4_throwing_X1_reckoned : GoodIn wsX4_throwing (wsV RX4 64 RX1 yX1_reckoned wsX1_reckoned) := goodIn_app (goodIn_of _ (by decide +kernel)) ggX4_throwing_X1_reckoned
set_option maxRecDepth 20000 in
theorem ggX4_flight_X4_within : GoodIn wsX4_flight wsX4_within := goodIn_r _ [6] (by decide +kernel) (by decide +kernel)
set_option maxRecDepth 20000 in
theorem gX4_flight_X4_within : GoodIn wsX4_flight (va_wsS RX4 49 yX4_within wsX4_within) := goodIn_app (goodIn_of _ (by decide +kernel)) ggX4_flight_X4_within
set_option maxRecDepth 20000 in
theorem ggX4_flight_X1_bodiesAsked : GoodIn wsX4_flight wsX1_bodiesAsked := goodIn_r _ [10] (by decide +kernel) (by decide +kernel)
set_option maxRecDepth 20000 in
theorem gX4_flight_X1_bodiesAsked : GoodIn wsX4_flight (va_wsS RX4 71 yX1_bodiesAsked wsX1_bodiesAsked) := goodIn_app (goodIn_of _ (by decide +kernel)) ggX4_flight_X1_bodiesAsked
set_option maxRecDepth 20000 in
theorem ggX4_flight_X1_flightOf : GoodIn wsX4_flight wsX1_flightOf := goodIn_r _ [14, 15, 16, 17, 18, 19, 20, 21, 22, 23, 24, 25, 26, 5, 27, 28, 29, 30, 31, 32, 33, 41, 42, 43, 44, 45, 46] (by decide +kernel) (by decide +kernel)
set_option maxRecDepth 20000 in
theorem gX4_flight_X1_flightOf : GoodIn wsX4_flight (wsV RX4 74 RX1 yX1_flightOf wsX1_flightOf) := goodIn_app (goodIn_of _ (by decide +kernel)) ggX4_flight_X1_flightOf
set_option maxRecDepth 20000 in
theorem ggX4_tune_X1_takes : GoodIn wsX4_tune wsX1_takes := goodIn_r _ [6, 7, 8, 9, 10, 11] (by decide +kernel) (by decide +kernel)
set_option maxRecDepth 20000 in
theorem gX4_tune_X1_takes : GoodIn wsX4_tune (wsV RX4 41 RX1 yX1_takes wsX1_takes) := goodIn_app (goodIn_of _ (by decide +kernel)) ggX4_tune_X1_takes
set_option maxRecDepth 20000 in
theorem ggX4_tune_X4_within : GoodIn wsX4_tune wsX4_within := goodIn_r _ [11] (by decide +kernel) (by decide +kernel)
set_option maxRecDepth 20000 in
theorem gX4_tune_X4_within : GoodIn wsX4_tune (va_wsS RX4 49 yX4_within wsX4_within) := goodIn_app (goodIn_of _ (by decide +kernel)) ggX4_tune_X4_within
set_option maxRecDepth 20000 in
theorem ggX4_tune_X1_tuneTo : GoodIn wsX4_tune wsX1_tuneTo := goodIn_r _ [16, 17, 18, 19, 20, 21, 22, 23, 24, 5, 25, 26, 27, 28, 29, 30, 31, 32, 33, 34, 35, 36, 37, 38, 39, 40, 41, 10, 42, 43, 44, 45, 46, 47, 48, 49, 50, 51, 52, 53, 54, 55, 56, 9, 11, 57, 58, 59, 60, 61, 62, 63, 64, 65, 66, 67, 68, 69, 70, 71, 72, 73, 74, 75, 76, 77, 78, 79, 80, 92, 93, 94, 95, 96, 97] (by decide +kernel) (by decide +kernel)
set_option maxRecDepth 20000 in
theorem gX4_tune_X1_tuneTo : GoodIn wsX4_tune (wsV RX4 77 RX1 yX1_tuneTo wsX1_tuneTo) := goodIn_app (goodIn_of _ (by decide +kernel)) ggX4_tune_X1_tuneTo
set_option maxRecDepth 20000 in
theorem ggX4_tune_X1_tuned : GoodIn wsX4_tune wsX1_tuned := goodIn_r _ [84, 26, 9, 10, 11, 92, 93, 94, 95, 96, 97] (by decide +kernel) (by decide +kernel)
set_option maxRecDepth 20000 in
theorem gX4_tune_X1_tuned : GoodIn wsX4_tune (wsV RX4 81 RX1 yX1_tuned wsX1_tuned) := goodIn_app (goodIn_of _ (by decide +kernel)) ggX4_tune_X1_tuned
set_option maxRecDepth 20000 in
theorem ggX4_spread_X4_within : GoodIn wsX4_spread wsX4_within := goodIn_r _ [5] (by decide +kernel) (by decide +kernel)
set_option maxRecDepth 20000 in
theorem gX4_spread_X4_within : GoodIn wsX4_spread (va_wsS RX4 49 yX4_within wsX4_within) := goodIn_app (goodIn_of _ (by decide +kernel)) ggX4_spread_X4_within
set_option maxRecDepth 20000 in
theorem ggX4_spread_X0_putSpread : GoodIn wsX4_spread wsX0_putSpread := goodIn_r _ [10, 11, 19, 20, 21, 22, 23, 24, 25] (by decide +kernel) (by decide +kernel)
set_option maxRecDepth 20000 in
theorem gX4_spread_X0_putSpread : GoodIn wsX4_spread (wsV RX4 84 RX0 yX0_putSpread wsX0_putSpread) := goodIn_app (goodIn_of _ (by decide +kernel)) ggX4_spread_X0_putSpread
set_option maxRecDepth 20000 in
theorem ggX4_shot_X4_within : GoodIn wsX4_shot wsX4_within := goodIn_r _ [5] (by decide +kernel) (by decide +kernel)
set_option maxRecDepth 20000 in
theorem gX4_shot_X4_within : GoodIn wsX4_shot (va_wsS RX4 49 yX4_within wsX4_within) := goodIn_app (goodIn_of _ (by decide +kernel)) ggX4_shot_X4_within
set_option maxRecDepth 20000 in
theorem ggX4_shot_X0_tell : GoodIn wsX4_shot wsX0_tell := goodIn_r _ [10, 11, 12, 13, 25, 26, 27, 28, 29, 30, 31] (by decide +kernel) (by decide +kernel)
set_option maxRecDepth 20000 in
theorem gX4_shot_X0_tell : GoodIn wsX4_shot (wsV RX4 87 RX0 yX0_tell wsX0_tell) := goodIn_app (goodIn_of _ (by decide +kernel)) ggX4_shot_X0_tell
set_option maxRecDepth 20000 in
theorem ggX4_shot_X0_told : GoodIn wsX4_shot wsX0_told := goodIn_r _ [17, 11, 25, 26, 27, 28, 29, 30, 31] (by decide +kernel) (by decide +kernel)
set_option maxRecDepth 20000 in
theorem gX4_shot_X0_told : GoodIn wsX4_shot (wsV RX4 90 RX0 yX0_told wsX0_told) := goodIn_app (goodIn_of _ (by decide +kernel)) ggX4_shot_X0_told
set_option maxRecDepth 20000 in
theorem ggX4_clear_X0_forgetShots : GoodIn wsX4_clear wsX0_forgetShots := goodIn_r _ [6, 7, 15, 16, 17, 18, 19, 20, 21] (by decide +kernel) (by decide +kernel)
set_option maxRecDepth 20000 in
theorem gX4_clear_X0_forgetShots : GoodIn wsX4_clear (wsV RX4 93 RX0 yX0_forgetShots wsX0_forgetShots) := goodIn_app (goodIn_of _ (by decide +kernel)) ggX4_clear_X0_forgetShots
set_option maxRecDepth 20000 in
theorem ggX4_left_X0_study : GoodIn wsX4_left wsX0_study := goodIn_r _ [7, 8, 9, 10, 11, 12, 13, 14, 15, 16, 17, 18, 19, 20, 21, 22, 23, 24, 25, 26, 27, 28, 29, 30, 31, 32, 33, 34, 35, 36, 37, 38, 39, 40, 41, 42, 43, 44, 45, 46, 47, 48, 49, 50, 51, 52, 53, 54, 55, 56, 57, 58, 59, 60, 61, 62, 63, 64, 65, 66, 67, 68, 69, 70, 71, 72, 73, 74, 75, 76, 77, 78, 79, 80, 81, 6, 82, 83, 84, 85, 86, 87, 88, 89, 90, 91, 92, 108, 109, 110, 111, 112, 113, 114, 115, 116, 117, 118, 119, 120] (by decide +kernel) (by decide +kernel)
set_option maxRecDepth 20000 in
theorem gX4_left_X0_study : GoodIn wsX4_left (wsV RX4 96 RX0 yX0_study wsX0_study) := goodIn_app (goodIn_of _ (by decide +kernel)) ggX4_left_X0_study
set_option maxRecDepth 20000 in
theorem ggX4_left_X0_pairsLeft : GoodIn wsX4_left wsX0_pairsLeft := goodIn_r _ [96, 10, 9, 97, 98, 99, 6, 100, 108, 109, 110, 111, 112, 113, 114] (by decide +kernel) (by decide +kernel)
set_option maxRecDepth 20000 in
theorem gX4_left_X0_pairsLeft : GoodIn wsX4_left (wsV RX4 100 RX0 yX0_pairsLeft wsX0_pairsLeft) := goodIn_app (goodIn_of _ (by decide +kernel)) ggX4_left_X0_pairsLeft
set_option maxRecDepth 20000 in
theorem ggX4_span_X4_within : GoodIn wsX4_span wsX4_within := goodIn_r _ [6] (by decide +kernel) (by decide +kernel)
set_option maxRecDepth 20000 in
theorem gX4_span_X4_within : GoodIn wsX4_span (va_wsS RX4 49 yX4_within wsX4_within) := goodIn_app (goodIn_of _ (by decide +kernel)) ggX4_span_X4_within
set_option maxRecDepth 20000 in
theorem ggX4_span_X0_study : GoodIn wsX4_span wsX0_study := goodIn_r _ [11, 12, 13, 14, 15, 16, 17, 18, 19, 20, 21, 22, 23, 24, 25, 26, 27, 28, 29, 30, 31, 32, 33, 34, 35, 36, 37, 5, 38, 39, 40, 41, 42, 43, 44, 45, 46, 47, 48, 49, 50, 51, 52, 53, 4, 6, 54, 55, 56, 57, 58, 59, 60, 61, 62, 63, 64, 65, 66, 67, 68, 69, 70, 71, 72, 73, 74, 75, 76, 77, 78, 79, 80, 81, 82, 10, 83, 84, 85, 86, 87, 88, 89, 90, 91, 92, 93, 123, 124, 125, 126, 127, 128, 129, 130, 131, 132, 133, 134, 135] (by decide +kernel) (by decide +kernel)
set_option maxRecDepth 20000 in
theorem gX4_span_X0_study : GoodIn wsX4_span (wsV RX4 96 RX0 yX0_study wsX0_study) := goodIn_app (goodIn_of _ (by decide +kernel)) ggX4_span_X0_study
set_option maxRecDepth 20000 in
theorem ggX4_span_X0_places : GoodIn wsX4_span wsX0_places := goodIn_r _ [97, 12, 98, 99, 100, 10, 101, 14, 13, 102, 103, 104, 105, 123, 124, 125, 126, 127, 128, 129] (by decide +kernel) (by decide +kernel)
set_option maxRecDepth 20000 in
theorem gX4_span_X0_places : GoodIn wsX4_span (wsV RX4 103 RX0 yX0_places wsX0_places) := goodIn_app (goodIn_of _ (by decide +kernel)) ggX4_span_X0_places
set_option maxRecDepth 20000 in
theorem ggX4_span_X0_leastPlace : GoodIn wsX4_span wsX0_leastPlace := goodIn_r _ [109, 110, 13, 86, 87, 52, 88, 102, 103, 104, 10, 105, 14, 89, 90, 91, 92, 12, 93, 58, 5, 59, 39, 40, 41, 42, 123, 124, 125, 126, 127, 128, 129] (by decide +kernel) (by decide +kernel)
set_option maxRecDepth 20000 in
theorem gX4_span_X0_leastPlace : GoodIn wsX4_span (wsV RX4 107 RX0 yX0_leastPlace wsX0_leastPlace) := goodIn_app (goodIn_of _ (by decide +kernel)) ggX4_span_X0_leastPlace
set_option maxRecDepth 20000 in
theorem ggX4_span_X0_greatestPlace : GoodIn wsX4_span wsX0_greatestPlace := goodIn_r _ [114, 115, 14, 85, 51, 52, 53, 102, 103, 104, 10, 105, 13, 89, 90, 91, 92, 12, 93, 58, 5, 59, 39, 40, 41, 42, 123, 124, 125, 126, 127, 128, 129] (by decide +kernel) (by decide +kernel)
set_option maxRecDepth 20000 in
theorem gX4_span_X0_greatestPlace : GoodIn wsX4_span (wsV RX4 110 RX0 yX0_greatestPlace wsX0_greatestPlace) := goodIn_app (goodIn_of _ (by decide +kernel)) ggX4_span_X0_greatestPlace
set_option maxRecDepth 20000 in
theorem ggX4_next_X0_study : GoodIn wsX4_next wsX0_study := goodIn_r _ [7, 8, 9, 10, 11, 12, 13, 14, 15, 16, 17, 18, 19, 20, 21, 22, 23, 24, 25, 26, 27, 28, 29, 30, 31, 32, 33, 34, 35, 36, 37, 38, 39, 40, 41, 42, 43, 44, 45, 46, 47, 48, 49, 50, 51, 52, 53, 54, 55, 56, 57, 58, 59, 60, 61, 62, 63, 64, 65, 66, 67, 68, 69, 70, 71, 72, 73, 74, 75, 76, 77, 78, 79, 80, 81, 6, 82, 83, 84, 85, 86, 87, 88, 89, 90, 91, 92, 126, 127, 128, 129, 130, 131, 132, 133, 134, 135, 136, 137, 138] (by decide +kernel) (by decide +kernel)
set_option maxRecDepth 20000 in
theorem gX4_next_X0_study : GoodIn wsX4_next (wsV RX4 96 RX0 yX0_study wsX0_study) := goodIn_app (goodIn_of _ (by decide +kernel)) ggX4_next_X0_study
set_option maxRecDepth 20000 in
theorem ggX4_next_X0_widestHook : GoodIn wsX4_next wsX0_widestHook := goodIn_r _ [96, 8, 97, 98, 99, 6, 100, 101, 102, 103, 104, 10, 9, 105, 106, 107, 108, 109, 110, 111, 112, 113, 84, 48, 49, 50, 88, 89, 90, 91, 92, 57, 34, 58, 36, 37, 38, 39, 114, 115, 116, 117, 118, 85, 86, 87, 126, 127, 128, 129, 130, 131, 132] (by decide +kernel) (by decide +kernel)
set_option maxRecDepth 20000 in
theorem gX4_next_X0_widestHook : GoodIn wsX4_next (wsV RX4 113 RX0 yX0_widestHook wsX0_widestHook) := goodIn_app (goodIn_of _ (by decide +kernel)) ggX4_next_X0_widestHook
set_option maxRecDepth 20000 in
theorem ggX4_surest_X4_within : GoodIn wsX4_surest wsX4_within := goodIn_r _ [6] (by decide +kernel) (by decide +kernel)
set_option maxRecDepth 20000 in
theorem gX4_surest_X4_within : GoodIn wsX4_surest (va_wsS RX4 49 yX4_within wsX4_within) := goodIn_app (goodIn_of _ (by decide +kernel)) ggX4_surest_X4_within
set_option maxRecDepth 20000 in
theorem ggX4_surest_X0_study : GoodIn wsX4_surest wsX0_study := goodIn_r _ [11, 12, 13, 14, 15, 16, 17, 18, 19, 20, 21, 22, 23, 24, 25, 26, 27, 28, 29, 30, 31, 32, 33, 34, 35, 36, 37, 5, 38, 39, 40, 41, 42, 43, 44, 45, 46, 47, 48, 49, 50, 51, 52, 53, 4, 6, 54, 55, 56, 57, 58, 59, 60, 61, 62, 63, 64, 65, 66, 67, 68, 69, 70, 71, 72, 73, 74, 75, 76, 77, 78, 79, 80, 81, 82, 10, 83, 84, 85, 86, 87, 88, 89, 90, 91, 92, 93, 133, 134, 135, 136, 137, 138, 139, 140, 141, 142, 143, 144, 145] (by decide +kernel) (by decide +kernel)
set_option maxRecDepth 20000 in
theorem gX4_surest_X0_study : GoodIn wsX4_surest (wsV RX4 96 RX0 yX0_study wsX0_study) := goodIn_app (goodIn_of _ (by decide +kernel)) ggX4_surest_X0_study
set_option maxRecDepth 20000 in
theorem ggX4_surest_X0_surestHook : GoodIn wsX4_surest wsX0_surestHook := goodIn_r _ [97, 98, 12, 99, 100, 101, 10, 102, 103, 104, 105, 106, 14, 13, 107, 108, 109, 110, 111, 112, 113, 114, 115, 63, 52, 64, 85, 51, 53, 116, 117, 118, 119, 86, 87, 88, 89, 90, 91, 92, 93, 58, 5, 59, 39, 40, 41, 42, 120, 121, 122, 123, 124, 133, 134, 135, 136, 137, 138, 139] (by decide +kernel) (by decide +kernel)
set_option maxRecDepth 20000 in
theorem gX4_surest_X0_surestHook : GoodIn wsX4_surest (wsV RX4 116 RX0 yX0_surestHook wsX0_surestHook) := goodIn_app (goodIn_of _ (by decide +kernel)) ggX4_surest_X0_surestHook
set_option maxRecDepth 20000 in
theorem ggX4_surest_X0_farthestMiss : GoodIn wsX4_surest wsX0_farthestMiss := goodIn_r _ [114, 115, 63, 52, 64, 85, 51, 53, 116, 117, 118, 10, 119, 98, 13, 86, 87, 88, 107, 108, 109, 110, 14, 89, 90, 91, 92, 12, 93, 58, 5, 59, 39, 40, 41, 42, 120, 121, 122, 123, 124, 133, 134, 135, 136, 137, 138, 139] (by decide +kernel) (by decide +kernel)
set_option maxRecDepth 20000 in
theorem gX4_surest_X0_farthestMiss : GoodIn wsX4_surest (wsV RX4 119 RX0 yX0_farthestMiss wsX0_farthestMiss) := goodIn_app (goodIn_of _ (by decide +kernel)) ggX4_surest_X0_farthestMiss
set_option maxRecDepth 20000 in
theorem ggX4_wall_X4_within : GoodIn wsX4_wall wsX4_within := goodIn_r _ [5] (by decide +kernel) (by decide +kernel)
set_option maxRecDepth 20000 in
theorem gX4_wall_X4_within : GoodIn wsX4_wall (va_wsS RX4 49 yX4_within wsX4_within) := goodIn_app (goodIn_of _ (by decide +kernel)) ggX4_wall_X4_within
set_option maxRecDepth 20000 in
theorem ggX4_wall_X3_build : GoodIn wsX4_wall wsX3_build := goodIn_r _ [10, 11, 12, 13, 14, 15, 23, 24, 25, 26, 27, 28, 29] (by decide +kernel) (by decide +kernel)
set_option maxRecDepth 20000 in
theorem gX4_wall_X3_build : GoodIn wsX4_wall (wsV RX4 122 RX3 yX3_build wsX3_build) := goodIn_app (goodIn_of _ (by decide +kernel)) ggX4_wall_X3_build
set_option maxRecDepth 20000 in
theorem ggX4_strength_X3_has : GoodIn wsX4_strength wsX3_has := goodIn_r _ [6, 7, 8, 37, 38, 39, 40, 41, 42, 43] (by decide +kernel) (by decide +kernel)
set_option maxRecDepth 20000 in
theorem gX4_strength_X3_has : GoodIn wsX4_strength (wsV RX4 126 RX3 yX3_has wsX3_has) := goodIn_app (goodIn_of _ (by decide +kernel)) ggX4_strength_X3_has
set_option maxRecDepth 20000 in
theorem ggX4_strength_X4_within : GoodIn wsX4_strength wsX4_within := goodIn_r _ [12] (by decide +kernel) (by decide +kernel)
set_option maxRecDepth 20000 in
theorem gX4_strength_X4_within : GoodIn wsX4_strength (va_wsS RX4 49 yX4_within wsX4_within) := goodIn_app (goodIn_of _ (by decide +kernel)) ggX4_strength_X4_within
set_option maxRecDepth 20000 in
theorem ggX4_strength_X3_stands : GoodIn wsX4_strength wsX3_stands := goodIn_r _ [16, 17, 18, 3, 4, 5, 6, 7, 8, 19, 20, 21, 37, 38, 39, 40, 41, 42, 43] (by decide +kernel) (by decide +kernel)
set_option maxRecDepth 20000 in
theorem gX4_strength_X3_stands : GoodIn wsX4_strength (wsV RX4 129 RX3 yX3_stands wsX3_stands) := goodIn_app (goodIn_of _ (by decide +kernel)) ggX4_strength_X3_stands
set_option maxRecDepth 20000 in
theorem ggX4_strength_X3_putStrength : GoodIn wsX4_strength wsX3_putStrength := goodIn_r _ [25, 26, 18, 3, 4, 5, 6, 7, 8, 27, 28, 29, 37, 38, 39, 40, 41, 42, 43] (by decide +kernel) (by decide +kernel)
set_option maxRecDepth 20000 in
theorem gX4_strength_X3_putStrength : GoodIn wsX4_strength (wsV RX4 132 RX3 yX3_putStrength wsX3_putStrength) := goodIn_app (goodIn_of _ (by decide +kernel)) ggX4_strength_X3_putStrength
set_option maxRecDepth 20000 in
theorem ggX4_prop_X3_has : GoodIn wsX4_prop wsX3_has := goodIn_r _ [6, 7, 8, 30, 31, 32, 33, 34, 35, 36] (by decide +kernel) (by decide +kernel)
set_option maxRecDepth 20000 in
theorem gX4_prop_X3_has : GoodIn wsX4_prop (wsV RX4 126 RX3 yX3_has wsX3_has) := goodIn_app (goodIn_of _ (by decide +kernel)) ggX4_prop_X3_has
set_option maxRecDepth 20000 in
theorem ggX4_prop_X3_stands : GoodIn wsX4_prop wsX3_stands := goodIn_r _ [12, 13, 14, 3, 4, 5, 6, 7, 8, 15, 16, 17, 30, 31, 32, 33, 34, 35, 36] (by decide +kernel) (by decide +kernel)
set_option maxRecDepth 20000 in
theorem gX4_prop_X3_stands : GoodIn wsX4_prop (wsV RX4 129 RX3 yX3_stands wsX3_stands) := goodIn_app (goodIn_of _ (by decide +kernel)) ggX4_prop_X3_stands
set_option maxRecDepth 20000 in
theorem ggX4_prop_X3_putProp : GoodIn wsX4_prop wsX3_putProp := goodIn_r _ [21, 22, 14, 3, 4, 5, 6, 7, 8, 15, 16, 17, 30, 31, 32, 33, 34, 35, 36] (by decide +kernel) (by decide +kernel)
set_option maxRecDepth 20000 in
theorem gX4_prop_X3_putProp : GoodIn wsX4_prop (wsV RX4 136 RX3 yX3_putProp wsX3_putProp) := goodIn_app (goodIn_of _ (by decide +kernel)) ggX4_prop_X3_putProp
set_option maxRecDepth 20000 in
theorem ggX4_hit_X3_has : GoodIn wsX4_hit wsX3_has := goodIn_r _ [6, 7, 8, 50, 51, 52, 53, 54, 55, 56] (by decide +kernel) (by decide +kernel)
set_option maxRecDepth 20000 in
theorem gX4_hit_X3_has : GoodIn wsX4_hit (wsV RX4 126 RX3 yX3_has wsX3_has) := goodIn_app (goodIn_of _ (by decide +kernel)) ggX4_hit_X3_has
set_option maxRecDepth 20000 in
theorem ggX4_hit_X4_within : GoodIn wsX4_hit wsX4_within := goodIn_r _ [12] (by decide +kernel) (by decide +kernel)
set_option maxRecDepth 20000 in
theorem gX4_hit_X4_within : GoodIn wsX4_hit (va_wsS RX4 49 yX4_within wsX4_within) := goodIn_app (goodIn_of _ (by decide +kernel)) ggX4_hit_X4_within
end
section
set_option maxRecDepth 20000 in
theorem ggX4_hit_X3_stands : GoodIn wsX4_hit wsX3_stands := goodIn_r _ [16, 17, 18, 3, 4, 5, 6, 7, 8, 19, 20, 21, 50, 51, 52, 53, 54, 55, 56] (by decide +kernel) (by decide +kernel)
set_option maxRecDepth 20000 in
theorem gX4_hit_X3_stands : GoodIn wsX4_hit (wsV RX4 129 RX3 yX3_stands wsX3_stands) := goodIn_app (goodIn_of _ (by decide +kernel)) ggX4_hit_X3_stands
set_option maxRecDepth 20000 in
theorem ggX4_hit_X3_strike : GoodIn wsX4_hit wsX3_strike := goodIn_r _ [25, 17, 26, 27, 28, 14, 15, 5, 16, 18, 3, 4, 6, 7, 8, 19, 20, 21, 29, 30, 31, 32, 33, 34, 35, 36, 37, 38, 39, 40, 41, 42, 50, 51, 52, 53, 54, 55, 56] (by decide +kernel) (by decide +kernel)
set_option maxRecDepth 20000 in
theorem gX4_hit_X3_strike : GoodIn wsX4_hit (wsV RX4 139 RX3 yX3_strike wsX3_strike) := goodIn_app (goodIn_of _ (by decide +kernel)) ggX4_hit_X3_strike
set_option maxRecDepth 20000 in
theorem ggX4_cell_X3_has : GoodIn wsX4_cell wsX3_has := goodIn_r _ [6, 7, 8, 38, 39, 40, 41, 42, 43, 44] (by decide +kernel) (by decide +kernel)
set_option maxRecDepth 20000 in
theorem gX4_cell_X3_has : GoodIn wsX4_cell (wsV RX4 126 RX3 yX3_has wsX3_has) := goodIn_app (goodIn_of _ (by decide +kernel)) ggX4_cell_X3_has
set_option maxRecDepth 20000 in
theorem ggX4_cell_X3_stands : GoodIn wsX4_cell wsX3_stands := goodIn_r _ [12, 13, 14, 3, 4, 5, 6, 7, 8, 15, 16, 17, 38, 39, 40, 41, 42, 43, 44] (by decide +kernel) (by decide +kernel)
set_option maxRecDepth 20000 in
theorem gX4_cell_X3_stands : GoodIn wsX4_cell (wsV RX4 129 RX3 yX3_stands wsX3_stands) := goodIn_app (goodIn_of _ (by decide +kernel)) ggX4_cell_X3_stands
set_option maxRecDepth 20000 in
theorem ggX4_cell_X3_strengthAt : GoodIn wsX4_cell wsX3_strengthAt := goodIn_r _ [21, 22, 14, 3, 4, 5, 6, 7, 8, 23, 24, 25, 38, 39, 40, 41, 42, 43, 44] (by decide +kernel) (by decide +kernel)
set_option maxRecDepth 20000 in
theorem gX4_cell_X3_strengthAt : GoodIn wsX4_cell (wsV RX4 142 RX3 yX3_strengthAt wsX3_strengthAt) := goodIn_app (goodIn_of _ (by decide +kernel)) ggX4_cell_X3_strengthAt
set_option maxRecDepth 20000 in
theorem ggX4_cell_X3_isPropped : GoodIn wsX4_cell wsX3_isPropped := goodIn_r _ [29, 30, 14, 3, 4, 5, 6, 7, 8, 15, 16, 17, 38, 39, 40, 41, 42, 43, 44] (by decide +kernel) (by decide +kernel)
set_option maxRecDepth 20000 in
theorem gX4_cell_X3_isPropped : GoodIn wsX4_cell (wsV RX4 145 RX3 yX3_isPropped wsX3_isPropped) := goodIn_app (goodIn_of _ (by decide +kernel)) ggX4_cell_X3_isPropped
set_option maxRecDepth 20000 in
theorem ggX4_level_X4_within : GoodIn wsX4_level wsX4_within := goodIn_r _ [5] (by decide +kernel) (by decide +kernel)
set_option maxRecDepth 20000 in
theorem gX4_level_X4_within : GoodIn wsX4_level (va_wsS RX4 49 yX4_within wsX4_within) := goodIn_app (goodIn_of _ (by decide +kernel)) ggX4_level_X4_within
set_option maxRecDepth 20000 in
theorem ggX4_level_X3_putLevel : GoodIn wsX4_level wsX3_putLevel := goodIn_r _ [10, 11, 19, 20, 21, 22, 23, 24, 25] (by decide +kernel) (by decide +kernel)
set_option maxRecDepth 20000 in
theorem gX4_level_X3_putLevel : GoodIn wsX4_level (wsV RX4 148 RX3 yX3_putLevel wsX3_putLevel) := goodIn_app (goodIn_of _ (by decide +kernel)) ggX4_level_X3_putLevel
set_option maxRecDepth 20000 in
theorem ggX4_open_X3_firstOpen : GoodIn wsX4_open wsX3_firstOpen := goodIn_r _ [6, 7, 8, 9, 10, 5, 11, 12, 13, 14, 15, 16, 17, 18, 19, 20, 28, 29, 30, 31, 32, 33, 34] (by decide +kernel) (by decide +kernel)
set_option maxRecDepth 20000 in
theorem gX4_open_X3_firstOpen : GoodIn wsX4_open (wsV RX4 151 RX3 yX3_firstOpen wsX3_firstOpen) := goodIn_app (goodIn_of _ (by decide +kernel)) ggX4_open_X3_firstOpen
set_option maxRecDepth 20000 in
theorem ggX4_soonest_X4_within : GoodIn wsX4_soonest wsX4_within := goodIn_r _ [5] (by decide +kernel) (by decide +kernel)
set_option maxRecDepth 20000 in
theorem gX4_soonest_X4_within : GoodIn wsX4_soonest (va_wsS RX4 49 yX4_within wsX4_within) := goodIn_app (goodIn_of _ (by decide +kernel)) ggX4_soonest_X4_within
set_option maxRecDepth 20000 in
theorem ggX4_soonest_X3_soonestColumn : GoodIn wsX4_soonest wsX3_soonestColumn := goodIn_r _ [10, 11, 12, 13, 14, 9, 15, 16, 17, 18, 19, 20, 21, 22, 23, 3, 4, 5, 24, 25, 26, 27, 28, 29, 30, 31, 32, 33, 34, 35, 36, 37, 38, 39, 40, 41, 42, 43, 44, 45, 46, 47, 48, 57, 58, 59, 60, 61, 62, 63] (by decide +kernel) (by decide +kernel)
set_option maxRecDepth 20000 in
theorem gX4_soonest_X3_soonestColumn : GoodIn wsX4_soonest (wsV RX4 154 RX3 yX3_soonestColumn wsX3_soonestColumn) := goodIn_app (goodIn_of _ (by decide +kernel)) ggX4_soonest_X3_soonestColumn
set_option maxRecDepth 20000 in
theorem ggX4_soonest_X3_hitsToOpen : GoodIn wsX4_soonest wsX3_hitsToOpen := goodIn_r _ [15, 11, 16, 17, 18, 19, 20, 21, 22, 23, 3, 4, 5, 24, 25, 26, 27, 28, 29, 30, 31, 32, 33, 9, 34, 35, 36, 37, 38, 39, 40, 41, 42, 43, 44, 45, 46, 47, 48, 57, 58, 59, 60, 61, 62, 63] (by decide +kernel) (by decide +kernel)
set_option maxRecDepth 20000 in
theorem gX4_soonest_X3_hitsToOpen : GoodIn wsX4_soonest (wsV RX4 157 RX3 yX3_hitsToOpen wsX3_hitsToOpen) := goodIn_app (goodIn_of _ (by decide +kernel)) ggX4_soonest_X3_hitsToOpen
set_option maxRecDepth 20000 in
theorem ggX4_scatter_X4_within : GoodIn wsX4_scatter wsX4_within := goodIn_r _ [5] (by decide +kernel) (by decide +kernel)
set_option maxRecDepth 20000 in
theorem gX4_scatter_X4_within : GoodIn wsX4_scatter (va_wsS RX4 49 yX4_within wsX4_within) := goodIn_app (goodIn_of _ (by decide +kernel)) ggX4_scatter_X4_within
set_option maxRecDepth 20000 in
theorem ggX4_scatter_X3_putWeight : GoodIn wsX4_scatter wsX3_putWeight := goodIn_r _ [10, 11, 12, 13, 9, 14, 3, 4, 5, 22, 23, 24, 25, 26, 27, 28] (by decide +kernel) (by decide +kernel)
set_option maxRecDepth 20000 in
theorem gX4_scatter_X3_putWeight : GoodIn wsX4_scatter (wsV RX4 160 RX3 yX3_putWeight wsX3_putWeight) := goodIn_app (goodIn_of _ (by decide +kernel)) ggX4_scatter_X3_putWeight
set_option maxRecDepth 20000 in
theorem ggX4_worth_X3_has : GoodIn wsX4_worth wsX3_has := goodIn_r _ [6, 7, 8, 61, 62, 63, 64, 65, 66, 67] (by decide +kernel) (by decide +kernel)
set_option maxRecDepth 20000 in
theorem gX4_worth_X3_has : GoodIn wsX4_worth (wsV RX4 126 RX3 yX3_has wsX3_has) := goodIn_app (goodIn_of _ (by decide +kernel)) ggX4_worth_X3_has
set_option maxRecDepth 20000 in
theorem ggX4_worth_X4_within : GoodIn wsX4_worth wsX4_within := goodIn_r _ [12] (by decide +kernel) (by decide +kernel)
set_option maxRecDepth 20000 in
theorem gX4_worth_X4_within : GoodIn wsX4_worth (va_wsS RX4 49 yX4_within wsX4_within) := goodIn_app (goodIn_of _ (by decide +kernel)) ggX4_worth_X4_within
set_option maxRecDepth 20000 in
theorem ggX4_worth_X3_worthOf : GoodIn wsX4_worth wsX3_worthOf := goodIn_r _ [16, 17, 18, 19, 5, 20, 21, 22, 23, 24, 25, 26, 27, 28, 29, 30, 31, 32, 3, 4, 6, 7, 8, 33, 34, 35, 36, 37, 38, 39, 40, 41, 42, 43, 44, 45, 46, 47, 48, 49, 50, 51, 52, 53, 61, 62, 63, 64, 65, 66, 67] (by decide +kernel) (by decide +kernel)
set_option maxRecDepth 20000 in
theorem gX4_worth_X3_worthOf : GoodIn wsX4_worth (wsV RX4 163 RX3 yX3_worthOf wsX3_worthOf) := goodIn_app (goodIn_of _ (by decide +kernel)) ggX4_worth_X3_worthOf
set_option maxRecDepth 20000 in
theorem ggX4_aim_X4_within : GoodIn wsX4_aim wsX4_within := goodIn_r _ [5] (by decide +kernel) (by decide +kernel)
set_option maxRecDepth 20000 in
theorem gX4_aim_X4_within : GoodIn wsX4_aim (va_wsS RX4 49 yX4_within wsX4_within) := goodIn_app (goodIn_of _ (by decide +kernel)) ggX4_aim_X4_within
set_option maxRecDepth 20000 in
theorem ggX4_aim_X3_bestAim : GoodIn wsX4_aim wsX3_bestAim := goodIn_r _ [10, 11, 12, 13, 14, 15, 9, 16, 17, 18, 19, 20, 21, 22, 23, 24, 25, 26, 27, 28, 29, 30, 31, 32, 33, 34, 35, 36, 37, 38, 39, 40, 41, 42, 43, 44, 45, 46, 47, 48, 49, 50, 51, 52, 53, 54, 55, 56, 57, 58, 59, 60, 61, 62, 63, 64, 75, 76, 77, 78, 79, 80, 81] (by decide +kernel) (by decide +kernel)
set_option maxRecDepth 20000 in
theorem gX4_aim_X3_bestAim : GoodIn wsX4_aim (wsV RX4 166 RX3 yX3_bestAim wsX3_bestAim) := goodIn_app (goodIn_of _ (by decide +kernel)) ggX4_aim_X3_bestAim
set_option maxRecDepth 20000 in
theorem ggX4_aim_X3_columnOf : GoodIn wsX4_aim wsX3_columnOf := goodIn_r _ [16, 11, 75, 76, 77, 78, 79, 80, 81] (by decide +kernel) (by decide +kernel)
set_option maxRecDepth 20000 in
theorem gX4_aim_X3_columnOf : GoodIn wsX4_aim (wsV RX4 169 RX3 yX3_columnOf wsX3_columnOf) := goodIn_app (goodIn_of _ (by decide +kernel)) ggX4_aim_X3_columnOf
set_option maxRecDepth 20000 in
theorem ggX4_aim_X3_rowOf : GoodIn wsX4_aim wsX3_rowOf := goodIn_r _ [20, 11, 75, 76, 77, 78, 79, 80, 81] (by decide +kernel) (by decide +kernel)
set_option maxRecDepth 20000 in
theorem gX4_aim_X3_rowOf : GoodIn wsX4_aim (wsV RX4 172 RX3 yX3_rowOf wsX3_rowOf) := goodIn_app (goodIn_of _ (by decide +kernel)) ggX4_aim_X3_rowOf
set_option maxRecDepth 20000 in
theorem ggX4_aim_X3_worthOf : GoodIn wsX4_aim wsX3_worthOf := goodIn_r _ [24, 25, 26, 27, 9, 28, 29, 30, 31, 32, 33, 34, 35, 36, 37, 38, 39, 40, 41, 42, 43, 11, 12, 44, 45, 46, 47, 48, 49, 50, 51, 52, 53, 54, 55, 56, 57, 58, 59, 60, 61, 62, 63, 64, 75, 76, 77, 78, 79, 80, 81] (by decide +kernel) (by decide +kernel)
set_option maxRecDepth 20000 in
theorem gX4_aim_X3_worthOf : GoodIn wsX4_aim (wsV RX4 163 RX3 yX3_worthOf wsX3_worthOf) := goodIn_app (goodIn_of _ (by decide +kernel)) ggX4_aim_X3_worthOf
set_option maxRecDepth 20000 in
theorem ggX4_held_X3_has : GoodIn wsX4_held wsX3_has := goodIn_r _ [7, 8, 9, 66, 67, 68, 69, 70, 71, 72] (by decide +kernel) (by decide +kernel)
set_option maxRecDepth 20000 in
theorem gX4_held_X3_has : GoodIn wsX4_held (wsV RX4 126 RX3 yX3_has wsX3_has) := goodIn_app (goodIn_of _ (by decide +kernel)) ggX4_held_X3_has
set_option maxRecDepth 20000 in
theorem ggX4_held_X4_within : GoodIn wsX4_held wsX4_within := goodIn_r _ [13] (by decide +kernel) (by decide +kernel)
set_option maxRecDepth 20000 in
theorem gX4_held_X4_within : GoodIn wsX4_held (va_wsS RX4 49 yX4_within wsX4_within) := goodIn_app (goodIn_of _ (by decide +kernel)) ggX4_held_X4_within
set_option maxRecDepth 20000 in
theorem ggX4_held_X3_firstOpen : GoodIn wsX4_held wsX3_firstOpen := goodIn_r _ [17, 8, 18, 19, 20, 6, 21, 22, 23, 24, 25, 26, 27, 28, 29, 30, 66, 67, 68, 69, 70, 71, 72] (by decide +kernel) (by decide +kernel)
set_option maxRecDepth 20000 in
theorem gX4_held_X3_firstOpen : GoodIn wsX4_held (wsV RX4 151 RX3 yX3_firstOpen wsX3_firstOpen) := goodIn_app (goodIn_of _ (by decide +kernel)) ggX4_held_X3_firstOpen
set_option maxRecDepth 20000 in
theorem ggX4_held_X3_heldAfter : GoodIn wsX4_held wsX3_heldAfter := goodIn_r _ [32, 33, 34, 35, 6, 36, 22, 37, 38, 39, 40, 41, 42, 43, 4, 5, 7, 8, 9, 44, 45, 46, 47, 31, 48, 49, 50, 51, 52, 53, 54, 24, 25, 26, 27, 28, 29, 30, 55, 56, 57, 58, 18, 19, 20, 21, 23, 66, 67, 68, 69, 70, 71, 72] (by decide +kernel) (by decide +kernel)
set_option maxRecDepth 20000 in
theorem gX4_held_X3_heldAfter_n177 : GoodIn wsX4_held (wsX3_heldAfter) := ggX4_held_X3_heldAfter
set_option maxRecDepth 20000 in
theorem ggX4_near_X4_within : GoodIn wsX4_near wsX4_within := goodIn_r _ [5] (by decide +kernel) (by decide +kernel)
set_option maxRecDepth 20000 in
theorem gX4_near_X4_within : GoodIn wsX4_near (va_wsS RX4 49 yX4_within wsX4_within) := goodIn_app (goodIn_of _ (by decide +kernel)) ggX4_near_X4_within
set_option maxRecDepth 20000 in
theorem ggX4_loose_X3_has : GoodIn wsX4_loose wsX3_has := goodIn_r _ [14, 15, 16, 136, 137, 138, 139, 140, 141, 142] (by decide +kernel) (by decide +kernel)
set_option maxRecDepth 20000 in
theorem gX4_loose_X3_has : GoodIn wsX4_loose (wsV RX4 126 RX3 yX3_has wsX3_has) := goodIn_app (goodIn_of _ (by decide +kernel)) ggX4_loose_X3_has
set_option maxRecDepth 20000 in
theorem ggX4_loose_X4_within : GoodIn wsX4_loose wsX4_within := goodIn_r _ [20] (by decide +kernel) (by decide +kernel)
set_option maxRecDepth 20000 in
theorem gX4_loose_X4_within : GoodIn wsX4_loose (va_wsS RX4 49 yX4_within wsX4_within) := goodIn_app (goodIn_of _ (by decide +kernel)) ggX4_loose_X4_within
set_option maxRecDepth 20000 in
theorem ggX4_loose_X2_stones : GoodIn wsX4_loose wsX2_stones := goodIn_r _ [25, 26, 143, 144, 145] (by decide +kernel) (by decide +kernel)
set_option maxRecDepth 20000 in
theorem gX4_loose_X2_stones : GoodIn wsX4_loose (wsV RX4 181 RX2 yX2_stones wsX2_stones) := goodIn_app (goodIn_of _ (by decide +kernel)) ggX4_loose_X2_stones
set_option maxRecDepth 20000 in
theorem ggX4_loose_X2_spendStone : GoodIn wsX4_loose wsX2_spendStone := goodIn_r _ [30, 26, 31, 32, 8, 33, 143, 144, 145] (by decide +kernel) (by decide +kernel)
set_option maxRecDepth 20000 in
theorem gX4_loose_X2_spendStone : GoodIn wsX4_loose (wsV RX4 186 RX2 yX2_spendStone wsX2_spendStone) := goodIn_app (goodIn_of _ (by decide +kernel)) ggX4_loose_X2_spendStone
set_option maxRecDepth 20000 in
theorem ggX4_loose_X1_reckonOwn : GoodIn wsX4_loose wsX1_reckonOwn := goodIn_r _ [38, 39, 40, 41, 42, 37, 43, 44, 45, 46, 47, 48, 49, 50, 51, 52, 53, 19, 54, 55, 56, 57, 58, 59, 60, 61, 62, 63, 64, 65, 66, 32, 8, 33, 18, 20, 67, 68, 69, 70, 71, 72, 73, 74, 6, 7, 9, 75, 76, 77, 78, 79, 80, 81, 82, 83, 84, 85, 86, 87, 88, 89, 146, 147, 148, 149, 150, 151] (by decide +kernel) (by decide +kernel)
set_option maxRecDepth 20000 in
theorem gX4_loose_X1_reckonOwn : GoodIn wsX4_loose (wsV RX4 60 RX1 yX1_reckonOwn wsX1_reckonOwn) := goodIn_app (goodIn_of _ (by decide +kernel)) ggX4_loose_X1_reckonOwn
set_option maxRecDepth 20000 in
theorem ggX4_loose_X3_stands : GoodIn wsX4_loose wsX3_stands := goodIn_r _ [93, 94, 95, 11, 12, 13, 14, 15, 16, 96, 97, 98, 136, 137, 138, 139, 140, 141, 142] (by decide +kernel) (by decide +kernel)
set_option maxRecDepth 20000 in
theorem gX4_loose_X3_stands : GoodIn wsX4_loose (wsV RX4 129 RX3 yX3_stands wsX3_stands) := goodIn_app (goodIn_of _ (by decide +kernel)) ggX4_loose_X3_stands
set_option maxRecDepth 20000 in
theorem ggX4_loose_X1_forceAt : GoodIn wsX4_loose wsX1_forceAt := goodIn_r _ [102, 103, 39, 104, 105, 106, 8, 107, 71, 19, 72, 55, 56, 57, 58, 146, 147, 148, 149, 150, 151] (by decide +kernel) (by decide +kernel)
set_option maxRecDepth 20000 in
theorem gX4_loose_X1_forceAt : GoodIn wsX4_loose (wsV RX4 194 RX1 yX1_forceAt wsX1_forceAt) := goodIn_app (goodIn_of _ (by decide +kernel)) ggX4_loose_X1_forceAt
set_option maxRecDepth 20000 in
theorem ggX4_loose_X3_strike : GoodIn wsX4_loose wsX3_strike := goodIn_r _ [111, 94, 112, 113, 114, 91, 92, 13, 93, 95, 11, 12, 14, 15, 16, 96, 97, 98, 115, 116, 117, 118, 119, 120, 121, 122, 123, 124, 125, 126, 127, 128, 136, 137, 138, 139, 140, 141, 142] (by decide +kernel) (by decide +kernel)
set_option maxRecDepth 20000 in
theorem gX4_loose_X3_strike : GoodIn wsX4_loose (wsV RX4 139 RX3 yX3_strike wsX3_strike) := goodIn_app (goodIn_of _ (by decide +kernel)) ggX4_loose_X3_strike
set_option maxRecDepth 20000 in
theorem ggX4_store_X2_takes : GoodIn wsX4_store wsX2_takes := goodIn_r _ [6, 7, 8, 9, 10, 11] (by decide +kernel) (by decide +kernel)
set_option maxRecDepth 20000 in
theorem gX4_store_X2_takes : GoodIn wsX4_store (wsV RX4 197 RX2 yX2_takes wsX2_takes) := goodIn_app (goodIn_of _ (by decide +kernel)) ggX4_store_X2_takes
set_option maxRecDepth 20000 in
theorem ggX4_store_X2_put : GoodIn wsX4_store wsX2_put := goodIn_r _ [15, 16, 17, 3, 4, 5, 6, 7, 8, 9, 10, 11, 25, 26, 27] (by decide +kernel) (by decide +kernel)
set_option maxRecDepth 20000 in
theorem gX4_store_X2_put : GoodIn wsX4_store (wsV RX4 198 RX2 yX2_put wsX2_put) := goodIn_app (goodIn_of _ (by decide +kernel)) ggX4_store_X2_put
set_option maxRecDepth 20000 in
theorem ggX4_wet_X4_within : GoodIn wsX4_wet wsX4_within := goodIn_r _ [5] (by decide +kernel) (by decide +kernel)
set_option maxRecDepth 20000 in
theorem gX4_wet_X4_within : GoodIn wsX4_wet (va_wsS RX4 49 yX4_within wsX4_within) := goodIn_app (goodIn_of _ (by decide +kernel)) ggX4_wet_X4_within
set_option maxRecDepth 20000 in
theorem ggX4_wet_X2_putWet : GoodIn wsX4_wet wsX2_putWet := goodIn_r _ [10, 11, 12, 20, 21, 22] (by decide +kernel) (by decide +kernel)
set_option maxRecDepth 20000 in
theorem gX4_wet_X2_putWet : GoodIn wsX4_wet (wsV RX4 199 RX2 yX2_putWet wsX2_putWet) := goodIn_app (goodIn_of _ (by decide +kernel)) ggX4_wet_X2_putWet
set_option maxRecDepth 20000 in
theorem ggX4_lasts_X4_within : GoodIn wsX4_lasts wsX4_within := goodIn_r _ [6] (by decide +kernel) (by decide +kernel)
set_option maxRecDepth 20000 in
theorem gX4_lasts_X4_within : GoodIn wsX4_lasts (va_wsS RX4 49 yX4_within wsX4_within) := goodIn_app (goodIn_of _ (by decide +kernel)) ggX4_lasts_X4_within
set_option maxRecDepth 20000 in
theorem ggX4_lasts_X1_turnsOfShot : GoodIn wsX4_lasts wsX1_turnsOfShot := goodIn_r _ [11, 12, 13, 14, 5, 15, 16, 17, 18, 19, 40, 41, 42, 43, 44, 45] (by decide +kernel) (by decide +kernel)
set_option maxRecDepth 20000 in
theorem gX4_lasts_X1_turnsOfShot : GoodIn wsX4_lasts (wsV RX4 202 RX1 yX1_turnsOfShot wsX1_turnsOfShot) := goodIn_app (goodIn_of _ (by decide +kernel)) ggX4_lasts_X1_turnsOfShot
set_option maxRecDepth 20000 in
theorem ggX4_lasts_X2_wholeDays : GoodIn wsX4_lasts wsX2_wholeDays := goodIn_r _ [24, 25, 26, 27, 28, 29, 23, 30, 31, 32, 14, 5, 15, 16, 17, 18, 19, 46, 47, 48] (by decide +kernel) (by decide +kernel)
set_option maxRecDepth 20000 in
theorem gX4_lasts_X2_wholeDays : GoodIn wsX4_lasts (wsV RX4 205 RX2 yX2_wholeDays wsX2_wholeDays) := goodIn_app (goodIn_of _ (by decide +kernel)) ggX4_lasts_X2_wholeDays
set_option maxRecDepth 20000 in
theorem ggX4_rate_X4_within : GoodIn wsX4_rate wsX4_within := goodIn_r _ [6] (by decide +kernel) (by decide +kernel)
set_option maxRecDepth 20000 in
theorem gX4_rate_X4_within : GoodIn wsX4_rate (va_wsS RX4 49 yX4_within wsX4_within) := goodIn_app (goodIn_of _ (by decide +kernel)) ggX4_rate_X4_within
set_option maxRecDepth 20000 in
theorem ggX4_rate_X1_turnsOfShot : GoodIn wsX4_rate wsX1_turnsOfShot := goodIn_r _ [11, 12, 13, 14, 5, 15, 16, 17, 18, 19, 44, 45, 46, 47, 48, 49] (by decide +kernel) (by decide +kernel)
set_option maxRecDepth 20000 in
theorem gX4_rate_X1_turnsOfShot : GoodIn wsX4_rate (wsV RX4 202 RX1 yX1_turnsOfShot wsX1_turnsOfShot) := goodIn_app (goodIn_of _ (by decide +kernel)) ggX4_rate_X1_turnsOfShot
set_option maxRecDepth 20000 in
theorem ggX4_rate_X2_bestRate : GoodIn wsX4_rate wsX2_bestRate := goodIn_r _ [24, 25, 26, 27, 23, 28, 29, 30, 31, 32, 33, 34, 35, 36, 14, 5, 15, 16, 17, 18, 19, 50, 51, 52] (by decide +kernel) (by decide +kernel)
set_option maxRecDepth 20000 in
theorem gX4_rate_X2_bestRate : GoodIn wsX4_rate (wsV RX4 208 RX2 yX2_bestRate wsX2_bestRate) := goodIn_app (goodIn_of _ (by decide +kernel)) ggX4_rate_X2_bestRate
set_option maxRecDepth 20000 in
theorem ggX4_count_X3_wide : GoodIn wsX4_count wsX3_wide := goodIn_r _ [10, 11, 57, 58, 59, 60, 61, 62, 63] (by decide +kernel) (by decide +kernel)
set_option maxRecDepth 20000 in
theorem gX4_count_X3_wide : GoodIn wsX4_count (wsV RX4 211 RX3 yX3_wide wsX3_wide) := goodIn_app (goodIn_of _ (by decide +kernel)) ggX4_count_X3_wide
set_option maxRecDepth 20000 in
theorem ggX4_count_X3_high : GoodIn wsX4_count wsX3_high := goodIn_r _ [15, 16, 57, 58, 59, 60, 61, 62, 63] (by decide +kernel) (by decide +kernel)
set_option maxRecDepth 20000 in
theorem gX4_count_X3_high : GoodIn wsX4_count (wsV RX4 214 RX3 yX3_high wsX3_high) := goodIn_app (goodIn_of _ (by decide +kernel)) ggX4_count_X3_high
set_option maxRecDepth 20000 in
theorem ggX4_count_X3_standingCells : GoodIn wsX4_count wsX3_standingCells := goodIn_r _ [20, 11, 21, 22, 23, 24, 25, 26, 27, 28, 57, 58, 59, 60, 61, 62, 63] (by decide +kernel) (by decide +kernel)
set_option maxRecDepth 20000 in
theorem gX4_count_X3_standingCells : GoodIn wsX4_count (wsV RX4 217 RX3 yX3_standingCells wsX3_standingCells) := goodIn_app (goodIn_of _ (by decide +kernel)) ggX4_count_X3_standingCells
set_option maxRecDepth 20000 in
theorem ggX4_count_X0_told : GoodIn wsX4_count wsX0_told := goodIn_r _ [33, 34, 64, 65, 66, 67, 68, 69, 70] (by decide +kernel) (by decide +kernel)
set_option maxRecDepth 20000 in
theorem gX4_count_X0_told : GoodIn wsX4_count (wsV RX4 90 RX0 yX0_told wsX0_told) := goodIn_app (goodIn_of _ (by decide +kernel)) ggX4_count_X0_told
set_option maxRecDepth 20000 in
theorem ggX4_count_X2_stones : GoodIn wsX4_count wsX2_stones := goodIn_r _ [39, 40, 71, 72, 73] (by decide +kernel) (by decide +kernel)
set_option maxRecDepth 20000 in
theorem gX4_count_X2_stones : GoodIn wsX4_count (wsV RX4 181 RX2 yX2_stones wsX2_stones) := goodIn_app (goodIn_of _ (by decide +kernel)) ggX4_count_X2_stones
set_option maxRecDepth 20000 in
theorem ggX4_count_X3_openColumns : GoodIn wsX4_count wsX3_openColumns := goodIn_r _ [44, 11, 45, 46, 47, 9, 48, 21, 49, 22, 23, 24, 25, 26, 27, 28, 57, 58, 59, 60, 61, 62, 63] (by decide +kernel) (by decide +kernel)
set_option maxRecDepth 20000 in
theorem gX4_count_X3_openColumns : GoodIn wsX4_count (wsV RX4 220 RX3 yX3_openColumns wsX3_openColumns) := goodIn_app (goodIn_of _ (by decide +kernel)) ggX4_count_X3_openColumns
set_option maxRecDepth 20000 in
theorem ggX4_down_J9_floorDiv_f86c9 : GoodIn wsX4_down wsJ9_floorDiv_f86c9 := goodIn_r _ [4] (by decide +kernel) (by decide +kernel)
set_option maxRecDepth 20000 in
theorem gX4_down_J9_floorDiv_f86c9 : GoodIn wsX4_down (va_wsS RX4 223 yJ9_floorDiv_f86c9 wsJ9_floorDiv_f86c9) := goodIn_app (goodIn_of _ (by decide +kernel)) ggX4_down_J9_floorDiv_f86c9
set_option maxRecDepth 20000 in
theorem ggX4_up_J9_floorDiv_f86c9 : GoodIn wsX4_up wsJ9_floorDiv_f86c9 := goodIn_r _ [4] (by decide +kernel) (by decide +kernel)
set_option maxRecDepth 20000 in
theorem gX4_up_J9_floorDiv_f86c9 : GoodIn wsX4_up (va_wsS RX4 223 yJ9_floorDiv_f86c9 wsJ9_floorDiv_f86c9) := goodIn_app (goodIn_of _ (by decide +kernel)) ggX4_up_J9_floorDiv_f86c9
set_option maxRecDepth 20000 in
theorem ggX4_sineOf_X4_down : GoodIn wsX4_sineOf wsX4_down := goodIn_r _ [10, 11, 12, 13, 14] (by decide +kernel) (by decide +kernel)
set_option maxRecDepth 20000 in
theorem gX4_sineOf_X4_down : GoodIn wsX4_sineOf (va_wsS RX4 231 yX4_down wsX4_down) := goodIn_app (goodIn_of _ (by decide +kernel)) ggX4_sineOf_X4_down
set_option maxRecDepth 20000 in
theorem ggX5_init_X5_newWall : GoodIn wsX5_init wsX5_newWall := goodIn_r _ [28, 11, 12, 13, 29, 30, 31, 32, 33, 34, 35, 36, 37, 38, 39, 40, 41, 42, 43, 44, 45, 46, 47, 48, 49, 50, 51, 52, 53, 54, 55, 56, 57, 58, 59, 60, 61] (by decide +kernel) (by decide +kernel)
set_option maxRecDepth 20000 in
theorem gX5_init_X5_newWall : GoodIn wsX5_init (wsV RX5 68 RX5 yX5_newWall wsX5_newWall) := goodIn_app (goodIn_of _ (by decide +kernel)) ggX5_init_X5_newWall
set_option maxRecDepth 20000 in
theorem ggX5_set_X5_in : GoodIn wsX5_set wsX5_in := goodIn_r _ [6] (by decide +kernel) (by decide +kernel)
set_option maxRecDepth 20000 in
theorem gX5_set_X5_in : GoodIn wsX5_set (va_wsS RX5 71 yX5_in wsX5_in) := goodIn_app (goodIn_of _ (by decide +kernel)) ggX5_set_X5_in
set_option maxRecDepth 20000 in
theorem ggX5_set_X5_least : GoodIn wsX5_set wsX5_least := goodIn_r _ [9] (by decide +kernel) (by decide +kernel)
set_option maxRecDepth 20000 in
theorem gX5_set_X5_least : GoodIn wsX5_set (va_wsS RX5 75 yX5_least wsX5_least) := goodIn_app (goodIn_of _ (by decide +kernel)) ggX5_set_X5_least
set_option maxRecDepth 20000 in
theorem ggX5_set_X5_most : GoodIn wsX5_set wsX5_most := goodIn_r _ [12] (by decide +kernel) (by decide +kernel)
set_option maxRecDepth 20000 in
theorem gX5_set_X5_most : GoodIn wsX5_set (va_wsS RX5 79 yX5_most wsX5_most) := goodIn_app (goodIn_of _ (by decide +kernel)) ggX5_set_X5_most
set_option maxRecDepth 20000 in
theorem ggX5_wind_X5_in : GoodIn wsX5_wind wsX5_in := goodIn_r _ [5] (by decide +kernel) (by decide +kernel)
set_option maxRecDepth 20000 in
theorem gX5_wind_X5_in : GoodIn wsX5_wind (va_wsS RX5 71 yX5_in wsX5_in) := goodIn_app (goodIn_of _ (by decide +kernel)) ggX5_wind_X5_in
set_option maxRecDepth 20000 in
theorem ggX5_sineOf_X5_size : GoodIn wsX5_sineOf wsX5_size := goodIn_r _ [5] (by decide +kernel) (by decide +kernel)
set_option maxRecDepth 20000 in
theorem gX5_sineOf_X5_size : GoodIn wsX5_sineOf (va_wsS RX5 88 yX5_size wsX5_size) := goodIn_app (goodIn_of _ (by decide +kernel)) ggX5_sineOf_X5_size
set_option maxRecDepth 20000 in
theorem ggX5_sine_X5_in : GoodIn wsX5_sine wsX5_in := goodIn_r _ [4] (by decide +kernel) (by decide +kernel)
set_option maxRecDepth 20000 in
theorem gX5_sine_X5_in : GoodIn wsX5_sine (va_wsS RX5 71 yX5_in wsX5_in) := goodIn_app (goodIn_of _ (by decide +kernel)) ggX5_sine_X5_in
set_option maxRecDepth 20000 in
theorem ggX5_sine_X5_sineOf : GoodIn wsX5_sine wsX5_sineOf := goodIn_r _ [7, 8, 9, 10, 3, 11] (by decide +kernel) (by decide +kernel)
set_option maxRecDepth 20000 in
theorem gX5_sine_X5_sineOf : GoodIn wsX5_sine (va_wsS RX5 92 yX5_sineOf wsX5_sineOf) := goodIn_app (goodIn_of _ (by decide +kernel)) ggX5_sine_X5_sineOf
set_option maxRecDepth 20000 in
theorem ggX5_givenAt_X5_sineOf : GoodIn wsX5_givenAt wsX5_sineOf := goodIn_r _ [6, 7, 8, 9, 5, 10] (by decide +kernel) (by decide +kernel)
set_option maxRecDepth 20000 in
theorem gX5_givenAt_X5_sineOf : GoodIn wsX5_givenAt (va_wsS RX5 92 yX5_sineOf wsX5_sineOf) := goodIn_app (goodIn_of _ (by decide +kernel)) ggX5_givenAt_X5_sineOf
set_option maxRecDepth 20000 in
theorem ggX5_step_X5_givenAt : GoodIn wsX5_step wsX5_givenAt := goodIn_r _ [16, 8, 17, 18, 19, 15, 20, 21, 22, 23, 24, 32, 33, 34, 35, 36, 37, 38, 39, 40, 41, 42, 43, 44, 45, 46, 47, 48, 49, 50, 51, 52, 53, 54, 55, 56, 57, 58, 59, 60, 61, 62, 63, 64] (by decide +kernel) (by decide +kernel)
set_option maxRecDepth 20000 in
theorem gX5_step_X5_givenAt : GoodIn wsX5_step (wsV RX5 118 RX5 yX5_givenAt wsX5_givenAt) := goodIn_app (goodIn_of _ (by decide +kernel)) ggX5_step_X5_givenAt
set_option maxRecDepth 20000 in
theorem ggX5_step_X5_in : GoodIn wsX5_step wsX5_in := goodIn_r _ [27] (by decide +kernel) (by decide +kernel)
set_option maxRecDepth 20000 in
theorem gX5_step_X5_in : GoodIn wsX5_step (va_wsS RX5 71 yX5_in wsX5_in) := goodIn_app (goodIn_of _ (by decide +kernel)) ggX5_step_X5_in
set_option maxRecDepth 20000 in
theorem ggX5_step_X5_sineOf : GoodIn wsX5_step wsX5_sineOf := goodIn_r _ [20, 21, 22, 23, 15, 24] (by decide +kernel) (by decide +kernel)
set_option maxRecDepth 20000 in
theorem gX5_step_X5_sineOf : GoodIn wsX5_step (va_wsS RX5 92 yX5_sineOf wsX5_sineOf) := goodIn_app (goodIn_of _ (by decide +kernel)) ggX5_step_X5_sineOf
set_option maxRecDepth 20000 in
theorem ggX5_step_X5_flightOf : GoodIn wsX5_step wsX5_flightOf := goodIn_r _ [31, 8, 32, 33, 34, 35, 36, 37, 38, 39, 40, 41, 42, 43, 44, 45, 46, 47, 48, 49, 50, 51, 52, 53, 54, 55, 56, 57, 58, 59, 60, 61, 62, 63, 64] (by decide +kernel) (by decide +kernel)
set_option maxRecDepth 20000 in
theorem gX5_step_X5_flightOf : GoodIn wsX5_step (wsV RX5 125 RX5 yX5_flightOf wsX5_flightOf) := goodIn_app (goodIn_of _ (by decide +kernel)) ggX5_step_X5_flightOf
set_option maxRecDepth 20000 in
theorem ggX5_throwing_X5_step : GoodIn wsX5_throwing wsX5_step := goodIn_r _ [13, 2, 3, 4, 5, 6, 7, 8, 1, 14, 15, 16, 17, 18, 19, 12, 20, 21, 22, 23, 24, 25, 26, 27, 28, 29, 30, 31, 32, 33, 34, 35, 36, 37, 38, 39, 40, 41, 42, 43, 44, 45, 46, 47, 48, 49, 50, 51, 52, 53, 54, 55, 56, 57, 58, 59, 60, 61, 62, 63, 64, 65, 66, 67, 68] (by decide +kernel) (by decide +kernel)
set_option maxRecDepth 20000 in
theorem gX5_throwing_X5_step : GoodIn wsX5_throwing (wsV RX5 129 RX5 yX5_step wsX5_step) := goodIn_app (goodIn_of _ (by decide +kernel)) ggX5_throwing_X5_step
set_option maxRecDepth 20000 in
theorem ggX5_flight_X5_in : GoodIn wsX5_flight wsX5_in := goodIn_r _ [7] (by decide +kernel) (by decide +kernel)
set_option maxRecDepth 20000 in
theorem gX5_flight_X5_in : GoodIn wsX5_flight (va_wsS RX5 71 yX5_in wsX5_in) := goodIn_app (goodIn_of _ (by decide +kernel)) ggX5_flight_X5_in
set_option maxRecDepth 20000 in
theorem ggX5_flight_X5_flightOf : GoodIn wsX5_flight wsX5_flightOf := goodIn_r _ [11, 12, 13, 14, 15, 16, 17, 18, 19, 20, 21, 22, 23, 24, 25, 26, 27, 28, 29, 30, 31, 32, 33, 34, 35, 36, 37, 38, 39, 40, 41, 42, 43, 44, 45] (by decide +kernel) (by decide +kernel)
set_option maxRecDepth 20000 in
theorem gX5_flight_X5_flightOf : GoodIn wsX5_flight (wsV RX5 125 RX5 yX5_flightOf wsX5_flightOf) := goodIn_app (goodIn_of _ (by decide +kernel)) ggX5_flight_X5_flightOf
end
section
set_option maxRecDepth 20000 in
theorem ggX5_tune_X5_in : GoodIn wsX5_tune wsX5_in := goodIn_r _ [5] (by decide +kernel) (by decide +kernel)
set_option maxRecDepth 20000 in
theorem gX5_tune_X5_in : GoodIn wsX5_tune (va_wsS RX5 71 yX5_in wsX5_in) := goodIn_app (goodIn_of _ (by decide +kernel)) ggX5_tune_X5_in
set_option maxRecDepth 20000 in
theorem ggX5_tune_X5_step : GoodIn wsX5_tune wsX5_step := goodIn_r _ [9, 10, 11, 12, 13, 14, 15, 1, 16, 17, 18, 19, 20, 21, 22, 4, 23, 24, 25, 26, 27, 28, 29, 30, 31, 2, 3, 5, 32, 33, 34, 35, 36, 37, 38, 39, 40, 41, 42, 43, 44, 45, 46, 47, 48, 49, 50, 51, 52, 53, 54, 55, 56, 57, 58, 59, 60, 61, 62, 63, 64, 65, 66, 67, 68] (by decide +kernel) (by decide +kernel)
set_option maxRecDepth 20000 in
theorem gX5_tune_X5_step : GoodIn wsX5_tune (wsV RX5 129 RX5 yX5_step wsX5_step) := goodIn_app (goodIn_of _ (by decide +kernel)) ggX5_tune_X5_step
set_option maxRecDepth 20000 in
theorem ggX5_tune_X5_size : GoodIn wsX5_tune wsX5_size := goodIn_r _ [31] (by decide +kernel) (by decide +kernel)
set_option maxRecDepth 20000 in
theorem gX5_tune_X5_size : GoodIn wsX5_tune (va_wsS RX5 88 yX5_size wsX5_size) := goodIn_app (goodIn_of _ (by decide +kernel)) ggX5_tune_X5_size
set_option maxRecDepth 20000 in
theorem ggX5_spread_X5_in : GoodIn wsX5_spread wsX5_in := goodIn_r _ [5] (by decide +kernel) (by decide +kernel)
set_option maxRecDepth 20000 in
theorem gX5_spread_X5_in : GoodIn wsX5_spread (va_wsS RX5 71 yX5_in wsX5_in) := goodIn_app (goodIn_of _ (by decide +kernel)) ggX5_spread_X5_in
set_option maxRecDepth 20000 in
theorem ggX5_shot_X5_in : GoodIn wsX5_shot wsX5_in := goodIn_r _ [7] (by decide +kernel) (by decide +kernel)
set_option maxRecDepth 20000 in
theorem gX5_shot_X5_in : GoodIn wsX5_shot (va_wsS RX5 71 yX5_in wsX5_in) := goodIn_app (goodIn_of _ (by decide +kernel)) ggX5_shot_X5_in
set_option maxRecDepth 20000 in
theorem ggX5_findLeft_X5_step : GoodIn wsX5_findLeft wsX5_step := goodIn_r _ [13, 14, 15, 16, 17, 18, 19, 3, 1, 20, 21, 22, 23, 24, 25, 12, 26, 27, 28, 29, 30, 31, 32, 33, 34, 35, 36, 37, 38, 39, 40, 41, 45, 46, 47, 48, 49, 50, 51, 52, 53, 54, 55, 56, 57, 58, 59, 60, 61, 62, 63, 64, 65, 66, 67, 68, 69, 70, 71, 72, 73, 74, 75, 76, 77] (by decide +kernel) (by decide +kernel)
set_option maxRecDepth 20000 in
theorem gX5_findLeft_X5_step : GoodIn wsX5_findLeft (wsV RX5 129 RX5 yX5_step wsX5_step) := goodIn_app (goodIn_of _ (by decide +kernel)) ggX5_findLeft_X5_step
set_option maxRecDepth 20000 in
theorem ggX5_findLeft_X5_lands : GoodIn wsX5_findLeft wsX5_lands := goodIn_r _ [44] (by decide +kernel) (by decide +kernel)
set_option maxRecDepth 20000 in
theorem gX5_findLeft_X5_lands : GoodIn wsX5_findLeft (va_wsS RX5 144 yX5_lands wsX5_lands) := goodIn_app (goodIn_of _ (by decide +kernel)) ggX5_findLeft_X5_lands
set_option maxRecDepth 20000 in
theorem ggX5_findLeft_X5_size : GoodIn wsX5_findLeft wsX5_size := goodIn_r _ [34] (by decide +kernel) (by decide +kernel)
set_option maxRecDepth 20000 in
theorem gX5_findLeft_X5_size : GoodIn wsX5_findLeft (va_wsS RX5 88 yX5_size wsX5_size) := goodIn_app (goodIn_of _ (by decide +kernel)) ggX5_findLeft_X5_size
set_option maxRecDepth 20000 in
theorem ggX5_left_X5_findLeft : GoodIn wsX5_left wsX5_findLeft := goodIn_r _ [5, 6, 7, 8, 9, 10, 11, 12, 13, 14, 15, 16, 4, 17, 18, 19, 20, 21, 22, 23, 24, 25, 26, 27, 28, 29, 30, 31, 32, 33, 34, 35, 36, 37, 38, 39, 40, 41, 42, 43, 44, 45, 46, 47, 48, 49, 50, 51, 52, 53, 54, 55, 56, 57, 58, 59, 60, 61, 62, 63, 64, 65, 66, 67, 68, 69, 70, 71, 72, 73, 74, 75, 76, 77, 78, 79, 80, 81] (by decide +kernel) (by decide +kernel)
set_option maxRecDepth 20000 in
theorem gX5_left_X5_findLeft : GoodIn wsX5_left (wsV RX5 147 RX5 yX5_findLeft wsX5_findLeft) := goodIn_app (goodIn_of _ (by decide +kernel)) ggX5_left_X5_findLeft
set_option maxRecDepth 20000 in
theorem ggX5_spanOf_X5_lands : GoodIn wsX5_spanOf wsX5_lands := goodIn_r _ [6] (by decide +kernel) (by decide +kernel)
set_option maxRecDepth 20000 in
theorem gX5_spanOf_X5_lands : GoodIn wsX5_spanOf (va_wsS RX5 144 yX5_lands wsX5_lands) := goodIn_app (goodIn_of _ (by decide +kernel)) ggX5_spanOf_X5_lands
set_option maxRecDepth 20000 in
theorem ggX5_span_X5_in : GoodIn wsX5_span wsX5_in := goodIn_r _ [4] (by decide +kernel) (by decide +kernel)
set_option maxRecDepth 20000 in
theorem gX5_span_X5_in : GoodIn wsX5_span (va_wsS RX5 71 yX5_in wsX5_in) := goodIn_app (goodIn_of _ (by decide +kernel)) ggX5_span_X5_in
set_option maxRecDepth 20000 in
theorem ggX5_span_X5_findLeft : GoodIn wsX5_span wsX5_findLeft := goodIn_r _ [8, 9, 10, 11, 12, 13, 14, 15, 16, 17, 18, 19, 3, 20, 21, 22, 23, 24, 25, 26, 27, 28, 29, 30, 31, 32, 33, 34, 35, 36, 37, 38, 39, 40, 41, 1, 2, 4, 42, 43, 44, 45, 46, 47, 48, 53, 54, 55, 56, 57, 58, 59, 60, 61, 62, 63, 64, 65, 66, 67, 68, 69, 70, 71, 72, 73, 74, 75, 76, 77, 78, 79, 80, 81, 82, 83, 84, 85] (by decide +kernel) (by decide +kernel)
set_option maxRecDepth 20000 in
theorem gX5_span_X5_findLeft : GoodIn wsX5_span (wsV RX5 147 RX5 yX5_findLeft wsX5_findLeft) := goodIn_app (goodIn_of _ (by decide +kernel)) ggX5_span_X5_findLeft
set_option maxRecDepth 20000 in
theorem ggX5_span_X5_spanOf : GoodIn wsX5_span wsX5_spanOf := goodIn_r _ [52, 12, 10, 46, 47, 3, 48, 53, 54, 55, 56, 57, 58, 59, 60, 61, 62, 63, 64, 65, 66, 67, 68, 69, 70, 71, 72, 73, 74, 75, 76, 77, 78, 79, 80, 81, 82, 83, 84, 85] (by decide +kernel) (by decide +kernel)
set_option maxRecDepth 20000 in
theorem gX5_span_X5_spanOf : GoodIn wsX5_span (wsV RX5 151 RX5 yX5_spanOf wsX5_spanOf) := goodIn_app (goodIn_of _ (by decide +kernel)) ggX5_span_X5_spanOf
set_option maxRecDepth 20000 in
theorem ggX5_next_X5_findLeft : GoodIn wsX5_next wsX5_findLeft := goodIn_r _ [6, 7, 1, 8, 9, 10, 11, 12, 13, 14, 15, 16, 5, 17, 18, 19, 20, 21, 22, 23, 24, 25, 26, 27, 28, 29, 30, 31, 32, 33, 34, 35, 36, 37, 38, 39, 40, 41, 42, 43, 44, 45, 46, 47, 48, 53, 54, 55, 56, 57, 58, 59, 60, 61, 62, 63, 64, 65, 66, 67, 68, 69, 70, 71, 72, 73, 74, 75, 76, 77, 78, 79, 80, 81, 82, 83, 84, 85] (by decide +kernel) (by decide +kernel)
set_option maxRecDepth 20000 in
theorem gX5_next_X5_findLeft : GoodIn wsX5_next (wsV RX5 147 RX5 yX5_findLeft wsX5_findLeft) := goodIn_app (goodIn_of _ (by decide +kernel)) ggX5_next_X5_findLeft
set_option maxRecDepth 20000 in
theorem ggX5_next_X5_spanOf : GoodIn wsX5_next wsX5_spanOf := goodIn_r _ [52, 9, 1, 46, 47, 5, 48, 53, 54, 55, 56, 57, 58, 59, 60, 61, 62, 63, 64, 65, 66, 67, 68, 69, 70, 71, 72, 73, 74, 75, 76, 77, 78, 79, 80, 81, 82, 83, 84, 85] (by decide +kernel) (by decide +kernel)
set_option maxRecDepth 20000 in
theorem gX5_next_X5_spanOf : GoodIn wsX5_next (wsV RX5 151 RX5 yX5_spanOf wsX5_spanOf) := goodIn_app (goodIn_of _ (by decide +kernel)) ggX5_next_X5_spanOf
set_option maxRecDepth 20000 in
theorem ggX5_surest_X5_in : GoodIn wsX5_surest wsX5_in := goodIn_r _ [5] (by decide +kernel) (by decide +kernel)
set_option maxRecDepth 20000 in
theorem gX5_surest_X5_in : GoodIn wsX5_surest (va_wsS RX5 71 yX5_in wsX5_in) := goodIn_app (goodIn_of _ (by decide +kernel)) ggX5_surest_X5_in
set_option maxRecDepth 20000 in
theorem ggX5_surest_X5_findLeft : GoodIn wsX5_surest wsX5_findLeft := goodIn_r _ [9, 10, 1, 11, 12, 13, 14, 15, 16, 17, 18, 19, 4, 20, 21, 22, 23, 24, 25, 26, 27, 28, 29, 30, 31, 32, 33, 34, 35, 36, 37, 38, 39, 40, 41, 2, 3, 5, 42, 43, 44, 45, 46, 47, 48, 53, 54, 55, 56, 57, 58, 59, 60, 61, 62, 63, 64, 65, 66, 67, 68, 69, 70, 71, 72, 73, 74, 75, 76, 77, 78, 79, 80, 81, 82, 83, 84, 85] (by decide +kernel) (by decide +kernel)
set_option maxRecDepth 20000 in
theorem gX5_surest_X5_findLeft : GoodIn wsX5_surest (wsV RX5 147 RX5 yX5_findLeft wsX5_findLeft) := goodIn_app (goodIn_of _ (by decide +kernel)) ggX5_surest_X5_findLeft
set_option maxRecDepth 20000 in
theorem ggX5_surest_X5_spanOf : GoodIn wsX5_surest wsX5_spanOf := goodIn_r _ [52, 12, 1, 46, 47, 4, 48, 53, 54, 55, 56, 57, 58, 59, 60, 61, 62, 63, 64, 65, 66, 67, 68, 69, 70, 71, 72, 73, 74, 75, 76, 77, 78, 79, 80, 81, 82, 83, 84, 85] (by decide +kernel) (by decide +kernel)
set_option maxRecDepth 20000 in
theorem gX5_surest_X5_spanOf : GoodIn wsX5_surest (wsV RX5 151 RX5 yX5_spanOf wsX5_spanOf) := goodIn_app (goodIn_of _ (by decide +kernel)) ggX5_surest_X5_spanOf
set_option maxRecDepth 20000 in
theorem ggX5_surest_X5_size : GoodIn wsX5_surest wsX5_size := goodIn_r _ [41] (by decide +kernel) (by decide +kernel)
set_option maxRecDepth 20000 in
theorem gX5_surest_X5_size : GoodIn wsX5_surest (va_wsS RX5 88 yX5_size wsX5_size) := goodIn_app (goodIn_of _ (by decide +kernel)) ggX5_surest_X5_size
set_option maxRecDepth 20000 in
theorem ggX5_wall_X5_in : GoodIn wsX5_wall wsX5_in := goodIn_r _ [6] (by decide +kernel) (by decide +kernel)
set_option maxRecDepth 20000 in
theorem gX5_wall_X5_in : GoodIn wsX5_wall (va_wsS RX5 71 yX5_in wsX5_in) := goodIn_app (goodIn_of _ (by decide +kernel)) ggX5_wall_X5_in
set_option maxRecDepth 20000 in
theorem ggX5_wall_X5_newWall : GoodIn wsX5_wall wsX5_newWall := goodIn_r _ [10, 11, 12, 13, 14, 15, 16, 17, 18, 19, 20, 21, 22, 23, 24, 25, 26, 27, 28, 29, 30, 31, 32, 33, 34, 35, 36, 37, 38, 39, 40, 41, 42, 43, 44, 45, 46] (by decide +kernel) (by decide +kernel)
set_option maxRecDepth 20000 in
theorem gX5_wall_X5_newWall : GoodIn wsX5_wall (wsV RX5 68 RX5 yX5_newWall wsX5_newWall) := goodIn_app (goodIn_of _ (by decide +kernel)) ggX5_wall_X5_newWall
set_option maxRecDepth 20000 in
theorem ggX5_isCell_X5_in : GoodIn wsX5_isCell wsX5_in := goodIn_r _ [6] (by decide +kernel) (by decide +kernel)
set_option maxRecDepth 20000 in
theorem gX5_isCell_X5_in : GoodIn wsX5_isCell (va_wsS RX5 71 yX5_in wsX5_in) := goodIn_app (goodIn_of _ (by decide +kernel)) ggX5_isCell_X5_in
set_option maxRecDepth 20000 in
theorem ggX5_strength_X5_isCell : GoodIn wsX5_strength wsX5_isCell := goodIn_r _ [8, 1, 9, 10, 11, 7, 12, 13, 14, 15, 16, 17, 18, 19, 20, 21, 22, 23, 24, 25, 26, 27, 28, 29, 30, 31, 32, 33, 34, 35, 36, 37, 38, 39, 40, 41, 42, 43, 44, 45] (by decide +kernel) (by decide +kernel)
set_option maxRecDepth 20000 in
theorem gX5_strength_X5_isCell : GoodIn wsX5_strength (wsV RX5 155 RX5 yX5_isCell wsX5_isCell) := goodIn_app (goodIn_of _ (by decide +kernel)) ggX5_strength_X5_isCell
set_option maxRecDepth 20000 in
theorem ggX5_strength_X5_in : GoodIn wsX5_strength wsX5_in := goodIn_r _ [12] (by decide +kernel) (by decide +kernel)
set_option maxRecDepth 20000 in
theorem gX5_strength_X5_in : GoodIn wsX5_strength (va_wsS RX5 71 yX5_in wsX5_in) := goodIn_app (goodIn_of _ (by decide +kernel)) ggX5_strength_X5_in
set_option maxRecDepth 20000 in
theorem ggX5_prop_X5_isCell : GoodIn wsX5_prop wsX5_isCell := goodIn_r _ [8, 1, 9, 10, 11, 7, 12, 13, 14, 15, 16, 17, 18, 19, 20, 21, 22, 23, 24, 25, 26, 27, 28, 29, 30, 31, 32, 33, 34, 35, 36, 37, 38, 39, 40, 41, 42, 43, 44, 45] (by decide +kernel) (by decide +kernel)
set_option maxRecDepth 20000 in
theorem gX5_prop_X5_isCell : GoodIn wsX5_prop (wsV RX5 155 RX5 yX5_isCell wsX5_isCell) := goodIn_app (goodIn_of _ (by decide +kernel)) ggX5_prop_X5_isCell
set_option maxRecDepth 20000 in
theorem ggX5_strike_X5_isCell : GoodIn wsX5_strike wsX5_isCell := goodIn_r _ [10, 2, 5, 11, 12, 9, 13, 14, 15, 16, 17, 18, 19, 20, 21, 22, 23, 24, 25, 26, 27, 28, 29, 30, 31, 32, 33, 34, 35, 36, 37, 38, 39, 40, 41, 42, 43, 44, 45, 46] (by decide +kernel) (by decide +kernel)
set_option maxRecDepth 20000 in
theorem gX5_strike_X5_isCell : GoodIn wsX5_strike (wsV RX5 155 RX5 yX5_isCell wsX5_isCell) := goodIn_app (goodIn_of _ (by decide +kernel)) ggX5_strike_X5_isCell
set_option maxRecDepth 20000 in
theorem ggX5_isForce_X5_in : GoodIn wsX5_isForce wsX5_in := goodIn_r _ [4] (by decide +kernel) (by decide +kernel)
set_option maxRecDepth 20000 in
theorem gX5_isForce_X5_in : GoodIn wsX5_isForce (va_wsS RX5 71 yX5_in wsX5_in) := goodIn_app (goodIn_of _ (by decide +kernel)) ggX5_isForce_X5_in
set_option maxRecDepth 20000 in
theorem ggX5_hit_X5_isCell : GoodIn wsX5_hit wsX5_isCell := goodIn_r _ [7, 2, 8, 9, 10, 6, 11, 21, 22, 23, 24, 25, 26, 27, 28, 29, 30, 31, 32, 33, 34, 35, 36, 37, 38, 39, 40, 41, 42, 43, 44, 45, 46, 47, 48, 49, 50, 51, 52, 53] (by decide +kernel) (by decide +kernel)
set_option maxRecDepth 20000 in
theorem gX5_hit_X5_isCell : GoodIn wsX5_hit (wsV RX5 155 RX5 yX5_isCell wsX5_isCell) := goodIn_app (goodIn_of _ (by decide +kernel)) ggX5_hit_X5_isCell
set_option maxRecDepth 20000 in
theorem ggX5_hit_X5_isForce : GoodIn wsX5_hit wsX5_isForce := goodIn_r _ [14, 9, 10, 6, 11] (by decide +kernel) (by decide +kernel)
set_option maxRecDepth 20000 in
theorem gX5_hit_X5_isForce : GoodIn wsX5_hit (va_wsS RX5 159 yX5_isForce wsX5_isForce) := goodIn_app (goodIn_of _ (by decide +kernel)) ggX5_hit_X5_isForce
set_option maxRecDepth 20000 in
theorem ggX5_hit_X5_strike : GoodIn wsX5_hit wsX5_strike := goodIn_r _ [18, 1, 2, 19, 20, 8, 3, 4, 5, 6, 7, 9, 10, 11, 21, 22, 23, 24, 25, 26, 27, 28, 29, 30, 31, 32, 33, 34, 35, 36, 37, 38, 39, 40, 41, 42, 43, 44, 45, 46, 47, 48, 49, 50, 51, 52, 53] (by decide +kernel) (by decide +kernel)
set_option maxRecDepth 20000 in
theorem gX5_hit_X5_strike : GoodIn wsX5_hit (wsV RX5 163 RX5 yX5_strike wsX5_strike) := goodIn_app (goodIn_of _ (by decide +kernel)) ggX5_hit_X5_strike
set_option maxRecDepth 20000 in
theorem ggX5_cell_X5_isCell : GoodIn wsX5_cell wsX5_isCell := goodIn_r _ [9, 1, 10, 11, 12, 8, 13, 14, 15, 16, 17, 18, 19, 20, 21, 22, 23, 24, 25, 26, 27, 28, 29, 30, 31, 32, 33, 34, 35, 36, 37, 38, 39, 40, 41, 42, 43, 44, 45, 46] (by decide +kernel) (by decide +kernel)
set_option maxRecDepth 20000 in
theorem gX5_cell_X5_isCell : GoodIn wsX5_cell (wsV RX5 155 RX5 yX5_isCell wsX5_isCell) := goodIn_app (goodIn_of _ (by decide +kernel)) ggX5_cell_X5_isCell
set_option maxRecDepth 20000 in
theorem ggX5_cell_X5_in : GoodIn wsX5_cell wsX5_in := goodIn_r _ [13] (by decide +kernel) (by decide +kernel)
set_option maxRecDepth 20000 in
theorem gX5_cell_X5_in : GoodIn wsX5_cell (va_wsS RX5 71 yX5_in wsX5_in) := goodIn_app (goodIn_of _ (by decide +kernel)) ggX5_cell_X5_in
set_option maxRecDepth 20000 in
theorem ggX5_level_X5_in : GoodIn wsX5_level wsX5_in := goodIn_r _ [5] (by decide +kernel) (by decide +kernel)
set_option maxRecDepth 20000 in
theorem gX5_level_X5_in : GoodIn wsX5_level (va_wsS RX5 71 yX5_in wsX5_in) := goodIn_app (goodIn_of _ (by decide +kernel)) ggX5_level_X5_in
set_option maxRecDepth 20000 in
theorem ggX5_open_X5_standing : GoodIn wsX5_open wsX5_standing := goodIn_r _ [7, 8, 9, 1, 10, 11, 12, 13, 14, 15, 16, 17, 18, 19, 20, 21, 22, 23, 24, 25, 26, 27, 28, 29, 30, 31, 32, 33, 34, 35, 36, 37, 38, 39, 40, 41, 42] (by decide +kernel) (by decide +kernel)
set_option maxRecDepth 20000 in
theorem gX5_open_X5_standing : GoodIn wsX5_open (wsV RX5 170 RX5 yX5_standing wsX5_standing) := goodIn_app (goodIn_of _ (by decide +kernel)) ggX5_open_X5_standing
set_option maxRecDepth 20000 in
theorem ggX5_fewest_X5_cheaper : GoodIn wsX5_fewest wsX5_cheaper := goodIn_r _ [14, 5, 15, 16, 17, 18, 19, 20, 21, 22, 23, 24, 25, 26, 27, 28, 29, 30, 31, 32, 33, 34, 35, 36, 37, 38, 39, 40, 41, 42, 43, 44, 45, 46, 47] (by decide +kernel) (by decide +kernel)
set_option maxRecDepth 20000 in
theorem gX5_fewest_X5_cheaper : GoodIn wsX5_fewest (wsV RX5 174 RX5 yX5_cheaper wsX5_cheaper) := goodIn_app (goodIn_of _ (by decide +kernel)) ggX5_fewest_X5_cheaper
set_option maxRecDepth 20000 in
theorem ggX5_soonest_X5_isForce : GoodIn wsX5_soonest wsX5_isForce := goodIn_r _ [5, 6, 7, 4, 8] (by decide +kernel) (by decide +kernel)
set_option maxRecDepth 20000 in
theorem gX5_soonest_X5_isForce : GoodIn wsX5_soonest (va_wsS RX5 159 yX5_isForce wsX5_isForce) := goodIn_app (goodIn_of _ (by decide +kernel)) ggX5_soonest_X5_isForce
set_option maxRecDepth 20000 in
theorem ggX5_soonest_X5_in : GoodIn wsX5_soonest wsX5_in := goodIn_r _ [8] (by decide +kernel) (by decide +kernel)
set_option maxRecDepth 20000 in
theorem gX5_soonest_X5_in : GoodIn wsX5_soonest (va_wsS RX5 71 yX5_in wsX5_in) := goodIn_app (goodIn_of _ (by decide +kernel)) ggX5_soonest_X5_in
set_option maxRecDepth 20000 in
theorem ggX5_soonest_X5_fewest : GoodIn wsX5_soonest wsX5_fewest := goodIn_r _ [12, 13, 14, 15, 1, 16, 17, 18, 19, 20, 21, 22, 23, 4, 24, 25, 26, 27, 28, 29, 30, 31, 32, 33, 34, 35, 36, 37, 38, 39, 40, 41, 42, 43, 44, 45, 46, 47, 48, 49, 50, 51, 52, 53, 54, 55, 56, 57] (by decide +kernel) (by decide +kernel)
set_option maxRecDepth 20000 in
theorem gX5_soonest_X5_fewest : GoodIn wsX5_soonest (wsV RX5 177 RX5 yX5_fewest wsX5_fewest) := goodIn_app (goodIn_of _ (by decide +kernel)) ggX5_soonest_X5_fewest
set_option maxRecDepth 20000 in
theorem ggX5_scatter_X5_in : GoodIn wsX5_scatter wsX5_in := goodIn_r _ [5] (by decide +kernel) (by decide +kernel)
set_option maxRecDepth 20000 in
theorem gX5_scatter_X5_in : GoodIn wsX5_scatter (va_wsS RX5 71 yX5_in wsX5_in) := goodIn_app (goodIn_of _ (by decide +kernel)) ggX5_scatter_X5_in
set_option maxRecDepth 20000 in
theorem ggX5_worthOf_X5_keep : GoodIn wsX5_worthOf wsX5_keep := goodIn_r _ [6, 7, 8, 9, 10, 11, 12, 30, 31, 32, 33, 34, 35, 36, 37, 38, 39, 40, 41, 42, 43, 44, 45, 46, 47, 48, 49, 50, 51, 52, 53, 54, 55, 56, 57, 58, 59, 60, 61, 62] (by decide +kernel) (by decide +kernel)
set_option maxRecDepth 20000 in
theorem gX5_worthOf_X5_keep : GoodIn wsX5_worthOf (wsV RX5 180 RX5 yX5_keep wsX5_keep) := goodIn_app (goodIn_of _ (by decide +kernel)) ggX5_worthOf_X5_keep
set_option maxRecDepth 20000 in
theorem ggX5_worthOf_X5_strike : GoodIn wsX5_worthOf wsX5_strike := goodIn_r _ [16, 8, 17, 10, 12, 18, 19, 20, 21, 5, 22, 23, 24, 25, 30, 31, 32, 33, 34, 35, 36, 37, 38, 39, 40, 41, 42, 43, 44, 45, 46, 47, 48, 49, 50, 51, 52, 53, 54, 55, 56, 57, 58, 59, 60, 61, 62] (by decide +kernel) (by decide +kernel)
set_option maxRecDepth 20000 in
theorem gX5_worthOf_X5_strike : GoodIn wsX5_worthOf (wsV RX5 163 RX5 yX5_strike wsX5_strike) := goodIn_app (goodIn_of _ (by decide +kernel)) ggX5_worthOf_X5_strike
set_option maxRecDepth 20000 in
theorem ggX5_worthOf_X5_giveBack : GoodIn wsX5_worthOf wsX5_giveBack := goodIn_r _ [29, 8, 7, 10, 9, 12, 11, 30, 31, 32, 33, 34, 35, 36, 37, 38, 39, 40, 41, 42, 43, 44, 45, 46, 47, 48, 49, 50, 51, 52, 53, 54, 55, 56, 57, 58, 59, 60, 61, 62] (by decide +kernel) (by decide +kernel)
set_option maxRecDepth 20000 in
theorem gX5_worthOf_X5_giveBack : GoodIn wsX5_worthOf (wsV RX5 183 RX5 yX5_giveBack wsX5_giveBack) := goodIn_app (goodIn_of _ (by decide +kernel)) ggX5_worthOf_X5_giveBack
set_option maxRecDepth 20000 in
theorem ggX5_worth_X5_isCell : GoodIn wsX5_worth wsX5_isCell := goodIn_r _ [5, 6, 7, 8, 9, 4, 10, 37, 38, 39, 40, 41, 42, 43, 44, 45, 46, 47, 48, 49, 50, 51, 52, 53, 54, 55, 56, 57, 58, 59, 60, 61, 62, 63, 64, 65, 66, 67, 68, 69] (by decide +kernel) (by decide +kernel)
set_option maxRecDepth 20000 in
theorem gX5_worth_X5_isCell : GoodIn wsX5_worth (wsV RX5 155 RX5 yX5_isCell wsX5_isCell) := goodIn_app (goodIn_of _ (by decide +kernel)) ggX5_worth_X5_isCell
set_option maxRecDepth 20000 in
theorem ggX5_worth_X5_isForce : GoodIn wsX5_worth wsX5_isForce := goodIn_r _ [13, 8, 9, 4, 10] (by decide +kernel) (by decide +kernel)
set_option maxRecDepth 20000 in
theorem gX5_worth_X5_isForce : GoodIn wsX5_worth (va_wsS RX5 159 yX5_isForce wsX5_isForce) := goodIn_app (goodIn_of _ (by decide +kernel)) ggX5_worth_X5_isForce
set_option maxRecDepth 20000 in
theorem ggX5_worth_X5_worthOf : GoodIn wsX5_worth wsX5_worthOf := goodIn_r _ [17, 18, 19, 20, 21, 4, 22, 23, 24, 25, 26, 27, 28, 29, 30, 31, 32, 6, 7, 1, 2, 3, 5, 8, 9, 10, 33, 34, 35, 36, 37, 38, 39, 40, 41, 42, 43, 44, 45, 46, 47, 48, 49, 50, 51, 52, 53, 54, 55, 56, 57, 58, 59, 60, 61, 62, 63, 64, 65, 66, 67, 68, 69] (by decide +kernel) (by decide +kernel)
set_option maxRecDepth 20000 in
theorem gX5_worth_X5_worthOf : GoodIn wsX5_worth (wsV RX5 186 RX5 yX5_worthOf wsX5_worthOf) := goodIn_app (goodIn_of _ (by decide +kernel)) ggX5_worth_X5_worthOf
set_option maxRecDepth 20000 in
theorem ggX5_aim_X5_isForce : GoodIn wsX5_aim wsX5_isForce := goodIn_r _ [6, 7, 8, 5, 9] (by decide +kernel) (by decide +kernel)
set_option maxRecDepth 20000 in
theorem gX5_aim_X5_isForce : GoodIn wsX5_aim (va_wsS RX5 159 yX5_isForce wsX5_isForce) := goodIn_app (goodIn_of _ (by decide +kernel)) ggX5_aim_X5_isForce
set_option maxRecDepth 20000 in
theorem ggX5_aim_X5_in : GoodIn wsX5_aim wsX5_in := goodIn_r _ [9] (by decide +kernel) (by decide +kernel)
set_option maxRecDepth 20000 in
theorem gX5_aim_X5_in : GoodIn wsX5_aim (va_wsS RX5 71 yX5_in wsX5_in) := goodIn_app (goodIn_of _ (by decide +kernel)) ggX5_aim_X5_in
set_option maxRecDepth 20000 in
theorem ggX5_aim_X5_worthOf : GoodIn wsX5_aim wsX5_worthOf := goodIn_r _ [13, 14, 15, 16, 17, 5, 18, 19, 20, 21, 22, 23, 24, 25, 26, 27, 28, 1, 2, 29, 30, 31, 32, 7, 8, 9, 33, 34, 35, 36, 37, 38, 39, 40, 41, 42, 43, 44, 45, 46, 47, 48, 49, 50, 51, 52, 53, 54, 55, 56, 57, 58, 59, 60, 61, 62, 63, 64, 65, 66, 67, 68, 69] (by decide +kernel) (by decide +kernel)
set_option maxRecDepth 20000 in
theorem gX5_aim_X5_worthOf : GoodIn wsX5_aim (wsV RX5 186 RX5 yX5_worthOf wsX5_worthOf) := goodIn_app (goodIn_of _ (by decide +kernel)) ggX5_aim_X5_worthOf
set_option maxRecDepth 20000 in
theorem ggX5_held_X5_isCell : GoodIn wsX5_held wsX5_isCell := goodIn_r _ [7, 8, 9, 10, 11, 6, 12, 43, 44, 45, 46, 47, 48, 49, 50, 51, 52, 53, 54, 55, 56, 57, 58, 59, 60, 61, 62, 63, 64, 65, 66, 67, 68, 69, 70, 71, 72, 73, 74, 75] (by decide +kernel) (by decide +kernel)
set_option maxRecDepth 20000 in
theorem gX5_held_X5_isCell : GoodIn wsX5_held (wsV RX5 155 RX5 yX5_isCell wsX5_isCell) := goodIn_app (goodIn_of _ (by decide +kernel)) ggX5_held_X5_isCell
set_option maxRecDepth 20000 in
theorem ggX5_held_X5_isForce : GoodIn wsX5_held wsX5_isForce := goodIn_r _ [15, 10, 11, 6, 12] (by decide +kernel) (by decide +kernel)
set_option maxRecDepth 20000 in
theorem gX5_held_X5_isForce : GoodIn wsX5_held (va_wsS RX5 159 yX5_isForce wsX5_isForce) := goodIn_app (goodIn_of _ (by decide +kernel)) ggX5_held_X5_isForce
set_option maxRecDepth 20000 in
theorem ggX5_held_X5_in : GoodIn wsX5_held wsX5_in := goodIn_r _ [12] (by decide +kernel) (by decide +kernel)
set_option maxRecDepth 20000 in
theorem gX5_held_X5_in : GoodIn wsX5_held (va_wsS RX5 71 yX5_in wsX5_in) := goodIn_app (goodIn_of _ (by decide +kernel)) ggX5_held_X5_in
set_option maxRecDepth 20000 in
theorem ggX5_held_X5_keep : GoodIn wsX5_held wsX5_keep := goodIn_r _ [19, 20, 21, 22, 23, 24, 25, 43, 44, 45, 46, 47, 48, 49, 50, 51, 52, 53, 54, 55, 56, 57, 58, 59, 60, 61, 62, 63, 64, 65, 66, 67, 68, 69, 70, 71, 72, 73, 74, 75] (by decide +kernel) (by decide +kernel)
set_option maxRecDepth 20000 in
theorem gX5_held_X5_keep : GoodIn wsX5_held (wsV RX5 180 RX5 yX5_keep wsX5_keep) := goodIn_app (goodIn_of _ (by decide +kernel)) ggX5_held_X5_keep
set_option maxRecDepth 20000 in
theorem ggX5_held_X5_strike : GoodIn wsX5_held wsX5_strike := goodIn_r _ [29, 21, 8, 23, 25, 9, 3, 4, 5, 6, 7, 10, 11, 12, 43, 44, 45, 46, 47, 48, 49, 50, 51, 52, 53, 54, 55, 56, 57, 58, 59, 60, 61, 62, 63, 64, 65, 66, 67, 68, 69, 70, 71, 72, 73, 74, 75] (by decide +kernel) (by decide +kernel)
set_option maxRecDepth 20000 in
theorem gX5_held_X5_strike : GoodIn wsX5_held (wsV RX5 163 RX5 yX5_strike wsX5_strike) := goodIn_app (goodIn_of _ (by decide +kernel)) ggX5_held_X5_strike
set_option maxRecDepth 20000 in
theorem ggX5_held_X5_open : GoodIn wsX5_held wsX5_open := goodIn_r _ [33, 8, 34, 35, 36, 37, 6, 38, 9, 21, 43, 44, 45, 46, 47, 48, 49, 50, 51, 52, 53, 54, 55, 56, 57, 58, 59, 60, 61, 62, 63, 64, 65, 66, 67, 68, 69, 70, 71, 72, 73, 74, 75] (by decide +kernel) (by decide +kernel)
set_option maxRecDepth 20000 in
theorem gX5_held_X5_open : GoodIn wsX5_held (wsV RX5 191 RX5 yX5_open wsX5_open) := goodIn_app (goodIn_of _ (by decide +kernel)) ggX5_held_X5_open
set_option maxRecDepth 20000 in
theorem ggX5_held_X5_giveBack : GoodIn wsX5_held wsX5_giveBack := goodIn_r _ [42, 21, 20, 23, 22, 25, 24, 43, 44, 45, 46, 47, 48, 49, 50, 51, 52, 53, 54, 55, 56, 57, 58, 59, 60, 61, 62, 63, 64, 65, 66, 67, 68, 69, 70, 71, 72, 73, 74, 75] (by decide +kernel) (by decide +kernel)
set_option maxRecDepth 20000 in
theorem gX5_held_X5_giveBack : GoodIn wsX5_held (wsV RX5 183 RX5 yX5_giveBack wsX5_giveBack) := goodIn_app (goodIn_of _ (by decide +kernel)) ggX5_held_X5_giveBack
set_option maxRecDepth 20000 in
theorem ggX5_near_X5_in : GoodIn wsX5_near wsX5_in := goodIn_r _ [5] (by decide +kernel) (by decide +kernel)
set_option maxRecDepth 20000 in
theorem gX5_near_X5_in : GoodIn wsX5_near (va_wsS RX5 71 yX5_in wsX5_in) := goodIn_app (goodIn_of _ (by decide +kernel)) ggX5_near_X5_in
set_option maxRecDepth 20000 in
theorem ggX5_loose_X5_isCell : GoodIn wsX5_loose wsX5_isCell := goodIn_r _ [10, 11, 12, 13, 14, 9, 15, 52, 53, 54, 55, 56, 57, 58, 59, 60, 61, 62, 63, 64, 65, 66, 67, 68, 69, 70, 71, 72, 73, 74, 75, 76, 77, 78, 79, 80, 81, 82, 83, 84] (by decide +kernel) (by decide +kernel)
set_option maxRecDepth 20000 in
theorem gX5_loose_X5_isCell : GoodIn wsX5_loose (wsV RX5 155 RX5 yX5_isCell wsX5_isCell) := goodIn_app (goodIn_of _ (by decide +kernel)) ggX5_loose_X5_isCell
set_option maxRecDepth 20000 in
theorem ggX5_loose_X5_in : GoodIn wsX5_loose wsX5_in := goodIn_r _ [15] (by decide +kernel) (by decide +kernel)
set_option maxRecDepth 20000 in
theorem gX5_loose_X5_in : GoodIn wsX5_loose (va_wsS RX5 71 yX5_in wsX5_in) := goodIn_app (goodIn_of _ (by decide +kernel)) ggX5_loose_X5_in
set_option maxRecDepth 20000 in
theorem ggX5_loose_X5_step : GoodIn wsX5_loose wsX5_step := goodIn_r _ [19, 20, 21, 22, 23, 24, 25, 5, 4, 26, 27, 28, 29, 30, 31, 9, 32, 33, 34, 35, 36, 37, 38, 39, 40, 13, 14, 15, 41, 42, 43, 44, 52, 53, 54, 55, 56, 57, 58, 59, 60, 61, 62, 63, 64, 65, 66, 67, 68, 69, 70, 71, 72, 73, 74, 75, 76, 77, 78, 79, 80, 81, 82, 83, 84] (by decide +kernel) (by decide +kernel)
set_option maxRecDepth 20000 in
theorem gX5_loose_X5_step : GoodIn wsX5_loose (wsV RX5 129 RX5 yX5_step wsX5_step) := goodIn_app (goodIn_of _ (by decide +kernel)) ggX5_loose_X5_step
set_option maxRecDepth 20000 in
theorem ggX5_loose_X5_size : GoodIn wsX5_loose wsX5_size := goodIn_r _ [40] (by decide +kernel) (by decide +kernel)
set_option maxRecDepth 20000 in
theorem gX5_loose_X5_size : GoodIn wsX5_loose (va_wsS RX5 88 yX5_size wsX5_size) := goodIn_app (goodIn_of _ (by decide +kernel)) ggX5_loose_X5_size
set_option maxRecDepth 20000 in
theorem ggX5_loose_X5_strike : GoodIn wsX5_loose wsX5_strike := goodIn_r _ [48, 49, 11, 50, 51, 12, 6, 7, 8, 9, 10, 13, 14, 15, 52, 53, 54, 55, 56, 57, 58, 59, 60, 61, 62, 63, 64, 65, 66, 67, 68, 69, 70, 71, 72, 73, 74, 75, 76, 77, 78, 79, 80, 81, 82, 83, 84] (by decide +kernel) (by decide +kernel)
set_option maxRecDepth 20000 in
theorem gX5_loose_X5_strike : GoodIn wsX5_loose (wsV RX5 163 RX5 yX5_strike wsX5_strike) := goodIn_app (goodIn_of _ (by decide +kernel)) ggX5_loose_X5_strike
set_option maxRecDepth 20000 in
theorem ggX5_store_X5_in : GoodIn wsX5_store wsX5_in := goodIn_r _ [5] (by decide +kernel) (by decide +kernel)
set_option maxRecDepth 20000 in
theorem gX5_store_X5_in : GoodIn wsX5_store (va_wsS RX5 71 yX5_in wsX5_in) := goodIn_app (goodIn_of _ (by decide +kernel)) ggX5_store_X5_in
set_option maxRecDepth 20000 in
theorem ggX5_wet_X5_in : GoodIn wsX5_wet wsX5_in := goodIn_r _ [6] (by decide +kernel) (by decide +kernel)
set_option maxRecDepth 20000 in
theorem gX5_wet_X5_in : GoodIn wsX5_wet (va_wsS RX5 71 yX5_in wsX5_in) := goodIn_app (goodIn_of _ (by decide +kernel)) ggX5_wet_X5_in
set_option maxRecDepth 20000 in
theorem ggX5_lasts_X5_in : GoodIn wsX5_lasts wsX5_in := goodIn_r _ [4] (by decide +kernel) (by decide +kernel)
set_option maxRecDepth 20000 in
theorem gX5_lasts_X5_in : GoodIn wsX5_lasts (va_wsS RX5 71 yX5_in wsX5_in) := goodIn_app (goodIn_of _ (by decide +kernel)) ggX5_lasts_X5_in
set_option maxRecDepth 20000 in
theorem ggX5_lasts_X5_lastsBy : GoodIn wsX5_lasts wsX5_lastsBy := goodIn_r _ [8, 9, 10, 11, 12, 13, 14, 15, 16, 17, 18, 19, 20, 21, 22, 23, 24, 25, 26, 27, 28, 29, 30, 31, 32, 33, 34, 35, 36, 37, 38, 39, 40, 41, 42, 43, 44, 45] (by decide +kernel) (by decide +kernel)
set_option maxRecDepth 20000 in
theorem gX5_lasts_X5_lastsBy : GoodIn wsX5_lasts (wsV RX5 200 RX5 yX5_lastsBy wsX5_lastsBy) := goodIn_app (goodIn_of _ (by decide +kernel)) ggX5_lasts_X5_lastsBy
set_option maxRecDepth 20000 in
theorem ggX5_rate_X5_in : GoodIn wsX5_rate wsX5_in := goodIn_r _ [4] (by decide +kernel) (by decide +kernel)
set_option maxRecDepth 20000 in
theorem gX5_rate_X5_in : GoodIn wsX5_rate (va_wsS RX5 71 yX5_in wsX5_in) := goodIn_app (goodIn_of _ (by decide +kernel)) ggX5_rate_X5_in
set_option maxRecDepth 20000 in
theorem ggX5_rate_X5_lastsBy : GoodIn wsX5_rate wsX5_lastsBy := goodIn_r _ [8, 9, 10, 11, 12, 13, 14, 15, 16, 17, 18, 19, 20, 21, 22, 23, 24, 25, 26, 27, 28, 29, 30, 31, 32, 33, 34, 35, 36, 37, 38, 39, 40, 41, 42, 43, 44, 45] (by decide +kernel) (by decide +kernel)
set_option maxRecDepth 20000 in
theorem gX5_rate_X5_lastsBy : GoodIn wsX5_rate (wsV RX5 200 RX5 yX5_lastsBy wsX5_lastsBy) := goodIn_app (goodIn_of _ (by decide +kernel)) ggX5_rate_X5_lastsBy
set_option maxRecDepth 20000 in
theorem ggX5_count_X5_standing : GoodIn wsX5_count wsX5_standing := goodIn_r _ [12, 3, 13, 2, 14, 15, 16, 17, 18, 19, 20, 21, 22, 23, 24, 25, 26, 27, 28, 29, 30, 31, 32, 33, 34, 35, 36, 37, 38, 39, 40, 41, 42, 43, 44, 45, 46] (by decide +kernel) (by decide +kernel)
set_option maxRecDepth 20000 in
theorem gX5_count_X5_standing : GoodIn wsX5_count (wsV RX5 170 RX5 yX5_standing wsX5_standing) := goodIn_app (goodIn_of _ (by decide +kernel)) ggX5_count_X5_standing
end
section
theorem dX0_init_0 : decode cX0_init 0 = .ok (.aload_n 0, 1) := by decide +kernel
theorem dX0_init_1 : decode cX0_init 1 = .ok (.invokespecial 3, 3) := by decide +kernel
theorem dX0_init_4 : decode cX0_init 4 = .ok (.aload_n 0, 1) := by decide +kernel
theorem dX0_init_5 : decode cX0_init 5 = .ok (.bipush 61, 2) := by decide +kernel
theorem dX0_init_7 : decode cX0_init 7 = .ok (.newarray .int, 2) := by decide +kernel
theorem dX0_init_9 : decode cX0_init 9 = .ok (.putfield 11, 3) := by decide +kernel
theorem dX0_init_12 : decode cX0_init 12 = .ok (.aload_n 0, 1) := by decide +kernel
theorem dX0_init_13 : decode cX0_init 13 = .ok (.bipush 16, 2) := by decide +kernel
theorem dX0_init_15 : decode cX0_init 15 = .ok (.newarray .int, 2) := by decide +kernel
theorem dX0_init_17 : decode cX0_init 17 = .ok (.putfield 17, 3) := by decide +kernel
theorem dX0_init_20 : decode cX0_init 20 = .ok (.aload_n 0, 1) := by decide +kernel
theorem dX0_init_21 : decode cX0_init 21 = .ok (.bipush 16, 2) := by decide +kernel
theorem dX0_init_23 : decode cX0_init 23 = .ok (.newarray .int, 2) := by decide +kernel
theorem dX0_init_25 : decode cX0_init 25 = .ok (.putfield 20, 3) := by decide +kernel
theorem dX0_init_28 : decode cX0_init 28 = .ok (.aload_n 0, 1) := by decide +kernel
theorem dX0_init_29 : decode cX0_init 29 = .ok (.bipush 31, 2) := by decide +kernel
theorem dX0_init_31 : decode cX0_init 31 = .ok (.newarray .int, 2) := by decide +kernel
theorem dX0_init_33 : decode cX0_init 33 = .ok (.putfield 23, 3) := by decide +kernel
theorem dX0_init_36 : decode cX0_init 36 = .ok (.aload_n 0, 1) := by decide +kernel
theorem dX0_init_37 : decode cX0_init 37 = .ok (.bipush 31, 2) := by decide +kernel
theorem dX0_init_39 : decode cX0_init 39 = .ok (.newarray .int, 2) := by decide +kernel
theorem dX0_init_41 : decode cX0_init 41 = .ok (.putfield 26, 3) := by decide +kernel
theorem dX0_init_44 : decode cX0_init 44 = .ok (.aload_n 0, 1) := by decide +kernel
theorem dX0_init_45 : decode cX0_init 45 = .ok (.iconst 5, 1) := by decide +kernel
theorem dX0_init_46 : decode cX0_init 46 = .ok (.putfield 29, 3) := by decide +kernel
theorem dX0_init_49 : decode cX0_init 49 = .ok (.return_, 1) := by decide +kernel
theorem dX0_putSpread_0 : decode cX0_putSpread 0 = .ok (.aload_n 0, 1) := by decide +kernel
theorem dX0_putSpread_1 : decode cX0_putSpread 1 = .ok (.getfield 29, 3) := by decide +kernel
theorem dX0_putSpread_4 : decode cX0_putSpread 4 = .ok (.istore_n 2, 1) := by decide +kernel
theorem dX0_putSpread_5 : decode cX0_putSpread 5 = .ok (.aload_n 0, 1) := by decide +kernel
theorem dX0_putSpread_6 : decode cX0_putSpread 6 = .ok (.iload_n 1, 1) := by decide +kernel
theorem dX0_putSpread_7 : decode cX0_putSpread 7 = .ok (.putfield 29, 3) := by decide +kernel
theorem dX0_putSpread_10 : decode cX0_putSpread 10 = .ok (.iload_n 2, 1) := by decide +kernel
theorem dX0_putSpread_11 : decode cX0_putSpread 11 = .ok (.ireturn, 1) := by decide +kernel
theorem dX0_tell_0 : decode cX0_tell 0 = .ok (.aload_n 0, 1) := by decide +kernel
theorem dX0_tell_1 : decode cX0_tell 1 = .ok (.getfield 33, 3) := by decide +kernel
theorem dX0_tell_4 : decode cX0_tell 4 = .ok (.aload_n 0, 1) := by decide +kernel
theorem dX0_tell_5 : decode cX0_tell 5 = .ok (.getfield 17, 3) := by decide +kernel
theorem dX0_tell_8 : decode cX0_tell 8 = .ok (.arraylength, 1) := by decide +kernel
theorem dX0_tell_9 : decode cX0_tell 9 = .ok (.if_icmp .ge 15, 3) := by decide +kernel
theorem dX0_tell_12 : decode cX0_tell 12 = .ok (.aload_n 0, 1) := by decide +kernel
theorem dX0_tell_13 : decode cX0_tell 13 = .ok (.getfield 33, 3) := by decide +kernel
theorem dX0_tell_16 : decode cX0_tell 16 = .ok (.aload_n 0, 1) := by decide +kernel
theorem dX0_tell_17 : decode cX0_tell 17 = .ok (.getfield 20, 3) := by decide +kernel
theorem dX0_tell_20 : decode cX0_tell 20 = .ok (.arraylength, 1) := by decide +kernel
theorem dX0_tell_21 : decode cX0_tell 21 = .ok (.if_icmp .lt 5, 3) := by decide +kernel
theorem dX0_tell_24 : decode cX0_tell 24 = .ok (.iconst 0, 1) := by decide +kernel
theorem dX0_tell_25 : decode cX0_tell 25 = .ok (.ireturn, 1) := by decide +kernel
theorem dX0_tell_26 : decode cX0_tell 26 = .ok (.aload_n 0, 1) := by decide +kernel
theorem dX0_tell_27 : decode cX0_tell 27 = .ok (.getfield 17, 3) := by decide +kernel
theorem dX0_tell_30 : decode cX0_tell 30 = .ok (.aload_n 0, 1) := by decide +kernel
theorem dX0_tell_31 : decode cX0_tell 31 = .ok (.getfield 33, 3) := by decide +kernel
theorem dX0_tell_34 : decode cX0_tell 34 = .ok (.iload_n 1, 1) := by decide +kernel
theorem dX0_tell_35 : decode cX0_tell 35 = .ok (.iastore, 1) := by decide +kernel
theorem dX0_tell_36 : decode cX0_tell 36 = .ok (.aload_n 0, 1) := by decide +kernel
theorem dX0_tell_37 : decode cX0_tell 37 = .ok (.getfield 20, 3) := by decide +kernel
theorem dX0_tell_40 : decode cX0_tell 40 = .ok (.aload_n 0, 1) := by decide +kernel
theorem dX0_tell_41 : decode cX0_tell 41 = .ok (.getfield 33, 3) := by decide +kernel
theorem dX0_tell_44 : decode cX0_tell 44 = .ok (.iload_n 2, 1) := by decide +kernel
theorem dX0_tell_45 : decode cX0_tell 45 = .ok (.iastore, 1) := by decide +kernel
theorem dX0_tell_46 : decode cX0_tell 46 = .ok (.aload_n 0, 1) := by decide +kernel
theorem dX0_tell_47 : decode cX0_tell 47 = .ok (.dup, 1) := by decide +kernel
theorem dX0_tell_48 : decode cX0_tell 48 = .ok (.getfield 33, 3) := by decide +kernel
theorem dX0_tell_51 : decode cX0_tell 51 = .ok (.iconst 1, 1) := by decide +kernel
theorem dX0_tell_52 : decode cX0_tell 52 = .ok (.iadd, 1) := by decide +kernel
theorem dX0_tell_53 : decode cX0_tell 53 = .ok (.putfield 33, 3) := by decide +kernel
theorem dX0_tell_56 : decode cX0_tell 56 = .ok (.iconst 1, 1) := by decide +kernel
theorem dX0_tell_57 : decode cX0_tell 57 = .ok (.ireturn, 1) := by decide +kernel
theorem dX0_told_0 : decode cX0_told 0 = .ok (.aload_n 0, 1) := by decide +kernel
theorem dX0_told_1 : decode cX0_told 1 = .ok (.getfield 33, 3) := by decide +kernel
theorem dX0_told_4 : decode cX0_told 4 = .ok (.ireturn, 1) := by decide +kernel
theorem dX0_forgetShots_0 : decode cX0_forgetShots 0 = .ok (.aload_n 0, 1) := by decide +kernel
theorem dX0_forgetShots_1 : decode cX0_forgetShots 1 = .ok (.getfield 33, 3) := by decide +kernel
theorem dX0_forgetShots_4 : decode cX0_forgetShots 4 = .ok (.istore_n 1, 1) := by decide +kernel
theorem dX0_forgetShots_5 : decode cX0_forgetShots 5 = .ok (.aload_n 0, 1) := by decide +kernel
theorem dX0_forgetShots_6 : decode cX0_forgetShots 6 = .ok (.iconst 0, 1) := by decide +kernel
theorem dX0_forgetShots_7 : decode cX0_forgetShots 7 = .ok (.putfield 33, 3) := by decide +kernel
theorem dX0_forgetShots_10 : decode cX0_forgetShots 10 = .ok (.iload_n 1, 1) := by decide +kernel
theorem dX0_forgetShots_11 : decode cX0_forgetShots 11 = .ok (.ireturn, 1) := by decide +kernel
theorem dX0_study_0 : decode cX0_study 0 = .ok (.aload_n 1, 1) := by decide +kernel
theorem dX0_study_1 : decode cX0_study 1 = .ok (.invokevirtual 36, 3) := by decide +kernel
theorem dX0_study_4 : decode cX0_study 4 = .ok (.istore_n 2, 1) := by decide +kernel
theorem dX0_study_5 : decode cX0_study 5 = .ok (.iconst 0, 1) := by decide +kernel
theorem dX0_study_6 : decode cX0_study 6 = .ok (.istore_n 3, 1) := by decide +kernel
theorem dX0_study_7 : decode cX0_study 7 = .ok (.iload_n 3, 1) := by decide +kernel
theorem dX0_study_8 : decode cX0_study 8 = .ok (.aload_n 0, 1) := by decide +kernel
theorem dX0_study_9 : decode cX0_study 9 = .ok (.getfield 11, 3) := by decide +kernel
theorem dX0_study_12 : decode cX0_study 12 = .ok (.arraylength, 1) := by decide +kernel
theorem dX0_study_13 : decode cX0_study 13 = .ok (.if_icmp .ge 21, 3) := by decide +kernel
theorem dX0_study_16 : decode cX0_study 16 = .ok (.aload_n 0, 1) := by decide +kernel
theorem dX0_study_17 : decode cX0_study 17 = .ok (.getfield 11, 3) := by decide +kernel
theorem dX0_study_20 : decode cX0_study 20 = .ok (.iload_n 3, 1) := by decide +kernel
theorem dX0_study_21 : decode cX0_study 21 = .ok (.aload_n 1, 1) := by decide +kernel
theorem dX0_study_22 : decode cX0_study 22 = .ok (.iload_n 2, 1) := by decide +kernel
theorem dX0_study_23 : decode cX0_study 23 = .ok (.iload_n 3, 1) := by decide +kernel
theorem dX0_study_24 : decode cX0_study 24 = .ok (.invokevirtual 40, 3) := by decide +kernel
theorem dX0_study_27 : decode cX0_study 27 = .ok (.iastore, 1) := by decide +kernel
theorem dX0_study_28 : decode cX0_study 28 = .ok (.iinc 3 1, 3) := by decide +kernel
theorem dX0_study_31 : decode cX0_study 31 = .ok (.goto (-24), 3) := by decide +kernel
theorem dX0_study_34 : decode cX0_study 34 = .ok (.iconst 0, 1) := by decide +kernel
theorem dX0_study_35 : decode cX0_study 35 = .ok (.istore_n 3, 1) := by decide +kernel
theorem dX0_study_36 : decode cX0_study 36 = .ok (.iload_n 3, 1) := by decide +kernel
theorem dX0_study_37 : decode cX0_study 37 = .ok (.bipush 31, 2) := by decide +kernel
theorem dX0_study_39 : decode cX0_study 39 = .ok (.if_icmp .ge 62, 3) := by decide +kernel
theorem dX0_study_42 : decode cX0_study 42 = .ok (.aload_n 0, 1) := by decide +kernel
theorem dX0_study_43 : decode cX0_study 43 = .ok (.getfield 23, 3) := by decide +kernel
theorem dX0_study_46 : decode cX0_study 46 = .ok (.iload_n 3, 1) := by decide +kernel
theorem dX0_study_47 : decode cX0_study 47 = .ok (.bipush (-12), 2) := by decide +kernel
theorem dX0_study_49 : decode cX0_study 49 = .ok (.iastore, 1) := by decide +kernel
theorem dX0_study_50 : decode cX0_study 50 = .ok (.aload_n 0, 1) := by decide +kernel
theorem dX0_study_51 : decode cX0_study 51 = .ok (.getfield 26, 3) := by decide +kernel
theorem dX0_study_54 : decode cX0_study 54 = .ok (.iload_n 3, 1) := by decide +kernel
theorem dX0_study_55 : decode cX0_study 55 = .ok (.bipush 12, 2) := by decide +kernel
theorem dX0_study_57 : decode cX0_study 57 = .ok (.iastore, 1) := by decide +kernel
theorem dX0_study_58 : decode cX0_study 58 = .ok (.iconst 0, 1) := by decide +kernel
theorem dX0_study_59 : decode cX0_study 59 = .ok (.istore 4, 2) := by decide +kernel
theorem dX0_study_61 : decode cX0_study 61 = .ok (.iload 4, 2) := by decide +kernel
theorem dX0_study_63 : decode cX0_study 63 = .ok (.aload_n 0, 1) := by decide +kernel
theorem dX0_study_64 : decode cX0_study 64 = .ok (.getfield 33, 3) := by decide +kernel
theorem dX0_study_67 : decode cX0_study 67 = .ok (.if_icmp .ge 28, 3) := by decide +kernel
theorem dX0_study_70 : decode cX0_study 70 = .ok (.aload_n 0, 1) := by decide +kernel
theorem dX0_study_71 : decode cX0_study 71 = .ok (.iload_n 3, 1) := by decide +kernel
theorem dX0_study_72 : decode cX0_study 72 = .ok (.aload_n 0, 1) := by decide +kernel
theorem dX0_study_73 : decode cX0_study 73 = .ok (.getfield 17, 3) := by decide +kernel
theorem dX0_study_76 : decode cX0_study 76 = .ok (.iload 4, 2) := by decide +kernel
theorem dX0_study_78 : decode cX0_study 78 = .ok (.iaload, 1) := by decide +kernel
theorem dX0_study_79 : decode cX0_study 79 = .ok (.aload_n 0, 1) := by decide +kernel
theorem dX0_study_80 : decode cX0_study 80 = .ok (.getfield 20, 3) := by decide +kernel
theorem dX0_study_83 : decode cX0_study 83 = .ok (.iload 4, 2) := by decide +kernel
theorem dX0_study_85 : decode cX0_study 85 = .ok (.iaload, 1) := by decide +kernel
theorem dX0_study_86 : decode cX0_study 86 = .ok (.invokevirtual 44, 3) := by decide +kernel
theorem dX0_study_89 : decode cX0_study 89 = .ok (.iinc 4 1, 3) := by decide +kernel
theorem dX0_study_92 : decode cX0_study 92 = .ok (.goto (-31), 3) := by decide +kernel
theorem dX0_study_95 : decode cX0_study 95 = .ok (.iinc 3 1, 3) := by decide +kernel
theorem dX0_study_98 : decode cX0_study 98 = .ok (.goto (-62), 3) := by decide +kernel
theorem dX0_study_101 : decode cX0_study 101 = .ok (.return_, 1) := by decide +kernel
theorem dX0_bear_0 : decode cX0_bear 0 = .ok (.aload_n 0, 1) := by decide +kernel
theorem dX0_bear_1 : decode cX0_bear 1 = .ok (.getfield 11, 3) := by decide +kernel
theorem dX0_bear_4 : decode cX0_bear 4 = .ok (.iload_n 2, 1) := by decide +kernel
theorem dX0_bear_5 : decode cX0_bear 5 = .ok (.iaload, 1) := by decide +kernel
theorem dX0_bear_6 : decode cX0_bear 6 = .ok (.bipush (-9), 2) := by decide +kernel
theorem dX0_bear_8 : decode cX0_bear 8 = .ok (.if_icmp .ne 12, 3) := by decide +kernel
theorem dX0_bear_11 : decode cX0_bear 11 = .ok (.aload_n 0, 1) := by decide +kernel
theorem dX0_bear_12 : decode cX0_bear 12 = .ok (.getfield 26, 3) := by decide +kernel
theorem dX0_bear_15 : decode cX0_bear 15 = .ok (.iload_n 1, 1) := by decide +kernel
theorem dX0_bear_16 : decode cX0_bear 16 = .ok (.bipush (-13), 2) := by decide +kernel
theorem dX0_bear_18 : decode cX0_bear 18 = .ok (.iastore, 1) := by decide +kernel
theorem dX0_bear_19 : decode cX0_bear 19 = .ok (.return_, 1) := by decide +kernel
theorem dX0_bear_20 : decode cX0_bear 20 = .ok (.iload_n 3, 1) := by decide +kernel
theorem dX0_bear_21 : decode cX0_bear 21 = .ok (.aload_n 0, 1) := by decide +kernel
theorem dX0_bear_22 : decode cX0_bear 22 = .ok (.iload_n 1, 1) := by decide +kernel
theorem dX0_bear_23 : decode cX0_bear 23 = .ok (.iload_n 2, 1) := by decide +kernel
theorem dX0_bear_24 : decode cX0_bear 24 = .ok (.invokevirtual 48, 3) := by decide +kernel
theorem dX0_bear_27 : decode cX0_bear 27 = .ok (.isub, 1) := by decide +kernel
theorem dX0_bear_28 : decode cX0_bear 28 = .ok (.istore 4, 2) := by decide +kernel
theorem dX0_bear_30 : decode cX0_bear 30 = .ok (.aload_n 0, 1) := by decide +kernel
theorem dX0_bear_31 : decode cX0_bear 31 = .ok (.getfield 23, 3) := by decide +kernel
theorem dX0_bear_34 : decode cX0_bear 34 = .ok (.iload_n 1, 1) := by decide +kernel
theorem dX0_bear_35 : decode cX0_bear 35 = .ok (.aload_n 0, 1) := by decide +kernel
theorem dX0_bear_36 : decode cX0_bear 36 = .ok (.getfield 23, 3) := by decide +kernel
theorem dX0_bear_39 : decode cX0_bear 39 = .ok (.iload_n 1, 1) := by decide +kernel
theorem dX0_bear_40 : decode cX0_bear 40 = .ok (.iaload, 1) := by decide +kernel
theorem dX0_bear_41 : decode cX0_bear 41 = .ok (.iload 4, 2) := by decide +kernel
theorem dX0_bear_43 : decode cX0_bear 43 = .ok (.aload_n 0, 1) := by decide +kernel
theorem dX0_bear_44 : decode cX0_bear 44 = .ok (.getfield 29, 3) := by decide +kernel
theorem dX0_bear_47 : decode cX0_bear 47 = .ok (.isub, 1) := by decide +kernel
theorem dX0_bear_48 : decode cX0_bear 48 = .ok (.invokestatic 51, 3) := by decide +kernel
theorem dX0_bear_51 : decode cX0_bear 51 = .ok (.iastore, 1) := by decide +kernel
theorem dX0_bear_52 : decode cX0_bear 52 = .ok (.aload_n 0, 1) := by decide +kernel
theorem dX0_bear_53 : decode cX0_bear 53 = .ok (.getfield 26, 3) := by decide +kernel
theorem dX0_bear_56 : decode cX0_bear 56 = .ok (.iload_n 1, 1) := by decide +kernel
theorem dX0_bear_57 : decode cX0_bear 57 = .ok (.aload_n 0, 1) := by decide +kernel
theorem dX0_bear_58 : decode cX0_bear 58 = .ok (.getfield 26, 3) := by decide +kernel
theorem dX0_bear_61 : decode cX0_bear 61 = .ok (.iload_n 1, 1) := by decide +kernel
theorem dX0_bear_62 : decode cX0_bear 62 = .ok (.iaload, 1) := by decide +kernel
theorem dX0_bear_63 : decode cX0_bear 63 = .ok (.iload 4, 2) := by decide +kernel
theorem dX0_bear_65 : decode cX0_bear 65 = .ok (.aload_n 0, 1) := by decide +kernel
theorem dX0_bear_66 : decode cX0_bear 66 = .ok (.getfield 29, 3) := by decide +kernel
theorem dX0_bear_69 : decode cX0_bear 69 = .ok (.iadd, 1) := by decide +kernel
theorem dX0_bear_70 : decode cX0_bear 70 = .ok (.invokestatic 56, 3) := by decide +kernel
theorem dX0_bear_73 : decode cX0_bear 73 = .ok (.iastore, 1) := by decide +kernel
theorem dX0_bear_74 : decode cX0_bear 74 = .ok (.return_, 1) := by decide +kernel
theorem dX0_scaled_0 : decode cX0_scaled 0 = .ok (.aload_n 0, 1) := by decide +kernel
theorem dX0_scaled_1 : decode cX0_scaled 1 = .ok (.getfield 11, 3) := by decide +kernel
theorem dX0_scaled_4 : decode cX0_scaled 4 = .ok (.iload_n 2, 1) := by decide +kernel
theorem dX0_scaled_5 : decode cX0_scaled 5 = .ok (.iaload, 1) := by decide +kernel
theorem dX0_scaled_6 : decode cX0_scaled 6 = .ok (.i2l, 1) := by decide +kernel
theorem dX0_scaled_7 : decode cX0_scaled 7 = .ok (.bipush 85, 2) := by decide +kernel
theorem dX0_scaled_9 : decode cX0_scaled 9 = .ok (.iload_n 1, 1) := by decide +kernel
theorem dX0_scaled_10 : decode cX0_scaled 10 = .ok (.iadd, 1) := by decide +kernel
theorem dX0_scaled_11 : decode cX0_scaled 11 = .ok (.i2l, 1) := by decide +kernel
theorem dX0_scaled_12 : decode cX0_scaled 12 = .ok (.lmul, 1) := by decide +kernel
theorem dX0_scaled_13 : decode cX0_scaled 13 = .ok (.ldc2_w 59, 3) := by decide +kernel
theorem dX0_scaled_16 : decode cX0_scaled 16 = .ok (.invokestatic 61, 3) := by decide +kernel
theorem dX0_scaled_19 : decode cX0_scaled 19 = .ok (.l2i, 1) := by decide +kernel
theorem dX0_scaled_20 : decode cX0_scaled 20 = .ok (.ireturn, 1) := by decide +kernel
theorem dX0_isLeft_0 : decode cX0_isLeft 0 = .ok (.aload_n 0, 1) := by decide +kernel
theorem dX0_isLeft_1 : decode cX0_isLeft 1 = .ok (.getfield 23, 3) := by decide +kernel
theorem dX0_isLeft_4 : decode cX0_isLeft 4 = .ok (.iload_n 1, 1) := by decide +kernel
theorem dX0_isLeft_5 : decode cX0_isLeft 5 = .ok (.iaload, 1) := by decide +kernel
theorem dX0_isLeft_6 : decode cX0_isLeft 6 = .ok (.aload_n 0, 1) := by decide +kernel
theorem dX0_isLeft_7 : decode cX0_isLeft 7 = .ok (.getfield 26, 3) := by decide +kernel
theorem dX0_isLeft_10 : decode cX0_isLeft 10 = .ok (.iload_n 1, 1) := by decide +kernel
theorem dX0_isLeft_11 : decode cX0_isLeft 11 = .ok (.iaload, 1) := by decide +kernel
theorem dX0_isLeft_12 : decode cX0_isLeft 12 = .ok (.if_icmp .gt 7, 3) := by decide +kernel
theorem dX0_isLeft_15 : decode cX0_isLeft 15 = .ok (.iconst 1, 1) := by decide +kernel
theorem dX0_isLeft_16 : decode cX0_isLeft 16 = .ok (.goto 4, 3) := by decide +kernel
theorem dX0_isLeft_19 : decode cX0_isLeft 19 = .ok (.iconst 0, 1) := by decide +kernel
theorem dX0_isLeft_20 : decode cX0_isLeft 20 = .ok (.ireturn, 1) := by decide +kernel
theorem dX0_pairsLeft_0 : decode cX0_pairsLeft 0 = .ok (.iconst 0, 1) := by decide +kernel
theorem dX0_pairsLeft_1 : decode cX0_pairsLeft 1 = .ok (.istore_n 1, 1) := by decide +kernel
theorem dX0_pairsLeft_2 : decode cX0_pairsLeft 2 = .ok (.iconst 0, 1) := by decide +kernel
theorem dX0_pairsLeft_3 : decode cX0_pairsLeft 3 = .ok (.istore_n 2, 1) := by decide +kernel
theorem dX0_pairsLeft_4 : decode cX0_pairsLeft 4 = .ok (.iload_n 2, 1) := by decide +kernel
theorem dX0_pairsLeft_5 : decode cX0_pairsLeft 5 = .ok (.bipush 31, 2) := by decide +kernel
theorem dX0_pairsLeft_7 : decode cX0_pairsLeft 7 = .ok (.if_icmp .ge 39, 3) := by decide +kernel
theorem dX0_pairsLeft_10 : decode cX0_pairsLeft 10 = .ok (.iload_n 1, 1) := by decide +kernel
theorem dX0_pairsLeft_11 : decode cX0_pairsLeft 11 = .ok (.aload_n 0, 1) := by decide +kernel
theorem dX0_pairsLeft_12 : decode cX0_pairsLeft 12 = .ok (.iload_n 2, 1) := by decide +kernel
theorem dX0_pairsLeft_13 : decode cX0_pairsLeft 13 = .ok (.invokevirtual 65, 3) := by decide +kernel
theorem dX0_pairsLeft_16 : decode cX0_pairsLeft 16 = .ok (.ifCond .eq 21, 3) := by decide +kernel
theorem dX0_pairsLeft_19 : decode cX0_pairsLeft 19 = .ok (.aload_n 0, 1) := by decide +kernel
theorem dX0_pairsLeft_20 : decode cX0_pairsLeft 20 = .ok (.getfield 26, 3) := by decide +kernel
theorem dX0_pairsLeft_23 : decode cX0_pairsLeft 23 = .ok (.iload_n 2, 1) := by decide +kernel
theorem dX0_pairsLeft_24 : decode cX0_pairsLeft 24 = .ok (.iaload, 1) := by decide +kernel
theorem dX0_pairsLeft_25 : decode cX0_pairsLeft 25 = .ok (.aload_n 0, 1) := by decide +kernel
theorem dX0_pairsLeft_26 : decode cX0_pairsLeft 26 = .ok (.getfield 23, 3) := by decide +kernel
theorem dX0_pairsLeft_29 : decode cX0_pairsLeft 29 = .ok (.iload_n 2, 1) := by decide +kernel
theorem dX0_pairsLeft_30 : decode cX0_pairsLeft 30 = .ok (.iaload, 1) := by decide +kernel
theorem dX0_pairsLeft_31 : decode cX0_pairsLeft 31 = .ok (.isub, 1) := by decide +kernel
theorem dX0_pairsLeft_32 : decode cX0_pairsLeft 32 = .ok (.iconst 1, 1) := by decide +kernel
theorem dX0_pairsLeft_33 : decode cX0_pairsLeft 33 = .ok (.iadd, 1) := by decide +kernel
theorem dX0_pairsLeft_34 : decode cX0_pairsLeft 34 = .ok (.goto 4, 3) := by decide +kernel
theorem dX0_pairsLeft_37 : decode cX0_pairsLeft 37 = .ok (.iconst 0, 1) := by decide +kernel
theorem dX0_pairsLeft_38 : decode cX0_pairsLeft 38 = .ok (.iadd, 1) := by decide +kernel
theorem dX0_pairsLeft_39 : decode cX0_pairsLeft 39 = .ok (.istore_n 1, 1) := by decide +kernel
theorem dX0_pairsLeft_40 : decode cX0_pairsLeft 40 = .ok (.iinc 2 1, 3) := by decide +kernel
theorem dX0_pairsLeft_43 : decode cX0_pairsLeft 43 = .ok (.goto (-39), 3) := by decide +kernel
theorem dX0_pairsLeft_46 : decode cX0_pairsLeft 46 = .ok (.iload_n 1, 1) := by decide +kernel
theorem dX0_pairsLeft_47 : decode cX0_pairsLeft 47 = .ok (.ireturn, 1) := by decide +kernel
theorem dX0_places_0 : decode cX0_places 0 = .ok (.aload_n 0, 1) := by decide +kernel
theorem dX0_places_1 : decode cX0_places 1 = .ok (.getfield 11, 3) := by decide +kernel
theorem dX0_places_4 : decode cX0_places 4 = .ok (.iload_n 1, 1) := by decide +kernel
theorem dX0_places_5 : decode cX0_places 5 = .ok (.iaload, 1) := by decide +kernel
theorem dX0_places_6 : decode cX0_places 6 = .ok (.bipush (-9), 2) := by decide +kernel
theorem dX0_places_8 : decode cX0_places 8 = .ok (.if_icmp .eq 14, 3) := by decide +kernel
theorem dX0_places_11 : decode cX0_places 11 = .ok (.aload_n 0, 1) := by decide +kernel
theorem dX0_places_12 : decode cX0_places 12 = .ok (.invokevirtual 69, 3) := by decide +kernel
theorem dX0_places_15 : decode cX0_places 15 = .ok (.ifCond .le 7, 3) := by decide +kernel
theorem dX0_places_18 : decode cX0_places 18 = .ok (.iconst 1, 1) := by decide +kernel
theorem dX0_places_19 : decode cX0_places 19 = .ok (.goto 4, 3) := by decide +kernel
theorem dX0_places_22 : decode cX0_places 22 = .ok (.iconst 0, 1) := by decide +kernel
theorem dX0_places_23 : decode cX0_places 23 = .ok (.ireturn, 1) := by decide +kernel
theorem dX0_leastPlace_0 : decode cX0_leastPlace 0 = .ok (.ldc 74, 2) := by decide +kernel
theorem dX0_leastPlace_2 : decode cX0_leastPlace 2 = .ok (.istore_n 2, 1) := by decide +kernel
theorem dX0_leastPlace_3 : decode cX0_leastPlace 3 = .ok (.iconst 0, 1) := by decide +kernel
theorem dX0_leastPlace_4 : decode cX0_leastPlace 4 = .ok (.istore_n 3, 1) := by decide +kernel
theorem dX0_leastPlace_5 : decode cX0_leastPlace 5 = .ok (.iload_n 3, 1) := by decide +kernel
theorem dX0_leastPlace_6 : decode cX0_leastPlace 6 = .ok (.bipush 31, 2) := by decide +kernel
theorem dX0_leastPlace_8 : decode cX0_leastPlace 8 = .ok (.if_icmp .ge 35, 3) := by decide +kernel
theorem dX0_leastPlace_11 : decode cX0_leastPlace 11 = .ok (.aload_n 0, 1) := by decide +kernel
theorem dX0_leastPlace_12 : decode cX0_leastPlace 12 = .ok (.iload_n 3, 1) := by decide +kernel
theorem dX0_leastPlace_13 : decode cX0_leastPlace 13 = .ok (.invokevirtual 65, 3) := by decide +kernel
theorem dX0_leastPlace_16 : decode cX0_leastPlace 16 = .ok (.ifCond .eq 21, 3) := by decide +kernel
theorem dX0_leastPlace_19 : decode cX0_leastPlace 19 = .ok (.iload_n 2, 1) := by decide +kernel
theorem dX0_leastPlace_20 : decode cX0_leastPlace 20 = .ok (.aload_n 0, 1) := by decide +kernel
theorem dX0_leastPlace_21 : decode cX0_leastPlace 21 = .ok (.iload_n 3, 1) := by decide +kernel
theorem dX0_leastPlace_22 : decode cX0_leastPlace 22 = .ok (.iload_n 1, 1) := by decide +kernel
theorem dX0_leastPlace_23 : decode cX0_leastPlace 23 = .ok (.invokevirtual 48, 3) := by decide +kernel
theorem dX0_leastPlace_26 : decode cX0_leastPlace 26 = .ok (.aload_n 0, 1) := by decide +kernel
theorem dX0_leastPlace_27 : decode cX0_leastPlace 27 = .ok (.getfield 23, 3) := by decide +kernel
theorem dX0_leastPlace_30 : decode cX0_leastPlace 30 = .ok (.iload_n 3, 1) := by decide +kernel
theorem dX0_leastPlace_31 : decode cX0_leastPlace 31 = .ok (.iaload, 1) := by decide +kernel
theorem dX0_leastPlace_32 : decode cX0_leastPlace 32 = .ok (.iadd, 1) := by decide +kernel
theorem dX0_leastPlace_33 : decode cX0_leastPlace 33 = .ok (.invokestatic 56, 3) := by decide +kernel
theorem dX0_leastPlace_36 : decode cX0_leastPlace 36 = .ok (.istore_n 2, 1) := by decide +kernel
theorem dX0_leastPlace_37 : decode cX0_leastPlace 37 = .ok (.iinc 3 1, 3) := by decide +kernel
theorem dX0_leastPlace_40 : decode cX0_leastPlace 40 = .ok (.goto (-35), 3) := by decide +kernel
theorem dX0_leastPlace_43 : decode cX0_leastPlace 43 = .ok (.iload_n 2, 1) := by decide +kernel
theorem dX0_leastPlace_44 : decode cX0_leastPlace 44 = .ok (.ireturn, 1) := by decide +kernel
theorem dX0_greatestPlace_0 : decode cX0_greatestPlace 0 = .ok (.ldc 75, 2) := by decide +kernel
theorem dX0_greatestPlace_2 : decode cX0_greatestPlace 2 = .ok (.istore_n 2, 1) := by decide +kernel
theorem dX0_greatestPlace_3 : decode cX0_greatestPlace 3 = .ok (.iconst 0, 1) := by decide +kernel
theorem dX0_greatestPlace_4 : decode cX0_greatestPlace 4 = .ok (.istore_n 3, 1) := by decide +kernel
theorem dX0_greatestPlace_5 : decode cX0_greatestPlace 5 = .ok (.iload_n 3, 1) := by decide +kernel
theorem dX0_greatestPlace_6 : decode cX0_greatestPlace 6 = .ok (.bipush 31, 2) := by decide +kernel
theorem dX0_greatestPlace_8 : decode cX0_greatestPlace 8 = .ok (.if_icmp .ge 35, 3) := by decide +kernel
theorem dX0_greatestPlace_11 : decode cX0_greatestPlace 11 = .ok (.aload_n 0, 1) := by decide +kernel
theorem dX0_greatestPlace_12 : decode cX0_greatestPlace 12 = .ok (.iload_n 3, 1) := by decide +kernel
theorem dX0_greatestPlace_13 : decode cX0_greatestPlace 13 = .ok (.invokevirtual 65, 3) := by decide +kernel
theorem dX0_greatestPlace_16 : decode cX0_greatestPlace 16 = .ok (.ifCond .eq 21, 3) := by decide +kernel
theorem dX0_greatestPlace_19 : decode cX0_greatestPlace 19 = .ok (.iload_n 2, 1) := by decide +kernel
theorem dX0_greatestPlace_20 : decode cX0_greatestPlace 20 = .ok (.aload_n 0, 1) := by decide +kernel
theorem dX0_greatestPlace_21 : decode cX0_greatestPlace 21 = .ok (.iload_n 3, 1) := by decide +kernel
theorem dX0_greatestPlace_22 : decode cX0_greatestPlace 22 = .ok (.iload_n 1, 1) := by decide +kernel
theorem dX0_greatestPlace_23 : decode cX0_greatestPlace 23 = .ok (.invokevirtual 48, 3) := by decide +kernel
theorem dX0_greatestPlace_26 : decode cX0_greatestPlace 26 = .ok (.aload_n 0, 1) := by decide +kernel
theorem dX0_greatestPlace_27 : decode cX0_greatestPlace 27 = .ok (.getfield 26, 3) := by decide +kernel
theorem dX0_greatestPlace_30 : decode cX0_greatestPlace 30 = .ok (.iload_n 3, 1) := by decide +kernel
theorem dX0_greatestPlace_31 : decode cX0_greatestPlace 31 = .ok (.iaload, 1) := by decide +kernel
theorem dX0_greatestPlace_32 : decode cX0_greatestPlace 32 = .ok (.iadd, 1) := by decide +kernel
theorem dX0_greatestPlace_33 : decode cX0_greatestPlace 33 = .ok (.invokestatic 51, 3) := by decide +kernel
theorem dX0_greatestPlace_36 : decode cX0_greatestPlace 36 = .ok (.istore_n 2, 1) := by decide +kernel
theorem dX0_greatestPlace_37 : decode cX0_greatestPlace 37 = .ok (.iinc 3 1, 3) := by decide +kernel
theorem dX0_greatestPlace_40 : decode cX0_greatestPlace 40 = .ok (.goto (-35), 3) := by decide +kernel
theorem dX0_greatestPlace_43 : decode cX0_greatestPlace 43 = .ok (.iload_n 2, 1) := by decide +kernel
theorem dX0_greatestPlace_44 : decode cX0_greatestPlace 44 = .ok (.ireturn, 1) := by decide +kernel
theorem dX0_widestHook_0 : decode cX0_widestHook 0 = .ok (.bipush (-9), 2) := by decide +kernel
theorem dX0_widestHook_2 : decode cX0_widestHook 2 = .ok (.istore_n 1, 1) := by decide +kernel
theorem dX0_widestHook_3 : decode cX0_widestHook 3 = .ok (.iconst (-1), 1) := by decide +kernel
theorem dX0_widestHook_4 : decode cX0_widestHook 4 = .ok (.istore_n 2, 1) := by decide +kernel
theorem dX0_widestHook_5 : decode cX0_widestHook 5 = .ok (.iconst 0, 1) := by decide +kernel
theorem dX0_widestHook_6 : decode cX0_widestHook 6 = .ok (.istore_n 3, 1) := by decide +kernel
theorem dX0_widestHook_7 : decode cX0_widestHook 7 = .ok (.iload_n 3, 1) := by decide +kernel
theorem dX0_widestHook_8 : decode cX0_widestHook 8 = .ok (.aload_n 0, 1) := by decide +kernel
theorem dX0_widestHook_9 : decode cX0_widestHook 9 = .ok (.getfield 11, 3) := by decide +kernel
theorem dX0_widestHook_12 : decode cX0_widestHook 12 = .ok (.arraylength, 1) := by decide +kernel
theorem dX0_widestHook_13 : decode cX0_widestHook 13 = .ok (.if_icmp .ge 45, 3) := by decide +kernel
theorem dX0_widestHook_16 : decode cX0_widestHook 16 = .ok (.aload_n 0, 1) := by decide +kernel
theorem dX0_widestHook_17 : decode cX0_widestHook 17 = .ok (.iload_n 3, 1) := by decide +kernel
theorem dX0_widestHook_18 : decode cX0_widestHook 18 = .ok (.invokevirtual 76, 3) := by decide +kernel
theorem dX0_widestHook_21 : decode cX0_widestHook 21 = .ok (.ifCond .eq 17, 3) := by decide +kernel
theorem dX0_widestHook_24 : decode cX0_widestHook 24 = .ok (.aload_n 0, 1) := by decide +kernel
theorem dX0_widestHook_25 : decode cX0_widestHook 25 = .ok (.iload_n 3, 1) := by decide +kernel
theorem dX0_widestHook_26 : decode cX0_widestHook 26 = .ok (.invokevirtual 79, 3) := by decide +kernel
theorem dX0_widestHook_29 : decode cX0_widestHook 29 = .ok (.aload_n 0, 1) := by decide +kernel
theorem dX0_widestHook_30 : decode cX0_widestHook 30 = .ok (.iload_n 3, 1) := by decide +kernel
theorem dX0_widestHook_31 : decode cX0_widestHook 31 = .ok (.invokevirtual 83, 3) := by decide +kernel
theorem dX0_widestHook_34 : decode cX0_widestHook 34 = .ok (.isub, 1) := by decide +kernel
theorem dX0_widestHook_35 : decode cX0_widestHook 35 = .ok (.goto 4, 3) := by decide +kernel
theorem dX0_widestHook_38 : decode cX0_widestHook 38 = .ok (.iconst (-1), 1) := by decide +kernel
theorem dX0_widestHook_39 : decode cX0_widestHook 39 = .ok (.istore 4, 2) := by decide +kernel
theorem dX0_widestHook_41 : decode cX0_widestHook 41 = .ok (.iload 4, 2) := by decide +kernel
theorem dX0_widestHook_43 : decode cX0_widestHook 43 = .ok (.iload_n 2, 1) := by decide +kernel
theorem dX0_widestHook_44 : decode cX0_widestHook 44 = .ok (.if_icmp .le 8, 3) := by decide +kernel
theorem dX0_widestHook_47 : decode cX0_widestHook 47 = .ok (.iload 4, 2) := by decide +kernel
theorem dX0_widestHook_49 : decode cX0_widestHook 49 = .ok (.istore_n 2, 1) := by decide +kernel
theorem dX0_widestHook_50 : decode cX0_widestHook 50 = .ok (.iload_n 3, 1) := by decide +kernel
theorem dX0_widestHook_51 : decode cX0_widestHook 51 = .ok (.istore_n 1, 1) := by decide +kernel
theorem dX0_widestHook_52 : decode cX0_widestHook 52 = .ok (.iinc 3 1, 3) := by decide +kernel
theorem dX0_widestHook_55 : decode cX0_widestHook 55 = .ok (.goto (-48), 3) := by decide +kernel
theorem dX0_widestHook_58 : decode cX0_widestHook 58 = .ok (.iload_n 1, 1) := by decide +kernel
theorem dX0_widestHook_59 : decode cX0_widestHook 59 = .ok (.ireturn, 1) := by decide +kernel
theorem dX0_farthestMiss_0 : decode cX0_farthestMiss 0 = .ok (.aload_n 0, 1) := by decide +kernel
theorem dX0_farthestMiss_1 : decode cX0_farthestMiss 1 = .ok (.iload_n 1, 1) := by decide +kernel
theorem dX0_farthestMiss_2 : decode cX0_farthestMiss 2 = .ok (.invokevirtual 83, 3) := by decide +kernel
theorem dX0_farthestMiss_5 : decode cX0_farthestMiss 5 = .ok (.iload_n 2, 1) := by decide +kernel
theorem dX0_farthestMiss_6 : decode cX0_farthestMiss 6 = .ok (.isub, 1) := by decide +kernel
theorem dX0_farthestMiss_7 : decode cX0_farthestMiss 7 = .ok (.invokestatic 86, 3) := by decide +kernel
theorem dX0_farthestMiss_10 : decode cX0_farthestMiss 10 = .ok (.aload_n 0, 1) := by decide +kernel
theorem dX0_farthestMiss_11 : decode cX0_farthestMiss 11 = .ok (.iload_n 1, 1) := by decide +kernel
theorem dX0_farthestMiss_12 : decode cX0_farthestMiss 12 = .ok (.invokevirtual 79, 3) := by decide +kernel
theorem dX0_farthestMiss_15 : decode cX0_farthestMiss 15 = .ok (.iload_n 2, 1) := by decide +kernel
theorem dX0_farthestMiss_16 : decode cX0_farthestMiss 16 = .ok (.isub, 1) := by decide +kernel
theorem dX0_farthestMiss_17 : decode cX0_farthestMiss 17 = .ok (.invokestatic 86, 3) := by decide +kernel
theorem dX0_farthestMiss_20 : decode cX0_farthestMiss 20 = .ok (.invokestatic 51, 3) := by decide +kernel
theorem dX0_farthestMiss_23 : decode cX0_farthestMiss 23 = .ok (.ireturn, 1) := by decide +kernel
theorem dX0_surestHook_0 : decode cX0_surestHook 0 = .ok (.bipush (-9), 2) := by decide +kernel
theorem dX0_surestHook_2 : decode cX0_surestHook 2 = .ok (.istore_n 2, 1) := by decide +kernel
theorem dX0_surestHook_3 : decode cX0_surestHook 3 = .ok (.ldc 74, 2) := by decide +kernel
theorem dX0_surestHook_5 : decode cX0_surestHook 5 = .ok (.istore_n 3, 1) := by decide +kernel
theorem dX0_surestHook_6 : decode cX0_surestHook 6 = .ok (.iconst 0, 1) := by decide +kernel
theorem dX0_surestHook_7 : decode cX0_surestHook 7 = .ok (.istore 4, 2) := by decide +kernel
theorem dX0_surestHook_9 : decode cX0_surestHook 9 = .ok (.iload 4, 2) := by decide +kernel
theorem dX0_surestHook_11 : decode cX0_surestHook 11 = .ok (.aload_n 0, 1) := by decide +kernel
theorem dX0_surestHook_12 : decode cX0_surestHook 12 = .ok (.getfield 11, 3) := by decide +kernel
theorem dX0_surestHook_15 : decode cX0_surestHook 15 = .ok (.arraylength, 1) := by decide +kernel
theorem dX0_surestHook_16 : decode cX0_surestHook 16 = .ok (.if_icmp .ge 44, 3) := by decide +kernel
theorem dX0_surestHook_19 : decode cX0_surestHook 19 = .ok (.aload_n 0, 1) := by decide +kernel
theorem dX0_surestHook_20 : decode cX0_surestHook 20 = .ok (.iload 4, 2) := by decide +kernel
theorem dX0_surestHook_22 : decode cX0_surestHook 22 = .ok (.invokevirtual 76, 3) := by decide +kernel
theorem dX0_surestHook_25 : decode cX0_surestHook 25 = .ok (.ifCond .eq 13, 3) := by decide +kernel
theorem dX0_surestHook_28 : decode cX0_surestHook 28 = .ok (.aload_n 0, 1) := by decide +kernel
theorem dX0_surestHook_29 : decode cX0_surestHook 29 = .ok (.iload 4, 2) := by decide +kernel
theorem dX0_surestHook_31 : decode cX0_surestHook 31 = .ok (.iload_n 1, 1) := by decide +kernel
theorem dX0_surestHook_32 : decode cX0_surestHook 32 = .ok (.invokevirtual 89, 3) := by decide +kernel
theorem dX0_surestHook_35 : decode cX0_surestHook 35 = .ok (.goto 5, 3) := by decide +kernel
theorem dX0_surestHook_38 : decode cX0_surestHook 38 = .ok (.ldc 74, 2) := by decide +kernel
theorem dX0_surestHook_40 : decode cX0_surestHook 40 = .ok (.istore 5, 2) := by decide +kernel
theorem dX0_surestHook_42 : decode cX0_surestHook 42 = .ok (.iload 5, 2) := by decide +kernel
theorem dX0_surestHook_44 : decode cX0_surestHook 44 = .ok (.iload_n 3, 1) := by decide +kernel
theorem dX0_surestHook_45 : decode cX0_surestHook 45 = .ok (.if_icmp .ge 9, 3) := by decide +kernel
theorem dX0_surestHook_48 : decode cX0_surestHook 48 = .ok (.iload 5, 2) := by decide +kernel
theorem dX0_surestHook_50 : decode cX0_surestHook 50 = .ok (.istore_n 3, 1) := by decide +kernel
theorem dX0_surestHook_51 : decode cX0_surestHook 51 = .ok (.iload 4, 2) := by decide +kernel
theorem dX0_surestHook_53 : decode cX0_surestHook 53 = .ok (.istore_n 2, 1) := by decide +kernel
theorem dX0_surestHook_54 : decode cX0_surestHook 54 = .ok (.iinc 4 1, 3) := by decide +kernel
theorem dX0_surestHook_57 : decode cX0_surestHook 57 = .ok (.goto (-48), 3) := by decide +kernel
theorem dX0_surestHook_60 : decode cX0_surestHook 60 = .ok (.iload_n 2, 1) := by decide +kernel
theorem dX0_surestHook_61 : decode cX0_surestHook 61 = .ok (.ireturn, 1) := by decide +kernel
theorem dX1_init_0 : decode cX1_init 0 = .ok (.aload_n 0, 1) := by decide +kernel
theorem dX1_init_1 : decode cX1_init 1 = .ok (.invokespecial 5, 3) := by decide +kernel
theorem dX1_init_4 : decode cX1_init 4 = .ok (.aload_n 0, 1) := by decide +kernel
theorem dX1_init_5 : decode cX1_init 5 = .ok (.bipush 9, 2) := by decide +kernel
theorem dX1_init_7 : decode cX1_init 7 = .ok (.newarray .int, 2) := by decide +kernel
theorem dX1_init_9 : decode cX1_init 9 = .ok (.dup, 1) := by decide +kernel
theorem dX1_init_10 : decode cX1_init 10 = .ok (.iconst 0, 1) := by decide +kernel
theorem dX1_init_11 : decode cX1_init 11 = .ok (.bipush 12, 2) := by decide +kernel
theorem dX1_init_13 : decode cX1_init 13 = .ok (.iastore, 1) := by decide +kernel
theorem dX1_init_14 : decode cX1_init 14 = .ok (.dup, 1) := by decide +kernel
theorem dX1_init_15 : decode cX1_init 15 = .ok (.iconst 1, 1) := by decide +kernel
theorem dX1_init_16 : decode cX1_init 16 = .ok (.bipush 60, 2) := by decide +kernel
theorem dX1_init_18 : decode cX1_init 18 = .ok (.iastore, 1) := by decide +kernel
theorem dX1_init_19 : decode cX1_init 19 = .ok (.dup, 1) := by decide +kernel
theorem dX1_init_20 : decode cX1_init 20 = .ok (.iconst 2, 1) := by decide +kernel
theorem dX1_init_21 : decode cX1_init 21 = .ok (.sipush 4000, 3) := by decide +kernel
theorem dX1_init_24 : decode cX1_init 24 = .ok (.iastore, 1) := by decide +kernel
theorem dX1_init_25 : decode cX1_init 25 = .ok (.dup, 1) := by decide +kernel
theorem dX1_init_26 : decode cX1_init 26 = .ok (.iconst 3, 1) := by decide +kernel
theorem dX1_init_27 : decode cX1_init 27 = .ok (.bipush 50, 2) := by decide +kernel
theorem dX1_init_29 : decode cX1_init 29 = .ok (.iastore, 1) := by decide +kernel
theorem dX1_init_30 : decode cX1_init 30 = .ok (.dup, 1) := by decide +kernel
theorem dX1_init_31 : decode cX1_init 31 = .ok (.iconst 4, 1) := by decide +kernel
theorem dX1_init_32 : decode cX1_init 32 = .ok (.bipush 30, 2) := by decide +kernel
theorem dX1_init_34 : decode cX1_init 34 = .ok (.iastore, 1) := by decide +kernel
theorem dX1_init_35 : decode cX1_init 35 = .ok (.dup, 1) := by decide +kernel
theorem dX1_init_36 : decode cX1_init 36 = .ok (.iconst 5, 1) := by decide +kernel
theorem dX1_init_37 : decode cX1_init 37 = .ok (.bipush 40, 2) := by decide +kernel
theorem dX1_init_39 : decode cX1_init 39 = .ok (.iastore, 1) := by decide +kernel
theorem dX1_init_40 : decode cX1_init 40 = .ok (.dup, 1) := by decide +kernel
theorem dX1_init_41 : decode cX1_init 41 = .ok (.bipush 6, 2) := by decide +kernel
theorem dX1_init_43 : decode cX1_init 43 = .ok (.bipush 100, 2) := by decide +kernel
theorem dX1_init_45 : decode cX1_init 45 = .ok (.iastore, 1) := by decide +kernel
theorem dX1_init_46 : decode cX1_init 46 = .ok (.dup, 1) := by decide +kernel
theorem dX1_init_47 : decode cX1_init 47 = .ok (.bipush 7, 2) := by decide +kernel
theorem dX1_init_49 : decode cX1_init 49 = .ok (.bipush 50, 2) := by decide +kernel
theorem dX1_init_51 : decode cX1_init 51 = .ok (.iastore, 1) := by decide +kernel
theorem dX1_init_52 : decode cX1_init 52 = .ok (.dup, 1) := by decide +kernel
theorem dX1_init_53 : decode cX1_init 53 = .ok (.bipush 8, 2) := by decide +kernel
theorem dX1_init_55 : decode cX1_init 55 = .ok (.iconst 0, 1) := by decide +kernel
theorem dX1_init_56 : decode cX1_init 56 = .ok (.iastore, 1) := by decide +kernel
theorem dX1_init_57 : decode cX1_init 57 = .ok (.putfield 11, 3) := by decide +kernel
theorem dX1_init_60 : decode cX1_init 60 = .ok (.aload_n 0, 1) := by decide +kernel
theorem dX1_init_61 : decode cX1_init 61 = .ok (.sipush 161, 3) := by decide +kernel
theorem dX1_init_64 : decode cX1_init 64 = .ok (.newarray .int, 2) := by decide +kernel
theorem dX1_init_66 : decode cX1_init 66 = .ok (.putfield 15, 3) := by decide +kernel
theorem dX1_init_69 : decode cX1_init 69 = .ok (.aload_n 0, 1) := by decide +kernel
theorem dX1_init_70 : decode cX1_init 70 = .ok (.bipush 7, 2) := by decide +kernel
theorem dX1_init_72 : decode cX1_init 72 = .ok (.newarray .int, 2) := by decide +kernel
theorem dX1_init_74 : decode cX1_init 74 = .ok (.putfield 18, 3) := by decide +kernel
theorem dX1_init_77 : decode cX1_init 77 = .ok (.aload_n 0, 1) := by decide +kernel
theorem dX1_init_78 : decode cX1_init 78 = .ok (.iconst 3, 1) := by decide +kernel
theorem dX1_init_79 : decode cX1_init 79 = .ok (.newarray .int, 2) := by decide +kernel
theorem dX1_init_81 : decode cX1_init 81 = .ok (.putfield 21, 3) := by decide +kernel
theorem dX1_init_84 : decode cX1_init 84 = .ok (.aload_n 0, 1) := by decide +kernel
theorem dX1_init_85 : decode cX1_init 85 = .ok (.invokevirtual 24, 3) := by decide +kernel
theorem dX1_init_88 : decode cX1_init 88 = .ok (.return_, 1) := by decide +kernel
theorem dX1_takes_0 : decode cX1_takes 0 = .ok (.iload_n 1, 1) := by decide +kernel
theorem dX1_takes_1 : decode cX1_takes 1 = .ok (.iconst 0, 1) := by decide +kernel
theorem dX1_takes_2 : decode cX1_takes 2 = .ok (.bipush 8, 2) := by decide +kernel
theorem dX1_takes_4 : decode cX1_takes 4 = .ok (.invokestatic 27, 3) := by decide +kernel
theorem dX1_takes_7 : decode cX1_takes 7 = .ok (.ifCond .eq 24, 3) := by decide +kernel
theorem dX1_takes_10 : decode cX1_takes 10 = .ok (.iload_n 2, 1) := by decide +kernel
theorem dX1_takes_11 : decode cX1_takes 11 = .ok (.getstatic 31, 3) := by decide +kernel
theorem dX1_takes_14 : decode cX1_takes 14 = .ok (.iload_n 1, 1) := by decide +kernel
theorem dX1_takes_15 : decode cX1_takes 15 = .ok (.iaload, 1) := by decide +kernel
theorem dX1_takes_16 : decode cX1_takes 16 = .ok (.getstatic 34, 3) := by decide +kernel
theorem dX1_takes_19 : decode cX1_takes 19 = .ok (.iload_n 1, 1) := by decide +kernel
theorem dX1_takes_20 : decode cX1_takes 20 = .ok (.iaload, 1) := by decide +kernel
theorem dX1_takes_21 : decode cX1_takes 21 = .ok (.invokestatic 27, 3) := by decide +kernel
theorem dX1_takes_24 : decode cX1_takes 24 = .ok (.ifCond .eq 7, 3) := by decide +kernel
theorem dX1_takes_27 : decode cX1_takes 27 = .ok (.iconst 1, 1) := by decide +kernel
theorem dX1_takes_28 : decode cX1_takes 28 = .ok (.goto 4, 3) := by decide +kernel
theorem dX1_takes_31 : decode cX1_takes 31 = .ok (.iconst 0, 1) := by decide +kernel
theorem dX1_takes_32 : decode cX1_takes 32 = .ok (.ireturn, 1) := by decide +kernel
theorem dX1_put_0 : decode cX1_put 0 = .ok (.aload_n 0, 1) := by decide +kernel
theorem dX1_put_1 : decode cX1_put 1 = .ok (.iload_n 1, 1) := by decide +kernel
theorem dX1_put_2 : decode cX1_put 2 = .ok (.iload_n 2, 1) := by decide +kernel
theorem dX1_put_3 : decode cX1_put 3 = .ok (.invokevirtual 37, 3) := by decide +kernel
theorem dX1_put_6 : decode cX1_put 6 = .ok (.ifCond .ne 5, 3) := by decide +kernel
theorem dX1_put_9 : decode cX1_put 9 = .ok (.iconst (-1), 1) := by decide +kernel
theorem dX1_put_10 : decode cX1_put 10 = .ok (.ireturn, 1) := by decide +kernel
theorem dX1_put_11 : decode cX1_put 11 = .ok (.aload_n 0, 1) := by decide +kernel
theorem dX1_put_12 : decode cX1_put 12 = .ok (.getfield 11, 3) := by decide +kernel
theorem dX1_put_15 : decode cX1_put 15 = .ok (.iload_n 1, 1) := by decide +kernel
theorem dX1_put_16 : decode cX1_put 16 = .ok (.iaload, 1) := by decide +kernel
theorem dX1_put_17 : decode cX1_put 17 = .ok (.istore_n 3, 1) := by decide +kernel
theorem dX1_put_18 : decode cX1_put 18 = .ok (.aload_n 0, 1) := by decide +kernel
theorem dX1_put_19 : decode cX1_put 19 = .ok (.getfield 11, 3) := by decide +kernel
theorem dX1_put_22 : decode cX1_put 22 = .ok (.iload_n 1, 1) := by decide +kernel
theorem dX1_put_23 : decode cX1_put 23 = .ok (.iload_n 2, 1) := by decide +kernel
theorem dX1_put_24 : decode cX1_put 24 = .ok (.iastore, 1) := by decide +kernel
theorem dX1_put_25 : decode cX1_put 25 = .ok (.aload_n 0, 1) := by decide +kernel
theorem dX1_put_26 : decode cX1_put 26 = .ok (.invokevirtual 24, 3) := by decide +kernel
theorem dX1_put_29 : decode cX1_put 29 = .ok (.iload_n 3, 1) := by decide +kernel
theorem dX1_put_30 : decode cX1_put 30 = .ok (.ireturn, 1) := by decide +kernel
theorem dX1_putWind_0 : decode cX1_putWind 0 = .ok (.aload_n 0, 1) := by decide +kernel
theorem dX1_putWind_1 : decode cX1_putWind 1 = .ok (.getfield 41, 3) := by decide +kernel
theorem dX1_putWind_4 : decode cX1_putWind 4 = .ok (.istore_n 2, 1) := by decide +kernel
theorem dX1_putWind_5 : decode cX1_putWind 5 = .ok (.aload_n 0, 1) := by decide +kernel
theorem dX1_putWind_6 : decode cX1_putWind 6 = .ok (.iload_n 1, 1) := by decide +kernel
theorem dX1_putWind_7 : decode cX1_putWind 7 = .ok (.putfield 41, 3) := by decide +kernel
theorem dX1_putWind_10 : decode cX1_putWind 10 = .ok (.iload_n 2, 1) := by decide +kernel
theorem dX1_putWind_11 : decode cX1_putWind 11 = .ok (.ireturn, 1) := by decide +kernel
theorem dX1_turnBeam_0 : decode cX1_turnBeam 0 = .ok (.aload_n 0, 1) := by decide +kernel
theorem dX1_turnBeam_1 : decode cX1_turnBeam 1 = .ok (.getfield 11, 3) := by decide +kernel
theorem dX1_turnBeam_4 : decode cX1_turnBeam 4 = .ok (.iconst 2, 1) := by decide +kernel
theorem dX1_turnBeam_5 : decode cX1_turnBeam 5 = .ok (.iaload, 1) := by decide +kernel
theorem dX1_turnBeam_6 : decode cX1_turnBeam 6 = .ok (.i2l, 1) := by decide +kernel
theorem dX1_turnBeam_7 : decode cX1_turnBeam 7 = .ok (.aload_n 0, 1) := by decide +kernel
theorem dX1_turnBeam_8 : decode cX1_turnBeam 8 = .ok (.getfield 11, 3) := by decide +kernel
theorem dX1_turnBeam_11 : decode cX1_turnBeam 11 = .ok (.iconst 0, 1) := by decide +kernel
theorem dX1_turnBeam_12 : decode cX1_turnBeam 12 = .ok (.iaload, 1) := by decide +kernel
theorem dX1_turnBeam_13 : decode cX1_turnBeam 13 = .ok (.i2l, 1) := by decide +kernel
theorem dX1_turnBeam_14 : decode cX1_turnBeam 14 = .ok (.lmul, 1) := by decide +kernel
theorem dX1_turnBeam_15 : decode cX1_turnBeam 15 = .ok (.aload_n 0, 1) := by decide +kernel
theorem dX1_turnBeam_16 : decode cX1_turnBeam 16 = .ok (.getfield 11, 3) := by decide +kernel
theorem dX1_turnBeam_19 : decode cX1_turnBeam 19 = .ok (.bipush 7, 2) := by decide +kernel
theorem dX1_turnBeam_21 : decode cX1_turnBeam 21 = .ok (.iaload, 1) := by decide +kernel
theorem dX1_turnBeam_22 : decode cX1_turnBeam 22 = .ok (.i2l, 1) := by decide +kernel
theorem dX1_turnBeam_23 : decode cX1_turnBeam 23 = .ok (.aload_n 0, 1) := by decide +kernel
theorem dX1_turnBeam_24 : decode cX1_turnBeam 24 = .ok (.getfield 11, 3) := by decide +kernel
theorem dX1_turnBeam_27 : decode cX1_turnBeam 27 = .ok (.iconst 1, 1) := by decide +kernel
theorem dX1_turnBeam_28 : decode cX1_turnBeam 28 = .ok (.iaload, 1) := by decide +kernel
theorem dX1_turnBeam_29 : decode cX1_turnBeam 29 = .ok (.i2l, 1) := by decide +kernel
theorem dX1_turnBeam_30 : decode cX1_turnBeam 30 = .ok (.lmul, 1) := by decide +kernel
theorem dX1_turnBeam_31 : decode cX1_turnBeam 31 = .ok (.lsub, 1) := by decide +kernel
theorem dX1_turnBeam_32 : decode cX1_turnBeam 32 = .ok (.lstore_n 1, 1) := by decide +kernel
theorem dX1_turnBeam_33 : decode cX1_turnBeam 33 = .ok (.aload_n 0, 1) := by decide +kernel
theorem dX1_turnBeam_34 : decode cX1_turnBeam 34 = .ok (.getfield 11, 3) := by decide +kernel
theorem dX1_turnBeam_37 : decode cX1_turnBeam 37 = .ok (.iconst 5, 1) := by decide +kernel
theorem dX1_turnBeam_38 : decode cX1_turnBeam 38 = .ok (.iaload, 1) := by decide +kernel
theorem dX1_turnBeam_39 : decode cX1_turnBeam 39 = .ok (.invokestatic 45, 3) := by decide +kernel
theorem dX1_turnBeam_42 : decode cX1_turnBeam 42 = .ok (.istore_n 3, 1) := by decide +kernel
theorem dX1_turnBeam_43 : decode cX1_turnBeam 43 = .ok (.aload_n 0, 1) := by decide +kernel
theorem dX1_turnBeam_44 : decode cX1_turnBeam 44 = .ok (.sipush 161, 3) := by decide +kernel
theorem dX1_turnBeam_47 : decode cX1_turnBeam 47 = .ok (.putfield 49, 3) := by decide +kernel
theorem dX1_turnBeam_50 : decode cX1_turnBeam 50 = .ok (.sipush 160, 3) := by decide +kernel
theorem dX1_turnBeam_53 : decode cX1_turnBeam 53 = .ok (.istore 4, 2) := by decide +kernel
theorem dX1_turnBeam_55 : decode cX1_turnBeam 55 = .ok (.iload 4, 2) := by decide +kernel
theorem dX1_turnBeam_57 : decode cX1_turnBeam 57 = .ok (.iconst 1, 1) := by decide +kernel
theorem dX1_turnBeam_58 : decode cX1_turnBeam 58 = .ok (.if_icmp .lt 71, 3) := by decide +kernel
theorem dX1_turnBeam_61 : decode cX1_turnBeam 61 = .ok (.iload 4, 2) := by decide +kernel
theorem dX1_turnBeam_63 : decode cX1_turnBeam 63 = .ok (.aload_n 0, 1) := by decide +kernel
theorem dX1_turnBeam_64 : decode cX1_turnBeam 64 = .ok (.getfield 11, 3) := by decide +kernel
theorem dX1_turnBeam_67 : decode cX1_turnBeam 67 = .ok (.iconst 5, 1) := by decide +kernel
theorem dX1_turnBeam_68 : decode cX1_turnBeam 68 = .ok (.iaload, 1) := by decide +kernel
theorem dX1_turnBeam_69 : decode cX1_turnBeam 69 = .ok (.isub, 1) := by decide +kernel
theorem dX1_turnBeam_70 : decode cX1_turnBeam 70 = .ok (.invokestatic 45, 3) := by decide +kernel
theorem dX1_turnBeam_73 : decode cX1_turnBeam 73 = .ok (.iload_n 3, 1) := by decide +kernel
theorem dX1_turnBeam_74 : decode cX1_turnBeam 74 = .ok (.iadd, 1) := by decide +kernel
theorem dX1_turnBeam_75 : decode cX1_turnBeam 75 = .ok (.istore 5, 2) := by decide +kernel
theorem dX1_turnBeam_77 : decode cX1_turnBeam 77 = .ok (.aload_n 0, 1) := by decide +kernel
theorem dX1_turnBeam_78 : decode cX1_turnBeam 78 = .ok (.getfield 15, 3) := by decide +kernel
theorem dX1_turnBeam_81 : decode cX1_turnBeam 81 = .ok (.iload 4, 2) := by decide +kernel
theorem dX1_turnBeam_83 : decode cX1_turnBeam 83 = .ok (.lload_n 1, 1) := by decide +kernel
theorem dX1_turnBeam_84 : decode cX1_turnBeam 84 = .ok (.iload 5, 2) := by decide +kernel
theorem dX1_turnBeam_86 : decode cX1_turnBeam 86 = .ok (.i2l, 1) := by decide +kernel
theorem dX1_turnBeam_87 : decode cX1_turnBeam 87 = .ok (.lmul, 1) := by decide +kernel
theorem dX1_turnBeam_88 : decode cX1_turnBeam 88 = .ok (.ldc2_w 52, 3) := by decide +kernel
theorem dX1_turnBeam_91 : decode cX1_turnBeam 91 = .ok (.invokestatic 54, 3) := by decide +kernel
theorem dX1_turnBeam_94 : decode cX1_turnBeam 94 = .ok (.l2i, 1) := by decide +kernel
theorem dX1_turnBeam_95 : decode cX1_turnBeam 95 = .ok (.aload_n 0, 1) := by decide +kernel
theorem dX1_turnBeam_96 : decode cX1_turnBeam 96 = .ok (.getfield 11, 3) := by decide +kernel
theorem dX1_turnBeam_99 : decode cX1_turnBeam 99 = .ok (.bipush 6, 2) := by decide +kernel
theorem dX1_turnBeam_101 : decode cX1_turnBeam 101 = .ok (.iaload, 1) := by decide +kernel
theorem dX1_turnBeam_102 : decode cX1_turnBeam 102 = .ok (.iload 4, 2) := by decide +kernel
theorem dX1_turnBeam_104 : decode cX1_turnBeam 104 = .ok (.imul, 1) := by decide +kernel
theorem dX1_turnBeam_105 : decode cX1_turnBeam 105 = .ok (.isub, 1) := by decide +kernel
theorem dX1_turnBeam_106 : decode cX1_turnBeam 106 = .ok (.iastore, 1) := by decide +kernel
theorem dX1_turnBeam_107 : decode cX1_turnBeam 107 = .ok (.aload_n 0, 1) := by decide +kernel
theorem dX1_turnBeam_108 : decode cX1_turnBeam 108 = .ok (.getfield 15, 3) := by decide +kernel
theorem dX1_turnBeam_111 : decode cX1_turnBeam 111 = .ok (.iload 4, 2) := by decide +kernel
theorem dX1_turnBeam_113 : decode cX1_turnBeam 113 = .ok (.iaload, 1) := by decide +kernel
theorem dX1_turnBeam_114 : decode cX1_turnBeam 114 = .ok (.ifCond .gt 9, 3) := by decide +kernel
theorem dX1_turnBeam_117 : decode cX1_turnBeam 117 = .ok (.aload_n 0, 1) := by decide +kernel
theorem dX1_turnBeam_118 : decode cX1_turnBeam 118 = .ok (.iload 4, 2) := by decide +kernel
theorem dX1_turnBeam_120 : decode cX1_turnBeam 120 = .ok (.putfield 49, 3) := by decide +kernel
theorem dX1_turnBeam_123 : decode cX1_turnBeam 123 = .ok (.iinc 4 (-1), 3) := by decide +kernel
theorem dX1_turnBeam_126 : decode cX1_turnBeam 126 = .ok (.goto (-71), 3) := by decide +kernel
theorem dX1_turnBeam_129 : decode cX1_turnBeam 129 = .ok (.return_, 1) := by decide +kernel
theorem dX1_turnOfRelease_0 : decode cX1_turnOfRelease 0 = .ok (.ldc2_w 58, 3) := by decide +kernel
theorem dX1_turnOfRelease_3 : decode cX1_turnOfRelease 3 = .ok (.iload_n 2, 1) := by decide +kernel
theorem dX1_turnOfRelease_4 : decode cX1_turnOfRelease 4 = .ok (.i2l, 1) := by decide +kernel
theorem dX1_turnOfRelease_5 : decode cX1_turnOfRelease 5 = .ok (.ladd, 1) := by decide +kernel
theorem dX1_turnOfRelease_6 : decode cX1_turnOfRelease 6 = .ok (.ldc2_w 60, 3) := by decide +kernel
theorem dX1_turnOfRelease_9 : decode cX1_turnOfRelease 9 = .ok (.lmul, 1) := by decide +kernel
theorem dX1_turnOfRelease_10 : decode cX1_turnOfRelease 10 = .ok (.iload_n 1, 1) := by decide +kernel
theorem dX1_turnOfRelease_11 : decode cX1_turnOfRelease 11 = .ok (.i2l, 1) := by decide +kernel
theorem dX1_turnOfRelease_12 : decode cX1_turnOfRelease 12 = .ok (.lmul, 1) := by decide +kernel
theorem dX1_turnOfRelease_13 : decode cX1_turnOfRelease 13 = .ok (.lstore_n 3, 1) := by decide +kernel
theorem dX1_turnOfRelease_14 : decode cX1_turnOfRelease 14 = .ok (.lload_n 3, 1) := by decide +kernel
theorem dX1_turnOfRelease_15 : decode cX1_turnOfRelease 15 = .ok (.aload_n 0, 1) := by decide +kernel
theorem dX1_turnOfRelease_16 : decode cX1_turnOfRelease 16 = .ok (.getfield 11, 3) := by decide +kernel
theorem dX1_turnOfRelease_19 : decode cX1_turnOfRelease 19 = .ok (.iconst 1, 1) := by decide +kernel
theorem dX1_turnOfRelease_20 : decode cX1_turnOfRelease 20 = .ok (.iaload, 1) := by decide +kernel
theorem dX1_turnOfRelease_21 : decode cX1_turnOfRelease 21 = .ok (.i2l, 1) := by decide +kernel
theorem dX1_turnOfRelease_22 : decode cX1_turnOfRelease 22 = .ok (.ldc2_w 60, 3) := by decide +kernel
theorem dX1_turnOfRelease_25 : decode cX1_turnOfRelease 25 = .ok (.iload_n 1, 1) := by decide +kernel
theorem dX1_turnOfRelease_26 : decode cX1_turnOfRelease 26 = .ok (.i2l, 1) := by decide +kernel
theorem dX1_turnOfRelease_27 : decode cX1_turnOfRelease 27 = .ok (.lmul, 1) := by decide +kernel
theorem dX1_turnOfRelease_28 : decode cX1_turnOfRelease 28 = .ok (.ladd, 1) := by decide +kernel
theorem dX1_turnOfRelease_29 : decode cX1_turnOfRelease 29 = .ok (.invokestatic 62, 3) := by decide +kernel
theorem dX1_turnOfRelease_32 : decode cX1_turnOfRelease 32 = .ok (.lstore 5, 2) := by decide +kernel
theorem dX1_turnOfRelease_34 : decode cX1_turnOfRelease 34 = .ok (.lload 5, 2) := by decide +kernel
theorem dX1_turnOfRelease_36 : decode cX1_turnOfRelease 36 = .ok (.lconst 1, 1) := by decide +kernel
theorem dX1_turnOfRelease_37 : decode cX1_turnOfRelease 37 = .ok (.lcmp, 1) := by decide +kernel
theorem dX1_turnOfRelease_38 : decode cX1_turnOfRelease 38 = .ok (.ifCond .lt 18, 3) := by decide +kernel
theorem dX1_turnOfRelease_41 : decode cX1_turnOfRelease 41 = .ok (.lload 5, 2) := by decide +kernel
theorem dX1_turnOfRelease_43 : decode cX1_turnOfRelease 43 = .ok (.ldc2_w 65, 3) := by decide +kernel
theorem dX1_turnOfRelease_46 : decode cX1_turnOfRelease 46 = .ok (.lcmp, 1) := by decide +kernel
theorem dX1_turnOfRelease_47 : decode cX1_turnOfRelease 47 = .ok (.ifCond .gt 9, 3) := by decide +kernel
theorem dX1_turnOfRelease_50 : decode cX1_turnOfRelease 50 = .ok (.lload 5, 2) := by decide +kernel
theorem dX1_turnOfRelease_52 : decode cX1_turnOfRelease 52 = .ok (.l2i, 1) := by decide +kernel
theorem dX1_turnOfRelease_53 : decode cX1_turnOfRelease 53 = .ok (.goto 6, 3) := by decide +kernel
theorem dX1_turnOfRelease_56 : decode cX1_turnOfRelease 56 = .ok (.sipush 161, 3) := by decide +kernel
theorem dX1_turnOfRelease_59 : decode cX1_turnOfRelease 59 = .ok (.ireturn, 1) := by decide +kernel
theorem dX1_slingNow_0 : decode cX1_slingNow 0 = .ok (.aload_n 0, 1) := by decide +kernel
theorem dX1_slingNow_1 : decode cX1_slingNow 1 = .ok (.getfield 11, 3) := by decide +kernel
theorem dX1_slingNow_4 : decode cX1_slingNow 4 = .ok (.iconst 3, 1) := by decide +kernel
theorem dX1_slingNow_5 : decode cX1_slingNow 5 = .ok (.iaload, 1) := by decide +kernel
theorem dX1_slingNow_6 : decode cX1_slingNow 6 = .ok (.ireturn, 1) := by decide +kernel
theorem dX1_reckonOwn_0 : decode cX1_reckonOwn 0 = .ok (.aload_n 0, 1) := by decide +kernel
theorem dX1_reckonOwn_1 : decode cX1_reckonOwn 1 = .ok (.aload_n 0, 1) := by decide +kernel
theorem dX1_reckonOwn_2 : decode cX1_reckonOwn 2 = .ok (.getfield 11, 3) := by decide +kernel
theorem dX1_reckonOwn_5 : decode cX1_reckonOwn 5 = .ok (.iconst 3, 1) := by decide +kernel
theorem dX1_reckonOwn_6 : decode cX1_reckonOwn 6 = .ok (.iaload, 1) := by decide +kernel
theorem dX1_reckonOwn_7 : decode cX1_reckonOwn 7 = .ok (.aload_n 0, 1) := by decide +kernel
theorem dX1_reckonOwn_8 : decode cX1_reckonOwn 8 = .ok (.getfield 11, 3) := by decide +kernel
theorem dX1_reckonOwn_11 : decode cX1_reckonOwn 11 = .ok (.iconst 4, 1) := by decide +kernel
theorem dX1_reckonOwn_12 : decode cX1_reckonOwn 12 = .ok (.iaload, 1) := by decide +kernel
theorem dX1_reckonOwn_13 : decode cX1_reckonOwn 13 = .ok (.invokevirtual 67, 3) := by decide +kernel
theorem dX1_reckonOwn_16 : decode cX1_reckonOwn 16 = .ok (.ireturn, 1) := by decide +kernel
theorem dX1_reckon_0 : decode cX1_reckon 0 = .ok (.iconst 0, 1) := by decide +kernel
theorem dX1_reckon_1 : decode cX1_reckon 1 = .ok (.istore_n 3, 1) := by decide +kernel
theorem dX1_reckon_2 : decode cX1_reckon 2 = .ok (.iload_n 3, 1) := by decide +kernel
theorem dX1_reckon_3 : decode cX1_reckon 3 = .ok (.aload_n 0, 1) := by decide +kernel
theorem dX1_reckon_4 : decode cX1_reckon 4 = .ok (.getfield 18, 3) := by decide +kernel
theorem dX1_reckon_7 : decode cX1_reckon 7 = .ok (.arraylength, 1) := by decide +kernel
theorem dX1_reckon_8 : decode cX1_reckon 8 = .ok (.if_icmp .ge 17, 3) := by decide +kernel
theorem dX1_reckon_11 : decode cX1_reckon 11 = .ok (.aload_n 0, 1) := by decide +kernel
theorem dX1_reckon_12 : decode cX1_reckon 12 = .ok (.getfield 18, 3) := by decide +kernel
theorem dX1_reckon_15 : decode cX1_reckon 15 = .ok (.iload_n 3, 1) := by decide +kernel
theorem dX1_reckon_16 : decode cX1_reckon 16 = .ok (.bipush (-9), 2) := by decide +kernel
theorem dX1_reckon_18 : decode cX1_reckon 18 = .ok (.iastore, 1) := by decide +kernel
theorem dX1_reckon_19 : decode cX1_reckon 19 = .ok (.iinc 3 1, 3) := by decide +kernel
theorem dX1_reckon_22 : decode cX1_reckon 22 = .ok (.goto (-20), 3) := by decide +kernel
theorem dX1_reckon_25 : decode cX1_reckon 25 = .ok (.aload_n 0, 1) := by decide +kernel
theorem dX1_reckon_26 : decode cX1_reckon 26 = .ok (.iload_n 1, 1) := by decide +kernel
theorem dX1_reckon_27 : decode cX1_reckon 27 = .ok (.iload_n 2, 1) := by decide +kernel
theorem dX1_reckon_28 : decode cX1_reckon 28 = .ok (.invokevirtual 71, 3) := by decide +kernel
theorem dX1_reckon_31 : decode cX1_reckon 31 = .ok (.istore_n 3, 1) := by decide +kernel
theorem dX1_reckon_32 : decode cX1_reckon 32 = .ok (.aload_n 0, 1) := by decide +kernel
theorem dX1_reckon_33 : decode cX1_reckon 33 = .ok (.getfield 49, 3) := by decide +kernel
theorem dX1_reckon_36 : decode cX1_reckon 36 = .ok (.sipush 161, 3) := by decide +kernel
theorem dX1_reckon_39 : decode cX1_reckon 39 = .ok (.if_icmp .ge 24, 3) := by decide +kernel
theorem dX1_reckon_42 : decode cX1_reckon 42 = .ok (.aload_n 0, 1) := by decide +kernel
theorem dX1_reckon_43 : decode cX1_reckon 43 = .ok (.getfield 49, 3) := by decide +kernel
theorem dX1_reckon_46 : decode cX1_reckon 46 = .ok (.iload_n 3, 1) := by decide +kernel
theorem dX1_reckon_47 : decode cX1_reckon 47 = .ok (.if_icmp .gt 16, 3) := by decide +kernel
theorem dX1_reckon_50 : decode cX1_reckon 50 = .ok (.aload_n 0, 1) := by decide +kernel
theorem dX1_reckon_51 : decode cX1_reckon 51 = .ok (.getfield 18, 3) := by decide +kernel
theorem dX1_reckon_54 : decode cX1_reckon 54 = .ok (.iconst 1, 1) := by decide +kernel
theorem dX1_reckon_55 : decode cX1_reckon 55 = .ok (.aload_n 0, 1) := by decide +kernel
theorem dX1_reckon_56 : decode cX1_reckon 56 = .ok (.getfield 49, 3) := by decide +kernel
theorem dX1_reckon_59 : decode cX1_reckon 59 = .ok (.iastore, 1) := by decide +kernel
theorem dX1_reckon_60 : decode cX1_reckon 60 = .ok (.goto 17, 3) := by decide +kernel
theorem dX1_reckon_63 : decode cX1_reckon 63 = .ok (.iload_n 3, 1) := by decide +kernel
theorem dX1_reckon_64 : decode cX1_reckon 64 = .ok (.sipush 161, 3) := by decide +kernel
theorem dX1_reckon_67 : decode cX1_reckon 67 = .ok (.if_icmp .ge 10, 3) := by decide +kernel
theorem dX1_reckon_70 : decode cX1_reckon 70 = .ok (.aload_n 0, 1) := by decide +kernel
theorem dX1_reckon_71 : decode cX1_reckon 71 = .ok (.iload_n 3, 1) := by decide +kernel
theorem dX1_reckon_72 : decode cX1_reckon 72 = .ok (.iload_n 1, 1) := by decide +kernel
theorem dX1_reckon_73 : decode cX1_reckon 73 = .ok (.iload_n 2, 1) := by decide +kernel
theorem dX1_reckon_74 : decode cX1_reckon 74 = .ok (.invokevirtual 74, 3) := by decide +kernel
theorem dX1_reckon_77 : decode cX1_reckon 77 = .ok (.aload_n 0, 1) := by decide +kernel
theorem dX1_reckon_78 : decode cX1_reckon 78 = .ok (.getfield 18, 3) := by decide +kernel
theorem dX1_reckon_81 : decode cX1_reckon 81 = .ok (.bipush 6, 2) := by decide +kernel
theorem dX1_reckon_83 : decode cX1_reckon 83 = .ok (.iaload, 1) := by decide +kernel
theorem dX1_reckon_84 : decode cX1_reckon 84 = .ok (.ireturn, 1) := by decide +kernel
theorem dX1_reckonRelease_0 : decode cX1_reckonRelease 0 = .ok (.sipush 180, 3) := by decide +kernel
theorem dX1_reckonRelease_3 : decode cX1_reckonRelease 3 = .ok (.iload_n 1, 1) := by decide +kernel
theorem dX1_reckonRelease_4 : decode cX1_reckonRelease 4 = .ok (.aload_n 0, 1) := by decide +kernel
theorem dX1_reckonRelease_5 : decode cX1_reckonRelease 5 = .ok (.getfield 11, 3) := by decide +kernel
theorem dX1_reckonRelease_8 : decode cX1_reckonRelease 8 = .ok (.iconst 5, 1) := by decide +kernel
theorem dX1_reckonRelease_9 : decode cX1_reckonRelease 9 = .ok (.iaload, 1) := by decide +kernel
theorem dX1_reckonRelease_10 : decode cX1_reckonRelease 10 = .ok (.isub, 1) := by decide +kernel
theorem dX1_reckonRelease_11 : decode cX1_reckonRelease 11 = .ok (.isub, 1) := by decide +kernel
theorem dX1_reckonRelease_12 : decode cX1_reckonRelease 12 = .ok (.iload_n 3, 1) := by decide +kernel
theorem dX1_reckonRelease_13 : decode cX1_reckonRelease 13 = .ok (.isub, 1) := by decide +kernel
theorem dX1_reckonRelease_14 : decode cX1_reckonRelease 14 = .ok (.istore 4, 2) := by decide +kernel
theorem dX1_reckonRelease_16 : decode cX1_reckonRelease 16 = .ok (.aload_n 0, 1) := by decide +kernel
theorem dX1_reckonRelease_17 : decode cX1_reckonRelease 17 = .ok (.getfield 18, 3) := by decide +kernel
theorem dX1_reckonRelease_20 : decode cX1_reckonRelease 20 = .ok (.iconst 0, 1) := by decide +kernel
theorem dX1_reckonRelease_21 : decode cX1_reckonRelease 21 = .ok (.iload_n 1, 1) := by decide +kernel
theorem dX1_reckonRelease_22 : decode cX1_reckonRelease 22 = .ok (.iastore, 1) := by decide +kernel
theorem dX1_reckonRelease_23 : decode cX1_reckonRelease 23 = .ok (.aload_n 0, 1) := by decide +kernel
theorem dX1_reckonRelease_24 : decode cX1_reckonRelease 24 = .ok (.getfield 18, 3) := by decide +kernel
theorem dX1_reckonRelease_27 : decode cX1_reckonRelease 27 = .ok (.iconst 2, 1) := by decide +kernel
theorem dX1_reckonRelease_28 : decode cX1_reckonRelease 28 = .ok (.aload_n 0, 1) := by decide +kernel
theorem dX1_reckonRelease_29 : decode cX1_reckonRelease 29 = .ok (.getfield 15, 3) := by decide +kernel
theorem dX1_reckonRelease_32 : decode cX1_reckonRelease 32 = .ok (.iload_n 1, 1) := by decide +kernel
theorem dX1_reckonRelease_33 : decode cX1_reckonRelease 33 = .ok (.iaload, 1) := by decide +kernel
theorem dX1_reckonRelease_34 : decode cX1_reckonRelease 34 = .ok (.iastore, 1) := by decide +kernel
theorem dX1_reckonRelease_35 : decode cX1_reckonRelease 35 = .ok (.aload_n 0, 1) := by decide +kernel
theorem dX1_reckonRelease_36 : decode cX1_reckonRelease 36 = .ok (.getfield 18, 3) := by decide +kernel
theorem dX1_reckonRelease_39 : decode cX1_reckonRelease 39 = .ok (.iconst 3, 1) := by decide +kernel
theorem dX1_reckonRelease_40 : decode cX1_reckonRelease 40 = .ok (.iload 4, 2) := by decide +kernel
theorem dX1_reckonRelease_42 : decode cX1_reckonRelease 42 = .ok (.iastore, 1) := by decide +kernel
theorem dX1_reckonRelease_43 : decode cX1_reckonRelease 43 = .ok (.iload 4, 2) := by decide +kernel
theorem dX1_reckonRelease_45 : decode cX1_reckonRelease 45 = .ok (.iconst 1, 1) := by decide +kernel
theorem dX1_reckonRelease_46 : decode cX1_reckonRelease 46 = .ok (.bipush 89, 2) := by decide +kernel
theorem dX1_reckonRelease_48 : decode cX1_reckonRelease 48 = .ok (.invokestatic 27, 3) := by decide +kernel
theorem dX1_reckonRelease_51 : decode cX1_reckonRelease 51 = .ok (.ifCond .ne 4, 3) := by decide +kernel
theorem dX1_reckonRelease_54 : decode cX1_reckonRelease 54 = .ok (.return_, 1) := by decide +kernel
theorem dX1_reckonRelease_55 : decode cX1_reckonRelease 55 = .ok (.aload_n 0, 1) := by decide +kernel
theorem dX1_reckonRelease_56 : decode cX1_reckonRelease 56 = .ok (.aload_n 0, 1) := by decide +kernel
theorem dX1_reckonRelease_57 : decode cX1_reckonRelease 57 = .ok (.getfield 15, 3) := by decide +kernel
theorem dX1_reckonRelease_60 : decode cX1_reckonRelease 60 = .ok (.iload_n 1, 1) := by decide +kernel
theorem dX1_reckonRelease_61 : decode cX1_reckonRelease 61 = .ok (.iaload, 1) := by decide +kernel
theorem dX1_reckonRelease_62 : decode cX1_reckonRelease 62 = .ok (.iload_n 2, 1) := by decide +kernel
theorem dX1_reckonRelease_63 : decode cX1_reckonRelease 63 = .ok (.invokevirtual 78, 3) := by decide +kernel
theorem dX1_reckonRelease_66 : decode cX1_reckonRelease 66 = .ok (.lstore 5, 2) := by decide +kernel
theorem dX1_reckonRelease_68 : decode cX1_reckonRelease 68 = .ok (.lload 5, 2) := by decide +kernel
theorem dX1_reckonRelease_70 : decode cX1_reckonRelease 70 = .ok (.iconst 2, 1) := by decide +kernel
theorem dX1_reckonRelease_71 : decode cX1_reckonRelease 71 = .ok (.iload 4, 2) := by decide +kernel
theorem dX1_reckonRelease_73 : decode cX1_reckonRelease 73 = .ok (.imul, 1) := by decide +kernel
theorem dX1_reckonRelease_74 : decode cX1_reckonRelease 74 = .ok (.invokestatic 45, 3) := by decide +kernel
theorem dX1_reckonRelease_77 : decode cX1_reckonRelease 77 = .ok (.i2l, 1) := by decide +kernel
theorem dX1_reckonRelease_78 : decode cX1_reckonRelease 78 = .ok (.lmul, 1) := by decide +kernel
theorem dX1_reckonRelease_79 : decode cX1_reckonRelease 79 = .ok (.ldc2_w 82, 3) := by decide +kernel
theorem dX1_reckonRelease_82 : decode cX1_reckonRelease 82 = .ok (.invokestatic 54, 3) := by decide +kernel
theorem dX1_reckonRelease_85 : decode cX1_reckonRelease 85 = .ok (.lstore 7, 2) := by decide +kernel
theorem dX1_reckonRelease_87 : decode cX1_reckonRelease 87 = .ok (.aload_n 0, 1) := by decide +kernel
theorem dX1_reckonRelease_88 : decode cX1_reckonRelease 88 = .ok (.getfield 18, 3) := by decide +kernel
theorem dX1_reckonRelease_91 : decode cX1_reckonRelease 91 = .ok (.iconst 4, 1) := by decide +kernel
theorem dX1_reckonRelease_92 : decode cX1_reckonRelease 92 = .ok (.lload 5, 2) := by decide +kernel
theorem dX1_reckonRelease_94 : decode cX1_reckonRelease 94 = .ok (.l2i, 1) := by decide +kernel
theorem dX1_reckonRelease_95 : decode cX1_reckonRelease 95 = .ok (.iastore, 1) := by decide +kernel
theorem dX1_reckonRelease_96 : decode cX1_reckonRelease 96 = .ok (.aload_n 0, 1) := by decide +kernel
theorem dX1_reckonRelease_97 : decode cX1_reckonRelease 97 = .ok (.getfield 18, 3) := by decide +kernel
theorem dX1_reckonRelease_100 : decode cX1_reckonRelease 100 = .ok (.iconst 5, 1) := by decide +kernel
theorem dX1_reckonRelease_101 : decode cX1_reckonRelease 101 = .ok (.lload 7, 2) := by decide +kernel
theorem dX1_reckonRelease_103 : decode cX1_reckonRelease 103 = .ok (.l2i, 1) := by decide +kernel
theorem dX1_reckonRelease_104 : decode cX1_reckonRelease 104 = .ok (.iastore, 1) := by decide +kernel
theorem dX1_reckonRelease_105 : decode cX1_reckonRelease 105 = .ok (.aload_n 0, 1) := by decide +kernel
theorem dX1_reckonRelease_106 : decode cX1_reckonRelease 106 = .ok (.aload_n 0, 1) := by decide +kernel
theorem dX1_reckonRelease_107 : decode cX1_reckonRelease 107 = .ok (.getfield 11, 3) := by decide +kernel
theorem dX1_reckonRelease_110 : decode cX1_reckonRelease 110 = .ok (.bipush 8, 2) := by decide +kernel
theorem dX1_reckonRelease_112 : decode cX1_reckonRelease 112 = .ok (.iaload, 1) := by decide +kernel
theorem dX1_reckonRelease_113 : decode cX1_reckonRelease 113 = .ok (.lload 7, 2) := by decide +kernel
theorem dX1_reckonRelease_115 : decode cX1_reckonRelease 115 = .ok (.l2i, 1) := by decide +kernel
theorem dX1_reckonRelease_116 : decode cX1_reckonRelease 116 = .ok (.invokevirtual 84, 3) := by decide +kernel
theorem dX1_reckonRelease_119 : decode cX1_reckonRelease 119 = .ok (.istore 9, 2) := by decide +kernel
theorem dX1_reckonRelease_121 : decode cX1_reckonRelease 121 = .ok (.aload_n 0, 1) := by decide +kernel
theorem dX1_reckonRelease_122 : decode cX1_reckonRelease 122 = .ok (.getfield 18, 3) := by decide +kernel
theorem dX1_reckonRelease_125 : decode cX1_reckonRelease 125 = .ok (.bipush 6, 2) := by decide +kernel
theorem dX1_reckonRelease_127 : decode cX1_reckonRelease 127 = .ok (.iconst 0, 1) := by decide +kernel
theorem dX1_reckonRelease_128 : decode cX1_reckonRelease 128 = .ok (.iload 9, 2) := by decide +kernel
theorem dX1_reckonRelease_130 : decode cX1_reckonRelease 130 = .ok (.aload_n 0, 1) := by decide +kernel
theorem dX1_reckonRelease_131 : decode cX1_reckonRelease 131 = .ok (.getfield 41, 3) := by decide +kernel
theorem dX1_reckonRelease_134 : decode cX1_reckonRelease 134 = .ok (.iload 9, 2) := by decide +kernel
theorem dX1_reckonRelease_136 : decode cX1_reckonRelease 136 = .ok (.imul, 1) := by decide +kernel
theorem dX1_reckonRelease_137 : decode cX1_reckonRelease 137 = .ok (.bipush 100, 2) := by decide +kernel
theorem dX1_reckonRelease_139 : decode cX1_reckonRelease 139 = .ok (.idiv, 1) := by decide +kernel
theorem dX1_reckonRelease_140 : decode cX1_reckonRelease 140 = .ok (.iadd, 1) := by decide +kernel
theorem dX1_reckonRelease_141 : decode cX1_reckonRelease 141 = .ok (.invokestatic 87, 3) := by decide +kernel
theorem dX1_reckonRelease_144 : decode cX1_reckonRelease 144 = .ok (.iastore, 1) := by decide +kernel
theorem dX1_reckonRelease_145 : decode cX1_reckonRelease 145 = .ok (.return_, 1) := by decide +kernel
theorem dX1_speedFor_0 : decode cX1_speedFor 0 = .ok (.aload_n 0, 1) := by decide +kernel
theorem dX1_speedFor_1 : decode cX1_speedFor 1 = .ok (.getfield 11, 3) := by decide +kernel
theorem dX1_speedFor_4 : decode cX1_speedFor 4 = .ok (.iconst 1, 1) := by decide +kernel
theorem dX1_speedFor_5 : decode cX1_speedFor 5 = .ok (.iaload, 1) := by decide +kernel
theorem dX1_speedFor_6 : decode cX1_speedFor 6 = .ok (.iload_n 2, 1) := by decide +kernel
theorem dX1_speedFor_7 : decode cX1_speedFor 7 = .ok (.iadd, 1) := by decide +kernel
theorem dX1_speedFor_8 : decode cX1_speedFor 8 = .ok (.i2l, 1) := by decide +kernel
theorem dX1_speedFor_9 : decode cX1_speedFor 9 = .ok (.lstore_n 3, 1) := by decide +kernel
theorem dX1_speedFor_10 : decode cX1_speedFor 10 = .ok (.lload_n 3, 1) := by decide +kernel
theorem dX1_speedFor_11 : decode cX1_speedFor 11 = .ok (.lload_n 3, 1) := by decide +kernel
theorem dX1_speedFor_12 : decode cX1_speedFor 12 = .ok (.lmul, 1) := by decide +kernel
theorem dX1_speedFor_13 : decode cX1_speedFor 13 = .ok (.lstore 5, 2) := by decide +kernel
theorem dX1_speedFor_15 : decode cX1_speedFor 15 = .ok (.aload_n 0, 1) := by decide +kernel
theorem dX1_speedFor_16 : decode cX1_speedFor 16 = .ok (.getfield 11, 3) := by decide +kernel
theorem dX1_speedFor_19 : decode cX1_speedFor 19 = .ok (.iconst 2, 1) := by decide +kernel
theorem dX1_speedFor_20 : decode cX1_speedFor 20 = .ok (.iaload, 1) := by decide +kernel
theorem dX1_speedFor_21 : decode cX1_speedFor 21 = .ok (.i2l, 1) := by decide +kernel
theorem dX1_speedFor_22 : decode cX1_speedFor 22 = .ok (.aload_n 0, 1) := by decide +kernel
theorem dX1_speedFor_23 : decode cX1_speedFor 23 = .ok (.getfield 11, 3) := by decide +kernel
theorem dX1_speedFor_26 : decode cX1_speedFor 26 = .ok (.iconst 0, 1) := by decide +kernel
theorem dX1_speedFor_27 : decode cX1_speedFor 27 = .ok (.iaload, 1) := by decide +kernel
theorem dX1_speedFor_28 : decode cX1_speedFor 28 = .ok (.i2l, 1) := by decide +kernel
theorem dX1_speedFor_29 : decode cX1_speedFor 29 = .ok (.lmul, 1) := by decide +kernel
theorem dX1_speedFor_30 : decode cX1_speedFor 30 = .ok (.aload_n 0, 1) := by decide +kernel
theorem dX1_speedFor_31 : decode cX1_speedFor 31 = .ok (.getfield 11, 3) := by decide +kernel
theorem dX1_speedFor_34 : decode cX1_speedFor 34 = .ok (.iconst 0, 1) := by decide +kernel
theorem dX1_speedFor_35 : decode cX1_speedFor 35 = .ok (.iaload, 1) := by decide +kernel
theorem dX1_speedFor_36 : decode cX1_speedFor 36 = .ok (.i2l, 1) := by decide +kernel
theorem dX1_speedFor_37 : decode cX1_speedFor 37 = .ok (.lmul, 1) := by decide +kernel
theorem dX1_speedFor_38 : decode cX1_speedFor 38 = .ok (.aload_n 0, 1) := by decide +kernel
theorem dX1_speedFor_39 : decode cX1_speedFor 39 = .ok (.getfield 11, 3) := by decide +kernel
theorem dX1_speedFor_42 : decode cX1_speedFor 42 = .ok (.bipush 7, 2) := by decide +kernel
theorem dX1_speedFor_44 : decode cX1_speedFor 44 = .ok (.iaload, 1) := by decide +kernel
theorem dX1_speedFor_45 : decode cX1_speedFor 45 = .ok (.i2l, 1) := by decide +kernel
theorem dX1_speedFor_46 : decode cX1_speedFor 46 = .ok (.lload 5, 2) := by decide +kernel
theorem dX1_speedFor_48 : decode cX1_speedFor 48 = .ok (.lmul, 1) := by decide +kernel
theorem dX1_speedFor_49 : decode cX1_speedFor 49 = .ok (.ladd, 1) := by decide +kernel
theorem dX1_speedFor_50 : decode cX1_speedFor 50 = .ok (.lstore 7, 2) := by decide +kernel
theorem dX1_speedFor_52 : decode cX1_speedFor 52 = .ok (.ldc2_w 60, 3) := by decide +kernel
theorem dX1_speedFor_55 : decode cX1_speedFor 55 = .ok (.iload_n 1, 1) := by decide +kernel
theorem dX1_speedFor_56 : decode cX1_speedFor 56 = .ok (.i2l, 1) := by decide +kernel
theorem dX1_speedFor_57 : decode cX1_speedFor 57 = .ok (.lmul, 1) := by decide +kernel
theorem dX1_speedFor_58 : decode cX1_speedFor 58 = .ok (.lload 5, 2) := by decide +kernel
theorem dX1_speedFor_60 : decode cX1_speedFor 60 = .ok (.lmul, 1) := by decide +kernel
theorem dX1_speedFor_61 : decode cX1_speedFor 61 = .ok (.lload 7, 2) := by decide +kernel
theorem dX1_speedFor_63 : decode cX1_speedFor 63 = .ok (.invokestatic 54, 3) := by decide +kernel
theorem dX1_speedFor_66 : decode cX1_speedFor 66 = .ok (.lreturn, 1) := by decide +kernel
theorem dX1_flightOf_0 : decode cX1_flightOf 0 = .ok (.lconst 0, 1) := by decide +kernel
theorem dX1_flightOf_1 : decode cX1_flightOf 1 = .ok (.iload_n 2, 1) := by decide +kernel
theorem dX1_flightOf_2 : decode cX1_flightOf 2 = .ok (.i2l, 1) := by decide +kernel
theorem dX1_flightOf_3 : decode cX1_flightOf 3 = .ok (.iload_n 2, 1) := by decide +kernel
theorem dX1_flightOf_4 : decode cX1_flightOf 4 = .ok (.i2l, 1) := by decide +kernel
theorem dX1_flightOf_5 : decode cX1_flightOf 5 = .ok (.iload_n 2, 1) := by decide +kernel
theorem dX1_flightOf_6 : decode cX1_flightOf 6 = .ok (.i2l, 1) := by decide +kernel
theorem dX1_flightOf_7 : decode cX1_flightOf 7 = .ok (.lmul, 1) := by decide +kernel
theorem dX1_flightOf_8 : decode cX1_flightOf 8 = .ok (.ldc2_w 92, 3) := by decide +kernel
theorem dX1_flightOf_11 : decode cX1_flightOf 11 = .ok (.aload_n 0, 1) := by decide +kernel
theorem dX1_flightOf_12 : decode cX1_flightOf 12 = .ok (.getfield 11, 3) := by decide +kernel
theorem dX1_flightOf_15 : decode cX1_flightOf 15 = .ok (.bipush 7, 2) := by decide +kernel
theorem dX1_flightOf_17 : decode cX1_flightOf 17 = .ok (.iaload, 1) := by decide +kernel
theorem dX1_flightOf_18 : decode cX1_flightOf 18 = .ok (.i2l, 1) := by decide +kernel
theorem dX1_flightOf_19 : decode cX1_flightOf 19 = .ok (.lmul, 1) := by decide +kernel
theorem dX1_flightOf_20 : decode cX1_flightOf 20 = .ok (.ldc2_w 94, 3) := by decide +kernel
theorem dX1_flightOf_23 : decode cX1_flightOf 23 = .ok (.ladd, 1) := by decide +kernel
theorem dX1_flightOf_24 : decode cX1_flightOf 24 = .ok (.invokestatic 54, 3) := by decide +kernel
theorem dX1_flightOf_27 : decode cX1_flightOf 27 = .ok (.lsub, 1) := by decide +kernel
theorem dX1_flightOf_28 : decode cX1_flightOf 28 = .ok (.invokestatic 96, 3) := by decide +kernel
theorem dX1_flightOf_31 : decode cX1_flightOf 31 = .ok (.lstore_n 3, 1) := by decide +kernel
theorem dX1_flightOf_32 : decode cX1_flightOf 32 = .ok (.iload_n 1, 1) := by decide +kernel
theorem dX1_flightOf_33 : decode cX1_flightOf 33 = .ok (.iconst 1, 1) := by decide +kernel
theorem dX1_flightOf_34 : decode cX1_flightOf 34 = .ok (.if_icmp .lt 13, 3) := by decide +kernel
theorem dX1_flightOf_37 : decode cX1_flightOf 37 = .ok (.lload_n 3, 1) := by decide +kernel
theorem dX1_flightOf_38 : decode cX1_flightOf 38 = .ok (.lload_n 3, 1) := by decide +kernel
theorem dX1_flightOf_39 : decode cX1_flightOf 39 = .ok (.ldc2_w 98, 3) := by decide +kernel
theorem dX1_flightOf_42 : decode cX1_flightOf 42 = .ok (.invokestatic 62, 3) := by decide +kernel
theorem dX1_flightOf_45 : decode cX1_flightOf 45 = .ok (.lsub, 1) := by decide +kernel
theorem dX1_flightOf_46 : decode cX1_flightOf 46 = .ok (.lstore_n 3, 1) := by decide +kernel
theorem dX1_flightOf_47 : decode cX1_flightOf 47 = .ok (.iload_n 1, 1) := by decide +kernel
theorem dX1_flightOf_48 : decode cX1_flightOf 48 = .ok (.iconst 2, 1) := by decide +kernel
theorem dX1_flightOf_49 : decode cX1_flightOf 49 = .ok (.if_icmp .lt 25, 3) := by decide +kernel
theorem dX1_flightOf_52 : decode cX1_flightOf 52 = .ok (.lconst 0, 1) := by decide +kernel
theorem dX1_flightOf_53 : decode cX1_flightOf 53 = .ok (.lload_n 3, 1) := by decide +kernel
theorem dX1_flightOf_54 : decode cX1_flightOf 54 = .ok (.ldc2_w 60, 3) := by decide +kernel
theorem dX1_flightOf_57 : decode cX1_flightOf 57 = .ok (.lload_n 3, 1) := by decide +kernel
theorem dX1_flightOf_58 : decode cX1_flightOf 58 = .ok (.ldc2_w 100, 3) := by decide +kernel
theorem dX1_flightOf_61 : decode cX1_flightOf 61 = .ok (.invokestatic 54, 3) := by decide +kernel
theorem dX1_flightOf_64 : decode cX1_flightOf 64 = .ok (.lmul, 1) := by decide +kernel
theorem dX1_flightOf_65 : decode cX1_flightOf 65 = .ok (.lsub, 1) := by decide +kernel
theorem dX1_flightOf_66 : decode cX1_flightOf 66 = .ok (.ldc2_w 102, 3) := by decide +kernel
theorem dX1_flightOf_69 : decode cX1_flightOf 69 = .ok (.lsub, 1) := by decide +kernel
theorem dX1_flightOf_70 : decode cX1_flightOf 70 = .ok (.invokestatic 96, 3) := by decide +kernel
theorem dX1_flightOf_73 : decode cX1_flightOf 73 = .ok (.lstore_n 3, 1) := by decide +kernel
theorem dX1_flightOf_74 : decode cX1_flightOf 74 = .ok (.lload_n 3, 1) := by decide +kernel
theorem dX1_flightOf_75 : decode cX1_flightOf 75 = .ok (.l2i, 1) := by decide +kernel
theorem dX1_flightOf_76 : decode cX1_flightOf 76 = .ok (.ireturn, 1) := by decide +kernel
theorem dX1_bodiesAsked_0 : decode cX1_bodiesAsked 0 = .ok (.iload_n 0, 1) := by decide +kernel
theorem dX1_bodiesAsked_1 : decode cX1_bodiesAsked 1 = .ok (.lookupswitch 32 #[(0, 27), (1, 29)], 27) := by decide +kernel
theorem dX1_bodiesAsked_28 : decode cX1_bodiesAsked 28 = .ok (.iconst 1, 1) := by decide +kernel
theorem dX1_bodiesAsked_29 : decode cX1_bodiesAsked 29 = .ok (.ireturn, 1) := by decide +kernel
theorem dX1_bodiesAsked_30 : decode cX1_bodiesAsked 30 = .ok (.bipush 11, 2) := by decide +kernel
theorem dX1_bodiesAsked_32 : decode cX1_bodiesAsked 32 = .ok (.ireturn, 1) := by decide +kernel
theorem dX1_bodiesAsked_33 : decode cX1_bodiesAsked 33 = .ok (.bipush 111, 2) := by decide +kernel
theorem dX1_bodiesAsked_35 : decode cX1_bodiesAsked 35 = .ok (.ireturn, 1) := by decide +kernel
theorem dX1_reckoned_0 : decode cX1_reckoned 0 = .ok (.iload_n 1, 1) := by decide +kernel
theorem dX1_reckoned_1 : decode cX1_reckoned 1 = .ok (.iconst 0, 1) := by decide +kernel
theorem dX1_reckoned_2 : decode cX1_reckoned 2 = .ok (.bipush 6, 2) := by decide +kernel
theorem dX1_reckoned_4 : decode cX1_reckoned 4 = .ok (.invokestatic 27, 3) := by decide +kernel
theorem dX1_reckoned_7 : decode cX1_reckoned 7 = .ok (.ifCond .eq 12, 3) := by decide +kernel
theorem dX1_reckoned_10 : decode cX1_reckoned 10 = .ok (.aload_n 0, 1) := by decide +kernel
theorem dX1_reckoned_11 : decode cX1_reckoned 11 = .ok (.getfield 18, 3) := by decide +kernel
theorem dX1_reckoned_14 : decode cX1_reckoned 14 = .ok (.iload_n 1, 1) := by decide +kernel
theorem dX1_reckoned_15 : decode cX1_reckoned 15 = .ok (.iaload, 1) := by decide +kernel
theorem dX1_reckoned_16 : decode cX1_reckoned 16 = .ok (.goto 4, 3) := by decide +kernel
theorem dX1_reckoned_19 : decode cX1_reckoned 19 = .ok (.iconst (-1), 1) := by decide +kernel
theorem dX1_reckoned_20 : decode cX1_reckoned 20 = .ok (.ireturn, 1) := by decide +kernel
theorem dX1_tuneTo_0 : decode cX1_tuneTo 0 = .ok (.aload_n 0, 1) := by decide +kernel
theorem dX1_tuneTo_1 : decode cX1_tuneTo 1 = .ok (.bipush (-9), 2) := by decide +kernel
theorem dX1_tuneTo_3 : decode cX1_tuneTo 3 = .ok (.bipush (-9), 2) := by decide +kernel
theorem dX1_tuneTo_5 : decode cX1_tuneTo 5 = .ok (.bipush (-9), 2) := by decide +kernel
theorem dX1_tuneTo_7 : decode cX1_tuneTo 7 = .ok (.invokevirtual 104, 3) := by decide +kernel
theorem dX1_tuneTo_10 : decode cX1_tuneTo 10 = .ok (.ldc 109, 2) := by decide +kernel
theorem dX1_tuneTo_12 : decode cX1_tuneTo 12 = .ok (.istore 4, 2) := by decide +kernel
theorem dX1_tuneTo_14 : decode cX1_tuneTo 14 = .ok (.iload_n 1, 1) := by decide +kernel
theorem dX1_tuneTo_15 : decode cX1_tuneTo 15 = .ok (.istore 5, 2) := by decide +kernel
theorem dX1_tuneTo_17 : decode cX1_tuneTo 17 = .ok (.iload 5, 2) := by decide +kernel
theorem dX1_tuneTo_19 : decode cX1_tuneTo 19 = .ok (.iload_n 2, 1) := by decide +kernel
theorem dX1_tuneTo_20 : decode cX1_tuneTo 20 = .ok (.if_icmp .gt 72, 3) := by decide +kernel
theorem dX1_tuneTo_23 : decode cX1_tuneTo 23 = .ok (.iconst 0, 1) := by decide +kernel
theorem dX1_tuneTo_24 : decode cX1_tuneTo 24 = .ok (.istore 6, 2) := by decide +kernel
theorem dX1_tuneTo_26 : decode cX1_tuneTo 26 = .ok (.iload 6, 2) := by decide +kernel
theorem dX1_tuneTo_28 : decode cX1_tuneTo 28 = .ok (.bipush 60, 2) := by decide +kernel
theorem dX1_tuneTo_30 : decode cX1_tuneTo 30 = .ok (.if_icmp .gt 56, 3) := by decide +kernel
theorem dX1_tuneTo_33 : decode cX1_tuneTo 33 = .ok (.aload_n 0, 1) := by decide +kernel
theorem dX1_tuneTo_34 : decode cX1_tuneTo 34 = .ok (.iload 5, 2) := by decide +kernel
theorem dX1_tuneTo_36 : decode cX1_tuneTo 36 = .ok (.iload 6, 2) := by decide +kernel
theorem dX1_tuneTo_38 : decode cX1_tuneTo 38 = .ok (.invokevirtual 67, 3) := by decide +kernel
theorem dX1_tuneTo_41 : decode cX1_tuneTo 41 = .ok (.istore 7, 2) := by decide +kernel
theorem dX1_tuneTo_43 : decode cX1_tuneTo 43 = .ok (.iload 7, 2) := by decide +kernel
theorem dX1_tuneTo_45 : decode cX1_tuneTo 45 = .ok (.iload_n 3, 1) := by decide +kernel
theorem dX1_tuneTo_46 : decode cX1_tuneTo 46 = .ok (.isub, 1) := by decide +kernel
theorem dX1_tuneTo_47 : decode cX1_tuneTo 47 = .ok (.invokestatic 110, 3) := by decide +kernel
theorem dX1_tuneTo_50 : decode cX1_tuneTo 50 = .ok (.istore 8, 2) := by decide +kernel
theorem dX1_tuneTo_52 : decode cX1_tuneTo 52 = .ok (.iload 7, 2) := by decide +kernel
theorem dX1_tuneTo_54 : decode cX1_tuneTo 54 = .ok (.bipush (-9), 2) := by decide +kernel
theorem dX1_tuneTo_56 : decode cX1_tuneTo 56 = .ok (.if_icmp .eq 24, 3) := by decide +kernel
theorem dX1_tuneTo_59 : decode cX1_tuneTo 59 = .ok (.iload 8, 2) := by decide +kernel
theorem dX1_tuneTo_61 : decode cX1_tuneTo 61 = .ok (.iload 4, 2) := by decide +kernel
theorem dX1_tuneTo_63 : decode cX1_tuneTo 63 = .ok (.if_icmp .ge 17, 3) := by decide +kernel
theorem dX1_tuneTo_66 : decode cX1_tuneTo 66 = .ok (.iload 8, 2) := by decide +kernel
theorem dX1_tuneTo_68 : decode cX1_tuneTo 68 = .ok (.istore 4, 2) := by decide +kernel
theorem dX1_tuneTo_70 : decode cX1_tuneTo 70 = .ok (.aload_n 0, 1) := by decide +kernel
theorem dX1_tuneTo_71 : decode cX1_tuneTo 71 = .ok (.iload 5, 2) := by decide +kernel
theorem dX1_tuneTo_73 : decode cX1_tuneTo 73 = .ok (.iload 6, 2) := by decide +kernel
theorem dX1_tuneTo_75 : decode cX1_tuneTo 75 = .ok (.iload 7, 2) := by decide +kernel
theorem dX1_tuneTo_77 : decode cX1_tuneTo 77 = .ok (.invokevirtual 104, 3) := by decide +kernel
theorem dX1_tuneTo_80 : decode cX1_tuneTo 80 = .ok (.iinc 6 1, 3) := by decide +kernel
theorem dX1_tuneTo_83 : decode cX1_tuneTo 83 = .ok (.goto (-57), 3) := by decide +kernel
theorem dX1_tuneTo_86 : decode cX1_tuneTo 86 = .ok (.iinc 5 1, 3) := by decide +kernel
theorem dX1_tuneTo_89 : decode cX1_tuneTo 89 = .ok (.goto (-72), 3) := by decide +kernel
theorem dX1_tuneTo_92 : decode cX1_tuneTo 92 = .ok (.return_, 1) := by decide +kernel
theorem dX1_keepTuning_0 : decode cX1_keepTuning 0 = .ok (.aload_n 0, 1) := by decide +kernel
theorem dX1_keepTuning_1 : decode cX1_keepTuning 1 = .ok (.getfield 21, 3) := by decide +kernel
theorem dX1_keepTuning_4 : decode cX1_keepTuning 4 = .ok (.iconst 0, 1) := by decide +kernel
theorem dX1_keepTuning_5 : decode cX1_keepTuning 5 = .ok (.iload_n 1, 1) := by decide +kernel
theorem dX1_keepTuning_6 : decode cX1_keepTuning 6 = .ok (.iastore, 1) := by decide +kernel
theorem dX1_keepTuning_7 : decode cX1_keepTuning 7 = .ok (.aload_n 0, 1) := by decide +kernel
theorem dX1_keepTuning_8 : decode cX1_keepTuning 8 = .ok (.getfield 21, 3) := by decide +kernel
theorem dX1_keepTuning_11 : decode cX1_keepTuning 11 = .ok (.iconst 1, 1) := by decide +kernel
theorem dX1_keepTuning_12 : decode cX1_keepTuning 12 = .ok (.iload_n 2, 1) := by decide +kernel
theorem dX1_keepTuning_13 : decode cX1_keepTuning 13 = .ok (.iastore, 1) := by decide +kernel
theorem dX1_keepTuning_14 : decode cX1_keepTuning 14 = .ok (.aload_n 0, 1) := by decide +kernel
theorem dX1_keepTuning_15 : decode cX1_keepTuning 15 = .ok (.getfield 21, 3) := by decide +kernel
theorem dX1_keepTuning_18 : decode cX1_keepTuning 18 = .ok (.iconst 2, 1) := by decide +kernel
theorem dX1_keepTuning_19 : decode cX1_keepTuning 19 = .ok (.iload_n 3, 1) := by decide +kernel
theorem dX1_keepTuning_20 : decode cX1_keepTuning 20 = .ok (.iastore, 1) := by decide +kernel
theorem dX1_keepTuning_21 : decode cX1_keepTuning 21 = .ok (.return_, 1) := by decide +kernel
theorem dX1_tuned_0 : decode cX1_tuned 0 = .ok (.iload_n 1, 1) := by decide +kernel
theorem dX1_tuned_1 : decode cX1_tuned 1 = .ok (.iconst 0, 1) := by decide +kernel
theorem dX1_tuned_2 : decode cX1_tuned 2 = .ok (.iconst 2, 1) := by decide +kernel
theorem dX1_tuned_3 : decode cX1_tuned 3 = .ok (.invokestatic 27, 3) := by decide +kernel
theorem dX1_tuned_6 : decode cX1_tuned 6 = .ok (.ifCond .eq 12, 3) := by decide +kernel
theorem dX1_tuned_9 : decode cX1_tuned 9 = .ok (.aload_n 0, 1) := by decide +kernel
theorem dX1_tuned_10 : decode cX1_tuned 10 = .ok (.getfield 21, 3) := by decide +kernel
theorem dX1_tuned_13 : decode cX1_tuned 13 = .ok (.iload_n 1, 1) := by decide +kernel
theorem dX1_tuned_14 : decode cX1_tuned 14 = .ok (.iaload, 1) := by decide +kernel
theorem dX1_tuned_15 : decode cX1_tuned 15 = .ok (.goto 4, 3) := by decide +kernel
theorem dX1_tuned_18 : decode cX1_tuned 18 = .ok (.iconst (-1), 1) := by decide +kernel
theorem dX1_tuned_19 : decode cX1_tuned 19 = .ok (.ireturn, 1) := by decide +kernel
theorem dX1_forceAt_0 : decode cX1_forceAt 0 = .ok (.ldc2_w 113, 3) := by decide +kernel
theorem dX1_forceAt_3 : decode cX1_forceAt 3 = .ok (.aload_n 0, 1) := by decide +kernel
theorem dX1_forceAt_4 : decode cX1_forceAt 4 = .ok (.getfield 11, 3) := by decide +kernel
theorem dX1_forceAt_7 : decode cX1_forceAt 7 = .ok (.bipush 7, 2) := by decide +kernel
theorem dX1_forceAt_9 : decode cX1_forceAt 9 = .ok (.iaload, 1) := by decide +kernel
theorem dX1_forceAt_10 : decode cX1_forceAt 10 = .ok (.i2l, 1) := by decide +kernel
theorem dX1_forceAt_11 : decode cX1_forceAt 11 = .ok (.iload_n 1, 1) := by decide +kernel
theorem dX1_forceAt_12 : decode cX1_forceAt 12 = .ok (.i2l, 1) := by decide +kernel
theorem dX1_forceAt_13 : decode cX1_forceAt 13 = .ok (.lmul, 1) := by decide +kernel
theorem dX1_forceAt_14 : decode cX1_forceAt 14 = .ok (.ldc2_w 115, 3) := by decide +kernel
theorem dX1_forceAt_17 : decode cX1_forceAt 17 = .ok (.invokestatic 54, 3) := by decide +kernel
theorem dX1_forceAt_20 : decode cX1_forceAt 20 = .ok (.lconst 1, 1) := by decide +kernel
theorem dX1_forceAt_21 : decode cX1_forceAt 21 = .ok (.ladd, 1) := by decide +kernel
theorem dX1_forceAt_22 : decode cX1_forceAt 22 = .ok (.invokestatic 117, 3) := by decide +kernel
theorem dX1_forceAt_25 : decode cX1_forceAt 25 = .ok (.l2i, 1) := by decide +kernel
theorem dX1_forceAt_26 : decode cX1_forceAt 26 = .ok (.ireturn, 1) := by decide +kernel
theorem dX1_turnsOfShot_0 : decode cX1_turnsOfShot 0 = .ok (.aload_n 0, 1) := by decide +kernel
theorem dX1_turnsOfShot_1 : decode cX1_turnsOfShot 1 = .ok (.getfield 11, 3) := by decide +kernel
theorem dX1_turnsOfShot_4 : decode cX1_turnsOfShot 4 = .ok (.iconst 2, 1) := by decide +kernel
theorem dX1_turnsOfShot_5 : decode cX1_turnsOfShot 5 = .ok (.iaload, 1) := by decide +kernel
theorem dX1_turnsOfShot_6 : decode cX1_turnsOfShot 6 = .ok (.i2l, 1) := by decide +kernel
theorem dX1_turnsOfShot_7 : decode cX1_turnsOfShot 7 = .ok (.aload_n 0, 1) := by decide +kernel
theorem dX1_turnsOfShot_8 : decode cX1_turnsOfShot 8 = .ok (.getfield 11, 3) := by decide +kernel
theorem dX1_turnsOfShot_11 : decode cX1_turnsOfShot 11 = .ok (.iconst 0, 1) := by decide +kernel
theorem dX1_turnsOfShot_12 : decode cX1_turnsOfShot 12 = .ok (.iaload, 1) := by decide +kernel
theorem dX1_turnsOfShot_13 : decode cX1_turnsOfShot 13 = .ok (.i2l, 1) := by decide +kernel
theorem dX1_turnsOfShot_14 : decode cX1_turnsOfShot 14 = .ok (.lmul, 1) := by decide +kernel
theorem dX1_turnsOfShot_15 : decode cX1_turnsOfShot 15 = .ok (.ldc2_w 52, 3) := by decide +kernel
theorem dX1_turnsOfShot_18 : decode cX1_turnsOfShot 18 = .ok (.invokestatic 62, 3) := by decide +kernel
theorem dX1_turnsOfShot_21 : decode cX1_turnsOfShot 21 = .ok (.l2i, 1) := by decide +kernel
theorem dX1_turnsOfShot_22 : decode cX1_turnsOfShot 22 = .ok (.ireturn, 1) := by decide +kernel
theorem dX2_init_0 : decode cX2_init 0 = .ok (.aload_n 0, 1) := by decide +kernel
theorem dX2_init_1 : decode cX2_init 1 = .ok (.invokespecial 3, 3) := by decide +kernel
theorem dX2_init_4 : decode cX2_init 4 = .ok (.aload_n 0, 1) := by decide +kernel
theorem dX2_init_5 : decode cX2_init 5 = .ok (.iconst 5, 1) := by decide +kernel
theorem dX2_init_6 : decode cX2_init 6 = .ok (.newarray .int, 2) := by decide +kernel
theorem dX2_init_8 : decode cX2_init 8 = .ok (.dup, 1) := by decide +kernel
theorem dX2_init_9 : decode cX2_init 9 = .ok (.iconst 0, 1) := by decide +kernel
theorem dX2_init_10 : decode cX2_init 10 = .ok (.bipush 20, 2) := by decide +kernel
theorem dX2_init_12 : decode cX2_init 12 = .ok (.iastore, 1) := by decide +kernel
theorem dX2_init_13 : decode cX2_init 13 = .ok (.dup, 1) := by decide +kernel
theorem dX2_init_14 : decode cX2_init 14 = .ok (.iconst 1, 1) := by decide +kernel
theorem dX2_init_15 : decode cX2_init 15 = .ok (.bipush 100, 2) := by decide +kernel
theorem dX2_init_17 : decode cX2_init 17 = .ok (.iastore, 1) := by decide +kernel
theorem dX2_init_18 : decode cX2_init 18 = .ok (.dup, 1) := by decide +kernel
theorem dX2_init_19 : decode cX2_init 19 = .ok (.iconst 2, 1) := by decide +kernel
theorem dX2_init_20 : decode cX2_init 20 = .ok (.bipush 10, 2) := by decide +kernel
theorem dX2_init_22 : decode cX2_init 22 = .ok (.iastore, 1) := by decide +kernel
theorem dX2_init_23 : decode cX2_init 23 = .ok (.dup, 1) := by decide +kernel
theorem dX2_init_24 : decode cX2_init 24 = .ok (.iconst 3, 1) := by decide +kernel
theorem dX2_init_25 : decode cX2_init 25 = .ok (.sipush 1000, 3) := by decide +kernel
theorem dX2_init_28 : decode cX2_init 28 = .ok (.iastore, 1) := by decide +kernel
theorem dX2_init_29 : decode cX2_init 29 = .ok (.dup, 1) := by decide +kernel
theorem dX2_init_30 : decode cX2_init 30 = .ok (.iconst 4, 1) := by decide +kernel
theorem dX2_init_31 : decode cX2_init 31 = .ok (.bipush 40, 2) := by decide +kernel
theorem dX2_init_33 : decode cX2_init 33 = .ok (.iastore, 1) := by decide +kernel
theorem dX2_init_34 : decode cX2_init 34 = .ok (.putfield 9, 3) := by decide +kernel
theorem dX2_init_37 : decode cX2_init 37 = .ok (.aload_n 0, 1) := by decide +kernel
theorem dX2_init_38 : decode cX2_init 38 = .ok (.iconst 1, 1) := by decide +kernel
theorem dX2_init_39 : decode cX2_init 39 = .ok (.putfield 15, 3) := by decide +kernel
theorem dX2_init_42 : decode cX2_init 42 = .ok (.return_, 1) := by decide +kernel
theorem dX2_takes_0 : decode cX2_takes 0 = .ok (.iload_n 1, 1) := by decide +kernel
theorem dX2_takes_1 : decode cX2_takes 1 = .ok (.iconst 0, 1) := by decide +kernel
theorem dX2_takes_2 : decode cX2_takes 2 = .ok (.iconst 4, 1) := by decide +kernel
theorem dX2_takes_3 : decode cX2_takes 3 = .ok (.invokestatic 19, 3) := by decide +kernel
theorem dX2_takes_6 : decode cX2_takes 6 = .ok (.ifCond .eq 24, 3) := by decide +kernel
theorem dX2_takes_9 : decode cX2_takes 9 = .ok (.iload_n 2, 1) := by decide +kernel
theorem dX2_takes_10 : decode cX2_takes 10 = .ok (.getstatic 23, 3) := by decide +kernel
theorem dX2_takes_13 : decode cX2_takes 13 = .ok (.iload_n 1, 1) := by decide +kernel
theorem dX2_takes_14 : decode cX2_takes 14 = .ok (.iaload, 1) := by decide +kernel
theorem dX2_takes_15 : decode cX2_takes 15 = .ok (.getstatic 26, 3) := by decide +kernel
theorem dX2_takes_18 : decode cX2_takes 18 = .ok (.iload_n 1, 1) := by decide +kernel
theorem dX2_takes_19 : decode cX2_takes 19 = .ok (.iaload, 1) := by decide +kernel
theorem dX2_takes_20 : decode cX2_takes 20 = .ok (.invokestatic 19, 3) := by decide +kernel
theorem dX2_takes_23 : decode cX2_takes 23 = .ok (.ifCond .eq 7, 3) := by decide +kernel
theorem dX2_takes_26 : decode cX2_takes 26 = .ok (.iconst 1, 1) := by decide +kernel
theorem dX2_takes_27 : decode cX2_takes 27 = .ok (.goto 4, 3) := by decide +kernel
theorem dX2_takes_30 : decode cX2_takes 30 = .ok (.iconst 0, 1) := by decide +kernel
theorem dX2_takes_31 : decode cX2_takes 31 = .ok (.ireturn, 1) := by decide +kernel
theorem dX2_put_0 : decode cX2_put 0 = .ok (.aload_n 0, 1) := by decide +kernel
theorem dX2_put_1 : decode cX2_put 1 = .ok (.iload_n 1, 1) := by decide +kernel
theorem dX2_put_2 : decode cX2_put 2 = .ok (.iload_n 2, 1) := by decide +kernel
theorem dX2_put_3 : decode cX2_put 3 = .ok (.invokevirtual 29, 3) := by decide +kernel
theorem dX2_put_6 : decode cX2_put 6 = .ok (.ifCond .ne 5, 3) := by decide +kernel
theorem dX2_put_9 : decode cX2_put 9 = .ok (.iconst (-1), 1) := by decide +kernel
theorem dX2_put_10 : decode cX2_put 10 = .ok (.ireturn, 1) := by decide +kernel
theorem dX2_put_11 : decode cX2_put 11 = .ok (.aload_n 0, 1) := by decide +kernel
theorem dX2_put_12 : decode cX2_put 12 = .ok (.getfield 9, 3) := by decide +kernel
theorem dX2_put_15 : decode cX2_put 15 = .ok (.iload_n 1, 1) := by decide +kernel
theorem dX2_put_16 : decode cX2_put 16 = .ok (.iaload, 1) := by decide +kernel
theorem dX2_put_17 : decode cX2_put 17 = .ok (.istore_n 3, 1) := by decide +kernel
theorem dX2_put_18 : decode cX2_put 18 = .ok (.aload_n 0, 1) := by decide +kernel
theorem dX2_put_19 : decode cX2_put 19 = .ok (.getfield 9, 3) := by decide +kernel
theorem dX2_put_22 : decode cX2_put 22 = .ok (.iload_n 1, 1) := by decide +kernel
theorem dX2_put_23 : decode cX2_put 23 = .ok (.iload_n 2, 1) := by decide +kernel
theorem dX2_put_24 : decode cX2_put 24 = .ok (.iastore, 1) := by decide +kernel
theorem dX2_put_25 : decode cX2_put 25 = .ok (.iload_n 3, 1) := by decide +kernel
theorem dX2_put_26 : decode cX2_put 26 = .ok (.ireturn, 1) := by decide +kernel
theorem dX2_stones_0 : decode cX2_stones 0 = .ok (.aload_n 0, 1) := by decide +kernel
theorem dX2_stones_1 : decode cX2_stones 1 = .ok (.getfield 9, 3) := by decide +kernel
theorem dX2_stones_4 : decode cX2_stones 4 = .ok (.iconst 1, 1) := by decide +kernel
theorem dX2_stones_5 : decode cX2_stones 5 = .ok (.iaload, 1) := by decide +kernel
theorem dX2_stones_6 : decode cX2_stones 6 = .ok (.ireturn, 1) := by decide +kernel
theorem dX2_spendStone_0 : decode cX2_spendStone 0 = .ok (.aload_n 0, 1) := by decide +kernel
theorem dX2_spendStone_1 : decode cX2_spendStone 1 = .ok (.getfield 9, 3) := by decide +kernel
theorem dX2_spendStone_4 : decode cX2_spendStone 4 = .ok (.iconst 1, 1) := by decide +kernel
theorem dX2_spendStone_5 : decode cX2_spendStone 5 = .ok (.iconst 0, 1) := by decide +kernel
theorem dX2_spendStone_6 : decode cX2_spendStone 6 = .ok (.aload_n 0, 1) := by decide +kernel
theorem dX2_spendStone_7 : decode cX2_spendStone 7 = .ok (.getfield 9, 3) := by decide +kernel
theorem dX2_spendStone_10 : decode cX2_spendStone 10 = .ok (.iconst 1, 1) := by decide +kernel
theorem dX2_spendStone_11 : decode cX2_spendStone 11 = .ok (.iaload, 1) := by decide +kernel
theorem dX2_spendStone_12 : decode cX2_spendStone 12 = .ok (.iconst 1, 1) := by decide +kernel
theorem dX2_spendStone_13 : decode cX2_spendStone 13 = .ok (.isub, 1) := by decide +kernel
theorem dX2_spendStone_14 : decode cX2_spendStone 14 = .ok (.invokestatic 33, 3) := by decide +kernel
theorem dX2_spendStone_17 : decode cX2_spendStone 17 = .ok (.iastore, 1) := by decide +kernel
theorem dX2_spendStone_18 : decode cX2_spendStone 18 = .ok (.return_, 1) := by decide +kernel
theorem dX2_putWet_0 : decode cX2_putWet 0 = .ok (.aload_n 0, 1) := by decide +kernel
theorem dX2_putWet_1 : decode cX2_putWet 1 = .ok (.iload_n 1, 1) := by decide +kernel
theorem dX2_putWet_2 : decode cX2_putWet 2 = .ok (.putfield 15, 3) := by decide +kernel
theorem dX2_putWet_5 : decode cX2_putWet 5 = .ok (.aload_n 0, 1) := by decide +kernel
theorem dX2_putWet_6 : decode cX2_putWet 6 = .ok (.iload_n 2, 1) := by decide +kernel
theorem dX2_putWet_7 : decode cX2_putWet 7 = .ok (.putfield 39, 3) := by decide +kernel
theorem dX2_putWet_10 : decode cX2_putWet 10 = .ok (.return_, 1) := by decide +kernel
theorem dX2_isWet_0 : decode cX2_isWet 0 = .ok (.aload_n 0, 1) := by decide +kernel
theorem dX2_isWet_1 : decode cX2_isWet 1 = .ok (.getfield 15, 3) := by decide +kernel
theorem dX2_isWet_4 : decode cX2_isWet 4 = .ok (.ifCond .le 12, 3) := by decide +kernel
theorem dX2_isWet_7 : decode cX2_isWet 7 = .ok (.iload_n 1, 1) := by decide +kernel
theorem dX2_isWet_8 : decode cX2_isWet 8 = .ok (.aload_n 0, 1) := by decide +kernel
theorem dX2_isWet_9 : decode cX2_isWet 9 = .ok (.getfield 15, 3) := by decide +kernel
theorem dX2_isWet_12 : decode cX2_isWet 12 = .ok (.irem, 1) := by decide +kernel
theorem dX2_isWet_13 : decode cX2_isWet 13 = .ok (.goto 4, 3) := by decide +kernel
theorem dX2_isWet_16 : decode cX2_isWet 16 = .ok (.iconst 0, 1) := by decide +kernel
theorem dX2_isWet_17 : decode cX2_isWet 17 = .ok (.istore_n 2, 1) := by decide +kernel
theorem dX2_isWet_18 : decode cX2_isWet 18 = .ok (.aload_n 0, 1) := by decide +kernel
theorem dX2_isWet_19 : decode cX2_isWet 19 = .ok (.getfield 39, 3) := by decide +kernel
theorem dX2_isWet_22 : decode cX2_isWet 22 = .ok (.iload_n 2, 1) := by decide +kernel
theorem dX2_isWet_23 : decode cX2_isWet 23 = .ok (.ishr, 1) := by decide +kernel
theorem dX2_isWet_24 : decode cX2_isWet 24 = .ok (.iconst 1, 1) := by decide +kernel
theorem dX2_isWet_25 : decode cX2_isWet 25 = .ok (.iand, 1) := by decide +kernel
theorem dX2_isWet_26 : decode cX2_isWet 26 = .ok (.ifCond .eq 7, 3) := by decide +kernel
theorem dX2_isWet_29 : decode cX2_isWet 29 = .ok (.iconst 1, 1) := by decide +kernel
theorem dX2_isWet_30 : decode cX2_isWet 30 = .ok (.goto 4, 3) := by decide +kernel
theorem dX2_isWet_33 : decode cX2_isWet 33 = .ok (.iconst 0, 1) := by decide +kernel
theorem dX2_isWet_34 : decode cX2_isWet 34 = .ok (.ireturn, 1) := by decide +kernel
theorem dX2_wholeDays_0 : decode cX2_wholeDays 0 = .ok (.aload_n 0, 1) := by decide +kernel
theorem dX2_wholeDays_1 : decode cX2_wholeDays 1 = .ok (.getfield 9, 3) := by decide +kernel
theorem dX2_wholeDays_4 : decode cX2_wholeDays 4 = .ok (.iconst 3, 1) := by decide +kernel
theorem dX2_wholeDays_5 : decode cX2_wholeDays 5 = .ok (.iaload, 1) := by decide +kernel
theorem dX2_wholeDays_6 : decode cX2_wholeDays 6 = .ok (.istore 4, 2) := by decide +kernel
theorem dX2_wholeDays_8 : decode cX2_wholeDays 8 = .ok (.aload_n 0, 1) := by decide +kernel
theorem dX2_wholeDays_9 : decode cX2_wholeDays 9 = .ok (.getfield 9, 3) := by decide +kernel
theorem dX2_wholeDays_12 : decode cX2_wholeDays 12 = .ok (.iconst 1, 1) := by decide +kernel
theorem dX2_wholeDays_13 : decode cX2_wholeDays 13 = .ok (.iaload, 1) := by decide +kernel
theorem dX2_wholeDays_14 : decode cX2_wholeDays 14 = .ok (.istore 5, 2) := by decide +kernel
theorem dX2_wholeDays_16 : decode cX2_wholeDays 16 = .ok (.aload_n 0, 1) := by decide +kernel
theorem dX2_wholeDays_17 : decode cX2_wholeDays 17 = .ok (.getfield 9, 3) := by decide +kernel
theorem dX2_wholeDays_20 : decode cX2_wholeDays 20 = .ok (.iconst 2, 1) := by decide +kernel
theorem dX2_wholeDays_21 : decode cX2_wholeDays 21 = .ok (.iaload, 1) := by decide +kernel
theorem dX2_wholeDays_22 : decode cX2_wholeDays 22 = .ok (.istore 6, 2) := by decide +kernel
theorem dX2_wholeDays_24 : decode cX2_wholeDays 24 = .ok (.iconst 0, 1) := by decide +kernel
theorem dX2_wholeDays_25 : decode cX2_wholeDays 25 = .ok (.istore 7, 2) := by decide +kernel
theorem dX2_wholeDays_27 : decode cX2_wholeDays 27 = .ok (.iconst 0, 1) := by decide +kernel
theorem dX2_wholeDays_28 : decode cX2_wholeDays 28 = .ok (.istore 8, 2) := by decide +kernel
theorem dX2_wholeDays_30 : decode cX2_wholeDays 30 = .ok (.iload 8, 2) := by decide +kernel
theorem dX2_wholeDays_32 : decode cX2_wholeDays 32 = .ok (.iload_n 3, 1) := by decide +kernel
theorem dX2_wholeDays_33 : decode cX2_wholeDays 33 = .ok (.if_icmp .ge 141, 3) := by decide +kernel
theorem dX2_wholeDays_36 : decode cX2_wholeDays 36 = .ok (.aload_n 0, 1) := by decide +kernel
theorem dX2_wholeDays_37 : decode cX2_wholeDays 37 = .ok (.iload 8, 2) := by decide +kernel
theorem dX2_wholeDays_39 : decode cX2_wholeDays 39 = .ok (.invokevirtual 42, 3) := by decide +kernel
theorem dX2_wholeDays_42 : decode cX2_wholeDays 42 = .ok (.istore 9, 2) := by decide +kernel
theorem dX2_wholeDays_44 : decode cX2_wholeDays 44 = .ok (.iload 9, 2) := by decide +kernel
theorem dX2_wholeDays_46 : decode cX2_wholeDays 46 = .ok (.ifCond .eq 17, 3) := by decide +kernel
theorem dX2_wholeDays_49 : decode cX2_wholeDays 49 = .ok (.iload_n 2, 1) := by decide +kernel
theorem dX2_wholeDays_50 : decode cX2_wholeDays 50 = .ok (.iload_n 2, 1) := by decide +kernel
theorem dX2_wholeDays_51 : decode cX2_wholeDays 51 = .ok (.i2l, 1) := by decide +kernel
theorem dX2_wholeDays_52 : decode cX2_wholeDays 52 = .ok (.ldc2_w 46, 3) := by decide +kernel
theorem dX2_wholeDays_55 : decode cX2_wholeDays 55 = .ok (.invokestatic 48, 3) := by decide +kernel
theorem dX2_wholeDays_58 : decode cX2_wholeDays 58 = .ok (.l2i, 1) := by decide +kernel
theorem dX2_wholeDays_59 : decode cX2_wholeDays 59 = .ok (.iadd, 1) := by decide +kernel
theorem dX2_wholeDays_60 : decode cX2_wholeDays 60 = .ok (.goto 4, 3) := by decide +kernel
theorem dX2_wholeDays_63 : decode cX2_wholeDays 63 = .ok (.iload_n 2, 1) := by decide +kernel
theorem dX2_wholeDays_64 : decode cX2_wholeDays 64 = .ok (.istore 10, 2) := by decide +kernel
theorem dX2_wholeDays_66 : decode cX2_wholeDays 66 = .ok (.iload 4, 2) := by decide +kernel
theorem dX2_wholeDays_68 : decode cX2_wholeDays 68 = .ok (.aload_n 0, 1) := by decide +kernel
theorem dX2_wholeDays_69 : decode cX2_wholeDays 69 = .ok (.getfield 9, 3) := by decide +kernel
theorem dX2_wholeDays_72 : decode cX2_wholeDays 72 = .ok (.iconst 0, 1) := by decide +kernel
theorem dX2_wholeDays_73 : decode cX2_wholeDays 73 = .ok (.iaload, 1) := by decide +kernel
theorem dX2_wholeDays_74 : decode cX2_wholeDays 74 = .ok (.isub, 1) := by decide +kernel
theorem dX2_wholeDays_75 : decode cX2_wholeDays 75 = .ok (.istore 4, 2) := by decide +kernel
theorem dX2_wholeDays_77 : decode cX2_wholeDays 77 = .ok (.iload 4, 2) := by decide +kernel
theorem dX2_wholeDays_79 : decode cX2_wholeDays 79 = .ok (.ifCond .lt 25, 3) := by decide +kernel
theorem dX2_wholeDays_82 : decode cX2_wholeDays 82 = .ok (.iload_n 1, 1) := by decide +kernel
theorem dX2_wholeDays_83 : decode cX2_wholeDays 83 = .ok (.iload 10, 2) := by decide +kernel
theorem dX2_wholeDays_85 : decode cX2_wholeDays 85 = .ok (.imul, 1) := by decide +kernel
theorem dX2_wholeDays_86 : decode cX2_wholeDays 86 = .ok (.bipush 30, 2) := by decide +kernel
theorem dX2_wholeDays_88 : decode cX2_wholeDays 88 = .ok (.aload_n 0, 1) := by decide +kernel
theorem dX2_wholeDays_89 : decode cX2_wholeDays 89 = .ok (.getfield 9, 3) := by decide +kernel
theorem dX2_wholeDays_92 : decode cX2_wholeDays 92 = .ok (.iconst 0, 1) := by decide +kernel
theorem dX2_wholeDays_93 : decode cX2_wholeDays 93 = .ok (.iaload, 1) := by decide +kernel
theorem dX2_wholeDays_94 : decode cX2_wholeDays 94 = .ok (.imul, 1) := by decide +kernel
theorem dX2_wholeDays_95 : decode cX2_wholeDays 95 = .ok (.if_icmp .gt 9, 3) := by decide +kernel
theorem dX2_wholeDays_98 : decode cX2_wholeDays 98 = .ok (.iload_n 1, 1) := by decide +kernel
theorem dX2_wholeDays_99 : decode cX2_wholeDays 99 = .ok (.iload 5, 2) := by decide +kernel
theorem dX2_wholeDays_101 : decode cX2_wholeDays 101 = .ok (.if_icmp .le 6, 3) := by decide +kernel
theorem dX2_wholeDays_104 : decode cX2_wholeDays 104 = .ok (.iload 8, 2) := by decide +kernel
theorem dX2_wholeDays_106 : decode cX2_wholeDays 106 = .ok (.ireturn, 1) := by decide +kernel
theorem dX2_wholeDays_107 : decode cX2_wholeDays 107 = .ok (.iload 5, 2) := by decide +kernel
theorem dX2_wholeDays_109 : decode cX2_wholeDays 109 = .ok (.iload_n 1, 1) := by decide +kernel
theorem dX2_wholeDays_110 : decode cX2_wholeDays 110 = .ok (.isub, 1) := by decide +kernel
theorem dX2_wholeDays_111 : decode cX2_wholeDays 111 = .ok (.istore 5, 2) := by decide +kernel
theorem dX2_wholeDays_113 : decode cX2_wholeDays 113 = .ok (.iconst 0, 1) := by decide +kernel
theorem dX2_wholeDays_114 : decode cX2_wholeDays 114 = .ok (.istore 11, 2) := by decide +kernel
theorem dX2_wholeDays_116 : decode cX2_wholeDays 116 = .ok (.iload 11, 2) := by decide +kernel
theorem dX2_wholeDays_118 : decode cX2_wholeDays 118 = .ok (.iload_n 1, 1) := by decide +kernel
theorem dX2_wholeDays_119 : decode cX2_wholeDays 119 = .ok (.if_icmp .ge 41, 3) := by decide +kernel
theorem dX2_wholeDays_122 : decode cX2_wholeDays 122 = .ok (.iload 7, 2) := by decide +kernel
theorem dX2_wholeDays_124 : decode cX2_wholeDays 124 = .ok (.iload 9, 2) := by decide +kernel
theorem dX2_wholeDays_126 : decode cX2_wholeDays 126 = .ok (.ifCond .eq 7, 3) := by decide +kernel
theorem dX2_wholeDays_129 : decode cX2_wholeDays 129 = .ok (.iconst 2, 1) := by decide +kernel
theorem dX2_wholeDays_130 : decode cX2_wholeDays 130 = .ok (.goto 4, 3) := by decide +kernel
theorem dX2_wholeDays_133 : decode cX2_wholeDays 133 = .ok (.iconst 1, 1) := by decide +kernel
theorem dX2_wholeDays_134 : decode cX2_wholeDays 134 = .ok (.iadd, 1) := by decide +kernel
theorem dX2_wholeDays_135 : decode cX2_wholeDays 135 = .ok (.istore 7, 2) := by decide +kernel
theorem dX2_wholeDays_137 : decode cX2_wholeDays 137 = .ok (.iload 7, 2) := by decide +kernel
theorem dX2_wholeDays_139 : decode cX2_wholeDays 139 = .ok (.aload_n 0, 1) := by decide +kernel
theorem dX2_wholeDays_140 : decode cX2_wholeDays 140 = .ok (.getfield 9, 3) := by decide +kernel
theorem dX2_wholeDays_143 : decode cX2_wholeDays 143 = .ok (.iconst 4, 1) := by decide +kernel
theorem dX2_wholeDays_144 : decode cX2_wholeDays 144 = .ok (.iaload, 1) := by decide +kernel
theorem dX2_wholeDays_145 : decode cX2_wholeDays 145 = .ok (.if_icmp .lt 9, 3) := by decide +kernel
theorem dX2_wholeDays_148 : decode cX2_wholeDays 148 = .ok (.iconst 0, 1) := by decide +kernel
theorem dX2_wholeDays_149 : decode cX2_wholeDays 149 = .ok (.istore 7, 2) := by decide +kernel
theorem dX2_wholeDays_151 : decode cX2_wholeDays 151 = .ok (.iinc 6 (-3), 3) := by decide +kernel
theorem dX2_wholeDays_154 : decode cX2_wholeDays 154 = .ok (.iinc 11 1, 3) := by decide +kernel
theorem dX2_wholeDays_157 : decode cX2_wholeDays 157 = .ok (.goto (-41), 3) := by decide +kernel
theorem dX2_wholeDays_160 : decode cX2_wholeDays 160 = .ok (.iload 6, 2) := by decide +kernel
theorem dX2_wholeDays_162 : decode cX2_wholeDays 162 = .ok (.ifCond .ge 6, 3) := by decide +kernel
theorem dX2_wholeDays_165 : decode cX2_wholeDays 165 = .ok (.iload 8, 2) := by decide +kernel
theorem dX2_wholeDays_167 : decode cX2_wholeDays 167 = .ok (.ireturn, 1) := by decide +kernel
theorem dX2_wholeDays_168 : decode cX2_wholeDays 168 = .ok (.iinc 8 1, 3) := by decide +kernel
theorem dX2_wholeDays_171 : decode cX2_wholeDays 171 = .ok (.goto (-141), 3) := by decide +kernel
theorem dX2_wholeDays_174 : decode cX2_wholeDays 174 = .ok (.iload_n 3, 1) := by decide +kernel
theorem dX2_wholeDays_175 : decode cX2_wholeDays 175 = .ok (.ireturn, 1) := by decide +kernel
theorem dX2_bestRate_0 : decode cX2_bestRate 0 = .ok (.bipush 60, 2) := by decide +kernel
theorem dX2_bestRate_2 : decode cX2_bestRate 2 = .ok (.istore_n 3, 1) := by decide +kernel
theorem dX2_bestRate_3 : decode cX2_bestRate 3 = .ok (.iload_n 3, 1) := by decide +kernel
theorem dX2_bestRate_4 : decode cX2_bestRate 4 = .ok (.ifCond .lt 22, 3) := by decide +kernel
theorem dX2_bestRate_7 : decode cX2_bestRate 7 = .ok (.aload_n 0, 1) := by decide +kernel
theorem dX2_bestRate_8 : decode cX2_bestRate 8 = .ok (.iload_n 3, 1) := by decide +kernel
theorem dX2_bestRate_9 : decode cX2_bestRate 9 = .ok (.iload_n 2, 1) := by decide +kernel
theorem dX2_bestRate_10 : decode cX2_bestRate 10 = .ok (.iload_n 1, 1) := by decide +kernel
theorem dX2_bestRate_11 : decode cX2_bestRate 11 = .ok (.invokevirtual 52, 3) := by decide +kernel
theorem dX2_bestRate_14 : decode cX2_bestRate 14 = .ok (.iload_n 1, 1) := by decide +kernel
theorem dX2_bestRate_15 : decode cX2_bestRate 15 = .ok (.if_icmp .ne 5, 3) := by decide +kernel
theorem dX2_bestRate_18 : decode cX2_bestRate 18 = .ok (.iload_n 3, 1) := by decide +kernel
theorem dX2_bestRate_19 : decode cX2_bestRate 19 = .ok (.ireturn, 1) := by decide +kernel
theorem dX2_bestRate_20 : decode cX2_bestRate 20 = .ok (.iinc 3 (-1), 3) := by decide +kernel
theorem dX2_bestRate_23 : decode cX2_bestRate 23 = .ok (.goto (-20), 3) := by decide +kernel
theorem dX2_bestRate_26 : decode cX2_bestRate 26 = .ok (.bipush (-9), 2) := by decide +kernel
theorem dX2_bestRate_28 : decode cX2_bestRate 28 = .ok (.ireturn, 1) := by decide +kernel
theorem dX3_init_0 : decode cX3_init 0 = .ok (.aload_n 0, 1) := by decide +kernel
theorem dX3_init_1 : decode cX3_init 1 = .ok (.invokespecial 3, 3) := by decide +kernel
theorem dX3_init_4 : decode cX3_init 4 = .ok (.aload_n 0, 1) := by decide +kernel
theorem dX3_init_5 : decode cX3_init 5 = .ok (.bipush 48, 2) := by decide +kernel
theorem dX3_init_7 : decode cX3_init 7 = .ok (.newarray .int, 2) := by decide +kernel
theorem dX3_init_9 : decode cX3_init 9 = .ok (.putfield 11, 3) := by decide +kernel
theorem dX3_init_12 : decode cX3_init 12 = .ok (.aload_n 0, 1) := by decide +kernel
theorem dX3_init_13 : decode cX3_init 13 = .ok (.bipush 8, 2) := by decide +kernel
theorem dX3_init_15 : decode cX3_init 15 = .ok (.newarray .int, 2) := by decide +kernel
theorem dX3_init_17 : decode cX3_init 17 = .ok (.putfield 15, 3) := by decide +kernel
theorem dX3_init_20 : decode cX3_init 20 = .ok (.aload_n 0, 1) := by decide +kernel
theorem dX3_init_21 : decode cX3_init 21 = .ok (.bipush 8, 2) := by decide +kernel
theorem dX3_init_23 : decode cX3_init 23 = .ok (.newarray .int, 2) := by decide +kernel
theorem dX3_init_25 : decode cX3_init 25 = .ok (.putfield 18, 3) := by decide +kernel
theorem dX3_init_28 : decode cX3_init 28 = .ok (.aload_n 0, 1) := by decide +kernel
theorem dX3_init_29 : decode cX3_init 29 = .ok (.bipush 9, 2) := by decide +kernel
theorem dX3_init_31 : decode cX3_init 31 = .ok (.newarray .int, 2) := by decide +kernel
theorem dX3_init_33 : decode cX3_init 33 = .ok (.putfield 21, 3) := by decide +kernel
theorem dX3_init_36 : decode cX3_init 36 = .ok (.aload_n 0, 1) := by decide +kernel
theorem dX3_init_37 : decode cX3_init 37 = .ok (.getfield 21, 3) := by decide +kernel
theorem dX3_init_40 : decode cX3_init 40 = .ok (.iconst 4, 1) := by decide +kernel
theorem dX3_init_41 : decode cX3_init 41 = .ok (.iconst 1, 1) := by decide +kernel
theorem dX3_init_42 : decode cX3_init 42 = .ok (.iastore, 1) := by decide +kernel
theorem dX3_init_43 : decode cX3_init 43 = .ok (.aload_n 0, 1) := by decide +kernel
theorem dX3_init_44 : decode cX3_init 44 = .ok (.iconst 5, 1) := by decide +kernel
theorem dX3_init_45 : decode cX3_init 45 = .ok (.iconst 3, 1) := by decide +kernel
theorem dX3_init_46 : decode cX3_init 46 = .ok (.invokevirtual 24, 3) := by decide +kernel
theorem dX3_init_49 : decode cX3_init 49 = .ok (.return_, 1) := by decide +kernel
theorem dX3_build_0 : decode cX3_build 0 = .ok (.aload_n 0, 1) := by decide +kernel
theorem dX3_build_1 : decode cX3_build 1 = .ok (.iload_n 1, 1) := by decide +kernel
theorem dX3_build_2 : decode cX3_build 2 = .ok (.putfield 28, 3) := by decide +kernel
theorem dX3_build_5 : decode cX3_build 5 = .ok (.aload_n 0, 1) := by decide +kernel
theorem dX3_build_6 : decode cX3_build 6 = .ok (.iload_n 2, 1) := by decide +kernel
theorem dX3_build_7 : decode cX3_build 7 = .ok (.putfield 32, 3) := by decide +kernel
theorem dX3_build_10 : decode cX3_build 10 = .ok (.iconst 0, 1) := by decide +kernel
theorem dX3_build_11 : decode cX3_build 11 = .ok (.istore_n 3, 1) := by decide +kernel
theorem dX3_build_12 : decode cX3_build 12 = .ok (.iload_n 3, 1) := by decide +kernel
theorem dX3_build_13 : decode cX3_build 13 = .ok (.aload_n 0, 1) := by decide +kernel
theorem dX3_build_14 : decode cX3_build 14 = .ok (.getfield 11, 3) := by decide +kernel
theorem dX3_build_17 : decode cX3_build 17 = .ok (.arraylength, 1) := by decide +kernel
theorem dX3_build_18 : decode cX3_build 18 = .ok (.if_icmp .ge 17, 3) := by decide +kernel
theorem dX3_build_21 : decode cX3_build 21 = .ok (.aload_n 0, 1) := by decide +kernel
theorem dX3_build_22 : decode cX3_build 22 = .ok (.getfield 11, 3) := by decide +kernel
theorem dX3_build_25 : decode cX3_build 25 = .ok (.iload_n 3, 1) := by decide +kernel
theorem dX3_build_26 : decode cX3_build 26 = .ok (.bipush 10, 2) := by decide +kernel
theorem dX3_build_28 : decode cX3_build 28 = .ok (.iastore, 1) := by decide +kernel
theorem dX3_build_29 : decode cX3_build 29 = .ok (.iinc 3 1, 3) := by decide +kernel
theorem dX3_build_32 : decode cX3_build 32 = .ok (.goto (-20), 3) := by decide +kernel
theorem dX3_build_35 : decode cX3_build 35 = .ok (.iconst 0, 1) := by decide +kernel
theorem dX3_build_36 : decode cX3_build 36 = .ok (.istore_n 3, 1) := by decide +kernel
theorem dX3_build_37 : decode cX3_build 37 = .ok (.iload_n 3, 1) := by decide +kernel
theorem dX3_build_38 : decode cX3_build 38 = .ok (.bipush 8, 2) := by decide +kernel
theorem dX3_build_40 : decode cX3_build 40 = .ok (.if_icmp .ge 36, 3) := by decide +kernel
theorem dX3_build_43 : decode cX3_build 43 = .ok (.aload_n 0, 1) := by decide +kernel
theorem dX3_build_44 : decode cX3_build 44 = .ok (.getfield 15, 3) := by decide +kernel
theorem dX3_build_47 : decode cX3_build 47 = .ok (.iload_n 3, 1) := by decide +kernel
theorem dX3_build_48 : decode cX3_build 48 = .ok (.iload_n 3, 1) := by decide +kernel
theorem dX3_build_49 : decode cX3_build 49 = .ok (.iload_n 1, 1) := by decide +kernel
theorem dX3_build_50 : decode cX3_build 50 = .ok (.if_icmp .ge 11, 3) := by decide +kernel
theorem dX3_build_53 : decode cX3_build 53 = .ok (.iconst 1, 1) := by decide +kernel
theorem dX3_build_54 : decode cX3_build 54 = .ok (.iload_n 2, 1) := by decide +kernel
theorem dX3_build_55 : decode cX3_build 55 = .ok (.ishl, 1) := by decide +kernel
theorem dX3_build_56 : decode cX3_build 56 = .ok (.iconst 1, 1) := by decide +kernel
theorem dX3_build_57 : decode cX3_build 57 = .ok (.isub, 1) := by decide +kernel
theorem dX3_build_58 : decode cX3_build 58 = .ok (.goto 4, 3) := by decide +kernel
theorem dX3_build_61 : decode cX3_build 61 = .ok (.iconst 0, 1) := by decide +kernel
theorem dX3_build_62 : decode cX3_build 62 = .ok (.iastore, 1) := by decide +kernel
theorem dX3_build_63 : decode cX3_build 63 = .ok (.aload_n 0, 1) := by decide +kernel
theorem dX3_build_64 : decode cX3_build 64 = .ok (.getfield 18, 3) := by decide +kernel
theorem dX3_build_67 : decode cX3_build 67 = .ok (.iload_n 3, 1) := by decide +kernel
theorem dX3_build_68 : decode cX3_build 68 = .ok (.iconst 0, 1) := by decide +kernel
theorem dX3_build_69 : decode cX3_build 69 = .ok (.iastore, 1) := by decide +kernel
theorem dX3_build_70 : decode cX3_build 70 = .ok (.iinc 3 1, 3) := by decide +kernel
theorem dX3_build_73 : decode cX3_build 73 = .ok (.goto (-36), 3) := by decide +kernel
theorem dX3_build_76 : decode cX3_build 76 = .ok (.return_, 1) := by decide +kernel
theorem dX3_wide_0 : decode cX3_wide 0 = .ok (.aload_n 0, 1) := by decide +kernel
theorem dX3_wide_1 : decode cX3_wide 1 = .ok (.getfield 28, 3) := by decide +kernel
theorem dX3_wide_4 : decode cX3_wide 4 = .ok (.ireturn, 1) := by decide +kernel
theorem dX3_high_0 : decode cX3_high 0 = .ok (.aload_n 0, 1) := by decide +kernel
theorem dX3_high_1 : decode cX3_high 1 = .ok (.getfield 32, 3) := by decide +kernel
theorem dX3_high_4 : decode cX3_high 4 = .ok (.ireturn, 1) := by decide +kernel
theorem dX3_has_0 : decode cX3_has 0 = .ok (.iload_n 1, 1) := by decide +kernel
theorem dX3_has_1 : decode cX3_has 1 = .ok (.ifCond .lt 27, 3) := by decide +kernel
theorem dX3_has_4 : decode cX3_has 4 = .ok (.iload_n 1, 1) := by decide +kernel
theorem dX3_has_5 : decode cX3_has 5 = .ok (.aload_n 0, 1) := by decide +kernel
theorem dX3_has_6 : decode cX3_has 6 = .ok (.getfield 28, 3) := by decide +kernel
theorem dX3_has_9 : decode cX3_has 9 = .ok (.if_icmp .ge 19, 3) := by decide +kernel
theorem dX3_has_12 : decode cX3_has 12 = .ok (.iload_n 2, 1) := by decide +kernel
theorem dX3_has_13 : decode cX3_has 13 = .ok (.ifCond .lt 15, 3) := by decide +kernel
theorem dX3_has_16 : decode cX3_has 16 = .ok (.iload_n 2, 1) := by decide +kernel
theorem dX3_has_17 : decode cX3_has 17 = .ok (.aload_n 0, 1) := by decide +kernel
theorem dX3_has_18 : decode cX3_has 18 = .ok (.getfield 32, 3) := by decide +kernel
theorem dX3_has_21 : decode cX3_has 21 = .ok (.if_icmp .ge 7, 3) := by decide +kernel
theorem dX3_has_24 : decode cX3_has 24 = .ok (.iconst 1, 1) := by decide +kernel
theorem dX3_has_25 : decode cX3_has 25 = .ok (.goto 4, 3) := by decide +kernel
theorem dX3_has_28 : decode cX3_has 28 = .ok (.iconst 0, 1) := by decide +kernel
theorem dX3_has_29 : decode cX3_has 29 = .ok (.ireturn, 1) := by decide +kernel
theorem dX3_place_0 : decode cX3_place 0 = .ok (.iload_n 0, 1) := by decide +kernel
theorem dX3_place_1 : decode cX3_place 1 = .ok (.bipush 6, 2) := by decide +kernel
theorem dX3_place_3 : decode cX3_place 3 = .ok (.imul, 1) := by decide +kernel
theorem dX3_place_4 : decode cX3_place 4 = .ok (.iload_n 1, 1) := by decide +kernel
theorem dX3_place_5 : decode cX3_place 5 = .ok (.iadd, 1) := by decide +kernel
theorem dX3_place_6 : decode cX3_place 6 = .ok (.ireturn, 1) := by decide +kernel
theorem dX3_holds_0 : decode cX3_holds 0 = .ok (.iload_n 0, 1) := by decide +kernel
theorem dX3_holds_1 : decode cX3_holds 1 = .ok (.iload_n 1, 1) := by decide +kernel
theorem dX3_holds_2 : decode cX3_holds 2 = .ok (.ishr, 1) := by decide +kernel
theorem dX3_holds_3 : decode cX3_holds 3 = .ok (.iconst 1, 1) := by decide +kernel
theorem dX3_holds_4 : decode cX3_holds 4 = .ok (.iand, 1) := by decide +kernel
theorem dX3_holds_5 : decode cX3_holds 5 = .ok (.ifCond .eq 7, 3) := by decide +kernel
theorem dX3_holds_8 : decode cX3_holds 8 = .ok (.iconst 1, 1) := by decide +kernel
theorem dX3_holds_9 : decode cX3_holds 9 = .ok (.goto 4, 3) := by decide +kernel
theorem dX3_holds_12 : decode cX3_holds 12 = .ok (.iconst 0, 1) := by decide +kernel
theorem dX3_holds_13 : decode cX3_holds 13 = .ok (.ireturn, 1) := by decide +kernel
theorem dX3_stands_0 : decode cX3_stands 0 = .ok (.aload_n 0, 1) := by decide +kernel
theorem dX3_stands_1 : decode cX3_stands 1 = .ok (.iload_n 1, 1) := by decide +kernel
theorem dX3_stands_2 : decode cX3_stands 2 = .ok (.iload_n 2, 1) := by decide +kernel
theorem dX3_stands_3 : decode cX3_stands 3 = .ok (.invokevirtual 35, 3) := by decide +kernel
theorem dX3_stands_6 : decode cX3_stands 6 = .ok (.ifCond .eq 20, 3) := by decide +kernel
theorem dX3_stands_9 : decode cX3_stands 9 = .ok (.aload_n 0, 1) := by decide +kernel
theorem dX3_stands_10 : decode cX3_stands 10 = .ok (.getfield 15, 3) := by decide +kernel
theorem dX3_stands_13 : decode cX3_stands 13 = .ok (.iload_n 1, 1) := by decide +kernel
theorem dX3_stands_14 : decode cX3_stands 14 = .ok (.iaload, 1) := by decide +kernel
theorem dX3_stands_15 : decode cX3_stands 15 = .ok (.iload_n 2, 1) := by decide +kernel
theorem dX3_stands_16 : decode cX3_stands 16 = .ok (.invokestatic 39, 3) := by decide +kernel
theorem dX3_stands_19 : decode cX3_stands 19 = .ok (.ifCond .eq 7, 3) := by decide +kernel
theorem dX3_stands_22 : decode cX3_stands 22 = .ok (.iconst 1, 1) := by decide +kernel
theorem dX3_stands_23 : decode cX3_stands 23 = .ok (.goto 4, 3) := by decide +kernel
theorem dX3_stands_26 : decode cX3_stands 26 = .ok (.iconst 0, 1) := by decide +kernel
theorem dX3_stands_27 : decode cX3_stands 27 = .ok (.ireturn, 1) := by decide +kernel
theorem dX3_isPropped_0 : decode cX3_isPropped 0 = .ok (.aload_n 0, 1) := by decide +kernel
theorem dX3_isPropped_1 : decode cX3_isPropped 1 = .ok (.iload_n 1, 1) := by decide +kernel
theorem dX3_isPropped_2 : decode cX3_isPropped 2 = .ok (.iload_n 2, 1) := by decide +kernel
theorem dX3_isPropped_3 : decode cX3_isPropped 3 = .ok (.invokevirtual 35, 3) := by decide +kernel
theorem dX3_isPropped_6 : decode cX3_isPropped 6 = .ok (.ifCond .eq 20, 3) := by decide +kernel
theorem dX3_isPropped_9 : decode cX3_isPropped 9 = .ok (.aload_n 0, 1) := by decide +kernel
theorem dX3_isPropped_10 : decode cX3_isPropped 10 = .ok (.getfield 18, 3) := by decide +kernel
theorem dX3_isPropped_13 : decode cX3_isPropped 13 = .ok (.iload_n 1, 1) := by decide +kernel
theorem dX3_isPropped_14 : decode cX3_isPropped 14 = .ok (.iaload, 1) := by decide +kernel
theorem dX3_isPropped_15 : decode cX3_isPropped 15 = .ok (.iload_n 2, 1) := by decide +kernel
theorem dX3_isPropped_16 : decode cX3_isPropped 16 = .ok (.invokestatic 39, 3) := by decide +kernel
theorem dX3_isPropped_19 : decode cX3_isPropped 19 = .ok (.ifCond .eq 7, 3) := by decide +kernel
theorem dX3_isPropped_22 : decode cX3_isPropped 22 = .ok (.iconst 1, 1) := by decide +kernel
theorem dX3_isPropped_23 : decode cX3_isPropped 23 = .ok (.goto 4, 3) := by decide +kernel
theorem dX3_isPropped_26 : decode cX3_isPropped 26 = .ok (.iconst 0, 1) := by decide +kernel
theorem dX3_isPropped_27 : decode cX3_isPropped 27 = .ok (.ireturn, 1) := by decide +kernel
theorem dX3_strengthAt_0 : decode cX3_strengthAt 0 = .ok (.aload_n 0, 1) := by decide +kernel
theorem dX3_strengthAt_1 : decode cX3_strengthAt 1 = .ok (.iload_n 1, 1) := by decide +kernel
theorem dX3_strengthAt_2 : decode cX3_strengthAt 2 = .ok (.iload_n 2, 1) := by decide +kernel
theorem dX3_strengthAt_3 : decode cX3_strengthAt 3 = .ok (.invokevirtual 35, 3) := by decide +kernel
theorem dX3_strengthAt_6 : decode cX3_strengthAt 6 = .ok (.ifCond .eq 16, 3) := by decide +kernel
theorem dX3_strengthAt_9 : decode cX3_strengthAt 9 = .ok (.aload_n 0, 1) := by decide +kernel
theorem dX3_strengthAt_10 : decode cX3_strengthAt 10 = .ok (.getfield 11, 3) := by decide +kernel
theorem dX3_strengthAt_13 : decode cX3_strengthAt 13 = .ok (.iload_n 1, 1) := by decide +kernel
theorem dX3_strengthAt_14 : decode cX3_strengthAt 14 = .ok (.iload_n 2, 1) := by decide +kernel
theorem dX3_strengthAt_15 : decode cX3_strengthAt 15 = .ok (.invokestatic 42, 3) := by decide +kernel
theorem dX3_strengthAt_18 : decode cX3_strengthAt 18 = .ok (.iaload, 1) := by decide +kernel
theorem dX3_strengthAt_19 : decode cX3_strengthAt 19 = .ok (.goto 4, 3) := by decide +kernel
theorem dX3_strengthAt_22 : decode cX3_strengthAt 22 = .ok (.iconst (-1), 1) := by decide +kernel
theorem dX3_strengthAt_23 : decode cX3_strengthAt 23 = .ok (.ireturn, 1) := by decide +kernel
theorem dX3_putStrength_0 : decode cX3_putStrength 0 = .ok (.aload_n 0, 1) := by decide +kernel
theorem dX3_putStrength_1 : decode cX3_putStrength 1 = .ok (.iload_n 1, 1) := by decide +kernel
theorem dX3_putStrength_2 : decode cX3_putStrength 2 = .ok (.iload_n 2, 1) := by decide +kernel
theorem dX3_putStrength_3 : decode cX3_putStrength 3 = .ok (.invokevirtual 35, 3) := by decide +kernel
theorem dX3_putStrength_6 : decode cX3_putStrength 6 = .ok (.ifCond .ne 5, 3) := by decide +kernel
theorem dX3_putStrength_9 : decode cX3_putStrength 9 = .ok (.iconst (-1), 1) := by decide +kernel
theorem dX3_putStrength_10 : decode cX3_putStrength 10 = .ok (.ireturn, 1) := by decide +kernel
theorem dX3_putStrength_11 : decode cX3_putStrength 11 = .ok (.aload_n 0, 1) := by decide +kernel
theorem dX3_putStrength_12 : decode cX3_putStrength 12 = .ok (.getfield 11, 3) := by decide +kernel
theorem dX3_putStrength_15 : decode cX3_putStrength 15 = .ok (.iload_n 1, 1) := by decide +kernel
theorem dX3_putStrength_16 : decode cX3_putStrength 16 = .ok (.iload_n 2, 1) := by decide +kernel
theorem dX3_putStrength_17 : decode cX3_putStrength 17 = .ok (.invokestatic 42, 3) := by decide +kernel
theorem dX3_putStrength_20 : decode cX3_putStrength 20 = .ok (.iaload, 1) := by decide +kernel
theorem dX3_putStrength_21 : decode cX3_putStrength 21 = .ok (.istore 4, 2) := by decide +kernel
theorem dX3_putStrength_23 : decode cX3_putStrength 23 = .ok (.aload_n 0, 1) := by decide +kernel
theorem dX3_putStrength_24 : decode cX3_putStrength 24 = .ok (.getfield 11, 3) := by decide +kernel
theorem dX3_putStrength_27 : decode cX3_putStrength 27 = .ok (.iload_n 1, 1) := by decide +kernel
theorem dX3_putStrength_28 : decode cX3_putStrength 28 = .ok (.iload_n 2, 1) := by decide +kernel
theorem dX3_putStrength_29 : decode cX3_putStrength 29 = .ok (.invokestatic 42, 3) := by decide +kernel
theorem dX3_putStrength_32 : decode cX3_putStrength 32 = .ok (.iload_n 3, 1) := by decide +kernel
theorem dX3_putStrength_33 : decode cX3_putStrength 33 = .ok (.iastore, 1) := by decide +kernel
theorem dX3_putStrength_34 : decode cX3_putStrength 34 = .ok (.iload 4, 2) := by decide +kernel
theorem dX3_putStrength_36 : decode cX3_putStrength 36 = .ok (.ireturn, 1) := by decide +kernel
theorem dX3_putProp_0 : decode cX3_putProp 0 = .ok (.aload_n 0, 1) := by decide +kernel
theorem dX3_putProp_1 : decode cX3_putProp 1 = .ok (.iload_n 1, 1) := by decide +kernel
theorem dX3_putProp_2 : decode cX3_putProp 2 = .ok (.iload_n 2, 1) := by decide +kernel
theorem dX3_putProp_3 : decode cX3_putProp 3 = .ok (.invokevirtual 35, 3) := by decide +kernel
theorem dX3_putProp_6 : decode cX3_putProp 6 = .ok (.ifCond .ne 5, 3) := by decide +kernel
theorem dX3_putProp_9 : decode cX3_putProp 9 = .ok (.iconst (-1), 1) := by decide +kernel
theorem dX3_putProp_10 : decode cX3_putProp 10 = .ok (.ireturn, 1) := by decide +kernel
theorem dX3_putProp_11 : decode cX3_putProp 11 = .ok (.aload_n 0, 1) := by decide +kernel
theorem dX3_putProp_12 : decode cX3_putProp 12 = .ok (.getfield 18, 3) := by decide +kernel
theorem dX3_putProp_15 : decode cX3_putProp 15 = .ok (.iload_n 1, 1) := by decide +kernel
theorem dX3_putProp_16 : decode cX3_putProp 16 = .ok (.iaload, 1) := by decide +kernel
theorem dX3_putProp_17 : decode cX3_putProp 17 = .ok (.iload_n 2, 1) := by decide +kernel
end
section
theorem dX3_putProp_18 : decode cX3_putProp 18 = .ok (.invokestatic 39, 3) := by decide +kernel
theorem dX3_putProp_21 : decode cX3_putProp 21 = .ok (.ifCond .eq 7, 3) := by decide +kernel
theorem dX3_putProp_24 : decode cX3_putProp 24 = .ok (.iconst 1, 1) := by decide +kernel
theorem dX3_putProp_25 : decode cX3_putProp 25 = .ok (.goto 4, 3) := by decide +kernel
theorem dX3_putProp_28 : decode cX3_putProp 28 = .ok (.iconst 0, 1) := by decide +kernel
theorem dX3_putProp_29 : decode cX3_putProp 29 = .ok (.istore_n 3, 1) := by decide +kernel
theorem dX3_putProp_30 : decode cX3_putProp 30 = .ok (.aload_n 0, 1) := by decide +kernel
theorem dX3_putProp_31 : decode cX3_putProp 31 = .ok (.getfield 18, 3) := by decide +kernel
theorem dX3_putProp_34 : decode cX3_putProp 34 = .ok (.iload_n 1, 1) := by decide +kernel
theorem dX3_putProp_35 : decode cX3_putProp 35 = .ok (.dup2, 1) := by decide +kernel
theorem dX3_putProp_36 : decode cX3_putProp 36 = .ok (.iaload, 1) := by decide +kernel
theorem dX3_putProp_37 : decode cX3_putProp 37 = .ok (.iconst 1, 1) := by decide +kernel
theorem dX3_putProp_38 : decode cX3_putProp 38 = .ok (.iload_n 2, 1) := by decide +kernel
theorem dX3_putProp_39 : decode cX3_putProp 39 = .ok (.ishl, 1) := by decide +kernel
theorem dX3_putProp_40 : decode cX3_putProp 40 = .ok (.ior, 1) := by decide +kernel
theorem dX3_putProp_41 : decode cX3_putProp 41 = .ok (.iastore, 1) := by decide +kernel
theorem dX3_putProp_42 : decode cX3_putProp 42 = .ok (.iload_n 3, 1) := by decide +kernel
theorem dX3_putProp_43 : decode cX3_putProp 43 = .ok (.ireturn, 1) := by decide +kernel
theorem dX3_strike_0 : decode cX3_strike 0 = .ok (.aload_n 0, 1) := by decide +kernel
theorem dX3_strike_1 : decode cX3_strike 1 = .ok (.iload_n 1, 1) := by decide +kernel
theorem dX3_strike_2 : decode cX3_strike 2 = .ok (.iload_n 2, 1) := by decide +kernel
theorem dX3_strike_3 : decode cX3_strike 3 = .ok (.invokevirtual 46, 3) := by decide +kernel
theorem dX3_strike_6 : decode cX3_strike 6 = .ok (.ifCond .ne 5, 3) := by decide +kernel
theorem dX3_strike_9 : decode cX3_strike 9 = .ok (.iconst 0, 1) := by decide +kernel
theorem dX3_strike_10 : decode cX3_strike 10 = .ok (.ireturn, 1) := by decide +kernel
theorem dX3_strike_11 : decode cX3_strike 11 = .ok (.aload_n 0, 1) := by decide +kernel
theorem dX3_strike_12 : decode cX3_strike 12 = .ok (.getfield 15, 3) := by decide +kernel
theorem dX3_strike_15 : decode cX3_strike 15 = .ok (.iload_n 1, 1) := by decide +kernel
theorem dX3_strike_16 : decode cX3_strike 16 = .ok (.iaload, 1) := by decide +kernel
theorem dX3_strike_17 : decode cX3_strike 17 = .ok (.invokestatic 49, 3) := by decide +kernel
theorem dX3_strike_20 : decode cX3_strike 20 = .ok (.istore 4, 2) := by decide +kernel
theorem dX3_strike_22 : decode cX3_strike 22 = .ok (.iload_n 1, 1) := by decide +kernel
theorem dX3_strike_23 : decode cX3_strike 23 = .ok (.iload_n 2, 1) := by decide +kernel
theorem dX3_strike_24 : decode cX3_strike 24 = .ok (.invokestatic 42, 3) := by decide +kernel
theorem dX3_strike_27 : decode cX3_strike 27 = .ok (.istore 5, 2) := by decide +kernel
theorem dX3_strike_29 : decode cX3_strike 29 = .ok (.aload_n 0, 1) := by decide +kernel
theorem dX3_strike_30 : decode cX3_strike 30 = .ok (.getfield 11, 3) := by decide +kernel
theorem dX3_strike_33 : decode cX3_strike 33 = .ok (.iload 5, 2) := by decide +kernel
theorem dX3_strike_35 : decode cX3_strike 35 = .ok (.dup2, 1) := by decide +kernel
theorem dX3_strike_36 : decode cX3_strike 36 = .ok (.iaload, 1) := by decide +kernel
theorem dX3_strike_37 : decode cX3_strike 37 = .ok (.iload_n 3, 1) := by decide +kernel
theorem dX3_strike_38 : decode cX3_strike 38 = .ok (.isub, 1) := by decide +kernel
theorem dX3_strike_39 : decode cX3_strike 39 = .ok (.iastore, 1) := by decide +kernel
theorem dX3_strike_40 : decode cX3_strike 40 = .ok (.aload_n 0, 1) := by decide +kernel
theorem dX3_strike_41 : decode cX3_strike 41 = .ok (.getfield 18, 3) := by decide +kernel
theorem dX3_strike_44 : decode cX3_strike 44 = .ok (.iload_n 1, 1) := by decide +kernel
theorem dX3_strike_45 : decode cX3_strike 45 = .ok (.dup2, 1) := by decide +kernel
theorem dX3_strike_46 : decode cX3_strike 46 = .ok (.iaload, 1) := by decide +kernel
theorem dX3_strike_47 : decode cX3_strike 47 = .ok (.iconst 1, 1) := by decide +kernel
theorem dX3_strike_48 : decode cX3_strike 48 = .ok (.iload_n 2, 1) := by decide +kernel
theorem dX3_strike_49 : decode cX3_strike 49 = .ok (.ishl, 1) := by decide +kernel
theorem dX3_strike_50 : decode cX3_strike 50 = .ok (.iconst (-1), 1) := by decide +kernel
theorem dX3_strike_51 : decode cX3_strike 51 = .ok (.ixor, 1) := by decide +kernel
theorem dX3_strike_52 : decode cX3_strike 52 = .ok (.iand, 1) := by decide +kernel
theorem dX3_strike_53 : decode cX3_strike 53 = .ok (.iastore, 1) := by decide +kernel
theorem dX3_strike_54 : decode cX3_strike 54 = .ok (.aload_n 0, 1) := by decide +kernel
theorem dX3_strike_55 : decode cX3_strike 55 = .ok (.getfield 11, 3) := by decide +kernel
theorem dX3_strike_58 : decode cX3_strike 58 = .ok (.iload 5, 2) := by decide +kernel
theorem dX3_strike_60 : decode cX3_strike 60 = .ok (.iaload, 1) := by decide +kernel
theorem dX3_strike_61 : decode cX3_strike 61 = .ok (.ifCond .gt 17, 3) := by decide +kernel
theorem dX3_strike_64 : decode cX3_strike 64 = .ok (.aload_n 0, 1) := by decide +kernel
theorem dX3_strike_65 : decode cX3_strike 65 = .ok (.getfield 15, 3) := by decide +kernel
theorem dX3_strike_68 : decode cX3_strike 68 = .ok (.iload_n 1, 1) := by decide +kernel
theorem dX3_strike_69 : decode cX3_strike 69 = .ok (.dup2, 1) := by decide +kernel
theorem dX3_strike_70 : decode cX3_strike 70 = .ok (.iaload, 1) := by decide +kernel
theorem dX3_strike_71 : decode cX3_strike 71 = .ok (.iconst 1, 1) := by decide +kernel
theorem dX3_strike_72 : decode cX3_strike 72 = .ok (.iload_n 2, 1) := by decide +kernel
theorem dX3_strike_73 : decode cX3_strike 73 = .ok (.ishl, 1) := by decide +kernel
theorem dX3_strike_74 : decode cX3_strike 74 = .ok (.iconst (-1), 1) := by decide +kernel
theorem dX3_strike_75 : decode cX3_strike 75 = .ok (.ixor, 1) := by decide +kernel
theorem dX3_strike_76 : decode cX3_strike 76 = .ok (.iand, 1) := by decide +kernel
theorem dX3_strike_77 : decode cX3_strike 77 = .ok (.iastore, 1) := by decide +kernel
theorem dX3_strike_78 : decode cX3_strike 78 = .ok (.aload_n 0, 1) := by decide +kernel
theorem dX3_strike_79 : decode cX3_strike 79 = .ok (.iload_n 1, 1) := by decide +kernel
theorem dX3_strike_80 : decode cX3_strike 80 = .ok (.invokevirtual 55, 3) := by decide +kernel
theorem dX3_strike_83 : decode cX3_strike 83 = .ok (.iload 4, 2) := by decide +kernel
theorem dX3_strike_85 : decode cX3_strike 85 = .ok (.aload_n 0, 1) := by decide +kernel
theorem dX3_strike_86 : decode cX3_strike 86 = .ok (.getfield 15, 3) := by decide +kernel
theorem dX3_strike_89 : decode cX3_strike 89 = .ok (.iload_n 1, 1) := by decide +kernel
theorem dX3_strike_90 : decode cX3_strike 90 = .ok (.iaload, 1) := by decide +kernel
theorem dX3_strike_91 : decode cX3_strike 91 = .ok (.invokestatic 49, 3) := by decide +kernel
theorem dX3_strike_94 : decode cX3_strike 94 = .ok (.isub, 1) := by decide +kernel
theorem dX3_strike_95 : decode cX3_strike 95 = .ok (.ireturn, 1) := by decide +kernel
theorem dX3_dropUnheld_0 : decode cX3_dropUnheld 0 = .ok (.iconst 1, 1) := by decide +kernel
theorem dX3_dropUnheld_1 : decode cX3_dropUnheld 1 = .ok (.istore_n 2, 1) := by decide +kernel
theorem dX3_dropUnheld_2 : decode cX3_dropUnheld 2 = .ok (.iload_n 2, 1) := by decide +kernel
theorem dX3_dropUnheld_3 : decode cX3_dropUnheld 3 = .ok (.aload_n 0, 1) := by decide +kernel
theorem dX3_dropUnheld_4 : decode cX3_dropUnheld 4 = .ok (.getfield 32, 3) := by decide +kernel
theorem dX3_dropUnheld_7 : decode cX3_dropUnheld 7 = .ok (.if_icmp .ge 51, 3) := by decide +kernel
theorem dX3_dropUnheld_10 : decode cX3_dropUnheld 10 = .ok (.aload_n 0, 1) := by decide +kernel
theorem dX3_dropUnheld_11 : decode cX3_dropUnheld 11 = .ok (.getfield 15, 3) := by decide +kernel
theorem dX3_dropUnheld_14 : decode cX3_dropUnheld 14 = .ok (.iload_n 1, 1) := by decide +kernel
theorem dX3_dropUnheld_15 : decode cX3_dropUnheld 15 = .ok (.iaload, 1) := by decide +kernel
theorem dX3_dropUnheld_16 : decode cX3_dropUnheld 16 = .ok (.iload_n 2, 1) := by decide +kernel
theorem dX3_dropUnheld_17 : decode cX3_dropUnheld 17 = .ok (.iconst 1, 1) := by decide +kernel
theorem dX3_dropUnheld_18 : decode cX3_dropUnheld 18 = .ok (.isub, 1) := by decide +kernel
theorem dX3_dropUnheld_19 : decode cX3_dropUnheld 19 = .ok (.invokestatic 39, 3) := by decide +kernel
theorem dX3_dropUnheld_22 : decode cX3_dropUnheld 22 = .ok (.ifCond .ne 30, 3) := by decide +kernel
theorem dX3_dropUnheld_25 : decode cX3_dropUnheld 25 = .ok (.aload_n 0, 1) := by decide +kernel
theorem dX3_dropUnheld_26 : decode cX3_dropUnheld 26 = .ok (.getfield 18, 3) := by decide +kernel
theorem dX3_dropUnheld_29 : decode cX3_dropUnheld 29 = .ok (.iload_n 1, 1) := by decide +kernel
theorem dX3_dropUnheld_30 : decode cX3_dropUnheld 30 = .ok (.iaload, 1) := by decide +kernel
theorem dX3_dropUnheld_31 : decode cX3_dropUnheld 31 = .ok (.iload_n 2, 1) := by decide +kernel
theorem dX3_dropUnheld_32 : decode cX3_dropUnheld 32 = .ok (.invokestatic 39, 3) := by decide +kernel
theorem dX3_dropUnheld_35 : decode cX3_dropUnheld 35 = .ok (.ifCond .ne 17, 3) := by decide +kernel
theorem dX3_dropUnheld_38 : decode cX3_dropUnheld 38 = .ok (.aload_n 0, 1) := by decide +kernel
theorem dX3_dropUnheld_39 : decode cX3_dropUnheld 39 = .ok (.getfield 15, 3) := by decide +kernel
theorem dX3_dropUnheld_42 : decode cX3_dropUnheld 42 = .ok (.iload_n 1, 1) := by decide +kernel
theorem dX3_dropUnheld_43 : decode cX3_dropUnheld 43 = .ok (.dup2, 1) := by decide +kernel
theorem dX3_dropUnheld_44 : decode cX3_dropUnheld 44 = .ok (.iaload, 1) := by decide +kernel
theorem dX3_dropUnheld_45 : decode cX3_dropUnheld 45 = .ok (.iconst 1, 1) := by decide +kernel
theorem dX3_dropUnheld_46 : decode cX3_dropUnheld 46 = .ok (.iload_n 2, 1) := by decide +kernel
theorem dX3_dropUnheld_47 : decode cX3_dropUnheld 47 = .ok (.ishl, 1) := by decide +kernel
theorem dX3_dropUnheld_48 : decode cX3_dropUnheld 48 = .ok (.iconst (-1), 1) := by decide +kernel
theorem dX3_dropUnheld_49 : decode cX3_dropUnheld 49 = .ok (.ixor, 1) := by decide +kernel
theorem dX3_dropUnheld_50 : decode cX3_dropUnheld 50 = .ok (.iand, 1) := by decide +kernel
theorem dX3_dropUnheld_51 : decode cX3_dropUnheld 51 = .ok (.iastore, 1) := by decide +kernel
theorem dX3_dropUnheld_52 : decode cX3_dropUnheld 52 = .ok (.iinc 2 1, 3) := by decide +kernel
theorem dX3_dropUnheld_55 : decode cX3_dropUnheld 55 = .ok (.goto (-53), 3) := by decide +kernel
theorem dX3_dropUnheld_58 : decode cX3_dropUnheld 58 = .ok (.return_, 1) := by decide +kernel
theorem dX3_putLevel_0 : decode cX3_putLevel 0 = .ok (.aload_n 0, 1) := by decide +kernel
theorem dX3_putLevel_1 : decode cX3_putLevel 1 = .ok (.getfield 59, 3) := by decide +kernel
theorem dX3_putLevel_4 : decode cX3_putLevel 4 = .ok (.istore_n 2, 1) := by decide +kernel
theorem dX3_putLevel_5 : decode cX3_putLevel 5 = .ok (.aload_n 0, 1) := by decide +kernel
theorem dX3_putLevel_6 : decode cX3_putLevel 6 = .ok (.iload_n 1, 1) := by decide +kernel
theorem dX3_putLevel_7 : decode cX3_putLevel 7 = .ok (.putfield 59, 3) := by decide +kernel
theorem dX3_putLevel_10 : decode cX3_putLevel 10 = .ok (.iload_n 2, 1) := by decide +kernel
theorem dX3_putLevel_11 : decode cX3_putLevel 11 = .ok (.ireturn, 1) := by decide +kernel
theorem dX3_isOpen_0 : decode cX3_isOpen 0 = .ok (.aload_n 0, 1) := by decide +kernel
theorem dX3_isOpen_1 : decode cX3_isOpen 1 = .ok (.getfield 15, 3) := by decide +kernel
theorem dX3_isOpen_4 : decode cX3_isOpen 4 = .ok (.iload_n 1, 1) := by decide +kernel
theorem dX3_isOpen_5 : decode cX3_isOpen 5 = .ok (.iaload, 1) := by decide +kernel
theorem dX3_isOpen_6 : decode cX3_isOpen 6 = .ok (.invokestatic 49, 3) := by decide +kernel
theorem dX3_isOpen_9 : decode cX3_isOpen 9 = .ok (.aload_n 0, 1) := by decide +kernel
theorem dX3_isOpen_10 : decode cX3_isOpen 10 = .ok (.getfield 59, 3) := by decide +kernel
theorem dX3_isOpen_13 : decode cX3_isOpen 13 = .ok (.if_icmp .gt 7, 3) := by decide +kernel
theorem dX3_isOpen_16 : decode cX3_isOpen 16 = .ok (.iconst 1, 1) := by decide +kernel
theorem dX3_isOpen_17 : decode cX3_isOpen 17 = .ok (.goto 4, 3) := by decide +kernel
theorem dX3_isOpen_20 : decode cX3_isOpen 20 = .ok (.iconst 0, 1) := by decide +kernel
theorem dX3_isOpen_21 : decode cX3_isOpen 21 = .ok (.ireturn, 1) := by decide +kernel
theorem dX3_firstOpen_0 : decode cX3_firstOpen 0 = .ok (.iconst 0, 1) := by decide +kernel
theorem dX3_firstOpen_1 : decode cX3_firstOpen 1 = .ok (.istore_n 1, 1) := by decide +kernel
theorem dX3_firstOpen_2 : decode cX3_firstOpen 2 = .ok (.iload_n 1, 1) := by decide +kernel
theorem dX3_firstOpen_3 : decode cX3_firstOpen 3 = .ok (.aload_n 0, 1) := by decide +kernel
theorem dX3_firstOpen_4 : decode cX3_firstOpen 4 = .ok (.getfield 28, 3) := by decide +kernel
theorem dX3_firstOpen_7 : decode cX3_firstOpen 7 = .ok (.if_icmp .ge 19, 3) := by decide +kernel
theorem dX3_firstOpen_10 : decode cX3_firstOpen 10 = .ok (.aload_n 0, 1) := by decide +kernel
theorem dX3_firstOpen_11 : decode cX3_firstOpen 11 = .ok (.iload_n 1, 1) := by decide +kernel
theorem dX3_firstOpen_12 : decode cX3_firstOpen 12 = .ok (.invokevirtual 62, 3) := by decide +kernel
theorem dX3_firstOpen_15 : decode cX3_firstOpen 15 = .ok (.ifCond .eq 5, 3) := by decide +kernel
theorem dX3_firstOpen_18 : decode cX3_firstOpen 18 = .ok (.iload_n 1, 1) := by decide +kernel
theorem dX3_firstOpen_19 : decode cX3_firstOpen 19 = .ok (.ireturn, 1) := by decide +kernel
theorem dX3_firstOpen_20 : decode cX3_firstOpen 20 = .ok (.iinc 1 1, 3) := by decide +kernel
theorem dX3_firstOpen_23 : decode cX3_firstOpen 23 = .ok (.goto (-21), 3) := by decide +kernel
theorem dX3_firstOpen_26 : decode cX3_firstOpen 26 = .ok (.bipush (-9), 2) := by decide +kernel
theorem dX3_firstOpen_28 : decode cX3_firstOpen 28 = .ok (.ireturn, 1) := by decide +kernel
theorem dX3_openColumns_0 : decode cX3_openColumns 0 = .ok (.iconst 0, 1) := by decide +kernel
theorem dX3_openColumns_1 : decode cX3_openColumns 1 = .ok (.istore_n 1, 1) := by decide +kernel
theorem dX3_openColumns_2 : decode cX3_openColumns 2 = .ok (.iconst 0, 1) := by decide +kernel
theorem dX3_openColumns_3 : decode cX3_openColumns 3 = .ok (.istore_n 2, 1) := by decide +kernel
theorem dX3_openColumns_4 : decode cX3_openColumns 4 = .ok (.iload_n 2, 1) := by decide +kernel
theorem dX3_openColumns_5 : decode cX3_openColumns 5 = .ok (.aload_n 0, 1) := by decide +kernel
theorem dX3_openColumns_6 : decode cX3_openColumns 6 = .ok (.getfield 28, 3) := by decide +kernel
theorem dX3_openColumns_9 : decode cX3_openColumns 9 = .ok (.if_icmp .ge 25, 3) := by decide +kernel
theorem dX3_openColumns_12 : decode cX3_openColumns 12 = .ok (.iload_n 1, 1) := by decide +kernel
theorem dX3_openColumns_13 : decode cX3_openColumns 13 = .ok (.aload_n 0, 1) := by decide +kernel
theorem dX3_openColumns_14 : decode cX3_openColumns 14 = .ok (.iload_n 2, 1) := by decide +kernel
theorem dX3_openColumns_15 : decode cX3_openColumns 15 = .ok (.invokevirtual 62, 3) := by decide +kernel
theorem dX3_openColumns_18 : decode cX3_openColumns 18 = .ok (.ifCond .eq 7, 3) := by decide +kernel
theorem dX3_openColumns_21 : decode cX3_openColumns 21 = .ok (.iconst 1, 1) := by decide +kernel
theorem dX3_openColumns_22 : decode cX3_openColumns 22 = .ok (.goto 4, 3) := by decide +kernel
theorem dX3_openColumns_25 : decode cX3_openColumns 25 = .ok (.iconst 0, 1) := by decide +kernel
theorem dX3_openColumns_26 : decode cX3_openColumns 26 = .ok (.iadd, 1) := by decide +kernel
theorem dX3_openColumns_27 : decode cX3_openColumns 27 = .ok (.istore_n 1, 1) := by decide +kernel
theorem dX3_openColumns_28 : decode cX3_openColumns 28 = .ok (.iinc 2 1, 3) := by decide +kernel
theorem dX3_openColumns_31 : decode cX3_openColumns 31 = .ok (.goto (-27), 3) := by decide +kernel
theorem dX3_openColumns_34 : decode cX3_openColumns 34 = .ok (.iload_n 1, 1) := by decide +kernel
theorem dX3_openColumns_35 : decode cX3_openColumns 35 = .ok (.ireturn, 1) := by decide +kernel
theorem dX3_standingCells_0 : decode cX3_standingCells 0 = .ok (.iconst 0, 1) := by decide +kernel
theorem dX3_standingCells_1 : decode cX3_standingCells 1 = .ok (.istore_n 1, 1) := by decide +kernel
theorem dX3_standingCells_2 : decode cX3_standingCells 2 = .ok (.iconst 0, 1) := by decide +kernel
theorem dX3_standingCells_3 : decode cX3_standingCells 3 = .ok (.istore_n 2, 1) := by decide +kernel
theorem dX3_standingCells_4 : decode cX3_standingCells 4 = .ok (.iload_n 2, 1) := by decide +kernel
theorem dX3_standingCells_5 : decode cX3_standingCells 5 = .ok (.aload_n 0, 1) := by decide +kernel
theorem dX3_standingCells_6 : decode cX3_standingCells 6 = .ok (.getfield 28, 3) := by decide +kernel
theorem dX3_standingCells_9 : decode cX3_standingCells 9 = .ok (.if_icmp .ge 21, 3) := by decide +kernel
theorem dX3_standingCells_12 : decode cX3_standingCells 12 = .ok (.iload_n 1, 1) := by decide +kernel
theorem dX3_standingCells_13 : decode cX3_standingCells 13 = .ok (.aload_n 0, 1) := by decide +kernel
theorem dX3_standingCells_14 : decode cX3_standingCells 14 = .ok (.getfield 15, 3) := by decide +kernel
theorem dX3_standingCells_17 : decode cX3_standingCells 17 = .ok (.iload_n 2, 1) := by decide +kernel
theorem dX3_standingCells_18 : decode cX3_standingCells 18 = .ok (.iaload, 1) := by decide +kernel
theorem dX3_standingCells_19 : decode cX3_standingCells 19 = .ok (.invokestatic 49, 3) := by decide +kernel
theorem dX3_standingCells_22 : decode cX3_standingCells 22 = .ok (.iadd, 1) := by decide +kernel
theorem dX3_standingCells_23 : decode cX3_standingCells 23 = .ok (.istore_n 1, 1) := by decide +kernel
theorem dX3_standingCells_24 : decode cX3_standingCells 24 = .ok (.iinc 2 1, 3) := by decide +kernel
theorem dX3_standingCells_27 : decode cX3_standingCells 27 = .ok (.goto (-23), 3) := by decide +kernel
theorem dX3_standingCells_30 : decode cX3_standingCells 30 = .ok (.iload_n 1, 1) := by decide +kernel
theorem dX3_standingCells_31 : decode cX3_standingCells 31 = .ok (.ireturn, 1) := by decide +kernel
theorem dX3_soonestColumn_0 : decode cX3_soonestColumn 0 = .ok (.iconst 0, 1) := by decide +kernel
theorem dX3_soonestColumn_1 : decode cX3_soonestColumn 1 = .ok (.istore_n 2, 1) := by decide +kernel
theorem dX3_soonestColumn_2 : decode cX3_soonestColumn 2 = .ok (.iconst 1, 1) := by decide +kernel
theorem dX3_soonestColumn_3 : decode cX3_soonestColumn 3 = .ok (.istore_n 3, 1) := by decide +kernel
theorem dX3_soonestColumn_4 : decode cX3_soonestColumn 4 = .ok (.iload_n 3, 1) := by decide +kernel
theorem dX3_soonestColumn_5 : decode cX3_soonestColumn 5 = .ok (.aload_n 0, 1) := by decide +kernel
theorem dX3_soonestColumn_6 : decode cX3_soonestColumn 6 = .ok (.getfield 28, 3) := by decide +kernel
theorem dX3_soonestColumn_9 : decode cX3_soonestColumn 9 = .ok (.if_icmp .ge 26, 3) := by decide +kernel
theorem dX3_soonestColumn_12 : decode cX3_soonestColumn 12 = .ok (.aload_n 0, 1) := by decide +kernel
theorem dX3_soonestColumn_13 : decode cX3_soonestColumn 13 = .ok (.iload_n 3, 1) := by decide +kernel
theorem dX3_soonestColumn_14 : decode cX3_soonestColumn 14 = .ok (.iload_n 1, 1) := by decide +kernel
theorem dX3_soonestColumn_15 : decode cX3_soonestColumn 15 = .ok (.invokevirtual 66, 3) := by decide +kernel
theorem dX3_soonestColumn_18 : decode cX3_soonestColumn 18 = .ok (.aload_n 0, 1) := by decide +kernel
theorem dX3_soonestColumn_19 : decode cX3_soonestColumn 19 = .ok (.iload_n 2, 1) := by decide +kernel
theorem dX3_soonestColumn_20 : decode cX3_soonestColumn 20 = .ok (.iload_n 1, 1) := by decide +kernel
theorem dX3_soonestColumn_21 : decode cX3_soonestColumn 21 = .ok (.invokevirtual 66, 3) := by decide +kernel
theorem dX3_soonestColumn_24 : decode cX3_soonestColumn 24 = .ok (.if_icmp .ge 5, 3) := by decide +kernel
theorem dX3_soonestColumn_27 : decode cX3_soonestColumn 27 = .ok (.iload_n 3, 1) := by decide +kernel
theorem dX3_soonestColumn_28 : decode cX3_soonestColumn 28 = .ok (.istore_n 2, 1) := by decide +kernel
theorem dX3_soonestColumn_29 : decode cX3_soonestColumn 29 = .ok (.iinc 3 1, 3) := by decide +kernel
theorem dX3_soonestColumn_32 : decode cX3_soonestColumn 32 = .ok (.goto (-28), 3) := by decide +kernel
theorem dX3_soonestColumn_35 : decode cX3_soonestColumn 35 = .ok (.iload_n 2, 1) := by decide +kernel
theorem dX3_soonestColumn_36 : decode cX3_soonestColumn 36 = .ok (.ireturn, 1) := by decide +kernel
theorem dX3_hitsToOpen_0 : decode cX3_hitsToOpen 0 = .ok (.iload_n 1, 1) := by decide +kernel
theorem dX3_hitsToOpen_1 : decode cX3_hitsToOpen 1 = .ok (.iconst 0, 1) := by decide +kernel
theorem dX3_hitsToOpen_2 : decode cX3_hitsToOpen 2 = .ok (.aload_n 0, 1) := by decide +kernel
theorem dX3_hitsToOpen_3 : decode cX3_hitsToOpen 3 = .ok (.getfield 28, 3) := by decide +kernel
theorem dX3_hitsToOpen_6 : decode cX3_hitsToOpen 6 = .ok (.iconst 1, 1) := by decide +kernel
theorem dX3_hitsToOpen_7 : decode cX3_hitsToOpen 7 = .ok (.isub, 1) := by decide +kernel
theorem dX3_hitsToOpen_8 : decode cX3_hitsToOpen 8 = .ok (.invokestatic 69, 3) := by decide +kernel
theorem dX3_hitsToOpen_11 : decode cX3_hitsToOpen 11 = .ok (.ifCond .ne 5, 3) := by decide +kernel
theorem dX3_hitsToOpen_14 : decode cX3_hitsToOpen 14 = .ok (.iconst (-1), 1) := by decide +kernel
theorem dX3_hitsToOpen_15 : decode cX3_hitsToOpen 15 = .ok (.ireturn, 1) := by decide +kernel
theorem dX3_hitsToOpen_16 : decode cX3_hitsToOpen 16 = .ok (.ldc 73, 2) := by decide +kernel
theorem dX3_hitsToOpen_18 : decode cX3_hitsToOpen 18 = .ok (.istore_n 3, 1) := by decide +kernel
theorem dX3_hitsToOpen_19 : decode cX3_hitsToOpen 19 = .ok (.iconst 0, 1) := by decide +kernel
theorem dX3_hitsToOpen_20 : decode cX3_hitsToOpen 20 = .ok (.istore 4, 2) := by decide +kernel
theorem dX3_hitsToOpen_22 : decode cX3_hitsToOpen 22 = .ok (.iload 4, 2) := by decide +kernel
theorem dX3_hitsToOpen_24 : decode cX3_hitsToOpen 24 = .ok (.iconst 1, 1) := by decide +kernel
theorem dX3_hitsToOpen_25 : decode cX3_hitsToOpen 25 = .ok (.aload_n 0, 1) := by decide +kernel
theorem dX3_hitsToOpen_26 : decode cX3_hitsToOpen 26 = .ok (.getfield 32, 3) := by decide +kernel
theorem dX3_hitsToOpen_29 : decode cX3_hitsToOpen 29 = .ok (.ishl, 1) := by decide +kernel
theorem dX3_hitsToOpen_30 : decode cX3_hitsToOpen 30 = .ok (.if_icmp .ge 60, 3) := by decide +kernel
theorem dX3_hitsToOpen_33 : decode cX3_hitsToOpen 33 = .ok (.iload 4, 2) := by decide +kernel
theorem dX3_hitsToOpen_35 : decode cX3_hitsToOpen 35 = .ok (.aload_n 0, 1) := by decide +kernel
theorem dX3_hitsToOpen_36 : decode cX3_hitsToOpen 36 = .ok (.getfield 15, 3) := by decide +kernel
theorem dX3_hitsToOpen_39 : decode cX3_hitsToOpen 39 = .ok (.iload_n 1, 1) := by decide +kernel
theorem dX3_hitsToOpen_40 : decode cX3_hitsToOpen 40 = .ok (.iaload, 1) := by decide +kernel
theorem dX3_hitsToOpen_41 : decode cX3_hitsToOpen 41 = .ok (.iconst (-1), 1) := by decide +kernel
theorem dX3_hitsToOpen_42 : decode cX3_hitsToOpen 42 = .ok (.ixor, 1) := by decide +kernel
theorem dX3_hitsToOpen_43 : decode cX3_hitsToOpen 43 = .ok (.iand, 1) := by decide +kernel
theorem dX3_hitsToOpen_44 : decode cX3_hitsToOpen 44 = .ok (.ifCond .ne 7, 3) := by decide +kernel
theorem dX3_hitsToOpen_47 : decode cX3_hitsToOpen 47 = .ok (.iconst 1, 1) := by decide +kernel
theorem dX3_hitsToOpen_48 : decode cX3_hitsToOpen 48 = .ok (.goto 4, 3) := by decide +kernel
theorem dX3_hitsToOpen_51 : decode cX3_hitsToOpen 51 = .ok (.iconst 0, 1) := by decide +kernel
theorem dX3_hitsToOpen_52 : decode cX3_hitsToOpen 52 = .ok (.istore 5, 2) := by decide +kernel
theorem dX3_hitsToOpen_54 : decode cX3_hitsToOpen 54 = .ok (.iload 5, 2) := by decide +kernel
theorem dX3_hitsToOpen_56 : decode cX3_hitsToOpen 56 = .ok (.ifCond .eq 28, 3) := by decide +kernel
theorem dX3_hitsToOpen_59 : decode cX3_hitsToOpen 59 = .ok (.iload 4, 2) := by decide +kernel
theorem dX3_hitsToOpen_61 : decode cX3_hitsToOpen 61 = .ok (.invokestatic 49, 3) := by decide +kernel
theorem dX3_hitsToOpen_64 : decode cX3_hitsToOpen 64 = .ok (.aload_n 0, 1) := by decide +kernel
theorem dX3_hitsToOpen_65 : decode cX3_hitsToOpen 65 = .ok (.getfield 59, 3) := by decide +kernel
theorem dX3_hitsToOpen_68 : decode cX3_hitsToOpen 68 = .ok (.if_icmp .gt 16, 3) := by decide +kernel
theorem dX3_hitsToOpen_71 : decode cX3_hitsToOpen 71 = .ok (.iload_n 3, 1) := by decide +kernel
theorem dX3_hitsToOpen_72 : decode cX3_hitsToOpen 72 = .ok (.aload_n 0, 1) := by decide +kernel
theorem dX3_hitsToOpen_73 : decode cX3_hitsToOpen 73 = .ok (.iload_n 1, 1) := by decide +kernel
theorem dX3_hitsToOpen_74 : decode cX3_hitsToOpen 74 = .ok (.iload 4, 2) := by decide +kernel
theorem dX3_hitsToOpen_76 : decode cX3_hitsToOpen 76 = .ok (.iload_n 2, 1) := by decide +kernel
theorem dX3_hitsToOpen_77 : decode cX3_hitsToOpen 77 = .ok (.invokevirtual 74, 3) := by decide +kernel
theorem dX3_hitsToOpen_80 : decode cX3_hitsToOpen 80 = .ok (.invokestatic 78, 3) := by decide +kernel
theorem dX3_hitsToOpen_83 : decode cX3_hitsToOpen 83 = .ok (.istore_n 3, 1) := by decide +kernel
theorem dX3_hitsToOpen_84 : decode cX3_hitsToOpen 84 = .ok (.iinc 4 1, 3) := by decide +kernel
theorem dX3_hitsToOpen_87 : decode cX3_hitsToOpen 87 = .ok (.goto (-65), 3) := by decide +kernel
theorem dX3_hitsToOpen_90 : decode cX3_hitsToOpen 90 = .ok (.iload_n 3, 1) := by decide +kernel
theorem dX3_hitsToOpen_91 : decode cX3_hitsToOpen 91 = .ok (.ireturn, 1) := by decide +kernel
theorem dX3_hitsToKeep_0 : decode cX3_hitsToKeep 0 = .ok (.iconst 0, 1) := by decide +kernel
theorem dX3_hitsToKeep_1 : decode cX3_hitsToKeep 1 = .ok (.istore 4, 2) := by decide +kernel
theorem dX3_hitsToKeep_3 : decode cX3_hitsToKeep 3 = .ok (.iconst 0, 1) := by decide +kernel
theorem dX3_hitsToKeep_4 : decode cX3_hitsToKeep 4 = .ok (.istore 5, 2) := by decide +kernel
theorem dX3_hitsToKeep_6 : decode cX3_hitsToKeep 6 = .ok (.iload 5, 2) := by decide +kernel
theorem dX3_hitsToKeep_8 : decode cX3_hitsToKeep 8 = .ok (.aload_n 0, 1) := by decide +kernel
theorem dX3_hitsToKeep_9 : decode cX3_hitsToKeep 9 = .ok (.getfield 32, 3) := by decide +kernel
theorem dX3_hitsToKeep_12 : decode cX3_hitsToKeep 12 = .ok (.if_icmp .ge 135, 3) := by decide +kernel
theorem dX3_hitsToKeep_15 : decode cX3_hitsToKeep 15 = .ok (.iload 5, 2) := by decide +kernel
theorem dX3_hitsToKeep_17 : decode cX3_hitsToKeep 17 = .ok (.ifCond .le 18, 3) := by decide +kernel
theorem dX3_hitsToKeep_20 : decode cX3_hitsToKeep 20 = .ok (.iload_n 2, 1) := by decide +kernel
theorem dX3_hitsToKeep_21 : decode cX3_hitsToKeep 21 = .ok (.iload 5, 2) := by decide +kernel
theorem dX3_hitsToKeep_23 : decode cX3_hitsToKeep 23 = .ok (.iconst 1, 1) := by decide +kernel
theorem dX3_hitsToKeep_24 : decode cX3_hitsToKeep 24 = .ok (.isub, 1) := by decide +kernel
theorem dX3_hitsToKeep_25 : decode cX3_hitsToKeep 25 = .ok (.invokestatic 39, 3) := by decide +kernel
theorem dX3_hitsToKeep_28 : decode cX3_hitsToKeep 28 = .ok (.ifCond .ne 7, 3) := by decide +kernel
theorem dX3_hitsToKeep_31 : decode cX3_hitsToKeep 31 = .ok (.iconst 1, 1) := by decide +kernel
theorem dX3_hitsToKeep_32 : decode cX3_hitsToKeep 32 = .ok (.goto 4, 3) := by decide +kernel
theorem dX3_hitsToKeep_35 : decode cX3_hitsToKeep 35 = .ok (.iconst 0, 1) := by decide +kernel
theorem dX3_hitsToKeep_36 : decode cX3_hitsToKeep 36 = .ok (.istore 6, 2) := by decide +kernel
theorem dX3_hitsToKeep_38 : decode cX3_hitsToKeep 38 = .ok (.iload 6, 2) := by decide +kernel
theorem dX3_hitsToKeep_40 : decode cX3_hitsToKeep 40 = .ok (.ifCond .eq 21, 3) := by decide +kernel
theorem dX3_hitsToKeep_43 : decode cX3_hitsToKeep 43 = .ok (.aload_n 0, 1) := by decide +kernel
theorem dX3_hitsToKeep_44 : decode cX3_hitsToKeep 44 = .ok (.getfield 18, 3) := by decide +kernel
theorem dX3_hitsToKeep_47 : decode cX3_hitsToKeep 47 = .ok (.iload_n 1, 1) := by decide +kernel
theorem dX3_hitsToKeep_48 : decode cX3_hitsToKeep 48 = .ok (.iaload, 1) := by decide +kernel
theorem dX3_hitsToKeep_49 : decode cX3_hitsToKeep 49 = .ok (.iload 5, 2) := by decide +kernel
theorem dX3_hitsToKeep_51 : decode cX3_hitsToKeep 51 = .ok (.invokestatic 39, 3) := by decide +kernel
theorem dX3_hitsToKeep_54 : decode cX3_hitsToKeep 54 = .ok (.ifCond .ne 7, 3) := by decide +kernel
theorem dX3_hitsToKeep_57 : decode cX3_hitsToKeep 57 = .ok (.iconst 1, 1) := by decide +kernel
theorem dX3_hitsToKeep_58 : decode cX3_hitsToKeep 58 = .ok (.goto 4, 3) := by decide +kernel
theorem dX3_hitsToKeep_61 : decode cX3_hitsToKeep 61 = .ok (.iconst 0, 1) := by decide +kernel
theorem dX3_hitsToKeep_62 : decode cX3_hitsToKeep 62 = .ok (.istore 7, 2) := by decide +kernel
theorem dX3_hitsToKeep_64 : decode cX3_hitsToKeep 64 = .ok (.iload_n 2, 1) := by decide +kernel
theorem dX3_hitsToKeep_65 : decode cX3_hitsToKeep 65 = .ok (.iload 5, 2) := by decide +kernel
theorem dX3_hitsToKeep_67 : decode cX3_hitsToKeep 67 = .ok (.invokestatic 39, 3) := by decide +kernel
theorem dX3_hitsToKeep_70 : decode cX3_hitsToKeep 70 = .ok (.ifCond .eq 11, 3) := by decide +kernel
theorem dX3_hitsToKeep_73 : decode cX3_hitsToKeep 73 = .ok (.iload 7, 2) := by decide +kernel
theorem dX3_hitsToKeep_75 : decode cX3_hitsToKeep 75 = .ok (.ifCond .eq 6, 3) := by decide +kernel
theorem dX3_hitsToKeep_78 : decode cX3_hitsToKeep 78 = .ok (.ldc 73, 2) := by decide +kernel
theorem dX3_hitsToKeep_80 : decode cX3_hitsToKeep 80 = .ok (.ireturn, 1) := by decide +kernel
theorem dX3_hitsToKeep_81 : decode cX3_hitsToKeep 81 = .ok (.aload_n 0, 1) := by decide +kernel
theorem dX3_hitsToKeep_82 : decode cX3_hitsToKeep 82 = .ok (.getfield 15, 3) := by decide +kernel
theorem dX3_hitsToKeep_85 : decode cX3_hitsToKeep 85 = .ok (.iload_n 1, 1) := by decide +kernel
theorem dX3_hitsToKeep_86 : decode cX3_hitsToKeep 86 = .ok (.iaload, 1) := by decide +kernel
theorem dX3_hitsToKeep_87 : decode cX3_hitsToKeep 87 = .ok (.iload 5, 2) := by decide +kernel
theorem dX3_hitsToKeep_89 : decode cX3_hitsToKeep 89 = .ok (.invokestatic 39, 3) := by decide +kernel
theorem dX3_hitsToKeep_92 : decode cX3_hitsToKeep 92 = .ok (.ifCond .eq 49, 3) := by decide +kernel
theorem dX3_hitsToKeep_95 : decode cX3_hitsToKeep 95 = .ok (.iload_n 2, 1) := by decide +kernel
theorem dX3_hitsToKeep_96 : decode cX3_hitsToKeep 96 = .ok (.iload 5, 2) := by decide +kernel
theorem dX3_hitsToKeep_98 : decode cX3_hitsToKeep 98 = .ok (.invokestatic 39, 3) := by decide +kernel
theorem dX3_hitsToKeep_101 : decode cX3_hitsToKeep 101 = .ok (.ifCond .ne 40, 3) := by decide +kernel
theorem dX3_hitsToKeep_104 : decode cX3_hitsToKeep 104 = .ok (.iload 7, 2) := by decide +kernel
theorem dX3_hitsToKeep_106 : decode cX3_hitsToKeep 106 = .ok (.ifCond .ne 35, 3) := by decide +kernel
theorem dX3_hitsToKeep_109 : decode cX3_hitsToKeep 109 = .ok (.iload 4, 2) := by decide +kernel
theorem dX3_hitsToKeep_111 : decode cX3_hitsToKeep 111 = .ok (.iload 6, 2) := by decide +kernel
theorem dX3_hitsToKeep_113 : decode cX3_hitsToKeep 113 = .ok (.ifCond .eq 7, 3) := by decide +kernel
theorem dX3_hitsToKeep_116 : decode cX3_hitsToKeep 116 = .ok (.iconst 1, 1) := by decide +kernel
theorem dX3_hitsToKeep_117 : decode cX3_hitsToKeep 117 = .ok (.goto 21, 3) := by decide +kernel
theorem dX3_hitsToKeep_120 : decode cX3_hitsToKeep 120 = .ok (.aload_n 0, 1) := by decide +kernel
theorem dX3_hitsToKeep_121 : decode cX3_hitsToKeep 121 = .ok (.getfield 11, 3) := by decide +kernel
theorem dX3_hitsToKeep_124 : decode cX3_hitsToKeep 124 = .ok (.iload_n 1, 1) := by decide +kernel
theorem dX3_hitsToKeep_125 : decode cX3_hitsToKeep 125 = .ok (.iload 5, 2) := by decide +kernel
theorem dX3_hitsToKeep_127 : decode cX3_hitsToKeep 127 = .ok (.invokestatic 42, 3) := by decide +kernel
theorem dX3_hitsToKeep_130 : decode cX3_hitsToKeep 130 = .ok (.iaload, 1) := by decide +kernel
theorem dX3_hitsToKeep_131 : decode cX3_hitsToKeep 131 = .ok (.i2l, 1) := by decide +kernel
theorem dX3_hitsToKeep_132 : decode cX3_hitsToKeep 132 = .ok (.iload_n 3, 1) := by decide +kernel
theorem dX3_hitsToKeep_133 : decode cX3_hitsToKeep 133 = .ok (.i2l, 1) := by decide +kernel
theorem dX3_hitsToKeep_134 : decode cX3_hitsToKeep 134 = .ok (.invokestatic 83, 3) := by decide +kernel
theorem dX3_hitsToKeep_137 : decode cX3_hitsToKeep 137 = .ok (.l2i, 1) := by decide +kernel
theorem dX3_hitsToKeep_138 : decode cX3_hitsToKeep 138 = .ok (.iadd, 1) := by decide +kernel
theorem dX3_hitsToKeep_139 : decode cX3_hitsToKeep 139 = .ok (.istore 4, 2) := by decide +kernel
theorem dX3_hitsToKeep_141 : decode cX3_hitsToKeep 141 = .ok (.iinc 5 1, 3) := by decide +kernel
theorem dX3_hitsToKeep_144 : decode cX3_hitsToKeep 144 = .ok (.goto (-138), 3) := by decide +kernel
theorem dX3_hitsToKeep_147 : decode cX3_hitsToKeep 147 = .ok (.iload 4, 2) := by decide +kernel
theorem dX3_hitsToKeep_149 : decode cX3_hitsToKeep 149 = .ok (.ireturn, 1) := by decide +kernel
theorem dX3_weightPlace_0 : decode cX3_weightPlace 0 = .ok (.iconst 4, 1) := by decide +kernel
theorem dX3_weightPlace_1 : decode cX3_weightPlace 1 = .ok (.iload_n 0, 1) := by decide +kernel
theorem dX3_weightPlace_2 : decode cX3_weightPlace 2 = .ok (.iadd, 1) := by decide +kernel
theorem dX3_weightPlace_3 : decode cX3_weightPlace 3 = .ok (.iconst 3, 1) := by decide +kernel
theorem dX3_weightPlace_4 : decode cX3_weightPlace 4 = .ok (.iload_n 1, 1) := by decide +kernel
theorem dX3_weightPlace_5 : decode cX3_weightPlace 5 = .ok (.imul, 1) := by decide +kernel
theorem dX3_weightPlace_6 : decode cX3_weightPlace 6 = .ok (.iadd, 1) := by decide +kernel
theorem dX3_weightPlace_7 : decode cX3_weightPlace 7 = .ok (.ireturn, 1) := by decide +kernel
theorem dX3_putWeight_0 : decode cX3_putWeight 0 = .ok (.iload_n 1, 1) := by decide +kernel
theorem dX3_putWeight_1 : decode cX3_putWeight 1 = .ok (.iload_n 2, 1) := by decide +kernel
theorem dX3_putWeight_2 : decode cX3_putWeight 2 = .ok (.invokestatic 87, 3) := by decide +kernel
theorem dX3_putWeight_5 : decode cX3_putWeight 5 = .ok (.istore 4, 2) := by decide +kernel
theorem dX3_putWeight_7 : decode cX3_putWeight 7 = .ok (.iload 4, 2) := by decide +kernel
theorem dX3_putWeight_9 : decode cX3_putWeight 9 = .ok (.iconst 0, 1) := by decide +kernel
theorem dX3_putWeight_10 : decode cX3_putWeight 10 = .ok (.aload_n 0, 1) := by decide +kernel
theorem dX3_putWeight_11 : decode cX3_putWeight 11 = .ok (.getfield 21, 3) := by decide +kernel
theorem dX3_putWeight_14 : decode cX3_putWeight 14 = .ok (.arraylength, 1) := by decide +kernel
theorem dX3_putWeight_15 : decode cX3_putWeight 15 = .ok (.iconst 1, 1) := by decide +kernel
theorem dX3_putWeight_16 : decode cX3_putWeight 16 = .ok (.isub, 1) := by decide +kernel
theorem dX3_putWeight_17 : decode cX3_putWeight 17 = .ok (.invokestatic 69, 3) := by decide +kernel
theorem dX3_putWeight_20 : decode cX3_putWeight 20 = .ok (.ifCond .ne 5, 3) := by decide +kernel
theorem dX3_putWeight_23 : decode cX3_putWeight 23 = .ok (.iconst (-1), 1) := by decide +kernel
theorem dX3_putWeight_24 : decode cX3_putWeight 24 = .ok (.ireturn, 1) := by decide +kernel
theorem dX3_putWeight_25 : decode cX3_putWeight 25 = .ok (.aload_n 0, 1) := by decide +kernel
theorem dX3_putWeight_26 : decode cX3_putWeight 26 = .ok (.getfield 21, 3) := by decide +kernel
theorem dX3_putWeight_29 : decode cX3_putWeight 29 = .ok (.iload 4, 2) := by decide +kernel
theorem dX3_putWeight_31 : decode cX3_putWeight 31 = .ok (.iaload, 1) := by decide +kernel
theorem dX3_putWeight_32 : decode cX3_putWeight 32 = .ok (.istore 5, 2) := by decide +kernel
theorem dX3_putWeight_34 : decode cX3_putWeight 34 = .ok (.aload_n 0, 1) := by decide +kernel
theorem dX3_putWeight_35 : decode cX3_putWeight 35 = .ok (.getfield 21, 3) := by decide +kernel
theorem dX3_putWeight_38 : decode cX3_putWeight 38 = .ok (.iload 4, 2) := by decide +kernel
theorem dX3_putWeight_40 : decode cX3_putWeight 40 = .ok (.iload_n 3, 1) := by decide +kernel
theorem dX3_putWeight_41 : decode cX3_putWeight 41 = .ok (.iastore, 1) := by decide +kernel
theorem dX3_putWeight_42 : decode cX3_putWeight 42 = .ok (.iload 5, 2) := by decide +kernel
theorem dX3_putWeight_44 : decode cX3_putWeight 44 = .ok (.ireturn, 1) := by decide +kernel
theorem dX3_worthOf_0 : decode cX3_worthOf 0 = .ok (.iconst 0, 1) := by decide +kernel
theorem dX3_worthOf_1 : decode cX3_worthOf 1 = .ok (.istore 4, 2) := by decide +kernel
theorem dX3_worthOf_3 : decode cX3_worthOf 3 = .ok (.iconst (-1), 1) := by decide +kernel
theorem dX3_worthOf_4 : decode cX3_worthOf 4 = .ok (.istore 5, 2) := by decide +kernel
theorem dX3_worthOf_6 : decode cX3_worthOf 6 = .ok (.iload 5, 2) := by decide +kernel
theorem dX3_worthOf_8 : decode cX3_worthOf 8 = .ok (.iconst 1, 1) := by decide +kernel
theorem dX3_worthOf_9 : decode cX3_worthOf 9 = .ok (.if_icmp .gt 55, 3) := by decide +kernel
theorem dX3_worthOf_12 : decode cX3_worthOf 12 = .ok (.iconst (-1), 1) := by decide +kernel
theorem dX3_worthOf_13 : decode cX3_worthOf 13 = .ok (.istore 6, 2) := by decide +kernel
theorem dX3_worthOf_15 : decode cX3_worthOf 15 = .ok (.iload 6, 2) := by decide +kernel
theorem dX3_worthOf_17 : decode cX3_worthOf 17 = .ok (.iconst 1, 1) := by decide +kernel
theorem dX3_worthOf_18 : decode cX3_worthOf 18 = .ok (.if_icmp .gt 40, 3) := by decide +kernel
theorem dX3_worthOf_21 : decode cX3_worthOf 21 = .ok (.iload 4, 2) := by decide +kernel
theorem dX3_worthOf_23 : decode cX3_worthOf 23 = .ok (.aload_n 0, 1) := by decide +kernel
theorem dX3_worthOf_24 : decode cX3_worthOf 24 = .ok (.getfield 21, 3) := by decide +kernel
theorem dX3_worthOf_27 : decode cX3_worthOf 27 = .ok (.iload 6, 2) := by decide +kernel
theorem dX3_worthOf_29 : decode cX3_worthOf 29 = .ok (.iload 5, 2) := by decide +kernel
theorem dX3_worthOf_31 : decode cX3_worthOf 31 = .ok (.invokestatic 87, 3) := by decide +kernel
theorem dX3_worthOf_34 : decode cX3_worthOf 34 = .ok (.iaload, 1) := by decide +kernel
theorem dX3_worthOf_35 : decode cX3_worthOf 35 = .ok (.aload_n 0, 1) := by decide +kernel
theorem dX3_worthOf_36 : decode cX3_worthOf 36 = .ok (.iload_n 1, 1) := by decide +kernel
theorem dX3_worthOf_37 : decode cX3_worthOf 37 = .ok (.iload 6, 2) := by decide +kernel
theorem dX3_worthOf_39 : decode cX3_worthOf 39 = .ok (.iadd, 1) := by decide +kernel
theorem dX3_worthOf_40 : decode cX3_worthOf 40 = .ok (.iload_n 2, 1) := by decide +kernel
theorem dX3_worthOf_41 : decode cX3_worthOf 41 = .ok (.iload 5, 2) := by decide +kernel
theorem dX3_worthOf_43 : decode cX3_worthOf 43 = .ok (.iadd, 1) := by decide +kernel
theorem dX3_worthOf_44 : decode cX3_worthOf 44 = .ok (.iload_n 3, 1) := by decide +kernel
theorem dX3_worthOf_45 : decode cX3_worthOf 45 = .ok (.invokevirtual 90, 3) := by decide +kernel
theorem dX3_worthOf_48 : decode cX3_worthOf 48 = .ok (.imul, 1) := by decide +kernel
theorem dX3_worthOf_49 : decode cX3_worthOf 49 = .ok (.iadd, 1) := by decide +kernel
theorem dX3_worthOf_50 : decode cX3_worthOf 50 = .ok (.istore 4, 2) := by decide +kernel
theorem dX3_worthOf_52 : decode cX3_worthOf 52 = .ok (.iinc 6 1, 3) := by decide +kernel
theorem dX3_worthOf_55 : decode cX3_worthOf 55 = .ok (.goto (-40), 3) := by decide +kernel
theorem dX3_worthOf_58 : decode cX3_worthOf 58 = .ok (.iinc 5 1, 3) := by decide +kernel
theorem dX3_worthOf_61 : decode cX3_worthOf 61 = .ok (.goto (-55), 3) := by decide +kernel
theorem dX3_worthOf_64 : decode cX3_worthOf 64 = .ok (.iload 4, 2) := by decide +kernel
theorem dX3_worthOf_66 : decode cX3_worthOf 66 = .ok (.ireturn, 1) := by decide +kernel
theorem dX3_fallsBy_0 : decode cX3_fallsBy 0 = .ok (.aload_n 0, 1) := by decide +kernel
theorem dX3_fallsBy_1 : decode cX3_fallsBy 1 = .ok (.iload_n 1, 1) := by decide +kernel
theorem dX3_fallsBy_2 : decode cX3_fallsBy 2 = .ok (.iload_n 2, 1) := by decide +kernel
theorem dX3_fallsBy_3 : decode cX3_fallsBy 3 = .ok (.invokevirtual 46, 3) := by decide +kernel
theorem dX3_fallsBy_6 : decode cX3_fallsBy 6 = .ok (.ifCond .ne 5, 3) := by decide +kernel
theorem dX3_fallsBy_9 : decode cX3_fallsBy 9 = .ok (.iconst 0, 1) := by decide +kernel
theorem dX3_fallsBy_10 : decode cX3_fallsBy 10 = .ok (.ireturn, 1) := by decide +kernel
theorem dX3_fallsBy_11 : decode cX3_fallsBy 11 = .ok (.aload_n 0, 1) := by decide +kernel
theorem dX3_fallsBy_12 : decode cX3_fallsBy 12 = .ok (.getfield 15, 3) := by decide +kernel
theorem dX3_fallsBy_15 : decode cX3_fallsBy 15 = .ok (.iload_n 1, 1) := by decide +kernel
theorem dX3_fallsBy_16 : decode cX3_fallsBy 16 = .ok (.iaload, 1) := by decide +kernel
theorem dX3_fallsBy_17 : decode cX3_fallsBy 17 = .ok (.istore 4, 2) := by decide +kernel
theorem dX3_fallsBy_19 : decode cX3_fallsBy 19 = .ok (.aload_n 0, 1) := by decide +kernel
theorem dX3_fallsBy_20 : decode cX3_fallsBy 20 = .ok (.getfield 18, 3) := by decide +kernel
theorem dX3_fallsBy_23 : decode cX3_fallsBy 23 = .ok (.iload_n 1, 1) := by decide +kernel
theorem dX3_fallsBy_24 : decode cX3_fallsBy 24 = .ok (.iaload, 1) := by decide +kernel
theorem dX3_fallsBy_25 : decode cX3_fallsBy 25 = .ok (.istore 5, 2) := by decide +kernel
theorem dX3_fallsBy_27 : decode cX3_fallsBy 27 = .ok (.aload_n 0, 1) := by decide +kernel
theorem dX3_fallsBy_28 : decode cX3_fallsBy 28 = .ok (.getfield 11, 3) := by decide +kernel
theorem dX3_fallsBy_31 : decode cX3_fallsBy 31 = .ok (.iload_n 1, 1) := by decide +kernel
theorem dX3_fallsBy_32 : decode cX3_fallsBy 32 = .ok (.iload_n 2, 1) := by decide +kernel
theorem dX3_fallsBy_33 : decode cX3_fallsBy 33 = .ok (.invokestatic 42, 3) := by decide +kernel
theorem dX3_fallsBy_36 : decode cX3_fallsBy 36 = .ok (.iaload, 1) := by decide +kernel
theorem dX3_fallsBy_37 : decode cX3_fallsBy 37 = .ok (.istore 6, 2) := by decide +kernel
theorem dX3_fallsBy_39 : decode cX3_fallsBy 39 = .ok (.aload_n 0, 1) := by decide +kernel
theorem dX3_fallsBy_40 : decode cX3_fallsBy 40 = .ok (.iload_n 1, 1) := by decide +kernel
theorem dX3_fallsBy_41 : decode cX3_fallsBy 41 = .ok (.iload_n 2, 1) := by decide +kernel
theorem dX3_fallsBy_42 : decode cX3_fallsBy 42 = .ok (.iload_n 3, 1) := by decide +kernel
theorem dX3_fallsBy_43 : decode cX3_fallsBy 43 = .ok (.invokevirtual 93, 3) := by decide +kernel
theorem dX3_fallsBy_46 : decode cX3_fallsBy 46 = .ok (.istore 7, 2) := by decide +kernel
theorem dX3_fallsBy_48 : decode cX3_fallsBy 48 = .ok (.aload_n 0, 1) := by decide +kernel
theorem dX3_fallsBy_49 : decode cX3_fallsBy 49 = .ok (.getfield 15, 3) := by decide +kernel
theorem dX3_fallsBy_52 : decode cX3_fallsBy 52 = .ok (.iload_n 1, 1) := by decide +kernel
theorem dX3_fallsBy_53 : decode cX3_fallsBy 53 = .ok (.iload 4, 2) := by decide +kernel
theorem dX3_fallsBy_55 : decode cX3_fallsBy 55 = .ok (.iastore, 1) := by decide +kernel
theorem dX3_fallsBy_56 : decode cX3_fallsBy 56 = .ok (.aload_n 0, 1) := by decide +kernel
theorem dX3_fallsBy_57 : decode cX3_fallsBy 57 = .ok (.getfield 18, 3) := by decide +kernel
theorem dX3_fallsBy_60 : decode cX3_fallsBy 60 = .ok (.iload_n 1, 1) := by decide +kernel
theorem dX3_fallsBy_61 : decode cX3_fallsBy 61 = .ok (.iload 5, 2) := by decide +kernel
theorem dX3_fallsBy_63 : decode cX3_fallsBy 63 = .ok (.iastore, 1) := by decide +kernel
theorem dX3_fallsBy_64 : decode cX3_fallsBy 64 = .ok (.aload_n 0, 1) := by decide +kernel
theorem dX3_fallsBy_65 : decode cX3_fallsBy 65 = .ok (.getfield 11, 3) := by decide +kernel
theorem dX3_fallsBy_68 : decode cX3_fallsBy 68 = .ok (.iload_n 1, 1) := by decide +kernel
theorem dX3_fallsBy_69 : decode cX3_fallsBy 69 = .ok (.iload_n 2, 1) := by decide +kernel
theorem dX3_fallsBy_70 : decode cX3_fallsBy 70 = .ok (.invokestatic 42, 3) := by decide +kernel
theorem dX3_fallsBy_73 : decode cX3_fallsBy 73 = .ok (.iload 6, 2) := by decide +kernel
theorem dX3_fallsBy_75 : decode cX3_fallsBy 75 = .ok (.iastore, 1) := by decide +kernel
theorem dX3_fallsBy_76 : decode cX3_fallsBy 76 = .ok (.iload 7, 2) := by decide +kernel
theorem dX3_fallsBy_78 : decode cX3_fallsBy 78 = .ok (.ireturn, 1) := by decide +kernel
theorem dX3_columnOf_0 : decode cX3_columnOf 0 = .ok (.aload_n 0, 1) := by decide +kernel
theorem dX3_columnOf_1 : decode cX3_columnOf 1 = .ok (.getfield 28, 3) := by decide +kernel
theorem dX3_columnOf_4 : decode cX3_columnOf 4 = .ok (.ifCond .le 12, 3) := by decide +kernel
theorem dX3_columnOf_7 : decode cX3_columnOf 7 = .ok (.iload_n 1, 1) := by decide +kernel
theorem dX3_columnOf_8 : decode cX3_columnOf 8 = .ok (.aload_n 0, 1) := by decide +kernel
theorem dX3_columnOf_9 : decode cX3_columnOf 9 = .ok (.getfield 28, 3) := by decide +kernel
theorem dX3_columnOf_12 : decode cX3_columnOf 12 = .ok (.irem, 1) := by decide +kernel
theorem dX3_columnOf_13 : decode cX3_columnOf 13 = .ok (.goto 4, 3) := by decide +kernel
theorem dX3_columnOf_16 : decode cX3_columnOf 16 = .ok (.iconst 0, 1) := by decide +kernel
theorem dX3_columnOf_17 : decode cX3_columnOf 17 = .ok (.ireturn, 1) := by decide +kernel
theorem dX3_rowOf_0 : decode cX3_rowOf 0 = .ok (.aload_n 0, 1) := by decide +kernel
theorem dX3_rowOf_1 : decode cX3_rowOf 1 = .ok (.getfield 28, 3) := by decide +kernel
theorem dX3_rowOf_4 : decode cX3_rowOf 4 = .ok (.ifCond .le 12, 3) := by decide +kernel
theorem dX3_rowOf_7 : decode cX3_rowOf 7 = .ok (.iload_n 1, 1) := by decide +kernel
theorem dX3_rowOf_8 : decode cX3_rowOf 8 = .ok (.aload_n 0, 1) := by decide +kernel
theorem dX3_rowOf_9 : decode cX3_rowOf 9 = .ok (.getfield 28, 3) := by decide +kernel
theorem dX3_rowOf_12 : decode cX3_rowOf 12 = .ok (.idiv, 1) := by decide +kernel
theorem dX3_rowOf_13 : decode cX3_rowOf 13 = .ok (.goto 4, 3) := by decide +kernel
theorem dX3_rowOf_16 : decode cX3_rowOf 16 = .ok (.iconst 0, 1) := by decide +kernel
theorem dX3_rowOf_17 : decode cX3_rowOf 17 = .ok (.ireturn, 1) := by decide +kernel
theorem dX3_bestAim_0 : decode cX3_bestAim 0 = .ok (.iconst 0, 1) := by decide +kernel
theorem dX3_bestAim_1 : decode cX3_bestAim 1 = .ok (.istore_n 2, 1) := by decide +kernel
theorem dX3_bestAim_2 : decode cX3_bestAim 2 = .ok (.iconst (-1), 1) := by decide +kernel
theorem dX3_bestAim_3 : decode cX3_bestAim 3 = .ok (.istore_n 3, 1) := by decide +kernel
theorem dX3_bestAim_4 : decode cX3_bestAim 4 = .ok (.iconst 0, 1) := by decide +kernel
theorem dX3_bestAim_5 : decode cX3_bestAim 5 = .ok (.istore 4, 2) := by decide +kernel
theorem dX3_bestAim_7 : decode cX3_bestAim 7 = .ok (.iload 4, 2) := by decide +kernel
theorem dX3_bestAim_9 : decode cX3_bestAim 9 = .ok (.aload_n 0, 1) := by decide +kernel
theorem dX3_bestAim_10 : decode cX3_bestAim 10 = .ok (.getfield 28, 3) := by decide +kernel
theorem dX3_bestAim_13 : decode cX3_bestAim 13 = .ok (.aload_n 0, 1) := by decide +kernel
theorem dX3_bestAim_14 : decode cX3_bestAim 14 = .ok (.getfield 32, 3) := by decide +kernel
theorem dX3_bestAim_17 : decode cX3_bestAim 17 = .ok (.imul, 1) := by decide +kernel
theorem dX3_bestAim_18 : decode cX3_bestAim 18 = .ok (.if_icmp .ge 40, 3) := by decide +kernel
theorem dX3_bestAim_21 : decode cX3_bestAim 21 = .ok (.aload_n 0, 1) := by decide +kernel
theorem dX3_bestAim_22 : decode cX3_bestAim 22 = .ok (.aload_n 0, 1) := by decide +kernel
theorem dX3_bestAim_23 : decode cX3_bestAim 23 = .ok (.iload 4, 2) := by decide +kernel
theorem dX3_bestAim_25 : decode cX3_bestAim 25 = .ok (.invokevirtual 96, 3) := by decide +kernel
theorem dX3_bestAim_28 : decode cX3_bestAim 28 = .ok (.aload_n 0, 1) := by decide +kernel
theorem dX3_bestAim_29 : decode cX3_bestAim 29 = .ok (.iload 4, 2) := by decide +kernel
theorem dX3_bestAim_31 : decode cX3_bestAim 31 = .ok (.invokevirtual 99, 3) := by decide +kernel
theorem dX3_bestAim_34 : decode cX3_bestAim 34 = .ok (.iload_n 1, 1) := by decide +kernel
theorem dX3_bestAim_35 : decode cX3_bestAim 35 = .ok (.invokevirtual 102, 3) := by decide +kernel
theorem dX3_bestAim_38 : decode cX3_bestAim 38 = .ok (.istore 5, 2) := by decide +kernel
theorem dX3_bestAim_40 : decode cX3_bestAim 40 = .ok (.iload 5, 2) := by decide +kernel
theorem dX3_bestAim_42 : decode cX3_bestAim 42 = .ok (.iload_n 3, 1) := by decide +kernel
theorem dX3_bestAim_43 : decode cX3_bestAim 43 = .ok (.if_icmp .le 9, 3) := by decide +kernel
theorem dX3_bestAim_46 : decode cX3_bestAim 46 = .ok (.iload 5, 2) := by decide +kernel
theorem dX3_bestAim_48 : decode cX3_bestAim 48 = .ok (.istore_n 3, 1) := by decide +kernel
theorem dX3_bestAim_49 : decode cX3_bestAim 49 = .ok (.iload 4, 2) := by decide +kernel
theorem dX3_bestAim_51 : decode cX3_bestAim 51 = .ok (.istore_n 2, 1) := by decide +kernel
theorem dX3_bestAim_52 : decode cX3_bestAim 52 = .ok (.iinc 4 1, 3) := by decide +kernel
theorem dX3_bestAim_55 : decode cX3_bestAim 55 = .ok (.goto (-48), 3) := by decide +kernel
theorem dX3_bestAim_58 : decode cX3_bestAim 58 = .ok (.iload_n 2, 1) := by decide +kernel
theorem dX3_bestAim_59 : decode cX3_bestAim 59 = .ok (.ireturn, 1) := by decide +kernel
theorem dX3_heldAfter_0 : decode cX3_heldAfter 0 = .ok (.iload 4, 2) := by decide +kernel
theorem dX3_heldAfter_2 : decode cX3_heldAfter 2 = .ok (.ifCond .le 9, 3) := by decide +kernel
theorem dX3_heldAfter_5 : decode cX3_heldAfter 5 = .ok (.iload 4, 2) := by decide +kernel
theorem dX3_heldAfter_7 : decode cX3_heldAfter 7 = .ok (.iconst 4, 1) := by decide +kernel
theorem dX3_heldAfter_8 : decode cX3_heldAfter 8 = .ok (.if_icmp .le 5, 3) := by decide +kernel
theorem dX3_heldAfter_11 : decode cX3_heldAfter 11 = .ok (.lconst 1, 1) := by decide +kernel
theorem dX3_heldAfter_12 : decode cX3_heldAfter 12 = .ok (.lreturn, 1) := by decide +kernel
theorem dX3_heldAfter_13 : decode cX3_heldAfter 13 = .ok (.lconst 0, 1) := by decide +kernel
theorem dX3_heldAfter_14 : decode cX3_heldAfter 14 = .ok (.lstore 5, 2) := by decide +kernel
theorem dX3_heldAfter_16 : decode cX3_heldAfter 16 = .ok (.iconst 0, 1) := by decide +kernel
theorem dX3_heldAfter_17 : decode cX3_heldAfter 17 = .ok (.istore 7, 2) := by decide +kernel
theorem dX3_heldAfter_19 : decode cX3_heldAfter 19 = .ok (.iload 7, 2) := by decide +kernel
theorem dX3_heldAfter_21 : decode cX3_heldAfter 21 = .ok (.aload_n 0, 1) := by decide +kernel
theorem dX3_heldAfter_22 : decode cX3_heldAfter 22 = .ok (.getfield 21, 3) := by decide +kernel
theorem dX3_heldAfter_25 : decode cX3_heldAfter 25 = .ok (.arraylength, 1) := by decide +kernel
theorem dX3_heldAfter_26 : decode cX3_heldAfter 26 = .ok (.if_icmp .ge 44, 3) := by decide +kernel
theorem dX3_heldAfter_29 : decode cX3_heldAfter 29 = .ok (.aload_n 0, 1) := by decide +kernel
theorem dX3_heldAfter_30 : decode cX3_heldAfter 30 = .ok (.getfield 21, 3) := by decide +kernel
theorem dX3_heldAfter_33 : decode cX3_heldAfter 33 = .ok (.iload 7, 2) := by decide +kernel
theorem dX3_heldAfter_35 : decode cX3_heldAfter 35 = .ok (.iaload, 1) := by decide +kernel
theorem dX3_heldAfter_36 : decode cX3_heldAfter 36 = .ok (.ifCond .le 28, 3) := by decide +kernel
theorem dX3_heldAfter_39 : decode cX3_heldAfter 39 = .ok (.lload 5, 2) := by decide +kernel
theorem dX3_heldAfter_41 : decode cX3_heldAfter 41 = .ok (.aload_n 0, 1) := by decide +kernel
theorem dX3_heldAfter_42 : decode cX3_heldAfter 42 = .ok (.getfield 21, 3) := by decide +kernel
theorem dX3_heldAfter_45 : decode cX3_heldAfter 45 = .ok (.iload 7, 2) := by decide +kernel
theorem dX3_heldAfter_47 : decode cX3_heldAfter 47 = .ok (.iaload, 1) := by decide +kernel
theorem dX3_heldAfter_48 : decode cX3_heldAfter 48 = .ok (.i2l, 1) := by decide +kernel
theorem dX3_heldAfter_49 : decode cX3_heldAfter 49 = .ok (.aload_n 0, 1) := by decide +kernel
theorem dX3_heldAfter_50 : decode cX3_heldAfter 50 = .ok (.iload 7, 2) := by decide +kernel
theorem dX3_heldAfter_52 : decode cX3_heldAfter 52 = .ok (.iload_n 1, 1) := by decide +kernel
theorem dX3_heldAfter_53 : decode cX3_heldAfter 53 = .ok (.iload_n 2, 1) := by decide +kernel
theorem dX3_heldAfter_54 : decode cX3_heldAfter 54 = .ok (.iload_n 3, 1) := by decide +kernel
theorem dX3_heldAfter_55 : decode cX3_heldAfter 55 = .ok (.iload 4, 2) := by decide +kernel
theorem dX3_heldAfter_57 : decode cX3_heldAfter 57 = .ok (.invokestatic 105, 3) := by decide +kernel
theorem dX3_heldAfter_60 : decode cX3_heldAfter 60 = .ok (.lmul, 1) := by decide +kernel
theorem dX3_heldAfter_61 : decode cX3_heldAfter 61 = .ok (.ladd, 1) := by decide +kernel
theorem dX3_heldAfter_62 : decode cX3_heldAfter 62 = .ok (.lstore 5, 2) := by decide +kernel
theorem dX3_heldAfter_64 : decode cX3_heldAfter 64 = .ok (.iinc 7 1, 3) := by decide +kernel
theorem dX3_heldAfter_67 : decode cX3_heldAfter 67 = .ok (.goto (-48), 3) := by decide +kernel
theorem dX3_heldAfter_70 : decode cX3_heldAfter 70 = .ok (.lload 5, 2) := by decide +kernel
theorem dX3_heldAfter_72 : decode cX3_heldAfter 72 = .ok (.lreturn, 1) := by decide +kernel
theorem dX3_heldBy_0 : decode cX3_heldBy 0 = .ok (.iload_n 2, 1) := by decide +kernel
theorem dX3_heldBy_1 : decode cX3_heldBy 1 = .ok (.iload_n 1, 1) := by decide +kernel
theorem dX3_heldBy_2 : decode cX3_heldBy 2 = .ok (.iconst 3, 1) := by decide +kernel
theorem dX3_heldBy_3 : decode cX3_heldBy 3 = .ok (.irem, 1) := by decide +kernel
theorem dX3_heldBy_4 : decode cX3_heldBy 4 = .ok (.iadd, 1) := by decide +kernel
theorem dX3_heldBy_5 : decode cX3_heldBy 5 = .ok (.iconst 1, 1) := by decide +kernel
theorem dX3_heldBy_6 : decode cX3_heldBy 6 = .ok (.isub, 1) := by decide +kernel
theorem dX3_heldBy_7 : decode cX3_heldBy 7 = .ok (.istore 6, 2) := by decide +kernel
theorem dX3_heldBy_9 : decode cX3_heldBy 9 = .ok (.iload_n 3, 1) := by decide +kernel
theorem dX3_heldBy_10 : decode cX3_heldBy 10 = .ok (.iload_n 1, 1) := by decide +kernel
theorem dX3_heldBy_11 : decode cX3_heldBy 11 = .ok (.iconst 3, 1) := by decide +kernel
theorem dX3_heldBy_12 : decode cX3_heldBy 12 = .ok (.idiv, 1) := by decide +kernel
theorem dX3_heldBy_13 : decode cX3_heldBy 13 = .ok (.iadd, 1) := by decide +kernel
theorem dX3_heldBy_14 : decode cX3_heldBy 14 = .ok (.iconst 1, 1) := by decide +kernel
theorem dX3_heldBy_15 : decode cX3_heldBy 15 = .ok (.isub, 1) := by decide +kernel
theorem dX3_heldBy_16 : decode cX3_heldBy 16 = .ok (.istore 7, 2) := by decide +kernel
theorem dX3_heldBy_18 : decode cX3_heldBy 18 = .ok (.aload_n 0, 1) := by decide +kernel
theorem dX3_heldBy_19 : decode cX3_heldBy 19 = .ok (.iload 6, 2) := by decide +kernel
theorem dX3_heldBy_21 : decode cX3_heldBy 21 = .ok (.iload 7, 2) := by decide +kernel
theorem dX3_heldBy_23 : decode cX3_heldBy 23 = .ok (.invokevirtual 46, 3) := by decide +kernel
theorem dX3_heldBy_26 : decode cX3_heldBy 26 = .ok (.ifCond .ne 16, 3) := by decide +kernel
theorem dX3_heldBy_29 : decode cX3_heldBy 29 = .ok (.aload_n 0, 1) := by decide +kernel
theorem dX3_heldBy_30 : decode cX3_heldBy 30 = .ok (.iload_n 2, 1) := by decide +kernel
theorem dX3_heldBy_31 : decode cX3_heldBy 31 = .ok (.iload_n 3, 1) := by decide +kernel
theorem dX3_heldBy_32 : decode cX3_heldBy 32 = .ok (.iload 4, 2) := by decide +kernel
theorem dX3_heldBy_34 : decode cX3_heldBy 34 = .ok (.iload 5, 2) := by decide +kernel
theorem dX3_heldBy_36 : decode cX3_heldBy 36 = .ok (.iconst 1, 1) := by decide +kernel
theorem dX3_heldBy_37 : decode cX3_heldBy 37 = .ok (.isub, 1) := by decide +kernel
theorem dX3_heldBy_38 : decode cX3_heldBy 38 = .ok (.invokestatic 109, 3) := by decide +kernel
theorem dX3_heldBy_41 : decode cX3_heldBy 41 = .ok (.lreturn, 1) := by decide +kernel
theorem dX3_heldBy_42 : decode cX3_heldBy 42 = .ok (.aload_n 0, 1) := by decide +kernel
theorem dX3_heldBy_43 : decode cX3_heldBy 43 = .ok (.getfield 15, 3) := by decide +kernel
theorem dX3_heldBy_46 : decode cX3_heldBy 46 = .ok (.iload 6, 2) := by decide +kernel
theorem dX3_heldBy_48 : decode cX3_heldBy 48 = .ok (.iaload, 1) := by decide +kernel
theorem dX3_heldBy_49 : decode cX3_heldBy 49 = .ok (.istore 8, 2) := by decide +kernel
theorem dX3_heldBy_51 : decode cX3_heldBy 51 = .ok (.aload_n 0, 1) := by decide +kernel
theorem dX3_heldBy_52 : decode cX3_heldBy 52 = .ok (.getfield 18, 3) := by decide +kernel
theorem dX3_heldBy_55 : decode cX3_heldBy 55 = .ok (.iload 6, 2) := by decide +kernel
theorem dX3_heldBy_57 : decode cX3_heldBy 57 = .ok (.iaload, 1) := by decide +kernel
theorem dX3_heldBy_58 : decode cX3_heldBy 58 = .ok (.istore 9, 2) := by decide +kernel
theorem dX3_heldBy_60 : decode cX3_heldBy 60 = .ok (.aload_n 0, 1) := by decide +kernel
theorem dX3_heldBy_61 : decode cX3_heldBy 61 = .ok (.getfield 11, 3) := by decide +kernel
theorem dX3_heldBy_64 : decode cX3_heldBy 64 = .ok (.iload 6, 2) := by decide +kernel
theorem dX3_heldBy_66 : decode cX3_heldBy 66 = .ok (.iload 7, 2) := by decide +kernel
theorem dX3_heldBy_68 : decode cX3_heldBy 68 = .ok (.invokestatic 42, 3) := by decide +kernel
theorem dX3_heldBy_71 : decode cX3_heldBy 71 = .ok (.iaload, 1) := by decide +kernel
theorem dX3_heldBy_72 : decode cX3_heldBy 72 = .ok (.istore 10, 2) := by decide +kernel
theorem dX3_heldBy_74 : decode cX3_heldBy 74 = .ok (.aload_n 0, 1) := by decide +kernel
theorem dX3_heldBy_75 : decode cX3_heldBy 75 = .ok (.iload 6, 2) := by decide +kernel
theorem dX3_heldBy_77 : decode cX3_heldBy 77 = .ok (.iload 7, 2) := by decide +kernel
theorem dX3_heldBy_79 : decode cX3_heldBy 79 = .ok (.iload 4, 2) := by decide +kernel
theorem dX3_heldBy_81 : decode cX3_heldBy 81 = .ok (.invokevirtual 93, 3) := by decide +kernel
theorem dX3_heldBy_84 : decode cX3_heldBy 84 = .ok (.pop, 1) := by decide +kernel
theorem dX3_heldBy_85 : decode cX3_heldBy 85 = .ok (.aload_n 0, 1) := by decide +kernel
theorem dX3_heldBy_86 : decode cX3_heldBy 86 = .ok (.iload 6, 2) := by decide +kernel
theorem dX3_heldBy_88 : decode cX3_heldBy 88 = .ok (.invokevirtual 62, 3) := by decide +kernel
theorem dX3_heldBy_91 : decode cX3_heldBy 91 = .ok (.ifCond .eq 7, 3) := by decide +kernel
theorem dX3_heldBy_94 : decode cX3_heldBy 94 = .ok (.lconst 0, 1) := by decide +kernel
theorem dX3_heldBy_95 : decode cX3_heldBy 95 = .ok (.goto 15, 3) := by decide +kernel
theorem dX3_heldBy_98 : decode cX3_heldBy 98 = .ok (.aload_n 0, 1) := by decide +kernel
theorem dX3_heldBy_99 : decode cX3_heldBy 99 = .ok (.iload_n 2, 1) := by decide +kernel
theorem dX3_heldBy_100 : decode cX3_heldBy 100 = .ok (.iload_n 3, 1) := by decide +kernel
theorem dX3_heldBy_101 : decode cX3_heldBy 101 = .ok (.iload 4, 2) := by decide +kernel
theorem dX3_heldBy_103 : decode cX3_heldBy 103 = .ok (.iload 5, 2) := by decide +kernel
theorem dX3_heldBy_105 : decode cX3_heldBy 105 = .ok (.iconst 1, 1) := by decide +kernel
theorem dX3_heldBy_106 : decode cX3_heldBy 106 = .ok (.isub, 1) := by decide +kernel
theorem dX3_heldBy_107 : decode cX3_heldBy 107 = .ok (.invokestatic 109, 3) := by decide +kernel
theorem dX3_heldBy_110 : decode cX3_heldBy 110 = .ok (.lstore 11, 2) := by decide +kernel
theorem dX3_heldBy_112 : decode cX3_heldBy 112 = .ok (.aload_n 0, 1) := by decide +kernel
theorem dX3_heldBy_113 : decode cX3_heldBy 113 = .ok (.getfield 15, 3) := by decide +kernel
theorem dX3_heldBy_116 : decode cX3_heldBy 116 = .ok (.iload 6, 2) := by decide +kernel
theorem dX3_heldBy_118 : decode cX3_heldBy 118 = .ok (.iload 8, 2) := by decide +kernel
theorem dX3_heldBy_120 : decode cX3_heldBy 120 = .ok (.iastore, 1) := by decide +kernel
theorem dX3_heldBy_121 : decode cX3_heldBy 121 = .ok (.aload_n 0, 1) := by decide +kernel
theorem dX3_heldBy_122 : decode cX3_heldBy 122 = .ok (.getfield 18, 3) := by decide +kernel
theorem dX3_heldBy_125 : decode cX3_heldBy 125 = .ok (.iload 6, 2) := by decide +kernel
theorem dX3_heldBy_127 : decode cX3_heldBy 127 = .ok (.iload 9, 2) := by decide +kernel
theorem dX3_heldBy_129 : decode cX3_heldBy 129 = .ok (.iastore, 1) := by decide +kernel
theorem dX3_heldBy_130 : decode cX3_heldBy 130 = .ok (.aload_n 0, 1) := by decide +kernel
theorem dX3_heldBy_131 : decode cX3_heldBy 131 = .ok (.getfield 11, 3) := by decide +kernel
theorem dX3_heldBy_134 : decode cX3_heldBy 134 = .ok (.iload 6, 2) := by decide +kernel
theorem dX3_heldBy_136 : decode cX3_heldBy 136 = .ok (.iload 7, 2) := by decide +kernel
theorem dX3_heldBy_138 : decode cX3_heldBy 138 = .ok (.invokestatic 42, 3) := by decide +kernel
theorem dX3_heldBy_141 : decode cX3_heldBy 141 = .ok (.iload 10, 2) := by decide +kernel
theorem dX3_heldBy_143 : decode cX3_heldBy 143 = .ok (.iastore, 1) := by decide +kernel
theorem dX3_heldBy_144 : decode cX3_heldBy 144 = .ok (.lload 11, 2) := by decide +kernel
theorem dX3_heldBy_146 : decode cX3_heldBy 146 = .ok (.lreturn, 1) := by decide +kernel
theorem dX4_init_0 : decode cX4_init 0 = .ok (.aload_n 0, 1) := by decide +kernel
theorem dX4_init_1 : decode cX4_init 1 = .ok (.invokespecial 1, 3) := by decide +kernel
theorem dX4_init_4 : decode cX4_init 4 = .ok (.aload_n 0, 1) := by decide +kernel
theorem dX4_init_5 : decode cX4_init 5 = .ok (.new 7, 3) := by decide +kernel
theorem dX4_init_8 : decode cX4_init 8 = .ok (.dup, 1) := by decide +kernel
theorem dX4_init_9 : decode cX4_init 9 = .ok (.invokespecial 9, 3) := by decide +kernel
theorem dX4_init_12 : decode cX4_init 12 = .ok (.putfield 10, 3) := by decide +kernel
theorem dX4_init_15 : decode cX4_init 15 = .ok (.aload_n 0, 1) := by decide +kernel
theorem dX4_init_16 : decode cX4_init 16 = .ok (.new 16, 3) := by decide +kernel
theorem dX4_init_19 : decode cX4_init 19 = .ok (.dup, 1) := by decide +kernel
theorem dX4_init_20 : decode cX4_init 20 = .ok (.invokespecial 18, 3) := by decide +kernel
theorem dX4_init_23 : decode cX4_init 23 = .ok (.putfield 19, 3) := by decide +kernel
theorem dX4_init_26 : decode cX4_init 26 = .ok (.aload_n 0, 1) := by decide +kernel
theorem dX4_init_27 : decode cX4_init 27 = .ok (.new 23, 3) := by decide +kernel
theorem dX4_init_30 : decode cX4_init 30 = .ok (.dup, 1) := by decide +kernel
theorem dX4_init_31 : decode cX4_init 31 = .ok (.invokespecial 25, 3) := by decide +kernel
theorem dX4_init_34 : decode cX4_init 34 = .ok (.putfield 26, 3) := by decide +kernel
theorem dX4_init_37 : decode cX4_init 37 = .ok (.aload_n 0, 1) := by decide +kernel
theorem dX4_init_38 : decode cX4_init 38 = .ok (.new 30, 3) := by decide +kernel
theorem dX4_init_41 : decode cX4_init 41 = .ok (.dup, 1) := by decide +kernel
theorem dX4_init_42 : decode cX4_init 42 = .ok (.invokespecial 32, 3) := by decide +kernel
theorem dX4_init_45 : decode cX4_init 45 = .ok (.putfield 33, 3) := by decide +kernel
theorem dX4_init_48 : decode cX4_init 48 = .ok (.aload_n 0, 1) := by decide +kernel
theorem dX4_init_49 : decode cX4_init 49 = .ok (.iconst 0, 1) := by decide +kernel
theorem dX4_init_50 : decode cX4_init 50 = .ok (.putfield 37, 3) := by decide +kernel
theorem dX4_init_53 : decode cX4_init 53 = .ok (.return_, 1) := by decide +kernel
theorem dX4_set_0 : decode cX4_set 0 = .ok (.aload_n 0, 1) := by decide +kernel
theorem dX4_set_1 : decode cX4_set 1 = .ok (.getfield 10, 3) := by decide +kernel
theorem dX4_set_4 : decode cX4_set 4 = .ok (.iload_n 1, 1) := by decide +kernel
theorem dX4_set_5 : decode cX4_set 5 = .ok (.iload_n 2, 1) := by decide +kernel
theorem dX4_set_6 : decode cX4_set 6 = .ok (.invokevirtual 41, 3) := by decide +kernel
theorem dX4_set_9 : decode cX4_set 9 = .ok (.ifCond .ne 5, 3) := by decide +kernel
theorem dX4_set_12 : decode cX4_set 12 = .ok (.iconst (-1), 1) := by decide +kernel
theorem dX4_set_13 : decode cX4_set 13 = .ok (.ireturn, 1) := by decide +kernel
theorem dX4_set_14 : decode cX4_set 14 = .ok (.aload_n 0, 1) := by decide +kernel
theorem dX4_set_15 : decode cX4_set 15 = .ok (.iconst 0, 1) := by decide +kernel
theorem dX4_set_16 : decode cX4_set 16 = .ok (.putfield 37, 3) := by decide +kernel
theorem dX4_set_19 : decode cX4_set 19 = .ok (.aload_n 0, 1) := by decide +kernel
theorem dX4_set_20 : decode cX4_set 20 = .ok (.getfield 10, 3) := by decide +kernel
theorem dX4_set_23 : decode cX4_set 23 = .ok (.iload_n 1, 1) := by decide +kernel
theorem dX4_set_24 : decode cX4_set 24 = .ok (.iload_n 2, 1) := by decide +kernel
theorem dX4_set_25 : decode cX4_set 25 = .ok (.invokevirtual 45, 3) := by decide +kernel
theorem dX4_set_28 : decode cX4_set 28 = .ok (.ireturn, 1) := by decide +kernel
theorem dX4_wind_0 : decode cX4_wind 0 = .ok (.iload_n 1, 1) := by decide +kernel
theorem dX4_wind_1 : decode cX4_wind 1 = .ok (.bipush (-20), 2) := by decide +kernel
theorem dX4_wind_3 : decode cX4_wind 3 = .ok (.bipush 20, 2) := by decide +kernel
theorem dX4_wind_5 : decode cX4_wind 5 = .ok (.invokestatic 49, 3) := by decide +kernel
theorem dX4_wind_8 : decode cX4_wind 8 = .ok (.ifCond .eq 14, 3) := by decide +kernel
theorem dX4_wind_11 : decode cX4_wind 11 = .ok (.aload_n 0, 1) := by decide +kernel
theorem dX4_wind_12 : decode cX4_wind 12 = .ok (.getfield 10, 3) := by decide +kernel
theorem dX4_wind_15 : decode cX4_wind 15 = .ok (.iload_n 1, 1) := by decide +kernel
theorem dX4_wind_16 : decode cX4_wind 16 = .ok (.invokevirtual 53, 3) := by decide +kernel
theorem dX4_wind_19 : decode cX4_wind 19 = .ok (.goto 5, 3) := by decide +kernel
theorem dX4_wind_22 : decode cX4_wind 22 = .ok (.bipush (-100), 2) := by decide +kernel
theorem dX4_wind_24 : decode cX4_wind 24 = .ok (.ireturn, 1) := by decide +kernel
theorem dX4_sine_0 : decode cX4_sine 0 = .ok (.iload_n 1, 1) := by decide +kernel
theorem dX4_sine_1 : decode cX4_sine 1 = .ok (.sipush (-180), 3) := by decide +kernel
theorem dX4_sine_4 : decode cX4_sine 4 = .ok (.sipush 180, 3) := by decide +kernel
theorem dX4_sine_7 : decode cX4_sine 7 = .ok (.invokestatic 49, 3) := by decide +kernel
theorem dX4_sine_10 : decode cX4_sine 10 = .ok (.ifCond .eq 10, 3) := by decide +kernel
theorem dX4_sine_13 : decode cX4_sine 13 = .ok (.iload_n 1, 1) := by decide +kernel
theorem dX4_sine_14 : decode cX4_sine 14 = .ok (.invokestatic 57, 3) := by decide +kernel
theorem dX4_sine_17 : decode cX4_sine 17 = .ok (.goto 6, 3) := by decide +kernel
theorem dX4_sine_20 : decode cX4_sine 20 = .ok (.sipush (-2000), 3) := by decide +kernel
theorem dX4_sine_23 : decode cX4_sine 23 = .ok (.ireturn, 1) := by decide +kernel
theorem dX4_throwing_0 : decode cX4_throwing 0 = .ok (.iload_n 1, 1) := by decide +kernel
theorem dX4_throwing_1 : decode cX4_throwing 1 = .ok (.iconst 0, 1) := by decide +kernel
theorem dX4_throwing_2 : decode cX4_throwing 2 = .ok (.bipush 6, 2) := by decide +kernel
theorem dX4_throwing_4 : decode cX4_throwing 4 = .ok (.invokestatic 49, 3) := by decide +kernel
theorem dX4_throwing_7 : decode cX4_throwing 7 = .ok (.ifCond .ne 5, 3) := by decide +kernel
theorem dX4_throwing_10 : decode cX4_throwing 10 = .ok (.iconst (-1), 1) := by decide +kernel
theorem dX4_throwing_11 : decode cX4_throwing 11 = .ok (.ireturn, 1) := by decide +kernel
theorem dX4_throwing_12 : decode cX4_throwing 12 = .ok (.aload_n 0, 1) := by decide +kernel
theorem dX4_throwing_13 : decode cX4_throwing 13 = .ok (.getfield 10, 3) := by decide +kernel
theorem dX4_throwing_16 : decode cX4_throwing 16 = .ok (.invokevirtual 60, 3) := by decide +kernel
theorem dX4_throwing_19 : decode cX4_throwing 19 = .ok (.pop, 1) := by decide +kernel
theorem dX4_throwing_20 : decode cX4_throwing 20 = .ok (.aload_n 0, 1) := by decide +kernel
theorem dX4_throwing_21 : decode cX4_throwing 21 = .ok (.getfield 10, 3) := by decide +kernel
theorem dX4_throwing_24 : decode cX4_throwing 24 = .ok (.iload_n 1, 1) := by decide +kernel
theorem dX4_throwing_25 : decode cX4_throwing 25 = .ok (.invokevirtual 64, 3) := by decide +kernel
theorem dX4_throwing_28 : decode cX4_throwing 28 = .ok (.ireturn, 1) := by decide +kernel
theorem dX4_flight_0 : decode cX4_flight 0 = .ok (.iload_n 1, 1) := by decide +kernel
theorem dX4_flight_1 : decode cX4_flight 1 = .ok (.iconst 0, 1) := by decide +kernel
theorem dX4_flight_2 : decode cX4_flight 2 = .ok (.iconst 2, 1) := by decide +kernel
theorem dX4_flight_3 : decode cX4_flight 3 = .ok (.invokestatic 49, 3) := by decide +kernel
theorem dX4_flight_6 : decode cX4_flight 6 = .ok (.ifCond .eq 14, 3) := by decide +kernel
theorem dX4_flight_9 : decode cX4_flight 9 = .ok (.iload_n 2, 1) := by decide +kernel
theorem dX4_flight_10 : decode cX4_flight 10 = .ok (.iconst 0, 1) := by decide +kernel
theorem dX4_flight_11 : decode cX4_flight 11 = .ok (.sipush 20000, 3) := by decide +kernel
theorem dX4_flight_14 : decode cX4_flight 14 = .ok (.invokestatic 49, 3) := by decide +kernel
theorem dX4_flight_17 : decode cX4_flight 17 = .ok (.ifCond .ne 5, 3) := by decide +kernel
theorem dX4_flight_20 : decode cX4_flight 20 = .ok (.iconst (-1), 1) := by decide +kernel
theorem dX4_flight_21 : decode cX4_flight 21 = .ok (.ireturn, 1) := by decide +kernel
theorem dX4_flight_22 : decode cX4_flight 22 = .ok (.aload_n 0, 1) := by decide +kernel
theorem dX4_flight_23 : decode cX4_flight 23 = .ok (.dup, 1) := by decide +kernel
theorem dX4_flight_24 : decode cX4_flight 24 = .ok (.getfield 67, 3) := by decide +kernel
theorem dX4_flight_27 : decode cX4_flight 27 = .ok (.iload_n 1, 1) := by decide +kernel
theorem dX4_flight_28 : decode cX4_flight 28 = .ok (.invokestatic 71, 3) := by decide +kernel
theorem dX4_flight_31 : decode cX4_flight 31 = .ok (.i2l, 1) := by decide +kernel
theorem dX4_flight_32 : decode cX4_flight 32 = .ok (.ladd, 1) := by decide +kernel
theorem dX4_flight_33 : decode cX4_flight 33 = .ok (.putfield 67, 3) := by decide +kernel
theorem dX4_flight_36 : decode cX4_flight 36 = .ok (.aload_n 0, 1) := by decide +kernel
theorem dX4_flight_37 : decode cX4_flight 37 = .ok (.getfield 10, 3) := by decide +kernel
theorem dX4_flight_40 : decode cX4_flight 40 = .ok (.iload_n 1, 1) := by decide +kernel
theorem dX4_flight_41 : decode cX4_flight 41 = .ok (.iload_n 2, 1) := by decide +kernel
theorem dX4_flight_42 : decode cX4_flight 42 = .ok (.invokevirtual 74, 3) := by decide +kernel
theorem dX4_flight_45 : decode cX4_flight 45 = .ok (.ireturn, 1) := by decide +kernel
theorem dX4_tune_0 : decode cX4_tune 0 = .ok (.aload_n 0, 1) := by decide +kernel
theorem dX4_tune_1 : decode cX4_tune 1 = .ok (.getfield 10, 3) := by decide +kernel
theorem dX4_tune_4 : decode cX4_tune 4 = .ok (.iconst 3, 1) := by decide +kernel
theorem dX4_tune_5 : decode cX4_tune 5 = .ok (.iload_n 1, 1) := by decide +kernel
theorem dX4_tune_6 : decode cX4_tune 6 = .ok (.invokevirtual 41, 3) := by decide +kernel
theorem dX4_tune_9 : decode cX4_tune 9 = .ok (.ifCond .eq 41, 3) := by decide +kernel
theorem dX4_tune_12 : decode cX4_tune 12 = .ok (.aload_n 0, 1) := by decide +kernel
theorem dX4_tune_13 : decode cX4_tune 13 = .ok (.getfield 10, 3) := by decide +kernel
theorem dX4_tune_16 : decode cX4_tune 16 = .ok (.iconst 3, 1) := by decide +kernel
theorem dX4_tune_17 : decode cX4_tune 17 = .ok (.iload_n 2, 1) := by decide +kernel
theorem dX4_tune_18 : decode cX4_tune 18 = .ok (.invokevirtual 41, 3) := by decide +kernel
theorem dX4_tune_21 : decode cX4_tune 21 = .ok (.ifCond .eq 29, 3) := by decide +kernel
theorem dX4_tune_24 : decode cX4_tune 24 = .ok (.iload_n 1, 1) := by decide +kernel
theorem dX4_tune_25 : decode cX4_tune 25 = .ok (.iload_n 2, 1) := by decide +kernel
theorem dX4_tune_26 : decode cX4_tune 26 = .ok (.if_icmp .gt 24, 3) := by decide +kernel
theorem dX4_tune_29 : decode cX4_tune 29 = .ok (.iload_n 3, 1) := by decide +kernel
theorem dX4_tune_30 : decode cX4_tune 30 = .ok (.iconst 0, 1) := by decide +kernel
theorem dX4_tune_31 : decode cX4_tune 31 = .ok (.sipush 2000, 3) := by decide +kernel
theorem dX4_tune_34 : decode cX4_tune 34 = .ok (.invokestatic 49, 3) := by decide +kernel
theorem dX4_tune_37 : decode cX4_tune 37 = .ok (.ifCond .eq 13, 3) := by decide +kernel
theorem dX4_tune_40 : decode cX4_tune 40 = .ok (.iload 4, 2) := by decide +kernel
theorem dX4_tune_42 : decode cX4_tune 42 = .ok (.iconst 0, 1) := by decide +kernel
theorem dX4_tune_43 : decode cX4_tune 43 = .ok (.iconst 2, 1) := by decide +kernel
theorem dX4_tune_44 : decode cX4_tune 44 = .ok (.invokestatic 49, 3) := by decide +kernel
theorem dX4_tune_47 : decode cX4_tune 47 = .ok (.ifCond .ne 5, 3) := by decide +kernel
theorem dX4_tune_50 : decode cX4_tune 50 = .ok (.iconst (-1), 1) := by decide +kernel
theorem dX4_tune_51 : decode cX4_tune 51 = .ok (.ireturn, 1) := by decide +kernel
theorem dX4_tune_52 : decode cX4_tune 52 = .ok (.aload_n 0, 1) := by decide +kernel
theorem dX4_tune_53 : decode cX4_tune 53 = .ok (.getfield 10, 3) := by decide +kernel
theorem dX4_tune_56 : decode cX4_tune 56 = .ok (.iload_n 1, 1) := by decide +kernel
theorem dX4_tune_57 : decode cX4_tune 57 = .ok (.iload_n 2, 1) := by decide +kernel
theorem dX4_tune_58 : decode cX4_tune 58 = .ok (.iload_n 3, 1) := by decide +kernel
theorem dX4_tune_59 : decode cX4_tune 59 = .ok (.invokevirtual 77, 3) := by decide +kernel
theorem dX4_tune_62 : decode cX4_tune 62 = .ok (.aload_n 0, 1) := by decide +kernel
theorem dX4_tune_63 : decode cX4_tune 63 = .ok (.getfield 10, 3) := by decide +kernel
theorem dX4_tune_66 : decode cX4_tune 66 = .ok (.iload 4, 2) := by decide +kernel
theorem dX4_tune_68 : decode cX4_tune 68 = .ok (.invokevirtual 81, 3) := by decide +kernel
theorem dX4_tune_71 : decode cX4_tune 71 = .ok (.ireturn, 1) := by decide +kernel
theorem dX4_spread_0 : decode cX4_spread 0 = .ok (.iload_n 1, 1) := by decide +kernel
theorem dX4_spread_1 : decode cX4_spread 1 = .ok (.iconst 0, 1) := by decide +kernel
theorem dX4_spread_2 : decode cX4_spread 2 = .ok (.bipush 50, 2) := by decide +kernel
theorem dX4_spread_4 : decode cX4_spread 4 = .ok (.invokestatic 49, 3) := by decide +kernel
theorem dX4_spread_7 : decode cX4_spread 7 = .ok (.ifCond .eq 14, 3) := by decide +kernel
theorem dX4_spread_10 : decode cX4_spread 10 = .ok (.aload_n 0, 1) := by decide +kernel
theorem dX4_spread_11 : decode cX4_spread 11 = .ok (.getfield 19, 3) := by decide +kernel
theorem dX4_spread_14 : decode cX4_spread 14 = .ok (.iload_n 1, 1) := by decide +kernel
theorem dX4_spread_15 : decode cX4_spread 15 = .ok (.invokevirtual 84, 3) := by decide +kernel
theorem dX4_spread_18 : decode cX4_spread 18 = .ok (.goto 4, 3) := by decide +kernel
theorem dX4_spread_21 : decode cX4_spread 21 = .ok (.iconst (-1), 1) := by decide +kernel
theorem dX4_spread_22 : decode cX4_spread 22 = .ok (.ireturn, 1) := by decide +kernel
theorem dX4_shot_0 : decode cX4_shot 0 = .ok (.iload_n 1, 1) := by decide +kernel
theorem dX4_shot_1 : decode cX4_shot 1 = .ok (.iconst 0, 1) := by decide +kernel
theorem dX4_shot_2 : decode cX4_shot 2 = .ok (.bipush 60, 2) := by decide +kernel
theorem dX4_shot_4 : decode cX4_shot 4 = .ok (.invokestatic 49, 3) := by decide +kernel
theorem dX4_shot_7 : decode cX4_shot 7 = .ok (.ifCond .eq 14, 3) := by decide +kernel
theorem dX4_shot_10 : decode cX4_shot 10 = .ok (.iload_n 2, 1) := by decide +kernel
theorem dX4_shot_11 : decode cX4_shot 11 = .ok (.iconst 0, 1) := by decide +kernel
theorem dX4_shot_12 : decode cX4_shot 12 = .ok (.sipush 2000, 3) := by decide +kernel
theorem dX4_shot_15 : decode cX4_shot 15 = .ok (.invokestatic 49, 3) := by decide +kernel
theorem dX4_shot_18 : decode cX4_shot 18 = .ok (.ifCond .ne 5, 3) := by decide +kernel
theorem dX4_shot_21 : decode cX4_shot 21 = .ok (.iconst (-1), 1) := by decide +kernel
theorem dX4_shot_22 : decode cX4_shot 22 = .ok (.ireturn, 1) := by decide +kernel
theorem dX4_shot_23 : decode cX4_shot 23 = .ok (.aload_n 0, 1) := by decide +kernel
theorem dX4_shot_24 : decode cX4_shot 24 = .ok (.getfield 19, 3) := by decide +kernel
theorem dX4_shot_27 : decode cX4_shot 27 = .ok (.iload_n 1, 1) := by decide +kernel
theorem dX4_shot_28 : decode cX4_shot 28 = .ok (.iload_n 2, 1) := by decide +kernel
theorem dX4_shot_29 : decode cX4_shot 29 = .ok (.invokevirtual 87, 3) := by decide +kernel
theorem dX4_shot_32 : decode cX4_shot 32 = .ok (.ifCond .eq 13, 3) := by decide +kernel
theorem dX4_shot_35 : decode cX4_shot 35 = .ok (.aload_n 0, 1) := by decide +kernel
theorem dX4_shot_36 : decode cX4_shot 36 = .ok (.getfield 19, 3) := by decide +kernel
theorem dX4_shot_39 : decode cX4_shot 39 = .ok (.invokevirtual 90, 3) := by decide +kernel
theorem dX4_shot_42 : decode cX4_shot 42 = .ok (.goto 5, 3) := by decide +kernel
theorem dX4_shot_45 : decode cX4_shot 45 = .ok (.bipush (-3), 2) := by decide +kernel
theorem dX4_shot_47 : decode cX4_shot 47 = .ok (.ireturn, 1) := by decide +kernel
theorem dX4_clear_0 : decode cX4_clear 0 = .ok (.aload_n 0, 1) := by decide +kernel
theorem dX4_clear_1 : decode cX4_clear 1 = .ok (.getfield 19, 3) := by decide +kernel
theorem dX4_clear_4 : decode cX4_clear 4 = .ok (.invokevirtual 93, 3) := by decide +kernel
theorem dX4_clear_7 : decode cX4_clear 7 = .ok (.ireturn, 1) := by decide +kernel
theorem dX4_left_0 : decode cX4_left 0 = .ok (.aload_n 0, 1) := by decide +kernel
theorem dX4_left_1 : decode cX4_left 1 = .ok (.getfield 19, 3) := by decide +kernel
theorem dX4_left_4 : decode cX4_left 4 = .ok (.aload_n 0, 1) := by decide +kernel
theorem dX4_left_5 : decode cX4_left 5 = .ok (.getfield 10, 3) := by decide +kernel
theorem dX4_left_8 : decode cX4_left 8 = .ok (.invokevirtual 96, 3) := by decide +kernel
theorem dX4_left_11 : decode cX4_left 11 = .ok (.aload_n 0, 1) := by decide +kernel
theorem dX4_left_12 : decode cX4_left 12 = .ok (.getfield 19, 3) := by decide +kernel
theorem dX4_left_15 : decode cX4_left 15 = .ok (.invokevirtual 100, 3) := by decide +kernel
theorem dX4_left_18 : decode cX4_left 18 = .ok (.ireturn, 1) := by decide +kernel
theorem dX4_span_0 : decode cX4_span 0 = .ok (.iload_n 1, 1) := by decide +kernel
theorem dX4_span_1 : decode cX4_span 1 = .ok (.iconst 0, 1) := by decide +kernel
theorem dX4_span_2 : decode cX4_span 2 = .ok (.bipush 60, 2) := by decide +kernel
theorem dX4_span_4 : decode cX4_span 4 = .ok (.invokestatic 49, 3) := by decide +kernel
theorem dX4_span_7 : decode cX4_span 7 = .ok (.ifCond .eq 12, 3) := by decide +kernel
theorem dX4_span_10 : decode cX4_span 10 = .ok (.iload_n 2, 1) := by decide +kernel
theorem dX4_span_11 : decode cX4_span 11 = .ok (.iconst 0, 1) := by decide +kernel
theorem dX4_span_12 : decode cX4_span 12 = .ok (.iconst 1, 1) := by decide +kernel
theorem dX4_span_13 : decode cX4_span 13 = .ok (.invokestatic 49, 3) := by decide +kernel
theorem dX4_span_16 : decode cX4_span 16 = .ok (.ifCond .ne 7, 3) := by decide +kernel
theorem dX4_span_19 : decode cX4_span 19 = .ok (.sipush (-2000), 3) := by decide +kernel
theorem dX4_span_22 : decode cX4_span 22 = .ok (.ireturn, 1) := by decide +kernel
theorem dX4_span_23 : decode cX4_span 23 = .ok (.aload_n 0, 1) := by decide +kernel
theorem dX4_span_24 : decode cX4_span 24 = .ok (.getfield 19, 3) := by decide +kernel
theorem dX4_span_27 : decode cX4_span 27 = .ok (.aload_n 0, 1) := by decide +kernel
theorem dX4_span_28 : decode cX4_span 28 = .ok (.getfield 10, 3) := by decide +kernel
theorem dX4_span_31 : decode cX4_span 31 = .ok (.invokevirtual 96, 3) := by decide +kernel
theorem dX4_span_34 : decode cX4_span 34 = .ok (.aload_n 0, 1) := by decide +kernel
theorem dX4_span_35 : decode cX4_span 35 = .ok (.getfield 19, 3) := by decide +kernel
theorem dX4_span_38 : decode cX4_span 38 = .ok (.iload_n 1, 1) := by decide +kernel
theorem dX4_span_39 : decode cX4_span 39 = .ok (.invokevirtual 103, 3) := by decide +kernel
theorem dX4_span_42 : decode cX4_span 42 = .ok (.ifCond .ne 7, 3) := by decide +kernel
theorem dX4_span_45 : decode cX4_span 45 = .ok (.sipush (-1000), 3) := by decide +kernel
theorem dX4_span_48 : decode cX4_span 48 = .ok (.ireturn, 1) := by decide +kernel
theorem dX4_span_49 : decode cX4_span 49 = .ok (.iload_n 2, 1) := by decide +kernel
theorem dX4_span_50 : decode cX4_span 50 = .ok (.ifCond .ne 14, 3) := by decide +kernel
theorem dX4_span_53 : decode cX4_span 53 = .ok (.aload_n 0, 1) := by decide +kernel
theorem dX4_span_54 : decode cX4_span 54 = .ok (.getfield 19, 3) := by decide +kernel
theorem dX4_span_57 : decode cX4_span 57 = .ok (.iload_n 1, 1) := by decide +kernel
theorem dX4_span_58 : decode cX4_span 58 = .ok (.invokevirtual 107, 3) := by decide +kernel
theorem dX4_span_61 : decode cX4_span 61 = .ok (.goto 11, 3) := by decide +kernel
theorem dX4_span_64 : decode cX4_span 64 = .ok (.aload_n 0, 1) := by decide +kernel
theorem dX4_span_65 : decode cX4_span 65 = .ok (.getfield 19, 3) := by decide +kernel
theorem dX4_span_68 : decode cX4_span 68 = .ok (.iload_n 1, 1) := by decide +kernel
theorem dX4_span_69 : decode cX4_span 69 = .ok (.invokevirtual 110, 3) := by decide +kernel
theorem dX4_span_72 : decode cX4_span 72 = .ok (.ireturn, 1) := by decide +kernel
theorem dX4_next_0 : decode cX4_next 0 = .ok (.aload_n 0, 1) := by decide +kernel
theorem dX4_next_1 : decode cX4_next 1 = .ok (.getfield 19, 3) := by decide +kernel
theorem dX4_next_4 : decode cX4_next 4 = .ok (.aload_n 0, 1) := by decide +kernel
theorem dX4_next_5 : decode cX4_next 5 = .ok (.getfield 10, 3) := by decide +kernel
theorem dX4_next_8 : decode cX4_next 8 = .ok (.invokevirtual 96, 3) := by decide +kernel
theorem dX4_next_11 : decode cX4_next 11 = .ok (.aload_n 0, 1) := by decide +kernel
theorem dX4_next_12 : decode cX4_next 12 = .ok (.getfield 19, 3) := by decide +kernel
theorem dX4_next_15 : decode cX4_next 15 = .ok (.invokevirtual 113, 3) := by decide +kernel
theorem dX4_next_18 : decode cX4_next 18 = .ok (.ireturn, 1) := by decide +kernel
theorem dX4_surest_0 : decode cX4_surest 0 = .ok (.iload_n 1, 1) := by decide +kernel
theorem dX4_surest_1 : decode cX4_surest 1 = .ok (.iconst 0, 1) := by decide +kernel
theorem dX4_surest_2 : decode cX4_surest 2 = .ok (.sipush 2000, 3) := by decide +kernel
theorem dX4_surest_5 : decode cX4_surest 5 = .ok (.invokestatic 49, 3) := by decide +kernel
theorem dX4_surest_8 : decode cX4_surest 8 = .ok (.ifCond .eq 12, 3) := by decide +kernel
theorem dX4_surest_11 : decode cX4_surest 11 = .ok (.iload_n 2, 1) := by decide +kernel
theorem dX4_surest_12 : decode cX4_surest 12 = .ok (.iconst 0, 1) := by decide +kernel
theorem dX4_surest_13 : decode cX4_surest 13 = .ok (.iconst 1, 1) := by decide +kernel
theorem dX4_surest_14 : decode cX4_surest 14 = .ok (.invokestatic 49, 3) := by decide +kernel
theorem dX4_surest_17 : decode cX4_surest 17 = .ok (.ifCond .ne 5, 3) := by decide +kernel
theorem dX4_surest_20 : decode cX4_surest 20 = .ok (.iconst (-1), 1) := by decide +kernel
theorem dX4_surest_21 : decode cX4_surest 21 = .ok (.ireturn, 1) := by decide +kernel
theorem dX4_surest_22 : decode cX4_surest 22 = .ok (.aload_n 0, 1) := by decide +kernel
theorem dX4_surest_23 : decode cX4_surest 23 = .ok (.getfield 19, 3) := by decide +kernel
theorem dX4_surest_26 : decode cX4_surest 26 = .ok (.aload_n 0, 1) := by decide +kernel
theorem dX4_surest_27 : decode cX4_surest 27 = .ok (.getfield 10, 3) := by decide +kernel
theorem dX4_surest_30 : decode cX4_surest 30 = .ok (.invokevirtual 96, 3) := by decide +kernel
theorem dX4_surest_33 : decode cX4_surest 33 = .ok (.aload_n 0, 1) := by decide +kernel
theorem dX4_surest_34 : decode cX4_surest 34 = .ok (.getfield 19, 3) := by decide +kernel
theorem dX4_surest_37 : decode cX4_surest 37 = .ok (.iload_n 1, 1) := by decide +kernel
theorem dX4_surest_38 : decode cX4_surest 38 = .ok (.invokevirtual 116, 3) := by decide +kernel
theorem dX4_surest_41 : decode cX4_surest 41 = .ok (.istore_n 3, 1) := by decide +kernel
theorem dX4_surest_42 : decode cX4_surest 42 = .ok (.iload_n 3, 1) := by decide +kernel
theorem dX4_surest_43 : decode cX4_surest 43 = .ok (.bipush (-9), 2) := by decide +kernel
theorem dX4_surest_45 : decode cX4_surest 45 = .ok (.if_icmp .eq 7, 3) := by decide +kernel
theorem dX4_surest_48 : decode cX4_surest 48 = .ok (.iload_n 2, 1) := by decide +kernel
theorem dX4_surest_49 : decode cX4_surest 49 = .ok (.ifCond .ne 7, 3) := by decide +kernel
theorem dX4_surest_52 : decode cX4_surest 52 = .ok (.iload_n 3, 1) := by decide +kernel
theorem dX4_surest_53 : decode cX4_surest 53 = .ok (.goto 12, 3) := by decide +kernel
theorem dX4_surest_56 : decode cX4_surest 56 = .ok (.aload_n 0, 1) := by decide +kernel
theorem dX4_surest_57 : decode cX4_surest 57 = .ok (.getfield 19, 3) := by decide +kernel
theorem dX4_surest_60 : decode cX4_surest 60 = .ok (.iload_n 3, 1) := by decide +kernel
theorem dX4_surest_61 : decode cX4_surest 61 = .ok (.iload_n 1, 1) := by decide +kernel
theorem dX4_surest_62 : decode cX4_surest 62 = .ok (.invokevirtual 119, 3) := by decide +kernel
theorem dX4_surest_65 : decode cX4_surest 65 = .ok (.ireturn, 1) := by decide +kernel
theorem dX4_wall_0 : decode cX4_wall 0 = .ok (.iload_n 1, 1) := by decide +kernel
theorem dX4_wall_1 : decode cX4_wall 1 = .ok (.iconst 1, 1) := by decide +kernel
theorem dX4_wall_2 : decode cX4_wall 2 = .ok (.bipush 8, 2) := by decide +kernel
theorem dX4_wall_4 : decode cX4_wall 4 = .ok (.invokestatic 49, 3) := by decide +kernel
theorem dX4_wall_7 : decode cX4_wall 7 = .ok (.ifCond .eq 13, 3) := by decide +kernel
theorem dX4_wall_10 : decode cX4_wall 10 = .ok (.iload_n 2, 1) := by decide +kernel
theorem dX4_wall_11 : decode cX4_wall 11 = .ok (.iconst 1, 1) := by decide +kernel
theorem dX4_wall_12 : decode cX4_wall 12 = .ok (.bipush 6, 2) := by decide +kernel
theorem dX4_wall_14 : decode cX4_wall 14 = .ok (.invokestatic 49, 3) := by decide +kernel
theorem dX4_wall_17 : decode cX4_wall 17 = .ok (.ifCond .ne 5, 3) := by decide +kernel
theorem dX4_wall_20 : decode cX4_wall 20 = .ok (.iconst (-1), 1) := by decide +kernel
theorem dX4_wall_21 : decode cX4_wall 21 = .ok (.ireturn, 1) := by decide +kernel
theorem dX4_wall_22 : decode cX4_wall 22 = .ok (.aload_n 0, 1) := by decide +kernel
theorem dX4_wall_23 : decode cX4_wall 23 = .ok (.getfield 26, 3) := by decide +kernel
theorem dX4_wall_26 : decode cX4_wall 26 = .ok (.iload_n 1, 1) := by decide +kernel
theorem dX4_wall_27 : decode cX4_wall 27 = .ok (.iload_n 2, 1) := by decide +kernel
theorem dX4_wall_28 : decode cX4_wall 28 = .ok (.invokevirtual 122, 3) := by decide +kernel
theorem dX4_wall_31 : decode cX4_wall 31 = .ok (.iload_n 1, 1) := by decide +kernel
theorem dX4_wall_32 : decode cX4_wall 32 = .ok (.iload_n 2, 1) := by decide +kernel
theorem dX4_wall_33 : decode cX4_wall 33 = .ok (.imul, 1) := by decide +kernel
theorem dX4_wall_34 : decode cX4_wall 34 = .ok (.ireturn, 1) := by decide +kernel
theorem dX4_strength_0 : decode cX4_strength 0 = .ok (.aload_n 0, 1) := by decide +kernel
theorem dX4_strength_1 : decode cX4_strength 1 = .ok (.getfield 26, 3) := by decide +kernel
theorem dX4_strength_4 : decode cX4_strength 4 = .ok (.iload_n 1, 1) := by decide +kernel
theorem dX4_strength_5 : decode cX4_strength 5 = .ok (.iload_n 2, 1) := by decide +kernel
theorem dX4_strength_6 : decode cX4_strength 6 = .ok (.invokevirtual 126, 3) := by decide +kernel
theorem dX4_strength_9 : decode cX4_strength 9 = .ok (.ifCond .eq 13, 3) := by decide +kernel
theorem dX4_strength_12 : decode cX4_strength 12 = .ok (.iload_n 3, 1) := by decide +kernel
theorem dX4_strength_13 : decode cX4_strength 13 = .ok (.iconst 1, 1) := by decide +kernel
theorem dX4_strength_14 : decode cX4_strength 14 = .ok (.bipush 99, 2) := by decide +kernel
theorem dX4_strength_16 : decode cX4_strength 16 = .ok (.invokestatic 49, 3) := by decide +kernel
theorem dX4_strength_19 : decode cX4_strength 19 = .ok (.ifCond .ne 5, 3) := by decide +kernel
theorem dX4_strength_22 : decode cX4_strength 22 = .ok (.iconst (-1), 1) := by decide +kernel
theorem dX4_strength_23 : decode cX4_strength 23 = .ok (.ireturn, 1) := by decide +kernel
theorem dX4_strength_24 : decode cX4_strength 24 = .ok (.aload_n 0, 1) := by decide +kernel
theorem dX4_strength_25 : decode cX4_strength 25 = .ok (.getfield 26, 3) := by decide +kernel
theorem dX4_strength_28 : decode cX4_strength 28 = .ok (.iload_n 1, 1) := by decide +kernel
theorem dX4_strength_29 : decode cX4_strength 29 = .ok (.iload_n 2, 1) := by decide +kernel
theorem dX4_strength_30 : decode cX4_strength 30 = .ok (.invokevirtual 129, 3) := by decide +kernel
theorem dX4_strength_33 : decode cX4_strength 33 = .ok (.ifCond .eq 16, 3) := by decide +kernel
theorem dX4_strength_36 : decode cX4_strength 36 = .ok (.aload_n 0, 1) := by decide +kernel
theorem dX4_strength_37 : decode cX4_strength 37 = .ok (.getfield 26, 3) := by decide +kernel
theorem dX4_strength_40 : decode cX4_strength 40 = .ok (.iload_n 1, 1) := by decide +kernel
theorem dX4_strength_41 : decode cX4_strength 41 = .ok (.iload_n 2, 1) := by decide +kernel
theorem dX4_strength_42 : decode cX4_strength 42 = .ok (.iload_n 3, 1) := by decide +kernel
theorem dX4_strength_43 : decode cX4_strength 43 = .ok (.invokevirtual 132, 3) := by decide +kernel
theorem dX4_strength_46 : decode cX4_strength 46 = .ok (.goto 5, 3) := by decide +kernel
theorem dX4_strength_49 : decode cX4_strength 49 = .ok (.bipush (-2), 2) := by decide +kernel
theorem dX4_strength_51 : decode cX4_strength 51 = .ok (.ireturn, 1) := by decide +kernel
theorem dX4_prop_0 : decode cX4_prop 0 = .ok (.aload_n 0, 1) := by decide +kernel
theorem dX4_prop_1 : decode cX4_prop 1 = .ok (.getfield 26, 3) := by decide +kernel
theorem dX4_prop_4 : decode cX4_prop 4 = .ok (.iload_n 1, 1) := by decide +kernel
theorem dX4_prop_5 : decode cX4_prop 5 = .ok (.iload_n 2, 1) := by decide +kernel
theorem dX4_prop_6 : decode cX4_prop 6 = .ok (.invokevirtual 126, 3) := by decide +kernel
theorem dX4_prop_9 : decode cX4_prop 9 = .ok (.ifCond .ne 5, 3) := by decide +kernel
theorem dX4_prop_12 : decode cX4_prop 12 = .ok (.iconst (-1), 1) := by decide +kernel
theorem dX4_prop_13 : decode cX4_prop 13 = .ok (.ireturn, 1) := by decide +kernel
theorem dX4_prop_14 : decode cX4_prop 14 = .ok (.aload_n 0, 1) := by decide +kernel
theorem dX4_prop_15 : decode cX4_prop 15 = .ok (.getfield 26, 3) := by decide +kernel
theorem dX4_prop_18 : decode cX4_prop 18 = .ok (.iload_n 1, 1) := by decide +kernel
theorem dX4_prop_19 : decode cX4_prop 19 = .ok (.iload_n 2, 1) := by decide +kernel
theorem dX4_prop_20 : decode cX4_prop 20 = .ok (.invokevirtual 129, 3) := by decide +kernel
theorem dX4_prop_23 : decode cX4_prop 23 = .ok (.ifCond .eq 15, 3) := by decide +kernel
theorem dX4_prop_26 : decode cX4_prop 26 = .ok (.aload_n 0, 1) := by decide +kernel
theorem dX4_prop_27 : decode cX4_prop 27 = .ok (.getfield 26, 3) := by decide +kernel
theorem dX4_prop_30 : decode cX4_prop 30 = .ok (.iload_n 1, 1) := by decide +kernel
theorem dX4_prop_31 : decode cX4_prop 31 = .ok (.iload_n 2, 1) := by decide +kernel
theorem dX4_prop_32 : decode cX4_prop 32 = .ok (.invokevirtual 136, 3) := by decide +kernel
theorem dX4_prop_35 : decode cX4_prop 35 = .ok (.goto 5, 3) := by decide +kernel
theorem dX4_prop_38 : decode cX4_prop 38 = .ok (.bipush (-2), 2) := by decide +kernel
theorem dX4_prop_40 : decode cX4_prop 40 = .ok (.ireturn, 1) := by decide +kernel
theorem dX4_hit_0 : decode cX4_hit 0 = .ok (.aload_n 0, 1) := by decide +kernel
theorem dX4_hit_1 : decode cX4_hit 1 = .ok (.getfield 26, 3) := by decide +kernel
theorem dX4_hit_4 : decode cX4_hit 4 = .ok (.iload_n 1, 1) := by decide +kernel
theorem dX4_hit_5 : decode cX4_hit 5 = .ok (.iload_n 2, 1) := by decide +kernel
theorem dX4_hit_6 : decode cX4_hit 6 = .ok (.invokevirtual 126, 3) := by decide +kernel
theorem dX4_hit_9 : decode cX4_hit 9 = .ok (.ifCond .eq 13, 3) := by decide +kernel
theorem dX4_hit_12 : decode cX4_hit 12 = .ok (.iload_n 3, 1) := by decide +kernel
theorem dX4_hit_13 : decode cX4_hit 13 = .ok (.iconst 1, 1) := by decide +kernel
theorem dX4_hit_14 : decode cX4_hit 14 = .ok (.bipush 99, 2) := by decide +kernel
theorem dX4_hit_16 : decode cX4_hit 16 = .ok (.invokestatic 49, 3) := by decide +kernel
theorem dX4_hit_19 : decode cX4_hit 19 = .ok (.ifCond .ne 5, 3) := by decide +kernel
theorem dX4_hit_22 : decode cX4_hit 22 = .ok (.iconst (-1), 1) := by decide +kernel
theorem dX4_hit_23 : decode cX4_hit 23 = .ok (.ireturn, 1) := by decide +kernel
theorem dX4_hit_24 : decode cX4_hit 24 = .ok (.aload_n 0, 1) := by decide +kernel
theorem dX4_hit_25 : decode cX4_hit 25 = .ok (.getfield 26, 3) := by decide +kernel
theorem dX4_hit_28 : decode cX4_hit 28 = .ok (.iload_n 1, 1) := by decide +kernel
theorem dX4_hit_29 : decode cX4_hit 29 = .ok (.iload_n 2, 1) := by decide +kernel
theorem dX4_hit_30 : decode cX4_hit 30 = .ok (.invokevirtual 129, 3) := by decide +kernel
theorem dX4_hit_33 : decode cX4_hit 33 = .ok (.ifCond .eq 16, 3) := by decide +kernel
theorem dX4_hit_36 : decode cX4_hit 36 = .ok (.aload_n 0, 1) := by decide +kernel
theorem dX4_hit_37 : decode cX4_hit 37 = .ok (.getfield 26, 3) := by decide +kernel
theorem dX4_hit_40 : decode cX4_hit 40 = .ok (.iload_n 1, 1) := by decide +kernel
theorem dX4_hit_41 : decode cX4_hit 41 = .ok (.iload_n 2, 1) := by decide +kernel
theorem dX4_hit_42 : decode cX4_hit 42 = .ok (.iload_n 3, 1) := by decide +kernel
theorem dX4_hit_43 : decode cX4_hit 43 = .ok (.invokevirtual 139, 3) := by decide +kernel
theorem dX4_hit_46 : decode cX4_hit 46 = .ok (.goto 5, 3) := by decide +kernel
theorem dX4_hit_49 : decode cX4_hit 49 = .ok (.bipush (-2), 2) := by decide +kernel
theorem dX4_hit_51 : decode cX4_hit 51 = .ok (.ireturn, 1) := by decide +kernel
theorem dX4_cell_0 : decode cX4_cell 0 = .ok (.aload_n 0, 1) := by decide +kernel
theorem dX4_cell_1 : decode cX4_cell 1 = .ok (.getfield 26, 3) := by decide +kernel
theorem dX4_cell_4 : decode cX4_cell 4 = .ok (.iload_n 1, 1) := by decide +kernel
theorem dX4_cell_5 : decode cX4_cell 5 = .ok (.iload_n 2, 1) := by decide +kernel
theorem dX4_cell_6 : decode cX4_cell 6 = .ok (.invokevirtual 126, 3) := by decide +kernel
theorem dX4_cell_9 : decode cX4_cell 9 = .ok (.ifCond .ne 5, 3) := by decide +kernel
theorem dX4_cell_12 : decode cX4_cell 12 = .ok (.iconst (-1), 1) := by decide +kernel
theorem dX4_cell_13 : decode cX4_cell 13 = .ok (.ireturn, 1) := by decide +kernel
theorem dX4_cell_14 : decode cX4_cell 14 = .ok (.iload_n 3, 1) := by decide +kernel
theorem dX4_cell_15 : decode cX4_cell 15 = .ok (.tableswitch 71 0 2 #[25, 43, 53], 25) := by decide +kernel
theorem dX4_cell_40 : decode cX4_cell 40 = .ok (.aload_n 0, 1) := by decide +kernel
theorem dX4_cell_41 : decode cX4_cell 41 = .ok (.getfield 26, 3) := by decide +kernel
theorem dX4_cell_44 : decode cX4_cell 44 = .ok (.iload_n 1, 1) := by decide +kernel
theorem dX4_cell_45 : decode cX4_cell 45 = .ok (.iload_n 2, 1) := by decide +kernel
theorem dX4_cell_46 : decode cX4_cell 46 = .ok (.invokevirtual 129, 3) := by decide +kernel
theorem dX4_cell_49 : decode cX4_cell 49 = .ok (.ifCond .eq 7, 3) := by decide +kernel
theorem dX4_cell_52 : decode cX4_cell 52 = .ok (.iconst 1, 1) := by decide +kernel
theorem dX4_cell_53 : decode cX4_cell 53 = .ok (.goto 4, 3) := by decide +kernel
theorem dX4_cell_56 : decode cX4_cell 56 = .ok (.iconst 0, 1) := by decide +kernel
theorem dX4_cell_57 : decode cX4_cell 57 = .ok (.ireturn, 1) := by decide +kernel
theorem dX4_cell_58 : decode cX4_cell 58 = .ok (.aload_n 0, 1) := by decide +kernel
theorem dX4_cell_59 : decode cX4_cell 59 = .ok (.getfield 26, 3) := by decide +kernel
theorem dX4_cell_62 : decode cX4_cell 62 = .ok (.iload_n 1, 1) := by decide +kernel
theorem dX4_cell_63 : decode cX4_cell 63 = .ok (.iload_n 2, 1) := by decide +kernel
theorem dX4_cell_64 : decode cX4_cell 64 = .ok (.invokevirtual 142, 3) := by decide +kernel
theorem dX4_cell_67 : decode cX4_cell 67 = .ok (.ireturn, 1) := by decide +kernel
theorem dX4_cell_68 : decode cX4_cell 68 = .ok (.aload_n 0, 1) := by decide +kernel
theorem dX4_cell_69 : decode cX4_cell 69 = .ok (.getfield 26, 3) := by decide +kernel
theorem dX4_cell_72 : decode cX4_cell 72 = .ok (.iload_n 1, 1) := by decide +kernel
theorem dX4_cell_73 : decode cX4_cell 73 = .ok (.iload_n 2, 1) := by decide +kernel
theorem dX4_cell_74 : decode cX4_cell 74 = .ok (.invokevirtual 145, 3) := by decide +kernel
theorem dX4_cell_77 : decode cX4_cell 77 = .ok (.ifCond .eq 7, 3) := by decide +kernel
theorem dX4_cell_80 : decode cX4_cell 80 = .ok (.iconst 1, 1) := by decide +kernel
theorem dX4_cell_81 : decode cX4_cell 81 = .ok (.goto 4, 3) := by decide +kernel
theorem dX4_cell_84 : decode cX4_cell 84 = .ok (.iconst 0, 1) := by decide +kernel
theorem dX4_cell_85 : decode cX4_cell 85 = .ok (.ireturn, 1) := by decide +kernel
theorem dX4_cell_86 : decode cX4_cell 86 = .ok (.iconst (-1), 1) := by decide +kernel
theorem dX4_cell_87 : decode cX4_cell 87 = .ok (.ireturn, 1) := by decide +kernel
theorem dX4_level_0 : decode cX4_level 0 = .ok (.iload_n 1, 1) := by decide +kernel
theorem dX4_level_1 : decode cX4_level 1 = .ok (.iconst 0, 1) := by decide +kernel
theorem dX4_level_2 : decode cX4_level 2 = .ok (.iconst 2, 1) := by decide +kernel
theorem dX4_level_3 : decode cX4_level 3 = .ok (.invokestatic 49, 3) := by decide +kernel
theorem dX4_level_6 : decode cX4_level 6 = .ok (.ifCond .eq 14, 3) := by decide +kernel
theorem dX4_level_9 : decode cX4_level 9 = .ok (.aload_n 0, 1) := by decide +kernel
theorem dX4_level_10 : decode cX4_level 10 = .ok (.getfield 26, 3) := by decide +kernel
theorem dX4_level_13 : decode cX4_level 13 = .ok (.iload_n 1, 1) := by decide +kernel
theorem dX4_level_14 : decode cX4_level 14 = .ok (.invokevirtual 148, 3) := by decide +kernel
theorem dX4_level_17 : decode cX4_level 17 = .ok (.goto 4, 3) := by decide +kernel
theorem dX4_level_20 : decode cX4_level 20 = .ok (.iconst (-1), 1) := by decide +kernel
theorem dX4_level_21 : decode cX4_level 21 = .ok (.ireturn, 1) := by decide +kernel
theorem dX4_open_0 : decode cX4_open 0 = .ok (.aload_n 0, 1) := by decide +kernel
theorem dX4_open_1 : decode cX4_open 1 = .ok (.getfield 26, 3) := by decide +kernel
theorem dX4_open_4 : decode cX4_open 4 = .ok (.invokevirtual 151, 3) := by decide +kernel
theorem dX4_open_7 : decode cX4_open 7 = .ok (.ireturn, 1) := by decide +kernel
theorem dX4_soonest_0 : decode cX4_soonest 0 = .ok (.iload_n 1, 1) := by decide +kernel
theorem dX4_soonest_1 : decode cX4_soonest 1 = .ok (.iconst 1, 1) := by decide +kernel
theorem dX4_soonest_2 : decode cX4_soonest 2 = .ok (.bipush 99, 2) := by decide +kernel
theorem dX4_soonest_4 : decode cX4_soonest 4 = .ok (.invokestatic 49, 3) := by decide +kernel
theorem dX4_soonest_7 : decode cX4_soonest 7 = .ok (.ifCond .eq 12, 3) := by decide +kernel
theorem dX4_soonest_10 : decode cX4_soonest 10 = .ok (.iload_n 2, 1) := by decide +kernel
theorem dX4_soonest_11 : decode cX4_soonest 11 = .ok (.iconst 0, 1) := by decide +kernel
theorem dX4_soonest_12 : decode cX4_soonest 12 = .ok (.iconst 1, 1) := by decide +kernel
theorem dX4_soonest_13 : decode cX4_soonest 13 = .ok (.invokestatic 49, 3) := by decide +kernel
theorem dX4_soonest_16 : decode cX4_soonest 16 = .ok (.ifCond .ne 5, 3) := by decide +kernel
theorem dX4_soonest_19 : decode cX4_soonest 19 = .ok (.iconst (-1), 1) := by decide +kernel
theorem dX4_soonest_20 : decode cX4_soonest 20 = .ok (.ireturn, 1) := by decide +kernel
theorem dX4_soonest_21 : decode cX4_soonest 21 = .ok (.aload_n 0, 1) := by decide +kernel
theorem dX4_soonest_22 : decode cX4_soonest 22 = .ok (.getfield 26, 3) := by decide +kernel
theorem dX4_soonest_25 : decode cX4_soonest 25 = .ok (.iload_n 1, 1) := by decide +kernel
theorem dX4_soonest_26 : decode cX4_soonest 26 = .ok (.invokevirtual 154, 3) := by decide +kernel
theorem dX4_soonest_29 : decode cX4_soonest 29 = .ok (.istore_n 3, 1) := by decide +kernel
theorem dX4_soonest_30 : decode cX4_soonest 30 = .ok (.iload_n 2, 1) := by decide +kernel
theorem dX4_soonest_31 : decode cX4_soonest 31 = .ok (.ifCond .ne 7, 3) := by decide +kernel
theorem dX4_soonest_34 : decode cX4_soonest 34 = .ok (.iload_n 3, 1) := by decide +kernel
theorem dX4_soonest_35 : decode cX4_soonest 35 = .ok (.goto 12, 3) := by decide +kernel
theorem dX4_soonest_38 : decode cX4_soonest 38 = .ok (.aload_n 0, 1) := by decide +kernel
theorem dX4_soonest_39 : decode cX4_soonest 39 = .ok (.getfield 26, 3) := by decide +kernel
theorem dX4_soonest_42 : decode cX4_soonest 42 = .ok (.iload_n 3, 1) := by decide +kernel
theorem dX4_soonest_43 : decode cX4_soonest 43 = .ok (.iload_n 1, 1) := by decide +kernel
theorem dX4_soonest_44 : decode cX4_soonest 44 = .ok (.invokevirtual 157, 3) := by decide +kernel
theorem dX4_soonest_47 : decode cX4_soonest 47 = .ok (.ireturn, 1) := by decide +kernel
theorem dX4_scatter_0 : decode cX4_scatter 0 = .ok (.iload_n 1, 1) := by decide +kernel
theorem dX4_scatter_1 : decode cX4_scatter 1 = .ok (.iconst (-1), 1) := by decide +kernel
theorem dX4_scatter_2 : decode cX4_scatter 2 = .ok (.iconst 1, 1) := by decide +kernel
theorem dX4_scatter_3 : decode cX4_scatter 3 = .ok (.invokestatic 49, 3) := by decide +kernel
theorem dX4_scatter_6 : decode cX4_scatter 6 = .ok (.ifCond .eq 22, 3) := by decide +kernel
theorem dX4_scatter_9 : decode cX4_scatter 9 = .ok (.iload_n 2, 1) := by decide +kernel
theorem dX4_scatter_10 : decode cX4_scatter 10 = .ok (.iconst (-1), 1) := by decide +kernel
theorem dX4_scatter_11 : decode cX4_scatter 11 = .ok (.iconst 1, 1) := by decide +kernel
theorem dX4_scatter_12 : decode cX4_scatter 12 = .ok (.invokestatic 49, 3) := by decide +kernel
theorem dX4_scatter_15 : decode cX4_scatter 15 = .ok (.ifCond .eq 13, 3) := by decide +kernel
theorem dX4_scatter_18 : decode cX4_scatter 18 = .ok (.iload_n 3, 1) := by decide +kernel
theorem dX4_scatter_19 : decode cX4_scatter 19 = .ok (.iconst 0, 1) := by decide +kernel
theorem dX4_scatter_20 : decode cX4_scatter 20 = .ok (.bipush 9, 2) := by decide +kernel
theorem dX4_scatter_22 : decode cX4_scatter 22 = .ok (.invokestatic 49, 3) := by decide +kernel
theorem dX4_scatter_25 : decode cX4_scatter 25 = .ok (.ifCond .ne 5, 3) := by decide +kernel
theorem dX4_scatter_28 : decode cX4_scatter 28 = .ok (.iconst (-1), 1) := by decide +kernel
theorem dX4_scatter_29 : decode cX4_scatter 29 = .ok (.ireturn, 1) := by decide +kernel
theorem dX4_scatter_30 : decode cX4_scatter 30 = .ok (.aload_n 0, 1) := by decide +kernel
theorem dX4_scatter_31 : decode cX4_scatter 31 = .ok (.getfield 26, 3) := by decide +kernel
theorem dX4_scatter_34 : decode cX4_scatter 34 = .ok (.iload_n 1, 1) := by decide +kernel
theorem dX4_scatter_35 : decode cX4_scatter 35 = .ok (.iload_n 2, 1) := by decide +kernel
theorem dX4_scatter_36 : decode cX4_scatter 36 = .ok (.iload_n 3, 1) := by decide +kernel
theorem dX4_scatter_37 : decode cX4_scatter 37 = .ok (.invokevirtual 160, 3) := by decide +kernel
theorem dX4_scatter_40 : decode cX4_scatter 40 = .ok (.ireturn, 1) := by decide +kernel
theorem dX4_worth_0 : decode cX4_worth 0 = .ok (.aload_n 0, 1) := by decide +kernel
theorem dX4_worth_1 : decode cX4_worth 1 = .ok (.getfield 26, 3) := by decide +kernel
theorem dX4_worth_4 : decode cX4_worth 4 = .ok (.iload_n 1, 1) := by decide +kernel
theorem dX4_worth_5 : decode cX4_worth 5 = .ok (.iload_n 2, 1) := by decide +kernel
theorem dX4_worth_6 : decode cX4_worth 6 = .ok (.invokevirtual 126, 3) := by decide +kernel
theorem dX4_worth_9 : decode cX4_worth 9 = .ok (.ifCond .eq 13, 3) := by decide +kernel
theorem dX4_worth_12 : decode cX4_worth 12 = .ok (.iload_n 3, 1) := by decide +kernel
theorem dX4_worth_13 : decode cX4_worth 13 = .ok (.iconst 1, 1) := by decide +kernel
theorem dX4_worth_14 : decode cX4_worth 14 = .ok (.bipush 99, 2) := by decide +kernel
theorem dX4_worth_16 : decode cX4_worth 16 = .ok (.invokestatic 49, 3) := by decide +kernel
theorem dX4_worth_19 : decode cX4_worth 19 = .ok (.ifCond .ne 5, 3) := by decide +kernel
theorem dX4_worth_22 : decode cX4_worth 22 = .ok (.iconst (-1), 1) := by decide +kernel
theorem dX4_worth_23 : decode cX4_worth 23 = .ok (.ireturn, 1) := by decide +kernel
theorem dX4_worth_24 : decode cX4_worth 24 = .ok (.aload_n 0, 1) := by decide +kernel
theorem dX4_worth_25 : decode cX4_worth 25 = .ok (.getfield 26, 3) := by decide +kernel
theorem dX4_worth_28 : decode cX4_worth 28 = .ok (.iload_n 1, 1) := by decide +kernel
theorem dX4_worth_29 : decode cX4_worth 29 = .ok (.iload_n 2, 1) := by decide +kernel
theorem dX4_worth_30 : decode cX4_worth 30 = .ok (.iload_n 3, 1) := by decide +kernel
theorem dX4_worth_31 : decode cX4_worth 31 = .ok (.invokevirtual 163, 3) := by decide +kernel
theorem dX4_worth_34 : decode cX4_worth 34 = .ok (.ireturn, 1) := by decide +kernel
theorem dX4_aim_0 : decode cX4_aim 0 = .ok (.iload_n 1, 1) := by decide +kernel
theorem dX4_aim_1 : decode cX4_aim 1 = .ok (.iconst 1, 1) := by decide +kernel
theorem dX4_aim_2 : decode cX4_aim 2 = .ok (.bipush 99, 2) := by decide +kernel
theorem dX4_aim_4 : decode cX4_aim 4 = .ok (.invokestatic 49, 3) := by decide +kernel
theorem dX4_aim_7 : decode cX4_aim 7 = .ok (.ifCond .eq 12, 3) := by decide +kernel
theorem dX4_aim_10 : decode cX4_aim 10 = .ok (.iload_n 2, 1) := by decide +kernel
theorem dX4_aim_11 : decode cX4_aim 11 = .ok (.iconst 0, 1) := by decide +kernel
theorem dX4_aim_12 : decode cX4_aim 12 = .ok (.iconst 1, 1) := by decide +kernel
theorem dX4_aim_13 : decode cX4_aim 13 = .ok (.invokestatic 49, 3) := by decide +kernel
theorem dX4_aim_16 : decode cX4_aim 16 = .ok (.ifCond .ne 5, 3) := by decide +kernel
theorem dX4_aim_19 : decode cX4_aim 19 = .ok (.iconst (-1), 1) := by decide +kernel
theorem dX4_aim_20 : decode cX4_aim 20 = .ok (.ireturn, 1) := by decide +kernel
theorem dX4_aim_21 : decode cX4_aim 21 = .ok (.aload_n 0, 1) := by decide +kernel
theorem dX4_aim_22 : decode cX4_aim 22 = .ok (.getfield 26, 3) := by decide +kernel
theorem dX4_aim_25 : decode cX4_aim 25 = .ok (.iload_n 1, 1) := by decide +kernel
theorem dX4_aim_26 : decode cX4_aim 26 = .ok (.invokevirtual 166, 3) := by decide +kernel
theorem dX4_aim_29 : decode cX4_aim 29 = .ok (.istore_n 3, 1) := by decide +kernel
theorem dX4_aim_30 : decode cX4_aim 30 = .ok (.iload_n 2, 1) := by decide +kernel
theorem dX4_aim_31 : decode cX4_aim 31 = .ok (.ifCond .ne 7, 3) := by decide +kernel
theorem dX4_aim_34 : decode cX4_aim 34 = .ok (.iload_n 3, 1) := by decide +kernel
theorem dX4_aim_35 : decode cX4_aim 35 = .ok (.goto 27, 3) := by decide +kernel
theorem dX4_aim_38 : decode cX4_aim 38 = .ok (.aload_n 0, 1) := by decide +kernel
theorem dX4_aim_39 : decode cX4_aim 39 = .ok (.getfield 26, 3) := by decide +kernel
theorem dX4_aim_42 : decode cX4_aim 42 = .ok (.aload_n 0, 1) := by decide +kernel
theorem dX4_aim_43 : decode cX4_aim 43 = .ok (.getfield 26, 3) := by decide +kernel
theorem dX4_aim_46 : decode cX4_aim 46 = .ok (.iload_n 3, 1) := by decide +kernel
theorem dX4_aim_47 : decode cX4_aim 47 = .ok (.invokevirtual 169, 3) := by decide +kernel
theorem dX4_aim_50 : decode cX4_aim 50 = .ok (.aload_n 0, 1) := by decide +kernel
theorem dX4_aim_51 : decode cX4_aim 51 = .ok (.getfield 26, 3) := by decide +kernel
theorem dX4_aim_54 : decode cX4_aim 54 = .ok (.iload_n 3, 1) := by decide +kernel
theorem dX4_aim_55 : decode cX4_aim 55 = .ok (.invokevirtual 172, 3) := by decide +kernel
theorem dX4_aim_58 : decode cX4_aim 58 = .ok (.iload_n 1, 1) := by decide +kernel
theorem dX4_aim_59 : decode cX4_aim 59 = .ok (.invokevirtual 163, 3) := by decide +kernel
theorem dX4_aim_62 : decode cX4_aim 62 = .ok (.ireturn, 1) := by decide +kernel
theorem dX4_held_0 : decode cX4_held 0 = .ok (.aload_n 0, 1) := by decide +kernel
theorem dX4_held_1 : decode cX4_held 1 = .ok (.getfield 26, 3) := by decide +kernel
theorem dX4_held_4 : decode cX4_held 4 = .ok (.iload_n 1, 1) := by decide +kernel
theorem dX4_held_5 : decode cX4_held 5 = .ok (.iload_n 2, 1) := by decide +kernel
theorem dX4_held_6 : decode cX4_held 6 = .ok (.invokevirtual 126, 3) := by decide +kernel
theorem dX4_held_9 : decode cX4_held 9 = .ok (.ifCond .eq 23, 3) := by decide +kernel
theorem dX4_held_12 : decode cX4_held 12 = .ok (.iload_n 3, 1) := by decide +kernel
theorem dX4_held_13 : decode cX4_held 13 = .ok (.iconst 1, 1) := by decide +kernel
theorem dX4_held_14 : decode cX4_held 14 = .ok (.bipush 99, 2) := by decide +kernel
theorem dX4_held_16 : decode cX4_held 16 = .ok (.invokestatic 49, 3) := by decide +kernel
theorem dX4_held_19 : decode cX4_held 19 = .ok (.ifCond .eq 13, 3) := by decide +kernel
theorem dX4_held_22 : decode cX4_held 22 = .ok (.iload 4, 2) := by decide +kernel
theorem dX4_held_24 : decode cX4_held 24 = .ok (.iconst 1, 1) := by decide +kernel
theorem dX4_held_25 : decode cX4_held 25 = .ok (.iconst 4, 1) := by decide +kernel
theorem dX4_held_26 : decode cX4_held 26 = .ok (.invokestatic 49, 3) := by decide +kernel
theorem dX4_held_29 : decode cX4_held 29 = .ok (.ifCond .ne 7, 3) := by decide +kernel
theorem dX4_held_32 : decode cX4_held 32 = .ok (.ldc2_w 175, 3) := by decide +kernel
theorem dX4_held_35 : decode cX4_held 35 = .ok (.lreturn, 1) := by decide +kernel
theorem dX4_held_36 : decode cX4_held 36 = .ok (.aload_n 0, 1) := by decide +kernel
theorem dX4_held_37 : decode cX4_held 37 = .ok (.getfield 26, 3) := by decide +kernel
theorem dX4_held_40 : decode cX4_held 40 = .ok (.invokevirtual 151, 3) := by decide +kernel
theorem dX4_held_43 : decode cX4_held 43 = .ok (.bipush (-9), 2) := by decide +kernel
theorem dX4_held_45 : decode cX4_held 45 = .ok (.if_icmp .ne 18, 3) := by decide +kernel
theorem dX4_held_48 : decode cX4_held 48 = .ok (.aload_n 0, 1) := by decide +kernel
theorem dX4_held_49 : decode cX4_held 49 = .ok (.getfield 26, 3) := by decide +kernel
theorem dX4_held_52 : decode cX4_held 52 = .ok (.iload_n 1, 1) := by decide +kernel
theorem dX4_held_53 : decode cX4_held 53 = .ok (.iload_n 2, 1) := by decide +kernel
theorem dX4_held_54 : decode cX4_held 54 = .ok (.iload_n 3, 1) := by decide +kernel
theorem dX4_held_55 : decode cX4_held 55 = .ok (.iload 4, 2) := by decide +kernel
theorem dX4_held_57 : decode cX4_held 57 = .ok (.invokestatic 177, 3) := by decide +kernel
theorem dX4_held_60 : decode cX4_held 60 = .ok (.goto 4, 3) := by decide +kernel
theorem dX4_held_63 : decode cX4_held 63 = .ok (.lconst 0, 1) := by decide +kernel
theorem dX4_held_64 : decode cX4_held 64 = .ok (.lreturn, 1) := by decide +kernel
theorem dX4_wound_0 : decode cX4_wound 0 = .ok (.aload_n 0, 1) := by decide +kernel
theorem dX4_wound_1 : decode cX4_wound 1 = .ok (.getfield 37, 3) := by decide +kernel
theorem dX4_wound_4 : decode cX4_wound 4 = .ok (.ifCond .eq 6, 3) := by decide +kernel
theorem dX4_wound_7 : decode cX4_wound 7 = .ok (.bipush (-2), 2) := by decide +kernel
theorem dX4_wound_9 : decode cX4_wound 9 = .ok (.ireturn, 1) := by decide +kernel
theorem dX4_wound_10 : decode cX4_wound 10 = .ok (.aload_n 0, 1) := by decide +kernel
theorem dX4_wound_11 : decode cX4_wound 11 = .ok (.iconst 1, 1) := by decide +kernel
theorem dX4_wound_12 : decode cX4_wound 12 = .ok (.putfield 37, 3) := by decide +kernel
theorem dX4_wound_15 : decode cX4_wound 15 = .ok (.aload_n 0, 1) := by decide +kernel
theorem dX4_wound_16 : decode cX4_wound 16 = .ok (.getfield 37, 3) := by decide +kernel
theorem dX4_wound_19 : decode cX4_wound 19 = .ok (.ireturn, 1) := by decide +kernel
theorem dX4_sling_0 : decode cX4_sling 0 = .ok (.aload_n 0, 1) := by decide +kernel
theorem dX4_sling_1 : decode cX4_sling 1 = .ok (.getfield 37, 3) := by decide +kernel
theorem dX4_sling_4 : decode cX4_sling 4 = .ok (.iconst 1, 1) := by decide +kernel
theorem dX4_sling_5 : decode cX4_sling 5 = .ok (.if_icmp .eq 6, 3) := by decide +kernel
theorem dX4_sling_8 : decode cX4_sling 8 = .ok (.bipush (-2), 2) := by decide +kernel
theorem dX4_sling_10 : decode cX4_sling 10 = .ok (.ireturn, 1) := by decide +kernel
theorem dX4_sling_11 : decode cX4_sling 11 = .ok (.aload_n 0, 1) := by decide +kernel
theorem dX4_sling_12 : decode cX4_sling 12 = .ok (.iconst 2, 1) := by decide +kernel
theorem dX4_sling_13 : decode cX4_sling 13 = .ok (.putfield 37, 3) := by decide +kernel
theorem dX4_sling_16 : decode cX4_sling 16 = .ok (.aload_n 0, 1) := by decide +kernel
theorem dX4_sling_17 : decode cX4_sling 17 = .ok (.getfield 37, 3) := by decide +kernel
theorem dX4_sling_20 : decode cX4_sling 20 = .ok (.ireturn, 1) := by decide +kernel
theorem dX4_near_0 : decode cX4_near 0 = .ok (.iload_n 1, 1) := by decide +kernel
theorem dX4_near_1 : decode cX4_near 1 = .ok (.iconst 0, 1) := by decide +kernel
theorem dX4_near_2 : decode cX4_near 2 = .ok (.sipush 200, 3) := by decide +kernel
theorem dX4_near_5 : decode cX4_near 5 = .ok (.invokestatic 49, 3) := by decide +kernel
theorem dX4_near_8 : decode cX4_near 8 = .ok (.ifCond .ne 5, 3) := by decide +kernel
theorem dX4_near_11 : decode cX4_near 11 = .ok (.iconst (-1), 1) := by decide +kernel
theorem dX4_near_12 : decode cX4_near 12 = .ok (.ireturn, 1) := by decide +kernel
theorem dX4_near_13 : decode cX4_near 13 = .ok (.aload_n 0, 1) := by decide +kernel
theorem dX4_near_14 : decode cX4_near 14 = .ok (.getfield 37, 3) := by decide +kernel
theorem dX4_near_17 : decode cX4_near 17 = .ok (.iconst 2, 1) := by decide +kernel
theorem dX4_near_18 : decode cX4_near 18 = .ok (.if_icmp .eq 11, 3) := by decide +kernel
theorem dX4_near_21 : decode cX4_near 21 = .ok (.aload_n 0, 1) := by decide +kernel
theorem dX4_near_22 : decode cX4_near 22 = .ok (.getfield 37, 3) := by decide +kernel
theorem dX4_near_25 : decode cX4_near 25 = .ok (.iconst 3, 1) := by decide +kernel
theorem dX4_near_26 : decode cX4_near 26 = .ok (.if_icmp .ne 16, 3) := by decide +kernel
theorem dX4_near_29 : decode cX4_near 29 = .ok (.aload_n 0, 1) := by decide +kernel
theorem dX4_near_30 : decode cX4_near 30 = .ok (.iload_n 1, 1) := by decide +kernel
theorem dX4_near_31 : decode cX4_near 31 = .ok (.ifCond .ne 7, 3) := by decide +kernel
theorem dX4_near_34 : decode cX4_near 34 = .ok (.iconst 3, 1) := by decide +kernel
theorem dX4_near_35 : decode cX4_near 35 = .ok (.goto 4, 3) := by decide +kernel
theorem dX4_near_38 : decode cX4_near 38 = .ok (.iconst 2, 1) := by decide +kernel
theorem dX4_near_39 : decode cX4_near 39 = .ok (.putfield 37, 3) := by decide +kernel
theorem dX4_near_42 : decode cX4_near 42 = .ok (.aload_n 0, 1) := by decide +kernel
theorem dX4_near_43 : decode cX4_near 43 = .ok (.getfield 37, 3) := by decide +kernel
theorem dX4_near_46 : decode cX4_near 46 = .ok (.ireturn, 1) := by decide +kernel
theorem dX4_loose_0 : decode cX4_loose 0 = .ok (.aload_n 0, 1) := by decide +kernel
theorem dX4_loose_1 : decode cX4_loose 1 = .ok (.getfield 26, 3) := by decide +kernel
theorem dX4_loose_4 : decode cX4_loose 4 = .ok (.iload_n 1, 1) := by decide +kernel
theorem dX4_loose_5 : decode cX4_loose 5 = .ok (.iload_n 2, 1) := by decide +kernel
theorem dX4_loose_6 : decode cX4_loose 6 = .ok (.invokevirtual 126, 3) := by decide +kernel
theorem dX4_loose_9 : decode cX4_loose 9 = .ok (.ifCond .eq 14, 3) := by decide +kernel
theorem dX4_loose_12 : decode cX4_loose 12 = .ok (.iload_n 3, 1) := by decide +kernel
theorem dX4_loose_13 : decode cX4_loose 13 = .ok (.iconst 0, 1) := by decide +kernel
theorem dX4_loose_14 : decode cX4_loose 14 = .ok (.sipush 2000, 3) := by decide +kernel
theorem dX4_loose_17 : decode cX4_loose 17 = .ok (.invokestatic 49, 3) := by decide +kernel
theorem dX4_loose_20 : decode cX4_loose 20 = .ok (.ifCond .ne 5, 3) := by decide +kernel
theorem dX4_loose_23 : decode cX4_loose 23 = .ok (.iconst (-1), 1) := by decide +kernel
theorem dX4_loose_24 : decode cX4_loose 24 = .ok (.ireturn, 1) := by decide +kernel
theorem dX4_loose_25 : decode cX4_loose 25 = .ok (.aload_n 0, 1) := by decide +kernel
theorem dX4_loose_26 : decode cX4_loose 26 = .ok (.getfield 37, 3) := by decide +kernel
theorem dX4_loose_29 : decode cX4_loose 29 = .ok (.iconst 3, 1) := by decide +kernel
theorem dX4_loose_30 : decode cX4_loose 30 = .ok (.if_icmp .ne 13, 3) := by decide +kernel
theorem dX4_loose_33 : decode cX4_loose 33 = .ok (.aload_n 0, 1) := by decide +kernel
theorem dX4_loose_34 : decode cX4_loose 34 = .ok (.getfield 33, 3) := by decide +kernel
theorem dX4_loose_37 : decode cX4_loose 37 = .ok (.invokevirtual 181, 3) := by decide +kernel
theorem dX4_loose_40 : decode cX4_loose 40 = .ok (.ifCond .ne 6, 3) := by decide +kernel
theorem dX4_loose_43 : decode cX4_loose 43 = .ok (.bipush (-2), 2) := by decide +kernel
theorem dX4_loose_45 : decode cX4_loose 45 = .ok (.ireturn, 1) := by decide +kernel
theorem dX4_loose_46 : decode cX4_loose 46 = .ok (.aload_n 0, 1) := by decide +kernel
theorem dX4_loose_47 : decode cX4_loose 47 = .ok (.iconst 0, 1) := by decide +kernel
theorem dX4_loose_48 : decode cX4_loose 48 = .ok (.putfield 37, 3) := by decide +kernel
theorem dX4_loose_51 : decode cX4_loose 51 = .ok (.aload_n 0, 1) := by decide +kernel
theorem dX4_loose_52 : decode cX4_loose 52 = .ok (.dup, 1) := by decide +kernel
theorem dX4_loose_53 : decode cX4_loose 53 = .ok (.getfield 183, 3) := by decide +kernel
theorem dX4_loose_56 : decode cX4_loose 56 = .ok (.iconst 1, 1) := by decide +kernel
theorem dX4_loose_57 : decode cX4_loose 57 = .ok (.iadd, 1) := by decide +kernel
theorem dX4_loose_58 : decode cX4_loose 58 = .ok (.putfield 183, 3) := by decide +kernel
theorem dX4_loose_61 : decode cX4_loose 61 = .ok (.aload_n 0, 1) := by decide +kernel
theorem dX4_loose_62 : decode cX4_loose 62 = .ok (.getfield 33, 3) := by decide +kernel
theorem dX4_loose_65 : decode cX4_loose 65 = .ok (.invokevirtual 186, 3) := by decide +kernel
theorem dX4_loose_68 : decode cX4_loose 68 = .ok (.aload_n 0, 1) := by decide +kernel
theorem dX4_loose_69 : decode cX4_loose 69 = .ok (.getfield 10, 3) := by decide +kernel
theorem dX4_loose_72 : decode cX4_loose 72 = .ok (.invokevirtual 60, 3) := by decide +kernel
theorem dX4_loose_75 : decode cX4_loose 75 = .ok (.istore 4, 2) := by decide +kernel
theorem dX4_loose_77 : decode cX4_loose 77 = .ok (.iload 4, 2) := by decide +kernel
theorem dX4_loose_79 : decode cX4_loose 79 = .ok (.bipush (-9), 2) := by decide +kernel
theorem dX4_loose_81 : decode cX4_loose 81 = .ok (.if_icmp .ne 6, 3) := by decide +kernel
theorem dX4_loose_84 : decode cX4_loose 84 = .ok (.bipush (-3), 2) := by decide +kernel
theorem dX4_loose_86 : decode cX4_loose 86 = .ok (.ireturn, 1) := by decide +kernel
theorem dX4_loose_87 : decode cX4_loose 87 = .ok (.aload_n 0, 1) := by decide +kernel
theorem dX4_loose_88 : decode cX4_loose 88 = .ok (.getfield 26, 3) := by decide +kernel
theorem dX4_loose_91 : decode cX4_loose 91 = .ok (.iload_n 1, 1) := by decide +kernel
theorem dX4_loose_92 : decode cX4_loose 92 = .ok (.iload_n 2, 1) := by decide +kernel
theorem dX4_loose_93 : decode cX4_loose 93 = .ok (.invokevirtual 129, 3) := by decide +kernel
theorem dX4_loose_96 : decode cX4_loose 96 = .ok (.ifCond .eq 33, 3) := by decide +kernel
theorem dX4_loose_99 : decode cX4_loose 99 = .ok (.iload 4, 2) := by decide +kernel
theorem dX4_loose_101 : decode cX4_loose 101 = .ok (.iload_n 3, 1) := by decide +kernel
theorem dX4_loose_102 : decode cX4_loose 102 = .ok (.isub, 1) := by decide +kernel
theorem dX4_loose_103 : decode cX4_loose 103 = .ok (.invokestatic 189, 3) := by decide +kernel
theorem dX4_loose_106 : decode cX4_loose 106 = .ok (.iconst 5, 1) := by decide +kernel
theorem dX4_loose_107 : decode cX4_loose 107 = .ok (.if_icmp .gt 22, 3) := by decide +kernel
theorem dX4_loose_110 : decode cX4_loose 110 = .ok (.aload_n 0, 1) := by decide +kernel
theorem dX4_loose_111 : decode cX4_loose 111 = .ok (.getfield 26, 3) := by decide +kernel
theorem dX4_loose_114 : decode cX4_loose 114 = .ok (.iload_n 1, 1) := by decide +kernel
theorem dX4_loose_115 : decode cX4_loose 115 = .ok (.iload_n 2, 1) := by decide +kernel
theorem dX4_loose_116 : decode cX4_loose 116 = .ok (.aload_n 0, 1) := by decide +kernel
theorem dX4_loose_117 : decode cX4_loose 117 = .ok (.getfield 10, 3) := by decide +kernel
theorem dX4_loose_120 : decode cX4_loose 120 = .ok (.iload 4, 2) := by decide +kernel
theorem dX4_loose_122 : decode cX4_loose 122 = .ok (.invokevirtual 194, 3) := by decide +kernel
theorem dX4_loose_125 : decode cX4_loose 125 = .ok (.invokevirtual 139, 3) := by decide +kernel
theorem dX4_loose_128 : decode cX4_loose 128 = .ok (.pop, 1) := by decide +kernel
theorem dX4_loose_129 : decode cX4_loose 129 = .ok (.iload 4, 2) := by decide +kernel
theorem dX4_loose_131 : decode cX4_loose 131 = .ok (.ireturn, 1) := by decide +kernel
theorem dX4_store_0 : decode cX4_store 0 = .ok (.aload_n 0, 1) := by decide +kernel
theorem dX4_store_1 : decode cX4_store 1 = .ok (.getfield 33, 3) := by decide +kernel
theorem dX4_store_4 : decode cX4_store 4 = .ok (.iload_n 1, 1) := by decide +kernel
theorem dX4_store_5 : decode cX4_store 5 = .ok (.iload_n 2, 1) := by decide +kernel
theorem dX4_store_6 : decode cX4_store 6 = .ok (.invokevirtual 197, 3) := by decide +kernel
theorem dX4_store_9 : decode cX4_store 9 = .ok (.ifCond .eq 15, 3) := by decide +kernel
theorem dX4_store_12 : decode cX4_store 12 = .ok (.aload_n 0, 1) := by decide +kernel
theorem dX4_store_13 : decode cX4_store 13 = .ok (.getfield 33, 3) := by decide +kernel
theorem dX4_store_16 : decode cX4_store 16 = .ok (.iload_n 1, 1) := by decide +kernel
theorem dX4_store_17 : decode cX4_store 17 = .ok (.iload_n 2, 1) := by decide +kernel
theorem dX4_store_18 : decode cX4_store 18 = .ok (.invokevirtual 198, 3) := by decide +kernel
theorem dX4_store_21 : decode cX4_store 21 = .ok (.goto 4, 3) := by decide +kernel
theorem dX4_store_24 : decode cX4_store 24 = .ok (.iconst (-1), 1) := by decide +kernel
theorem dX4_store_25 : decode cX4_store 25 = .ok (.ireturn, 1) := by decide +kernel
theorem dX4_wet_0 : decode cX4_wet 0 = .ok (.iload_n 1, 1) := by decide +kernel
theorem dX4_wet_1 : decode cX4_wet 1 = .ok (.iconst 1, 1) := by decide +kernel
theorem dX4_wet_2 : decode cX4_wet 2 = .ok (.bipush 20, 2) := by decide +kernel
theorem dX4_wet_4 : decode cX4_wet 4 = .ok (.invokestatic 49, 3) := by decide +kernel
theorem dX4_wet_7 : decode cX4_wet 7 = .ok (.ifCond .eq 16, 3) := by decide +kernel
theorem dX4_wet_10 : decode cX4_wet 10 = .ok (.iload_n 2, 1) := by decide +kernel
theorem dX4_wet_11 : decode cX4_wet 11 = .ok (.iconst 0, 1) := by decide +kernel
theorem dX4_wet_12 : decode cX4_wet 12 = .ok (.iconst 1, 1) := by decide +kernel
theorem dX4_wet_13 : decode cX4_wet 13 = .ok (.iload_n 1, 1) := by decide +kernel
theorem dX4_wet_14 : decode cX4_wet 14 = .ok (.ishl, 1) := by decide +kernel
theorem dX4_wet_15 : decode cX4_wet 15 = .ok (.iconst 1, 1) := by decide +kernel
theorem dX4_wet_16 : decode cX4_wet 16 = .ok (.isub, 1) := by decide +kernel
theorem dX4_wet_17 : decode cX4_wet 17 = .ok (.invokestatic 49, 3) := by decide +kernel
theorem dX4_wet_20 : decode cX4_wet 20 = .ok (.ifCond .ne 5, 3) := by decide +kernel
theorem dX4_wet_23 : decode cX4_wet 23 = .ok (.iconst (-1), 1) := by decide +kernel
theorem dX4_wet_24 : decode cX4_wet 24 = .ok (.ireturn, 1) := by decide +kernel
theorem dX4_wet_25 : decode cX4_wet 25 = .ok (.aload_n 0, 1) := by decide +kernel
theorem dX4_wet_26 : decode cX4_wet 26 = .ok (.getfield 33, 3) := by decide +kernel
theorem dX4_wet_29 : decode cX4_wet 29 = .ok (.iload_n 1, 1) := by decide +kernel
theorem dX4_wet_30 : decode cX4_wet 30 = .ok (.iload_n 2, 1) := by decide +kernel
theorem dX4_wet_31 : decode cX4_wet 31 = .ok (.invokevirtual 199, 3) := by decide +kernel
theorem dX4_wet_34 : decode cX4_wet 34 = .ok (.iload_n 1, 1) := by decide +kernel
theorem dX4_wet_35 : decode cX4_wet 35 = .ok (.ireturn, 1) := by decide +kernel
theorem dX4_lasts_0 : decode cX4_lasts 0 = .ok (.iload_n 1, 1) := by decide +kernel
theorem dX4_lasts_1 : decode cX4_lasts 1 = .ok (.iconst 0, 1) := by decide +kernel
theorem dX4_lasts_2 : decode cX4_lasts 2 = .ok (.bipush 60, 2) := by decide +kernel
theorem dX4_lasts_4 : decode cX4_lasts 4 = .ok (.invokestatic 49, 3) := by decide +kernel
theorem dX4_lasts_7 : decode cX4_lasts 7 = .ok (.ifCond .ne 5, 3) := by decide +kernel
theorem dX4_lasts_10 : decode cX4_lasts 10 = .ok (.iconst (-1), 1) := by decide +kernel
theorem dX4_lasts_11 : decode cX4_lasts 11 = .ok (.ireturn, 1) := by decide +kernel
theorem dX4_lasts_12 : decode cX4_lasts 12 = .ok (.aload_n 0, 1) := by decide +kernel
theorem dX4_lasts_13 : decode cX4_lasts 13 = .ok (.getfield 33, 3) := by decide +kernel
theorem dX4_lasts_16 : decode cX4_lasts 16 = .ok (.iload_n 1, 1) := by decide +kernel
theorem dX4_lasts_17 : decode cX4_lasts 17 = .ok (.aload_n 0, 1) := by decide +kernel
theorem dX4_lasts_18 : decode cX4_lasts 18 = .ok (.getfield 10, 3) := by decide +kernel
theorem dX4_lasts_21 : decode cX4_lasts 21 = .ok (.invokevirtual 202, 3) := by decide +kernel
theorem dX4_lasts_24 : decode cX4_lasts 24 = .ok (.bipush 100, 2) := by decide +kernel
theorem dX4_lasts_26 : decode cX4_lasts 26 = .ok (.invokevirtual 205, 3) := by decide +kernel
theorem dX4_lasts_29 : decode cX4_lasts 29 = .ok (.ireturn, 1) := by decide +kernel
theorem dX4_rate_0 : decode cX4_rate 0 = .ok (.iload_n 1, 1) := by decide +kernel
theorem dX4_rate_1 : decode cX4_rate 1 = .ok (.iconst 1, 1) := by decide +kernel
theorem dX4_rate_2 : decode cX4_rate 2 = .ok (.bipush 100, 2) := by decide +kernel
theorem dX4_rate_4 : decode cX4_rate 4 = .ok (.invokestatic 49, 3) := by decide +kernel
theorem dX4_rate_7 : decode cX4_rate 7 = .ok (.ifCond .eq 21, 3) := by decide +kernel
theorem dX4_rate_10 : decode cX4_rate 10 = .ok (.aload_n 0, 1) := by decide +kernel
theorem dX4_rate_11 : decode cX4_rate 11 = .ok (.getfield 33, 3) := by decide +kernel
theorem dX4_rate_14 : decode cX4_rate 14 = .ok (.iload_n 1, 1) := by decide +kernel
theorem dX4_rate_15 : decode cX4_rate 15 = .ok (.aload_n 0, 1) := by decide +kernel
theorem dX4_rate_16 : decode cX4_rate 16 = .ok (.getfield 10, 3) := by decide +kernel
theorem dX4_rate_19 : decode cX4_rate 19 = .ok (.invokevirtual 202, 3) := by decide +kernel
theorem dX4_rate_22 : decode cX4_rate 22 = .ok (.invokevirtual 208, 3) := by decide +kernel
theorem dX4_rate_25 : decode cX4_rate 25 = .ok (.goto 4, 3) := by decide +kernel
theorem dX4_rate_28 : decode cX4_rate 28 = .ok (.iconst (-1), 1) := by decide +kernel
end
section
theorem dX4_rate_29 : decode cX4_rate 29 = .ok (.ireturn, 1) := by decide +kernel
theorem dX4_count_0 : decode cX4_count 0 = .ok (.iload_n 1, 1) := by decide +kernel
theorem dX4_count_1 : decode cX4_count 1 = .ok (.tableswitch 105 0 7 #[47, 52, 60, 68, 76, 84, 89, 97], 47) := by decide +kernel
theorem dX4_count_48 : decode cX4_count 48 = .ok (.aload_n 0, 1) := by decide +kernel
theorem dX4_count_49 : decode cX4_count 49 = .ok (.getfield 37, 3) := by decide +kernel
theorem dX4_count_52 : decode cX4_count 52 = .ok (.ireturn, 1) := by decide +kernel
theorem dX4_count_53 : decode cX4_count 53 = .ok (.aload_n 0, 1) := by decide +kernel
theorem dX4_count_54 : decode cX4_count 54 = .ok (.getfield 26, 3) := by decide +kernel
theorem dX4_count_57 : decode cX4_count 57 = .ok (.invokevirtual 211, 3) := by decide +kernel
theorem dX4_count_60 : decode cX4_count 60 = .ok (.ireturn, 1) := by decide +kernel
theorem dX4_count_61 : decode cX4_count 61 = .ok (.aload_n 0, 1) := by decide +kernel
theorem dX4_count_62 : decode cX4_count 62 = .ok (.getfield 26, 3) := by decide +kernel
theorem dX4_count_65 : decode cX4_count 65 = .ok (.invokevirtual 214, 3) := by decide +kernel
theorem dX4_count_68 : decode cX4_count 68 = .ok (.ireturn, 1) := by decide +kernel
theorem dX4_count_69 : decode cX4_count 69 = .ok (.aload_n 0, 1) := by decide +kernel
theorem dX4_count_70 : decode cX4_count 70 = .ok (.getfield 26, 3) := by decide +kernel
theorem dX4_count_73 : decode cX4_count 73 = .ok (.invokevirtual 217, 3) := by decide +kernel
theorem dX4_count_76 : decode cX4_count 76 = .ok (.ireturn, 1) := by decide +kernel
theorem dX4_count_77 : decode cX4_count 77 = .ok (.aload_n 0, 1) := by decide +kernel
theorem dX4_count_78 : decode cX4_count 78 = .ok (.getfield 19, 3) := by decide +kernel
theorem dX4_count_81 : decode cX4_count 81 = .ok (.invokevirtual 90, 3) := by decide +kernel
theorem dX4_count_84 : decode cX4_count 84 = .ok (.ireturn, 1) := by decide +kernel
theorem dX4_count_85 : decode cX4_count 85 = .ok (.aload_n 0, 1) := by decide +kernel
theorem dX4_count_86 : decode cX4_count 86 = .ok (.getfield 183, 3) := by decide +kernel
theorem dX4_count_89 : decode cX4_count 89 = .ok (.ireturn, 1) := by decide +kernel
theorem dX4_count_90 : decode cX4_count 90 = .ok (.aload_n 0, 1) := by decide +kernel
theorem dX4_count_91 : decode cX4_count 91 = .ok (.getfield 33, 3) := by decide +kernel
theorem dX4_count_94 : decode cX4_count 94 = .ok (.invokevirtual 181, 3) := by decide +kernel
theorem dX4_count_97 : decode cX4_count 97 = .ok (.ireturn, 1) := by decide +kernel
theorem dX4_count_98 : decode cX4_count 98 = .ok (.aload_n 0, 1) := by decide +kernel
theorem dX4_count_99 : decode cX4_count 99 = .ok (.getfield 26, 3) := by decide +kernel
theorem dX4_count_102 : decode cX4_count 102 = .ok (.invokevirtual 220, 3) := by decide +kernel
theorem dX4_count_105 : decode cX4_count 105 = .ok (.ireturn, 1) := by decide +kernel
theorem dX4_count_106 : decode cX4_count 106 = .ok (.iconst (-1), 1) := by decide +kernel
theorem dX4_count_107 : decode cX4_count 107 = .ok (.ireturn, 1) := by decide +kernel
theorem dX4_trace_0 : decode cX4_trace 0 = .ok (.aload_n 0, 1) := by decide +kernel
theorem dX4_trace_1 : decode cX4_trace 1 = .ok (.getfield 67, 3) := by decide +kernel
theorem dX4_trace_4 : decode cX4_trace 4 = .ok (.lreturn, 1) := by decide +kernel
theorem dX4_within_0 : decode cX4_within 0 = .ok (.iload_n 0, 1) := by decide +kernel
theorem dX4_within_1 : decode cX4_within 1 = .ok (.iload_n 1, 1) := by decide +kernel
theorem dX4_within_2 : decode cX4_within 2 = .ok (.if_icmp .lt 12, 3) := by decide +kernel
theorem dX4_within_5 : decode cX4_within 5 = .ok (.iload_n 0, 1) := by decide +kernel
theorem dX4_within_6 : decode cX4_within 6 = .ok (.iload_n 2, 1) := by decide +kernel
theorem dX4_within_7 : decode cX4_within 7 = .ok (.if_icmp .gt 7, 3) := by decide +kernel
theorem dX4_within_10 : decode cX4_within 10 = .ok (.iconst 1, 1) := by decide +kernel
theorem dX4_within_11 : decode cX4_within 11 = .ok (.goto 4, 3) := by decide +kernel
theorem dX4_within_14 : decode cX4_within 14 = .ok (.iconst 0, 1) := by decide +kernel
theorem dX4_within_15 : decode cX4_within 15 = .ok (.ireturn, 1) := by decide +kernel
theorem dX4_down_0 : decode cX4_down 0 = .ok (.lload_n 2, 1) := by decide +kernel
theorem dX4_down_1 : decode cX4_down 1 = .ok (.lconst 0, 1) := by decide +kernel
theorem dX4_down_2 : decode cX4_down 2 = .ok (.lcmp, 1) := by decide +kernel
theorem dX4_down_3 : decode cX4_down 3 = .ok (.ifCond .le 11, 3) := by decide +kernel
theorem dX4_down_6 : decode cX4_down 6 = .ok (.lload_n 0, 1) := by decide +kernel
theorem dX4_down_7 : decode cX4_down 7 = .ok (.lload_n 2, 1) := by decide +kernel
theorem dX4_down_8 : decode cX4_down 8 = .ok (.invokestatic 223, 3) := by decide +kernel
theorem dX4_down_11 : decode cX4_down 11 = .ok (.goto 4, 3) := by decide +kernel
theorem dX4_down_14 : decode cX4_down 14 = .ok (.lconst 0, 1) := by decide +kernel
theorem dX4_down_15 : decode cX4_down 15 = .ok (.lreturn, 1) := by decide +kernel
theorem dX4_up_0 : decode cX4_up 0 = .ok (.lload_n 2, 1) := by decide +kernel
theorem dX4_up_1 : decode cX4_up 1 = .ok (.lconst 0, 1) := by decide +kernel
theorem dX4_up_2 : decode cX4_up 2 = .ok (.lcmp, 1) := by decide +kernel
theorem dX4_up_3 : decode cX4_up 3 = .ok (.ifCond .le 13, 3) := by decide +kernel
theorem dX4_up_6 : decode cX4_up 6 = .ok (.lload_n 0, 1) := by decide +kernel
theorem dX4_up_7 : decode cX4_up 7 = .ok (.lneg, 1) := by decide +kernel
theorem dX4_up_8 : decode cX4_up 8 = .ok (.lload_n 2, 1) := by decide +kernel
theorem dX4_up_9 : decode cX4_up 9 = .ok (.invokestatic 223, 3) := by decide +kernel
theorem dX4_up_12 : decode cX4_up 12 = .ok (.lneg, 1) := by decide +kernel
theorem dX4_up_13 : decode cX4_up 13 = .ok (.goto 4, 3) := by decide +kernel
theorem dX4_up_16 : decode cX4_up 16 = .ok (.lconst 0, 1) := by decide +kernel
theorem dX4_up_17 : decode cX4_up 17 = .ok (.lreturn, 1) := by decide +kernel
theorem dX4_sineOf_0 : decode cX4_sineOf 0 = .ok (.iload_n 0, 1) := by decide +kernel
theorem dX4_sineOf_1 : decode cX4_sineOf 1 = .ok (.invokestatic 189, 3) := by decide +kernel
theorem dX4_sineOf_4 : decode cX4_sineOf 4 = .ok (.istore_n 1, 1) := by decide +kernel
theorem dX4_sineOf_5 : decode cX4_sineOf 5 = .ok (.iload_n 1, 1) := by decide +kernel
theorem dX4_sineOf_6 : decode cX4_sineOf 6 = .ok (.i2l, 1) := by decide +kernel
theorem dX4_sineOf_7 : decode cX4_sineOf 7 = .ok (.sipush 180, 3) := by decide +kernel
theorem dX4_sineOf_10 : decode cX4_sineOf 10 = .ok (.iload_n 1, 1) := by decide +kernel
theorem dX4_sineOf_11 : decode cX4_sineOf 11 = .ok (.isub, 1) := by decide +kernel
theorem dX4_sineOf_12 : decode cX4_sineOf 12 = .ok (.i2l, 1) := by decide +kernel
theorem dX4_sineOf_13 : decode cX4_sineOf 13 = .ok (.lmul, 1) := by decide +kernel
theorem dX4_sineOf_14 : decode cX4_sineOf 14 = .ok (.lstore_n 2, 1) := by decide +kernel
theorem dX4_sineOf_15 : decode cX4_sineOf 15 = .ok (.ldc2_w 227, 3) := by decide +kernel
theorem dX4_sineOf_18 : decode cX4_sineOf 18 = .ok (.lload_n 2, 1) := by decide +kernel
theorem dX4_sineOf_19 : decode cX4_sineOf 19 = .ok (.lmul, 1) := by decide +kernel
theorem dX4_sineOf_20 : decode cX4_sineOf 20 = .ok (.ldc2_w 229, 3) := by decide +kernel
theorem dX4_sineOf_23 : decode cX4_sineOf 23 = .ok (.lload_n 2, 1) := by decide +kernel
theorem dX4_sineOf_24 : decode cX4_sineOf 24 = .ok (.lsub, 1) := by decide +kernel
theorem dX4_sineOf_25 : decode cX4_sineOf 25 = .ok (.invokestatic 231, 3) := by decide +kernel
theorem dX4_sineOf_28 : decode cX4_sineOf 28 = .ok (.l2i, 1) := by decide +kernel
theorem dX4_sineOf_29 : decode cX4_sineOf 29 = .ok (.istore 4, 2) := by decide +kernel
theorem dX4_sineOf_31 : decode cX4_sineOf 31 = .ok (.iload_n 0, 1) := by decide +kernel
theorem dX4_sineOf_32 : decode cX4_sineOf 32 = .ok (.ifCond .ge 9, 3) := by decide +kernel
theorem dX4_sineOf_35 : decode cX4_sineOf 35 = .ok (.iload 4, 2) := by decide +kernel
theorem dX4_sineOf_37 : decode cX4_sineOf 37 = .ok (.ineg, 1) := by decide +kernel
theorem dX4_sineOf_38 : decode cX4_sineOf 38 = .ok (.goto 5, 3) := by decide +kernel
theorem dX4_sineOf_41 : decode cX4_sineOf 41 = .ok (.iload 4, 2) := by decide +kernel
theorem dX4_sineOf_43 : decode cX4_sineOf 43 = .ok (.ireturn, 1) := by decide +kernel
theorem dX5_init_0 : decode cX5_init 0 = .ok (.aload_n 0, 1) := by decide +kernel
theorem dX5_init_1 : decode cX5_init 1 = .ok (.invokespecial 1, 3) := by decide +kernel
theorem dX5_init_4 : decode cX5_init 4 = .ok (.aload_n 0, 1) := by decide +kernel
theorem dX5_init_5 : decode cX5_init 5 = .ok (.bipush 9, 2) := by decide +kernel
theorem dX5_init_7 : decode cX5_init 7 = .ok (.newarray .int, 2) := by decide +kernel
theorem dX5_init_9 : decode cX5_init 9 = .ok (.dup, 1) := by decide +kernel
theorem dX5_init_10 : decode cX5_init 10 = .ok (.iconst 0, 1) := by decide +kernel
theorem dX5_init_11 : decode cX5_init 11 = .ok (.bipush 12, 2) := by decide +kernel
theorem dX5_init_13 : decode cX5_init 13 = .ok (.iastore, 1) := by decide +kernel
theorem dX5_init_14 : decode cX5_init 14 = .ok (.dup, 1) := by decide +kernel
theorem dX5_init_15 : decode cX5_init 15 = .ok (.iconst 1, 1) := by decide +kernel
theorem dX5_init_16 : decode cX5_init 16 = .ok (.bipush 60, 2) := by decide +kernel
theorem dX5_init_18 : decode cX5_init 18 = .ok (.iastore, 1) := by decide +kernel
theorem dX5_init_19 : decode cX5_init 19 = .ok (.dup, 1) := by decide +kernel
theorem dX5_init_20 : decode cX5_init 20 = .ok (.iconst 2, 1) := by decide +kernel
theorem dX5_init_21 : decode cX5_init 21 = .ok (.sipush 4000, 3) := by decide +kernel
theorem dX5_init_24 : decode cX5_init 24 = .ok (.iastore, 1) := by decide +kernel
theorem dX5_init_25 : decode cX5_init 25 = .ok (.dup, 1) := by decide +kernel
theorem dX5_init_26 : decode cX5_init 26 = .ok (.iconst 3, 1) := by decide +kernel
theorem dX5_init_27 : decode cX5_init 27 = .ok (.bipush 50, 2) := by decide +kernel
theorem dX5_init_29 : decode cX5_init 29 = .ok (.iastore, 1) := by decide +kernel
theorem dX5_init_30 : decode cX5_init 30 = .ok (.dup, 1) := by decide +kernel
theorem dX5_init_31 : decode cX5_init 31 = .ok (.iconst 4, 1) := by decide +kernel
theorem dX5_init_32 : decode cX5_init 32 = .ok (.bipush 30, 2) := by decide +kernel
theorem dX5_init_34 : decode cX5_init 34 = .ok (.iastore, 1) := by decide +kernel
theorem dX5_init_35 : decode cX5_init 35 = .ok (.dup, 1) := by decide +kernel
theorem dX5_init_36 : decode cX5_init 36 = .ok (.iconst 5, 1) := by decide +kernel
theorem dX5_init_37 : decode cX5_init 37 = .ok (.bipush 40, 2) := by decide +kernel
theorem dX5_init_39 : decode cX5_init 39 = .ok (.iastore, 1) := by decide +kernel
theorem dX5_init_40 : decode cX5_init 40 = .ok (.dup, 1) := by decide +kernel
theorem dX5_init_41 : decode cX5_init 41 = .ok (.bipush 6, 2) := by decide +kernel
theorem dX5_init_43 : decode cX5_init 43 = .ok (.bipush 100, 2) := by decide +kernel
theorem dX5_init_45 : decode cX5_init 45 = .ok (.iastore, 1) := by decide +kernel
theorem dX5_init_46 : decode cX5_init 46 = .ok (.dup, 1) := by decide +kernel
theorem dX5_init_47 : decode cX5_init 47 = .ok (.bipush 7, 2) := by decide +kernel
theorem dX5_init_49 : decode cX5_init 49 = .ok (.bipush 50, 2) := by decide +kernel
theorem dX5_init_51 : decode cX5_init 51 = .ok (.iastore, 1) := by decide +kernel
theorem dX5_init_52 : decode cX5_init 52 = .ok (.dup, 1) := by decide +kernel
theorem dX5_init_53 : decode cX5_init 53 = .ok (.bipush 8, 2) := by decide +kernel
theorem dX5_init_55 : decode cX5_init 55 = .ok (.iconst 0, 1) := by decide +kernel
theorem dX5_init_56 : decode cX5_init 56 = .ok (.iastore, 1) := by decide +kernel
theorem dX5_init_57 : decode cX5_init 57 = .ok (.putfield 7, 3) := by decide +kernel
theorem dX5_init_60 : decode cX5_init 60 = .ok (.aload_n 0, 1) := by decide +kernel
theorem dX5_init_61 : decode cX5_init 61 = .ok (.iconst 5, 1) := by decide +kernel
theorem dX5_init_62 : decode cX5_init 62 = .ok (.putfield 13, 3) := by decide +kernel
theorem dX5_init_65 : decode cX5_init 65 = .ok (.aload_n 0, 1) := by decide +kernel
theorem dX5_init_66 : decode cX5_init 66 = .ok (.bipush 16, 2) := by decide +kernel
theorem dX5_init_68 : decode cX5_init 68 = .ok (.newarray .int, 2) := by decide +kernel
theorem dX5_init_70 : decode cX5_init 70 = .ok (.putfield 17, 3) := by decide +kernel
theorem dX5_init_73 : decode cX5_init 73 = .ok (.aload_n 0, 1) := by decide +kernel
theorem dX5_init_74 : decode cX5_init 74 = .ok (.bipush 16, 2) := by decide +kernel
theorem dX5_init_76 : decode cX5_init 76 = .ok (.newarray .int, 2) := by decide +kernel
theorem dX5_init_78 : decode cX5_init 78 = .ok (.putfield 20, 3) := by decide +kernel
theorem dX5_init_81 : decode cX5_init 81 = .ok (.aload_n 0, 1) := by decide +kernel
theorem dX5_init_82 : decode cX5_init 82 = .ok (.iconst 5, 1) := by decide +kernel
theorem dX5_init_83 : decode cX5_init 83 = .ok (.putfield 23, 3) := by decide +kernel
theorem dX5_init_86 : decode cX5_init 86 = .ok (.aload_n 0, 1) := by decide +kernel
theorem dX5_init_87 : decode cX5_init 87 = .ok (.iconst 3, 1) := by decide +kernel
theorem dX5_init_88 : decode cX5_init 88 = .ok (.putfield 26, 3) := by decide +kernel
theorem dX5_init_91 : decode cX5_init 91 = .ok (.aload_n 0, 1) := by decide +kernel
theorem dX5_init_92 : decode cX5_init 92 = .ok (.bipush 48, 2) := by decide +kernel
theorem dX5_init_94 : decode cX5_init 94 = .ok (.newarray .int, 2) := by decide +kernel
theorem dX5_init_96 : decode cX5_init 96 = .ok (.putfield 29, 3) := by decide +kernel
theorem dX5_init_99 : decode cX5_init 99 = .ok (.aload_n 0, 1) := by decide +kernel
theorem dX5_init_100 : decode cX5_init 100 = .ok (.bipush 48, 2) := by decide +kernel
theorem dX5_init_102 : decode cX5_init 102 = .ok (.newarray .int, 2) := by decide +kernel
theorem dX5_init_104 : decode cX5_init 104 = .ok (.putfield 32, 3) := by decide +kernel
theorem dX5_init_107 : decode cX5_init 107 = .ok (.aload_n 0, 1) := by decide +kernel
theorem dX5_init_108 : decode cX5_init 108 = .ok (.bipush 48, 2) := by decide +kernel
theorem dX5_init_110 : decode cX5_init 110 = .ok (.newarray .int, 2) := by decide +kernel
theorem dX5_init_112 : decode cX5_init 112 = .ok (.putfield 35, 3) := by decide +kernel
theorem dX5_init_115 : decode cX5_init 115 = .ok (.aload_n 0, 1) := by decide +kernel
theorem dX5_init_116 : decode cX5_init 116 = .ok (.bipush 9, 2) := by decide +kernel
theorem dX5_init_118 : decode cX5_init 118 = .ok (.newarray .int, 2) := by decide +kernel
theorem dX5_init_120 : decode cX5_init 120 = .ok (.dup, 1) := by decide +kernel
theorem dX5_init_121 : decode cX5_init 121 = .ok (.iconst 0, 1) := by decide +kernel
theorem dX5_init_122 : decode cX5_init 122 = .ok (.iconst 0, 1) := by decide +kernel
theorem dX5_init_123 : decode cX5_init 123 = .ok (.iastore, 1) := by decide +kernel
theorem dX5_init_124 : decode cX5_init 124 = .ok (.dup, 1) := by decide +kernel
theorem dX5_init_125 : decode cX5_init 125 = .ok (.iconst 1, 1) := by decide +kernel
theorem dX5_init_126 : decode cX5_init 126 = .ok (.iconst 0, 1) := by decide +kernel
theorem dX5_init_127 : decode cX5_init 127 = .ok (.iastore, 1) := by decide +kernel
theorem dX5_init_128 : decode cX5_init 128 = .ok (.dup, 1) := by decide +kernel
theorem dX5_init_129 : decode cX5_init 129 = .ok (.iconst 2, 1) := by decide +kernel
theorem dX5_init_130 : decode cX5_init 130 = .ok (.iconst 0, 1) := by decide +kernel
theorem dX5_init_131 : decode cX5_init 131 = .ok (.iastore, 1) := by decide +kernel
theorem dX5_init_132 : decode cX5_init 132 = .ok (.dup, 1) := by decide +kernel
theorem dX5_init_133 : decode cX5_init 133 = .ok (.iconst 3, 1) := by decide +kernel
theorem dX5_init_134 : decode cX5_init 134 = .ok (.iconst 0, 1) := by decide +kernel
theorem dX5_init_135 : decode cX5_init 135 = .ok (.iastore, 1) := by decide +kernel
theorem dX5_init_136 : decode cX5_init 136 = .ok (.dup, 1) := by decide +kernel
theorem dX5_init_137 : decode cX5_init 137 = .ok (.iconst 4, 1) := by decide +kernel
theorem dX5_init_138 : decode cX5_init 138 = .ok (.iconst 1, 1) := by decide +kernel
theorem dX5_init_139 : decode cX5_init 139 = .ok (.iastore, 1) := by decide +kernel
theorem dX5_init_140 : decode cX5_init 140 = .ok (.dup, 1) := by decide +kernel
theorem dX5_init_141 : decode cX5_init 141 = .ok (.iconst 5, 1) := by decide +kernel
theorem dX5_init_142 : decode cX5_init 142 = .ok (.iconst 0, 1) := by decide +kernel
theorem dX5_init_143 : decode cX5_init 143 = .ok (.iastore, 1) := by decide +kernel
theorem dX5_init_144 : decode cX5_init 144 = .ok (.dup, 1) := by decide +kernel
theorem dX5_init_145 : decode cX5_init 145 = .ok (.bipush 6, 2) := by decide +kernel
theorem dX5_init_147 : decode cX5_init 147 = .ok (.iconst 0, 1) := by decide +kernel
theorem dX5_init_148 : decode cX5_init 148 = .ok (.iastore, 1) := by decide +kernel
theorem dX5_init_149 : decode cX5_init 149 = .ok (.dup, 1) := by decide +kernel
theorem dX5_init_150 : decode cX5_init 150 = .ok (.bipush 7, 2) := by decide +kernel
theorem dX5_init_152 : decode cX5_init 152 = .ok (.iconst 0, 1) := by decide +kernel
theorem dX5_init_153 : decode cX5_init 153 = .ok (.iastore, 1) := by decide +kernel
theorem dX5_init_154 : decode cX5_init 154 = .ok (.dup, 1) := by decide +kernel
theorem dX5_init_155 : decode cX5_init 155 = .ok (.bipush 8, 2) := by decide +kernel
theorem dX5_init_157 : decode cX5_init 157 = .ok (.iconst 0, 1) := by decide +kernel
theorem dX5_init_158 : decode cX5_init 158 = .ok (.iastore, 1) := by decide +kernel
theorem dX5_init_159 : decode cX5_init 159 = .ok (.putfield 38, 3) := by decide +kernel
theorem dX5_init_162 : decode cX5_init 162 = .ok (.aload_n 0, 1) := by decide +kernel
theorem dX5_init_163 : decode cX5_init 163 = .ok (.iconst 5, 1) := by decide +kernel
theorem dX5_init_164 : decode cX5_init 164 = .ok (.newarray .int, 2) := by decide +kernel
theorem dX5_init_166 : decode cX5_init 166 = .ok (.dup, 1) := by decide +kernel
theorem dX5_init_167 : decode cX5_init 167 = .ok (.iconst 0, 1) := by decide +kernel
theorem dX5_init_168 : decode cX5_init 168 = .ok (.bipush 20, 2) := by decide +kernel
theorem dX5_init_170 : decode cX5_init 170 = .ok (.iastore, 1) := by decide +kernel
theorem dX5_init_171 : decode cX5_init 171 = .ok (.dup, 1) := by decide +kernel
theorem dX5_init_172 : decode cX5_init 172 = .ok (.iconst 1, 1) := by decide +kernel
theorem dX5_init_173 : decode cX5_init 173 = .ok (.bipush 100, 2) := by decide +kernel
theorem dX5_init_175 : decode cX5_init 175 = .ok (.iastore, 1) := by decide +kernel
theorem dX5_init_176 : decode cX5_init 176 = .ok (.dup, 1) := by decide +kernel
theorem dX5_init_177 : decode cX5_init 177 = .ok (.iconst 2, 1) := by decide +kernel
theorem dX5_init_178 : decode cX5_init 178 = .ok (.bipush 10, 2) := by decide +kernel
theorem dX5_init_180 : decode cX5_init 180 = .ok (.iastore, 1) := by decide +kernel
theorem dX5_init_181 : decode cX5_init 181 = .ok (.dup, 1) := by decide +kernel
theorem dX5_init_182 : decode cX5_init 182 = .ok (.iconst 3, 1) := by decide +kernel
theorem dX5_init_183 : decode cX5_init 183 = .ok (.sipush 1000, 3) := by decide +kernel
theorem dX5_init_186 : decode cX5_init 186 = .ok (.iastore, 1) := by decide +kernel
theorem dX5_init_187 : decode cX5_init 187 = .ok (.dup, 1) := by decide +kernel
theorem dX5_init_188 : decode cX5_init 188 = .ok (.iconst 4, 1) := by decide +kernel
theorem dX5_init_189 : decode cX5_init 189 = .ok (.bipush 40, 2) := by decide +kernel
theorem dX5_init_191 : decode cX5_init 191 = .ok (.iastore, 1) := by decide +kernel
theorem dX5_init_192 : decode cX5_init 192 = .ok (.putfield 41, 3) := by decide +kernel
theorem dX5_init_195 : decode cX5_init 195 = .ok (.aload_n 0, 1) := by decide +kernel
theorem dX5_init_196 : decode cX5_init 196 = .ok (.iconst 1, 1) := by decide +kernel
theorem dX5_init_197 : decode cX5_init 197 = .ok (.putfield 44, 3) := by decide +kernel
theorem dX5_init_200 : decode cX5_init 200 = .ok (.aload_n 0, 1) := by decide +kernel
theorem dX5_init_201 : decode cX5_init 201 = .ok (.bipush 61, 2) := by decide +kernel
theorem dX5_init_203 : decode cX5_init 203 = .ok (.newarray .int, 2) := by decide +kernel
theorem dX5_init_205 : decode cX5_init 205 = .ok (.putfield 47, 3) := by decide +kernel
theorem dX5_init_208 : decode cX5_init 208 = .ok (.aload_n 0, 1) := by decide +kernel
theorem dX5_init_209 : decode cX5_init 209 = .ok (.sipush 775, 3) := by decide +kernel
theorem dX5_init_212 : decode cX5_init 212 = .ok (.newarray .int, 2) := by decide +kernel
theorem dX5_init_214 : decode cX5_init 214 = .ok (.putfield 50, 3) := by decide +kernel
theorem dX5_init_217 : decode cX5_init 217 = .ok (.aload_n 0, 1) := by decide +kernel
theorem dX5_init_218 : decode cX5_init 218 = .ok (.bipush 48, 2) := by decide +kernel
theorem dX5_init_220 : decode cX5_init 220 = .ok (.newarray .int, 2) := by decide +kernel
theorem dX5_init_222 : decode cX5_init 222 = .ok (.putfield 53, 3) := by decide +kernel
theorem dX5_init_225 : decode cX5_init 225 = .ok (.aload_n 0, 1) := by decide +kernel
theorem dX5_init_226 : decode cX5_init 226 = .ok (.bipush 48, 2) := by decide +kernel
theorem dX5_init_228 : decode cX5_init 228 = .ok (.newarray .int, 2) := by decide +kernel
theorem dX5_init_230 : decode cX5_init 230 = .ok (.putfield 56, 3) := by decide +kernel
theorem dX5_init_233 : decode cX5_init 233 = .ok (.aload_n 0, 1) := by decide +kernel
theorem dX5_init_234 : decode cX5_init 234 = .ok (.bipush 48, 2) := by decide +kernel
theorem dX5_init_236 : decode cX5_init 236 = .ok (.newarray .int, 2) := by decide +kernel
theorem dX5_init_238 : decode cX5_init 238 = .ok (.putfield 59, 3) := by decide +kernel
theorem dX5_init_241 : decode cX5_init 241 = .ok (.aload_n 0, 1) := by decide +kernel
theorem dX5_init_242 : decode cX5_init 242 = .ok (.bipush 6, 2) := by decide +kernel
theorem dX5_init_244 : decode cX5_init 244 = .ok (.newarray .int, 2) := by decide +kernel
theorem dX5_init_246 : decode cX5_init 246 = .ok (.putfield 62, 3) := by decide +kernel
theorem dX5_init_249 : decode cX5_init 249 = .ok (.aload_n 0, 1) := by decide +kernel
theorem dX5_init_250 : decode cX5_init 250 = .ok (.bipush 6, 2) := by decide +kernel
theorem dX5_init_252 : decode cX5_init 252 = .ok (.newarray .int, 2) := by decide +kernel
theorem dX5_init_254 : decode cX5_init 254 = .ok (.putfield 65, 3) := by decide +kernel
theorem dX5_init_257 : decode cX5_init 257 = .ok (.aload_n 0, 1) := by decide +kernel
theorem dX5_init_258 : decode cX5_init 258 = .ok (.invokevirtual 68, 3) := by decide +kernel
theorem dX5_init_261 : decode cX5_init 261 = .ok (.return_, 1) := by decide +kernel
theorem dX5_in_0 : decode cX5_in 0 = .ok (.iload_n 0, 1) := by decide +kernel
theorem dX5_in_1 : decode cX5_in 1 = .ok (.iload_n 1, 1) := by decide +kernel
theorem dX5_in_2 : decode cX5_in 2 = .ok (.if_icmp .lt 12, 3) := by decide +kernel
theorem dX5_in_5 : decode cX5_in 5 = .ok (.iload_n 0, 1) := by decide +kernel
theorem dX5_in_6 : decode cX5_in 6 = .ok (.iload_n 2, 1) := by decide +kernel
theorem dX5_in_7 : decode cX5_in 7 = .ok (.if_icmp .gt 7, 3) := by decide +kernel
theorem dX5_in_10 : decode cX5_in 10 = .ok (.iconst 1, 1) := by decide +kernel
theorem dX5_in_11 : decode cX5_in 11 = .ok (.goto 4, 3) := by decide +kernel
theorem dX5_in_14 : decode cX5_in 14 = .ok (.iconst 0, 1) := by decide +kernel
theorem dX5_in_15 : decode cX5_in 15 = .ok (.ireturn, 1) := by decide +kernel
theorem dX5_size_0 : decode cX5_size 0 = .ok (.iload_n 0, 1) := by decide +kernel
theorem dX5_size_1 : decode cX5_size 1 = .ok (.ifCond .ge 8, 3) := by decide +kernel
theorem dX5_size_4 : decode cX5_size 4 = .ok (.iload_n 0, 1) := by decide +kernel
theorem dX5_size_5 : decode cX5_size 5 = .ok (.ineg, 1) := by decide +kernel
theorem dX5_size_6 : decode cX5_size 6 = .ok (.goto 4, 3) := by decide +kernel
theorem dX5_size_9 : decode cX5_size 9 = .ok (.iload_n 0, 1) := by decide +kernel
theorem dX5_size_10 : decode cX5_size 10 = .ok (.ireturn, 1) := by decide +kernel
theorem dX5_least_0 : decode cX5_least 0 = .ok (.iload_n 0, 1) := by decide +kernel
theorem dX5_least_1 : decode cX5_least 1 = .ok (.ifCond .ne 7, 3) := by decide +kernel
theorem dX5_least_4 : decode cX5_least 4 = .ok (.iconst 5, 1) := by decide +kernel
theorem dX5_least_5 : decode cX5_least 5 = .ok (.goto 49, 3) := by decide +kernel
theorem dX5_least_8 : decode cX5_least 8 = .ok (.iload_n 0, 1) := by decide +kernel
theorem dX5_least_9 : decode cX5_least 9 = .ok (.iconst 1, 1) := by decide +kernel
theorem dX5_least_10 : decode cX5_least 10 = .ok (.if_icmp .ne 8, 3) := by decide +kernel
theorem dX5_least_13 : decode cX5_least 13 = .ok (.bipush 20, 2) := by decide +kernel
theorem dX5_least_15 : decode cX5_least 15 = .ok (.goto 39, 3) := by decide +kernel
theorem dX5_least_18 : decode cX5_least 18 = .ok (.iload_n 0, 1) := by decide +kernel
theorem dX5_least_19 : decode cX5_least 19 = .ok (.iconst 2, 1) := by decide +kernel
theorem dX5_least_20 : decode cX5_least 20 = .ok (.if_icmp .ne 8, 3) := by decide +kernel
theorem dX5_least_23 : decode cX5_least 23 = .ok (.bipush 100, 2) := by decide +kernel
theorem dX5_least_25 : decode cX5_least 25 = .ok (.goto 29, 3) := by decide +kernel
theorem dX5_least_28 : decode cX5_least 28 = .ok (.iload_n 0, 1) := by decide +kernel
theorem dX5_least_29 : decode cX5_least 29 = .ok (.iconst 3, 1) := by decide +kernel
theorem dX5_least_30 : decode cX5_least 30 = .ok (.if_icmp .eq 8, 3) := by decide +kernel
theorem dX5_least_33 : decode cX5_least 33 = .ok (.iload_n 0, 1) := by decide +kernel
theorem dX5_least_34 : decode cX5_least 34 = .ok (.iconst 5, 1) := by decide +kernel
theorem dX5_least_35 : decode cX5_least 35 = .ok (.if_icmp .ne 8, 3) := by decide +kernel
theorem dX5_least_38 : decode cX5_least 38 = .ok (.bipush 10, 2) := by decide +kernel
theorem dX5_least_40 : decode cX5_least 40 = .ok (.goto 14, 3) := by decide +kernel
theorem dX5_least_43 : decode cX5_least 43 = .ok (.iload_n 0, 1) := by decide +kernel
theorem dX5_least_44 : decode cX5_least 44 = .ok (.bipush 7, 2) := by decide +kernel
theorem dX5_least_46 : decode cX5_least 46 = .ok (.if_icmp .ne 7, 3) := by decide +kernel
theorem dX5_least_49 : decode cX5_least 49 = .ok (.iconst 1, 1) := by decide +kernel
theorem dX5_least_50 : decode cX5_least 50 = .ok (.goto 4, 3) := by decide +kernel
theorem dX5_least_53 : decode cX5_least 53 = .ok (.iconst 0, 1) := by decide +kernel
theorem dX5_least_54 : decode cX5_least 54 = .ok (.ireturn, 1) := by decide +kernel
theorem dX5_most_0 : decode cX5_most 0 = .ok (.iload_n 0, 1) := by decide +kernel
theorem dX5_most_1 : decode cX5_most 1 = .ok (.ifCond .ne 8, 3) := by decide +kernel
theorem dX5_most_4 : decode cX5_most 4 = .ok (.bipush 40, 2) := by decide +kernel
theorem dX5_most_6 : decode cX5_most 6 = .ok (.goto 70, 3) := by decide +kernel
theorem dX5_most_9 : decode cX5_most 9 = .ok (.iload_n 0, 1) := by decide +kernel
theorem dX5_most_10 : decode cX5_most 10 = .ok (.iconst 1, 1) := by decide +kernel
theorem dX5_most_11 : decode cX5_most 11 = .ok (.if_icmp .eq 8, 3) := by decide +kernel
theorem dX5_most_14 : decode cX5_most 14 = .ok (.iload_n 0, 1) := by decide +kernel
theorem dX5_most_15 : decode cX5_most 15 = .ok (.iconst 3, 1) := by decide +kernel
theorem dX5_most_16 : decode cX5_most 16 = .ok (.if_icmp .ne 9, 3) := by decide +kernel
theorem dX5_most_19 : decode cX5_most 19 = .ok (.sipush 160, 3) := by decide +kernel
theorem dX5_most_22 : decode cX5_most 22 = .ok (.goto 54, 3) := by decide +kernel
theorem dX5_most_25 : decode cX5_most 25 = .ok (.iload_n 0, 1) := by decide +kernel
theorem dX5_most_26 : decode cX5_most 26 = .ok (.iconst 2, 1) := by decide +kernel
theorem dX5_most_27 : decode cX5_most 27 = .ok (.if_icmp .ne 9, 3) := by decide +kernel
theorem dX5_most_30 : decode cX5_most 30 = .ok (.sipush 9000, 3) := by decide +kernel
theorem dX5_most_33 : decode cX5_most 33 = .ok (.goto 43, 3) := by decide +kernel
theorem dX5_most_36 : decode cX5_most 36 = .ok (.iload_n 0, 1) := by decide +kernel
theorem dX5_most_37 : decode cX5_most 37 = .ok (.iconst 4, 1) := by decide +kernel
theorem dX5_most_38 : decode cX5_most 38 = .ok (.if_icmp .eq 8, 3) := by decide +kernel
theorem dX5_most_41 : decode cX5_most 41 = .ok (.iload_n 0, 1) := by decide +kernel
theorem dX5_most_42 : decode cX5_most 42 = .ok (.iconst 5, 1) := by decide +kernel
theorem dX5_most_43 : decode cX5_most 43 = .ok (.if_icmp .ne 8, 3) := by decide +kernel
theorem dX5_most_46 : decode cX5_most 46 = .ok (.bipush 60, 2) := by decide +kernel
theorem dX5_most_48 : decode cX5_most 48 = .ok (.goto 28, 3) := by decide +kernel
theorem dX5_most_51 : decode cX5_most 51 = .ok (.iload_n 0, 1) := by decide +kernel
theorem dX5_most_52 : decode cX5_most 52 = .ok (.bipush 6, 2) := by decide +kernel
theorem dX5_most_54 : decode cX5_most 54 = .ok (.if_icmp .ne 9, 3) := by decide +kernel
theorem dX5_most_57 : decode cX5_most 57 = .ok (.sipush 900, 3) := by decide +kernel
theorem dX5_most_60 : decode cX5_most 60 = .ok (.goto 16, 3) := by decide +kernel
theorem dX5_most_63 : decode cX5_most 63 = .ok (.iload_n 0, 1) := by decide +kernel
theorem dX5_most_64 : decode cX5_most 64 = .ok (.bipush 7, 2) := by decide +kernel
theorem dX5_most_66 : decode cX5_most 66 = .ok (.if_icmp .ne 9, 3) := by decide +kernel
theorem dX5_most_69 : decode cX5_most 69 = .ok (.sipush 300, 3) := by decide +kernel
theorem dX5_most_72 : decode cX5_most 72 = .ok (.goto 4, 3) := by decide +kernel
theorem dX5_most_75 : decode cX5_most 75 = .ok (.iconst 2, 1) := by decide +kernel
theorem dX5_most_76 : decode cX5_most 76 = .ok (.ireturn, 1) := by decide +kernel
theorem dX5_set_0 : decode cX5_set 0 = .ok (.iload_n 1, 1) := by decide +kernel
theorem dX5_set_1 : decode cX5_set 1 = .ok (.iconst 0, 1) := by decide +kernel
theorem dX5_set_2 : decode cX5_set 2 = .ok (.bipush 8, 2) := by decide +kernel
theorem dX5_set_4 : decode cX5_set 4 = .ok (.invokestatic 71, 3) := by decide +kernel
theorem dX5_set_7 : decode cX5_set 7 = .ok (.ifCond .eq 18, 3) := by decide +kernel
theorem dX5_set_10 : decode cX5_set 10 = .ok (.iload_n 2, 1) := by decide +kernel
theorem dX5_set_11 : decode cX5_set 11 = .ok (.iload_n 1, 1) := by decide +kernel
theorem dX5_set_12 : decode cX5_set 12 = .ok (.invokestatic 75, 3) := by decide +kernel
theorem dX5_set_15 : decode cX5_set 15 = .ok (.iload_n 1, 1) := by decide +kernel
theorem dX5_set_16 : decode cX5_set 16 = .ok (.invokestatic 79, 3) := by decide +kernel
theorem dX5_set_19 : decode cX5_set 19 = .ok (.invokestatic 71, 3) := by decide +kernel
theorem dX5_set_22 : decode cX5_set 22 = .ok (.ifCond .ne 5, 3) := by decide +kernel
theorem dX5_set_25 : decode cX5_set 25 = .ok (.iconst (-1), 1) := by decide +kernel
theorem dX5_set_26 : decode cX5_set 26 = .ok (.ireturn, 1) := by decide +kernel
theorem dX5_set_27 : decode cX5_set 27 = .ok (.aload_n 0, 1) := by decide +kernel
theorem dX5_set_28 : decode cX5_set 28 = .ok (.getfield 7, 3) := by decide +kernel
theorem dX5_set_31 : decode cX5_set 31 = .ok (.iload_n 1, 1) := by decide +kernel
theorem dX5_set_32 : decode cX5_set 32 = .ok (.iaload, 1) := by decide +kernel
theorem dX5_set_33 : decode cX5_set 33 = .ok (.istore_n 3, 1) := by decide +kernel
theorem dX5_set_34 : decode cX5_set 34 = .ok (.aload_n 0, 1) := by decide +kernel
theorem dX5_set_35 : decode cX5_set 35 = .ok (.getfield 7, 3) := by decide +kernel
theorem dX5_set_38 : decode cX5_set 38 = .ok (.iload_n 1, 1) := by decide +kernel
theorem dX5_set_39 : decode cX5_set 39 = .ok (.iload_n 2, 1) := by decide +kernel
theorem dX5_set_40 : decode cX5_set 40 = .ok (.iastore, 1) := by decide +kernel
theorem dX5_set_41 : decode cX5_set 41 = .ok (.aload_n 0, 1) := by decide +kernel
theorem dX5_set_42 : decode cX5_set 42 = .ok (.iconst 0, 1) := by decide +kernel
theorem dX5_set_43 : decode cX5_set 43 = .ok (.putfield 82, 3) := by decide +kernel
theorem dX5_set_46 : decode cX5_set 46 = .ok (.iload_n 3, 1) := by decide +kernel
theorem dX5_set_47 : decode cX5_set 47 = .ok (.ireturn, 1) := by decide +kernel
theorem dX5_wind_0 : decode cX5_wind 0 = .ok (.iload_n 1, 1) := by decide +kernel
theorem dX5_wind_1 : decode cX5_wind 1 = .ok (.bipush (-20), 2) := by decide +kernel
theorem dX5_wind_3 : decode cX5_wind 3 = .ok (.bipush 20, 2) := by decide +kernel
theorem dX5_wind_5 : decode cX5_wind 5 = .ok (.invokestatic 71, 3) := by decide +kernel
theorem dX5_wind_8 : decode cX5_wind 8 = .ok (.ifCond .ne 6, 3) := by decide +kernel
theorem dX5_wind_11 : decode cX5_wind 11 = .ok (.bipush (-100), 2) := by decide +kernel
theorem dX5_wind_13 : decode cX5_wind 13 = .ok (.ireturn, 1) := by decide +kernel
theorem dX5_wind_14 : decode cX5_wind 14 = .ok (.aload_n 0, 1) := by decide +kernel
theorem dX5_wind_15 : decode cX5_wind 15 = .ok (.getfield 85, 3) := by decide +kernel
theorem dX5_wind_18 : decode cX5_wind 18 = .ok (.istore_n 2, 1) := by decide +kernel
theorem dX5_wind_19 : decode cX5_wind 19 = .ok (.aload_n 0, 1) := by decide +kernel
theorem dX5_wind_20 : decode cX5_wind 20 = .ok (.iload_n 1, 1) := by decide +kernel
theorem dX5_wind_21 : decode cX5_wind 21 = .ok (.putfield 85, 3) := by decide +kernel
theorem dX5_wind_24 : decode cX5_wind 24 = .ok (.iload_n 2, 1) := by decide +kernel
theorem dX5_wind_25 : decode cX5_wind 25 = .ok (.ireturn, 1) := by decide +kernel
theorem dX5_sineOf_0 : decode cX5_sineOf 0 = .ok (.iload_n 0, 1) := by decide +kernel
theorem dX5_sineOf_1 : decode cX5_sineOf 1 = .ok (.invokestatic 88, 3) := by decide +kernel
theorem dX5_sineOf_4 : decode cX5_sineOf 4 = .ok (.istore_n 1, 1) := by decide +kernel
theorem dX5_sineOf_5 : decode cX5_sineOf 5 = .ok (.sipush 4000, 3) := by decide +kernel
theorem dX5_sineOf_8 : decode cX5_sineOf 8 = .ok (.iload_n 1, 1) := by decide +kernel
theorem dX5_sineOf_9 : decode cX5_sineOf 9 = .ok (.sipush 180, 3) := by decide +kernel
theorem dX5_sineOf_12 : decode cX5_sineOf 12 = .ok (.iload_n 1, 1) := by decide +kernel
theorem dX5_sineOf_13 : decode cX5_sineOf 13 = .ok (.isub, 1) := by decide +kernel
theorem dX5_sineOf_14 : decode cX5_sineOf 14 = .ok (.imul, 1) := by decide +kernel
theorem dX5_sineOf_15 : decode cX5_sineOf 15 = .ok (.imul, 1) := by decide +kernel
theorem dX5_sineOf_16 : decode cX5_sineOf 16 = .ok (.ldc 91, 2) := by decide +kernel
theorem dX5_sineOf_18 : decode cX5_sineOf 18 = .ok (.iload_n 1, 1) := by decide +kernel
theorem dX5_sineOf_19 : decode cX5_sineOf 19 = .ok (.sipush 180, 3) := by decide +kernel
theorem dX5_sineOf_22 : decode cX5_sineOf 22 = .ok (.iload_n 1, 1) := by decide +kernel
theorem dX5_sineOf_23 : decode cX5_sineOf 23 = .ok (.isub, 1) := by decide +kernel
theorem dX5_sineOf_24 : decode cX5_sineOf 24 = .ok (.imul, 1) := by decide +kernel
theorem dX5_sineOf_25 : decode cX5_sineOf 25 = .ok (.isub, 1) := by decide +kernel
theorem dX5_sineOf_26 : decode cX5_sineOf 26 = .ok (.idiv, 1) := by decide +kernel
theorem dX5_sineOf_27 : decode cX5_sineOf 27 = .ok (.istore_n 2, 1) := by decide +kernel
theorem dX5_sineOf_28 : decode cX5_sineOf 28 = .ok (.iload_n 0, 1) := by decide +kernel
theorem dX5_sineOf_29 : decode cX5_sineOf 29 = .ok (.ifCond .ge 8, 3) := by decide +kernel
theorem dX5_sineOf_32 : decode cX5_sineOf 32 = .ok (.iload_n 2, 1) := by decide +kernel
theorem dX5_sineOf_33 : decode cX5_sineOf 33 = .ok (.ineg, 1) := by decide +kernel
theorem dX5_sineOf_34 : decode cX5_sineOf 34 = .ok (.goto 4, 3) := by decide +kernel
theorem dX5_sineOf_37 : decode cX5_sineOf 37 = .ok (.iload_n 2, 1) := by decide +kernel
theorem dX5_sineOf_38 : decode cX5_sineOf 38 = .ok (.ireturn, 1) := by decide +kernel
theorem dX5_sine_0 : decode cX5_sine 0 = .ok (.iload_n 1, 1) := by decide +kernel
theorem dX5_sine_1 : decode cX5_sine 1 = .ok (.sipush (-180), 3) := by decide +kernel
theorem dX5_sine_4 : decode cX5_sine 4 = .ok (.sipush 180, 3) := by decide +kernel
theorem dX5_sine_7 : decode cX5_sine 7 = .ok (.invokestatic 71, 3) := by decide +kernel
theorem dX5_sine_10 : decode cX5_sine 10 = .ok (.ifCond .eq 10, 3) := by decide +kernel
theorem dX5_sine_13 : decode cX5_sine 13 = .ok (.iload_n 1, 1) := by decide +kernel
theorem dX5_sine_14 : decode cX5_sine 14 = .ok (.invokestatic 92, 3) := by decide +kernel
theorem dX5_sine_17 : decode cX5_sine 17 = .ok (.goto 6, 3) := by decide +kernel
theorem dX5_sine_20 : decode cX5_sine 20 = .ok (.sipush (-2000), 3) := by decide +kernel
theorem dX5_sine_23 : decode cX5_sine 23 = .ok (.ireturn, 1) := by decide +kernel
theorem dX5_givenAt_0 : decode cX5_givenAt 0 = .ok (.aload_n 0, 1) := by decide +kernel
theorem dX5_givenAt_1 : decode cX5_givenAt 1 = .ok (.getfield 7, 3) := by decide +kernel
theorem dX5_givenAt_4 : decode cX5_givenAt 4 = .ok (.iconst 2, 1) := by decide +kernel
theorem dX5_givenAt_5 : decode cX5_givenAt 5 = .ok (.iaload, 1) := by decide +kernel
theorem dX5_givenAt_6 : decode cX5_givenAt 6 = .ok (.aload_n 0, 1) := by decide +kernel
theorem dX5_givenAt_7 : decode cX5_givenAt 7 = .ok (.getfield 7, 3) := by decide +kernel
theorem dX5_givenAt_10 : decode cX5_givenAt 10 = .ok (.iconst 0, 1) := by decide +kernel
theorem dX5_givenAt_11 : decode cX5_givenAt 11 = .ok (.iaload, 1) := by decide +kernel
theorem dX5_givenAt_12 : decode cX5_givenAt 12 = .ok (.imul, 1) := by decide +kernel
theorem dX5_givenAt_13 : decode cX5_givenAt 13 = .ok (.aload_n 0, 1) := by decide +kernel
theorem dX5_givenAt_14 : decode cX5_givenAt 14 = .ok (.getfield 7, 3) := by decide +kernel
theorem dX5_givenAt_17 : decode cX5_givenAt 17 = .ok (.bipush 7, 2) := by decide +kernel
theorem dX5_givenAt_19 : decode cX5_givenAt 19 = .ok (.iaload, 1) := by decide +kernel
theorem dX5_givenAt_20 : decode cX5_givenAt 20 = .ok (.aload_n 0, 1) := by decide +kernel
theorem dX5_givenAt_21 : decode cX5_givenAt 21 = .ok (.getfield 7, 3) := by decide +kernel
theorem dX5_givenAt_24 : decode cX5_givenAt 24 = .ok (.iconst 1, 1) := by decide +kernel
theorem dX5_givenAt_25 : decode cX5_givenAt 25 = .ok (.iaload, 1) := by decide +kernel
theorem dX5_givenAt_26 : decode cX5_givenAt 26 = .ok (.imul, 1) := by decide +kernel
theorem dX5_givenAt_27 : decode cX5_givenAt 27 = .ok (.isub, 1) := by decide +kernel
theorem dX5_givenAt_28 : decode cX5_givenAt 28 = .ok (.i2l, 1) := by decide +kernel
theorem dX5_givenAt_29 : decode cX5_givenAt 29 = .ok (.iload_n 1, 1) := by decide +kernel
theorem dX5_givenAt_30 : decode cX5_givenAt 30 = .ok (.aload_n 0, 1) := by decide +kernel
theorem dX5_givenAt_31 : decode cX5_givenAt 31 = .ok (.getfield 7, 3) := by decide +kernel
theorem dX5_givenAt_34 : decode cX5_givenAt 34 = .ok (.iconst 5, 1) := by decide +kernel
theorem dX5_givenAt_35 : decode cX5_givenAt 35 = .ok (.iaload, 1) := by decide +kernel
theorem dX5_givenAt_36 : decode cX5_givenAt 36 = .ok (.isub, 1) := by decide +kernel
theorem dX5_givenAt_37 : decode cX5_givenAt 37 = .ok (.invokestatic 92, 3) := by decide +kernel
theorem dX5_givenAt_40 : decode cX5_givenAt 40 = .ok (.aload_n 0, 1) := by decide +kernel
theorem dX5_givenAt_41 : decode cX5_givenAt 41 = .ok (.getfield 7, 3) := by decide +kernel
theorem dX5_givenAt_44 : decode cX5_givenAt 44 = .ok (.iconst 5, 1) := by decide +kernel
theorem dX5_givenAt_45 : decode cX5_givenAt 45 = .ok (.iaload, 1) := by decide +kernel
theorem dX5_givenAt_46 : decode cX5_givenAt 46 = .ok (.invokestatic 92, 3) := by decide +kernel
theorem dX5_givenAt_49 : decode cX5_givenAt 49 = .ok (.iadd, 1) := by decide +kernel
theorem dX5_givenAt_50 : decode cX5_givenAt 50 = .ok (.i2l, 1) := by decide +kernel
theorem dX5_givenAt_51 : decode cX5_givenAt 51 = .ok (.lmul, 1) := by decide +kernel
theorem dX5_givenAt_52 : decode cX5_givenAt 52 = .ok (.lstore_n 2, 1) := by decide +kernel
theorem dX5_givenAt_53 : decode cX5_givenAt 53 = .ok (.lload_n 2, 1) := by decide +kernel
theorem dX5_givenAt_54 : decode cX5_givenAt 54 = .ok (.ldc2_w 95, 3) := by decide +kernel
theorem dX5_givenAt_57 : decode cX5_givenAt 57 = .ok (.ldiv, 1) := by decide +kernel
theorem dX5_givenAt_58 : decode cX5_givenAt 58 = .ok (.lstore 4, 2) := by decide +kernel
theorem dX5_givenAt_60 : decode cX5_givenAt 60 = .ok (.lload 4, 2) := by decide +kernel
theorem dX5_givenAt_62 : decode cX5_givenAt 62 = .ok (.lload_n 2, 1) := by decide +kernel
theorem dX5_givenAt_63 : decode cX5_givenAt 63 = .ok (.lconst 0, 1) := by decide +kernel
theorem dX5_givenAt_64 : decode cX5_givenAt 64 = .ok (.lcmp, 1) := by decide +kernel
theorem dX5_givenAt_65 : decode cX5_givenAt 65 = .ok (.ifCond .ge 17, 3) := by decide +kernel
theorem dX5_givenAt_68 : decode cX5_givenAt 68 = .ok (.lload_n 2, 1) := by decide +kernel
theorem dX5_givenAt_69 : decode cX5_givenAt 69 = .ok (.ldc2_w 95, 3) := by decide +kernel
theorem dX5_givenAt_72 : decode cX5_givenAt 72 = .ok (.lrem, 1) := by decide +kernel
theorem dX5_givenAt_73 : decode cX5_givenAt 73 = .ok (.lconst 0, 1) := by decide +kernel
theorem dX5_givenAt_74 : decode cX5_givenAt 74 = .ok (.lcmp, 1) := by decide +kernel
theorem dX5_givenAt_75 : decode cX5_givenAt 75 = .ok (.ifCond .eq 7, 3) := by decide +kernel
theorem dX5_givenAt_78 : decode cX5_givenAt 78 = .ok (.lconst 1, 1) := by decide +kernel
theorem dX5_givenAt_79 : decode cX5_givenAt 79 = .ok (.goto 4, 3) := by decide +kernel
theorem dX5_givenAt_82 : decode cX5_givenAt 82 = .ok (.lconst 0, 1) := by decide +kernel
theorem dX5_givenAt_83 : decode cX5_givenAt 83 = .ok (.lsub, 1) := by decide +kernel
theorem dX5_givenAt_84 : decode cX5_givenAt 84 = .ok (.lstore 4, 2) := by decide +kernel
theorem dX5_givenAt_86 : decode cX5_givenAt 86 = .ok (.lload 4, 2) := by decide +kernel
theorem dX5_givenAt_88 : decode cX5_givenAt 88 = .ok (.l2i, 1) := by decide +kernel
theorem dX5_givenAt_89 : decode cX5_givenAt 89 = .ok (.aload_n 0, 1) := by decide +kernel
theorem dX5_givenAt_90 : decode cX5_givenAt 90 = .ok (.getfield 7, 3) := by decide +kernel
theorem dX5_givenAt_93 : decode cX5_givenAt 93 = .ok (.bipush 6, 2) := by decide +kernel
theorem dX5_givenAt_95 : decode cX5_givenAt 95 = .ok (.iaload, 1) := by decide +kernel
theorem dX5_givenAt_96 : decode cX5_givenAt 96 = .ok (.iload_n 1, 1) := by decide +kernel
theorem dX5_givenAt_97 : decode cX5_givenAt 97 = .ok (.imul, 1) := by decide +kernel
theorem dX5_givenAt_98 : decode cX5_givenAt 98 = .ok (.isub, 1) := by decide +kernel
theorem dX5_givenAt_99 : decode cX5_givenAt 99 = .ok (.ireturn, 1) := by decide +kernel
theorem dX5_flightOf_0 : decode cX5_flightOf 0 = .ok (.iload_n 2, 1) := by decide +kernel
theorem dX5_flightOf_1 : decode cX5_flightOf 1 = .ok (.iload_n 2, 1) := by decide +kernel
theorem dX5_flightOf_2 : decode cX5_flightOf 2 = .ok (.iload_n 2, 1) := by decide +kernel
theorem dX5_flightOf_3 : decode cX5_flightOf 3 = .ok (.imul, 1) := by decide +kernel
theorem dX5_flightOf_4 : decode cX5_flightOf 4 = .ok (.bipush 20, 2) := by decide +kernel
theorem dX5_flightOf_6 : decode cX5_flightOf 6 = .ok (.aload_n 0, 1) := by decide +kernel
theorem dX5_flightOf_7 : decode cX5_flightOf 7 = .ok (.getfield 7, 3) := by decide +kernel
theorem dX5_flightOf_10 : decode cX5_flightOf 10 = .ok (.bipush 7, 2) := by decide +kernel
theorem dX5_flightOf_12 : decode cX5_flightOf 12 = .ok (.iaload, 1) := by decide +kernel
theorem dX5_flightOf_13 : decode cX5_flightOf 13 = .ok (.imul, 1) := by decide +kernel
theorem dX5_flightOf_14 : decode cX5_flightOf 14 = .ok (.sipush 2000, 3) := by decide +kernel
theorem dX5_flightOf_17 : decode cX5_flightOf 17 = .ok (.iadd, 1) := by decide +kernel
theorem dX5_flightOf_18 : decode cX5_flightOf 18 = .ok (.idiv, 1) := by decide +kernel
theorem dX5_flightOf_19 : decode cX5_flightOf 19 = .ok (.isub, 1) := by decide +kernel
theorem dX5_flightOf_20 : decode cX5_flightOf 20 = .ok (.istore_n 3, 1) := by decide +kernel
theorem dX5_flightOf_21 : decode cX5_flightOf 21 = .ok (.iload_n 3, 1) := by decide +kernel
theorem dX5_flightOf_22 : decode cX5_flightOf 22 = .ok (.ifCond .ge 7, 3) := by decide +kernel
theorem dX5_flightOf_25 : decode cX5_flightOf 25 = .ok (.iconst 0, 1) := by decide +kernel
theorem dX5_flightOf_26 : decode cX5_flightOf 26 = .ok (.goto 4, 3) := by decide +kernel
theorem dX5_flightOf_29 : decode cX5_flightOf 29 = .ok (.iload_n 3, 1) := by decide +kernel
theorem dX5_flightOf_30 : decode cX5_flightOf 30 = .ok (.istore_n 3, 1) := by decide +kernel
theorem dX5_flightOf_31 : decode cX5_flightOf 31 = .ok (.iload_n 1, 1) := by decide +kernel
theorem dX5_flightOf_32 : decode cX5_flightOf 32 = .ok (.ifCond .le 15, 3) := by decide +kernel
theorem dX5_flightOf_35 : decode cX5_flightOf 35 = .ok (.iload_n 3, 1) := by decide +kernel
theorem dX5_flightOf_36 : decode cX5_flightOf 36 = .ok (.iload_n 3, 1) := by decide +kernel
theorem dX5_flightOf_37 : decode cX5_flightOf 37 = .ok (.bipush 7, 2) := by decide +kernel
theorem dX5_flightOf_39 : decode cX5_flightOf 39 = .ok (.iadd, 1) := by decide +kernel
theorem dX5_flightOf_40 : decode cX5_flightOf 40 = .ok (.bipush 8, 2) := by decide +kernel
theorem dX5_flightOf_42 : decode cX5_flightOf 42 = .ok (.idiv, 1) := by decide +kernel
theorem dX5_flightOf_43 : decode cX5_flightOf 43 = .ok (.isub, 1) := by decide +kernel
theorem dX5_flightOf_44 : decode cX5_flightOf 44 = .ok (.goto 4, 3) := by decide +kernel
theorem dX5_flightOf_47 : decode cX5_flightOf 47 = .ok (.iload_n 3, 1) := by decide +kernel
theorem dX5_flightOf_48 : decode cX5_flightOf 48 = .ok (.istore_n 3, 1) := by decide +kernel
theorem dX5_flightOf_49 : decode cX5_flightOf 49 = .ok (.iload_n 1, 1) := by decide +kernel
theorem dX5_flightOf_50 : decode cX5_flightOf 50 = .ok (.iconst 2, 1) := by decide +kernel
theorem dX5_flightOf_51 : decode cX5_flightOf 51 = .ok (.if_icmp .ne 24, 3) := by decide +kernel
theorem dX5_flightOf_54 : decode cX5_flightOf 54 = .ok (.iload_n 3, 1) := by decide +kernel
theorem dX5_flightOf_55 : decode cX5_flightOf 55 = .ok (.iload_n 3, 1) := by decide +kernel
theorem dX5_flightOf_56 : decode cX5_flightOf 56 = .ok (.bipush 25, 2) := by decide +kernel
theorem dX5_flightOf_58 : decode cX5_flightOf 58 = .ok (.idiv, 1) := by decide +kernel
theorem dX5_flightOf_59 : decode cX5_flightOf 59 = .ok (.iconst 2, 1) := by decide +kernel
theorem dX5_flightOf_60 : decode cX5_flightOf 60 = .ok (.imul, 1) := by decide +kernel
theorem dX5_flightOf_61 : decode cX5_flightOf 61 = .ok (.iconst 3, 1) := by decide +kernel
theorem dX5_flightOf_62 : decode cX5_flightOf 62 = .ok (.iadd, 1) := by decide +kernel
theorem dX5_flightOf_63 : decode cX5_flightOf 63 = .ok (.isub, 1) := by decide +kernel
theorem dX5_flightOf_64 : decode cX5_flightOf 64 = .ok (.istore_n 3, 1) := by decide +kernel
theorem dX5_flightOf_65 : decode cX5_flightOf 65 = .ok (.iload_n 3, 1) := by decide +kernel
theorem dX5_flightOf_66 : decode cX5_flightOf 66 = .ok (.ifCond .ge 7, 3) := by decide +kernel
theorem dX5_flightOf_69 : decode cX5_flightOf 69 = .ok (.iconst 0, 1) := by decide +kernel
theorem dX5_flightOf_70 : decode cX5_flightOf 70 = .ok (.goto 4, 3) := by decide +kernel
theorem dX5_flightOf_73 : decode cX5_flightOf 73 = .ok (.iload_n 3, 1) := by decide +kernel
theorem dX5_flightOf_74 : decode cX5_flightOf 74 = .ok (.istore_n 3, 1) := by decide +kernel
theorem dX5_flightOf_75 : decode cX5_flightOf 75 = .ok (.iload_n 3, 1) := by decide +kernel
theorem dX5_flightOf_76 : decode cX5_flightOf 76 = .ok (.ireturn, 1) := by decide +kernel
theorem dX5_step_0 : decode cX5_step 0 = .ok (.aload_n 0, 1) := by decide +kernel
theorem dX5_step_1 : decode cX5_step 1 = .ok (.bipush (-9), 2) := by decide +kernel
theorem dX5_step_3 : decode cX5_step 3 = .ok (.putfield 97, 3) := by decide +kernel
theorem dX5_step_6 : decode cX5_step 6 = .ok (.aload_n 0, 1) := by decide +kernel
theorem dX5_step_7 : decode cX5_step 7 = .ok (.bipush (-9), 2) := by decide +kernel
theorem dX5_step_9 : decode cX5_step 9 = .ok (.putfield 100, 3) := by decide +kernel
theorem dX5_step_12 : decode cX5_step 12 = .ok (.aload_n 0, 1) := by decide +kernel
theorem dX5_step_13 : decode cX5_step 13 = .ok (.bipush (-9), 2) := by decide +kernel
theorem dX5_step_15 : decode cX5_step 15 = .ok (.putfield 103, 3) := by decide +kernel
theorem dX5_step_18 : decode cX5_step 18 = .ok (.aload_n 0, 1) := by decide +kernel
theorem dX5_step_19 : decode cX5_step 19 = .ok (.bipush (-9), 2) := by decide +kernel
theorem dX5_step_21 : decode cX5_step 21 = .ok (.putfield 106, 3) := by decide +kernel
theorem dX5_step_24 : decode cX5_step 24 = .ok (.aload_n 0, 1) := by decide +kernel
theorem dX5_step_25 : decode cX5_step 25 = .ok (.bipush (-9), 2) := by decide +kernel
theorem dX5_step_27 : decode cX5_step 27 = .ok (.putfield 109, 3) := by decide +kernel
theorem dX5_step_30 : decode cX5_step 30 = .ok (.aload_n 0, 1) := by decide +kernel
theorem dX5_step_31 : decode cX5_step 31 = .ok (.bipush (-9), 2) := by decide +kernel
theorem dX5_step_33 : decode cX5_step 33 = .ok (.putfield 112, 3) := by decide +kernel
theorem dX5_step_36 : decode cX5_step 36 = .ok (.aload_n 0, 1) := by decide +kernel
theorem dX5_step_37 : decode cX5_step 37 = .ok (.bipush (-9), 2) := by decide +kernel
theorem dX5_step_39 : decode cX5_step 39 = .ok (.putfield 115, 3) := by decide +kernel
theorem dX5_step_42 : decode cX5_step 42 = .ok (.iconst 1, 1) := by decide +kernel
theorem dX5_step_43 : decode cX5_step 43 = .ok (.istore_n 3, 1) := by decide +kernel
theorem dX5_step_44 : decode cX5_step 44 = .ok (.iload_n 3, 1) := by decide +kernel
theorem dX5_step_45 : decode cX5_step 45 = .ok (.sipush 160, 3) := by decide +kernel
theorem dX5_step_48 : decode cX5_step 48 = .ok (.if_icmp .gt 81, 3) := by decide +kernel
theorem dX5_step_51 : decode cX5_step 51 = .ok (.aload_n 0, 1) := by decide +kernel
theorem dX5_step_52 : decode cX5_step 52 = .ok (.getfield 97, 3) := by decide +kernel
theorem dX5_step_55 : decode cX5_step 55 = .ok (.bipush (-9), 2) := by decide +kernel
theorem dX5_step_57 : decode cX5_step 57 = .ok (.if_icmp .ne 72, 3) := by decide +kernel
theorem dX5_step_60 : decode cX5_step 60 = .ok (.aload_n 0, 1) := by decide +kernel
theorem dX5_step_61 : decode cX5_step 61 = .ok (.getfield 100, 3) := by decide +kernel
theorem dX5_step_64 : decode cX5_step 64 = .ok (.bipush (-9), 2) := by decide +kernel
theorem dX5_step_66 : decode cX5_step 66 = .ok (.if_icmp .ne 63, 3) := by decide +kernel
theorem dX5_step_69 : decode cX5_step 69 = .ok (.aload_n 0, 1) := by decide +kernel
theorem dX5_step_70 : decode cX5_step 70 = .ok (.iload_n 3, 1) := by decide +kernel
theorem dX5_step_71 : decode cX5_step 71 = .ok (.invokevirtual 118, 3) := by decide +kernel
theorem dX5_step_74 : decode cX5_step 74 = .ok (.istore 4, 2) := by decide +kernel
theorem dX5_step_76 : decode cX5_step 76 = .ok (.iload 4, 2) := by decide +kernel
theorem dX5_step_78 : decode cX5_step 78 = .ok (.ifCond .gt 11, 3) := by decide +kernel
theorem dX5_step_81 : decode cX5_step 81 = .ok (.aload_n 0, 1) := by decide +kernel
theorem dX5_step_82 : decode cX5_step 82 = .ok (.iload_n 3, 1) := by decide +kernel
theorem dX5_step_83 : decode cX5_step 83 = .ok (.putfield 100, 3) := by decide +kernel
theorem dX5_step_86 : decode cX5_step 86 = .ok (.goto 37, 3) := by decide +kernel
theorem dX5_step_89 : decode cX5_step 89 = .ok (.iload_n 3, 1) := by decide +kernel
theorem dX5_step_90 : decode cX5_step 90 = .ok (.aload_n 0, 1) := by decide +kernel
theorem dX5_step_91 : decode cX5_step 91 = .ok (.getfield 7, 3) := by decide +kernel
theorem dX5_step_94 : decode cX5_step 94 = .ok (.iconst 1, 1) := by decide +kernel
theorem dX5_step_95 : decode cX5_step 95 = .ok (.iaload, 1) := by decide +kernel
theorem dX5_step_96 : decode cX5_step 96 = .ok (.iconst 2, 1) := by decide +kernel
theorem dX5_step_97 : decode cX5_step 97 = .ok (.iload_n 1, 1) := by decide +kernel
theorem dX5_step_98 : decode cX5_step 98 = .ok (.imul, 1) := by decide +kernel
theorem dX5_step_99 : decode cX5_step 99 = .ok (.iadd, 1) := by decide +kernel
theorem dX5_step_100 : decode cX5_step 100 = .ok (.imul, 1) := by decide +kernel
theorem dX5_step_101 : decode cX5_step 101 = .ok (.iconst 2, 1) := by decide +kernel
theorem dX5_step_102 : decode cX5_step 102 = .ok (.iload_n 1, 1) := by decide +kernel
theorem dX5_step_103 : decode cX5_step 103 = .ok (.imul, 1) := by decide +kernel
theorem dX5_step_104 : decode cX5_step 104 = .ok (.idiv, 1) := by decide +kernel
theorem dX5_step_105 : decode cX5_step 105 = .ok (.bipush 100, 2) := by decide +kernel
theorem dX5_step_107 : decode cX5_step 107 = .ok (.iload_n 2, 1) := by decide +kernel
theorem dX5_step_108 : decode cX5_step 108 = .ok (.iadd, 1) := by decide +kernel
theorem dX5_step_109 : decode cX5_step 109 = .ok (.if_icmp .lt 14, 3) := by decide +kernel
theorem dX5_step_112 : decode cX5_step 112 = .ok (.aload_n 0, 1) := by decide +kernel
theorem dX5_step_113 : decode cX5_step 113 = .ok (.iload_n 3, 1) := by decide +kernel
theorem dX5_step_114 : decode cX5_step 114 = .ok (.putfield 97, 3) := by decide +kernel
theorem dX5_step_117 : decode cX5_step 117 = .ok (.aload_n 0, 1) := by decide +kernel
theorem dX5_step_118 : decode cX5_step 118 = .ok (.iload 4, 2) := by decide +kernel
theorem dX5_step_120 : decode cX5_step 120 = .ok (.putfield 103, 3) := by decide +kernel
theorem dX5_step_123 : decode cX5_step 123 = .ok (.iinc 3 1, 3) := by decide +kernel
theorem dX5_step_126 : decode cX5_step 126 = .ok (.goto (-82), 3) := by decide +kernel
theorem dX5_step_129 : decode cX5_step 129 = .ok (.aload_n 0, 1) := by decide +kernel
theorem dX5_step_130 : decode cX5_step 130 = .ok (.getfield 97, 3) := by decide +kernel
theorem dX5_step_133 : decode cX5_step 133 = .ok (.bipush (-9), 2) := by decide +kernel
theorem dX5_step_135 : decode cX5_step 135 = .ok (.if_icmp .ne 4, 3) := by decide +kernel
theorem dX5_step_138 : decode cX5_step 138 = .ok (.return_, 1) := by decide +kernel
theorem dX5_step_139 : decode cX5_step 139 = .ok (.aload_n 0, 1) := by decide +kernel
theorem dX5_step_140 : decode cX5_step 140 = .ok (.sipush 180, 3) := by decide +kernel
theorem dX5_step_143 : decode cX5_step 143 = .ok (.aload_n 0, 1) := by decide +kernel
theorem dX5_step_144 : decode cX5_step 144 = .ok (.getfield 97, 3) := by decide +kernel
theorem dX5_step_147 : decode cX5_step 147 = .ok (.aload_n 0, 1) := by decide +kernel
theorem dX5_step_148 : decode cX5_step 148 = .ok (.getfield 7, 3) := by decide +kernel
theorem dX5_step_151 : decode cX5_step 151 = .ok (.iconst 5, 1) := by decide +kernel
theorem dX5_step_152 : decode cX5_step 152 = .ok (.iaload, 1) := by decide +kernel
theorem dX5_step_153 : decode cX5_step 153 = .ok (.isub, 1) := by decide +kernel
theorem dX5_step_154 : decode cX5_step 154 = .ok (.isub, 1) := by decide +kernel
theorem dX5_step_155 : decode cX5_step 155 = .ok (.iload_n 2, 1) := by decide +kernel
theorem dX5_step_156 : decode cX5_step 156 = .ok (.isub, 1) := by decide +kernel
theorem dX5_step_157 : decode cX5_step 157 = .ok (.putfield 106, 3) := by decide +kernel
theorem dX5_step_160 : decode cX5_step 160 = .ok (.aload_n 0, 1) := by decide +kernel
theorem dX5_step_161 : decode cX5_step 161 = .ok (.getfield 106, 3) := by decide +kernel
theorem dX5_step_164 : decode cX5_step 164 = .ok (.iconst 1, 1) := by decide +kernel
theorem dX5_step_165 : decode cX5_step 165 = .ok (.bipush 89, 2) := by decide +kernel
theorem dX5_step_167 : decode cX5_step 167 = .ok (.invokestatic 71, 3) := by decide +kernel
theorem dX5_step_170 : decode cX5_step 170 = .ok (.ifCond .ne 4, 3) := by decide +kernel
theorem dX5_step_173 : decode cX5_step 173 = .ok (.return_, 1) := by decide +kernel
theorem dX5_step_174 : decode cX5_step 174 = .ok (.aload_n 0, 1) := by decide +kernel
theorem dX5_step_175 : decode cX5_step 175 = .ok (.getfield 7, 3) := by decide +kernel
theorem dX5_step_178 : decode cX5_step 178 = .ok (.iconst 1, 1) := by decide +kernel
theorem dX5_step_179 : decode cX5_step 179 = .ok (.iaload, 1) := by decide +kernel
theorem dX5_step_180 : decode cX5_step 180 = .ok (.iload_n 1, 1) := by decide +kernel
theorem dX5_step_181 : decode cX5_step 181 = .ok (.iadd, 1) := by decide +kernel
theorem dX5_step_182 : decode cX5_step 182 = .ok (.i2l, 1) := by decide +kernel
theorem dX5_step_183 : decode cX5_step 183 = .ok (.aload_n 0, 1) := by decide +kernel
theorem dX5_step_184 : decode cX5_step 184 = .ok (.getfield 7, 3) := by decide +kernel
theorem dX5_step_187 : decode cX5_step 187 = .ok (.iconst 1, 1) := by decide +kernel
theorem dX5_step_188 : decode cX5_step 188 = .ok (.iaload, 1) := by decide +kernel
theorem dX5_step_189 : decode cX5_step 189 = .ok (.iload_n 1, 1) := by decide +kernel
theorem dX5_step_190 : decode cX5_step 190 = .ok (.iadd, 1) := by decide +kernel
theorem dX5_step_191 : decode cX5_step 191 = .ok (.i2l, 1) := by decide +kernel
theorem dX5_step_192 : decode cX5_step 192 = .ok (.lmul, 1) := by decide +kernel
theorem dX5_step_193 : decode cX5_step 193 = .ok (.lstore_n 3, 1) := by decide +kernel
theorem dX5_step_194 : decode cX5_step 194 = .ok (.aload_n 0, 1) := by decide +kernel
theorem dX5_step_195 : decode cX5_step 195 = .ok (.ldc2_w 121, 3) := by decide +kernel
theorem dX5_step_198 : decode cX5_step 198 = .ok (.aload_n 0, 1) := by decide +kernel
theorem dX5_step_199 : decode cX5_step 199 = .ok (.getfield 103, 3) := by decide +kernel
theorem dX5_step_202 : decode cX5_step 202 = .ok (.i2l, 1) := by decide +kernel
theorem dX5_step_203 : decode cX5_step 203 = .ok (.lmul, 1) := by decide +kernel
theorem dX5_step_204 : decode cX5_step 204 = .ok (.lload_n 3, 1) := by decide +kernel
theorem dX5_step_205 : decode cX5_step 205 = .ok (.lmul, 1) := by decide +kernel
theorem dX5_step_206 : decode cX5_step 206 = .ok (.aload_n 0, 1) := by decide +kernel
theorem dX5_step_207 : decode cX5_step 207 = .ok (.getfield 7, 3) := by decide +kernel
theorem dX5_step_210 : decode cX5_step 210 = .ok (.iconst 2, 1) := by decide +kernel
theorem dX5_step_211 : decode cX5_step 211 = .ok (.iaload, 1) := by decide +kernel
theorem dX5_step_212 : decode cX5_step 212 = .ok (.i2l, 1) := by decide +kernel
theorem dX5_step_213 : decode cX5_step 213 = .ok (.aload_n 0, 1) := by decide +kernel
theorem dX5_step_214 : decode cX5_step 214 = .ok (.getfield 7, 3) := by decide +kernel
theorem dX5_step_217 : decode cX5_step 217 = .ok (.iconst 0, 1) := by decide +kernel
theorem dX5_step_218 : decode cX5_step 218 = .ok (.iaload, 1) := by decide +kernel
theorem dX5_step_219 : decode cX5_step 219 = .ok (.i2l, 1) := by decide +kernel
theorem dX5_step_220 : decode cX5_step 220 = .ok (.lmul, 1) := by decide +kernel
theorem dX5_step_221 : decode cX5_step 221 = .ok (.aload_n 0, 1) := by decide +kernel
theorem dX5_step_222 : decode cX5_step 222 = .ok (.getfield 7, 3) := by decide +kernel
theorem dX5_step_225 : decode cX5_step 225 = .ok (.iconst 0, 1) := by decide +kernel
theorem dX5_step_226 : decode cX5_step 226 = .ok (.iaload, 1) := by decide +kernel
theorem dX5_step_227 : decode cX5_step 227 = .ok (.i2l, 1) := by decide +kernel
theorem dX5_step_228 : decode cX5_step 228 = .ok (.lmul, 1) := by decide +kernel
theorem dX5_step_229 : decode cX5_step 229 = .ok (.aload_n 0, 1) := by decide +kernel
theorem dX5_step_230 : decode cX5_step 230 = .ok (.getfield 7, 3) := by decide +kernel
theorem dX5_step_233 : decode cX5_step 233 = .ok (.bipush 7, 2) := by decide +kernel
theorem dX5_step_235 : decode cX5_step 235 = .ok (.iaload, 1) := by decide +kernel
theorem dX5_step_236 : decode cX5_step 236 = .ok (.i2l, 1) := by decide +kernel
theorem dX5_step_237 : decode cX5_step 237 = .ok (.lload_n 3, 1) := by decide +kernel
theorem dX5_step_238 : decode cX5_step 238 = .ok (.lmul, 1) := by decide +kernel
theorem dX5_step_239 : decode cX5_step 239 = .ok (.ladd, 1) := by decide +kernel
theorem dX5_step_240 : decode cX5_step 240 = .ok (.ldiv, 1) := by decide +kernel
theorem dX5_step_241 : decode cX5_step 241 = .ok (.l2i, 1) := by decide +kernel
theorem dX5_step_242 : decode cX5_step 242 = .ok (.putfield 109, 3) := by decide +kernel
theorem dX5_step_245 : decode cX5_step 245 = .ok (.aload_n 0, 1) := by decide +kernel
theorem dX5_step_246 : decode cX5_step 246 = .ok (.aload_n 0, 1) := by decide +kernel
theorem dX5_step_247 : decode cX5_step 247 = .ok (.getfield 109, 3) := by decide +kernel
theorem dX5_step_250 : decode cX5_step 250 = .ok (.i2l, 1) := by decide +kernel
theorem dX5_step_251 : decode cX5_step 251 = .ok (.iconst 2, 1) := by decide +kernel
theorem dX5_step_252 : decode cX5_step 252 = .ok (.aload_n 0, 1) := by decide +kernel
theorem dX5_step_253 : decode cX5_step 253 = .ok (.getfield 106, 3) := by decide +kernel
theorem dX5_step_256 : decode cX5_step 256 = .ok (.imul, 1) := by decide +kernel
theorem dX5_step_257 : decode cX5_step 257 = .ok (.invokestatic 92, 3) := by decide +kernel
theorem dX5_step_260 : decode cX5_step 260 = .ok (.i2l, 1) := by decide +kernel
theorem dX5_step_261 : decode cX5_step 261 = .ok (.lmul, 1) := by decide +kernel
theorem dX5_step_262 : decode cX5_step 262 = .ok (.ldc2_w 123, 3) := by decide +kernel
theorem dX5_step_265 : decode cX5_step 265 = .ok (.ldiv, 1) := by decide +kernel
theorem dX5_step_266 : decode cX5_step 266 = .ok (.l2i, 1) := by decide +kernel
theorem dX5_step_267 : decode cX5_step 267 = .ok (.putfield 112, 3) := by decide +kernel
theorem dX5_step_270 : decode cX5_step 270 = .ok (.aload_n 0, 1) := by decide +kernel
theorem dX5_step_271 : decode cX5_step 271 = .ok (.aload_n 0, 1) := by decide +kernel
theorem dX5_step_272 : decode cX5_step 272 = .ok (.getfield 7, 3) := by decide +kernel
theorem dX5_step_275 : decode cX5_step 275 = .ok (.bipush 8, 2) := by decide +kernel
theorem dX5_step_277 : decode cX5_step 277 = .ok (.iaload, 1) := by decide +kernel
theorem dX5_step_278 : decode cX5_step 278 = .ok (.aload_n 0, 1) := by decide +kernel
theorem dX5_step_279 : decode cX5_step 279 = .ok (.getfield 112, 3) := by decide +kernel
theorem dX5_step_282 : decode cX5_step 282 = .ok (.invokevirtual 125, 3) := by decide +kernel
theorem dX5_step_285 : decode cX5_step 285 = .ok (.istore 5, 2) := by decide +kernel
theorem dX5_step_287 : decode cX5_step 287 = .ok (.iload 5, 2) := by decide +kernel
theorem dX5_step_289 : decode cX5_step 289 = .ok (.aload_n 0, 1) := by decide +kernel
theorem dX5_step_290 : decode cX5_step 290 = .ok (.getfield 85, 3) := by decide +kernel
theorem dX5_step_293 : decode cX5_step 293 = .ok (.iload 5, 2) := by decide +kernel
theorem dX5_step_295 : decode cX5_step 295 = .ok (.imul, 1) := by decide +kernel
theorem dX5_step_296 : decode cX5_step 296 = .ok (.bipush 100, 2) := by decide +kernel
theorem dX5_step_298 : decode cX5_step 298 = .ok (.idiv, 1) := by decide +kernel
theorem dX5_step_299 : decode cX5_step 299 = .ok (.iadd, 1) := by decide +kernel
theorem dX5_step_300 : decode cX5_step 300 = .ok (.istore 5, 2) := by decide +kernel
theorem dX5_step_302 : decode cX5_step 302 = .ok (.aload_n 0, 1) := by decide +kernel
theorem dX5_step_303 : decode cX5_step 303 = .ok (.iload 5, 2) := by decide +kernel
theorem dX5_step_305 : decode cX5_step 305 = .ok (.ifCond .ge 7, 3) := by decide +kernel
theorem dX5_step_308 : decode cX5_step 308 = .ok (.iconst 0, 1) := by decide +kernel
theorem dX5_step_309 : decode cX5_step 309 = .ok (.goto 5, 3) := by decide +kernel
theorem dX5_step_312 : decode cX5_step 312 = .ok (.iload 5, 2) := by decide +kernel
theorem dX5_step_314 : decode cX5_step 314 = .ok (.putfield 115, 3) := by decide +kernel
theorem dX5_step_317 : decode cX5_step 317 = .ok (.return_, 1) := by decide +kernel
theorem dX5_throwing_0 : decode cX5_throwing 0 = .ok (.aload_n 0, 1) := by decide +kernel
theorem dX5_throwing_1 : decode cX5_throwing 1 = .ok (.aload_n 0, 1) := by decide +kernel
theorem dX5_throwing_2 : decode cX5_throwing 2 = .ok (.getfield 7, 3) := by decide +kernel
theorem dX5_throwing_5 : decode cX5_throwing 5 = .ok (.iconst 3, 1) := by decide +kernel
theorem dX5_throwing_6 : decode cX5_throwing 6 = .ok (.iaload, 1) := by decide +kernel
theorem dX5_throwing_7 : decode cX5_throwing 7 = .ok (.aload_n 0, 1) := by decide +kernel
theorem dX5_throwing_8 : decode cX5_throwing 8 = .ok (.getfield 7, 3) := by decide +kernel
theorem dX5_throwing_11 : decode cX5_throwing 11 = .ok (.iconst 4, 1) := by decide +kernel
theorem dX5_throwing_12 : decode cX5_throwing 12 = .ok (.iaload, 1) := by decide +kernel
theorem dX5_throwing_13 : decode cX5_throwing 13 = .ok (.invokevirtual 129, 3) := by decide +kernel
theorem dX5_throwing_16 : decode cX5_throwing 16 = .ok (.iload_n 1, 1) := by decide +kernel
theorem dX5_throwing_17 : decode cX5_throwing 17 = .ok (.tableswitch 78 0 6 #[43, 48, 53, 58, 63, 68, 73], 43) := by decide +kernel
theorem dX5_throwing_60 : decode cX5_throwing 60 = .ok (.aload_n 0, 1) := by decide +kernel
theorem dX5_throwing_61 : decode cX5_throwing 61 = .ok (.getfield 97, 3) := by decide +kernel
theorem dX5_throwing_64 : decode cX5_throwing 64 = .ok (.ireturn, 1) := by decide +kernel
theorem dX5_throwing_65 : decode cX5_throwing 65 = .ok (.aload_n 0, 1) := by decide +kernel
theorem dX5_throwing_66 : decode cX5_throwing 66 = .ok (.getfield 100, 3) := by decide +kernel
theorem dX5_throwing_69 : decode cX5_throwing 69 = .ok (.ireturn, 1) := by decide +kernel
theorem dX5_throwing_70 : decode cX5_throwing 70 = .ok (.aload_n 0, 1) := by decide +kernel
theorem dX5_throwing_71 : decode cX5_throwing 71 = .ok (.getfield 103, 3) := by decide +kernel
theorem dX5_throwing_74 : decode cX5_throwing 74 = .ok (.ireturn, 1) := by decide +kernel
theorem dX5_throwing_75 : decode cX5_throwing 75 = .ok (.aload_n 0, 1) := by decide +kernel
theorem dX5_throwing_76 : decode cX5_throwing 76 = .ok (.getfield 106, 3) := by decide +kernel
theorem dX5_throwing_79 : decode cX5_throwing 79 = .ok (.ireturn, 1) := by decide +kernel
theorem dX5_throwing_80 : decode cX5_throwing 80 = .ok (.aload_n 0, 1) := by decide +kernel
theorem dX5_throwing_81 : decode cX5_throwing 81 = .ok (.getfield 109, 3) := by decide +kernel
theorem dX5_throwing_84 : decode cX5_throwing 84 = .ok (.ireturn, 1) := by decide +kernel
theorem dX5_throwing_85 : decode cX5_throwing 85 = .ok (.aload_n 0, 1) := by decide +kernel
theorem dX5_throwing_86 : decode cX5_throwing 86 = .ok (.getfield 112, 3) := by decide +kernel
theorem dX5_throwing_89 : decode cX5_throwing 89 = .ok (.ireturn, 1) := by decide +kernel
theorem dX5_throwing_90 : decode cX5_throwing 90 = .ok (.aload_n 0, 1) := by decide +kernel
theorem dX5_throwing_91 : decode cX5_throwing 91 = .ok (.getfield 115, 3) := by decide +kernel
theorem dX5_throwing_94 : decode cX5_throwing 94 = .ok (.ireturn, 1) := by decide +kernel
theorem dX5_throwing_95 : decode cX5_throwing 95 = .ok (.iconst (-1), 1) := by decide +kernel
theorem dX5_throwing_96 : decode cX5_throwing 96 = .ok (.ireturn, 1) := by decide +kernel
theorem dX5_flight_0 : decode cX5_flight 0 = .ok (.iload_n 1, 1) := by decide +kernel
theorem dX5_flight_1 : decode cX5_flight 1 = .ok (.iconst 0, 1) := by decide +kernel
theorem dX5_flight_2 : decode cX5_flight 2 = .ok (.iconst 2, 1) := by decide +kernel
theorem dX5_flight_3 : decode cX5_flight 3 = .ok (.invokestatic 71, 3) := by decide +kernel
theorem dX5_flight_6 : decode cX5_flight 6 = .ok (.ifCond .eq 14, 3) := by decide +kernel
theorem dX5_flight_9 : decode cX5_flight 9 = .ok (.iload_n 2, 1) := by decide +kernel
theorem dX5_flight_10 : decode cX5_flight 10 = .ok (.iconst 0, 1) := by decide +kernel
theorem dX5_flight_11 : decode cX5_flight 11 = .ok (.sipush 20000, 3) := by decide +kernel
theorem dX5_flight_14 : decode cX5_flight 14 = .ok (.invokestatic 71, 3) := by decide +kernel
theorem dX5_flight_17 : decode cX5_flight 17 = .ok (.ifCond .ne 5, 3) := by decide +kernel
theorem dX5_flight_20 : decode cX5_flight 20 = .ok (.iconst (-1), 1) := by decide +kernel
theorem dX5_flight_21 : decode cX5_flight 21 = .ok (.ireturn, 1) := by decide +kernel
theorem dX5_flight_22 : decode cX5_flight 22 = .ok (.aload_n 0, 1) := by decide +kernel
theorem dX5_flight_23 : decode cX5_flight 23 = .ok (.dup, 1) := by decide +kernel
theorem dX5_flight_24 : decode cX5_flight 24 = .ok (.getfield 133, 3) := by decide +kernel
theorem dX5_flight_27 : decode cX5_flight 27 = .ok (.iload_n 1, 1) := by decide +kernel
theorem dX5_flight_28 : decode cX5_flight 28 = .ok (.ifCond .ne 7, 3) := by decide +kernel
theorem dX5_flight_31 : decode cX5_flight 31 = .ok (.lconst 1, 1) := by decide +kernel
theorem dX5_flight_32 : decode cX5_flight 32 = .ok (.goto 17, 3) := by decide +kernel
theorem dX5_flight_35 : decode cX5_flight 35 = .ok (.iload_n 1, 1) := by decide +kernel
theorem dX5_flight_36 : decode cX5_flight 36 = .ok (.iconst 1, 1) := by decide +kernel
theorem dX5_flight_37 : decode cX5_flight 37 = .ok (.if_icmp .ne 9, 3) := by decide +kernel
theorem dX5_flight_40 : decode cX5_flight 40 = .ok (.ldc2_w 137, 3) := by decide +kernel
theorem dX5_flight_43 : decode cX5_flight 43 = .ok (.goto 6, 3) := by decide +kernel
theorem dX5_flight_46 : decode cX5_flight 46 = .ok (.ldc2_w 139, 3) := by decide +kernel
theorem dX5_flight_49 : decode cX5_flight 49 = .ok (.ladd, 1) := by decide +kernel
theorem dX5_flight_50 : decode cX5_flight 50 = .ok (.putfield 133, 3) := by decide +kernel
theorem dX5_flight_53 : decode cX5_flight 53 = .ok (.aload_n 0, 1) := by decide +kernel
theorem dX5_flight_54 : decode cX5_flight 54 = .ok (.iload_n 1, 1) := by decide +kernel
theorem dX5_flight_55 : decode cX5_flight 55 = .ok (.iload_n 2, 1) := by decide +kernel
theorem dX5_flight_56 : decode cX5_flight 56 = .ok (.invokevirtual 125, 3) := by decide +kernel
theorem dX5_flight_59 : decode cX5_flight 59 = .ok (.ireturn, 1) := by decide +kernel
theorem dX5_tune_0 : decode cX5_tune 0 = .ok (.iload_n 1, 1) := by decide +kernel
theorem dX5_tune_1 : decode cX5_tune 1 = .ok (.bipush 10, 2) := by decide +kernel
theorem dX5_tune_3 : decode cX5_tune 3 = .ok (.sipush 160, 3) := by decide +kernel
theorem dX5_tune_6 : decode cX5_tune 6 = .ok (.invokestatic 71, 3) := by decide +kernel
theorem dX5_tune_9 : decode cX5_tune 9 = .ok (.ifCond .eq 35, 3) := by decide +kernel
theorem dX5_tune_12 : decode cX5_tune 12 = .ok (.iload_n 2, 1) := by decide +kernel
theorem dX5_tune_13 : decode cX5_tune 13 = .ok (.iload_n 1, 1) := by decide +kernel
theorem dX5_tune_14 : decode cX5_tune 14 = .ok (.sipush 160, 3) := by decide +kernel
theorem dX5_tune_17 : decode cX5_tune 17 = .ok (.invokestatic 71, 3) := by decide +kernel
theorem dX5_tune_20 : decode cX5_tune 20 = .ok (.ifCond .eq 24, 3) := by decide +kernel
theorem dX5_tune_23 : decode cX5_tune 23 = .ok (.iload_n 3, 1) := by decide +kernel
theorem dX5_tune_24 : decode cX5_tune 24 = .ok (.iconst 0, 1) := by decide +kernel
theorem dX5_tune_25 : decode cX5_tune 25 = .ok (.sipush 2000, 3) := by decide +kernel
theorem dX5_tune_28 : decode cX5_tune 28 = .ok (.invokestatic 71, 3) := by decide +kernel
theorem dX5_tune_31 : decode cX5_tune 31 = .ok (.ifCond .eq 13, 3) := by decide +kernel
theorem dX5_tune_34 : decode cX5_tune 34 = .ok (.iload 4, 2) := by decide +kernel
theorem dX5_tune_36 : decode cX5_tune 36 = .ok (.iconst 0, 1) := by decide +kernel
theorem dX5_tune_37 : decode cX5_tune 37 = .ok (.iconst 2, 1) := by decide +kernel
theorem dX5_tune_38 : decode cX5_tune 38 = .ok (.invokestatic 71, 3) := by decide +kernel
theorem dX5_tune_41 : decode cX5_tune 41 = .ok (.ifCond .ne 5, 3) := by decide +kernel
theorem dX5_tune_44 : decode cX5_tune 44 = .ok (.iconst (-1), 1) := by decide +kernel
theorem dX5_tune_45 : decode cX5_tune 45 = .ok (.ireturn, 1) := by decide +kernel
theorem dX5_tune_46 : decode cX5_tune 46 = .ok (.bipush (-9), 2) := by decide +kernel
theorem dX5_tune_48 : decode cX5_tune 48 = .ok (.istore 5, 2) := by decide +kernel
theorem dX5_tune_50 : decode cX5_tune 50 = .ok (.bipush (-9), 2) := by decide +kernel
theorem dX5_tune_52 : decode cX5_tune 52 = .ok (.istore 6, 2) := by decide +kernel
theorem dX5_tune_54 : decode cX5_tune 54 = .ok (.bipush (-9), 2) := by decide +kernel
theorem dX5_tune_56 : decode cX5_tune 56 = .ok (.istore 7, 2) := by decide +kernel
theorem dX5_tune_58 : decode cX5_tune 58 = .ok (.iload_n 1, 1) := by decide +kernel
theorem dX5_tune_59 : decode cX5_tune 59 = .ok (.istore 8, 2) := by decide +kernel
theorem dX5_tune_61 : decode cX5_tune 61 = .ok (.iload 8, 2) := by decide +kernel
theorem dX5_tune_63 : decode cX5_tune 63 = .ok (.iload_n 2, 1) := by decide +kernel
theorem dX5_tune_64 : decode cX5_tune 64 = .ok (.if_icmp .gt 82, 3) := by decide +kernel
theorem dX5_tune_67 : decode cX5_tune 67 = .ok (.iconst 0, 1) := by decide +kernel
theorem dX5_tune_68 : decode cX5_tune 68 = .ok (.istore 9, 2) := by decide +kernel
theorem dX5_tune_70 : decode cX5_tune 70 = .ok (.iload 9, 2) := by decide +kernel
theorem dX5_tune_72 : decode cX5_tune 72 = .ok (.bipush 61, 2) := by decide +kernel
theorem dX5_tune_74 : decode cX5_tune 74 = .ok (.if_icmp .ge 66, 3) := by decide +kernel
theorem dX5_tune_77 : decode cX5_tune 77 = .ok (.aload_n 0, 1) := by decide +kernel
theorem dX5_tune_78 : decode cX5_tune 78 = .ok (.iload 8, 2) := by decide +kernel
theorem dX5_tune_80 : decode cX5_tune 80 = .ok (.iload 9, 2) := by decide +kernel
theorem dX5_tune_82 : decode cX5_tune 82 = .ok (.invokevirtual 129, 3) := by decide +kernel
theorem dX5_tune_85 : decode cX5_tune 85 = .ok (.aload_n 0, 1) := by decide +kernel
theorem dX5_tune_86 : decode cX5_tune 86 = .ok (.getfield 115, 3) := by decide +kernel
theorem dX5_tune_89 : decode cX5_tune 89 = .ok (.bipush (-9), 2) := by decide +kernel
theorem dX5_tune_91 : decode cX5_tune 91 = .ok (.if_icmp .eq 43, 3) := by decide +kernel
theorem dX5_tune_94 : decode cX5_tune 94 = .ok (.iload 5, 2) := by decide +kernel
theorem dX5_tune_96 : decode cX5_tune 96 = .ok (.bipush (-9), 2) := by decide +kernel
theorem dX5_tune_98 : decode cX5_tune 98 = .ok (.if_icmp .eq 22, 3) := by decide +kernel
theorem dX5_tune_101 : decode cX5_tune 101 = .ok (.aload_n 0, 1) := by decide +kernel
theorem dX5_tune_102 : decode cX5_tune 102 = .ok (.getfield 115, 3) := by decide +kernel
theorem dX5_tune_105 : decode cX5_tune 105 = .ok (.iload_n 3, 1) := by decide +kernel
theorem dX5_tune_106 : decode cX5_tune 106 = .ok (.isub, 1) := by decide +kernel
theorem dX5_tune_107 : decode cX5_tune 107 = .ok (.invokestatic 88, 3) := by decide +kernel
theorem dX5_tune_110 : decode cX5_tune 110 = .ok (.iload 7, 2) := by decide +kernel
theorem dX5_tune_112 : decode cX5_tune 112 = .ok (.iload_n 3, 1) := by decide +kernel
theorem dX5_tune_113 : decode cX5_tune 113 = .ok (.isub, 1) := by decide +kernel
theorem dX5_tune_114 : decode cX5_tune 114 = .ok (.invokestatic 88, 3) := by decide +kernel
theorem dX5_tune_117 : decode cX5_tune 117 = .ok (.if_icmp .ge 17, 3) := by decide +kernel
theorem dX5_tune_120 : decode cX5_tune 120 = .ok (.iload 8, 2) := by decide +kernel
theorem dX5_tune_122 : decode cX5_tune 122 = .ok (.istore 5, 2) := by decide +kernel
theorem dX5_tune_124 : decode cX5_tune 124 = .ok (.iload 9, 2) := by decide +kernel
theorem dX5_tune_126 : decode cX5_tune 126 = .ok (.istore 6, 2) := by decide +kernel
theorem dX5_tune_128 : decode cX5_tune 128 = .ok (.aload_n 0, 1) := by decide +kernel
theorem dX5_tune_129 : decode cX5_tune 129 = .ok (.getfield 115, 3) := by decide +kernel
theorem dX5_tune_132 : decode cX5_tune 132 = .ok (.istore 7, 2) := by decide +kernel
theorem dX5_tune_134 : decode cX5_tune 134 = .ok (.iinc 9 1, 3) := by decide +kernel
theorem dX5_tune_137 : decode cX5_tune 137 = .ok (.goto (-67), 3) := by decide +kernel
theorem dX5_tune_140 : decode cX5_tune 140 = .ok (.iinc 8 1, 3) := by decide +kernel
theorem dX5_tune_143 : decode cX5_tune 143 = .ok (.goto (-82), 3) := by decide +kernel
theorem dX5_tune_146 : decode cX5_tune 146 = .ok (.iload 4, 2) := by decide +kernel
theorem dX5_tune_148 : decode cX5_tune 148 = .ok (.ifCond .ne 8, 3) := by decide +kernel
theorem dX5_tune_151 : decode cX5_tune 151 = .ok (.iload 5, 2) := by decide +kernel
theorem dX5_tune_153 : decode cX5_tune 153 = .ok (.goto 16, 3) := by decide +kernel
theorem dX5_tune_156 : decode cX5_tune 156 = .ok (.iload 4, 2) := by decide +kernel
theorem dX5_tune_158 : decode cX5_tune 158 = .ok (.iconst 1, 1) := by decide +kernel
theorem dX5_tune_159 : decode cX5_tune 159 = .ok (.if_icmp .ne 8, 3) := by decide +kernel
theorem dX5_tune_162 : decode cX5_tune 162 = .ok (.iload 6, 2) := by decide +kernel
theorem dX5_tune_164 : decode cX5_tune 164 = .ok (.goto 5, 3) := by decide +kernel
theorem dX5_tune_167 : decode cX5_tune 167 = .ok (.iload 7, 2) := by decide +kernel
theorem dX5_tune_169 : decode cX5_tune 169 = .ok (.ireturn, 1) := by decide +kernel
theorem dX5_spread_0 : decode cX5_spread 0 = .ok (.iload_n 1, 1) := by decide +kernel
theorem dX5_spread_1 : decode cX5_spread 1 = .ok (.iconst 0, 1) := by decide +kernel
theorem dX5_spread_2 : decode cX5_spread 2 = .ok (.bipush 50, 2) := by decide +kernel
theorem dX5_spread_4 : decode cX5_spread 4 = .ok (.invokestatic 71, 3) := by decide +kernel
theorem dX5_spread_7 : decode cX5_spread 7 = .ok (.ifCond .ne 5, 3) := by decide +kernel
theorem dX5_spread_10 : decode cX5_spread 10 = .ok (.iconst (-1), 1) := by decide +kernel
theorem dX5_spread_11 : decode cX5_spread 11 = .ok (.ireturn, 1) := by decide +kernel
theorem dX5_spread_12 : decode cX5_spread 12 = .ok (.aload_n 0, 1) := by decide +kernel
theorem dX5_spread_13 : decode cX5_spread 13 = .ok (.getfield 13, 3) := by decide +kernel
theorem dX5_spread_16 : decode cX5_spread 16 = .ok (.istore_n 2, 1) := by decide +kernel
theorem dX5_spread_17 : decode cX5_spread 17 = .ok (.aload_n 0, 1) := by decide +kernel
theorem dX5_spread_18 : decode cX5_spread 18 = .ok (.iload_n 1, 1) := by decide +kernel
theorem dX5_spread_19 : decode cX5_spread 19 = .ok (.putfield 13, 3) := by decide +kernel
theorem dX5_spread_22 : decode cX5_spread 22 = .ok (.iload_n 2, 1) := by decide +kernel
theorem dX5_spread_23 : decode cX5_spread 23 = .ok (.ireturn, 1) := by decide +kernel
theorem dX5_shot_0 : decode cX5_shot 0 = .ok (.iload_n 1, 1) := by decide +kernel
theorem dX5_shot_1 : decode cX5_shot 1 = .ok (.iconst 0, 1) := by decide +kernel
theorem dX5_shot_2 : decode cX5_shot 2 = .ok (.bipush 60, 2) := by decide +kernel
theorem dX5_shot_4 : decode cX5_shot 4 = .ok (.invokestatic 71, 3) := by decide +kernel
theorem dX5_shot_7 : decode cX5_shot 7 = .ok (.ifCond .eq 14, 3) := by decide +kernel
theorem dX5_shot_10 : decode cX5_shot 10 = .ok (.iload_n 2, 1) := by decide +kernel
theorem dX5_shot_11 : decode cX5_shot 11 = .ok (.iconst 0, 1) := by decide +kernel
theorem dX5_shot_12 : decode cX5_shot 12 = .ok (.sipush 2000, 3) := by decide +kernel
theorem dX5_shot_15 : decode cX5_shot 15 = .ok (.invokestatic 71, 3) := by decide +kernel
theorem dX5_shot_18 : decode cX5_shot 18 = .ok (.ifCond .ne 5, 3) := by decide +kernel
theorem dX5_shot_21 : decode cX5_shot 21 = .ok (.iconst (-1), 1) := by decide +kernel
theorem dX5_shot_22 : decode cX5_shot 22 = .ok (.ireturn, 1) := by decide +kernel
theorem dX5_shot_23 : decode cX5_shot 23 = .ok (.aload_n 0, 1) := by decide +kernel
theorem dX5_shot_24 : decode cX5_shot 24 = .ok (.getfield 141, 3) := by decide +kernel
theorem dX5_shot_27 : decode cX5_shot 27 = .ok (.bipush 16, 2) := by decide +kernel
theorem dX5_shot_29 : decode cX5_shot 29 = .ok (.if_icmp .ne 6, 3) := by decide +kernel
theorem dX5_shot_32 : decode cX5_shot 32 = .ok (.bipush (-3), 2) := by decide +kernel
theorem dX5_shot_34 : decode cX5_shot 34 = .ok (.ireturn, 1) := by decide +kernel
theorem dX5_shot_35 : decode cX5_shot 35 = .ok (.aload_n 0, 1) := by decide +kernel
theorem dX5_shot_36 : decode cX5_shot 36 = .ok (.getfield 17, 3) := by decide +kernel
theorem dX5_shot_39 : decode cX5_shot 39 = .ok (.aload_n 0, 1) := by decide +kernel
theorem dX5_shot_40 : decode cX5_shot 40 = .ok (.getfield 141, 3) := by decide +kernel
theorem dX5_shot_43 : decode cX5_shot 43 = .ok (.iload_n 1, 1) := by decide +kernel
theorem dX5_shot_44 : decode cX5_shot 44 = .ok (.iastore, 1) := by decide +kernel
theorem dX5_shot_45 : decode cX5_shot 45 = .ok (.aload_n 0, 1) := by decide +kernel
theorem dX5_shot_46 : decode cX5_shot 46 = .ok (.getfield 20, 3) := by decide +kernel
theorem dX5_shot_49 : decode cX5_shot 49 = .ok (.aload_n 0, 1) := by decide +kernel
theorem dX5_shot_50 : decode cX5_shot 50 = .ok (.getfield 141, 3) := by decide +kernel
theorem dX5_shot_53 : decode cX5_shot 53 = .ok (.iload_n 2, 1) := by decide +kernel
theorem dX5_shot_54 : decode cX5_shot 54 = .ok (.iastore, 1) := by decide +kernel
theorem dX5_shot_55 : decode cX5_shot 55 = .ok (.aload_n 0, 1) := by decide +kernel
theorem dX5_shot_56 : decode cX5_shot 56 = .ok (.dup, 1) := by decide +kernel
theorem dX5_shot_57 : decode cX5_shot 57 = .ok (.getfield 141, 3) := by decide +kernel
theorem dX5_shot_60 : decode cX5_shot 60 = .ok (.iconst 1, 1) := by decide +kernel
theorem dX5_shot_61 : decode cX5_shot 61 = .ok (.iadd, 1) := by decide +kernel
theorem dX5_shot_62 : decode cX5_shot 62 = .ok (.putfield 141, 3) := by decide +kernel
theorem dX5_shot_65 : decode cX5_shot 65 = .ok (.aload_n 0, 1) := by decide +kernel
theorem dX5_shot_66 : decode cX5_shot 66 = .ok (.getfield 141, 3) := by decide +kernel
theorem dX5_shot_69 : decode cX5_shot 69 = .ok (.ireturn, 1) := by decide +kernel
theorem dX5_clear_0 : decode cX5_clear 0 = .ok (.aload_n 0, 1) := by decide +kernel
theorem dX5_clear_1 : decode cX5_clear 1 = .ok (.getfield 141, 3) := by decide +kernel
theorem dX5_clear_4 : decode cX5_clear 4 = .ok (.istore_n 1, 1) := by decide +kernel
theorem dX5_clear_5 : decode cX5_clear 5 = .ok (.aload_n 0, 1) := by decide +kernel
theorem dX5_clear_6 : decode cX5_clear 6 = .ok (.iconst 0, 1) := by decide +kernel
theorem dX5_clear_7 : decode cX5_clear 7 = .ok (.putfield 141, 3) := by decide +kernel
theorem dX5_clear_10 : decode cX5_clear 10 = .ok (.iload_n 1, 1) := by decide +kernel
theorem dX5_clear_11 : decode cX5_clear 11 = .ok (.ireturn, 1) := by decide +kernel
theorem dX5_lands_0 : decode cX5_lands 0 = .ok (.iload_n 0, 1) := by decide +kernel
theorem dX5_lands_1 : decode cX5_lands 1 = .ok (.bipush 85, 2) := by decide +kernel
theorem dX5_lands_3 : decode cX5_lands 3 = .ok (.iload_n 1, 1) := by decide +kernel
theorem dX5_lands_4 : decode cX5_lands 4 = .ok (.bipush 25, 2) := by decide +kernel
theorem dX5_lands_6 : decode cX5_lands 6 = .ok (.idiv, 1) := by decide +kernel
theorem dX5_lands_7 : decode cX5_lands 7 = .ok (.iadd, 1) := by decide +kernel
theorem dX5_lands_8 : decode cX5_lands 8 = .ok (.imul, 1) := by decide +kernel
theorem dX5_lands_9 : decode cX5_lands 9 = .ok (.bipush 100, 2) := by decide +kernel
theorem dX5_lands_11 : decode cX5_lands 11 = .ok (.idiv, 1) := by decide +kernel
theorem dX5_lands_12 : decode cX5_lands 12 = .ok (.iload_n 1, 1) := by decide +kernel
theorem dX5_lands_13 : decode cX5_lands 13 = .ok (.bipush 25, 2) := by decide +kernel
theorem dX5_lands_15 : decode cX5_lands 15 = .ok (.irem, 1) := by decide +kernel
theorem dX5_lands_16 : decode cX5_lands 16 = .ok (.iadd, 1) := by decide +kernel
theorem dX5_lands_17 : decode cX5_lands 17 = .ok (.bipush 12, 2) := by decide +kernel
theorem dX5_lands_19 : decode cX5_lands 19 = .ok (.isub, 1) := by decide +kernel
theorem dX5_lands_20 : decode cX5_lands 20 = .ok (.ireturn, 1) := by decide +kernel
theorem dX5_findLeft_0 : decode cX5_findLeft 0 = .ok (.iconst 0, 1) := by decide +kernel
theorem dX5_findLeft_1 : decode cX5_findLeft 1 = .ok (.istore_n 1, 1) := by decide +kernel
theorem dX5_findLeft_2 : decode cX5_findLeft 2 = .ok (.iload_n 1, 1) := by decide +kernel
theorem dX5_findLeft_3 : decode cX5_findLeft 3 = .ok (.bipush 61, 2) := by decide +kernel
theorem dX5_findLeft_5 : decode cX5_findLeft 5 = .ok (.if_icmp .ge 30, 3) := by decide +kernel
theorem dX5_findLeft_8 : decode cX5_findLeft 8 = .ok (.aload_n 0, 1) := by decide +kernel
theorem dX5_findLeft_9 : decode cX5_findLeft 9 = .ok (.aload_n 0, 1) := by decide +kernel
theorem dX5_findLeft_10 : decode cX5_findLeft 10 = .ok (.getfield 7, 3) := by decide +kernel
theorem dX5_findLeft_13 : decode cX5_findLeft 13 = .ok (.iconst 3, 1) := by decide +kernel
theorem dX5_findLeft_14 : decode cX5_findLeft 14 = .ok (.iaload, 1) := by decide +kernel
theorem dX5_findLeft_15 : decode cX5_findLeft 15 = .ok (.iload_n 1, 1) := by decide +kernel
theorem dX5_findLeft_16 : decode cX5_findLeft 16 = .ok (.invokevirtual 129, 3) := by decide +kernel
theorem dX5_findLeft_19 : decode cX5_findLeft 19 = .ok (.aload_n 0, 1) := by decide +kernel
theorem dX5_findLeft_20 : decode cX5_findLeft 20 = .ok (.getfield 47, 3) := by decide +kernel
theorem dX5_findLeft_23 : decode cX5_findLeft 23 = .ok (.iload_n 1, 1) := by decide +kernel
theorem dX5_findLeft_24 : decode cX5_findLeft 24 = .ok (.aload_n 0, 1) := by decide +kernel
theorem dX5_findLeft_25 : decode cX5_findLeft 25 = .ok (.getfield 115, 3) := by decide +kernel
theorem dX5_findLeft_28 : decode cX5_findLeft 28 = .ok (.iastore, 1) := by decide +kernel
theorem dX5_findLeft_29 : decode cX5_findLeft 29 = .ok (.iinc 1 1, 3) := by decide +kernel
theorem dX5_findLeft_32 : decode cX5_findLeft 32 = .ok (.goto (-30), 3) := by decide +kernel
theorem dX5_findLeft_35 : decode cX5_findLeft 35 = .ok (.iconst 0, 1) := by decide +kernel
theorem dX5_findLeft_36 : decode cX5_findLeft 36 = .ok (.istore_n 1, 1) := by decide +kernel
theorem dX5_findLeft_37 : decode cX5_findLeft 37 = .ok (.iconst 0, 1) := by decide +kernel
theorem dX5_findLeft_38 : decode cX5_findLeft 38 = .ok (.istore_n 2, 1) := by decide +kernel
theorem dX5_findLeft_39 : decode cX5_findLeft 39 = .ok (.iload_n 2, 1) := by decide +kernel
theorem dX5_findLeft_40 : decode cX5_findLeft 40 = .ok (.sipush 775, 3) := by decide +kernel
theorem dX5_findLeft_43 : decode cX5_findLeft 43 = .ok (.if_icmp .ge 100, 3) := by decide +kernel
theorem dX5_findLeft_46 : decode cX5_findLeft 46 = .ok (.aload_n 0, 1) := by decide +kernel
theorem dX5_findLeft_47 : decode cX5_findLeft 47 = .ok (.getfield 50, 3) := by decide +kernel
theorem dX5_findLeft_50 : decode cX5_findLeft 50 = .ok (.iload_n 2, 1) := by decide +kernel
theorem dX5_findLeft_51 : decode cX5_findLeft 51 = .ok (.iconst 1, 1) := by decide +kernel
theorem dX5_findLeft_52 : decode cX5_findLeft 52 = .ok (.iastore, 1) := by decide +kernel
theorem dX5_findLeft_53 : decode cX5_findLeft 53 = .ok (.iconst 0, 1) := by decide +kernel
theorem dX5_findLeft_54 : decode cX5_findLeft 54 = .ok (.istore_n 3, 1) := by decide +kernel
theorem dX5_findLeft_55 : decode cX5_findLeft 55 = .ok (.iload_n 3, 1) := by decide +kernel
theorem dX5_findLeft_56 : decode cX5_findLeft 56 = .ok (.aload_n 0, 1) := by decide +kernel
theorem dX5_findLeft_57 : decode cX5_findLeft 57 = .ok (.getfield 141, 3) := by decide +kernel
theorem dX5_findLeft_60 : decode cX5_findLeft 60 = .ok (.if_icmp .ge 68, 3) := by decide +kernel
theorem dX5_findLeft_63 : decode cX5_findLeft 63 = .ok (.aload_n 0, 1) := by decide +kernel
theorem dX5_findLeft_64 : decode cX5_findLeft 64 = .ok (.getfield 47, 3) := by decide +kernel
theorem dX5_findLeft_67 : decode cX5_findLeft 67 = .ok (.aload_n 0, 1) := by decide +kernel
theorem dX5_findLeft_68 : decode cX5_findLeft 68 = .ok (.getfield 17, 3) := by decide +kernel
theorem dX5_findLeft_71 : decode cX5_findLeft 71 = .ok (.iload_n 3, 1) := by decide +kernel
theorem dX5_findLeft_72 : decode cX5_findLeft 72 = .ok (.iaload, 1) := by decide +kernel
theorem dX5_findLeft_73 : decode cX5_findLeft 73 = .ok (.iaload, 1) := by decide +kernel
theorem dX5_findLeft_74 : decode cX5_findLeft 74 = .ok (.istore 4, 2) := by decide +kernel
theorem dX5_findLeft_76 : decode cX5_findLeft 76 = .ok (.aload_n 0, 1) := by decide +kernel
theorem dX5_findLeft_77 : decode cX5_findLeft 77 = .ok (.getfield 50, 3) := by decide +kernel
theorem dX5_findLeft_80 : decode cX5_findLeft 80 = .ok (.iload_n 2, 1) := by decide +kernel
theorem dX5_findLeft_81 : decode cX5_findLeft 81 = .ok (.iload 4, 2) := by decide +kernel
theorem dX5_findLeft_83 : decode cX5_findLeft 83 = .ok (.bipush (-9), 2) := by decide +kernel
theorem dX5_findLeft_85 : decode cX5_findLeft 85 = .ok (.if_icmp .eq 26, 3) := by decide +kernel
theorem dX5_findLeft_88 : decode cX5_findLeft 88 = .ok (.iload 4, 2) := by decide +kernel
theorem dX5_findLeft_90 : decode cX5_findLeft 90 = .ok (.iload_n 2, 1) := by decide +kernel
theorem dX5_findLeft_91 : decode cX5_findLeft 91 = .ok (.invokestatic 144, 3) := by decide +kernel
theorem dX5_findLeft_94 : decode cX5_findLeft 94 = .ok (.aload_n 0, 1) := by decide +kernel
theorem dX5_findLeft_95 : decode cX5_findLeft 95 = .ok (.getfield 20, 3) := by decide +kernel
theorem dX5_findLeft_98 : decode cX5_findLeft 98 = .ok (.iload_n 3, 1) := by decide +kernel
theorem dX5_findLeft_99 : decode cX5_findLeft 99 = .ok (.iaload, 1) := by decide +kernel
theorem dX5_findLeft_100 : decode cX5_findLeft 100 = .ok (.isub, 1) := by decide +kernel
theorem dX5_findLeft_101 : decode cX5_findLeft 101 = .ok (.invokestatic 88, 3) := by decide +kernel
theorem dX5_findLeft_104 : decode cX5_findLeft 104 = .ok (.aload_n 0, 1) := by decide +kernel
theorem dX5_findLeft_105 : decode cX5_findLeft 105 = .ok (.getfield 13, 3) := by decide +kernel
theorem dX5_findLeft_108 : decode cX5_findLeft 108 = .ok (.if_icmp .le 7, 3) := by decide +kernel
theorem dX5_findLeft_111 : decode cX5_findLeft 111 = .ok (.iconst 0, 1) := by decide +kernel
theorem dX5_findLeft_112 : decode cX5_findLeft 112 = .ok (.goto 9, 3) := by decide +kernel
theorem dX5_findLeft_115 : decode cX5_findLeft 115 = .ok (.aload_n 0, 1) := by decide +kernel
theorem dX5_findLeft_116 : decode cX5_findLeft 116 = .ok (.getfield 50, 3) := by decide +kernel
theorem dX5_findLeft_119 : decode cX5_findLeft 119 = .ok (.iload_n 2, 1) := by decide +kernel
theorem dX5_findLeft_120 : decode cX5_findLeft 120 = .ok (.iaload, 1) := by decide +kernel
theorem dX5_findLeft_121 : decode cX5_findLeft 121 = .ok (.iastore, 1) := by decide +kernel
theorem dX5_findLeft_122 : decode cX5_findLeft 122 = .ok (.iinc 3 1, 3) := by decide +kernel
theorem dX5_findLeft_125 : decode cX5_findLeft 125 = .ok (.goto (-70), 3) := by decide +kernel
theorem dX5_findLeft_128 : decode cX5_findLeft 128 = .ok (.iload_n 1, 1) := by decide +kernel
theorem dX5_findLeft_129 : decode cX5_findLeft 129 = .ok (.aload_n 0, 1) := by decide +kernel
theorem dX5_findLeft_130 : decode cX5_findLeft 130 = .ok (.getfield 50, 3) := by decide +kernel
theorem dX5_findLeft_133 : decode cX5_findLeft 133 = .ok (.iload_n 2, 1) := by decide +kernel
theorem dX5_findLeft_134 : decode cX5_findLeft 134 = .ok (.iaload, 1) := by decide +kernel
theorem dX5_findLeft_135 : decode cX5_findLeft 135 = .ok (.iadd, 1) := by decide +kernel
theorem dX5_findLeft_136 : decode cX5_findLeft 136 = .ok (.istore_n 1, 1) := by decide +kernel
theorem dX5_findLeft_137 : decode cX5_findLeft 137 = .ok (.iinc 2 1, 3) := by decide +kernel
theorem dX5_findLeft_140 : decode cX5_findLeft 140 = .ok (.goto (-101), 3) := by decide +kernel
theorem dX5_findLeft_143 : decode cX5_findLeft 143 = .ok (.iload_n 1, 1) := by decide +kernel
theorem dX5_findLeft_144 : decode cX5_findLeft 144 = .ok (.ireturn, 1) := by decide +kernel
theorem dX5_left_0 : decode cX5_left 0 = .ok (.aload_n 0, 1) := by decide +kernel
theorem dX5_left_1 : decode cX5_left 1 = .ok (.invokevirtual 147, 3) := by decide +kernel
theorem dX5_left_4 : decode cX5_left 4 = .ok (.ireturn, 1) := by decide +kernel
theorem dX5_spanOf_0 : decode cX5_spanOf 0 = .ok (.sipush (-1000), 3) := by decide +kernel
theorem dX5_spanOf_3 : decode cX5_spanOf 3 = .ok (.istore_n 3, 1) := by decide +kernel
theorem dX5_spanOf_4 : decode cX5_spanOf 4 = .ok (.iconst 0, 1) := by decide +kernel
theorem dX5_spanOf_5 : decode cX5_spanOf 5 = .ok (.istore 4, 2) := by decide +kernel
theorem dX5_spanOf_7 : decode cX5_spanOf 7 = .ok (.iload 4, 2) := by decide +kernel
theorem dX5_spanOf_9 : decode cX5_spanOf 9 = .ok (.sipush 775, 3) := by decide +kernel
theorem dX5_spanOf_12 : decode cX5_spanOf 12 = .ok (.if_icmp .ge 77, 3) := by decide +kernel
theorem dX5_spanOf_15 : decode cX5_spanOf 15 = .ok (.aload_n 0, 1) := by decide +kernel
theorem dX5_spanOf_16 : decode cX5_spanOf 16 = .ok (.getfield 50, 3) := by decide +kernel
theorem dX5_spanOf_19 : decode cX5_spanOf 19 = .ok (.iload 4, 2) := by decide +kernel
theorem dX5_spanOf_21 : decode cX5_spanOf 21 = .ok (.iaload, 1) := by decide +kernel
theorem dX5_spanOf_22 : decode cX5_spanOf 22 = .ok (.iconst 1, 1) := by decide +kernel
theorem dX5_spanOf_23 : decode cX5_spanOf 23 = .ok (.if_icmp .ne 60, 3) := by decide +kernel
theorem dX5_spanOf_26 : decode cX5_spanOf 26 = .ok (.aload_n 0, 1) := by decide +kernel
theorem dX5_spanOf_27 : decode cX5_spanOf 27 = .ok (.getfield 47, 3) := by decide +kernel
theorem dX5_spanOf_30 : decode cX5_spanOf 30 = .ok (.iload_n 1, 1) := by decide +kernel
theorem dX5_spanOf_31 : decode cX5_spanOf 31 = .ok (.iaload, 1) := by decide +kernel
theorem dX5_spanOf_32 : decode cX5_spanOf 32 = .ok (.bipush (-9), 2) := by decide +kernel
theorem dX5_spanOf_34 : decode cX5_spanOf 34 = .ok (.if_icmp .eq 49, 3) := by decide +kernel
theorem dX5_spanOf_37 : decode cX5_spanOf 37 = .ok (.aload_n 0, 1) := by decide +kernel
theorem dX5_spanOf_38 : decode cX5_spanOf 38 = .ok (.getfield 47, 3) := by decide +kernel
theorem dX5_spanOf_41 : decode cX5_spanOf 41 = .ok (.iload_n 1, 1) := by decide +kernel
theorem dX5_spanOf_42 : decode cX5_spanOf 42 = .ok (.iaload, 1) := by decide +kernel
theorem dX5_spanOf_43 : decode cX5_spanOf 43 = .ok (.iload 4, 2) := by decide +kernel
theorem dX5_spanOf_45 : decode cX5_spanOf 45 = .ok (.invokestatic 144, 3) := by decide +kernel
theorem dX5_spanOf_48 : decode cX5_spanOf 48 = .ok (.istore 5, 2) := by decide +kernel
theorem dX5_spanOf_50 : decode cX5_spanOf 50 = .ok (.iload_n 3, 1) := by decide +kernel
theorem dX5_spanOf_51 : decode cX5_spanOf 51 = .ok (.sipush (-1000), 3) := by decide +kernel
theorem dX5_spanOf_54 : decode cX5_spanOf 54 = .ok (.if_icmp .eq 22, 3) := by decide +kernel
theorem dX5_spanOf_57 : decode cX5_spanOf 57 = .ok (.iload_n 2, 1) := by decide +kernel
theorem dX5_spanOf_58 : decode cX5_spanOf 58 = .ok (.ifCond .eq 12, 3) := by decide +kernel
theorem dX5_spanOf_61 : decode cX5_spanOf 61 = .ok (.iload 5, 2) := by decide +kernel
theorem dX5_spanOf_63 : decode cX5_spanOf 63 = .ok (.iload_n 3, 1) := by decide +kernel
theorem dX5_spanOf_64 : decode cX5_spanOf 64 = .ok (.if_icmp .le 17, 3) := by decide +kernel
theorem dX5_spanOf_67 : decode cX5_spanOf 67 = .ok (.goto 9, 3) := by decide +kernel
theorem dX5_spanOf_70 : decode cX5_spanOf 70 = .ok (.iload 5, 2) := by decide +kernel
theorem dX5_spanOf_72 : decode cX5_spanOf 72 = .ok (.iload_n 3, 1) := by decide +kernel
theorem dX5_spanOf_73 : decode cX5_spanOf 73 = .ok (.if_icmp .ge 8, 3) := by decide +kernel
theorem dX5_spanOf_76 : decode cX5_spanOf 76 = .ok (.iload 5, 2) := by decide +kernel
theorem dX5_spanOf_78 : decode cX5_spanOf 78 = .ok (.goto 4, 3) := by decide +kernel
theorem dX5_spanOf_81 : decode cX5_spanOf 81 = .ok (.iload_n 3, 1) := by decide +kernel
theorem dX5_spanOf_82 : decode cX5_spanOf 82 = .ok (.istore_n 3, 1) := by decide +kernel
theorem dX5_spanOf_83 : decode cX5_spanOf 83 = .ok (.iinc 4 1, 3) := by decide +kernel
theorem dX5_spanOf_86 : decode cX5_spanOf 86 = .ok (.goto (-79), 3) := by decide +kernel
theorem dX5_spanOf_89 : decode cX5_spanOf 89 = .ok (.iload_n 3, 1) := by decide +kernel
theorem dX5_spanOf_90 : decode cX5_spanOf 90 = .ok (.ireturn, 1) := by decide +kernel
theorem dX5_span_0 : decode cX5_span 0 = .ok (.iload_n 1, 1) := by decide +kernel
theorem dX5_span_1 : decode cX5_span 1 = .ok (.iconst 0, 1) := by decide +kernel
theorem dX5_span_2 : decode cX5_span 2 = .ok (.bipush 60, 2) := by decide +kernel
theorem dX5_span_4 : decode cX5_span 4 = .ok (.invokestatic 71, 3) := by decide +kernel
theorem dX5_span_7 : decode cX5_span 7 = .ok (.ifCond .eq 12, 3) := by decide +kernel
theorem dX5_span_10 : decode cX5_span 10 = .ok (.iload_n 2, 1) := by decide +kernel
theorem dX5_span_11 : decode cX5_span 11 = .ok (.iconst 0, 1) := by decide +kernel
theorem dX5_span_12 : decode cX5_span 12 = .ok (.iconst 1, 1) := by decide +kernel
theorem dX5_span_13 : decode cX5_span 13 = .ok (.invokestatic 71, 3) := by decide +kernel
theorem dX5_span_16 : decode cX5_span 16 = .ok (.ifCond .ne 7, 3) := by decide +kernel
theorem dX5_span_19 : decode cX5_span 19 = .ok (.sipush (-2000), 3) := by decide +kernel
theorem dX5_span_22 : decode cX5_span 22 = .ok (.ireturn, 1) := by decide +kernel
theorem dX5_span_23 : decode cX5_span 23 = .ok (.aload_n 0, 1) := by decide +kernel
theorem dX5_span_24 : decode cX5_span 24 = .ok (.invokevirtual 147, 3) := by decide +kernel
theorem dX5_span_27 : decode cX5_span 27 = .ok (.ifCond .ne 9, 3) := by decide +kernel
theorem dX5_span_30 : decode cX5_span 30 = .ok (.sipush (-1000), 3) := by decide +kernel
theorem dX5_span_33 : decode cX5_span 33 = .ok (.goto 18, 3) := by decide +kernel
theorem dX5_span_36 : decode cX5_span 36 = .ok (.aload_n 0, 1) := by decide +kernel
theorem dX5_span_37 : decode cX5_span 37 = .ok (.iload_n 1, 1) := by decide +kernel
theorem dX5_span_38 : decode cX5_span 38 = .ok (.iload_n 2, 1) := by decide +kernel
theorem dX5_span_39 : decode cX5_span 39 = .ok (.iconst 1, 1) := by decide +kernel
theorem dX5_span_40 : decode cX5_span 40 = .ok (.if_icmp .ne 7, 3) := by decide +kernel
theorem dX5_span_43 : decode cX5_span 43 = .ok (.iconst 1, 1) := by decide +kernel
theorem dX5_span_44 : decode cX5_span 44 = .ok (.goto 4, 3) := by decide +kernel
theorem dX5_span_47 : decode cX5_span 47 = .ok (.iconst 0, 1) := by decide +kernel
theorem dX5_span_48 : decode cX5_span 48 = .ok (.invokevirtual 151, 3) := by decide +kernel
theorem dX5_span_51 : decode cX5_span 51 = .ok (.ireturn, 1) := by decide +kernel
theorem dX5_next_0 : decode cX5_next 0 = .ok (.aload_n 0, 1) := by decide +kernel
theorem dX5_next_1 : decode cX5_next 1 = .ok (.invokevirtual 147, 3) := by decide +kernel
theorem dX5_next_4 : decode cX5_next 4 = .ok (.ifCond .ne 6, 3) := by decide +kernel
theorem dX5_next_7 : decode cX5_next 7 = .ok (.bipush (-9), 2) := by decide +kernel
theorem dX5_next_9 : decode cX5_next 9 = .ok (.ireturn, 1) := by decide +kernel
theorem dX5_next_10 : decode cX5_next 10 = .ok (.bipush (-9), 2) := by decide +kernel
theorem dX5_next_12 : decode cX5_next 12 = .ok (.istore_n 1, 1) := by decide +kernel
theorem dX5_next_13 : decode cX5_next 13 = .ok (.iconst (-1), 1) := by decide +kernel
theorem dX5_next_14 : decode cX5_next 14 = .ok (.istore_n 2, 1) := by decide +kernel
theorem dX5_next_15 : decode cX5_next 15 = .ok (.iconst 0, 1) := by decide +kernel
theorem dX5_next_16 : decode cX5_next 16 = .ok (.istore_n 3, 1) := by decide +kernel
theorem dX5_next_17 : decode cX5_next 17 = .ok (.iload_n 3, 1) := by decide +kernel
theorem dX5_next_18 : decode cX5_next 18 = .ok (.bipush 61, 2) := by decide +kernel
theorem dX5_next_20 : decode cX5_next 20 = .ok (.if_icmp .ge 64, 3) := by decide +kernel
theorem dX5_next_23 : decode cX5_next 23 = .ok (.aload_n 0, 1) := by decide +kernel
theorem dX5_next_24 : decode cX5_next 24 = .ok (.getfield 47, 3) := by decide +kernel
theorem dX5_next_27 : decode cX5_next 27 = .ok (.iload_n 3, 1) := by decide +kernel
theorem dX5_next_28 : decode cX5_next 28 = .ok (.iaload, 1) := by decide +kernel
theorem dX5_next_29 : decode cX5_next 29 = .ok (.bipush (-9), 2) := by decide +kernel
theorem dX5_next_31 : decode cX5_next 31 = .ok (.if_icmp .ne 7, 3) := by decide +kernel
theorem dX5_next_34 : decode cX5_next 34 = .ok (.iconst (-1), 1) := by decide +kernel
theorem dX5_next_35 : decode cX5_next 35 = .ok (.goto 16, 3) := by decide +kernel
theorem dX5_next_38 : decode cX5_next 38 = .ok (.aload_n 0, 1) := by decide +kernel
theorem dX5_next_39 : decode cX5_next 39 = .ok (.iload_n 3, 1) := by decide +kernel
theorem dX5_next_40 : decode cX5_next 40 = .ok (.iconst 1, 1) := by decide +kernel
theorem dX5_next_41 : decode cX5_next 41 = .ok (.invokevirtual 151, 3) := by decide +kernel
theorem dX5_next_44 : decode cX5_next 44 = .ok (.aload_n 0, 1) := by decide +kernel
theorem dX5_next_45 : decode cX5_next 45 = .ok (.iload_n 3, 1) := by decide +kernel
theorem dX5_next_46 : decode cX5_next 46 = .ok (.iconst 0, 1) := by decide +kernel
theorem dX5_next_47 : decode cX5_next 47 = .ok (.invokevirtual 151, 3) := by decide +kernel
theorem dX5_next_50 : decode cX5_next 50 = .ok (.isub, 1) := by decide +kernel
theorem dX5_next_51 : decode cX5_next 51 = .ok (.istore 4, 2) := by decide +kernel
theorem dX5_next_53 : decode cX5_next 53 = .ok (.iload 4, 2) := by decide +kernel
theorem dX5_next_55 : decode cX5_next 55 = .ok (.iload_n 2, 1) := by decide +kernel
theorem dX5_next_56 : decode cX5_next 56 = .ok (.if_icmp .le 7, 3) := by decide +kernel
theorem dX5_next_59 : decode cX5_next 59 = .ok (.iload_n 3, 1) := by decide +kernel
theorem dX5_next_60 : decode cX5_next 60 = .ok (.goto 4, 3) := by decide +kernel
theorem dX5_next_63 : decode cX5_next 63 = .ok (.iload_n 1, 1) := by decide +kernel
theorem dX5_next_64 : decode cX5_next 64 = .ok (.istore_n 1, 1) := by decide +kernel
theorem dX5_next_65 : decode cX5_next 65 = .ok (.iload 4, 2) := by decide +kernel
theorem dX5_next_67 : decode cX5_next 67 = .ok (.iload_n 2, 1) := by decide +kernel
theorem dX5_next_68 : decode cX5_next 68 = .ok (.if_icmp .le 8, 3) := by decide +kernel
theorem dX5_next_71 : decode cX5_next 71 = .ok (.iload 4, 2) := by decide +kernel
theorem dX5_next_73 : decode cX5_next 73 = .ok (.goto 4, 3) := by decide +kernel
theorem dX5_next_76 : decode cX5_next 76 = .ok (.iload_n 2, 1) := by decide +kernel
theorem dX5_next_77 : decode cX5_next 77 = .ok (.istore_n 2, 1) := by decide +kernel
theorem dX5_next_78 : decode cX5_next 78 = .ok (.iinc 3 1, 3) := by decide +kernel
theorem dX5_next_81 : decode cX5_next 81 = .ok (.goto (-64), 3) := by decide +kernel
theorem dX5_next_84 : decode cX5_next 84 = .ok (.iload_n 1, 1) := by decide +kernel
theorem dX5_next_85 : decode cX5_next 85 = .ok (.ireturn, 1) := by decide +kernel
theorem dX5_surest_0 : decode cX5_surest 0 = .ok (.iload_n 1, 1) := by decide +kernel
theorem dX5_surest_1 : decode cX5_surest 1 = .ok (.iconst 0, 1) := by decide +kernel
theorem dX5_surest_2 : decode cX5_surest 2 = .ok (.sipush 2000, 3) := by decide +kernel
theorem dX5_surest_5 : decode cX5_surest 5 = .ok (.invokestatic 71, 3) := by decide +kernel
theorem dX5_surest_8 : decode cX5_surest 8 = .ok (.ifCond .eq 12, 3) := by decide +kernel
theorem dX5_surest_11 : decode cX5_surest 11 = .ok (.iload_n 2, 1) := by decide +kernel
theorem dX5_surest_12 : decode cX5_surest 12 = .ok (.iconst 0, 1) := by decide +kernel
theorem dX5_surest_13 : decode cX5_surest 13 = .ok (.iconst 1, 1) := by decide +kernel
theorem dX5_surest_14 : decode cX5_surest 14 = .ok (.invokestatic 71, 3) := by decide +kernel
theorem dX5_surest_17 : decode cX5_surest 17 = .ok (.ifCond .ne 5, 3) := by decide +kernel
theorem dX5_surest_20 : decode cX5_surest 20 = .ok (.iconst (-1), 1) := by decide +kernel
theorem dX5_surest_21 : decode cX5_surest 21 = .ok (.ireturn, 1) := by decide +kernel
theorem dX5_surest_22 : decode cX5_surest 22 = .ok (.aload_n 0, 1) := by decide +kernel
theorem dX5_surest_23 : decode cX5_surest 23 = .ok (.invokevirtual 147, 3) := by decide +kernel
theorem dX5_surest_26 : decode cX5_surest 26 = .ok (.ifCond .ne 6, 3) := by decide +kernel
theorem dX5_surest_29 : decode cX5_surest 29 = .ok (.bipush (-9), 2) := by decide +kernel
theorem dX5_surest_31 : decode cX5_surest 31 = .ok (.ireturn, 1) := by decide +kernel
theorem dX5_surest_32 : decode cX5_surest 32 = .ok (.bipush (-9), 2) := by decide +kernel
theorem dX5_surest_34 : decode cX5_surest 34 = .ok (.istore_n 3, 1) := by decide +kernel
theorem dX5_surest_35 : decode cX5_surest 35 = .ok (.bipush (-9), 2) := by decide +kernel
theorem dX5_surest_37 : decode cX5_surest 37 = .ok (.istore 4, 2) := by decide +kernel
theorem dX5_surest_39 : decode cX5_surest 39 = .ok (.iconst 0, 1) := by decide +kernel
theorem dX5_surest_40 : decode cX5_surest 40 = .ok (.istore 5, 2) := by decide +kernel
theorem dX5_surest_42 : decode cX5_surest 42 = .ok (.iload 5, 2) := by decide +kernel
theorem dX5_surest_44 : decode cX5_surest 44 = .ok (.bipush 61, 2) := by decide +kernel
theorem dX5_surest_46 : decode cX5_surest 46 = .ok (.if_icmp .ge 85, 3) := by decide +kernel
theorem dX5_surest_49 : decode cX5_surest 49 = .ok (.aload_n 0, 1) := by decide +kernel
theorem dX5_surest_50 : decode cX5_surest 50 = .ok (.getfield 47, 3) := by decide +kernel
theorem dX5_surest_53 : decode cX5_surest 53 = .ok (.iload 5, 2) := by decide +kernel
theorem dX5_surest_55 : decode cX5_surest 55 = .ok (.iaload, 1) := by decide +kernel
theorem dX5_surest_56 : decode cX5_surest 56 = .ok (.bipush (-9), 2) := by decide +kernel
theorem dX5_surest_58 : decode cX5_surest 58 = .ok (.if_icmp .eq 67, 3) := by decide +kernel
theorem dX5_surest_61 : decode cX5_surest 61 = .ok (.aload_n 0, 1) := by decide +kernel
theorem dX5_surest_62 : decode cX5_surest 62 = .ok (.iload 5, 2) := by decide +kernel
theorem dX5_surest_64 : decode cX5_surest 64 = .ok (.iconst 1, 1) := by decide +kernel
theorem dX5_surest_65 : decode cX5_surest 65 = .ok (.invokevirtual 151, 3) := by decide +kernel
theorem dX5_surest_68 : decode cX5_surest 68 = .ok (.iload_n 1, 1) := by decide +kernel
theorem dX5_surest_69 : decode cX5_surest 69 = .ok (.isub, 1) := by decide +kernel
theorem dX5_surest_70 : decode cX5_surest 70 = .ok (.invokestatic 88, 3) := by decide +kernel
theorem dX5_surest_73 : decode cX5_surest 73 = .ok (.istore 6, 2) := by decide +kernel
theorem dX5_surest_75 : decode cX5_surest 75 = .ok (.aload_n 0, 1) := by decide +kernel
theorem dX5_surest_76 : decode cX5_surest 76 = .ok (.iload 5, 2) := by decide +kernel
theorem dX5_surest_78 : decode cX5_surest 78 = .ok (.iconst 0, 1) := by decide +kernel
theorem dX5_surest_79 : decode cX5_surest 79 = .ok (.invokevirtual 151, 3) := by decide +kernel
theorem dX5_surest_82 : decode cX5_surest 82 = .ok (.iload_n 1, 1) := by decide +kernel
theorem dX5_surest_83 : decode cX5_surest 83 = .ok (.isub, 1) := by decide +kernel
theorem dX5_surest_84 : decode cX5_surest 84 = .ok (.invokestatic 88, 3) := by decide +kernel
theorem dX5_surest_87 : decode cX5_surest 87 = .ok (.istore 7, 2) := by decide +kernel
theorem dX5_surest_89 : decode cX5_surest 89 = .ok (.iload 6, 2) := by decide +kernel
theorem dX5_surest_91 : decode cX5_surest 91 = .ok (.iload 7, 2) := by decide +kernel
theorem dX5_surest_93 : decode cX5_surest 93 = .ok (.if_icmp .le 8, 3) := by decide +kernel
theorem dX5_surest_96 : decode cX5_surest 96 = .ok (.iload 6, 2) := by decide +kernel
theorem dX5_surest_98 : decode cX5_surest 98 = .ok (.goto 5, 3) := by decide +kernel
theorem dX5_surest_101 : decode cX5_surest 101 = .ok (.iload 7, 2) := by decide +kernel
theorem dX5_surest_103 : decode cX5_surest 103 = .ok (.istore 8, 2) := by decide +kernel
theorem dX5_surest_105 : decode cX5_surest 105 = .ok (.iload_n 3, 1) := by decide +kernel
theorem dX5_surest_106 : decode cX5_surest 106 = .ok (.bipush (-9), 2) := by decide +kernel
theorem dX5_surest_108 : decode cX5_surest 108 = .ok (.if_icmp .eq 10, 3) := by decide +kernel
theorem dX5_surest_111 : decode cX5_surest 111 = .ok (.iload 8, 2) := by decide +kernel
theorem dX5_surest_113 : decode cX5_surest 113 = .ok (.iload 4, 2) := by decide +kernel
theorem dX5_surest_115 : decode cX5_surest 115 = .ok (.if_icmp .ge 10, 3) := by decide +kernel
theorem dX5_surest_118 : decode cX5_surest 118 = .ok (.iload 5, 2) := by decide +kernel
theorem dX5_surest_120 : decode cX5_surest 120 = .ok (.istore_n 3, 1) := by decide +kernel
theorem dX5_surest_121 : decode cX5_surest 121 = .ok (.iload 8, 2) := by decide +kernel
theorem dX5_surest_123 : decode cX5_surest 123 = .ok (.istore 4, 2) := by decide +kernel
theorem dX5_surest_125 : decode cX5_surest 125 = .ok (.iinc 5 1, 3) := by decide +kernel
theorem dX5_surest_128 : decode cX5_surest 128 = .ok (.goto (-86), 3) := by decide +kernel
theorem dX5_surest_131 : decode cX5_surest 131 = .ok (.iload_n 2, 1) := by decide +kernel
theorem dX5_surest_132 : decode cX5_surest 132 = .ok (.ifCond .ne 7, 3) := by decide +kernel
theorem dX5_surest_135 : decode cX5_surest 135 = .ok (.iload_n 3, 1) := by decide +kernel
theorem dX5_surest_136 : decode cX5_surest 136 = .ok (.goto 5, 3) := by decide +kernel
theorem dX5_surest_139 : decode cX5_surest 139 = .ok (.iload 4, 2) := by decide +kernel
theorem dX5_surest_141 : decode cX5_surest 141 = .ok (.ireturn, 1) := by decide +kernel
theorem dX5_newWall_0 : decode cX5_newWall 0 = .ok (.iconst 0, 1) := by decide +kernel
theorem dX5_newWall_1 : decode cX5_newWall 1 = .ok (.istore_n 1, 1) := by decide +kernel
theorem dX5_newWall_2 : decode cX5_newWall 2 = .ok (.iload_n 1, 1) := by decide +kernel
theorem dX5_newWall_3 : decode cX5_newWall 3 = .ok (.bipush 48, 2) := by decide +kernel
theorem dX5_newWall_5 : decode cX5_newWall 5 = .ok (.if_icmp .ge 31, 3) := by decide +kernel
theorem dX5_newWall_8 : decode cX5_newWall 8 = .ok (.aload_n 0, 1) := by decide +kernel
theorem dX5_newWall_9 : decode cX5_newWall 9 = .ok (.getfield 29, 3) := by decide +kernel
theorem dX5_newWall_12 : decode cX5_newWall 12 = .ok (.iload_n 1, 1) := by decide +kernel
theorem dX5_newWall_13 : decode cX5_newWall 13 = .ok (.iconst 1, 1) := by decide +kernel
theorem dX5_newWall_14 : decode cX5_newWall 14 = .ok (.iastore, 1) := by decide +kernel
theorem dX5_newWall_15 : decode cX5_newWall 15 = .ok (.aload_n 0, 1) := by decide +kernel
theorem dX5_newWall_16 : decode cX5_newWall 16 = .ok (.getfield 32, 3) := by decide +kernel
theorem dX5_newWall_19 : decode cX5_newWall 19 = .ok (.iload_n 1, 1) := by decide +kernel
theorem dX5_newWall_20 : decode cX5_newWall 20 = .ok (.bipush 10, 2) := by decide +kernel
theorem dX5_newWall_22 : decode cX5_newWall 22 = .ok (.iastore, 1) := by decide +kernel
theorem dX5_newWall_23 : decode cX5_newWall 23 = .ok (.aload_n 0, 1) := by decide +kernel
theorem dX5_newWall_24 : decode cX5_newWall 24 = .ok (.getfield 35, 3) := by decide +kernel
theorem dX5_newWall_27 : decode cX5_newWall 27 = .ok (.iload_n 1, 1) := by decide +kernel
theorem dX5_newWall_28 : decode cX5_newWall 28 = .ok (.iconst 0, 1) := by decide +kernel
theorem dX5_newWall_29 : decode cX5_newWall 29 = .ok (.iastore, 1) := by decide +kernel
theorem dX5_newWall_30 : decode cX5_newWall 30 = .ok (.iinc 1 1, 3) := by decide +kernel
theorem dX5_newWall_33 : decode cX5_newWall 33 = .ok (.goto (-31), 3) := by decide +kernel
theorem dX5_newWall_36 : decode cX5_newWall 36 = .ok (.return_, 1) := by decide +kernel
theorem dX5_wall_0 : decode cX5_wall 0 = .ok (.iload_n 1, 1) := by decide +kernel
theorem dX5_wall_1 : decode cX5_wall 1 = .ok (.iconst 1, 1) := by decide +kernel
theorem dX5_wall_2 : decode cX5_wall 2 = .ok (.bipush 8, 2) := by decide +kernel
theorem dX5_wall_4 : decode cX5_wall 4 = .ok (.invokestatic 71, 3) := by decide +kernel
theorem dX5_wall_7 : decode cX5_wall 7 = .ok (.ifCond .eq 13, 3) := by decide +kernel
theorem dX5_wall_10 : decode cX5_wall 10 = .ok (.iload_n 2, 1) := by decide +kernel
theorem dX5_wall_11 : decode cX5_wall 11 = .ok (.iconst 1, 1) := by decide +kernel
theorem dX5_wall_12 : decode cX5_wall 12 = .ok (.bipush 6, 2) := by decide +kernel
theorem dX5_wall_14 : decode cX5_wall 14 = .ok (.invokestatic 71, 3) := by decide +kernel
theorem dX5_wall_17 : decode cX5_wall 17 = .ok (.ifCond .ne 5, 3) := by decide +kernel
theorem dX5_wall_20 : decode cX5_wall 20 = .ok (.iconst (-1), 1) := by decide +kernel
theorem dX5_wall_21 : decode cX5_wall 21 = .ok (.ireturn, 1) := by decide +kernel
theorem dX5_wall_22 : decode cX5_wall 22 = .ok (.aload_n 0, 1) := by decide +kernel
theorem dX5_wall_23 : decode cX5_wall 23 = .ok (.iload_n 1, 1) := by decide +kernel
theorem dX5_wall_24 : decode cX5_wall 24 = .ok (.putfield 23, 3) := by decide +kernel
theorem dX5_wall_27 : decode cX5_wall 27 = .ok (.aload_n 0, 1) := by decide +kernel
theorem dX5_wall_28 : decode cX5_wall 28 = .ok (.iload_n 2, 1) := by decide +kernel
theorem dX5_wall_29 : decode cX5_wall 29 = .ok (.putfield 26, 3) := by decide +kernel
theorem dX5_wall_32 : decode cX5_wall 32 = .ok (.aload_n 0, 1) := by decide +kernel
theorem dX5_wall_33 : decode cX5_wall 33 = .ok (.invokevirtual 68, 3) := by decide +kernel
theorem dX5_wall_36 : decode cX5_wall 36 = .ok (.iload_n 1, 1) := by decide +kernel
theorem dX5_wall_37 : decode cX5_wall 37 = .ok (.iload_n 2, 1) := by decide +kernel
theorem dX5_wall_38 : decode cX5_wall 38 = .ok (.imul, 1) := by decide +kernel
theorem dX5_wall_39 : decode cX5_wall 39 = .ok (.ireturn, 1) := by decide +kernel
theorem dX5_isCell_0 : decode cX5_isCell 0 = .ok (.iload_n 1, 1) := by decide +kernel
theorem dX5_isCell_1 : decode cX5_isCell 1 = .ok (.iconst 0, 1) := by decide +kernel
theorem dX5_isCell_2 : decode cX5_isCell 2 = .ok (.aload_n 0, 1) := by decide +kernel
theorem dX5_isCell_3 : decode cX5_isCell 3 = .ok (.getfield 23, 3) := by decide +kernel
theorem dX5_isCell_6 : decode cX5_isCell 6 = .ok (.iconst 1, 1) := by decide +kernel
theorem dX5_isCell_7 : decode cX5_isCell 7 = .ok (.isub, 1) := by decide +kernel
theorem dX5_isCell_8 : decode cX5_isCell 8 = .ok (.invokestatic 71, 3) := by decide +kernel
theorem dX5_isCell_11 : decode cX5_isCell 11 = .ok (.ifCond .eq 21, 3) := by decide +kernel
theorem dX5_isCell_14 : decode cX5_isCell 14 = .ok (.iload_n 2, 1) := by decide +kernel
theorem dX5_isCell_15 : decode cX5_isCell 15 = .ok (.iconst 0, 1) := by decide +kernel
theorem dX5_isCell_16 : decode cX5_isCell 16 = .ok (.aload_n 0, 1) := by decide +kernel
theorem dX5_isCell_17 : decode cX5_isCell 17 = .ok (.getfield 26, 3) := by decide +kernel
theorem dX5_isCell_20 : decode cX5_isCell 20 = .ok (.iconst 1, 1) := by decide +kernel
theorem dX5_isCell_21 : decode cX5_isCell 21 = .ok (.isub, 1) := by decide +kernel
theorem dX5_isCell_22 : decode cX5_isCell 22 = .ok (.invokestatic 71, 3) := by decide +kernel
theorem dX5_isCell_25 : decode cX5_isCell 25 = .ok (.ifCond .eq 7, 3) := by decide +kernel
theorem dX5_isCell_28 : decode cX5_isCell 28 = .ok (.iconst 1, 1) := by decide +kernel
theorem dX5_isCell_29 : decode cX5_isCell 29 = .ok (.goto 4, 3) := by decide +kernel
theorem dX5_isCell_32 : decode cX5_isCell 32 = .ok (.iconst 0, 1) := by decide +kernel
theorem dX5_isCell_33 : decode cX5_isCell 33 = .ok (.ireturn, 1) := by decide +kernel
theorem dX5_strength_0 : decode cX5_strength 0 = .ok (.aload_n 0, 1) := by decide +kernel
theorem dX5_strength_1 : decode cX5_strength 1 = .ok (.iload_n 1, 1) := by decide +kernel
theorem dX5_strength_2 : decode cX5_strength 2 = .ok (.iload_n 2, 1) := by decide +kernel
theorem dX5_strength_3 : decode cX5_strength 3 = .ok (.invokevirtual 155, 3) := by decide +kernel
theorem dX5_strength_6 : decode cX5_strength 6 = .ok (.ifCond .eq 13, 3) := by decide +kernel
theorem dX5_strength_9 : decode cX5_strength 9 = .ok (.iload_n 3, 1) := by decide +kernel
theorem dX5_strength_10 : decode cX5_strength 10 = .ok (.iconst 1, 1) := by decide +kernel
theorem dX5_strength_11 : decode cX5_strength 11 = .ok (.bipush 99, 2) := by decide +kernel
theorem dX5_strength_13 : decode cX5_strength 13 = .ok (.invokestatic 71, 3) := by decide +kernel
theorem dX5_strength_16 : decode cX5_strength 16 = .ok (.ifCond .ne 5, 3) := by decide +kernel
theorem dX5_strength_19 : decode cX5_strength 19 = .ok (.iconst (-1), 1) := by decide +kernel
theorem dX5_strength_20 : decode cX5_strength 20 = .ok (.ireturn, 1) := by decide +kernel
theorem dX5_strength_21 : decode cX5_strength 21 = .ok (.iload_n 1, 1) := by decide +kernel
theorem dX5_strength_22 : decode cX5_strength 22 = .ok (.aload_n 0, 1) := by decide +kernel
theorem dX5_strength_23 : decode cX5_strength 23 = .ok (.getfield 23, 3) := by decide +kernel
theorem dX5_strength_26 : decode cX5_strength 26 = .ok (.iload_n 2, 1) := by decide +kernel
theorem dX5_strength_27 : decode cX5_strength 27 = .ok (.imul, 1) := by decide +kernel
theorem dX5_strength_28 : decode cX5_strength 28 = .ok (.iadd, 1) := by decide +kernel
theorem dX5_strength_29 : decode cX5_strength 29 = .ok (.istore 4, 2) := by decide +kernel
theorem dX5_strength_31 : decode cX5_strength 31 = .ok (.aload_n 0, 1) := by decide +kernel
theorem dX5_strength_32 : decode cX5_strength 32 = .ok (.getfield 29, 3) := by decide +kernel
theorem dX5_strength_35 : decode cX5_strength 35 = .ok (.iload 4, 2) := by decide +kernel
theorem dX5_strength_37 : decode cX5_strength 37 = .ok (.iaload, 1) := by decide +kernel
theorem dX5_strength_38 : decode cX5_strength 38 = .ok (.ifCond .ne 6, 3) := by decide +kernel
theorem dX5_strength_41 : decode cX5_strength 41 = .ok (.bipush (-2), 2) := by decide +kernel
theorem dX5_strength_43 : decode cX5_strength 43 = .ok (.ireturn, 1) := by decide +kernel
theorem dX5_strength_44 : decode cX5_strength 44 = .ok (.aload_n 0, 1) := by decide +kernel
theorem dX5_strength_45 : decode cX5_strength 45 = .ok (.getfield 32, 3) := by decide +kernel
theorem dX5_strength_48 : decode cX5_strength 48 = .ok (.iload 4, 2) := by decide +kernel
theorem dX5_strength_50 : decode cX5_strength 50 = .ok (.iaload, 1) := by decide +kernel
theorem dX5_strength_51 : decode cX5_strength 51 = .ok (.istore 5, 2) := by decide +kernel
theorem dX5_strength_53 : decode cX5_strength 53 = .ok (.aload_n 0, 1) := by decide +kernel
theorem dX5_strength_54 : decode cX5_strength 54 = .ok (.getfield 32, 3) := by decide +kernel
theorem dX5_strength_57 : decode cX5_strength 57 = .ok (.iload 4, 2) := by decide +kernel
theorem dX5_strength_59 : decode cX5_strength 59 = .ok (.iload_n 3, 1) := by decide +kernel
theorem dX5_strength_60 : decode cX5_strength 60 = .ok (.iastore, 1) := by decide +kernel
theorem dX5_strength_61 : decode cX5_strength 61 = .ok (.iload 5, 2) := by decide +kernel
theorem dX5_strength_63 : decode cX5_strength 63 = .ok (.ireturn, 1) := by decide +kernel
theorem dX5_prop_0 : decode cX5_prop 0 = .ok (.aload_n 0, 1) := by decide +kernel
theorem dX5_prop_1 : decode cX5_prop 1 = .ok (.iload_n 1, 1) := by decide +kernel
theorem dX5_prop_2 : decode cX5_prop 2 = .ok (.iload_n 2, 1) := by decide +kernel
theorem dX5_prop_3 : decode cX5_prop 3 = .ok (.invokevirtual 155, 3) := by decide +kernel
theorem dX5_prop_6 : decode cX5_prop 6 = .ok (.ifCond .ne 5, 3) := by decide +kernel
theorem dX5_prop_9 : decode cX5_prop 9 = .ok (.iconst (-1), 1) := by decide +kernel
theorem dX5_prop_10 : decode cX5_prop 10 = .ok (.ireturn, 1) := by decide +kernel
theorem dX5_prop_11 : decode cX5_prop 11 = .ok (.iload_n 1, 1) := by decide +kernel
theorem dX5_prop_12 : decode cX5_prop 12 = .ok (.aload_n 0, 1) := by decide +kernel
theorem dX5_prop_13 : decode cX5_prop 13 = .ok (.getfield 23, 3) := by decide +kernel
theorem dX5_prop_16 : decode cX5_prop 16 = .ok (.iload_n 2, 1) := by decide +kernel
theorem dX5_prop_17 : decode cX5_prop 17 = .ok (.imul, 1) := by decide +kernel
theorem dX5_prop_18 : decode cX5_prop 18 = .ok (.iadd, 1) := by decide +kernel
theorem dX5_prop_19 : decode cX5_prop 19 = .ok (.istore_n 3, 1) := by decide +kernel
theorem dX5_prop_20 : decode cX5_prop 20 = .ok (.aload_n 0, 1) := by decide +kernel
theorem dX5_prop_21 : decode cX5_prop 21 = .ok (.getfield 29, 3) := by decide +kernel
theorem dX5_prop_24 : decode cX5_prop 24 = .ok (.iload_n 3, 1) := by decide +kernel
theorem dX5_prop_25 : decode cX5_prop 25 = .ok (.iaload, 1) := by decide +kernel
theorem dX5_prop_26 : decode cX5_prop 26 = .ok (.ifCond .ne 6, 3) := by decide +kernel
theorem dX5_prop_29 : decode cX5_prop 29 = .ok (.bipush (-2), 2) := by decide +kernel
theorem dX5_prop_31 : decode cX5_prop 31 = .ok (.ireturn, 1) := by decide +kernel
theorem dX5_prop_32 : decode cX5_prop 32 = .ok (.aload_n 0, 1) := by decide +kernel
theorem dX5_prop_33 : decode cX5_prop 33 = .ok (.getfield 35, 3) := by decide +kernel
theorem dX5_prop_36 : decode cX5_prop 36 = .ok (.iload_n 3, 1) := by decide +kernel
theorem dX5_prop_37 : decode cX5_prop 37 = .ok (.iaload, 1) := by decide +kernel
theorem dX5_prop_38 : decode cX5_prop 38 = .ok (.istore 4, 2) := by decide +kernel
theorem dX5_prop_40 : decode cX5_prop 40 = .ok (.aload_n 0, 1) := by decide +kernel
theorem dX5_prop_41 : decode cX5_prop 41 = .ok (.getfield 35, 3) := by decide +kernel
theorem dX5_prop_44 : decode cX5_prop 44 = .ok (.iload_n 3, 1) := by decide +kernel
theorem dX5_prop_45 : decode cX5_prop 45 = .ok (.iconst 1, 1) := by decide +kernel
theorem dX5_prop_46 : decode cX5_prop 46 = .ok (.iastore, 1) := by decide +kernel
theorem dX5_prop_47 : decode cX5_prop 47 = .ok (.iload 4, 2) := by decide +kernel
theorem dX5_prop_49 : decode cX5_prop 49 = .ok (.ireturn, 1) := by decide +kernel
theorem dX5_keep_0 : decode cX5_keep 0 = .ok (.iconst 0, 1) := by decide +kernel
theorem dX5_keep_1 : decode cX5_keep 1 = .ok (.istore_n 1, 1) := by decide +kernel
theorem dX5_keep_2 : decode cX5_keep 2 = .ok (.iload_n 1, 1) := by decide +kernel
theorem dX5_keep_3 : decode cX5_keep 3 = .ok (.bipush 48, 2) := by decide +kernel
theorem dX5_keep_5 : decode cX5_keep 5 = .ok (.if_icmp .ge 45, 3) := by decide +kernel
theorem dX5_keep_8 : decode cX5_keep 8 = .ok (.aload_n 0, 1) := by decide +kernel
theorem dX5_keep_9 : decode cX5_keep 9 = .ok (.getfield 53, 3) := by decide +kernel
theorem dX5_keep_12 : decode cX5_keep 12 = .ok (.iload_n 1, 1) := by decide +kernel
theorem dX5_keep_13 : decode cX5_keep 13 = .ok (.aload_n 0, 1) := by decide +kernel
theorem dX5_keep_14 : decode cX5_keep 14 = .ok (.getfield 29, 3) := by decide +kernel
theorem dX5_keep_17 : decode cX5_keep 17 = .ok (.iload_n 1, 1) := by decide +kernel
theorem dX5_keep_18 : decode cX5_keep 18 = .ok (.iaload, 1) := by decide +kernel
theorem dX5_keep_19 : decode cX5_keep 19 = .ok (.iastore, 1) := by decide +kernel
theorem dX5_keep_20 : decode cX5_keep 20 = .ok (.aload_n 0, 1) := by decide +kernel
theorem dX5_keep_21 : decode cX5_keep 21 = .ok (.getfield 56, 3) := by decide +kernel
theorem dX5_keep_24 : decode cX5_keep 24 = .ok (.iload_n 1, 1) := by decide +kernel
end
section
theorem dX5_keep_25 : decode cX5_keep 25 = .ok (.aload_n 0, 1) := by decide +kernel
theorem dX5_keep_26 : decode cX5_keep 26 = .ok (.getfield 32, 3) := by decide +kernel
theorem dX5_keep_29 : decode cX5_keep 29 = .ok (.iload_n 1, 1) := by decide +kernel
theorem dX5_keep_30 : decode cX5_keep 30 = .ok (.iaload, 1) := by decide +kernel
theorem dX5_keep_31 : decode cX5_keep 31 = .ok (.iastore, 1) := by decide +kernel
theorem dX5_keep_32 : decode cX5_keep 32 = .ok (.aload_n 0, 1) := by decide +kernel
theorem dX5_keep_33 : decode cX5_keep 33 = .ok (.getfield 59, 3) := by decide +kernel
theorem dX5_keep_36 : decode cX5_keep 36 = .ok (.iload_n 1, 1) := by decide +kernel
theorem dX5_keep_37 : decode cX5_keep 37 = .ok (.aload_n 0, 1) := by decide +kernel
theorem dX5_keep_38 : decode cX5_keep 38 = .ok (.getfield 35, 3) := by decide +kernel
theorem dX5_keep_41 : decode cX5_keep 41 = .ok (.iload_n 1, 1) := by decide +kernel
theorem dX5_keep_42 : decode cX5_keep 42 = .ok (.iaload, 1) := by decide +kernel
theorem dX5_keep_43 : decode cX5_keep 43 = .ok (.iastore, 1) := by decide +kernel
theorem dX5_keep_44 : decode cX5_keep 44 = .ok (.iinc 1 1, 3) := by decide +kernel
theorem dX5_keep_47 : decode cX5_keep 47 = .ok (.goto (-45), 3) := by decide +kernel
theorem dX5_keep_50 : decode cX5_keep 50 = .ok (.return_, 1) := by decide +kernel
theorem dX5_giveBack_0 : decode cX5_giveBack 0 = .ok (.iconst 0, 1) := by decide +kernel
theorem dX5_giveBack_1 : decode cX5_giveBack 1 = .ok (.istore_n 1, 1) := by decide +kernel
theorem dX5_giveBack_2 : decode cX5_giveBack 2 = .ok (.iload_n 1, 1) := by decide +kernel
theorem dX5_giveBack_3 : decode cX5_giveBack 3 = .ok (.bipush 48, 2) := by decide +kernel
theorem dX5_giveBack_5 : decode cX5_giveBack 5 = .ok (.if_icmp .ge 45, 3) := by decide +kernel
theorem dX5_giveBack_8 : decode cX5_giveBack 8 = .ok (.aload_n 0, 1) := by decide +kernel
theorem dX5_giveBack_9 : decode cX5_giveBack 9 = .ok (.getfield 29, 3) := by decide +kernel
theorem dX5_giveBack_12 : decode cX5_giveBack 12 = .ok (.iload_n 1, 1) := by decide +kernel
theorem dX5_giveBack_13 : decode cX5_giveBack 13 = .ok (.aload_n 0, 1) := by decide +kernel
theorem dX5_giveBack_14 : decode cX5_giveBack 14 = .ok (.getfield 53, 3) := by decide +kernel
theorem dX5_giveBack_17 : decode cX5_giveBack 17 = .ok (.iload_n 1, 1) := by decide +kernel
theorem dX5_giveBack_18 : decode cX5_giveBack 18 = .ok (.iaload, 1) := by decide +kernel
theorem dX5_giveBack_19 : decode cX5_giveBack 19 = .ok (.iastore, 1) := by decide +kernel
theorem dX5_giveBack_20 : decode cX5_giveBack 20 = .ok (.aload_n 0, 1) := by decide +kernel
theorem dX5_giveBack_21 : decode cX5_giveBack 21 = .ok (.getfield 32, 3) := by decide +kernel
theorem dX5_giveBack_24 : decode cX5_giveBack 24 = .ok (.iload_n 1, 1) := by decide +kernel
theorem dX5_giveBack_25 : decode cX5_giveBack 25 = .ok (.aload_n 0, 1) := by decide +kernel
theorem dX5_giveBack_26 : decode cX5_giveBack 26 = .ok (.getfield 56, 3) := by decide +kernel
theorem dX5_giveBack_29 : decode cX5_giveBack 29 = .ok (.iload_n 1, 1) := by decide +kernel
theorem dX5_giveBack_30 : decode cX5_giveBack 30 = .ok (.iaload, 1) := by decide +kernel
theorem dX5_giveBack_31 : decode cX5_giveBack 31 = .ok (.iastore, 1) := by decide +kernel
theorem dX5_giveBack_32 : decode cX5_giveBack 32 = .ok (.aload_n 0, 1) := by decide +kernel
theorem dX5_giveBack_33 : decode cX5_giveBack 33 = .ok (.getfield 35, 3) := by decide +kernel
theorem dX5_giveBack_36 : decode cX5_giveBack 36 = .ok (.iload_n 1, 1) := by decide +kernel
theorem dX5_giveBack_37 : decode cX5_giveBack 37 = .ok (.aload_n 0, 1) := by decide +kernel
theorem dX5_giveBack_38 : decode cX5_giveBack 38 = .ok (.getfield 59, 3) := by decide +kernel
theorem dX5_giveBack_41 : decode cX5_giveBack 41 = .ok (.iload_n 1, 1) := by decide +kernel
theorem dX5_giveBack_42 : decode cX5_giveBack 42 = .ok (.iaload, 1) := by decide +kernel
theorem dX5_giveBack_43 : decode cX5_giveBack 43 = .ok (.iastore, 1) := by decide +kernel
theorem dX5_giveBack_44 : decode cX5_giveBack 44 = .ok (.iinc 1 1, 3) := by decide +kernel
theorem dX5_giveBack_47 : decode cX5_giveBack 47 = .ok (.goto (-45), 3) := by decide +kernel
theorem dX5_giveBack_50 : decode cX5_giveBack 50 = .ok (.return_, 1) := by decide +kernel
theorem dX5_strike_0 : decode cX5_strike 0 = .ok (.aload_n 0, 1) := by decide +kernel
theorem dX5_strike_1 : decode cX5_strike 1 = .ok (.iload_n 1, 1) := by decide +kernel
theorem dX5_strike_2 : decode cX5_strike 2 = .ok (.iload_n 2, 1) := by decide +kernel
theorem dX5_strike_3 : decode cX5_strike 3 = .ok (.invokevirtual 155, 3) := by decide +kernel
theorem dX5_strike_6 : decode cX5_strike 6 = .ok (.ifCond .eq 19, 3) := by decide +kernel
theorem dX5_strike_9 : decode cX5_strike 9 = .ok (.aload_n 0, 1) := by decide +kernel
theorem dX5_strike_10 : decode cX5_strike 10 = .ok (.getfield 29, 3) := by decide +kernel
theorem dX5_strike_13 : decode cX5_strike 13 = .ok (.iload_n 1, 1) := by decide +kernel
theorem dX5_strike_14 : decode cX5_strike 14 = .ok (.aload_n 0, 1) := by decide +kernel
theorem dX5_strike_15 : decode cX5_strike 15 = .ok (.getfield 23, 3) := by decide +kernel
theorem dX5_strike_18 : decode cX5_strike 18 = .ok (.iload_n 2, 1) := by decide +kernel
theorem dX5_strike_19 : decode cX5_strike 19 = .ok (.imul, 1) := by decide +kernel
theorem dX5_strike_20 : decode cX5_strike 20 = .ok (.iadd, 1) := by decide +kernel
theorem dX5_strike_21 : decode cX5_strike 21 = .ok (.iaload, 1) := by decide +kernel
theorem dX5_strike_22 : decode cX5_strike 22 = .ok (.ifCond .ne 5, 3) := by decide +kernel
theorem dX5_strike_25 : decode cX5_strike 25 = .ok (.iconst 0, 1) := by decide +kernel
theorem dX5_strike_26 : decode cX5_strike 26 = .ok (.ireturn, 1) := by decide +kernel
theorem dX5_strike_27 : decode cX5_strike 27 = .ok (.iload_n 1, 1) := by decide +kernel
theorem dX5_strike_28 : decode cX5_strike 28 = .ok (.aload_n 0, 1) := by decide +kernel
theorem dX5_strike_29 : decode cX5_strike 29 = .ok (.getfield 23, 3) := by decide +kernel
theorem dX5_strike_32 : decode cX5_strike 32 = .ok (.iload_n 2, 1) := by decide +kernel
theorem dX5_strike_33 : decode cX5_strike 33 = .ok (.imul, 1) := by decide +kernel
theorem dX5_strike_34 : decode cX5_strike 34 = .ok (.iadd, 1) := by decide +kernel
theorem dX5_strike_35 : decode cX5_strike 35 = .ok (.istore 4, 2) := by decide +kernel
theorem dX5_strike_37 : decode cX5_strike 37 = .ok (.aload_n 0, 1) := by decide +kernel
theorem dX5_strike_38 : decode cX5_strike 38 = .ok (.getfield 32, 3) := by decide +kernel
theorem dX5_strike_41 : decode cX5_strike 41 = .ok (.iload 4, 2) := by decide +kernel
theorem dX5_strike_43 : decode cX5_strike 43 = .ok (.dup2, 1) := by decide +kernel
theorem dX5_strike_44 : decode cX5_strike 44 = .ok (.iaload, 1) := by decide +kernel
theorem dX5_strike_45 : decode cX5_strike 45 = .ok (.iload_n 3, 1) := by decide +kernel
theorem dX5_strike_46 : decode cX5_strike 46 = .ok (.isub, 1) := by decide +kernel
theorem dX5_strike_47 : decode cX5_strike 47 = .ok (.iastore, 1) := by decide +kernel
theorem dX5_strike_48 : decode cX5_strike 48 = .ok (.aload_n 0, 1) := by decide +kernel
theorem dX5_strike_49 : decode cX5_strike 49 = .ok (.getfield 35, 3) := by decide +kernel
theorem dX5_strike_52 : decode cX5_strike 52 = .ok (.iload 4, 2) := by decide +kernel
theorem dX5_strike_54 : decode cX5_strike 54 = .ok (.iconst 0, 1) := by decide +kernel
theorem dX5_strike_55 : decode cX5_strike 55 = .ok (.iastore, 1) := by decide +kernel
theorem dX5_strike_56 : decode cX5_strike 56 = .ok (.iconst 0, 1) := by decide +kernel
theorem dX5_strike_57 : decode cX5_strike 57 = .ok (.istore 5, 2) := by decide +kernel
theorem dX5_strike_59 : decode cX5_strike 59 = .ok (.aload_n 0, 1) := by decide +kernel
theorem dX5_strike_60 : decode cX5_strike 60 = .ok (.getfield 32, 3) := by decide +kernel
theorem dX5_strike_63 : decode cX5_strike 63 = .ok (.iload 4, 2) := by decide +kernel
theorem dX5_strike_65 : decode cX5_strike 65 = .ok (.iaload, 1) := by decide +kernel
theorem dX5_strike_66 : decode cX5_strike 66 = .ok (.ifCond .gt 14, 3) := by decide +kernel
theorem dX5_strike_69 : decode cX5_strike 69 = .ok (.aload_n 0, 1) := by decide +kernel
theorem dX5_strike_70 : decode cX5_strike 70 = .ok (.getfield 29, 3) := by decide +kernel
theorem dX5_strike_73 : decode cX5_strike 73 = .ok (.iload 4, 2) := by decide +kernel
theorem dX5_strike_75 : decode cX5_strike 75 = .ok (.iconst 0, 1) := by decide +kernel
theorem dX5_strike_76 : decode cX5_strike 76 = .ok (.iastore, 1) := by decide +kernel
theorem dX5_strike_77 : decode cX5_strike 77 = .ok (.iconst 1, 1) := by decide +kernel
theorem dX5_strike_78 : decode cX5_strike 78 = .ok (.istore 5, 2) := by decide +kernel
theorem dX5_strike_80 : decode cX5_strike 80 = .ok (.iconst 1, 1) := by decide +kernel
theorem dX5_strike_81 : decode cX5_strike 81 = .ok (.istore 6, 2) := by decide +kernel
theorem dX5_strike_83 : decode cX5_strike 83 = .ok (.iload 6, 2) := by decide +kernel
theorem dX5_strike_85 : decode cX5_strike 85 = .ok (.aload_n 0, 1) := by decide +kernel
theorem dX5_strike_86 : decode cX5_strike 86 = .ok (.getfield 26, 3) := by decide +kernel
theorem dX5_strike_89 : decode cX5_strike 89 = .ok (.if_icmp .ge 67, 3) := by decide +kernel
theorem dX5_strike_92 : decode cX5_strike 92 = .ok (.iload_n 1, 1) := by decide +kernel
theorem dX5_strike_93 : decode cX5_strike 93 = .ok (.aload_n 0, 1) := by decide +kernel
theorem dX5_strike_94 : decode cX5_strike 94 = .ok (.getfield 23, 3) := by decide +kernel
theorem dX5_strike_97 : decode cX5_strike 97 = .ok (.iload 6, 2) := by decide +kernel
theorem dX5_strike_99 : decode cX5_strike 99 = .ok (.imul, 1) := by decide +kernel
theorem dX5_strike_100 : decode cX5_strike 100 = .ok (.iadd, 1) := by decide +kernel
theorem dX5_strike_101 : decode cX5_strike 101 = .ok (.istore 7, 2) := by decide +kernel
theorem dX5_strike_103 : decode cX5_strike 103 = .ok (.aload_n 0, 1) := by decide +kernel
theorem dX5_strike_104 : decode cX5_strike 104 = .ok (.getfield 29, 3) := by decide +kernel
theorem dX5_strike_107 : decode cX5_strike 107 = .ok (.iload 7, 2) := by decide +kernel
theorem dX5_strike_109 : decode cX5_strike 109 = .ok (.iaload, 1) := by decide +kernel
theorem dX5_strike_110 : decode cX5_strike 110 = .ok (.iconst 1, 1) := by decide +kernel
theorem dX5_strike_111 : decode cX5_strike 111 = .ok (.if_icmp .ne 39, 3) := by decide +kernel
theorem dX5_strike_114 : decode cX5_strike 114 = .ok (.aload_n 0, 1) := by decide +kernel
theorem dX5_strike_115 : decode cX5_strike 115 = .ok (.getfield 35, 3) := by decide +kernel
theorem dX5_strike_118 : decode cX5_strike 118 = .ok (.iload 7, 2) := by decide +kernel
theorem dX5_strike_120 : decode cX5_strike 120 = .ok (.iaload, 1) := by decide +kernel
theorem dX5_strike_121 : decode cX5_strike 121 = .ok (.ifCond .ne 29, 3) := by decide +kernel
theorem dX5_strike_124 : decode cX5_strike 124 = .ok (.aload_n 0, 1) := by decide +kernel
theorem dX5_strike_125 : decode cX5_strike 125 = .ok (.getfield 29, 3) := by decide +kernel
theorem dX5_strike_128 : decode cX5_strike 128 = .ok (.iload 7, 2) := by decide +kernel
theorem dX5_strike_130 : decode cX5_strike 130 = .ok (.aload_n 0, 1) := by decide +kernel
theorem dX5_strike_131 : decode cX5_strike 131 = .ok (.getfield 23, 3) := by decide +kernel
theorem dX5_strike_134 : decode cX5_strike 134 = .ok (.isub, 1) := by decide +kernel
theorem dX5_strike_135 : decode cX5_strike 135 = .ok (.iaload, 1) := by decide +kernel
theorem dX5_strike_136 : decode cX5_strike 136 = .ok (.ifCond .ne 14, 3) := by decide +kernel
theorem dX5_strike_139 : decode cX5_strike 139 = .ok (.aload_n 0, 1) := by decide +kernel
theorem dX5_strike_140 : decode cX5_strike 140 = .ok (.getfield 29, 3) := by decide +kernel
theorem dX5_strike_143 : decode cX5_strike 143 = .ok (.iload 7, 2) := by decide +kernel
theorem dX5_strike_145 : decode cX5_strike 145 = .ok (.iconst 0, 1) := by decide +kernel
theorem dX5_strike_146 : decode cX5_strike 146 = .ok (.iastore, 1) := by decide +kernel
theorem dX5_strike_147 : decode cX5_strike 147 = .ok (.iinc 5 1, 3) := by decide +kernel
theorem dX5_strike_150 : decode cX5_strike 150 = .ok (.iinc 6 1, 3) := by decide +kernel
theorem dX5_strike_153 : decode cX5_strike 153 = .ok (.goto (-70), 3) := by decide +kernel
theorem dX5_strike_156 : decode cX5_strike 156 = .ok (.iload 5, 2) := by decide +kernel
theorem dX5_strike_158 : decode cX5_strike 158 = .ok (.ireturn, 1) := by decide +kernel
theorem dX5_isForce_0 : decode cX5_isForce 0 = .ok (.iload_n 0, 1) := by decide +kernel
theorem dX5_isForce_1 : decode cX5_isForce 1 = .ok (.iconst 1, 1) := by decide +kernel
theorem dX5_isForce_2 : decode cX5_isForce 2 = .ok (.bipush 99, 2) := by decide +kernel
theorem dX5_isForce_4 : decode cX5_isForce 4 = .ok (.invokestatic 71, 3) := by decide +kernel
theorem dX5_isForce_7 : decode cX5_isForce 7 = .ok (.ireturn, 1) := by decide +kernel
theorem dX5_hit_0 : decode cX5_hit 0 = .ok (.aload_n 0, 1) := by decide +kernel
theorem dX5_hit_1 : decode cX5_hit 1 = .ok (.iload_n 1, 1) := by decide +kernel
theorem dX5_hit_2 : decode cX5_hit 2 = .ok (.iload_n 2, 1) := by decide +kernel
theorem dX5_hit_3 : decode cX5_hit 3 = .ok (.invokevirtual 155, 3) := by decide +kernel
theorem dX5_hit_6 : decode cX5_hit 6 = .ok (.ifCond .eq 10, 3) := by decide +kernel
theorem dX5_hit_9 : decode cX5_hit 9 = .ok (.iload_n 3, 1) := by decide +kernel
theorem dX5_hit_10 : decode cX5_hit 10 = .ok (.invokestatic 159, 3) := by decide +kernel
theorem dX5_hit_13 : decode cX5_hit 13 = .ok (.ifCond .ne 5, 3) := by decide +kernel
theorem dX5_hit_16 : decode cX5_hit 16 = .ok (.iconst (-1), 1) := by decide +kernel
theorem dX5_hit_17 : decode cX5_hit 17 = .ok (.ireturn, 1) := by decide +kernel
theorem dX5_hit_18 : decode cX5_hit 18 = .ok (.aload_n 0, 1) := by decide +kernel
theorem dX5_hit_19 : decode cX5_hit 19 = .ok (.getfield 29, 3) := by decide +kernel
theorem dX5_hit_22 : decode cX5_hit 22 = .ok (.iload_n 1, 1) := by decide +kernel
theorem dX5_hit_23 : decode cX5_hit 23 = .ok (.aload_n 0, 1) := by decide +kernel
theorem dX5_hit_24 : decode cX5_hit 24 = .ok (.getfield 23, 3) := by decide +kernel
theorem dX5_hit_27 : decode cX5_hit 27 = .ok (.iload_n 2, 1) := by decide +kernel
theorem dX5_hit_28 : decode cX5_hit 28 = .ok (.imul, 1) := by decide +kernel
theorem dX5_hit_29 : decode cX5_hit 29 = .ok (.iadd, 1) := by decide +kernel
theorem dX5_hit_30 : decode cX5_hit 30 = .ok (.iaload, 1) := by decide +kernel
theorem dX5_hit_31 : decode cX5_hit 31 = .ok (.ifCond .ne 8, 3) := by decide +kernel
theorem dX5_hit_34 : decode cX5_hit 34 = .ok (.bipush (-2), 2) := by decide +kernel
theorem dX5_hit_36 : decode cX5_hit 36 = .ok (.goto 10, 3) := by decide +kernel
theorem dX5_hit_39 : decode cX5_hit 39 = .ok (.aload_n 0, 1) := by decide +kernel
theorem dX5_hit_40 : decode cX5_hit 40 = .ok (.iload_n 1, 1) := by decide +kernel
theorem dX5_hit_41 : decode cX5_hit 41 = .ok (.iload_n 2, 1) := by decide +kernel
theorem dX5_hit_42 : decode cX5_hit 42 = .ok (.iload_n 3, 1) := by decide +kernel
theorem dX5_hit_43 : decode cX5_hit 43 = .ok (.invokevirtual 163, 3) := by decide +kernel
theorem dX5_hit_46 : decode cX5_hit 46 = .ok (.ireturn, 1) := by decide +kernel
theorem dX5_cell_0 : decode cX5_cell 0 = .ok (.aload_n 0, 1) := by decide +kernel
theorem dX5_cell_1 : decode cX5_cell 1 = .ok (.iload_n 1, 1) := by decide +kernel
theorem dX5_cell_2 : decode cX5_cell 2 = .ok (.iload_n 2, 1) := by decide +kernel
theorem dX5_cell_3 : decode cX5_cell 3 = .ok (.invokevirtual 155, 3) := by decide +kernel
theorem dX5_cell_6 : decode cX5_cell 6 = .ok (.ifCond .eq 12, 3) := by decide +kernel
theorem dX5_cell_9 : decode cX5_cell 9 = .ok (.iload_n 3, 1) := by decide +kernel
theorem dX5_cell_10 : decode cX5_cell 10 = .ok (.iconst 0, 1) := by decide +kernel
theorem dX5_cell_11 : decode cX5_cell 11 = .ok (.iconst 2, 1) := by decide +kernel
theorem dX5_cell_12 : decode cX5_cell 12 = .ok (.invokestatic 71, 3) := by decide +kernel
theorem dX5_cell_15 : decode cX5_cell 15 = .ok (.ifCond .ne 5, 3) := by decide +kernel
theorem dX5_cell_18 : decode cX5_cell 18 = .ok (.iconst (-1), 1) := by decide +kernel
theorem dX5_cell_19 : decode cX5_cell 19 = .ok (.ireturn, 1) := by decide +kernel
theorem dX5_cell_20 : decode cX5_cell 20 = .ok (.iload_n 1, 1) := by decide +kernel
theorem dX5_cell_21 : decode cX5_cell 21 = .ok (.aload_n 0, 1) := by decide +kernel
theorem dX5_cell_22 : decode cX5_cell 22 = .ok (.getfield 23, 3) := by decide +kernel
theorem dX5_cell_25 : decode cX5_cell 25 = .ok (.iload_n 2, 1) := by decide +kernel
theorem dX5_cell_26 : decode cX5_cell 26 = .ok (.imul, 1) := by decide +kernel
theorem dX5_cell_27 : decode cX5_cell 27 = .ok (.iadd, 1) := by decide +kernel
theorem dX5_cell_28 : decode cX5_cell 28 = .ok (.istore 4, 2) := by decide +kernel
theorem dX5_cell_30 : decode cX5_cell 30 = .ok (.iload_n 3, 1) := by decide +kernel
theorem dX5_cell_31 : decode cX5_cell 31 = .ok (.ifCond .ne 13, 3) := by decide +kernel
theorem dX5_cell_34 : decode cX5_cell 34 = .ok (.aload_n 0, 1) := by decide +kernel
theorem dX5_cell_35 : decode cX5_cell 35 = .ok (.getfield 29, 3) := by decide +kernel
theorem dX5_cell_38 : decode cX5_cell 38 = .ok (.iload 4, 2) := by decide +kernel
theorem dX5_cell_40 : decode cX5_cell 40 = .ok (.iaload, 1) := by decide +kernel
theorem dX5_cell_41 : decode cX5_cell 41 = .ok (.goto 25, 3) := by decide +kernel
theorem dX5_cell_44 : decode cX5_cell 44 = .ok (.iload_n 3, 1) := by decide +kernel
theorem dX5_cell_45 : decode cX5_cell 45 = .ok (.iconst 1, 1) := by decide +kernel
theorem dX5_cell_46 : decode cX5_cell 46 = .ok (.if_icmp .ne 13, 3) := by decide +kernel
theorem dX5_cell_49 : decode cX5_cell 49 = .ok (.aload_n 0, 1) := by decide +kernel
theorem dX5_cell_50 : decode cX5_cell 50 = .ok (.getfield 32, 3) := by decide +kernel
theorem dX5_cell_53 : decode cX5_cell 53 = .ok (.iload 4, 2) := by decide +kernel
theorem dX5_cell_55 : decode cX5_cell 55 = .ok (.iaload, 1) := by decide +kernel
theorem dX5_cell_56 : decode cX5_cell 56 = .ok (.goto 10, 3) := by decide +kernel
theorem dX5_cell_59 : decode cX5_cell 59 = .ok (.aload_n 0, 1) := by decide +kernel
theorem dX5_cell_60 : decode cX5_cell 60 = .ok (.getfield 35, 3) := by decide +kernel
theorem dX5_cell_63 : decode cX5_cell 63 = .ok (.iload 4, 2) := by decide +kernel
theorem dX5_cell_65 : decode cX5_cell 65 = .ok (.iaload, 1) := by decide +kernel
theorem dX5_cell_66 : decode cX5_cell 66 = .ok (.ireturn, 1) := by decide +kernel
theorem dX5_level_0 : decode cX5_level 0 = .ok (.iload_n 1, 1) := by decide +kernel
theorem dX5_level_1 : decode cX5_level 1 = .ok (.iconst 0, 1) := by decide +kernel
theorem dX5_level_2 : decode cX5_level 2 = .ok (.iconst 2, 1) := by decide +kernel
theorem dX5_level_3 : decode cX5_level 3 = .ok (.invokestatic 71, 3) := by decide +kernel
theorem dX5_level_6 : decode cX5_level 6 = .ok (.ifCond .ne 5, 3) := by decide +kernel
theorem dX5_level_9 : decode cX5_level 9 = .ok (.iconst (-1), 1) := by decide +kernel
theorem dX5_level_10 : decode cX5_level 10 = .ok (.ireturn, 1) := by decide +kernel
theorem dX5_level_11 : decode cX5_level 11 = .ok (.aload_n 0, 1) := by decide +kernel
theorem dX5_level_12 : decode cX5_level 12 = .ok (.getfield 167, 3) := by decide +kernel
theorem dX5_level_15 : decode cX5_level 15 = .ok (.istore_n 2, 1) := by decide +kernel
theorem dX5_level_16 : decode cX5_level 16 = .ok (.aload_n 0, 1) := by decide +kernel
theorem dX5_level_17 : decode cX5_level 17 = .ok (.iload_n 1, 1) := by decide +kernel
theorem dX5_level_18 : decode cX5_level 18 = .ok (.putfield 167, 3) := by decide +kernel
theorem dX5_level_21 : decode cX5_level 21 = .ok (.iload_n 2, 1) := by decide +kernel
theorem dX5_level_22 : decode cX5_level 22 = .ok (.ireturn, 1) := by decide +kernel
theorem dX5_standing_0 : decode cX5_standing 0 = .ok (.iconst 0, 1) := by decide +kernel
theorem dX5_standing_1 : decode cX5_standing 1 = .ok (.istore_n 2, 1) := by decide +kernel
theorem dX5_standing_2 : decode cX5_standing 2 = .ok (.iconst 0, 1) := by decide +kernel
theorem dX5_standing_3 : decode cX5_standing 3 = .ok (.istore_n 3, 1) := by decide +kernel
theorem dX5_standing_4 : decode cX5_standing 4 = .ok (.iload_n 3, 1) := by decide +kernel
theorem dX5_standing_5 : decode cX5_standing 5 = .ok (.aload_n 0, 1) := by decide +kernel
theorem dX5_standing_6 : decode cX5_standing 6 = .ok (.getfield 26, 3) := by decide +kernel
theorem dX5_standing_9 : decode cX5_standing 9 = .ok (.if_icmp .ge 25, 3) := by decide +kernel
theorem dX5_standing_12 : decode cX5_standing 12 = .ok (.iload_n 2, 1) := by decide +kernel
theorem dX5_standing_13 : decode cX5_standing 13 = .ok (.aload_n 0, 1) := by decide +kernel
theorem dX5_standing_14 : decode cX5_standing 14 = .ok (.getfield 29, 3) := by decide +kernel
theorem dX5_standing_17 : decode cX5_standing 17 = .ok (.iload_n 1, 1) := by decide +kernel
theorem dX5_standing_18 : decode cX5_standing 18 = .ok (.aload_n 0, 1) := by decide +kernel
theorem dX5_standing_19 : decode cX5_standing 19 = .ok (.getfield 23, 3) := by decide +kernel
theorem dX5_standing_22 : decode cX5_standing 22 = .ok (.iload_n 3, 1) := by decide +kernel
theorem dX5_standing_23 : decode cX5_standing 23 = .ok (.imul, 1) := by decide +kernel
theorem dX5_standing_24 : decode cX5_standing 24 = .ok (.iadd, 1) := by decide +kernel
theorem dX5_standing_25 : decode cX5_standing 25 = .ok (.iaload, 1) := by decide +kernel
theorem dX5_standing_26 : decode cX5_standing 26 = .ok (.iadd, 1) := by decide +kernel
theorem dX5_standing_27 : decode cX5_standing 27 = .ok (.istore_n 2, 1) := by decide +kernel
theorem dX5_standing_28 : decode cX5_standing 28 = .ok (.iinc 3 1, 3) := by decide +kernel
theorem dX5_standing_31 : decode cX5_standing 31 = .ok (.goto (-27), 3) := by decide +kernel
theorem dX5_standing_34 : decode cX5_standing 34 = .ok (.iload_n 2, 1) := by decide +kernel
theorem dX5_standing_35 : decode cX5_standing 35 = .ok (.ireturn, 1) := by decide +kernel
theorem dX5_open_0 : decode cX5_open 0 = .ok (.iconst 0, 1) := by decide +kernel
theorem dX5_open_1 : decode cX5_open 1 = .ok (.istore_n 1, 1) := by decide +kernel
theorem dX5_open_2 : decode cX5_open 2 = .ok (.iload_n 1, 1) := by decide +kernel
theorem dX5_open_3 : decode cX5_open 3 = .ok (.aload_n 0, 1) := by decide +kernel
theorem dX5_open_4 : decode cX5_open 4 = .ok (.getfield 23, 3) := by decide +kernel
theorem dX5_open_7 : decode cX5_open 7 = .ok (.if_icmp .ge 23, 3) := by decide +kernel
theorem dX5_open_10 : decode cX5_open 10 = .ok (.aload_n 0, 1) := by decide +kernel
theorem dX5_open_11 : decode cX5_open 11 = .ok (.iload_n 1, 1) := by decide +kernel
theorem dX5_open_12 : decode cX5_open 12 = .ok (.invokevirtual 170, 3) := by decide +kernel
theorem dX5_open_15 : decode cX5_open 15 = .ok (.aload_n 0, 1) := by decide +kernel
theorem dX5_open_16 : decode cX5_open 16 = .ok (.getfield 167, 3) := by decide +kernel
theorem dX5_open_19 : decode cX5_open 19 = .ok (.if_icmp .gt 5, 3) := by decide +kernel
theorem dX5_open_22 : decode cX5_open 22 = .ok (.iload_n 1, 1) := by decide +kernel
theorem dX5_open_23 : decode cX5_open 23 = .ok (.ireturn, 1) := by decide +kernel
theorem dX5_open_24 : decode cX5_open 24 = .ok (.iinc 1 1, 3) := by decide +kernel
theorem dX5_open_27 : decode cX5_open 27 = .ok (.goto (-25), 3) := by decide +kernel
theorem dX5_open_30 : decode cX5_open 30 = .ok (.bipush (-9), 2) := by decide +kernel
theorem dX5_open_32 : decode cX5_open 32 = .ok (.ireturn, 1) := by decide +kernel
theorem dX5_cheaper_0 : decode cX5_cheaper 0 = .ok (.aload_n 0, 1) := by decide +kernel
theorem dX5_cheaper_1 : decode cX5_cheaper 1 = .ok (.getfield 65, 3) := by decide +kernel
theorem dX5_cheaper_4 : decode cX5_cheaper 4 = .ok (.iload_n 1, 1) := by decide +kernel
theorem dX5_cheaper_5 : decode cX5_cheaper 5 = .ok (.iload_n 2, 1) := by decide +kernel
theorem dX5_cheaper_6 : decode cX5_cheaper 6 = .ok (.aload_n 0, 1) := by decide +kernel
theorem dX5_cheaper_7 : decode cX5_cheaper 7 = .ok (.getfield 65, 3) := by decide +kernel
theorem dX5_cheaper_10 : decode cX5_cheaper 10 = .ok (.iload_n 1, 1) := by decide +kernel
theorem dX5_cheaper_11 : decode cX5_cheaper 11 = .ok (.iaload, 1) := by decide +kernel
theorem dX5_cheaper_12 : decode cX5_cheaper 12 = .ok (.if_icmp .ge 7, 3) := by decide +kernel
theorem dX5_cheaper_15 : decode cX5_cheaper 15 = .ok (.iload_n 2, 1) := by decide +kernel
theorem dX5_cheaper_16 : decode cX5_cheaper 16 = .ok (.goto 9, 3) := by decide +kernel
theorem dX5_cheaper_19 : decode cX5_cheaper 19 = .ok (.aload_n 0, 1) := by decide +kernel
theorem dX5_cheaper_20 : decode cX5_cheaper 20 = .ok (.getfield 65, 3) := by decide +kernel
theorem dX5_cheaper_23 : decode cX5_cheaper 23 = .ok (.iload_n 1, 1) := by decide +kernel
theorem dX5_cheaper_24 : decode cX5_cheaper 24 = .ok (.iaload, 1) := by decide +kernel
theorem dX5_cheaper_25 : decode cX5_cheaper 25 = .ok (.iastore, 1) := by decide +kernel
theorem dX5_cheaper_26 : decode cX5_cheaper 26 = .ok (.return_, 1) := by decide +kernel
theorem dX5_fewest_0 : decode cX5_fewest 0 = .ok (.ldc 173, 2) := by decide +kernel
theorem dX5_fewest_2 : decode cX5_fewest 2 = .ok (.istore_n 3, 1) := by decide +kernel
theorem dX5_fewest_3 : decode cX5_fewest 3 = .ok (.iconst 0, 1) := by decide +kernel
theorem dX5_fewest_4 : decode cX5_fewest 4 = .ok (.istore 4, 2) := by decide +kernel
theorem dX5_fewest_6 : decode cX5_fewest 6 = .ok (.iload 4, 2) := by decide +kernel
theorem dX5_fewest_8 : decode cX5_fewest 8 = .ok (.bipush 6, 2) := by decide +kernel
theorem dX5_fewest_10 : decode cX5_fewest 10 = .ok (.if_icmp .ge 26, 3) := by decide +kernel
theorem dX5_fewest_13 : decode cX5_fewest 13 = .ok (.aload_n 0, 1) := by decide +kernel
theorem dX5_fewest_14 : decode cX5_fewest 14 = .ok (.getfield 62, 3) := by decide +kernel
theorem dX5_fewest_17 : decode cX5_fewest 17 = .ok (.iload 4, 2) := by decide +kernel
theorem dX5_fewest_19 : decode cX5_fewest 19 = .ok (.iload 4, 2) := by decide +kernel
theorem dX5_fewest_21 : decode cX5_fewest 21 = .ok (.ifCond .ne 7, 3) := by decide +kernel
theorem dX5_fewest_24 : decode cX5_fewest 24 = .ok (.iconst 0, 1) := by decide +kernel
theorem dX5_fewest_25 : decode cX5_fewest 25 = .ok (.goto 4, 3) := by decide +kernel
theorem dX5_fewest_28 : decode cX5_fewest 28 = .ok (.iload_n 3, 1) := by decide +kernel
theorem dX5_fewest_29 : decode cX5_fewest 29 = .ok (.iastore, 1) := by decide +kernel
theorem dX5_fewest_30 : decode cX5_fewest 30 = .ok (.iinc 4 1, 3) := by decide +kernel
theorem dX5_fewest_33 : decode cX5_fewest 33 = .ok (.goto (-27), 3) := by decide +kernel
theorem dX5_fewest_36 : decode cX5_fewest 36 = .ok (.iconst 0, 1) := by decide +kernel
theorem dX5_fewest_37 : decode cX5_fewest 37 = .ok (.istore 4, 2) := by decide +kernel
theorem dX5_fewest_39 : decode cX5_fewest 39 = .ok (.iload 4, 2) := by decide +kernel
theorem dX5_fewest_41 : decode cX5_fewest 41 = .ok (.aload_n 0, 1) := by decide +kernel
theorem dX5_fewest_42 : decode cX5_fewest 42 = .ok (.getfield 26, 3) := by decide +kernel
theorem dX5_fewest_45 : decode cX5_fewest 45 = .ok (.if_icmp .ge 241, 3) := by decide +kernel
theorem dX5_fewest_48 : decode cX5_fewest 48 = .ok (.iload_n 1, 1) := by decide +kernel
theorem dX5_fewest_49 : decode cX5_fewest 49 = .ok (.aload_n 0, 1) := by decide +kernel
theorem dX5_fewest_50 : decode cX5_fewest 50 = .ok (.getfield 23, 3) := by decide +kernel
theorem dX5_fewest_53 : decode cX5_fewest 53 = .ok (.iload 4, 2) := by decide +kernel
theorem dX5_fewest_55 : decode cX5_fewest 55 = .ok (.imul, 1) := by decide +kernel
theorem dX5_fewest_56 : decode cX5_fewest 56 = .ok (.iadd, 1) := by decide +kernel
theorem dX5_fewest_57 : decode cX5_fewest 57 = .ok (.istore 5, 2) := by decide +kernel
theorem dX5_fewest_59 : decode cX5_fewest 59 = .ok (.iconst 0, 1) := by decide +kernel
theorem dX5_fewest_60 : decode cX5_fewest 60 = .ok (.istore 6, 2) := by decide +kernel
theorem dX5_fewest_62 : decode cX5_fewest 62 = .ok (.iload 6, 2) := by decide +kernel
theorem dX5_fewest_64 : decode cX5_fewest 64 = .ok (.bipush 6, 2) := by decide +kernel
theorem dX5_fewest_66 : decode cX5_fewest 66 = .ok (.if_icmp .ge 17, 3) := by decide +kernel
theorem dX5_fewest_69 : decode cX5_fewest 69 = .ok (.aload_n 0, 1) := by decide +kernel
theorem dX5_fewest_70 : decode cX5_fewest 70 = .ok (.getfield 65, 3) := by decide +kernel
theorem dX5_fewest_73 : decode cX5_fewest 73 = .ok (.iload 6, 2) := by decide +kernel
theorem dX5_fewest_75 : decode cX5_fewest 75 = .ok (.iload_n 3, 1) := by decide +kernel
theorem dX5_fewest_76 : decode cX5_fewest 76 = .ok (.iastore, 1) := by decide +kernel
theorem dX5_fewest_77 : decode cX5_fewest 77 = .ok (.iinc 6 1, 3) := by decide +kernel
theorem dX5_fewest_80 : decode cX5_fewest 80 = .ok (.goto (-18), 3) := by decide +kernel
theorem dX5_fewest_83 : decode cX5_fewest 83 = .ok (.iconst 0, 1) := by decide +kernel
theorem dX5_fewest_84 : decode cX5_fewest 84 = .ok (.istore 6, 2) := by decide +kernel
theorem dX5_fewest_86 : decode cX5_fewest 86 = .ok (.iload 6, 2) := by decide +kernel
theorem dX5_fewest_88 : decode cX5_fewest 88 = .ok (.iconst 3, 1) := by decide +kernel
theorem dX5_fewest_89 : decode cX5_fewest 89 = .ok (.if_icmp .ge 161, 3) := by decide +kernel
theorem dX5_fewest_92 : decode cX5_fewest 92 = .ok (.aload_n 0, 1) := by decide +kernel
theorem dX5_fewest_93 : decode cX5_fewest 93 = .ok (.getfield 62, 3) := by decide +kernel
theorem dX5_fewest_96 : decode cX5_fewest 96 = .ok (.iconst 2, 1) := by decide +kernel
theorem dX5_fewest_97 : decode cX5_fewest 97 = .ok (.iload 6, 2) := by decide +kernel
theorem dX5_fewest_99 : decode cX5_fewest 99 = .ok (.imul, 1) := by decide +kernel
theorem dX5_fewest_100 : decode cX5_fewest 100 = .ok (.iaload, 1) := by decide +kernel
theorem dX5_fewest_101 : decode cX5_fewest 101 = .ok (.istore 7, 2) := by decide +kernel
theorem dX5_fewest_103 : decode cX5_fewest 103 = .ok (.aload_n 0, 1) := by decide +kernel
theorem dX5_fewest_104 : decode cX5_fewest 104 = .ok (.getfield 62, 3) := by decide +kernel
theorem dX5_fewest_107 : decode cX5_fewest 107 = .ok (.iconst 2, 1) := by decide +kernel
theorem dX5_fewest_108 : decode cX5_fewest 108 = .ok (.iload 6, 2) := by decide +kernel
theorem dX5_fewest_110 : decode cX5_fewest 110 = .ok (.imul, 1) := by decide +kernel
theorem dX5_fewest_111 : decode cX5_fewest 111 = .ok (.iconst 1, 1) := by decide +kernel
theorem dX5_fewest_112 : decode cX5_fewest 112 = .ok (.iadd, 1) := by decide +kernel
theorem dX5_fewest_113 : decode cX5_fewest 113 = .ok (.iaload, 1) := by decide +kernel
theorem dX5_fewest_114 : decode cX5_fewest 114 = .ok (.istore 8, 2) := by decide +kernel
theorem dX5_fewest_116 : decode cX5_fewest 116 = .ok (.aload_n 0, 1) := by decide +kernel
theorem dX5_fewest_117 : decode cX5_fewest 117 = .ok (.getfield 29, 3) := by decide +kernel
theorem dX5_fewest_120 : decode cX5_fewest 120 = .ok (.iload 5, 2) := by decide +kernel
theorem dX5_fewest_122 : decode cX5_fewest 122 = .ok (.iaload, 1) := by decide +kernel
theorem dX5_fewest_123 : decode cX5_fewest 123 = .ok (.ifCond .ne 30, 3) := by decide +kernel
theorem dX5_fewest_126 : decode cX5_fewest 126 = .ok (.aload_n 0, 1) := by decide +kernel
theorem dX5_fewest_127 : decode cX5_fewest 127 = .ok (.iconst 2, 1) := by decide +kernel
theorem dX5_fewest_128 : decode cX5_fewest 128 = .ok (.iload 6, 2) := by decide +kernel
theorem dX5_fewest_130 : decode cX5_fewest 130 = .ok (.imul, 1) := by decide +kernel
theorem dX5_fewest_131 : decode cX5_fewest 131 = .ok (.iconst 1, 1) := by decide +kernel
theorem dX5_fewest_132 : decode cX5_fewest 132 = .ok (.iadd, 1) := by decide +kernel
theorem dX5_fewest_133 : decode cX5_fewest 133 = .ok (.iload 7, 2) := by decide +kernel
theorem dX5_fewest_135 : decode cX5_fewest 135 = .ok (.invokevirtual 174, 3) := by decide +kernel
theorem dX5_fewest_138 : decode cX5_fewest 138 = .ok (.aload_n 0, 1) := by decide +kernel
theorem dX5_fewest_139 : decode cX5_fewest 139 = .ok (.iconst 2, 1) := by decide +kernel
theorem dX5_fewest_140 : decode cX5_fewest 140 = .ok (.iload 6, 2) := by decide +kernel
theorem dX5_fewest_142 : decode cX5_fewest 142 = .ok (.imul, 1) := by decide +kernel
theorem dX5_fewest_143 : decode cX5_fewest 143 = .ok (.iconst 1, 1) := by decide +kernel
theorem dX5_fewest_144 : decode cX5_fewest 144 = .ok (.iadd, 1) := by decide +kernel
theorem dX5_fewest_145 : decode cX5_fewest 145 = .ok (.iload 8, 2) := by decide +kernel
theorem dX5_fewest_147 : decode cX5_fewest 147 = .ok (.invokevirtual 174, 3) := by decide +kernel
theorem dX5_fewest_150 : decode cX5_fewest 150 = .ok (.goto 94, 3) := by decide +kernel
theorem dX5_fewest_153 : decode cX5_fewest 153 = .ok (.aload_n 0, 1) := by decide +kernel
theorem dX5_fewest_154 : decode cX5_fewest 154 = .ok (.iconst 2, 1) := by decide +kernel
theorem dX5_fewest_155 : decode cX5_fewest 155 = .ok (.iload 6, 2) := by decide +kernel
theorem dX5_fewest_157 : decode cX5_fewest 157 = .ok (.imul, 1) := by decide +kernel
theorem dX5_fewest_158 : decode cX5_fewest 158 = .ok (.iconst 1, 1) := by decide +kernel
theorem dX5_fewest_159 : decode cX5_fewest 159 = .ok (.iadd, 1) := by decide +kernel
theorem dX5_fewest_160 : decode cX5_fewest 160 = .ok (.iload 7, 2) := by decide +kernel
theorem dX5_fewest_162 : decode cX5_fewest 162 = .ok (.aload_n 0, 1) := by decide +kernel
theorem dX5_fewest_163 : decode cX5_fewest 163 = .ok (.getfield 32, 3) := by decide +kernel
theorem dX5_fewest_166 : decode cX5_fewest 166 = .ok (.iload 5, 2) := by decide +kernel
theorem dX5_fewest_168 : decode cX5_fewest 168 = .ok (.iaload, 1) := by decide +kernel
theorem dX5_fewest_169 : decode cX5_fewest 169 = .ok (.iload_n 2, 1) := by decide +kernel
theorem dX5_fewest_170 : decode cX5_fewest 170 = .ok (.iadd, 1) := by decide +kernel
theorem dX5_fewest_171 : decode cX5_fewest 171 = .ok (.iconst 1, 1) := by decide +kernel
theorem dX5_fewest_172 : decode cX5_fewest 172 = .ok (.isub, 1) := by decide +kernel
theorem dX5_fewest_173 : decode cX5_fewest 173 = .ok (.iload_n 2, 1) := by decide +kernel
theorem dX5_fewest_174 : decode cX5_fewest 174 = .ok (.idiv, 1) := by decide +kernel
theorem dX5_fewest_175 : decode cX5_fewest 175 = .ok (.iadd, 1) := by decide +kernel
theorem dX5_fewest_176 : decode cX5_fewest 176 = .ok (.invokevirtual 174, 3) := by decide +kernel
theorem dX5_fewest_179 : decode cX5_fewest 179 = .ok (.aload_n 0, 1) := by decide +kernel
theorem dX5_fewest_180 : decode cX5_fewest 180 = .ok (.iconst 2, 1) := by decide +kernel
theorem dX5_fewest_181 : decode cX5_fewest 181 = .ok (.iload 6, 2) := by decide +kernel
theorem dX5_fewest_183 : decode cX5_fewest 183 = .ok (.imul, 1) := by decide +kernel
theorem dX5_fewest_184 : decode cX5_fewest 184 = .ok (.iconst 1, 1) := by decide +kernel
theorem dX5_fewest_185 : decode cX5_fewest 185 = .ok (.iadd, 1) := by decide +kernel
theorem dX5_fewest_186 : decode cX5_fewest 186 = .ok (.iload 8, 2) := by decide +kernel
theorem dX5_fewest_188 : decode cX5_fewest 188 = .ok (.aload_n 0, 1) := by decide +kernel
theorem dX5_fewest_189 : decode cX5_fewest 189 = .ok (.getfield 35, 3) := by decide +kernel
theorem dX5_fewest_192 : decode cX5_fewest 192 = .ok (.iload 5, 2) := by decide +kernel
theorem dX5_fewest_194 : decode cX5_fewest 194 = .ok (.iaload, 1) := by decide +kernel
theorem dX5_fewest_195 : decode cX5_fewest 195 = .ok (.iadd, 1) := by decide +kernel
theorem dX5_fewest_196 : decode cX5_fewest 196 = .ok (.invokevirtual 174, 3) := by decide +kernel
theorem dX5_fewest_199 : decode cX5_fewest 199 = .ok (.iload 6, 2) := by decide +kernel
theorem dX5_fewest_201 : decode cX5_fewest 201 = .ok (.iconst 2, 1) := by decide +kernel
theorem dX5_fewest_202 : decode cX5_fewest 202 = .ok (.if_icmp .ge 42, 3) := by decide +kernel
theorem dX5_fewest_205 : decode cX5_fewest 205 = .ok (.aload_n 0, 1) := by decide +kernel
theorem dX5_fewest_206 : decode cX5_fewest 206 = .ok (.iconst 2, 1) := by decide +kernel
theorem dX5_fewest_207 : decode cX5_fewest 207 = .ok (.iload 6, 2) := by decide +kernel
theorem dX5_fewest_209 : decode cX5_fewest 209 = .ok (.imul, 1) := by decide +kernel
theorem dX5_fewest_210 : decode cX5_fewest 210 = .ok (.iconst 2, 1) := by decide +kernel
theorem dX5_fewest_211 : decode cX5_fewest 211 = .ok (.iadd, 1) := by decide +kernel
theorem dX5_fewest_212 : decode cX5_fewest 212 = .ok (.iload 7, 2) := by decide +kernel
theorem dX5_fewest_214 : decode cX5_fewest 214 = .ok (.invokevirtual 174, 3) := by decide +kernel
theorem dX5_fewest_217 : decode cX5_fewest 217 = .ok (.aload_n 0, 1) := by decide +kernel
theorem dX5_fewest_218 : decode cX5_fewest 218 = .ok (.iconst 2, 1) := by decide +kernel
theorem dX5_fewest_219 : decode cX5_fewest 219 = .ok (.iload 6, 2) := by decide +kernel
theorem dX5_fewest_221 : decode cX5_fewest 221 = .ok (.imul, 1) := by decide +kernel
theorem dX5_fewest_222 : decode cX5_fewest 222 = .ok (.iconst 2, 1) := by decide +kernel
theorem dX5_fewest_223 : decode cX5_fewest 223 = .ok (.iadd, 1) := by decide +kernel
theorem dX5_fewest_224 : decode cX5_fewest 224 = .ok (.aload_n 0, 1) := by decide +kernel
theorem dX5_fewest_225 : decode cX5_fewest 225 = .ok (.getfield 35, 3) := by decide +kernel
theorem dX5_fewest_228 : decode cX5_fewest 228 = .ok (.iload 5, 2) := by decide +kernel
theorem dX5_fewest_230 : decode cX5_fewest 230 = .ok (.iaload, 1) := by decide +kernel
theorem dX5_fewest_231 : decode cX5_fewest 231 = .ok (.iconst 1, 1) := by decide +kernel
theorem dX5_fewest_232 : decode cX5_fewest 232 = .ok (.if_icmp .ne 8, 3) := by decide +kernel
theorem dX5_fewest_235 : decode cX5_fewest 235 = .ok (.iload 8, 2) := by decide +kernel
theorem dX5_fewest_237 : decode cX5_fewest 237 = .ok (.goto 4, 3) := by decide +kernel
theorem dX5_fewest_240 : decode cX5_fewest 240 = .ok (.iload_n 3, 1) := by decide +kernel
theorem dX5_fewest_241 : decode cX5_fewest 241 = .ok (.invokevirtual 174, 3) := by decide +kernel
theorem dX5_fewest_244 : decode cX5_fewest 244 = .ok (.iinc 6 1, 3) := by decide +kernel
theorem dX5_fewest_247 : decode cX5_fewest 247 = .ok (.goto (-161), 3) := by decide +kernel
theorem dX5_fewest_250 : decode cX5_fewest 250 = .ok (.iconst 0, 1) := by decide +kernel
theorem dX5_fewest_251 : decode cX5_fewest 251 = .ok (.istore 6, 2) := by decide +kernel
theorem dX5_fewest_253 : decode cX5_fewest 253 = .ok (.iload 6, 2) := by decide +kernel
theorem dX5_fewest_255 : decode cX5_fewest 255 = .ok (.bipush 6, 2) := by decide +kernel
theorem dX5_fewest_257 : decode cX5_fewest 257 = .ok (.if_icmp .ge 23, 3) := by decide +kernel
theorem dX5_fewest_260 : decode cX5_fewest 260 = .ok (.aload_n 0, 1) := by decide +kernel
theorem dX5_fewest_261 : decode cX5_fewest 261 = .ok (.getfield 62, 3) := by decide +kernel
theorem dX5_fewest_264 : decode cX5_fewest 264 = .ok (.iload 6, 2) := by decide +kernel
theorem dX5_fewest_266 : decode cX5_fewest 266 = .ok (.aload_n 0, 1) := by decide +kernel
theorem dX5_fewest_267 : decode cX5_fewest 267 = .ok (.getfield 65, 3) := by decide +kernel
theorem dX5_fewest_270 : decode cX5_fewest 270 = .ok (.iload 6, 2) := by decide +kernel
theorem dX5_fewest_272 : decode cX5_fewest 272 = .ok (.iaload, 1) := by decide +kernel
theorem dX5_fewest_273 : decode cX5_fewest 273 = .ok (.iastore, 1) := by decide +kernel
theorem dX5_fewest_274 : decode cX5_fewest 274 = .ok (.iinc 6 1, 3) := by decide +kernel
theorem dX5_fewest_277 : decode cX5_fewest 277 = .ok (.goto (-24), 3) := by decide +kernel
theorem dX5_fewest_280 : decode cX5_fewest 280 = .ok (.iinc 4 1, 3) := by decide +kernel
theorem dX5_fewest_283 : decode cX5_fewest 283 = .ok (.goto (-244), 3) := by decide +kernel
theorem dX5_fewest_286 : decode cX5_fewest 286 = .ok (.iload_n 3, 1) := by decide +kernel
theorem dX5_fewest_287 : decode cX5_fewest 287 = .ok (.istore 4, 2) := by decide +kernel
theorem dX5_fewest_289 : decode cX5_fewest 289 = .ok (.iconst 0, 1) := by decide +kernel
theorem dX5_fewest_290 : decode cX5_fewest 290 = .ok (.istore 5, 2) := by decide +kernel
theorem dX5_fewest_292 : decode cX5_fewest 292 = .ok (.iload 5, 2) := by decide +kernel
theorem dX5_fewest_294 : decode cX5_fewest 294 = .ok (.iconst 2, 1) := by decide +kernel
theorem dX5_fewest_295 : decode cX5_fewest 295 = .ok (.aload_n 0, 1) := by decide +kernel
theorem dX5_fewest_296 : decode cX5_fewest 296 = .ok (.getfield 167, 3) := by decide +kernel
theorem dX5_fewest_299 : decode cX5_fewest 299 = .ok (.imul, 1) := by decide +kernel
theorem dX5_fewest_300 : decode cX5_fewest 300 = .ok (.iconst 2, 1) := by decide +kernel
theorem dX5_fewest_301 : decode cX5_fewest 301 = .ok (.iadd, 1) := by decide +kernel
theorem dX5_fewest_302 : decode cX5_fewest 302 = .ok (.if_icmp .ge 35, 3) := by decide +kernel
theorem dX5_fewest_305 : decode cX5_fewest 305 = .ok (.aload_n 0, 1) := by decide +kernel
theorem dX5_fewest_306 : decode cX5_fewest 306 = .ok (.getfield 62, 3) := by decide +kernel
theorem dX5_fewest_309 : decode cX5_fewest 309 = .ok (.iload 5, 2) := by decide +kernel
theorem dX5_fewest_311 : decode cX5_fewest 311 = .ok (.iaload, 1) := by decide +kernel
theorem dX5_fewest_312 : decode cX5_fewest 312 = .ok (.iload 4, 2) := by decide +kernel
theorem dX5_fewest_314 : decode cX5_fewest 314 = .ok (.if_icmp .ge 13, 3) := by decide +kernel
theorem dX5_fewest_317 : decode cX5_fewest 317 = .ok (.aload_n 0, 1) := by decide +kernel
theorem dX5_fewest_318 : decode cX5_fewest 318 = .ok (.getfield 62, 3) := by decide +kernel
theorem dX5_fewest_321 : decode cX5_fewest 321 = .ok (.iload 5, 2) := by decide +kernel
theorem dX5_fewest_323 : decode cX5_fewest 323 = .ok (.iaload, 1) := by decide +kernel
theorem dX5_fewest_324 : decode cX5_fewest 324 = .ok (.goto 5, 3) := by decide +kernel
theorem dX5_fewest_327 : decode cX5_fewest 327 = .ok (.iload 4, 2) := by decide +kernel
theorem dX5_fewest_329 : decode cX5_fewest 329 = .ok (.istore 4, 2) := by decide +kernel
theorem dX5_fewest_331 : decode cX5_fewest 331 = .ok (.iinc 5 1, 3) := by decide +kernel
theorem dX5_fewest_334 : decode cX5_fewest 334 = .ok (.goto (-42), 3) := by decide +kernel
theorem dX5_fewest_337 : decode cX5_fewest 337 = .ok (.iload 4, 2) := by decide +kernel
theorem dX5_fewest_339 : decode cX5_fewest 339 = .ok (.ireturn, 1) := by decide +kernel
theorem dX5_soonest_0 : decode cX5_soonest 0 = .ok (.iload_n 1, 1) := by decide +kernel
theorem dX5_soonest_1 : decode cX5_soonest 1 = .ok (.invokestatic 159, 3) := by decide +kernel
theorem dX5_soonest_4 : decode cX5_soonest 4 = .ok (.ifCond .eq 12, 3) := by decide +kernel
theorem dX5_soonest_7 : decode cX5_soonest 7 = .ok (.iload_n 2, 1) := by decide +kernel
theorem dX5_soonest_8 : decode cX5_soonest 8 = .ok (.iconst 0, 1) := by decide +kernel
theorem dX5_soonest_9 : decode cX5_soonest 9 = .ok (.iconst 1, 1) := by decide +kernel
theorem dX5_soonest_10 : decode cX5_soonest 10 = .ok (.invokestatic 71, 3) := by decide +kernel
theorem dX5_soonest_13 : decode cX5_soonest 13 = .ok (.ifCond .ne 5, 3) := by decide +kernel
theorem dX5_soonest_16 : decode cX5_soonest 16 = .ok (.iconst (-1), 1) := by decide +kernel
theorem dX5_soonest_17 : decode cX5_soonest 17 = .ok (.ireturn, 1) := by decide +kernel
theorem dX5_soonest_18 : decode cX5_soonest 18 = .ok (.iconst 0, 1) := by decide +kernel
theorem dX5_soonest_19 : decode cX5_soonest 19 = .ok (.istore_n 3, 1) := by decide +kernel
theorem dX5_soonest_20 : decode cX5_soonest 20 = .ok (.aload_n 0, 1) := by decide +kernel
theorem dX5_soonest_21 : decode cX5_soonest 21 = .ok (.iconst 0, 1) := by decide +kernel
theorem dX5_soonest_22 : decode cX5_soonest 22 = .ok (.iload_n 1, 1) := by decide +kernel
theorem dX5_soonest_23 : decode cX5_soonest 23 = .ok (.invokevirtual 177, 3) := by decide +kernel
theorem dX5_soonest_26 : decode cX5_soonest 26 = .ok (.istore 4, 2) := by decide +kernel
theorem dX5_soonest_28 : decode cX5_soonest 28 = .ok (.iconst 1, 1) := by decide +kernel
theorem dX5_soonest_29 : decode cX5_soonest 29 = .ok (.istore 5, 2) := by decide +kernel
theorem dX5_soonest_31 : decode cX5_soonest 31 = .ok (.iload 5, 2) := by decide +kernel
theorem dX5_soonest_33 : decode cX5_soonest 33 = .ok (.aload_n 0, 1) := by decide +kernel
theorem dX5_soonest_34 : decode cX5_soonest 34 = .ok (.getfield 23, 3) := by decide +kernel
theorem dX5_soonest_37 : decode cX5_soonest 37 = .ok (.if_icmp .ge 48, 3) := by decide +kernel
theorem dX5_soonest_40 : decode cX5_soonest 40 = .ok (.aload_n 0, 1) := by decide +kernel
theorem dX5_soonest_41 : decode cX5_soonest 41 = .ok (.iload 5, 2) := by decide +kernel
theorem dX5_soonest_43 : decode cX5_soonest 43 = .ok (.iload_n 1, 1) := by decide +kernel
theorem dX5_soonest_44 : decode cX5_soonest 44 = .ok (.invokevirtual 177, 3) := by decide +kernel
theorem dX5_soonest_47 : decode cX5_soonest 47 = .ok (.istore 6, 2) := by decide +kernel
theorem dX5_soonest_49 : decode cX5_soonest 49 = .ok (.iload 6, 2) := by decide +kernel
theorem dX5_soonest_51 : decode cX5_soonest 51 = .ok (.iload 4, 2) := by decide +kernel
theorem dX5_soonest_53 : decode cX5_soonest 53 = .ok (.if_icmp .ge 8, 3) := by decide +kernel
theorem dX5_soonest_56 : decode cX5_soonest 56 = .ok (.iload 5, 2) := by decide +kernel
theorem dX5_soonest_58 : decode cX5_soonest 58 = .ok (.goto 4, 3) := by decide +kernel
theorem dX5_soonest_61 : decode cX5_soonest 61 = .ok (.iload_n 3, 1) := by decide +kernel
theorem dX5_soonest_62 : decode cX5_soonest 62 = .ok (.istore_n 3, 1) := by decide +kernel
theorem dX5_soonest_63 : decode cX5_soonest 63 = .ok (.iload 6, 2) := by decide +kernel
theorem dX5_soonest_65 : decode cX5_soonest 65 = .ok (.iload 4, 2) := by decide +kernel
theorem dX5_soonest_67 : decode cX5_soonest 67 = .ok (.if_icmp .ge 8, 3) := by decide +kernel
theorem dX5_soonest_70 : decode cX5_soonest 70 = .ok (.iload 6, 2) := by decide +kernel
theorem dX5_soonest_72 : decode cX5_soonest 72 = .ok (.goto 5, 3) := by decide +kernel
theorem dX5_soonest_75 : decode cX5_soonest 75 = .ok (.iload 4, 2) := by decide +kernel
theorem dX5_soonest_77 : decode cX5_soonest 77 = .ok (.istore 4, 2) := by decide +kernel
theorem dX5_soonest_79 : decode cX5_soonest 79 = .ok (.iinc 5 1, 3) := by decide +kernel
theorem dX5_soonest_82 : decode cX5_soonest 82 = .ok (.goto (-51), 3) := by decide +kernel
theorem dX5_soonest_85 : decode cX5_soonest 85 = .ok (.iload_n 2, 1) := by decide +kernel
theorem dX5_soonest_86 : decode cX5_soonest 86 = .ok (.ifCond .ne 7, 3) := by decide +kernel
theorem dX5_soonest_89 : decode cX5_soonest 89 = .ok (.iload_n 3, 1) := by decide +kernel
theorem dX5_soonest_90 : decode cX5_soonest 90 = .ok (.goto 5, 3) := by decide +kernel
theorem dX5_soonest_93 : decode cX5_soonest 93 = .ok (.iload 4, 2) := by decide +kernel
theorem dX5_soonest_95 : decode cX5_soonest 95 = .ok (.ireturn, 1) := by decide +kernel
theorem dX5_scatter_0 : decode cX5_scatter 0 = .ok (.iload_n 1, 1) := by decide +kernel
theorem dX5_scatter_1 : decode cX5_scatter 1 = .ok (.iconst (-1), 1) := by decide +kernel
theorem dX5_scatter_2 : decode cX5_scatter 2 = .ok (.iconst 1, 1) := by decide +kernel
theorem dX5_scatter_3 : decode cX5_scatter 3 = .ok (.invokestatic 71, 3) := by decide +kernel
theorem dX5_scatter_6 : decode cX5_scatter 6 = .ok (.ifCond .eq 22, 3) := by decide +kernel
theorem dX5_scatter_9 : decode cX5_scatter 9 = .ok (.iload_n 2, 1) := by decide +kernel
theorem dX5_scatter_10 : decode cX5_scatter 10 = .ok (.iconst (-1), 1) := by decide +kernel
theorem dX5_scatter_11 : decode cX5_scatter 11 = .ok (.iconst 1, 1) := by decide +kernel
theorem dX5_scatter_12 : decode cX5_scatter 12 = .ok (.invokestatic 71, 3) := by decide +kernel
theorem dX5_scatter_15 : decode cX5_scatter 15 = .ok (.ifCond .eq 13, 3) := by decide +kernel
theorem dX5_scatter_18 : decode cX5_scatter 18 = .ok (.iload_n 3, 1) := by decide +kernel
theorem dX5_scatter_19 : decode cX5_scatter 19 = .ok (.iconst 0, 1) := by decide +kernel
theorem dX5_scatter_20 : decode cX5_scatter 20 = .ok (.bipush 9, 2) := by decide +kernel
theorem dX5_scatter_22 : decode cX5_scatter 22 = .ok (.invokestatic 71, 3) := by decide +kernel
theorem dX5_scatter_25 : decode cX5_scatter 25 = .ok (.ifCond .ne 5, 3) := by decide +kernel
theorem dX5_scatter_28 : decode cX5_scatter 28 = .ok (.iconst (-1), 1) := by decide +kernel
theorem dX5_scatter_29 : decode cX5_scatter 29 = .ok (.ireturn, 1) := by decide +kernel
theorem dX5_scatter_30 : decode cX5_scatter 30 = .ok (.iload_n 1, 1) := by decide +kernel
theorem dX5_scatter_31 : decode cX5_scatter 31 = .ok (.iconst 1, 1) := by decide +kernel
theorem dX5_scatter_32 : decode cX5_scatter 32 = .ok (.iadd, 1) := by decide +kernel
theorem dX5_scatter_33 : decode cX5_scatter 33 = .ok (.iconst 3, 1) := by decide +kernel
theorem dX5_scatter_34 : decode cX5_scatter 34 = .ok (.iload_n 2, 1) := by decide +kernel
theorem dX5_scatter_35 : decode cX5_scatter 35 = .ok (.iconst 1, 1) := by decide +kernel
theorem dX5_scatter_36 : decode cX5_scatter 36 = .ok (.iadd, 1) := by decide +kernel
theorem dX5_scatter_37 : decode cX5_scatter 37 = .ok (.imul, 1) := by decide +kernel
theorem dX5_scatter_38 : decode cX5_scatter 38 = .ok (.iadd, 1) := by decide +kernel
theorem dX5_scatter_39 : decode cX5_scatter 39 = .ok (.istore 4, 2) := by decide +kernel
theorem dX5_scatter_41 : decode cX5_scatter 41 = .ok (.aload_n 0, 1) := by decide +kernel
theorem dX5_scatter_42 : decode cX5_scatter 42 = .ok (.getfield 38, 3) := by decide +kernel
theorem dX5_scatter_45 : decode cX5_scatter 45 = .ok (.iload 4, 2) := by decide +kernel
theorem dX5_scatter_47 : decode cX5_scatter 47 = .ok (.iaload, 1) := by decide +kernel
theorem dX5_scatter_48 : decode cX5_scatter 48 = .ok (.istore 5, 2) := by decide +kernel
theorem dX5_scatter_50 : decode cX5_scatter 50 = .ok (.aload_n 0, 1) := by decide +kernel
theorem dX5_scatter_51 : decode cX5_scatter 51 = .ok (.getfield 38, 3) := by decide +kernel
theorem dX5_scatter_54 : decode cX5_scatter 54 = .ok (.iload 4, 2) := by decide +kernel
theorem dX5_scatter_56 : decode cX5_scatter 56 = .ok (.iload_n 3, 1) := by decide +kernel
theorem dX5_scatter_57 : decode cX5_scatter 57 = .ok (.iastore, 1) := by decide +kernel
theorem dX5_scatter_58 : decode cX5_scatter 58 = .ok (.iload 5, 2) := by decide +kernel
theorem dX5_scatter_60 : decode cX5_scatter 60 = .ok (.ireturn, 1) := by decide +kernel
theorem dX5_worthOf_0 : decode cX5_worthOf 0 = .ok (.iconst 0, 1) := by decide +kernel
theorem dX5_worthOf_1 : decode cX5_worthOf 1 = .ok (.istore 4, 2) := by decide +kernel
theorem dX5_worthOf_3 : decode cX5_worthOf 3 = .ok (.aload_n 0, 1) := by decide +kernel
theorem dX5_worthOf_4 : decode cX5_worthOf 4 = .ok (.invokevirtual 180, 3) := by decide +kernel
theorem dX5_worthOf_7 : decode cX5_worthOf 7 = .ok (.iconst 0, 1) := by decide +kernel
theorem dX5_worthOf_8 : decode cX5_worthOf 8 = .ok (.istore 5, 2) := by decide +kernel
theorem dX5_worthOf_10 : decode cX5_worthOf 10 = .ok (.iload 5, 2) := by decide +kernel
theorem dX5_worthOf_12 : decode cX5_worthOf 12 = .ok (.bipush 9, 2) := by decide +kernel
theorem dX5_worthOf_14 : decode cX5_worthOf 14 = .ok (.if_icmp .ge 47, 3) := by decide +kernel
theorem dX5_worthOf_17 : decode cX5_worthOf 17 = .ok (.iload 4, 2) := by decide +kernel
theorem dX5_worthOf_19 : decode cX5_worthOf 19 = .ok (.aload_n 0, 1) := by decide +kernel
theorem dX5_worthOf_20 : decode cX5_worthOf 20 = .ok (.getfield 38, 3) := by decide +kernel
theorem dX5_worthOf_23 : decode cX5_worthOf 23 = .ok (.iload 5, 2) := by decide +kernel
theorem dX5_worthOf_25 : decode cX5_worthOf 25 = .ok (.iaload, 1) := by decide +kernel
theorem dX5_worthOf_26 : decode cX5_worthOf 26 = .ok (.aload_n 0, 1) := by decide +kernel
theorem dX5_worthOf_27 : decode cX5_worthOf 27 = .ok (.iload_n 1, 1) := by decide +kernel
theorem dX5_worthOf_28 : decode cX5_worthOf 28 = .ok (.iload 5, 2) := by decide +kernel
theorem dX5_worthOf_30 : decode cX5_worthOf 30 = .ok (.iconst 3, 1) := by decide +kernel
theorem dX5_worthOf_31 : decode cX5_worthOf 31 = .ok (.irem, 1) := by decide +kernel
theorem dX5_worthOf_32 : decode cX5_worthOf 32 = .ok (.iadd, 1) := by decide +kernel
theorem dX5_worthOf_33 : decode cX5_worthOf 33 = .ok (.iconst 1, 1) := by decide +kernel
theorem dX5_worthOf_34 : decode cX5_worthOf 34 = .ok (.isub, 1) := by decide +kernel
theorem dX5_worthOf_35 : decode cX5_worthOf 35 = .ok (.iload_n 2, 1) := by decide +kernel
theorem dX5_worthOf_36 : decode cX5_worthOf 36 = .ok (.iload 5, 2) := by decide +kernel
theorem dX5_worthOf_38 : decode cX5_worthOf 38 = .ok (.iconst 3, 1) := by decide +kernel
theorem dX5_worthOf_39 : decode cX5_worthOf 39 = .ok (.idiv, 1) := by decide +kernel
theorem dX5_worthOf_40 : decode cX5_worthOf 40 = .ok (.iadd, 1) := by decide +kernel
theorem dX5_worthOf_41 : decode cX5_worthOf 41 = .ok (.iconst 1, 1) := by decide +kernel
theorem dX5_worthOf_42 : decode cX5_worthOf 42 = .ok (.isub, 1) := by decide +kernel
theorem dX5_worthOf_43 : decode cX5_worthOf 43 = .ok (.iload_n 3, 1) := by decide +kernel
theorem dX5_worthOf_44 : decode cX5_worthOf 44 = .ok (.invokevirtual 163, 3) := by decide +kernel
theorem dX5_worthOf_47 : decode cX5_worthOf 47 = .ok (.imul, 1) := by decide +kernel
theorem dX5_worthOf_48 : decode cX5_worthOf 48 = .ok (.iadd, 1) := by decide +kernel
theorem dX5_worthOf_49 : decode cX5_worthOf 49 = .ok (.istore 4, 2) := by decide +kernel
theorem dX5_worthOf_51 : decode cX5_worthOf 51 = .ok (.aload_n 0, 1) := by decide +kernel
theorem dX5_worthOf_52 : decode cX5_worthOf 52 = .ok (.invokevirtual 183, 3) := by decide +kernel
theorem dX5_worthOf_55 : decode cX5_worthOf 55 = .ok (.iinc 5 1, 3) := by decide +kernel
theorem dX5_worthOf_58 : decode cX5_worthOf 58 = .ok (.goto (-48), 3) := by decide +kernel
theorem dX5_worthOf_61 : decode cX5_worthOf 61 = .ok (.iload 4, 2) := by decide +kernel
theorem dX5_worthOf_63 : decode cX5_worthOf 63 = .ok (.ireturn, 1) := by decide +kernel
theorem dX5_worth_0 : decode cX5_worth 0 = .ok (.aload_n 0, 1) := by decide +kernel
theorem dX5_worth_1 : decode cX5_worth 1 = .ok (.iload_n 1, 1) := by decide +kernel
theorem dX5_worth_2 : decode cX5_worth 2 = .ok (.iload_n 2, 1) := by decide +kernel
theorem dX5_worth_3 : decode cX5_worth 3 = .ok (.invokevirtual 155, 3) := by decide +kernel
theorem dX5_worth_6 : decode cX5_worth 6 = .ok (.ifCond .eq 20, 3) := by decide +kernel
theorem dX5_worth_9 : decode cX5_worth 9 = .ok (.iload_n 3, 1) := by decide +kernel
theorem dX5_worth_10 : decode cX5_worth 10 = .ok (.invokestatic 159, 3) := by decide +kernel
theorem dX5_worth_13 : decode cX5_worth 13 = .ok (.ifCond .eq 13, 3) := by decide +kernel
theorem dX5_worth_16 : decode cX5_worth 16 = .ok (.aload_n 0, 1) := by decide +kernel
theorem dX5_worth_17 : decode cX5_worth 17 = .ok (.iload_n 1, 1) := by decide +kernel
theorem dX5_worth_18 : decode cX5_worth 18 = .ok (.iload_n 2, 1) := by decide +kernel
theorem dX5_worth_19 : decode cX5_worth 19 = .ok (.iload_n 3, 1) := by decide +kernel
theorem dX5_worth_20 : decode cX5_worth 20 = .ok (.invokevirtual 186, 3) := by decide +kernel
theorem dX5_worth_23 : decode cX5_worth 23 = .ok (.goto 4, 3) := by decide +kernel
theorem dX5_worth_26 : decode cX5_worth 26 = .ok (.iconst (-1), 1) := by decide +kernel
theorem dX5_worth_27 : decode cX5_worth 27 = .ok (.ireturn, 1) := by decide +kernel
theorem dX5_aim_0 : decode cX5_aim 0 = .ok (.iload_n 1, 1) := by decide +kernel
theorem dX5_aim_1 : decode cX5_aim 1 = .ok (.invokestatic 159, 3) := by decide +kernel
theorem dX5_aim_4 : decode cX5_aim 4 = .ok (.ifCond .eq 12, 3) := by decide +kernel
theorem dX5_aim_7 : decode cX5_aim 7 = .ok (.iload_n 2, 1) := by decide +kernel
theorem dX5_aim_8 : decode cX5_aim 8 = .ok (.iconst 0, 1) := by decide +kernel
theorem dX5_aim_9 : decode cX5_aim 9 = .ok (.iconst 1, 1) := by decide +kernel
theorem dX5_aim_10 : decode cX5_aim 10 = .ok (.invokestatic 71, 3) := by decide +kernel
theorem dX5_aim_13 : decode cX5_aim 13 = .ok (.ifCond .ne 5, 3) := by decide +kernel
theorem dX5_aim_16 : decode cX5_aim 16 = .ok (.iconst (-1), 1) := by decide +kernel
theorem dX5_aim_17 : decode cX5_aim 17 = .ok (.ireturn, 1) := by decide +kernel
theorem dX5_aim_18 : decode cX5_aim 18 = .ok (.iconst 0, 1) := by decide +kernel
theorem dX5_aim_19 : decode cX5_aim 19 = .ok (.istore_n 3, 1) := by decide +kernel
theorem dX5_aim_20 : decode cX5_aim 20 = .ok (.iconst (-1), 1) := by decide +kernel
theorem dX5_aim_21 : decode cX5_aim 21 = .ok (.istore 4, 2) := by decide +kernel
theorem dX5_aim_23 : decode cX5_aim 23 = .ok (.iconst 0, 1) := by decide +kernel
theorem dX5_aim_24 : decode cX5_aim 24 = .ok (.istore 5, 2) := by decide +kernel
theorem dX5_aim_26 : decode cX5_aim 26 = .ok (.iload 5, 2) := by decide +kernel
theorem dX5_aim_28 : decode cX5_aim 28 = .ok (.aload_n 0, 1) := by decide +kernel
theorem dX5_aim_29 : decode cX5_aim 29 = .ok (.getfield 23, 3) := by decide +kernel
theorem dX5_aim_32 : decode cX5_aim 32 = .ok (.aload_n 0, 1) := by decide +kernel
theorem dX5_aim_33 : decode cX5_aim 33 = .ok (.getfield 26, 3) := by decide +kernel
theorem dX5_aim_36 : decode cX5_aim 36 = .ok (.imul, 1) := by decide +kernel
theorem dX5_aim_37 : decode cX5_aim 37 = .ok (.if_icmp .ge 60, 3) := by decide +kernel
theorem dX5_aim_40 : decode cX5_aim 40 = .ok (.aload_n 0, 1) := by decide +kernel
theorem dX5_aim_41 : decode cX5_aim 41 = .ok (.iload 5, 2) := by decide +kernel
theorem dX5_aim_43 : decode cX5_aim 43 = .ok (.aload_n 0, 1) := by decide +kernel
theorem dX5_aim_44 : decode cX5_aim 44 = .ok (.getfield 23, 3) := by decide +kernel
theorem dX5_aim_47 : decode cX5_aim 47 = .ok (.irem, 1) := by decide +kernel
theorem dX5_aim_48 : decode cX5_aim 48 = .ok (.iload 5, 2) := by decide +kernel
theorem dX5_aim_50 : decode cX5_aim 50 = .ok (.aload_n 0, 1) := by decide +kernel
theorem dX5_aim_51 : decode cX5_aim 51 = .ok (.getfield 23, 3) := by decide +kernel
theorem dX5_aim_54 : decode cX5_aim 54 = .ok (.idiv, 1) := by decide +kernel
theorem dX5_aim_55 : decode cX5_aim 55 = .ok (.iload_n 1, 1) := by decide +kernel
theorem dX5_aim_56 : decode cX5_aim 56 = .ok (.invokevirtual 186, 3) := by decide +kernel
theorem dX5_aim_59 : decode cX5_aim 59 = .ok (.istore 6, 2) := by decide +kernel
theorem dX5_aim_61 : decode cX5_aim 61 = .ok (.iload 6, 2) := by decide +kernel
theorem dX5_aim_63 : decode cX5_aim 63 = .ok (.iload 4, 2) := by decide +kernel
theorem dX5_aim_65 : decode cX5_aim 65 = .ok (.if_icmp .le 8, 3) := by decide +kernel
theorem dX5_aim_68 : decode cX5_aim 68 = .ok (.iload 5, 2) := by decide +kernel
theorem dX5_aim_70 : decode cX5_aim 70 = .ok (.goto 4, 3) := by decide +kernel
theorem dX5_aim_73 : decode cX5_aim 73 = .ok (.iload_n 3, 1) := by decide +kernel
theorem dX5_aim_74 : decode cX5_aim 74 = .ok (.istore_n 3, 1) := by decide +kernel
theorem dX5_aim_75 : decode cX5_aim 75 = .ok (.iload 6, 2) := by decide +kernel
theorem dX5_aim_77 : decode cX5_aim 77 = .ok (.iload 4, 2) := by decide +kernel
theorem dX5_aim_79 : decode cX5_aim 79 = .ok (.if_icmp .le 8, 3) := by decide +kernel
theorem dX5_aim_82 : decode cX5_aim 82 = .ok (.iload 6, 2) := by decide +kernel
theorem dX5_aim_84 : decode cX5_aim 84 = .ok (.goto 5, 3) := by decide +kernel
theorem dX5_aim_87 : decode cX5_aim 87 = .ok (.iload 4, 2) := by decide +kernel
theorem dX5_aim_89 : decode cX5_aim 89 = .ok (.istore 4, 2) := by decide +kernel
theorem dX5_aim_91 : decode cX5_aim 91 = .ok (.iinc 5 1, 3) := by decide +kernel
theorem dX5_aim_94 : decode cX5_aim 94 = .ok (.goto (-68), 3) := by decide +kernel
theorem dX5_aim_97 : decode cX5_aim 97 = .ok (.iload_n 2, 1) := by decide +kernel
theorem dX5_aim_98 : decode cX5_aim 98 = .ok (.ifCond .ne 7, 3) := by decide +kernel
theorem dX5_aim_101 : decode cX5_aim 101 = .ok (.iload_n 3, 1) := by decide +kernel
theorem dX5_aim_102 : decode cX5_aim 102 = .ok (.goto 5, 3) := by decide +kernel
theorem dX5_aim_105 : decode cX5_aim 105 = .ok (.iload 4, 2) := by decide +kernel
theorem dX5_aim_107 : decode cX5_aim 107 = .ok (.ireturn, 1) := by decide +kernel
theorem dX5_held_0 : decode cX5_held 0 = .ok (.aload_n 0, 1) := by decide +kernel
theorem dX5_held_1 : decode cX5_held 1 = .ok (.iload_n 1, 1) := by decide +kernel
theorem dX5_held_2 : decode cX5_held 2 = .ok (.iload_n 2, 1) := by decide +kernel
theorem dX5_held_3 : decode cX5_held 3 = .ok (.invokevirtual 155, 3) := by decide +kernel
theorem dX5_held_6 : decode cX5_held 6 = .ok (.ifCond .eq 20, 3) := by decide +kernel
theorem dX5_held_9 : decode cX5_held 9 = .ok (.iload_n 3, 1) := by decide +kernel
theorem dX5_held_10 : decode cX5_held 10 = .ok (.invokestatic 159, 3) := by decide +kernel
theorem dX5_held_13 : decode cX5_held 13 = .ok (.ifCond .eq 13, 3) := by decide +kernel
theorem dX5_held_16 : decode cX5_held 16 = .ok (.iload 4, 2) := by decide +kernel
theorem dX5_held_18 : decode cX5_held 18 = .ok (.iconst 1, 1) := by decide +kernel
theorem dX5_held_19 : decode cX5_held 19 = .ok (.iconst 4, 1) := by decide +kernel
theorem dX5_held_20 : decode cX5_held 20 = .ok (.invokestatic 71, 3) := by decide +kernel
theorem dX5_held_23 : decode cX5_held 23 = .ok (.ifCond .ne 7, 3) := by decide +kernel
theorem dX5_held_26 : decode cX5_held 26 = .ok (.ldc2_w 189, 3) := by decide +kernel
theorem dX5_held_29 : decode cX5_held 29 = .ok (.lreturn, 1) := by decide +kernel
theorem dX5_held_30 : decode cX5_held 30 = .ok (.iconst 1, 1) := by decide +kernel
theorem dX5_held_31 : decode cX5_held 31 = .ok (.istore 5, 2) := by decide +kernel
theorem dX5_held_33 : decode cX5_held 33 = .ok (.iconst 0, 1) := by decide +kernel
theorem dX5_held_34 : decode cX5_held 34 = .ok (.istore 6, 2) := by decide +kernel
theorem dX5_held_36 : decode cX5_held 36 = .ok (.iload 6, 2) := by decide +kernel
theorem dX5_held_38 : decode cX5_held 38 = .ok (.iload 4, 2) := by decide +kernel
theorem dX5_held_40 : decode cX5_held 40 = .ok (.if_icmp .ge 16, 3) := by decide +kernel
theorem dX5_held_43 : decode cX5_held 43 = .ok (.iload 5, 2) := by decide +kernel
theorem dX5_held_45 : decode cX5_held 45 = .ok (.bipush 9, 2) := by decide +kernel
theorem dX5_held_47 : decode cX5_held 47 = .ok (.imul, 1) := by decide +kernel
theorem dX5_held_48 : decode cX5_held 48 = .ok (.istore 5, 2) := by decide +kernel
theorem dX5_held_50 : decode cX5_held 50 = .ok (.iinc 6 1, 3) := by decide +kernel
theorem dX5_held_53 : decode cX5_held 53 = .ok (.goto (-17), 3) := by decide +kernel
theorem dX5_held_56 : decode cX5_held 56 = .ok (.aload_n 0, 1) := by decide +kernel
theorem dX5_held_57 : decode cX5_held 57 = .ok (.invokevirtual 180, 3) := by decide +kernel
theorem dX5_held_60 : decode cX5_held 60 = .ok (.lconst 0, 1) := by decide +kernel
theorem dX5_held_61 : decode cX5_held 61 = .ok (.lstore 6, 2) := by decide +kernel
theorem dX5_held_63 : decode cX5_held 63 = .ok (.iconst 0, 1) := by decide +kernel
theorem dX5_held_64 : decode cX5_held 64 = .ok (.istore 8, 2) := by decide +kernel
theorem dX5_held_66 : decode cX5_held 66 = .ok (.iload 8, 2) := by decide +kernel
theorem dX5_held_68 : decode cX5_held 68 = .ok (.iload 5, 2) := by decide +kernel
theorem dX5_held_70 : decode cX5_held 70 = .ok (.if_icmp .ge 127, 3) := by decide +kernel
theorem dX5_held_73 : decode cX5_held 73 = .ok (.iload 8, 2) := by decide +kernel
theorem dX5_held_75 : decode cX5_held 75 = .ok (.istore 9, 2) := by decide +kernel
theorem dX5_held_77 : decode cX5_held 77 = .ok (.lconst 1, 1) := by decide +kernel
theorem dX5_held_78 : decode cX5_held 78 = .ok (.lstore 10, 2) := by decide +kernel
theorem dX5_held_80 : decode cX5_held 80 = .ok (.iconst 0, 1) := by decide +kernel
theorem dX5_held_81 : decode cX5_held 81 = .ok (.istore 12, 2) := by decide +kernel
theorem dX5_held_83 : decode cX5_held 83 = .ok (.iload 12, 2) := by decide +kernel
theorem dX5_held_85 : decode cX5_held 85 = .ok (.iload 4, 2) := by decide +kernel
theorem dX5_held_87 : decode cX5_held 87 = .ok (.if_icmp .ge 73, 3) := by decide +kernel
theorem dX5_held_90 : decode cX5_held 90 = .ok (.lload 10, 2) := by decide +kernel
theorem dX5_held_92 : decode cX5_held 92 = .ok (.lconst 0, 1) := by decide +kernel
theorem dX5_held_93 : decode cX5_held 93 = .ok (.lcmp, 1) := by decide +kernel
theorem dX5_held_94 : decode cX5_held 94 = .ok (.ifCond .le 66, 3) := by decide +kernel
theorem dX5_held_97 : decode cX5_held 97 = .ok (.iload 9, 2) := by decide +kernel
theorem dX5_held_99 : decode cX5_held 99 = .ok (.bipush 9, 2) := by decide +kernel
theorem dX5_held_101 : decode cX5_held 101 = .ok (.irem, 1) := by decide +kernel
theorem dX5_held_102 : decode cX5_held 102 = .ok (.istore 13, 2) := by decide +kernel
theorem dX5_held_104 : decode cX5_held 104 = .ok (.iload 9, 2) := by decide +kernel
theorem dX5_held_106 : decode cX5_held 106 = .ok (.bipush 9, 2) := by decide +kernel
theorem dX5_held_108 : decode cX5_held 108 = .ok (.idiv, 1) := by decide +kernel
theorem dX5_held_109 : decode cX5_held 109 = .ok (.istore 9, 2) := by decide +kernel
theorem dX5_held_111 : decode cX5_held 111 = .ok (.lload 10, 2) := by decide +kernel
theorem dX5_held_113 : decode cX5_held 113 = .ok (.aload_n 0, 1) := by decide +kernel
theorem dX5_held_114 : decode cX5_held 114 = .ok (.getfield 38, 3) := by decide +kernel
theorem dX5_held_117 : decode cX5_held 117 = .ok (.iload 13, 2) := by decide +kernel
theorem dX5_held_119 : decode cX5_held 119 = .ok (.iaload, 1) := by decide +kernel
theorem dX5_held_120 : decode cX5_held 120 = .ok (.i2l, 1) := by decide +kernel
theorem dX5_held_121 : decode cX5_held 121 = .ok (.lmul, 1) := by decide +kernel
theorem dX5_held_122 : decode cX5_held 122 = .ok (.lstore 10, 2) := by decide +kernel
theorem dX5_held_124 : decode cX5_held 124 = .ok (.lload 10, 2) := by decide +kernel
theorem dX5_held_126 : decode cX5_held 126 = .ok (.lconst 0, 1) := by decide +kernel
theorem dX5_held_127 : decode cX5_held 127 = .ok (.lcmp, 1) := by decide +kernel
theorem dX5_held_128 : decode cX5_held 128 = .ok (.ifCond .le 26, 3) := by decide +kernel
theorem dX5_held_131 : decode cX5_held 131 = .ok (.aload_n 0, 1) := by decide +kernel
theorem dX5_held_132 : decode cX5_held 132 = .ok (.iload_n 1, 1) := by decide +kernel
theorem dX5_held_133 : decode cX5_held 133 = .ok (.iload 13, 2) := by decide +kernel
theorem dX5_held_135 : decode cX5_held 135 = .ok (.iconst 3, 1) := by decide +kernel
theorem dX5_held_136 : decode cX5_held 136 = .ok (.irem, 1) := by decide +kernel
theorem dX5_held_137 : decode cX5_held 137 = .ok (.iadd, 1) := by decide +kernel
theorem dX5_held_138 : decode cX5_held 138 = .ok (.iconst 1, 1) := by decide +kernel
theorem dX5_held_139 : decode cX5_held 139 = .ok (.isub, 1) := by decide +kernel
theorem dX5_held_140 : decode cX5_held 140 = .ok (.iload_n 2, 1) := by decide +kernel
theorem dX5_held_141 : decode cX5_held 141 = .ok (.iload 13, 2) := by decide +kernel
theorem dX5_held_143 : decode cX5_held 143 = .ok (.iconst 3, 1) := by decide +kernel
theorem dX5_held_144 : decode cX5_held 144 = .ok (.idiv, 1) := by decide +kernel
theorem dX5_held_145 : decode cX5_held 145 = .ok (.iadd, 1) := by decide +kernel
theorem dX5_held_146 : decode cX5_held 146 = .ok (.iconst 1, 1) := by decide +kernel
theorem dX5_held_147 : decode cX5_held 147 = .ok (.isub, 1) := by decide +kernel
theorem dX5_held_148 : decode cX5_held 148 = .ok (.iload_n 3, 1) := by decide +kernel
theorem dX5_held_149 : decode cX5_held 149 = .ok (.invokevirtual 163, 3) := by decide +kernel
theorem dX5_held_152 : decode cX5_held 152 = .ok (.istore 14, 2) := by decide +kernel
theorem dX5_held_154 : decode cX5_held 154 = .ok (.iinc 12 1, 3) := by decide +kernel
theorem dX5_held_157 : decode cX5_held 157 = .ok (.goto (-74), 3) := by decide +kernel
theorem dX5_held_160 : decode cX5_held 160 = .ok (.lload 6, 2) := by decide +kernel
theorem dX5_held_162 : decode cX5_held 162 = .ok (.lload 10, 2) := by decide +kernel
theorem dX5_held_164 : decode cX5_held 164 = .ok (.lconst 0, 1) := by decide +kernel
theorem dX5_held_165 : decode cX5_held 165 = .ok (.lcmp, 1) := by decide +kernel
theorem dX5_held_166 : decode cX5_held 166 = .ok (.ifCond .le 17, 3) := by decide +kernel
theorem dX5_held_169 : decode cX5_held 169 = .ok (.aload_n 0, 1) := by decide +kernel
theorem dX5_held_170 : decode cX5_held 170 = .ok (.invokevirtual 191, 3) := by decide +kernel
theorem dX5_held_173 : decode cX5_held 173 = .ok (.bipush (-9), 2) := by decide +kernel
theorem dX5_held_175 : decode cX5_held 175 = .ok (.if_icmp .ne 8, 3) := by decide +kernel
theorem dX5_held_178 : decode cX5_held 178 = .ok (.lload 10, 2) := by decide +kernel
theorem dX5_held_180 : decode cX5_held 180 = .ok (.goto 4, 3) := by decide +kernel
theorem dX5_held_183 : decode cX5_held 183 = .ok (.lconst 0, 1) := by decide +kernel
theorem dX5_held_184 : decode cX5_held 184 = .ok (.ladd, 1) := by decide +kernel
theorem dX5_held_185 : decode cX5_held 185 = .ok (.lstore 6, 2) := by decide +kernel
theorem dX5_held_187 : decode cX5_held 187 = .ok (.aload_n 0, 1) := by decide +kernel
theorem dX5_held_188 : decode cX5_held 188 = .ok (.invokevirtual 183, 3) := by decide +kernel
theorem dX5_held_191 : decode cX5_held 191 = .ok (.iinc 8 1, 3) := by decide +kernel
theorem dX5_held_194 : decode cX5_held 194 = .ok (.goto (-128), 3) := by decide +kernel
theorem dX5_held_197 : decode cX5_held 197 = .ok (.lload 6, 2) := by decide +kernel
theorem dX5_held_199 : decode cX5_held 199 = .ok (.lreturn, 1) := by decide +kernel
theorem dX5_wound_0 : decode cX5_wound 0 = .ok (.aload_n 0, 1) := by decide +kernel
theorem dX5_wound_1 : decode cX5_wound 1 = .ok (.getfield 82, 3) := by decide +kernel
theorem dX5_wound_4 : decode cX5_wound 4 = .ok (.ifCond .eq 6, 3) := by decide +kernel
theorem dX5_wound_7 : decode cX5_wound 7 = .ok (.bipush (-2), 2) := by decide +kernel
theorem dX5_wound_9 : decode cX5_wound 9 = .ok (.ireturn, 1) := by decide +kernel
theorem dX5_wound_10 : decode cX5_wound 10 = .ok (.aload_n 0, 1) := by decide +kernel
theorem dX5_wound_11 : decode cX5_wound 11 = .ok (.iconst 1, 1) := by decide +kernel
theorem dX5_wound_12 : decode cX5_wound 12 = .ok (.putfield 82, 3) := by decide +kernel
theorem dX5_wound_15 : decode cX5_wound 15 = .ok (.aload_n 0, 1) := by decide +kernel
theorem dX5_wound_16 : decode cX5_wound 16 = .ok (.getfield 82, 3) := by decide +kernel
theorem dX5_wound_19 : decode cX5_wound 19 = .ok (.ireturn, 1) := by decide +kernel
theorem dX5_sling_0 : decode cX5_sling 0 = .ok (.aload_n 0, 1) := by decide +kernel
theorem dX5_sling_1 : decode cX5_sling 1 = .ok (.getfield 82, 3) := by decide +kernel
theorem dX5_sling_4 : decode cX5_sling 4 = .ok (.iconst 1, 1) := by decide +kernel
theorem dX5_sling_5 : decode cX5_sling 5 = .ok (.if_icmp .eq 6, 3) := by decide +kernel
theorem dX5_sling_8 : decode cX5_sling 8 = .ok (.bipush (-2), 2) := by decide +kernel
theorem dX5_sling_10 : decode cX5_sling 10 = .ok (.ireturn, 1) := by decide +kernel
theorem dX5_sling_11 : decode cX5_sling 11 = .ok (.aload_n 0, 1) := by decide +kernel
theorem dX5_sling_12 : decode cX5_sling 12 = .ok (.iconst 2, 1) := by decide +kernel
theorem dX5_sling_13 : decode cX5_sling 13 = .ok (.putfield 82, 3) := by decide +kernel
theorem dX5_sling_16 : decode cX5_sling 16 = .ok (.aload_n 0, 1) := by decide +kernel
theorem dX5_sling_17 : decode cX5_sling 17 = .ok (.getfield 82, 3) := by decide +kernel
theorem dX5_sling_20 : decode cX5_sling 20 = .ok (.ireturn, 1) := by decide +kernel
theorem dX5_near_0 : decode cX5_near 0 = .ok (.iload_n 1, 1) := by decide +kernel
theorem dX5_near_1 : decode cX5_near 1 = .ok (.iconst 0, 1) := by decide +kernel
theorem dX5_near_2 : decode cX5_near 2 = .ok (.sipush 200, 3) := by decide +kernel
theorem dX5_near_5 : decode cX5_near 5 = .ok (.invokestatic 71, 3) := by decide +kernel
theorem dX5_near_8 : decode cX5_near 8 = .ok (.ifCond .ne 5, 3) := by decide +kernel
theorem dX5_near_11 : decode cX5_near 11 = .ok (.iconst (-1), 1) := by decide +kernel
theorem dX5_near_12 : decode cX5_near 12 = .ok (.ireturn, 1) := by decide +kernel
theorem dX5_near_13 : decode cX5_near 13 = .ok (.aload_n 0, 1) := by decide +kernel
theorem dX5_near_14 : decode cX5_near 14 = .ok (.getfield 82, 3) := by decide +kernel
theorem dX5_near_17 : decode cX5_near 17 = .ok (.iconst 2, 1) := by decide +kernel
theorem dX5_near_18 : decode cX5_near 18 = .ok (.if_icmp .lt 16, 3) := by decide +kernel
theorem dX5_near_21 : decode cX5_near 21 = .ok (.aload_n 0, 1) := by decide +kernel
theorem dX5_near_22 : decode cX5_near 22 = .ok (.iload_n 1, 1) := by decide +kernel
theorem dX5_near_23 : decode cX5_near 23 = .ok (.ifCond .ne 7, 3) := by decide +kernel
theorem dX5_near_26 : decode cX5_near 26 = .ok (.iconst 3, 1) := by decide +kernel
theorem dX5_near_27 : decode cX5_near 27 = .ok (.goto 4, 3) := by decide +kernel
theorem dX5_near_30 : decode cX5_near 30 = .ok (.iconst 2, 1) := by decide +kernel
theorem dX5_near_31 : decode cX5_near 31 = .ok (.putfield 82, 3) := by decide +kernel
theorem dX5_near_34 : decode cX5_near 34 = .ok (.aload_n 0, 1) := by decide +kernel
theorem dX5_near_35 : decode cX5_near 35 = .ok (.getfield 82, 3) := by decide +kernel
theorem dX5_near_38 : decode cX5_near 38 = .ok (.ireturn, 1) := by decide +kernel
theorem dX5_loose_0 : decode cX5_loose 0 = .ok (.aload_n 0, 1) := by decide +kernel
theorem dX5_loose_1 : decode cX5_loose 1 = .ok (.iload_n 1, 1) := by decide +kernel
theorem dX5_loose_2 : decode cX5_loose 2 = .ok (.iload_n 2, 1) := by decide +kernel
theorem dX5_loose_3 : decode cX5_loose 3 = .ok (.invokevirtual 155, 3) := by decide +kernel
theorem dX5_loose_6 : decode cX5_loose 6 = .ok (.ifCond .eq 14, 3) := by decide +kernel
theorem dX5_loose_9 : decode cX5_loose 9 = .ok (.iload_n 3, 1) := by decide +kernel
theorem dX5_loose_10 : decode cX5_loose 10 = .ok (.iconst 0, 1) := by decide +kernel
theorem dX5_loose_11 : decode cX5_loose 11 = .ok (.sipush 2000, 3) := by decide +kernel
theorem dX5_loose_14 : decode cX5_loose 14 = .ok (.invokestatic 71, 3) := by decide +kernel
theorem dX5_loose_17 : decode cX5_loose 17 = .ok (.ifCond .ne 5, 3) := by decide +kernel
theorem dX5_loose_20 : decode cX5_loose 20 = .ok (.iconst (-1), 1) := by decide +kernel
theorem dX5_loose_21 : decode cX5_loose 21 = .ok (.ireturn, 1) := by decide +kernel
theorem dX5_loose_22 : decode cX5_loose 22 = .ok (.aload_n 0, 1) := by decide +kernel
theorem dX5_loose_23 : decode cX5_loose 23 = .ok (.getfield 82, 3) := by decide +kernel
theorem dX5_loose_26 : decode cX5_loose 26 = .ok (.iconst 3, 1) := by decide +kernel
theorem dX5_loose_27 : decode cX5_loose 27 = .ok (.if_icmp .ne 12, 3) := by decide +kernel
theorem dX5_loose_30 : decode cX5_loose 30 = .ok (.aload_n 0, 1) := by decide +kernel
theorem dX5_loose_31 : decode cX5_loose 31 = .ok (.getfield 41, 3) := by decide +kernel
theorem dX5_loose_34 : decode cX5_loose 34 = .ok (.iconst 1, 1) := by decide +kernel
theorem dX5_loose_35 : decode cX5_loose 35 = .ok (.iaload, 1) := by decide +kernel
theorem dX5_loose_36 : decode cX5_loose 36 = .ok (.ifCond .ne 6, 3) := by decide +kernel
theorem dX5_loose_39 : decode cX5_loose 39 = .ok (.bipush (-2), 2) := by decide +kernel
theorem dX5_loose_41 : decode cX5_loose 41 = .ok (.ireturn, 1) := by decide +kernel
theorem dX5_loose_42 : decode cX5_loose 42 = .ok (.aload_n 0, 1) := by decide +kernel
theorem dX5_loose_43 : decode cX5_loose 43 = .ok (.iconst 0, 1) := by decide +kernel
theorem dX5_loose_44 : decode cX5_loose 44 = .ok (.putfield 82, 3) := by decide +kernel
theorem dX5_loose_47 : decode cX5_loose 47 = .ok (.aload_n 0, 1) := by decide +kernel
theorem dX5_loose_48 : decode cX5_loose 48 = .ok (.getfield 41, 3) := by decide +kernel
theorem dX5_loose_51 : decode cX5_loose 51 = .ok (.iconst 1, 1) := by decide +kernel
theorem dX5_loose_52 : decode cX5_loose 52 = .ok (.dup2, 1) := by decide +kernel
theorem dX5_loose_53 : decode cX5_loose 53 = .ok (.iaload, 1) := by decide +kernel
theorem dX5_loose_54 : decode cX5_loose 54 = .ok (.iconst 1, 1) := by decide +kernel
theorem dX5_loose_55 : decode cX5_loose 55 = .ok (.isub, 1) := by decide +kernel
theorem dX5_loose_56 : decode cX5_loose 56 = .ok (.iastore, 1) := by decide +kernel
theorem dX5_loose_57 : decode cX5_loose 57 = .ok (.aload_n 0, 1) := by decide +kernel
theorem dX5_loose_58 : decode cX5_loose 58 = .ok (.dup, 1) := by decide +kernel
theorem dX5_loose_59 : decode cX5_loose 59 = .ok (.getfield 194, 3) := by decide +kernel
theorem dX5_loose_62 : decode cX5_loose 62 = .ok (.iconst 1, 1) := by decide +kernel
theorem dX5_loose_63 : decode cX5_loose 63 = .ok (.iadd, 1) := by decide +kernel
theorem dX5_loose_64 : decode cX5_loose 64 = .ok (.putfield 194, 3) := by decide +kernel
theorem dX5_loose_67 : decode cX5_loose 67 = .ok (.aload_n 0, 1) := by decide +kernel
theorem dX5_loose_68 : decode cX5_loose 68 = .ok (.aload_n 0, 1) := by decide +kernel
theorem dX5_loose_69 : decode cX5_loose 69 = .ok (.getfield 7, 3) := by decide +kernel
theorem dX5_loose_72 : decode cX5_loose 72 = .ok (.iconst 3, 1) := by decide +kernel
theorem dX5_loose_73 : decode cX5_loose 73 = .ok (.iaload, 1) := by decide +kernel
theorem dX5_loose_74 : decode cX5_loose 74 = .ok (.aload_n 0, 1) := by decide +kernel
theorem dX5_loose_75 : decode cX5_loose 75 = .ok (.getfield 7, 3) := by decide +kernel
theorem dX5_loose_78 : decode cX5_loose 78 = .ok (.iconst 4, 1) := by decide +kernel
theorem dX5_loose_79 : decode cX5_loose 79 = .ok (.iaload, 1) := by decide +kernel
theorem dX5_loose_80 : decode cX5_loose 80 = .ok (.invokevirtual 129, 3) := by decide +kernel
theorem dX5_loose_83 : decode cX5_loose 83 = .ok (.aload_n 0, 1) := by decide +kernel
theorem dX5_loose_84 : decode cX5_loose 84 = .ok (.getfield 115, 3) := by decide +kernel
theorem dX5_loose_87 : decode cX5_loose 87 = .ok (.bipush (-9), 2) := by decide +kernel
theorem dX5_loose_89 : decode cX5_loose 89 = .ok (.if_icmp .ne 6, 3) := by decide +kernel
theorem dX5_loose_92 : decode cX5_loose 92 = .ok (.bipush (-3), 2) := by decide +kernel
theorem dX5_loose_94 : decode cX5_loose 94 = .ok (.ireturn, 1) := by decide +kernel
theorem dX5_loose_95 : decode cX5_loose 95 = .ok (.aload_n 0, 1) := by decide +kernel
theorem dX5_loose_96 : decode cX5_loose 96 = .ok (.getfield 7, 3) := by decide +kernel
theorem dX5_loose_99 : decode cX5_loose 99 = .ok (.bipush 7, 2) := by decide +kernel
theorem dX5_loose_101 : decode cX5_loose 101 = .ok (.iaload, 1) := by decide +kernel
theorem dX5_loose_102 : decode cX5_loose 102 = .ok (.aload_n 0, 1) := by decide +kernel
theorem dX5_loose_103 : decode cX5_loose 103 = .ok (.getfield 115, 3) := by decide +kernel
theorem dX5_loose_106 : decode cX5_loose 106 = .ok (.imul, 1) := by decide +kernel
theorem dX5_loose_107 : decode cX5_loose 107 = .ok (.sipush 500, 3) := by decide +kernel
theorem dX5_loose_110 : decode cX5_loose 110 = .ok (.idiv, 1) := by decide +kernel
theorem dX5_loose_111 : decode cX5_loose 111 = .ok (.iconst 1, 1) := by decide +kernel
theorem dX5_loose_112 : decode cX5_loose 112 = .ok (.iadd, 1) := by decide +kernel
theorem dX5_loose_113 : decode cX5_loose 113 = .ok (.istore 4, 2) := by decide +kernel
theorem dX5_loose_115 : decode cX5_loose 115 = .ok (.aload_n 0, 1) := by decide +kernel
theorem dX5_loose_116 : decode cX5_loose 116 = .ok (.getfield 115, 3) := by decide +kernel
theorem dX5_loose_119 : decode cX5_loose 119 = .ok (.iload_n 3, 1) := by decide +kernel
theorem dX5_loose_120 : decode cX5_loose 120 = .ok (.isub, 1) := by decide +kernel
theorem dX5_loose_121 : decode cX5_loose 121 = .ok (.invokestatic 88, 3) := by decide +kernel
theorem dX5_loose_124 : decode cX5_loose 124 = .ok (.iconst 5, 1) := by decide +kernel
theorem dX5_loose_125 : decode cX5_loose 125 = .ok (.if_icmp .gt 25, 3) := by decide +kernel
theorem dX5_loose_128 : decode cX5_loose 128 = .ok (.aload_n 0, 1) := by decide +kernel
theorem dX5_loose_129 : decode cX5_loose 129 = .ok (.iload_n 1, 1) := by decide +kernel
theorem dX5_loose_130 : decode cX5_loose 130 = .ok (.iload_n 2, 1) := by decide +kernel
theorem dX5_loose_131 : decode cX5_loose 131 = .ok (.iload 4, 2) := by decide +kernel
theorem dX5_loose_133 : decode cX5_loose 133 = .ok (.bipush 99, 2) := by decide +kernel
theorem dX5_loose_135 : decode cX5_loose 135 = .ok (.if_icmp .le 8, 3) := by decide +kernel
theorem dX5_loose_138 : decode cX5_loose 138 = .ok (.bipush 99, 2) := by decide +kernel
theorem dX5_loose_140 : decode cX5_loose 140 = .ok (.goto 5, 3) := by decide +kernel
theorem dX5_loose_143 : decode cX5_loose 143 = .ok (.iload 4, 2) := by decide +kernel
theorem dX5_loose_145 : decode cX5_loose 145 = .ok (.invokevirtual 163, 3) := by decide +kernel
theorem dX5_loose_148 : decode cX5_loose 148 = .ok (.istore 5, 2) := by decide +kernel
theorem dX5_loose_150 : decode cX5_loose 150 = .ok (.aload_n 0, 1) := by decide +kernel
theorem dX5_loose_151 : decode cX5_loose 151 = .ok (.getfield 115, 3) := by decide +kernel
theorem dX5_loose_154 : decode cX5_loose 154 = .ok (.ireturn, 1) := by decide +kernel
theorem dX5_store_0 : decode cX5_store 0 = .ok (.iload_n 1, 1) := by decide +kernel
theorem dX5_store_1 : decode cX5_store 1 = .ok (.ifCond .eq 8, 3) := by decide +kernel
theorem dX5_store_4 : decode cX5_store 4 = .ok (.iload_n 1, 1) := by decide +kernel
theorem dX5_store_5 : decode cX5_store 5 = .ok (.iconst 4, 1) := by decide +kernel
theorem dX5_store_6 : decode cX5_store 6 = .ok (.if_icmp .ne 7, 3) := by decide +kernel
theorem dX5_store_9 : decode cX5_store 9 = .ok (.iconst 1, 1) := by decide +kernel
theorem dX5_store_10 : decode cX5_store 10 = .ok (.goto 4, 3) := by decide +kernel
theorem dX5_store_13 : decode cX5_store 13 = .ok (.iconst 0, 1) := by decide +kernel
theorem dX5_store_14 : decode cX5_store 14 = .ok (.istore_n 3, 1) := by decide +kernel
theorem dX5_store_15 : decode cX5_store 15 = .ok (.iload_n 1, 1) := by decide +kernel
theorem dX5_store_16 : decode cX5_store 16 = .ok (.ifCond .eq 8, 3) := by decide +kernel
theorem dX5_store_19 : decode cX5_store 19 = .ok (.iload_n 1, 1) := by decide +kernel
theorem dX5_store_20 : decode cX5_store 20 = .ok (.iconst 4, 1) := by decide +kernel
theorem dX5_store_21 : decode cX5_store 21 = .ok (.if_icmp .ne 9, 3) := by decide +kernel
theorem dX5_store_24 : decode cX5_store 24 = .ok (.sipush 200, 3) := by decide +kernel
theorem dX5_store_27 : decode cX5_store 27 = .ok (.goto 6, 3) := by decide +kernel
theorem dX5_store_30 : decode cX5_store 30 = .ok (.sipush 9999, 3) := by decide +kernel
theorem dX5_store_33 : decode cX5_store 33 = .ok (.istore 4, 2) := by decide +kernel
theorem dX5_store_35 : decode cX5_store 35 = .ok (.iload_n 1, 1) := by decide +kernel
theorem dX5_store_36 : decode cX5_store 36 = .ok (.iconst 0, 1) := by decide +kernel
theorem dX5_store_37 : decode cX5_store 37 = .ok (.iconst 4, 1) := by decide +kernel
theorem dX5_store_38 : decode cX5_store 38 = .ok (.invokestatic 71, 3) := by decide +kernel
theorem dX5_store_41 : decode cX5_store 41 = .ok (.ifCond .eq 13, 3) := by decide +kernel
theorem dX5_store_44 : decode cX5_store 44 = .ok (.iload_n 2, 1) := by decide +kernel
theorem dX5_store_45 : decode cX5_store 45 = .ok (.iload_n 3, 1) := by decide +kernel
theorem dX5_store_46 : decode cX5_store 46 = .ok (.iload 4, 2) := by decide +kernel
theorem dX5_store_48 : decode cX5_store 48 = .ok (.invokestatic 71, 3) := by decide +kernel
theorem dX5_store_51 : decode cX5_store 51 = .ok (.ifCond .ne 5, 3) := by decide +kernel
theorem dX5_store_54 : decode cX5_store 54 = .ok (.iconst (-1), 1) := by decide +kernel
theorem dX5_store_55 : decode cX5_store 55 = .ok (.ireturn, 1) := by decide +kernel
theorem dX5_store_56 : decode cX5_store 56 = .ok (.aload_n 0, 1) := by decide +kernel
theorem dX5_store_57 : decode cX5_store 57 = .ok (.getfield 41, 3) := by decide +kernel
theorem dX5_store_60 : decode cX5_store 60 = .ok (.iload_n 1, 1) := by decide +kernel
theorem dX5_store_61 : decode cX5_store 61 = .ok (.iaload, 1) := by decide +kernel
theorem dX5_store_62 : decode cX5_store 62 = .ok (.istore 5, 2) := by decide +kernel
theorem dX5_store_64 : decode cX5_store 64 = .ok (.aload_n 0, 1) := by decide +kernel
theorem dX5_store_65 : decode cX5_store 65 = .ok (.getfield 41, 3) := by decide +kernel
theorem dX5_store_68 : decode cX5_store 68 = .ok (.iload_n 1, 1) := by decide +kernel
theorem dX5_store_69 : decode cX5_store 69 = .ok (.iload_n 2, 1) := by decide +kernel
theorem dX5_store_70 : decode cX5_store 70 = .ok (.iastore, 1) := by decide +kernel
theorem dX5_store_71 : decode cX5_store 71 = .ok (.iload 5, 2) := by decide +kernel
theorem dX5_store_73 : decode cX5_store 73 = .ok (.ireturn, 1) := by decide +kernel
theorem dX5_wet_0 : decode cX5_wet 0 = .ok (.iload_n 1, 1) := by decide +kernel
theorem dX5_wet_1 : decode cX5_wet 1 = .ok (.iconst 1, 1) := by decide +kernel
theorem dX5_wet_2 : decode cX5_wet 2 = .ok (.bipush 20, 2) := by decide +kernel
theorem dX5_wet_4 : decode cX5_wet 4 = .ok (.invokestatic 71, 3) := by decide +kernel
theorem dX5_wet_7 : decode cX5_wet 7 = .ok (.ifCond .eq 16, 3) := by decide +kernel
theorem dX5_wet_10 : decode cX5_wet 10 = .ok (.iload_n 2, 1) := by decide +kernel
theorem dX5_wet_11 : decode cX5_wet 11 = .ok (.iconst 0, 1) := by decide +kernel
theorem dX5_wet_12 : decode cX5_wet 12 = .ok (.iconst 1, 1) := by decide +kernel
theorem dX5_wet_13 : decode cX5_wet 13 = .ok (.iload_n 1, 1) := by decide +kernel
theorem dX5_wet_14 : decode cX5_wet 14 = .ok (.ishl, 1) := by decide +kernel
theorem dX5_wet_15 : decode cX5_wet 15 = .ok (.iconst 1, 1) := by decide +kernel
theorem dX5_wet_16 : decode cX5_wet 16 = .ok (.isub, 1) := by decide +kernel
theorem dX5_wet_17 : decode cX5_wet 17 = .ok (.invokestatic 71, 3) := by decide +kernel
theorem dX5_wet_20 : decode cX5_wet 20 = .ok (.ifCond .ne 5, 3) := by decide +kernel
theorem dX5_wet_23 : decode cX5_wet 23 = .ok (.iconst (-1), 1) := by decide +kernel
theorem dX5_wet_24 : decode cX5_wet 24 = .ok (.ireturn, 1) := by decide +kernel
theorem dX5_wet_25 : decode cX5_wet 25 = .ok (.aload_n 0, 1) := by decide +kernel
theorem dX5_wet_26 : decode cX5_wet 26 = .ok (.iload_n 1, 1) := by decide +kernel
theorem dX5_wet_27 : decode cX5_wet 27 = .ok (.putfield 44, 3) := by decide +kernel
theorem dX5_wet_30 : decode cX5_wet 30 = .ok (.aload_n 0, 1) := by decide +kernel
theorem dX5_wet_31 : decode cX5_wet 31 = .ok (.iload_n 2, 1) := by decide +kernel
theorem dX5_wet_32 : decode cX5_wet 32 = .ok (.putfield 197, 3) := by decide +kernel
theorem dX5_wet_35 : decode cX5_wet 35 = .ok (.iload_n 1, 1) := by decide +kernel
theorem dX5_wet_36 : decode cX5_wet 36 = .ok (.ireturn, 1) := by decide +kernel
theorem dX5_lastsBy_0 : decode cX5_lastsBy 0 = .ok (.aload_n 0, 1) := by decide +kernel
theorem dX5_lastsBy_1 : decode cX5_lastsBy 1 = .ok (.getfield 41, 3) := by decide +kernel
theorem dX5_lastsBy_4 : decode cX5_lastsBy 4 = .ok (.iconst 1, 1) := by decide +kernel
theorem dX5_lastsBy_5 : decode cX5_lastsBy 5 = .ok (.iaload, 1) := by decide +kernel
theorem dX5_lastsBy_6 : decode cX5_lastsBy 6 = .ok (.istore_n 2, 1) := by decide +kernel
theorem dX5_lastsBy_7 : decode cX5_lastsBy 7 = .ok (.aload_n 0, 1) := by decide +kernel
theorem dX5_lastsBy_8 : decode cX5_lastsBy 8 = .ok (.getfield 41, 3) := by decide +kernel
theorem dX5_lastsBy_11 : decode cX5_lastsBy 11 = .ok (.iconst 2, 1) := by decide +kernel
theorem dX5_lastsBy_12 : decode cX5_lastsBy 12 = .ok (.iaload, 1) := by decide +kernel
theorem dX5_lastsBy_13 : decode cX5_lastsBy 13 = .ok (.istore_n 3, 1) := by decide +kernel
theorem dX5_lastsBy_14 : decode cX5_lastsBy 14 = .ok (.aload_n 0, 1) := by decide +kernel
theorem dX5_lastsBy_15 : decode cX5_lastsBy 15 = .ok (.getfield 41, 3) := by decide +kernel
theorem dX5_lastsBy_18 : decode cX5_lastsBy 18 = .ok (.iconst 3, 1) := by decide +kernel
theorem dX5_lastsBy_19 : decode cX5_lastsBy 19 = .ok (.iaload, 1) := by decide +kernel
theorem dX5_lastsBy_20 : decode cX5_lastsBy 20 = .ok (.istore 4, 2) := by decide +kernel
theorem dX5_lastsBy_22 : decode cX5_lastsBy 22 = .ok (.iconst 0, 1) := by decide +kernel
theorem dX5_lastsBy_23 : decode cX5_lastsBy 23 = .ok (.istore 5, 2) := by decide +kernel
theorem dX5_lastsBy_25 : decode cX5_lastsBy 25 = .ok (.aload_n 0, 1) := by decide +kernel
theorem dX5_lastsBy_26 : decode cX5_lastsBy 26 = .ok (.getfield 7, 3) := by decide +kernel
theorem dX5_lastsBy_29 : decode cX5_lastsBy 29 = .ok (.iconst 2, 1) := by decide +kernel
theorem dX5_lastsBy_30 : decode cX5_lastsBy 30 = .ok (.iaload, 1) := by decide +kernel
theorem dX5_lastsBy_31 : decode cX5_lastsBy 31 = .ok (.aload_n 0, 1) := by decide +kernel
theorem dX5_lastsBy_32 : decode cX5_lastsBy 32 = .ok (.getfield 7, 3) := by decide +kernel
theorem dX5_lastsBy_35 : decode cX5_lastsBy 35 = .ok (.iconst 0, 1) := by decide +kernel
theorem dX5_lastsBy_36 : decode cX5_lastsBy 36 = .ok (.iaload, 1) := by decide +kernel
theorem dX5_lastsBy_37 : decode cX5_lastsBy 37 = .ok (.imul, 1) := by decide +kernel
theorem dX5_lastsBy_38 : decode cX5_lastsBy 38 = .ok (.sipush 999, 3) := by decide +kernel
theorem dX5_lastsBy_41 : decode cX5_lastsBy 41 = .ok (.iadd, 1) := by decide +kernel
theorem dX5_lastsBy_42 : decode cX5_lastsBy 42 = .ok (.sipush 1000, 3) := by decide +kernel
theorem dX5_lastsBy_45 : decode cX5_lastsBy 45 = .ok (.idiv, 1) := by decide +kernel
theorem dX5_lastsBy_46 : decode cX5_lastsBy 46 = .ok (.istore 6, 2) := by decide +kernel
theorem dX5_lastsBy_48 : decode cX5_lastsBy 48 = .ok (.iconst 0, 1) := by decide +kernel
theorem dX5_lastsBy_49 : decode cX5_lastsBy 49 = .ok (.istore 7, 2) := by decide +kernel
theorem dX5_lastsBy_51 : decode cX5_lastsBy 51 = .ok (.iload 7, 2) := by decide +kernel
theorem dX5_lastsBy_53 : decode cX5_lastsBy 53 = .ok (.bipush 100, 2) := by decide +kernel
theorem dX5_lastsBy_55 : decode cX5_lastsBy 55 = .ok (.if_icmp .ge 200, 3) := by decide +kernel
theorem dX5_lastsBy_58 : decode cX5_lastsBy 58 = .ok (.aload_n 0, 1) := by decide +kernel
theorem dX5_lastsBy_59 : decode cX5_lastsBy 59 = .ok (.getfield 197, 3) := by decide +kernel
theorem dX5_lastsBy_62 : decode cX5_lastsBy 62 = .ok (.iload 7, 2) := by decide +kernel
theorem dX5_lastsBy_64 : decode cX5_lastsBy 64 = .ok (.aload_n 0, 1) := by decide +kernel
theorem dX5_lastsBy_65 : decode cX5_lastsBy 65 = .ok (.getfield 44, 3) := by decide +kernel
theorem dX5_lastsBy_68 : decode cX5_lastsBy 68 = .ok (.irem, 1) := by decide +kernel
theorem dX5_lastsBy_69 : decode cX5_lastsBy 69 = .ok (.ishr, 1) := by decide +kernel
theorem dX5_lastsBy_70 : decode cX5_lastsBy 70 = .ok (.iconst 1, 1) := by decide +kernel
theorem dX5_lastsBy_71 : decode cX5_lastsBy 71 = .ok (.iand, 1) := by decide +kernel
theorem dX5_lastsBy_72 : decode cX5_lastsBy 72 = .ok (.iconst 1, 1) := by decide +kernel
theorem dX5_lastsBy_73 : decode cX5_lastsBy 73 = .ok (.if_icmp .ne 7, 3) := by decide +kernel
theorem dX5_lastsBy_76 : decode cX5_lastsBy 76 = .ok (.iconst 1, 1) := by decide +kernel
theorem dX5_lastsBy_77 : decode cX5_lastsBy 77 = .ok (.goto 4, 3) := by decide +kernel
theorem dX5_lastsBy_80 : decode cX5_lastsBy 80 = .ok (.iconst 0, 1) := by decide +kernel
theorem dX5_lastsBy_81 : decode cX5_lastsBy 81 = .ok (.istore 8, 2) := by decide +kernel
theorem dX5_lastsBy_83 : decode cX5_lastsBy 83 = .ok (.iload 8, 2) := by decide +kernel
theorem dX5_lastsBy_85 : decode cX5_lastsBy 85 = .ok (.ifCond .eq 15, 3) := by decide +kernel
theorem dX5_lastsBy_88 : decode cX5_lastsBy 88 = .ok (.iload 6, 2) := by decide +kernel
theorem dX5_lastsBy_90 : decode cX5_lastsBy 90 = .ok (.iload 6, 2) := by decide +kernel
theorem dX5_lastsBy_92 : decode cX5_lastsBy 92 = .ok (.iconst 3, 1) := by decide +kernel
theorem dX5_lastsBy_93 : decode cX5_lastsBy 93 = .ok (.iadd, 1) := by decide +kernel
theorem dX5_lastsBy_94 : decode cX5_lastsBy 94 = .ok (.iconst 4, 1) := by decide +kernel
theorem dX5_lastsBy_95 : decode cX5_lastsBy 95 = .ok (.idiv, 1) := by decide +kernel
theorem dX5_lastsBy_96 : decode cX5_lastsBy 96 = .ok (.iadd, 1) := by decide +kernel
theorem dX5_lastsBy_97 : decode cX5_lastsBy 97 = .ok (.goto 5, 3) := by decide +kernel
theorem dX5_lastsBy_100 : decode cX5_lastsBy 100 = .ok (.iload 6, 2) := by decide +kernel
theorem dX5_lastsBy_102 : decode cX5_lastsBy 102 = .ok (.istore 9, 2) := by decide +kernel
theorem dX5_lastsBy_104 : decode cX5_lastsBy 104 = .ok (.bipush 30, 2) := by decide +kernel
theorem dX5_lastsBy_106 : decode cX5_lastsBy 106 = .ok (.aload_n 0, 1) := by decide +kernel
theorem dX5_lastsBy_107 : decode cX5_lastsBy 107 = .ok (.getfield 41, 3) := by decide +kernel
theorem dX5_lastsBy_110 : decode cX5_lastsBy 110 = .ok (.iconst 0, 1) := by decide +kernel
theorem dX5_lastsBy_111 : decode cX5_lastsBy 111 = .ok (.iaload, 1) := by decide +kernel
theorem dX5_lastsBy_112 : decode cX5_lastsBy 112 = .ok (.imul, 1) := by decide +kernel
theorem dX5_lastsBy_113 : decode cX5_lastsBy 113 = .ok (.istore 10, 2) := by decide +kernel
theorem dX5_lastsBy_115 : decode cX5_lastsBy 115 = .ok (.iload 4, 2) := by decide +kernel
theorem dX5_lastsBy_117 : decode cX5_lastsBy 117 = .ok (.aload_n 0, 1) := by decide +kernel
theorem dX5_lastsBy_118 : decode cX5_lastsBy 118 = .ok (.getfield 41, 3) := by decide +kernel
theorem dX5_lastsBy_121 : decode cX5_lastsBy 121 = .ok (.iconst 0, 1) := by decide +kernel
theorem dX5_lastsBy_122 : decode cX5_lastsBy 122 = .ok (.iaload, 1) := by decide +kernel
theorem dX5_lastsBy_123 : decode cX5_lastsBy 123 = .ok (.if_icmp .lt 7, 3) := by decide +kernel
theorem dX5_lastsBy_126 : decode cX5_lastsBy 126 = .ok (.iconst 1, 1) := by decide +kernel
theorem dX5_lastsBy_127 : decode cX5_lastsBy 127 = .ok (.goto 4, 3) := by decide +kernel
theorem dX5_lastsBy_130 : decode cX5_lastsBy 130 = .ok (.iconst 0, 1) := by decide +kernel
theorem dX5_lastsBy_131 : decode cX5_lastsBy 131 = .ok (.istore 11, 2) := by decide +kernel
theorem dX5_lastsBy_133 : decode cX5_lastsBy 133 = .ok (.iload 4, 2) := by decide +kernel
theorem dX5_lastsBy_135 : decode cX5_lastsBy 135 = .ok (.aload_n 0, 1) := by decide +kernel
theorem dX5_lastsBy_136 : decode cX5_lastsBy 136 = .ok (.getfield 41, 3) := by decide +kernel
theorem dX5_lastsBy_139 : decode cX5_lastsBy 139 = .ok (.iconst 0, 1) := by decide +kernel
theorem dX5_lastsBy_140 : decode cX5_lastsBy 140 = .ok (.iaload, 1) := by decide +kernel
theorem dX5_lastsBy_141 : decode cX5_lastsBy 141 = .ok (.isub, 1) := by decide +kernel
theorem dX5_lastsBy_142 : decode cX5_lastsBy 142 = .ok (.istore 4, 2) := by decide +kernel
theorem dX5_lastsBy_144 : decode cX5_lastsBy 144 = .ok (.iconst 0, 1) := by decide +kernel
theorem dX5_lastsBy_145 : decode cX5_lastsBy 145 = .ok (.istore 12, 2) := by decide +kernel
theorem dX5_lastsBy_147 : decode cX5_lastsBy 147 = .ok (.iload 12, 2) := by decide +kernel
theorem dX5_lastsBy_149 : decode cX5_lastsBy 149 = .ok (.iload_n 1, 1) := by decide +kernel
theorem dX5_lastsBy_150 : decode cX5_lastsBy 150 = .ok (.if_icmp .ge 91, 3) := by decide +kernel
theorem dX5_lastsBy_153 : decode cX5_lastsBy 153 = .ok (.iload 11, 2) := by decide +kernel
theorem dX5_lastsBy_155 : decode cX5_lastsBy 155 = .ok (.ifCond .eq 86, 3) := by decide +kernel
theorem dX5_lastsBy_158 : decode cX5_lastsBy 158 = .ok (.iload 10, 2) := by decide +kernel
theorem dX5_lastsBy_160 : decode cX5_lastsBy 160 = .ok (.iload 9, 2) := by decide +kernel
theorem dX5_lastsBy_162 : decode cX5_lastsBy 162 = .ok (.if_icmp .lt 11, 3) := by decide +kernel
theorem dX5_lastsBy_165 : decode cX5_lastsBy 165 = .ok (.iload_n 2, 1) := by decide +kernel
theorem dX5_lastsBy_166 : decode cX5_lastsBy 166 = .ok (.ifCond .le 7, 3) := by decide +kernel
theorem dX5_lastsBy_169 : decode cX5_lastsBy 169 = .ok (.iconst 1, 1) := by decide +kernel
theorem dX5_lastsBy_170 : decode cX5_lastsBy 170 = .ok (.goto 4, 3) := by decide +kernel
theorem dX5_lastsBy_173 : decode cX5_lastsBy 173 = .ok (.iconst 0, 1) := by decide +kernel
theorem dX5_lastsBy_174 : decode cX5_lastsBy 174 = .ok (.istore 11, 2) := by decide +kernel
theorem dX5_lastsBy_176 : decode cX5_lastsBy 176 = .ok (.iload 10, 2) := by decide +kernel
theorem dX5_lastsBy_178 : decode cX5_lastsBy 178 = .ok (.iload 9, 2) := by decide +kernel
theorem dX5_lastsBy_180 : decode cX5_lastsBy 180 = .ok (.isub, 1) := by decide +kernel
theorem dX5_lastsBy_181 : decode cX5_lastsBy 181 = .ok (.istore 10, 2) := by decide +kernel
theorem dX5_lastsBy_183 : decode cX5_lastsBy 183 = .ok (.iinc 2 (-1), 3) := by decide +kernel
theorem dX5_lastsBy_186 : decode cX5_lastsBy 186 = .ok (.iload 5, 2) := by decide +kernel
theorem dX5_lastsBy_188 : decode cX5_lastsBy 188 = .ok (.iload 8, 2) := by decide +kernel
theorem dX5_lastsBy_190 : decode cX5_lastsBy 190 = .ok (.ifCond .eq 7, 3) := by decide +kernel
theorem dX5_lastsBy_193 : decode cX5_lastsBy 193 = .ok (.iconst 2, 1) := by decide +kernel
theorem dX5_lastsBy_194 : decode cX5_lastsBy 194 = .ok (.goto 4, 3) := by decide +kernel
theorem dX5_lastsBy_197 : decode cX5_lastsBy 197 = .ok (.iconst 1, 1) := by decide +kernel
theorem dX5_lastsBy_198 : decode cX5_lastsBy 198 = .ok (.iadd, 1) := by decide +kernel
theorem dX5_lastsBy_199 : decode cX5_lastsBy 199 = .ok (.istore 5, 2) := by decide +kernel
theorem dX5_lastsBy_201 : decode cX5_lastsBy 201 = .ok (.iload 11, 2) := by decide +kernel
theorem dX5_lastsBy_203 : decode cX5_lastsBy 203 = .ok (.ifCond .eq 32, 3) := by decide +kernel
theorem dX5_lastsBy_206 : decode cX5_lastsBy 206 = .ok (.iload 5, 2) := by decide +kernel
theorem dX5_lastsBy_208 : decode cX5_lastsBy 208 = .ok (.aload_n 0, 1) := by decide +kernel
theorem dX5_lastsBy_209 : decode cX5_lastsBy 209 = .ok (.getfield 41, 3) := by decide +kernel
theorem dX5_lastsBy_212 : decode cX5_lastsBy 212 = .ok (.iconst 4, 1) := by decide +kernel
theorem dX5_lastsBy_213 : decode cX5_lastsBy 213 = .ok (.iaload, 1) := by decide +kernel
theorem dX5_lastsBy_214 : decode cX5_lastsBy 214 = .ok (.if_icmp .lt 21, 3) := by decide +kernel
theorem dX5_lastsBy_217 : decode cX5_lastsBy 217 = .ok (.iload_n 3, 1) := by decide +kernel
theorem dX5_lastsBy_218 : decode cX5_lastsBy 218 = .ok (.iconst 3, 1) := by decide +kernel
theorem dX5_lastsBy_219 : decode cX5_lastsBy 219 = .ok (.if_icmp .lt 7, 3) := by decide +kernel
theorem dX5_lastsBy_222 : decode cX5_lastsBy 222 = .ok (.iconst 1, 1) := by decide +kernel
theorem dX5_lastsBy_223 : decode cX5_lastsBy 223 = .ok (.goto 4, 3) := by decide +kernel
theorem dX5_lastsBy_226 : decode cX5_lastsBy 226 = .ok (.iconst 0, 1) := by decide +kernel
theorem dX5_lastsBy_227 : decode cX5_lastsBy 227 = .ok (.istore 11, 2) := by decide +kernel
theorem dX5_lastsBy_229 : decode cX5_lastsBy 229 = .ok (.iinc 3 (-3), 3) := by decide +kernel
theorem dX5_lastsBy_232 : decode cX5_lastsBy 232 = .ok (.iconst 0, 1) := by decide +kernel
theorem dX5_lastsBy_233 : decode cX5_lastsBy 233 = .ok (.istore 5, 2) := by decide +kernel
theorem dX5_lastsBy_235 : decode cX5_lastsBy 235 = .ok (.iinc 12 1, 3) := by decide +kernel
theorem dX5_lastsBy_238 : decode cX5_lastsBy 238 = .ok (.goto (-91), 3) := by decide +kernel
theorem dX5_lastsBy_241 : decode cX5_lastsBy 241 = .ok (.iload 11, 2) := by decide +kernel
theorem dX5_lastsBy_243 : decode cX5_lastsBy 243 = .ok (.ifCond .ne 6, 3) := by decide +kernel
theorem dX5_lastsBy_246 : decode cX5_lastsBy 246 = .ok (.iload 7, 2) := by decide +kernel
theorem dX5_lastsBy_248 : decode cX5_lastsBy 248 = .ok (.ireturn, 1) := by decide +kernel
theorem dX5_lastsBy_249 : decode cX5_lastsBy 249 = .ok (.iinc 7 1, 3) := by decide +kernel
theorem dX5_lastsBy_252 : decode cX5_lastsBy 252 = .ok (.goto (-201), 3) := by decide +kernel
theorem dX5_lastsBy_255 : decode cX5_lastsBy 255 = .ok (.bipush 100, 2) := by decide +kernel
theorem dX5_lastsBy_257 : decode cX5_lastsBy 257 = .ok (.ireturn, 1) := by decide +kernel
theorem dX5_lasts_0 : decode cX5_lasts 0 = .ok (.iload_n 1, 1) := by decide +kernel
theorem dX5_lasts_1 : decode cX5_lasts 1 = .ok (.iconst 0, 1) := by decide +kernel
theorem dX5_lasts_2 : decode cX5_lasts 2 = .ok (.bipush 60, 2) := by decide +kernel
theorem dX5_lasts_4 : decode cX5_lasts 4 = .ok (.invokestatic 71, 3) := by decide +kernel
theorem dX5_lasts_7 : decode cX5_lasts 7 = .ok (.ifCond .eq 11, 3) := by decide +kernel
theorem dX5_lasts_10 : decode cX5_lasts 10 = .ok (.aload_n 0, 1) := by decide +kernel
theorem dX5_lasts_11 : decode cX5_lasts 11 = .ok (.iload_n 1, 1) := by decide +kernel
theorem dX5_lasts_12 : decode cX5_lasts 12 = .ok (.invokevirtual 200, 3) := by decide +kernel
theorem dX5_lasts_15 : decode cX5_lasts 15 = .ok (.goto 4, 3) := by decide +kernel
theorem dX5_lasts_18 : decode cX5_lasts 18 = .ok (.iconst (-1), 1) := by decide +kernel
theorem dX5_lasts_19 : decode cX5_lasts 19 = .ok (.ireturn, 1) := by decide +kernel
theorem dX5_rate_0 : decode cX5_rate 0 = .ok (.iload_n 1, 1) := by decide +kernel
theorem dX5_rate_1 : decode cX5_rate 1 = .ok (.iconst 1, 1) := by decide +kernel
theorem dX5_rate_2 : decode cX5_rate 2 = .ok (.bipush 100, 2) := by decide +kernel
theorem dX5_rate_4 : decode cX5_rate 4 = .ok (.invokestatic 71, 3) := by decide +kernel
theorem dX5_rate_7 : decode cX5_rate 7 = .ok (.ifCond .ne 5, 3) := by decide +kernel
theorem dX5_rate_10 : decode cX5_rate 10 = .ok (.iconst (-1), 1) := by decide +kernel
theorem dX5_rate_11 : decode cX5_rate 11 = .ok (.ireturn, 1) := by decide +kernel
theorem dX5_rate_12 : decode cX5_rate 12 = .ok (.bipush 60, 2) := by decide +kernel
theorem dX5_rate_14 : decode cX5_rate 14 = .ok (.istore_n 2, 1) := by decide +kernel
theorem dX5_rate_15 : decode cX5_rate 15 = .ok (.iload_n 2, 1) := by decide +kernel
theorem dX5_rate_16 : decode cX5_rate 16 = .ok (.ifCond .lt 20, 3) := by decide +kernel
theorem dX5_rate_19 : decode cX5_rate 19 = .ok (.aload_n 0, 1) := by decide +kernel
theorem dX5_rate_20 : decode cX5_rate 20 = .ok (.iload_n 2, 1) := by decide +kernel
theorem dX5_rate_21 : decode cX5_rate 21 = .ok (.invokevirtual 200, 3) := by decide +kernel
theorem dX5_rate_24 : decode cX5_rate 24 = .ok (.iload_n 1, 1) := by decide +kernel
theorem dX5_rate_25 : decode cX5_rate 25 = .ok (.if_icmp .lt 5, 3) := by decide +kernel
theorem dX5_rate_28 : decode cX5_rate 28 = .ok (.iload_n 2, 1) := by decide +kernel
theorem dX5_rate_29 : decode cX5_rate 29 = .ok (.ireturn, 1) := by decide +kernel
theorem dX5_rate_30 : decode cX5_rate 30 = .ok (.iinc 2 (-1), 3) := by decide +kernel
theorem dX5_rate_33 : decode cX5_rate 33 = .ok (.goto (-18), 3) := by decide +kernel
theorem dX5_rate_36 : decode cX5_rate 36 = .ok (.bipush (-9), 2) := by decide +kernel
theorem dX5_rate_38 : decode cX5_rate 38 = .ok (.ireturn, 1) := by decide +kernel
theorem dX5_count_0 : decode cX5_count 0 = .ok (.iconst 0, 1) := by decide +kernel
theorem dX5_count_1 : decode cX5_count 1 = .ok (.istore_n 2, 1) := by decide +kernel
theorem dX5_count_2 : decode cX5_count 2 = .ok (.iload_n 1, 1) := by decide +kernel
theorem dX5_count_3 : decode cX5_count 3 = .ok (.tableswitch 141 0 7 #[45, 50, 55, 60, 86, 91, 96, 103], 45) := by decide +kernel
theorem dX5_count_48 : decode cX5_count 48 = .ok (.aload_n 0, 1) := by decide +kernel
theorem dX5_count_49 : decode cX5_count 49 = .ok (.getfield 82, 3) := by decide +kernel
theorem dX5_count_52 : decode cX5_count 52 = .ok (.ireturn, 1) := by decide +kernel
theorem dX5_count_53 : decode cX5_count 53 = .ok (.aload_n 0, 1) := by decide +kernel
theorem dX5_count_54 : decode cX5_count 54 = .ok (.getfield 23, 3) := by decide +kernel
theorem dX5_count_57 : decode cX5_count 57 = .ok (.ireturn, 1) := by decide +kernel
theorem dX5_count_58 : decode cX5_count 58 = .ok (.aload_n 0, 1) := by decide +kernel
theorem dX5_count_59 : decode cX5_count 59 = .ok (.getfield 26, 3) := by decide +kernel
theorem dX5_count_62 : decode cX5_count 62 = .ok (.ireturn, 1) := by decide +kernel
theorem dX5_count_63 : decode cX5_count 63 = .ok (.iconst 0, 1) := by decide +kernel
theorem dX5_count_64 : decode cX5_count 64 = .ok (.istore_n 3, 1) := by decide +kernel
theorem dX5_count_65 : decode cX5_count 65 = .ok (.iload_n 3, 1) := by decide +kernel
theorem dX5_count_66 : decode cX5_count 66 = .ok (.aload_n 0, 1) := by decide +kernel
theorem dX5_count_67 : decode cX5_count 67 = .ok (.getfield 23, 3) := by decide +kernel
theorem dX5_count_70 : decode cX5_count 70 = .ok (.if_icmp .ge 17, 3) := by decide +kernel
theorem dX5_count_73 : decode cX5_count 73 = .ok (.iload_n 2, 1) := by decide +kernel
theorem dX5_count_74 : decode cX5_count 74 = .ok (.aload_n 0, 1) := by decide +kernel
theorem dX5_count_75 : decode cX5_count 75 = .ok (.iload_n 3, 1) := by decide +kernel
theorem dX5_count_76 : decode cX5_count 76 = .ok (.invokevirtual 170, 3) := by decide +kernel
theorem dX5_count_79 : decode cX5_count 79 = .ok (.iadd, 1) := by decide +kernel
theorem dX5_count_80 : decode cX5_count 80 = .ok (.istore_n 2, 1) := by decide +kernel
theorem dX5_count_81 : decode cX5_count 81 = .ok (.iinc 3 1, 3) := by decide +kernel
theorem dX5_count_84 : decode cX5_count 84 = .ok (.goto (-19), 3) := by decide +kernel
theorem dX5_count_87 : decode cX5_count 87 = .ok (.iload_n 2, 1) := by decide +kernel
theorem dX5_count_88 : decode cX5_count 88 = .ok (.ireturn, 1) := by decide +kernel
theorem dX5_count_89 : decode cX5_count 89 = .ok (.aload_n 0, 1) := by decide +kernel
theorem dX5_count_90 : decode cX5_count 90 = .ok (.getfield 141, 3) := by decide +kernel
theorem dX5_count_93 : decode cX5_count 93 = .ok (.ireturn, 1) := by decide +kernel
theorem dX5_count_94 : decode cX5_count 94 = .ok (.aload_n 0, 1) := by decide +kernel
theorem dX5_count_95 : decode cX5_count 95 = .ok (.getfield 194, 3) := by decide +kernel
theorem dX5_count_98 : decode cX5_count 98 = .ok (.ireturn, 1) := by decide +kernel
theorem dX5_count_99 : decode cX5_count 99 = .ok (.aload_n 0, 1) := by decide +kernel
theorem dX5_count_100 : decode cX5_count 100 = .ok (.getfield 41, 3) := by decide +kernel
theorem dX5_count_103 : decode cX5_count 103 = .ok (.iconst 1, 1) := by decide +kernel
theorem dX5_count_104 : decode cX5_count 104 = .ok (.iaload, 1) := by decide +kernel
theorem dX5_count_105 : decode cX5_count 105 = .ok (.ireturn, 1) := by decide +kernel
theorem dX5_count_106 : decode cX5_count 106 = .ok (.iconst 0, 1) := by decide +kernel
theorem dX5_count_107 : decode cX5_count 107 = .ok (.istore_n 3, 1) := by decide +kernel
theorem dX5_count_108 : decode cX5_count 108 = .ok (.iload_n 3, 1) := by decide +kernel
theorem dX5_count_109 : decode cX5_count 109 = .ok (.aload_n 0, 1) := by decide +kernel
theorem dX5_count_110 : decode cX5_count 110 = .ok (.getfield 23, 3) := by decide +kernel
theorem dX5_count_113 : decode cX5_count 113 = .ok (.if_icmp .ge 29, 3) := by decide +kernel
theorem dX5_count_116 : decode cX5_count 116 = .ok (.iload_n 2, 1) := by decide +kernel
theorem dX5_count_117 : decode cX5_count 117 = .ok (.aload_n 0, 1) := by decide +kernel
theorem dX5_count_118 : decode cX5_count 118 = .ok (.iload_n 3, 1) := by decide +kernel
theorem dX5_count_119 : decode cX5_count 119 = .ok (.invokevirtual 170, 3) := by decide +kernel
theorem dX5_count_122 : decode cX5_count 122 = .ok (.aload_n 0, 1) := by decide +kernel
theorem dX5_count_123 : decode cX5_count 123 = .ok (.getfield 167, 3) := by decide +kernel
theorem dX5_count_126 : decode cX5_count 126 = .ok (.if_icmp .gt 7, 3) := by decide +kernel
theorem dX5_count_129 : decode cX5_count 129 = .ok (.iconst 1, 1) := by decide +kernel
theorem dX5_count_130 : decode cX5_count 130 = .ok (.goto 4, 3) := by decide +kernel
theorem dX5_count_133 : decode cX5_count 133 = .ok (.iconst 0, 1) := by decide +kernel
theorem dX5_count_134 : decode cX5_count 134 = .ok (.iadd, 1) := by decide +kernel
theorem dX5_count_135 : decode cX5_count 135 = .ok (.istore_n 2, 1) := by decide +kernel
theorem dX5_count_136 : decode cX5_count 136 = .ok (.iinc 3 1, 3) := by decide +kernel
theorem dX5_count_139 : decode cX5_count 139 = .ok (.goto (-31), 3) := by decide +kernel
theorem dX5_count_142 : decode cX5_count 142 = .ok (.iload_n 2, 1) := by decide +kernel
theorem dX5_count_143 : decode cX5_count 143 = .ok (.ireturn, 1) := by decide +kernel
theorem dX5_count_144 : decode cX5_count 144 = .ok (.iconst (-1), 1) := by decide +kernel
theorem dX5_count_145 : decode cX5_count 145 = .ok (.ireturn, 1) := by decide +kernel
theorem dX5_trace_0 : decode cX5_trace 0 = .ok (.aload_n 0, 1) := by decide +kernel
theorem dX5_trace_1 : decode cX5_trace 1 = .ok (.getfield 133, 3) := by decide +kernel
theorem dX5_trace_4 : decode cX5_trace 4 = .ok (.lreturn, 1) := by decide +kernel
theorem dJ6_bitCount_0f7a4_0 : decode cJ6_bitCount_0f7a4 0 = .ok (.iload_n 0, 1) := by decide +kernel
theorem dJ6_bitCount_0f7a4_1 : decode cJ6_bitCount_0f7a4 1 = .ok (.iload_n 0, 1) := by decide +kernel
theorem dJ6_bitCount_0f7a4_2 : decode cJ6_bitCount_0f7a4 2 = .ok (.iconst 1, 1) := by decide +kernel
theorem dJ6_bitCount_0f7a4_3 : decode cJ6_bitCount_0f7a4 3 = .ok (.iushr, 1) := by decide +kernel
theorem dJ6_bitCount_0f7a4_4 : decode cJ6_bitCount_0f7a4 4 = .ok (.ldc_w 265, 3) := by decide +kernel
theorem dJ6_bitCount_0f7a4_7 : decode cJ6_bitCount_0f7a4 7 = .ok (.iand, 1) := by decide +kernel
theorem dJ6_bitCount_0f7a4_8 : decode cJ6_bitCount_0f7a4 8 = .ok (.isub, 1) := by decide +kernel
theorem dJ6_bitCount_0f7a4_9 : decode cJ6_bitCount_0f7a4 9 = .ok (.istore_n 0, 1) := by decide +kernel
theorem dJ6_bitCount_0f7a4_10 : decode cJ6_bitCount_0f7a4 10 = .ok (.iload_n 0, 1) := by decide +kernel
theorem dJ6_bitCount_0f7a4_11 : decode cJ6_bitCount_0f7a4 11 = .ok (.ldc_w 266, 3) := by decide +kernel
theorem dJ6_bitCount_0f7a4_14 : decode cJ6_bitCount_0f7a4 14 = .ok (.iand, 1) := by decide +kernel
theorem dJ6_bitCount_0f7a4_15 : decode cJ6_bitCount_0f7a4 15 = .ok (.iload_n 0, 1) := by decide +kernel
theorem dJ6_bitCount_0f7a4_16 : decode cJ6_bitCount_0f7a4 16 = .ok (.iconst 2, 1) := by decide +kernel
theorem dJ6_bitCount_0f7a4_17 : decode cJ6_bitCount_0f7a4 17 = .ok (.iushr, 1) := by decide +kernel
theorem dJ6_bitCount_0f7a4_18 : decode cJ6_bitCount_0f7a4 18 = .ok (.ldc_w 266, 3) := by decide +kernel
theorem dJ6_bitCount_0f7a4_21 : decode cJ6_bitCount_0f7a4 21 = .ok (.iand, 1) := by decide +kernel
theorem dJ6_bitCount_0f7a4_22 : decode cJ6_bitCount_0f7a4 22 = .ok (.iadd, 1) := by decide +kernel
theorem dJ6_bitCount_0f7a4_23 : decode cJ6_bitCount_0f7a4 23 = .ok (.istore_n 0, 1) := by decide +kernel
theorem dJ6_bitCount_0f7a4_24 : decode cJ6_bitCount_0f7a4 24 = .ok (.iload_n 0, 1) := by decide +kernel
theorem dJ6_bitCount_0f7a4_25 : decode cJ6_bitCount_0f7a4 25 = .ok (.iload_n 0, 1) := by decide +kernel
theorem dJ6_bitCount_0f7a4_26 : decode cJ6_bitCount_0f7a4 26 = .ok (.iconst 4, 1) := by decide +kernel
theorem dJ6_bitCount_0f7a4_27 : decode cJ6_bitCount_0f7a4 27 = .ok (.iushr, 1) := by decide +kernel
theorem dJ6_bitCount_0f7a4_28 : decode cJ6_bitCount_0f7a4 28 = .ok (.iadd, 1) := by decide +kernel
theorem dJ6_bitCount_0f7a4_29 : decode cJ6_bitCount_0f7a4 29 = .ok (.ldc_w 267, 3) := by decide +kernel
theorem dJ6_bitCount_0f7a4_32 : decode cJ6_bitCount_0f7a4 32 = .ok (.iand, 1) := by decide +kernel
theorem dJ6_bitCount_0f7a4_33 : decode cJ6_bitCount_0f7a4 33 = .ok (.istore_n 0, 1) := by decide +kernel
theorem dJ6_bitCount_0f7a4_34 : decode cJ6_bitCount_0f7a4 34 = .ok (.iload_n 0, 1) := by decide +kernel
theorem dJ6_bitCount_0f7a4_35 : decode cJ6_bitCount_0f7a4 35 = .ok (.iload_n 0, 1) := by decide +kernel
theorem dJ6_bitCount_0f7a4_36 : decode cJ6_bitCount_0f7a4 36 = .ok (.bipush 8, 2) := by decide +kernel
theorem dJ6_bitCount_0f7a4_38 : decode cJ6_bitCount_0f7a4 38 = .ok (.iushr, 1) := by decide +kernel
theorem dJ6_bitCount_0f7a4_39 : decode cJ6_bitCount_0f7a4 39 = .ok (.iadd, 1) := by decide +kernel
theorem dJ6_bitCount_0f7a4_40 : decode cJ6_bitCount_0f7a4 40 = .ok (.istore_n 0, 1) := by decide +kernel
theorem dJ6_bitCount_0f7a4_41 : decode cJ6_bitCount_0f7a4 41 = .ok (.iload_n 0, 1) := by decide +kernel
theorem dJ6_bitCount_0f7a4_42 : decode cJ6_bitCount_0f7a4 42 = .ok (.iload_n 0, 1) := by decide +kernel
theorem dJ6_bitCount_0f7a4_43 : decode cJ6_bitCount_0f7a4 43 = .ok (.bipush 16, 2) := by decide +kernel
theorem dJ6_bitCount_0f7a4_45 : decode cJ6_bitCount_0f7a4 45 = .ok (.iushr, 1) := by decide +kernel
theorem dJ6_bitCount_0f7a4_46 : decode cJ6_bitCount_0f7a4 46 = .ok (.iadd, 1) := by decide +kernel
theorem dJ6_bitCount_0f7a4_47 : decode cJ6_bitCount_0f7a4 47 = .ok (.istore_n 0, 1) := by decide +kernel
theorem dJ6_bitCount_0f7a4_48 : decode cJ6_bitCount_0f7a4 48 = .ok (.iload_n 0, 1) := by decide +kernel
theorem dJ6_bitCount_0f7a4_49 : decode cJ6_bitCount_0f7a4 49 = .ok (.bipush 63, 2) := by decide +kernel
theorem dJ6_bitCount_0f7a4_51 : decode cJ6_bitCount_0f7a4 51 = .ok (.iand, 1) := by decide +kernel
theorem dJ6_bitCount_0f7a4_52 : decode cJ6_bitCount_0f7a4 52 = .ok (.ireturn, 1) := by decide +kernel
theorem dJ9_floorDiv_f86c9_0 : decode cJ9_floorDiv_f86c9 0 = .ok (.lload_n 0, 1) := by decide +kernel
theorem dJ9_floorDiv_f86c9_1 : decode cJ9_floorDiv_f86c9 1 = .ok (.lload_n 2, 1) := by decide +kernel
theorem dJ9_floorDiv_f86c9_2 : decode cJ9_floorDiv_f86c9 2 = .ok (.ldiv, 1) := by decide +kernel
theorem dJ9_floorDiv_f86c9_3 : decode cJ9_floorDiv_f86c9 3 = .ok (.lstore 4, 2) := by decide +kernel
theorem dJ9_floorDiv_f86c9_5 : decode cJ9_floorDiv_f86c9 5 = .ok (.lload_n 0, 1) := by decide +kernel
theorem dJ9_floorDiv_f86c9_6 : decode cJ9_floorDiv_f86c9 6 = .ok (.lload_n 2, 1) := by decide +kernel
theorem dJ9_floorDiv_f86c9_7 : decode cJ9_floorDiv_f86c9 7 = .ok (.lxor, 1) := by decide +kernel
theorem dJ9_floorDiv_f86c9_8 : decode cJ9_floorDiv_f86c9 8 = .ok (.lconst 0, 1) := by decide +kernel
theorem dJ9_floorDiv_f86c9_9 : decode cJ9_floorDiv_f86c9 9 = .ok (.lcmp, 1) := by decide +kernel
theorem dJ9_floorDiv_f86c9_10 : decode cJ9_floorDiv_f86c9 10 = .ok (.ifCond .ge 17, 3) := by decide +kernel
theorem dJ9_floorDiv_f86c9_13 : decode cJ9_floorDiv_f86c9 13 = .ok (.lload 4, 2) := by decide +kernel
theorem dJ9_floorDiv_f86c9_15 : decode cJ9_floorDiv_f86c9 15 = .ok (.lload_n 2, 1) := by decide +kernel
theorem dJ9_floorDiv_f86c9_16 : decode cJ9_floorDiv_f86c9 16 = .ok (.lmul, 1) := by decide +kernel
theorem dJ9_floorDiv_f86c9_17 : decode cJ9_floorDiv_f86c9 17 = .ok (.lload_n 0, 1) := by decide +kernel
theorem dJ9_floorDiv_f86c9_18 : decode cJ9_floorDiv_f86c9 18 = .ok (.lcmp, 1) := by decide +kernel
theorem dJ9_floorDiv_f86c9_19 : decode cJ9_floorDiv_f86c9 19 = .ok (.ifCond .eq 8, 3) := by decide +kernel
theorem dJ9_floorDiv_f86c9_22 : decode cJ9_floorDiv_f86c9 22 = .ok (.lload 4, 2) := by decide +kernel
theorem dJ9_floorDiv_f86c9_24 : decode cJ9_floorDiv_f86c9 24 = .ok (.lconst 1, 1) := by decide +kernel
theorem dJ9_floorDiv_f86c9_25 : decode cJ9_floorDiv_f86c9 25 = .ok (.lsub, 1) := by decide +kernel
theorem dJ9_floorDiv_f86c9_26 : decode cJ9_floorDiv_f86c9 26 = .ok (.lreturn, 1) := by decide +kernel
theorem dJ9_floorDiv_f86c9_27 : decode cJ9_floorDiv_f86c9 27 = .ok (.lload 4, 2) := by decide +kernel
theorem dJ9_floorDiv_f86c9_29 : decode cJ9_floorDiv_f86c9 29 = .ok (.lreturn, 1) := by decide +kernel
theorem dJ9_abs_0f7a4_0 : decode cJ9_abs_0f7a4 0 = .ok (.iload_n 0, 1) := by decide +kernel
theorem dJ9_abs_0f7a4_1 : decode cJ9_abs_0f7a4 1 = .ok (.ifCond .ge 8, 3) := by decide +kernel
theorem dJ9_abs_0f7a4_4 : decode cJ9_abs_0f7a4 4 = .ok (.iload_n 0, 1) := by decide +kernel
theorem dJ9_abs_0f7a4_5 : decode cJ9_abs_0f7a4 5 = .ok (.ineg, 1) := by decide +kernel
theorem dJ9_abs_0f7a4_6 : decode cJ9_abs_0f7a4 6 = .ok (.goto 4, 3) := by decide +kernel
theorem dJ9_abs_0f7a4_9 : decode cJ9_abs_0f7a4 9 = .ok (.iload_n 0, 1) := by decide +kernel
theorem dJ9_abs_0f7a4_10 : decode cJ9_abs_0f7a4 10 = .ok (.ireturn, 1) := by decide +kernel
theorem dJ9_max_7cf53_0 : decode cJ9_max_7cf53 0 = .ok (.iload_n 0, 1) := by decide +kernel
theorem dJ9_max_7cf53_1 : decode cJ9_max_7cf53 1 = .ok (.iload_n 1, 1) := by decide +kernel
theorem dJ9_max_7cf53_2 : decode cJ9_max_7cf53 2 = .ok (.if_icmp .lt 7, 3) := by decide +kernel
theorem dJ9_max_7cf53_5 : decode cJ9_max_7cf53 5 = .ok (.iload_n 0, 1) := by decide +kernel
theorem dJ9_max_7cf53_6 : decode cJ9_max_7cf53 6 = .ok (.goto 4, 3) := by decide +kernel
theorem dJ9_max_7cf53_9 : decode cJ9_max_7cf53 9 = .ok (.iload_n 1, 1) := by decide +kernel
theorem dJ9_max_7cf53_10 : decode cJ9_max_7cf53 10 = .ok (.ireturn, 1) := by decide +kernel
theorem dJ9_max_f86c9_0 : decode cJ9_max_f86c9 0 = .ok (.lload_n 0, 1) := by decide +kernel
theorem dJ9_max_f86c9_1 : decode cJ9_max_f86c9 1 = .ok (.lload_n 2, 1) := by decide +kernel
theorem dJ9_max_f86c9_2 : decode cJ9_max_f86c9 2 = .ok (.lcmp, 1) := by decide +kernel
theorem dJ9_max_f86c9_3 : decode cJ9_max_f86c9 3 = .ok (.ifCond .lt 7, 3) := by decide +kernel
theorem dJ9_max_f86c9_6 : decode cJ9_max_f86c9 6 = .ok (.lload_n 0, 1) := by decide +kernel
theorem dJ9_max_f86c9_7 : decode cJ9_max_f86c9 7 = .ok (.goto 4, 3) := by decide +kernel
theorem dJ9_max_f86c9_10 : decode cJ9_max_f86c9 10 = .ok (.lload_n 2, 1) := by decide +kernel
theorem dJ9_max_f86c9_11 : decode cJ9_max_f86c9 11 = .ok (.lreturn, 1) := by decide +kernel
theorem dJ9_min_7cf53_0 : decode cJ9_min_7cf53 0 = .ok (.iload_n 0, 1) := by decide +kernel
theorem dJ9_min_7cf53_1 : decode cJ9_min_7cf53 1 = .ok (.iload_n 1, 1) := by decide +kernel
theorem dJ9_min_7cf53_2 : decode cJ9_min_7cf53 2 = .ok (.if_icmp .gt 7, 3) := by decide +kernel
theorem dJ9_min_7cf53_5 : decode cJ9_min_7cf53 5 = .ok (.iload_n 0, 1) := by decide +kernel
theorem dJ9_min_7cf53_6 : decode cJ9_min_7cf53 6 = .ok (.goto 4, 3) := by decide +kernel
theorem dJ9_min_7cf53_9 : decode cJ9_min_7cf53 9 = .ok (.iload_n 1, 1) := by decide +kernel
theorem dJ9_min_7cf53_10 : decode cJ9_min_7cf53 10 = .ok (.ireturn, 1) := by decide +kernel
theorem dJ9_min_f86c9_0 : decode cJ9_min_f86c9 0 = .ok (.lload_n 0, 1) := by decide +kernel
theorem dJ9_min_f86c9_1 : decode cJ9_min_f86c9 1 = .ok (.lload_n 2, 1) := by decide +kernel
theorem dJ9_min_f86c9_2 : decode cJ9_min_f86c9 2 = .ok (.lcmp, 1) := by decide +kernel
theorem dJ9_min_f86c9_3 : decode cJ9_min_f86c9 3 = .ok (.ifCond .gt 7, 3) := by decide +kernel
theorem dJ9_min_f86c9_6 : decode cJ9_min_f86c9 6 = .ok (.lload_n 0, 1) := by decide +kernel
theorem dJ9_min_f86c9_7 : decode cJ9_min_f86c9 7 = .ok (.goto 4, 3) := by decide +kernel
theorem dJ9_min_f86c9_10 : decode cJ9_min_f86c9 10 = .ok (.lload_n 2, 1) := by decide +kernel
theorem dJ9_min_f86c9_11 : decode cJ9_min_f86c9 11 = .ok (.lreturn, 1) := by decide +kernel
end
section
/-! base: the geometry of the cells, the surroundings of every call, one row a kind of call -/
abbrev St : Type := Nat → Nat → Int32
def up (σ : St) (k i : Nat) (x : Int32) : St := fun a => if a = k then upd (σ k) i x else σ a
/-- the addresses g a .. g (b - 1) are apart, and from lo on -/
def wI (g : Nat → Nat) (a b lo : Nat) : Prop := (∀ i j, a ≤ i → i < b → a ≤ j → j < b → g i = g j → i = j) ∧ ∀ i, a ≤ i → i < b → lo ≤ g i
def wA (g : Nat → Nat) (a b : Nat) : Nat → Prop := fun q => ∃ i, a ≤ i ∧ i < b ∧ q = g i
theorem wI.sub {g : Nat → Nat} {a b lo c d : Nat} (h : wI g a b lo) (h1 : a ≤ c) (h2 : d ≤ b) : wI g c d lo :=
  ⟨fun i j p q r t => h.1 i j (by omega) (by omega) (by omega) (by omega), fun i p q => h.2 i (by omega) (by omega)⟩
theorem wA.sub {g : Nat → Nat} {a b c d : Nat} (h1 : a ≤ c) (h2 : d ≤ b) : ∀ q, wA g c d q → wA g a b q := by
  rintro q ⟨i, p, r, e⟩
  exact ⟨i, by omega, by omega, e⟩
theorem wA.lo {g : Nat → Nat} {a b lo : Nat} (h : wI g a b lo) : ∀ q, wA g a b q → lo ≤ q := by
  rintro q ⟨i, p, r, rfl⟩
  exact h.2 i p r
theorem wD_at {g : Nat → Nat} {ws : va_W} {c n : Nat} (hm : ws.map Prod.fst = (List.range n).map (fun i => g (c + i))) {k : Nat} {q : Nat × va_E} (h : ws[k]? = some q) : k < n ∧ q.1 = g (c + k) := by
  have h1 : (ws.map Prod.fst)[k]? = some q.1 := by rw [List.getElem?_map, h]; rfl
  rw [hm, List.getElem?_map] at h1
  by_cases hk : k < n
  · rw [List.getElem?_range hk] at h1
    exact ⟨hk, (Option.some.inj h1).symm⟩
  · rw [List.getElem?_eq_none (by simpa using hk)] at h1
    cases h1
theorem wD_of {g : Nat → Nat} {a b lo : Nat} {ws : va_W} {c n : Nat} (h : wI g a b lo) (h1 : a ≤ c) (h2 : c + n ≤ b) (hm : ws.map Prod.fst = (List.range n).map (fun i => g (c + i))) : va_D (wA g a b) ws := by
  refine ⟨fun i j p q hi hj e => ?_, fun k q hk => ?_⟩
  · obtain ⟨l1, e1⟩ := wD_at hm hi
    obtain ⟨l2, e2⟩ := wD_at hm hj
    have := h.1 (c + i) (c + j) (by omega) (by omega) (by omega) (by omega) (by rw [← e1, ← e2, e])
    omega
  · obtain ⟨l1, e1⟩ := wD_at hm hk
    exact ⟨c + k, by omega, by omega, e1⟩
/-- cells apart from what a call may write stay -/
theorem wKeep {D : va_G} {cl : List vw_C} {ws : va_W} {H H1 : Heap} {B : Nat → Prop} (hP : va_P D cl ws H) (hn : ∀ (k : Nat) (q : Nat × va_E), ws[k]? = some q → ¬ B q.1) (hk : ∀ q : Nat, q < H.size → ¬ B q → H1[q]? = H[q]?) : va_P D cl ws H1 :=
  hP.kept (fun k q h => hk q.1 (hP k q h).lt (hn k q h))
theorem wOff {g : Nat → Nat} {a b lo : Nat} {ws : va_W} {c n x y : Nat} (h : wI g a b lo) (h1 : a ≤ c) (h2 : c + n ≤ b) (h3 : a ≤ x) (h4 : y ≤ b) (hxy : y ≤ c ∨ c + n ≤ x) (hm : ws.map Prod.fst = (List.range n).map (fun i => g (c + i))) : ∀ (k : Nat) (q : Nat × va_E), ws[k]? = some q → ¬ wA g x y q.1 := by
  rintro k q hk ⟨i, p, r, e⟩
  obtain ⟨l1, e1⟩ := wD_at hm hk
  have := h.1 (c + k) i (by omega) (by omega) (by omega) (by omega) (by rw [← e1, e])
  omega
/-- a static array that nobody writes -/
def zT (C n : String) (N : Nat) (f : Nat → Int32) (lo : Nat) (U : State) (H : Heap) : Prop := ∃ t : Nat, va_Z C n "[I" (.ref t) (fun q => lo ≤ q) U H ∧ va_T .int t N (fun j => .int (f j)) (fun q => lo ≤ q) U H
theorem zT.call {C n : String} {N : Nat} {f : Nat → Int32} {lo : Nat} {s U : State} {H H1 : Heap} (h : zT C n N f lo s H) (hvm : s.vm.Alike U.vm) (hq : ∀ a : Nat, a < H.size → ¬ lo ≤ a → H1[a]? = H[a]?) : zT C n N f lo U H1 := by
  obtain ⟨t, h1, h2⟩ := h
  exact ⟨t, (h1.moved hvm).kept hq, (h2.moved hvm).kept hq⟩
def zML : Nat → Int32 := fun j => ([5, 20, 100, 10, 0, 10, 0, 1, 0] : List Int32).getD j 0
def zMM : Nat → Int32 := fun j => ([40, 160, 9000, 160, 60, 60, 900, 300, 2] : List Int32).getD j 0
def zSL : Nat → Int32 := fun j => ([1, 0, 0, 0, 1] : List Int32).getD j 0
def zSM : Nat → Int32 := fun j => ([200, 9999, 9999, 9999, 200] : List Int32).getD j 0
/-- the links of a class to the private methods of its nest mates -/
def NE (U : State) : Prop := va_Nw (.methodLinkNest RX0 61 yX4_down "WallStones") U ∧ va_Nw (.methodLinkNest RX1 27 yX4_within "WallStones") U ∧ va_Nw (.methodLinkNest RX1 45 yX4_sineOf "WallStones") U ∧ va_Nw (.methodLinkNest RX1 54 yX4_down "WallStones") U ∧ va_Nw (.methodLinkNest RX1 62 yX4_up "WallStones") U ∧ va_Nw (.methodLinkNest RX2 19 yX4_within "WallStones") U ∧ va_Nw (.methodLinkNest RX2 48 yX4_up "WallStones") U ∧ va_Nw (.methodLinkNest RX3 69 yX4_within "WallStones") U ∧ va_Nw (.methodLinkNest RX3 83 yX4_up "WallStones") U ∧ va_Nw (.methodLinkNest RX4 177 yX3_heldAfter "WallStones") U
theorem NE.same {u U : State} (h : u.vm = U.vm) (k : NE u) : NE U := by
  obtain ⟨h0, h1, h2, h3, h4, h5, h6, h7, h8, h9⟩ := k
  exact ⟨va_Nw.same rfl h h0, va_Nw.same rfl h h1, va_Nw.same rfl h h2, va_Nw.same rfl h h3, va_Nw.same rfl h h4, va_Nw.same rfl h h5, va_Nw.same rfl h h6, va_Nw.same rfl h h7, va_Nw.same rfl h h8, va_Nw.same rfl h h9⟩
theorem NE.warm {s U : State} (h : s.WarmedH U.vm) (k : NE s) : NE U := by
  obtain ⟨h0, h1, h2, h3, h4, h5, h6, h7, h8, h9⟩ := k
  exact ⟨va_Nw.warmM h h0, va_Nw.warmM h h1, va_Nw.warmM h h2, va_Nw.warmM h h3, va_Nw.warmM h h4, va_Nw.warmM h h5, va_Nw.warmM h h6, va_Nw.warmM h h7, va_Nw.warmM h h8, va_Nw.warmM h h9⟩
def ZS (lo : Nat) (U : State) (H : Heap) : Prop := zT "WallStones$Machine" "LEAST" 9 zML lo U H ∧ zT "WallStones$Machine" "MOST" 9 zMM lo U H ∧ zT "WallStones$Siege" "LEAST" 5 zSL lo U H ∧ zT "WallStones$Siege" "MOST" 5 zSM lo U H
theorem ZS.call {lo : Nat} {s U : State} {H H1 : Heap} (k : ZS lo s H) (hvm : s.vm.Alike U.vm) (hq : ∀ a : Nat, a < H.size → ¬ lo ≤ a → H1[a]? = H[a]?) : ZS lo U H1 := by
  obtain ⟨h0, h1, h2, h3⟩ := k
  exact ⟨h0.call hvm hq, h1.call hvm hq, h2.call hvm hq, h3.call hvm hq⟩
/-- what holds around every call: the classes, the nest links, the static arrays -/
def EV (D : va_G) (cI : ClassId) (lo : Nat) (U : State) (H : Heap) : Prop := va_K D vwCl [(cI, .int)] U ∧ NE U ∧ ZS lo U H
theorem EV.calling {D : va_G} {cI : ClassId} {lo : Nat} {U : State} {H : Heap} {g : JFrame} {mk : MethodId} {a : Array Value} (h : EV D cI lo U H) : EV D cI lo (U.calling g mk a) H :=
  ⟨va_K.moved (u := U) (U := U.calling g mk a) (Vm.Alike.refl U.vm) h.1, NE.same rfl h.2.1, ZS.call h.2.2 (Vm.Alike.refl U.vm) (fun _ _ _ => rfl)⟩
theorem EV.call {D : va_G} {cI : ClassId} {lo : Nat} {s U : State} {A : Nat → Prop} {H : Heap} {locs : List Loc} (h : EV D cI lo s s.heap) (hA : ∀ q, A q → lo ≤ q) (hS : va_S A s.heap H locs) (hW : s.WarmedH U.vm) : EV D cI lo U H :=
  ⟨va_K.moved hW.alike h.1, h.2.1.warm hW, ZS.call h.2.2 hW.alike (fun a h1 h2 => hS.2.1 a h1 (fun z => h2 (hA a z)))⟩
/-- the start of a method: its arguments, the surroundings, and what P says of the heap -/
def cB (D : va_G) (cI : ClassId) (lo : Nat) (av : List Value) (P : Heap → Prop) : Array Value → State → Prop := va_Pc av (fun U => EV D cI lo U U.heap ∧ P U.heap)
theorem cB.blind {D : va_G} {cI : ClassId} {lo : Nat} {av : List Value} {P : Heap → Prop} : FrameBlind (cB D cI lo av P) := fun _ _ _ _ q => ⟨q.1, EV.calling q.2.1, q.2.2⟩
/-- contracts: nothing is written, an int or a long comes; cells of A are written: an int, a long, nothing comes, and the heap keeps Q -/
def ROi (l : Launch) (D : va_G) (cI : ClassId) (lo : Nat) (y : MethodName) (ws : List Cond) (rm : Room) (av : List Value) (P : Heap → Prop) (r : Int32) : Prop := Met l y ws rm (cB D cI lo av P) (vp_Si (fun x => x = r)) 0 0 (fun _ => False)
def ROl (l : Launch) (D : va_G) (cI : ClassId) (lo : Nat) (y : MethodName) (ws : List Cond) (rm : Room) (av : List Value) (P : Heap → Prop) (r : Int64) : Prop := Met l y ws rm (cB D cI lo av P) (vp_Sl (fun x => x = r)) 0 0 (fun _ => False)
def WRi (l : Launch) (D : va_G) (cI : ClassId) (lo : Nat) (y : MethodName) (ws : List Cond) (rm : Room) (av : List Value) (P : Heap → Prop) (r : Int32) (Q : Heap → Prop) (A : Nat → Prop) : Prop := Met l y ws rm (cB D cI lo av P) (va_Qi (fun (x : Int32) (_ : Unit) => x = r) (fun _ t => Q t.heap) A) 0 0 A
def WRl (l : Launch) (D : va_G) (cI : ClassId) (lo : Nat) (y : MethodName) (ws : List Cond) (rm : Room) (av : List Value) (P : Heap → Prop) (r : Int64) (Q : Heap → Prop) (A : Nat → Prop) : Prop := Met l y ws rm (cB D cI lo av P) (va_Ql (fun (x : Int64) (_ : Unit) => x = r) (fun _ t => Q t.heap) A) 0 0 A
def WRv (l : Launch) (D : va_G) (cI : ClassId) (lo : Nat) (y : MethodName) (ws : List Cond) (rm : Room) (av : List Value) (P : Heap → Prop) (Q : Heap → Prop) (A : Nat → Prop) : Prop := Met l y ws rm (cB D cI lo av P) (va_Qv (fun (_ : Unit) => True) (fun _ t => Q t.heap) A) 0 0 A
section CALLS
variable {p : Program} {l : Launch} {e : Env} {R : Room} {s : State} {m : MethodId} {args : Array Value} {below : List Frame} {meth : Method} {c : Code} {H : Heap} {locs : List Loc} {cells slots : Nat} {Q : State → Prop}
variable {pc : Nat} {ls : Array Slot} {rest st0 : List Value} {a : Array Value} {A A1 : Nat → Prop}
theorem runS_i {r : Int32} (hr : va_Run p l e R s m args below meth c H locs cells slots 0 0 (F0 m pc ls st0) rest (vp_Si (fun x => x = r) a) (fun _ => False))
    (kk : W p l e R s m args below meth c H locs cells slots Q (F0 m (pc + 3) ls (.int r :: rest))) : W p l e R s m args below meth c H locs cells slots Q (F0 m pc ls st0) := by
  intro T hT X
  obtain ⟨v, st₀, t, T', L, h0, X', hL, e1, -, ⟨r', hv, hp, hh⟩, st⟩ := hr T hT X
  cases hv
  subst hp
  obtain ⟨t2, a1, b1⟩ := kk T' (by rw [e1, hh, h0]) (Stand.forget X' (fun q h => (hL q h).elim))
  exact ⟨t2, st t2 a1, b1⟩
theorem runS_l {r : Int64} (hr : va_Run p l e R s m args below meth c H locs cells slots 0 0 (F0 m pc ls st0) rest (vp_Sl (fun x => x = r) a) (fun _ => False))
    (kk : W p l e R s m args below meth c H locs cells slots Q (F0 m (pc + 3) ls (.long r :: rest))) : W p l e R s m args below meth c H locs cells slots Q (F0 m pc ls st0) := by
  intro T hT X
  obtain ⟨v, st₀, t, T', L, h0, X', hL, e1, -, ⟨r', hv, hp, hh⟩, st⟩ := hr T hT X
  cases hv
  subst hp
  obtain ⟨t2, a1, b1⟩ := kk T' (by rw [e1, hh, h0]) (Stand.forget X' (fun q h => (hL q h).elim))
  exact ⟨t2, st t2 a1, b1⟩
theorem runW_i {r : Int32} {P : Heap → Prop} (hr : va_Run p l e R s m args below meth c H locs cells slots 0 0 (F0 m pc ls st0) rest (va_Qi (fun (x : Int32) (_ : Unit) => x = r) (fun _ t => P t.heap) A1 a) A1) (hS : va_S A s.heap H locs) (hA1 : ∀ q, A1 q → A q)
    (kk : ∀ (H1 : Heap) (locs1 : List Loc), P H1 → (∀ q : Nat, q < H.size → ¬ A1 q → H1[q]? = H[q]?) → va_S A s.heap H1 locs1 → W p l e R s m args below meth c H1 locs1 cells slots Q (F0 m (pc + 3) ls (.int r :: rest))) : W p l e R s m args below meth c H locs cells slots Q (F0 m pc ls st0) :=
  va_calli hr hS (fun q _ h => hA1 q h) hA1 (fun r' _ t H1 locs1 ht _ hp hb _ hk hS1 => by subst hp; subst ht; exact kk _ _ hb hk hS1)
theorem runW_l {r : Int64} {P : Heap → Prop} (hr : va_Run p l e R s m args below meth c H locs cells slots 0 0 (F0 m pc ls st0) rest (va_Ql (fun (x : Int64) (_ : Unit) => x = r) (fun _ t => P t.heap) A1 a) A1) (hS : va_S A s.heap H locs) (hA1 : ∀ q, A1 q → A q)
    (kk : ∀ (H1 : Heap) (locs1 : List Loc), P H1 → (∀ q : Nat, q < H.size → ¬ A1 q → H1[q]? = H[q]?) → va_S A s.heap H1 locs1 → W p l e R s m args below meth c H1 locs1 cells slots Q (F0 m (pc + 3) ls (.long r :: rest))) : W p l e R s m args below meth c H locs cells slots Q (F0 m pc ls st0) :=
  va_calll hr hS (fun q _ h => hA1 q h) hA1 (fun r' _ t H1 locs1 ht _ hp hb _ hk hS1 => by subst hp; subst ht; exact kk _ _ hb hk hS1)
theorem runW_v {P : Heap → Prop} (hr : va_Run p l e R s m args below meth c H locs cells slots 0 0 (F0 m pc ls st0) rest (va_Qv (fun (_ : Unit) => True) (fun _ t => P t.heap) A1 a) A1) (hS : va_S A s.heap H locs) (hA1 : ∀ q, A1 q → A q)
    (kk : ∀ (H1 : Heap) (locs1 : List Loc), P H1 → (∀ q : Nat, q < H.size → ¬ A1 q → H1[q]? = H[q]?) → va_S A s.heap H1 locs1 → W p l e R s m args below meth c H1 locs1 cells slots Q (F0 m (pc + 3) ls rest)) : W p l e R s m args below meth c H locs cells slots Q (F0 m pc ls st0) :=
  va_callv hr hS (fun q _ h => hA1 q h) hA1 (fun _ t H1 locs1 ht _ _ hb _ hk hS1 => by subst ht; exact kk _ _ hb hk hS1)
variable {D : va_G} {cI : ClassId} {lo : Nat} {P : Heap → Prop}
theorem preV_of {C : String} {b : Addr} {As : List Value} (hE : EV D cI lo s s.heap) (hA : ∀ q, A q → lo ≤ q) (hS : va_S A s.heap H locs) (hP : P H) (hrc : ∃ cell : Cell, H[b]? = some cell ∧ cell.vm.isStatics = false ∧ s.vm.findClass C = some cell.cls) : PreV s H C b (cB D cI lo (.ref b :: As) P) As :=
  ⟨cB.blind, hrc, fun U hU hW => ⟨rfl, by rw [hU]; exact hE.call hA hS hW, by rw [hU]; exact hP⟩⟩
theorem preS_of {As : List Value} (hE : EV D cI lo s s.heap) (hA : ∀ q, A q → lo ≤ q) (hS : va_S A s.heap H locs) (hP : P H) : PreS s H (cB D cI lo As P) As :=
  ⟨cB.blind, fun U hU hW => ⟨rfl, by rw [hU]; exact hE.call hA hS hW, by rw [hU]; exact hP⟩⟩
end CALLS
section OFW
variable {l : Launch} {D : va_G} {cI : ClassId} {lo : Nat} {y : MethodName} {ws ws' : List Cond} {rm : Room} {av : List Value} {P Qh : Heap → Prop} {A : Nat → Prop} {cc : ByteArray} {maxL : Nat} {ty : FieldType}
theorem ofW_ROi {r : Int32} (hy : plainFor y = true) (hw : ws = Cond.code y cc maxL (some ty) :: ws') (hlen : (lg_sl av).length ≤ maxL)
    (body : ∀ (p : Program) (e : Env) (s : State) (m : MethodId) (args : Array Value) (below : List Frame) (meth : Method) (c : Code) (Q : State → Prop), p.tables.exec = Jvm.exec → c.code = cc → c.maxLocals = maxL → s.vm.findClass y.cls = some m.cls → (∀ w ∈ ws, w.before args s = true) → EV D cI lo s s.heap → P s.heap →
      (∀ (v : Int32) (pc : Nat) (ls : Array Slot), narrow ty (.int v) = .int v → decode cc pc = .ok (.ireturn, 1) → v = r → W p l e rm s m args below meth c s.heap [] 0 0 Q (F0 m pc ls [.int v])) →
      ∀ ls : Array Slot, lv_has ls maxL (lv_args 0 av) → W p l e rm s m args below meth c s.heap [] 0 0 Q (F0 m 0 ls [])) : ROi l D cI lo y ws rm av P r := by
  refine va_MetF (cc := cc) (maxL := maxL) (ret := some ty) hy hw ?_
  intro p e s m args below meth c s₁ B hml hv
  obtain ⟨rfl, hE, hP⟩ := hv
  rw [lg_entry_eq]
  exact body p e s m _ below meth c _ B.exec B.bytes hml (findClass_of_methodNamed B.named) (atoms_spec (ws := ws) B.pre) hE hP
    (fun v pc ls hn hd he => W.zret (v := v) B.exec B.bytes B.returns hn (fun t ht hW => ⟨v, rfl, he, ht⟩) (fun q h => by cases h) hd B.notSynchronized) _ (lv_entry av hlen)
theorem ofW_ROl {r : Int64} (hy : plainFor y = true) (hw : ws = Cond.code y cc maxL (some .long) :: ws') (hlen : (lg_sl av).length ≤ maxL)
    (body : ∀ (p : Program) (e : Env) (s : State) (m : MethodId) (args : Array Value) (below : List Frame) (meth : Method) (c : Code) (Q : State → Prop), p.tables.exec = Jvm.exec → c.code = cc → c.maxLocals = maxL → s.vm.findClass y.cls = some m.cls → (∀ w ∈ ws, w.before args s = true) → EV D cI lo s s.heap → P s.heap →
      (∀ (v : Int64) (pc : Nat) (ls : Array Slot), decode cc pc = .ok (.lreturn, 1) → v = r → W p l e rm s m args below meth c s.heap [] 0 0 Q (F0 m pc ls [.long v])) →
      ∀ ls : Array Slot, lv_has ls maxL (lv_args 0 av) → W p l e rm s m args below meth c s.heap [] 0 0 Q (F0 m 0 ls [])) : ROl l D cI lo y ws rm av P r := by
  refine va_MetF (cc := cc) (maxL := maxL) (ret := some .long) hy hw ?_
  intro p e s m args below meth c s₁ B hml hv
  obtain ⟨rfl, hE, hP⟩ := hv
  rw [lg_entry_eq]
  exact body p e s m _ below meth c _ B.exec B.bytes hml (findClass_of_methodNamed B.named) (atoms_spec (ws := ws) B.pre) hE hP
    (fun v pc ls hd he => W.lret (v := v) B.exec B.bytes B.returns (fun t ht hW => ⟨v, rfl, he, ht⟩) (fun q h => by cases h) hd B.notSynchronized) _ (lv_entry av hlen)
theorem ofW_WRi {r : Int32} (hy : plainFor y = true) (hw : ws = Cond.code y cc maxL (some ty) :: ws') (hlen : (lg_sl av).length ≤ maxL)
    (body : ∀ (p : Program) (e : Env) (s : State) (m : MethodId) (args : Array Value) (below : List Frame) (meth : Method) (c : Code) (Q : State → Prop), p.tables.exec = Jvm.exec → c.code = cc → c.maxLocals = maxL → s.vm.findClass y.cls = some m.cls → (∀ w ∈ ws, w.before args s = true) → EV D cI lo s s.heap → P s.heap →
      (∀ (v : Int32) (H : Heap) (locs : List Loc) (pc : Nat) (ls : Array Slot), narrow ty (.int v) = .int v → decode cc pc = .ok (.ireturn, 1) → v = r → Qh H → va_S A s.heap H locs → W p l e rm s m args below meth c H locs 0 0 Q (F0 m pc ls [.int v])) →
      ∀ ls : Array Slot, lv_has ls maxL (lv_args 0 av) → W p l e rm s m args below meth c s.heap [] 0 0 Q (F0 m 0 ls [])) : WRi l D cI lo y ws rm av P r Qh A := by
  refine va_MetF (cc := cc) (maxL := maxL) (ret := some ty) hy hw ?_
  intro p e s m args below meth c s₁ B hml hv
  obtain ⟨rfl, hE, hP⟩ := hv
  rw [lg_entry_eq]
  exact body p e s m _ below meth c _ B.exec B.bytes hml (findClass_of_methodNamed B.named) (atoms_spec (ws := ws) B.pre) hE hP
    (fun v H locs pc ls hn hd he hq hS => W.zret (v := v) B.exec B.bytes B.returns hn (fun t ht hW => ⟨⟨v, (), rfl, he, by show Qh t.heap; rw [ht]; exact hq⟩, hS.F ht⟩) hS.2.2 hd B.notSynchronized) _ (lv_entry av hlen)
theorem ofW_WRl {r : Int64} (hy : plainFor y = true) (hw : ws = Cond.code y cc maxL (some .long) :: ws') (hlen : (lg_sl av).length ≤ maxL)
    (body : ∀ (p : Program) (e : Env) (s : State) (m : MethodId) (args : Array Value) (below : List Frame) (meth : Method) (c : Code) (Q : State → Prop), p.tables.exec = Jvm.exec → c.code = cc → c.maxLocals = maxL → s.vm.findClass y.cls = some m.cls → (∀ w ∈ ws, w.before args s = true) → EV D cI lo s s.heap → P s.heap →
      (∀ (v : Int64) (H : Heap) (locs : List Loc) (pc : Nat) (ls : Array Slot), decode cc pc = .ok (.lreturn, 1) → v = r → Qh H → va_S A s.heap H locs → W p l e rm s m args below meth c H locs 0 0 Q (F0 m pc ls [.long v])) →
      ∀ ls : Array Slot, lv_has ls maxL (lv_args 0 av) → W p l e rm s m args below meth c s.heap [] 0 0 Q (F0 m 0 ls [])) : WRl l D cI lo y ws rm av P r Qh A := by
  refine va_MetF (cc := cc) (maxL := maxL) (ret := some .long) hy hw ?_
  intro p e s m args below meth c s₁ B hml hv
  obtain ⟨rfl, hE, hP⟩ := hv
  rw [lg_entry_eq]
  exact body p e s m _ below meth c _ B.exec B.bytes hml (findClass_of_methodNamed B.named) (atoms_spec (ws := ws) B.pre) hE hP
    (fun v H locs pc ls hd he hq hS => W.lret (v := v) B.exec B.bytes B.returns (fun t ht hW => ⟨⟨v, (), rfl, he, by show Qh t.heap; rw [ht]; exact hq⟩, hS.F ht⟩) hS.2.2 hd B.notSynchronized) _ (lv_entry av hlen)
theorem ofW_WRv (hy : plainFor y = true) (hw : ws = Cond.code y cc maxL none :: ws') (hlen : (lg_sl av).length ≤ maxL)
    (body : ∀ (p : Program) (e : Env) (s : State) (m : MethodId) (args : Array Value) (below : List Frame) (meth : Method) (c : Code) (Q : State → Prop), p.tables.exec = Jvm.exec → c.code = cc → c.maxLocals = maxL → s.vm.findClass y.cls = some m.cls → (∀ w ∈ ws, w.before args s = true) → EV D cI lo s s.heap → P s.heap →
      (∀ (H : Heap) (locs : List Loc) (pc : Nat) (ls : Array Slot), decode cc pc = .ok (.return_, 1) → Qh H → va_S A s.heap H locs → W p l e rm s m args below meth c H locs 0 0 Q (F0 m pc ls [])) →
      ∀ ls : Array Slot, lv_has ls maxL (lv_args 0 av) → W p l e rm s m args below meth c s.heap [] 0 0 Q (F0 m 0 ls [])) : WRv l D cI lo y ws rm av P Qh A := by
  refine va_MetF (cc := cc) (maxL := maxL) (ret := none) hy hw ?_
  intro p e s m args below meth c s₁ B hml hv
  obtain ⟨rfl, hE, hP⟩ := hv
  rw [lg_entry_eq]
  exact body p e s m _ below meth c _ B.exec B.bytes hml (findClass_of_methodNamed B.named) (atoms_spec (ws := ws) B.pre) hE hP
    (fun H locs pc ls hd hq hS => W.vret B.exec B.bytes B.returns (fun t ht hW => ⟨⟨(), rfl, trivial, by show Qh t.heap; rw [ht]; exact hq⟩, hS.F ht⟩) hS.2.2 hd B.notSynchronized) _ (lv_entry av hlen)
end OFW
/-- a loop whose only end is at its head; a loop that may also answer -/
def wl {σ : Type} (f : σ → Option σ) (n : Nat) (s : σ) : σ :=
  match n with
  | 0 => s
  | k + 1 => match f s with
    | none => s
    | some t => wl f k t
termination_by n
theorem wl_none {σ : Type} {f : σ → Option σ} {n : Nat} {s : σ} (h : f s = none) : wl f (n + 1) s = s := by rw [wl, h]
theorem wl_some {σ : Type} {f : σ → Option σ} {n : Nat} {s t : σ} (h : f s = some t) : wl f (n + 1) s = wl f n t := by rw [wl, h]
theorem wl_zero {σ : Type} {f : σ → Option σ} {s : σ} : wl f 0 s = s := by rw [wl]
def wc {σ ρ : Type} (f : σ → σ ⊕ ρ) (d : ρ) (n : Nat) (s : σ) : ρ :=
  match n with
  | 0 => d
  | k + 1 => match f s with
    | .inl t => wc f d k t
    | .inr r => r
termination_by n
theorem wc_inl {σ ρ : Type} {f : σ → σ ⊕ ρ} {d : ρ} {n : Nat} {s t : σ} (h : f s = .inl t) : wc f d (n + 1) s = wc f d n t := by rw [wc, h]
theorem wc_inr {σ ρ : Type} {f : σ → σ ⊕ ρ} {d : ρ} {n : Nat} {s : σ} {r : ρ} (h : f s = .inr r) : wc f d (n + 1) s = r := by rw [wc, h]
/-- what a comparison says of the numbers -/
theorem lt_t {a b : Int32} (h : a < b) : a.toInt < b.toInt := Int32.lt_iff_toInt_lt.mp h
theorem le_t {a b : Int32} (h : a ≤ b) : a.toInt ≤ b.toInt := Int32.le_iff_toInt_le.mp h
theorem nlt_t {a b : Int32} (h : ¬ a < b) : b.toInt ≤ a.toInt := Int.not_lt.mp (fun k => h (Int32.lt_iff_toInt_lt.mpr k))
theorem nle_t {a b : Int32} (h : ¬ a ≤ b) : b.toInt < a.toInt := Int.not_le.mp (fun k => h (Int32.le_iff_toInt_le.mpr k))
theorem eq_t {a b : Int32} (h : a = b) : a.toInt = b.toInt := by rw [h]
theorem ne_t {a b : Int32} (h : ¬ a = b) : a.toInt ≠ b.toInt := fun k => h (Int32.toInt_inj.mp k)
theorem ii_ne {a b : Int32} (h : a.toInt ≠ b.toInt) : ¬ a = b := fun k => h (by rw [k])
theorem t_rng (x : Int32) : -2147483648 ≤ x.toInt ∧ x.toInt < 2147483648 := by
  have h1 := Int32.minValue_le_toInt x
  have h2 := Int32.toInt_le x
  simp only [Int32.toInt_minValue, Int32.toInt_maxValue] at h1 h2
  omega
theorem t_bmod {z : Int} (h1 : -2147483648 ≤ z) (h2 : z < 2147483648) : z.bmod (2 ^ 32) = z := by
  rw [Int.bmod_def]
  split <;> omega
theorem t_add {x y : Int32} (h1 : -2147483648 ≤ x.toInt + y.toInt) (h2 : x.toInt + y.toInt < 2147483648) : (x + y).toInt = x.toInt + y.toInt := by
  rw [Int32.toInt_add]; exact t_bmod h1 h2
theorem t_sub {x y : Int32} (h1 : -2147483648 ≤ x.toInt - y.toInt) (h2 : x.toInt - y.toInt < 2147483648) : (x - y).toInt = x.toInt - y.toInt := by
  rw [Int32.toInt_sub]; exact t_bmod h1 h2
theorem t_mul {x y : Int32} (h1 : -2147483648 ≤ x.toInt * y.toInt) (h2 : x.toInt * y.toInt < 2147483648) : (x * y).toInt = x.toInt * y.toInt := by
  rw [Int32.toInt_mul]; exact t_bmod h1 h2
theorem t_inc {x : Int32} (h : x.toInt < 2147483647) : (x + 1).toInt = x.toInt + 1 := by
  have := t_rng x
  have e : (1 : Int32).toInt = 1 := by decide
  rw [t_add (by rw [e]; omega) (by rw [e]; omega), e]
theorem t_dec {x : Int32} (h : -2147483648 < x.toInt) : (x + (-1)).toInt = x.toInt - 1 := by
  have := t_rng x
  have e : (-1 : Int32).toInt = -1 := by decide
  rw [t_add (by rw [e]; omega) (by rw [e]; omega), e]
  omega
theorem nr_i (v : Int32) : narrow .int (.int v) = .int v := rfl
theorem ret1 {α β : Type} {a : α} {b : β} {z : α × β} (h : z = (a, b)) : a = z.1 := by rw [h]
theorem rP_s1 {β : Type} {P : β → Prop} {b z : β} (h : z = b) (k : P b) : P z := by rw [h]; exact k
theorem rP_s2 {β γ : Type} {P : β → γ → Prop} {b : β} {c : γ} {z : β × γ} (h : z = (b, c)) (k : P b c) : P z.1 z.2 := by subst h; exact k
theorem rP_v1 {α β : Type} {P : β → Prop} {a : α} {b : β} {z : α × β} (h : z = (a, b)) (k : P b) : P z.2 := by subst h; exact k
theorem rP_v2 {α β γ : Type} {P : β → γ → Prop} {a : α} {b : β} {c : γ} {z : α × β × γ} (h : z = (a, b, c)) (k : P b c) : P z.2.1 z.2.2 := by subst h; exact k
theorem rP_v3 {α β γ δ : Type} {P : β → γ → δ → Prop} {a : α} {b : β} {c : γ} {d : δ} {z : α × β × γ × δ} (h : z = (a, b, c, d)) (k : P b c d) : P z.2.1 z.2.2.1 z.2.2.2 := by subst h; exact k
theorem rP_v4 {α β γ δ ε : Type} {P : β → γ → δ → ε → Prop} {a : α} {b : β} {c : γ} {d : δ} {e : ε} {z : α × β × γ × δ × ε} (h : z = (a, b, c, d, e)) (k : P b c d e) : P z.2.1 z.2.2.1 z.2.2.2.1 z.2.2.2.2 := by subst h; exact k
abbrev cellT (cI : ClassId) (g : Nat → Nat) (s : St) (v : Int64) : va_W := [(g 0, .inr (4, [.ref (g 1), .ref (g 6), .ref (g 12), .ref (g 17), .int (s 0 4), .int (s 0 5), .long v]))]
abbrev cellM (cI : ClassId) (g : Nat → Nat) (s : St) : va_W := [(g 1, .inr (1, [.ref (g 2), .ref (g 3), .ref (g 4), .ref (g 5), .int (s 0 4), .int (s 0 5)])), (g 2, .inl (cI, 9, .inl (s 1))), (g 3, .inl (cI, 161, .inl (s 2))), (g 4, .inl (cI, 7, .inl (s 3))), (g 5, .inl (cI, 3, .inl (s 4)))]
abbrev cellB (cI : ClassId) (g : Nat → Nat) (s : St) : va_W := [(g 6, .inr (0, [.ref (g 7), .ref (g 8), .ref (g 9), .ref (g 10), .ref (g 11), .int (s 0 5), .int (s 0 6)])), (g 7, .inl (cI, 61, .inl (s 1))), (g 8, .inl (cI, 16, .inl (s 2))), (g 9, .inl (cI, 16, .inl (s 3))), (g 10, .inl (cI, 31, .inl (s 4))), (g 11, .inl (cI, 31, .inl (s 5)))]
abbrev cellL (cI : ClassId) (g : Nat → Nat) (s : St) : va_W := [(g 12, .inr (3, [.ref (g 13), .ref (g 14), .ref (g 15), .ref (g 16), .int (s 0 4), .int (s 0 5), .int (s 0 6)])), (g 13, .inl (cI, 48, .inl (s 1))), (g 14, .inl (cI, 8, .inl (s 2))), (g 15, .inl (cI, 8, .inl (s 3))), (g 16, .inl (cI, 9, .inl (s 4)))]
abbrev cellS (cI : ClassId) (g : Nat → Nat) (s : St) : va_W := [(g 17, .inr (2, [.ref (g 18), .int (s 0 1), .int (s 0 2)])), (g 18, .inl (cI, 5, .inl (s 1)))]
abbrev cellR (cI : ClassId) (g : Nat → Nat) (s : St) (v : Int64) : va_W := [(g 0, .inr (5, [.ref (g 1), .int (s 0 1), .int (s 0 2), .int (s 0 3), .ref (g 2), .ref (g 3), .int (s 0 6), .int (s 0 7), .ref (g 4), .ref (g 5), .ref (g 6), .int (s 0 11), .ref (g 7), .int (s 0 13), .int (s 0 14), .ref (g 8), .int (s 0 16), .int (s 0 17), .long v, .int (s 0 19), .int (s 0 20), .int (s 0 21), .int (s 0 22), .int (s 0 23), .int (s 0 24), .int (s 0 25), .ref (g 9), .ref (g 10), .ref (g 11), .ref (g 12), .ref (g 13), .ref (g 14), .ref (g 15)])), (g 1, .inl (cI, 9, .inl (s 1))), (g 2, .inl (cI, 16, .inl (s 5))), (g 3, .inl (cI, 16, .inl (s 6))), (g 4, .inl (cI, 48, .inl (s 9))), (g 5, .inl (cI, 48, .inl (s 10))), (g 6, .inl (cI, 48, .inl (s 11))), (g 7, .inl (cI, 9, .inl (s 13))), (g 8, .inl (cI, 5, .inl (s 16))), (g 9, .inl (cI, 61, .inl (s 27))), (g 10, .inl (cI, 775, .inl (s 28))), (g 11, .inl (cI, 48, .inl (s 29))), (g 12, .inl (cI, 48, .inl (s 30))), (g 13, .inl (cI, 48, .inl (s 31))), (g 14, .inl (cI, 6, .inl (s 32))), (g 15, .inl (cI, 6, .inl (s 33)))]
theorem setM_M1 {cI : ClassId} {g : Nat → Nat} {sM : St} {i : Nat} {x : Int32} : (cellM cI g sM).set 1 (g 2, .inl (cI, 9, .inl (upd (sM 1) i x))) = cellM cI g (up sM 1 i x) := rfl
theorem setM_M2 {cI : ClassId} {g : Nat → Nat} {sM : St} {i : Nat} {x : Int32} : (cellM cI g sM).set 2 (g 3, .inl (cI, 161, .inl (upd (sM 2) i x))) = cellM cI g (up sM 2 i x) := rfl
theorem setM_M3 {cI : ClassId} {g : Nat → Nat} {sM : St} {i : Nat} {x : Int32} : (cellM cI g sM).set 3 (g 4, .inl (cI, 7, .inl (upd (sM 3) i x))) = cellM cI g (up sM 3 i x) := rfl
theorem setM_M4 {cI : ClassId} {g : Nat → Nat} {sM : St} {i : Nat} {x : Int32} : (cellM cI g sM).set 4 (g 5, .inl (cI, 3, .inl (upd (sM 4) i x))) = cellM cI g (up sM 4 i x) := rfl
theorem putM_M4 {cI : ClassId} {g : Nat → Nat} {sM : St} {x : Int32} : (cellM cI g sM).set 0 (g 1, .inr (1, ([.ref (g 2), .ref (g 3), .ref (g 4), .ref (g 5), .int (sM 0 4), .int (sM 0 5)] : List Value).set 4 (.int x))) = cellM cI g (up sM 0 4 x) := rfl
theorem putM_M5 {cI : ClassId} {g : Nat → Nat} {sM : St} {x : Int32} : (cellM cI g sM).set 0 (g 1, .inr (1, ([.ref (g 2), .ref (g 3), .ref (g 4), .ref (g 5), .int (sM 0 4), .int (sM 0 5)] : List Value).set 5 (.int x))) = cellM cI g (up sM 0 5 x) := rfl
theorem setB_B1 {cI : ClassId} {g : Nat → Nat} {sB : St} {i : Nat} {x : Int32} : (cellB cI g sB).set 1 (g 7, .inl (cI, 61, .inl (upd (sB 1) i x))) = cellB cI g (up sB 1 i x) := rfl
theorem setB_B2 {cI : ClassId} {g : Nat → Nat} {sB : St} {i : Nat} {x : Int32} : (cellB cI g sB).set 2 (g 8, .inl (cI, 16, .inl (upd (sB 2) i x))) = cellB cI g (up sB 2 i x) := rfl
theorem setB_B3 {cI : ClassId} {g : Nat → Nat} {sB : St} {i : Nat} {x : Int32} : (cellB cI g sB).set 3 (g 9, .inl (cI, 16, .inl (upd (sB 3) i x))) = cellB cI g (up sB 3 i x) := rfl
theorem setB_B4 {cI : ClassId} {g : Nat → Nat} {sB : St} {i : Nat} {x : Int32} : (cellB cI g sB).set 4 (g 10, .inl (cI, 31, .inl (upd (sB 4) i x))) = cellB cI g (up sB 4 i x) := rfl
theorem setB_B5 {cI : ClassId} {g : Nat → Nat} {sB : St} {i : Nat} {x : Int32} : (cellB cI g sB).set 5 (g 11, .inl (cI, 31, .inl (upd (sB 5) i x))) = cellB cI g (up sB 5 i x) := rfl
theorem putB_B5 {cI : ClassId} {g : Nat → Nat} {sB : St} {x : Int32} : (cellB cI g sB).set 0 (g 6, .inr (0, ([.ref (g 7), .ref (g 8), .ref (g 9), .ref (g 10), .ref (g 11), .int (sB 0 5), .int (sB 0 6)] : List Value).set 5 (.int x))) = cellB cI g (up sB 0 5 x) := rfl
theorem putB_B6 {cI : ClassId} {g : Nat → Nat} {sB : St} {x : Int32} : (cellB cI g sB).set 0 (g 6, .inr (0, ([.ref (g 7), .ref (g 8), .ref (g 9), .ref (g 10), .ref (g 11), .int (sB 0 5), .int (sB 0 6)] : List Value).set 6 (.int x))) = cellB cI g (up sB 0 6 x) := rfl
theorem setL_L1 {cI : ClassId} {g : Nat → Nat} {sL : St} {i : Nat} {x : Int32} : (cellL cI g sL).set 1 (g 13, .inl (cI, 48, .inl (upd (sL 1) i x))) = cellL cI g (up sL 1 i x) := rfl
theorem setL_L2 {cI : ClassId} {g : Nat → Nat} {sL : St} {i : Nat} {x : Int32} : (cellL cI g sL).set 2 (g 14, .inl (cI, 8, .inl (upd (sL 2) i x))) = cellL cI g (up sL 2 i x) := rfl
theorem setL_L3 {cI : ClassId} {g : Nat → Nat} {sL : St} {i : Nat} {x : Int32} : (cellL cI g sL).set 3 (g 15, .inl (cI, 8, .inl (upd (sL 3) i x))) = cellL cI g (up sL 3 i x) := rfl
theorem setL_L4 {cI : ClassId} {g : Nat → Nat} {sL : St} {i : Nat} {x : Int32} : (cellL cI g sL).set 4 (g 16, .inl (cI, 9, .inl (upd (sL 4) i x))) = cellL cI g (up sL 4 i x) := rfl
theorem putL_L4 {cI : ClassId} {g : Nat → Nat} {sL : St} {x : Int32} : (cellL cI g sL).set 0 (g 12, .inr (3, ([.ref (g 13), .ref (g 14), .ref (g 15), .ref (g 16), .int (sL 0 4), .int (sL 0 5), .int (sL 0 6)] : List Value).set 4 (.int x))) = cellL cI g (up sL 0 4 x) := rfl
theorem putL_L5 {cI : ClassId} {g : Nat → Nat} {sL : St} {x : Int32} : (cellL cI g sL).set 0 (g 12, .inr (3, ([.ref (g 13), .ref (g 14), .ref (g 15), .ref (g 16), .int (sL 0 4), .int (sL 0 5), .int (sL 0 6)] : List Value).set 5 (.int x))) = cellL cI g (up sL 0 5 x) := rfl
theorem putL_L6 {cI : ClassId} {g : Nat → Nat} {sL : St} {x : Int32} : (cellL cI g sL).set 0 (g 12, .inr (3, ([.ref (g 13), .ref (g 14), .ref (g 15), .ref (g 16), .int (sL 0 4), .int (sL 0 5), .int (sL 0 6)] : List Value).set 6 (.int x))) = cellL cI g (up sL 0 6 x) := rfl
theorem setS_S1 {cI : ClassId} {g : Nat → Nat} {sS : St} {i : Nat} {x : Int32} : (cellS cI g sS).set 1 (g 18, .inl (cI, 5, .inl (upd (sS 1) i x))) = cellS cI g (up sS 1 i x) := rfl
theorem putS_S1 {cI : ClassId} {g : Nat → Nat} {sS : St} {x : Int32} : (cellS cI g sS).set 0 (g 17, .inr (2, ([.ref (g 18), .int (sS 0 1), .int (sS 0 2)] : List Value).set 1 (.int x))) = cellS cI g (up sS 0 1 x) := rfl
theorem putS_S2 {cI : ClassId} {g : Nat → Nat} {sS : St} {x : Int32} : (cellS cI g sS).set 0 (g 17, .inr (2, ([.ref (g 18), .int (sS 0 1), .int (sS 0 2)] : List Value).set 2 (.int x))) = cellS cI g (up sS 0 2 x) := rfl
theorem setR_R1 {cI : ClassId} {g : Nat → Nat} {sR : St} {vR : Int64} {i : Nat} {x : Int32} : (cellR cI g sR vR).set 1 (g 1, .inl (cI, 9, .inl (upd (sR 1) i x))) = cellR cI g (up sR 1 i x) vR := rfl
theorem putR_R1 {cI : ClassId} {g : Nat → Nat} {sR : St} {vR : Int64} {x : Int32} : (cellR cI g sR vR).set 0 (g 0, .inr (5, ([.ref (g 1), .int (sR 0 1), .int (sR 0 2), .int (sR 0 3), .ref (g 2), .ref (g 3), .int (sR 0 6), .int (sR 0 7), .ref (g 4), .ref (g 5), .ref (g 6), .int (sR 0 11), .ref (g 7), .int (sR 0 13), .int (sR 0 14), .ref (g 8), .int (sR 0 16), .int (sR 0 17), .long vR, .int (sR 0 19), .int (sR 0 20), .int (sR 0 21), .int (sR 0 22), .int (sR 0 23), .int (sR 0 24), .int (sR 0 25), .ref (g 9), .ref (g 10), .ref (g 11), .ref (g 12), .ref (g 13), .ref (g 14), .ref (g 15)] : List Value).set 1 (.int x))) = cellR cI g (up sR 0 1 x) vR := rfl
theorem putR_R2 {cI : ClassId} {g : Nat → Nat} {sR : St} {vR : Int64} {x : Int32} : (cellR cI g sR vR).set 0 (g 0, .inr (5, ([.ref (g 1), .int (sR 0 1), .int (sR 0 2), .int (sR 0 3), .ref (g 2), .ref (g 3), .int (sR 0 6), .int (sR 0 7), .ref (g 4), .ref (g 5), .ref (g 6), .int (sR 0 11), .ref (g 7), .int (sR 0 13), .int (sR 0 14), .ref (g 8), .int (sR 0 16), .int (sR 0 17), .long vR, .int (sR 0 19), .int (sR 0 20), .int (sR 0 21), .int (sR 0 22), .int (sR 0 23), .int (sR 0 24), .int (sR 0 25), .ref (g 9), .ref (g 10), .ref (g 11), .ref (g 12), .ref (g 13), .ref (g 14), .ref (g 15)] : List Value).set 2 (.int x))) = cellR cI g (up sR 0 2 x) vR := rfl
theorem putR_R3 {cI : ClassId} {g : Nat → Nat} {sR : St} {vR : Int64} {x : Int32} : (cellR cI g sR vR).set 0 (g 0, .inr (5, ([.ref (g 1), .int (sR 0 1), .int (sR 0 2), .int (sR 0 3), .ref (g 2), .ref (g 3), .int (sR 0 6), .int (sR 0 7), .ref (g 4), .ref (g 5), .ref (g 6), .int (sR 0 11), .ref (g 7), .int (sR 0 13), .int (sR 0 14), .ref (g 8), .int (sR 0 16), .int (sR 0 17), .long vR, .int (sR 0 19), .int (sR 0 20), .int (sR 0 21), .int (sR 0 22), .int (sR 0 23), .int (sR 0 24), .int (sR 0 25), .ref (g 9), .ref (g 10), .ref (g 11), .ref (g 12), .ref (g 13), .ref (g 14), .ref (g 15)] : List Value).set 3 (.int x))) = cellR cI g (up sR 0 3 x) vR := rfl
theorem setR_R5 {cI : ClassId} {g : Nat → Nat} {sR : St} {vR : Int64} {i : Nat} {x : Int32} : (cellR cI g sR vR).set 2 (g 2, .inl (cI, 16, .inl (upd (sR 5) i x))) = cellR cI g (up sR 5 i x) vR := rfl
theorem setR_R6 {cI : ClassId} {g : Nat → Nat} {sR : St} {vR : Int64} {i : Nat} {x : Int32} : (cellR cI g sR vR).set 3 (g 3, .inl (cI, 16, .inl (upd (sR 6) i x))) = cellR cI g (up sR 6 i x) vR := rfl
theorem putR_R6 {cI : ClassId} {g : Nat → Nat} {sR : St} {vR : Int64} {x : Int32} : (cellR cI g sR vR).set 0 (g 0, .inr (5, ([.ref (g 1), .int (sR 0 1), .int (sR 0 2), .int (sR 0 3), .ref (g 2), .ref (g 3), .int (sR 0 6), .int (sR 0 7), .ref (g 4), .ref (g 5), .ref (g 6), .int (sR 0 11), .ref (g 7), .int (sR 0 13), .int (sR 0 14), .ref (g 8), .int (sR 0 16), .int (sR 0 17), .long vR, .int (sR 0 19), .int (sR 0 20), .int (sR 0 21), .int (sR 0 22), .int (sR 0 23), .int (sR 0 24), .int (sR 0 25), .ref (g 9), .ref (g 10), .ref (g 11), .ref (g 12), .ref (g 13), .ref (g 14), .ref (g 15)] : List Value).set 6 (.int x))) = cellR cI g (up sR 0 6 x) vR := rfl
theorem putR_R7 {cI : ClassId} {g : Nat → Nat} {sR : St} {vR : Int64} {x : Int32} : (cellR cI g sR vR).set 0 (g 0, .inr (5, ([.ref (g 1), .int (sR 0 1), .int (sR 0 2), .int (sR 0 3), .ref (g 2), .ref (g 3), .int (sR 0 6), .int (sR 0 7), .ref (g 4), .ref (g 5), .ref (g 6), .int (sR 0 11), .ref (g 7), .int (sR 0 13), .int (sR 0 14), .ref (g 8), .int (sR 0 16), .int (sR 0 17), .long vR, .int (sR 0 19), .int (sR 0 20), .int (sR 0 21), .int (sR 0 22), .int (sR 0 23), .int (sR 0 24), .int (sR 0 25), .ref (g 9), .ref (g 10), .ref (g 11), .ref (g 12), .ref (g 13), .ref (g 14), .ref (g 15)] : List Value).set 7 (.int x))) = cellR cI g (up sR 0 7 x) vR := rfl
theorem setR_R9 {cI : ClassId} {g : Nat → Nat} {sR : St} {vR : Int64} {i : Nat} {x : Int32} : (cellR cI g sR vR).set 4 (g 4, .inl (cI, 48, .inl (upd (sR 9) i x))) = cellR cI g (up sR 9 i x) vR := rfl
theorem setR_R10 {cI : ClassId} {g : Nat → Nat} {sR : St} {vR : Int64} {i : Nat} {x : Int32} : (cellR cI g sR vR).set 5 (g 5, .inl (cI, 48, .inl (upd (sR 10) i x))) = cellR cI g (up sR 10 i x) vR := rfl
theorem setR_R11 {cI : ClassId} {g : Nat → Nat} {sR : St} {vR : Int64} {i : Nat} {x : Int32} : (cellR cI g sR vR).set 6 (g 6, .inl (cI, 48, .inl (upd (sR 11) i x))) = cellR cI g (up sR 11 i x) vR := rfl
theorem putR_R11 {cI : ClassId} {g : Nat → Nat} {sR : St} {vR : Int64} {x : Int32} : (cellR cI g sR vR).set 0 (g 0, .inr (5, ([.ref (g 1), .int (sR 0 1), .int (sR 0 2), .int (sR 0 3), .ref (g 2), .ref (g 3), .int (sR 0 6), .int (sR 0 7), .ref (g 4), .ref (g 5), .ref (g 6), .int (sR 0 11), .ref (g 7), .int (sR 0 13), .int (sR 0 14), .ref (g 8), .int (sR 0 16), .int (sR 0 17), .long vR, .int (sR 0 19), .int (sR 0 20), .int (sR 0 21), .int (sR 0 22), .int (sR 0 23), .int (sR 0 24), .int (sR 0 25), .ref (g 9), .ref (g 10), .ref (g 11), .ref (g 12), .ref (g 13), .ref (g 14), .ref (g 15)] : List Value).set 11 (.int x))) = cellR cI g (up sR 0 11 x) vR := rfl
theorem setR_R13 {cI : ClassId} {g : Nat → Nat} {sR : St} {vR : Int64} {i : Nat} {x : Int32} : (cellR cI g sR vR).set 7 (g 7, .inl (cI, 9, .inl (upd (sR 13) i x))) = cellR cI g (up sR 13 i x) vR := rfl
theorem putR_R13 {cI : ClassId} {g : Nat → Nat} {sR : St} {vR : Int64} {x : Int32} : (cellR cI g sR vR).set 0 (g 0, .inr (5, ([.ref (g 1), .int (sR 0 1), .int (sR 0 2), .int (sR 0 3), .ref (g 2), .ref (g 3), .int (sR 0 6), .int (sR 0 7), .ref (g 4), .ref (g 5), .ref (g 6), .int (sR 0 11), .ref (g 7), .int (sR 0 13), .int (sR 0 14), .ref (g 8), .int (sR 0 16), .int (sR 0 17), .long vR, .int (sR 0 19), .int (sR 0 20), .int (sR 0 21), .int (sR 0 22), .int (sR 0 23), .int (sR 0 24), .int (sR 0 25), .ref (g 9), .ref (g 10), .ref (g 11), .ref (g 12), .ref (g 13), .ref (g 14), .ref (g 15)] : List Value).set 13 (.int x))) = cellR cI g (up sR 0 13 x) vR := rfl
theorem putR_R14 {cI : ClassId} {g : Nat → Nat} {sR : St} {vR : Int64} {x : Int32} : (cellR cI g sR vR).set 0 (g 0, .inr (5, ([.ref (g 1), .int (sR 0 1), .int (sR 0 2), .int (sR 0 3), .ref (g 2), .ref (g 3), .int (sR 0 6), .int (sR 0 7), .ref (g 4), .ref (g 5), .ref (g 6), .int (sR 0 11), .ref (g 7), .int (sR 0 13), .int (sR 0 14), .ref (g 8), .int (sR 0 16), .int (sR 0 17), .long vR, .int (sR 0 19), .int (sR 0 20), .int (sR 0 21), .int (sR 0 22), .int (sR 0 23), .int (sR 0 24), .int (sR 0 25), .ref (g 9), .ref (g 10), .ref (g 11), .ref (g 12), .ref (g 13), .ref (g 14), .ref (g 15)] : List Value).set 14 (.int x))) = cellR cI g (up sR 0 14 x) vR := rfl
theorem setR_R16 {cI : ClassId} {g : Nat → Nat} {sR : St} {vR : Int64} {i : Nat} {x : Int32} : (cellR cI g sR vR).set 8 (g 8, .inl (cI, 5, .inl (upd (sR 16) i x))) = cellR cI g (up sR 16 i x) vR := rfl
theorem putR_R16 {cI : ClassId} {g : Nat → Nat} {sR : St} {vR : Int64} {x : Int32} : (cellR cI g sR vR).set 0 (g 0, .inr (5, ([.ref (g 1), .int (sR 0 1), .int (sR 0 2), .int (sR 0 3), .ref (g 2), .ref (g 3), .int (sR 0 6), .int (sR 0 7), .ref (g 4), .ref (g 5), .ref (g 6), .int (sR 0 11), .ref (g 7), .int (sR 0 13), .int (sR 0 14), .ref (g 8), .int (sR 0 16), .int (sR 0 17), .long vR, .int (sR 0 19), .int (sR 0 20), .int (sR 0 21), .int (sR 0 22), .int (sR 0 23), .int (sR 0 24), .int (sR 0 25), .ref (g 9), .ref (g 10), .ref (g 11), .ref (g 12), .ref (g 13), .ref (g 14), .ref (g 15)] : List Value).set 16 (.int x))) = cellR cI g (up sR 0 16 x) vR := rfl
theorem putR_R17 {cI : ClassId} {g : Nat → Nat} {sR : St} {vR : Int64} {x : Int32} : (cellR cI g sR vR).set 0 (g 0, .inr (5, ([.ref (g 1), .int (sR 0 1), .int (sR 0 2), .int (sR 0 3), .ref (g 2), .ref (g 3), .int (sR 0 6), .int (sR 0 7), .ref (g 4), .ref (g 5), .ref (g 6), .int (sR 0 11), .ref (g 7), .int (sR 0 13), .int (sR 0 14), .ref (g 8), .int (sR 0 16), .int (sR 0 17), .long vR, .int (sR 0 19), .int (sR 0 20), .int (sR 0 21), .int (sR 0 22), .int (sR 0 23), .int (sR 0 24), .int (sR 0 25), .ref (g 9), .ref (g 10), .ref (g 11), .ref (g 12), .ref (g 13), .ref (g 14), .ref (g 15)] : List Value).set 17 (.int x))) = cellR cI g (up sR 0 17 x) vR := rfl
theorem putR_R18 {cI : ClassId} {g : Nat → Nat} {sR : St} {vR : Int64} {x : Int64} : (cellR cI g sR vR).set 0 (g 0, .inr (5, ([.ref (g 1), .int (sR 0 1), .int (sR 0 2), .int (sR 0 3), .ref (g 2), .ref (g 3), .int (sR 0 6), .int (sR 0 7), .ref (g 4), .ref (g 5), .ref (g 6), .int (sR 0 11), .ref (g 7), .int (sR 0 13), .int (sR 0 14), .ref (g 8), .int (sR 0 16), .int (sR 0 17), .long vR, .int (sR 0 19), .int (sR 0 20), .int (sR 0 21), .int (sR 0 22), .int (sR 0 23), .int (sR 0 24), .int (sR 0 25), .ref (g 9), .ref (g 10), .ref (g 11), .ref (g 12), .ref (g 13), .ref (g 14), .ref (g 15)] : List Value).set 18 (.long x))) = cellR cI g sR x := rfl
theorem putR_R19 {cI : ClassId} {g : Nat → Nat} {sR : St} {vR : Int64} {x : Int32} : (cellR cI g sR vR).set 0 (g 0, .inr (5, ([.ref (g 1), .int (sR 0 1), .int (sR 0 2), .int (sR 0 3), .ref (g 2), .ref (g 3), .int (sR 0 6), .int (sR 0 7), .ref (g 4), .ref (g 5), .ref (g 6), .int (sR 0 11), .ref (g 7), .int (sR 0 13), .int (sR 0 14), .ref (g 8), .int (sR 0 16), .int (sR 0 17), .long vR, .int (sR 0 19), .int (sR 0 20), .int (sR 0 21), .int (sR 0 22), .int (sR 0 23), .int (sR 0 24), .int (sR 0 25), .ref (g 9), .ref (g 10), .ref (g 11), .ref (g 12), .ref (g 13), .ref (g 14), .ref (g 15)] : List Value).set 19 (.int x))) = cellR cI g (up sR 0 19 x) vR := rfl
theorem putR_R20 {cI : ClassId} {g : Nat → Nat} {sR : St} {vR : Int64} {x : Int32} : (cellR cI g sR vR).set 0 (g 0, .inr (5, ([.ref (g 1), .int (sR 0 1), .int (sR 0 2), .int (sR 0 3), .ref (g 2), .ref (g 3), .int (sR 0 6), .int (sR 0 7), .ref (g 4), .ref (g 5), .ref (g 6), .int (sR 0 11), .ref (g 7), .int (sR 0 13), .int (sR 0 14), .ref (g 8), .int (sR 0 16), .int (sR 0 17), .long vR, .int (sR 0 19), .int (sR 0 20), .int (sR 0 21), .int (sR 0 22), .int (sR 0 23), .int (sR 0 24), .int (sR 0 25), .ref (g 9), .ref (g 10), .ref (g 11), .ref (g 12), .ref (g 13), .ref (g 14), .ref (g 15)] : List Value).set 20 (.int x))) = cellR cI g (up sR 0 20 x) vR := rfl
theorem putR_R21 {cI : ClassId} {g : Nat → Nat} {sR : St} {vR : Int64} {x : Int32} : (cellR cI g sR vR).set 0 (g 0, .inr (5, ([.ref (g 1), .int (sR 0 1), .int (sR 0 2), .int (sR 0 3), .ref (g 2), .ref (g 3), .int (sR 0 6), .int (sR 0 7), .ref (g 4), .ref (g 5), .ref (g 6), .int (sR 0 11), .ref (g 7), .int (sR 0 13), .int (sR 0 14), .ref (g 8), .int (sR 0 16), .int (sR 0 17), .long vR, .int (sR 0 19), .int (sR 0 20), .int (sR 0 21), .int (sR 0 22), .int (sR 0 23), .int (sR 0 24), .int (sR 0 25), .ref (g 9), .ref (g 10), .ref (g 11), .ref (g 12), .ref (g 13), .ref (g 14), .ref (g 15)] : List Value).set 21 (.int x))) = cellR cI g (up sR 0 21 x) vR := rfl
theorem putR_R22 {cI : ClassId} {g : Nat → Nat} {sR : St} {vR : Int64} {x : Int32} : (cellR cI g sR vR).set 0 (g 0, .inr (5, ([.ref (g 1), .int (sR 0 1), .int (sR 0 2), .int (sR 0 3), .ref (g 2), .ref (g 3), .int (sR 0 6), .int (sR 0 7), .ref (g 4), .ref (g 5), .ref (g 6), .int (sR 0 11), .ref (g 7), .int (sR 0 13), .int (sR 0 14), .ref (g 8), .int (sR 0 16), .int (sR 0 17), .long vR, .int (sR 0 19), .int (sR 0 20), .int (sR 0 21), .int (sR 0 22), .int (sR 0 23), .int (sR 0 24), .int (sR 0 25), .ref (g 9), .ref (g 10), .ref (g 11), .ref (g 12), .ref (g 13), .ref (g 14), .ref (g 15)] : List Value).set 22 (.int x))) = cellR cI g (up sR 0 22 x) vR := rfl
theorem putR_R23 {cI : ClassId} {g : Nat → Nat} {sR : St} {vR : Int64} {x : Int32} : (cellR cI g sR vR).set 0 (g 0, .inr (5, ([.ref (g 1), .int (sR 0 1), .int (sR 0 2), .int (sR 0 3), .ref (g 2), .ref (g 3), .int (sR 0 6), .int (sR 0 7), .ref (g 4), .ref (g 5), .ref (g 6), .int (sR 0 11), .ref (g 7), .int (sR 0 13), .int (sR 0 14), .ref (g 8), .int (sR 0 16), .int (sR 0 17), .long vR, .int (sR 0 19), .int (sR 0 20), .int (sR 0 21), .int (sR 0 22), .int (sR 0 23), .int (sR 0 24), .int (sR 0 25), .ref (g 9), .ref (g 10), .ref (g 11), .ref (g 12), .ref (g 13), .ref (g 14), .ref (g 15)] : List Value).set 23 (.int x))) = cellR cI g (up sR 0 23 x) vR := rfl
theorem putR_R24 {cI : ClassId} {g : Nat → Nat} {sR : St} {vR : Int64} {x : Int32} : (cellR cI g sR vR).set 0 (g 0, .inr (5, ([.ref (g 1), .int (sR 0 1), .int (sR 0 2), .int (sR 0 3), .ref (g 2), .ref (g 3), .int (sR 0 6), .int (sR 0 7), .ref (g 4), .ref (g 5), .ref (g 6), .int (sR 0 11), .ref (g 7), .int (sR 0 13), .int (sR 0 14), .ref (g 8), .int (sR 0 16), .int (sR 0 17), .long vR, .int (sR 0 19), .int (sR 0 20), .int (sR 0 21), .int (sR 0 22), .int (sR 0 23), .int (sR 0 24), .int (sR 0 25), .ref (g 9), .ref (g 10), .ref (g 11), .ref (g 12), .ref (g 13), .ref (g 14), .ref (g 15)] : List Value).set 24 (.int x))) = cellR cI g (up sR 0 24 x) vR := rfl
theorem putR_R25 {cI : ClassId} {g : Nat → Nat} {sR : St} {vR : Int64} {x : Int32} : (cellR cI g sR vR).set 0 (g 0, .inr (5, ([.ref (g 1), .int (sR 0 1), .int (sR 0 2), .int (sR 0 3), .ref (g 2), .ref (g 3), .int (sR 0 6), .int (sR 0 7), .ref (g 4), .ref (g 5), .ref (g 6), .int (sR 0 11), .ref (g 7), .int (sR 0 13), .int (sR 0 14), .ref (g 8), .int (sR 0 16), .int (sR 0 17), .long vR, .int (sR 0 19), .int (sR 0 20), .int (sR 0 21), .int (sR 0 22), .int (sR 0 23), .int (sR 0 24), .int (sR 0 25), .ref (g 9), .ref (g 10), .ref (g 11), .ref (g 12), .ref (g 13), .ref (g 14), .ref (g 15)] : List Value).set 25 (.int x))) = cellR cI g (up sR 0 25 x) vR := rfl
theorem setR_R27 {cI : ClassId} {g : Nat → Nat} {sR : St} {vR : Int64} {i : Nat} {x : Int32} : (cellR cI g sR vR).set 9 (g 9, .inl (cI, 61, .inl (upd (sR 27) i x))) = cellR cI g (up sR 27 i x) vR := rfl
theorem setR_R28 {cI : ClassId} {g : Nat → Nat} {sR : St} {vR : Int64} {i : Nat} {x : Int32} : (cellR cI g sR vR).set 10 (g 10, .inl (cI, 775, .inl (upd (sR 28) i x))) = cellR cI g (up sR 28 i x) vR := rfl
theorem setR_R29 {cI : ClassId} {g : Nat → Nat} {sR : St} {vR : Int64} {i : Nat} {x : Int32} : (cellR cI g sR vR).set 11 (g 11, .inl (cI, 48, .inl (upd (sR 29) i x))) = cellR cI g (up sR 29 i x) vR := rfl
theorem setR_R30 {cI : ClassId} {g : Nat → Nat} {sR : St} {vR : Int64} {i : Nat} {x : Int32} : (cellR cI g sR vR).set 12 (g 12, .inl (cI, 48, .inl (upd (sR 30) i x))) = cellR cI g (up sR 30 i x) vR := rfl
theorem setR_R31 {cI : ClassId} {g : Nat → Nat} {sR : St} {vR : Int64} {i : Nat} {x : Int32} : (cellR cI g sR vR).set 13 (g 13, .inl (cI, 48, .inl (upd (sR 31) i x))) = cellR cI g (up sR 31 i x) vR := rfl
theorem setR_R32 {cI : ClassId} {g : Nat → Nat} {sR : St} {vR : Int64} {i : Nat} {x : Int32} : (cellR cI g sR vR).set 14 (g 14, .inl (cI, 6, .inl (upd (sR 32) i x))) = cellR cI g (up sR 32 i x) vR := rfl
theorem setR_R33 {cI : ClassId} {g : Nat → Nat} {sR : St} {vR : Int64} {i : Nat} {x : Int32} : (cellR cI g sR vR).set 15 (g 15, .inl (cI, 6, .inl (upd (sR 33) i x))) = cellR cI g (up sR 33 i x) vR := rfl
theorem setMB_B1 {cI : ClassId} {g : Nat → Nat} {sM : St} {sB : St} {i : Nat} {x : Int32} : ((cellM cI g sM) ++ cellB cI g sB).set 6 (g 7, .inl (cI, 61, .inl (upd (sB 1) i x))) = (cellM cI g sM) ++ cellB cI g (up sB 1 i x) := rfl
theorem setMB_B2 {cI : ClassId} {g : Nat → Nat} {sM : St} {sB : St} {i : Nat} {x : Int32} : ((cellM cI g sM) ++ cellB cI g sB).set 7 (g 8, .inl (cI, 16, .inl (upd (sB 2) i x))) = (cellM cI g sM) ++ cellB cI g (up sB 2 i x) := rfl
theorem setMB_B3 {cI : ClassId} {g : Nat → Nat} {sM : St} {sB : St} {i : Nat} {x : Int32} : ((cellM cI g sM) ++ cellB cI g sB).set 8 (g 9, .inl (cI, 16, .inl (upd (sB 3) i x))) = (cellM cI g sM) ++ cellB cI g (up sB 3 i x) := rfl
theorem setMB_B4 {cI : ClassId} {g : Nat → Nat} {sM : St} {sB : St} {i : Nat} {x : Int32} : ((cellM cI g sM) ++ cellB cI g sB).set 9 (g 10, .inl (cI, 31, .inl (upd (sB 4) i x))) = (cellM cI g sM) ++ cellB cI g (up sB 4 i x) := rfl
theorem setMB_B5 {cI : ClassId} {g : Nat → Nat} {sM : St} {sB : St} {i : Nat} {x : Int32} : ((cellM cI g sM) ++ cellB cI g sB).set 10 (g 11, .inl (cI, 31, .inl (upd (sB 5) i x))) = (cellM cI g sM) ++ cellB cI g (up sB 5 i x) := rfl
theorem putMB_B5 {cI : ClassId} {g : Nat → Nat} {sM : St} {sB : St} {x : Int32} : ((cellM cI g sM) ++ cellB cI g sB).set 5 (g 6, .inr (0, ([.ref (g 7), .ref (g 8), .ref (g 9), .ref (g 10), .ref (g 11), .int (sB 0 5), .int (sB 0 6)] : List Value).set 5 (.int x))) = (cellM cI g sM) ++ cellB cI g (up sB 0 5 x) := rfl
theorem putMB_B6 {cI : ClassId} {g : Nat → Nat} {sM : St} {sB : St} {x : Int32} : ((cellM cI g sM) ++ cellB cI g sB).set 5 (g 6, .inr (0, ([.ref (g 7), .ref (g 8), .ref (g 9), .ref (g 10), .ref (g 11), .int (sB 0 5), .int (sB 0 6)] : List Value).set 6 (.int x))) = (cellM cI g sM) ++ cellB cI g (up sB 0 6 x) := rfl
theorem putTMBLS_T4 {cI : ClassId} {g : Nat → Nat} {sT : St} {vT : Int64} {sM : St} {sB : St} {sL : St} {sS : St} {x : Int32} : (((((cellT cI g sT vT) ++ cellM cI g sM) ++ cellB cI g sB) ++ cellL cI g sL) ++ cellS cI g sS).set 0 (g 0, .inr (4, ([.ref (g 1), .ref (g 6), .ref (g 12), .ref (g 17), .int (sT 0 4), .int (sT 0 5), .long vT] : List Value).set 4 (.int x))) = ((((cellT cI g (up sT 0 4 x) vT) ++ cellM cI g sM) ++ cellB cI g sB) ++ cellL cI g sL) ++ cellS cI g sS := rfl
theorem putTMBLS_T5 {cI : ClassId} {g : Nat → Nat} {sT : St} {vT : Int64} {sM : St} {sB : St} {sL : St} {sS : St} {x : Int32} : (((((cellT cI g sT vT) ++ cellM cI g sM) ++ cellB cI g sB) ++ cellL cI g sL) ++ cellS cI g sS).set 0 (g 0, .inr (4, ([.ref (g 1), .ref (g 6), .ref (g 12), .ref (g 17), .int (sT 0 4), .int (sT 0 5), .long vT] : List Value).set 5 (.int x))) = ((((cellT cI g (up sT 0 5 x) vT) ++ cellM cI g sM) ++ cellB cI g sB) ++ cellL cI g sL) ++ cellS cI g sS := rfl
theorem putTMBLS_T6 {cI : ClassId} {g : Nat → Nat} {sT : St} {vT : Int64} {sM : St} {sB : St} {sL : St} {sS : St} {x : Int64} : (((((cellT cI g sT vT) ++ cellM cI g sM) ++ cellB cI g sB) ++ cellL cI g sL) ++ cellS cI g sS).set 0 (g 0, .inr (4, ([.ref (g 1), .ref (g 6), .ref (g 12), .ref (g 17), .int (sT 0 4), .int (sT 0 5), .long vT] : List Value).set 6 (.long x))) = ((((cellT cI g sT x) ++ cellM cI g sM) ++ cellB cI g sB) ++ cellL cI g sL) ++ cellS cI g sS := rfl

theorem tl_m2147483648 : ((-2147483648) : Int32).toInt = (-2147483648) := by decide +kernel
theorem tl_m2000 : ((-2000) : Int32).toInt = (-2000) := by decide +kernel
theorem tl_m1000 : ((-1000) : Int32).toInt = (-1000) := by decide +kernel
theorem tl_m180 : ((-180) : Int32).toInt = (-180) := by decide +kernel
theorem tl_m100 : ((-100) : Int32).toInt = (-100) := by decide +kernel
theorem tl_m20 : ((-20) : Int32).toInt = (-20) := by decide +kernel
theorem tl_m13 : ((-13) : Int32).toInt = (-13) := by decide +kernel
theorem tl_m12 : ((-12) : Int32).toInt = (-12) := by decide +kernel
theorem tl_m9 : ((-9) : Int32).toInt = (-9) := by decide +kernel
theorem tl_m3 : ((-3) : Int32).toInt = (-3) := by decide +kernel
theorem tl_m2 : ((-2) : Int32).toInt = (-2) := by decide +kernel
theorem tl_m1 : ((-1) : Int32).toInt = (-1) := by decide +kernel
theorem tl_0 : (0 : Int32).toInt = 0 := by decide +kernel
theorem tl_1 : (1 : Int32).toInt = 1 := by decide +kernel
theorem tl_2 : (2 : Int32).toInt = 2 := by decide +kernel
theorem tl_3 : (3 : Int32).toInt = 3 := by decide +kernel
theorem tl_4 : (4 : Int32).toInt = 4 := by decide +kernel
theorem tl_5 : (5 : Int32).toInt = 5 := by decide +kernel
theorem tl_6 : (6 : Int32).toInt = 6 := by decide +kernel
theorem tl_7 : (7 : Int32).toInt = 7 := by decide +kernel
theorem tl_8 : (8 : Int32).toInt = 8 := by decide +kernel
theorem tl_9 : (9 : Int32).toInt = 9 := by decide +kernel
theorem tl_10 : (10 : Int32).toInt = 10 := by decide +kernel
theorem tl_11 : (11 : Int32).toInt = 11 := by decide +kernel
theorem tl_12 : (12 : Int32).toInt = 12 := by decide +kernel
theorem tl_16 : (16 : Int32).toInt = 16 := by decide +kernel
theorem tl_20 : (20 : Int32).toInt = 20 := by decide +kernel
theorem tl_25 : (25 : Int32).toInt = 25 := by decide +kernel
theorem tl_30 : (30 : Int32).toInt = 30 := by decide +kernel
theorem tl_31 : (31 : Int32).toInt = 31 := by decide +kernel
theorem tl_40 : (40 : Int32).toInt = 40 := by decide +kernel
theorem tl_48 : (48 : Int32).toInt = 48 := by decide +kernel
theorem tl_50 : (50 : Int32).toInt = 50 := by decide +kernel
theorem tl_60 : (60 : Int32).toInt = 60 := by decide +kernel
theorem tl_61 : (61 : Int32).toInt = 61 := by decide +kernel
theorem tl_63 : (63 : Int32).toInt = 63 := by decide +kernel
theorem tl_85 : (85 : Int32).toInt = 85 := by decide +kernel
theorem tl_89 : (89 : Int32).toInt = 89 := by decide +kernel
theorem tl_99 : (99 : Int32).toInt = 99 := by decide +kernel
theorem tl_100 : (100 : Int32).toInt = 100 := by decide +kernel
theorem tl_111 : (111 : Int32).toInt = 111 := by decide +kernel
theorem tl_160 : (160 : Int32).toInt = 160 := by decide +kernel
theorem tl_161 : (161 : Int32).toInt = 161 := by decide +kernel
theorem tl_180 : (180 : Int32).toInt = 180 := by decide +kernel
theorem tl_200 : (200 : Int32).toInt = 200 := by decide +kernel
theorem tl_300 : (300 : Int32).toInt = 300 := by decide +kernel
theorem tl_500 : (500 : Int32).toInt = 500 := by decide +kernel
theorem tl_775 : (775 : Int32).toInt = 775 := by decide +kernel
theorem tl_900 : (900 : Int32).toInt = 900 := by decide +kernel
theorem tl_999 : (999 : Int32).toInt = 999 := by decide +kernel
theorem tl_1000 : (1000 : Int32).toInt = 1000 := by decide +kernel
theorem tl_2000 : (2000 : Int32).toInt = 2000 := by decide +kernel
theorem tl_4000 : (4000 : Int32).toInt = 4000 := by decide +kernel
theorem tl_9000 : (9000 : Int32).toInt = 9000 := by decide +kernel
theorem tl_9999 : (9999 : Int32).toInt = 9999 := by decide +kernel
theorem tl_20000 : (20000 : Int32).toInt = 20000 := by decide +kernel
theorem tl_40500 : (40500 : Int32).toInt = 40500 := by decide +kernel
theorem tl_100000 : (100000 : Int32).toInt = 100000 := by decide +kernel
theorem tl_1000000 : (1000000 : Int32).toInt = 1000000 := by decide +kernel
theorem tl_252645135 : (252645135 : Int32).toInt = 252645135 := by decide +kernel
theorem tl_858993459 : (858993459 : Int32).toInt = 858993459 := by decide +kernel
theorem tl_1431655765 : (1431655765 : Int32).toInt = 1431655765 := by decide +kernel
theorem tl_2147483647 : (2147483647 : Int32).toInt = 2147483647 := by decide +kernel
end
section
/-! what each method does, as pure functions: laid by wip/gen/walk.py -/
def m_B_putSpread (sB : St) (p1 : Int32) : Int32 × St :=
  ((sB 0 6), (up sB 0 6 p1))
def m_B_tell (sB : St) (p1 : Int32) (p2 : Int32) : Int32 × St :=
  (if 16 ≤ (sB 0 5) then (0, sB)
  else (if (sB 0 5) < 16 then (1, (up (up (up sB 2 (Int32.toNatClampNeg (sB 0 5)) p1) 3 (Int32.toNatClampNeg (sB 0 5)) p2) 0 5 ((sB 0 5) + 1)))
  else (0, sB)))
def m_B_told (sB : St)  : Int32 :=
  (sB 0 5)
def m_B_forgetShots (sB : St)  : Int32 × St :=
  ((sB 0 5), (up sB 0 5 0))
def m_M_slingNow (sM : St)  : Int32 :=
  (sM 1 3)
def m_J_floorDiv  (p0 : Int64) (p2 : Int64) : Int64 :=
  (if 0 ≤ (lg_cmp (p0 ^^^ p2) 0) then (p0 / p2)
  else (if (lg_cmp ((p0 / p2) * p2) p0) = 0 then (p0 / p2)
  else ((p0 / p2) - 1)))
def m_T_up  (p0 : Int64) (p2 : Int64) : Int64 :=
  (if (lg_cmp p2 0) ≤ 0 then 0
  else (-(m_J_floorDiv (-p0) p2)))
def m_M_turnOfRelease (sM : St) (p1 : Int32) (p2 : Int32) : Int32 :=
  (if (lg_cmp (m_T_up (((100 + (Int32.toInt64 p2)) * 2) * (Int32.toInt64 p1)) ((Int32.toInt64 (sM 1 1)) + (2 * (Int32.toInt64 p1)))) 1) < 0 then 161
  else (if 0 < (lg_cmp (m_T_up (((100 + (Int32.toInt64 p2)) * 2) * (Int32.toInt64 p1)) ((Int32.toInt64 (sM 1 1)) + (2 * (Int32.toInt64 p1)))) 160) then 161
  else (Int64.toInt32 (m_T_up (((100 + (Int32.toInt64 p2)) * 2) * (Int32.toInt64 p1)) ((Int32.toInt64 (sM 1 1)) + (2 * (Int32.toInt64 p1)))))))
def m_T_within  (p0 : Int32) (p1 : Int32) (p2 : Int32) : Int32 :=
  (if p0 < p1 then 0
  else (if p2 < p0 then 0
  else 1))
def m_T_down  (p0 : Int64) (p2 : Int64) : Int64 :=
  (if (lg_cmp p2 0) ≤ 0 then 0
  else (m_J_floorDiv p0 p2))
def m_M_speedFor (sM : St) (p1 : Int32) (p2 : Int32) : Int64 :=
  (m_T_down ((2 * (Int32.toInt64 p1)) * ((Int32.toInt64 ((sM 1 1) + p2)) * (Int32.toInt64 ((sM 1 1) + p2)))) ((((Int32.toInt64 (sM 1 2)) * (Int32.toInt64 (sM 1 0))) * (Int32.toInt64 (sM 1 0))) + ((Int32.toInt64 (sM 1 7)) * ((Int32.toInt64 ((sM 1 1) + p2)) * (Int32.toInt64 ((sM 1 1) + p2))))))
def m_T_sineOf  (p0 : Int32) : Int32 :=
  (if 0 ≤ p0 then (Int64.toInt32 (m_T_down (4000 * ((Int32.toInt64 (if 0 ≤ p0 then p0 else 0 - p0)) * (Int32.toInt64 (180 - (if 0 ≤ p0 then p0 else 0 - p0))))) (40500 - ((Int32.toInt64 (if 0 ≤ p0 then p0 else 0 - p0)) * (Int32.toInt64 (180 - (if 0 ≤ p0 then p0 else 0 - p0)))))))
  else (-(Int64.toInt32 (m_T_down (4000 * ((Int32.toInt64 (if 0 ≤ p0 then p0 else 0 - p0)) * (Int32.toInt64 (180 - (if 0 ≤ p0 then p0 else 0 - p0))))) (40500 - ((Int32.toInt64 (if 0 ≤ p0 then p0 else 0 - p0)) * (Int32.toInt64 (180 - (if 0 ≤ p0 then p0 else 0 - p0)))))))))
def m_M_flightOf (sM : St) (p1 : Int32) (p2 : Int32) : Int32 :=
  (if p1 < 1 then (if p1 < 2 then (Int64.toInt32 (if ((Int32.toInt64 p2) - (m_T_down ((Int32.toInt64 p2) * (Int32.toInt64 p2)) ((20 * (Int32.toInt64 (sM 1 7))) + 2000))) < 0 then 0 else ((Int32.toInt64 p2) - (m_T_down ((Int32.toInt64 p2) * (Int32.toInt64 p2)) ((20 * (Int32.toInt64 (sM 1 7))) + 2000)))))
  else (Int64.toInt32 (if (((if ((Int32.toInt64 p2) - (m_T_down ((Int32.toInt64 p2) * (Int32.toInt64 p2)) ((20 * (Int32.toInt64 (sM 1 7))) + 2000))) < 0 then 0 else ((Int32.toInt64 p2) - (m_T_down ((Int32.toInt64 p2) * (Int32.toInt64 p2)) ((20 * (Int32.toInt64 (sM 1 7))) + 2000)))) - (2 * (m_T_down (if ((Int32.toInt64 p2) - (m_T_down ((Int32.toInt64 p2) * (Int32.toInt64 p2)) ((20 * (Int32.toInt64 (sM 1 7))) + 2000))) < 0 then 0 else ((Int32.toInt64 p2) - (m_T_down ((Int32.toInt64 p2) * (Int32.toInt64 p2)) ((20 * (Int32.toInt64 (sM 1 7))) + 2000)))) 25))) - 3) < 0 then 0 else (((if ((Int32.toInt64 p2) - (m_T_down ((Int32.toInt64 p2) * (Int32.toInt64 p2)) ((20 * (Int32.toInt64 (sM 1 7))) + 2000))) < 0 then 0 else ((Int32.toInt64 p2) - (m_T_down ((Int32.toInt64 p2) * (Int32.toInt64 p2)) ((20 * (Int32.toInt64 (sM 1 7))) + 2000)))) - (2 * (m_T_down (if ((Int32.toInt64 p2) - (m_T_down ((Int32.toInt64 p2) * (Int32.toInt64 p2)) ((20 * (Int32.toInt64 (sM 1 7))) + 2000))) < 0 then 0 else ((Int32.toInt64 p2) - (m_T_down ((Int32.toInt64 p2) * (Int32.toInt64 p2)) ((20 * (Int32.toInt64 (sM 1 7))) + 2000)))) 25))) - 3))))
  else (if p1 < 2 then (Int64.toInt32 ((if ((Int32.toInt64 p2) - (m_T_down ((Int32.toInt64 p2) * (Int32.toInt64 p2)) ((20 * (Int32.toInt64 (sM 1 7))) + 2000))) < 0 then 0 else ((Int32.toInt64 p2) - (m_T_down ((Int32.toInt64 p2) * (Int32.toInt64 p2)) ((20 * (Int32.toInt64 (sM 1 7))) + 2000)))) - (m_T_up (if ((Int32.toInt64 p2) - (m_T_down ((Int32.toInt64 p2) * (Int32.toInt64 p2)) ((20 * (Int32.toInt64 (sM 1 7))) + 2000))) < 0 then 0 else ((Int32.toInt64 p2) - (m_T_down ((Int32.toInt64 p2) * (Int32.toInt64 p2)) ((20 * (Int32.toInt64 (sM 1 7))) + 2000)))) 8)))
  else (Int64.toInt32 (if ((((if ((Int32.toInt64 p2) - (m_T_down ((Int32.toInt64 p2) * (Int32.toInt64 p2)) ((20 * (Int32.toInt64 (sM 1 7))) + 2000))) < 0 then 0 else ((Int32.toInt64 p2) - (m_T_down ((Int32.toInt64 p2) * (Int32.toInt64 p2)) ((20 * (Int32.toInt64 (sM 1 7))) + 2000)))) - (m_T_up (if ((Int32.toInt64 p2) - (m_T_down ((Int32.toInt64 p2) * (Int32.toInt64 p2)) ((20 * (Int32.toInt64 (sM 1 7))) + 2000))) < 0 then 0 else ((Int32.toInt64 p2) - (m_T_down ((Int32.toInt64 p2) * (Int32.toInt64 p2)) ((20 * (Int32.toInt64 (sM 1 7))) + 2000)))) 8)) - (2 * (m_T_down ((if ((Int32.toInt64 p2) - (m_T_down ((Int32.toInt64 p2) * (Int32.toInt64 p2)) ((20 * (Int32.toInt64 (sM 1 7))) + 2000))) < 0 then 0 else ((Int32.toInt64 p2) - (m_T_down ((Int32.toInt64 p2) * (Int32.toInt64 p2)) ((20 * (Int32.toInt64 (sM 1 7))) + 2000)))) - (m_T_up (if ((Int32.toInt64 p2) - (m_T_down ((Int32.toInt64 p2) * (Int32.toInt64 p2)) ((20 * (Int32.toInt64 (sM 1 7))) + 2000))) < 0 then 0 else ((Int32.toInt64 p2) - (m_T_down ((Int32.toInt64 p2) * (Int32.toInt64 p2)) ((20 * (Int32.toInt64 (sM 1 7))) + 2000)))) 8)) 25))) - 3) < 0 then 0 else ((((if ((Int32.toInt64 p2) - (m_T_down ((Int32.toInt64 p2) * (Int32.toInt64 p2)) ((20 * (Int32.toInt64 (sM 1 7))) + 2000))) < 0 then 0 else ((Int32.toInt64 p2) - (m_T_down ((Int32.toInt64 p2) * (Int32.toInt64 p2)) ((20 * (Int32.toInt64 (sM 1 7))) + 2000)))) - (m_T_up (if ((Int32.toInt64 p2) - (m_T_down ((Int32.toInt64 p2) * (Int32.toInt64 p2)) ((20 * (Int32.toInt64 (sM 1 7))) + 2000))) < 0 then 0 else ((Int32.toInt64 p2) - (m_T_down ((Int32.toInt64 p2) * (Int32.toInt64 p2)) ((20 * (Int32.toInt64 (sM 1 7))) + 2000)))) 8)) - (2 * (m_T_down ((if ((Int32.toInt64 p2) - (m_T_down ((Int32.toInt64 p2) * (Int32.toInt64 p2)) ((20 * (Int32.toInt64 (sM 1 7))) + 2000))) < 0 then 0 else ((Int32.toInt64 p2) - (m_T_down ((Int32.toInt64 p2) * (Int32.toInt64 p2)) ((20 * (Int32.toInt64 (sM 1 7))) + 2000)))) - (m_T_up (if ((Int32.toInt64 p2) - (m_T_down ((Int32.toInt64 p2) * (Int32.toInt64 p2)) ((20 * (Int32.toInt64 (sM 1 7))) + 2000))) < 0 then 0 else ((Int32.toInt64 p2) - (m_T_down ((Int32.toInt64 p2) * (Int32.toInt64 p2)) ((20 * (Int32.toInt64 (sM 1 7))) + 2000)))) 8)) 25))) - 3)))))
def b_M_reckonRelease_121 (sM_121 : St) (x9_121 : Int32) : St :=
  (up sM_121 3 6 (if 0 < (x9_121 + (((sM_121 0 5) * x9_121) / 100)) then (x9_121 + (((sM_121 0 5) * x9_121) / 100)) else 0))
def b_M_reckonRelease_87 (sM_87 : St) (x5_87 : Int64) (x7_87 : Int64) : St :=
  (b_M_reckonRelease_121 (up (up sM_87 3 4 (Int64.toInt32 x5_87)) 3 5 (Int64.toInt32 x7_87)) (m_M_flightOf (up (up sM_87 3 4 (Int64.toInt32 x5_87)) 3 5 (Int64.toInt32 x7_87)) (sM_87 1 8) (Int64.toInt32 x7_87)))
def b_M_reckonRelease_68 (sM_68 : St) (x4_68 : Int32) (x5_68 : Int64) : St :=
  (b_M_reckonRelease_87 sM_68 x5_68 (m_T_down (x5_68 * (Int32.toInt64 (m_T_sineOf (2 * x4_68)))) 8000))
def b_M_reckonRelease_16 (sM_16 : St) (p1 : Int32) (p2 : Int32) (x4_16 : Int32) : St :=
  (if (m_T_within x4_16 1 89) = 0 then (up (up (up sM_16 3 0 p1) 3 2 (sM_16 2 (Int32.toNatClampNeg p1))) 3 3 x4_16)
  else (b_M_reckonRelease_68 (up (up (up sM_16 3 0 p1) 3 2 (sM_16 2 (Int32.toNatClampNeg p1))) 3 3 x4_16) x4_16 (m_M_speedFor (up (up (up sM_16 3 0 p1) 3 2 (sM_16 2 (Int32.toNatClampNeg p1))) 3 3 x4_16) (sM_16 2 (Int32.toNatClampNeg p1)) p2)))
def m_M_reckonRelease (sM : St) (p1 : Int32) (p2 : Int32) (p3 : Int32) : St :=
  (b_M_reckonRelease_16 sM p1 p2 ((180 - (p1 - (sM 1 5))) - p3))
def f_M_reckon_2   (sM_2 : St) (x3_2 : Int32) : Option (St × Int32) :=
  (if 7 ≤ x3_2 then none
  else some ((up sM_2 3 (Int32.toNatClampNeg x3_2) (-9)), (x3_2 + 1)))
def g_M_reckon_2   : St × Int32 → Option (St × Int32) := fun v => f_M_reckon_2 v.1 v.2
def b_M_reckon_25 (sM_25 : St) (p1 : Int32) (p2 : Int32) : Int32 × St :=
  (if 161 ≤ (sM_25 0 4) then (if 161 ≤ (m_M_turnOfRelease sM_25 p1 p2) then ((sM_25 3 6), sM_25)
  else (((m_M_reckonRelease sM_25 (m_M_turnOfRelease sM_25 p1 p2) p1 p2) 3 6), (m_M_reckonRelease sM_25 (m_M_turnOfRelease sM_25 p1 p2) p1 p2)))
  else (if (m_M_turnOfRelease sM_25 p1 p2) < (sM_25 0 4) then (if 161 ≤ (m_M_turnOfRelease sM_25 p1 p2) then ((sM_25 3 6), sM_25)
  else (((m_M_reckonRelease sM_25 (m_M_turnOfRelease sM_25 p1 p2) p1 p2) 3 6), (m_M_reckonRelease sM_25 (m_M_turnOfRelease sM_25 p1 p2) p1 p2)))
  else (((up sM_25 3 1 (sM_25 0 4)) 3 6), (up sM_25 3 1 (sM_25 0 4)))))
def m_M_reckon (sM : St) (p1 : Int32) (p2 : Int32) : Int32 × St :=
  (b_M_reckon_25 (wl g_M_reckon_2 8 (sM, 0)).1 p1 p2)
def m_B_scaled (sB : St) (p1 : Int32) (p2 : Int32) : Int32 :=
  (Int64.toInt32 (m_T_down ((Int32.toInt64 (sB 1 (Int32.toNatClampNeg p2))) * (Int32.toInt64 (85 + p1))) 100))
def m_B_bear (sB : St) (p1 : Int32) (p2 : Int32) (p3 : Int32) : St :=
  (if (sB 1 (Int32.toNatClampNeg p2)) = (-9) then (up sB 5 (Int32.toNatClampNeg p1) (-13))
  else (up (up sB 4 (Int32.toNatClampNeg p1) (if (sB 4 (Int32.toNatClampNeg p1)) < ((p3 - (m_B_scaled sB p1 p2)) - (sB 0 6)) then ((p3 - (m_B_scaled sB p1 p2)) - (sB 0 6)) else (sB 4 (Int32.toNatClampNeg p1)))) 5 (Int32.toNatClampNeg p1) (if ((p3 - (m_B_scaled sB p1 p2)) + (sB 0 6)) < (sB 5 (Int32.toNatClampNeg p1)) then ((p3 - (m_B_scaled sB p1 p2)) + (sB 0 6)) else (sB 5 (Int32.toNatClampNeg p1)))))
def f_B_study_61 (sM_61 : St) (x3_61 : Int32) (sB_61 : St) (x4_61 : Int32) : Option (St × Int32) :=
  (if (sB_61 0 5) ≤ x4_61 then none
  else some ((m_B_bear sB_61 x3_61 (sB_61 2 (Int32.toNatClampNeg x4_61)) (sB_61 3 (Int32.toNatClampNeg x4_61))), (x4_61 + 1)))
def g_B_study_61 (sM_61 : St) (x3_61 : Int32) : St × Int32 → Option (St × Int32) := fun v => f_B_study_61 sM_61 x3_61 v.1 v.2
def f_B_study_7  (x2_7 : Int32) (sM_7 : St) (sB_7 : St) (x3_7 : Int32) : Option (St × St × Int32) :=
  (if 61 ≤ x3_7 then none
  else some ((m_M_reckon sM_7 x2_7 x3_7).2, (up sB_7 1 (Int32.toNatClampNeg x3_7) (m_M_reckon sM_7 x2_7 x3_7).1), (x3_7 + 1)))
def g_B_study_7  (x2_7 : Int32) : St × St × Int32 → Option (St × St × Int32) := fun v => f_B_study_7 x2_7 v.1 v.2.1 v.2.2
def b_B_study_95 (sM_36 : St) (sB_95 : St) (x3_95 : Int32) : Option (St × Int32) :=
  some (sB_95, (x3_95 + 1))
def f_B_study_36 (sM_36 : St)  (sB_36 : St) (x3_36 : Int32) : Option (St × Int32) :=
  (if 31 ≤ x3_36 then none
  else (b_B_study_95 sM_36 (wl (g_B_study_61 sM_36 x3_36) 17 ((up (up sB_36 4 (Int32.toNatClampNeg x3_36) (-12)) 5 (Int32.toNatClampNeg x3_36) 12), 0)).1 x3_36))
def g_B_study_36 (sM_36 : St)  : St × Int32 → Option (St × Int32) := fun v => f_B_study_36 sM_36 v.1 v.2
def b_B_study_101 (sM_101 : St) (sB_101 : St) : St × St :=
  (sM_101, sB_101)
def b_B_study_34 (sM_34 : St) (sB_34 : St) : St × St :=
  (b_B_study_101 sM_34 (wl (g_B_study_36 sM_34) 32 (sB_34, 0)).1)
def m_B_study (sM : St) (sB : St)  : St × St :=
  (b_B_study_34 (wl (g_B_study_7 (m_M_slingNow sM)) 62 (sM, sB, 0)).1 (wl (g_B_study_7 (m_M_slingNow sM)) 62 (sM, sB, 0)).2.1)
def m_B_isLeft (sB : St) (p1 : Int32) : Int32 :=
  (if (sB 5 (Int32.toNatClampNeg p1)) < (sB 4 (Int32.toNatClampNeg p1)) then 0
  else 1)
def f_B_pairsLeft_4 (sB : St)  (x1_4 : Int32) (x2_4 : Int32) : Option (Int32 × Int32) :=
  (if 31 ≤ x2_4 then none
  else (if (m_B_isLeft sB x2_4) = 0 then some ((x1_4 + 0), (x2_4 + 1))
  else some ((x1_4 + (((sB 5 (Int32.toNatClampNeg x2_4)) - (sB 4 (Int32.toNatClampNeg x2_4))) + 1)), (x2_4 + 1))))
def g_B_pairsLeft_4 (sB : St)  : Int32 × Int32 → Option (Int32 × Int32) := fun v => f_B_pairsLeft_4 sB v.1 v.2
def b_B_pairsLeft_46 (sB : St) (x1_46 : Int32) : Int32 :=
  x1_46
def m_B_pairsLeft (sB : St)  : Int32 :=
  (b_B_pairsLeft_46 sB (wl (g_B_pairsLeft_4 sB) 32 (0, 0)).1)
def m_B_places (sB : St) (p1 : Int32) : Int32 :=
  (if (sB 1 (Int32.toNatClampNeg p1)) = (-9) then 0
  else (if (m_B_pairsLeft sB) ≤ 0 then 0
  else 1))
def f_B_leastPlace_5 (sB : St) (p1 : Int32) (x2_5 : Int32) (x3_5 : Int32) : Option (Int32 × Int32) :=
  (if 31 ≤ x3_5 then none
  else (if (m_B_isLeft sB x3_5) = 0 then some (x2_5, (x3_5 + 1))
  else some ((if ((m_B_scaled sB x3_5 p1) + (sB 4 (Int32.toNatClampNeg x3_5))) < x2_5 then ((m_B_scaled sB x3_5 p1) + (sB 4 (Int32.toNatClampNeg x3_5))) else x2_5), (x3_5 + 1))))
def g_B_leastPlace_5 (sB : St) (p1 : Int32) : Int32 × Int32 → Option (Int32 × Int32) := fun v => f_B_leastPlace_5 sB p1 v.1 v.2
def b_B_leastPlace_43 (sB : St) (x2_43 : Int32) : Int32 :=
  x2_43
def m_B_leastPlace (sB : St) (p1 : Int32) : Int32 :=
  (b_B_leastPlace_43 sB (wl (g_B_leastPlace_5 sB p1) 32 (2147483647, 0)).1)
def f_B_greatestPlace_5 (sB : St) (p1 : Int32) (x2_5 : Int32) (x3_5 : Int32) : Option (Int32 × Int32) :=
  (if 31 ≤ x3_5 then none
  else (if (m_B_isLeft sB x3_5) = 0 then some (x2_5, (x3_5 + 1))
  else some ((if x2_5 < ((m_B_scaled sB x3_5 p1) + (sB 5 (Int32.toNatClampNeg x3_5))) then ((m_B_scaled sB x3_5 p1) + (sB 5 (Int32.toNatClampNeg x3_5))) else x2_5), (x3_5 + 1))))
def g_B_greatestPlace_5 (sB : St) (p1 : Int32) : Int32 × Int32 → Option (Int32 × Int32) := fun v => f_B_greatestPlace_5 sB p1 v.1 v.2
def b_B_greatestPlace_43 (sB : St) (x2_43 : Int32) : Int32 :=
  x2_43
def m_B_greatestPlace (sB : St) (p1 : Int32) : Int32 :=
  (b_B_greatestPlace_43 sB (wl (g_B_greatestPlace_5 sB p1) 32 ((-2147483648), 0)).1)
def f_B_widestHook_7 (sB : St)  (x1_7 : Int32) (x2_7 : Int32) (x3_7 : Int32) : Option (Int32 × Int32 × Int32) :=
  (if 61 ≤ x3_7 then none
  else (if (m_B_places sB x3_7) = 0 then (if (-1) ≤ x2_7 then some (x1_7, x2_7, (x3_7 + 1))
  else some (x3_7, (-1), (x3_7 + 1)))
  else (if ((m_B_greatestPlace sB x3_7) - (m_B_leastPlace sB x3_7)) ≤ x2_7 then some (x1_7, x2_7, (x3_7 + 1))
  else some (x3_7, ((m_B_greatestPlace sB x3_7) - (m_B_leastPlace sB x3_7)), (x3_7 + 1)))))
def g_B_widestHook_7 (sB : St)  : Int32 × Int32 × Int32 → Option (Int32 × Int32 × Int32) := fun v => f_B_widestHook_7 sB v.1 v.2.1 v.2.2
def b_B_widestHook_58 (sB : St) (x1_58 : Int32) : Int32 :=
  x1_58
def m_B_widestHook (sB : St)  : Int32 :=
  (b_B_widestHook_58 sB (wl (g_B_widestHook_7 sB) 62 ((-9), (-1), 0)).1)
def m_B_farthestMiss (sB : St) (p1 : Int32) (p2 : Int32) : Int32 :=
  (if (if 0 ≤ ((m_B_leastPlace sB p1) - p2) then ((m_B_leastPlace sB p1) - p2) else 0 - ((m_B_leastPlace sB p1) - p2)) < (if 0 ≤ ((m_B_greatestPlace sB p1) - p2) then ((m_B_greatestPlace sB p1) - p2) else 0 - ((m_B_greatestPlace sB p1) - p2)) then (if 0 ≤ ((m_B_greatestPlace sB p1) - p2) then ((m_B_greatestPlace sB p1) - p2) else 0 - ((m_B_greatestPlace sB p1) - p2)) else (if 0 ≤ ((m_B_leastPlace sB p1) - p2) then ((m_B_leastPlace sB p1) - p2) else 0 - ((m_B_leastPlace sB p1) - p2)))
def f_B_surestHook_9 (sB : St) (p1 : Int32) (x2_9 : Int32) (x3_9 : Int32) (x4_9 : Int32) : Option (Int32 × Int32 × Int32) :=
  (if 61 ≤ x4_9 then none
  else (if (m_B_places sB x4_9) = 0 then (if x3_9 ≤ 2147483647 then some (x2_9, x3_9, (x4_9 + 1))
  else some (x4_9, 2147483647, (x4_9 + 1)))
  else (if x3_9 ≤ (m_B_farthestMiss sB x4_9 p1) then some (x2_9, x3_9, (x4_9 + 1))
  else some (x4_9, (m_B_farthestMiss sB x4_9 p1), (x4_9 + 1)))))
def g_B_surestHook_9 (sB : St) (p1 : Int32) : Int32 × Int32 × Int32 → Option (Int32 × Int32 × Int32) := fun v => f_B_surestHook_9 sB p1 v.1 v.2.1 v.2.2
def b_B_surestHook_60 (sB : St) (x2_60 : Int32) : Int32 :=
  x2_60
def m_B_surestHook (sB : St) (p1 : Int32) : Int32 :=
  (b_B_surestHook_60 sB (wl (g_B_surestHook_9 sB p1) 62 ((-9), 2147483647, 0)).1)
def m_M_takes (sM : St) (p1 : Int32) (p2 : Int32) : Int32 :=
  (if (m_T_within p1 0 8) = 0 then 0
  else (if (m_T_within p2 (zML (Int32.toNatClampNeg p1)) (zMM (Int32.toNatClampNeg p1))) = 0 then 0
  else 1))
def f_M_turnBeam_55  (x1_55 : Int64) (x3_55 : Int32) (sM_55 : St) (x4_55 : Int32) : Option (St × Int32) :=
  (if x4_55 < 1 then none
  else (if 0 < ((Int64.toInt32 (m_T_down (x1_55 * (Int32.toInt64 ((m_T_sineOf (x4_55 - (sM_55 1 5))) + x3_55))) 1000)) - ((sM_55 1 6) * x4_55)) then some ((up sM_55 2 (Int32.toNatClampNeg x4_55) ((Int64.toInt32 (m_T_down (x1_55 * (Int32.toInt64 ((m_T_sineOf (x4_55 - (sM_55 1 5))) + x3_55))) 1000)) - ((sM_55 1 6) * x4_55))), (x4_55 + (-1)))
  else some ((up (up sM_55 2 (Int32.toNatClampNeg x4_55) ((Int64.toInt32 (m_T_down (x1_55 * (Int32.toInt64 ((m_T_sineOf (x4_55 - (sM_55 1 5))) + x3_55))) 1000)) - ((sM_55 1 6) * x4_55))) 0 4 x4_55), (x4_55 + (-1)))))
def g_M_turnBeam_55  (x1_55 : Int64) (x3_55 : Int32) : St × Int32 → Option (St × Int32) := fun v => f_M_turnBeam_55 x1_55 x3_55 v.1 v.2
def b_M_turnBeam_129 (sM_129 : St) : St :=
  sM_129
def m_M_turnBeam (sM : St)  : St :=
  (b_M_turnBeam_129 (wl (g_M_turnBeam_55 (((Int32.toInt64 (sM 1 2)) * (Int32.toInt64 (sM 1 0))) - ((Int32.toInt64 (sM 1 7)) * (Int32.toInt64 (sM 1 1)))) (m_T_sineOf (sM 1 5))) 161 ((up sM 0 4 161), 160)).1)
def m_M_put (sM : St) (p1 : Int32) (p2 : Int32) : Int32 × St :=
  (if (m_M_takes sM p1 p2) = 0 then ((-1), sM)
  else ((sM 1 (Int32.toNatClampNeg p1)), (m_M_turnBeam (up sM 1 (Int32.toNatClampNeg p1) p2))))
def m_M_putWind (sM : St) (p1 : Int32) : Int32 × St :=
  ((sM 0 5), (up sM 0 5 p1))
def m_M_reckonOwn (sM : St)  : Int32 × St :=
  ((m_M_reckon sM (sM 1 3) (sM 1 4)).1, (m_M_reckon sM (sM 1 3) (sM 1 4)).2)
def m_M_bodiesAsked  (p0 : Int32) : Int32 :=
  (if p0 = 0 then 1
  else (if p0 = 1 then 11
  else 111))
def m_M_reckoned (sM : St) (p1 : Int32) : Int32 :=
  (if (m_T_within p1 0 6) = 0 then (-1)
  else (sM 3 (Int32.toNatClampNeg p1)))
def m_M_keepTuning (sM : St) (p1 : Int32) (p2 : Int32) (p3 : Int32) : St :=
  (up (up (up sM 4 0 p1) 4 1 p2) 4 2 p3)
def f_M_tuneTo_26  (p3 : Int32) (x5_26 : Int32) (sM_26 : St) (x4_26 : Int32) (x6_26 : Int32) : Option (St × Int32 × Int32) :=
  (if 60 < x6_26 then none
  else (if (m_M_reckon sM_26 x5_26 x6_26).1 = (-9) then some ((m_M_reckon sM_26 x5_26 x6_26).2, x4_26, (x6_26 + 1))
  else (if x4_26 ≤ (if 0 ≤ ((m_M_reckon sM_26 x5_26 x6_26).1 - p3) then ((m_M_reckon sM_26 x5_26 x6_26).1 - p3) else 0 - ((m_M_reckon sM_26 x5_26 x6_26).1 - p3)) then some ((m_M_reckon sM_26 x5_26 x6_26).2, x4_26, (x6_26 + 1))
  else some ((m_M_keepTuning (m_M_reckon sM_26 x5_26 x6_26).2 x5_26 x6_26 (m_M_reckon sM_26 x5_26 x6_26).1), (if 0 ≤ ((m_M_reckon sM_26 x5_26 x6_26).1 - p3) then ((m_M_reckon sM_26 x5_26 x6_26).1 - p3) else 0 - ((m_M_reckon sM_26 x5_26 x6_26).1 - p3)), (x6_26 + 1)))))
def g_M_tuneTo_26  (p3 : Int32) (x5_26 : Int32) : St × Int32 × Int32 → Option (St × Int32 × Int32) := fun v => f_M_tuneTo_26 p3 x5_26 v.1 v.2.1 v.2.2
def b_M_tuneTo_86 (sM_86 : St) (p2 : Int32) (p3 : Int32) (x4_86 : Int32) (x5_86 : Int32) : Option (St × Int32 × Int32) :=
  some (sM_86, x4_86, (x5_86 + 1))
def f_M_tuneTo_17  (p2 : Int32) (p3 : Int32) (sM_17 : St) (x4_17 : Int32) (x5_17 : Int32) : Option (St × Int32 × Int32) :=
  (if p2 < x5_17 then none
  else (b_M_tuneTo_86 (wl (g_M_tuneTo_26 p3 x5_17) 62 (sM_17, x4_17, 0)).1 p2 p3 (wl (g_M_tuneTo_26 p3 x5_17) 62 (sM_17, x4_17, 0)).2.1 x5_17))
def g_M_tuneTo_17  (p2 : Int32) (p3 : Int32) : St × Int32 × Int32 → Option (St × Int32 × Int32) := fun v => f_M_tuneTo_17 p2 p3 v.1 v.2.1 v.2.2
def b_M_tuneTo_92 (sM_92 : St) : St :=
  sM_92
def m_M_tuneTo (sM : St) (p1 : Int32) (p2 : Int32) (p3 : Int32) : St :=
  (b_M_tuneTo_92 (wl (g_M_tuneTo_17 p2 p3) 152 ((m_M_keepTuning sM (-9) (-9) (-9)), 2147483647, p1)).1)
def m_M_tuned (sM : St) (p1 : Int32) : Int32 :=
  (if (m_T_within p1 0 2) = 0 then (-1)
  else (sM 4 (Int32.toNatClampNeg p1)))
def m_M_forceAt (sM : St) (p1 : Int32) : Int32 :=
  (Int64.toInt32 (if ((m_T_down ((Int32.toInt64 (sM 1 7)) * (Int32.toInt64 p1)) 500) + 1) < 99 then ((m_T_down ((Int32.toInt64 (sM 1 7)) * (Int32.toInt64 p1)) 500) + 1) else 99))
def m_M_turnsOfShot (sM : St)  : Int32 :=
  (Int64.toInt32 (m_T_up ((Int32.toInt64 (sM 1 2)) * (Int32.toInt64 (sM 1 0))) 1000))
def m_S_takes (sS : St) (p1 : Int32) (p2 : Int32) : Int32 :=
  (if (m_T_within p1 0 4) = 0 then 0
  else (if (m_T_within p2 (zSL (Int32.toNatClampNeg p1)) (zSM (Int32.toNatClampNeg p1))) = 0 then 0
  else 1))
def m_S_put (sS : St) (p1 : Int32) (p2 : Int32) : Int32 × St :=
  (if (m_S_takes sS p1 p2) = 0 then ((-1), sS)
  else ((sS 1 (Int32.toNatClampNeg p1)), (up sS 1 (Int32.toNatClampNeg p1) p2)))
def m_S_stones (sS : St)  : Int32 :=
  (sS 1 1)
def m_S_spendStone (sS : St)  : St :=
  (up sS 1 1 (if 0 < ((sS 1 1) - 1) then ((sS 1 1) - 1) else 0))
def m_S_putWet (sS : St) (p1 : Int32) (p2 : Int32) : St :=
  (up (up sS 0 1 p1) 0 2 p2)
def m_S_isWet (sS : St) (p1 : Int32) : Int32 :=
  (if (sS 0 1) ≤ 0 then (if (((sS 0 2) >>> (0 &&& 31)) &&& 1) = 0 then 0
  else 1)
  else (if (((sS 0 2) >>> ((p1 - p1 / (sS 0 1) * (sS 0 1)) &&& 31)) &&& 1) = 0 then 0
  else 1))
def f_S_wholeDays_116 (sS : St) (p1 : Int32) (x9_116 : Int32) (x6_116 : Int32) (x7_116 : Int32) (x11_116 : Int32) : Option (Int32 × Int32 × Int32) :=
  (if p1 ≤ x11_116 then none
  else (if x9_116 = 0 then (if (x7_116 + 1) < (sS 1 4) then some (x6_116, (x7_116 + 1), (x11_116 + 1))
  else some ((x6_116 + (-3)), 0, (x11_116 + 1)))
  else (if (x7_116 + 2) < (sS 1 4) then some (x6_116, (x7_116 + 2), (x11_116 + 1))
  else some ((x6_116 + (-3)), 0, (x11_116 + 1)))))
def g_S_wholeDays_116 (sS : St) (p1 : Int32) (x9_116 : Int32) : Int32 × Int32 × Int32 → Option (Int32 × Int32 × Int32) := fun v => f_S_wholeDays_116 sS p1 x9_116 v.1 v.2.1 v.2.2
def b_S_wholeDays_160 (sS : St) (p1 : Int32) (p2 : Int32) (p3 : Int32) (x4_160 : Int32) (x5_160 : Int32) (x6_160 : Int32) (x7_160 : Int32) (x8_160 : Int32) : (Int32 × Int32 × Int32 × Int32 × Int32) ⊕ (Int32) :=
  (if 0 ≤ x6_160 then .inl (x4_160, x5_160, x6_160, x7_160, (x8_160 + 1))
  else .inr x8_160)
def f_S_wholeDays_30 (sS : St) (p1 : Int32) (p2 : Int32) (p3 : Int32) (x4_30 : Int32) (x5_30 : Int32) (x6_30 : Int32) (x7_30 : Int32) (x8_30 : Int32) : (Int32 × Int32 × Int32 × Int32 × Int32) ⊕ (Int32) :=
  (if p3 ≤ x8_30 then .inr p3
  else (if (m_S_isWet sS x8_30) = 0 then (if (x4_30 - (sS 1 0)) < 0 then .inr x8_30
  else (if (30 * (sS 1 0)) < (p1 * p2) then .inr x8_30
  else (if p1 ≤ x5_30 then (b_S_wholeDays_160 sS p1 p2 p3 (x4_30 - (sS 1 0)) (x5_30 - p1) (wl (g_S_wholeDays_116 sS p1 (m_S_isWet sS x8_30)) 61 (x6_30, x7_30, 0)).1 (wl (g_S_wholeDays_116 sS p1 (m_S_isWet sS x8_30)) 61 (x6_30, x7_30, 0)).2.1 x8_30)
  else .inr x8_30)))
  else (if (x4_30 - (sS 1 0)) < 0 then .inr x8_30
  else (if (30 * (sS 1 0)) < (p1 * (p2 + (Int64.toInt32 (m_T_up (Int32.toInt64 p2) 4)))) then .inr x8_30
  else (if p1 ≤ x5_30 then (b_S_wholeDays_160 sS p1 p2 p3 (x4_30 - (sS 1 0)) (x5_30 - p1) (wl (g_S_wholeDays_116 sS p1 (m_S_isWet sS x8_30)) 61 (x6_30, x7_30, 0)).1 (wl (g_S_wholeDays_116 sS p1 (m_S_isWet sS x8_30)) 61 (x6_30, x7_30, 0)).2.1 x8_30)
  else .inr x8_30)))))
def g_S_wholeDays_30 (sS : St) (p1 : Int32) (p2 : Int32) (p3 : Int32) : Int32 × Int32 × Int32 × Int32 × Int32 → (Int32 × Int32 × Int32 × Int32 × Int32) ⊕ (Int32) := fun v => f_S_wholeDays_30 sS p1 p2 p3 v.1 v.2.1 v.2.2.1 v.2.2.2.1 v.2.2.2.2
def m_S_wholeDays (sS : St) (p1 : Int32) (p2 : Int32) (p3 : Int32) : Int32 :=
  (wc (g_S_wholeDays_30 sS p1 p2 p3) 0 101 ((sS 1 3), (sS 1 1), (sS 1 2), 0, 0))
def f_S_bestRate_3 (sS : St) (p1 : Int32) (p2 : Int32) (x3_3 : Int32) : (Int32) ⊕ (Int32) :=
  (if x3_3 < 0 then .inr (-9)
  else (if (m_S_wholeDays sS x3_3 p2 p1) = p1 then .inr x3_3
  else .inl (x3_3 + (-1))))
def g_S_bestRate_3 (sS : St) (p1 : Int32) (p2 : Int32) : Int32 → (Int32) ⊕ (Int32) := fun v => f_S_bestRate_3 sS p1 p2 v
def m_S_bestRate (sS : St) (p1 : Int32) (p2 : Int32) : Int32 :=
  (wc (g_S_bestRate_3 sS p1 p2) 0 62 60)
def f_L_build_12   (sL_12 : St) (x3_12 : Int32) : Option (St × Int32) :=
  (if 48 ≤ x3_12 then none
  else some ((up sL_12 1 (Int32.toNatClampNeg x3_12) 10), (x3_12 + 1)))
def g_L_build_12   : St × Int32 → Option (St × Int32) := fun v => f_L_build_12 v.1 v.2
def f_L_build_37  (p1 : Int32) (p2 : Int32) (sL_37 : St) (x3_37 : Int32) : Option (St × Int32) :=
  (if 8 ≤ x3_37 then none
  else (if p1 ≤ x3_37 then some ((up (up sL_37 2 (Int32.toNatClampNeg x3_37) 0) 3 (Int32.toNatClampNeg x3_37) 0), (x3_37 + 1))
  else some ((up (up sL_37 2 (Int32.toNatClampNeg x3_37) ((1 <<< (p2 &&& 31)) - 1)) 3 (Int32.toNatClampNeg x3_37) 0), (x3_37 + 1))))
def g_L_build_37  (p1 : Int32) (p2 : Int32) : St × Int32 → Option (St × Int32) := fun v => f_L_build_37 p1 p2 v.1 v.2
def b_L_build_76 (sL_76 : St) : St :=
  sL_76
def b_L_build_35 (sL_35 : St) (p1 : Int32) (p2 : Int32) : St :=
  (b_L_build_76 (wl (g_L_build_37 p1 p2) 9 (sL_35, 0)).1)
def m_L_build (sL : St) (p1 : Int32) (p2 : Int32) : St :=
  (b_L_build_35 (wl g_L_build_12 49 ((up (up sL 0 4 p1) 0 5 p2), 0)).1 p1 p2)
def m_L_wide (sL : St)  : Int32 :=
  (sL 0 4)
def m_L_high (sL : St)  : Int32 :=
  (sL 0 5)
def m_L_has (sL : St) (p1 : Int32) (p2 : Int32) : Int32 :=
  (if p1 < 0 then 0
  else (if (sL 0 4) ≤ p1 then 0
  else (if p2 < 0 then 0
  else (if (sL 0 5) ≤ p2 then 0
  else 1))))
def m_L_place  (p0 : Int32) (p1 : Int32) : Int32 :=
  ((p0 * 6) + p1)
def m_L_holds  (p0 : Int32) (p1 : Int32) : Int32 :=
  (if ((p0 >>> (p1 &&& 31)) &&& 1) = 0 then 0
  else 1)
def m_L_stands (sL : St) (p1 : Int32) (p2 : Int32) : Int32 :=
  (if (m_L_has sL p1 p2) = 0 then 0
  else (if (m_L_holds (sL 2 (Int32.toNatClampNeg p1)) p2) = 0 then 0
  else 1))
def m_L_isPropped (sL : St) (p1 : Int32) (p2 : Int32) : Int32 :=
  (if (m_L_has sL p1 p2) = 0 then 0
  else (if (m_L_holds (sL 3 (Int32.toNatClampNeg p1)) p2) = 0 then 0
  else 1))
def m_L_strengthAt (sL : St) (p1 : Int32) (p2 : Int32) : Int32 :=
  (if (m_L_has sL p1 p2) = 0 then (-1)
  else (sL 1 (Int32.toNatClampNeg (m_L_place p1 p2))))
def m_L_putStrength (sL : St) (p1 : Int32) (p2 : Int32) (p3 : Int32) : Int32 × St :=
  (if (m_L_has sL p1 p2) = 0 then ((-1), sL)
  else ((sL 1 (Int32.toNatClampNeg (m_L_place p1 p2))), (up sL 1 (Int32.toNatClampNeg (m_L_place p1 p2)) p3)))
def m_L_putProp (sL : St) (p1 : Int32) (p2 : Int32) : Int32 × St :=
  (if (m_L_has sL p1 p2) = 0 then ((-1), sL)
  else (if (m_L_holds (sL 3 (Int32.toNatClampNeg p1)) p2) = 0 then (0, (up sL 3 (Int32.toNatClampNeg p1) ((sL 3 (Int32.toNatClampNeg p1)) ||| (1 <<< (p2 &&& 31)))))
  else (1, (up sL 3 (Int32.toNatClampNeg p1) ((sL 3 (Int32.toNatClampNeg p1)) ||| (1 <<< (p2 &&& 31)))))))
def m_J_bitCount  (p0 : Int32) : Int32 :=
  ((((((((p0 - (((Int32.toUInt32 p0 >>> (Int32.toUInt32 1 &&& Int32.toUInt32 31)).toInt32) &&& 1431655765)) &&& 858993459) + (((Int32.toUInt32 (p0 - (((Int32.toUInt32 p0 >>> (Int32.toUInt32 1 &&& Int32.toUInt32 31)).toInt32) &&& 1431655765)) >>> (Int32.toUInt32 2 &&& Int32.toUInt32 31)).toInt32) &&& 858993459)) + ((Int32.toUInt32 (((p0 - (((Int32.toUInt32 p0 >>> (Int32.toUInt32 1 &&& Int32.toUInt32 31)).toInt32) &&& 1431655765)) &&& 858993459) + (((Int32.toUInt32 (p0 - (((Int32.toUInt32 p0 >>> (Int32.toUInt32 1 &&& Int32.toUInt32 31)).toInt32) &&& 1431655765)) >>> (Int32.toUInt32 2 &&& Int32.toUInt32 31)).toInt32) &&& 858993459)) >>> (Int32.toUInt32 4 &&& Int32.toUInt32 31)).toInt32)) &&& 252645135) + ((Int32.toUInt32 (((((p0 - (((Int32.toUInt32 p0 >>> (Int32.toUInt32 1 &&& Int32.toUInt32 31)).toInt32) &&& 1431655765)) &&& 858993459) + (((Int32.toUInt32 (p0 - (((Int32.toUInt32 p0 >>> (Int32.toUInt32 1 &&& Int32.toUInt32 31)).toInt32) &&& 1431655765)) >>> (Int32.toUInt32 2 &&& Int32.toUInt32 31)).toInt32) &&& 858993459)) + ((Int32.toUInt32 (((p0 - (((Int32.toUInt32 p0 >>> (Int32.toUInt32 1 &&& Int32.toUInt32 31)).toInt32) &&& 1431655765)) &&& 858993459) + (((Int32.toUInt32 (p0 - (((Int32.toUInt32 p0 >>> (Int32.toUInt32 1 &&& Int32.toUInt32 31)).toInt32) &&& 1431655765)) >>> (Int32.toUInt32 2 &&& Int32.toUInt32 31)).toInt32) &&& 858993459)) >>> (Int32.toUInt32 4 &&& Int32.toUInt32 31)).toInt32)) &&& 252645135) >>> (Int32.toUInt32 8 &&& Int32.toUInt32 31)).toInt32)) + ((Int32.toUInt32 ((((((p0 - (((Int32.toUInt32 p0 >>> (Int32.toUInt32 1 &&& Int32.toUInt32 31)).toInt32) &&& 1431655765)) &&& 858993459) + (((Int32.toUInt32 (p0 - (((Int32.toUInt32 p0 >>> (Int32.toUInt32 1 &&& Int32.toUInt32 31)).toInt32) &&& 1431655765)) >>> (Int32.toUInt32 2 &&& Int32.toUInt32 31)).toInt32) &&& 858993459)) + ((Int32.toUInt32 (((p0 - (((Int32.toUInt32 p0 >>> (Int32.toUInt32 1 &&& Int32.toUInt32 31)).toInt32) &&& 1431655765)) &&& 858993459) + (((Int32.toUInt32 (p0 - (((Int32.toUInt32 p0 >>> (Int32.toUInt32 1 &&& Int32.toUInt32 31)).toInt32) &&& 1431655765)) >>> (Int32.toUInt32 2 &&& Int32.toUInt32 31)).toInt32) &&& 858993459)) >>> (Int32.toUInt32 4 &&& Int32.toUInt32 31)).toInt32)) &&& 252645135) + ((Int32.toUInt32 (((((p0 - (((Int32.toUInt32 p0 >>> (Int32.toUInt32 1 &&& Int32.toUInt32 31)).toInt32) &&& 1431655765)) &&& 858993459) + (((Int32.toUInt32 (p0 - (((Int32.toUInt32 p0 >>> (Int32.toUInt32 1 &&& Int32.toUInt32 31)).toInt32) &&& 1431655765)) >>> (Int32.toUInt32 2 &&& Int32.toUInt32 31)).toInt32) &&& 858993459)) + ((Int32.toUInt32 (((p0 - (((Int32.toUInt32 p0 >>> (Int32.toUInt32 1 &&& Int32.toUInt32 31)).toInt32) &&& 1431655765)) &&& 858993459) + (((Int32.toUInt32 (p0 - (((Int32.toUInt32 p0 >>> (Int32.toUInt32 1 &&& Int32.toUInt32 31)).toInt32) &&& 1431655765)) >>> (Int32.toUInt32 2 &&& Int32.toUInt32 31)).toInt32) &&& 858993459)) >>> (Int32.toUInt32 4 &&& Int32.toUInt32 31)).toInt32)) &&& 252645135) >>> (Int32.toUInt32 8 &&& Int32.toUInt32 31)).toInt32)) >>> (Int32.toUInt32 16 &&& Int32.toUInt32 31)).toInt32)) &&& 63)
def f_L_dropUnheld_2  (p1 : Int32) (sL_2 : St) (x2_2 : Int32) : Option (St × Int32) :=
  (if (sL_2 0 5) ≤ x2_2 then none
  else (if (m_L_holds (sL_2 2 (Int32.toNatClampNeg p1)) (x2_2 - 1)) = 0 then (if (m_L_holds (sL_2 3 (Int32.toNatClampNeg p1)) x2_2) = 0 then some ((up sL_2 2 (Int32.toNatClampNeg p1) ((sL_2 2 (Int32.toNatClampNeg p1)) &&& ((1 <<< (x2_2 &&& 31)) ^^^ (-1)))), (x2_2 + 1))
  else some (sL_2, (x2_2 + 1)))
  else some (sL_2, (x2_2 + 1))))
def g_L_dropUnheld_2  (p1 : Int32) : St × Int32 → Option (St × Int32) := fun v => f_L_dropUnheld_2 p1 v.1 v.2
def b_L_dropUnheld_58 (sL_58 : St) : St :=
  sL_58
def m_L_dropUnheld (sL : St) (p1 : Int32) : St :=
  (b_L_dropUnheld_58 (wl (g_L_dropUnheld_2 p1) 8 (sL, 1)).1)
def m_L_strike (sL : St) (p1 : Int32) (p2 : Int32) (p3 : Int32) : Int32 × St :=
  (if (m_L_stands sL p1 p2) = 0 then (0, sL)
  else (if 0 < ((sL 1 (Int32.toNatClampNeg (m_L_place p1 p2))) - p3) then (((m_J_bitCount (sL 2 (Int32.toNatClampNeg p1))) - (m_J_bitCount ((m_L_dropUnheld (up (up sL 1 (Int32.toNatClampNeg (m_L_place p1 p2)) ((sL 1 (Int32.toNatClampNeg (m_L_place p1 p2))) - p3)) 3 (Int32.toNatClampNeg p1) ((sL 3 (Int32.toNatClampNeg p1)) &&& ((1 <<< (p2 &&& 31)) ^^^ (-1)))) p1) 2 (Int32.toNatClampNeg p1)))), (m_L_dropUnheld (up (up sL 1 (Int32.toNatClampNeg (m_L_place p1 p2)) ((sL 1 (Int32.toNatClampNeg (m_L_place p1 p2))) - p3)) 3 (Int32.toNatClampNeg p1) ((sL 3 (Int32.toNatClampNeg p1)) &&& ((1 <<< (p2 &&& 31)) ^^^ (-1)))) p1))
  else (((m_J_bitCount (sL 2 (Int32.toNatClampNeg p1))) - (m_J_bitCount ((m_L_dropUnheld (up (up (up sL 1 (Int32.toNatClampNeg (m_L_place p1 p2)) ((sL 1 (Int32.toNatClampNeg (m_L_place p1 p2))) - p3)) 3 (Int32.toNatClampNeg p1) ((sL 3 (Int32.toNatClampNeg p1)) &&& ((1 <<< (p2 &&& 31)) ^^^ (-1)))) 2 (Int32.toNatClampNeg p1) ((sL 2 (Int32.toNatClampNeg p1)) &&& ((1 <<< (p2 &&& 31)) ^^^ (-1)))) p1) 2 (Int32.toNatClampNeg p1)))), (m_L_dropUnheld (up (up (up sL 1 (Int32.toNatClampNeg (m_L_place p1 p2)) ((sL 1 (Int32.toNatClampNeg (m_L_place p1 p2))) - p3)) 3 (Int32.toNatClampNeg p1) ((sL 3 (Int32.toNatClampNeg p1)) &&& ((1 <<< (p2 &&& 31)) ^^^ (-1)))) 2 (Int32.toNatClampNeg p1) ((sL 2 (Int32.toNatClampNeg p1)) &&& ((1 <<< (p2 &&& 31)) ^^^ (-1)))) p1))))
def m_L_putLevel (sL : St) (p1 : Int32) : Int32 × St :=
  ((sL 0 6), (up sL 0 6 p1))
def m_L_isOpen (sL : St) (p1 : Int32) : Int32 :=
  (if (sL 0 6) < (m_J_bitCount (sL 2 (Int32.toNatClampNeg p1))) then 0
  else 1)
def f_L_firstOpen_2 (sL : St)  (x1_2 : Int32) : (Int32) ⊕ (Int32) :=
  (if (sL 0 4) ≤ x1_2 then .inr (-9)
  else (if (m_L_isOpen sL x1_2) = 0 then .inl (x1_2 + 1)
  else .inr x1_2))
def g_L_firstOpen_2 (sL : St)  : Int32 → (Int32) ⊕ (Int32) := fun v => f_L_firstOpen_2 sL v
def m_L_firstOpen (sL : St)  : Int32 :=
  (wc (g_L_firstOpen_2 sL) 0 9 0)
def f_L_openColumns_4 (sL : St)  (x1_4 : Int32) (x2_4 : Int32) : Option (Int32 × Int32) :=
  (if (sL 0 4) ≤ x2_4 then none
  else (if (m_L_isOpen sL x2_4) = 0 then some ((x1_4 + 0), (x2_4 + 1))
  else some ((x1_4 + 1), (x2_4 + 1))))
def g_L_openColumns_4 (sL : St)  : Int32 × Int32 → Option (Int32 × Int32) := fun v => f_L_openColumns_4 sL v.1 v.2
def b_L_openColumns_34 (sL : St) (x1_34 : Int32) : Int32 :=
  x1_34
def m_L_openColumns (sL : St)  : Int32 :=
  (b_L_openColumns_34 sL (wl (g_L_openColumns_4 sL) 9 (0, 0)).1)
def f_L_standingCells_4 (sL : St)  (x1_4 : Int32) (x2_4 : Int32) : Option (Int32 × Int32) :=
  (if (sL 0 4) ≤ x2_4 then none
  else some ((x1_4 + (m_J_bitCount (sL 2 (Int32.toNatClampNeg x2_4)))), (x2_4 + 1)))
def g_L_standingCells_4 (sL : St)  : Int32 × Int32 → Option (Int32 × Int32) := fun v => f_L_standingCells_4 sL v.1 v.2
def b_L_standingCells_30 (sL : St) (x1_30 : Int32) : Int32 :=
  x1_30
def m_L_standingCells (sL : St)  : Int32 :=
  (b_L_standingCells_30 sL (wl (g_L_standingCells_4 sL) 9 (0, 0)).1)
def f_L_hitsToKeep_6 (sL : St) (p1 : Int32) (p2 : Int32) (p3 : Int32) (x4_6 : Int32) (x5_6 : Int32) : (Int32 × Int32) ⊕ (Int32) :=
  (if (sL 0 5) ≤ x5_6 then .inr x4_6
  else (if x5_6 ≤ 0 then (if (m_L_holds p2 x5_6) = 0 then (if (m_L_holds (sL 2 (Int32.toNatClampNeg p1)) x5_6) = 0 then .inl (x4_6, (x5_6 + 1))
  else (if (m_L_holds p2 x5_6) = 0 then .inl ((x4_6 + (Int64.toInt32 (m_T_up (Int32.toInt64 (sL 1 (Int32.toNatClampNeg (m_L_place p1 x5_6)))) (Int32.toInt64 p3)))), (x5_6 + 1))
  else .inl (x4_6, (x5_6 + 1))))
  else (if (m_L_holds (sL 2 (Int32.toNatClampNeg p1)) x5_6) = 0 then .inl (x4_6, (x5_6 + 1))
  else (if (m_L_holds p2 x5_6) = 0 then .inl ((x4_6 + (Int64.toInt32 (m_T_up (Int32.toInt64 (sL 1 (Int32.toNatClampNeg (m_L_place p1 x5_6)))) (Int32.toInt64 p3)))), (x5_6 + 1))
  else .inl (x4_6, (x5_6 + 1)))))
  else (if (m_L_holds p2 (x5_6 - 1)) = 0 then (if (m_L_holds (sL 3 (Int32.toNatClampNeg p1)) x5_6) = 0 then (if (m_L_holds p2 x5_6) = 0 then (if (m_L_holds (sL 2 (Int32.toNatClampNeg p1)) x5_6) = 0 then .inl (x4_6, (x5_6 + 1))
  else (if (m_L_holds p2 x5_6) = 0 then .inl (x4_6, (x5_6 + 1))
  else .inl (x4_6, (x5_6 + 1))))
  else .inr 1000000)
  else (if (m_L_holds p2 x5_6) = 0 then (if (m_L_holds (sL 2 (Int32.toNatClampNeg p1)) x5_6) = 0 then .inl (x4_6, (x5_6 + 1))
  else (if (m_L_holds p2 x5_6) = 0 then .inl ((x4_6 + 1), (x5_6 + 1))
  else .inl (x4_6, (x5_6 + 1))))
  else (if (m_L_holds (sL 2 (Int32.toNatClampNeg p1)) x5_6) = 0 then .inl (x4_6, (x5_6 + 1))
  else (if (m_L_holds p2 x5_6) = 0 then .inl ((x4_6 + 1), (x5_6 + 1))
  else .inl (x4_6, (x5_6 + 1))))))
  else (if (m_L_holds p2 x5_6) = 0 then (if (m_L_holds (sL 2 (Int32.toNatClampNeg p1)) x5_6) = 0 then .inl (x4_6, (x5_6 + 1))
  else (if (m_L_holds p2 x5_6) = 0 then .inl ((x4_6 + (Int64.toInt32 (m_T_up (Int32.toInt64 (sL 1 (Int32.toNatClampNeg (m_L_place p1 x5_6)))) (Int32.toInt64 p3)))), (x5_6 + 1))
  else .inl (x4_6, (x5_6 + 1))))
  else (if (m_L_holds (sL 2 (Int32.toNatClampNeg p1)) x5_6) = 0 then .inl (x4_6, (x5_6 + 1))
  else (if (m_L_holds p2 x5_6) = 0 then .inl ((x4_6 + (Int64.toInt32 (m_T_up (Int32.toInt64 (sL 1 (Int32.toNatClampNeg (m_L_place p1 x5_6)))) (Int32.toInt64 p3)))), (x5_6 + 1))
  else .inl (x4_6, (x5_6 + 1))))))))
def g_L_hitsToKeep_6 (sL : St) (p1 : Int32) (p2 : Int32) (p3 : Int32) : Int32 × Int32 → (Int32 × Int32) ⊕ (Int32) := fun v => f_L_hitsToKeep_6 sL p1 p2 p3 v.1 v.2
def m_L_hitsToKeep (sL : St) (p1 : Int32) (p2 : Int32) (p3 : Int32) : Int32 :=
  (wc (g_L_hitsToKeep_6 sL p1 p2 p3) 0 7 (0, 0))
def f_L_hitsToOpen_22 (sL : St) (p1 : Int32) (p2 : Int32) (x3_22 : Int32) (x4_22 : Int32) : Option (Int32 × Int32) :=
  (if (1 <<< ((sL 0 5) &&& 31)) ≤ x4_22 then none
  else (if (x4_22 &&& ((sL 2 (Int32.toNatClampNeg p1)) ^^^ (-1))) = 0 then (if (sL 0 6) < (m_J_bitCount x4_22) then some (x3_22, (x4_22 + 1))
  else some ((if (m_L_hitsToKeep sL p1 x4_22 p2) < x3_22 then (m_L_hitsToKeep sL p1 x4_22 p2) else x3_22), (x4_22 + 1)))
  else some (x3_22, (x4_22 + 1))))
def g_L_hitsToOpen_22 (sL : St) (p1 : Int32) (p2 : Int32) : Int32 × Int32 → Option (Int32 × Int32) := fun v => f_L_hitsToOpen_22 sL p1 p2 v.1 v.2
def b_L_hitsToOpen_90 (sL : St) (x3_90 : Int32) : Int32 :=
  x3_90
def m_L_hitsToOpen (sL : St) (p1 : Int32) (p2 : Int32) : Int32 :=
  (if (m_T_within p1 0 ((sL 0 4) - 1)) = 0 then (-1)
  else (b_L_hitsToOpen_90 sL (wl (g_L_hitsToOpen_22 sL p1 p2) 65 (1000000, 0)).1))
def f_L_soonestColumn_4 (sL : St) (p1 : Int32) (x2_4 : Int32) (x3_4 : Int32) : Option (Int32 × Int32) :=
  (if (sL 0 4) ≤ x3_4 then none
  else (if (m_L_hitsToOpen sL x2_4 p1) ≤ (m_L_hitsToOpen sL x3_4 p1) then some (x2_4, (x3_4 + 1))
  else some (x3_4, (x3_4 + 1))))
def g_L_soonestColumn_4 (sL : St) (p1 : Int32) : Int32 × Int32 → Option (Int32 × Int32) := fun v => f_L_soonestColumn_4 sL p1 v.1 v.2
def b_L_soonestColumn_35 (sL : St) (x2_35 : Int32) : Int32 :=
  x2_35
def m_L_soonestColumn (sL : St) (p1 : Int32) : Int32 :=
  (b_L_soonestColumn_35 sL (wl (g_L_soonestColumn_4 sL p1) 9 (0, 1)).1)
def m_L_weightPlace  (p0 : Int32) (p1 : Int32) : Int32 :=
  ((4 + p0) + (3 * p1))
def m_L_putWeight (sL : St) (p1 : Int32) (p2 : Int32) (p3 : Int32) : Int32 × St :=
  (if (m_T_within (m_L_weightPlace p1 p2) 0 (9 - 1)) = 0 then ((-1), sL)
  else ((sL 4 (Int32.toNatClampNeg (m_L_weightPlace p1 p2))), (up sL 4 (Int32.toNatClampNeg (m_L_weightPlace p1 p2)) p3)))
def m_L_fallsBy (sL : St) (p1 : Int32) (p2 : Int32) (p3 : Int32) : Int32 × St :=
  (if (m_L_stands sL p1 p2) = 0 then (0, sL)
  else ((m_L_strike sL p1 p2 p3).1, (up (up (up (m_L_strike sL p1 p2 p3).2 2 (Int32.toNatClampNeg p1) (sL 2 (Int32.toNatClampNeg p1))) 3 (Int32.toNatClampNeg p1) (sL 3 (Int32.toNatClampNeg p1))) 1 (Int32.toNatClampNeg (m_L_place p1 p2)) (sL 1 (Int32.toNatClampNeg (m_L_place p1 p2))))))
def f_L_worthOf_15  (p1 : Int32) (p2 : Int32) (p3 : Int32) (x5_15 : Int32) (sL_15 : St) (x4_15 : Int32) (x6_15 : Int32) : Option (St × Int32 × Int32) :=
  (if 1 < x6_15 then none
  else some ((m_L_fallsBy sL_15 (p1 + x6_15) (p2 + x5_15) p3).2, (x4_15 + ((sL_15 4 (Int32.toNatClampNeg (m_L_weightPlace x6_15 x5_15))) * (m_L_fallsBy sL_15 (p1 + x6_15) (p2 + x5_15) p3).1)), (x6_15 + 1)))
def g_L_worthOf_15  (p1 : Int32) (p2 : Int32) (p3 : Int32) (x5_15 : Int32) : St × Int32 × Int32 → Option (St × Int32 × Int32) := fun v => f_L_worthOf_15 p1 p2 p3 x5_15 v.1 v.2.1 v.2.2
def b_L_worthOf_58 (sL_58 : St) (p1 : Int32) (p2 : Int32) (p3 : Int32) (x4_58 : Int32) (x5_58 : Int32) : Option (St × Int32 × Int32) :=
  some (sL_58, x4_58, (x5_58 + 1))
def f_L_worthOf_6  (p1 : Int32) (p2 : Int32) (p3 : Int32) (sL_6 : St) (x4_6 : Int32) (x5_6 : Int32) : Option (St × Int32 × Int32) :=
  (if 1 < x5_6 then none
  else (b_L_worthOf_58 (wl (g_L_worthOf_15 p1 p2 p3 x5_6) 4 (sL_6, x4_6, (-1))).1 p1 p2 p3 (wl (g_L_worthOf_15 p1 p2 p3 x5_6) 4 (sL_6, x4_6, (-1))).2.1 x5_6))
def g_L_worthOf_6  (p1 : Int32) (p2 : Int32) (p3 : Int32) : St × Int32 × Int32 → Option (St × Int32 × Int32) := fun v => f_L_worthOf_6 p1 p2 p3 v.1 v.2.1 v.2.2
def b_L_worthOf_64 (sL_64 : St) (x4_64 : Int32) : Int32 × St :=
  (x4_64, sL_64)
def m_L_worthOf (sL : St) (p1 : Int32) (p2 : Int32) (p3 : Int32) : Int32 × St :=
  (b_L_worthOf_64 (wl (g_L_worthOf_6 p1 p2 p3) 4 (sL, 0, (-1))).1 (wl (g_L_worthOf_6 p1 p2 p3) 4 (sL, 0, (-1))).2.1)
def m_L_columnOf (sL : St) (p1 : Int32) : Int32 :=
  (if (sL 0 4) ≤ 0 then 0
  else (p1 - p1 / (sL 0 4) * (sL 0 4)))
def m_L_rowOf (sL : St) (p1 : Int32) : Int32 :=
  (if (sL 0 4) ≤ 0 then 0
  else (p1 / (sL 0 4)))
def f_L_bestAim_7  (p1 : Int32) (sL_7 : St) (x2_7 : Int32) (x3_7 : Int32) (x4_7 : Int32) : Option (St × Int32 × Int32 × Int32) :=
  (if ((sL_7 0 4) * (sL_7 0 5)) ≤ x4_7 then none
  else (if (m_L_worthOf sL_7 (m_L_columnOf sL_7 x4_7) (m_L_rowOf sL_7 x4_7) p1).1 ≤ x3_7 then some ((m_L_worthOf sL_7 (m_L_columnOf sL_7 x4_7) (m_L_rowOf sL_7 x4_7) p1).2, x2_7, x3_7, (x4_7 + 1))
  else some ((m_L_worthOf sL_7 (m_L_columnOf sL_7 x4_7) (m_L_rowOf sL_7 x4_7) p1).2, x4_7, (m_L_worthOf sL_7 (m_L_columnOf sL_7 x4_7) (m_L_rowOf sL_7 x4_7) p1).1, (x4_7 + 1))))
def g_L_bestAim_7  (p1 : Int32) : St × Int32 × Int32 × Int32 → Option (St × Int32 × Int32 × Int32) := fun v => f_L_bestAim_7 p1 v.1 v.2.1 v.2.2.1 v.2.2.2
def b_L_bestAim_58 (sL_58 : St) (x2_58 : Int32) : Int32 × St :=
  (x2_58, sL_58)
def m_L_bestAim (sL : St) (p1 : Int32) : Int32 × St :=
  (b_L_bestAim_58 (wl (g_L_bestAim_7 p1) 49 (sL, 0, (-1), 0)).1 (wl (g_L_bestAim_7 p1) 49 (sL, 0, (-1), 0)).2.1)
def m_T_set (sT : St) (sM : St) (p1 : Int32) (p2 : Int32) : Int32 × St × St :=
  (if (m_M_takes sM p1 p2) = 0 then ((-1), sT, sM)
  else ((m_M_put sM p1 p2).1, (up sT 0 4 0), (m_M_put sM p1 p2).2))
def m_T_wind (sT : St) (sM : St) (p1 : Int32) : Int32 × St :=
  (if (m_T_within p1 (-20) 20) = 0 then ((-100), sM)
  else ((m_M_putWind sM p1).1, (m_M_putWind sM p1).2))
def m_T_sine (sT : St) (p1 : Int32) : Int32 :=
  (if (m_T_within p1 (-180) 180) = 0 then (-2000)
  else (m_T_sineOf p1))
def m_T_throwing (sT : St) (sM : St) (p1 : Int32) : Int32 × St :=
  (if (m_T_within p1 0 6) = 0 then ((-1), sM)
  else ((m_M_reckoned (m_M_reckonOwn sM).2 p1), (m_M_reckonOwn sM).2))
def m_T_flight (sT : St) (vT : Int64) (sM : St) (p1 : Int32) (p2 : Int32) : Int32 × Int64 :=
  (if (m_T_within p1 0 2) = 0 then ((-1), vT)
  else (if (m_T_within p2 0 20000) = 0 then ((-1), vT)
  else ((m_M_flightOf sM p1 p2), (vT + (Int32.toInt64 (m_M_bodiesAsked p1))))))
def m_T_tune (sT : St) (sM : St) (p1 : Int32) (p2 : Int32) (p3 : Int32) (p4 : Int32) : Int32 × St :=
  (if (m_M_takes sM 3 p1) = 0 then ((-1), sM)
  else (if (m_M_takes sM 3 p2) = 0 then ((-1), sM)
  else (if p2 < p1 then ((-1), sM)
  else (if (m_T_within p3 0 2000) = 0 then ((-1), sM)
  else (if (m_T_within p4 0 2) = 0 then ((-1), sM)
  else ((m_M_tuned (m_M_tuneTo sM p1 p2 p3) p4), (m_M_tuneTo sM p1 p2 p3)))))))
def m_T_spread (sT : St) (sB : St) (p1 : Int32) : Int32 × St :=
  (if (m_T_within p1 0 50) = 0 then ((-1), sB)
  else ((m_B_putSpread sB p1).1, (m_B_putSpread sB p1).2))
def m_T_shot (sT : St) (sB : St) (p1 : Int32) (p2 : Int32) : Int32 × St :=
  (if (m_T_within p1 0 60) = 0 then ((-1), sB)
  else (if (m_T_within p2 0 2000) = 0 then ((-1), sB)
  else (if (m_B_tell sB p1 p2).1 = 0 then ((-3), (m_B_tell sB p1 p2).2)
  else ((m_B_told (m_B_tell sB p1 p2).2), (m_B_tell sB p1 p2).2))))
def m_T_clear (sT : St) (sB : St)  : Int32 × St :=
  ((m_B_forgetShots sB).1, (m_B_forgetShots sB).2)
def m_T_left (sT : St) (sM : St) (sB : St)  : Int32 × St × St :=
  ((m_B_pairsLeft (m_B_study sM sB).2), (m_B_study sM sB).1, (m_B_study sM sB).2)
def m_T_span (sT : St) (sM : St) (sB : St) (p1 : Int32) (p2 : Int32) : Int32 × St × St :=
  (if (m_T_within p1 0 60) = 0 then ((-2000), sM, sB)
  else (if (m_T_within p2 0 1) = 0 then ((-2000), sM, sB)
  else (if (m_B_places (m_B_study sM sB).2 p1) = 0 then ((-1000), (m_B_study sM sB).1, (m_B_study sM sB).2)
  else (if p2 = 0 then ((m_B_leastPlace (m_B_study sM sB).2 p1), (m_B_study sM sB).1, (m_B_study sM sB).2)
  else ((m_B_greatestPlace (m_B_study sM sB).2 p1), (m_B_study sM sB).1, (m_B_study sM sB).2)))))
def m_T_next (sT : St) (sM : St) (sB : St)  : Int32 × St × St :=
  ((m_B_widestHook (m_B_study sM sB).2), (m_B_study sM sB).1, (m_B_study sM sB).2)
def m_T_surest (sT : St) (sM : St) (sB : St) (p1 : Int32) (p2 : Int32) : Int32 × St × St :=
  (if (m_T_within p1 0 2000) = 0 then ((-1), sM, sB)
  else (if (m_T_within p2 0 1) = 0 then ((-1), sM, sB)
  else (if (m_B_surestHook (m_B_study sM sB).2 p1) = (-9) then ((m_B_surestHook (m_B_study sM sB).2 p1), (m_B_study sM sB).1, (m_B_study sM sB).2)
  else (if p2 = 0 then ((m_B_surestHook (m_B_study sM sB).2 p1), (m_B_study sM sB).1, (m_B_study sM sB).2)
  else ((m_B_farthestMiss (m_B_study sM sB).2 (m_B_surestHook (m_B_study sM sB).2 p1) p1), (m_B_study sM sB).1, (m_B_study sM sB).2)))))
def m_T_wall (sT : St) (sL : St) (p1 : Int32) (p2 : Int32) : Int32 × St :=
  (if (m_T_within p1 1 8) = 0 then ((-1), sL)
  else (if (m_T_within p2 1 6) = 0 then ((-1), sL)
  else ((p1 * p2), (m_L_build sL p1 p2))))
def m_T_strength (sT : St) (sL : St) (p1 : Int32) (p2 : Int32) (p3 : Int32) : Int32 × St :=
  (if (m_L_has sL p1 p2) = 0 then ((-1), sL)
  else (if (m_T_within p3 1 99) = 0 then ((-1), sL)
  else (if (m_L_stands sL p1 p2) = 0 then ((-2), sL)
  else ((m_L_putStrength sL p1 p2 p3).1, (m_L_putStrength sL p1 p2 p3).2))))
def m_T_prop (sT : St) (sL : St) (p1 : Int32) (p2 : Int32) : Int32 × St :=
  (if (m_L_has sL p1 p2) = 0 then ((-1), sL)
  else (if (m_L_stands sL p1 p2) = 0 then ((-2), sL)
  else ((m_L_putProp sL p1 p2).1, (m_L_putProp sL p1 p2).2)))
def m_T_hit (sT : St) (sL : St) (p1 : Int32) (p2 : Int32) (p3 : Int32) : Int32 × St :=
  (if (m_L_has sL p1 p2) = 0 then ((-1), sL)
  else (if (m_T_within p3 1 99) = 0 then ((-1), sL)
  else (if (m_L_stands sL p1 p2) = 0 then ((-2), sL)
  else ((m_L_strike sL p1 p2 p3).1, (m_L_strike sL p1 p2 p3).2))))
def m_T_cell (sT : St) (sL : St) (p1 : Int32) (p2 : Int32) (p3 : Int32) : Int32 :=
  (if (m_L_has sL p1 p2) = 0 then (-1)
  else (if p3 = 0 then (if (m_L_stands sL p1 p2) = 0 then 0
  else 1)
  else (if p3 = 1 then (m_L_strengthAt sL p1 p2)
  else (if p3 = 2 then (if (m_L_isPropped sL p1 p2) = 0 then 0
  else 1)
  else (-1)))))
def m_T_level (sT : St) (sL : St) (p1 : Int32) : Int32 × St :=
  (if (m_T_within p1 0 2) = 0 then ((-1), sL)
  else ((m_L_putLevel sL p1).1, (m_L_putLevel sL p1).2))
def m_T_open (sT : St) (sL : St)  : Int32 :=
  (m_L_firstOpen sL)
def m_T_soonest (sT : St) (sL : St) (p1 : Int32) (p2 : Int32) : Int32 :=
  (if (m_T_within p1 1 99) = 0 then (-1)
  else (if (m_T_within p2 0 1) = 0 then (-1)
  else (if p2 = 0 then (m_L_soonestColumn sL p1)
  else (m_L_hitsToOpen sL (m_L_soonestColumn sL p1) p1))))
def m_T_scatter (sT : St) (sL : St) (p1 : Int32) (p2 : Int32) (p3 : Int32) : Int32 × St :=
  (if (m_T_within p1 (-1) 1) = 0 then ((-1), sL)
  else (if (m_T_within p2 (-1) 1) = 0 then ((-1), sL)
  else (if (m_T_within p3 0 9) = 0 then ((-1), sL)
  else ((m_L_putWeight sL p1 p2 p3).1, (m_L_putWeight sL p1 p2 p3).2))))
def m_T_worth (sT : St) (sL : St) (p1 : Int32) (p2 : Int32) (p3 : Int32) : Int32 × St :=
  (if (m_L_has sL p1 p2) = 0 then ((-1), sL)
  else (if (m_T_within p3 1 99) = 0 then ((-1), sL)
  else ((m_L_worthOf sL p1 p2 p3).1, (m_L_worthOf sL p1 p2 p3).2)))
def m_T_aim (sT : St) (sL : St) (p1 : Int32) (p2 : Int32) : Int32 × St :=
  (if (m_T_within p1 1 99) = 0 then ((-1), sL)
  else (if (m_T_within p2 0 1) = 0 then ((-1), sL)
  else (if p2 = 0 then ((m_L_bestAim sL p1).1, (m_L_bestAim sL p1).2)
  else ((m_L_worthOf (m_L_bestAim sL p1).2 (m_L_columnOf (m_L_bestAim sL p1).2 (m_L_bestAim sL p1).1) (m_L_rowOf (m_L_bestAim sL p1).2 (m_L_bestAim sL p1).1) p1).1, (m_L_worthOf (m_L_bestAim sL p1).2 (m_L_columnOf (m_L_bestAim sL p1).2 (m_L_bestAim sL p1).1) (m_L_rowOf (m_L_bestAim sL p1).2 (m_L_bestAim sL p1).1) p1).2))))
def m_T_wound (sT : St)  : Int32 × St :=
  (if (sT 0 4) = 0 then (1, (up sT 0 4 1))
  else ((-2), sT))
def m_T_sling (sT : St)  : Int32 × St :=
  (if (sT 0 4) = 1 then (2, (up sT 0 4 2))
  else ((-2), sT))
def m_T_near (sT : St) (p1 : Int32) : Int32 × St :=
  (if (m_T_within p1 0 200) = 0 then ((-1), sT)
  else (if (sT 0 4) = 2 then (if p1 = 0 then (3, (up sT 0 4 3))
  else (2, (up sT 0 4 2)))
  else (if (sT 0 4) = 3 then (if p1 = 0 then (3, (up sT 0 4 3))
  else (2, (up sT 0 4 2)))
  else ((sT 0 4), sT))))
def m_T_loose (sT : St) (sM : St) (sL : St) (sS : St) (p1 : Int32) (p2 : Int32) (p3 : Int32) : Int32 × St × St × St × St :=
  (if (m_L_has sL p1 p2) = 0 then ((-1), sT, sM, sL, sS)
  else (if (m_T_within p3 0 2000) = 0 then ((-1), sT, sM, sL, sS)
  else (if (sT 0 4) = 3 then (if (m_S_stones sS) = 0 then ((-2), sT, sM, sL, sS)
  else (if (m_M_reckonOwn sM).1 = (-9) then ((-3), (up (up sT 0 4 0) 0 5 ((sT 0 5) + 1)), (m_M_reckonOwn sM).2, sL, (m_S_spendStone sS))
  else (if (m_L_stands sL p1 p2) = 0 then ((m_M_reckonOwn sM).1, (up (up sT 0 4 0) 0 5 ((sT 0 5) + 1)), (m_M_reckonOwn sM).2, sL, (m_S_spendStone sS))
  else (if 5 < (if 0 ≤ ((m_M_reckonOwn sM).1 - p3) then ((m_M_reckonOwn sM).1 - p3) else 0 - ((m_M_reckonOwn sM).1 - p3)) then ((m_M_reckonOwn sM).1, (up (up sT 0 4 0) 0 5 ((sT 0 5) + 1)), (m_M_reckonOwn sM).2, sL, (m_S_spendStone sS))
  else ((m_M_reckonOwn sM).1, (up (up sT 0 4 0) 0 5 ((sT 0 5) + 1)), (m_M_reckonOwn sM).2, (m_L_strike sL p1 p2 (m_M_forceAt (m_M_reckonOwn sM).2 (m_M_reckonOwn sM).1)).2, (m_S_spendStone sS))))))
  else ((-2), sT, sM, sL, sS))))
def m_T_store (sT : St) (sS : St) (p1 : Int32) (p2 : Int32) : Int32 × St :=
  (if (m_S_takes sS p1 p2) = 0 then ((-1), sS)
  else ((m_S_put sS p1 p2).1, (m_S_put sS p1 p2).2))
def m_T_wet (sT : St) (sS : St) (p1 : Int32) (p2 : Int32) : Int32 × St :=
  (if (m_T_within p1 1 20) = 0 then ((-1), sS)
  else (if (m_T_within p2 0 ((1 <<< (p1 &&& 31)) - 1)) = 0 then ((-1), sS)
  else (p1, (m_S_putWet sS p1 p2))))
def m_T_lasts (sT : St) (sM : St) (sS : St) (p1 : Int32) : Int32 :=
  (if (m_T_within p1 0 60) = 0 then (-1)
  else (m_S_wholeDays sS p1 (m_M_turnsOfShot sM) 100))
def m_T_rate (sT : St) (sM : St) (sS : St) (p1 : Int32) : Int32 :=
  (if (m_T_within p1 1 100) = 0 then (-1)
  else (m_S_bestRate sS p1 (m_M_turnsOfShot sM)))
def m_T_count (sT : St) (sB : St) (sL : St) (sS : St) (p1 : Int32) : Int32 :=
  (if p1 = 0 then (sT 0 4)
  else (if p1 = 1 then (m_L_wide sL)
  else (if p1 = 2 then (m_L_high sL)
  else (if p1 = 3 then (m_L_standingCells sL)
  else (if p1 = 4 then (m_B_told sB)
  else (if p1 = 5 then (sT 0 5)
  else (if p1 = 6 then (m_S_stones sS)
  else (if p1 = 7 then (m_L_openColumns sL)
  else (-1)))))))))
def m_T_trace (sT : St) (vT : Int64)  : Int64 :=
  vT
def m_R_in  (p0 : Int32) (p1 : Int32) (p2 : Int32) : Int32 :=
  (if p0 < p1 then 0
  else (if p2 < p0 then 0
  else 1))
def m_R_size  (p0 : Int32) : Int32 :=
  (if 0 ≤ p0 then p0
  else (-p0))
def m_R_least  (p0 : Int32) : Int32 :=
  (if p0 = 0 then 5
  else (if p0 = 1 then 20
  else (if p0 = 2 then 100
  else (if p0 = 3 then 10
  else (if p0 = 5 then 10
  else (if p0 = 7 then 1
  else 0))))))
def m_R_most  (p0 : Int32) : Int32 :=
  (if p0 = 0 then 40
  else (if p0 = 1 then 160
  else (if p0 = 3 then 160
  else (if p0 = 2 then 9000
  else (if p0 = 4 then 60
  else (if p0 = 5 then 60
  else (if p0 = 6 then 900
  else (if p0 = 7 then 300
  else 2))))))))
def m_R_set (sR : St) (p1 : Int32) (p2 : Int32) : Int32 × St :=
  (if (m_R_in p1 0 8) = 0 then ((-1), sR)
  else (if (m_R_in p2 (m_R_least p1) (m_R_most p1)) = 0 then ((-1), sR)
  else ((sR 1 (Int32.toNatClampNeg p1)), (up (up sR 1 (Int32.toNatClampNeg p1) p2) 0 13 0))))
def m_R_wind (sR : St) (p1 : Int32) : Int32 × St :=
  (if (m_R_in p1 (-20) 20) = 0 then ((-100), sR)
  else ((sR 0 1), (up sR 0 1 p1)))
def m_R_sineOf  (p0 : Int32) : Int32 :=
  (if 0 ≤ p0 then ((4000 * ((m_R_size p0) * (180 - (m_R_size p0)))) / (40500 - ((m_R_size p0) * (180 - (m_R_size p0)))))
  else (-((4000 * ((m_R_size p0) * (180 - (m_R_size p0)))) / (40500 - ((m_R_size p0) * (180 - (m_R_size p0)))))))
def m_R_sine (sR : St) (p1 : Int32) : Int32 :=
  (if (m_R_in p1 (-180) 180) = 0 then (-2000)
  else (m_R_sineOf p1))
def m_R_givenAt (sR : St) (p1 : Int32) : Int32 :=
  (if 0 ≤ (lg_cmp ((Int32.toInt64 (((sR 1 2) * (sR 1 0)) - ((sR 1 7) * (sR 1 1)))) * (Int32.toInt64 ((m_R_sineOf (p1 - (sR 1 5))) + (m_R_sineOf (sR 1 5))))) 0) then ((Int64.toInt32 ((((Int32.toInt64 (((sR 1 2) * (sR 1 0)) - ((sR 1 7) * (sR 1 1)))) * (Int32.toInt64 ((m_R_sineOf (p1 - (sR 1 5))) + (m_R_sineOf (sR 1 5))))) / 1000) - 0)) - ((sR 1 6) * p1))
  else (if (lg_cmp (((Int32.toInt64 (((sR 1 2) * (sR 1 0)) - ((sR 1 7) * (sR 1 1)))) * (Int32.toInt64 ((m_R_sineOf (p1 - (sR 1 5))) + (m_R_sineOf (sR 1 5))))) - ((Int32.toInt64 (((sR 1 2) * (sR 1 0)) - ((sR 1 7) * (sR 1 1)))) * (Int32.toInt64 ((m_R_sineOf (p1 - (sR 1 5))) + (m_R_sineOf (sR 1 5))))) / 1000 * 1000) 0) = 0 then ((Int64.toInt32 ((((Int32.toInt64 (((sR 1 2) * (sR 1 0)) - ((sR 1 7) * (sR 1 1)))) * (Int32.toInt64 ((m_R_sineOf (p1 - (sR 1 5))) + (m_R_sineOf (sR 1 5))))) / 1000) - 0)) - ((sR 1 6) * p1))
  else ((Int64.toInt32 ((((Int32.toInt64 (((sR 1 2) * (sR 1 0)) - ((sR 1 7) * (sR 1 1)))) * (Int32.toInt64 ((m_R_sineOf (p1 - (sR 1 5))) + (m_R_sineOf (sR 1 5))))) / 1000) - 1)) - ((sR 1 6) * p1))))
def m_R_flightOf (sR : St) (p1 : Int32) (p2 : Int32) : Int32 :=
  (if 0 ≤ (p2 - ((p2 * p2) / ((20 * (sR 1 7)) + 2000))) then (if p1 ≤ 0 then (if p1 = 2 then (if 0 ≤ ((p2 - ((p2 * p2) / ((20 * (sR 1 7)) + 2000))) - ((((p2 - ((p2 * p2) / ((20 * (sR 1 7)) + 2000))) / 25) * 2) + 3)) then ((p2 - ((p2 * p2) / ((20 * (sR 1 7)) + 2000))) - ((((p2 - ((p2 * p2) / ((20 * (sR 1 7)) + 2000))) / 25) * 2) + 3))
  else 0)
  else (p2 - ((p2 * p2) / ((20 * (sR 1 7)) + 2000))))
  else (if p1 = 2 then (if 0 ≤ (((p2 - ((p2 * p2) / ((20 * (sR 1 7)) + 2000))) - (((p2 - ((p2 * p2) / ((20 * (sR 1 7)) + 2000))) + 7) / 8)) - (((((p2 - ((p2 * p2) / ((20 * (sR 1 7)) + 2000))) - (((p2 - ((p2 * p2) / ((20 * (sR 1 7)) + 2000))) + 7) / 8)) / 25) * 2) + 3)) then (((p2 - ((p2 * p2) / ((20 * (sR 1 7)) + 2000))) - (((p2 - ((p2 * p2) / ((20 * (sR 1 7)) + 2000))) + 7) / 8)) - (((((p2 - ((p2 * p2) / ((20 * (sR 1 7)) + 2000))) - (((p2 - ((p2 * p2) / ((20 * (sR 1 7)) + 2000))) + 7) / 8)) / 25) * 2) + 3))
  else 0)
  else ((p2 - ((p2 * p2) / ((20 * (sR 1 7)) + 2000))) - (((p2 - ((p2 * p2) / ((20 * (sR 1 7)) + 2000))) + 7) / 8))))
  else (if p1 ≤ 0 then (if p1 = 2 then (if 0 ≤ (0 - (((0 / 25) * 2) + 3)) then (0 - (((0 / 25) * 2) + 3))
  else 0)
  else 0)
  else (if p1 = 2 then (if 0 ≤ ((0 - ((0 + 7) / 8)) - ((((0 - ((0 + 7) / 8)) / 25) * 2) + 3)) then ((0 - ((0 + 7) / 8)) - ((((0 - ((0 + 7) / 8)) / 25) * 2) + 3))
  else 0)
  else (0 - ((0 + 7) / 8)))))
def f_R_step_44  (p1 : Int32) (p2 : Int32) (sR_44 : St) (x3_44 : Int32) : Option (St × Int32) :=
  (if 160 < x3_44 then none
  else (if (sR_44 0 19) = (-9) then (if (sR_44 0 20) = (-9) then (if 0 < (m_R_givenAt sR_44 x3_44) then (if ((x3_44 * ((sR_44 1 1) + (2 * p1))) / (2 * p1)) < (100 + p2) then some (sR_44, (x3_44 + 1))
  else some ((up (up sR_44 0 19 x3_44) 0 21 (m_R_givenAt sR_44 x3_44)), (x3_44 + 1)))
  else some ((up sR_44 0 20 x3_44), (x3_44 + 1)))
  else none)
  else none))
def g_R_step_44  (p1 : Int32) (p2 : Int32) : St × Int32 → Option (St × Int32) := fun v => f_R_step_44 p1 p2 v.1 v.2
def b_R_step_302 (sR_302 : St) (x5_302 : Int32) : St :=
  (if 0 ≤ x5_302 then (up sR_302 0 25 x5_302)
  else (up sR_302 0 25 0))
def b_R_step_270 (sR_270 : St) : St :=
  (b_R_step_302 sR_270 ((m_R_flightOf sR_270 (sR_270 1 8) (sR_270 0 24)) + (((sR_270 0 1) * (m_R_flightOf sR_270 (sR_270 1 8) (sR_270 0 24))) / 100)))
def b_R_step_245 (sR_245 : St) : St :=
  (b_R_step_270 (up sR_245 0 24 (Int64.toInt32 (((Int32.toInt64 (sR_245 0 23)) * (Int32.toInt64 (m_R_sineOf (2 * (sR_245 0 22))))) / 8000))))
def b_R_step_194 (sR_194 : St) (x3_194 : Int64) : St :=
  (b_R_step_245 (up sR_194 0 23 (Int64.toInt32 (((2 * (Int32.toInt64 (sR_194 0 21))) * x3_194) / ((((Int32.toInt64 (sR_194 1 2)) * (Int32.toInt64 (sR_194 1 0))) * (Int32.toInt64 (sR_194 1 0))) + ((Int32.toInt64 (sR_194 1 7)) * x3_194))))))
def b_R_step_129 (sR_129 : St) (p1 : Int32) (p2 : Int32) : St :=
  (if (sR_129 0 19) = (-9) then sR_129
  else (if (m_R_in ((180 - ((sR_129 0 19) - (sR_129 1 5))) - p2) 1 89) = 0 then (up sR_129 0 22 ((180 - ((sR_129 0 19) - (sR_129 1 5))) - p2))
  else (b_R_step_194 (up sR_129 0 22 ((180 - ((sR_129 0 19) - (sR_129 1 5))) - p2)) ((Int32.toInt64 ((sR_129 1 1) + p1)) * (Int32.toInt64 ((sR_129 1 1) + p1))))))
def m_R_step (sR : St) (p1 : Int32) (p2 : Int32) : St :=
  (b_R_step_129 (wl (g_R_step_44 p1 p2) 161 ((up (up (up (up (up (up (up sR 0 19 (-9)) 0 20 (-9)) 0 21 (-9)) 0 22 (-9)) 0 23 (-9)) 0 24 (-9)) 0 25 (-9)), 1)).1 p1 p2)
def m_R_throwing (sR : St) (p1 : Int32) : Int32 × St :=
  (if p1 = 0 then (((m_R_step sR (sR 1 3) (sR 1 4)) 0 19), (m_R_step sR (sR 1 3) (sR 1 4)))
  else (if p1 = 1 then (((m_R_step sR (sR 1 3) (sR 1 4)) 0 20), (m_R_step sR (sR 1 3) (sR 1 4)))
  else (if p1 = 2 then (((m_R_step sR (sR 1 3) (sR 1 4)) 0 21), (m_R_step sR (sR 1 3) (sR 1 4)))
  else (if p1 = 3 then (((m_R_step sR (sR 1 3) (sR 1 4)) 0 22), (m_R_step sR (sR 1 3) (sR 1 4)))
  else (if p1 = 4 then (((m_R_step sR (sR 1 3) (sR 1 4)) 0 23), (m_R_step sR (sR 1 3) (sR 1 4)))
  else (if p1 = 5 then (((m_R_step sR (sR 1 3) (sR 1 4)) 0 24), (m_R_step sR (sR 1 3) (sR 1 4)))
  else (if p1 = 6 then (((m_R_step sR (sR 1 3) (sR 1 4)) 0 25), (m_R_step sR (sR 1 3) (sR 1 4)))
  else ((-1), (m_R_step sR (sR 1 3) (sR 1 4))))))))))
def m_R_flight (sR : St) (vR : Int64) (p1 : Int32) (p2 : Int32) : Int32 × Int64 :=
  (if (m_R_in p1 0 2) = 0 then ((-1), vR)
  else (if (m_R_in p2 0 20000) = 0 then ((-1), vR)
  else (if p1 = 0 then ((m_R_flightOf sR p1 p2), (vR + 1))
  else (if p1 = 1 then ((m_R_flightOf sR p1 p2), (vR + 11))
  else ((m_R_flightOf sR p1 p2), (vR + 111))))))
def f_R_tune_70  (p3 : Int32) (x8_70 : Int32) (sR_70 : St) (x5_70 : Int32) (x6_70 : Int32) (x7_70 : Int32) (x9_70 : Int32) : Option (St × Int32 × Int32 × Int32 × Int32) :=
  (if 61 ≤ x9_70 then none
  else (if ((m_R_step sR_70 x8_70 x9_70) 0 25) = (-9) then some ((m_R_step sR_70 x8_70 x9_70), x5_70, x6_70, x7_70, (x9_70 + 1))
  else (if x5_70 = (-9) then some ((m_R_step sR_70 x8_70 x9_70), x8_70, x9_70, ((m_R_step sR_70 x8_70 x9_70) 0 25), (x9_70 + 1))
  else (if (m_R_size (x7_70 - p3)) ≤ (m_R_size (((m_R_step sR_70 x8_70 x9_70) 0 25) - p3)) then some ((m_R_step sR_70 x8_70 x9_70), x5_70, x6_70, x7_70, (x9_70 + 1))
  else some ((m_R_step sR_70 x8_70 x9_70), x8_70, x9_70, ((m_R_step sR_70 x8_70 x9_70) 0 25), (x9_70 + 1))))))
def g_R_tune_70  (p3 : Int32) (x8_70 : Int32) : St × Int32 × Int32 × Int32 × Int32 → Option (St × Int32 × Int32 × Int32 × Int32) := fun v => f_R_tune_70 p3 x8_70 v.1 v.2.1 v.2.2.1 v.2.2.2.1 v.2.2.2.2
def b_R_tune_140 (sR_140 : St) (p2 : Int32) (p3 : Int32) (x5_140 : Int32) (x6_140 : Int32) (x7_140 : Int32) (x8_140 : Int32) : Option (St × Int32 × Int32 × Int32 × Int32) :=
  some (sR_140, x5_140, x6_140, x7_140, (x8_140 + 1))
def f_R_tune_61  (p2 : Int32) (p3 : Int32) (sR_61 : St) (x5_61 : Int32) (x6_61 : Int32) (x7_61 : Int32) (x8_61 : Int32) : Option (St × Int32 × Int32 × Int32 × Int32) :=
  (if p2 < x8_61 then none
  else (b_R_tune_140 (wl (g_R_tune_70 p3 x8_61) 62 (sR_61, x5_61, x6_61, x7_61, 0)).1 p2 p3 (wl (g_R_tune_70 p3 x8_61) 62 (sR_61, x5_61, x6_61, x7_61, 0)).2.1 (wl (g_R_tune_70 p3 x8_61) 62 (sR_61, x5_61, x6_61, x7_61, 0)).2.2.1 (wl (g_R_tune_70 p3 x8_61) 62 (sR_61, x5_61, x6_61, x7_61, 0)).2.2.2.1 x8_61))
def g_R_tune_61  (p2 : Int32) (p3 : Int32) : St × Int32 × Int32 × Int32 × Int32 → Option (St × Int32 × Int32 × Int32 × Int32) := fun v => f_R_tune_61 p2 p3 v.1 v.2.1 v.2.2.1 v.2.2.2.1 v.2.2.2.2
def b_R_tune_146 (sR_146 : St) (p4 : Int32) (x5_146 : Int32) (x6_146 : Int32) (x7_146 : Int32) : Int32 × St :=
  (if p4 = 0 then (x5_146, sR_146)
  else (if p4 = 1 then (x6_146, sR_146)
  else (x7_146, sR_146)))
def m_R_tune (sR : St) (p1 : Int32) (p2 : Int32) (p3 : Int32) (p4 : Int32) : Int32 × St :=
  (if (m_R_in p1 10 160) = 0 then ((-1), sR)
  else (if (m_R_in p2 p1 160) = 0 then ((-1), sR)
  else (if (m_R_in p3 0 2000) = 0 then ((-1), sR)
  else (if (m_R_in p4 0 2) = 0 then ((-1), sR)
  else (b_R_tune_146 (wl (g_R_tune_61 p2 p3) 152 (sR, (-9), (-9), (-9), p1)).1 p4 (wl (g_R_tune_61 p2 p3) 152 (sR, (-9), (-9), (-9), p1)).2.1 (wl (g_R_tune_61 p2 p3) 152 (sR, (-9), (-9), (-9), p1)).2.2.1 (wl (g_R_tune_61 p2 p3) 152 (sR, (-9), (-9), (-9), p1)).2.2.2.1)))))
def m_R_spread (sR : St) (p1 : Int32) : Int32 × St :=
  (if (m_R_in p1 0 50) = 0 then ((-1), sR)
  else ((sR 0 2), (up sR 0 2 p1)))
def m_R_shot (sR : St) (p1 : Int32) (p2 : Int32) : Int32 × St :=
  (if (m_R_in p1 0 60) = 0 then ((-1), sR)
  else (if (m_R_in p2 0 2000) = 0 then ((-1), sR)
  else (if (sR 0 3) = 16 then ((-3), sR)
  else (((sR 0 3) + 1), (up (up (up sR 5 (Int32.toNatClampNeg (sR 0 3)) p1) 6 (Int32.toNatClampNeg (sR 0 3)) p2) 0 3 ((sR 0 3) + 1))))))
def m_R_clear (sR : St)  : Int32 × St :=
  ((sR 0 3), (up sR 0 3 0))
def m_R_lands  (p0 : Int32) (p1 : Int32) : Int32 :=
  ((((p0 * (85 + (p1 / 25))) / 100) + (p1 - p1 / 25 * 25)) - 12)
def f_R_findLeft_55  (x2_55 : Int32) (sR_55 : St) (x3_55 : Int32) : Option (St × Int32) :=
  (if (sR_55 0 3) ≤ x3_55 then none
  else (if (sR_55 27 (Int32.toNatClampNeg (sR_55 5 (Int32.toNatClampNeg x3_55)))) = (-9) then some ((up sR_55 28 (Int32.toNatClampNeg x2_55) 0), (x3_55 + 1))
  else (if (m_R_size ((m_R_lands (sR_55 27 (Int32.toNatClampNeg (sR_55 5 (Int32.toNatClampNeg x3_55)))) x2_55) - (sR_55 6 (Int32.toNatClampNeg x3_55)))) ≤ (sR_55 0 2) then some ((up sR_55 28 (Int32.toNatClampNeg x2_55) (sR_55 28 (Int32.toNatClampNeg x2_55))), (x3_55 + 1))
  else some ((up sR_55 28 (Int32.toNatClampNeg x2_55) 0), (x3_55 + 1)))))
def g_R_findLeft_55  (x2_55 : Int32) : St × Int32 → Option (St × Int32) := fun v => f_R_findLeft_55 x2_55 v.1 v.2
def f_R_findLeft_2   (sR_2 : St) (x1_2 : Int32) : Option (St × Int32) :=
  (if 61 ≤ x1_2 then none
  else some ((up (m_R_step sR_2 (sR_2 1 3) x1_2) 27 (Int32.toNatClampNeg x1_2) ((m_R_step sR_2 (sR_2 1 3) x1_2) 0 25)), (x1_2 + 1)))
def g_R_findLeft_2   : St × Int32 → Option (St × Int32) := fun v => f_R_findLeft_2 v.1 v.2
def b_R_findLeft_128 (sR_128 : St) (x1_128 : Int32) (x2_128 : Int32) : Option (St × Int32 × Int32) :=
  some (sR_128, (x1_128 + (sR_128 28 (Int32.toNatClampNeg x2_128))), (x2_128 + 1))
def f_R_findLeft_39   (sR_39 : St) (x1_39 : Int32) (x2_39 : Int32) : Option (St × Int32 × Int32) :=
  (if 775 ≤ x2_39 then none
  else (b_R_findLeft_128 (wl (g_R_findLeft_55 x2_39) 17 ((up sR_39 28 (Int32.toNatClampNeg x2_39) 1), 0)).1 x1_39 x2_39))
def g_R_findLeft_39   : St × Int32 × Int32 → Option (St × Int32 × Int32) := fun v => f_R_findLeft_39 v.1 v.2.1 v.2.2
def b_R_findLeft_143 (sR_143 : St) (x1_143 : Int32) : Int32 × St :=
  (x1_143, sR_143)
def b_R_findLeft_35 (sR_35 : St) : Int32 × St :=
  (b_R_findLeft_143 (wl g_R_findLeft_39 776 (sR_35, 0, 0)).1 (wl g_R_findLeft_39 776 (sR_35, 0, 0)).2.1)
def m_R_findLeft (sR : St)  : Int32 × St :=
  (b_R_findLeft_35 (wl g_R_findLeft_2 62 (sR, 0)).1)
def m_R_left (sR : St)  : Int32 × St :=
  ((m_R_findLeft sR).1, (m_R_findLeft sR).2)
def f_R_spanOf_7 (sR : St) (p1 : Int32) (p2 : Int32) (x3_7 : Int32) (x4_7 : Int32) : Option (Int32 × Int32) :=
  (if 775 ≤ x4_7 then none
  else (if (sR 28 (Int32.toNatClampNeg x4_7)) = 1 then (if (sR 27 (Int32.toNatClampNeg p1)) = (-9) then some (x3_7, (x4_7 + 1))
  else (if x3_7 = (-1000) then some ((m_R_lands (sR 27 (Int32.toNatClampNeg p1)) x4_7), (x4_7 + 1))
  else (if p2 = 0 then (if x3_7 ≤ (m_R_lands (sR 27 (Int32.toNatClampNeg p1)) x4_7) then some (x3_7, (x4_7 + 1))
  else some ((m_R_lands (sR 27 (Int32.toNatClampNeg p1)) x4_7), (x4_7 + 1)))
  else (if (m_R_lands (sR 27 (Int32.toNatClampNeg p1)) x4_7) ≤ x3_7 then some (x3_7, (x4_7 + 1))
  else some ((m_R_lands (sR 27 (Int32.toNatClampNeg p1)) x4_7), (x4_7 + 1))))))
  else some (x3_7, (x4_7 + 1))))
def g_R_spanOf_7 (sR : St) (p1 : Int32) (p2 : Int32) : Int32 × Int32 → Option (Int32 × Int32) := fun v => f_R_spanOf_7 sR p1 p2 v.1 v.2
def b_R_spanOf_89 (sR : St) (x3_89 : Int32) : Int32 :=
  x3_89
def m_R_spanOf (sR : St) (p1 : Int32) (p2 : Int32) : Int32 :=
  (b_R_spanOf_89 sR (wl (g_R_spanOf_7 sR p1 p2) 776 ((-1000), 0)).1)
def m_R_span (sR : St) (p1 : Int32) (p2 : Int32) : Int32 × St :=
  (if (m_R_in p1 0 60) = 0 then ((-2000), sR)
  else (if (m_R_in p2 0 1) = 0 then ((-2000), sR)
  else (if (m_R_findLeft sR).1 = 0 then ((-1000), (m_R_findLeft sR).2)
  else (if p2 = 1 then ((m_R_spanOf (m_R_findLeft sR).2 p1 1), (m_R_findLeft sR).2)
  else ((m_R_spanOf (m_R_findLeft sR).2 p1 0), (m_R_findLeft sR).2)))))
def f_R_next_17 (sR_17 : St)  (x1_17 : Int32) (x2_17 : Int32) (x3_17 : Int32) : Option (Int32 × Int32 × Int32) :=
  (if 61 ≤ x3_17 then none
  else (if (sR_17 27 (Int32.toNatClampNeg x3_17)) = (-9) then (if (-1) ≤ x2_17 then (if (-1) ≤ x2_17 then some (x1_17, x2_17, (x3_17 + 1))
  else some (x1_17, (-1), (x3_17 + 1)))
  else (if (-1) ≤ x2_17 then some (x3_17, x2_17, (x3_17 + 1))
  else some (x3_17, (-1), (x3_17 + 1))))
  else (if ((m_R_spanOf sR_17 x3_17 1) - (m_R_spanOf sR_17 x3_17 0)) ≤ x2_17 then (if ((m_R_spanOf sR_17 x3_17 1) - (m_R_spanOf sR_17 x3_17 0)) ≤ x2_17 then some (x1_17, x2_17, (x3_17 + 1))
  else some (x1_17, ((m_R_spanOf sR_17 x3_17 1) - (m_R_spanOf sR_17 x3_17 0)), (x3_17 + 1)))
  else (if ((m_R_spanOf sR_17 x3_17 1) - (m_R_spanOf sR_17 x3_17 0)) ≤ x2_17 then some (x3_17, x2_17, (x3_17 + 1))
  else some (x3_17, ((m_R_spanOf sR_17 x3_17 1) - (m_R_spanOf sR_17 x3_17 0)), (x3_17 + 1))))))
def g_R_next_17 (sR_17 : St)  : Int32 × Int32 × Int32 → Option (Int32 × Int32 × Int32) := fun v => f_R_next_17 sR_17 v.1 v.2.1 v.2.2
def b_R_next_84 (sR_84 : St) (x1_84 : Int32) : Int32 × St :=
  (x1_84, sR_84)
def m_R_next (sR : St)  : Int32 × St :=
  (if (m_R_findLeft sR).1 = 0 then ((-9), (m_R_findLeft sR).2)
  else (b_R_next_84 (m_R_findLeft sR).2 (wl (g_R_next_17 (m_R_findLeft sR).2) 62 ((-9), (-1), 0)).1))
def f_R_surest_42 (sR_42 : St) (p1 : Int32) (x3_42 : Int32) (x4_42 : Int32) (x5_42 : Int32) : Option (Int32 × Int32 × Int32) :=
  (if 61 ≤ x5_42 then none
  else (if (sR_42 27 (Int32.toNatClampNeg x5_42)) = (-9) then some (x3_42, x4_42, (x5_42 + 1))
  else (if (m_R_size ((m_R_spanOf sR_42 x5_42 1) - p1)) ≤ (m_R_size ((m_R_spanOf sR_42 x5_42 0) - p1)) then (if x3_42 = (-9) then some (x5_42, (m_R_size ((m_R_spanOf sR_42 x5_42 0) - p1)), (x5_42 + 1))
  else (if x4_42 ≤ (m_R_size ((m_R_spanOf sR_42 x5_42 0) - p1)) then some (x3_42, x4_42, (x5_42 + 1))
  else some (x5_42, (m_R_size ((m_R_spanOf sR_42 x5_42 0) - p1)), (x5_42 + 1))))
  else (if x3_42 = (-9) then some (x5_42, (m_R_size ((m_R_spanOf sR_42 x5_42 1) - p1)), (x5_42 + 1))
  else (if x4_42 ≤ (m_R_size ((m_R_spanOf sR_42 x5_42 1) - p1)) then some (x3_42, x4_42, (x5_42 + 1))
  else some (x5_42, (m_R_size ((m_R_spanOf sR_42 x5_42 1) - p1)), (x5_42 + 1)))))))
def g_R_surest_42 (sR_42 : St) (p1 : Int32) : Int32 × Int32 × Int32 → Option (Int32 × Int32 × Int32) := fun v => f_R_surest_42 sR_42 p1 v.1 v.2.1 v.2.2
def b_R_surest_131 (sR_131 : St) (p2 : Int32) (x3_131 : Int32) (x4_131 : Int32) : Int32 × St :=
  (if p2 = 0 then (x3_131, sR_131)
  else (x4_131, sR_131))
def m_R_surest (sR : St) (p1 : Int32) (p2 : Int32) : Int32 × St :=
  (if (m_R_in p1 0 2000) = 0 then ((-1), sR)
  else (if (m_R_in p2 0 1) = 0 then ((-1), sR)
  else (if (m_R_findLeft sR).1 = 0 then ((-9), (m_R_findLeft sR).2)
  else (b_R_surest_131 (m_R_findLeft sR).2 p2 (wl (g_R_surest_42 (m_R_findLeft sR).2 p1) 62 ((-9), (-9), 0)).1 (wl (g_R_surest_42 (m_R_findLeft sR).2 p1) 62 ((-9), (-9), 0)).2.1))))
def f_R_newWall_2   (sR_2 : St) (x1_2 : Int32) : Option (St × Int32) :=
  (if 48 ≤ x1_2 then none
  else some ((up (up (up sR_2 9 (Int32.toNatClampNeg x1_2) 1) 10 (Int32.toNatClampNeg x1_2) 10) 11 (Int32.toNatClampNeg x1_2) 0), (x1_2 + 1)))
def g_R_newWall_2   : St × Int32 → Option (St × Int32) := fun v => f_R_newWall_2 v.1 v.2
def b_R_newWall_36 (sR_36 : St) : St :=
  sR_36
def m_R_newWall (sR : St)  : St :=
  (b_R_newWall_36 (wl g_R_newWall_2 49 (sR, 0)).1)
def m_R_wall (sR : St) (p1 : Int32) (p2 : Int32) : Int32 × St :=
  (if (m_R_in p1 1 8) = 0 then ((-1), sR)
  else (if (m_R_in p2 1 6) = 0 then ((-1), sR)
  else ((p1 * p2), (m_R_newWall (up (up sR 0 6 p1) 0 7 p2)))))
def m_R_isCell (sR : St) (p1 : Int32) (p2 : Int32) : Int32 :=
  (if (m_R_in p1 0 ((sR 0 6) - 1)) = 0 then 0
  else (if (m_R_in p2 0 ((sR 0 7) - 1)) = 0 then 0
  else 1))
def m_R_strength (sR : St) (p1 : Int32) (p2 : Int32) (p3 : Int32) : Int32 × St :=
  (if (m_R_isCell sR p1 p2) = 0 then ((-1), sR)
  else (if (m_R_in p3 1 99) = 0 then ((-1), sR)
  else (if (sR 9 (Int32.toNatClampNeg (p1 + ((sR 0 6) * p2)))) = 0 then ((-2), sR)
  else ((sR 10 (Int32.toNatClampNeg (p1 + ((sR 0 6) * p2)))), (up sR 10 (Int32.toNatClampNeg (p1 + ((sR 0 6) * p2))) p3)))))
def m_R_prop (sR : St) (p1 : Int32) (p2 : Int32) : Int32 × St :=
  (if (m_R_isCell sR p1 p2) = 0 then ((-1), sR)
  else (if (sR 9 (Int32.toNatClampNeg (p1 + ((sR 0 6) * p2)))) = 0 then ((-2), sR)
  else ((sR 11 (Int32.toNatClampNeg (p1 + ((sR 0 6) * p2)))), (up sR 11 (Int32.toNatClampNeg (p1 + ((sR 0 6) * p2))) 1))))
def f_R_keep_2   (sR_2 : St) (x1_2 : Int32) : Option (St × Int32) :=
  (if 48 ≤ x1_2 then none
  else some ((up (up (up sR_2 29 (Int32.toNatClampNeg x1_2) (sR_2 9 (Int32.toNatClampNeg x1_2))) 30 (Int32.toNatClampNeg x1_2) (sR_2 10 (Int32.toNatClampNeg x1_2))) 31 (Int32.toNatClampNeg x1_2) (sR_2 11 (Int32.toNatClampNeg x1_2))), (x1_2 + 1)))
def g_R_keep_2   : St × Int32 → Option (St × Int32) := fun v => f_R_keep_2 v.1 v.2
def b_R_keep_50 (sR_50 : St) : St :=
  sR_50
def m_R_keep (sR : St)  : St :=
  (b_R_keep_50 (wl g_R_keep_2 49 (sR, 0)).1)
def f_R_giveBack_2   (sR_2 : St) (x1_2 : Int32) : Option (St × Int32) :=
  (if 48 ≤ x1_2 then none
  else some ((up (up (up sR_2 9 (Int32.toNatClampNeg x1_2) (sR_2 29 (Int32.toNatClampNeg x1_2))) 10 (Int32.toNatClampNeg x1_2) (sR_2 30 (Int32.toNatClampNeg x1_2))) 11 (Int32.toNatClampNeg x1_2) (sR_2 31 (Int32.toNatClampNeg x1_2))), (x1_2 + 1)))
def g_R_giveBack_2   : St × Int32 → Option (St × Int32) := fun v => f_R_giveBack_2 v.1 v.2
def b_R_giveBack_50 (sR_50 : St) : St :=
  sR_50
def m_R_giveBack (sR : St)  : St :=
  (b_R_giveBack_50 (wl g_R_giveBack_2 49 (sR, 0)).1)
def f_R_strike_83  (p1 : Int32) (sR_83 : St) (x5_83 : Int32) (x6_83 : Int32) : Option (St × Int32 × Int32) :=
  (if (sR_83 0 7) ≤ x6_83 then none
  else (if (sR_83 9 (Int32.toNatClampNeg (p1 + ((sR_83 0 6) * x6_83)))) = 1 then (if (sR_83 11 (Int32.toNatClampNeg (p1 + ((sR_83 0 6) * x6_83)))) = 0 then (if (sR_83 9 (Int32.toNatClampNeg ((p1 + ((sR_83 0 6) * x6_83)) - (sR_83 0 6)))) = 0 then some ((up sR_83 9 (Int32.toNatClampNeg (p1 + ((sR_83 0 6) * x6_83))) 0), (x5_83 + 1), (x6_83 + 1))
  else some (sR_83, x5_83, (x6_83 + 1)))
  else some (sR_83, x5_83, (x6_83 + 1)))
  else some (sR_83, x5_83, (x6_83 + 1))))
def g_R_strike_83  (p1 : Int32) : St × Int32 × Int32 → Option (St × Int32 × Int32) := fun v => f_R_strike_83 p1 v.1 v.2.1 v.2.2
def b_R_strike_156 (sR_156 : St) (x5_156 : Int32) : Int32 × St :=
  (x5_156, sR_156)
def m_R_strike (sR : St) (p1 : Int32) (p2 : Int32) (p3 : Int32) : Int32 × St :=
  (if (m_R_isCell sR p1 p2) = 0 then (0, sR)
  else (if (sR 9 (Int32.toNatClampNeg (p1 + ((sR 0 6) * p2)))) = 0 then (0, sR)
  else (if 0 < ((sR 10 (Int32.toNatClampNeg (p1 + ((sR 0 6) * p2)))) - p3) then (b_R_strike_156 (wl (g_R_strike_83 p1) 8 ((up (up sR 10 (Int32.toNatClampNeg (p1 + ((sR 0 6) * p2))) ((sR 10 (Int32.toNatClampNeg (p1 + ((sR 0 6) * p2)))) - p3)) 11 (Int32.toNatClampNeg (p1 + ((sR 0 6) * p2))) 0), 0, 1)).1 (wl (g_R_strike_83 p1) 8 ((up (up sR 10 (Int32.toNatClampNeg (p1 + ((sR 0 6) * p2))) ((sR 10 (Int32.toNatClampNeg (p1 + ((sR 0 6) * p2)))) - p3)) 11 (Int32.toNatClampNeg (p1 + ((sR 0 6) * p2))) 0), 0, 1)).2.1)
  else (b_R_strike_156 (wl (g_R_strike_83 p1) 8 ((up (up (up sR 10 (Int32.toNatClampNeg (p1 + ((sR 0 6) * p2))) ((sR 10 (Int32.toNatClampNeg (p1 + ((sR 0 6) * p2)))) - p3)) 11 (Int32.toNatClampNeg (p1 + ((sR 0 6) * p2))) 0) 9 (Int32.toNatClampNeg (p1 + ((sR 0 6) * p2))) 0), 1, 1)).1 (wl (g_R_strike_83 p1) 8 ((up (up (up sR 10 (Int32.toNatClampNeg (p1 + ((sR 0 6) * p2))) ((sR 10 (Int32.toNatClampNeg (p1 + ((sR 0 6) * p2)))) - p3)) 11 (Int32.toNatClampNeg (p1 + ((sR 0 6) * p2))) 0) 9 (Int32.toNatClampNeg (p1 + ((sR 0 6) * p2))) 0), 1, 1)).2.1))))
def m_R_isForce  (p0 : Int32) : Int32 :=
  (m_R_in p0 1 99)
def m_R_hit (sR : St) (p1 : Int32) (p2 : Int32) (p3 : Int32) : Int32 × St :=
  (if (m_R_isCell sR p1 p2) = 0 then ((-1), sR)
  else (if (m_R_isForce p3) = 0 then ((-1), sR)
  else (if (sR 9 (Int32.toNatClampNeg (p1 + ((sR 0 6) * p2)))) = 0 then ((-2), sR)
  else ((m_R_strike sR p1 p2 p3).1, (m_R_strike sR p1 p2 p3).2))))
def m_R_cell (sR : St) (p1 : Int32) (p2 : Int32) (p3 : Int32) : Int32 :=
  (if (m_R_isCell sR p1 p2) = 0 then (-1)
  else (if (m_R_in p3 0 2) = 0 then (-1)
  else (if p3 = 0 then (sR 9 (Int32.toNatClampNeg (p1 + ((sR 0 6) * p2))))
  else (if p3 = 1 then (sR 10 (Int32.toNatClampNeg (p1 + ((sR 0 6) * p2))))
  else (sR 11 (Int32.toNatClampNeg (p1 + ((sR 0 6) * p2))))))))
def m_R_level (sR : St) (p1 : Int32) : Int32 × St :=
  (if (m_R_in p1 0 2) = 0 then ((-1), sR)
  else ((sR 0 11), (up sR 0 11 p1)))
def f_R_standing_4 (sR : St) (p1 : Int32) (x2_4 : Int32) (x3_4 : Int32) : Option (Int32 × Int32) :=
  (if (sR 0 7) ≤ x3_4 then none
  else some ((x2_4 + (sR 9 (Int32.toNatClampNeg (p1 + ((sR 0 6) * x3_4))))), (x3_4 + 1)))
def g_R_standing_4 (sR : St) (p1 : Int32) : Int32 × Int32 → Option (Int32 × Int32) := fun v => f_R_standing_4 sR p1 v.1 v.2
def b_R_standing_34 (sR : St) (x2_34 : Int32) : Int32 :=
  x2_34
def m_R_standing (sR : St) (p1 : Int32) : Int32 :=
  (b_R_standing_34 sR (wl (g_R_standing_4 sR p1) 7 (0, 0)).1)
def f_R_open_2 (sR : St)  (x1_2 : Int32) : (Int32) ⊕ (Int32) :=
  (if (sR 0 6) ≤ x1_2 then .inr (-9)
  else (if (sR 0 11) < (m_R_standing sR x1_2) then .inl (x1_2 + 1)
  else .inr x1_2))
def g_R_open_2 (sR : St)  : Int32 → (Int32) ⊕ (Int32) := fun v => f_R_open_2 sR v
def m_R_open (sR : St)  : Int32 :=
  (wc (g_R_open_2 sR) 0 9 0)
def m_R_cheaper (sR : St) (p1 : Int32) (p2 : Int32) : St :=
  (if (sR 33 (Int32.toNatClampNeg p1)) ≤ p2 then (up sR 33 (Int32.toNatClampNeg p1) (sR 33 (Int32.toNatClampNeg p1)))
  else (up sR 33 (Int32.toNatClampNeg p1) p2))
def f_R_fewest_62  (x3_62 : Int32) (sR_62 : St) (x6_62 : Int32) : Option (St × Int32) :=
  (if 6 ≤ x6_62 then none
  else some ((up sR_62 33 (Int32.toNatClampNeg x6_62) x3_62), (x6_62 + 1)))
def g_R_fewest_62  (x3_62 : Int32) : St × Int32 → Option (St × Int32) := fun v => f_R_fewest_62 x3_62 v.1 v.2
def f_R_fewest_86  (p2 : Int32) (x3_86 : Int32) (x5_86 : Int32) (sR_86 : St) (x6_86 : Int32) : Option (St × Int32) :=
  (if 3 ≤ x6_86 then none
  else (if (sR_86 9 (Int32.toNatClampNeg x5_86)) = 0 then some ((m_R_cheaper (m_R_cheaper sR_86 ((2 * x6_86) + 1) (sR_86 32 (Int32.toNatClampNeg (2 * x6_86)))) ((2 * x6_86) + 1) (sR_86 32 (Int32.toNatClampNeg ((2 * x6_86) + 1)))), (x6_86 + 1))
  else (if 2 ≤ x6_86 then some ((m_R_cheaper (m_R_cheaper sR_86 ((2 * x6_86) + 1) ((sR_86 32 (Int32.toNatClampNeg (2 * x6_86))) + ((((sR_86 10 (Int32.toNatClampNeg x5_86)) + p2) - 1) / p2))) ((2 * x6_86) + 1) ((sR_86 32 (Int32.toNatClampNeg ((2 * x6_86) + 1))) + ((m_R_cheaper sR_86 ((2 * x6_86) + 1) ((sR_86 32 (Int32.toNatClampNeg (2 * x6_86))) + ((((sR_86 10 (Int32.toNatClampNeg x5_86)) + p2) - 1) / p2))) 11 (Int32.toNatClampNeg x5_86)))), (x6_86 + 1))
  else (if ((m_R_cheaper (m_R_cheaper (m_R_cheaper sR_86 ((2 * x6_86) + 1) ((sR_86 32 (Int32.toNatClampNeg (2 * x6_86))) + ((((sR_86 10 (Int32.toNatClampNeg x5_86)) + p2) - 1) / p2))) ((2 * x6_86) + 1) ((sR_86 32 (Int32.toNatClampNeg ((2 * x6_86) + 1))) + ((m_R_cheaper sR_86 ((2 * x6_86) + 1) ((sR_86 32 (Int32.toNatClampNeg (2 * x6_86))) + ((((sR_86 10 (Int32.toNatClampNeg x5_86)) + p2) - 1) / p2))) 11 (Int32.toNatClampNeg x5_86)))) ((2 * x6_86) + 2) (sR_86 32 (Int32.toNatClampNeg (2 * x6_86)))) 11 (Int32.toNatClampNeg x5_86)) = 1 then some ((m_R_cheaper (m_R_cheaper (m_R_cheaper (m_R_cheaper sR_86 ((2 * x6_86) + 1) ((sR_86 32 (Int32.toNatClampNeg (2 * x6_86))) + ((((sR_86 10 (Int32.toNatClampNeg x5_86)) + p2) - 1) / p2))) ((2 * x6_86) + 1) ((sR_86 32 (Int32.toNatClampNeg ((2 * x6_86) + 1))) + ((m_R_cheaper sR_86 ((2 * x6_86) + 1) ((sR_86 32 (Int32.toNatClampNeg (2 * x6_86))) + ((((sR_86 10 (Int32.toNatClampNeg x5_86)) + p2) - 1) / p2))) 11 (Int32.toNatClampNeg x5_86)))) ((2 * x6_86) + 2) (sR_86 32 (Int32.toNatClampNeg (2 * x6_86)))) ((2 * x6_86) + 2) (sR_86 32 (Int32.toNatClampNeg ((2 * x6_86) + 1)))), (x6_86 + 1))
  else some ((m_R_cheaper (m_R_cheaper (m_R_cheaper (m_R_cheaper sR_86 ((2 * x6_86) + 1) ((sR_86 32 (Int32.toNatClampNeg (2 * x6_86))) + ((((sR_86 10 (Int32.toNatClampNeg x5_86)) + p2) - 1) / p2))) ((2 * x6_86) + 1) ((sR_86 32 (Int32.toNatClampNeg ((2 * x6_86) + 1))) + ((m_R_cheaper sR_86 ((2 * x6_86) + 1) ((sR_86 32 (Int32.toNatClampNeg (2 * x6_86))) + ((((sR_86 10 (Int32.toNatClampNeg x5_86)) + p2) - 1) / p2))) 11 (Int32.toNatClampNeg x5_86)))) ((2 * x6_86) + 2) (sR_86 32 (Int32.toNatClampNeg (2 * x6_86)))) ((2 * x6_86) + 2) x3_86), (x6_86 + 1))))))
def g_R_fewest_86  (p2 : Int32) (x3_86 : Int32) (x5_86 : Int32) : St × Int32 → Option (St × Int32) := fun v => f_R_fewest_86 p2 x3_86 x5_86 v.1 v.2
def f_R_fewest_253   (sR_253 : St) (x6_253 : Int32) : Option (St × Int32) :=
  (if 6 ≤ x6_253 then none
  else some ((up sR_253 32 (Int32.toNatClampNeg x6_253) (sR_253 33 (Int32.toNatClampNeg x6_253))), (x6_253 + 1)))
def g_R_fewest_253   : St × Int32 → Option (St × Int32) := fun v => f_R_fewest_253 v.1 v.2
def f_R_fewest_6  (x3_6 : Int32) (sR_6 : St) (x4_6 : Int32) : Option (St × Int32) :=
  (if 6 ≤ x4_6 then none
  else (if x4_6 = 0 then some ((up sR_6 32 (Int32.toNatClampNeg x4_6) 0), (x4_6 + 1))
  else some ((up sR_6 32 (Int32.toNatClampNeg x4_6) x3_6), (x4_6 + 1))))
def g_R_fewest_6  (x3_6 : Int32) : St × Int32 → Option (St × Int32) := fun v => f_R_fewest_6 x3_6 v.1 v.2
def b_R_fewest_280 (sR_280 : St) (p1 : Int32) (p2 : Int32) (x3_39 : Int32) (x4_280 : Int32) : Option (St × Int32) :=
  some (sR_280, (x4_280 + 1))
def b_R_fewest_250 (sR_250 : St) (p1 : Int32) (p2 : Int32) (x3_39 : Int32) (x4_250 : Int32) : Option (St × Int32) :=
  (b_R_fewest_280 (wl g_R_fewest_253 7 (sR_250, 0)).1 p1 p2 x3_39 x4_250)
def b_R_fewest_83 (sR_83 : St) (p1 : Int32) (p2 : Int32) (x3_39 : Int32) (x4_83 : Int32) (x5_83 : Int32) : Option (St × Int32) :=
  (b_R_fewest_250 (wl (g_R_fewest_86 p2 x3_39 x5_83) 4 (sR_83, 0)).1 p1 p2 x3_39 x4_83)
def f_R_fewest_39  (p1 : Int32) (p2 : Int32) (x3_39 : Int32) (sR_39 : St) (x4_39 : Int32) : Option (St × Int32) :=
  (if (sR_39 0 7) ≤ x4_39 then none
  else (b_R_fewest_83 (wl (g_R_fewest_62 x3_39) 7 (sR_39, 0)).1 p1 p2 x3_39 x4_39 (p1 + ((sR_39 0 6) * x4_39))))
def g_R_fewest_39  (p1 : Int32) (p2 : Int32) (x3_39 : Int32) : St × Int32 → Option (St × Int32) := fun v => f_R_fewest_39 p1 p2 x3_39 v.1 v.2
def f_R_fewest_292 (sR_292 : St)  (x4_292 : Int32) (x5_292 : Int32) : Option (Int32 × Int32) :=
  (if ((2 * (sR_292 0 11)) + 2) ≤ x5_292 then none
  else (if x4_292 ≤ (sR_292 32 (Int32.toNatClampNeg x5_292)) then some (x4_292, (x5_292 + 1))
  else some ((sR_292 32 (Int32.toNatClampNeg x5_292)), (x5_292 + 1))))
def g_R_fewest_292 (sR_292 : St)  : Int32 × Int32 → Option (Int32 × Int32) := fun v => f_R_fewest_292 sR_292 v.1 v.2
def b_R_fewest_337 (sR_337 : St) (x4_337 : Int32) : Int32 × St :=
  (x4_337, sR_337)
def b_R_fewest_286 (sR_286 : St) (x3_286 : Int32) : Int32 × St :=
  (b_R_fewest_337 sR_286 (wl (g_R_fewest_292 sR_286) 7 (x3_286, 0)).1)
def b_R_fewest_36 (sR_36 : St) (p1 : Int32) (p2 : Int32) (x3_36 : Int32) : Int32 × St :=
  (b_R_fewest_286 (wl (g_R_fewest_39 p1 p2 x3_36) 7 (sR_36, 0)).1 x3_36)
def m_R_fewest (sR : St) (p1 : Int32) (p2 : Int32) : Int32 × St :=
  (b_R_fewest_36 (wl (g_R_fewest_6 100000) 7 (sR, 0)).1 p1 p2 100000)
def f_R_soonest_31  (p1 : Int32) (sR_31 : St) (x3_31 : Int32) (x4_31 : Int32) (x5_31 : Int32) : Option (St × Int32 × Int32 × Int32) :=
  (if (sR_31 0 6) ≤ x5_31 then none
  else (if x4_31 ≤ (m_R_fewest sR_31 x5_31 p1).1 then (if x4_31 ≤ (m_R_fewest sR_31 x5_31 p1).1 then some ((m_R_fewest sR_31 x5_31 p1).2, x3_31, x4_31, (x5_31 + 1))
  else some ((m_R_fewest sR_31 x5_31 p1).2, x3_31, (m_R_fewest sR_31 x5_31 p1).1, (x5_31 + 1)))
  else (if x4_31 ≤ (m_R_fewest sR_31 x5_31 p1).1 then some ((m_R_fewest sR_31 x5_31 p1).2, x5_31, x4_31, (x5_31 + 1))
  else some ((m_R_fewest sR_31 x5_31 p1).2, x5_31, (m_R_fewest sR_31 x5_31 p1).1, (x5_31 + 1)))))
def g_R_soonest_31  (p1 : Int32) : St × Int32 × Int32 × Int32 → Option (St × Int32 × Int32 × Int32) := fun v => f_R_soonest_31 p1 v.1 v.2.1 v.2.2.1 v.2.2.2
def b_R_soonest_85 (sR_85 : St) (p2 : Int32) (x3_85 : Int32) (x4_85 : Int32) : Int32 × St :=
  (if p2 = 0 then (x3_85, sR_85)
  else (x4_85, sR_85))
def m_R_soonest (sR : St) (p1 : Int32) (p2 : Int32) : Int32 × St :=
  (if (m_R_isForce p1) = 0 then ((-1), sR)
  else (if (m_R_in p2 0 1) = 0 then ((-1), sR)
  else (b_R_soonest_85 (wl (g_R_soonest_31 p1) 9 ((m_R_fewest sR 0 p1).2, 0, (m_R_fewest sR 0 p1).1, 1)).1 p2 (wl (g_R_soonest_31 p1) 9 ((m_R_fewest sR 0 p1).2, 0, (m_R_fewest sR 0 p1).1, 1)).2.1 (wl (g_R_soonest_31 p1) 9 ((m_R_fewest sR 0 p1).2, 0, (m_R_fewest sR 0 p1).1, 1)).2.2.1)))
def m_R_scatter (sR : St) (p1 : Int32) (p2 : Int32) (p3 : Int32) : Int32 × St :=
  (if (m_R_in p1 (-1) 1) = 0 then ((-1), sR)
  else (if (m_R_in p2 (-1) 1) = 0 then ((-1), sR)
  else (if (m_R_in p3 0 9) = 0 then ((-1), sR)
  else ((sR 13 (Int32.toNatClampNeg ((p1 + 1) + (3 * (p2 + 1))))), (up sR 13 (Int32.toNatClampNeg ((p1 + 1) + (3 * (p2 + 1)))) p3)))))
def f_R_worthOf_10  (p1 : Int32) (p2 : Int32) (p3 : Int32) (sR_10 : St) (x4_10 : Int32) (x5_10 : Int32) : Option (St × Int32 × Int32) :=
  (if 9 ≤ x5_10 then none
  else some ((m_R_giveBack (m_R_strike sR_10 ((p1 + (x5_10 - x5_10 / 3 * 3)) - 1) ((p2 + (x5_10 / 3)) - 1) p3).2), (x4_10 + ((sR_10 13 (Int32.toNatClampNeg x5_10)) * (m_R_strike sR_10 ((p1 + (x5_10 - x5_10 / 3 * 3)) - 1) ((p2 + (x5_10 / 3)) - 1) p3).1)), (x5_10 + 1)))
def g_R_worthOf_10  (p1 : Int32) (p2 : Int32) (p3 : Int32) : St × Int32 × Int32 → Option (St × Int32 × Int32) := fun v => f_R_worthOf_10 p1 p2 p3 v.1 v.2.1 v.2.2
def b_R_worthOf_61 (sR_61 : St) (x4_61 : Int32) : Int32 × St :=
  (x4_61, sR_61)
def m_R_worthOf (sR : St) (p1 : Int32) (p2 : Int32) (p3 : Int32) : Int32 × St :=
  (b_R_worthOf_61 (wl (g_R_worthOf_10 p1 p2 p3) 10 ((m_R_keep sR), 0, 0)).1 (wl (g_R_worthOf_10 p1 p2 p3) 10 ((m_R_keep sR), 0, 0)).2.1)
def m_R_worth (sR : St) (p1 : Int32) (p2 : Int32) (p3 : Int32) : Int32 × St :=
  (if (m_R_isCell sR p1 p2) = 0 then ((-1), sR)
  else (if (m_R_isForce p3) = 0 then ((-1), sR)
  else ((m_R_worthOf sR p1 p2 p3).1, (m_R_worthOf sR p1 p2 p3).2)))
def f_R_aim_26  (p1 : Int32) (sR_26 : St) (x3_26 : Int32) (x4_26 : Int32) (x5_26 : Int32) : Option (St × Int32 × Int32 × Int32) :=
  (if ((sR_26 0 6) * (sR_26 0 7)) ≤ x5_26 then none
  else (if (m_R_worthOf sR_26 (x5_26 - x5_26 / (sR_26 0 6) * (sR_26 0 6)) (x5_26 / (sR_26 0 6)) p1).1 ≤ x4_26 then (if (m_R_worthOf sR_26 (x5_26 - x5_26 / (sR_26 0 6) * (sR_26 0 6)) (x5_26 / (sR_26 0 6)) p1).1 ≤ x4_26 then some ((m_R_worthOf sR_26 (x5_26 - x5_26 / (sR_26 0 6) * (sR_26 0 6)) (x5_26 / (sR_26 0 6)) p1).2, x3_26, x4_26, (x5_26 + 1))
  else some ((m_R_worthOf sR_26 (x5_26 - x5_26 / (sR_26 0 6) * (sR_26 0 6)) (x5_26 / (sR_26 0 6)) p1).2, x3_26, (m_R_worthOf sR_26 (x5_26 - x5_26 / (sR_26 0 6) * (sR_26 0 6)) (x5_26 / (sR_26 0 6)) p1).1, (x5_26 + 1)))
  else (if (m_R_worthOf sR_26 (x5_26 - x5_26 / (sR_26 0 6) * (sR_26 0 6)) (x5_26 / (sR_26 0 6)) p1).1 ≤ x4_26 then some ((m_R_worthOf sR_26 (x5_26 - x5_26 / (sR_26 0 6) * (sR_26 0 6)) (x5_26 / (sR_26 0 6)) p1).2, x5_26, x4_26, (x5_26 + 1))
  else some ((m_R_worthOf sR_26 (x5_26 - x5_26 / (sR_26 0 6) * (sR_26 0 6)) (x5_26 / (sR_26 0 6)) p1).2, x5_26, (m_R_worthOf sR_26 (x5_26 - x5_26 / (sR_26 0 6) * (sR_26 0 6)) (x5_26 / (sR_26 0 6)) p1).1, (x5_26 + 1)))))
def g_R_aim_26  (p1 : Int32) : St × Int32 × Int32 × Int32 → Option (St × Int32 × Int32 × Int32) := fun v => f_R_aim_26 p1 v.1 v.2.1 v.2.2.1 v.2.2.2
def b_R_aim_97 (sR_97 : St) (p2 : Int32) (x3_97 : Int32) (x4_97 : Int32) : Int32 × St :=
  (if p2 = 0 then (x3_97, sR_97)
  else (x4_97, sR_97))
def m_R_aim (sR : St) (p1 : Int32) (p2 : Int32) : Int32 × St :=
  (if (m_R_isForce p1) = 0 then ((-1), sR)
  else (if (m_R_in p2 0 1) = 0 then ((-1), sR)
  else (b_R_aim_97 (wl (g_R_aim_26 p1) 49 (sR, 0, (-1), 0)).1 p2 (wl (g_R_aim_26 p1) 49 (sR, 0, (-1), 0)).2.1 (wl (g_R_aim_26 p1) 49 (sR, 0, (-1), 0)).2.2.1)))
def f_R_held_83  (p1 : Int32) (p2 : Int32) (p3 : Int32) (p4 : Int32) (sR_83 : St) (x9_83 : Int32) (x10_83 : Int64) (x12_83 : Int32) : Option (St × Int32 × Int64 × Int32) :=
  (if p4 ≤ x12_83 then none
  else (if (lg_cmp x10_83 0) ≤ 0 then none
  else (if (lg_cmp (x10_83 * (Int32.toInt64 (sR_83 13 (Int32.toNatClampNeg (x9_83 - x9_83 / 9 * 9))))) 0) ≤ 0 then some (sR_83, (x9_83 / 9), (x10_83 * (Int32.toInt64 (sR_83 13 (Int32.toNatClampNeg (x9_83 - x9_83 / 9 * 9))))), (x12_83 + 1))
  else some ((m_R_strike sR_83 ((p1 + ((x9_83 - x9_83 / 9 * 9) - (x9_83 - x9_83 / 9 * 9) / 3 * 3)) - 1) ((p2 + ((x9_83 - x9_83 / 9 * 9) / 3)) - 1) p3).2, (x9_83 / 9), (x10_83 * (Int32.toInt64 (sR_83 13 (Int32.toNatClampNeg (x9_83 - x9_83 / 9 * 9))))), (x12_83 + 1)))))
def g_R_held_83  (p1 : Int32) (p2 : Int32) (p3 : Int32) (p4 : Int32) : St × Int32 × Int64 × Int32 → Option (St × Int32 × Int64 × Int32) := fun v => f_R_held_83 p1 p2 p3 p4 v.1 v.2.1 v.2.2.1 v.2.2.2
def f_R_held_36 (sR_36 : St) (p4 : Int32) (x5_36 : Int32) (x6_36 : Int32) : Option (Int32 × Int32) :=
  (if p4 ≤ x6_36 then none
  else some ((x5_36 * 9), (x6_36 + 1)))
def g_R_held_36 (sR_36 : St) (p4 : Int32) : Int32 × Int32 → Option (Int32 × Int32) := fun v => f_R_held_36 sR_36 p4 v.1 v.2
def b_R_held_160 (sR_160 : St) (p1 : Int32) (p2 : Int32) (p3 : Int32) (p4 : Int32) (x5_66 : Int32) (x6_160 : Int64) (x8_160 : Int32) (x10_160 : Int64) : Option (St × Int64 × Int32) :=
  (if (lg_cmp x10_160 0) ≤ 0 then some ((m_R_giveBack sR_160), (x6_160 + 0), (x8_160 + 1))
  else (if (m_R_open sR_160) = (-9) then some ((m_R_giveBack sR_160), (x6_160 + x10_160), (x8_160 + 1))
  else some ((m_R_giveBack sR_160), (x6_160 + 0), (x8_160 + 1))))
def f_R_held_66  (p1 : Int32) (p2 : Int32) (p3 : Int32) (p4 : Int32) (x5_66 : Int32) (sR_66 : St) (x6_66 : Int64) (x8_66 : Int32) : Option (St × Int64 × Int32) :=
  (if x5_66 ≤ x8_66 then none
  else (b_R_held_160 (wl (g_R_held_83 p1 p2 p3 p4) 5 (sR_66, x8_66, 1, 0)).1 p1 p2 p3 p4 x5_66 x6_66 x8_66 (wl (g_R_held_83 p1 p2 p3 p4) 5 (sR_66, x8_66, 1, 0)).2.2.1))
def g_R_held_66  (p1 : Int32) (p2 : Int32) (p3 : Int32) (p4 : Int32) (x5_66 : Int32) : St × Int64 × Int32 → Option (St × Int64 × Int32) := fun v => f_R_held_66 p1 p2 p3 p4 x5_66 v.1 v.2.1 v.2.2
def b_R_held_197 (sR_197 : St) (x6_197 : Int64) : Int64 × St :=
  (x6_197, sR_197)
def b_R_held_56 (sR_56 : St) (p1 : Int32) (p2 : Int32) (p3 : Int32) (p4 : Int32) (x5_56 : Int32) : Int64 × St :=
  (b_R_held_197 (wl (g_R_held_66 p1 p2 p3 p4 x5_56) 6562 ((m_R_keep sR_56), 0, 0)).1 (wl (g_R_held_66 p1 p2 p3 p4 x5_56) 6562 ((m_R_keep sR_56), 0, 0)).2.1)
def m_R_held (sR : St) (p1 : Int32) (p2 : Int32) (p3 : Int32) (p4 : Int32) : Int64 × St :=
  (if (m_R_isCell sR p1 p2) = 0 then ((-1), sR)
  else (if (m_R_isForce p3) = 0 then ((-1), sR)
  else (if (m_R_in p4 1 4) = 0 then ((-1), sR)
  else (b_R_held_56 sR p1 p2 p3 p4 (wl (g_R_held_36 sR p4) 5 (1, 0)).1))))
def m_R_wound (sR : St)  : Int32 × St :=
  (if (sR 0 13) = 0 then (1, (up sR 0 13 1))
  else ((-2), sR))
def m_R_sling (sR : St)  : Int32 × St :=
  (if (sR 0 13) = 1 then (2, (up sR 0 13 2))
  else ((-2), sR))
def m_R_near (sR : St) (p1 : Int32) : Int32 × St :=
  (if (m_R_in p1 0 200) = 0 then ((-1), sR)
  else (if (sR 0 13) < 2 then ((sR 0 13), sR)
  else (if p1 = 0 then (3, (up sR 0 13 3))
  else (2, (up sR 0 13 2)))))
def m_R_loose (sR : St) (p1 : Int32) (p2 : Int32) (p3 : Int32) : Int32 × St :=
  (if (m_R_isCell sR p1 p2) = 0 then ((-1), sR)
  else (if (m_R_in p3 0 2000) = 0 then ((-1), sR)
  else (if (sR 0 13) = 3 then (if (sR 16 1) = 0 then ((-2), sR)
  else (if ((m_R_step (up (up (up sR 0 13 0) 16 1 ((sR 16 1) - 1)) 0 14 ((sR 0 14) + 1)) (sR 1 3) (sR 1 4)) 0 25) = (-9) then ((-3), (m_R_step (up (up (up sR 0 13 0) 16 1 ((sR 16 1) - 1)) 0 14 ((sR 0 14) + 1)) (sR 1 3) (sR 1 4)))
  else (if 5 < (m_R_size (((m_R_step (up (up (up sR 0 13 0) 16 1 ((sR 16 1) - 1)) 0 14 ((sR 0 14) + 1)) (sR 1 3) (sR 1 4)) 0 25) - p3)) then (((m_R_step (up (up (up sR 0 13 0) 16 1 ((sR 16 1) - 1)) 0 14 ((sR 0 14) + 1)) (sR 1 3) (sR 1 4)) 0 25), (m_R_step (up (up (up sR 0 13 0) 16 1 ((sR 16 1) - 1)) 0 14 ((sR 0 14) + 1)) (sR 1 3) (sR 1 4)))
  else (if (((((m_R_step (up (up (up sR 0 13 0) 16 1 ((sR 16 1) - 1)) 0 14 ((sR 0 14) + 1)) (sR 1 3) (sR 1 4)) 1 7) * ((m_R_step (up (up (up sR 0 13 0) 16 1 ((sR 16 1) - 1)) 0 14 ((sR 0 14) + 1)) (sR 1 3) (sR 1 4)) 0 25)) / 500) + 1) ≤ 99 then (((m_R_strike (m_R_step (up (up (up sR 0 13 0) 16 1 ((sR 16 1) - 1)) 0 14 ((sR 0 14) + 1)) (sR 1 3) (sR 1 4)) p1 p2 (((((m_R_step (up (up (up sR 0 13 0) 16 1 ((sR 16 1) - 1)) 0 14 ((sR 0 14) + 1)) (sR 1 3) (sR 1 4)) 1 7) * ((m_R_step (up (up (up sR 0 13 0) 16 1 ((sR 16 1) - 1)) 0 14 ((sR 0 14) + 1)) (sR 1 3) (sR 1 4)) 0 25)) / 500) + 1)).2 0 25), (m_R_strike (m_R_step (up (up (up sR 0 13 0) 16 1 ((sR 16 1) - 1)) 0 14 ((sR 0 14) + 1)) (sR 1 3) (sR 1 4)) p1 p2 (((((m_R_step (up (up (up sR 0 13 0) 16 1 ((sR 16 1) - 1)) 0 14 ((sR 0 14) + 1)) (sR 1 3) (sR 1 4)) 1 7) * ((m_R_step (up (up (up sR 0 13 0) 16 1 ((sR 16 1) - 1)) 0 14 ((sR 0 14) + 1)) (sR 1 3) (sR 1 4)) 0 25)) / 500) + 1)).2)
  else (((m_R_strike (m_R_step (up (up (up sR 0 13 0) 16 1 ((sR 16 1) - 1)) 0 14 ((sR 0 14) + 1)) (sR 1 3) (sR 1 4)) p1 p2 99).2 0 25), (m_R_strike (m_R_step (up (up (up sR 0 13 0) 16 1 ((sR 16 1) - 1)) 0 14 ((sR 0 14) + 1)) (sR 1 3) (sR 1 4)) p1 p2 99).2)))))
  else ((-2), sR))))
def m_R_store (sR : St) (p1 : Int32) (p2 : Int32) : Int32 × St :=
  (if p1 = 0 then (if p1 = 0 then (if (m_R_in p1 0 4) = 0 then ((-1), sR)
  else (if (m_R_in p2 1 200) = 0 then ((-1), sR)
  else ((sR 16 (Int32.toNatClampNeg p1)), (up sR 16 (Int32.toNatClampNeg p1) p2))))
  else (if p1 = 4 then (if (m_R_in p1 0 4) = 0 then ((-1), sR)
  else (if (m_R_in p2 1 200) = 0 then ((-1), sR)
  else ((sR 16 (Int32.toNatClampNeg p1)), (up sR 16 (Int32.toNatClampNeg p1) p2))))
  else (if (m_R_in p1 0 4) = 0 then ((-1), sR)
  else (if (m_R_in p2 1 9999) = 0 then ((-1), sR)
  else ((sR 16 (Int32.toNatClampNeg p1)), (up sR 16 (Int32.toNatClampNeg p1) p2))))))
  else (if p1 = 4 then (if p1 = 0 then (if (m_R_in p1 0 4) = 0 then ((-1), sR)
  else (if (m_R_in p2 1 200) = 0 then ((-1), sR)
  else ((sR 16 (Int32.toNatClampNeg p1)), (up sR 16 (Int32.toNatClampNeg p1) p2))))
  else (if p1 = 4 then (if (m_R_in p1 0 4) = 0 then ((-1), sR)
  else (if (m_R_in p2 1 200) = 0 then ((-1), sR)
  else ((sR 16 (Int32.toNatClampNeg p1)), (up sR 16 (Int32.toNatClampNeg p1) p2))))
  else (if (m_R_in p1 0 4) = 0 then ((-1), sR)
  else (if (m_R_in p2 1 9999) = 0 then ((-1), sR)
  else ((sR 16 (Int32.toNatClampNeg p1)), (up sR 16 (Int32.toNatClampNeg p1) p2))))))
  else (if p1 = 0 then (if (m_R_in p1 0 4) = 0 then ((-1), sR)
  else (if (m_R_in p2 0 200) = 0 then ((-1), sR)
  else ((sR 16 (Int32.toNatClampNeg p1)), (up sR 16 (Int32.toNatClampNeg p1) p2))))
  else (if p1 = 4 then (if (m_R_in p1 0 4) = 0 then ((-1), sR)
  else (if (m_R_in p2 0 200) = 0 then ((-1), sR)
  else ((sR 16 (Int32.toNatClampNeg p1)), (up sR 16 (Int32.toNatClampNeg p1) p2))))
  else (if (m_R_in p1 0 4) = 0 then ((-1), sR)
  else (if (m_R_in p2 0 9999) = 0 then ((-1), sR)
  else ((sR 16 (Int32.toNatClampNeg p1)), (up sR 16 (Int32.toNatClampNeg p1) p2))))))))
def m_R_wet (sR : St) (p1 : Int32) (p2 : Int32) : Int32 × St :=
  (if (m_R_in p1 1 20) = 0 then ((-1), sR)
  else (if (m_R_in p2 0 ((1 <<< (p1 &&& 31)) - 1)) = 0 then ((-1), sR)
  else (p1, (up (up sR 0 16 p1) 0 17 p2))))
def f_R_lastsBy_147 (sR : St) (p1 : Int32) (x8_147 : Int32) (x9_147 : Int32) (x2_147 : Int32) (x3_147 : Int32) (x5_147 : Int32) (x10_147 : Int32) (x11_147 : Int32) (x12_147 : Int32) : Option (Int32 × Int32 × Int32 × Int32 × Int32 × Int32) :=
  (if p1 ≤ x12_147 then none
  else (if x11_147 = 0 then none
  else (if x10_147 < x9_147 then (if x8_147 = 0 then some ((x2_147 + (-1)), x3_147, (x5_147 + 1), (x10_147 - x9_147), 0, (x12_147 + 1))
  else some ((x2_147 + (-1)), x3_147, (x5_147 + 2), (x10_147 - x9_147), 0, (x12_147 + 1)))
  else (if x2_147 ≤ 0 then (if x8_147 = 0 then some ((x2_147 + (-1)), x3_147, (x5_147 + 1), (x10_147 - x9_147), 0, (x12_147 + 1))
  else some ((x2_147 + (-1)), x3_147, (x5_147 + 2), (x10_147 - x9_147), 0, (x12_147 + 1)))
  else (if x8_147 = 0 then (if (x5_147 + 1) < (sR 16 4) then some ((x2_147 + (-1)), x3_147, (x5_147 + 1), (x10_147 - x9_147), 1, (x12_147 + 1))
  else (if x3_147 < 3 then some ((x2_147 + (-1)), (x3_147 + (-3)), 0, (x10_147 - x9_147), 0, (x12_147 + 1))
  else some ((x2_147 + (-1)), (x3_147 + (-3)), 0, (x10_147 - x9_147), 1, (x12_147 + 1))))
  else (if (x5_147 + 2) < (sR 16 4) then some ((x2_147 + (-1)), x3_147, (x5_147 + 2), (x10_147 - x9_147), 1, (x12_147 + 1))
  else (if x3_147 < 3 then some ((x2_147 + (-1)), (x3_147 + (-3)), 0, (x10_147 - x9_147), 0, (x12_147 + 1))
  else some ((x2_147 + (-1)), (x3_147 + (-3)), 0, (x10_147 - x9_147), 1, (x12_147 + 1)))))))))
def g_R_lastsBy_147 (sR : St) (p1 : Int32) (x8_147 : Int32) (x9_147 : Int32) : Int32 × Int32 × Int32 × Int32 × Int32 × Int32 → Option (Int32 × Int32 × Int32 × Int32 × Int32 × Int32) := fun v => f_R_lastsBy_147 sR p1 x8_147 x9_147 v.1 v.2.1 v.2.2.1 v.2.2.2.1 v.2.2.2.2.1 v.2.2.2.2.2
def b_R_lastsBy_241 (sR : St) (p1 : Int32) (x2_241 : Int32) (x3_241 : Int32) (x4_241 : Int32) (x5_241 : Int32) (x6_51 : Int32) (x7_241 : Int32) (x11_241 : Int32) : (Int32 × Int32 × Int32 × Int32 × Int32) ⊕ (Int32) :=
  (if x11_241 = 0 then .inr x7_241
  else .inl (x2_241, x3_241, x4_241, x5_241, (x7_241 + 1)))
def f_R_lastsBy_51 (sR : St) (p1 : Int32) (x6_51 : Int32) (x2_51 : Int32) (x3_51 : Int32) (x4_51 : Int32) (x5_51 : Int32) (x7_51 : Int32) : (Int32 × Int32 × Int32 × Int32 × Int32) ⊕ (Int32) :=
  (if 100 ≤ x7_51 then .inr 100
  else (if (((sR 0 17) >>> ((x7_51 - x7_51 / (sR 0 16) * (sR 0 16)) &&& 31)) &&& 1) = 1 then (if x4_51 < (sR 16 0) then (b_R_lastsBy_241 sR p1 (wl (g_R_lastsBy_147 sR p1 1 (x6_51 + ((x6_51 + 3) / 4))) 61 (x2_51, x3_51, x5_51, (30 * (sR 16 0)), 0, 0)).1 (wl (g_R_lastsBy_147 sR p1 1 (x6_51 + ((x6_51 + 3) / 4))) 61 (x2_51, x3_51, x5_51, (30 * (sR 16 0)), 0, 0)).2.1 (x4_51 - (sR 16 0)) (wl (g_R_lastsBy_147 sR p1 1 (x6_51 + ((x6_51 + 3) / 4))) 61 (x2_51, x3_51, x5_51, (30 * (sR 16 0)), 0, 0)).2.2.1 x6_51 x7_51 (wl (g_R_lastsBy_147 sR p1 1 (x6_51 + ((x6_51 + 3) / 4))) 61 (x2_51, x3_51, x5_51, (30 * (sR 16 0)), 0, 0)).2.2.2.2.1)
  else (b_R_lastsBy_241 sR p1 (wl (g_R_lastsBy_147 sR p1 1 (x6_51 + ((x6_51 + 3) / 4))) 61 (x2_51, x3_51, x5_51, (30 * (sR 16 0)), 1, 0)).1 (wl (g_R_lastsBy_147 sR p1 1 (x6_51 + ((x6_51 + 3) / 4))) 61 (x2_51, x3_51, x5_51, (30 * (sR 16 0)), 1, 0)).2.1 (x4_51 - (sR 16 0)) (wl (g_R_lastsBy_147 sR p1 1 (x6_51 + ((x6_51 + 3) / 4))) 61 (x2_51, x3_51, x5_51, (30 * (sR 16 0)), 1, 0)).2.2.1 x6_51 x7_51 (wl (g_R_lastsBy_147 sR p1 1 (x6_51 + ((x6_51 + 3) / 4))) 61 (x2_51, x3_51, x5_51, (30 * (sR 16 0)), 1, 0)).2.2.2.2.1))
  else (if x4_51 < (sR 16 0) then (b_R_lastsBy_241 sR p1 (wl (g_R_lastsBy_147 sR p1 0 x6_51) 61 (x2_51, x3_51, x5_51, (30 * (sR 16 0)), 0, 0)).1 (wl (g_R_lastsBy_147 sR p1 0 x6_51) 61 (x2_51, x3_51, x5_51, (30 * (sR 16 0)), 0, 0)).2.1 (x4_51 - (sR 16 0)) (wl (g_R_lastsBy_147 sR p1 0 x6_51) 61 (x2_51, x3_51, x5_51, (30 * (sR 16 0)), 0, 0)).2.2.1 x6_51 x7_51 (wl (g_R_lastsBy_147 sR p1 0 x6_51) 61 (x2_51, x3_51, x5_51, (30 * (sR 16 0)), 0, 0)).2.2.2.2.1)
  else (b_R_lastsBy_241 sR p1 (wl (g_R_lastsBy_147 sR p1 0 x6_51) 61 (x2_51, x3_51, x5_51, (30 * (sR 16 0)), 1, 0)).1 (wl (g_R_lastsBy_147 sR p1 0 x6_51) 61 (x2_51, x3_51, x5_51, (30 * (sR 16 0)), 1, 0)).2.1 (x4_51 - (sR 16 0)) (wl (g_R_lastsBy_147 sR p1 0 x6_51) 61 (x2_51, x3_51, x5_51, (30 * (sR 16 0)), 1, 0)).2.2.1 x6_51 x7_51 (wl (g_R_lastsBy_147 sR p1 0 x6_51) 61 (x2_51, x3_51, x5_51, (30 * (sR 16 0)), 1, 0)).2.2.2.2.1))))
def g_R_lastsBy_51 (sR : St) (p1 : Int32) (x6_51 : Int32) : Int32 × Int32 × Int32 × Int32 × Int32 → (Int32 × Int32 × Int32 × Int32 × Int32) ⊕ (Int32) := fun v => f_R_lastsBy_51 sR p1 x6_51 v.1 v.2.1 v.2.2.1 v.2.2.2.1 v.2.2.2.2
def m_R_lastsBy (sR : St) (p1 : Int32) : Int32 :=
  (wc (g_R_lastsBy_51 sR p1 ((((sR 1 2) * (sR 1 0)) + 999) / 1000)) 0 101 ((sR 16 1), (sR 16 2), (sR 16 3), 0, 0))
def m_R_lasts (sR : St) (p1 : Int32) : Int32 :=
  (if (m_R_in p1 0 60) = 0 then (-1)
  else (m_R_lastsBy sR p1))
def f_R_rate_15 (sR : St) (p1 : Int32) (x2_15 : Int32) : (Int32) ⊕ (Int32) :=
  (if x2_15 < 0 then .inr (-9)
  else (if (m_R_lastsBy sR x2_15) < p1 then .inl (x2_15 + (-1))
  else .inr x2_15))
def g_R_rate_15 (sR : St) (p1 : Int32) : Int32 → (Int32) ⊕ (Int32) := fun v => f_R_rate_15 sR p1 v
def m_R_rate (sR : St) (p1 : Int32) : Int32 :=
  (if (m_R_in p1 1 100) = 0 then (-1)
  else (wc (g_R_rate_15 sR p1) 0 62 60))
def f_R_count_65 (sR : St)  (x2_65 : Int32) (x3_65 : Int32) : Option (Int32 × Int32) :=
  (if (sR 0 6) ≤ x3_65 then none
  else some ((x2_65 + (m_R_standing sR x3_65)), (x3_65 + 1)))
def g_R_count_65 (sR : St)  : Int32 × Int32 → Option (Int32 × Int32) := fun v => f_R_count_65 sR v.1 v.2
def f_R_count_108 (sR : St)  (x2_108 : Int32) (x3_108 : Int32) : Option (Int32 × Int32) :=
  (if (sR 0 6) ≤ x3_108 then none
  else (if (sR 0 11) < (m_R_standing sR x3_108) then some ((x2_108 + 0), (x3_108 + 1))
  else some ((x2_108 + 1), (x3_108 + 1))))
def g_R_count_108 (sR : St)  : Int32 × Int32 → Option (Int32 × Int32) := fun v => f_R_count_108 sR v.1 v.2
def b_R_count_142 (sR : St) (x2_142 : Int32) : Int32 :=
  x2_142
def b_R_count_87 (sR : St) (x2_87 : Int32) : Int32 :=
  x2_87
def m_R_count (sR : St) (p1 : Int32) : Int32 :=
  (if p1 = 0 then (sR 0 13)
  else (if p1 = 1 then (sR 0 6)
  else (if p1 = 2 then (sR 0 7)
  else (if p1 = 3 then (b_R_count_87 sR (wl (g_R_count_65 sR) 9 (0, 0)).1)
  else (if p1 = 4 then (sR 0 3)
  else (if p1 = 5 then (sR 0 14)
  else (if p1 = 6 then (sR 16 1)
  else (if p1 = 7 then (b_R_count_142 sR (wl (g_R_count_108 sR) 9 (0, 0)).1)
  else (-1)))))))))
def m_R_trace (sR : St) (vR : Int64)  : Int64 :=
  vR
end
section
/-! facts of the models that the walks lean on: bounds and frames -/
theorem lg_nz {y : Int64} (h : ¬ lg_cmp y 0 ≤ 0) : ¬ y = 0 := fun e => h (by rw [e]; decide)
theorem within_t {v a b : Int32} (h : ¬ m_T_within v a b = 0) : a.toInt ≤ v.toInt ∧ v.toInt ≤ b.toInt := by
  unfold m_T_within at h
  split at h
  · exact absurd rfl h
  · split at h
    · exact absurd rfl h
    · rename_i h1 h2
      exact ⟨nlt_t h1, nlt_t h2⟩
theorem in_t {v a b : Int32} (h : ¬ m_R_in v a b = 0) : a.toInt ≤ v.toInt ∧ v.toInt ≤ b.toInt := by
  unfold m_R_in at h
  split at h
  · exact absurd rfl h
  · split at h
    · exact absurd rfl h
    · rename_i h1 h2
      exact ⟨nlt_t h1, nlt_t h2⟩
theorem takes_t {s : St} {v a : Int32} (h : ¬ m_M_takes s v a = 0) : 0 ≤ v.toInt ∧ v.toInt ≤ 8 := by
  unfold m_M_takes at h
  split at h
  · exact absurd rfl h
  · rename_i h1
    exact within_t h1
theorem stakes_t {s : St} {v a : Int32} (h : ¬ m_S_takes s v a = 0) : 0 ≤ v.toInt ∧ v.toInt ≤ 4 := by
  unfold m_S_takes at h
  split at h
  · exact absurd rfl h
  · rename_i h1
    exact within_t h1
theorem has_t {s : St} {x y : Int32} (h : ¬ m_L_has s x y = 0) : 0 ≤ x.toInt ∧ x.toInt < (s 0 4).toInt ∧ 0 ≤ y.toInt ∧ y.toInt < (s 0 5).toInt := by
  unfold m_L_has at h
  repeat' split at h
  all_goals first
    | exact absurd rfl h
    | (rename_i h1 h2 h3 h4
       have := nlt_t h1
       have := nle_t h2
       have := nlt_t h3
       have := nle_t h4
       have e : (0 : Int32).toInt = 0 := rfl
       omega)
theorem stands_t {s : St} {x y : Int32} (h : ¬ m_L_stands s x y = 0) : 0 ≤ x.toInt ∧ x.toInt < (s 0 4).toInt ∧ 0 ≤ y.toInt ∧ y.toInt < (s 0 5).toInt := by
  unfold m_L_stands at h
  split at h
  · exact absurd rfl h
  · rename_i h1
    exact has_t h1
theorem iscell_t {s : St} {x y : Int32} (h : ¬ m_R_isCell s x y = 0) (h6 : 1 ≤ (s 0 6).toInt) (h7 : 1 ≤ (s 0 7).toInt) : 0 ≤ x.toInt ∧ x.toInt < (s 0 6).toInt ∧ 0 ≤ y.toInt ∧ y.toInt < (s 0 7).toInt := by
  have e1 : (1 : Int32).toInt = 1 := rfl
  have r1 := t_rng (s 0 6)
  have r2 := t_rng (s 0 7)
  have d1 : (s 0 6 - 1).toInt = (s 0 6).toInt - 1 := t_sub (by omega) (by omega)
  have d2 : (s 0 7 - 1).toInt = (s 0 7).toInt - 1 := t_sub (by omega) (by omega)
  have e0 : (0 : Int32).toInt = 0 := rfl
  unfold m_R_isCell at h
  split at h
  · exact absurd rfl h
  · split at h
    · exact absurd rfl h
    · rename_i h1 h2
      have := in_t h1
      have := in_t h2
      omega
def okL (s : St) : Prop := 1 ≤ (s 0 4).toInt ∧ (s 0 4).toInt ≤ 8 ∧ 1 ≤ (s 0 5).toInt ∧ (s 0 5).toInt ≤ 6
theorem okL_lin {s : St} (h : okL s) : 1 ≤ (s 0 4).toInt ∧ (s 0 4).toInt ≤ 8 ∧ 1 ≤ (s 0 5).toInt ∧ (s 0 5).toInt ≤ 6 := h
def okB (s : St) : Prop := (0 ≤ (s 0 5).toInt ∧ (s 0 5).toInt ≤ 16) ∧ ∀ i, i < 16 → 0 ≤ (s 2 i).toInt ∧ (s 2 i).toInt ≤ 60
theorem okB_lin {s : St} (h : okB s) : 0 ≤ (s 0 5).toInt ∧ (s 0 5).toInt ≤ 16 := h.1
theorem okB_h {s : St} (h : okB s) {i : Int32} (h1 : 0 ≤ i.toInt) (h2 : i.toInt < (s 0 5).toInt) : 0 ≤ (s 2 (Int32.toNatClampNeg i)).toInt ∧ (s 2 (Int32.toNatClampNeg i)).toInt ≤ 60 := by
  refine h.2 _ ?_
  have := h.1
  have e : (Int32.toNatClampNeg i : Int) = i.toInt := by
    show ((i.toInt.toNat : Nat) : Int) = i.toInt
    omega
  omega
theorem place_t {x y : Int32} (h : -1000 ≤ x.toInt ∧ x.toInt ≤ 1000 ∧ -1000 ≤ y.toInt ∧ y.toInt ≤ 1000) : (m_L_place x y).toInt = x.toInt * 6 + y.toInt := by
  have e : (6 : Int32).toInt = 6 := rfl
  unfold m_L_place
  have m1 : (x * 6).toInt = x.toInt * 6 := by
    rw [t_mul (by rw [e]; omega) (by rw [e]; omega), e]
  rw [t_add (by rw [m1]; omega) (by rw [m1]; omega), m1]
theorem weightPlace_t {x y : Int32} (h : -1000 ≤ x.toInt ∧ x.toInt ≤ 1000 ∧ -1000 ≤ y.toInt ∧ y.toInt ≤ 1000) : (m_L_weightPlace x y).toInt = 4 + x.toInt + 3 * y.toInt := by
  have e : (4 : Int32).toInt = 4 := rfl
  have e3 : (3 : Int32).toInt = 3 := rfl
  unfold m_L_weightPlace
  have m1 : (4 + x).toInt = 4 + x.toInt := by
    rw [t_add (by rw [e]; omega) (by rw [e]; omega), e]
  have m2 : (3 * y).toInt = 3 * y.toInt := by
    rw [t_mul (by rw [e3]; omega) (by rw [e3]; omega), e3]
  rw [t_add (by rw [m1, m2]; omega) (by rw [m1, m2]; omega), m1, m2]
theorem wl_inv {σ : Type} {f : σ → Option σ} {P : σ → Prop} (hf : ∀ s t, f s = some t → P s → P t) : ∀ (n : Nat) (s : σ), P s → P (wl f n s)
  | 0, s, h => by rw [wl_zero]; exact h
  | n + 1, s, h => by
    cases e : f s with
    | none => rw [wl_none e]; exact h
    | some t => rw [wl_some e]; exact wl_inv hf n t (hf s t e h)
theorem up_ne {s : St} {k i k' : Nat} {x : Int32} (h : k' ≠ k) : up s k i x k' = s k' := by simp only [up, if_neg h]
theorem up_eq {s : St} {k i : Nat} {x : Int32} : up s k i x k = upd (s k) i x := by simp only [up, if_true]
theorem up_get {s : St} {k i : Nat} {x : Int32} : up s k i x k i = x := by simp [up, upd]
theorem TR_t {s : St} {a b : Int32} : 1 ≤ (m_M_turnOfRelease s a b).toInt ∧ (m_M_turnOfRelease s a b).toInt ≤ 161 := by
  unfold m_M_turnOfRelease
  split
  · decide
  · split
    · decide
    · rename_i h1 h2
      rw [lg_cmp_lt] at h1
      rw [lg_cmp_gt] at h2
      generalize m_T_up ((100 + b.toInt64) * 2 * a.toInt64) ((s 1 1).toInt64 + 2 * a.toInt64) = z at h1 h2 ⊢
      rw [Int64.lt_iff_toInt_lt] at h1 h2
      have e1 : (1 : Int64).toInt = 1 := rfl
      have e2 : (160 : Int64).toInt = 160 := rfl
      rw [Int64.toInt_toInt32, t_bmod (by omega) (by omega)]
      omega
theorem cl_0 : Int32.toNatClampNeg 0 = 0 := by decide +kernel
theorem cl_1 : Int32.toNatClampNeg 1 = 1 := by decide +kernel
theorem cl_2 : Int32.toNatClampNeg 2 = 2 := by decide +kernel
theorem cl_3 : Int32.toNatClampNeg 3 = 3 := by decide +kernel
theorem cl_4 : Int32.toNatClampNeg 4 = 4 := by decide +kernel
theorem cl_5 : Int32.toNatClampNeg 5 = 5 := by decide +kernel
theorem cl_6 : Int32.toNatClampNeg 6 = 6 := by decide +kernel
theorem cl_7 : Int32.toNatClampNeg 7 = 7 := by decide +kernel
theorem cl_8 : Int32.toNatClampNeg 8 = 8 := by decide +kernel
theorem okL_c1 {s : St} (h : okL s) : (s 0 4 - 1).toInt = (s 0 4).toInt - 1 := by
  obtain ⟨h1, h2, -, -⟩ := h
  have e := tl_1
  rw [t_sub (by rw [e]; omega) (by rw [e]; omega), e]
theorem shl_tab : ∀ n : Nat, n < 7 → ((1 : Int32) <<< (Int32.ofInt n &&& 31)).toInt = 2 ^ n := by decide +kernel
theorem i_ofInt {x : Int32} {n : Nat} (h : x.toInt = n) : x = Int32.ofInt n := by rw [← h, Int32.ofInt_toInt]
theorem okL_shl {s : St} (h : okL s) : ((1 : Int32) <<< (s 0 5 &&& 31)).toInt ≤ 64 ∧ 2 ≤ ((1 : Int32) <<< (s 0 5 &&& 31)).toInt := by
  obtain ⟨-, -, h1, h2⟩ := h
  obtain ⟨n, hn⟩ : ∃ n : Nat, (s 0 5).toInt = n := ⟨(s 0 5).toInt.toNat, by omega⟩
  rw [i_ofInt hn, shl_tab n (by omega)]
  have : n = 1 ∨ n = 2 ∨ n = 3 ∨ n = 4 ∨ n = 5 ∨ n = 6 := by omega
  rcases this with rfl | rfl | rfl | rfl | rfl | rfl <;> decide
theorem fr_B_bear {s : St} {a b c : Int32} {k j : Nat} (h : k ≠ 4 ∧ k ≠ 5) : m_B_bear s a b c k j = s k j := by
  unfold m_B_bear
  split
  · rw [up_ne h.2]
  · rw [up_ne h.2, up_ne h.1]
theorem okB_bear {s : St} {a b c : Int32} (h : okB s) : okB (m_B_bear s a b c) := by
  unfold okB
  rw [fr_B_bear (by decide)]
  exact ⟨h.1, fun i hi => by rw [fr_B_bear (by decide)]; exact h.2 i hi⟩
def okR (s : St) : Prop := ((5 ≤ (s 1 0).toInt ∧ (s 1 0).toInt ≤ 40 ∧ 20 ≤ (s 1 1).toInt ∧ (s 1 1).toInt ≤ 160 ∧ 100 ≤ (s 1 2).toInt ∧ (s 1 2).toInt ≤ 9000 ∧ 10 ≤ (s 1 3).toInt ∧ (s 1 3).toInt ≤ 160 ∧ 0 ≤ (s 1 4).toInt ∧ (s 1 4).toInt ≤ 60 ∧ 10 ≤ (s 1 5).toInt ∧ (s 1 5).toInt ≤ 60 ∧ 0 ≤ (s 1 6).toInt ∧ (s 1 6).toInt ≤ 900 ∧ 1 ≤ (s 1 7).toInt ∧ (s 1 7).toInt ≤ 300 ∧ 0 ≤ (s 1 8).toInt ∧ (s 1 8).toInt ≤ 2) ∧
  0 ≤ (s 0 3).toInt ∧ (s 0 3).toInt ≤ 16 ∧ 1 ≤ (s 0 6).toInt ∧ (s 0 6).toInt ≤ 8 ∧ 1 ≤ (s 0 7).toInt ∧ (s 0 7).toInt ≤ 6 ∧ 0 ≤ (s 0 11).toInt ∧ (s 0 11).toInt ≤ 2 ∧ 1 ≤ (s 0 16).toInt ∧ (s 0 16).toInt ≤ 20) ∧ ∀ i, i < 16 → 0 ≤ (s 5 i).toInt ∧ (s 5 i).toInt ≤ 60
theorem okR_lin {s : St} (h : okR s) : ((5 ≤ (s 1 0).toInt ∧ (s 1 0).toInt ≤ 40 ∧ 20 ≤ (s 1 1).toInt ∧ (s 1 1).toInt ≤ 160 ∧ 100 ≤ (s 1 2).toInt ∧ (s 1 2).toInt ≤ 9000 ∧ 10 ≤ (s 1 3).toInt ∧ (s 1 3).toInt ≤ 160 ∧ 0 ≤ (s 1 4).toInt ∧ (s 1 4).toInt ≤ 60 ∧ 10 ≤ (s 1 5).toInt ∧ (s 1 5).toInt ≤ 60 ∧ 0 ≤ (s 1 6).toInt ∧ (s 1 6).toInt ≤ 900 ∧ 1 ≤ (s 1 7).toInt ∧ (s 1 7).toInt ≤ 300 ∧ 0 ≤ (s 1 8).toInt ∧ (s 1 8).toInt ≤ 2) ∧
  0 ≤ (s 0 3).toInt ∧ (s 0 3).toInt ≤ 16 ∧ 1 ≤ (s 0 6).toInt ∧ (s 0 6).toInt ≤ 8 ∧ 1 ≤ (s 0 7).toInt ∧ (s 0 7).toInt ≤ 6 ∧ 0 ≤ (s 0 11).toInt ∧ (s 0 11).toInt ≤ 2 ∧ 1 ≤ (s 0 16).toInt ∧ (s 0 16).toInt ≤ 20) := h.1
theorem okR_fr {s t : St} (h : okR s) (h1 : t 1 = s 1) (h5 : t 5 = s 5) (h0 : ∀ j, j < 19 → t 0 j = s 0 j) : okR t := by
  unfold okR
  rw [h1, h5, h0 3 (by decide), h0 6 (by decide), h0 7 (by decide), h0 11 (by decide), h0 16 (by decide)]
  exact h
theorem l_rng (x : Int64) : -9223372036854775808 ≤ x.toInt ∧ x.toInt < 9223372036854775808 := by
  have h1 := Int64.minValue_le_toInt x
  have h2 := Int64.toInt_le x
  simp only [Int64.toInt_minValue, Int64.toInt_maxValue] at h1 h2
  omega
theorem l_bmod {z : Int} (h1 : -9223372036854775808 ≤ z) (h2 : z < 9223372036854775808) : z.bmod (2 ^ 64) = z := by
  rw [Int.bmod_def]
  split <;> omega
theorem l_add {x y : Int64} (h1 : -9223372036854775808 ≤ x.toInt + y.toInt) (h2 : x.toInt + y.toInt < 9223372036854775808) : (x + y).toInt = x.toInt + y.toInt := by
  rw [Int64.toInt_add]; exact l_bmod h1 h2
theorem l_sub {x y : Int64} (h1 : -9223372036854775808 ≤ x.toInt - y.toInt) (h2 : x.toInt - y.toInt < 9223372036854775808) : (x - y).toInt = x.toInt - y.toInt := by
  rw [Int64.toInt_sub]; exact l_bmod h1 h2
theorem l_mul {x y : Int64} (h1 : -9223372036854775808 ≤ x.toInt * y.toInt) (h2 : x.toInt * y.toInt < 9223372036854775808) : (x * y).toInt = x.toInt * y.toInt := by
  rw [Int64.toInt_mul]; exact l_bmod h1 h2
theorem mul_bd {a b A B : Int} (h1 : 0 ≤ a) (h2 : a ≤ A) (h3 : 0 ≤ b) (h4 : b ≤ B) : 0 ≤ a * b ∧ a * b ≤ A * B :=
  ⟨Int.mul_nonneg h1 h3, Int.mul_le_mul h2 h4 h3 (Int.le_trans h1 h2)⟩
theorem ld_nz {s : St} (h : okR s) {f : Int64} (h0 : 0 ≤ f.toInt) (h1 : f.toInt ≤ 200000) : ¬ ((Int32.toInt64 (s 1 2)) * (Int32.toInt64 (s 1 0)) * (Int32.toInt64 (s 1 0)) + (Int32.toInt64 (s 1 7)) * f) = 0 := by
  have n := okR_lin h
  intro e
  have e := congrArg Int64.toInt e
  have a1 := mul_bd (a := (s 1 2).toInt) (b := (s 1 0).toInt) (A := 9000) (B := 40) (by omega) (by omega) (by omega) (by omega)
  have m1 : ((Int32.toInt64 (s 1 2)) * (Int32.toInt64 (s 1 0))).toInt = (s 1 2).toInt * (s 1 0).toInt := by
    rw [l_mul] <;> simp only [Int32.toInt_toInt64] <;> omega
  have a2 := mul_bd (a := (s 1 2).toInt * (s 1 0).toInt) (b := (s 1 0).toInt) (A := 360000) (B := 40) (by omega) (by omega) (by omega) (by omega)
  have m2 : ((Int32.toInt64 (s 1 2)) * (Int32.toInt64 (s 1 0)) * (Int32.toInt64 (s 1 0))).toInt = (s 1 2).toInt * (s 1 0).toInt * (s 1 0).toInt := by
    rw [l_mul] <;> rw [m1] <;> simp only [Int32.toInt_toInt64] <;> omega
  have a3 := mul_bd (a := (s 1 7).toInt) (b := f.toInt) (A := 300) (B := 200000) (by omega) (by omega) (by omega) (by omega)
  have m3 : ((Int32.toInt64 (s 1 7)) * f).toInt = (s 1 7).toInt * f.toInt := by
    rw [l_mul] <;> simp only [Int32.toInt_toInt64] <;> omega
  rw [l_add (by rw [m2, m3]; omega) (by rw [m2, m3]; omega), m2, m3] at e
  have z : (0 : Int64).toInt = 0 := by decide
  rw [z] at e
  have p1 : 0 < (s 1 2).toInt * (s 1 0).toInt := Int.mul_pos (by omega) (by omega)
  have p2 : 0 < (s 1 2).toInt * (s 1 0).toInt * (s 1 0).toInt := Int.mul_pos p1 (by omega)
  omega
theorem far_b {s : St} (h : okR s) {a : Int32} (h0 : 10 ≤ a.toInt) (h1 : a.toInt ≤ 160) : 0 ≤ ((Int32.toInt64 ((s 1 1) + a)) * (Int32.toInt64 ((s 1 1) + a))).toInt ∧ ((Int32.toInt64 ((s 1 1) + a)) * (Int32.toInt64 ((s 1 1) + a))).toInt ≤ 200000 := by
  have n := okR_lin h
  have e : ((s 1 1) + a).toInt = (s 1 1).toInt + a.toInt := t_add (by omega) (by omega)
  have b := mul_bd (a := (s 1 1).toInt + a.toInt) (b := (s 1 1).toInt + a.toInt) (A := 320) (B := 320) (by omega) (by omega) (by omega) (by omega)
  rw [l_mul] <;> simp only [Int32.toInt_toInt64, e] <;> omega
theorem two_nz {a : Int32} (h : 10 ≤ a.toInt ∧ a.toInt ≤ 160) : ¬ 2 * a = 0 := by
  intro e
  have e := congrArg Int32.toInt e
  rw [t_mul (by rw [tl_2]; omega) (by rw [tl_2]; omega), tl_2, tl_0] at e
  omega
theorem up_other {s : St} {K i k j : Nat} {x : Int32} (h : k ≠ K ∨ j ≠ i) : up s K i x k j = s k j := by
  by_cases e : k = K
  · subst e
    rw [up_eq]
    have hj : j ≠ i := by omega
    simp [upd, hj]
  · rw [up_ne e]
theorem fr_wl {σ : Type} (pr : σ → St) {f : σ → Option σ} {C : Nat → Nat → Prop} (hf : ∀ s t, f s = some t → ∀ k j, C k j → pr t k j = pr s k j) (n : Nat) (s : σ) {k j : Nat} (h : C k j) : pr (wl f n s) k j = pr s k j :=
  wl_inv (P := fun v => ∀ k j, C k j → pr v k j = pr s k j) (fun a b e i k j c => (hf a b e k j c).trans (i k j c)) n s (fun _ _ _ => rfl) k j h
theorem fr_R_step {s : St} {a b : Int32} {k j : Nat} (h : k ≠ 0 ∨ j < 19 ∨ 25 < j) : m_R_step s a b k j = s k j := by
  have hl : ∀ n v, (wl (g_R_step_44 a b) n v).1 k j = v.1 k j := by
    intro n v
    refine fr_wl (fun v : St × Int32 => v.1) (C := fun k j => k ≠ 0 ∨ j < 19 ∨ 25 < j) ?_ n v h
    intro v t e k j hk
    unfold g_R_step_44 f_R_step_44 at e
    repeat' split at e
    all_goals (cases e <;> (try dsimp only) <;> (repeat rw [up_other (by omega)]))
  unfold m_R_step
  have hb : ∀ t, b_R_step_129 t a b k j = t k j := by
    intro t
    unfold b_R_step_129
    split
    · rfl
    · split
      · rw [up_other (by omega)]
      · unfold b_R_step_194 b_R_step_245 b_R_step_270 b_R_step_302
        split <;> (repeat rw [up_other (by omega)])
  rw [hb, hl]
  dsimp only
  repeat rw [up_other (by omega)]
theorem okR_step {s : St} {a b : Int32} (h : okR s) : okR (m_R_step s a b) :=
  okR_fr h (funext fun j => fr_R_step (by omega)) (funext fun j => fr_R_step (by omega)) (fun j hj => fr_R_step (by omega))
theorem fr_R_keep {s : St} {k j : Nat} (h : k ≠ 29 ∧ k ≠ 30 ∧ k ≠ 31) : m_R_keep s k j = s k j := by
  unfold m_R_keep b_R_keep_50
  refine (fr_wl (fun v : St × Int32 => v.1) (C := fun k j => k ≠ 29 ∧ k ≠ 30 ∧ k ≠ 31) ?_ _ _ h)
  intro v t e k j hk
  unfold g_R_keep_2 f_R_keep_2 at e
  repeat' split at e
  all_goals (cases e <;> (try dsimp only) <;> (repeat rw [up_other (by omega)]))
theorem fr_R_giveBack {s : St} {k j : Nat} (h : k ≠ 9 ∧ k ≠ 10 ∧ k ≠ 11) : m_R_giveBack s k j = s k j := by
  unfold m_R_giveBack b_R_giveBack_50
  refine (fr_wl (fun v : St × Int32 => v.1) (C := fun k j => k ≠ 9 ∧ k ≠ 10 ∧ k ≠ 11) ?_ _ _ h)
  intro v t e k j hk
  unfold g_R_giveBack_2 f_R_giveBack_2 at e
  repeat' split at e
  all_goals (cases e <;> (try dsimp only) <;> (repeat rw [up_other (by omega)]))
theorem fr_R_strike {s : St} {x y f : Int32} {k j : Nat} (h : k ≠ 9 ∧ k ≠ 10 ∧ k ≠ 11) : (m_R_strike s x y f).2 k j = s k j := by
  have hl : ∀ n v, (wl (g_R_strike_83 x) n v).1 k j = v.1 k j := by
    intro n v
    refine fr_wl (fun v : St × Int32 × Int32 => v.1) (C := fun k j => k ≠ 9 ∧ k ≠ 10 ∧ k ≠ 11) ?_ n v h
    intro v t e k j hk
    unfold g_R_strike_83 f_R_strike_83 at e
    repeat' split at e
    all_goals (cases e <;> (try dsimp only) <;> (repeat rw [up_other (by omega)]))
  unfold m_R_strike b_R_strike_156
  repeat' split
  all_goals first
    | rfl
    | (dsimp only; rw [hl]; dsimp only; repeat rw [up_other (by omega)])
theorem okR_keep {s : St} (h : okR s) : okR (m_R_keep s) :=
  okR_fr h (funext fun j => fr_R_keep (by omega)) (funext fun j => fr_R_keep (by omega)) (fun j hj => fr_R_keep (by omega))
theorem okR_giveBack {s : St} (h : okR s) : okR (m_R_giveBack s) :=
  okR_fr h (funext fun j => fr_R_giveBack (by omega)) (funext fun j => fr_R_giveBack (by omega)) (fun j hj => fr_R_giveBack (by omega))
theorem okR_strike {s : St} {x y f : Int32} (h : okR s) : okR (m_R_strike s x y f).2 :=
  okR_fr h (funext fun j => fr_R_strike (by omega)) (funext fun j => fr_R_strike (by omega)) (fun j hj => fr_R_strike (by omega))
theorem fr_R_cheaper {s : St} {a v : Int32} {k j : Nat} (h : k ≠ 33) : m_R_cheaper s a v k j = s k j := by
  unfold m_R_cheaper
  repeat' split
  all_goals first
    | rfl
    | (repeat rw [up_other (by omega)])
theorem okR_cheaper {s : St} {a v : Int32} (h : okR s) : okR (m_R_cheaper s a v) :=
  okR_fr h (funext fun j => fr_R_cheaper (by omega)) (funext fun j => fr_R_cheaper (by omega)) (fun j hj => fr_R_cheaper (by omega))
theorem takes3_t {s : St} {a : Int32} (h : ¬ m_M_takes s 3 a = 0) : 10 ≤ a.toInt ∧ a.toInt ≤ 160 := by
  have e1 : (zML (Int32.toNatClampNeg 3)).toInt = 10 := by decide +kernel
  have e2 : (zMM (Int32.toNatClampNeg 3)).toInt = 160 := by decide +kernel
  unfold m_M_takes at h
  split at h
  · exact absurd rfl h
  · split at h
    · exact absurd rfl h
    · rename_i h2
      have := within_t h2
      rw [e1, e2] at this
      exact this
theorem okL_mul {s : St} (h : okL s) : 1 ≤ (s 0 4 * s 0 5).toInt ∧ (s 0 4 * s 0 5).toInt ≤ 48 := by
  have n := okL_lin h
  have b := mul_bd (a := (s 0 4).toInt) (b := (s 0 5).toInt) (A := 8) (B := 6) (by omega) (by omega) (by omega) (by omega)
  have p : 0 < (s 0 4).toInt * (s 0 5).toInt := Int.mul_pos (by omega) (by omega)
  rw [t_mul (by omega) (by omega)]
  omega
theorem okR_mul {s : St} (h : okR s) : 1 ≤ (s 0 6 * s 0 7).toInt ∧ (s 0 6 * s 0 7).toInt ≤ 48 := by
  have n := okR_lin h
  have b := mul_bd (a := (s 0 6).toInt) (b := (s 0 7).toInt) (A := 8) (B := 6) (by omega) (by omega) (by omega) (by omega)
  have p : 0 < (s 0 6).toInt * (s 0 7).toInt := Int.mul_pos (by omega) (by omega)
  rw [t_mul (by omega) (by omega)]
  omega
end
section
set_option maxRecDepth 100000 in
theorem fr_R_findLeft {s : St} {k j : Nat} (h : (k ≠ 0 ∨ j < 19 ∨ 25 < j) ∧ k ≠ 27 ∧ k ≠ 28) : (m_R_findLeft s).2 k j = s k j := by
  have h2 : ∀ n v, (wl g_R_findLeft_2 n v).1 k j = v.1 k j := by
    intro n v
    refine fr_wl (fun v : St × Int32 => v.1) (C := fun k j => (k ≠ 0 ∨ j < 19 ∨ 25 < j) ∧ k ≠ 27 ∧ k ≠ 28) ?_ n v h
    intro v t e k j hk
    unfold g_R_findLeft_2 f_R_findLeft_2 at e
    repeat' split at e
    all_goals (cases e <;> (try dsimp only) <;> (repeat rw [up_other (by omega)]) <;> (try rw [fr_R_step (by omega)]))
  have h55 : ∀ x n v k j, ((k ≠ 0 ∨ j < 19 ∨ 25 < j) ∧ k ≠ 27 ∧ k ≠ 28) → (wl (g_R_findLeft_55 x) n v).1 k j = v.1 k j := by
    intro x n v k j h
    refine fr_wl (fun v : St × Int32 => v.1) (C := fun k j => (k ≠ 0 ∨ j < 19 ∨ 25 < j) ∧ k ≠ 27 ∧ k ≠ 28) ?_ n v h
    intro v t e k j hk
    unfold g_R_findLeft_55 f_R_findLeft_55 at e
    repeat' split at e
    all_goals (cases e <;> (try dsimp only) <;> (repeat rw [up_other (by omega)]))
  have h39 : ∀ n v, (wl g_R_findLeft_39 n v).1 k j = v.1 k j := by
    intro n v
    refine fr_wl (fun v : St × Int32 × Int32 => v.1) (C := fun k j => (k ≠ 0 ∨ j < 19 ∨ 25 < j) ∧ k ≠ 27 ∧ k ≠ 28) ?_ n v h
    intro v t e k j hk
    unfold g_R_findLeft_39 f_R_findLeft_39 at e
    split at e
    · cases e
    · unfold b_R_findLeft_128 at e
      cases e
      dsimp only
      rw [h55 _ _ _ _ _ hk]
      dsimp only
      rw [up_other (by omega)]
  unfold m_R_findLeft b_R_findLeft_35 b_R_findLeft_143
  dsimp only
  rw [h39]
  dsimp only
  rw [h2]
theorem okR_findLeft {s : St} (h : okR s) : okR (m_R_findLeft s).2 :=
  okR_fr h (funext fun j => fr_R_findLeft (by omega)) (funext fun j => fr_R_findLeft (by omega)) (fun j hj => fr_R_findLeft (by omega))
theorem fr_R_worthOf {s : St} {x y f : Int32} {k j : Nat} (h : (k ≠ 9 ∧ k ≠ 10 ∧ k ≠ 11) ∧ k ≠ 29 ∧ k ≠ 30 ∧ k ≠ 31) : (m_R_worthOf s x y f).2 k j = s k j := by
  have hl : ∀ n v, (wl (g_R_worthOf_10 x y f) n v).1 k j = v.1 k j := by
    intro n v
    refine fr_wl (fun v : St × Int32 × Int32 => v.1) (C := fun k j => (k ≠ 9 ∧ k ≠ 10 ∧ k ≠ 11) ∧ k ≠ 29 ∧ k ≠ 30 ∧ k ≠ 31) ?_ n v h
    intro v t e k j hk
    unfold g_R_worthOf_10 f_R_worthOf_10 at e
    split at e
    · cases e
    · cases e
      dsimp only
      rw [fr_R_giveBack hk.1, fr_R_strike hk.1]
  unfold m_R_worthOf b_R_worthOf_61
  dsimp only
  rw [hl]
  dsimp only
  rw [fr_R_keep h.2]
theorem okR_worthOf {s : St} {x y f : Int32} (h : okR s) : okR (m_R_worthOf s x y f).2 :=
  okR_fr h (funext fun j => fr_R_worthOf (by omega)) (funext fun j => fr_R_worthOf (by omega)) (fun j hj => fr_R_worthOf (by omega))
theorem fr_R_fewest {s : St} {x f : Int32} {k j : Nat} (h : k ≠ 32 ∧ k ≠ 33) : (m_R_fewest s x f).2 k j = s k j := by
  have h6 : ∀ c n v, (wl (g_R_fewest_6 c) n v).1 k j = v.1 k j := by
    intro c n v
    refine fr_wl (fun v : St × Int32 => v.1) (C := fun k j => k ≠ 32 ∧ k ≠ 33) ?_ n v h
    intro v t e k j hk
    unfold g_R_fewest_6 f_R_fewest_6 at e
    repeat' split at e
    all_goals (cases e <;> (try dsimp only) <;> (repeat rw [up_other (by omega)]))
  have h62 : ∀ c n v k j, (k ≠ 32 ∧ k ≠ 33) → (wl (g_R_fewest_62 c) n v).1 k j = v.1 k j := by
    intro c n v k j h
    refine fr_wl (fun v : St × Int32 => v.1) (C := fun k j => k ≠ 32 ∧ k ≠ 33) ?_ n v h
    intro v t e k j hk
    unfold g_R_fewest_62 f_R_fewest_62 at e
    repeat' split at e
    all_goals (cases e <;> (try dsimp only) <;> (repeat rw [up_other (by omega)]))
  have h253 : ∀ n v k j, (k ≠ 32 ∧ k ≠ 33) → (wl g_R_fewest_253 n v).1 k j = v.1 k j := by
    intro n v k j h
    refine fr_wl (fun v : St × Int32 => v.1) (C := fun k j => k ≠ 32 ∧ k ≠ 33) ?_ n v h
    intro v t e k j hk
    unfold g_R_fewest_253 f_R_fewest_253 at e
    repeat' split at e
    all_goals (cases e <;> (try dsimp only) <;> (repeat rw [up_other (by omega)]))
  have h86 : ∀ a b c n v k j, (k ≠ 32 ∧ k ≠ 33) → (wl (g_R_fewest_86 a b c) n v).1 k j = v.1 k j := by
    intro a b c n v k j h
    refine fr_wl (fun v : St × Int32 => v.1) (C := fun k j => k ≠ 32 ∧ k ≠ 33) ?_ n v h
    intro v t e k j hk
    unfold g_R_fewest_86 f_R_fewest_86 at e
    repeat' split at e
    all_goals (cases e <;> (try dsimp only) <;> (repeat rw [fr_R_cheaper hk.2]))
  have h39 : ∀ a b c n v, (wl (g_R_fewest_39 a b c) n v).1 k j = v.1 k j := by
    intro a b c n v
    refine fr_wl (fun v : St × Int32 => v.1) (C := fun k j => k ≠ 32 ∧ k ≠ 33) ?_ n v h
    intro v t e k j hk
    unfold g_R_fewest_39 f_R_fewest_39 at e
    split at e
    · cases e
    · unfold b_R_fewest_83 b_R_fewest_250 b_R_fewest_280 at e
      cases e
      dsimp only
      rw [h253 _ _ _ _ hk]
      dsimp only
      rw [h86 _ _ _ _ _ _ _ hk]
      dsimp only
      rw [h62 _ _ _ _ _ hk]
  unfold m_R_fewest b_R_fewest_36 b_R_fewest_286 b_R_fewest_337
  dsimp only
  rw [h39]
  dsimp only
  rw [h6]
theorem okR_fewest {s : St} {x f : Int32} (h : okR s) : okR (m_R_fewest s x f).2 :=
  okR_fr h (funext fun j => fr_R_fewest (by omega)) (funext fun j => fr_R_fewest (by omega)) (fun j hj => fr_R_fewest (by omega))
theorem fr_L_dropUnheld {s : St} {x : Int32} {k j : Nat} (h : k ≠ 1 ∧ k ≠ 2 ∧ k ≠ 3) : m_L_dropUnheld s x k j = s k j := by
  unfold m_L_dropUnheld b_L_dropUnheld_58
  refine fr_wl (fun v : St × Int32 => v.1) (C := fun k j => k ≠ 1 ∧ k ≠ 2 ∧ k ≠ 3) ?_ _ _ h
  intro v t e k j hk
  unfold g_L_dropUnheld_2 f_L_dropUnheld_2 at e
  repeat' split at e
  all_goals (cases e <;> (try dsimp only) <;> (repeat rw [up_other (by omega)]))
theorem fr_L_strike {s : St} {x y f : Int32} {k j : Nat} (h : k ≠ 1 ∧ k ≠ 2 ∧ k ≠ 3) : (m_L_strike s x y f).2 k j = s k j := by
  unfold m_L_strike
  repeat' split
  all_goals ((try dsimp only) <;> (try rw [fr_L_dropUnheld h]) <;> (repeat rw [up_other (by omega)]))
theorem fr_L_fallsBy {s : St} {x y f : Int32} {k j : Nat} (h : k ≠ 1 ∧ k ≠ 2 ∧ k ≠ 3) : (m_L_fallsBy s x y f).2 k j = s k j := by
  unfold m_L_fallsBy
  repeat' split
  all_goals ((try dsimp only) <;> (repeat rw [up_other (by omega)]) <;> (try rw [fr_L_strike h]))
theorem okL_fr {s t : St} (h : okL s) (h0 : t 0 = s 0) : okL t := by
  unfold okL
  rw [h0]
  exact h
theorem okL_strike {s : St} {x y f : Int32} (h : okL s) : okL (m_L_strike s x y f).2 := okL_fr h (funext fun j => fr_L_strike (by omega))
theorem okL_dropUnheld {s : St} {x : Int32} (h : okL s) : okL (m_L_dropUnheld s x) := okL_fr h (funext fun j => fr_L_dropUnheld (by omega))
theorem okL_fallsBy {s : St} {x y f : Int32} (h : okL s) : okL (m_L_fallsBy s x y f).2 := okL_fr h (funext fun j => fr_L_fallsBy (by omega))
theorem fr_L_worthOf {s : St} {x y f : Int32} {k j : Nat} (h : k ≠ 1 ∧ k ≠ 2 ∧ k ≠ 3) : (m_L_worthOf s x y f).2 k j = s k j := by
  have h15 : ∀ c n v k j, (k ≠ 1 ∧ k ≠ 2 ∧ k ≠ 3) → (wl (g_L_worthOf_15 x y f c) n v).1 k j = v.1 k j := by
    intro c n v k j h
    refine fr_wl (fun v : St × Int32 × Int32 => v.1) (C := fun k j => k ≠ 1 ∧ k ≠ 2 ∧ k ≠ 3) ?_ n v h
    intro v t e k j hk
    unfold g_L_worthOf_15 f_L_worthOf_15 at e
    repeat' split at e
    all_goals (cases e <;> (try dsimp only) <;> (try rw [fr_L_fallsBy hk]))
  have h6 : ∀ n v, (wl (g_L_worthOf_6 x y f) n v).1 k j = v.1 k j := by
    intro n v
    refine fr_wl (fun v : St × Int32 × Int32 => v.1) (C := fun k j => k ≠ 1 ∧ k ≠ 2 ∧ k ≠ 3) ?_ n v h
    intro v t e k j hk
    unfold g_L_worthOf_6 f_L_worthOf_6 at e
    split at e
    · cases e
    · unfold b_L_worthOf_58 at e
      cases e
      dsimp only
      rw [h15 _ _ _ _ _ hk]
  unfold m_L_worthOf b_L_worthOf_64
  dsimp only
  rw [h6]
theorem okL_worthOf {s : St} {x y f : Int32} (h : okL s) : okL (m_L_worthOf s x y f).2 := okL_fr h (funext fun j => fr_L_worthOf (by omega))
theorem fr_L_bestAim {s : St} {f : Int32} {k j : Nat} (h : k ≠ 1 ∧ k ≠ 2 ∧ k ≠ 3) : (m_L_bestAim s f).2 k j = s k j := by
  have hl : ∀ n v, (wl (g_L_bestAim_7 f) n v).1 k j = v.1 k j := by
    intro n v
    refine fr_wl (fun v : St × Int32 × Int32 × Int32 => v.1) (C := fun k j => k ≠ 1 ∧ k ≠ 2 ∧ k ≠ 3) ?_ n v h
    intro v t e k j hk
    unfold g_L_bestAim_7 f_L_bestAim_7 at e
    repeat' split at e
    all_goals (cases e <;> (try dsimp only) <;> (try rw [fr_L_worthOf hk]))
  unfold m_L_bestAim b_L_bestAim_58
  dsimp only
  rw [hl]
theorem okL_bestAim {s : St} {f : Int32} (h : okL s) : okL (m_L_bestAim s f).2 := okL_fr h (funext fun j => fr_L_bestAim (by omega))
end
