section
/-- a private method of a class that the tables say can be made, by its rows of tables_1 -/
def lw_okq (q : MethodName × Nat) : Prop := (q.1.cls ≠ "java/lang/invoke/MethodHandle" ∧ q.1.cls ≠ "java/lang/invoke/VarHandle") ∧ Cond.instantiable q.1.cls q.2 ∈ tables_1 ∧ Cond.privateMethod q.1 ∈ tables_1 ∧ Cond.instanceMethod q.1 ∈ tables_1
theorem lw_p0 : lw_okq (⟨"WavePass$Coast", "areAlike", "(II)Z"⟩, 5) := ⟨⟨by decide +kernel, by decide +kernel⟩, List.mem_of_getElem? (i := 22) (by decide +kernel), List.mem_of_getElem? (i := 306) (by decide +kernel), List.mem_of_getElem? (i := 307) (by decide +kernel)⟩
theorem lw_p1 : lw_okq (⟨"WavePass$Coast", "allPasses", "()I"⟩, 5) := ⟨⟨by decide +kernel, by decide +kernel⟩, List.mem_of_getElem? (i := 22) (by decide +kernel), List.mem_of_getElem? (i := 319) (by decide +kernel), List.mem_of_getElem? (i := 320) (by decide +kernel)⟩
theorem lw_p2 : lw_okq (⟨"WavePass$Coast", "noneLinkedWithin", "(I)Z"⟩, 5) := ⟨⟨by decide +kernel, by decide +kernel⟩, List.mem_of_getElem? (i := 22) (by decide +kernel), List.mem_of_getElem? (i := 329) (by decide +kernel), List.mem_of_getElem? (i := 330) (by decide +kernel)⟩
theorem lw_p3 : lw_okq (⟨"WavePass", "meet", "(II)I"⟩, 6) := ⟨⟨by decide +kernel, by decide +kernel⟩, List.mem_of_getElem? (i := 12) (by decide +kernel), List.mem_of_getElem? (i := 378) (by decide +kernel), List.mem_of_getElem? (i := 379) (by decide +kernel)⟩
theorem lw_p4 : lw_okq (⟨"WavePass", "howOften", "(II)I"⟩, 6) := ⟨⟨by decide +kernel, by decide +kernel⟩, List.mem_of_getElem? (i := 12) (by decide +kernel), List.mem_of_getElem? (i := 406) (by decide +kernel), List.mem_of_getElem? (i := 407) (by decide +kernel)⟩
theorem lw_p5 : lw_okq (⟨"WavePass", "failBy", "(I)I"⟩, 6) := ⟨⟨by decide +kernel, by decide +kernel⟩, List.mem_of_getElem? (i := 12) (by decide +kernel), List.mem_of_getElem? (i := 457) (by decide +kernel), List.mem_of_getElem? (i := 458) (by decide +kernel)⟩
theorem lw_p6 : lw_okq (⟨"WavePass$Sheet", "cut", "(I)I"⟩, 3) := ⟨⟨by decide +kernel, by decide +kernel⟩, List.mem_of_getElem? (i := 83) (by decide +kernel), List.mem_of_getElem? (i := 485) (by decide +kernel), List.mem_of_getElem? (i := 486) (by decide +kernel)⟩
theorem lw_p7 : lw_okq (⟨"WavePass", "tellAsDrawn", "(I)I"⟩, 6) := ⟨⟨by decide +kernel, by decide +kernel⟩, List.mem_of_getElem? (i := 12) (by decide +kernel), List.mem_of_getElem? (i := 514) (by decide +kernel), List.mem_of_getElem? (i := 515) (by decide +kernel)⟩
theorem lw_p8 : lw_okq (⟨"WavePass", "leave", "(I)V"⟩, 6) := ⟨⟨by decide +kernel, by decide +kernel⟩, List.mem_of_getElem? (i := 12) (by decide +kernel), List.mem_of_getElem? (i := 518) (by decide +kernel), List.mem_of_getElem? (i := 519) (by decide +kernel)⟩
theorem lw_p9 : lw_okq (⟨"WavePass", "tellAsLent", "(I)I"⟩, 6) := ⟨⟨by decide +kernel, by decide +kernel⟩, List.mem_of_getElem? (i := 12) (by decide +kernel), List.mem_of_getElem? (i := 522) (by decide +kernel), List.mem_of_getElem? (i := 523) (by decide +kernel)⟩
theorem lw_p10 : lw_okq (⟨"WavePass", "tellAsPass", "(I)I"⟩, 6) := ⟨⟨by decide +kernel, by decide +kernel⟩, List.mem_of_getElem? (i := 12) (by decide +kernel), List.mem_of_getElem? (i := 526) (by decide +kernel), List.mem_of_getElem? (i := 527) (by decide +kernel)⟩
theorem lw_p11 : lw_okq (⟨"WavePass", "sealAsDrawn", "()I"⟩, 6) := ⟨⟨by decide +kernel, by decide +kernel⟩, List.mem_of_getElem? (i := 12) (by decide +kernel), List.mem_of_getElem? (i := 534) (by decide +kernel), List.mem_of_getElem? (i := 535) (by decide +kernel)⟩
theorem lw_p12 : lw_okq (⟨"WavePass", "sealAsAny", "(I)I"⟩, 6) := ⟨⟨by decide +kernel, by decide +kernel⟩, List.mem_of_getElem? (i := 12) (by decide +kernel), List.mem_of_getElem? (i := 538) (by decide +kernel), List.mem_of_getElem? (i := 539) (by decide +kernel)⟩
theorem lw_p13 : lw_okq (⟨"WavePassModel", "against", "(IIII)I"⟩, 23) := ⟨⟨by decide +kernel, by decide +kernel⟩, List.mem_of_getElem? (i := 558) (by decide +kernel), List.mem_of_getElem? (i := 647) (by decide +kernel), List.mem_of_getElem? (i := 648) (by decide +kernel)⟩
theorem lw_p14 : lw_okq (⟨"WavePassModel", "fails", "(I)I"⟩, 23) := ⟨⟨by decide +kernel, by decide +kernel⟩, List.mem_of_getElem? (i := 558) (by decide +kernel), List.mem_of_getElem? (i := 651) (by decide +kernel), List.mem_of_getElem? (i := 652) (by decide +kernel)⟩
theorem lw_p15 : lw_okq (⟨"WavePassModel", "readCoast", "(I)Z"⟩, 23) := ⟨⟨by decide +kernel, by decide +kernel⟩, List.mem_of_getElem? (i := 558) (by decide +kernel), List.mem_of_getElem? (i := 655) (by decide +kernel), List.mem_of_getElem? (i := 656) (by decide +kernel)⟩
def lw_privs_1 : List (MethodName × Nat) := [(⟨"WavePass$Coast", "areAlike", "(II)Z"⟩, 5), (⟨"WavePass$Coast", "allPasses", "()I"⟩, 5), (⟨"WavePass$Coast", "noneLinkedWithin", "(I)Z"⟩, 5), (⟨"WavePass", "meet", "(II)I"⟩, 6), (⟨"WavePass", "howOften", "(II)I"⟩, 6), (⟨"WavePass", "failBy", "(I)I"⟩, 6), (⟨"WavePass$Sheet", "cut", "(I)I"⟩, 3), (⟨"WavePass", "tellAsDrawn", "(I)I"⟩, 6), (⟨"WavePass", "leave", "(I)V"⟩, 6), (⟨"WavePass", "tellAsLent", "(I)I"⟩, 6), (⟨"WavePass", "tellAsPass", "(I)I"⟩, 6), (⟨"WavePass", "sealAsDrawn", "()I"⟩, 6), (⟨"WavePass", "sealAsAny", "(I)I"⟩, 6), (⟨"WavePassModel", "against", "(IIII)I"⟩, 23), (⟨"WavePassModel", "fails", "(I)I"⟩, 23), (⟨"WavePassModel", "readCoast", "(I)Z"⟩, 23)]
theorem lw_r1 : ∀ q ∈ lw_privs_1, lw_okq q := List.forall_mem_cons.mpr ⟨lw_p0, List.forall_mem_cons.mpr ⟨lw_p1, List.forall_mem_cons.mpr ⟨lw_p2, List.forall_mem_cons.mpr ⟨lw_p3, List.forall_mem_cons.mpr ⟨lw_p4, List.forall_mem_cons.mpr ⟨lw_p5, List.forall_mem_cons.mpr ⟨lw_p6, List.forall_mem_cons.mpr ⟨lw_p7, List.forall_mem_cons.mpr ⟨lw_p8, List.forall_mem_cons.mpr ⟨lw_p9, List.forall_mem_cons.mpr ⟨lw_p10, List.forall_mem_cons.mpr ⟨lw_p11, List.forall_mem_cons.mpr ⟨lw_p12, List.forall_mem_cons.mpr ⟨lw_p13, List.forall_mem_cons.mpr ⟨lw_p14, List.forall_mem_cons.mpr ⟨lw_p15, fun _ h => absurd h List.not_mem_nil⟩⟩⟩⟩⟩⟩⟩⟩⟩⟩⟩⟩⟩⟩⟩⟩
theorem lw_p16 : lw_okq (⟨"WavePassModel", "isSign", "(II)Z"⟩, 23) := ⟨⟨by decide +kernel, by decide +kernel⟩, List.mem_of_getElem? (i := 558) (by decide +kernel), List.mem_of_getElem? (i := 659) (by decide +kernel), List.mem_of_getElem? (i := 660) (by decide +kernel)⟩
theorem lw_p17 : lw_okq (⟨"WavePassModel", "digit", "(I)I"⟩, 23) := ⟨⟨by decide +kernel, by decide +kernel⟩, List.mem_of_getElem? (i := 558) (by decide +kernel), List.mem_of_getElem? (i := 663) (by decide +kernel), List.mem_of_getElem? (i := 664) (by decide +kernel)⟩
theorem lw_p18 : lw_okq (⟨"WavePassModel", "readPass", "(I)Z"⟩, 23) := ⟨⟨by decide +kernel, by decide +kernel⟩, List.mem_of_getElem? (i := 558) (by decide +kernel), List.mem_of_getElem? (i := 667) (by decide +kernel), List.mem_of_getElem? (i := 668) (by decide +kernel)⟩
theorem lw_p19 : lw_okq (⟨"WavePassModel", "isPass", "(I)Z"⟩, 23) := ⟨⟨by decide +kernel, by decide +kernel⟩, List.mem_of_getElem? (i := 558) (by decide +kernel), List.mem_of_getElem? (i := 675) (by decide +kernel), List.mem_of_getElem? (i := 676) (by decide +kernel)⟩
theorem lw_p20 : lw_okq (⟨"WavePassModel", "lower", "(III)I"⟩, 23) := ⟨⟨by decide +kernel, by decide +kernel⟩, List.mem_of_getElem? (i := 558) (by decide +kernel), List.mem_of_getElem? (i := 697) (by decide +kernel), List.mem_of_getElem? (i := 698) (by decide +kernel)⟩
theorem lw_p21 : lw_okq (⟨"WavePassModel", "offOf", "(III)I"⟩, 23) := ⟨⟨by decide +kernel, by decide +kernel⟩, List.mem_of_getElem? (i := 558) (by decide +kernel), List.mem_of_getElem? (i := 705) (by decide +kernel), List.mem_of_getElem? (i := 706) (by decide +kernel)⟩
theorem lw_p22 : lw_okq (⟨"WavePassModel", "fitsOf", "(II)I"⟩, 23) := ⟨⟨by decide +kernel, by decide +kernel⟩, List.mem_of_getElem? (i := 558) (by decide +kernel), List.mem_of_getElem? (i := 716) (by decide +kernel), List.mem_of_getElem? (i := 717) (by decide +kernel)⟩
theorem lw_p23 : lw_okq (⟨"WavePassModel", "isFit", "(III)Z"⟩, 23) := ⟨⟨by decide +kernel, by decide +kernel⟩, List.mem_of_getElem? (i := 558) (by decide +kernel), List.mem_of_getElem? (i := 720) (by decide +kernel), List.mem_of_getElem? (i := 721) (by decide +kernel)⟩
theorem lw_p24 : lw_okq (⟨"WavePassModel", "alikeTo", "(I)I"⟩, 23) := ⟨⟨by decide +kernel, by decide +kernel⟩, List.mem_of_getElem? (i := 558) (by decide +kernel), List.mem_of_getElem? (i := 736) (by decide +kernel), List.mem_of_getElem? (i := 737) (by decide +kernel)⟩
theorem lw_p25 : lw_okq (⟨"WavePassModel", "areUnlike", "(I)Z"⟩, 23) := ⟨⟨by decide +kernel, by decide +kernel⟩, List.mem_of_getElem? (i := 558) (by decide +kernel), List.mem_of_getElem? (i := 747) (by decide +kernel), List.mem_of_getElem? (i := 748) (by decide +kernel)⟩
theorem lw_p26 : lw_okq (⟨"WavePassModel", "isSet", "(I)Z"⟩, 23) := ⟨⟨by decide +kernel, by decide +kernel⟩, List.mem_of_getElem? (i := 558) (by decide +kernel), List.mem_of_getElem? (i := 755) (by decide +kernel), List.mem_of_getElem? (i := 756) (by decide +kernel)⟩
theorem lw_p27 : lw_okq (⟨"WavePassModel", "goneOf", "(II)I"⟩, 23) := ⟨⟨by decide +kernel, by decide +kernel⟩, List.mem_of_getElem? (i := 558) (by decide +kernel), List.mem_of_getElem? (i := 759) (by decide +kernel), List.mem_of_getElem? (i := 760) (by decide +kernel)⟩
theorem lw_p28 : lw_okq (⟨"WavePassModel", "goVoyages", "(III)I"⟩, 23) := ⟨⟨by decide +kernel, by decide +kernel⟩, List.mem_of_getElem? (i := 558) (by decide +kernel), List.mem_of_getElem? (i := 771) (by decide +kernel), List.mem_of_getElem? (i := 772) (by decide +kernel)⟩
theorem lw_p29 : lw_okq (⟨"WavePassModel", "tellVoyages", "(I)I"⟩, 23) := ⟨⟨by decide +kernel, by decide +kernel⟩, List.mem_of_getElem? (i := 558) (by decide +kernel), List.mem_of_getElem? (i := 775) (by decide +kernel), List.mem_of_getElem? (i := 776) (by decide +kernel)⟩
theorem lw_p30 : lw_okq (⟨"WavePassModel", "areSo", "()Z"⟩, 23) := ⟨⟨by decide +kernel, by decide +kernel⟩, List.mem_of_getElem? (i := 558) (by decide +kernel), List.mem_of_getElem? (i := 791) (by decide +kernel), List.mem_of_getElem? (i := 792) (by decide +kernel)⟩
theorem lw_p31 : lw_okq (⟨"WavePassModel", "lost", "(I)J"⟩, 23) := ⟨⟨by decide +kernel, by decide +kernel⟩, List.mem_of_getElem? (i := 558) (by decide +kernel), List.mem_of_getElem? (i := 827) (by decide +kernel), List.mem_of_getElem? (i := 828) (by decide +kernel)⟩
def lw_privs_2 : List (MethodName × Nat) := [(⟨"WavePassModel", "isSign", "(II)Z"⟩, 23), (⟨"WavePassModel", "digit", "(I)I"⟩, 23), (⟨"WavePassModel", "readPass", "(I)Z"⟩, 23), (⟨"WavePassModel", "isPass", "(I)Z"⟩, 23), (⟨"WavePassModel", "lower", "(III)I"⟩, 23), (⟨"WavePassModel", "offOf", "(III)I"⟩, 23), (⟨"WavePassModel", "fitsOf", "(II)I"⟩, 23), (⟨"WavePassModel", "isFit", "(III)Z"⟩, 23), (⟨"WavePassModel", "alikeTo", "(I)I"⟩, 23), (⟨"WavePassModel", "areUnlike", "(I)Z"⟩, 23), (⟨"WavePassModel", "isSet", "(I)Z"⟩, 23), (⟨"WavePassModel", "goneOf", "(II)I"⟩, 23), (⟨"WavePassModel", "goVoyages", "(III)I"⟩, 23), (⟨"WavePassModel", "tellVoyages", "(I)I"⟩, 23), (⟨"WavePassModel", "areSo", "()Z"⟩, 23), (⟨"WavePassModel", "lost", "(I)J"⟩, 23)]
theorem lw_r2 : ∀ q ∈ lw_privs_2, lw_okq q := List.forall_mem_cons.mpr ⟨lw_p16, List.forall_mem_cons.mpr ⟨lw_p17, List.forall_mem_cons.mpr ⟨lw_p18, List.forall_mem_cons.mpr ⟨lw_p19, List.forall_mem_cons.mpr ⟨lw_p20, List.forall_mem_cons.mpr ⟨lw_p21, List.forall_mem_cons.mpr ⟨lw_p22, List.forall_mem_cons.mpr ⟨lw_p23, List.forall_mem_cons.mpr ⟨lw_p24, List.forall_mem_cons.mpr ⟨lw_p25, List.forall_mem_cons.mpr ⟨lw_p26, List.forall_mem_cons.mpr ⟨lw_p27, List.forall_mem_cons.mpr ⟨lw_p28, List.forall_mem_cons.mpr ⟨lw_p29, List.forall_mem_cons.mpr ⟨lw_p30, List.forall_mem_cons.mpr ⟨lw_p31, fun _ h => absurd h List.not_mem_nil⟩⟩⟩⟩⟩⟩⟩⟩⟩⟩⟩⟩⟩⟩⟩⟩
theorem lw_p32 : lw_okq (⟨"WavePassModel", "begins", "(I)V"⟩, 23) := ⟨⟨by decide +kernel, by decide +kernel⟩, List.mem_of_getElem? (i := 558) (by decide +kernel), List.mem_of_getElem? (i := 839) (by decide +kernel), List.mem_of_getElem? (i := 840) (by decide +kernel)⟩
def lw_privs_3 : List (MethodName × Nat) := [(⟨"WavePassModel", "begins", "(I)V"⟩, 23)]
theorem lw_r3 : ∀ q ∈ lw_privs_3, lw_okq q := List.forall_mem_cons.mpr ⟨lw_p32, fun _ h => absurd h List.not_mem_nil⟩
def lw_privs : List (MethodName × Nat) := lw_privs_1 ++ (lw_privs_2 ++ (lw_privs_3))
def lw_tbl : List Cond := k2_sels lw_privs ++ tables_1
theorem lw_privs_ok : ∀ q ∈ lw_privs, lw_okq q := by
  show ∀ q ∈ lw_privs_1 ++ (lw_privs_2 ++ (lw_privs_3)), lw_okq q
  exact List.forall_mem_append.mpr ⟨lw_r1, List.forall_mem_append.mpr ⟨lw_r2, lw_r3⟩⟩
end
section
/-! ===== BEGIN words of one list among another's, by their places ===== -/
theorem goodIn_r {big : List Cond} (ws : List Cond) (ps : List Nat) (hp : ws = ps.filterMap (fun i => big[i]?)) (h : ws.all goodWord = true) : GoodIn big ws := by
  intro w hw
  have h1 := List.all_eq_true.mp h w hw
  rw [hp] at hw
  obtain ⟨i, -, hi⟩ := List.mem_filterMap.mp hw
  have hm : w ∈ big := by first | exact List.mem_of_getElem? hi | exact List.getElem?_mem hi
  exact ⟨hm, good_of_word h1⟩
theorem goodIn_app {big a b : List Cond} (ha : GoodIn big a) (hb : GoodIn big b) : GoodIn big (a ++ b) := fun w h => (List.mem_append.mp h).elim (ha w) (hb w)
theorem goodIn_ca {big a b : List Cond} {c : Cond} (ha : GoodIn big (c :: a)) (hb : GoodIn big b) : GoodIn big (c :: (a ++ b)) := fun w h => (List.mem_cons.mp h).elim (fun e => ha w (List.mem_cons.mpr (Or.inl e))) (fun h => (List.mem_append.mp h).elim (fun h => ha w (List.mem_cons.mpr (Or.inr h))) (hb w))
theorem goodIn_sub {big ws : List Cond} (hm : ∀ w ∈ ws, w ∈ big) (h : ws.all goodWord = true) : GoodIn big ws := fun w hw => ⟨hm w hw, good_of_word (List.all_eq_true.mp h w hw)⟩
/-! ===== END ===== -/

/-! ===== BEGIN printed: names, fields, word lists, decode rows ===== -/
def RX0 : String := "WavePass$Coast"
def TX0 : u_T := fun k => match k with
  | 0 => ("WavePass$Coast", "kind", "[I", true)
  | 1 => ("WavePass$Coast", "height", "[I", true)
  | 2 => ("WavePass$Coast", "linked", "[I", true)
  | 3 => ("WavePass$Coast", "passes", "I", false)
  | _ => ("WavePass$Coast", "slackNow", "I", false)
def tyX0 : Nat → FieldType := fun k => match k with
  | 0 => .array .int
  | 1 => .array .int
  | 2 => .array .int
  | 3 => .int
  | _ => .int
abbrev wsX00 : List Cond := u_ws RX0 TX0 5
theorem nmX0 : ∀ a, a < 5 → ∀ b, b < 5 → a ≠ b → (TX0 a).2.1 ≠ (TX0 b).2.1 := by decide +kernel
theorem tyX0_ok : ∀ k, k < 5 → parseFieldDescriptor (TX0 k).2.2.1 = some (tyX0 k) := by decide +kernel
abbrev cX0_init : ByteArray := prog_2_method_1_code
def yX0_init : MethodName := ⟨RX0, "<init>", "()V"⟩
abbrev cX0_firstWrongCode : ByteArray := prog_2_method_2_code
def yX0_firstWrongCode : MethodName := ⟨RX0, "firstWrongCode", "(LWavePass$Sheet;II)I"⟩
abbrev cX0_goesOn : ByteArray := prog_2_method_3_code
def yX0_goesOn : MethodName := ⟨RX0, "goesOn", "(II)Z"⟩
abbrev cX0_isDigit : ByteArray := prog_2_method_4_code
def yX0_isDigit : MethodName := ⟨RX0, "isDigit", "(I)Z"⟩
abbrev cX0_kindByLetter : ByteArray := prog_2_method_5_code
def yX0_kindByLetter : MethodName := ⟨RX0, "kindByLetter", "(I)I"⟩
abbrev cX0_takeText : ByteArray := prog_2_method_6_code
def yX0_takeText : MethodName := ⟨RX0, "takeText", "(LWavePass$Sheet;II)V"⟩
abbrev cX0_stands : ByteArray := prog_2_method_7_code
def yX0_stands : MethodName := ⟨RX0, "stands", "()Z"⟩
abbrev cX0_howMany : ByteArray := prog_2_method_8_code
def yX0_howMany : MethodName := ⟨RX0, "howMany", "()I"⟩
abbrev cX0_hasPass : ByteArray := prog_2_method_9_code
def yX0_hasPass : MethodName := ⟨RX0, "hasPass", "(I)Z"⟩
abbrev cX0_allPasses : ByteArray := prog_2_method_10_code
def yX0_allPasses : MethodName := ⟨RX0, "allPasses", "()I"⟩
abbrev cX0_isSet : ByteArray := prog_2_method_11_code
def yX0_isSet : MethodName := ⟨RX0, "isSet", "(I)Z"⟩
abbrev cX0_slackNow : ByteArray := prog_2_method_12_code
def yX0_slackNow : MethodName := ⟨RX0, "slackNow", "()I"⟩
abbrev cX0_setSlack : ByteArray := prog_2_method_13_code
def yX0_setSlack : MethodName := ⟨RX0, "setSlack", "(I)V"⟩
abbrev cX0_kindOf : ByteArray := prog_2_method_14_code
def yX0_kindOf : MethodName := ⟨RX0, "kindOf", "(I)I"⟩
abbrev cX0_setKind : ByteArray := prog_2_method_15_code
def yX0_setKind : MethodName := ⟨RX0, "setKind", "(II)V"⟩
abbrev cX0_heightOf : ByteArray := prog_2_method_16_code
def yX0_heightOf : MethodName := ⟨RX0, "heightOf", "(II)I"⟩
abbrev cX0_setHeight : ByteArray := prog_2_method_17_code
def yX0_setHeight : MethodName := ⟨RX0, "setHeight", "(III)V"⟩
abbrev cX0_wear : ByteArray := prog_2_method_18_code
def yX0_wear : MethodName := ⟨RX0, "wear", "(II)I"⟩
abbrev cX0_lowerHeight : ByteArray := prog_2_method_19_code
def yX0_lowerHeight : MethodName := ⟨RX0, "lowerHeight", "(III)I"⟩
abbrev cX0_apart : ByteArray := prog_2_method_20_code
def yX0_apart : MethodName := ⟨RX0, "apart", "(III)I"⟩
abbrev cX0_doFit : ByteArray := prog_2_method_21_code
def yX0_doFit : MethodName := ⟨RX0, "doFit", "(III)Z"⟩
abbrev cX0_fitting : ByteArray := prog_2_method_22_code
def yX0_fitting : MethodName := ⟨RX0, "fitting", "(II)I"⟩
abbrev cX0_closestFitting : ByteArray := prog_2_method_23_code
def yX0_closestFitting : MethodName := ⟨RX0, "closestFitting", "(II)I"⟩
abbrev cX0_lastGood : ByteArray := prog_2_method_24_code
def yX0_lastGood : MethodName := ⟨RX0, "lastGood", "(I)I"⟩
abbrev cX0_areAlike : ByteArray := prog_2_method_25_code
def yX0_areAlike : MethodName := ⟨RX0, "areAlike", "(II)Z"⟩
abbrev cX0_likeness : ByteArray := prog_2_method_26_code
def yX0_likeness : MethodName := ⟨RX0, "likeness", "(I)I"⟩
abbrev cX0_mostUnlike : ByteArray := prog_2_method_27_code
def yX0_mostUnlike : MethodName := ⟨RX0, "mostUnlike", "()I"⟩
abbrev cX0_noneLinkedWithin : ByteArray := prog_2_method_28_code
def yX0_noneLinkedWithin : MethodName := ⟨RX0, "noneLinkedWithin", "(I)Z"⟩
abbrev cX0_layAll : ByteArray := prog_2_method_29_code
def yX0_layAll : MethodName := ⟨RX0, "layAll", "(I)V"⟩
abbrev cX0_freedBy : ByteArray := prog_2_method_30_code
def yX0_freedBy : MethodName := ⟨RX0, "freedBy", "(I)I"⟩
abbrev cX0_fewestFreeing : ByteArray := prog_2_method_31_code
def yX0_fewestFreeing : MethodName := ⟨RX0, "fewestFreeing", "()I"⟩
def RX1 : String := "WavePass$Readings"
def TX1 : u_T := fun k => match k with
  | 0 => ("WavePass$Readings", "upper", "[I", true)
  | 1 => ("WavePass$Readings", "lower", "[I", true)
  | 2 => ("WavePass$Readings", "months", "[I", true)
  | 3 => ("WavePass$Readings", "did", "[Z", true)
  | _ => ("WavePass$Readings", "count", "I", false)
def tyX1 : Nat → FieldType := fun k => match k with
  | 0 => .array .int
  | 1 => .array .int
  | 2 => .array .int
  | 3 => .array .boolean
  | _ => .int
abbrev wsX10 : List Cond := u_ws RX1 TX1 5
theorem nmX1 : ∀ a, a < 5 → ∀ b, b < 5 → a ≠ b → (TX1 a).2.1 ≠ (TX1 b).2.1 := by decide +kernel
theorem tyX1_ok : ∀ k, k < 5 → parseFieldDescriptor (TX1 k).2.2.1 = some (tyX1 k) := by decide +kernel
abbrev cX1_init : ByteArray := prog_3_method_1_code
def yX1_init : MethodName := ⟨RX1, "<init>", "()V"⟩
abbrev cX1_howMany : ByteArray := prog_3_method_2_code
def yX1_howMany : MethodName := ⟨RX1, "howMany", "()I"⟩
abbrev cX1_append : ByteArray := prog_3_method_3_code
def yX1_append : MethodName := ⟨RX1, "append", "(IIIZ)V"⟩
abbrev cX1_dropLast : ByteArray := prog_3_method_4_code
def yX1_dropLast : MethodName := ⟨RX1, "dropLast", "(I)V"⟩
abbrev cX1_areSo : ByteArray := prog_3_method_5_code
def yX1_areSo : MethodName := ⟨RX1, "areSo", "(LWavePass$Coast;)Z"⟩
def RX2 : String := "WavePass$Sheet"
def TX2 : u_T := fun k => match k with
  | 0 => ("WavePass$Sheet", "cells", "[I", true)
  | 1 => ("WavePass$Sheet", "lane", "I", false)
  | _ => ("WavePass$Sheet", "length", "I", false)
def tyX2 : Nat → FieldType := fun k => match k with
  | 0 => .array .int
  | 1 => .int
  | _ => .int
abbrev wsX20 : List Cond := u_ws RX2 TX2 3
theorem nmX2 : ∀ a, a < 3 → ∀ b, b < 3 → a ≠ b → (TX2 a).2.1 ≠ (TX2 b).2.1 := by decide +kernel
theorem tyX2_ok : ∀ k, k < 3 → parseFieldDescriptor (TX2 k).2.2.1 = some (tyX2 k) := by decide +kernel
abbrev cX2_init : ByteArray := prog_4_method_1_code
def yX2_init : MethodName := ⟨RX2, "<init>", "()V"⟩
abbrev cX2_begin : ByteArray := prog_4_method_2_code
def yX2_begin : MethodName := ⟨RX2, "begin", "(II)V"⟩
abbrev cX2_drop : ByteArray := prog_4_method_3_code
def yX2_drop : MethodName := ⟨RX2, "drop", "()V"⟩
abbrev cX2_hasNothing : ByteArray := prog_4_method_4_code
def yX2_hasNothing : MethodName := ⟨RX2, "hasNothing", "()Z"⟩
abbrev cX2_laneNow : ByteArray := prog_4_method_5_code
def yX2_laneNow : MethodName := ⟨RX2, "laneNow", "()I"⟩
abbrev cX2_isOfAnother : ByteArray := prog_4_method_6_code
def yX2_isOfAnother : MethodName := ⟨RX2, "isOfAnother", "(I)Z"⟩
abbrev cX2_hasCell : ByteArray := prog_4_method_7_code
def yX2_hasCell : MethodName := ⟨RX2, "hasCell", "(I)Z"⟩
abbrev cX2_hasCells : ByteArray := prog_4_method_8_code
def yX2_hasCells : MethodName := ⟨RX2, "hasCells", "(II)Z"⟩
abbrev cX2_at : ByteArray := prog_4_method_9_code
def yX2_at : MethodName := ⟨RX2, "at", "(I)I"⟩
abbrev cX2_write : ByteArray := prog_4_method_10_code
def yX2_write : MethodName := ⟨RX2, "write", "(II)V"⟩
abbrev cX2_takeCells : ByteArray := prog_4_method_11_code
def yX2_takeCells : MethodName := ⟨RX2, "takeCells", "(ILWavePass$Sheet;II)V"⟩
abbrev cX2_cut : ByteArray := prog_4_method_12_code
def yX2_cut : MethodName := ⟨RX2, "cut", "(I)I"⟩
def RX3 : String := "WavePass$Voyages"
def TX3 : u_T := fun k => match k with
  | 0 => ("WavePass$Voyages", "pass", "[I", true)
  | 1 => ("WavePass$Voyages", "months", "[I", true)
  | _ => ("WavePass$Voyages", "pairs", "I", false)
def tyX3 : Nat → FieldType := fun k => match k with
  | 0 => .array .int
  | 1 => .array .int
  | _ => .int
abbrev wsX30 : List Cond := u_ws RX3 TX3 3
theorem nmX3 : ∀ a, a < 3 → ∀ b, b < 3 → a ≠ b → (TX3 a).2.1 ≠ (TX3 b).2.1 := by decide +kernel
theorem tyX3_ok : ∀ k, k < 3 → parseFieldDescriptor (TX3 k).2.2.1 = some (tyX3 k) := by decide +kernel
abbrev cX3_init : ByteArray := prog_5_method_1_code
def yX3_init : MethodName := ⟨RX3, "<init>", "()V"⟩
abbrev cX3_load : ByteArray := prog_5_method_2_code
def yX3_load : MethodName := ⟨RX3, "load", "(LWavePass$Sheet;II)V"⟩
abbrev cX3_howMany : ByteArray := prog_5_method_3_code
def yX3_howMany : MethodName := ⟨RX3, "howMany", "()I"⟩
abbrev cX3_refusal : ByteArray := prog_5_method_4_code
def yX3_refusal : MethodName := ⟨RX3, "refusal", "(LWavePass$Coast;)I"⟩
abbrev cX3_firstWrongPair : ByteArray := prog_5_method_5_code
def yX3_firstWrongPair : MethodName := ⟨RX3, "firstWrongPair", "()I"⟩
abbrev cX3_takenBy : ByteArray := prog_5_method_6_code
def yX3_takenBy : MethodName := ⟨RX3, "takenBy", "(LWavePass$Coast;I)I"⟩
abbrev cX3_firstOf : ByteArray := prog_5_method_7_code
def yX3_firstOf : MethodName := ⟨RX3, "firstOf", "(I)I"⟩
abbrev cX3_goodOnes : ByteArray := prog_5_method_8_code
def yX3_goodOnes : MethodName := ⟨RX3, "goodOnes", "(LWavePass$Coast;)I"⟩
abbrev cX3_onesOf : ByteArray := prog_5_method_9_code
def yX3_onesOf : MethodName := ⟨RX3, "onesOf", "(I)I"⟩
def RX4 : String := "WavePass"
def TX4 : u_T := fun k => match k with
  | 0 => ("WavePass", "sheets", "[LWavePass$Sheet;", true)
  | 1 => ("WavePass", "shore", "LWavePass$Coast;", true)
  | 2 => ("WavePass", "told", "LWavePass$Voyages;", true)
  | 3 => ("WavePass", "read", "LWavePass$Readings;", true)
  | 4 => ("WavePass", "traced", "I", false)
  | _ => ("WavePass", "latestFault", "I", false)
def tyX4 : Nat → FieldType := fun k => match k with
  | 0 => .array (.object "WavePass$Sheet")
  | 1 => .object "WavePass$Coast"
  | 2 => .object "WavePass$Voyages"
  | 3 => .object "WavePass$Readings"
  | 4 => .int
  | _ => .int
abbrev wsX40 : List Cond := u_ws RX4 TX4 6
theorem nmX4 : ∀ a, a < 6 → ∀ b, b < 6 → a ≠ b → (TX4 a).2.1 ≠ (TX4 b).2.1 := by decide +kernel
theorem tyX4_ok : ∀ k, k < 6 → parseFieldDescriptor (TX4 k).2.2.1 = some (tyX4 k) := by decide +kernel
abbrev cX4_init : ByteArray := prog_1_method_1_code
def yX4_init : MethodName := ⟨RX4, "<init>", "()V"⟩
abbrev cX4_coast : ByteArray := prog_1_method_2_code
def yX4_coast : MethodName := ⟨RX4, "coast", "(IIII)I"⟩
abbrev cX4_ofPass : ByteArray := prog_1_method_3_code
def yX4_ofPass : MethodName := ⟨RX4, "ofPass", "(II)I"⟩
abbrev cX4_trim : ByteArray := prog_1_method_4_code
def yX4_trim : MethodName := ⟨RX4, "trim", "(III)I"⟩
abbrev cX4_slack : ByteArray := prog_1_method_5_code
def yX4_slack : MethodName := ⟨RX4, "slack", "(I)I"⟩
abbrev cX4_worn : ByteArray := prog_1_method_6_code
def yX4_worn : MethodName := ⟨RX4, "worn", "(III)I"⟩
abbrev cX4_off : ByteArray := prog_1_method_7_code
def yX4_off : MethodName := ⟨RX4, "off", "(III)I"⟩
abbrev cX4_fits : ByteArray := prog_1_method_8_code
def yX4_fits : MethodName := ⟨RX4, "fits", "(II)I"⟩
abbrev cX4_match : ByteArray := prog_1_method_9_code
def yX4_match : MethodName := ⟨RX4, "match", "(II)I"⟩
abbrev cX4_last : ByteArray := prog_1_method_10_code
def yX4_last : MethodName := ⟨RX4, "last", "(I)I"⟩
abbrev cX4_alike : ByteArray := prog_1_method_11_code
def yX4_alike : MethodName := ⟨RX4, "alike", "(I)I"⟩
abbrev cX4_most : ByteArray := prog_1_method_12_code
def yX4_most : MethodName := ⟨RX4, "most", "()I"⟩
abbrev cX4_letGo : ByteArray := prog_1_method_13_code
def yX4_letGo : MethodName := ⟨RX4, "letGo", "(II)I"⟩
abbrev cX4_fewest : ByteArray := prog_1_method_14_code
def yX4_fewest : MethodName := ⟨RX4, "fewest", "(I)I"⟩
abbrev cX4_voyages : ByteArray := prog_1_method_15_code
def yX4_voyages : MethodName := ⟨RX4, "voyages", "(IIIIII)I"⟩
abbrev cX4_meet : ByteArray := prog_1_method_16_code
def yX4_meet : MethodName := ⟨RX4, "meet", "(II)I"⟩
abbrev cX4_howOften : ByteArray := prog_1_method_17_code
def yX4_howOften : MethodName := ⟨RX4, "howOften", "(II)I"⟩
abbrev cX4_reading : ByteArray := prog_1_method_18_code
def yX4_reading : MethodName := ⟨RX4, "reading", "(IIIZ)I"⟩
abbrev cX4_back : ByteArray := prog_1_method_19_code
def yX4_back : MethodName := ⟨RX4, "back", "(I)I"⟩
abbrev cX4_edges : ByteArray := prog_1_method_20_code
def yX4_edges : MethodName := ⟨RX4, "edges", "(II)I"⟩
abbrev cX4_kinds : ByteArray := prog_1_method_21_code
def yX4_kinds : MethodName := ⟨RX4, "kinds", "(I)I"⟩
abbrev cX4_slacks : ByteArray := prog_1_method_22_code
def yX4_slacks : MethodName := ⟨RX4, "slacks", "()I"⟩
abbrev cX4_odds : ByteArray := prog_1_method_23_code
def yX4_odds : MethodName := ⟨RX4, "odds", "(III)J"⟩
abbrev cX4_sheet : ByteArray := prog_1_method_24_code
def yX4_sheet : MethodName := ⟨RX4, "sheet", "(III)I"⟩
abbrev cX4_lose : ByteArray := prog_1_method_25_code
def yX4_lose : MethodName := ⟨RX4, "lose", "(I)I"⟩
abbrev cX4_put : ByteArray := prog_1_method_26_code
def yX4_put : MethodName := ⟨RX4, "put", "(III)I"⟩
abbrev cX4_cell : ByteArray := prog_1_method_27_code
def yX4_cell : MethodName := ⟨RX4, "cell", "(III)J"⟩
abbrev cX4_copy : ByteArray := prog_1_method_28_code
def yX4_copy : MethodName := ⟨RX4, "copy", "(IIIII)I"⟩
abbrev cX4_tell : ByteArray := prog_1_method_29_code
def yX4_tell : MethodName := ⟨RX4, "tell", "(I)I"⟩
abbrev cX4_seal : ByteArray := prog_1_method_30_code
def yX4_seal : MethodName := ⟨RX4, "seal", "(I)I"⟩
abbrev cX4_as : ByteArray := prog_1_method_31_code
def yX4_as : MethodName := ⟨RX4, "as", "(II)I"⟩
abbrev cX4_trace : ByteArray := prog_1_method_32_code
def yX4_trace : MethodName := ⟨RX4, "trace", "()I"⟩
abbrev cX4_fault : ByteArray := prog_1_method_33_code
def yX4_fault : MethodName := ⟨RX4, "fault", "()I"⟩
abbrev cX4_many : ByteArray := prog_1_method_34_code
def yX4_many : MethodName := ⟨RX4, "many", "(I)I"⟩
abbrev cX4_tellAsPass : ByteArray := prog_1_method_35_code
def yX4_tellAsPass : MethodName := ⟨RX4, "tellAsPass", "(I)I"⟩
abbrev cX4_tellAsLent : ByteArray := prog_1_method_36_code
def yX4_tellAsLent : MethodName := ⟨RX4, "tellAsLent", "(I)I"⟩
abbrev cX4_tellAsDrawn : ByteArray := prog_1_method_37_code
def yX4_tellAsDrawn : MethodName := ⟨RX4, "tellAsDrawn", "(I)I"⟩
abbrev cX4_sealAsAny : ByteArray := prog_1_method_38_code
def yX4_sealAsAny : MethodName := ⟨RX4, "sealAsAny", "(I)I"⟩
abbrev cX4_sealAsDrawn : ByteArray := prog_1_method_39_code
def yX4_sealAsDrawn : MethodName := ⟨RX4, "sealAsDrawn", "()I"⟩
abbrev cX4_leave : ByteArray := prog_1_method_40_code
def yX4_leave : MethodName := ⟨RX4, "leave", "(I)V"⟩
abbrev cX4_failBy : ByteArray := prog_1_method_41_code
def yX4_failBy : MethodName := ⟨RX4, "failBy", "(I)I"⟩
abbrev cX4_faultOfRow : ByteArray := prog_1_method_42_code
def yX4_faultOfRow : MethodName := ⟨RX4, "faultOfRow", "(LWavePass$Sheet;I)I"⟩
abbrev cX4_faultOfCells : ByteArray := prog_1_method_43_code
def yX4_faultOfCells : MethodName := ⟨RX4, "faultOfCells", "(LWavePass$Sheet;III)I"⟩
abbrev cX4_faultOfText : ByteArray := prog_1_method_44_code
def yX4_faultOfText : MethodName := ⟨RX4, "faultOfText", "(LWavePass$Sheet;III)I"⟩
abbrev cX4_within : ByteArray := prog_1_method_45_code
def yX4_within : MethodName := ⟨RX4, "within", "(III)Z"⟩
abbrev cX4_isSheet : ByteArray := prog_1_method_46_code
def yX4_isSheet : MethodName := ⟨RX4, "isSheet", "(I)Z"⟩
abbrev cX4_isLane : ByteArray := prog_1_method_47_code
def yX4_isLane : MethodName := ⟨RX4, "isLane", "(I)Z"⟩
abbrev cX4_isPlace : ByteArray := prog_1_method_48_code
def yX4_isPlace : MethodName := ⟨RX4, "isPlace", "(I)Z"⟩
abbrev cX4_isMonths : ByteArray := prog_1_method_49_code
def yX4_isMonths : MethodName := ⟨RX4, "isMonths", "(I)Z"⟩
abbrev cX4_isAskable : ByteArray := prog_1_method_50_code
def yX4_isAskable : MethodName := ⟨RX4, "isAskable", "(I)Z"⟩
abbrev cX4_bitIf : ByteArray := prog_1_method_51_code
def yX4_bitIf : MethodName := ⟨RX4, "bitIf", "(ZI)I"⟩
def RX5 : String := "WavePassModel"
def TX5 : u_T := fun k => match k with
  | 0 => ("WavePassModel", "fault", "I", false)
  | 1 => ("WavePassModel", "trace", "I", false)
  | 2 => ("WavePassModel", "sorts", "[I", true)
  | 3 => ("WavePassModel", "sheetLong", "[I", true)
  | 4 => ("WavePassModel", "cells", "[I", true)
  | 5 => ("WavePassModel", "passes", "I", false)
  | 6 => ("WavePassModel", "slackNow", "I", false)
  | 7 => ("WavePassModel", "kind", "[I", true)
  | 8 => ("WavePassModel", "height", "[I", true)
  | 9 => ("WavePassModel", "at", "I", false)
  | 10 => ("WavePassModel", "readSlack", "I", false)
  | 11 => ("WavePassModel", "readMany", "I", false)
  | 12 => ("WavePassModel", "readKind", "[I", true)
  | 13 => ("WavePassModel", "readHeight", "[I", true)
  | 14 => ("WavePassModel", "letGoes", "I", false)
  | 15 => ("WavePassModel", "firstTaken", "I", false)
  | 16 => ("WavePassModel", "goodTaken", "I", false)
  | 17 => ("WavePassModel", "taken", "[I", true)
  | 18 => ("WavePassModel", "readings", "I", false)
  | 19 => ("WavePassModel", "readUpper", "[I", true)
  | 20 => ("WavePassModel", "readLower", "[I", true)
  | 21 => ("WavePassModel", "readMonths", "[I", true)
  | _ => ("WavePassModel", "readDid", "[Z", true)
def tyX5 : Nat → FieldType := fun k => match k with
  | 0 => .int
  | 1 => .int
  | 2 => .array .int
  | 3 => .array .int
  | 4 => .array .int
  | 5 => .int
  | 6 => .int
  | 7 => .array .int
  | 8 => .array .int
  | 9 => .int
  | 10 => .int
  | 11 => .int
  | 12 => .array .int
  | 13 => .array .int
  | 14 => .int
  | 15 => .int
  | 16 => .int
  | 17 => .array .int
  | 18 => .int
  | 19 => .array .int
  | 20 => .array .int
  | 21 => .array .int
  | _ => .array .boolean
abbrev wsX50 : List Cond := u_ws RX5 TX5 23
theorem nmX5 : ∀ a, a < 23 → ∀ b, b < 23 → a ≠ b → (TX5 a).2.1 ≠ (TX5 b).2.1 := by decide +kernel
theorem tyX5_ok : ∀ k, k < 23 → parseFieldDescriptor (TX5 k).2.2.1 = some (tyX5 k) := by decide +kernel
abbrev cX5_init : ByteArray := prog_7_method_1_code
def yX5_init : MethodName := ⟨RX5, "<init>", "()V"⟩
abbrev cX5_fails : ByteArray := prog_7_method_3_code
def yX5_fails : MethodName := ⟨RX5, "fails", "(I)I"⟩
abbrev cX5_lost : ByteArray := prog_7_method_4_code
def yX5_lost : MethodName := ⟨RX5, "lost", "(I)J"⟩
abbrev cX5_within : ByteArray := prog_7_method_5_code
def yX5_within : MethodName := ⟨RX5, "within", "(III)Z"⟩
abbrev cX5_isSheet : ByteArray := prog_7_method_6_code
def yX5_isSheet : MethodName := ⟨RX5, "isSheet", "(I)Z"⟩
abbrev cX5_isSort : ByteArray := prog_7_method_7_code
def yX5_isSort : MethodName := ⟨RX5, "isSort", "(I)Z"⟩
abbrev cX5_against : ByteArray := prog_7_method_8_code
def yX5_against : MethodName := ⟨RX5, "against", "(IIII)I"⟩
abbrev cX5_isPass : ByteArray := prog_7_method_9_code
def yX5_isPass : MethodName := ⟨RX5, "isPass", "(I)Z"⟩
abbrev cX5_isSet : ByteArray := prog_7_method_10_code
def yX5_isSet : MethodName := ⟨RX5, "isSet", "(I)Z"⟩
abbrev cX5_isDigit : ByteArray := prog_7_method_11_code
def yX5_isDigit : MethodName := ⟨RX5, "isDigit", "(I)Z"⟩
abbrev cX5_isPlace : ByteArray := prog_7_method_12_code
def yX5_isPlace : MethodName := ⟨RX5, "isPlace", "(I)Z"⟩
abbrev cX5_digit : ByteArray := prog_7_method_13_code
def yX5_digit : MethodName := ⟨RX5, "digit", "(I)I"⟩
abbrev cX5_isSign : ByteArray := prog_7_method_14_code
def yX5_isSign : MethodName := ⟨RX5, "isSign", "(II)Z"⟩
abbrev cX5_coast : ByteArray := prog_7_method_15_code
def yX5_coast : MethodName := ⟨RX5, "coast", "(IIII)I"⟩
abbrev cX5_readCoast : ByteArray := prog_7_method_16_code
def yX5_readCoast : MethodName := ⟨RX5, "readCoast", "(I)Z"⟩
abbrev cX5_readPass : ByteArray := prog_7_method_17_code
def yX5_readPass : MethodName := ⟨RX5, "readPass", "(I)Z"⟩
abbrev cX5_ofPass : ByteArray := prog_7_method_18_code
def yX5_ofPass : MethodName := ⟨RX5, "ofPass", "(II)I"⟩
abbrev cX5_trim : ByteArray := prog_7_method_19_code
def yX5_trim : MethodName := ⟨RX5, "trim", "(III)I"⟩
abbrev cX5_slack : ByteArray := prog_7_method_20_code
def yX5_slack : MethodName := ⟨RX5, "slack", "(I)I"⟩
abbrev cX5_lower : ByteArray := prog_7_method_21_code
def yX5_lower : MethodName := ⟨RX5, "lower", "(III)I"⟩
abbrev cX5_worn : ByteArray := prog_7_method_22_code
def yX5_worn : MethodName := ⟨RX5, "worn", "(III)I"⟩
abbrev cX5_apart : ByteArray := prog_7_method_23_code
def yX5_apart : MethodName := ⟨RX5, "apart", "(II)I"⟩
abbrev cX5_offOf : ByteArray := prog_7_method_24_code
def yX5_offOf : MethodName := ⟨RX5, "offOf", "(III)I"⟩
abbrev cX5_isFit : ByteArray := prog_7_method_25_code
def yX5_isFit : MethodName := ⟨RX5, "isFit", "(III)Z"⟩
abbrev cX5_fitsOf : ByteArray := prog_7_method_26_code
def yX5_fitsOf : MethodName := ⟨RX5, "fitsOf", "(II)I"⟩
abbrev cX5_off : ByteArray := prog_7_method_27_code
def yX5_off : MethodName := ⟨RX5, "off", "(III)I"⟩
abbrev cX5_fits : ByteArray := prog_7_method_28_code
def yX5_fits : MethodName := ⟨RX5, "fits", "(II)I"⟩
abbrev cX5_match : ByteArray := prog_7_method_29_code
def yX5_match : MethodName := ⟨RX5, "match", "(II)I"⟩
abbrev cX5_last : ByteArray := prog_7_method_30_code
def yX5_last : MethodName := ⟨RX5, "last", "(I)I"⟩
abbrev cX5_alikeTo : ByteArray := prog_7_method_31_code
def yX5_alikeTo : MethodName := ⟨RX5, "alikeTo", "(I)I"⟩
abbrev cX5_alike : ByteArray := prog_7_method_32_code
def yX5_alike : MethodName := ⟨RX5, "alike", "(I)I"⟩
abbrev cX5_size : ByteArray := prog_7_method_33_code
def yX5_size : MethodName := ⟨RX5, "size", "(I)I"⟩
abbrev cX5_areUnlike : ByteArray := prog_7_method_34_code
def yX5_areUnlike : MethodName := ⟨RX5, "areUnlike", "(I)Z"⟩
abbrev cX5_most : ByteArray := prog_7_method_35_code
def yX5_most : MethodName := ⟨RX5, "most", "()I"⟩
abbrev cX5_goneOf : ByteArray := prog_7_method_36_code
def yX5_goneOf : MethodName := ⟨RX5, "goneOf", "(II)I"⟩
abbrev cX5_letGo : ByteArray := prog_7_method_37_code
def yX5_letGo : MethodName := ⟨RX5, "letGo", "(II)I"⟩
abbrev cX5_fewest : ByteArray := prog_7_method_38_code
def yX5_fewest : MethodName := ⟨RX5, "fewest", "(I)I"⟩
abbrev cX5_voyages : ByteArray := prog_7_method_39_code
def yX5_voyages : MethodName := ⟨RX5, "voyages", "(IIIIII)I"⟩
abbrev cX5_goVoyages : ByteArray := prog_7_method_40_code
def yX5_goVoyages : MethodName := ⟨RX5, "goVoyages", "(III)I"⟩
abbrev cX5_tellVoyages : ByteArray := prog_7_method_41_code
def yX5_tellVoyages : MethodName := ⟨RX5, "tellVoyages", "(I)I"⟩
abbrev cX5_reading : ByteArray := prog_7_method_42_code
def yX5_reading : MethodName := ⟨RX5, "reading", "(IIIZ)I"⟩
abbrev cX5_back : ByteArray := prog_7_method_43_code
def yX5_back : MethodName := ⟨RX5, "back", "(I)I"⟩
abbrev cX5_areSo : ByteArray := prog_7_method_44_code
def yX5_areSo : MethodName := ⟨RX5, "areSo", "()Z"⟩
abbrev cX5_edges : ByteArray := prog_7_method_45_code
def yX5_edges : MethodName := ⟨RX5, "edges", "(II)I"⟩
abbrev cX5_kinds : ByteArray := prog_7_method_46_code
def yX5_kinds : MethodName := ⟨RX5, "kinds", "(I)I"⟩
abbrev cX5_slacks : ByteArray := prog_7_method_47_code
def yX5_slacks : MethodName := ⟨RX5, "slacks", "()I"⟩
abbrev cX5_inLeastTerms : ByteArray := prog_7_method_48_code
def yX5_inLeastTerms : MethodName := ⟨RX5, "inLeastTerms", "(JJI)J"⟩
abbrev cX5_odds : ByteArray := prog_7_method_49_code
def yX5_odds : MethodName := ⟨RX5, "odds", "(III)J"⟩
abbrev cX5_sheet : ByteArray := prog_7_method_50_code
def yX5_sheet : MethodName := ⟨RX5, "sheet", "(III)I"⟩
abbrev cX5_lose : ByteArray := prog_7_method_51_code
def yX5_lose : MethodName := ⟨RX5, "lose", "(I)I"⟩
abbrev cX5_put : ByteArray := prog_7_method_52_code
def yX5_put : MethodName := ⟨RX5, "put", "(III)I"⟩
abbrev cX5_cell : ByteArray := prog_7_method_53_code
def yX5_cell : MethodName := ⟨RX5, "cell", "(III)J"⟩
abbrev cX5_copy : ByteArray := prog_7_method_54_code
def yX5_copy : MethodName := ⟨RX5, "copy", "(IIIII)I"⟩
abbrev cX5_begins : ByteArray := prog_7_method_55_code
def yX5_begins : MethodName := ⟨RX5, "begins", "(I)V"⟩
abbrev cX5_tell : ByteArray := prog_7_method_56_code
def yX5_tell : MethodName := ⟨RX5, "tell", "(I)I"⟩
abbrev cX5_seal : ByteArray := prog_7_method_57_code
def yX5_seal : MethodName := ⟨RX5, "seal", "(I)I"⟩
abbrev cX5_as : ByteArray := prog_7_method_58_code
def yX5_as : MethodName := ⟨RX5, "as", "(II)I"⟩
abbrev cX5_trace : ByteArray := prog_7_method_59_code
def yX5_trace : MethodName := ⟨RX5, "trace", "()I"⟩
abbrev cX5_fault : ByteArray := prog_7_method_60_code
def yX5_fault : MethodName := ⟨RX5, "fault", "()I"⟩
abbrev cX5_many : ByteArray := prog_7_method_61_code
def yX5_many : MethodName := ⟨RX5, "many", "(I)I"⟩
def RJ6 : String := "java/lang/Integer"
def TJ6 : u_T := fun k => match k with
  | _ => ("", "", "", false)
def tyJ6 : Nat → FieldType := fun k => match k with
  | _ => .int
abbrev wsJ60 : List Cond := u_ws RJ6 TJ6 0
theorem nmJ6 : ∀ a, a < 0 → ∀ b, b < 0 → a ≠ b → (TJ6 a).2.1 ≠ (TJ6 b).2.1 := by decide +kernel
theorem tyJ6_ok : ∀ k, k < 0 → parseFieldDescriptor (TJ6 k).2.2.1 = some (tyJ6 k) := by decide +kernel
abbrev cJ6_bitCount_0f7a4 : ByteArray := prog_8_method_49_code
def yJ6_bitCount_0f7a4 : MethodName := ⟨RJ6, "bitCount", "(I)I"⟩
def RJ9 : String := "java/lang/Math"
def TJ9 : u_T := fun k => match k with
  | _ => ("", "", "", false)
def tyJ9 : Nat → FieldType := fun k => match k with
  | _ => .int
abbrev wsJ90 : List Cond := u_ws RJ9 TJ9 0
theorem nmJ9 : ∀ a, a < 0 → ∀ b, b < 0 → a ≠ b → (TJ9 a).2.1 ≠ (TJ9 b).2.1 := by decide +kernel
theorem tyJ9_ok : ∀ k, k < 0 → parseFieldDescriptor (TJ9 k).2.2.1 = some (tyJ9 k) := by decide +kernel
abbrev cJ9_abs_0f7a4 : ByteArray := prog_9_method_59_code
def yJ9_abs_0f7a4 : MethodName := ⟨RJ9, "abs", "(I)I"⟩
abbrev cJ9_max_7cf53 : ByteArray := prog_9_method_65_code
def yJ9_max_7cf53 : MethodName := ⟨RJ9, "max", "(II)I"⟩
abbrev cJ9_min_7cf53 : ByteArray := prog_9_method_69_code
def yJ9_min_7cf53 : MethodName := ⟨RJ9, "min", "(II)I"⟩
def RJ10 : String := "java/lang/System"
def TJ10 : u_T := fun k => match k with
  | _ => ("", "", "", false)
def tyJ10 : Nat → FieldType := fun k => match k with
  | _ => .int
abbrev wsJ100 : List Cond := u_ws RJ10 TJ10 0
theorem nmJ10 : ∀ a, a < 0 → ∀ b, b < 0 → a ≠ b → (TJ10 a).2.1 ≠ (TJ10 b).2.1 := by decide +kernel
theorem tyJ10_ok : ∀ k, k < 0 → parseFieldDescriptor (TJ10 k).2.2.1 = some (tyJ10 k) := by decide +kernel
def RJ7 : String := "java/util/Arrays"
def TJ7 : u_T := fun k => match k with
  | _ => ("", "", "", false)
def tyJ7 : Nat → FieldType := fun k => match k with
  | _ => .int
abbrev wsJ70 : List Cond := u_ws RJ7 TJ7 0
theorem nmJ7 : ∀ a, a < 0 → ∀ b, b < 0 → a ≠ b → (TJ7 a).2.1 ≠ (TJ7 b).2.1 := by decide +kernel
theorem tyJ7_ok : ∀ k, k < 0 → parseFieldDescriptor (TJ7 k).2.2.1 = some (tyJ7 k) := by decide +kernel
abbrev cJ7_fill_53178 : ByteArray := prog_11_method_103_code
def yJ7_fill_53178 : MethodName := ⟨RJ7, "fill", "([II)V"⟩
def RL : String := "WavePassLaw"
abbrev cL_law : ByteArray := code
def yL_law : MethodName := ⟨RL, "law", "([I)Z"⟩
def wsX0_init : List Cond := .code yX0_init cX0_init 1 none :: ([.methodLink RX0 3 objectInit, .instanceMethod objectInit, .code objectInit ⟨#[0xb1]⟩ 1 none, .arrayClass .int, .fieldLink RX0 9 "WavePass$Coast" "kind" "[I", .fieldLink RX0 15 "WavePass$Coast" "height" "[I", .fieldLink RX0 18 "WavePass$Coast" "linked" "[I", .fieldLink RX0 21 "WavePass$Coast" "passes" "I", .fieldLink RX0 25 "WavePass$Coast" "slackNow" "I"] ++ wsX00)
def wsX2_hasCell : List Cond := .code yX2_hasCell cX2_hasCell 2 (some .boolean) :: ([.fieldLink RX2 19 "WavePass$Sheet" "length" "I"] ++ wsX20)
def wsX2_at : List Cond := .code yX2_at cX2_at 2 (some .int) :: ([.fieldLink RX2 9 "WavePass$Sheet" "cells" "[I", .methodLink RX2 28 yX2_hasCell, .instanceMethod yX2_hasCell, .selects RX2 yX2_hasCell yX2_hasCell, .initialized RX2, .code yX2_hasCell cX2_hasCell 2 (some .boolean), .fieldLink RX2 19 "WavePass$Sheet" "length" "I"] ++ wsX20)
def wsX0_isDigit : List Cond := .code yX0_isDigit cX0_isDigit 1 (some .boolean) :: ([])
def wsX0_goesOn : List Cond := .code yX0_goesOn cX0_goesOn 2 (some .boolean) :: ([.methodLink RX0 38 yX0_isDigit, .static yX0_isDigit, .initialized RX0, .code yX0_isDigit cX0_isDigit 1 (some .boolean)])
def wsX0_firstWrongCode : List Cond := .code yX0_firstWrongCode cX0_firstWrongCode 4 (some .int) :: ([.methodLink RX0 28 yX2_at, .instanceMethod yX2_at, .selects RX2 yX2_at yX2_at, .initialized RX2, .code yX2_at cX2_at 2 (some .int), .fieldLink RX2 9 "WavePass$Sheet" "cells" "[I", .methodLink RX2 28 yX2_hasCell, .instanceMethod yX2_hasCell, .selects RX2 yX2_hasCell yX2_hasCell, .code yX2_hasCell cX2_hasCell 2 (some .boolean), .fieldLink RX2 19 "WavePass$Sheet" "length" "I", .methodLink RX0 34 yX0_goesOn, .static yX0_goesOn, .initialized RX0, .code yX0_goesOn cX0_goesOn 2 (some .boolean), .methodLink RX0 38 yX0_isDigit, .static yX0_isDigit, .code yX0_isDigit cX0_isDigit 1 (some .boolean)] ++ wsX20)
def wsX0_kindByLetter : List Cond := .code yX0_kindByLetter cX0_kindByLetter 1 (some .int) :: ([])
def wsX0_hasPass : List Cond := .code yX0_hasPass cX0_hasPass 2 (some .boolean) :: ([.fieldLink RX0 21 "WavePass$Coast" "passes" "I"] ++ wsX00)
def wsX0_setHeight : List Cond := .code yX0_setHeight cX0_setHeight 4 none :: ([.fieldLink RX0 15 "WavePass$Coast" "height" "[I", .methodLink RX0 59 yX0_hasPass, .instanceMethod yX0_hasPass, .selects RX0 yX0_hasPass yX0_hasPass, .initialized RX0, .code yX0_hasPass cX0_hasPass 2 (some .boolean), .fieldLink RX0 21 "WavePass$Coast" "passes" "I"] ++ wsX00)
def wsX0_takeText_r1 : List Cond := [Cond.methodLink RX0 42 Lib.Math.min.name, Cond.static Lib.Math.min.name, Cond.initialized "java/lang/Math", Cond.code Lib.Math.min.name Lib.Math.min.code 2 (some .int), Cond.fieldLink RX0 21 "WavePass$Coast" "passes" "I", Cond.fieldLink RX0 25 "WavePass$Coast" "slackNow" "I", Cond.fieldLink RX0 9 "WavePass$Coast" "kind" "[I", Cond.methodLink RX0 28 yX2_at, Cond.instanceMethod yX2_at, Cond.selects RX2 yX2_at yX2_at, Cond.initialized RX2, Cond.code yX2_at cX2_at 2 (some .int), Cond.fieldLink RX2 9 "WavePass$Sheet" "cells" "[I", Cond.methodLink RX2 28 yX2_hasCell, Cond.instanceMethod yX2_hasCell, Cond.selects RX2 yX2_hasCell yX2_hasCell, Cond.code yX2_hasCell cX2_hasCell 2 (some .boolean), Cond.fieldLink RX2 19 "WavePass$Sheet" "length" "I", Cond.methodLink RX0 48 yX0_kindByLetter, Cond.static yX0_kindByLetter, Cond.initialized RX0, Cond.code yX0_kindByLetter cX0_kindByLetter 1 (some .int), Cond.methodLink RX0 51 yX0_setHeight, Cond.instanceMethod yX0_setHeight]
def wsX0_takeText_r2 : List Cond := [Cond.selects RX0 yX0_setHeight yX0_setHeight, Cond.code yX0_setHeight cX0_setHeight 4 none, Cond.fieldLink RX0 15 "WavePass$Coast" "height" "[I", Cond.methodLink RX0 59 yX0_hasPass, Cond.instanceMethod yX0_hasPass, Cond.selects RX0 yX0_hasPass yX0_hasPass, Cond.code yX0_hasPass cX0_hasPass 2 (some .boolean)]
def wsX0_takeText : List Cond := .code yX0_takeText cX0_takeText 7 none :: ((wsX0_takeText_r1 ++ wsX0_takeText_r2) ++ wsX00 ++ wsX20)
def wsX0_stands : List Cond := .code yX0_stands cX0_stands 1 (some .boolean) :: ([.fieldLink RX0 21 "WavePass$Coast" "passes" "I"] ++ wsX00)
def wsX0_howMany : List Cond := .code yX0_howMany cX0_howMany 1 (some .int) :: ([.fieldLink RX0 21 "WavePass$Coast" "passes" "I"] ++ wsX00)
def wsX0_allPasses : List Cond := .code yX0_allPasses cX0_allPasses 1 (some .int) :: ([.fieldLink RX0 21 "WavePass$Coast" "passes" "I"] ++ wsX00)
def wsX0_isSet : List Cond := .code yX0_isSet cX0_isSet 2 (some .boolean) :: ([.methodLink RX0 55 yX0_allPasses, .instanceMethod yX0_allPasses, .selects RX0 yX0_allPasses yX0_allPasses, .initialized RX0, .code yX0_allPasses cX0_allPasses 1 (some .int), .fieldLink RX0 21 "WavePass$Coast" "passes" "I"] ++ wsX00)
def wsX0_slackNow : List Cond := .code yX0_slackNow cX0_slackNow 1 (some .int) :: ([.fieldLink RX0 25 "WavePass$Coast" "slackNow" "I"] ++ wsX00)
def wsX0_setSlack : List Cond := .code yX0_setSlack cX0_setSlack 2 none :: ([.fieldLink RX0 25 "WavePass$Coast" "slackNow" "I"] ++ wsX00)
def wsX0_kindOf : List Cond := .code yX0_kindOf cX0_kindOf 2 (some .int) :: ([.fieldLink RX0 9 "WavePass$Coast" "kind" "[I", .methodLink RX0 59 yX0_hasPass, .instanceMethod yX0_hasPass, .selects RX0 yX0_hasPass yX0_hasPass, .initialized RX0, .code yX0_hasPass cX0_hasPass 2 (some .boolean), .fieldLink RX0 21 "WavePass$Coast" "passes" "I"] ++ wsX00)
def wsX0_setKind : List Cond := .code yX0_setKind cX0_setKind 3 none :: ([.fieldLink RX0 9 "WavePass$Coast" "kind" "[I", .methodLink RX0 59 yX0_hasPass, .instanceMethod yX0_hasPass, .selects RX0 yX0_hasPass yX0_hasPass, .initialized RX0, .code yX0_hasPass cX0_hasPass 2 (some .boolean), .fieldLink RX0 21 "WavePass$Coast" "passes" "I"] ++ wsX00)
def wsX0_heightOf : List Cond := .code yX0_heightOf cX0_heightOf 3 (some .int) :: ([.fieldLink RX0 15 "WavePass$Coast" "height" "[I", .methodLink RX0 59 yX0_hasPass, .instanceMethod yX0_hasPass, .selects RX0 yX0_hasPass yX0_hasPass, .initialized RX0, .code yX0_hasPass cX0_hasPass 2 (some .boolean), .fieldLink RX0 21 "WavePass$Coast" "passes" "I"] ++ wsX00)
def wsX0_wear : List Cond := .code yX0_wear cX0_wear 2 (some .int) :: ([])
def wsX0_lowerHeight : List Cond := .code yX0_lowerHeight cX0_lowerHeight 4 (some .int) :: ([.methodLink RX0 71 Lib.Math.max.name, .static Lib.Math.max.name, .initialized "java/lang/Math", .code Lib.Math.max.name Lib.Math.max.code 2 (some .int), .methodLink RX0 62 yX0_heightOf, .instanceMethod yX0_heightOf, .selects RX0 yX0_heightOf yX0_heightOf, .initialized RX0, .code yX0_heightOf cX0_heightOf 3 (some .int), .fieldLink RX0 15 "WavePass$Coast" "height" "[I", .methodLink RX0 59 yX0_hasPass, .instanceMethod yX0_hasPass, .selects RX0 yX0_hasPass yX0_hasPass, .code yX0_hasPass cX0_hasPass 2 (some .boolean), .fieldLink RX0 21 "WavePass$Coast" "passes" "I", .methodLink RX0 65 yX0_kindOf, .instanceMethod yX0_kindOf, .selects RX0 yX0_kindOf yX0_kindOf, .code yX0_kindOf cX0_kindOf 2 (some .int), .fieldLink RX0 9 "WavePass$Coast" "kind" "[I", .methodLink RX0 68 yX0_wear, .static yX0_wear, .code yX0_wear cX0_wear 2 (some .int)] ++ wsX00)
def wsX0_apart_r1 : List Cond := [Cond.methodLink RX0 71 Lib.Math.max.name, Cond.static Lib.Math.max.name, Cond.initialized "java/lang/Math", Cond.code Lib.Math.max.name Lib.Math.max.code 2 (some .int), Cond.methodLink RX0 74 Lib.Math.abs.name, Cond.static Lib.Math.abs.name, Cond.code Lib.Math.abs.name Lib.Math.abs.code 1 (some .int), Cond.methodLink RX0 65 yX0_kindOf, Cond.instanceMethod yX0_kindOf, Cond.selects RX0 yX0_kindOf yX0_kindOf, Cond.initialized RX0, Cond.code yX0_kindOf cX0_kindOf 2 (some .int), Cond.fieldLink RX0 9 "WavePass$Coast" "kind" "[I", Cond.methodLink RX0 59 yX0_hasPass, Cond.instanceMethod yX0_hasPass, Cond.selects RX0 yX0_hasPass yX0_hasPass, Cond.code yX0_hasPass cX0_hasPass 2 (some .boolean), Cond.fieldLink RX0 21 "WavePass$Coast" "passes" "I", Cond.methodLink RX0 68 yX0_wear, Cond.static yX0_wear, Cond.code yX0_wear cX0_wear 2 (some .int), Cond.methodLink RX0 62 yX0_heightOf, Cond.instanceMethod yX0_heightOf, Cond.selects RX0 yX0_heightOf yX0_heightOf]
def wsX0_apart_r2 : List Cond := [Cond.code yX0_heightOf cX0_heightOf 3 (some .int), Cond.fieldLink RX0 15 "WavePass$Coast" "height" "[I"]
def wsX0_apart : List Cond := .code yX0_apart cX0_apart 8 (some .int) :: ((wsX0_apart_r1 ++ wsX0_apart_r2) ++ wsX00)
def wsX0_doFit_r1 : List Cond := [Cond.fieldLink RX0 25 "WavePass$Coast" "slackNow" "I", Cond.methodLink RX0 77 yX0_apart, Cond.instanceMethod yX0_apart, Cond.selects RX0 yX0_apart yX0_apart, Cond.initialized RX0, Cond.code yX0_apart cX0_apart 8 (some .int), Cond.methodLink RX0 71 Lib.Math.max.name, Cond.static Lib.Math.max.name, Cond.initialized "java/lang/Math", Cond.code Lib.Math.max.name Lib.Math.max.code 2 (some .int), Cond.methodLink RX0 74 Lib.Math.abs.name, Cond.static Lib.Math.abs.name, Cond.code Lib.Math.abs.name Lib.Math.abs.code 1 (some .int), Cond.methodLink RX0 65 yX0_kindOf, Cond.instanceMethod yX0_kindOf, Cond.selects RX0 yX0_kindOf yX0_kindOf, Cond.code yX0_kindOf cX0_kindOf 2 (some .int), Cond.fieldLink RX0 9 "WavePass$Coast" "kind" "[I", Cond.methodLink RX0 59 yX0_hasPass, Cond.instanceMethod yX0_hasPass, Cond.selects RX0 yX0_hasPass yX0_hasPass, Cond.code yX0_hasPass cX0_hasPass 2 (some .boolean), Cond.fieldLink RX0 21 "WavePass$Coast" "passes" "I", Cond.methodLink RX0 68 yX0_wear]
def wsX0_doFit_r2 : List Cond := [Cond.static yX0_wear, Cond.code yX0_wear cX0_wear 2 (some .int), Cond.methodLink RX0 62 yX0_heightOf, Cond.instanceMethod yX0_heightOf, Cond.selects RX0 yX0_heightOf yX0_heightOf, Cond.code yX0_heightOf cX0_heightOf 3 (some .int), Cond.fieldLink RX0 15 "WavePass$Coast" "height" "[I"]
def wsX0_doFit : List Cond := .code yX0_doFit cX0_doFit 4 (some .boolean) :: ((wsX0_doFit_r1 ++ wsX0_doFit_r2) ++ wsX00)
def wsX4_bitIf : List Cond := .code yX4_bitIf cX4_bitIf 2 (some .int) :: ([])
def wsX0_fitting_r1 : List Cond := [Cond.fieldLink RX0 21 "WavePass$Coast" "passes" "I", Cond.fieldLink RX0 25 "WavePass$Coast" "slackNow" "I", Cond.methodLink RX0 77 yX0_apart, Cond.instanceMethod yX0_apart, Cond.selects RX0 yX0_apart yX0_apart, Cond.initialized RX0, Cond.code yX0_apart cX0_apart 8 (some .int), Cond.methodLink RX0 71 Lib.Math.max.name, Cond.static Lib.Math.max.name, Cond.initialized "java/lang/Math", Cond.code Lib.Math.max.name Lib.Math.max.code 2 (some .int), Cond.methodLink RX0 74 Lib.Math.abs.name, Cond.static Lib.Math.abs.name, Cond.code Lib.Math.abs.name Lib.Math.abs.code 1 (some .int), Cond.methodLink RX0 65 yX0_kindOf, Cond.instanceMethod yX0_kindOf, Cond.selects RX0 yX0_kindOf yX0_kindOf, Cond.code yX0_kindOf cX0_kindOf 2 (some .int), Cond.fieldLink RX0 9 "WavePass$Coast" "kind" "[I", Cond.methodLink RX0 59 yX0_hasPass, Cond.instanceMethod yX0_hasPass, Cond.selects RX0 yX0_hasPass yX0_hasPass, Cond.code yX0_hasPass cX0_hasPass 2 (some .boolean), Cond.methodLink RX0 68 yX0_wear]
def wsX0_fitting_r2 : List Cond := [Cond.static yX0_wear, Cond.code yX0_wear cX0_wear 2 (some .int), Cond.methodLink RX0 62 yX0_heightOf, Cond.instanceMethod yX0_heightOf, Cond.selects RX0 yX0_heightOf yX0_heightOf, Cond.code yX0_heightOf cX0_heightOf 3 (some .int), Cond.fieldLink RX0 15 "WavePass$Coast" "height" "[I", Cond.static yX4_bitIf, Cond.initialized RX4, Cond.code yX4_bitIf cX4_bitIf 2 (some .int)]
def wsX0_fitting : List Cond := .code yX0_fitting cX0_fitting 5 (some .int) :: ((wsX0_fitting_r1 ++ wsX0_fitting_r2) ++ wsX00)
def wsX0_closestFitting_r1 : List Cond := [Cond.fieldLink RX0 25 "WavePass$Coast" "slackNow" "I", Cond.fieldLink RX0 21 "WavePass$Coast" "passes" "I", Cond.methodLink RX0 77 yX0_apart, Cond.instanceMethod yX0_apart, Cond.selects RX0 yX0_apart yX0_apart, Cond.initialized RX0, Cond.code yX0_apart cX0_apart 8 (some .int), Cond.methodLink RX0 71 Lib.Math.max.name, Cond.static Lib.Math.max.name, Cond.initialized "java/lang/Math", Cond.code Lib.Math.max.name Lib.Math.max.code 2 (some .int), Cond.methodLink RX0 74 Lib.Math.abs.name, Cond.static Lib.Math.abs.name, Cond.code Lib.Math.abs.name Lib.Math.abs.code 1 (some .int), Cond.methodLink RX0 65 yX0_kindOf, Cond.instanceMethod yX0_kindOf, Cond.selects RX0 yX0_kindOf yX0_kindOf, Cond.code yX0_kindOf cX0_kindOf 2 (some .int), Cond.fieldLink RX0 9 "WavePass$Coast" "kind" "[I", Cond.methodLink RX0 59 yX0_hasPass, Cond.instanceMethod yX0_hasPass, Cond.selects RX0 yX0_hasPass yX0_hasPass, Cond.code yX0_hasPass cX0_hasPass 2 (some .boolean), Cond.methodLink RX0 68 yX0_wear]
def wsX0_closestFitting_r2 : List Cond := [Cond.static yX0_wear, Cond.code yX0_wear cX0_wear 2 (some .int), Cond.methodLink RX0 62 yX0_heightOf, Cond.instanceMethod yX0_heightOf, Cond.selects RX0 yX0_heightOf yX0_heightOf, Cond.code yX0_heightOf cX0_heightOf 3 (some .int), Cond.fieldLink RX0 15 "WavePass$Coast" "height" "[I"]
def wsX0_closestFitting : List Cond := .code yX0_closestFitting cX0_closestFitting 7 (some .int) :: ((wsX0_closestFitting_r1 ++ wsX0_closestFitting_r2) ++ wsX00)
def wsX0_lastGood_r1 : List Cond := [Cond.methodLink RX0 85 yX0_doFit, Cond.instanceMethod yX0_doFit, Cond.selects RX0 yX0_doFit yX0_doFit, Cond.initialized RX0, Cond.code yX0_doFit cX0_doFit 4 (some .boolean), Cond.fieldLink RX0 25 "WavePass$Coast" "slackNow" "I", Cond.methodLink RX0 77 yX0_apart, Cond.instanceMethod yX0_apart, Cond.selects RX0 yX0_apart yX0_apart, Cond.code yX0_apart cX0_apart 8 (some .int), Cond.methodLink RX0 71 Lib.Math.max.name, Cond.static Lib.Math.max.name, Cond.initialized "java/lang/Math", Cond.code Lib.Math.max.name Lib.Math.max.code 2 (some .int), Cond.methodLink RX0 74 Lib.Math.abs.name, Cond.static Lib.Math.abs.name, Cond.code Lib.Math.abs.name Lib.Math.abs.code 1 (some .int), Cond.methodLink RX0 65 yX0_kindOf, Cond.instanceMethod yX0_kindOf, Cond.selects RX0 yX0_kindOf yX0_kindOf, Cond.code yX0_kindOf cX0_kindOf 2 (some .int), Cond.fieldLink RX0 9 "WavePass$Coast" "kind" "[I", Cond.methodLink RX0 59 yX0_hasPass, Cond.instanceMethod yX0_hasPass]
def wsX0_lastGood_r2 : List Cond := [Cond.selects RX0 yX0_hasPass yX0_hasPass, Cond.code yX0_hasPass cX0_hasPass 2 (some .boolean), Cond.fieldLink RX0 21 "WavePass$Coast" "passes" "I", Cond.methodLink RX0 68 yX0_wear, Cond.static yX0_wear, Cond.code yX0_wear cX0_wear 2 (some .int), Cond.methodLink RX0 62 yX0_heightOf, Cond.instanceMethod yX0_heightOf, Cond.selects RX0 yX0_heightOf yX0_heightOf, Cond.code yX0_heightOf cX0_heightOf 3 (some .int), Cond.fieldLink RX0 15 "WavePass$Coast" "height" "[I"]
def wsX0_lastGood : List Cond := .code yX0_lastGood cX0_lastGood 3 (some .int) :: ((wsX0_lastGood_r1 ++ wsX0_lastGood_r2) ++ wsX00)
def wsX0_areAlike : List Cond := .code yX0_areAlike cX0_areAlike 5 (some .boolean) :: ([.methodLink RX0 74 Lib.Math.abs.name, .static Lib.Math.abs.name, .initialized "java/lang/Math", .code Lib.Math.abs.name Lib.Math.abs.code 1 (some .int), .fieldLink RX0 25 "WavePass$Coast" "slackNow" "I", .methodLink RX0 62 yX0_heightOf, .instanceMethod yX0_heightOf, .selects RX0 yX0_heightOf yX0_heightOf, .initialized RX0, .code yX0_heightOf cX0_heightOf 3 (some .int), .fieldLink RX0 15 "WavePass$Coast" "height" "[I", .methodLink RX0 59 yX0_hasPass, .instanceMethod yX0_hasPass, .selects RX0 yX0_hasPass yX0_hasPass, .code yX0_hasPass cX0_hasPass 2 (some .boolean), .fieldLink RX0 21 "WavePass$Coast" "passes" "I"] ++ wsX00)
def wsX0_likeness : List Cond := .code yX0_likeness cX0_likeness 4 (some .int) :: ([.fieldLink RX0 21 "WavePass$Coast" "passes" "I", .methodLink RX0 89 yX0_areAlike, .instanceMethod yX0_areAlike, .selects RX0 yX0_areAlike yX0_areAlike, .initialized RX0, .code yX0_areAlike cX0_areAlike 5 (some .boolean), .methodLink RX0 74 Lib.Math.abs.name, .static Lib.Math.abs.name, .initialized "java/lang/Math", .code Lib.Math.abs.name Lib.Math.abs.code 1 (some .int), .fieldLink RX0 25 "WavePass$Coast" "slackNow" "I", .methodLink RX0 62 yX0_heightOf, .instanceMethod yX0_heightOf, .selects RX0 yX0_heightOf yX0_heightOf, .code yX0_heightOf cX0_heightOf 3 (some .int), .fieldLink RX0 15 "WavePass$Coast" "height" "[I", .methodLink RX0 59 yX0_hasPass, .instanceMethod yX0_hasPass, .selects RX0 yX0_hasPass yX0_hasPass, .code yX0_hasPass cX0_hasPass 2 (some .boolean), .static yX4_bitIf, .initialized RX4, .code yX4_bitIf cX4_bitIf 2 (some .int)] ++ wsX00)
def wsJ6_bitCount_0f7a4 : List Cond := .code yJ6_bitCount_0f7a4 cJ6_bitCount_0f7a4 1 (some .int) :: ([.constant RJ6 265 (1431655765), .constant RJ6 266 (858993459), .constant RJ6 267 (252645135)])
def wsX0_noneLinkedWithin : List Cond := .code yX0_noneLinkedWithin cX0_noneLinkedWithin 3 (some .boolean) :: ([.fieldLink RX0 21 "WavePass$Coast" "passes" "I", .fieldLink RX0 18 "WavePass$Coast" "linked" "[I"] ++ wsX00)
def wsX0_mostUnlike_r1 : List Cond := [Cond.fieldLink RX0 21 "WavePass$Coast" "passes" "I", Cond.fieldLink RX0 18 "WavePass$Coast" "linked" "[I", Cond.methodLink RX0 92 yX0_likeness, Cond.instanceMethod yX0_likeness, Cond.selects RX0 yX0_likeness yX0_likeness, Cond.initialized RX0, Cond.code yX0_likeness cX0_likeness 4 (some .int), Cond.methodLink RX0 89 yX0_areAlike, Cond.instanceMethod yX0_areAlike, Cond.selects RX0 yX0_areAlike yX0_areAlike, Cond.code yX0_areAlike cX0_areAlike 5 (some .boolean), Cond.methodLink RX0 74 Lib.Math.abs.name, Cond.static Lib.Math.abs.name, Cond.initialized "java/lang/Math", Cond.code Lib.Math.abs.name Lib.Math.abs.code 1 (some .int), Cond.fieldLink RX0 25 "WavePass$Coast" "slackNow" "I", Cond.methodLink RX0 62 yX0_heightOf, Cond.instanceMethod yX0_heightOf, Cond.selects RX0 yX0_heightOf yX0_heightOf, Cond.code yX0_heightOf cX0_heightOf 3 (some .int), Cond.fieldLink RX0 15 "WavePass$Coast" "height" "[I", Cond.methodLink RX0 59 yX0_hasPass, Cond.instanceMethod yX0_hasPass, Cond.selects RX0 yX0_hasPass yX0_hasPass]
def wsX0_mostUnlike_r2 : List Cond := [Cond.code yX0_hasPass cX0_hasPass 2 (some .boolean), Cond.static yX4_bitIf, Cond.initialized RX4, Cond.code yX4_bitIf cX4_bitIf 2 (some .int), Cond.methodLink RX0 55 yX0_allPasses, Cond.instanceMethod yX0_allPasses, Cond.selects RX0 yX0_allPasses yX0_allPasses, Cond.code yX0_allPasses cX0_allPasses 1 (some .int), Cond.methodLink RX0 95 yJ6_bitCount_0f7a4, Cond.static yJ6_bitCount_0f7a4, Cond.initialized RJ6, Cond.code yJ6_bitCount_0f7a4 cJ6_bitCount_0f7a4 1 (some .int), Cond.constant RJ6 265 (1431655765), Cond.constant RJ6 266 (858993459), Cond.constant RJ6 267 (252645135), Cond.methodLink RX0 100 yX0_noneLinkedWithin, Cond.instanceMethod yX0_noneLinkedWithin, Cond.selects RX0 yX0_noneLinkedWithin yX0_noneLinkedWithin, Cond.code yX0_noneLinkedWithin cX0_noneLinkedWithin 3 (some .boolean)]
def wsX0_mostUnlike : List Cond := .code yX0_mostUnlike cX0_mostUnlike 3 (some .int) :: ((wsX0_mostUnlike_r1 ++ wsX0_mostUnlike_r2) ++ wsX00)
def wsX0_layAll_r1 : List Cond := [Cond.fieldLink RX0 21 "WavePass$Coast" "passes" "I", Cond.fieldLink RX0 18 "WavePass$Coast" "linked" "[I", Cond.methodLink RX0 103 yX0_fitting, Cond.instanceMethod yX0_fitting, Cond.selects RX0 yX0_fitting yX0_fitting, Cond.initialized RX0, Cond.code yX0_fitting cX0_fitting 5 (some .int), Cond.fieldLink RX0 25 "WavePass$Coast" "slackNow" "I", Cond.methodLink RX0 77 yX0_apart, Cond.instanceMethod yX0_apart, Cond.selects RX0 yX0_apart yX0_apart, Cond.code yX0_apart cX0_apart 8 (some .int), Cond.methodLink RX0 71 Lib.Math.max.name, Cond.static Lib.Math.max.name, Cond.initialized "java/lang/Math", Cond.code Lib.Math.max.name Lib.Math.max.code 2 (some .int), Cond.methodLink RX0 74 Lib.Math.abs.name, Cond.static Lib.Math.abs.name, Cond.code Lib.Math.abs.name Lib.Math.abs.code 1 (some .int), Cond.methodLink RX0 65 yX0_kindOf, Cond.instanceMethod yX0_kindOf, Cond.selects RX0 yX0_kindOf yX0_kindOf, Cond.code yX0_kindOf cX0_kindOf 2 (some .int), Cond.fieldLink RX0 9 "WavePass$Coast" "kind" "[I"]
def wsX0_layAll_r2 : List Cond := [Cond.methodLink RX0 59 yX0_hasPass, Cond.instanceMethod yX0_hasPass, Cond.selects RX0 yX0_hasPass yX0_hasPass, Cond.code yX0_hasPass cX0_hasPass 2 (some .boolean), Cond.methodLink RX0 68 yX0_wear, Cond.static yX0_wear, Cond.code yX0_wear cX0_wear 2 (some .int), Cond.methodLink RX0 62 yX0_heightOf, Cond.instanceMethod yX0_heightOf, Cond.selects RX0 yX0_heightOf yX0_heightOf, Cond.code yX0_heightOf cX0_heightOf 3 (some .int), Cond.fieldLink RX0 15 "WavePass$Coast" "height" "[I", Cond.static yX4_bitIf, Cond.initialized RX4, Cond.code yX4_bitIf cX4_bitIf 2 (some .int)]
def wsX0_layAll : List Cond := .code yX0_layAll cX0_layAll 3 none :: ((wsX0_layAll_r1 ++ wsX0_layAll_r2) ++ wsX00)
def wsX0_freedBy : List Cond := .code yX0_freedBy cX0_freedBy 4 (some .int) :: ([.fieldLink RX0 21 "WavePass$Coast" "passes" "I", .fieldLink RX0 18 "WavePass$Coast" "linked" "[I", .static yX4_bitIf, .initialized RX4, .code yX4_bitIf cX4_bitIf 2 (some .int)] ++ wsX00)
def wsX0_fewestFreeing : List Cond := .code yX0_fewestFreeing cX0_fewestFreeing 4 (some .int) :: ([.fieldLink RX0 21 "WavePass$Coast" "passes" "I", .methodLink RX0 55 yX0_allPasses, .instanceMethod yX0_allPasses, .selects RX0 yX0_allPasses yX0_allPasses, .initialized RX0, .code yX0_allPasses cX0_allPasses 1 (some .int), .methodLink RX0 95 yJ6_bitCount_0f7a4, .static yJ6_bitCount_0f7a4, .initialized RJ6, .code yJ6_bitCount_0f7a4 cJ6_bitCount_0f7a4 1 (some .int), .constant RJ6 265 (1431655765), .constant RJ6 266 (858993459), .constant RJ6 267 (252645135), .methodLink RX0 106 yX0_freedBy, .instanceMethod yX0_freedBy, .selects RX0 yX0_freedBy yX0_freedBy, .code yX0_freedBy cX0_freedBy 4 (some .int), .fieldLink RX0 18 "WavePass$Coast" "linked" "[I", .static yX4_bitIf, .initialized RX4, .code yX4_bitIf cX4_bitIf 2 (some .int)] ++ wsX00)
def wsX1_init : List Cond := .code yX1_init cX1_init 1 none :: ([.methodLink RX1 3 objectInit, .instanceMethod objectInit, .code objectInit ⟨#[0xb1]⟩ 1 none, .arrayClass .int, .fieldLink RX1 9 "WavePass$Readings" "upper" "[I", .fieldLink RX1 15 "WavePass$Readings" "lower" "[I", .fieldLink RX1 18 "WavePass$Readings" "months" "[I", .arrayClass .boolean, .fieldLink RX1 21 "WavePass$Readings" "did" "[Z", .fieldLink RX1 25 "WavePass$Readings" "count" "I"] ++ wsX10)
def wsX1_howMany : List Cond := .code yX1_howMany cX1_howMany 1 (some .int) :: ([.fieldLink RX1 25 "WavePass$Readings" "count" "I"] ++ wsX10)
def wsX1_append : List Cond := .code yX1_append cX1_append 5 none :: ([.fieldLink RX1 25 "WavePass$Readings" "count" "I", .fieldLink RX1 9 "WavePass$Readings" "upper" "[I", .fieldLink RX1 15 "WavePass$Readings" "lower" "[I", .fieldLink RX1 18 "WavePass$Readings" "months" "[I", .fieldLink RX1 21 "WavePass$Readings" "did" "[Z"] ++ wsX10)
def wsX1_dropLast : List Cond := .code yX1_dropLast cX1_dropLast 2 none :: ([.fieldLink RX1 25 "WavePass$Readings" "count" "I"] ++ wsX10)
def wsX1_areSo_r1 : List Cond := [Cond.fieldLink RX1 25 "WavePass$Readings" "count" "I", Cond.fieldLink RX1 9 "WavePass$Readings" "upper" "[I", Cond.fieldLink RX1 15 "WavePass$Readings" "lower" "[I", Cond.fieldLink RX1 18 "WavePass$Readings" "months" "[I", Cond.fieldLink RX1 21 "WavePass$Readings" "did" "[Z", Cond.methodLink RX1 29 yX0_doFit, Cond.instanceMethod yX0_doFit, Cond.selects RX0 yX0_doFit yX0_doFit, Cond.initialized RX0, Cond.code yX0_doFit cX0_doFit 4 (some .boolean), Cond.fieldLink RX0 25 "WavePass$Coast" "slackNow" "I", Cond.methodLink RX0 77 yX0_apart, Cond.instanceMethod yX0_apart, Cond.selects RX0 yX0_apart yX0_apart, Cond.code yX0_apart cX0_apart 8 (some .int), Cond.methodLink RX0 71 Lib.Math.max.name, Cond.static Lib.Math.max.name, Cond.initialized "java/lang/Math", Cond.code Lib.Math.max.name Lib.Math.max.code 2 (some .int), Cond.methodLink RX0 74 Lib.Math.abs.name, Cond.static Lib.Math.abs.name, Cond.code Lib.Math.abs.name Lib.Math.abs.code 1 (some .int), Cond.methodLink RX0 65 yX0_kindOf, Cond.instanceMethod yX0_kindOf]
def wsX1_areSo_r2 : List Cond := [Cond.selects RX0 yX0_kindOf yX0_kindOf, Cond.code yX0_kindOf cX0_kindOf 2 (some .int), Cond.fieldLink RX0 9 "WavePass$Coast" "kind" "[I", Cond.methodLink RX0 59 yX0_hasPass, Cond.instanceMethod yX0_hasPass, Cond.selects RX0 yX0_hasPass yX0_hasPass, Cond.code yX0_hasPass cX0_hasPass 2 (some .boolean), Cond.fieldLink RX0 21 "WavePass$Coast" "passes" "I", Cond.methodLink RX0 68 yX0_wear, Cond.static yX0_wear, Cond.code yX0_wear cX0_wear 2 (some .int), Cond.methodLink RX0 62 yX0_heightOf, Cond.instanceMethod yX0_heightOf, Cond.selects RX0 yX0_heightOf yX0_heightOf, Cond.code yX0_heightOf cX0_heightOf 3 (some .int), Cond.fieldLink RX0 15 "WavePass$Coast" "height" "[I"]
def wsX1_areSo : List Cond := .code yX1_areSo cX1_areSo 3 (some .boolean) :: ((wsX1_areSo_r1 ++ wsX1_areSo_r2) ++ wsX10 ++ wsX00)
def wsX2_init : List Cond := .code yX2_init cX2_init 1 none :: ([.methodLink RX2 3 objectInit, .instanceMethod objectInit, .code objectInit ⟨#[0xb1]⟩ 1 none, .arrayClass .int, .fieldLink RX2 9 "WavePass$Sheet" "cells" "[I", .fieldLink RX2 15 "WavePass$Sheet" "lane" "I", .fieldLink RX2 19 "WavePass$Sheet" "length" "I"] ++ wsX20)
def wsJ7_fill_53178 : List Cond := .code yJ7_fill_53178 cJ7_fill_53178 4 none :: ([])
def wsX2_begin : List Cond := .code yX2_begin cX2_begin 3 none :: ([.fieldLink RX2 9 "WavePass$Sheet" "cells" "[I", .fieldLink RX2 15 "WavePass$Sheet" "lane" "I", .fieldLink RX2 19 "WavePass$Sheet" "length" "I", .methodLink RX2 22 yJ7_fill_53178, .static yJ7_fill_53178, .initialized RJ7, .code yJ7_fill_53178 cJ7_fill_53178 4 none] ++ wsX20)
def wsX2_drop : List Cond := .code yX2_drop cX2_drop 1 none :: ([.fieldLink RX2 15 "WavePass$Sheet" "lane" "I", .fieldLink RX2 19 "WavePass$Sheet" "length" "I"] ++ wsX20)
def wsX2_hasNothing : List Cond := .code yX2_hasNothing cX2_hasNothing 1 (some .boolean) :: ([.fieldLink RX2 15 "WavePass$Sheet" "lane" "I"] ++ wsX20)
def wsX2_laneNow : List Cond := .code yX2_laneNow cX2_laneNow 1 (some .int) :: ([.fieldLink RX2 15 "WavePass$Sheet" "lane" "I"] ++ wsX20)
def wsX2_isOfAnother : List Cond := .code yX2_isOfAnother cX2_isOfAnother 2 (some .boolean) :: ([.fieldLink RX2 15 "WavePass$Sheet" "lane" "I"] ++ wsX20)
def wsX2_hasCells : List Cond := .code yX2_hasCells cX2_hasCells 3 (some .boolean) :: ([.fieldLink RX2 19 "WavePass$Sheet" "length" "I"] ++ wsX20)
def wsX2_cut : List Cond := .code yX2_cut cX2_cut 2 (some .int) :: ([.fieldLink RX2 15 "WavePass$Sheet" "lane" "I"] ++ wsX20)
def wsX2_write : List Cond := .code yX2_write cX2_write 3 none :: ([.fieldLink RX2 9 "WavePass$Sheet" "cells" "[I", .methodLink RX2 28 yX2_hasCell, .instanceMethod yX2_hasCell, .selects RX2 yX2_hasCell yX2_hasCell, .initialized RX2, .code yX2_hasCell cX2_hasCell 2 (some .boolean), .fieldLink RX2 19 "WavePass$Sheet" "length" "I", .methodLink RX2 32 yX2_cut, .instanceMethod yX2_cut, .selects RX2 yX2_cut yX2_cut, .code yX2_cut cX2_cut 2 (some .int), .fieldLink RX2 15 "WavePass$Sheet" "lane" "I"] ++ wsX20)
def wsX2_takeCells : List Cond := .code yX2_takeCells cX2_takeCells 5 none :: ([.fieldLink RX2 9 "WavePass$Sheet" "cells" "[I", .methodLink RX2 40 arraycopyName, .native arraycopyName, .static arraycopyName, .initialized "java/lang/System", .methodLink RX2 36 yX2_hasCells, .instanceMethod yX2_hasCells, .selects RX2 yX2_hasCells yX2_hasCells, .initialized RX2, .code yX2_hasCells cX2_hasCells 3 (some .boolean), .fieldLink RX2 19 "WavePass$Sheet" "length" "I"] ++ wsX20)
def wsX3_init : List Cond := .code yX3_init cX3_init 1 none :: ([.methodLink RX3 3 objectInit, .instanceMethod objectInit, .code objectInit ⟨#[0xb1]⟩ 1 none, .arrayClass .int, .fieldLink RX3 9 "WavePass$Voyages" "pass" "[I", .fieldLink RX3 15 "WavePass$Voyages" "months" "[I", .fieldLink RX3 18 "WavePass$Voyages" "pairs" "I"] ++ wsX30)
def wsX3_load : List Cond := .code yX3_load cX3_load 5 none :: ([.methodLink RX3 22 Lib.Math.min.name, .static Lib.Math.min.name, .initialized "java/lang/Math", .code Lib.Math.min.name Lib.Math.min.code 2 (some .int), .fieldLink RX3 18 "WavePass$Voyages" "pairs" "I", .fieldLink RX3 9 "WavePass$Voyages" "pass" "[I", .fieldLink RX3 15 "WavePass$Voyages" "months" "[I", .methodLink RX3 28 yX2_at, .instanceMethod yX2_at, .selects RX2 yX2_at yX2_at, .initialized RX2, .code yX2_at cX2_at 2 (some .int), .fieldLink RX2 9 "WavePass$Sheet" "cells" "[I", .methodLink RX2 28 yX2_hasCell, .instanceMethod yX2_hasCell, .selects RX2 yX2_hasCell yX2_hasCell, .code yX2_hasCell cX2_hasCell 2 (some .boolean), .fieldLink RX2 19 "WavePass$Sheet" "length" "I"] ++ wsX30 ++ wsX20)
def wsX3_howMany : List Cond := .code yX3_howMany cX3_howMany 1 (some .int) :: ([.fieldLink RX3 18 "WavePass$Voyages" "pairs" "I"] ++ wsX30)
def wsX4_within : List Cond := .code yX4_within cX4_within 3 (some .boolean) :: ([])
def wsX4_isMonths : List Cond := .code yX4_isMonths cX4_isMonths 1 (some .boolean) :: ([.methodLink RX4 77 yX4_within, .static yX4_within, .initialized RX4, .code yX4_within cX4_within 3 (some .boolean)])
def wsX3_refusal : List Cond := .code yX3_refusal cX3_refusal 3 (some .int) :: ([.fieldLink RX3 18 "WavePass$Voyages" "pairs" "I", .fieldLink RX3 9 "WavePass$Voyages" "pass" "[I", .fieldLink RX3 15 "WavePass$Voyages" "months" "[I", .methodLink RX3 34 yX0_hasPass, .instanceMethod yX0_hasPass, .selects RX0 yX0_hasPass yX0_hasPass, .initialized RX0, .code yX0_hasPass cX0_hasPass 2 (some .boolean), .fieldLink RX0 21 "WavePass$Coast" "passes" "I", .static yX4_isMonths, .initialized RX4, .code yX4_isMonths cX4_isMonths 1 (some .boolean), .methodLink RX4 77 yX4_within, .static yX4_within, .code yX4_within cX4_within 3 (some .boolean)] ++ wsX30 ++ wsX00)
def wsX3_firstWrongPair : List Cond := .code yX3_firstWrongPair cX3_firstWrongPair 2 (some .int) :: ([.fieldLink RX3 18 "WavePass$Voyages" "pairs" "I", .fieldLink RX3 15 "WavePass$Voyages" "months" "[I"] ++ wsX30)
def wsX3_takenBy_r1 : List Cond := [Cond.fieldLink RX3 18 "WavePass$Voyages" "pairs" "I", Cond.fieldLink RX3 9 "WavePass$Voyages" "pass" "[I", Cond.fieldLink RX3 15 "WavePass$Voyages" "months" "[I", Cond.methodLink RX3 43 yX0_fitting, Cond.instanceMethod yX0_fitting, Cond.selects RX0 yX0_fitting yX0_fitting, Cond.initialized RX0, Cond.code yX0_fitting cX0_fitting 5 (some .int), Cond.fieldLink RX0 21 "WavePass$Coast" "passes" "I", Cond.fieldLink RX0 25 "WavePass$Coast" "slackNow" "I", Cond.methodLink RX0 77 yX0_apart, Cond.instanceMethod yX0_apart, Cond.selects RX0 yX0_apart yX0_apart, Cond.code yX0_apart cX0_apart 8 (some .int), Cond.methodLink RX0 71 Lib.Math.max.name, Cond.static Lib.Math.max.name, Cond.initialized "java/lang/Math", Cond.code Lib.Math.max.name Lib.Math.max.code 2 (some .int), Cond.methodLink RX0 74 Lib.Math.abs.name, Cond.static Lib.Math.abs.name, Cond.code Lib.Math.abs.name Lib.Math.abs.code 1 (some .int), Cond.methodLink RX0 65 yX0_kindOf, Cond.instanceMethod yX0_kindOf, Cond.selects RX0 yX0_kindOf yX0_kindOf]
def wsX3_takenBy_r2 : List Cond := [Cond.code yX0_kindOf cX0_kindOf 2 (some .int), Cond.fieldLink RX0 9 "WavePass$Coast" "kind" "[I", Cond.methodLink RX0 59 yX0_hasPass, Cond.instanceMethod yX0_hasPass, Cond.selects RX0 yX0_hasPass yX0_hasPass, Cond.code yX0_hasPass cX0_hasPass 2 (some .boolean), Cond.methodLink RX0 68 yX0_wear, Cond.static yX0_wear, Cond.code yX0_wear cX0_wear 2 (some .int), Cond.methodLink RX0 62 yX0_heightOf, Cond.instanceMethod yX0_heightOf, Cond.selects RX0 yX0_heightOf yX0_heightOf, Cond.code yX0_heightOf cX0_heightOf 3 (some .int), Cond.fieldLink RX0 15 "WavePass$Coast" "height" "[I", Cond.static yX4_bitIf, Cond.initialized RX4, Cond.code yX4_bitIf cX4_bitIf 2 (some .int)]
def wsX3_takenBy : List Cond := .code yX3_takenBy cX3_takenBy 5 (some .int) :: ((wsX3_takenBy_r1 ++ wsX3_takenBy_r2) ++ wsX30 ++ wsX00)
def wsX3_firstOf : List Cond := .code yX3_firstOf cX3_firstOf 3 (some .int) :: ([.fieldLink RX3 18 "WavePass$Voyages" "pairs" "I"] ++ wsX30)
def wsX3_goodOnes_r1 : List Cond := [Cond.fieldLink RX3 18 "WavePass$Voyages" "pairs" "I", Cond.fieldLink RX3 9 "WavePass$Voyages" "pass" "[I", Cond.fieldLink RX3 15 "WavePass$Voyages" "months" "[I", Cond.methodLink RX3 50 yX0_doFit, Cond.instanceMethod yX0_doFit, Cond.selects RX0 yX0_doFit yX0_doFit, Cond.initialized RX0, Cond.code yX0_doFit cX0_doFit 4 (some .boolean), Cond.fieldLink RX0 25 "WavePass$Coast" "slackNow" "I", Cond.methodLink RX0 77 yX0_apart, Cond.instanceMethod yX0_apart, Cond.selects RX0 yX0_apart yX0_apart, Cond.code yX0_apart cX0_apart 8 (some .int), Cond.methodLink RX0 71 Lib.Math.max.name, Cond.static Lib.Math.max.name, Cond.initialized "java/lang/Math", Cond.code Lib.Math.max.name Lib.Math.max.code 2 (some .int), Cond.methodLink RX0 74 Lib.Math.abs.name, Cond.static Lib.Math.abs.name, Cond.code Lib.Math.abs.name Lib.Math.abs.code 1 (some .int), Cond.methodLink RX0 65 yX0_kindOf, Cond.instanceMethod yX0_kindOf, Cond.selects RX0 yX0_kindOf yX0_kindOf, Cond.code yX0_kindOf cX0_kindOf 2 (some .int)]
def wsX3_goodOnes_r2 : List Cond := [Cond.fieldLink RX0 9 "WavePass$Coast" "kind" "[I", Cond.methodLink RX0 59 yX0_hasPass, Cond.instanceMethod yX0_hasPass, Cond.selects RX0 yX0_hasPass yX0_hasPass, Cond.code yX0_hasPass cX0_hasPass 2 (some .boolean), Cond.fieldLink RX0 21 "WavePass$Coast" "passes" "I", Cond.methodLink RX0 68 yX0_wear, Cond.static yX0_wear, Cond.code yX0_wear cX0_wear 2 (some .int), Cond.methodLink RX0 62 yX0_heightOf, Cond.instanceMethod yX0_heightOf, Cond.selects RX0 yX0_heightOf yX0_heightOf, Cond.code yX0_heightOf cX0_heightOf 3 (some .int), Cond.fieldLink RX0 15 "WavePass$Coast" "height" "[I", Cond.static yX4_bitIf, Cond.initialized RX4, Cond.code yX4_bitIf cX4_bitIf 2 (some .int)]
def wsX3_goodOnes : List Cond := .code yX3_goodOnes cX3_goodOnes 4 (some .int) :: ((wsX3_goodOnes_r1 ++ wsX3_goodOnes_r2) ++ wsX30 ++ wsX00)
def wsX3_onesOf : List Cond := .code yX3_onesOf cX3_onesOf 4 (some .int) :: ([.fieldLink RX3 18 "WavePass$Voyages" "pairs" "I", .fieldLink RX3 9 "WavePass$Voyages" "pass" "[I", .static yX4_bitIf, .initialized RX4, .code yX4_bitIf cX4_bitIf 2 (some .int)] ++ wsX30)
def wsX4_init_r1 : List Cond := [Cond.methodLink RX4 3 objectInit, Cond.instanceMethod objectInit, Cond.code objectInit ⟨#[0xb1]⟩ 1 none, Cond.classLink RX4 11 RX2, Cond.fieldLink RX4 13 "WavePass" "sheets" "[LWavePass$Sheet;", Cond.classLink RX4 17 RX0, Cond.instantiable RX0 5, Cond.initialized RX0, Cond.fieldLink RX4 20 "WavePass" "shore" "LWavePass$Coast;", Cond.classLink RX4 24 RX3, Cond.instantiable RX3 3, Cond.initialized RX3, Cond.fieldLink RX4 27 "WavePass" "told" "LWavePass$Voyages;", Cond.classLink RX4 31 RX1, Cond.instantiable RX1 5, Cond.initialized RX1, Cond.fieldLink RX4 34 "WavePass" "read" "LWavePass$Readings;", Cond.fieldLink RX4 38 "WavePass" "traced" "I", Cond.fieldLink RX4 42 "WavePass" "latestFault" "I", Cond.instantiable RX2 3, Cond.initialized RX2, Cond.instanceMethod yX0_init, Cond.code yX0_init cX0_init 1 none, Cond.methodLink RX0 3 objectInit]
def wsX4_init_r2 : List Cond := [Cond.arrayClass .int, Cond.fieldLink RX0 9 "WavePass$Coast" "kind" "[I", Cond.fieldLink RX0 15 "WavePass$Coast" "height" "[I", Cond.fieldLink RX0 18 "WavePass$Coast" "linked" "[I", Cond.fieldLink RX0 21 "WavePass$Coast" "passes" "I", Cond.fieldLink RX0 25 "WavePass$Coast" "slackNow" "I", Cond.instanceMethod yX3_init, Cond.code yX3_init cX3_init 1 none, Cond.methodLink RX3 3 objectInit, Cond.fieldLink RX3 9 "WavePass$Voyages" "pass" "[I", Cond.fieldLink RX3 15 "WavePass$Voyages" "months" "[I", Cond.fieldLink RX3 18 "WavePass$Voyages" "pairs" "I", Cond.instanceMethod yX1_init, Cond.code yX1_init cX1_init 1 none, Cond.methodLink RX1 3 objectInit, Cond.fieldLink RX1 9 "WavePass$Readings" "upper" "[I", Cond.fieldLink RX1 15 "WavePass$Readings" "lower" "[I", Cond.fieldLink RX1 18 "WavePass$Readings" "months" "[I", Cond.arrayClass .boolean, Cond.fieldLink RX1 21 "WavePass$Readings" "did" "[Z", Cond.fieldLink RX1 25 "WavePass$Readings" "count" "I", Cond.instanceMethod yX2_init, Cond.code yX2_init cX2_init 1 none, Cond.methodLink RX2 3 objectInit]
def wsX4_init_r3 : List Cond := [Cond.fieldLink RX2 9 "WavePass$Sheet" "cells" "[I", Cond.fieldLink RX2 15 "WavePass$Sheet" "lane" "I", Cond.fieldLink RX2 19 "WavePass$Sheet" "length" "I"]
def wsX4_init : List Cond := .code yX4_init cX4_init 2 none :: ((wsX4_init_r1 ++ (wsX4_init_r2 ++ wsX4_init_r3)) ++ wsX40 ++ wsX00 ++ wsX30 ++ wsX10 ++ wsX20)
def wsX4_isSheet : List Cond := .code yX4_isSheet cX4_isSheet 1 (some .boolean) :: ([.methodLink RX4 77 yX4_within, .static yX4_within, .initialized RX4, .code yX4_within cX4_within 3 (some .boolean)])
def wsX4_isLane : List Cond := .code yX4_isLane cX4_isLane 1 (some .boolean) :: ([.methodLink RX4 77 yX4_within, .static yX4_within, .initialized RX4, .code yX4_within cX4_within 3 (some .boolean)])
def wsX4_faultOfRow : List Cond := .code yX4_faultOfRow cX4_faultOfRow 2 (some .int) :: ([.methodLink RX4 208 yX2_hasNothing, .instanceMethod yX2_hasNothing, .selects RX2 yX2_hasNothing yX2_hasNothing, .initialized RX2, .code yX2_hasNothing cX2_hasNothing 1 (some .boolean), .fieldLink RX2 15 "WavePass$Sheet" "lane" "I", .methodLink RX4 230 yX2_isOfAnother, .instanceMethod yX2_isOfAnother, .selects RX2 yX2_isOfAnother yX2_isOfAnother, .code yX2_isOfAnother cX2_isOfAnother 2 (some .boolean)] ++ wsX20)
def wsX4_faultOfCells : List Cond := .code yX4_faultOfCells cX4_faultOfCells 5 (some .int) :: ([.methodLink RX4 220 yX4_faultOfRow, .static yX4_faultOfRow, .initialized RX4, .code yX4_faultOfRow cX4_faultOfRow 2 (some .int), .methodLink RX4 208 yX2_hasNothing, .instanceMethod yX2_hasNothing, .selects RX2 yX2_hasNothing yX2_hasNothing, .initialized RX2, .code yX2_hasNothing cX2_hasNothing 1 (some .boolean), .fieldLink RX2 15 "WavePass$Sheet" "lane" "I", .methodLink RX4 230 yX2_isOfAnother, .instanceMethod yX2_isOfAnother, .selects RX2 yX2_isOfAnother yX2_isOfAnother, .code yX2_isOfAnother cX2_isOfAnother 2 (some .boolean), .methodLink RX4 233 yX2_hasCells, .instanceMethod yX2_hasCells, .selects RX2 yX2_hasCells yX2_hasCells, .code yX2_hasCells cX2_hasCells 3 (some .boolean), .fieldLink RX2 19 "WavePass$Sheet" "length" "I"] ++ wsX20)
def wsX4_faultOfText : List Cond := .code yX4_faultOfText cX4_faultOfText 5 (some .int) :: ([.methodLink RX4 146 yX4_faultOfCells, .static yX4_faultOfCells, .initialized RX4, .code yX4_faultOfCells cX4_faultOfCells 5 (some .int), .methodLink RX4 220 yX4_faultOfRow, .static yX4_faultOfRow, .code yX4_faultOfRow cX4_faultOfRow 2 (some .int), .methodLink RX4 208 yX2_hasNothing, .instanceMethod yX2_hasNothing, .selects RX2 yX2_hasNothing yX2_hasNothing, .initialized RX2, .code yX2_hasNothing cX2_hasNothing 1 (some .boolean), .fieldLink RX2 15 "WavePass$Sheet" "lane" "I", .methodLink RX4 230 yX2_isOfAnother, .instanceMethod yX2_isOfAnother, .selects RX2 yX2_isOfAnother yX2_isOfAnother, .code yX2_isOfAnother cX2_isOfAnother 2 (some .boolean), .methodLink RX4 233 yX2_hasCells, .instanceMethod yX2_hasCells, .selects RX2 yX2_hasCells yX2_hasCells, .code yX2_hasCells cX2_hasCells 3 (some .boolean), .fieldLink RX2 19 "WavePass$Sheet" "length" "I"] ++ wsX20)
def wsX4_coast_r1 : List Cond := [Cond.fieldLink RX4 42 "WavePass" "latestFault" "I", Cond.fieldLink RX4 13 "WavePass" "sheets" "[LWavePass$Sheet;", Cond.fieldLink RX4 20 "WavePass" "shore" "LWavePass$Coast;", Cond.fieldLink RX4 34 "WavePass" "read" "LWavePass$Readings;", Cond.methodLink RX4 46 yX4_isSheet, Cond.static yX4_isSheet, Cond.initialized RX4, Cond.code yX4_isSheet cX4_isSheet 1 (some .boolean), Cond.methodLink RX4 77 yX4_within, Cond.static yX4_within, Cond.code yX4_within cX4_within 3 (some .boolean), Cond.methodLink RX4 50 yX4_isLane, Cond.static yX4_isLane, Cond.code yX4_isLane cX4_isLane 1 (some .boolean), Cond.methodLink RX4 53 yX4_faultOfText, Cond.static yX4_faultOfText, Cond.code yX4_faultOfText cX4_faultOfText 5 (some .int), Cond.methodLink RX4 146 yX4_faultOfCells, Cond.static yX4_faultOfCells, Cond.code yX4_faultOfCells cX4_faultOfCells 5 (some .int), Cond.methodLink RX4 220 yX4_faultOfRow, Cond.static yX4_faultOfRow, Cond.code yX4_faultOfRow cX4_faultOfRow 2 (some .int), Cond.methodLink RX4 208 yX2_hasNothing]
def wsX4_coast_r2 : List Cond := [Cond.instanceMethod yX2_hasNothing, Cond.selects RX2 yX2_hasNothing yX2_hasNothing, Cond.initialized RX2, Cond.code yX2_hasNothing cX2_hasNothing 1 (some .boolean), Cond.fieldLink RX2 15 "WavePass$Sheet" "lane" "I", Cond.methodLink RX4 230 yX2_isOfAnother, Cond.instanceMethod yX2_isOfAnother, Cond.selects RX2 yX2_isOfAnother yX2_isOfAnother, Cond.code yX2_isOfAnother cX2_isOfAnother 2 (some .boolean), Cond.methodLink RX4 233 yX2_hasCells, Cond.instanceMethod yX2_hasCells, Cond.selects RX2 yX2_hasCells yX2_hasCells, Cond.code yX2_hasCells cX2_hasCells 3 (some .boolean), Cond.fieldLink RX2 19 "WavePass$Sheet" "length" "I", Cond.methodLink RX4 57 yX0_firstWrongCode, Cond.static yX0_firstWrongCode, Cond.initialized RX0, Cond.code yX0_firstWrongCode cX0_firstWrongCode 4 (some .int), Cond.methodLink RX0 28 yX2_at, Cond.instanceMethod yX2_at, Cond.selects RX2 yX2_at yX2_at, Cond.code yX2_at cX2_at 2 (some .int), Cond.fieldLink RX2 9 "WavePass$Sheet" "cells" "[I", Cond.methodLink RX2 28 yX2_hasCell]
def wsX4_coast_r3 : List Cond := [Cond.instanceMethod yX2_hasCell, Cond.selects RX2 yX2_hasCell yX2_hasCell, Cond.code yX2_hasCell cX2_hasCell 2 (some .boolean), Cond.methodLink RX0 34 yX0_goesOn, Cond.static yX0_goesOn, Cond.code yX0_goesOn cX0_goesOn 2 (some .boolean), Cond.methodLink RX0 38 yX0_isDigit, Cond.static yX0_isDigit, Cond.code yX0_isDigit cX0_isDigit 1 (some .boolean), Cond.methodLink RX4 61 yX0_takeText, Cond.instanceMethod yX0_takeText, Cond.selects RX0 yX0_takeText yX0_takeText, Cond.code yX0_takeText cX0_takeText 7 none, Cond.methodLink RX0 42 Lib.Math.min.name, Cond.static Lib.Math.min.name, Cond.initialized "java/lang/Math", Cond.code Lib.Math.min.name Lib.Math.min.code 2 (some .int), Cond.fieldLink RX0 21 "WavePass$Coast" "passes" "I", Cond.fieldLink RX0 25 "WavePass$Coast" "slackNow" "I", Cond.fieldLink RX0 9 "WavePass$Coast" "kind" "[I", Cond.methodLink RX0 48 yX0_kindByLetter, Cond.static yX0_kindByLetter, Cond.code yX0_kindByLetter cX0_kindByLetter 1 (some .int), Cond.methodLink RX0 51 yX0_setHeight]
def wsX4_coast_r4 : List Cond := [Cond.instanceMethod yX0_setHeight, Cond.selects RX0 yX0_setHeight yX0_setHeight, Cond.code yX0_setHeight cX0_setHeight 4 none, Cond.fieldLink RX0 15 "WavePass$Coast" "height" "[I", Cond.methodLink RX0 59 yX0_hasPass, Cond.instanceMethod yX0_hasPass, Cond.selects RX0 yX0_hasPass yX0_hasPass, Cond.code yX0_hasPass cX0_hasPass 2 (some .boolean), Cond.methodLink RX4 65 yX1_howMany, Cond.instanceMethod yX1_howMany, Cond.selects RX1 yX1_howMany yX1_howMany, Cond.initialized RX1, Cond.code yX1_howMany cX1_howMany 1 (some .int), Cond.fieldLink RX1 25 "WavePass$Readings" "count" "I", Cond.methodLink RX4 69 yX1_dropLast, Cond.instanceMethod yX1_dropLast, Cond.selects RX1 yX1_dropLast yX1_dropLast, Cond.code yX1_dropLast cX1_dropLast 2 none, Cond.methodLink RX4 73 yX0_howMany, Cond.instanceMethod yX0_howMany, Cond.selects RX0 yX0_howMany yX0_howMany, Cond.code yX0_howMany cX0_howMany 1 (some .int)]
def wsX4_coast : List Cond := .code yX4_coast cX4_coast 6 (some .int) :: ((wsX4_coast_r1 ++ (wsX4_coast_r2 ++ (wsX4_coast_r3 ++ wsX4_coast_r4))) ++ wsX40 ++ wsX20 ++ wsX00 ++ wsX10)
def wsX4_ofPass : List Cond := .code yX4_ofPass cX4_ofPass 3 (some .int) :: ([.fieldLink RX4 20 "WavePass" "shore" "LWavePass$Coast;", .methodLink RX4 74 yX0_hasPass, .instanceMethod yX0_hasPass, .selects RX0 yX0_hasPass yX0_hasPass, .initialized RX0, .code yX0_hasPass cX0_hasPass 2 (some .boolean), .fieldLink RX0 21 "WavePass$Coast" "passes" "I", .methodLink RX4 77 yX4_within, .static yX4_within, .initialized RX4, .code yX4_within cX4_within 3 (some .boolean), .methodLink RX4 81 yX0_kindOf, .instanceMethod yX0_kindOf, .selects RX0 yX0_kindOf yX0_kindOf, .code yX0_kindOf cX0_kindOf 2 (some .int), .fieldLink RX0 9 "WavePass$Coast" "kind" "[I", .methodLink RX0 59 yX0_hasPass, .methodLink RX4 85 yX0_heightOf, .instanceMethod yX0_heightOf, .selects RX0 yX0_heightOf yX0_heightOf, .code yX0_heightOf cX0_heightOf 3 (some .int), .fieldLink RX0 15 "WavePass$Coast" "height" "[I"] ++ wsX40 ++ wsX00)
def wsX4_isPlace : List Cond := .code yX4_isPlace cX4_isPlace 1 (some .boolean) :: ([.methodLink RX4 77 yX4_within, .static yX4_within, .initialized RX4, .code yX4_within cX4_within 3 (some .boolean)])
def wsX4_trim : List Cond := .code yX4_trim cX4_trim 5 (some .int) :: ([.fieldLink RX4 20 "WavePass" "shore" "LWavePass$Coast;", .methodLink RX4 74 yX0_hasPass, .instanceMethod yX0_hasPass, .selects RX0 yX0_hasPass yX0_hasPass, .initialized RX0, .code yX0_hasPass cX0_hasPass 2 (some .boolean), .fieldLink RX0 21 "WavePass$Coast" "passes" "I", .methodLink RX4 89 yX4_isPlace, .static yX4_isPlace, .initialized RX4, .code yX4_isPlace cX4_isPlace 1 (some .boolean), .methodLink RX4 77 yX4_within, .static yX4_within, .code yX4_within cX4_within 3 (some .boolean), .methodLink RX4 85 yX0_heightOf, .instanceMethod yX0_heightOf, .selects RX0 yX0_heightOf yX0_heightOf, .code yX0_heightOf cX0_heightOf 3 (some .int), .fieldLink RX0 15 "WavePass$Coast" "height" "[I", .methodLink RX0 59 yX0_hasPass, .methodLink RX4 92 yX0_setHeight, .instanceMethod yX0_setHeight, .selects RX0 yX0_setHeight yX0_setHeight, .code yX0_setHeight cX0_setHeight 4 none] ++ wsX40 ++ wsX00)
def wsX4_slack : List Cond := .code yX4_slack cX4_slack 3 (some .int) :: ([.fieldLink RX4 20 "WavePass" "shore" "LWavePass$Coast;", .methodLink RX4 77 yX4_within, .static yX4_within, .initialized RX4, .code yX4_within cX4_within 3 (some .boolean), .methodLink RX4 96 yX0_stands, .instanceMethod yX0_stands, .selects RX0 yX0_stands yX0_stands, .initialized RX0, .code yX0_stands cX0_stands 1 (some .boolean), .fieldLink RX0 21 "WavePass$Coast" "passes" "I", .methodLink RX4 100 yX0_slackNow, .instanceMethod yX0_slackNow, .selects RX0 yX0_slackNow yX0_slackNow, .code yX0_slackNow cX0_slackNow 1 (some .int), .fieldLink RX0 25 "WavePass$Coast" "slackNow" "I", .methodLink RX4 103 yX0_setSlack, .instanceMethod yX0_setSlack, .selects RX0 yX0_setSlack yX0_setSlack, .code yX0_setSlack cX0_setSlack 2 none] ++ wsX40 ++ wsX00)
def wsX4_worn_r1 : List Cond := [Cond.fieldLink RX4 20 "WavePass" "shore" "LWavePass$Coast;", Cond.methodLink RX4 74 yX0_hasPass, Cond.instanceMethod yX0_hasPass, Cond.selects RX0 yX0_hasPass yX0_hasPass, Cond.initialized RX0, Cond.code yX0_hasPass cX0_hasPass 2 (some .boolean), Cond.fieldLink RX0 21 "WavePass$Coast" "passes" "I", Cond.methodLink RX4 89 yX4_isPlace, Cond.static yX4_isPlace, Cond.initialized RX4, Cond.code yX4_isPlace cX4_isPlace 1 (some .boolean), Cond.methodLink RX4 77 yX4_within, Cond.static yX4_within, Cond.code yX4_within cX4_within 3 (some .boolean), Cond.methodLink RX4 106 yX4_isMonths, Cond.static yX4_isMonths, Cond.code yX4_isMonths cX4_isMonths 1 (some .boolean), Cond.methodLink RX4 109 yX0_lowerHeight, Cond.instanceMethod yX0_lowerHeight, Cond.selects RX0 yX0_lowerHeight yX0_lowerHeight, Cond.code yX0_lowerHeight cX0_lowerHeight 4 (some .int), Cond.methodLink RX0 71 Lib.Math.max.name, Cond.static Lib.Math.max.name, Cond.initialized "java/lang/Math"]
def wsX4_worn_r2 : List Cond := [Cond.code Lib.Math.max.name Lib.Math.max.code 2 (some .int), Cond.methodLink RX0 62 yX0_heightOf, Cond.instanceMethod yX0_heightOf, Cond.selects RX0 yX0_heightOf yX0_heightOf, Cond.code yX0_heightOf cX0_heightOf 3 (some .int), Cond.fieldLink RX0 15 "WavePass$Coast" "height" "[I", Cond.methodLink RX0 59 yX0_hasPass, Cond.methodLink RX0 65 yX0_kindOf, Cond.instanceMethod yX0_kindOf, Cond.selects RX0 yX0_kindOf yX0_kindOf, Cond.code yX0_kindOf cX0_kindOf 2 (some .int), Cond.fieldLink RX0 9 "WavePass$Coast" "kind" "[I", Cond.methodLink RX0 68 yX0_wear, Cond.static yX0_wear, Cond.code yX0_wear cX0_wear 2 (some .int)]
def wsX4_worn : List Cond := .code yX4_worn cX4_worn 4 (some .int) :: ((wsX4_worn_r1 ++ wsX4_worn_r2) ++ wsX40 ++ wsX00)
def wsX4_off_r1 : List Cond := [Cond.fieldLink RX4 20 "WavePass" "shore" "LWavePass$Coast;", Cond.methodLink RX4 74 yX0_hasPass, Cond.instanceMethod yX0_hasPass, Cond.selects RX0 yX0_hasPass yX0_hasPass, Cond.initialized RX0, Cond.code yX0_hasPass cX0_hasPass 2 (some .boolean), Cond.fieldLink RX0 21 "WavePass$Coast" "passes" "I", Cond.methodLink RX4 106 yX4_isMonths, Cond.static yX4_isMonths, Cond.initialized RX4, Cond.code yX4_isMonths cX4_isMonths 1 (some .boolean), Cond.methodLink RX4 77 yX4_within, Cond.static yX4_within, Cond.code yX4_within cX4_within 3 (some .boolean), Cond.methodLink RX4 113 yX0_apart, Cond.instanceMethod yX0_apart, Cond.selects RX0 yX0_apart yX0_apart, Cond.code yX0_apart cX0_apart 8 (some .int), Cond.methodLink RX0 71 Lib.Math.max.name, Cond.static Lib.Math.max.name, Cond.initialized "java/lang/Math", Cond.code Lib.Math.max.name Lib.Math.max.code 2 (some .int), Cond.methodLink RX0 74 Lib.Math.abs.name, Cond.static Lib.Math.abs.name]
def wsX4_off_r2 : List Cond := [Cond.code Lib.Math.abs.name Lib.Math.abs.code 1 (some .int), Cond.methodLink RX0 65 yX0_kindOf, Cond.instanceMethod yX0_kindOf, Cond.selects RX0 yX0_kindOf yX0_kindOf, Cond.code yX0_kindOf cX0_kindOf 2 (some .int), Cond.fieldLink RX0 9 "WavePass$Coast" "kind" "[I", Cond.methodLink RX0 59 yX0_hasPass, Cond.methodLink RX0 68 yX0_wear, Cond.static yX0_wear, Cond.code yX0_wear cX0_wear 2 (some .int), Cond.methodLink RX0 62 yX0_heightOf, Cond.instanceMethod yX0_heightOf, Cond.selects RX0 yX0_heightOf yX0_heightOf, Cond.code yX0_heightOf cX0_heightOf 3 (some .int), Cond.fieldLink RX0 15 "WavePass$Coast" "height" "[I"]
def wsX4_off : List Cond := .code yX4_off cX4_off 4 (some .int) :: ((wsX4_off_r1 ++ wsX4_off_r2) ++ wsX40 ++ wsX00)
def wsX4_fits_r1 : List Cond := [Cond.fieldLink RX4 20 "WavePass" "shore" "LWavePass$Coast;", Cond.methodLink RX4 74 yX0_hasPass, Cond.instanceMethod yX0_hasPass, Cond.selects RX0 yX0_hasPass yX0_hasPass, Cond.initialized RX0, Cond.code yX0_hasPass cX0_hasPass 2 (some .boolean), Cond.fieldLink RX0 21 "WavePass$Coast" "passes" "I", Cond.methodLink RX4 106 yX4_isMonths, Cond.static yX4_isMonths, Cond.initialized RX4, Cond.code yX4_isMonths cX4_isMonths 1 (some .boolean), Cond.methodLink RX4 77 yX4_within, Cond.static yX4_within, Cond.code yX4_within cX4_within 3 (some .boolean), Cond.methodLink RX4 116 yX0_fitting, Cond.instanceMethod yX0_fitting, Cond.selects RX0 yX0_fitting yX0_fitting, Cond.code yX0_fitting cX0_fitting 5 (some .int), Cond.fieldLink RX0 25 "WavePass$Coast" "slackNow" "I", Cond.methodLink RX0 77 yX0_apart, Cond.instanceMethod yX0_apart, Cond.selects RX0 yX0_apart yX0_apart, Cond.code yX0_apart cX0_apart 8 (some .int), Cond.methodLink RX0 71 Lib.Math.max.name]
def wsX4_fits_r2 : List Cond := [Cond.static Lib.Math.max.name, Cond.initialized "java/lang/Math", Cond.code Lib.Math.max.name Lib.Math.max.code 2 (some .int), Cond.methodLink RX0 74 Lib.Math.abs.name, Cond.static Lib.Math.abs.name, Cond.code Lib.Math.abs.name Lib.Math.abs.code 1 (some .int), Cond.methodLink RX0 65 yX0_kindOf, Cond.instanceMethod yX0_kindOf, Cond.selects RX0 yX0_kindOf yX0_kindOf, Cond.code yX0_kindOf cX0_kindOf 2 (some .int), Cond.fieldLink RX0 9 "WavePass$Coast" "kind" "[I", Cond.methodLink RX0 59 yX0_hasPass, Cond.methodLink RX0 68 yX0_wear, Cond.static yX0_wear, Cond.code yX0_wear cX0_wear 2 (some .int), Cond.methodLink RX0 62 yX0_heightOf, Cond.instanceMethod yX0_heightOf, Cond.selects RX0 yX0_heightOf yX0_heightOf, Cond.code yX0_heightOf cX0_heightOf 3 (some .int), Cond.fieldLink RX0 15 "WavePass$Coast" "height" "[I", Cond.static yX4_bitIf, Cond.code yX4_bitIf cX4_bitIf 2 (some .int)]
def wsX4_fits : List Cond := .code yX4_fits cX4_fits 3 (some .int) :: ((wsX4_fits_r1 ++ wsX4_fits_r2) ++ wsX40 ++ wsX00)
def wsX4_match_r1 : List Cond := [Cond.fieldLink RX4 20 "WavePass" "shore" "LWavePass$Coast;", Cond.methodLink RX4 74 yX0_hasPass, Cond.instanceMethod yX0_hasPass, Cond.selects RX0 yX0_hasPass yX0_hasPass, Cond.initialized RX0, Cond.code yX0_hasPass cX0_hasPass 2 (some .boolean), Cond.fieldLink RX0 21 "WavePass$Coast" "passes" "I", Cond.methodLink RX4 106 yX4_isMonths, Cond.static yX4_isMonths, Cond.initialized RX4, Cond.code yX4_isMonths cX4_isMonths 1 (some .boolean), Cond.methodLink RX4 77 yX4_within, Cond.static yX4_within, Cond.code yX4_within cX4_within 3 (some .boolean), Cond.methodLink RX4 119 yX0_closestFitting, Cond.instanceMethod yX0_closestFitting, Cond.selects RX0 yX0_closestFitting yX0_closestFitting, Cond.code yX0_closestFitting cX0_closestFitting 7 (some .int), Cond.fieldLink RX0 25 "WavePass$Coast" "slackNow" "I", Cond.methodLink RX0 77 yX0_apart, Cond.instanceMethod yX0_apart, Cond.selects RX0 yX0_apart yX0_apart, Cond.code yX0_apart cX0_apart 8 (some .int), Cond.methodLink RX0 71 Lib.Math.max.name]
def wsX4_match_r2 : List Cond := [Cond.static Lib.Math.max.name, Cond.initialized "java/lang/Math", Cond.code Lib.Math.max.name Lib.Math.max.code 2 (some .int), Cond.methodLink RX0 74 Lib.Math.abs.name, Cond.static Lib.Math.abs.name, Cond.code Lib.Math.abs.name Lib.Math.abs.code 1 (some .int), Cond.methodLink RX0 65 yX0_kindOf, Cond.instanceMethod yX0_kindOf, Cond.selects RX0 yX0_kindOf yX0_kindOf, Cond.code yX0_kindOf cX0_kindOf 2 (some .int), Cond.fieldLink RX0 9 "WavePass$Coast" "kind" "[I", Cond.methodLink RX0 59 yX0_hasPass, Cond.methodLink RX0 68 yX0_wear, Cond.static yX0_wear, Cond.code yX0_wear cX0_wear 2 (some .int), Cond.methodLink RX0 62 yX0_heightOf, Cond.instanceMethod yX0_heightOf, Cond.selects RX0 yX0_heightOf yX0_heightOf, Cond.code yX0_heightOf cX0_heightOf 3 (some .int), Cond.fieldLink RX0 15 "WavePass$Coast" "height" "[I"]
def wsX4_match : List Cond := .code yX4_match cX4_match 3 (some .int) :: ((wsX4_match_r1 ++ wsX4_match_r2) ++ wsX40 ++ wsX00)
def wsX4_last_r1 : List Cond := [Cond.fieldLink RX4 20 "WavePass" "shore" "LWavePass$Coast;", Cond.methodLink RX4 74 yX0_hasPass, Cond.instanceMethod yX0_hasPass, Cond.selects RX0 yX0_hasPass yX0_hasPass, Cond.initialized RX0, Cond.code yX0_hasPass cX0_hasPass 2 (some .boolean), Cond.fieldLink RX0 21 "WavePass$Coast" "passes" "I", Cond.methodLink RX4 122 yX0_lastGood, Cond.instanceMethod yX0_lastGood, Cond.selects RX0 yX0_lastGood yX0_lastGood, Cond.code yX0_lastGood cX0_lastGood 3 (some .int), Cond.methodLink RX0 85 yX0_doFit, Cond.instanceMethod yX0_doFit, Cond.selects RX0 yX0_doFit yX0_doFit, Cond.code yX0_doFit cX0_doFit 4 (some .boolean), Cond.fieldLink RX0 25 "WavePass$Coast" "slackNow" "I", Cond.methodLink RX0 77 yX0_apart, Cond.instanceMethod yX0_apart, Cond.selects RX0 yX0_apart yX0_apart, Cond.code yX0_apart cX0_apart 8 (some .int), Cond.methodLink RX0 71 Lib.Math.max.name, Cond.static Lib.Math.max.name, Cond.initialized "java/lang/Math", Cond.code Lib.Math.max.name Lib.Math.max.code 2 (some .int)]
def wsX4_last_r2 : List Cond := [Cond.methodLink RX0 74 Lib.Math.abs.name, Cond.static Lib.Math.abs.name, Cond.code Lib.Math.abs.name Lib.Math.abs.code 1 (some .int), Cond.methodLink RX0 65 yX0_kindOf, Cond.instanceMethod yX0_kindOf, Cond.selects RX0 yX0_kindOf yX0_kindOf, Cond.code yX0_kindOf cX0_kindOf 2 (some .int), Cond.fieldLink RX0 9 "WavePass$Coast" "kind" "[I", Cond.methodLink RX0 59 yX0_hasPass, Cond.methodLink RX0 68 yX0_wear, Cond.static yX0_wear, Cond.code yX0_wear cX0_wear 2 (some .int), Cond.methodLink RX0 62 yX0_heightOf, Cond.instanceMethod yX0_heightOf, Cond.selects RX0 yX0_heightOf yX0_heightOf, Cond.code yX0_heightOf cX0_heightOf 3 (some .int), Cond.fieldLink RX0 15 "WavePass$Coast" "height" "[I"]
def wsX4_last : List Cond := .code yX4_last cX4_last 2 (some .int) :: ((wsX4_last_r1 ++ wsX4_last_r2) ++ wsX40 ++ wsX00)
def wsX4_alike_r1 : List Cond := [Cond.fieldLink RX4 20 "WavePass" "shore" "LWavePass$Coast;", Cond.methodLink RX4 74 yX0_hasPass, Cond.instanceMethod yX0_hasPass, Cond.selects RX0 yX0_hasPass yX0_hasPass, Cond.initialized RX0, Cond.code yX0_hasPass cX0_hasPass 2 (some .boolean), Cond.fieldLink RX0 21 "WavePass$Coast" "passes" "I", Cond.methodLink RX4 125 yX0_likeness, Cond.instanceMethod yX0_likeness, Cond.selects RX0 yX0_likeness yX0_likeness, Cond.code yX0_likeness cX0_likeness 4 (some .int), Cond.methodLink RX0 89 yX0_areAlike, Cond.instanceMethod yX0_areAlike, Cond.selects RX0 yX0_areAlike yX0_areAlike, Cond.code yX0_areAlike cX0_areAlike 5 (some .boolean), Cond.methodLink RX0 74 Lib.Math.abs.name, Cond.static Lib.Math.abs.name, Cond.initialized "java/lang/Math", Cond.code Lib.Math.abs.name Lib.Math.abs.code 1 (some .int), Cond.fieldLink RX0 25 "WavePass$Coast" "slackNow" "I", Cond.methodLink RX0 62 yX0_heightOf, Cond.instanceMethod yX0_heightOf, Cond.selects RX0 yX0_heightOf yX0_heightOf, Cond.code yX0_heightOf cX0_heightOf 3 (some .int)]
def wsX4_alike_r2 : List Cond := [Cond.fieldLink RX0 15 "WavePass$Coast" "height" "[I", Cond.methodLink RX0 59 yX0_hasPass, Cond.static yX4_bitIf, Cond.initialized RX4, Cond.code yX4_bitIf cX4_bitIf 2 (some .int)]
def wsX4_alike : List Cond := .code yX4_alike cX4_alike 2 (some .int) :: ((wsX4_alike_r1 ++ wsX4_alike_r2) ++ wsX40 ++ wsX00)
def wsX4_most_r1 : List Cond := [Cond.fieldLink RX4 20 "WavePass" "shore" "LWavePass$Coast;", Cond.methodLink RX4 96 yX0_stands, Cond.instanceMethod yX0_stands, Cond.selects RX0 yX0_stands yX0_stands, Cond.initialized RX0, Cond.code yX0_stands cX0_stands 1 (some .boolean), Cond.fieldLink RX0 21 "WavePass$Coast" "passes" "I", Cond.methodLink RX4 128 yX0_mostUnlike, Cond.instanceMethod yX0_mostUnlike, Cond.selects RX0 yX0_mostUnlike yX0_mostUnlike, Cond.code yX0_mostUnlike cX0_mostUnlike 3 (some .int), Cond.fieldLink RX0 18 "WavePass$Coast" "linked" "[I", Cond.methodLink RX0 92 yX0_likeness, Cond.instanceMethod yX0_likeness, Cond.selects RX0 yX0_likeness yX0_likeness, Cond.code yX0_likeness cX0_likeness 4 (some .int), Cond.methodLink RX0 89 yX0_areAlike, Cond.instanceMethod yX0_areAlike, Cond.selects RX0 yX0_areAlike yX0_areAlike, Cond.code yX0_areAlike cX0_areAlike 5 (some .boolean), Cond.methodLink RX0 74 Lib.Math.abs.name, Cond.static Lib.Math.abs.name, Cond.initialized "java/lang/Math", Cond.code Lib.Math.abs.name Lib.Math.abs.code 1 (some .int)]
def wsX4_most_r2 : List Cond := [Cond.fieldLink RX0 25 "WavePass$Coast" "slackNow" "I", Cond.methodLink RX0 62 yX0_heightOf, Cond.instanceMethod yX0_heightOf, Cond.selects RX0 yX0_heightOf yX0_heightOf, Cond.code yX0_heightOf cX0_heightOf 3 (some .int), Cond.fieldLink RX0 15 "WavePass$Coast" "height" "[I", Cond.methodLink RX0 59 yX0_hasPass, Cond.instanceMethod yX0_hasPass, Cond.selects RX0 yX0_hasPass yX0_hasPass, Cond.code yX0_hasPass cX0_hasPass 2 (some .boolean), Cond.static yX4_bitIf, Cond.initialized RX4, Cond.code yX4_bitIf cX4_bitIf 2 (some .int), Cond.methodLink RX0 55 yX0_allPasses, Cond.instanceMethod yX0_allPasses, Cond.selects RX0 yX0_allPasses yX0_allPasses, Cond.code yX0_allPasses cX0_allPasses 1 (some .int), Cond.methodLink RX0 95 yJ6_bitCount_0f7a4, Cond.static yJ6_bitCount_0f7a4, Cond.initialized RJ6, Cond.code yJ6_bitCount_0f7a4 cJ6_bitCount_0f7a4 1 (some .int), Cond.constant RJ6 265 (1431655765), Cond.constant RJ6 266 (858993459), Cond.constant RJ6 267 (252645135)]
def wsX4_most_r3 : List Cond := [Cond.methodLink RX0 100 yX0_noneLinkedWithin, Cond.instanceMethod yX0_noneLinkedWithin, Cond.selects RX0 yX0_noneLinkedWithin yX0_noneLinkedWithin, Cond.code yX0_noneLinkedWithin cX0_noneLinkedWithin 3 (some .boolean)]
def wsX4_most : List Cond := .code yX4_most cX4_most 1 (some .int) :: ((wsX4_most_r1 ++ (wsX4_most_r2 ++ wsX4_most_r3)) ++ wsX40 ++ wsX00)
def wsX4_letGo_r1 : List Cond := [Cond.fieldLink RX4 20 "WavePass" "shore" "LWavePass$Coast;", Cond.methodLink RX4 96 yX0_stands, Cond.instanceMethod yX0_stands, Cond.selects RX0 yX0_stands yX0_stands, Cond.initialized RX0, Cond.code yX0_stands cX0_stands 1 (some .boolean), Cond.fieldLink RX0 21 "WavePass$Coast" "passes" "I", Cond.methodLink RX4 131 yX0_isSet, Cond.instanceMethod yX0_isSet, Cond.selects RX0 yX0_isSet yX0_isSet, Cond.code yX0_isSet cX0_isSet 2 (some .boolean), Cond.methodLink RX0 55 yX0_allPasses, Cond.instanceMethod yX0_allPasses, Cond.selects RX0 yX0_allPasses yX0_allPasses, Cond.code yX0_allPasses cX0_allPasses 1 (some .int), Cond.methodLink RX4 106 yX4_isMonths, Cond.static yX4_isMonths, Cond.initialized RX4, Cond.code yX4_isMonths cX4_isMonths 1 (some .boolean), Cond.methodLink RX4 77 yX4_within, Cond.static yX4_within, Cond.code yX4_within cX4_within 3 (some .boolean), Cond.methodLink RX4 134 yX0_layAll, Cond.instanceMethod yX0_layAll]
def wsX4_letGo_r2 : List Cond := [Cond.selects RX0 yX0_layAll yX0_layAll, Cond.code yX0_layAll cX0_layAll 3 none, Cond.fieldLink RX0 18 "WavePass$Coast" "linked" "[I", Cond.methodLink RX0 103 yX0_fitting, Cond.instanceMethod yX0_fitting, Cond.selects RX0 yX0_fitting yX0_fitting, Cond.code yX0_fitting cX0_fitting 5 (some .int), Cond.fieldLink RX0 25 "WavePass$Coast" "slackNow" "I", Cond.methodLink RX0 77 yX0_apart, Cond.instanceMethod yX0_apart, Cond.selects RX0 yX0_apart yX0_apart, Cond.code yX0_apart cX0_apart 8 (some .int), Cond.methodLink RX0 71 Lib.Math.max.name, Cond.static Lib.Math.max.name, Cond.initialized "java/lang/Math", Cond.code Lib.Math.max.name Lib.Math.max.code 2 (some .int), Cond.methodLink RX0 74 Lib.Math.abs.name, Cond.static Lib.Math.abs.name, Cond.code Lib.Math.abs.name Lib.Math.abs.code 1 (some .int), Cond.methodLink RX0 65 yX0_kindOf, Cond.instanceMethod yX0_kindOf, Cond.selects RX0 yX0_kindOf yX0_kindOf, Cond.code yX0_kindOf cX0_kindOf 2 (some .int), Cond.fieldLink RX0 9 "WavePass$Coast" "kind" "[I"]
def wsX4_letGo_r3 : List Cond := [Cond.methodLink RX0 59 yX0_hasPass, Cond.instanceMethod yX0_hasPass, Cond.selects RX0 yX0_hasPass yX0_hasPass, Cond.code yX0_hasPass cX0_hasPass 2 (some .boolean), Cond.methodLink RX0 68 yX0_wear, Cond.static yX0_wear, Cond.code yX0_wear cX0_wear 2 (some .int), Cond.methodLink RX0 62 yX0_heightOf, Cond.instanceMethod yX0_heightOf, Cond.selects RX0 yX0_heightOf yX0_heightOf, Cond.code yX0_heightOf cX0_heightOf 3 (some .int), Cond.fieldLink RX0 15 "WavePass$Coast" "height" "[I", Cond.static yX4_bitIf, Cond.code yX4_bitIf cX4_bitIf 2 (some .int), Cond.methodLink RX4 137 yX0_freedBy, Cond.instanceMethod yX0_freedBy, Cond.selects RX0 yX0_freedBy yX0_freedBy, Cond.code yX0_freedBy cX0_freedBy 4 (some .int)]
def wsX4_letGo : List Cond := .code yX4_letGo cX4_letGo 3 (some .int) :: ((wsX4_letGo_r1 ++ (wsX4_letGo_r2 ++ wsX4_letGo_r3)) ++ wsX40 ++ wsX00)
def wsX4_fewest_r1 : List Cond := [Cond.fieldLink RX4 20 "WavePass" "shore" "LWavePass$Coast;", Cond.methodLink RX4 106 yX4_isMonths, Cond.static yX4_isMonths, Cond.initialized RX4, Cond.code yX4_isMonths cX4_isMonths 1 (some .boolean), Cond.methodLink RX4 77 yX4_within, Cond.static yX4_within, Cond.code yX4_within cX4_within 3 (some .boolean), Cond.methodLink RX4 96 yX0_stands, Cond.instanceMethod yX0_stands, Cond.selects RX0 yX0_stands yX0_stands, Cond.initialized RX0, Cond.code yX0_stands cX0_stands 1 (some .boolean), Cond.fieldLink RX0 21 "WavePass$Coast" "passes" "I", Cond.methodLink RX4 134 yX0_layAll, Cond.instanceMethod yX0_layAll, Cond.selects RX0 yX0_layAll yX0_layAll, Cond.code yX0_layAll cX0_layAll 3 none, Cond.fieldLink RX0 18 "WavePass$Coast" "linked" "[I", Cond.methodLink RX0 103 yX0_fitting, Cond.instanceMethod yX0_fitting, Cond.selects RX0 yX0_fitting yX0_fitting, Cond.code yX0_fitting cX0_fitting 5 (some .int), Cond.fieldLink RX0 25 "WavePass$Coast" "slackNow" "I"]
def wsX4_fewest_r2 : List Cond := [Cond.methodLink RX0 77 yX0_apart, Cond.instanceMethod yX0_apart, Cond.selects RX0 yX0_apart yX0_apart, Cond.code yX0_apart cX0_apart 8 (some .int), Cond.methodLink RX0 71 Lib.Math.max.name, Cond.static Lib.Math.max.name, Cond.initialized "java/lang/Math", Cond.code Lib.Math.max.name Lib.Math.max.code 2 (some .int), Cond.methodLink RX0 74 Lib.Math.abs.name, Cond.static Lib.Math.abs.name, Cond.code Lib.Math.abs.name Lib.Math.abs.code 1 (some .int), Cond.methodLink RX0 65 yX0_kindOf, Cond.instanceMethod yX0_kindOf, Cond.selects RX0 yX0_kindOf yX0_kindOf, Cond.code yX0_kindOf cX0_kindOf 2 (some .int), Cond.fieldLink RX0 9 "WavePass$Coast" "kind" "[I", Cond.methodLink RX0 59 yX0_hasPass, Cond.instanceMethod yX0_hasPass, Cond.selects RX0 yX0_hasPass yX0_hasPass, Cond.code yX0_hasPass cX0_hasPass 2 (some .boolean), Cond.methodLink RX0 68 yX0_wear, Cond.static yX0_wear, Cond.code yX0_wear cX0_wear 2 (some .int), Cond.methodLink RX0 62 yX0_heightOf]
def wsX4_fewest_r3 : List Cond := [Cond.instanceMethod yX0_heightOf, Cond.selects RX0 yX0_heightOf yX0_heightOf, Cond.code yX0_heightOf cX0_heightOf 3 (some .int), Cond.fieldLink RX0 15 "WavePass$Coast" "height" "[I", Cond.static yX4_bitIf, Cond.code yX4_bitIf cX4_bitIf 2 (some .int), Cond.methodLink RX4 140 yX0_fewestFreeing, Cond.instanceMethod yX0_fewestFreeing, Cond.selects RX0 yX0_fewestFreeing yX0_fewestFreeing, Cond.code yX0_fewestFreeing cX0_fewestFreeing 4 (some .int), Cond.methodLink RX0 55 yX0_allPasses, Cond.instanceMethod yX0_allPasses, Cond.selects RX0 yX0_allPasses yX0_allPasses, Cond.code yX0_allPasses cX0_allPasses 1 (some .int), Cond.methodLink RX0 95 yJ6_bitCount_0f7a4, Cond.static yJ6_bitCount_0f7a4, Cond.initialized RJ6, Cond.code yJ6_bitCount_0f7a4 cJ6_bitCount_0f7a4 1 (some .int), Cond.constant RJ6 265 (1431655765), Cond.constant RJ6 266 (858993459), Cond.constant RJ6 267 (252645135), Cond.methodLink RX0 106 yX0_freedBy, Cond.instanceMethod yX0_freedBy, Cond.selects RX0 yX0_freedBy yX0_freedBy]
def wsX4_fewest_r4 : List Cond := [Cond.code yX0_freedBy cX0_freedBy 4 (some .int)]
def wsX4_fewest : List Cond := .code yX4_fewest cX4_fewest 2 (some .int) :: ((wsX4_fewest_r1 ++ (wsX4_fewest_r2 ++ (wsX4_fewest_r3 ++ wsX4_fewest_r4))) ++ wsX40 ++ wsX00)
def wsX4_isAskable : List Cond := .code yX4_isAskable cX4_isAskable 1 (some .boolean) :: ([.methodLink RX4 77 yX4_within, .static yX4_within, .initialized RX4, .code yX4_within cX4_within 3 (some .boolean)])
def wsX4_howOften_r1 : List Cond := [Cond.fieldLink RX4 20 "WavePass" "shore" "LWavePass$Coast;", Cond.fieldLink RX4 27 "WavePass" "told" "LWavePass$Voyages;", Cond.methodLink RX4 74 yX0_hasPass, Cond.instanceMethod yX0_hasPass, Cond.selects RX0 yX0_hasPass yX0_hasPass, Cond.initialized RX0, Cond.code yX0_hasPass cX0_hasPass 2 (some .boolean), Cond.fieldLink RX0 21 "WavePass$Coast" "passes" "I", Cond.methodLink RX4 181 yX3_onesOf, Cond.instanceMethod yX3_onesOf, Cond.selects RX3 yX3_onesOf yX3_onesOf, Cond.initialized RX3, Cond.code yX3_onesOf cX3_onesOf 4 (some .int), Cond.fieldLink RX3 18 "WavePass$Voyages" "pairs" "I", Cond.fieldLink RX3 9 "WavePass$Voyages" "pass" "[I", Cond.static yX4_bitIf, Cond.initialized RX4, Cond.code yX4_bitIf cX4_bitIf 2 (some .int), Cond.methodLink RX4 167 yJ6_bitCount_0f7a4, Cond.static yJ6_bitCount_0f7a4, Cond.initialized RJ6, Cond.code yJ6_bitCount_0f7a4 cJ6_bitCount_0f7a4 1 (some .int), Cond.constant RJ6 265 (1431655765), Cond.constant RJ6 266 (858993459)]
def wsX4_howOften_r2 : List Cond := [Cond.constant RJ6 267 (252645135)]
def wsX4_howOften : List Cond := .code yX4_howOften cX4_howOften 3 (some .int) :: ((wsX4_howOften_r1 ++ wsX4_howOften_r2) ++ wsX40 ++ wsX00 ++ wsX30)
def wsX4_meet_r1 : List Cond := [Cond.fieldLink RX4 27 "WavePass" "told" "LWavePass$Voyages;", Cond.fieldLink RX4 20 "WavePass" "shore" "LWavePass$Coast;", Cond.methodLink RX4 159 yX3_firstWrongPair, Cond.instanceMethod yX3_firstWrongPair, Cond.selects RX3 yX3_firstWrongPair yX3_firstWrongPair, Cond.initialized RX3, Cond.code yX3_firstWrongPair cX3_firstWrongPair 2 (some .int), Cond.fieldLink RX3 18 "WavePass$Voyages" "pairs" "I", Cond.fieldLink RX3 15 "WavePass$Voyages" "months" "[I", Cond.methodLink RX4 162 yX3_takenBy, Cond.instanceMethod yX3_takenBy, Cond.selects RX3 yX3_takenBy yX3_takenBy, Cond.code yX3_takenBy cX3_takenBy 5 (some .int), Cond.fieldLink RX3 9 "WavePass$Voyages" "pass" "[I", Cond.methodLink RX3 43 yX0_fitting, Cond.instanceMethod yX0_fitting, Cond.selects RX0 yX0_fitting yX0_fitting, Cond.initialized RX0, Cond.code yX0_fitting cX0_fitting 5 (some .int), Cond.fieldLink RX0 21 "WavePass$Coast" "passes" "I", Cond.fieldLink RX0 25 "WavePass$Coast" "slackNow" "I", Cond.methodLink RX0 77 yX0_apart, Cond.instanceMethod yX0_apart, Cond.selects RX0 yX0_apart yX0_apart]
def wsX4_meet_r2 : List Cond := [Cond.code yX0_apart cX0_apart 8 (some .int), Cond.methodLink RX0 71 Lib.Math.max.name, Cond.static Lib.Math.max.name, Cond.initialized "java/lang/Math", Cond.code Lib.Math.max.name Lib.Math.max.code 2 (some .int), Cond.methodLink RX0 74 Lib.Math.abs.name, Cond.static Lib.Math.abs.name, Cond.code Lib.Math.abs.name Lib.Math.abs.code 1 (some .int), Cond.methodLink RX0 65 yX0_kindOf, Cond.instanceMethod yX0_kindOf, Cond.selects RX0 yX0_kindOf yX0_kindOf, Cond.code yX0_kindOf cX0_kindOf 2 (some .int), Cond.fieldLink RX0 9 "WavePass$Coast" "kind" "[I", Cond.methodLink RX0 59 yX0_hasPass, Cond.instanceMethod yX0_hasPass, Cond.selects RX0 yX0_hasPass yX0_hasPass, Cond.code yX0_hasPass cX0_hasPass 2 (some .boolean), Cond.methodLink RX0 68 yX0_wear, Cond.static yX0_wear, Cond.code yX0_wear cX0_wear 2 (some .int), Cond.methodLink RX0 62 yX0_heightOf, Cond.instanceMethod yX0_heightOf, Cond.selects RX0 yX0_heightOf yX0_heightOf, Cond.code yX0_heightOf cX0_heightOf 3 (some .int)]
def wsX4_meet_r3 : List Cond := [Cond.fieldLink RX0 15 "WavePass$Coast" "height" "[I", Cond.static yX4_bitIf, Cond.initialized RX4, Cond.code yX4_bitIf cX4_bitIf 2 (some .int), Cond.methodLink RX4 166 yX3_howMany, Cond.instanceMethod yX3_howMany, Cond.selects RX3 yX3_howMany yX3_howMany, Cond.code yX3_howMany cX3_howMany 1 (some .int), Cond.methodLink RX4 167 yJ6_bitCount_0f7a4, Cond.static yJ6_bitCount_0f7a4, Cond.initialized RJ6, Cond.code yJ6_bitCount_0f7a4 cJ6_bitCount_0f7a4 1 (some .int), Cond.constant RJ6 265 (1431655765), Cond.constant RJ6 266 (858993459), Cond.constant RJ6 267 (252645135), Cond.methodLink RX4 172 yX3_firstOf, Cond.instanceMethod yX3_firstOf, Cond.selects RX3 yX3_firstOf yX3_firstOf, Cond.code yX3_firstOf cX3_firstOf 3 (some .int), Cond.methodLink RX4 175 yX3_goodOnes, Cond.instanceMethod yX3_goodOnes, Cond.selects RX3 yX3_goodOnes yX3_goodOnes, Cond.code yX3_goodOnes cX3_goodOnes 4 (some .int), Cond.methodLink RX3 50 yX0_doFit]
def wsX4_meet_r4 : List Cond := [Cond.instanceMethod yX0_doFit, Cond.selects RX0 yX0_doFit yX0_doFit, Cond.code yX0_doFit cX0_doFit 4 (some .boolean), Cond.methodLink RX4 178 yX4_howOften, Cond.instanceMethod yX4_howOften, Cond.selects RX4 yX4_howOften yX4_howOften, Cond.code yX4_howOften cX4_howOften 3 (some .int), Cond.methodLink RX4 74 yX0_hasPass, Cond.methodLink RX4 181 yX3_onesOf, Cond.instanceMethod yX3_onesOf, Cond.selects RX3 yX3_onesOf yX3_onesOf, Cond.code yX3_onesOf cX3_onesOf 4 (some .int)]
def wsX4_meet : List Cond := .code yX4_meet cX4_meet 5 (some .int) :: ((wsX4_meet_r1 ++ (wsX4_meet_r2 ++ (wsX4_meet_r3 ++ wsX4_meet_r4))) ++ wsX40 ++ wsX30 ++ wsX00)
def wsX4_voyages_r1 : List Cond := [Cond.fieldLink RX4 42 "WavePass" "latestFault" "I", Cond.fieldLink RX4 13 "WavePass" "sheets" "[LWavePass$Sheet;", Cond.fieldLink RX4 20 "WavePass" "shore" "LWavePass$Coast;", Cond.fieldLink RX4 27 "WavePass" "told" "LWavePass$Voyages;", Cond.methodLink RX4 46 yX4_isSheet, Cond.static yX4_isSheet, Cond.initialized RX4, Cond.code yX4_isSheet cX4_isSheet 1 (some .boolean), Cond.methodLink RX4 77 yX4_within, Cond.static yX4_within, Cond.code yX4_within cX4_within 3 (some .boolean), Cond.methodLink RX4 50 yX4_isLane, Cond.static yX4_isLane, Cond.code yX4_isLane cX4_isLane 1 (some .boolean), Cond.methodLink RX4 143 yX4_isAskable, Cond.static yX4_isAskable, Cond.code yX4_isAskable cX4_isAskable 1 (some .boolean), Cond.methodLink RX4 146 yX4_faultOfCells, Cond.static yX4_faultOfCells, Cond.code yX4_faultOfCells cX4_faultOfCells 5 (some .int), Cond.methodLink RX4 220 yX4_faultOfRow, Cond.static yX4_faultOfRow, Cond.code yX4_faultOfRow cX4_faultOfRow 2 (some .int), Cond.methodLink RX4 208 yX2_hasNothing]
def wsX4_voyages_r2 : List Cond := [Cond.instanceMethod yX2_hasNothing, Cond.selects RX2 yX2_hasNothing yX2_hasNothing, Cond.initialized RX2, Cond.code yX2_hasNothing cX2_hasNothing 1 (some .boolean), Cond.fieldLink RX2 15 "WavePass$Sheet" "lane" "I", Cond.methodLink RX4 230 yX2_isOfAnother, Cond.instanceMethod yX2_isOfAnother, Cond.selects RX2 yX2_isOfAnother yX2_isOfAnother, Cond.code yX2_isOfAnother cX2_isOfAnother 2 (some .boolean), Cond.methodLink RX4 233 yX2_hasCells, Cond.instanceMethod yX2_hasCells, Cond.selects RX2 yX2_hasCells yX2_hasCells, Cond.code yX2_hasCells cX2_hasCells 3 (some .boolean), Cond.fieldLink RX2 19 "WavePass$Sheet" "length" "I", Cond.methodLink RX4 96 yX0_stands, Cond.instanceMethod yX0_stands, Cond.selects RX0 yX0_stands yX0_stands, Cond.initialized RX0, Cond.code yX0_stands cX0_stands 1 (some .boolean), Cond.fieldLink RX0 21 "WavePass$Coast" "passes" "I", Cond.methodLink RX4 131 yX0_isSet, Cond.instanceMethod yX0_isSet, Cond.selects RX0 yX0_isSet yX0_isSet, Cond.code yX0_isSet cX0_isSet 2 (some .boolean)]
def wsX4_voyages_r3 : List Cond := [Cond.methodLink RX0 55 yX0_allPasses, Cond.instanceMethod yX0_allPasses, Cond.selects RX0 yX0_allPasses yX0_allPasses, Cond.code yX0_allPasses cX0_allPasses 1 (some .int), Cond.methodLink RX4 149 yX3_load, Cond.instanceMethod yX3_load, Cond.selects RX3 yX3_load yX3_load, Cond.initialized RX3, Cond.code yX3_load cX3_load 5 none, Cond.methodLink RX3 22 Lib.Math.min.name, Cond.static Lib.Math.min.name, Cond.initialized "java/lang/Math", Cond.code Lib.Math.min.name Lib.Math.min.code 2 (some .int), Cond.fieldLink RX3 18 "WavePass$Voyages" "pairs" "I", Cond.fieldLink RX3 9 "WavePass$Voyages" "pass" "[I", Cond.fieldLink RX3 15 "WavePass$Voyages" "months" "[I", Cond.methodLink RX3 28 yX2_at, Cond.instanceMethod yX2_at, Cond.selects RX2 yX2_at yX2_at, Cond.code yX2_at cX2_at 2 (some .int), Cond.fieldLink RX2 9 "WavePass$Sheet" "cells" "[I", Cond.methodLink RX2 28 yX2_hasCell, Cond.instanceMethod yX2_hasCell, Cond.selects RX2 yX2_hasCell yX2_hasCell]
def wsX4_voyages_r4 : List Cond := [Cond.code yX2_hasCell cX2_hasCell 2 (some .boolean), Cond.methodLink RX4 152 yX3_refusal, Cond.instanceMethod yX3_refusal, Cond.selects RX3 yX3_refusal yX3_refusal, Cond.code yX3_refusal cX3_refusal 3 (some .int), Cond.methodLink RX3 34 yX0_hasPass, Cond.instanceMethod yX0_hasPass, Cond.selects RX0 yX0_hasPass yX0_hasPass, Cond.code yX0_hasPass cX0_hasPass 2 (some .boolean), Cond.static yX4_isMonths, Cond.code yX4_isMonths cX4_isMonths 1 (some .boolean), Cond.methodLink RX4 156 yX4_meet, Cond.instanceMethod yX4_meet, Cond.selects RX4 yX4_meet yX4_meet, Cond.code yX4_meet cX4_meet 5 (some .int), Cond.methodLink RX4 159 yX3_firstWrongPair, Cond.instanceMethod yX3_firstWrongPair, Cond.selects RX3 yX3_firstWrongPair yX3_firstWrongPair, Cond.code yX3_firstWrongPair cX3_firstWrongPair 2 (some .int), Cond.methodLink RX4 162 yX3_takenBy, Cond.instanceMethod yX3_takenBy, Cond.selects RX3 yX3_takenBy yX3_takenBy, Cond.code yX3_takenBy cX3_takenBy 5 (some .int), Cond.methodLink RX3 43 yX0_fitting]
def wsX4_voyages_r5 : List Cond := [Cond.instanceMethod yX0_fitting, Cond.selects RX0 yX0_fitting yX0_fitting, Cond.code yX0_fitting cX0_fitting 5 (some .int), Cond.fieldLink RX0 25 "WavePass$Coast" "slackNow" "I", Cond.methodLink RX0 77 yX0_apart, Cond.instanceMethod yX0_apart, Cond.selects RX0 yX0_apart yX0_apart, Cond.code yX0_apart cX0_apart 8 (some .int), Cond.methodLink RX0 71 Lib.Math.max.name, Cond.static Lib.Math.max.name, Cond.code Lib.Math.max.name Lib.Math.max.code 2 (some .int), Cond.methodLink RX0 74 Lib.Math.abs.name, Cond.static Lib.Math.abs.name, Cond.code Lib.Math.abs.name Lib.Math.abs.code 1 (some .int), Cond.methodLink RX0 65 yX0_kindOf, Cond.instanceMethod yX0_kindOf, Cond.selects RX0 yX0_kindOf yX0_kindOf, Cond.code yX0_kindOf cX0_kindOf 2 (some .int), Cond.fieldLink RX0 9 "WavePass$Coast" "kind" "[I", Cond.methodLink RX0 59 yX0_hasPass, Cond.methodLink RX0 68 yX0_wear, Cond.static yX0_wear, Cond.code yX0_wear cX0_wear 2 (some .int), Cond.methodLink RX0 62 yX0_heightOf]
def wsX4_voyages_r6 : List Cond := [Cond.instanceMethod yX0_heightOf, Cond.selects RX0 yX0_heightOf yX0_heightOf, Cond.code yX0_heightOf cX0_heightOf 3 (some .int), Cond.fieldLink RX0 15 "WavePass$Coast" "height" "[I", Cond.static yX4_bitIf, Cond.code yX4_bitIf cX4_bitIf 2 (some .int), Cond.methodLink RX4 166 yX3_howMany, Cond.instanceMethod yX3_howMany, Cond.selects RX3 yX3_howMany yX3_howMany, Cond.code yX3_howMany cX3_howMany 1 (some .int), Cond.methodLink RX4 167 yJ6_bitCount_0f7a4, Cond.static yJ6_bitCount_0f7a4, Cond.initialized RJ6, Cond.code yJ6_bitCount_0f7a4 cJ6_bitCount_0f7a4 1 (some .int), Cond.constant RJ6 265 (1431655765), Cond.constant RJ6 266 (858993459), Cond.constant RJ6 267 (252645135), Cond.methodLink RX4 172 yX3_firstOf, Cond.instanceMethod yX3_firstOf, Cond.selects RX3 yX3_firstOf yX3_firstOf, Cond.code yX3_firstOf cX3_firstOf 3 (some .int), Cond.methodLink RX4 175 yX3_goodOnes, Cond.instanceMethod yX3_goodOnes, Cond.selects RX3 yX3_goodOnes yX3_goodOnes]
def wsX4_voyages_r7 : List Cond := [Cond.code yX3_goodOnes cX3_goodOnes 4 (some .int), Cond.methodLink RX3 50 yX0_doFit, Cond.instanceMethod yX0_doFit, Cond.selects RX0 yX0_doFit yX0_doFit, Cond.code yX0_doFit cX0_doFit 4 (some .boolean), Cond.methodLink RX4 178 yX4_howOften, Cond.instanceMethod yX4_howOften, Cond.selects RX4 yX4_howOften yX4_howOften, Cond.code yX4_howOften cX4_howOften 3 (some .int), Cond.methodLink RX4 74 yX0_hasPass, Cond.methodLink RX4 181 yX3_onesOf, Cond.instanceMethod yX3_onesOf, Cond.selects RX3 yX3_onesOf yX3_onesOf, Cond.code yX3_onesOf cX3_onesOf 4 (some .int)]
def wsX4_voyages : List Cond := .code yX4_voyages cX4_voyages 8 (some .int) :: ((wsX4_voyages_r1 ++ (wsX4_voyages_r2 ++ (wsX4_voyages_r3 ++ (wsX4_voyages_r4 ++ (wsX4_voyages_r5 ++ (wsX4_voyages_r6 ++ wsX4_voyages_r7)))))) ++ wsX40 ++ wsX20 ++ wsX00 ++ wsX30)
def wsX4_reading_r1 : List Cond := [Cond.fieldLink RX4 20 "WavePass" "shore" "LWavePass$Coast;", Cond.fieldLink RX4 34 "WavePass" "read" "LWavePass$Readings;", Cond.methodLink RX4 74 yX0_hasPass, Cond.instanceMethod yX0_hasPass, Cond.selects RX0 yX0_hasPass yX0_hasPass, Cond.initialized RX0, Cond.code yX0_hasPass cX0_hasPass 2 (some .boolean), Cond.fieldLink RX0 21 "WavePass$Coast" "passes" "I", Cond.methodLink RX4 106 yX4_isMonths, Cond.static yX4_isMonths, Cond.initialized RX4, Cond.code yX4_isMonths cX4_isMonths 1 (some .boolean), Cond.methodLink RX4 77 yX4_within, Cond.static yX4_within, Cond.code yX4_within cX4_within 3 (some .boolean), Cond.methodLink RX4 65 yX1_howMany, Cond.instanceMethod yX1_howMany, Cond.selects RX1 yX1_howMany yX1_howMany, Cond.initialized RX1, Cond.code yX1_howMany cX1_howMany 1 (some .int), Cond.fieldLink RX1 25 "WavePass$Readings" "count" "I", Cond.methodLink RX4 184 yX1_append, Cond.instanceMethod yX1_append, Cond.selects RX1 yX1_append yX1_append]
def wsX4_reading_r2 : List Cond := [Cond.code yX1_append cX1_append 5 none, Cond.fieldLink RX1 9 "WavePass$Readings" "upper" "[I", Cond.fieldLink RX1 15 "WavePass$Readings" "lower" "[I", Cond.fieldLink RX1 18 "WavePass$Readings" "months" "[I", Cond.fieldLink RX1 21 "WavePass$Readings" "did" "[Z"]
def wsX4_reading : List Cond := .code yX4_reading cX4_reading 5 (some .int) :: ((wsX4_reading_r1 ++ wsX4_reading_r2) ++ wsX40 ++ wsX00 ++ wsX10)
def wsX4_back : List Cond := .code yX4_back cX4_back 2 (some .int) :: ([.fieldLink RX4 34 "WavePass" "read" "LWavePass$Readings;", .methodLink RX4 65 yX1_howMany, .instanceMethod yX1_howMany, .selects RX1 yX1_howMany yX1_howMany, .initialized RX1, .code yX1_howMany cX1_howMany 1 (some .int), .fieldLink RX1 25 "WavePass$Readings" "count" "I", .methodLink RX4 77 yX4_within, .static yX4_within, .initialized RX4, .code yX4_within cX4_within 3 (some .boolean), .methodLink RX4 69 yX1_dropLast, .instanceMethod yX1_dropLast, .selects RX1 yX1_dropLast yX1_dropLast, .code yX1_dropLast cX1_dropLast 2 none] ++ wsX40 ++ wsX10)
def wsX4_edges_r1 : List Cond := [Cond.fieldLink RX4 20 "WavePass" "shore" "LWavePass$Coast;", Cond.fieldLink RX4 34 "WavePass" "read" "LWavePass$Readings;", Cond.methodLink RX4 74 yX0_hasPass, Cond.instanceMethod yX0_hasPass, Cond.selects RX0 yX0_hasPass yX0_hasPass, Cond.initialized RX0, Cond.code yX0_hasPass cX0_hasPass 2 (some .boolean), Cond.fieldLink RX0 21 "WavePass$Coast" "passes" "I", Cond.methodLink RX4 89 yX4_isPlace, Cond.static yX4_isPlace, Cond.initialized RX4, Cond.code yX4_isPlace cX4_isPlace 1 (some .boolean), Cond.methodLink RX4 77 yX4_within, Cond.static yX4_within, Cond.code yX4_within cX4_within 3 (some .boolean), Cond.methodLink RX4 85 yX0_heightOf, Cond.instanceMethod yX0_heightOf, Cond.selects RX0 yX0_heightOf yX0_heightOf, Cond.code yX0_heightOf cX0_heightOf 3 (some .int), Cond.fieldLink RX0 15 "WavePass$Coast" "height" "[I", Cond.methodLink RX0 59 yX0_hasPass, Cond.methodLink RX4 92 yX0_setHeight, Cond.instanceMethod yX0_setHeight, Cond.selects RX0 yX0_setHeight yX0_setHeight]
def wsX4_edges_r2 : List Cond := [Cond.code yX0_setHeight cX0_setHeight 4 none, Cond.methodLink RX4 188 yX1_areSo, Cond.instanceMethod yX1_areSo, Cond.selects RX1 yX1_areSo yX1_areSo, Cond.initialized RX1, Cond.code yX1_areSo cX1_areSo 3 (some .boolean), Cond.fieldLink RX1 25 "WavePass$Readings" "count" "I", Cond.fieldLink RX1 9 "WavePass$Readings" "upper" "[I", Cond.fieldLink RX1 15 "WavePass$Readings" "lower" "[I", Cond.fieldLink RX1 18 "WavePass$Readings" "months" "[I", Cond.fieldLink RX1 21 "WavePass$Readings" "did" "[Z", Cond.methodLink RX1 29 yX0_doFit, Cond.instanceMethod yX0_doFit, Cond.selects RX0 yX0_doFit yX0_doFit, Cond.code yX0_doFit cX0_doFit 4 (some .boolean), Cond.fieldLink RX0 25 "WavePass$Coast" "slackNow" "I", Cond.methodLink RX0 77 yX0_apart, Cond.instanceMethod yX0_apart, Cond.selects RX0 yX0_apart yX0_apart, Cond.code yX0_apart cX0_apart 8 (some .int), Cond.methodLink RX0 71 Lib.Math.max.name, Cond.static Lib.Math.max.name, Cond.initialized "java/lang/Math", Cond.code Lib.Math.max.name Lib.Math.max.code 2 (some .int)]
def wsX4_edges_r3 : List Cond := [Cond.methodLink RX0 74 Lib.Math.abs.name, Cond.static Lib.Math.abs.name, Cond.code Lib.Math.abs.name Lib.Math.abs.code 1 (some .int), Cond.methodLink RX0 65 yX0_kindOf, Cond.instanceMethod yX0_kindOf, Cond.selects RX0 yX0_kindOf yX0_kindOf, Cond.code yX0_kindOf cX0_kindOf 2 (some .int), Cond.fieldLink RX0 9 "WavePass$Coast" "kind" "[I", Cond.methodLink RX0 68 yX0_wear, Cond.static yX0_wear, Cond.code yX0_wear cX0_wear 2 (some .int), Cond.methodLink RX0 62 yX0_heightOf, Cond.methodLink RX4 192 yX4_bitIf, Cond.static yX4_bitIf, Cond.code yX4_bitIf cX4_bitIf 2 (some .int)]
def wsX4_edges : List Cond := .code yX4_edges cX4_edges 6 (some .int) :: ((wsX4_edges_r1 ++ (wsX4_edges_r2 ++ wsX4_edges_r3)) ++ wsX40 ++ wsX00 ++ wsX10)
def wsX4_kinds_r1 : List Cond := [Cond.fieldLink RX4 20 "WavePass" "shore" "LWavePass$Coast;", Cond.fieldLink RX4 34 "WavePass" "read" "LWavePass$Readings;", Cond.methodLink RX4 74 yX0_hasPass, Cond.instanceMethod yX0_hasPass, Cond.selects RX0 yX0_hasPass yX0_hasPass, Cond.initialized RX0, Cond.code yX0_hasPass cX0_hasPass 2 (some .boolean), Cond.fieldLink RX0 21 "WavePass$Coast" "passes" "I", Cond.methodLink RX4 81 yX0_kindOf, Cond.instanceMethod yX0_kindOf, Cond.selects RX0 yX0_kindOf yX0_kindOf, Cond.code yX0_kindOf cX0_kindOf 2 (some .int), Cond.fieldLink RX0 9 "WavePass$Coast" "kind" "[I", Cond.methodLink RX0 59 yX0_hasPass, Cond.methodLink RX4 196 yX0_setKind, Cond.instanceMethod yX0_setKind, Cond.selects RX0 yX0_setKind yX0_setKind, Cond.code yX0_setKind cX0_setKind 3 none, Cond.methodLink RX4 188 yX1_areSo, Cond.instanceMethod yX1_areSo, Cond.selects RX1 yX1_areSo yX1_areSo, Cond.initialized RX1, Cond.code yX1_areSo cX1_areSo 3 (some .boolean), Cond.fieldLink RX1 25 "WavePass$Readings" "count" "I"]
def wsX4_kinds_r2 : List Cond := [Cond.fieldLink RX1 9 "WavePass$Readings" "upper" "[I", Cond.fieldLink RX1 15 "WavePass$Readings" "lower" "[I", Cond.fieldLink RX1 18 "WavePass$Readings" "months" "[I", Cond.fieldLink RX1 21 "WavePass$Readings" "did" "[Z", Cond.methodLink RX1 29 yX0_doFit, Cond.instanceMethod yX0_doFit, Cond.selects RX0 yX0_doFit yX0_doFit, Cond.code yX0_doFit cX0_doFit 4 (some .boolean), Cond.fieldLink RX0 25 "WavePass$Coast" "slackNow" "I", Cond.methodLink RX0 77 yX0_apart, Cond.instanceMethod yX0_apart, Cond.selects RX0 yX0_apart yX0_apart, Cond.code yX0_apart cX0_apart 8 (some .int), Cond.methodLink RX0 71 Lib.Math.max.name, Cond.static Lib.Math.max.name, Cond.initialized "java/lang/Math", Cond.code Lib.Math.max.name Lib.Math.max.code 2 (some .int), Cond.methodLink RX0 74 Lib.Math.abs.name, Cond.static Lib.Math.abs.name, Cond.code Lib.Math.abs.name Lib.Math.abs.code 1 (some .int), Cond.methodLink RX0 65 yX0_kindOf, Cond.methodLink RX0 68 yX0_wear, Cond.static yX0_wear, Cond.code yX0_wear cX0_wear 2 (some .int)]
def wsX4_kinds_r3 : List Cond := [Cond.methodLink RX0 62 yX0_heightOf, Cond.instanceMethod yX0_heightOf, Cond.selects RX0 yX0_heightOf yX0_heightOf, Cond.code yX0_heightOf cX0_heightOf 3 (some .int), Cond.fieldLink RX0 15 "WavePass$Coast" "height" "[I", Cond.methodLink RX4 192 yX4_bitIf, Cond.static yX4_bitIf, Cond.initialized RX4, Cond.code yX4_bitIf cX4_bitIf 2 (some .int)]
def wsX4_kinds : List Cond := .code yX4_kinds cX4_kinds 5 (some .int) :: ((wsX4_kinds_r1 ++ (wsX4_kinds_r2 ++ wsX4_kinds_r3)) ++ wsX40 ++ wsX00 ++ wsX10)
def wsX4_slacks_r1 : List Cond := [Cond.fieldLink RX4 20 "WavePass" "shore" "LWavePass$Coast;", Cond.fieldLink RX4 34 "WavePass" "read" "LWavePass$Readings;", Cond.methodLink RX4 96 yX0_stands, Cond.instanceMethod yX0_stands, Cond.selects RX0 yX0_stands yX0_stands, Cond.initialized RX0, Cond.code yX0_stands cX0_stands 1 (some .boolean), Cond.fieldLink RX0 21 "WavePass$Coast" "passes" "I", Cond.methodLink RX4 100 yX0_slackNow, Cond.instanceMethod yX0_slackNow, Cond.selects RX0 yX0_slackNow yX0_slackNow, Cond.code yX0_slackNow cX0_slackNow 1 (some .int), Cond.fieldLink RX0 25 "WavePass$Coast" "slackNow" "I", Cond.methodLink RX4 103 yX0_setSlack, Cond.instanceMethod yX0_setSlack, Cond.selects RX0 yX0_setSlack yX0_setSlack, Cond.code yX0_setSlack cX0_setSlack 2 none, Cond.methodLink RX4 188 yX1_areSo, Cond.instanceMethod yX1_areSo, Cond.selects RX1 yX1_areSo yX1_areSo, Cond.initialized RX1, Cond.code yX1_areSo cX1_areSo 3 (some .boolean), Cond.fieldLink RX1 25 "WavePass$Readings" "count" "I", Cond.fieldLink RX1 9 "WavePass$Readings" "upper" "[I"]
def wsX4_slacks_r2 : List Cond := [Cond.fieldLink RX1 15 "WavePass$Readings" "lower" "[I", Cond.fieldLink RX1 18 "WavePass$Readings" "months" "[I", Cond.fieldLink RX1 21 "WavePass$Readings" "did" "[Z", Cond.methodLink RX1 29 yX0_doFit, Cond.instanceMethod yX0_doFit, Cond.selects RX0 yX0_doFit yX0_doFit, Cond.code yX0_doFit cX0_doFit 4 (some .boolean), Cond.methodLink RX0 77 yX0_apart, Cond.instanceMethod yX0_apart, Cond.selects RX0 yX0_apart yX0_apart, Cond.code yX0_apart cX0_apart 8 (some .int), Cond.methodLink RX0 71 Lib.Math.max.name, Cond.static Lib.Math.max.name, Cond.initialized "java/lang/Math", Cond.code Lib.Math.max.name Lib.Math.max.code 2 (some .int), Cond.methodLink RX0 74 Lib.Math.abs.name, Cond.static Lib.Math.abs.name, Cond.code Lib.Math.abs.name Lib.Math.abs.code 1 (some .int), Cond.methodLink RX0 65 yX0_kindOf, Cond.instanceMethod yX0_kindOf, Cond.selects RX0 yX0_kindOf yX0_kindOf, Cond.code yX0_kindOf cX0_kindOf 2 (some .int), Cond.fieldLink RX0 9 "WavePass$Coast" "kind" "[I", Cond.methodLink RX0 59 yX0_hasPass]
def wsX4_slacks_r3 : List Cond := [Cond.instanceMethod yX0_hasPass, Cond.selects RX0 yX0_hasPass yX0_hasPass, Cond.code yX0_hasPass cX0_hasPass 2 (some .boolean), Cond.methodLink RX0 68 yX0_wear, Cond.static yX0_wear, Cond.code yX0_wear cX0_wear 2 (some .int), Cond.methodLink RX0 62 yX0_heightOf, Cond.instanceMethod yX0_heightOf, Cond.selects RX0 yX0_heightOf yX0_heightOf, Cond.code yX0_heightOf cX0_heightOf 3 (some .int), Cond.fieldLink RX0 15 "WavePass$Coast" "height" "[I", Cond.methodLink RX4 192 yX4_bitIf, Cond.static yX4_bitIf, Cond.initialized RX4, Cond.code yX4_bitIf cX4_bitIf 2 (some .int)]
def wsX4_slacks : List Cond := .code yX4_slacks cX4_slacks 4 (some .int) :: ((wsX4_slacks_r1 ++ (wsX4_slacks_r2 ++ wsX4_slacks_r3)) ++ wsX40 ++ wsX00 ++ wsX10)
def wsX4_odds_r1 : List Cond := [Cond.fieldLink RX4 20 "WavePass" "shore" "LWavePass$Coast;", Cond.constantLong RX4 200 (-9223372036854775808), Cond.methodLink RX4 74 yX0_hasPass, Cond.instanceMethod yX0_hasPass, Cond.selects RX0 yX0_hasPass yX0_hasPass, Cond.initialized RX0, Cond.code yX0_hasPass cX0_hasPass 2 (some .boolean), Cond.fieldLink RX0 21 "WavePass$Coast" "passes" "I", Cond.methodLink RX4 106 yX4_isMonths, Cond.static yX4_isMonths, Cond.initialized RX4, Cond.code yX4_isMonths cX4_isMonths 1 (some .boolean), Cond.methodLink RX4 77 yX4_within, Cond.static yX4_within, Cond.code yX4_within cX4_within 3 (some .boolean), Cond.methodLink RX4 116 yX0_fitting, Cond.instanceMethod yX0_fitting, Cond.selects RX0 yX0_fitting yX0_fitting, Cond.code yX0_fitting cX0_fitting 5 (some .int), Cond.fieldLink RX0 25 "WavePass$Coast" "slackNow" "I", Cond.methodLink RX0 77 yX0_apart, Cond.instanceMethod yX0_apart, Cond.selects RX0 yX0_apart yX0_apart, Cond.code yX0_apart cX0_apart 8 (some .int)]
def wsX4_odds_r2 : List Cond := [Cond.methodLink RX0 71 Lib.Math.max.name, Cond.static Lib.Math.max.name, Cond.initialized "java/lang/Math", Cond.code Lib.Math.max.name Lib.Math.max.code 2 (some .int), Cond.methodLink RX0 74 Lib.Math.abs.name, Cond.static Lib.Math.abs.name, Cond.code Lib.Math.abs.name Lib.Math.abs.code 1 (some .int), Cond.methodLink RX0 65 yX0_kindOf, Cond.instanceMethod yX0_kindOf, Cond.selects RX0 yX0_kindOf yX0_kindOf, Cond.code yX0_kindOf cX0_kindOf 2 (some .int), Cond.fieldLink RX0 9 "WavePass$Coast" "kind" "[I", Cond.methodLink RX0 59 yX0_hasPass, Cond.methodLink RX0 68 yX0_wear, Cond.static yX0_wear, Cond.code yX0_wear cX0_wear 2 (some .int), Cond.methodLink RX0 62 yX0_heightOf, Cond.instanceMethod yX0_heightOf, Cond.selects RX0 yX0_heightOf yX0_heightOf, Cond.code yX0_heightOf cX0_heightOf 3 (some .int), Cond.fieldLink RX0 15 "WavePass$Coast" "height" "[I", Cond.static yX4_bitIf, Cond.code yX4_bitIf cX4_bitIf 2 (some .int), Cond.methodLink RX4 167 yJ6_bitCount_0f7a4]
def wsX4_odds_r3 : List Cond := [Cond.static yJ6_bitCount_0f7a4, Cond.initialized RJ6, Cond.code yJ6_bitCount_0f7a4 cJ6_bitCount_0f7a4 1 (some .int), Cond.constant RJ6 265 (1431655765), Cond.constant RJ6 266 (858993459), Cond.constant RJ6 267 (252645135)]
def wsX4_odds : List Cond := .code yX4_odds cX4_odds 6 (some .long) :: ((wsX4_odds_r1 ++ (wsX4_odds_r2 ++ wsX4_odds_r3)) ++ wsX40 ++ wsX00)
def wsX4_failBy : List Cond := .code yX4_failBy cX4_failBy 2 (some .int) :: ([.fieldLink RX4 42 "WavePass" "latestFault" "I"] ++ wsX40)
def wsX4_sheet_r1 : List Cond := [Cond.fieldLink RX4 42 "WavePass" "latestFault" "I", Cond.fieldLink RX4 13 "WavePass" "sheets" "[LWavePass$Sheet;", Cond.methodLink RX4 46 yX4_isSheet, Cond.static yX4_isSheet, Cond.initialized RX4, Cond.code yX4_isSheet cX4_isSheet 1 (some .boolean), Cond.methodLink RX4 77 yX4_within, Cond.static yX4_within, Cond.code yX4_within cX4_within 3 (some .boolean), Cond.methodLink RX4 50 yX4_isLane, Cond.static yX4_isLane, Cond.code yX4_isLane cX4_isLane 1 (some .boolean), Cond.methodLink RX4 202 yX4_failBy, Cond.instanceMethod yX4_failBy, Cond.selects RX4 yX4_failBy yX4_failBy, Cond.code yX4_failBy cX4_failBy 2 (some .int), Cond.methodLink RX4 205 yX2_begin, Cond.instanceMethod yX2_begin, Cond.selects RX2 yX2_begin yX2_begin, Cond.initialized RX2, Cond.code yX2_begin cX2_begin 3 none, Cond.fieldLink RX2 9 "WavePass$Sheet" "cells" "[I", Cond.fieldLink RX2 15 "WavePass$Sheet" "lane" "I", Cond.fieldLink RX2 19 "WavePass$Sheet" "length" "I"]
def wsX4_sheet_r2 : List Cond := [Cond.methodLink RX2 22 yJ7_fill_53178, Cond.static yJ7_fill_53178, Cond.initialized RJ7, Cond.code yJ7_fill_53178 cJ7_fill_53178 4 none]
def wsX4_sheet : List Cond := .code yX4_sheet cX4_sheet 4 (some .int) :: ((wsX4_sheet_r1 ++ wsX4_sheet_r2) ++ wsX40 ++ wsX20)
def wsX4_lose : List Cond := .code yX4_lose cX4_lose 2 (some .int) :: ([.fieldLink RX4 13 "WavePass" "sheets" "[LWavePass$Sheet;", .methodLink RX4 46 yX4_isSheet, .static yX4_isSheet, .initialized RX4, .code yX4_isSheet cX4_isSheet 1 (some .boolean), .methodLink RX4 77 yX4_within, .static yX4_within, .code yX4_within cX4_within 3 (some .boolean), .methodLink RX4 208 yX2_hasNothing, .instanceMethod yX2_hasNothing, .selects RX2 yX2_hasNothing yX2_hasNothing, .initialized RX2, .code yX2_hasNothing cX2_hasNothing 1 (some .boolean), .fieldLink RX2 15 "WavePass$Sheet" "lane" "I", .methodLink RX4 211 yX2_drop, .instanceMethod yX2_drop, .selects RX2 yX2_drop yX2_drop, .code yX2_drop cX2_drop 1 none, .fieldLink RX2 19 "WavePass$Sheet" "length" "I"] ++ wsX40 ++ wsX20)
def wsX4_put_r1 : List Cond := [Cond.fieldLink RX4 42 "WavePass" "latestFault" "I", Cond.fieldLink RX4 13 "WavePass" "sheets" "[LWavePass$Sheet;", Cond.methodLink RX4 46 yX4_isSheet, Cond.static yX4_isSheet, Cond.initialized RX4, Cond.code yX4_isSheet cX4_isSheet 1 (some .boolean), Cond.methodLink RX4 77 yX4_within, Cond.static yX4_within, Cond.code yX4_within cX4_within 3 (some .boolean), Cond.methodLink RX4 208 yX2_hasNothing, Cond.instanceMethod yX2_hasNothing, Cond.selects RX2 yX2_hasNothing yX2_hasNothing, Cond.initialized RX2, Cond.code yX2_hasNothing cX2_hasNothing 1 (some .boolean), Cond.fieldLink RX2 15 "WavePass$Sheet" "lane" "I", Cond.methodLink RX4 202 yX4_failBy, Cond.instanceMethod yX4_failBy, Cond.selects RX4 yX4_failBy yX4_failBy, Cond.code yX4_failBy cX4_failBy 2 (some .int), Cond.methodLink RX4 214 yX2_hasCell, Cond.instanceMethod yX2_hasCell, Cond.selects RX2 yX2_hasCell yX2_hasCell, Cond.code yX2_hasCell cX2_hasCell 2 (some .boolean), Cond.fieldLink RX2 19 "WavePass$Sheet" "length" "I"]
def wsX4_put_r2 : List Cond := [Cond.methodLink RX4 217 yX2_write, Cond.instanceMethod yX2_write, Cond.selects RX2 yX2_write yX2_write, Cond.code yX2_write cX2_write 3 none, Cond.fieldLink RX2 9 "WavePass$Sheet" "cells" "[I", Cond.methodLink RX2 28 yX2_hasCell, Cond.methodLink RX2 32 yX2_cut, Cond.instanceMethod yX2_cut, Cond.selects RX2 yX2_cut yX2_cut, Cond.code yX2_cut cX2_cut 2 (some .int)]
def wsX4_put : List Cond := .code yX4_put cX4_put 4 (some .int) :: ((wsX4_put_r1 ++ wsX4_put_r2) ++ wsX40 ++ wsX20)
def wsX4_cell_r1 : List Cond := [Cond.fieldLink RX4 42 "WavePass" "latestFault" "I", Cond.constantLong RX4 200 (-9223372036854775808), Cond.fieldLink RX4 13 "WavePass" "sheets" "[LWavePass$Sheet;", Cond.methodLink RX4 46 yX4_isSheet, Cond.static yX4_isSheet, Cond.initialized RX4, Cond.code yX4_isSheet cX4_isSheet 1 (some .boolean), Cond.methodLink RX4 77 yX4_within, Cond.static yX4_within, Cond.code yX4_within cX4_within 3 (some .boolean), Cond.methodLink RX4 50 yX4_isLane, Cond.static yX4_isLane, Cond.code yX4_isLane cX4_isLane 1 (some .boolean), Cond.methodLink RX4 220 yX4_faultOfRow, Cond.static yX4_faultOfRow, Cond.code yX4_faultOfRow cX4_faultOfRow 2 (some .int), Cond.methodLink RX4 208 yX2_hasNothing, Cond.instanceMethod yX2_hasNothing, Cond.selects RX2 yX2_hasNothing yX2_hasNothing, Cond.initialized RX2, Cond.code yX2_hasNothing cX2_hasNothing 1 (some .boolean), Cond.fieldLink RX2 15 "WavePass$Sheet" "lane" "I", Cond.methodLink RX4 230 yX2_isOfAnother, Cond.instanceMethod yX2_isOfAnother]
def wsX4_cell_r2 : List Cond := [Cond.selects RX2 yX2_isOfAnother yX2_isOfAnother, Cond.code yX2_isOfAnother cX2_isOfAnother 2 (some .boolean), Cond.methodLink RX4 214 yX2_hasCell, Cond.instanceMethod yX2_hasCell, Cond.selects RX2 yX2_hasCell yX2_hasCell, Cond.code yX2_hasCell cX2_hasCell 2 (some .boolean), Cond.fieldLink RX2 19 "WavePass$Sheet" "length" "I", Cond.methodLink RX4 224 yX2_at, Cond.instanceMethod yX2_at, Cond.selects RX2 yX2_at yX2_at, Cond.code yX2_at cX2_at 2 (some .int), Cond.fieldLink RX2 9 "WavePass$Sheet" "cells" "[I", Cond.methodLink RX2 28 yX2_hasCell]
def wsX4_cell : List Cond := .code yX4_cell cX4_cell 4 (some .long) :: ((wsX4_cell_r1 ++ wsX4_cell_r2) ++ wsX40 ++ wsX20)
def wsX4_copy_r1 : List Cond := [Cond.fieldLink RX4 42 "WavePass" "latestFault" "I", Cond.fieldLink RX4 13 "WavePass" "sheets" "[LWavePass$Sheet;", Cond.methodLink RX4 46 yX4_isSheet, Cond.static yX4_isSheet, Cond.initialized RX4, Cond.code yX4_isSheet cX4_isSheet 1 (some .boolean), Cond.methodLink RX4 77 yX4_within, Cond.static yX4_within, Cond.code yX4_within cX4_within 3 (some .boolean), Cond.methodLink RX4 208 yX2_hasNothing, Cond.instanceMethod yX2_hasNothing, Cond.selects RX2 yX2_hasNothing yX2_hasNothing, Cond.initialized RX2, Cond.code yX2_hasNothing cX2_hasNothing 1 (some .boolean), Cond.fieldLink RX2 15 "WavePass$Sheet" "lane" "I", Cond.methodLink RX4 202 yX4_failBy, Cond.instanceMethod yX4_failBy, Cond.selects RX4 yX4_failBy yX4_failBy, Cond.code yX4_failBy cX4_failBy 2 (some .int), Cond.methodLink RX4 227 yX2_laneNow, Cond.instanceMethod yX2_laneNow, Cond.selects RX2 yX2_laneNow yX2_laneNow, Cond.code yX2_laneNow cX2_laneNow 1 (some .int), Cond.methodLink RX4 230 yX2_isOfAnother]
def wsX4_copy_r2 : List Cond := [Cond.instanceMethod yX2_isOfAnother, Cond.selects RX2 yX2_isOfAnother yX2_isOfAnother, Cond.code yX2_isOfAnother cX2_isOfAnother 2 (some .boolean), Cond.methodLink RX4 233 yX2_hasCells, Cond.instanceMethod yX2_hasCells, Cond.selects RX2 yX2_hasCells yX2_hasCells, Cond.code yX2_hasCells cX2_hasCells 3 (some .boolean), Cond.fieldLink RX2 19 "WavePass$Sheet" "length" "I", Cond.methodLink RX4 237 yX2_takeCells, Cond.instanceMethod yX2_takeCells, Cond.selects RX2 yX2_takeCells yX2_takeCells, Cond.code yX2_takeCells cX2_takeCells 5 none, Cond.fieldLink RX2 9 "WavePass$Sheet" "cells" "[I", Cond.methodLink RX2 40 arraycopyName, Cond.native arraycopyName, Cond.static arraycopyName, Cond.initialized "java/lang/System", Cond.methodLink RX2 36 yX2_hasCells]
def wsX4_copy : List Cond := .code yX4_copy cX4_copy 8 (some .int) :: ((wsX4_copy_r1 ++ wsX4_copy_r2) ++ wsX40 ++ wsX20)
def wsX4_leave : List Cond := .code yX4_leave cX4_leave 2 none :: ([.fieldLink RX4 38 "WavePass" "traced" "I"] ++ wsX40)
def wsX4_tellAsPass : List Cond := .code yX4_tellAsPass cX4_tellAsPass 4 (some .int) :: ([.fieldLink RX4 20 "WavePass" "shore" "LWavePass$Coast;", .methodLink RX4 256 yX4_leave, .instanceMethod yX4_leave, .selects RX4 yX4_leave yX4_leave, .initialized RX4, .code yX4_leave cX4_leave 2 none, .fieldLink RX4 38 "WavePass" "traced" "I", .methodLink RX4 85 yX0_heightOf, .instanceMethod yX0_heightOf, .selects RX0 yX0_heightOf yX0_heightOf, .initialized RX0, .code yX0_heightOf cX0_heightOf 3 (some .int), .fieldLink RX0 15 "WavePass$Coast" "height" "[I", .methodLink RX0 59 yX0_hasPass, .instanceMethod yX0_hasPass, .selects RX0 yX0_hasPass yX0_hasPass, .code yX0_hasPass cX0_hasPass 2 (some .boolean), .fieldLink RX0 21 "WavePass$Coast" "passes" "I"] ++ wsX40 ++ wsX00)
def wsX4_tellAsLent : List Cond := .code yX4_tellAsLent cX4_tellAsLent 2 (some .int) :: ([.methodLink RX4 256 yX4_leave, .instanceMethod yX4_leave, .selects RX4 yX4_leave yX4_leave, .initialized RX4, .code yX4_leave cX4_leave 2 none, .fieldLink RX4 38 "WavePass" "traced" "I", .methodLink RX4 247 yX4_tellAsPass, .instanceMethod yX4_tellAsPass, .selects RX4 yX4_tellAsPass yX4_tellAsPass, .code yX4_tellAsPass cX4_tellAsPass 4 (some .int), .fieldLink RX4 20 "WavePass" "shore" "LWavePass$Coast;", .methodLink RX4 85 yX0_heightOf, .instanceMethod yX0_heightOf, .selects RX0 yX0_heightOf yX0_heightOf, .initialized RX0, .code yX0_heightOf cX0_heightOf 3 (some .int), .fieldLink RX0 15 "WavePass$Coast" "height" "[I", .methodLink RX0 59 yX0_hasPass, .instanceMethod yX0_hasPass, .selects RX0 yX0_hasPass yX0_hasPass, .code yX0_hasPass cX0_hasPass 2 (some .boolean), .fieldLink RX0 21 "WavePass$Coast" "passes" "I"] ++ wsX40 ++ wsX00)
def wsX4_tellAsDrawn_r1 : List Cond := [Cond.methodLink RX4 256 yX4_leave, Cond.instanceMethod yX4_leave, Cond.selects RX4 yX4_leave yX4_leave, Cond.initialized RX4, Cond.code yX4_leave cX4_leave 2 none, Cond.fieldLink RX4 38 "WavePass" "traced" "I", Cond.methodLink RX4 244 yX4_tellAsLent, Cond.instanceMethod yX4_tellAsLent, Cond.selects RX4 yX4_tellAsLent yX4_tellAsLent, Cond.code yX4_tellAsLent cX4_tellAsLent 2 (some .int), Cond.methodLink RX4 247 yX4_tellAsPass, Cond.instanceMethod yX4_tellAsPass, Cond.selects RX4 yX4_tellAsPass yX4_tellAsPass, Cond.code yX4_tellAsPass cX4_tellAsPass 4 (some .int), Cond.fieldLink RX4 20 "WavePass" "shore" "LWavePass$Coast;", Cond.methodLink RX4 85 yX0_heightOf, Cond.instanceMethod yX0_heightOf, Cond.selects RX0 yX0_heightOf yX0_heightOf, Cond.initialized RX0, Cond.code yX0_heightOf cX0_heightOf 3 (some .int), Cond.fieldLink RX0 15 "WavePass$Coast" "height" "[I", Cond.methodLink RX0 59 yX0_hasPass, Cond.instanceMethod yX0_hasPass, Cond.selects RX0 yX0_hasPass yX0_hasPass]
def wsX4_tellAsDrawn_r2 : List Cond := [Cond.code yX0_hasPass cX0_hasPass 2 (some .boolean), Cond.fieldLink RX0 21 "WavePass$Coast" "passes" "I"]
def wsX4_tellAsDrawn : List Cond := .code yX4_tellAsDrawn cX4_tellAsDrawn 3 (some .int) :: ((wsX4_tellAsDrawn_r1 ++ wsX4_tellAsDrawn_r2) ++ wsX40 ++ wsX00)
def wsX4_tell_r1 : List Cond := [Cond.fieldLink RX4 20 "WavePass" "shore" "LWavePass$Coast;", Cond.methodLink RX4 74 yX0_hasPass, Cond.instanceMethod yX0_hasPass, Cond.selects RX0 yX0_hasPass yX0_hasPass, Cond.initialized RX0, Cond.code yX0_hasPass cX0_hasPass 2 (some .boolean), Cond.fieldLink RX0 21 "WavePass$Coast" "passes" "I", Cond.methodLink RX4 81 yX0_kindOf, Cond.instanceMethod yX0_kindOf, Cond.selects RX0 yX0_kindOf yX0_kindOf, Cond.code yX0_kindOf cX0_kindOf 2 (some .int), Cond.fieldLink RX0 9 "WavePass$Coast" "kind" "[I", Cond.methodLink RX0 59 yX0_hasPass, Cond.methodLink RX4 241 yX4_tellAsDrawn, Cond.instanceMethod yX4_tellAsDrawn, Cond.selects RX4 yX4_tellAsDrawn yX4_tellAsDrawn, Cond.initialized RX4, Cond.code yX4_tellAsDrawn cX4_tellAsDrawn 3 (some .int), Cond.methodLink RX4 256 yX4_leave, Cond.instanceMethod yX4_leave, Cond.selects RX4 yX4_leave yX4_leave, Cond.code yX4_leave cX4_leave 2 none, Cond.fieldLink RX4 38 "WavePass" "traced" "I", Cond.methodLink RX4 244 yX4_tellAsLent]
def wsX4_tell_r2 : List Cond := [Cond.instanceMethod yX4_tellAsLent, Cond.selects RX4 yX4_tellAsLent yX4_tellAsLent, Cond.code yX4_tellAsLent cX4_tellAsLent 2 (some .int), Cond.methodLink RX4 247 yX4_tellAsPass, Cond.instanceMethod yX4_tellAsPass, Cond.selects RX4 yX4_tellAsPass yX4_tellAsPass, Cond.code yX4_tellAsPass cX4_tellAsPass 4 (some .int), Cond.methodLink RX4 85 yX0_heightOf, Cond.instanceMethod yX0_heightOf, Cond.selects RX0 yX0_heightOf yX0_heightOf, Cond.code yX0_heightOf cX0_heightOf 3 (some .int), Cond.fieldLink RX0 15 "WavePass$Coast" "height" "[I"]
def wsX4_tell : List Cond := .code yX4_tell cX4_tell 2 (some .int) :: ((wsX4_tell_r1 ++ wsX4_tell_r2) ++ wsX40 ++ wsX00)
def wsX4_sealAsDrawn : List Cond := .code yX4_sealAsDrawn cX4_sealAsDrawn 1 (some .int) :: ([.methodLink RX4 256 yX4_leave, .instanceMethod yX4_leave, .selects RX4 yX4_leave yX4_leave, .initialized RX4, .code yX4_leave cX4_leave 2 none, .fieldLink RX4 38 "WavePass" "traced" "I"] ++ wsX40)
def wsX4_sealAsAny : List Cond := .code yX4_sealAsAny cX4_sealAsAny 2 (some .int) :: ([.methodLink RX4 256 yX4_leave, .instanceMethod yX4_leave, .selects RX4 yX4_leave yX4_leave, .initialized RX4, .code yX4_leave cX4_leave 2 none, .fieldLink RX4 38 "WavePass" "traced" "I"] ++ wsX40)
def wsX4_seal_r1 : List Cond := [Cond.fieldLink RX4 20 "WavePass" "shore" "LWavePass$Coast;", Cond.methodLink RX4 74 yX0_hasPass, Cond.instanceMethod yX0_hasPass, Cond.selects RX0 yX0_hasPass yX0_hasPass, Cond.initialized RX0, Cond.code yX0_hasPass cX0_hasPass 2 (some .boolean), Cond.fieldLink RX0 21 "WavePass$Coast" "passes" "I", Cond.methodLink RX4 81 yX0_kindOf, Cond.instanceMethod yX0_kindOf, Cond.selects RX0 yX0_kindOf yX0_kindOf, Cond.code yX0_kindOf cX0_kindOf 2 (some .int), Cond.fieldLink RX0 9 "WavePass$Coast" "kind" "[I", Cond.methodLink RX0 59 yX0_hasPass, Cond.methodLink RX4 250 yX4_sealAsDrawn, Cond.instanceMethod yX4_sealAsDrawn, Cond.selects RX4 yX4_sealAsDrawn yX4_sealAsDrawn, Cond.initialized RX4, Cond.code yX4_sealAsDrawn cX4_sealAsDrawn 1 (some .int), Cond.methodLink RX4 256 yX4_leave, Cond.instanceMethod yX4_leave, Cond.selects RX4 yX4_leave yX4_leave, Cond.code yX4_leave cX4_leave 2 none, Cond.fieldLink RX4 38 "WavePass" "traced" "I", Cond.methodLink RX4 253 yX4_sealAsAny]
def wsX4_seal_r2 : List Cond := [Cond.instanceMethod yX4_sealAsAny, Cond.selects RX4 yX4_sealAsAny yX4_sealAsAny, Cond.code yX4_sealAsAny cX4_sealAsAny 2 (some .int)]
def wsX4_seal : List Cond := .code yX4_seal cX4_seal 2 (some .int) :: ((wsX4_seal_r1 ++ wsX4_seal_r2) ++ wsX40 ++ wsX00)
def wsX4_as : List Cond := .code yX4_as cX4_as 3 (some .int) :: ([.fieldLink RX4 42 "WavePass" "latestFault" "I", .fieldLink RX4 20 "WavePass" "shore" "LWavePass$Coast;", .methodLink RX4 74 yX0_hasPass, .instanceMethod yX0_hasPass, .selects RX0 yX0_hasPass yX0_hasPass, .initialized RX0, .code yX0_hasPass cX0_hasPass 2 (some .boolean), .fieldLink RX0 21 "WavePass$Coast" "passes" "I", .methodLink RX4 77 yX4_within, .static yX4_within, .initialized RX4, .code yX4_within cX4_within 3 (some .boolean), .methodLink RX4 81 yX0_kindOf, .instanceMethod yX0_kindOf, .selects RX0 yX0_kindOf yX0_kindOf, .code yX0_kindOf cX0_kindOf 2 (some .int), .fieldLink RX0 9 "WavePass$Coast" "kind" "[I", .methodLink RX0 59 yX0_hasPass, .methodLink RX4 202 yX4_failBy, .instanceMethod yX4_failBy, .selects RX4 yX4_failBy yX4_failBy, .code yX4_failBy cX4_failBy 2 (some .int)] ++ wsX40 ++ wsX00)
def wsX4_trace : List Cond := .code yX4_trace cX4_trace 1 (some .int) :: ([.fieldLink RX4 38 "WavePass" "traced" "I"] ++ wsX40)
def wsX4_fault : List Cond := .code yX4_fault cX4_fault 1 (some .int) :: ([.fieldLink RX4 42 "WavePass" "latestFault" "I"] ++ wsX40)
def wsX4_many : List Cond := .code yX4_many cX4_many 2 (some .int) :: ([.fieldLink RX4 20 "WavePass" "shore" "LWavePass$Coast;", .fieldLink RX4 34 "WavePass" "read" "LWavePass$Readings;", .methodLink RX4 73 yX0_howMany, .instanceMethod yX0_howMany, .selects RX0 yX0_howMany yX0_howMany, .initialized RX0, .code yX0_howMany cX0_howMany 1 (some .int), .fieldLink RX0 21 "WavePass$Coast" "passes" "I", .methodLink RX4 100 yX0_slackNow, .instanceMethod yX0_slackNow, .selects RX0 yX0_slackNow yX0_slackNow, .code yX0_slackNow cX0_slackNow 1 (some .int), .fieldLink RX0 25 "WavePass$Coast" "slackNow" "I", .methodLink RX4 65 yX1_howMany, .instanceMethod yX1_howMany, .selects RX1 yX1_howMany yX1_howMany, .initialized RX1, .code yX1_howMany cX1_howMany 1 (some .int), .fieldLink RX1 25 "WavePass$Readings" "count" "I"] ++ wsX40 ++ wsX00 ++ wsX10)
def wsX5_init : List Cond := .code yX5_init cX5_init 1 none :: ([.methodLink RX5 1 objectInit, .instanceMethod objectInit, .code objectInit ⟨#[0xb1]⟩ 1 none, .arrayClass .int, .fieldLink RX5 9 "WavePassModel" "sorts" "[I", .fieldLink RX5 13 "WavePassModel" "sheetLong" "[I", .fieldLink RX5 16 "WavePassModel" "cells" "[I", .fieldLink RX5 19 "WavePassModel" "kind" "[I", .fieldLink RX5 22 "WavePassModel" "height" "[I", .fieldLink RX5 25 "WavePassModel" "readKind" "[I", .fieldLink RX5 28 "WavePassModel" "readHeight" "[I", .fieldLink RX5 31 "WavePassModel" "taken" "[I", .fieldLink RX5 34 "WavePassModel" "readUpper" "[I", .fieldLink RX5 37 "WavePassModel" "readLower" "[I", .fieldLink RX5 40 "WavePassModel" "readMonths" "[I", .arrayClass .boolean, .fieldLink RX5 43 "WavePassModel" "readDid" "[Z"] ++ wsX50)
def wsX5_fails : List Cond := .code yX5_fails cX5_fails 2 (some .int) :: ([.fieldLink RX5 47 "WavePassModel" "fault" "I"] ++ wsX50)
def wsX5_lost : List Cond := .code yX5_lost cX5_lost 2 (some .long) :: ([.fieldLink RX5 47 "WavePassModel" "fault" "I", .constantLong RX5 51 (-9223372036854775808)] ++ wsX50)
def wsX5_within : List Cond := .code yX5_within cX5_within 3 (some .boolean) :: ([])
def wsX5_isSheet : List Cond := .code yX5_isSheet cX5_isSheet 1 (some .boolean) :: ([.methodLink RX5 53 yX5_within, .static yX5_within, .initialized RX5, .code yX5_within cX5_within 3 (some .boolean)])
def wsX5_isSort : List Cond := .code yX5_isSort cX5_isSort 1 (some .boolean) :: ([.methodLink RX5 53 yX5_within, .static yX5_within, .initialized RX5, .code yX5_within cX5_within 3 (some .boolean)])
def wsX5_against : List Cond := .code yX5_against cX5_against 5 (some .int) :: ([.fieldLink RX5 9 "WavePassModel" "sorts" "[I", .fieldLink RX5 13 "WavePassModel" "sheetLong" "[I"] ++ wsX50)
def wsX5_isPass : List Cond := .code yX5_isPass cX5_isPass 2 (some .boolean) :: ([.fieldLink RX5 57 "WavePassModel" "passes" "I"] ++ wsX50)
def wsX5_isSet : List Cond := .code yX5_isSet cX5_isSet 2 (some .boolean) :: ([.fieldLink RX5 57 "WavePassModel" "passes" "I"] ++ wsX50)
def wsX5_isDigit : List Cond := .code yX5_isDigit cX5_isDigit 1 (some .boolean) :: ([.methodLink RX5 53 yX5_within, .static yX5_within, .initialized RX5, .code yX5_within cX5_within 3 (some .boolean)])
def wsX5_isPlace : List Cond := .code yX5_isPlace cX5_isPlace 1 (some .boolean) :: ([.methodLink RX5 53 yX5_within, .static yX5_within, .initialized RX5, .code yX5_within cX5_within 3 (some .boolean)])
def wsX5_digit : List Cond := .code yX5_digit cX5_digit 2 (some .int) :: ([.fieldLink RX5 60 "WavePassModel" "at" "I", .fieldLink RX5 16 "WavePassModel" "cells" "[I", .methodLink RX5 53 yX5_within, .static yX5_within, .initialized RX5, .code yX5_within cX5_within 3 (some .boolean)] ++ wsX50)
def wsX5_isSign : List Cond := .code yX5_isSign cX5_isSign 3 (some .boolean) :: ([.fieldLink RX5 60 "WavePassModel" "at" "I", .fieldLink RX5 16 "WavePassModel" "cells" "[I"] ++ wsX50)
def wsX5_readPass : List Cond := .code yX5_readPass cX5_readPass 4 (some .boolean) :: ([.fieldLink RX5 60 "WavePassModel" "at" "I", .fieldLink RX5 16 "WavePassModel" "cells" "[I", .fieldLink RX5 25 "WavePassModel" "readKind" "[I", .fieldLink RX5 87 "WavePassModel" "readMany" "I", .fieldLink RX5 28 "WavePassModel" "readHeight" "[I", .methodLink RX5 97 yX5_digit, .instanceMethod yX5_digit, .selects RX5 yX5_digit yX5_digit, .initialized RX5, .code yX5_digit cX5_digit 2 (some .int), .methodLink RX5 53 yX5_within, .static yX5_within, .code yX5_within cX5_within 3 (some .boolean)] ++ wsX50)
def wsX5_readCoast : List Cond := .code yX5_readCoast cX5_readCoast 2 (some .boolean) :: ([.fieldLink RX5 87 "WavePassModel" "readMany" "I", .fieldLink RX5 81 "WavePassModel" "readSlack" "I", .fieldLink RX5 60 "WavePassModel" "at" "I", .methodLink RX5 93 yX5_isSign, .instanceMethod yX5_isSign, .selects RX5 yX5_isSign yX5_isSign, .initialized RX5, .code yX5_isSign cX5_isSign 3 (some .boolean), .fieldLink RX5 16 "WavePassModel" "cells" "[I", .methodLink RX5 97 yX5_digit, .instanceMethod yX5_digit, .selects RX5 yX5_digit yX5_digit, .code yX5_digit cX5_digit 2 (some .int), .methodLink RX5 53 yX5_within, .static yX5_within, .code yX5_within cX5_within 3 (some .boolean), .methodLink RX5 100 yX5_readPass, .instanceMethod yX5_readPass, .selects RX5 yX5_readPass yX5_readPass, .code yX5_readPass cX5_readPass 4 (some .boolean), .fieldLink RX5 25 "WavePassModel" "readKind" "[I", .fieldLink RX5 28 "WavePassModel" "readHeight" "[I"] ++ wsX50)
def wsX5_coast_r1 : List Cond := [Cond.fieldLink RX5 47 "WavePassModel" "fault" "I", Cond.fieldLink RX5 60 "WavePassModel" "at" "I", Cond.fieldLink RX5 81 "WavePassModel" "readSlack" "I", Cond.fieldLink RX5 84 "WavePassModel" "slackNow" "I", Cond.fieldLink RX5 87 "WavePassModel" "readMany" "I", Cond.fieldLink RX5 57 "WavePassModel" "passes" "I", Cond.fieldLink RX5 19 "WavePassModel" "kind" "[I", Cond.fieldLink RX5 25 "WavePassModel" "readKind" "[I", Cond.fieldLink RX5 22 "WavePassModel" "height" "[I", Cond.fieldLink RX5 28 "WavePassModel" "readHeight" "[I", Cond.fieldLink RX5 90 "WavePassModel" "readings" "I", Cond.methodLink RX5 63 yX5_isSheet, Cond.static yX5_isSheet, Cond.initialized RX5, Cond.code yX5_isSheet cX5_isSheet 1 (some .boolean), Cond.methodLink RX5 53 yX5_within, Cond.static yX5_within, Cond.code yX5_within cX5_within 3 (some .boolean), Cond.methodLink RX5 67 yX5_isSort, Cond.static yX5_isSort, Cond.code yX5_isSort cX5_isSort 1 (some .boolean), Cond.methodLink RX5 70 yX5_against, Cond.instanceMethod yX5_against, Cond.selects RX5 yX5_against yX5_against]
def wsX5_coast_r2 : List Cond := [Cond.code yX5_against cX5_against 5 (some .int), Cond.fieldLink RX5 9 "WavePassModel" "sorts" "[I", Cond.fieldLink RX5 13 "WavePassModel" "sheetLong" "[I", Cond.methodLink RX5 74 yX5_fails, Cond.instanceMethod yX5_fails, Cond.selects RX5 yX5_fails yX5_fails, Cond.code yX5_fails cX5_fails 2 (some .int), Cond.methodLink RX5 78 yX5_readCoast, Cond.instanceMethod yX5_readCoast, Cond.selects RX5 yX5_readCoast yX5_readCoast, Cond.code yX5_readCoast cX5_readCoast 2 (some .boolean), Cond.methodLink RX5 93 yX5_isSign, Cond.instanceMethod yX5_isSign, Cond.selects RX5 yX5_isSign yX5_isSign, Cond.code yX5_isSign cX5_isSign 3 (some .boolean), Cond.fieldLink RX5 16 "WavePassModel" "cells" "[I", Cond.methodLink RX5 97 yX5_digit, Cond.instanceMethod yX5_digit, Cond.selects RX5 yX5_digit yX5_digit, Cond.code yX5_digit cX5_digit 2 (some .int), Cond.methodLink RX5 100 yX5_readPass, Cond.instanceMethod yX5_readPass, Cond.selects RX5 yX5_readPass yX5_readPass, Cond.code yX5_readPass cX5_readPass 4 (some .boolean)]
def wsX5_coast : List Cond := .code yX5_coast cX5_coast 9 (some .int) :: ((wsX5_coast_r1 ++ wsX5_coast_r2) ++ wsX50)
def wsX5_ofPass : List Cond := .code yX5_ofPass cX5_ofPass 3 (some .int) :: ([.fieldLink RX5 19 "WavePassModel" "kind" "[I", .fieldLink RX5 22 "WavePassModel" "height" "[I", .methodLink RX5 103 yX5_isPass, .instanceMethod yX5_isPass, .selects RX5 yX5_isPass yX5_isPass, .initialized RX5, .code yX5_isPass cX5_isPass 2 (some .boolean), .fieldLink RX5 57 "WavePassModel" "passes" "I", .methodLink RX5 53 yX5_within, .static yX5_within, .code yX5_within cX5_within 3 (some .boolean)] ++ wsX50)
def wsX5_trim : List Cond := .code yX5_trim cX5_trim 5 (some .int) :: ([.fieldLink RX5 22 "WavePassModel" "height" "[I", .methodLink RX5 103 yX5_isPass, .instanceMethod yX5_isPass, .selects RX5 yX5_isPass yX5_isPass, .initialized RX5, .code yX5_isPass cX5_isPass 2 (some .boolean), .fieldLink RX5 57 "WavePassModel" "passes" "I", .methodLink RX5 106 yX5_isPlace, .static yX5_isPlace, .code yX5_isPlace cX5_isPlace 1 (some .boolean), .methodLink RX5 53 yX5_within, .static yX5_within, .code yX5_within cX5_within 3 (some .boolean), .methodLink RX5 109 yX5_isDigit, .static yX5_isDigit, .code yX5_isDigit cX5_isDigit 1 (some .boolean)] ++ wsX50)
def wsX5_slack : List Cond := .code yX5_slack cX5_slack 3 (some .int) :: ([.fieldLink RX5 57 "WavePassModel" "passes" "I", .fieldLink RX5 84 "WavePassModel" "slackNow" "I", .methodLink RX5 109 yX5_isDigit, .static yX5_isDigit, .initialized RX5, .code yX5_isDigit cX5_isDigit 1 (some .boolean), .methodLink RX5 53 yX5_within, .static yX5_within, .code yX5_within cX5_within 3 (some .boolean)] ++ wsX50)
def wsX5_lower : List Cond := .code yX5_lower cX5_lower 6 (some .int) :: ([.fieldLink RX5 19 "WavePassModel" "kind" "[I", .fieldLink RX5 22 "WavePassModel" "height" "[I"] ++ wsX50)
def wsX5_worn : List Cond := .code yX5_worn cX5_worn 4 (some .int) :: ([.methodLink RX5 103 yX5_isPass, .instanceMethod yX5_isPass, .selects RX5 yX5_isPass yX5_isPass, .initialized RX5, .code yX5_isPass cX5_isPass 2 (some .boolean), .fieldLink RX5 57 "WavePassModel" "passes" "I", .methodLink RX5 106 yX5_isPlace, .static yX5_isPlace, .code yX5_isPlace cX5_isPlace 1 (some .boolean), .methodLink RX5 53 yX5_within, .static yX5_within, .code yX5_within cX5_within 3 (some .boolean), .methodLink RX5 109 yX5_isDigit, .static yX5_isDigit, .code yX5_isDigit cX5_isDigit 1 (some .boolean), .methodLink RX5 112 yX5_lower, .instanceMethod yX5_lower, .selects RX5 yX5_lower yX5_lower, .code yX5_lower cX5_lower 6 (some .int), .fieldLink RX5 19 "WavePassModel" "kind" "[I", .fieldLink RX5 22 "WavePassModel" "height" "[I"] ++ wsX50)
def wsX5_apart : List Cond := .code yX5_apart cX5_apart 2 (some .int) :: ([])
def wsX5_offOf : List Cond := .code yX5_offOf cX5_offOf 6 (some .int) :: ([.fieldLink RX5 22 "WavePassModel" "height" "[I", .methodLink RX5 112 yX5_lower, .instanceMethod yX5_lower, .selects RX5 yX5_lower yX5_lower, .initialized RX5, .code yX5_lower cX5_lower 6 (some .int), .fieldLink RX5 19 "WavePassModel" "kind" "[I", .methodLink RX5 116 yX5_apart, .static yX5_apart, .code yX5_apart cX5_apart 2 (some .int)] ++ wsX50)
def wsX5_isFit : List Cond := .code yX5_isFit cX5_isFit 4 (some .boolean) :: ([.fieldLink RX5 84 "WavePassModel" "slackNow" "I", .methodLink RX5 120 yX5_offOf, .instanceMethod yX5_offOf, .selects RX5 yX5_offOf yX5_offOf, .initialized RX5, .code yX5_offOf cX5_offOf 6 (some .int), .fieldLink RX5 22 "WavePassModel" "height" "[I", .methodLink RX5 112 yX5_lower, .instanceMethod yX5_lower, .selects RX5 yX5_lower yX5_lower, .code yX5_lower cX5_lower 6 (some .int), .fieldLink RX5 19 "WavePassModel" "kind" "[I", .methodLink RX5 116 yX5_apart, .static yX5_apart, .code yX5_apart cX5_apart 2 (some .int)] ++ wsX50)
def wsX5_fitsOf : List Cond := .code yX5_fitsOf cX5_fitsOf 5 (some .int) :: ([.fieldLink RX5 57 "WavePassModel" "passes" "I", .methodLink RX5 123 yX5_isFit, .instanceMethod yX5_isFit, .selects RX5 yX5_isFit yX5_isFit, .initialized RX5, .code yX5_isFit cX5_isFit 4 (some .boolean), .fieldLink RX5 84 "WavePassModel" "slackNow" "I", .methodLink RX5 120 yX5_offOf, .instanceMethod yX5_offOf, .selects RX5 yX5_offOf yX5_offOf, .code yX5_offOf cX5_offOf 6 (some .int), .fieldLink RX5 22 "WavePassModel" "height" "[I", .methodLink RX5 112 yX5_lower, .instanceMethod yX5_lower, .selects RX5 yX5_lower yX5_lower, .code yX5_lower cX5_lower 6 (some .int), .fieldLink RX5 19 "WavePassModel" "kind" "[I", .methodLink RX5 116 yX5_apart, .static yX5_apart, .code yX5_apart cX5_apart 2 (some .int)] ++ wsX50)
def wsX5_off_r1 : List Cond := [Cond.methodLink RX5 103 yX5_isPass, Cond.instanceMethod yX5_isPass, Cond.selects RX5 yX5_isPass yX5_isPass, Cond.initialized RX5, Cond.code yX5_isPass cX5_isPass 2 (some .boolean), Cond.fieldLink RX5 57 "WavePassModel" "passes" "I", Cond.methodLink RX5 109 yX5_isDigit, Cond.static yX5_isDigit, Cond.code yX5_isDigit cX5_isDigit 1 (some .boolean), Cond.methodLink RX5 53 yX5_within, Cond.static yX5_within, Cond.code yX5_within cX5_within 3 (some .boolean), Cond.methodLink RX5 120 yX5_offOf, Cond.instanceMethod yX5_offOf, Cond.selects RX5 yX5_offOf yX5_offOf, Cond.code yX5_offOf cX5_offOf 6 (some .int), Cond.fieldLink RX5 22 "WavePassModel" "height" "[I", Cond.methodLink RX5 112 yX5_lower, Cond.instanceMethod yX5_lower, Cond.selects RX5 yX5_lower yX5_lower, Cond.code yX5_lower cX5_lower 6 (some .int), Cond.fieldLink RX5 19 "WavePassModel" "kind" "[I", Cond.methodLink RX5 116 yX5_apart, Cond.static yX5_apart]
def wsX5_off_r2 : List Cond := [Cond.code yX5_apart cX5_apart 2 (some .int)]
def wsX5_off : List Cond := .code yX5_off cX5_off 4 (some .int) :: ((wsX5_off_r1 ++ wsX5_off_r2) ++ wsX50)
def wsX5_fits_r1 : List Cond := [Cond.methodLink RX5 103 yX5_isPass, Cond.instanceMethod yX5_isPass, Cond.selects RX5 yX5_isPass yX5_isPass, Cond.initialized RX5, Cond.code yX5_isPass cX5_isPass 2 (some .boolean), Cond.fieldLink RX5 57 "WavePassModel" "passes" "I", Cond.methodLink RX5 109 yX5_isDigit, Cond.static yX5_isDigit, Cond.code yX5_isDigit cX5_isDigit 1 (some .boolean), Cond.methodLink RX5 53 yX5_within, Cond.static yX5_within, Cond.code yX5_within cX5_within 3 (some .boolean), Cond.methodLink RX5 126 yX5_fitsOf, Cond.instanceMethod yX5_fitsOf, Cond.selects RX5 yX5_fitsOf yX5_fitsOf, Cond.code yX5_fitsOf cX5_fitsOf 5 (some .int), Cond.methodLink RX5 123 yX5_isFit, Cond.instanceMethod yX5_isFit, Cond.selects RX5 yX5_isFit yX5_isFit, Cond.code yX5_isFit cX5_isFit 4 (some .boolean), Cond.fieldLink RX5 84 "WavePassModel" "slackNow" "I", Cond.methodLink RX5 120 yX5_offOf, Cond.instanceMethod yX5_offOf, Cond.selects RX5 yX5_offOf yX5_offOf]
def wsX5_fits_r2 : List Cond := [Cond.code yX5_offOf cX5_offOf 6 (some .int), Cond.fieldLink RX5 22 "WavePassModel" "height" "[I", Cond.methodLink RX5 112 yX5_lower, Cond.instanceMethod yX5_lower, Cond.selects RX5 yX5_lower yX5_lower, Cond.code yX5_lower cX5_lower 6 (some .int), Cond.fieldLink RX5 19 "WavePassModel" "kind" "[I", Cond.methodLink RX5 116 yX5_apart, Cond.static yX5_apart, Cond.code yX5_apart cX5_apart 2 (some .int)]
def wsX5_fits : List Cond := .code yX5_fits cX5_fits 3 (some .int) :: ((wsX5_fits_r1 ++ wsX5_fits_r2) ++ wsX50)
def wsX5_match_r1 : List Cond := [Cond.fieldLink RX5 57 "WavePassModel" "passes" "I", Cond.methodLink RX5 103 yX5_isPass, Cond.instanceMethod yX5_isPass, Cond.selects RX5 yX5_isPass yX5_isPass, Cond.initialized RX5, Cond.code yX5_isPass cX5_isPass 2 (some .boolean), Cond.methodLink RX5 109 yX5_isDigit, Cond.static yX5_isDigit, Cond.code yX5_isDigit cX5_isDigit 1 (some .boolean), Cond.methodLink RX5 53 yX5_within, Cond.static yX5_within, Cond.code yX5_within cX5_within 3 (some .boolean), Cond.methodLink RX5 123 yX5_isFit, Cond.instanceMethod yX5_isFit, Cond.selects RX5 yX5_isFit yX5_isFit, Cond.code yX5_isFit cX5_isFit 4 (some .boolean), Cond.fieldLink RX5 84 "WavePassModel" "slackNow" "I", Cond.methodLink RX5 120 yX5_offOf, Cond.instanceMethod yX5_offOf, Cond.selects RX5 yX5_offOf yX5_offOf, Cond.code yX5_offOf cX5_offOf 6 (some .int), Cond.fieldLink RX5 22 "WavePassModel" "height" "[I", Cond.methodLink RX5 112 yX5_lower, Cond.instanceMethod yX5_lower]
def wsX5_match_r2 : List Cond := [Cond.selects RX5 yX5_lower yX5_lower, Cond.code yX5_lower cX5_lower 6 (some .int), Cond.fieldLink RX5 19 "WavePassModel" "kind" "[I", Cond.methodLink RX5 116 yX5_apart, Cond.static yX5_apart, Cond.code yX5_apart cX5_apart 2 (some .int)]
def wsX5_match : List Cond := .code yX5_match cX5_match 5 (some .int) :: ((wsX5_match_r1 ++ wsX5_match_r2) ++ wsX50)
def wsX5_last : List Cond := .code yX5_last cX5_last 3 (some .int) :: ([.methodLink RX5 103 yX5_isPass, .instanceMethod yX5_isPass, .selects RX5 yX5_isPass yX5_isPass, .initialized RX5, .code yX5_isPass cX5_isPass 2 (some .boolean), .fieldLink RX5 57 "WavePassModel" "passes" "I", .methodLink RX5 123 yX5_isFit, .instanceMethod yX5_isFit, .selects RX5 yX5_isFit yX5_isFit, .code yX5_isFit cX5_isFit 4 (some .boolean), .fieldLink RX5 84 "WavePassModel" "slackNow" "I", .methodLink RX5 120 yX5_offOf, .instanceMethod yX5_offOf, .selects RX5 yX5_offOf yX5_offOf, .code yX5_offOf cX5_offOf 6 (some .int), .fieldLink RX5 22 "WavePassModel" "height" "[I", .methodLink RX5 112 yX5_lower, .instanceMethod yX5_lower, .selects RX5 yX5_lower yX5_lower, .code yX5_lower cX5_lower 6 (some .int), .fieldLink RX5 19 "WavePassModel" "kind" "[I", .methodLink RX5 116 yX5_apart, .static yX5_apart, .code yX5_apart cX5_apart 2 (some .int)] ++ wsX50)
def wsX5_alikeTo : List Cond := .code yX5_alikeTo cX5_alikeTo 6 (some .int) :: ([.fieldLink RX5 57 "WavePassModel" "passes" "I", .fieldLink RX5 22 "WavePassModel" "height" "[I", .fieldLink RX5 84 "WavePassModel" "slackNow" "I", .methodLink RX5 116 yX5_apart, .static yX5_apart, .initialized RX5, .code yX5_apart cX5_apart 2 (some .int)] ++ wsX50)
def wsX5_alike : List Cond := .code yX5_alike cX5_alike 2 (some .int) :: ([.methodLink RX5 103 yX5_isPass, .instanceMethod yX5_isPass, .selects RX5 yX5_isPass yX5_isPass, .initialized RX5, .code yX5_isPass cX5_isPass 2 (some .boolean), .fieldLink RX5 57 "WavePassModel" "passes" "I", .methodLink RX5 129 yX5_alikeTo, .instanceMethod yX5_alikeTo, .selects RX5 yX5_alikeTo yX5_alikeTo, .code yX5_alikeTo cX5_alikeTo 6 (some .int), .fieldLink RX5 22 "WavePassModel" "height" "[I", .fieldLink RX5 84 "WavePassModel" "slackNow" "I", .methodLink RX5 116 yX5_apart, .static yX5_apart, .code yX5_apart cX5_apart 2 (some .int)] ++ wsX50)
def wsX5_size : List Cond := .code yX5_size cX5_size 3 (some .int) :: ([])
def wsX5_areUnlike : List Cond := .code yX5_areUnlike cX5_areUnlike 3 (some .boolean) :: ([.fieldLink RX5 57 "WavePassModel" "passes" "I", .methodLink RX5 129 yX5_alikeTo, .instanceMethod yX5_alikeTo, .selects RX5 yX5_alikeTo yX5_alikeTo, .initialized RX5, .code yX5_alikeTo cX5_alikeTo 6 (some .int), .fieldLink RX5 22 "WavePassModel" "height" "[I", .fieldLink RX5 84 "WavePassModel" "slackNow" "I", .methodLink RX5 116 yX5_apart, .static yX5_apart, .code yX5_apart cX5_apart 2 (some .int)] ++ wsX50)
def wsX5_most : List Cond := .code yX5_most cX5_most 3 (some .int) :: ([.fieldLink RX5 57 "WavePassModel" "passes" "I", .methodLink RX5 132 yX5_size, .static yX5_size, .initialized RX5, .code yX5_size cX5_size 3 (some .int), .methodLink RX5 135 yX5_areUnlike, .instanceMethod yX5_areUnlike, .selects RX5 yX5_areUnlike yX5_areUnlike, .code yX5_areUnlike cX5_areUnlike 3 (some .boolean), .methodLink RX5 129 yX5_alikeTo, .instanceMethod yX5_alikeTo, .selects RX5 yX5_alikeTo yX5_alikeTo, .code yX5_alikeTo cX5_alikeTo 6 (some .int), .fieldLink RX5 22 "WavePassModel" "height" "[I", .fieldLink RX5 84 "WavePassModel" "slackNow" "I", .methodLink RX5 116 yX5_apart, .static yX5_apart, .code yX5_apart cX5_apart 2 (some .int)] ++ wsX50)
def wsX5_goneOf : List Cond := .code yX5_goneOf cX5_goneOf 5 (some .int) :: ([.fieldLink RX5 57 "WavePassModel" "passes" "I", .methodLink RX5 126 yX5_fitsOf, .instanceMethod yX5_fitsOf, .selects RX5 yX5_fitsOf yX5_fitsOf, .initialized RX5, .code yX5_fitsOf cX5_fitsOf 5 (some .int), .methodLink RX5 123 yX5_isFit, .instanceMethod yX5_isFit, .selects RX5 yX5_isFit yX5_isFit, .code yX5_isFit cX5_isFit 4 (some .boolean), .fieldLink RX5 84 "WavePassModel" "slackNow" "I", .methodLink RX5 120 yX5_offOf, .instanceMethod yX5_offOf, .selects RX5 yX5_offOf yX5_offOf, .code yX5_offOf cX5_offOf 6 (some .int), .fieldLink RX5 22 "WavePassModel" "height" "[I", .methodLink RX5 112 yX5_lower, .instanceMethod yX5_lower, .selects RX5 yX5_lower yX5_lower, .code yX5_lower cX5_lower 6 (some .int), .fieldLink RX5 19 "WavePassModel" "kind" "[I", .methodLink RX5 116 yX5_apart, .static yX5_apart, .code yX5_apart cX5_apart 2 (some .int)] ++ wsX50)
def wsX5_letGo_r1 : List Cond := [Cond.fieldLink RX5 57 "WavePassModel" "passes" "I", Cond.methodLink RX5 138 yX5_isSet, Cond.instanceMethod yX5_isSet, Cond.selects RX5 yX5_isSet yX5_isSet, Cond.initialized RX5, Cond.code yX5_isSet cX5_isSet 2 (some .boolean), Cond.methodLink RX5 109 yX5_isDigit, Cond.static yX5_isDigit, Cond.code yX5_isDigit cX5_isDigit 1 (some .boolean), Cond.methodLink RX5 53 yX5_within, Cond.static yX5_within, Cond.code yX5_within cX5_within 3 (some .boolean), Cond.methodLink RX5 141 yX5_goneOf, Cond.instanceMethod yX5_goneOf, Cond.selects RX5 yX5_goneOf yX5_goneOf, Cond.code yX5_goneOf cX5_goneOf 5 (some .int), Cond.methodLink RX5 126 yX5_fitsOf, Cond.instanceMethod yX5_fitsOf, Cond.selects RX5 yX5_fitsOf yX5_fitsOf, Cond.code yX5_fitsOf cX5_fitsOf 5 (some .int), Cond.methodLink RX5 123 yX5_isFit, Cond.instanceMethod yX5_isFit, Cond.selects RX5 yX5_isFit yX5_isFit, Cond.code yX5_isFit cX5_isFit 4 (some .boolean)]
def wsX5_letGo_r2 : List Cond := [Cond.fieldLink RX5 84 "WavePassModel" "slackNow" "I", Cond.methodLink RX5 120 yX5_offOf, Cond.instanceMethod yX5_offOf, Cond.selects RX5 yX5_offOf yX5_offOf, Cond.code yX5_offOf cX5_offOf 6 (some .int), Cond.fieldLink RX5 22 "WavePassModel" "height" "[I", Cond.methodLink RX5 112 yX5_lower, Cond.instanceMethod yX5_lower, Cond.selects RX5 yX5_lower yX5_lower, Cond.code yX5_lower cX5_lower 6 (some .int), Cond.fieldLink RX5 19 "WavePassModel" "kind" "[I", Cond.methodLink RX5 116 yX5_apart, Cond.static yX5_apart, Cond.code yX5_apart cX5_apart 2 (some .int)]
def wsX5_letGo : List Cond := .code yX5_letGo cX5_letGo 3 (some .int) :: ((wsX5_letGo_r1 ++ wsX5_letGo_r2) ++ wsX50)
def wsX5_fewest_r1 : List Cond := [Cond.fieldLink RX5 57 "WavePassModel" "passes" "I", Cond.methodLink RX5 109 yX5_isDigit, Cond.static yX5_isDigit, Cond.initialized RX5, Cond.code yX5_isDigit cX5_isDigit 1 (some .boolean), Cond.methodLink RX5 53 yX5_within, Cond.static yX5_within, Cond.code yX5_within cX5_within 3 (some .boolean), Cond.methodLink RX5 132 yX5_size, Cond.static yX5_size, Cond.code yX5_size cX5_size 3 (some .int), Cond.methodLink RX5 141 yX5_goneOf, Cond.instanceMethod yX5_goneOf, Cond.selects RX5 yX5_goneOf yX5_goneOf, Cond.code yX5_goneOf cX5_goneOf 5 (some .int), Cond.methodLink RX5 126 yX5_fitsOf, Cond.instanceMethod yX5_fitsOf, Cond.selects RX5 yX5_fitsOf yX5_fitsOf, Cond.code yX5_fitsOf cX5_fitsOf 5 (some .int), Cond.methodLink RX5 123 yX5_isFit, Cond.instanceMethod yX5_isFit, Cond.selects RX5 yX5_isFit yX5_isFit, Cond.code yX5_isFit cX5_isFit 4 (some .boolean), Cond.fieldLink RX5 84 "WavePassModel" "slackNow" "I"]
def wsX5_fewest_r2 : List Cond := [Cond.methodLink RX5 120 yX5_offOf, Cond.instanceMethod yX5_offOf, Cond.selects RX5 yX5_offOf yX5_offOf, Cond.code yX5_offOf cX5_offOf 6 (some .int), Cond.fieldLink RX5 22 "WavePassModel" "height" "[I", Cond.methodLink RX5 112 yX5_lower, Cond.instanceMethod yX5_lower, Cond.selects RX5 yX5_lower yX5_lower, Cond.code yX5_lower cX5_lower 6 (some .int), Cond.fieldLink RX5 19 "WavePassModel" "kind" "[I", Cond.methodLink RX5 116 yX5_apart, Cond.static yX5_apart, Cond.code yX5_apart cX5_apart 2 (some .int)]
def wsX5_fewest : List Cond := .code yX5_fewest cX5_fewest 4 (some .int) :: ((wsX5_fewest_r1 ++ wsX5_fewest_r2) ++ wsX50)
def wsX5_goVoyages_r1 : List Cond := [Cond.fieldLink RX5 150 "WavePassModel" "letGoes" "I", Cond.fieldLink RX5 153 "WavePassModel" "firstTaken" "I", Cond.fieldLink RX5 156 "WavePassModel" "goodTaken" "I", Cond.fieldLink RX5 31 "WavePassModel" "taken" "[I", Cond.fieldLink RX5 16 "WavePassModel" "cells" "[I", Cond.methodLink RX5 126 yX5_fitsOf, Cond.instanceMethod yX5_fitsOf, Cond.selects RX5 yX5_fitsOf yX5_fitsOf, Cond.initialized RX5, Cond.code yX5_fitsOf cX5_fitsOf 5 (some .int), Cond.fieldLink RX5 57 "WavePassModel" "passes" "I", Cond.methodLink RX5 123 yX5_isFit, Cond.instanceMethod yX5_isFit, Cond.selects RX5 yX5_isFit yX5_isFit, Cond.code yX5_isFit cX5_isFit 4 (some .boolean), Cond.fieldLink RX5 84 "WavePassModel" "slackNow" "I", Cond.methodLink RX5 120 yX5_offOf, Cond.instanceMethod yX5_offOf, Cond.selects RX5 yX5_offOf yX5_offOf, Cond.code yX5_offOf cX5_offOf 6 (some .int), Cond.fieldLink RX5 22 "WavePassModel" "height" "[I", Cond.methodLink RX5 112 yX5_lower, Cond.instanceMethod yX5_lower, Cond.selects RX5 yX5_lower yX5_lower]
def wsX5_goVoyages_r2 : List Cond := [Cond.code yX5_lower cX5_lower 6 (some .int), Cond.fieldLink RX5 19 "WavePassModel" "kind" "[I", Cond.methodLink RX5 116 yX5_apart, Cond.static yX5_apart, Cond.code yX5_apart cX5_apart 2 (some .int)]
def wsX5_goVoyages : List Cond := .code yX5_goVoyages cX5_goVoyages 7 (some .int) :: ((wsX5_goVoyages_r1 ++ wsX5_goVoyages_r2) ++ wsX50)
def wsX5_tellVoyages : List Cond := .code yX5_tellVoyages cX5_tellVoyages 2 (some .int) :: ([.fieldLink RX5 31 "WavePassModel" "taken" "[I", .fieldLink RX5 150 "WavePassModel" "letGoes" "I", .fieldLink RX5 153 "WavePassModel" "firstTaken" "I", .fieldLink RX5 156 "WavePassModel" "goodTaken" "I", .methodLink RX5 103 yX5_isPass, .instanceMethod yX5_isPass, .selects RX5 yX5_isPass yX5_isPass, .initialized RX5, .code yX5_isPass cX5_isPass 2 (some .boolean), .fieldLink RX5 57 "WavePassModel" "passes" "I"] ++ wsX50)
def wsX5_voyages_r1 : List Cond := [Cond.fieldLink RX5 47 "WavePassModel" "fault" "I", Cond.fieldLink RX5 57 "WavePassModel" "passes" "I", Cond.fieldLink RX5 16 "WavePassModel" "cells" "[I", Cond.methodLink RX5 63 yX5_isSheet, Cond.static yX5_isSheet, Cond.initialized RX5, Cond.code yX5_isSheet cX5_isSheet 1 (some .boolean), Cond.methodLink RX5 53 yX5_within, Cond.static yX5_within, Cond.code yX5_within cX5_within 3 (some .boolean), Cond.methodLink RX5 67 yX5_isSort, Cond.static yX5_isSort, Cond.code yX5_isSort cX5_isSort 1 (some .boolean), Cond.methodLink RX5 70 yX5_against, Cond.instanceMethod yX5_against, Cond.selects RX5 yX5_against yX5_against, Cond.code yX5_against cX5_against 5 (some .int), Cond.fieldLink RX5 9 "WavePassModel" "sorts" "[I", Cond.fieldLink RX5 13 "WavePassModel" "sheetLong" "[I", Cond.methodLink RX5 74 yX5_fails, Cond.instanceMethod yX5_fails, Cond.selects RX5 yX5_fails yX5_fails, Cond.code yX5_fails cX5_fails 2 (some .int), Cond.methodLink RX5 138 yX5_isSet]
def wsX5_voyages_r2 : List Cond := [Cond.instanceMethod yX5_isSet, Cond.selects RX5 yX5_isSet yX5_isSet, Cond.code yX5_isSet cX5_isSet 2 (some .boolean), Cond.methodLink RX5 103 yX5_isPass, Cond.instanceMethod yX5_isPass, Cond.selects RX5 yX5_isPass yX5_isPass, Cond.code yX5_isPass cX5_isPass 2 (some .boolean), Cond.methodLink RX5 109 yX5_isDigit, Cond.static yX5_isDigit, Cond.code yX5_isDigit cX5_isDigit 1 (some .boolean), Cond.methodLink RX5 144 yX5_goVoyages, Cond.instanceMethod yX5_goVoyages, Cond.selects RX5 yX5_goVoyages yX5_goVoyages, Cond.code yX5_goVoyages cX5_goVoyages 7 (some .int), Cond.fieldLink RX5 150 "WavePassModel" "letGoes" "I", Cond.fieldLink RX5 153 "WavePassModel" "firstTaken" "I", Cond.fieldLink RX5 156 "WavePassModel" "goodTaken" "I", Cond.fieldLink RX5 31 "WavePassModel" "taken" "[I", Cond.methodLink RX5 126 yX5_fitsOf, Cond.instanceMethod yX5_fitsOf, Cond.selects RX5 yX5_fitsOf yX5_fitsOf, Cond.code yX5_fitsOf cX5_fitsOf 5 (some .int), Cond.methodLink RX5 123 yX5_isFit, Cond.instanceMethod yX5_isFit]
def wsX5_voyages_r3 : List Cond := [Cond.selects RX5 yX5_isFit yX5_isFit, Cond.code yX5_isFit cX5_isFit 4 (some .boolean), Cond.fieldLink RX5 84 "WavePassModel" "slackNow" "I", Cond.methodLink RX5 120 yX5_offOf, Cond.instanceMethod yX5_offOf, Cond.selects RX5 yX5_offOf yX5_offOf, Cond.code yX5_offOf cX5_offOf 6 (some .int), Cond.fieldLink RX5 22 "WavePassModel" "height" "[I", Cond.methodLink RX5 112 yX5_lower, Cond.instanceMethod yX5_lower, Cond.selects RX5 yX5_lower yX5_lower, Cond.code yX5_lower cX5_lower 6 (some .int), Cond.fieldLink RX5 19 "WavePassModel" "kind" "[I", Cond.methodLink RX5 116 yX5_apart, Cond.static yX5_apart, Cond.code yX5_apart cX5_apart 2 (some .int), Cond.methodLink RX5 147 yX5_tellVoyages, Cond.instanceMethod yX5_tellVoyages, Cond.selects RX5 yX5_tellVoyages yX5_tellVoyages, Cond.code yX5_tellVoyages cX5_tellVoyages 2 (some .int)]
def wsX5_voyages : List Cond := .code yX5_voyages cX5_voyages 10 (some .int) :: ((wsX5_voyages_r1 ++ (wsX5_voyages_r2 ++ wsX5_voyages_r3)) ++ wsX50)
def wsX5_reading : List Cond := .code yX5_reading cX5_reading 5 (some .int) :: ([.fieldLink RX5 90 "WavePassModel" "readings" "I", .fieldLink RX5 34 "WavePassModel" "readUpper" "[I", .fieldLink RX5 37 "WavePassModel" "readLower" "[I", .fieldLink RX5 40 "WavePassModel" "readMonths" "[I", .fieldLink RX5 43 "WavePassModel" "readDid" "[Z", .methodLink RX5 103 yX5_isPass, .instanceMethod yX5_isPass, .selects RX5 yX5_isPass yX5_isPass, .initialized RX5, .code yX5_isPass cX5_isPass 2 (some .boolean), .fieldLink RX5 57 "WavePassModel" "passes" "I", .methodLink RX5 109 yX5_isDigit, .static yX5_isDigit, .code yX5_isDigit cX5_isDigit 1 (some .boolean), .methodLink RX5 53 yX5_within, .static yX5_within, .code yX5_within cX5_within 3 (some .boolean)] ++ wsX50)
def wsX5_back : List Cond := .code yX5_back cX5_back 2 (some .int) :: ([.fieldLink RX5 90 "WavePassModel" "readings" "I", .methodLink RX5 53 yX5_within, .static yX5_within, .initialized RX5, .code yX5_within cX5_within 3 (some .boolean)] ++ wsX50)
def wsX5_areSo : List Cond := .code yX5_areSo cX5_areSo 2 (some .boolean) :: ([.fieldLink RX5 90 "WavePassModel" "readings" "I", .fieldLink RX5 34 "WavePassModel" "readUpper" "[I", .fieldLink RX5 37 "WavePassModel" "readLower" "[I", .fieldLink RX5 40 "WavePassModel" "readMonths" "[I", .fieldLink RX5 43 "WavePassModel" "readDid" "[Z", .methodLink RX5 123 yX5_isFit, .instanceMethod yX5_isFit, .selects RX5 yX5_isFit yX5_isFit, .initialized RX5, .code yX5_isFit cX5_isFit 4 (some .boolean), .fieldLink RX5 84 "WavePassModel" "slackNow" "I", .methodLink RX5 120 yX5_offOf, .instanceMethod yX5_offOf, .selects RX5 yX5_offOf yX5_offOf, .code yX5_offOf cX5_offOf 6 (some .int), .fieldLink RX5 22 "WavePassModel" "height" "[I", .methodLink RX5 112 yX5_lower, .instanceMethod yX5_lower, .selects RX5 yX5_lower yX5_lower, .code yX5_lower cX5_lower 6 (some .int), .fieldLink RX5 19 "WavePassModel" "kind" "[I", .methodLink RX5 116 yX5_apart, .static yX5_apart, .code yX5_apart cX5_apart 2 (some .int)] ++ wsX50)
def wsX5_edges_r1 : List Cond := [Cond.fieldLink RX5 22 "WavePassModel" "height" "[I", Cond.methodLink RX5 103 yX5_isPass, Cond.instanceMethod yX5_isPass, Cond.selects RX5 yX5_isPass yX5_isPass, Cond.initialized RX5, Cond.code yX5_isPass cX5_isPass 2 (some .boolean), Cond.fieldLink RX5 57 "WavePassModel" "passes" "I", Cond.methodLink RX5 106 yX5_isPlace, Cond.static yX5_isPlace, Cond.code yX5_isPlace cX5_isPlace 1 (some .boolean), Cond.methodLink RX5 53 yX5_within, Cond.static yX5_within, Cond.code yX5_within cX5_within 3 (some .boolean), Cond.methodLink RX5 159 yX5_areSo, Cond.instanceMethod yX5_areSo, Cond.selects RX5 yX5_areSo yX5_areSo, Cond.code yX5_areSo cX5_areSo 2 (some .boolean), Cond.fieldLink RX5 90 "WavePassModel" "readings" "I", Cond.fieldLink RX5 34 "WavePassModel" "readUpper" "[I", Cond.fieldLink RX5 37 "WavePassModel" "readLower" "[I", Cond.fieldLink RX5 40 "WavePassModel" "readMonths" "[I", Cond.fieldLink RX5 43 "WavePassModel" "readDid" "[Z", Cond.methodLink RX5 123 yX5_isFit, Cond.instanceMethod yX5_isFit]
def wsX5_edges_r2 : List Cond := [Cond.selects RX5 yX5_isFit yX5_isFit, Cond.code yX5_isFit cX5_isFit 4 (some .boolean), Cond.fieldLink RX5 84 "WavePassModel" "slackNow" "I", Cond.methodLink RX5 120 yX5_offOf, Cond.instanceMethod yX5_offOf, Cond.selects RX5 yX5_offOf yX5_offOf, Cond.code yX5_offOf cX5_offOf 6 (some .int), Cond.methodLink RX5 112 yX5_lower, Cond.instanceMethod yX5_lower, Cond.selects RX5 yX5_lower yX5_lower, Cond.code yX5_lower cX5_lower 6 (some .int), Cond.fieldLink RX5 19 "WavePassModel" "kind" "[I", Cond.methodLink RX5 116 yX5_apart, Cond.static yX5_apart, Cond.code yX5_apart cX5_apart 2 (some .int)]
def wsX5_edges : List Cond := .code yX5_edges cX5_edges 7 (some .int) :: ((wsX5_edges_r1 ++ wsX5_edges_r2) ++ wsX50)
def wsX5_kinds_r1 : List Cond := [Cond.fieldLink RX5 19 "WavePassModel" "kind" "[I", Cond.methodLink RX5 103 yX5_isPass, Cond.instanceMethod yX5_isPass, Cond.selects RX5 yX5_isPass yX5_isPass, Cond.initialized RX5, Cond.code yX5_isPass cX5_isPass 2 (some .boolean), Cond.fieldLink RX5 57 "WavePassModel" "passes" "I", Cond.methodLink RX5 159 yX5_areSo, Cond.instanceMethod yX5_areSo, Cond.selects RX5 yX5_areSo yX5_areSo, Cond.code yX5_areSo cX5_areSo 2 (some .boolean), Cond.fieldLink RX5 90 "WavePassModel" "readings" "I", Cond.fieldLink RX5 34 "WavePassModel" "readUpper" "[I", Cond.fieldLink RX5 37 "WavePassModel" "readLower" "[I", Cond.fieldLink RX5 40 "WavePassModel" "readMonths" "[I", Cond.fieldLink RX5 43 "WavePassModel" "readDid" "[Z", Cond.methodLink RX5 123 yX5_isFit, Cond.instanceMethod yX5_isFit, Cond.selects RX5 yX5_isFit yX5_isFit, Cond.code yX5_isFit cX5_isFit 4 (some .boolean), Cond.fieldLink RX5 84 "WavePassModel" "slackNow" "I", Cond.methodLink RX5 120 yX5_offOf, Cond.instanceMethod yX5_offOf, Cond.selects RX5 yX5_offOf yX5_offOf]
def wsX5_kinds_r2 : List Cond := [Cond.code yX5_offOf cX5_offOf 6 (some .int), Cond.fieldLink RX5 22 "WavePassModel" "height" "[I", Cond.methodLink RX5 112 yX5_lower, Cond.instanceMethod yX5_lower, Cond.selects RX5 yX5_lower yX5_lower, Cond.code yX5_lower cX5_lower 6 (some .int), Cond.methodLink RX5 116 yX5_apart, Cond.static yX5_apart, Cond.code yX5_apart cX5_apart 2 (some .int)]
def wsX5_kinds : List Cond := .code yX5_kinds cX5_kinds 5 (some .int) :: ((wsX5_kinds_r1 ++ wsX5_kinds_r2) ++ wsX50)
def wsX5_slacks_r1 : List Cond := [Cond.fieldLink RX5 57 "WavePassModel" "passes" "I", Cond.fieldLink RX5 84 "WavePassModel" "slackNow" "I", Cond.methodLink RX5 159 yX5_areSo, Cond.instanceMethod yX5_areSo, Cond.selects RX5 yX5_areSo yX5_areSo, Cond.initialized RX5, Cond.code yX5_areSo cX5_areSo 2 (some .boolean), Cond.fieldLink RX5 90 "WavePassModel" "readings" "I", Cond.fieldLink RX5 34 "WavePassModel" "readUpper" "[I", Cond.fieldLink RX5 37 "WavePassModel" "readLower" "[I", Cond.fieldLink RX5 40 "WavePassModel" "readMonths" "[I", Cond.fieldLink RX5 43 "WavePassModel" "readDid" "[Z", Cond.methodLink RX5 123 yX5_isFit, Cond.instanceMethod yX5_isFit, Cond.selects RX5 yX5_isFit yX5_isFit, Cond.code yX5_isFit cX5_isFit 4 (some .boolean), Cond.methodLink RX5 120 yX5_offOf, Cond.instanceMethod yX5_offOf, Cond.selects RX5 yX5_offOf yX5_offOf, Cond.code yX5_offOf cX5_offOf 6 (some .int), Cond.fieldLink RX5 22 "WavePassModel" "height" "[I", Cond.methodLink RX5 112 yX5_lower, Cond.instanceMethod yX5_lower, Cond.selects RX5 yX5_lower yX5_lower]
def wsX5_slacks_r2 : List Cond := [Cond.code yX5_lower cX5_lower 6 (some .int), Cond.fieldLink RX5 19 "WavePassModel" "kind" "[I", Cond.methodLink RX5 116 yX5_apart, Cond.static yX5_apart, Cond.code yX5_apart cX5_apart 2 (some .int)]
def wsX5_slacks : List Cond := .code yX5_slacks cX5_slacks 4 (some .int) :: ((wsX5_slacks_r1 ++ wsX5_slacks_r2) ++ wsX50)
def wsX5_inLeastTerms : List Cond := .code yX5_inLeastTerms cX5_inLeastTerms 11 (some .long) :: ([])
def wsX5_odds_r1 : List Cond := [Cond.constantLong RX5 51 (-9223372036854775808), Cond.fieldLink RX5 57 "WavePassModel" "passes" "I", Cond.methodLink RX5 103 yX5_isPass, Cond.instanceMethod yX5_isPass, Cond.selects RX5 yX5_isPass yX5_isPass, Cond.initialized RX5, Cond.code yX5_isPass cX5_isPass 2 (some .boolean), Cond.methodLink RX5 109 yX5_isDigit, Cond.static yX5_isDigit, Cond.code yX5_isDigit cX5_isDigit 1 (some .boolean), Cond.methodLink RX5 53 yX5_within, Cond.static yX5_within, Cond.code yX5_within cX5_within 3 (some .boolean), Cond.methodLink RX5 126 yX5_fitsOf, Cond.instanceMethod yX5_fitsOf, Cond.selects RX5 yX5_fitsOf yX5_fitsOf, Cond.code yX5_fitsOf cX5_fitsOf 5 (some .int), Cond.methodLink RX5 123 yX5_isFit, Cond.instanceMethod yX5_isFit, Cond.selects RX5 yX5_isFit yX5_isFit, Cond.code yX5_isFit cX5_isFit 4 (some .boolean), Cond.fieldLink RX5 84 "WavePassModel" "slackNow" "I", Cond.methodLink RX5 120 yX5_offOf, Cond.instanceMethod yX5_offOf]
def wsX5_odds_r2 : List Cond := [Cond.selects RX5 yX5_offOf yX5_offOf, Cond.code yX5_offOf cX5_offOf 6 (some .int), Cond.fieldLink RX5 22 "WavePassModel" "height" "[I", Cond.methodLink RX5 112 yX5_lower, Cond.instanceMethod yX5_lower, Cond.selects RX5 yX5_lower yX5_lower, Cond.code yX5_lower cX5_lower 6 (some .int), Cond.fieldLink RX5 19 "WavePassModel" "kind" "[I", Cond.methodLink RX5 116 yX5_apart, Cond.static yX5_apart, Cond.code yX5_apart cX5_apart 2 (some .int), Cond.methodLink RX5 163 yX5_inLeastTerms, Cond.static yX5_inLeastTerms, Cond.code yX5_inLeastTerms cX5_inLeastTerms 11 (some .long)]
def wsX5_odds : List Cond := .code yX5_odds cX5_odds 7 (some .long) :: ((wsX5_odds_r1 ++ wsX5_odds_r2) ++ wsX50)
def wsX5_sheet : List Cond := .code yX5_sheet cX5_sheet 5 (some .int) :: ([.fieldLink RX5 47 "WavePassModel" "fault" "I", .fieldLink RX5 9 "WavePassModel" "sorts" "[I", .fieldLink RX5 13 "WavePassModel" "sheetLong" "[I", .fieldLink RX5 16 "WavePassModel" "cells" "[I", .methodLink RX5 63 yX5_isSheet, .static yX5_isSheet, .initialized RX5, .code yX5_isSheet cX5_isSheet 1 (some .boolean), .methodLink RX5 53 yX5_within, .static yX5_within, .code yX5_within cX5_within 3 (some .boolean), .methodLink RX5 67 yX5_isSort, .static yX5_isSort, .code yX5_isSort cX5_isSort 1 (some .boolean), .methodLink RX5 74 yX5_fails, .instanceMethod yX5_fails, .selects RX5 yX5_fails yX5_fails, .code yX5_fails cX5_fails 2 (some .int)] ++ wsX50)
def wsX5_lose : List Cond := .code yX5_lose cX5_lose 3 (some .int) :: ([.fieldLink RX5 9 "WavePassModel" "sorts" "[I", .methodLink RX5 63 yX5_isSheet, .static yX5_isSheet, .initialized RX5, .code yX5_isSheet cX5_isSheet 1 (some .boolean), .methodLink RX5 53 yX5_within, .static yX5_within, .code yX5_within cX5_within 3 (some .boolean)] ++ wsX50)
def wsX5_put : List Cond := .code yX5_put cX5_put 4 (some .int) :: ([.fieldLink RX5 47 "WavePassModel" "fault" "I", .fieldLink RX5 9 "WavePassModel" "sorts" "[I", .fieldLink RX5 13 "WavePassModel" "sheetLong" "[I", .fieldLink RX5 16 "WavePassModel" "cells" "[I", .methodLink RX5 63 yX5_isSheet, .static yX5_isSheet, .initialized RX5, .code yX5_isSheet cX5_isSheet 1 (some .boolean), .methodLink RX5 53 yX5_within, .static yX5_within, .code yX5_within cX5_within 3 (some .boolean), .methodLink RX5 74 yX5_fails, .instanceMethod yX5_fails, .selects RX5 yX5_fails yX5_fails, .code yX5_fails cX5_fails 2 (some .int)] ++ wsX50)
def wsX5_cell : List Cond := .code yX5_cell cX5_cell 4 (some .long) :: ([.fieldLink RX5 47 "WavePassModel" "fault" "I", .constantLong RX5 51 (-9223372036854775808), .fieldLink RX5 9 "WavePassModel" "sorts" "[I", .fieldLink RX5 13 "WavePassModel" "sheetLong" "[I", .fieldLink RX5 16 "WavePassModel" "cells" "[I", .methodLink RX5 63 yX5_isSheet, .static yX5_isSheet, .initialized RX5, .code yX5_isSheet cX5_isSheet 1 (some .boolean), .methodLink RX5 53 yX5_within, .static yX5_within, .code yX5_within cX5_within 3 (some .boolean), .methodLink RX5 67 yX5_isSort, .static yX5_isSort, .code yX5_isSort cX5_isSort 1 (some .boolean), .methodLink RX5 167 yX5_lost, .instanceMethod yX5_lost, .selects RX5 yX5_lost yX5_lost, .code yX5_lost cX5_lost 2 (some .long)] ++ wsX50)
def wsX5_copy : List Cond := .code yX5_copy cX5_copy 10 (some .int) :: ([.fieldLink RX5 47 "WavePassModel" "fault" "I", .fieldLink RX5 9 "WavePassModel" "sorts" "[I", .fieldLink RX5 13 "WavePassModel" "sheetLong" "[I", .fieldLink RX5 16 "WavePassModel" "cells" "[I", .methodLink RX5 63 yX5_isSheet, .static yX5_isSheet, .initialized RX5, .code yX5_isSheet cX5_isSheet 1 (some .boolean), .methodLink RX5 53 yX5_within, .static yX5_within, .code yX5_within cX5_within 3 (some .boolean), .methodLink RX5 74 yX5_fails, .instanceMethod yX5_fails, .selects RX5 yX5_fails yX5_fails, .code yX5_fails cX5_fails 2 (some .int)] ++ wsX50)
def wsX5_begins : List Cond := .code yX5_begins cX5_begins 2 none :: ([.fieldLink RX5 171 "WavePassModel" "trace" "I"] ++ wsX50)
def wsX5_tell : List Cond := .code yX5_tell cX5_tell 3 (some .int) :: ([.fieldLink RX5 22 "WavePassModel" "height" "[I", .fieldLink RX5 19 "WavePassModel" "kind" "[I", .methodLink RX5 103 yX5_isPass, .instanceMethod yX5_isPass, .selects RX5 yX5_isPass yX5_isPass, .initialized RX5, .code yX5_isPass cX5_isPass 2 (some .boolean), .fieldLink RX5 57 "WavePassModel" "passes" "I", .methodLink RX5 174 yX5_begins, .instanceMethod yX5_begins, .selects RX5 yX5_begins yX5_begins, .code yX5_begins cX5_begins 2 none, .fieldLink RX5 171 "WavePassModel" "trace" "I"] ++ wsX50)
def wsX5_seal : List Cond := .code yX5_seal cX5_seal 2 (some .int) :: ([.fieldLink RX5 19 "WavePassModel" "kind" "[I", .methodLink RX5 103 yX5_isPass, .instanceMethod yX5_isPass, .selects RX5 yX5_isPass yX5_isPass, .initialized RX5, .code yX5_isPass cX5_isPass 2 (some .boolean), .fieldLink RX5 57 "WavePassModel" "passes" "I", .methodLink RX5 174 yX5_begins, .instanceMethod yX5_begins, .selects RX5 yX5_begins yX5_begins, .code yX5_begins cX5_begins 2 none, .fieldLink RX5 171 "WavePassModel" "trace" "I"] ++ wsX50)
def wsX5_as : List Cond := .code yX5_as cX5_as 3 (some .int) :: ([.fieldLink RX5 47 "WavePassModel" "fault" "I", .fieldLink RX5 19 "WavePassModel" "kind" "[I", .methodLink RX5 103 yX5_isPass, .instanceMethod yX5_isPass, .selects RX5 yX5_isPass yX5_isPass, .initialized RX5, .code yX5_isPass cX5_isPass 2 (some .boolean), .fieldLink RX5 57 "WavePassModel" "passes" "I", .methodLink RX5 53 yX5_within, .static yX5_within, .code yX5_within cX5_within 3 (some .boolean), .methodLink RX5 74 yX5_fails, .instanceMethod yX5_fails, .selects RX5 yX5_fails yX5_fails, .code yX5_fails cX5_fails 2 (some .int)] ++ wsX50)
def wsX5_trace : List Cond := .code yX5_trace cX5_trace 1 (some .int) :: ([.fieldLink RX5 171 "WavePassModel" "trace" "I"] ++ wsX50)
def wsX5_fault : List Cond := .code yX5_fault cX5_fault 1 (some .int) :: ([.fieldLink RX5 47 "WavePassModel" "fault" "I"] ++ wsX50)
def wsX5_many : List Cond := .code yX5_many cX5_many 2 (some .int) :: ([.fieldLink RX5 57 "WavePassModel" "passes" "I", .fieldLink RX5 84 "WavePassModel" "slackNow" "I", .fieldLink RX5 90 "WavePassModel" "readings" "I"] ++ wsX50)
def wsJ9_abs_0f7a4 : List Cond := .code yJ9_abs_0f7a4 cJ9_abs_0f7a4 1 (some .int) :: ([])
def wsJ9_max_7cf53 : List Cond := .code yJ9_max_7cf53 cJ9_max_7cf53 2 (some .int) :: ([])
def wsJ9_min_7cf53 : List Cond := .code yJ9_min_7cf53 cJ9_min_7cf53 2 (some .int) :: ([])
def wsL_law_r1 : List Cond := [Cond.classLink RL 7 RX4, Cond.instantiable RX4 6, Cond.initialized RX4, Cond.classLink RL 10 RX5, Cond.instantiable RX5 23, Cond.initialized RX5, Cond.methodLink RL 9 yX4_init, Cond.instanceMethod yX4_init, Cond.code yX4_init cX4_init 2 none, Cond.methodLink RX4 3 objectInit, Cond.instanceMethod objectInit, Cond.code objectInit ⟨#[0xb1]⟩ 1 none, Cond.classLink RX4 11 RX2, Cond.fieldLink RX4 13 "WavePass" "sheets" "[LWavePass$Sheet;", Cond.classLink RX4 17 RX0, Cond.instantiable RX0 5, Cond.initialized RX0, Cond.fieldLink RX4 20 "WavePass" "shore" "LWavePass$Coast;", Cond.classLink RX4 24 RX3, Cond.instantiable RX3 3, Cond.initialized RX3, Cond.fieldLink RX4 27 "WavePass" "told" "LWavePass$Voyages;", Cond.classLink RX4 31 RX1, Cond.instantiable RX1 5]
def wsL_law_r2 : List Cond := [Cond.initialized RX1, Cond.fieldLink RX4 34 "WavePass" "read" "LWavePass$Readings;", Cond.fieldLink RX4 38 "WavePass" "traced" "I", Cond.fieldLink RX4 42 "WavePass" "latestFault" "I", Cond.instantiable RX2 3, Cond.initialized RX2, Cond.instanceMethod yX0_init, Cond.code yX0_init cX0_init 1 none, Cond.methodLink RX0 3 objectInit, Cond.arrayClass .int, Cond.fieldLink RX0 9 "WavePass$Coast" "kind" "[I", Cond.fieldLink RX0 15 "WavePass$Coast" "height" "[I", Cond.fieldLink RX0 18 "WavePass$Coast" "linked" "[I", Cond.fieldLink RX0 21 "WavePass$Coast" "passes" "I", Cond.fieldLink RX0 25 "WavePass$Coast" "slackNow" "I", Cond.instanceMethod yX3_init, Cond.code yX3_init cX3_init 1 none, Cond.methodLink RX3 3 objectInit, Cond.fieldLink RX3 9 "WavePass$Voyages" "pass" "[I", Cond.fieldLink RX3 15 "WavePass$Voyages" "months" "[I", Cond.fieldLink RX3 18 "WavePass$Voyages" "pairs" "I", Cond.instanceMethod yX1_init, Cond.code yX1_init cX1_init 1 none, Cond.methodLink RX1 3 objectInit]
def wsL_law_r3 : List Cond := [Cond.fieldLink RX1 9 "WavePass$Readings" "upper" "[I", Cond.fieldLink RX1 15 "WavePass$Readings" "lower" "[I", Cond.fieldLink RX1 18 "WavePass$Readings" "months" "[I", Cond.arrayClass .boolean, Cond.fieldLink RX1 21 "WavePass$Readings" "did" "[Z", Cond.fieldLink RX1 25 "WavePass$Readings" "count" "I", Cond.instanceMethod yX2_init, Cond.code yX2_init cX2_init 1 none, Cond.methodLink RX2 3 objectInit, Cond.fieldLink RX2 9 "WavePass$Sheet" "cells" "[I", Cond.fieldLink RX2 15 "WavePass$Sheet" "lane" "I", Cond.fieldLink RX2 19 "WavePass$Sheet" "length" "I", Cond.methodLink RL 12 yX5_init, Cond.instanceMethod yX5_init, Cond.code yX5_init cX5_init 1 none, Cond.methodLink RX5 1 objectInit, Cond.fieldLink RX5 9 "WavePassModel" "sorts" "[I", Cond.fieldLink RX5 13 "WavePassModel" "sheetLong" "[I", Cond.fieldLink RX5 16 "WavePassModel" "cells" "[I", Cond.fieldLink RX5 19 "WavePassModel" "kind" "[I", Cond.fieldLink RX5 22 "WavePassModel" "height" "[I", Cond.fieldLink RX5 25 "WavePassModel" "readKind" "[I", Cond.fieldLink RX5 28 "WavePassModel" "readHeight" "[I", Cond.fieldLink RX5 31 "WavePassModel" "taken" "[I"]
def wsL_law_r4 : List Cond := [Cond.fieldLink RX5 34 "WavePassModel" "readUpper" "[I", Cond.fieldLink RX5 37 "WavePassModel" "readLower" "[I", Cond.fieldLink RX5 40 "WavePassModel" "readMonths" "[I", Cond.fieldLink RX5 43 "WavePassModel" "readDid" "[Z", Cond.methodLink RL 13 yX4_coast, Cond.instanceMethod yX4_coast, Cond.selects RX4 yX4_coast yX4_coast, Cond.code yX4_coast cX4_coast 6 (some .int), Cond.methodLink RX4 46 yX4_isSheet, Cond.static yX4_isSheet, Cond.code yX4_isSheet cX4_isSheet 1 (some .boolean), Cond.methodLink RX4 77 yX4_within, Cond.static yX4_within, Cond.code yX4_within cX4_within 3 (some .boolean), Cond.methodLink RX4 50 yX4_isLane, Cond.static yX4_isLane, Cond.code yX4_isLane cX4_isLane 1 (some .boolean), Cond.methodLink RX4 53 yX4_faultOfText, Cond.static yX4_faultOfText, Cond.code yX4_faultOfText cX4_faultOfText 5 (some .int), Cond.methodLink RX4 146 yX4_faultOfCells, Cond.static yX4_faultOfCells, Cond.code yX4_faultOfCells cX4_faultOfCells 5 (some .int), Cond.methodLink RX4 220 yX4_faultOfRow]
def wsL_law_r5 : List Cond := [Cond.static yX4_faultOfRow, Cond.code yX4_faultOfRow cX4_faultOfRow 2 (some .int), Cond.methodLink RX4 208 yX2_hasNothing, Cond.instanceMethod yX2_hasNothing, Cond.selects RX2 yX2_hasNothing yX2_hasNothing, Cond.code yX2_hasNothing cX2_hasNothing 1 (some .boolean), Cond.methodLink RX4 230 yX2_isOfAnother, Cond.instanceMethod yX2_isOfAnother, Cond.selects RX2 yX2_isOfAnother yX2_isOfAnother, Cond.code yX2_isOfAnother cX2_isOfAnother 2 (some .boolean), Cond.methodLink RX4 233 yX2_hasCells, Cond.instanceMethod yX2_hasCells, Cond.selects RX2 yX2_hasCells yX2_hasCells, Cond.code yX2_hasCells cX2_hasCells 3 (some .boolean), Cond.methodLink RX4 57 yX0_firstWrongCode, Cond.static yX0_firstWrongCode, Cond.code yX0_firstWrongCode cX0_firstWrongCode 4 (some .int), Cond.methodLink RX0 28 yX2_at, Cond.instanceMethod yX2_at, Cond.selects RX2 yX2_at yX2_at, Cond.code yX2_at cX2_at 2 (some .int), Cond.methodLink RX2 28 yX2_hasCell, Cond.instanceMethod yX2_hasCell, Cond.selects RX2 yX2_hasCell yX2_hasCell]
def wsL_law_r6 : List Cond := [Cond.code yX2_hasCell cX2_hasCell 2 (some .boolean), Cond.methodLink RX0 34 yX0_goesOn, Cond.static yX0_goesOn, Cond.code yX0_goesOn cX0_goesOn 2 (some .boolean), Cond.methodLink RX0 38 yX0_isDigit, Cond.static yX0_isDigit, Cond.code yX0_isDigit cX0_isDigit 1 (some .boolean), Cond.methodLink RX4 61 yX0_takeText, Cond.instanceMethod yX0_takeText, Cond.selects RX0 yX0_takeText yX0_takeText, Cond.code yX0_takeText cX0_takeText 7 none, Cond.methodLink RX0 42 Lib.Math.min.name, Cond.static Lib.Math.min.name, Cond.initialized "java/lang/Math", Cond.code Lib.Math.min.name Lib.Math.min.code 2 (some .int), Cond.methodLink RX0 48 yX0_kindByLetter, Cond.static yX0_kindByLetter, Cond.code yX0_kindByLetter cX0_kindByLetter 1 (some .int), Cond.methodLink RX0 51 yX0_setHeight, Cond.instanceMethod yX0_setHeight, Cond.selects RX0 yX0_setHeight yX0_setHeight, Cond.code yX0_setHeight cX0_setHeight 4 none, Cond.methodLink RX0 59 yX0_hasPass, Cond.instanceMethod yX0_hasPass]
def wsL_law_r7 : List Cond := [Cond.selects RX0 yX0_hasPass yX0_hasPass, Cond.code yX0_hasPass cX0_hasPass 2 (some .boolean), Cond.methodLink RX4 65 yX1_howMany, Cond.instanceMethod yX1_howMany, Cond.selects RX1 yX1_howMany yX1_howMany, Cond.code yX1_howMany cX1_howMany 1 (some .int), Cond.methodLink RX4 69 yX1_dropLast, Cond.instanceMethod yX1_dropLast, Cond.selects RX1 yX1_dropLast yX1_dropLast, Cond.code yX1_dropLast cX1_dropLast 2 none, Cond.methodLink RX4 73 yX0_howMany, Cond.instanceMethod yX0_howMany, Cond.selects RX0 yX0_howMany yX0_howMany, Cond.code yX0_howMany cX0_howMany 1 (some .int), Cond.methodLink RL 17 yX5_coast, Cond.instanceMethod yX5_coast, Cond.selects RX5 yX5_coast yX5_coast, Cond.code yX5_coast cX5_coast 9 (some .int), Cond.fieldLink RX5 47 "WavePassModel" "fault" "I", Cond.fieldLink RX5 60 "WavePassModel" "at" "I", Cond.fieldLink RX5 81 "WavePassModel" "readSlack" "I", Cond.fieldLink RX5 84 "WavePassModel" "slackNow" "I", Cond.fieldLink RX5 87 "WavePassModel" "readMany" "I", Cond.fieldLink RX5 57 "WavePassModel" "passes" "I"]
def wsL_law_r8 : List Cond := [Cond.fieldLink RX5 90 "WavePassModel" "readings" "I", Cond.methodLink RX5 63 yX5_isSheet, Cond.static yX5_isSheet, Cond.code yX5_isSheet cX5_isSheet 1 (some .boolean), Cond.methodLink RX5 53 yX5_within, Cond.static yX5_within, Cond.code yX5_within cX5_within 3 (some .boolean), Cond.methodLink RX5 67 yX5_isSort, Cond.static yX5_isSort, Cond.code yX5_isSort cX5_isSort 1 (some .boolean), Cond.methodLink RX5 70 yX5_against, Cond.instanceMethod yX5_against, Cond.selects RX5 yX5_against yX5_against, Cond.code yX5_against cX5_against 5 (some .int), Cond.methodLink RX5 74 yX5_fails, Cond.instanceMethod yX5_fails, Cond.selects RX5 yX5_fails yX5_fails, Cond.code yX5_fails cX5_fails 2 (some .int), Cond.methodLink RX5 78 yX5_readCoast, Cond.instanceMethod yX5_readCoast, Cond.selects RX5 yX5_readCoast yX5_readCoast, Cond.code yX5_readCoast cX5_readCoast 2 (some .boolean), Cond.methodLink RX5 93 yX5_isSign, Cond.instanceMethod yX5_isSign]
def wsL_law_r9 : List Cond := [Cond.selects RX5 yX5_isSign yX5_isSign, Cond.code yX5_isSign cX5_isSign 3 (some .boolean), Cond.methodLink RX5 97 yX5_digit, Cond.instanceMethod yX5_digit, Cond.selects RX5 yX5_digit yX5_digit, Cond.code yX5_digit cX5_digit 2 (some .int), Cond.methodLink RX5 100 yX5_readPass, Cond.instanceMethod yX5_readPass, Cond.selects RX5 yX5_readPass yX5_readPass, Cond.code yX5_readPass cX5_readPass 4 (some .boolean), Cond.methodLink RL 18 yX4_ofPass, Cond.instanceMethod yX4_ofPass, Cond.selects RX4 yX4_ofPass yX4_ofPass, Cond.code yX4_ofPass cX4_ofPass 3 (some .int), Cond.methodLink RX4 74 yX0_hasPass, Cond.methodLink RX4 81 yX0_kindOf, Cond.instanceMethod yX0_kindOf, Cond.selects RX0 yX0_kindOf yX0_kindOf, Cond.code yX0_kindOf cX0_kindOf 2 (some .int), Cond.methodLink RX4 85 yX0_heightOf, Cond.instanceMethod yX0_heightOf, Cond.selects RX0 yX0_heightOf yX0_heightOf, Cond.code yX0_heightOf cX0_heightOf 3 (some .int), Cond.methodLink RL 22 yX5_ofPass]
def wsL_law_r10 : List Cond := [Cond.instanceMethod yX5_ofPass, Cond.selects RX5 yX5_ofPass yX5_ofPass, Cond.code yX5_ofPass cX5_ofPass 3 (some .int), Cond.methodLink RX5 103 yX5_isPass, Cond.instanceMethod yX5_isPass, Cond.selects RX5 yX5_isPass yX5_isPass, Cond.code yX5_isPass cX5_isPass 2 (some .boolean), Cond.methodLink RL 23 yX4_trim, Cond.instanceMethod yX4_trim, Cond.selects RX4 yX4_trim yX4_trim, Cond.code yX4_trim cX4_trim 5 (some .int), Cond.methodLink RX4 89 yX4_isPlace, Cond.static yX4_isPlace, Cond.code yX4_isPlace cX4_isPlace 1 (some .boolean), Cond.methodLink RX4 92 yX0_setHeight, Cond.methodLink RL 27 yX5_trim, Cond.instanceMethod yX5_trim, Cond.selects RX5 yX5_trim yX5_trim, Cond.code yX5_trim cX5_trim 5 (some .int), Cond.methodLink RX5 106 yX5_isPlace, Cond.static yX5_isPlace, Cond.code yX5_isPlace cX5_isPlace 1 (some .boolean), Cond.methodLink RX5 109 yX5_isDigit, Cond.static yX5_isDigit]
def wsL_law_r11 : List Cond := [Cond.code yX5_isDigit cX5_isDigit 1 (some .boolean), Cond.methodLink RL 28 yX4_slack, Cond.instanceMethod yX4_slack, Cond.selects RX4 yX4_slack yX4_slack, Cond.code yX4_slack cX4_slack 3 (some .int), Cond.methodLink RX4 96 yX0_stands, Cond.instanceMethod yX0_stands, Cond.selects RX0 yX0_stands yX0_stands, Cond.code yX0_stands cX0_stands 1 (some .boolean), Cond.methodLink RX4 100 yX0_slackNow, Cond.instanceMethod yX0_slackNow, Cond.selects RX0 yX0_slackNow yX0_slackNow, Cond.code yX0_slackNow cX0_slackNow 1 (some .int), Cond.methodLink RX4 103 yX0_setSlack, Cond.instanceMethod yX0_setSlack, Cond.selects RX0 yX0_setSlack yX0_setSlack, Cond.code yX0_setSlack cX0_setSlack 2 none, Cond.methodLink RL 32 yX5_slack, Cond.instanceMethod yX5_slack, Cond.selects RX5 yX5_slack yX5_slack, Cond.code yX5_slack cX5_slack 3 (some .int), Cond.methodLink RL 33 yX4_worn, Cond.instanceMethod yX4_worn, Cond.selects RX4 yX4_worn yX4_worn]
def wsL_law_r12 : List Cond := [Cond.code yX4_worn cX4_worn 4 (some .int), Cond.methodLink RX4 106 yX4_isMonths, Cond.static yX4_isMonths, Cond.code yX4_isMonths cX4_isMonths 1 (some .boolean), Cond.methodLink RX4 109 yX0_lowerHeight, Cond.instanceMethod yX0_lowerHeight, Cond.selects RX0 yX0_lowerHeight yX0_lowerHeight, Cond.code yX0_lowerHeight cX0_lowerHeight 4 (some .int), Cond.methodLink RX0 71 Lib.Math.max.name, Cond.static Lib.Math.max.name, Cond.code Lib.Math.max.name Lib.Math.max.code 2 (some .int), Cond.methodLink RX0 62 yX0_heightOf, Cond.methodLink RX0 65 yX0_kindOf, Cond.methodLink RX0 68 yX0_wear, Cond.static yX0_wear, Cond.code yX0_wear cX0_wear 2 (some .int), Cond.methodLink RL 36 yX5_worn, Cond.instanceMethod yX5_worn, Cond.selects RX5 yX5_worn yX5_worn, Cond.code yX5_worn cX5_worn 4 (some .int), Cond.methodLink RX5 112 yX5_lower, Cond.instanceMethod yX5_lower, Cond.selects RX5 yX5_lower yX5_lower, Cond.code yX5_lower cX5_lower 6 (some .int)]
def wsL_law_r13 : List Cond := [Cond.methodLink RL 37 yX4_off, Cond.instanceMethod yX4_off, Cond.selects RX4 yX4_off yX4_off, Cond.code yX4_off cX4_off 4 (some .int), Cond.methodLink RX4 113 yX0_apart, Cond.instanceMethod yX0_apart, Cond.selects RX0 yX0_apart yX0_apart, Cond.code yX0_apart cX0_apart 8 (some .int), Cond.methodLink RX0 74 Lib.Math.abs.name, Cond.static Lib.Math.abs.name, Cond.code Lib.Math.abs.name Lib.Math.abs.code 1 (some .int), Cond.methodLink RL 40 yX5_off, Cond.instanceMethod yX5_off, Cond.selects RX5 yX5_off yX5_off, Cond.code yX5_off cX5_off 4 (some .int), Cond.methodLink RX5 120 yX5_offOf, Cond.instanceMethod yX5_offOf, Cond.selects RX5 yX5_offOf yX5_offOf, Cond.code yX5_offOf cX5_offOf 6 (some .int), Cond.methodLink RX5 116 yX5_apart, Cond.static yX5_apart, Cond.code yX5_apart cX5_apart 2 (some .int), Cond.methodLink RL 41 yX4_fits, Cond.instanceMethod yX4_fits]
def wsL_law_r14 : List Cond := [Cond.selects RX4 yX4_fits yX4_fits, Cond.code yX4_fits cX4_fits 3 (some .int), Cond.methodLink RX4 116 yX0_fitting, Cond.instanceMethod yX0_fitting, Cond.selects RX0 yX0_fitting yX0_fitting, Cond.code yX0_fitting cX0_fitting 5 (some .int), Cond.methodLink RX0 77 yX0_apart, Cond.static yX4_bitIf, Cond.code yX4_bitIf cX4_bitIf 2 (some .int), Cond.methodLink RL 44 yX5_fits, Cond.instanceMethod yX5_fits, Cond.selects RX5 yX5_fits yX5_fits, Cond.code yX5_fits cX5_fits 3 (some .int), Cond.methodLink RX5 126 yX5_fitsOf, Cond.instanceMethod yX5_fitsOf, Cond.selects RX5 yX5_fitsOf yX5_fitsOf, Cond.code yX5_fitsOf cX5_fitsOf 5 (some .int), Cond.methodLink RX5 123 yX5_isFit, Cond.instanceMethod yX5_isFit, Cond.selects RX5 yX5_isFit yX5_isFit, Cond.code yX5_isFit cX5_isFit 4 (some .boolean), Cond.methodLink RL 45 yX4_match, Cond.instanceMethod yX4_match, Cond.selects RX4 yX4_match yX4_match]
def wsL_law_r15 : List Cond := [Cond.code yX4_match cX4_match 3 (some .int), Cond.methodLink RX4 119 yX0_closestFitting, Cond.instanceMethod yX0_closestFitting, Cond.selects RX0 yX0_closestFitting yX0_closestFitting, Cond.code yX0_closestFitting cX0_closestFitting 7 (some .int), Cond.methodLink RL 48 yX5_match, Cond.instanceMethod yX5_match, Cond.selects RX5 yX5_match yX5_match, Cond.code yX5_match cX5_match 5 (some .int), Cond.methodLink RL 49 yX4_last, Cond.instanceMethod yX4_last, Cond.selects RX4 yX4_last yX4_last, Cond.code yX4_last cX4_last 2 (some .int), Cond.methodLink RX4 122 yX0_lastGood, Cond.instanceMethod yX0_lastGood, Cond.selects RX0 yX0_lastGood yX0_lastGood, Cond.code yX0_lastGood cX0_lastGood 3 (some .int), Cond.methodLink RX0 85 yX0_doFit, Cond.instanceMethod yX0_doFit, Cond.selects RX0 yX0_doFit yX0_doFit, Cond.code yX0_doFit cX0_doFit 4 (some .boolean), Cond.methodLink RL 52 yX5_last, Cond.instanceMethod yX5_last, Cond.selects RX5 yX5_last yX5_last]
def wsL_law_r16 : List Cond := [Cond.code yX5_last cX5_last 3 (some .int), Cond.methodLink RL 53 yX4_alike, Cond.instanceMethod yX4_alike, Cond.selects RX4 yX4_alike yX4_alike, Cond.code yX4_alike cX4_alike 2 (some .int), Cond.methodLink RX4 125 yX0_likeness, Cond.instanceMethod yX0_likeness, Cond.selects RX0 yX0_likeness yX0_likeness, Cond.code yX0_likeness cX0_likeness 4 (some .int), Cond.methodLink RX0 89 yX0_areAlike, Cond.instanceMethod yX0_areAlike, Cond.selects RX0 yX0_areAlike yX0_areAlike, Cond.code yX0_areAlike cX0_areAlike 5 (some .boolean), Cond.methodLink RL 56 yX5_alike, Cond.instanceMethod yX5_alike, Cond.selects RX5 yX5_alike yX5_alike, Cond.code yX5_alike cX5_alike 2 (some .int), Cond.methodLink RX5 129 yX5_alikeTo, Cond.instanceMethod yX5_alikeTo, Cond.selects RX5 yX5_alikeTo yX5_alikeTo, Cond.code yX5_alikeTo cX5_alikeTo 6 (some .int), Cond.methodLink RL 57 yX4_most, Cond.instanceMethod yX4_most, Cond.selects RX4 yX4_most yX4_most]
def wsL_law_r17 : List Cond := [Cond.code yX4_most cX4_most 1 (some .int), Cond.methodLink RX4 128 yX0_mostUnlike, Cond.instanceMethod yX0_mostUnlike, Cond.selects RX0 yX0_mostUnlike yX0_mostUnlike, Cond.code yX0_mostUnlike cX0_mostUnlike 3 (some .int), Cond.methodLink RX0 92 yX0_likeness, Cond.methodLink RX0 55 yX0_allPasses, Cond.instanceMethod yX0_allPasses, Cond.selects RX0 yX0_allPasses yX0_allPasses, Cond.code yX0_allPasses cX0_allPasses 1 (some .int), Cond.methodLink RX0 95 yJ6_bitCount_0f7a4, Cond.static yJ6_bitCount_0f7a4, Cond.initialized RJ6, Cond.code yJ6_bitCount_0f7a4 cJ6_bitCount_0f7a4 1 (some .int), Cond.constant RJ6 265 (1431655765), Cond.constant RJ6 266 (858993459), Cond.constant RJ6 267 (252645135), Cond.methodLink RX0 100 yX0_noneLinkedWithin, Cond.instanceMethod yX0_noneLinkedWithin, Cond.selects RX0 yX0_noneLinkedWithin yX0_noneLinkedWithin, Cond.code yX0_noneLinkedWithin cX0_noneLinkedWithin 3 (some .boolean), Cond.methodLink RL 61 yX5_most, Cond.instanceMethod yX5_most, Cond.selects RX5 yX5_most yX5_most]
def wsL_law_r18 : List Cond := [Cond.code yX5_most cX5_most 3 (some .int), Cond.methodLink RX5 132 yX5_size, Cond.static yX5_size, Cond.code yX5_size cX5_size 3 (some .int), Cond.methodLink RX5 135 yX5_areUnlike, Cond.instanceMethod yX5_areUnlike, Cond.selects RX5 yX5_areUnlike yX5_areUnlike, Cond.code yX5_areUnlike cX5_areUnlike 3 (some .boolean), Cond.methodLink RL 62 yX4_letGo, Cond.instanceMethod yX4_letGo, Cond.selects RX4 yX4_letGo yX4_letGo, Cond.code yX4_letGo cX4_letGo 3 (some .int), Cond.methodLink RX4 131 yX0_isSet, Cond.instanceMethod yX0_isSet, Cond.selects RX0 yX0_isSet yX0_isSet, Cond.code yX0_isSet cX0_isSet 2 (some .boolean), Cond.methodLink RX4 134 yX0_layAll, Cond.instanceMethod yX0_layAll, Cond.selects RX0 yX0_layAll yX0_layAll, Cond.code yX0_layAll cX0_layAll 3 none, Cond.methodLink RX0 103 yX0_fitting, Cond.methodLink RX4 137 yX0_freedBy, Cond.instanceMethod yX0_freedBy, Cond.selects RX0 yX0_freedBy yX0_freedBy]
def wsL_law_r19 : List Cond := [Cond.code yX0_freedBy cX0_freedBy 4 (some .int), Cond.methodLink RL 65 yX5_letGo, Cond.instanceMethod yX5_letGo, Cond.selects RX5 yX5_letGo yX5_letGo, Cond.code yX5_letGo cX5_letGo 3 (some .int), Cond.methodLink RX5 138 yX5_isSet, Cond.instanceMethod yX5_isSet, Cond.selects RX5 yX5_isSet yX5_isSet, Cond.code yX5_isSet cX5_isSet 2 (some .boolean), Cond.methodLink RX5 141 yX5_goneOf, Cond.instanceMethod yX5_goneOf, Cond.selects RX5 yX5_goneOf yX5_goneOf, Cond.code yX5_goneOf cX5_goneOf 5 (some .int), Cond.methodLink RL 66 yX4_fewest, Cond.instanceMethod yX4_fewest, Cond.selects RX4 yX4_fewest yX4_fewest, Cond.code yX4_fewest cX4_fewest 2 (some .int), Cond.methodLink RX4 140 yX0_fewestFreeing, Cond.instanceMethod yX0_fewestFreeing, Cond.selects RX0 yX0_fewestFreeing yX0_fewestFreeing, Cond.code yX0_fewestFreeing cX0_fewestFreeing 4 (some .int), Cond.methodLink RX0 106 yX0_freedBy, Cond.methodLink RL 69 yX5_fewest, Cond.instanceMethod yX5_fewest]
def wsL_law_r20 : List Cond := [Cond.selects RX5 yX5_fewest yX5_fewest, Cond.code yX5_fewest cX5_fewest 4 (some .int), Cond.methodLink RL 70 yX4_voyages, Cond.instanceMethod yX4_voyages, Cond.selects RX4 yX4_voyages yX4_voyages, Cond.code yX4_voyages cX4_voyages 8 (some .int), Cond.methodLink RX4 143 yX4_isAskable, Cond.static yX4_isAskable, Cond.code yX4_isAskable cX4_isAskable 1 (some .boolean), Cond.methodLink RX4 149 yX3_load, Cond.instanceMethod yX3_load, Cond.selects RX3 yX3_load yX3_load, Cond.code yX3_load cX3_load 5 none, Cond.methodLink RX3 22 Lib.Math.min.name, Cond.methodLink RX3 28 yX2_at, Cond.methodLink RX4 152 yX3_refusal, Cond.instanceMethod yX3_refusal, Cond.selects RX3 yX3_refusal yX3_refusal, Cond.code yX3_refusal cX3_refusal 3 (some .int), Cond.methodLink RX3 34 yX0_hasPass, Cond.methodLink RX4 156 yX4_meet, Cond.instanceMethod yX4_meet, Cond.selects RX4 yX4_meet yX4_meet, Cond.code yX4_meet cX4_meet 5 (some .int)]
def wsL_law_r21 : List Cond := [Cond.methodLink RX4 159 yX3_firstWrongPair, Cond.instanceMethod yX3_firstWrongPair, Cond.selects RX3 yX3_firstWrongPair yX3_firstWrongPair, Cond.code yX3_firstWrongPair cX3_firstWrongPair 2 (some .int), Cond.methodLink RX4 162 yX3_takenBy, Cond.instanceMethod yX3_takenBy, Cond.selects RX3 yX3_takenBy yX3_takenBy, Cond.code yX3_takenBy cX3_takenBy 5 (some .int), Cond.methodLink RX3 43 yX0_fitting, Cond.methodLink RX4 166 yX3_howMany, Cond.instanceMethod yX3_howMany, Cond.selects RX3 yX3_howMany yX3_howMany, Cond.code yX3_howMany cX3_howMany 1 (some .int), Cond.methodLink RX4 167 yJ6_bitCount_0f7a4, Cond.methodLink RX4 172 yX3_firstOf, Cond.instanceMethod yX3_firstOf, Cond.selects RX3 yX3_firstOf yX3_firstOf, Cond.code yX3_firstOf cX3_firstOf 3 (some .int), Cond.methodLink RX4 175 yX3_goodOnes, Cond.instanceMethod yX3_goodOnes, Cond.selects RX3 yX3_goodOnes yX3_goodOnes, Cond.code yX3_goodOnes cX3_goodOnes 4 (some .int), Cond.methodLink RX3 50 yX0_doFit, Cond.methodLink RX4 178 yX4_howOften]
def wsL_law_r22 : List Cond := [Cond.instanceMethod yX4_howOften, Cond.selects RX4 yX4_howOften yX4_howOften, Cond.code yX4_howOften cX4_howOften 3 (some .int), Cond.methodLink RX4 181 yX3_onesOf, Cond.instanceMethod yX3_onesOf, Cond.selects RX3 yX3_onesOf yX3_onesOf, Cond.code yX3_onesOf cX3_onesOf 4 (some .int), Cond.methodLink RL 74 yX5_voyages, Cond.instanceMethod yX5_voyages, Cond.selects RX5 yX5_voyages yX5_voyages, Cond.code yX5_voyages cX5_voyages 10 (some .int), Cond.methodLink RX5 144 yX5_goVoyages, Cond.instanceMethod yX5_goVoyages, Cond.selects RX5 yX5_goVoyages yX5_goVoyages, Cond.code yX5_goVoyages cX5_goVoyages 7 (some .int), Cond.fieldLink RX5 150 "WavePassModel" "letGoes" "I", Cond.fieldLink RX5 153 "WavePassModel" "firstTaken" "I", Cond.fieldLink RX5 156 "WavePassModel" "goodTaken" "I", Cond.methodLink RX5 147 yX5_tellVoyages, Cond.instanceMethod yX5_tellVoyages, Cond.selects RX5 yX5_tellVoyages yX5_tellVoyages, Cond.code yX5_tellVoyages cX5_tellVoyages 2 (some .int), Cond.methodLink RL 75 yX4_reading, Cond.instanceMethod yX4_reading]
def wsL_law_r23 : List Cond := [Cond.selects RX4 yX4_reading yX4_reading, Cond.code yX4_reading cX4_reading 5 (some .int), Cond.methodLink RX4 184 yX1_append, Cond.instanceMethod yX1_append, Cond.selects RX1 yX1_append yX1_append, Cond.code yX1_append cX1_append 5 none, Cond.methodLink RL 79 yX5_reading, Cond.instanceMethod yX5_reading, Cond.selects RX5 yX5_reading yX5_reading, Cond.code yX5_reading cX5_reading 5 (some .int), Cond.methodLink RL 80 yX4_back, Cond.instanceMethod yX4_back, Cond.selects RX4 yX4_back yX4_back, Cond.code yX4_back cX4_back 2 (some .int), Cond.methodLink RL 83 yX5_back, Cond.instanceMethod yX5_back, Cond.selects RX5 yX5_back yX5_back, Cond.code yX5_back cX5_back 2 (some .int), Cond.methodLink RL 84 yX4_edges, Cond.instanceMethod yX4_edges, Cond.selects RX4 yX4_edges yX4_edges, Cond.code yX4_edges cX4_edges 6 (some .int), Cond.methodLink RX4 188 yX1_areSo, Cond.instanceMethod yX1_areSo]
def wsL_law_r24 : List Cond := [Cond.selects RX1 yX1_areSo yX1_areSo, Cond.code yX1_areSo cX1_areSo 3 (some .boolean), Cond.methodLink RX1 29 yX0_doFit, Cond.methodLink RX4 192 yX4_bitIf, Cond.methodLink RL 87 yX5_edges, Cond.instanceMethod yX5_edges, Cond.selects RX5 yX5_edges yX5_edges, Cond.code yX5_edges cX5_edges 7 (some .int), Cond.methodLink RX5 159 yX5_areSo, Cond.instanceMethod yX5_areSo, Cond.selects RX5 yX5_areSo yX5_areSo, Cond.code yX5_areSo cX5_areSo 2 (some .boolean), Cond.methodLink RL 88 yX4_kinds, Cond.instanceMethod yX4_kinds, Cond.selects RX4 yX4_kinds yX4_kinds, Cond.code yX4_kinds cX4_kinds 5 (some .int), Cond.methodLink RX4 196 yX0_setKind, Cond.instanceMethod yX0_setKind, Cond.selects RX0 yX0_setKind yX0_setKind, Cond.code yX0_setKind cX0_setKind 3 none, Cond.methodLink RL 91 yX5_kinds, Cond.instanceMethod yX5_kinds, Cond.selects RX5 yX5_kinds yX5_kinds, Cond.code yX5_kinds cX5_kinds 5 (some .int)]
def wsL_law_r25 : List Cond := [Cond.methodLink RL 92 yX4_slacks, Cond.instanceMethod yX4_slacks, Cond.selects RX4 yX4_slacks yX4_slacks, Cond.code yX4_slacks cX4_slacks 4 (some .int), Cond.methodLink RL 95 yX5_slacks, Cond.instanceMethod yX5_slacks, Cond.selects RX5 yX5_slacks yX5_slacks, Cond.code yX5_slacks cX5_slacks 4 (some .int), Cond.methodLink RL 96 yX4_odds, Cond.instanceMethod yX4_odds, Cond.selects RX4 yX4_odds yX4_odds, Cond.code yX4_odds cX4_odds 6 (some .long), Cond.constantLong RX4 200 (-9223372036854775808), Cond.methodLink RL 100 yX5_odds, Cond.instanceMethod yX5_odds, Cond.selects RX5 yX5_odds yX5_odds, Cond.code yX5_odds cX5_odds 7 (some .long), Cond.constantLong RX5 51 (-9223372036854775808), Cond.methodLink RX5 163 yX5_inLeastTerms, Cond.static yX5_inLeastTerms, Cond.code yX5_inLeastTerms cX5_inLeastTerms 11 (some .long), Cond.methodLink RL 101 yX4_sheet, Cond.instanceMethod yX4_sheet, Cond.selects RX4 yX4_sheet yX4_sheet]
def wsL_law_r26 : List Cond := [Cond.code yX4_sheet cX4_sheet 4 (some .int), Cond.methodLink RX4 202 yX4_failBy, Cond.instanceMethod yX4_failBy, Cond.selects RX4 yX4_failBy yX4_failBy, Cond.code yX4_failBy cX4_failBy 2 (some .int), Cond.methodLink RX4 205 yX2_begin, Cond.instanceMethod yX2_begin, Cond.selects RX2 yX2_begin yX2_begin, Cond.code yX2_begin cX2_begin 3 none, Cond.methodLink RX2 22 yJ7_fill_53178, Cond.static yJ7_fill_53178, Cond.initialized RJ7, Cond.code yJ7_fill_53178 cJ7_fill_53178 4 none, Cond.methodLink RL 104 yX5_sheet, Cond.instanceMethod yX5_sheet, Cond.selects RX5 yX5_sheet yX5_sheet, Cond.code yX5_sheet cX5_sheet 5 (some .int), Cond.methodLink RL 105 yX4_lose, Cond.instanceMethod yX4_lose, Cond.selects RX4 yX4_lose yX4_lose, Cond.code yX4_lose cX4_lose 2 (some .int), Cond.methodLink RX4 211 yX2_drop, Cond.instanceMethod yX2_drop, Cond.selects RX2 yX2_drop yX2_drop]
def wsL_law_r27 : List Cond := [Cond.code yX2_drop cX2_drop 1 none, Cond.methodLink RL 108 yX5_lose, Cond.instanceMethod yX5_lose, Cond.selects RX5 yX5_lose yX5_lose, Cond.code yX5_lose cX5_lose 3 (some .int), Cond.methodLink RL 109 yX4_put, Cond.instanceMethod yX4_put, Cond.selects RX4 yX4_put yX4_put, Cond.code yX4_put cX4_put 4 (some .int), Cond.methodLink RX4 214 yX2_hasCell, Cond.methodLink RX4 217 yX2_write, Cond.instanceMethod yX2_write, Cond.selects RX2 yX2_write yX2_write, Cond.code yX2_write cX2_write 3 none, Cond.methodLink RX2 32 yX2_cut, Cond.instanceMethod yX2_cut, Cond.selects RX2 yX2_cut yX2_cut, Cond.code yX2_cut cX2_cut 2 (some .int), Cond.methodLink RL 112 yX5_put, Cond.instanceMethod yX5_put, Cond.selects RX5 yX5_put yX5_put, Cond.code yX5_put cX5_put 4 (some .int), Cond.methodLink RL 113 yX4_cell, Cond.instanceMethod yX4_cell]
def wsL_law_r28 : List Cond := [Cond.selects RX4 yX4_cell yX4_cell, Cond.code yX4_cell cX4_cell 4 (some .long), Cond.methodLink RX4 224 yX2_at, Cond.methodLink RL 116 yX5_cell, Cond.instanceMethod yX5_cell, Cond.selects RX5 yX5_cell yX5_cell, Cond.code yX5_cell cX5_cell 4 (some .long), Cond.methodLink RX5 167 yX5_lost, Cond.instanceMethod yX5_lost, Cond.selects RX5 yX5_lost yX5_lost, Cond.code yX5_lost cX5_lost 2 (some .long), Cond.methodLink RL 117 yX4_copy, Cond.instanceMethod yX4_copy, Cond.selects RX4 yX4_copy yX4_copy, Cond.code yX4_copy cX4_copy 8 (some .int), Cond.methodLink RX4 227 yX2_laneNow, Cond.instanceMethod yX2_laneNow, Cond.selects RX2 yX2_laneNow yX2_laneNow, Cond.code yX2_laneNow cX2_laneNow 1 (some .int), Cond.methodLink RX4 237 yX2_takeCells, Cond.instanceMethod yX2_takeCells, Cond.selects RX2 yX2_takeCells yX2_takeCells, Cond.code yX2_takeCells cX2_takeCells 5 none, Cond.methodLink RX2 40 arraycopyName]
def wsL_law_r29 : List Cond := [Cond.native arraycopyName, Cond.static arraycopyName, Cond.initialized "java/lang/System", Cond.methodLink RX2 36 yX2_hasCells, Cond.methodLink RL 121 yX5_copy, Cond.instanceMethod yX5_copy, Cond.selects RX5 yX5_copy yX5_copy, Cond.code yX5_copy cX5_copy 10 (some .int), Cond.methodLink RL 122 yX4_tell, Cond.instanceMethod yX4_tell, Cond.selects RX4 yX4_tell yX4_tell, Cond.code yX4_tell cX4_tell 2 (some .int), Cond.methodLink RX4 241 yX4_tellAsDrawn, Cond.instanceMethod yX4_tellAsDrawn, Cond.selects RX4 yX4_tellAsDrawn yX4_tellAsDrawn, Cond.code yX4_tellAsDrawn cX4_tellAsDrawn 3 (some .int), Cond.methodLink RX4 256 yX4_leave, Cond.instanceMethod yX4_leave, Cond.selects RX4 yX4_leave yX4_leave, Cond.code yX4_leave cX4_leave 2 none, Cond.methodLink RX4 244 yX4_tellAsLent, Cond.instanceMethod yX4_tellAsLent, Cond.selects RX4 yX4_tellAsLent yX4_tellAsLent, Cond.code yX4_tellAsLent cX4_tellAsLent 2 (some .int)]
def wsL_law_r30 : List Cond := [Cond.methodLink RX4 247 yX4_tellAsPass, Cond.instanceMethod yX4_tellAsPass, Cond.selects RX4 yX4_tellAsPass yX4_tellAsPass, Cond.code yX4_tellAsPass cX4_tellAsPass 4 (some .int), Cond.methodLink RL 125 yX5_tell, Cond.instanceMethod yX5_tell, Cond.selects RX5 yX5_tell yX5_tell, Cond.code yX5_tell cX5_tell 3 (some .int), Cond.methodLink RX5 174 yX5_begins, Cond.instanceMethod yX5_begins, Cond.selects RX5 yX5_begins yX5_begins, Cond.code yX5_begins cX5_begins 2 none, Cond.fieldLink RX5 171 "WavePassModel" "trace" "I", Cond.methodLink RL 126 yX4_seal, Cond.instanceMethod yX4_seal, Cond.selects RX4 yX4_seal yX4_seal, Cond.code yX4_seal cX4_seal 2 (some .int), Cond.methodLink RX4 250 yX4_sealAsDrawn, Cond.instanceMethod yX4_sealAsDrawn, Cond.selects RX4 yX4_sealAsDrawn yX4_sealAsDrawn, Cond.code yX4_sealAsDrawn cX4_sealAsDrawn 1 (some .int), Cond.methodLink RX4 253 yX4_sealAsAny, Cond.instanceMethod yX4_sealAsAny, Cond.selects RX4 yX4_sealAsAny yX4_sealAsAny]
def wsL_law_r31 : List Cond := [Cond.code yX4_sealAsAny cX4_sealAsAny 2 (some .int), Cond.methodLink RL 129 yX5_seal, Cond.instanceMethod yX5_seal, Cond.selects RX5 yX5_seal yX5_seal, Cond.code yX5_seal cX5_seal 2 (some .int), Cond.methodLink RL 130 yX4_as, Cond.instanceMethod yX4_as, Cond.selects RX4 yX4_as yX4_as, Cond.code yX4_as cX4_as 3 (some .int), Cond.methodLink RL 133 yX5_as, Cond.instanceMethod yX5_as, Cond.selects RX5 yX5_as yX5_as, Cond.code yX5_as cX5_as 3 (some .int), Cond.methodLink RL 134 yX4_trace, Cond.instanceMethod yX4_trace, Cond.selects RX4 yX4_trace yX4_trace, Cond.code yX4_trace cX4_trace 1 (some .int), Cond.methodLink RL 137 yX5_trace, Cond.instanceMethod yX5_trace, Cond.selects RX5 yX5_trace yX5_trace, Cond.code yX5_trace cX5_trace 1 (some .int), Cond.methodLink RL 138 yX4_fault, Cond.instanceMethod yX4_fault, Cond.selects RX4 yX4_fault yX4_fault]
def wsL_law_r32 : List Cond := [Cond.code yX4_fault cX4_fault 1 (some .int), Cond.methodLink RL 141 yX5_fault, Cond.instanceMethod yX5_fault, Cond.selects RX5 yX5_fault yX5_fault, Cond.code yX5_fault cX5_fault 1 (some .int), Cond.methodLink RL 142 yX4_many, Cond.instanceMethod yX4_many, Cond.selects RX4 yX4_many yX4_many, Cond.code yX4_many cX4_many 2 (some .int), Cond.methodLink RL 145 yX5_many, Cond.instanceMethod yX5_many, Cond.selects RX5 yX5_many yX5_many, Cond.code yX5_many cX5_many 2 (some .int)]
def wsL_law : List Cond := (wsL_law_r1 ++ (wsL_law_r2 ++ (wsL_law_r3 ++ (wsL_law_r4 ++ (wsL_law_r5 ++ (wsL_law_r6 ++ (wsL_law_r7 ++ (wsL_law_r8 ++ (wsL_law_r9 ++ (wsL_law_r10 ++ (wsL_law_r11 ++ (wsL_law_r12 ++ (wsL_law_r13 ++ (wsL_law_r14 ++ (wsL_law_r15 ++ (wsL_law_r16 ++ (wsL_law_r17 ++ (wsL_law_r18 ++ (wsL_law_r19 ++ (wsL_law_r20 ++ (wsL_law_r21 ++ (wsL_law_r22 ++ (wsL_law_r23 ++ (wsL_law_r24 ++ (wsL_law_r25 ++ (wsL_law_r26 ++ (wsL_law_r27 ++ (wsL_law_r28 ++ (wsL_law_r29 ++ (wsL_law_r30 ++ (wsL_law_r31 ++ wsL_law_r32))))))))))))))))))))))))))))))) ++ wsX40 ++ wsX50 ++ wsX00 ++ wsX30 ++ wsX10 ++ wsX20 ++ ([] : List Cond)
theorem inlX0 : ∀ w ∈ wsX00, w ∈ wsL_law := fun _ h => List.mem_append_left _ (List.mem_append_left _ (List.mem_append_left _ (List.mem_append_left _ (List.mem_append_right _ h))))
theorem inlX1 : ∀ w ∈ wsX10, w ∈ wsL_law := fun _ h => List.mem_append_left _ (List.mem_append_left _ (List.mem_append_right _ h))
theorem inlX2 : ∀ w ∈ wsX20, w ∈ wsL_law := fun _ h => List.mem_append_left _ (List.mem_append_right _ h)
theorem inlX3 : ∀ w ∈ wsX30, w ∈ wsL_law := fun _ h => List.mem_append_left _ (List.mem_append_left _ (List.mem_append_left _ (List.mem_append_right _ h)))
theorem inlX4 : ∀ w ∈ wsX40, w ∈ wsL_law := fun _ h => List.mem_append_left _ (List.mem_append_left _ (List.mem_append_left _ (List.mem_append_left _ (List.mem_append_left _ (List.mem_append_left _ (List.mem_append_right _ h))))))
theorem inlX5 : ∀ w ∈ wsX50, w ∈ wsL_law := fun _ h => List.mem_append_left _ (List.mem_append_left _ (List.mem_append_left _ (List.mem_append_left _ (List.mem_append_left _ (List.mem_append_right _ h)))))
theorem inJ6 : ∀ w ∈ wsJ60, w ∈ lw_tbl := by decide +kernel
theorem inJ9 : ∀ w ∈ wsJ90, w ∈ lw_tbl := by decide +kernel
theorem inJ10 : ∀ w ∈ wsJ100, w ∈ lw_tbl := by decide +kernel
theorem inJ7 : ∀ w ∈ wsJ70, w ∈ lw_tbl := by decide +kernel
abbrev vwCl : List vw_C := [(RX0, TX0, 5), (RX1, TX1, 5), (RX2, TX2, 3), (RX3, TX3, 3), (RX4, TX4, 6), (RX5, TX5, 23)]
end
section
theorem dX0_init_0 : decode cX0_init 0 = .ok (.aload_n 0, 1) := by decide +kernel
theorem dX0_init_1 : decode cX0_init 1 = .ok (.invokespecial 3, 3) := by decide +kernel
theorem dX0_init_4 : decode cX0_init 4 = .ok (.aload_n 0, 1) := by decide +kernel
theorem dX0_init_5 : decode cX0_init 5 = .ok (.bipush 6, 2) := by decide +kernel
theorem dX0_init_7 : decode cX0_init 7 = .ok (.newarray .int, 2) := by decide +kernel
theorem dX0_init_9 : decode cX0_init 9 = .ok (.putfield 9, 3) := by decide +kernel
theorem dX0_init_12 : decode cX0_init 12 = .ok (.aload_n 0, 1) := by decide +kernel
theorem dX0_init_13 : decode cX0_init 13 = .ok (.bipush 18, 2) := by decide +kernel
theorem dX0_init_15 : decode cX0_init 15 = .ok (.newarray .int, 2) := by decide +kernel
theorem dX0_init_17 : decode cX0_init 17 = .ok (.putfield 15, 3) := by decide +kernel
theorem dX0_init_20 : decode cX0_init 20 = .ok (.aload_n 0, 1) := by decide +kernel
theorem dX0_init_21 : decode cX0_init 21 = .ok (.bipush 6, 2) := by decide +kernel
theorem dX0_init_23 : decode cX0_init 23 = .ok (.newarray .int, 2) := by decide +kernel
theorem dX0_init_25 : decode cX0_init 25 = .ok (.putfield 18, 3) := by decide +kernel
theorem dX0_init_28 : decode cX0_init 28 = .ok (.aload_n 0, 1) := by decide +kernel
theorem dX0_init_29 : decode cX0_init 29 = .ok (.iconst 0, 1) := by decide +kernel
theorem dX0_init_30 : decode cX0_init 30 = .ok (.putfield 21, 3) := by decide +kernel
theorem dX0_init_33 : decode cX0_init 33 = .ok (.aload_n 0, 1) := by decide +kernel
theorem dX0_init_34 : decode cX0_init 34 = .ok (.iconst 0, 1) := by decide +kernel
theorem dX0_init_35 : decode cX0_init 35 = .ok (.putfield 25, 3) := by decide +kernel
theorem dX0_init_38 : decode cX0_init 38 = .ok (.return_, 1) := by decide +kernel
set_option maxRecDepth 20000 in
theorem ggX0_firstWrongCode_X2_at : GoodIn wsX0_firstWrongCode wsX2_at := goodIn_r _ [5, 6, 7, 8, 9, 4, 10, 11, 19, 20, 21] (by decide +kernel) (by decide +kernel)
set_option maxRecDepth 20000 in
theorem gX0_firstWrongCode_X2_at : GoodIn wsX0_firstWrongCode (wsV RX0 28 RX2 yX2_at wsX2_at) := goodIn_app (goodIn_of _ (by decide +kernel)) ggX0_firstWrongCode_X2_at
set_option maxRecDepth 20000 in
theorem ggX0_firstWrongCode_X0_goesOn : GoodIn wsX0_firstWrongCode wsX0_goesOn := goodIn_r _ [15, 16, 17, 14, 18] (by decide +kernel) (by decide +kernel)
set_option maxRecDepth 20000 in
theorem gX0_firstWrongCode_X0_goesOn : GoodIn wsX0_firstWrongCode (va_wsS RX0 34 yX0_goesOn wsX0_goesOn) := goodIn_app (goodIn_of _ (by decide +kernel)) ggX0_firstWrongCode_X0_goesOn
theorem dX0_firstWrongCode_0 : decode cX0_firstWrongCode 0 = .ok (.iconst 0, 1) := by decide +kernel
theorem dX0_firstWrongCode_1 : decode cX0_firstWrongCode 1 = .ok (.istore_n 3, 1) := by decide +kernel
theorem dX0_firstWrongCode_2 : decode cX0_firstWrongCode 2 = .ok (.iload_n 3, 1) := by decide +kernel
theorem dX0_firstWrongCode_3 : decode cX0_firstWrongCode 3 = .ok (.iload_n 2, 1) := by decide +kernel
theorem dX0_firstWrongCode_4 : decode cX0_firstWrongCode 4 = .ok (.if_icmp .ge 25, 3) := by decide +kernel
theorem dX0_firstWrongCode_7 : decode cX0_firstWrongCode 7 = .ok (.iload_n 3, 1) := by decide +kernel
theorem dX0_firstWrongCode_8 : decode cX0_firstWrongCode 8 = .ok (.aload_n 0, 1) := by decide +kernel
theorem dX0_firstWrongCode_9 : decode cX0_firstWrongCode 9 = .ok (.iload_n 1, 1) := by decide +kernel
theorem dX0_firstWrongCode_10 : decode cX0_firstWrongCode 10 = .ok (.iload_n 3, 1) := by decide +kernel
theorem dX0_firstWrongCode_11 : decode cX0_firstWrongCode 11 = .ok (.iadd, 1) := by decide +kernel
theorem dX0_firstWrongCode_12 : decode cX0_firstWrongCode 12 = .ok (.invokevirtual 28, 3) := by decide +kernel
theorem dX0_firstWrongCode_15 : decode cX0_firstWrongCode 15 = .ok (.invokestatic 34, 3) := by decide +kernel
theorem dX0_firstWrongCode_18 : decode cX0_firstWrongCode 18 = .ok (.ifCond .ne 5, 3) := by decide +kernel
theorem dX0_firstWrongCode_21 : decode cX0_firstWrongCode 21 = .ok (.iload_n 3, 1) := by decide +kernel
theorem dX0_firstWrongCode_22 : decode cX0_firstWrongCode 22 = .ok (.ireturn, 1) := by decide +kernel
theorem dX0_firstWrongCode_23 : decode cX0_firstWrongCode 23 = .ok (.iinc 3 1, 3) := by decide +kernel
theorem dX0_firstWrongCode_26 : decode cX0_firstWrongCode 26 = .ok (.goto (-24), 3) := by decide +kernel
theorem dX0_firstWrongCode_29 : decode cX0_firstWrongCode 29 = .ok (.iload_n 2, 1) := by decide +kernel
theorem dX0_firstWrongCode_30 : decode cX0_firstWrongCode 30 = .ok (.bipush 12, 2) := by decide +kernel
theorem dX0_firstWrongCode_32 : decode cX0_firstWrongCode 32 = .ok (.if_icmp .lt 15, 3) := by decide +kernel
theorem dX0_firstWrongCode_35 : decode cX0_firstWrongCode 35 = .ok (.iload_n 2, 1) := by decide +kernel
theorem dX0_firstWrongCode_36 : decode cX0_firstWrongCode 36 = .ok (.iconst 2, 1) := by decide +kernel
theorem dX0_firstWrongCode_37 : decode cX0_firstWrongCode 37 = .ok (.isub, 1) := by decide +kernel
theorem dX0_firstWrongCode_38 : decode cX0_firstWrongCode 38 = .ok (.iconst 5, 1) := by decide +kernel
theorem dX0_firstWrongCode_39 : decode cX0_firstWrongCode 39 = .ok (.irem, 1) := by decide +kernel
theorem dX0_firstWrongCode_40 : decode cX0_firstWrongCode 40 = .ok (.ifCond .ne 7, 3) := by decide +kernel
theorem dX0_firstWrongCode_43 : decode cX0_firstWrongCode 43 = .ok (.iconst 1, 1) := by decide +kernel
theorem dX0_firstWrongCode_44 : decode cX0_firstWrongCode 44 = .ok (.goto 4, 3) := by decide +kernel
theorem dX0_firstWrongCode_47 : decode cX0_firstWrongCode 47 = .ok (.iconst 0, 1) := by decide +kernel
theorem dX0_firstWrongCode_48 : decode cX0_firstWrongCode 48 = .ok (.istore_n 3, 1) := by decide +kernel
theorem dX0_firstWrongCode_49 : decode cX0_firstWrongCode 49 = .ok (.iload_n 3, 1) := by decide +kernel
theorem dX0_firstWrongCode_50 : decode cX0_firstWrongCode 50 = .ok (.ifCond .eq 8, 3) := by decide +kernel
theorem dX0_firstWrongCode_53 : decode cX0_firstWrongCode 53 = .ok (.bipush (-9), 2) := by decide +kernel
theorem dX0_firstWrongCode_55 : decode cX0_firstWrongCode 55 = .ok (.goto 4, 3) := by decide +kernel
theorem dX0_firstWrongCode_58 : decode cX0_firstWrongCode 58 = .ok (.iload_n 2, 1) := by decide +kernel
theorem dX0_firstWrongCode_59 : decode cX0_firstWrongCode 59 = .ok (.ireturn, 1) := by decide +kernel
set_option maxRecDepth 20000 in
theorem ggX0_goesOn_X0_isDigit : GoodIn wsX0_goesOn wsX0_isDigit := goodIn_r _ [4] (by decide +kernel) (by decide +kernel)
set_option maxRecDepth 20000 in
theorem gX0_goesOn_X0_isDigit : GoodIn wsX0_goesOn (va_wsS RX0 38 yX0_isDigit wsX0_isDigit) := goodIn_app (goodIn_of _ (by decide +kernel)) ggX0_goesOn_X0_isDigit
theorem dX0_goesOn_0 : decode cX0_goesOn 0 = .ok (.iload_n 0, 1) := by decide +kernel
theorem dX0_goesOn_1 : decode cX0_goesOn 1 = .ok (.bipush 32, 2) := by decide +kernel
theorem dX0_goesOn_3 : decode cX0_goesOn 3 = .ok (.if_icmp .lt 5, 3) := by decide +kernel
theorem dX0_goesOn_6 : decode cX0_goesOn 6 = .ok (.iconst 0, 1) := by decide +kernel
theorem dX0_goesOn_7 : decode cX0_goesOn 7 = .ok (.ireturn, 1) := by decide +kernel
theorem dX0_goesOn_8 : decode cX0_goesOn 8 = .ok (.iload_n 0, 1) := by decide +kernel
theorem dX0_goesOn_9 : decode cX0_goesOn 9 = .ok (.iconst 2, 1) := by decide +kernel
theorem dX0_goesOn_10 : decode cX0_goesOn 10 = .ok (.if_icmp .ge 26, 3) := by decide +kernel
theorem dX0_goesOn_13 : decode cX0_goesOn 13 = .ok (.iload_n 0, 1) := by decide +kernel
theorem dX0_goesOn_14 : decode cX0_goesOn 14 = .ok (.ifCond .ne 17, 3) := by decide +kernel
theorem dX0_goesOn_17 : decode cX0_goesOn 17 = .ok (.iload_n 1, 1) := by decide +kernel
theorem dX0_goesOn_18 : decode cX0_goesOn 18 = .ok (.bipush 101, 2) := by decide +kernel
theorem dX0_goesOn_20 : decode cX0_goesOn 20 = .ok (.if_icmp .ne 7, 3) := by decide +kernel
theorem dX0_goesOn_23 : decode cX0_goesOn 23 = .ok (.iconst 1, 1) := by decide +kernel
theorem dX0_goesOn_24 : decode cX0_goesOn 24 = .ok (.goto 11, 3) := by decide +kernel
theorem dX0_goesOn_27 : decode cX0_goesOn 27 = .ok (.iconst 0, 1) := by decide +kernel
theorem dX0_goesOn_28 : decode cX0_goesOn 28 = .ok (.goto 7, 3) := by decide +kernel
theorem dX0_goesOn_31 : decode cX0_goesOn 31 = .ok (.iload_n 1, 1) := by decide +kernel
theorem dX0_goesOn_32 : decode cX0_goesOn 32 = .ok (.invokestatic 38, 3) := by decide +kernel
theorem dX0_goesOn_35 : decode cX0_goesOn 35 = .ok (.ireturn, 1) := by decide +kernel
theorem dX0_goesOn_36 : decode cX0_goesOn 36 = .ok (.iload_n 0, 1) := by decide +kernel
theorem dX0_goesOn_37 : decode cX0_goesOn 37 = .ok (.iconst 2, 1) := by decide +kernel
theorem dX0_goesOn_38 : decode cX0_goesOn 38 = .ok (.isub, 1) := by decide +kernel
theorem dX0_goesOn_39 : decode cX0_goesOn 39 = .ok (.iconst 5, 1) := by decide +kernel
theorem dX0_goesOn_40 : decode cX0_goesOn 40 = .ok (.irem, 1) := by decide +kernel
theorem dX0_goesOn_41 : decode cX0_goesOn 41 = .ok (.lookupswitch 63 #[(0, 27), (1, 39)], 27) := by decide +kernel
theorem dX0_goesOn_68 : decode cX0_goesOn 68 = .ok (.iload_n 1, 1) := by decide +kernel
theorem dX0_goesOn_69 : decode cX0_goesOn 69 = .ok (.bipush 59, 2) := by decide +kernel
theorem dX0_goesOn_71 : decode cX0_goesOn 71 = .ok (.if_icmp .ne 7, 3) := by decide +kernel
theorem dX0_goesOn_74 : decode cX0_goesOn 74 = .ok (.iconst 1, 1) := by decide +kernel
theorem dX0_goesOn_75 : decode cX0_goesOn 75 = .ok (.goto 4, 3) := by decide +kernel
theorem dX0_goesOn_78 : decode cX0_goesOn 78 = .ok (.iconst 0, 1) := by decide +kernel
theorem dX0_goesOn_79 : decode cX0_goesOn 79 = .ok (.ireturn, 1) := by decide +kernel
theorem dX0_goesOn_80 : decode cX0_goesOn 80 = .ok (.iload_n 1, 1) := by decide +kernel
theorem dX0_goesOn_81 : decode cX0_goesOn 81 = .ok (.bipush 112, 2) := by decide +kernel
theorem dX0_goesOn_83 : decode cX0_goesOn 83 = .ok (.if_icmp .eq 15, 3) := by decide +kernel
theorem dX0_goesOn_86 : decode cX0_goesOn 86 = .ok (.iload_n 1, 1) := by decide +kernel
theorem dX0_goesOn_87 : decode cX0_goesOn 87 = .ok (.bipush 108, 2) := by decide +kernel
theorem dX0_goesOn_89 : decode cX0_goesOn 89 = .ok (.if_icmp .eq 9, 3) := by decide +kernel
theorem dX0_goesOn_92 : decode cX0_goesOn 92 = .ok (.iload_n 1, 1) := by decide +kernel
theorem dX0_goesOn_93 : decode cX0_goesOn 93 = .ok (.bipush 100, 2) := by decide +kernel
theorem dX0_goesOn_95 : decode cX0_goesOn 95 = .ok (.if_icmp .ne 7, 3) := by decide +kernel
theorem dX0_goesOn_98 : decode cX0_goesOn 98 = .ok (.iconst 1, 1) := by decide +kernel
theorem dX0_goesOn_99 : decode cX0_goesOn 99 = .ok (.goto 4, 3) := by decide +kernel
theorem dX0_goesOn_102 : decode cX0_goesOn 102 = .ok (.iconst 0, 1) := by decide +kernel
theorem dX0_goesOn_103 : decode cX0_goesOn 103 = .ok (.ireturn, 1) := by decide +kernel
theorem dX0_goesOn_104 : decode cX0_goesOn 104 = .ok (.iload_n 1, 1) := by decide +kernel
theorem dX0_goesOn_105 : decode cX0_goesOn 105 = .ok (.invokestatic 38, 3) := by decide +kernel
theorem dX0_goesOn_108 : decode cX0_goesOn 108 = .ok (.ireturn, 1) := by decide +kernel
theorem dX0_isDigit_0 : decode cX0_isDigit 0 = .ok (.iload_n 0, 1) := by decide +kernel
theorem dX0_isDigit_1 : decode cX0_isDigit 1 = .ok (.bipush 48, 2) := by decide +kernel
theorem dX0_isDigit_3 : decode cX0_isDigit 3 = .ok (.if_icmp .lt 13, 3) := by decide +kernel
theorem dX0_isDigit_6 : decode cX0_isDigit 6 = .ok (.iload_n 0, 1) := by decide +kernel
theorem dX0_isDigit_7 : decode cX0_isDigit 7 = .ok (.bipush 57, 2) := by decide +kernel
theorem dX0_isDigit_9 : decode cX0_isDigit 9 = .ok (.if_icmp .gt 7, 3) := by decide +kernel
theorem dX0_isDigit_12 : decode cX0_isDigit 12 = .ok (.iconst 1, 1) := by decide +kernel
theorem dX0_isDigit_13 : decode cX0_isDigit 13 = .ok (.goto 4, 3) := by decide +kernel
theorem dX0_isDigit_16 : decode cX0_isDigit 16 = .ok (.iconst 0, 1) := by decide +kernel
theorem dX0_isDigit_17 : decode cX0_isDigit 17 = .ok (.ireturn, 1) := by decide +kernel
theorem dX0_kindByLetter_0 : decode cX0_kindByLetter 0 = .ok (.iload_n 0, 1) := by decide +kernel
theorem dX0_kindByLetter_1 : decode cX0_kindByLetter 1 = .ok (.lookupswitch 31 #[(100, 27), (108, 29)], 27) := by decide +kernel
theorem dX0_kindByLetter_28 : decode cX0_kindByLetter 28 = .ok (.iconst 2, 1) := by decide +kernel
theorem dX0_kindByLetter_29 : decode cX0_kindByLetter 29 = .ok (.ireturn, 1) := by decide +kernel
theorem dX0_kindByLetter_30 : decode cX0_kindByLetter 30 = .ok (.iconst 1, 1) := by decide +kernel
theorem dX0_kindByLetter_31 : decode cX0_kindByLetter 31 = .ok (.ireturn, 1) := by decide +kernel
theorem dX0_kindByLetter_32 : decode cX0_kindByLetter 32 = .ok (.iconst 0, 1) := by decide +kernel
theorem dX0_kindByLetter_33 : decode cX0_kindByLetter 33 = .ok (.ireturn, 1) := by decide +kernel
set_option maxRecDepth 20000 in
theorem ggX0_takeText_X2_at : GoodIn wsX0_takeText wsX2_at := goodIn_r _ [12, 13, 14, 15, 16, 11, 17, 18, 37, 38, 39] (by decide +kernel) (by decide +kernel)
set_option maxRecDepth 20000 in
theorem gX0_takeText_X2_at : GoodIn wsX0_takeText (wsV RX0 28 RX2 yX2_at wsX2_at) := goodIn_app (goodIn_of _ (by decide +kernel)) ggX0_takeText_X2_at
set_option maxRecDepth 20000 in
theorem ggX0_takeText_X0_kindByLetter : GoodIn wsX0_takeText wsX0_kindByLetter := goodIn_r _ [22] (by decide +kernel) (by decide +kernel)
set_option maxRecDepth 20000 in
theorem gX0_takeText_X0_kindByLetter : GoodIn wsX0_takeText (va_wsS RX0 48 yX0_kindByLetter wsX0_kindByLetter) := goodIn_app (goodIn_of _ (by decide +kernel)) ggX0_takeText_X0_kindByLetter
set_option maxRecDepth 20000 in
theorem ggX0_takeText_X0_setHeight : GoodIn wsX0_takeText wsX0_setHeight := goodIn_r _ [26, 27, 28, 29, 30, 21, 31, 5, 32, 33, 34, 35, 36] (by decide +kernel) (by decide +kernel)
set_option maxRecDepth 20000 in
theorem gX0_takeText_X0_setHeight : GoodIn wsX0_takeText (wsV RX0 51 RX0 yX0_setHeight wsX0_setHeight) := goodIn_app (goodIn_of _ (by decide +kernel)) ggX0_takeText_X0_setHeight
theorem dX0_takeText_0 : decode cX0_takeText 0 = .ok (.aload_n 0, 1) := by decide +kernel
theorem dX0_takeText_1 : decode cX0_takeText 1 = .ok (.iload_n 3, 1) := by decide +kernel
theorem dX0_takeText_2 : decode cX0_takeText 2 = .ok (.iconst 2, 1) := by decide +kernel
theorem dX0_takeText_3 : decode cX0_takeText 3 = .ok (.isub, 1) := by decide +kernel
theorem dX0_takeText_4 : decode cX0_takeText 4 = .ok (.iconst 5, 1) := by decide +kernel
theorem dX0_takeText_5 : decode cX0_takeText 5 = .ok (.idiv, 1) := by decide +kernel
theorem dX0_takeText_6 : decode cX0_takeText 6 = .ok (.bipush 6, 2) := by decide +kernel
theorem dX0_takeText_8 : decode cX0_takeText 8 = .ok (.invokestatic 42, 3) := by decide +kernel
theorem dX0_takeText_11 : decode cX0_takeText 11 = .ok (.putfield 21, 3) := by decide +kernel
theorem dX0_takeText_14 : decode cX0_takeText 14 = .ok (.aload_n 0, 1) := by decide +kernel
theorem dX0_takeText_15 : decode cX0_takeText 15 = .ok (.aload_n 1, 1) := by decide +kernel
theorem dX0_takeText_16 : decode cX0_takeText 16 = .ok (.iload_n 2, 1) := by decide +kernel
theorem dX0_takeText_17 : decode cX0_takeText 17 = .ok (.iconst 1, 1) := by decide +kernel
theorem dX0_takeText_18 : decode cX0_takeText 18 = .ok (.iadd, 1) := by decide +kernel
theorem dX0_takeText_19 : decode cX0_takeText 19 = .ok (.invokevirtual 28, 3) := by decide +kernel
theorem dX0_takeText_22 : decode cX0_takeText 22 = .ok (.bipush 48, 2) := by decide +kernel
theorem dX0_takeText_24 : decode cX0_takeText 24 = .ok (.isub, 1) := by decide +kernel
theorem dX0_takeText_25 : decode cX0_takeText 25 = .ok (.putfield 25, 3) := by decide +kernel
theorem dX0_takeText_28 : decode cX0_takeText 28 = .ok (.iconst 0, 1) := by decide +kernel
theorem dX0_takeText_29 : decode cX0_takeText 29 = .ok (.istore 4, 2) := by decide +kernel
theorem dX0_takeText_31 : decode cX0_takeText 31 = .ok (.iload 4, 2) := by decide +kernel
theorem dX0_takeText_33 : decode cX0_takeText 33 = .ok (.aload_n 0, 1) := by decide +kernel
theorem dX0_takeText_34 : decode cX0_takeText 34 = .ok (.getfield 21, 3) := by decide +kernel
theorem dX0_takeText_37 : decode cX0_takeText 37 = .ok (.if_icmp .ge 74, 3) := by decide +kernel
theorem dX0_takeText_40 : decode cX0_takeText 40 = .ok (.iload_n 2, 1) := by decide +kernel
theorem dX0_takeText_41 : decode cX0_takeText 41 = .ok (.iconst 2, 1) := by decide +kernel
theorem dX0_takeText_42 : decode cX0_takeText 42 = .ok (.iadd, 1) := by decide +kernel
theorem dX0_takeText_43 : decode cX0_takeText 43 = .ok (.iload 4, 2) := by decide +kernel
theorem dX0_takeText_45 : decode cX0_takeText 45 = .ok (.iconst 5, 1) := by decide +kernel
theorem dX0_takeText_46 : decode cX0_takeText 46 = .ok (.imul, 1) := by decide +kernel
theorem dX0_takeText_47 : decode cX0_takeText 47 = .ok (.iadd, 1) := by decide +kernel
theorem dX0_takeText_48 : decode cX0_takeText 48 = .ok (.iconst 1, 1) := by decide +kernel
theorem dX0_takeText_49 : decode cX0_takeText 49 = .ok (.iadd, 1) := by decide +kernel
theorem dX0_takeText_50 : decode cX0_takeText 50 = .ok (.istore 5, 2) := by decide +kernel
theorem dX0_takeText_52 : decode cX0_takeText 52 = .ok (.aload_n 0, 1) := by decide +kernel
theorem dX0_takeText_53 : decode cX0_takeText 53 = .ok (.getfield 9, 3) := by decide +kernel
theorem dX0_takeText_56 : decode cX0_takeText 56 = .ok (.iload 4, 2) := by decide +kernel
theorem dX0_takeText_58 : decode cX0_takeText 58 = .ok (.aload_n 1, 1) := by decide +kernel
theorem dX0_takeText_59 : decode cX0_takeText 59 = .ok (.iload 5, 2) := by decide +kernel
theorem dX0_takeText_61 : decode cX0_takeText 61 = .ok (.invokevirtual 28, 3) := by decide +kernel
theorem dX0_takeText_64 : decode cX0_takeText 64 = .ok (.invokestatic 48, 3) := by decide +kernel
theorem dX0_takeText_67 : decode cX0_takeText 67 = .ok (.iastore, 1) := by decide +kernel
theorem dX0_takeText_68 : decode cX0_takeText 68 = .ok (.iconst 0, 1) := by decide +kernel
theorem dX0_takeText_69 : decode cX0_takeText 69 = .ok (.istore 6, 2) := by decide +kernel
theorem dX0_takeText_71 : decode cX0_takeText 71 = .ok (.iload 6, 2) := by decide +kernel
theorem dX0_takeText_73 : decode cX0_takeText 73 = .ok (.iconst 3, 1) := by decide +kernel
theorem dX0_takeText_74 : decode cX0_takeText 74 = .ok (.if_icmp .ge 31, 3) := by decide +kernel
theorem dX0_takeText_77 : decode cX0_takeText 77 = .ok (.aload_n 0, 1) := by decide +kernel
theorem dX0_takeText_78 : decode cX0_takeText 78 = .ok (.iload 4, 2) := by decide +kernel
theorem dX0_takeText_80 : decode cX0_takeText 80 = .ok (.iload 6, 2) := by decide +kernel
theorem dX0_takeText_82 : decode cX0_takeText 82 = .ok (.aload_n 1, 1) := by decide +kernel
theorem dX0_takeText_83 : decode cX0_takeText 83 = .ok (.iload 5, 2) := by decide +kernel
theorem dX0_takeText_85 : decode cX0_takeText 85 = .ok (.iconst 1, 1) := by decide +kernel
theorem dX0_takeText_86 : decode cX0_takeText 86 = .ok (.iadd, 1) := by decide +kernel
theorem dX0_takeText_87 : decode cX0_takeText 87 = .ok (.iload 6, 2) := by decide +kernel
theorem dX0_takeText_89 : decode cX0_takeText 89 = .ok (.iadd, 1) := by decide +kernel
theorem dX0_takeText_90 : decode cX0_takeText 90 = .ok (.invokevirtual 28, 3) := by decide +kernel
theorem dX0_takeText_93 : decode cX0_takeText 93 = .ok (.bipush 48, 2) := by decide +kernel
theorem dX0_takeText_95 : decode cX0_takeText 95 = .ok (.isub, 1) := by decide +kernel
theorem dX0_takeText_96 : decode cX0_takeText 96 = .ok (.invokevirtual 51, 3) := by decide +kernel
theorem dX0_takeText_99 : decode cX0_takeText 99 = .ok (.iinc 6 1, 3) := by decide +kernel
theorem dX0_takeText_102 : decode cX0_takeText 102 = .ok (.goto (-31), 3) := by decide +kernel
theorem dX0_takeText_105 : decode cX0_takeText 105 = .ok (.iinc 4 1, 3) := by decide +kernel
theorem dX0_takeText_108 : decode cX0_takeText 108 = .ok (.goto (-77), 3) := by decide +kernel
theorem dX0_takeText_111 : decode cX0_takeText 111 = .ok (.return_, 1) := by decide +kernel
theorem dX0_stands_0 : decode cX0_stands 0 = .ok (.aload_n 0, 1) := by decide +kernel
theorem dX0_stands_1 : decode cX0_stands 1 = .ok (.getfield 21, 3) := by decide +kernel
theorem dX0_stands_4 : decode cX0_stands 4 = .ok (.ifCond .le 7, 3) := by decide +kernel
theorem dX0_stands_7 : decode cX0_stands 7 = .ok (.iconst 1, 1) := by decide +kernel
theorem dX0_stands_8 : decode cX0_stands 8 = .ok (.goto 4, 3) := by decide +kernel
theorem dX0_stands_11 : decode cX0_stands 11 = .ok (.iconst 0, 1) := by decide +kernel
theorem dX0_stands_12 : decode cX0_stands 12 = .ok (.ireturn, 1) := by decide +kernel
theorem dX0_howMany_0 : decode cX0_howMany 0 = .ok (.aload_n 0, 1) := by decide +kernel
theorem dX0_howMany_1 : decode cX0_howMany 1 = .ok (.getfield 21, 3) := by decide +kernel
theorem dX0_howMany_4 : decode cX0_howMany 4 = .ok (.ireturn, 1) := by decide +kernel
theorem dX0_hasPass_0 : decode cX0_hasPass 0 = .ok (.iload_n 1, 1) := by decide +kernel
theorem dX0_hasPass_1 : decode cX0_hasPass 1 = .ok (.ifCond .lt 15, 3) := by decide +kernel
theorem dX0_hasPass_4 : decode cX0_hasPass 4 = .ok (.iload_n 1, 1) := by decide +kernel
theorem dX0_hasPass_5 : decode cX0_hasPass 5 = .ok (.aload_n 0, 1) := by decide +kernel
theorem dX0_hasPass_6 : decode cX0_hasPass 6 = .ok (.getfield 21, 3) := by decide +kernel
theorem dX0_hasPass_9 : decode cX0_hasPass 9 = .ok (.if_icmp .ge 7, 3) := by decide +kernel
theorem dX0_hasPass_12 : decode cX0_hasPass 12 = .ok (.iconst 1, 1) := by decide +kernel
theorem dX0_hasPass_13 : decode cX0_hasPass 13 = .ok (.goto 4, 3) := by decide +kernel
theorem dX0_hasPass_16 : decode cX0_hasPass 16 = .ok (.iconst 0, 1) := by decide +kernel
theorem dX0_hasPass_17 : decode cX0_hasPass 17 = .ok (.ireturn, 1) := by decide +kernel
theorem dX0_allPasses_0 : decode cX0_allPasses 0 = .ok (.iconst 1, 1) := by decide +kernel
theorem dX0_allPasses_1 : decode cX0_allPasses 1 = .ok (.aload_n 0, 1) := by decide +kernel
theorem dX0_allPasses_2 : decode cX0_allPasses 2 = .ok (.getfield 21, 3) := by decide +kernel
theorem dX0_allPasses_5 : decode cX0_allPasses 5 = .ok (.ishl, 1) := by decide +kernel
theorem dX0_allPasses_6 : decode cX0_allPasses 6 = .ok (.iconst 1, 1) := by decide +kernel
theorem dX0_allPasses_7 : decode cX0_allPasses 7 = .ok (.isub, 1) := by decide +kernel
theorem dX0_allPasses_8 : decode cX0_allPasses 8 = .ok (.ireturn, 1) := by decide +kernel
set_option maxRecDepth 20000 in
theorem ggX0_isSet_X0_allPasses : GoodIn wsX0_isSet wsX0_allPasses := goodIn_r _ [5, 6, 7, 8, 9, 10, 11] (by decide +kernel) (by decide +kernel)
set_option maxRecDepth 20000 in
theorem gX0_isSet_X0_allPasses : GoodIn wsX0_isSet (wsV RX0 55 RX0 yX0_allPasses wsX0_allPasses) := goodIn_app (goodIn_of _ (by decide +kernel)) ggX0_isSet_X0_allPasses
theorem dX0_isSet_0 : decode cX0_isSet 0 = .ok (.iload_n 1, 1) := by decide +kernel
theorem dX0_isSet_1 : decode cX0_isSet 1 = .ok (.ifCond .lt 15, 3) := by decide +kernel
theorem dX0_isSet_4 : decode cX0_isSet 4 = .ok (.iload_n 1, 1) := by decide +kernel
theorem dX0_isSet_5 : decode cX0_isSet 5 = .ok (.aload_n 0, 1) := by decide +kernel
theorem dX0_isSet_6 : decode cX0_isSet 6 = .ok (.invokevirtual 55, 3) := by decide +kernel
theorem dX0_isSet_9 : decode cX0_isSet 9 = .ok (.if_icmp .gt 7, 3) := by decide +kernel
theorem dX0_isSet_12 : decode cX0_isSet 12 = .ok (.iconst 1, 1) := by decide +kernel
theorem dX0_isSet_13 : decode cX0_isSet 13 = .ok (.goto 4, 3) := by decide +kernel
theorem dX0_isSet_16 : decode cX0_isSet 16 = .ok (.iconst 0, 1) := by decide +kernel
theorem dX0_isSet_17 : decode cX0_isSet 17 = .ok (.ireturn, 1) := by decide +kernel
theorem dX0_slackNow_0 : decode cX0_slackNow 0 = .ok (.aload_n 0, 1) := by decide +kernel
theorem dX0_slackNow_1 : decode cX0_slackNow 1 = .ok (.getfield 25, 3) := by decide +kernel
theorem dX0_slackNow_4 : decode cX0_slackNow 4 = .ok (.ireturn, 1) := by decide +kernel
theorem dX0_setSlack_0 : decode cX0_setSlack 0 = .ok (.aload_n 0, 1) := by decide +kernel
theorem dX0_setSlack_1 : decode cX0_setSlack 1 = .ok (.iload_n 1, 1) := by decide +kernel
theorem dX0_setSlack_2 : decode cX0_setSlack 2 = .ok (.putfield 25, 3) := by decide +kernel
theorem dX0_setSlack_5 : decode cX0_setSlack 5 = .ok (.return_, 1) := by decide +kernel
set_option maxRecDepth 20000 in
theorem ggX0_kindOf_X0_hasPass : GoodIn wsX0_kindOf wsX0_hasPass := goodIn_r _ [6, 7, 8, 9, 10, 11, 12] (by decide +kernel) (by decide +kernel)
set_option maxRecDepth 20000 in
theorem gX0_kindOf_X0_hasPass : GoodIn wsX0_kindOf (wsV RX0 59 RX0 yX0_hasPass wsX0_hasPass) := goodIn_app (goodIn_of _ (by decide +kernel)) ggX0_kindOf_X0_hasPass
theorem dX0_kindOf_0 : decode cX0_kindOf 0 = .ok (.aload_n 0, 1) := by decide +kernel
theorem dX0_kindOf_1 : decode cX0_kindOf 1 = .ok (.iload_n 1, 1) := by decide +kernel
theorem dX0_kindOf_2 : decode cX0_kindOf 2 = .ok (.invokevirtual 59, 3) := by decide +kernel
theorem dX0_kindOf_5 : decode cX0_kindOf 5 = .ok (.ifCond .eq 12, 3) := by decide +kernel
theorem dX0_kindOf_8 : decode cX0_kindOf 8 = .ok (.aload_n 0, 1) := by decide +kernel
theorem dX0_kindOf_9 : decode cX0_kindOf 9 = .ok (.getfield 9, 3) := by decide +kernel
theorem dX0_kindOf_12 : decode cX0_kindOf 12 = .ok (.iload_n 1, 1) := by decide +kernel
theorem dX0_kindOf_13 : decode cX0_kindOf 13 = .ok (.iaload, 1) := by decide +kernel
theorem dX0_kindOf_14 : decode cX0_kindOf 14 = .ok (.goto 4, 3) := by decide +kernel
theorem dX0_kindOf_17 : decode cX0_kindOf 17 = .ok (.iconst 0, 1) := by decide +kernel
theorem dX0_kindOf_18 : decode cX0_kindOf 18 = .ok (.ireturn, 1) := by decide +kernel
set_option maxRecDepth 20000 in
theorem ggX0_setKind_X0_hasPass : GoodIn wsX0_setKind wsX0_hasPass := goodIn_r _ [6, 7, 8, 9, 10, 11, 12] (by decide +kernel) (by decide +kernel)
set_option maxRecDepth 20000 in
theorem gX0_setKind_X0_hasPass : GoodIn wsX0_setKind (wsV RX0 59 RX0 yX0_hasPass wsX0_hasPass) := goodIn_app (goodIn_of _ (by decide +kernel)) ggX0_setKind_X0_hasPass
theorem dX0_setKind_0 : decode cX0_setKind 0 = .ok (.aload_n 0, 1) := by decide +kernel
theorem dX0_setKind_1 : decode cX0_setKind 1 = .ok (.iload_n 1, 1) := by decide +kernel
theorem dX0_setKind_2 : decode cX0_setKind 2 = .ok (.invokevirtual 59, 3) := by decide +kernel
theorem dX0_setKind_5 : decode cX0_setKind 5 = .ok (.ifCond .eq 10, 3) := by decide +kernel
theorem dX0_setKind_8 : decode cX0_setKind 8 = .ok (.aload_n 0, 1) := by decide +kernel
theorem dX0_setKind_9 : decode cX0_setKind 9 = .ok (.getfield 9, 3) := by decide +kernel
theorem dX0_setKind_12 : decode cX0_setKind 12 = .ok (.iload_n 1, 1) := by decide +kernel
theorem dX0_setKind_13 : decode cX0_setKind 13 = .ok (.iload_n 2, 1) := by decide +kernel
theorem dX0_setKind_14 : decode cX0_setKind 14 = .ok (.iastore, 1) := by decide +kernel
theorem dX0_setKind_15 : decode cX0_setKind 15 = .ok (.return_, 1) := by decide +kernel
set_option maxRecDepth 20000 in
theorem ggX0_heightOf_X0_hasPass : GoodIn wsX0_heightOf wsX0_hasPass := goodIn_r _ [6, 7, 8, 9, 10, 11, 12] (by decide +kernel) (by decide +kernel)
set_option maxRecDepth 20000 in
theorem gX0_heightOf_X0_hasPass : GoodIn wsX0_heightOf (wsV RX0 59 RX0 yX0_hasPass wsX0_hasPass) := goodIn_app (goodIn_of _ (by decide +kernel)) ggX0_heightOf_X0_hasPass
theorem dX0_heightOf_0 : decode cX0_heightOf 0 = .ok (.aload_n 0, 1) := by decide +kernel
theorem dX0_heightOf_1 : decode cX0_heightOf 1 = .ok (.iload_n 1, 1) := by decide +kernel
theorem dX0_heightOf_2 : decode cX0_heightOf 2 = .ok (.invokevirtual 59, 3) := by decide +kernel
theorem dX0_heightOf_5 : decode cX0_heightOf 5 = .ok (.ifCond .eq 25, 3) := by decide +kernel
theorem dX0_heightOf_8 : decode cX0_heightOf 8 = .ok (.iload_n 2, 1) := by decide +kernel
theorem dX0_heightOf_9 : decode cX0_heightOf 9 = .ok (.ifCond .lt 21, 3) := by decide +kernel
theorem dX0_heightOf_12 : decode cX0_heightOf 12 = .ok (.iload_n 2, 1) := by decide +kernel
theorem dX0_heightOf_13 : decode cX0_heightOf 13 = .ok (.iconst 3, 1) := by decide +kernel
theorem dX0_heightOf_14 : decode cX0_heightOf 14 = .ok (.if_icmp .ge 16, 3) := by decide +kernel
theorem dX0_heightOf_17 : decode cX0_heightOf 17 = .ok (.aload_n 0, 1) := by decide +kernel
theorem dX0_heightOf_18 : decode cX0_heightOf 18 = .ok (.getfield 15, 3) := by decide +kernel
theorem dX0_heightOf_21 : decode cX0_heightOf 21 = .ok (.iload_n 1, 1) := by decide +kernel
theorem dX0_heightOf_22 : decode cX0_heightOf 22 = .ok (.iconst 3, 1) := by decide +kernel
theorem dX0_heightOf_23 : decode cX0_heightOf 23 = .ok (.imul, 1) := by decide +kernel
theorem dX0_heightOf_24 : decode cX0_heightOf 24 = .ok (.iload_n 2, 1) := by decide +kernel
theorem dX0_heightOf_25 : decode cX0_heightOf 25 = .ok (.iadd, 1) := by decide +kernel
theorem dX0_heightOf_26 : decode cX0_heightOf 26 = .ok (.iaload, 1) := by decide +kernel
theorem dX0_heightOf_27 : decode cX0_heightOf 27 = .ok (.goto 4, 3) := by decide +kernel
theorem dX0_heightOf_30 : decode cX0_heightOf 30 = .ok (.iconst 0, 1) := by decide +kernel
theorem dX0_heightOf_31 : decode cX0_heightOf 31 = .ok (.ireturn, 1) := by decide +kernel
set_option maxRecDepth 20000 in
theorem ggX0_setHeight_X0_hasPass : GoodIn wsX0_setHeight wsX0_hasPass := goodIn_r _ [6, 7, 8, 9, 10, 11, 12] (by decide +kernel) (by decide +kernel)
set_option maxRecDepth 20000 in
theorem gX0_setHeight_X0_hasPass : GoodIn wsX0_setHeight (wsV RX0 59 RX0 yX0_hasPass wsX0_hasPass) := goodIn_app (goodIn_of _ (by decide +kernel)) ggX0_setHeight_X0_hasPass
theorem dX0_setHeight_0 : decode cX0_setHeight 0 = .ok (.aload_n 0, 1) := by decide +kernel
theorem dX0_setHeight_1 : decode cX0_setHeight 1 = .ok (.iload_n 1, 1) := by decide +kernel
theorem dX0_setHeight_2 : decode cX0_setHeight 2 = .ok (.invokevirtual 59, 3) := by decide +kernel
theorem dX0_setHeight_5 : decode cX0_setHeight 5 = .ok (.ifCond .eq 23, 3) := by decide +kernel
theorem dX0_setHeight_8 : decode cX0_setHeight 8 = .ok (.iload_n 2, 1) := by decide +kernel
theorem dX0_setHeight_9 : decode cX0_setHeight 9 = .ok (.ifCond .lt 19, 3) := by decide +kernel
theorem dX0_setHeight_12 : decode cX0_setHeight 12 = .ok (.iload_n 2, 1) := by decide +kernel
theorem dX0_setHeight_13 : decode cX0_setHeight 13 = .ok (.iconst 3, 1) := by decide +kernel
theorem dX0_setHeight_14 : decode cX0_setHeight 14 = .ok (.if_icmp .ge 14, 3) := by decide +kernel
theorem dX0_setHeight_17 : decode cX0_setHeight 17 = .ok (.aload_n 0, 1) := by decide +kernel
theorem dX0_setHeight_18 : decode cX0_setHeight 18 = .ok (.getfield 15, 3) := by decide +kernel
theorem dX0_setHeight_21 : decode cX0_setHeight 21 = .ok (.iload_n 1, 1) := by decide +kernel
theorem dX0_setHeight_22 : decode cX0_setHeight 22 = .ok (.iconst 3, 1) := by decide +kernel
theorem dX0_setHeight_23 : decode cX0_setHeight 23 = .ok (.imul, 1) := by decide +kernel
theorem dX0_setHeight_24 : decode cX0_setHeight 24 = .ok (.iload_n 2, 1) := by decide +kernel
theorem dX0_setHeight_25 : decode cX0_setHeight 25 = .ok (.iadd, 1) := by decide +kernel
theorem dX0_setHeight_26 : decode cX0_setHeight 26 = .ok (.iload_n 3, 1) := by decide +kernel
theorem dX0_setHeight_27 : decode cX0_setHeight 27 = .ok (.iastore, 1) := by decide +kernel
theorem dX0_setHeight_28 : decode cX0_setHeight 28 = .ok (.return_, 1) := by decide +kernel
theorem dX0_wear_0 : decode cX0_wear 0 = .ok (.iload_n 0, 1) := by decide +kernel
theorem dX0_wear_1 : decode cX0_wear 1 = .ok (.lookupswitch 35 #[(1, 31), (2, 27)], 27) := by decide +kernel
theorem dX0_wear_28 : decode cX0_wear 28 = .ok (.iconst 2, 1) := by decide +kernel
theorem dX0_wear_29 : decode cX0_wear 29 = .ok (.iload_n 1, 1) := by decide +kernel
theorem dX0_wear_30 : decode cX0_wear 30 = .ok (.imul, 1) := by decide +kernel
theorem dX0_wear_31 : decode cX0_wear 31 = .ok (.ireturn, 1) := by decide +kernel
theorem dX0_wear_32 : decode cX0_wear 32 = .ok (.iload_n 1, 1) := by decide +kernel
theorem dX0_wear_33 : decode cX0_wear 33 = .ok (.iconst 1, 1) := by decide +kernel
theorem dX0_wear_34 : decode cX0_wear 34 = .ok (.iadd, 1) := by decide +kernel
theorem dX0_wear_35 : decode cX0_wear 35 = .ok (.ireturn, 1) := by decide +kernel
theorem dX0_wear_36 : decode cX0_wear 36 = .ok (.iload_n 1, 1) := by decide +kernel
theorem dX0_wear_37 : decode cX0_wear 37 = .ok (.ireturn, 1) := by decide +kernel
set_option maxRecDepth 20000 in
theorem ggX0_lowerHeight_X0_heightOf : GoodIn wsX0_lowerHeight wsX0_heightOf := goodIn_r _ [9, 10, 11, 12, 13, 8, 14, 15, 24, 25, 26, 27, 28] (by decide +kernel) (by decide +kernel)
set_option maxRecDepth 20000 in
theorem gX0_lowerHeight_X0_heightOf : GoodIn wsX0_lowerHeight (wsV RX0 62 RX0 yX0_heightOf wsX0_heightOf) := goodIn_app (goodIn_of _ (by decide +kernel)) ggX0_lowerHeight_X0_heightOf
set_option maxRecDepth 20000 in
theorem ggX0_lowerHeight_X0_kindOf : GoodIn wsX0_lowerHeight wsX0_kindOf := goodIn_r _ [19, 20, 11, 12, 13, 8, 14, 15, 24, 25, 26, 27, 28] (by decide +kernel) (by decide +kernel)
set_option maxRecDepth 20000 in
theorem gX0_lowerHeight_X0_kindOf : GoodIn wsX0_lowerHeight (wsV RX0 65 RX0 yX0_kindOf wsX0_kindOf) := goodIn_app (goodIn_of _ (by decide +kernel)) ggX0_lowerHeight_X0_kindOf
set_option maxRecDepth 20000 in
theorem ggX0_lowerHeight_X0_wear : GoodIn wsX0_lowerHeight wsX0_wear := goodIn_r _ [23] (by decide +kernel) (by decide +kernel)
set_option maxRecDepth 20000 in
theorem gX0_lowerHeight_X0_wear : GoodIn wsX0_lowerHeight (va_wsS RX0 68 yX0_wear wsX0_wear) := goodIn_app (goodIn_of _ (by decide +kernel)) ggX0_lowerHeight_X0_wear
theorem dX0_lowerHeight_0 : decode cX0_lowerHeight 0 = .ok (.aload_n 0, 1) := by decide +kernel
theorem dX0_lowerHeight_1 : decode cX0_lowerHeight 1 = .ok (.iload_n 1, 1) := by decide +kernel
theorem dX0_lowerHeight_2 : decode cX0_lowerHeight 2 = .ok (.iload_n 2, 1) := by decide +kernel
theorem dX0_lowerHeight_3 : decode cX0_lowerHeight 3 = .ok (.invokevirtual 62, 3) := by decide +kernel
theorem dX0_lowerHeight_6 : decode cX0_lowerHeight 6 = .ok (.aload_n 0, 1) := by decide +kernel
theorem dX0_lowerHeight_7 : decode cX0_lowerHeight 7 = .ok (.iload_n 1, 1) := by decide +kernel
theorem dX0_lowerHeight_8 : decode cX0_lowerHeight 8 = .ok (.invokevirtual 65, 3) := by decide +kernel
theorem dX0_lowerHeight_11 : decode cX0_lowerHeight 11 = .ok (.iload_n 3, 1) := by decide +kernel
theorem dX0_lowerHeight_12 : decode cX0_lowerHeight 12 = .ok (.invokestatic 68, 3) := by decide +kernel
theorem dX0_lowerHeight_15 : decode cX0_lowerHeight 15 = .ok (.isub, 1) := by decide +kernel
theorem dX0_lowerHeight_16 : decode cX0_lowerHeight 16 = .ok (.iconst 0, 1) := by decide +kernel
theorem dX0_lowerHeight_17 : decode cX0_lowerHeight 17 = .ok (.invokestatic 71, 3) := by decide +kernel
theorem dX0_lowerHeight_20 : decode cX0_lowerHeight 20 = .ok (.ireturn, 1) := by decide +kernel
set_option maxRecDepth 20000 in
theorem ggX0_apart_X0_kindOf : GoodIn wsX0_apart wsX0_kindOf := goodIn_r _ [12, 13, 14, 15, 16, 11, 17, 18, 27, 28, 29, 30, 31] (by decide +kernel) (by decide +kernel)
set_option maxRecDepth 20000 in
theorem gX0_apart_X0_kindOf : GoodIn wsX0_apart (wsV RX0 65 RX0 yX0_kindOf wsX0_kindOf) := goodIn_app (goodIn_of _ (by decide +kernel)) ggX0_apart_X0_kindOf
set_option maxRecDepth 20000 in
theorem ggX0_apart_X0_wear : GoodIn wsX0_apart wsX0_wear := goodIn_r _ [21] (by decide +kernel) (by decide +kernel)
set_option maxRecDepth 20000 in
theorem gX0_apart_X0_wear : GoodIn wsX0_apart (va_wsS RX0 68 yX0_wear wsX0_wear) := goodIn_app (goodIn_of _ (by decide +kernel)) ggX0_apart_X0_wear
set_option maxRecDepth 20000 in
theorem ggX0_apart_X0_heightOf : GoodIn wsX0_apart wsX0_heightOf := goodIn_r _ [25, 26, 14, 15, 16, 11, 17, 18, 27, 28, 29, 30, 31] (by decide +kernel) (by decide +kernel)
set_option maxRecDepth 20000 in
theorem gX0_apart_X0_heightOf : GoodIn wsX0_apart (wsV RX0 62 RX0 yX0_heightOf wsX0_heightOf) := goodIn_app (goodIn_of _ (by decide +kernel)) ggX0_apart_X0_heightOf
theorem dX0_apart_0 : decode cX0_apart 0 = .ok (.aload_n 0, 1) := by decide +kernel
theorem dX0_apart_1 : decode cX0_apart 1 = .ok (.iload_n 2, 1) := by decide +kernel
theorem dX0_apart_2 : decode cX0_apart 2 = .ok (.invokevirtual 65, 3) := by decide +kernel
theorem dX0_apart_5 : decode cX0_apart 5 = .ok (.iload_n 3, 1) := by decide +kernel
theorem dX0_apart_6 : decode cX0_apart 6 = .ok (.invokestatic 68, 3) := by decide +kernel
theorem dX0_apart_9 : decode cX0_apart 9 = .ok (.istore 4, 2) := by decide +kernel
theorem dX0_apart_11 : decode cX0_apart 11 = .ok (.iconst 0, 1) := by decide +kernel
theorem dX0_apart_12 : decode cX0_apart 12 = .ok (.istore 5, 2) := by decide +kernel
theorem dX0_apart_14 : decode cX0_apart 14 = .ok (.iconst 0, 1) := by decide +kernel
theorem dX0_apart_15 : decode cX0_apart 15 = .ok (.istore 6, 2) := by decide +kernel
theorem dX0_apart_17 : decode cX0_apart 17 = .ok (.iload 6, 2) := by decide +kernel
theorem dX0_apart_19 : decode cX0_apart 19 = .ok (.iconst 3, 1) := by decide +kernel
theorem dX0_apart_20 : decode cX0_apart 20 = .ok (.if_icmp .ge 43, 3) := by decide +kernel
theorem dX0_apart_23 : decode cX0_apart 23 = .ok (.aload_n 0, 1) := by decide +kernel
theorem dX0_apart_24 : decode cX0_apart 24 = .ok (.iload_n 2, 1) := by decide +kernel
theorem dX0_apart_25 : decode cX0_apart 25 = .ok (.iload 6, 2) := by decide +kernel
theorem dX0_apart_27 : decode cX0_apart 27 = .ok (.invokevirtual 62, 3) := by decide +kernel
theorem dX0_apart_30 : decode cX0_apart 30 = .ok (.iload 4, 2) := by decide +kernel
theorem dX0_apart_32 : decode cX0_apart 32 = .ok (.isub, 1) := by decide +kernel
theorem dX0_apart_33 : decode cX0_apart 33 = .ok (.iconst 0, 1) := by decide +kernel
theorem dX0_apart_34 : decode cX0_apart 34 = .ok (.invokestatic 71, 3) := by decide +kernel
theorem dX0_apart_37 : decode cX0_apart 37 = .ok (.istore 7, 2) := by decide +kernel
theorem dX0_apart_39 : decode cX0_apart 39 = .ok (.iload 5, 2) := by decide +kernel
theorem dX0_apart_41 : decode cX0_apart 41 = .ok (.aload_n 0, 1) := by decide +kernel
theorem dX0_apart_42 : decode cX0_apart 42 = .ok (.iload_n 1, 1) := by decide +kernel
theorem dX0_apart_43 : decode cX0_apart 43 = .ok (.iload 6, 2) := by decide +kernel
theorem dX0_apart_45 : decode cX0_apart 45 = .ok (.invokevirtual 62, 3) := by decide +kernel
theorem dX0_apart_48 : decode cX0_apart 48 = .ok (.iload 7, 2) := by decide +kernel
theorem dX0_apart_50 : decode cX0_apart 50 = .ok (.isub, 1) := by decide +kernel
theorem dX0_apart_51 : decode cX0_apart 51 = .ok (.invokestatic 74, 3) := by decide +kernel
theorem dX0_apart_54 : decode cX0_apart 54 = .ok (.iadd, 1) := by decide +kernel
theorem dX0_apart_55 : decode cX0_apart 55 = .ok (.istore 5, 2) := by decide +kernel
theorem dX0_apart_57 : decode cX0_apart 57 = .ok (.iinc 6 1, 3) := by decide +kernel
theorem dX0_apart_60 : decode cX0_apart 60 = .ok (.goto (-43), 3) := by decide +kernel
theorem dX0_apart_63 : decode cX0_apart 63 = .ok (.iload 5, 2) := by decide +kernel
theorem dX0_apart_65 : decode cX0_apart 65 = .ok (.ireturn, 1) := by decide +kernel
set_option maxRecDepth 20000 in
theorem ggX0_doFit_X0_apart : GoodIn wsX0_doFit wsX0_apart := goodIn_r _ [6, 7, 8, 9, 10, 11, 12, 13, 14, 15, 16, 5, 17, 18, 19, 20, 21, 22, 23, 24, 25, 26, 27, 28, 29, 30, 31, 32, 33, 34, 35, 36] (by decide +kernel) (by decide +kernel)
set_option maxRecDepth 20000 in
theorem gX0_doFit_X0_apart : GoodIn wsX0_doFit (wsV RX0 77 RX0 yX0_apart wsX0_apart) := goodIn_app (goodIn_of _ (by decide +kernel)) ggX0_doFit_X0_apart
theorem dX0_doFit_0 : decode cX0_doFit 0 = .ok (.aload_n 0, 1) := by decide +kernel
theorem dX0_doFit_1 : decode cX0_doFit 1 = .ok (.iload_n 1, 1) := by decide +kernel
theorem dX0_doFit_2 : decode cX0_doFit 2 = .ok (.iload_n 2, 1) := by decide +kernel
theorem dX0_doFit_3 : decode cX0_doFit 3 = .ok (.iload_n 3, 1) := by decide +kernel
theorem dX0_doFit_4 : decode cX0_doFit 4 = .ok (.invokevirtual 77, 3) := by decide +kernel
theorem dX0_doFit_7 : decode cX0_doFit 7 = .ok (.aload_n 0, 1) := by decide +kernel
theorem dX0_doFit_8 : decode cX0_doFit 8 = .ok (.getfield 25, 3) := by decide +kernel
theorem dX0_doFit_11 : decode cX0_doFit 11 = .ok (.if_icmp .gt 7, 3) := by decide +kernel
theorem dX0_doFit_14 : decode cX0_doFit 14 = .ok (.iconst 1, 1) := by decide +kernel
theorem dX0_doFit_15 : decode cX0_doFit 15 = .ok (.goto 4, 3) := by decide +kernel
theorem dX0_doFit_18 : decode cX0_doFit 18 = .ok (.iconst 0, 1) := by decide +kernel
theorem dX0_doFit_19 : decode cX0_doFit 19 = .ok (.ireturn, 1) := by decide +kernel
set_option maxRecDepth 20000 in
theorem ggX0_fitting_X0_apart : GoodIn wsX0_fitting wsX0_apart := goodIn_r _ [7, 8, 9, 10, 11, 12, 13, 14, 15, 16, 17, 6, 18, 19, 20, 21, 22, 23, 1, 24, 25, 26, 27, 28, 29, 30, 31, 35, 36, 37, 38, 39] (by decide +kernel) (by decide +kernel)
set_option maxRecDepth 20000 in
theorem gX0_fitting_X0_apart : GoodIn wsX0_fitting (wsV RX0 77 RX0 yX0_apart wsX0_apart) := goodIn_app (goodIn_of _ (by decide +kernel)) ggX0_fitting_X0_apart
set_option maxRecDepth 20000 in
theorem ggX0_fitting_X4_bitIf : GoodIn wsX0_fitting wsX4_bitIf := goodIn_r _ [34] (by decide +kernel) (by decide +kernel)
set_option maxRecDepth 20000 in
theorem gX0_fitting_X4_bitIf_n81 : GoodIn wsX0_fitting (wsX4_bitIf) := ggX0_fitting_X4_bitIf
theorem dX0_fitting_0 : decode cX0_fitting 0 = .ok (.iconst 0, 1) := by decide +kernel
theorem dX0_fitting_1 : decode cX0_fitting 1 = .ok (.istore_n 3, 1) := by decide +kernel
theorem dX0_fitting_2 : decode cX0_fitting 2 = .ok (.iconst 0, 1) := by decide +kernel
theorem dX0_fitting_3 : decode cX0_fitting 3 = .ok (.istore 4, 2) := by decide +kernel
theorem dX0_fitting_5 : decode cX0_fitting 5 = .ok (.iload 4, 2) := by decide +kernel
theorem dX0_fitting_7 : decode cX0_fitting 7 = .ok (.aload_n 0, 1) := by decide +kernel
theorem dX0_fitting_8 : decode cX0_fitting 8 = .ok (.getfield 21, 3) := by decide +kernel
theorem dX0_fitting_11 : decode cX0_fitting 11 = .ok (.if_icmp .ge 37, 3) := by decide +kernel
theorem dX0_fitting_14 : decode cX0_fitting 14 = .ok (.iload_n 3, 1) := by decide +kernel
theorem dX0_fitting_15 : decode cX0_fitting 15 = .ok (.aload_n 0, 1) := by decide +kernel
theorem dX0_fitting_16 : decode cX0_fitting 16 = .ok (.iload 4, 2) := by decide +kernel
theorem dX0_fitting_18 : decode cX0_fitting 18 = .ok (.iload_n 1, 1) := by decide +kernel
theorem dX0_fitting_19 : decode cX0_fitting 19 = .ok (.iload_n 2, 1) := by decide +kernel
theorem dX0_fitting_20 : decode cX0_fitting 20 = .ok (.invokevirtual 77, 3) := by decide +kernel
theorem dX0_fitting_23 : decode cX0_fitting 23 = .ok (.aload_n 0, 1) := by decide +kernel
theorem dX0_fitting_24 : decode cX0_fitting 24 = .ok (.getfield 25, 3) := by decide +kernel
theorem dX0_fitting_27 : decode cX0_fitting 27 = .ok (.if_icmp .gt 7, 3) := by decide +kernel
theorem dX0_fitting_30 : decode cX0_fitting 30 = .ok (.iconst 1, 1) := by decide +kernel
theorem dX0_fitting_31 : decode cX0_fitting 31 = .ok (.goto 4, 3) := by decide +kernel
theorem dX0_fitting_34 : decode cX0_fitting 34 = .ok (.iconst 0, 1) := by decide +kernel
theorem dX0_fitting_35 : decode cX0_fitting 35 = .ok (.iload 4, 2) := by decide +kernel
theorem dX0_fitting_37 : decode cX0_fitting 37 = .ok (.invokestatic 81, 3) := by decide +kernel
theorem dX0_fitting_40 : decode cX0_fitting 40 = .ok (.ior, 1) := by decide +kernel
theorem dX0_fitting_41 : decode cX0_fitting 41 = .ok (.istore_n 3, 1) := by decide +kernel
theorem dX0_fitting_42 : decode cX0_fitting 42 = .ok (.iinc 4 1, 3) := by decide +kernel
theorem dX0_fitting_45 : decode cX0_fitting 45 = .ok (.goto (-40), 3) := by decide +kernel
theorem dX0_fitting_48 : decode cX0_fitting 48 = .ok (.iload_n 3, 1) := by decide +kernel
theorem dX0_fitting_49 : decode cX0_fitting 49 = .ok (.ireturn, 1) := by decide +kernel
set_option maxRecDepth 20000 in
theorem ggX0_closestFitting_X0_apart : GoodIn wsX0_closestFitting wsX0_apart := goodIn_r _ [7, 8, 9, 10, 11, 12, 13, 14, 15, 16, 17, 6, 18, 19, 20, 21, 22, 23, 2, 24, 25, 26, 27, 28, 29, 30, 31, 32, 33, 34, 35, 36] (by decide +kernel) (by decide +kernel)
set_option maxRecDepth 20000 in
theorem gX0_closestFitting_X0_apart : GoodIn wsX0_closestFitting (wsV RX0 77 RX0 yX0_apart wsX0_apart) := goodIn_app (goodIn_of _ (by decide +kernel)) ggX0_closestFitting_X0_apart
theorem dX0_closestFitting_0 : decode cX0_closestFitting 0 = .ok (.bipush (-9), 2) := by decide +kernel
theorem dX0_closestFitting_2 : decode cX0_closestFitting 2 = .ok (.istore_n 3, 1) := by decide +kernel
theorem dX0_closestFitting_3 : decode cX0_closestFitting 3 = .ok (.aload_n 0, 1) := by decide +kernel
theorem dX0_closestFitting_4 : decode cX0_closestFitting 4 = .ok (.getfield 25, 3) := by decide +kernel
theorem dX0_closestFitting_7 : decode cX0_closestFitting 7 = .ok (.iconst 1, 1) := by decide +kernel
theorem dX0_closestFitting_8 : decode cX0_closestFitting 8 = .ok (.iadd, 1) := by decide +kernel
theorem dX0_closestFitting_9 : decode cX0_closestFitting 9 = .ok (.istore 4, 2) := by decide +kernel
theorem dX0_closestFitting_11 : decode cX0_closestFitting 11 = .ok (.iconst 0, 1) := by decide +kernel
theorem dX0_closestFitting_12 : decode cX0_closestFitting 12 = .ok (.istore 5, 2) := by decide +kernel
theorem dX0_closestFitting_14 : decode cX0_closestFitting 14 = .ok (.iload 5, 2) := by decide +kernel
theorem dX0_closestFitting_16 : decode cX0_closestFitting 16 = .ok (.aload_n 0, 1) := by decide +kernel
theorem dX0_closestFitting_17 : decode cX0_closestFitting 17 = .ok (.getfield 21, 3) := by decide +kernel
theorem dX0_closestFitting_20 : decode cX0_closestFitting 20 = .ok (.if_icmp .ge 33, 3) := by decide +kernel
theorem dX0_closestFitting_23 : decode cX0_closestFitting 23 = .ok (.aload_n 0, 1) := by decide +kernel
theorem dX0_closestFitting_24 : decode cX0_closestFitting 24 = .ok (.iload 5, 2) := by decide +kernel
theorem dX0_closestFitting_26 : decode cX0_closestFitting 26 = .ok (.iload_n 1, 1) := by decide +kernel
theorem dX0_closestFitting_27 : decode cX0_closestFitting 27 = .ok (.iload_n 2, 1) := by decide +kernel
theorem dX0_closestFitting_28 : decode cX0_closestFitting 28 = .ok (.invokevirtual 77, 3) := by decide +kernel
theorem dX0_closestFitting_31 : decode cX0_closestFitting 31 = .ok (.istore 6, 2) := by decide +kernel
theorem dX0_closestFitting_33 : decode cX0_closestFitting 33 = .ok (.iload 6, 2) := by decide +kernel
theorem dX0_closestFitting_35 : decode cX0_closestFitting 35 = .ok (.iload 4, 2) := by decide +kernel
theorem dX0_closestFitting_37 : decode cX0_closestFitting 37 = .ok (.if_icmp .ge 10, 3) := by decide +kernel
theorem dX0_closestFitting_40 : decode cX0_closestFitting 40 = .ok (.iload 5, 2) := by decide +kernel
theorem dX0_closestFitting_42 : decode cX0_closestFitting 42 = .ok (.istore_n 3, 1) := by decide +kernel
theorem dX0_closestFitting_43 : decode cX0_closestFitting 43 = .ok (.iload 6, 2) := by decide +kernel
theorem dX0_closestFitting_45 : decode cX0_closestFitting 45 = .ok (.istore 4, 2) := by decide +kernel
theorem dX0_closestFitting_47 : decode cX0_closestFitting 47 = .ok (.iinc 5 1, 3) := by decide +kernel
theorem dX0_closestFitting_50 : decode cX0_closestFitting 50 = .ok (.goto (-36), 3) := by decide +kernel
theorem dX0_closestFitting_53 : decode cX0_closestFitting 53 = .ok (.iload_n 3, 1) := by decide +kernel
theorem dX0_closestFitting_54 : decode cX0_closestFitting 54 = .ok (.ireturn, 1) := by decide +kernel
set_option maxRecDepth 20000 in
theorem ggX0_lastGood_X0_doFit : GoodIn wsX0_lastGood wsX0_doFit := goodIn_r _ [5, 6, 7, 8, 9, 4, 10, 11, 12, 13, 14, 15, 16, 17, 18, 19, 20, 21, 22, 23, 24, 25, 26, 27, 28, 29, 30, 31, 32, 33, 34, 35, 36, 37, 38, 39, 40] (by decide +kernel) (by decide +kernel)
set_option maxRecDepth 20000 in
theorem gX0_lastGood_X0_doFit : GoodIn wsX0_lastGood (wsV RX0 85 RX0 yX0_doFit wsX0_doFit) := goodIn_app (goodIn_of _ (by decide +kernel)) ggX0_lastGood_X0_doFit
theorem dX0_lastGood_0 : decode cX0_lastGood 0 = .ok (.bipush 9, 2) := by decide +kernel
theorem dX0_lastGood_2 : decode cX0_lastGood 2 = .ok (.istore_n 2, 1) := by decide +kernel
theorem dX0_lastGood_3 : decode cX0_lastGood 3 = .ok (.iload_n 2, 1) := by decide +kernel
theorem dX0_lastGood_4 : decode cX0_lastGood 4 = .ok (.ifCond .lt 21, 3) := by decide +kernel
theorem dX0_lastGood_7 : decode cX0_lastGood 7 = .ok (.aload_n 0, 1) := by decide +kernel
theorem dX0_lastGood_8 : decode cX0_lastGood 8 = .ok (.iload_n 1, 1) := by decide +kernel
theorem dX0_lastGood_9 : decode cX0_lastGood 9 = .ok (.iload_n 1, 1) := by decide +kernel
theorem dX0_lastGood_10 : decode cX0_lastGood 10 = .ok (.iload_n 2, 1) := by decide +kernel
theorem dX0_lastGood_11 : decode cX0_lastGood 11 = .ok (.invokevirtual 85, 3) := by decide +kernel
theorem dX0_lastGood_14 : decode cX0_lastGood 14 = .ok (.ifCond .eq 5, 3) := by decide +kernel
theorem dX0_lastGood_17 : decode cX0_lastGood 17 = .ok (.iload_n 2, 1) := by decide +kernel
theorem dX0_lastGood_18 : decode cX0_lastGood 18 = .ok (.ireturn, 1) := by decide +kernel
theorem dX0_lastGood_19 : decode cX0_lastGood 19 = .ok (.iinc 2 (-1), 3) := by decide +kernel
theorem dX0_lastGood_22 : decode cX0_lastGood 22 = .ok (.goto (-19), 3) := by decide +kernel
theorem dX0_lastGood_25 : decode cX0_lastGood 25 = .ok (.bipush (-9), 2) := by decide +kernel
theorem dX0_lastGood_27 : decode cX0_lastGood 27 = .ok (.ireturn, 1) := by decide +kernel
set_option maxRecDepth 20000 in
theorem ggX0_areAlike_X0_heightOf : GoodIn wsX0_areAlike wsX0_heightOf := goodIn_r _ [10, 11, 12, 13, 14, 9, 15, 16, 17, 18, 19, 20, 21] (by decide +kernel) (by decide +kernel)
set_option maxRecDepth 20000 in
theorem gX0_areAlike_X0_heightOf : GoodIn wsX0_areAlike (wsV RX0 62 RX0 yX0_heightOf wsX0_heightOf) := goodIn_app (goodIn_of _ (by decide +kernel)) ggX0_areAlike_X0_heightOf
theorem dX0_areAlike_0 : decode cX0_areAlike 0 = .ok (.iconst 0, 1) := by decide +kernel
theorem dX0_areAlike_1 : decode cX0_areAlike 1 = .ok (.istore_n 3, 1) := by decide +kernel
theorem dX0_areAlike_2 : decode cX0_areAlike 2 = .ok (.iconst 0, 1) := by decide +kernel
theorem dX0_areAlike_3 : decode cX0_areAlike 3 = .ok (.istore 4, 2) := by decide +kernel
theorem dX0_areAlike_5 : decode cX0_areAlike 5 = .ok (.iload 4, 2) := by decide +kernel
theorem dX0_areAlike_7 : decode cX0_areAlike 7 = .ok (.iconst 3, 1) := by decide +kernel
theorem dX0_areAlike_8 : decode cX0_areAlike 8 = .ok (.if_icmp .ge 30, 3) := by decide +kernel
theorem dX0_areAlike_11 : decode cX0_areAlike 11 = .ok (.iload_n 3, 1) := by decide +kernel
theorem dX0_areAlike_12 : decode cX0_areAlike 12 = .ok (.aload_n 0, 1) := by decide +kernel
theorem dX0_areAlike_13 : decode cX0_areAlike 13 = .ok (.iload_n 1, 1) := by decide +kernel
theorem dX0_areAlike_14 : decode cX0_areAlike 14 = .ok (.iload 4, 2) := by decide +kernel
theorem dX0_areAlike_16 : decode cX0_areAlike 16 = .ok (.invokevirtual 62, 3) := by decide +kernel
theorem dX0_areAlike_19 : decode cX0_areAlike 19 = .ok (.aload_n 0, 1) := by decide +kernel
theorem dX0_areAlike_20 : decode cX0_areAlike 20 = .ok (.iload_n 2, 1) := by decide +kernel
theorem dX0_areAlike_21 : decode cX0_areAlike 21 = .ok (.iload 4, 2) := by decide +kernel
theorem dX0_areAlike_23 : decode cX0_areAlike 23 = .ok (.invokevirtual 62, 3) := by decide +kernel
theorem dX0_areAlike_26 : decode cX0_areAlike 26 = .ok (.isub, 1) := by decide +kernel
theorem dX0_areAlike_27 : decode cX0_areAlike 27 = .ok (.invokestatic 74, 3) := by decide +kernel
theorem dX0_areAlike_30 : decode cX0_areAlike 30 = .ok (.iadd, 1) := by decide +kernel
theorem dX0_areAlike_31 : decode cX0_areAlike 31 = .ok (.istore_n 3, 1) := by decide +kernel
theorem dX0_areAlike_32 : decode cX0_areAlike 32 = .ok (.iinc 4 1, 3) := by decide +kernel
theorem dX0_areAlike_35 : decode cX0_areAlike 35 = .ok (.goto (-30), 3) := by decide +kernel
theorem dX0_areAlike_38 : decode cX0_areAlike 38 = .ok (.iload_n 3, 1) := by decide +kernel
theorem dX0_areAlike_39 : decode cX0_areAlike 39 = .ok (.aload_n 0, 1) := by decide +kernel
theorem dX0_areAlike_40 : decode cX0_areAlike 40 = .ok (.getfield 25, 3) := by decide +kernel
theorem dX0_areAlike_43 : decode cX0_areAlike 43 = .ok (.if_icmp .gt 7, 3) := by decide +kernel
theorem dX0_areAlike_46 : decode cX0_areAlike 46 = .ok (.iconst 1, 1) := by decide +kernel
theorem dX0_areAlike_47 : decode cX0_areAlike 47 = .ok (.goto 4, 3) := by decide +kernel
theorem dX0_areAlike_50 : decode cX0_areAlike 50 = .ok (.iconst 0, 1) := by decide +kernel
theorem dX0_areAlike_51 : decode cX0_areAlike 51 = .ok (.ireturn, 1) := by decide +kernel
set_option maxRecDepth 20000 in
theorem ggX0_likeness_X0_areAlike : GoodIn wsX0_likeness wsX0_areAlike := goodIn_r _ [6, 7, 8, 9, 10, 11, 12, 13, 14, 5, 15, 16, 17, 18, 19, 20, 1, 24, 25, 26, 27, 28] (by decide +kernel) (by decide +kernel)
set_option maxRecDepth 20000 in
theorem gX0_likeness_X0_areAlike : GoodIn wsX0_likeness (wsV RX0 89 RX0 yX0_areAlike wsX0_areAlike) := goodIn_app (goodIn_of _ (by decide +kernel)) ggX0_likeness_X0_areAlike
set_option maxRecDepth 20000 in
theorem ggX0_likeness_X4_bitIf : GoodIn wsX0_likeness wsX4_bitIf := goodIn_r _ [23] (by decide +kernel) (by decide +kernel)
set_option maxRecDepth 20000 in
theorem gX0_likeness_X4_bitIf_n81 : GoodIn wsX0_likeness (wsX4_bitIf) := ggX0_likeness_X4_bitIf
theorem dX0_likeness_0 : decode cX0_likeness 0 = .ok (.iconst 0, 1) := by decide +kernel
theorem dX0_likeness_1 : decode cX0_likeness 1 = .ok (.istore_n 2, 1) := by decide +kernel
theorem dX0_likeness_2 : decode cX0_likeness 2 = .ok (.iconst 0, 1) := by decide +kernel
theorem dX0_likeness_3 : decode cX0_likeness 3 = .ok (.istore_n 3, 1) := by decide +kernel
theorem dX0_likeness_4 : decode cX0_likeness 4 = .ok (.iload_n 3, 1) := by decide +kernel
theorem dX0_likeness_5 : decode cX0_likeness 5 = .ok (.aload_n 0, 1) := by decide +kernel
theorem dX0_likeness_6 : decode cX0_likeness 6 = .ok (.getfield 21, 3) := by decide +kernel
theorem dX0_likeness_9 : decode cX0_likeness 9 = .ok (.if_icmp .ge 35, 3) := by decide +kernel
theorem dX0_likeness_12 : decode cX0_likeness 12 = .ok (.iload_n 2, 1) := by decide +kernel
theorem dX0_likeness_13 : decode cX0_likeness 13 = .ok (.iload_n 3, 1) := by decide +kernel
theorem dX0_likeness_14 : decode cX0_likeness 14 = .ok (.iload_n 1, 1) := by decide +kernel
theorem dX0_likeness_15 : decode cX0_likeness 15 = .ok (.if_icmp .eq 16, 3) := by decide +kernel
theorem dX0_likeness_18 : decode cX0_likeness 18 = .ok (.aload_n 0, 1) := by decide +kernel
theorem dX0_likeness_19 : decode cX0_likeness 19 = .ok (.iload_n 1, 1) := by decide +kernel
theorem dX0_likeness_20 : decode cX0_likeness 20 = .ok (.iload_n 3, 1) := by decide +kernel
theorem dX0_likeness_21 : decode cX0_likeness 21 = .ok (.invokevirtual 89, 3) := by decide +kernel
theorem dX0_likeness_24 : decode cX0_likeness 24 = .ok (.ifCond .eq 7, 3) := by decide +kernel
theorem dX0_likeness_27 : decode cX0_likeness 27 = .ok (.iconst 1, 1) := by decide +kernel
theorem dX0_likeness_28 : decode cX0_likeness 28 = .ok (.goto 4, 3) := by decide +kernel
theorem dX0_likeness_31 : decode cX0_likeness 31 = .ok (.iconst 0, 1) := by decide +kernel
theorem dX0_likeness_32 : decode cX0_likeness 32 = .ok (.iload_n 3, 1) := by decide +kernel
theorem dX0_likeness_33 : decode cX0_likeness 33 = .ok (.invokestatic 81, 3) := by decide +kernel
theorem dX0_likeness_36 : decode cX0_likeness 36 = .ok (.ior, 1) := by decide +kernel
theorem dX0_likeness_37 : decode cX0_likeness 37 = .ok (.istore_n 2, 1) := by decide +kernel
theorem dX0_likeness_38 : decode cX0_likeness 38 = .ok (.iinc 3 1, 3) := by decide +kernel
theorem dX0_likeness_41 : decode cX0_likeness 41 = .ok (.goto (-37), 3) := by decide +kernel
theorem dX0_likeness_44 : decode cX0_likeness 44 = .ok (.iload_n 2, 1) := by decide +kernel
theorem dX0_likeness_45 : decode cX0_likeness 45 = .ok (.ireturn, 1) := by decide +kernel
set_option maxRecDepth 20000 in
theorem ggX0_mostUnlike_X0_likeness : GoodIn wsX0_mostUnlike wsX0_likeness := goodIn_r _ [7, 1, 8, 9, 10, 6, 11, 12, 13, 14, 15, 16, 17, 18, 19, 20, 21, 22, 23, 24, 25, 26, 27, 28, 44, 45, 46, 47, 48] (by decide +kernel) (by decide +kernel)
set_option maxRecDepth 20000 in
theorem gX0_mostUnlike_X0_likeness : GoodIn wsX0_mostUnlike (wsV RX0 92 RX0 yX0_likeness wsX0_likeness) := goodIn_app (goodIn_of _ (by decide +kernel)) ggX0_mostUnlike_X0_likeness
set_option maxRecDepth 20000 in
theorem ggX0_mostUnlike_X0_allPasses : GoodIn wsX0_mostUnlike wsX0_allPasses := goodIn_r _ [32, 1, 44, 45, 46, 47, 48] (by decide +kernel) (by decide +kernel)
set_option maxRecDepth 20000 in
theorem gX0_mostUnlike_X0_allPasses : GoodIn wsX0_mostUnlike (wsV RX0 55 RX0 yX0_allPasses wsX0_allPasses) := goodIn_app (goodIn_of _ (by decide +kernel)) ggX0_mostUnlike_X0_allPasses
set_option maxRecDepth 20000 in
theorem ggX0_mostUnlike_J6_bitCount_0f7a4 : GoodIn wsX0_mostUnlike wsJ6_bitCount_0f7a4 := goodIn_r _ [36, 37, 38, 39] (by decide +kernel) (by decide +kernel)
set_option maxRecDepth 20000 in
theorem gX0_mostUnlike_J6_bitCount_0f7a4 : GoodIn wsX0_mostUnlike (va_wsS RX0 95 yJ6_bitCount_0f7a4 wsJ6_bitCount_0f7a4) := goodIn_app (goodIn_of _ (by decide +kernel)) ggX0_mostUnlike_J6_bitCount_0f7a4
set_option maxRecDepth 20000 in
theorem ggX0_mostUnlike_X0_noneLinkedWithin : GoodIn wsX0_mostUnlike wsX0_noneLinkedWithin := goodIn_r _ [43, 1, 2, 44, 45, 46, 47, 48] (by decide +kernel) (by decide +kernel)
set_option maxRecDepth 20000 in
theorem gX0_mostUnlike_X0_noneLinkedWithin : GoodIn wsX0_mostUnlike (wsV RX0 100 RX0 yX0_noneLinkedWithin wsX0_noneLinkedWithin) := goodIn_app (goodIn_of _ (by decide +kernel)) ggX0_mostUnlike_X0_noneLinkedWithin
theorem dX0_mostUnlike_0 : decode cX0_mostUnlike 0 = .ok (.iconst 0, 1) := by decide +kernel
theorem dX0_mostUnlike_1 : decode cX0_mostUnlike 1 = .ok (.istore_n 1, 1) := by decide +kernel
theorem dX0_mostUnlike_2 : decode cX0_mostUnlike 2 = .ok (.iload_n 1, 1) := by decide +kernel
theorem dX0_mostUnlike_3 : decode cX0_mostUnlike 3 = .ok (.aload_n 0, 1) := by decide +kernel
theorem dX0_mostUnlike_4 : decode cX0_mostUnlike 4 = .ok (.getfield 21, 3) := by decide +kernel
theorem dX0_mostUnlike_7 : decode cX0_mostUnlike 7 = .ok (.if_icmp .ge 20, 3) := by decide +kernel
theorem dX0_mostUnlike_10 : decode cX0_mostUnlike 10 = .ok (.aload_n 0, 1) := by decide +kernel
theorem dX0_mostUnlike_11 : decode cX0_mostUnlike 11 = .ok (.getfield 18, 3) := by decide +kernel
theorem dX0_mostUnlike_14 : decode cX0_mostUnlike 14 = .ok (.iload_n 1, 1) := by decide +kernel
theorem dX0_mostUnlike_15 : decode cX0_mostUnlike 15 = .ok (.aload_n 0, 1) := by decide +kernel
theorem dX0_mostUnlike_16 : decode cX0_mostUnlike 16 = .ok (.iload_n 1, 1) := by decide +kernel
theorem dX0_mostUnlike_17 : decode cX0_mostUnlike 17 = .ok (.invokevirtual 92, 3) := by decide +kernel
theorem dX0_mostUnlike_20 : decode cX0_mostUnlike 20 = .ok (.iastore, 1) := by decide +kernel
theorem dX0_mostUnlike_21 : decode cX0_mostUnlike 21 = .ok (.iinc 1 1, 3) := by decide +kernel
theorem dX0_mostUnlike_24 : decode cX0_mostUnlike 24 = .ok (.goto (-22), 3) := by decide +kernel
theorem dX0_mostUnlike_27 : decode cX0_mostUnlike 27 = .ok (.iconst 0, 1) := by decide +kernel
theorem dX0_mostUnlike_28 : decode cX0_mostUnlike 28 = .ok (.istore_n 1, 1) := by decide +kernel
theorem dX0_mostUnlike_29 : decode cX0_mostUnlike 29 = .ok (.iconst 0, 1) := by decide +kernel
theorem dX0_mostUnlike_30 : decode cX0_mostUnlike 30 = .ok (.istore_n 2, 1) := by decide +kernel
theorem dX0_mostUnlike_31 : decode cX0_mostUnlike 31 = .ok (.iload_n 2, 1) := by decide +kernel
theorem dX0_mostUnlike_32 : decode cX0_mostUnlike 32 = .ok (.aload_n 0, 1) := by decide +kernel
theorem dX0_mostUnlike_33 : decode cX0_mostUnlike 33 = .ok (.invokevirtual 55, 3) := by decide +kernel
theorem dX0_mostUnlike_36 : decode cX0_mostUnlike 36 = .ok (.if_icmp .gt 30, 3) := by decide +kernel
theorem dX0_mostUnlike_39 : decode cX0_mostUnlike 39 = .ok (.iload_n 2, 1) := by decide +kernel
theorem dX0_mostUnlike_40 : decode cX0_mostUnlike 40 = .ok (.invokestatic 95, 3) := by decide +kernel
theorem dX0_mostUnlike_43 : decode cX0_mostUnlike 43 = .ok (.iload_n 1, 1) := by decide +kernel
theorem dX0_mostUnlike_44 : decode cX0_mostUnlike 44 = .ok (.invokestatic 95, 3) := by decide +kernel
theorem dX0_mostUnlike_47 : decode cX0_mostUnlike 47 = .ok (.if_icmp .le 13, 3) := by decide +kernel
theorem dX0_mostUnlike_50 : decode cX0_mostUnlike 50 = .ok (.aload_n 0, 1) := by decide +kernel
theorem dX0_mostUnlike_51 : decode cX0_mostUnlike 51 = .ok (.iload_n 2, 1) := by decide +kernel
theorem dX0_mostUnlike_52 : decode cX0_mostUnlike 52 = .ok (.invokevirtual 100, 3) := by decide +kernel
theorem dX0_mostUnlike_55 : decode cX0_mostUnlike 55 = .ok (.ifCond .eq 5, 3) := by decide +kernel
theorem dX0_mostUnlike_58 : decode cX0_mostUnlike 58 = .ok (.iload_n 2, 1) := by decide +kernel
theorem dX0_mostUnlike_59 : decode cX0_mostUnlike 59 = .ok (.istore_n 1, 1) := by decide +kernel
theorem dX0_mostUnlike_60 : decode cX0_mostUnlike 60 = .ok (.iinc 2 1, 3) := by decide +kernel
theorem dX0_mostUnlike_63 : decode cX0_mostUnlike 63 = .ok (.goto (-32), 3) := by decide +kernel
theorem dX0_mostUnlike_66 : decode cX0_mostUnlike 66 = .ok (.iload_n 1, 1) := by decide +kernel
theorem dX0_mostUnlike_67 : decode cX0_mostUnlike 67 = .ok (.ireturn, 1) := by decide +kernel
theorem dX0_noneLinkedWithin_0 : decode cX0_noneLinkedWithin 0 = .ok (.iconst 0, 1) := by decide +kernel
theorem dX0_noneLinkedWithin_1 : decode cX0_noneLinkedWithin 1 = .ok (.istore_n 2, 1) := by decide +kernel
theorem dX0_noneLinkedWithin_2 : decode cX0_noneLinkedWithin 2 = .ok (.iload_n 2, 1) := by decide +kernel
theorem dX0_noneLinkedWithin_3 : decode cX0_noneLinkedWithin 3 = .ok (.aload_n 0, 1) := by decide +kernel
theorem dX0_noneLinkedWithin_4 : decode cX0_noneLinkedWithin 4 = .ok (.getfield 21, 3) := by decide +kernel
theorem dX0_noneLinkedWithin_7 : decode cX0_noneLinkedWithin 7 = .ok (.if_icmp .ge 30, 3) := by decide +kernel
theorem dX0_noneLinkedWithin_10 : decode cX0_noneLinkedWithin 10 = .ok (.iload_n 1, 1) := by decide +kernel
theorem dX0_noneLinkedWithin_11 : decode cX0_noneLinkedWithin 11 = .ok (.iconst 1, 1) := by decide +kernel
theorem dX0_noneLinkedWithin_12 : decode cX0_noneLinkedWithin 12 = .ok (.iload_n 2, 1) := by decide +kernel
theorem dX0_noneLinkedWithin_13 : decode cX0_noneLinkedWithin 13 = .ok (.ishl, 1) := by decide +kernel
theorem dX0_noneLinkedWithin_14 : decode cX0_noneLinkedWithin 14 = .ok (.iand, 1) := by decide +kernel
theorem dX0_noneLinkedWithin_15 : decode cX0_noneLinkedWithin 15 = .ok (.ifCond .eq 16, 3) := by decide +kernel
theorem dX0_noneLinkedWithin_18 : decode cX0_noneLinkedWithin 18 = .ok (.aload_n 0, 1) := by decide +kernel
theorem dX0_noneLinkedWithin_19 : decode cX0_noneLinkedWithin 19 = .ok (.getfield 18, 3) := by decide +kernel
theorem dX0_noneLinkedWithin_22 : decode cX0_noneLinkedWithin 22 = .ok (.iload_n 2, 1) := by decide +kernel
theorem dX0_noneLinkedWithin_23 : decode cX0_noneLinkedWithin 23 = .ok (.iaload, 1) := by decide +kernel
theorem dX0_noneLinkedWithin_24 : decode cX0_noneLinkedWithin 24 = .ok (.iload_n 1, 1) := by decide +kernel
theorem dX0_noneLinkedWithin_25 : decode cX0_noneLinkedWithin 25 = .ok (.iand, 1) := by decide +kernel
theorem dX0_noneLinkedWithin_26 : decode cX0_noneLinkedWithin 26 = .ok (.ifCond .eq 5, 3) := by decide +kernel
theorem dX0_noneLinkedWithin_29 : decode cX0_noneLinkedWithin 29 = .ok (.iconst 0, 1) := by decide +kernel
theorem dX0_noneLinkedWithin_30 : decode cX0_noneLinkedWithin 30 = .ok (.ireturn, 1) := by decide +kernel
theorem dX0_noneLinkedWithin_31 : decode cX0_noneLinkedWithin 31 = .ok (.iinc 2 1, 3) := by decide +kernel
theorem dX0_noneLinkedWithin_34 : decode cX0_noneLinkedWithin 34 = .ok (.goto (-32), 3) := by decide +kernel
theorem dX0_noneLinkedWithin_37 : decode cX0_noneLinkedWithin 37 = .ok (.iconst 1, 1) := by decide +kernel
theorem dX0_noneLinkedWithin_38 : decode cX0_noneLinkedWithin 38 = .ok (.ireturn, 1) := by decide +kernel
set_option maxRecDepth 20000 in
theorem ggX0_layAll_X0_fitting : GoodIn wsX0_layAll wsX0_fitting := goodIn_r _ [7, 1, 8, 9, 10, 11, 6, 12, 13, 14, 15, 16, 17, 18, 19, 20, 21, 22, 23, 24, 25, 26, 27, 28, 29, 30, 31, 32, 33, 34, 35, 36, 37, 38, 39, 40, 41, 42, 43, 44] (by decide +kernel) (by decide +kernel)
set_option maxRecDepth 20000 in
theorem gX0_layAll_X0_fitting : GoodIn wsX0_layAll (wsV RX0 103 RX0 yX0_fitting wsX0_fitting) := goodIn_app (goodIn_of _ (by decide +kernel)) ggX0_layAll_X0_fitting
theorem dX0_layAll_0 : decode cX0_layAll 0 = .ok (.iconst 0, 1) := by decide +kernel
theorem dX0_layAll_1 : decode cX0_layAll 1 = .ok (.istore_n 2, 1) := by decide +kernel
theorem dX0_layAll_2 : decode cX0_layAll 2 = .ok (.iload_n 2, 1) := by decide +kernel
theorem dX0_layAll_3 : decode cX0_layAll 3 = .ok (.aload_n 0, 1) := by decide +kernel
theorem dX0_layAll_4 : decode cX0_layAll 4 = .ok (.getfield 21, 3) := by decide +kernel
theorem dX0_layAll_7 : decode cX0_layAll 7 = .ok (.if_icmp .ge 21, 3) := by decide +kernel
theorem dX0_layAll_10 : decode cX0_layAll 10 = .ok (.aload_n 0, 1) := by decide +kernel
theorem dX0_layAll_11 : decode cX0_layAll 11 = .ok (.getfield 18, 3) := by decide +kernel
theorem dX0_layAll_14 : decode cX0_layAll 14 = .ok (.iload_n 2, 1) := by decide +kernel
theorem dX0_layAll_15 : decode cX0_layAll 15 = .ok (.aload_n 0, 1) := by decide +kernel
theorem dX0_layAll_16 : decode cX0_layAll 16 = .ok (.iload_n 2, 1) := by decide +kernel
theorem dX0_layAll_17 : decode cX0_layAll 17 = .ok (.iload_n 1, 1) := by decide +kernel
theorem dX0_layAll_18 : decode cX0_layAll 18 = .ok (.invokevirtual 103, 3) := by decide +kernel
theorem dX0_layAll_21 : decode cX0_layAll 21 = .ok (.iastore, 1) := by decide +kernel
theorem dX0_layAll_22 : decode cX0_layAll 22 = .ok (.iinc 2 1, 3) := by decide +kernel
theorem dX0_layAll_25 : decode cX0_layAll 25 = .ok (.goto (-23), 3) := by decide +kernel
theorem dX0_layAll_28 : decode cX0_layAll 28 = .ok (.return_, 1) := by decide +kernel
set_option maxRecDepth 20000 in
theorem ggX0_freedBy_X4_bitIf : GoodIn wsX0_freedBy wsX4_bitIf := goodIn_r _ [5] (by decide +kernel) (by decide +kernel)
set_option maxRecDepth 20000 in
theorem gX0_freedBy_X4_bitIf_n81 : GoodIn wsX0_freedBy (wsX4_bitIf) := ggX0_freedBy_X4_bitIf
theorem dX0_freedBy_0 : decode cX0_freedBy 0 = .ok (.iconst 0, 1) := by decide +kernel
theorem dX0_freedBy_1 : decode cX0_freedBy 1 = .ok (.istore_n 2, 1) := by decide +kernel
theorem dX0_freedBy_2 : decode cX0_freedBy 2 = .ok (.iconst 0, 1) := by decide +kernel
theorem dX0_freedBy_3 : decode cX0_freedBy 3 = .ok (.istore_n 3, 1) := by decide +kernel
theorem dX0_freedBy_4 : decode cX0_freedBy 4 = .ok (.iload_n 3, 1) := by decide +kernel
theorem dX0_freedBy_5 : decode cX0_freedBy 5 = .ok (.aload_n 0, 1) := by decide +kernel
theorem dX0_freedBy_6 : decode cX0_freedBy 6 = .ok (.getfield 21, 3) := by decide +kernel
theorem dX0_freedBy_9 : decode cX0_freedBy 9 = .ok (.if_icmp .ge 32, 3) := by decide +kernel
theorem dX0_freedBy_12 : decode cX0_freedBy 12 = .ok (.iload_n 2, 1) := by decide +kernel
theorem dX0_freedBy_13 : decode cX0_freedBy 13 = .ok (.aload_n 0, 1) := by decide +kernel
theorem dX0_freedBy_14 : decode cX0_freedBy 14 = .ok (.getfield 18, 3) := by decide +kernel
theorem dX0_freedBy_17 : decode cX0_freedBy 17 = .ok (.iload_n 3, 1) := by decide +kernel
theorem dX0_freedBy_18 : decode cX0_freedBy 18 = .ok (.iaload, 1) := by decide +kernel
theorem dX0_freedBy_19 : decode cX0_freedBy 19 = .ok (.iload_n 1, 1) := by decide +kernel
theorem dX0_freedBy_20 : decode cX0_freedBy 20 = .ok (.iand, 1) := by decide +kernel
theorem dX0_freedBy_21 : decode cX0_freedBy 21 = .ok (.ifCond .eq 7, 3) := by decide +kernel
theorem dX0_freedBy_24 : decode cX0_freedBy 24 = .ok (.iconst 1, 1) := by decide +kernel
theorem dX0_freedBy_25 : decode cX0_freedBy 25 = .ok (.goto 4, 3) := by decide +kernel
theorem dX0_freedBy_28 : decode cX0_freedBy 28 = .ok (.iconst 0, 1) := by decide +kernel
theorem dX0_freedBy_29 : decode cX0_freedBy 29 = .ok (.iload_n 3, 1) := by decide +kernel
theorem dX0_freedBy_30 : decode cX0_freedBy 30 = .ok (.invokestatic 81, 3) := by decide +kernel
theorem dX0_freedBy_33 : decode cX0_freedBy 33 = .ok (.ior, 1) := by decide +kernel
theorem dX0_freedBy_34 : decode cX0_freedBy 34 = .ok (.istore_n 2, 1) := by decide +kernel
theorem dX0_freedBy_35 : decode cX0_freedBy 35 = .ok (.iinc 3 1, 3) := by decide +kernel
theorem dX0_freedBy_38 : decode cX0_freedBy 38 = .ok (.goto (-34), 3) := by decide +kernel
theorem dX0_freedBy_41 : decode cX0_freedBy 41 = .ok (.iload_n 2, 1) := by decide +kernel
theorem dX0_freedBy_42 : decode cX0_freedBy 42 = .ok (.ireturn, 1) := by decide +kernel
set_option maxRecDepth 20000 in
theorem ggX0_fewestFreeing_X0_allPasses : GoodIn wsX0_fewestFreeing wsX0_allPasses := goodIn_r _ [6, 1, 22, 23, 24, 25, 26] (by decide +kernel) (by decide +kernel)
set_option maxRecDepth 20000 in
theorem gX0_fewestFreeing_X0_allPasses : GoodIn wsX0_fewestFreeing (wsV RX0 55 RX0 yX0_allPasses wsX0_allPasses) := goodIn_app (goodIn_of _ (by decide +kernel)) ggX0_fewestFreeing_X0_allPasses
set_option maxRecDepth 20000 in
theorem ggX0_fewestFreeing_J6_bitCount_0f7a4 : GoodIn wsX0_fewestFreeing wsJ6_bitCount_0f7a4 := goodIn_r _ [10, 11, 12, 13] (by decide +kernel) (by decide +kernel)
set_option maxRecDepth 20000 in
theorem gX0_fewestFreeing_J6_bitCount_0f7a4 : GoodIn wsX0_fewestFreeing (va_wsS RX0 95 yJ6_bitCount_0f7a4 wsJ6_bitCount_0f7a4) := goodIn_app (goodIn_of _ (by decide +kernel)) ggX0_fewestFreeing_J6_bitCount_0f7a4
set_option maxRecDepth 20000 in
theorem ggX0_fewestFreeing_X0_freedBy : GoodIn wsX0_fewestFreeing wsX0_freedBy := goodIn_r _ [17, 1, 18, 19, 20, 21, 22, 23, 24, 25, 26] (by decide +kernel) (by decide +kernel)
set_option maxRecDepth 20000 in
theorem gX0_fewestFreeing_X0_freedBy : GoodIn wsX0_fewestFreeing (wsV RX0 106 RX0 yX0_freedBy wsX0_freedBy) := goodIn_app (goodIn_of _ (by decide +kernel)) ggX0_fewestFreeing_X0_freedBy
theorem dX0_fewestFreeing_0 : decode cX0_fewestFreeing 0 = .ok (.bipush (-9), 2) := by decide +kernel
theorem dX0_fewestFreeing_2 : decode cX0_fewestFreeing 2 = .ok (.istore_n 1, 1) := by decide +kernel
theorem dX0_fewestFreeing_3 : decode cX0_fewestFreeing 3 = .ok (.aload_n 0, 1) := by decide +kernel
theorem dX0_fewestFreeing_4 : decode cX0_fewestFreeing 4 = .ok (.getfield 21, 3) := by decide +kernel
theorem dX0_fewestFreeing_7 : decode cX0_fewestFreeing 7 = .ok (.iconst 1, 1) := by decide +kernel
theorem dX0_fewestFreeing_8 : decode cX0_fewestFreeing 8 = .ok (.iadd, 1) := by decide +kernel
theorem dX0_fewestFreeing_9 : decode cX0_fewestFreeing 9 = .ok (.istore_n 2, 1) := by decide +kernel
theorem dX0_fewestFreeing_10 : decode cX0_fewestFreeing 10 = .ok (.iconst 0, 1) := by decide +kernel
theorem dX0_fewestFreeing_11 : decode cX0_fewestFreeing 11 = .ok (.istore_n 3, 1) := by decide +kernel
theorem dX0_fewestFreeing_12 : decode cX0_fewestFreeing 12 = .ok (.iload_n 3, 1) := by decide +kernel
theorem dX0_fewestFreeing_13 : decode cX0_fewestFreeing 13 = .ok (.aload_n 0, 1) := by decide +kernel
theorem dX0_fewestFreeing_14 : decode cX0_fewestFreeing 14 = .ok (.invokevirtual 55, 3) := by decide +kernel
theorem dX0_fewestFreeing_17 : decode cX0_fewestFreeing 17 = .ok (.if_icmp .gt 36, 3) := by decide +kernel
theorem dX0_fewestFreeing_20 : decode cX0_fewestFreeing 20 = .ok (.iload_n 3, 1) := by decide +kernel
theorem dX0_fewestFreeing_21 : decode cX0_fewestFreeing 21 = .ok (.invokestatic 95, 3) := by decide +kernel
theorem dX0_fewestFreeing_24 : decode cX0_fewestFreeing 24 = .ok (.iload_n 2, 1) := by decide +kernel
theorem dX0_fewestFreeing_25 : decode cX0_fewestFreeing 25 = .ok (.if_icmp .ge 22, 3) := by decide +kernel
theorem dX0_fewestFreeing_28 : decode cX0_fewestFreeing 28 = .ok (.aload_n 0, 1) := by decide +kernel
theorem dX0_fewestFreeing_29 : decode cX0_fewestFreeing 29 = .ok (.iload_n 3, 1) := by decide +kernel
theorem dX0_fewestFreeing_30 : decode cX0_fewestFreeing 30 = .ok (.invokevirtual 106, 3) := by decide +kernel
theorem dX0_fewestFreeing_33 : decode cX0_fewestFreeing 33 = .ok (.aload_n 0, 1) := by decide +kernel
theorem dX0_fewestFreeing_34 : decode cX0_fewestFreeing 34 = .ok (.invokevirtual 55, 3) := by decide +kernel
theorem dX0_fewestFreeing_37 : decode cX0_fewestFreeing 37 = .ok (.if_icmp .ne 10, 3) := by decide +kernel
theorem dX0_fewestFreeing_40 : decode cX0_fewestFreeing 40 = .ok (.iload_n 3, 1) := by decide +kernel
theorem dX0_fewestFreeing_41 : decode cX0_fewestFreeing 41 = .ok (.istore_n 1, 1) := by decide +kernel
theorem dX0_fewestFreeing_42 : decode cX0_fewestFreeing 42 = .ok (.iload_n 3, 1) := by decide +kernel
theorem dX0_fewestFreeing_43 : decode cX0_fewestFreeing 43 = .ok (.invokestatic 95, 3) := by decide +kernel
theorem dX0_fewestFreeing_46 : decode cX0_fewestFreeing 46 = .ok (.istore_n 2, 1) := by decide +kernel
theorem dX0_fewestFreeing_47 : decode cX0_fewestFreeing 47 = .ok (.iinc 3 1, 3) := by decide +kernel
theorem dX0_fewestFreeing_50 : decode cX0_fewestFreeing 50 = .ok (.goto (-38), 3) := by decide +kernel
theorem dX0_fewestFreeing_53 : decode cX0_fewestFreeing 53 = .ok (.iload_n 1, 1) := by decide +kernel
theorem dX0_fewestFreeing_54 : decode cX0_fewestFreeing 54 = .ok (.ireturn, 1) := by decide +kernel
theorem dX1_init_0 : decode cX1_init 0 = .ok (.aload_n 0, 1) := by decide +kernel
theorem dX1_init_1 : decode cX1_init 1 = .ok (.invokespecial 3, 3) := by decide +kernel
theorem dX1_init_4 : decode cX1_init 4 = .ok (.aload_n 0, 1) := by decide +kernel
theorem dX1_init_5 : decode cX1_init 5 = .ok (.bipush 8, 2) := by decide +kernel
theorem dX1_init_7 : decode cX1_init 7 = .ok (.newarray .int, 2) := by decide +kernel
theorem dX1_init_9 : decode cX1_init 9 = .ok (.putfield 9, 3) := by decide +kernel
theorem dX1_init_12 : decode cX1_init 12 = .ok (.aload_n 0, 1) := by decide +kernel
theorem dX1_init_13 : decode cX1_init 13 = .ok (.bipush 8, 2) := by decide +kernel
theorem dX1_init_15 : decode cX1_init 15 = .ok (.newarray .int, 2) := by decide +kernel
theorem dX1_init_17 : decode cX1_init 17 = .ok (.putfield 15, 3) := by decide +kernel
theorem dX1_init_20 : decode cX1_init 20 = .ok (.aload_n 0, 1) := by decide +kernel
theorem dX1_init_21 : decode cX1_init 21 = .ok (.bipush 8, 2) := by decide +kernel
theorem dX1_init_23 : decode cX1_init 23 = .ok (.newarray .int, 2) := by decide +kernel
theorem dX1_init_25 : decode cX1_init 25 = .ok (.putfield 18, 3) := by decide +kernel
theorem dX1_init_28 : decode cX1_init 28 = .ok (.aload_n 0, 1) := by decide +kernel
theorem dX1_init_29 : decode cX1_init 29 = .ok (.bipush 8, 2) := by decide +kernel
theorem dX1_init_31 : decode cX1_init 31 = .ok (.newarray .boolean, 2) := by decide +kernel
theorem dX1_init_33 : decode cX1_init 33 = .ok (.putfield 21, 3) := by decide +kernel
theorem dX1_init_36 : decode cX1_init 36 = .ok (.aload_n 0, 1) := by decide +kernel
theorem dX1_init_37 : decode cX1_init 37 = .ok (.iconst 0, 1) := by decide +kernel
theorem dX1_init_38 : decode cX1_init 38 = .ok (.putfield 25, 3) := by decide +kernel
theorem dX1_init_41 : decode cX1_init 41 = .ok (.return_, 1) := by decide +kernel
theorem dX1_howMany_0 : decode cX1_howMany 0 = .ok (.aload_n 0, 1) := by decide +kernel
theorem dX1_howMany_1 : decode cX1_howMany 1 = .ok (.getfield 25, 3) := by decide +kernel
theorem dX1_howMany_4 : decode cX1_howMany 4 = .ok (.ireturn, 1) := by decide +kernel
theorem dX1_append_0 : decode cX1_append 0 = .ok (.aload_n 0, 1) := by decide +kernel
theorem dX1_append_1 : decode cX1_append 1 = .ok (.getfield 25, 3) := by decide +kernel
theorem dX1_append_4 : decode cX1_append 4 = .ok (.bipush 8, 2) := by decide +kernel
theorem dX1_append_6 : decode cX1_append 6 = .ok (.if_icmp .lt 4, 3) := by decide +kernel
theorem dX1_append_9 : decode cX1_append 9 = .ok (.return_, 1) := by decide +kernel
theorem dX1_append_10 : decode cX1_append 10 = .ok (.aload_n 0, 1) := by decide +kernel
theorem dX1_append_11 : decode cX1_append 11 = .ok (.getfield 9, 3) := by decide +kernel
theorem dX1_append_14 : decode cX1_append 14 = .ok (.aload_n 0, 1) := by decide +kernel
theorem dX1_append_15 : decode cX1_append 15 = .ok (.getfield 25, 3) := by decide +kernel
theorem dX1_append_18 : decode cX1_append 18 = .ok (.iload_n 1, 1) := by decide +kernel
theorem dX1_append_19 : decode cX1_append 19 = .ok (.iastore, 1) := by decide +kernel
theorem dX1_append_20 : decode cX1_append 20 = .ok (.aload_n 0, 1) := by decide +kernel
theorem dX1_append_21 : decode cX1_append 21 = .ok (.getfield 15, 3) := by decide +kernel
theorem dX1_append_24 : decode cX1_append 24 = .ok (.aload_n 0, 1) := by decide +kernel
theorem dX1_append_25 : decode cX1_append 25 = .ok (.getfield 25, 3) := by decide +kernel
theorem dX1_append_28 : decode cX1_append 28 = .ok (.iload_n 2, 1) := by decide +kernel
theorem dX1_append_29 : decode cX1_append 29 = .ok (.iastore, 1) := by decide +kernel
theorem dX1_append_30 : decode cX1_append 30 = .ok (.aload_n 0, 1) := by decide +kernel
theorem dX1_append_31 : decode cX1_append 31 = .ok (.getfield 18, 3) := by decide +kernel
theorem dX1_append_34 : decode cX1_append 34 = .ok (.aload_n 0, 1) := by decide +kernel
theorem dX1_append_35 : decode cX1_append 35 = .ok (.getfield 25, 3) := by decide +kernel
theorem dX1_append_38 : decode cX1_append 38 = .ok (.iload_n 3, 1) := by decide +kernel
theorem dX1_append_39 : decode cX1_append 39 = .ok (.iastore, 1) := by decide +kernel
theorem dX1_append_40 : decode cX1_append 40 = .ok (.aload_n 0, 1) := by decide +kernel
theorem dX1_append_41 : decode cX1_append 41 = .ok (.getfield 21, 3) := by decide +kernel
theorem dX1_append_44 : decode cX1_append 44 = .ok (.aload_n 0, 1) := by decide +kernel
theorem dX1_append_45 : decode cX1_append 45 = .ok (.getfield 25, 3) := by decide +kernel
theorem dX1_append_48 : decode cX1_append 48 = .ok (.iload 4, 2) := by decide +kernel
theorem dX1_append_50 : decode cX1_append 50 = .ok (.bastore, 1) := by decide +kernel
theorem dX1_append_51 : decode cX1_append 51 = .ok (.aload_n 0, 1) := by decide +kernel
theorem dX1_append_52 : decode cX1_append 52 = .ok (.dup, 1) := by decide +kernel
theorem dX1_append_53 : decode cX1_append 53 = .ok (.getfield 25, 3) := by decide +kernel
theorem dX1_append_56 : decode cX1_append 56 = .ok (.iconst 1, 1) := by decide +kernel
theorem dX1_append_57 : decode cX1_append 57 = .ok (.iadd, 1) := by decide +kernel
theorem dX1_append_58 : decode cX1_append 58 = .ok (.putfield 25, 3) := by decide +kernel
theorem dX1_append_61 : decode cX1_append 61 = .ok (.return_, 1) := by decide +kernel
theorem dX1_dropLast_0 : decode cX1_dropLast 0 = .ok (.iload_n 1, 1) := by decide +kernel
theorem dX1_dropLast_1 : decode cX1_dropLast 1 = .ok (.ifCond .lt 21, 3) := by decide +kernel
theorem dX1_dropLast_4 : decode cX1_dropLast 4 = .ok (.iload_n 1, 1) := by decide +kernel
theorem dX1_dropLast_5 : decode cX1_dropLast 5 = .ok (.aload_n 0, 1) := by decide +kernel
theorem dX1_dropLast_6 : decode cX1_dropLast 6 = .ok (.getfield 25, 3) := by decide +kernel
theorem dX1_dropLast_9 : decode cX1_dropLast 9 = .ok (.if_icmp .gt 13, 3) := by decide +kernel
theorem dX1_dropLast_12 : decode cX1_dropLast 12 = .ok (.aload_n 0, 1) := by decide +kernel
theorem dX1_dropLast_13 : decode cX1_dropLast 13 = .ok (.dup, 1) := by decide +kernel
theorem dX1_dropLast_14 : decode cX1_dropLast 14 = .ok (.getfield 25, 3) := by decide +kernel
theorem dX1_dropLast_17 : decode cX1_dropLast 17 = .ok (.iload_n 1, 1) := by decide +kernel
theorem dX1_dropLast_18 : decode cX1_dropLast 18 = .ok (.isub, 1) := by decide +kernel
theorem dX1_dropLast_19 : decode cX1_dropLast 19 = .ok (.putfield 25, 3) := by decide +kernel
theorem dX1_dropLast_22 : decode cX1_dropLast 22 = .ok (.return_, 1) := by decide +kernel
set_option maxRecDepth 20000 in
theorem ggX1_areSo_X0_doFit : GoodIn wsX1_areSo wsX0_doFit := goodIn_r _ [10, 11, 12, 13, 14, 9, 15, 16, 17, 18, 19, 20, 21, 22, 23, 24, 25, 26, 27, 28, 29, 30, 31, 32, 33, 34, 35, 36, 37, 38, 39, 40, 46, 47, 48, 49, 50] (by decide +kernel) (by decide +kernel)
set_option maxRecDepth 20000 in
theorem gX1_areSo_X0_doFit : GoodIn wsX1_areSo (wsV RX1 29 RX0 yX0_doFit wsX0_doFit) := goodIn_app (goodIn_of _ (by decide +kernel)) ggX1_areSo_X0_doFit
theorem dX1_areSo_0 : decode cX1_areSo 0 = .ok (.iconst 0, 1) := by decide +kernel
theorem dX1_areSo_1 : decode cX1_areSo 1 = .ok (.istore_n 2, 1) := by decide +kernel
theorem dX1_areSo_2 : decode cX1_areSo 2 = .ok (.iload_n 2, 1) := by decide +kernel
theorem dX1_areSo_3 : decode cX1_areSo 3 = .ok (.aload_n 0, 1) := by decide +kernel
theorem dX1_areSo_4 : decode cX1_areSo 4 = .ok (.getfield 25, 3) := by decide +kernel
theorem dX1_areSo_7 : decode cX1_areSo 7 = .ok (.if_icmp .ge 42, 3) := by decide +kernel
theorem dX1_areSo_10 : decode cX1_areSo 10 = .ok (.aload_n 1, 1) := by decide +kernel
theorem dX1_areSo_11 : decode cX1_areSo 11 = .ok (.aload_n 0, 1) := by decide +kernel
theorem dX1_areSo_12 : decode cX1_areSo 12 = .ok (.getfield 9, 3) := by decide +kernel
theorem dX1_areSo_15 : decode cX1_areSo 15 = .ok (.iload_n 2, 1) := by decide +kernel
theorem dX1_areSo_16 : decode cX1_areSo 16 = .ok (.iaload, 1) := by decide +kernel
theorem dX1_areSo_17 : decode cX1_areSo 17 = .ok (.aload_n 0, 1) := by decide +kernel
theorem dX1_areSo_18 : decode cX1_areSo 18 = .ok (.getfield 15, 3) := by decide +kernel
theorem dX1_areSo_21 : decode cX1_areSo 21 = .ok (.iload_n 2, 1) := by decide +kernel
theorem dX1_areSo_22 : decode cX1_areSo 22 = .ok (.iaload, 1) := by decide +kernel
theorem dX1_areSo_23 : decode cX1_areSo 23 = .ok (.aload_n 0, 1) := by decide +kernel
theorem dX1_areSo_24 : decode cX1_areSo 24 = .ok (.getfield 18, 3) := by decide +kernel
theorem dX1_areSo_27 : decode cX1_areSo 27 = .ok (.iload_n 2, 1) := by decide +kernel
theorem dX1_areSo_28 : decode cX1_areSo 28 = .ok (.iaload, 1) := by decide +kernel
theorem dX1_areSo_29 : decode cX1_areSo 29 = .ok (.invokevirtual 29, 3) := by decide +kernel
theorem dX1_areSo_32 : decode cX1_areSo 32 = .ok (.aload_n 0, 1) := by decide +kernel
theorem dX1_areSo_33 : decode cX1_areSo 33 = .ok (.getfield 21, 3) := by decide +kernel
theorem dX1_areSo_36 : decode cX1_areSo 36 = .ok (.iload_n 2, 1) := by decide +kernel
theorem dX1_areSo_37 : decode cX1_areSo 37 = .ok (.baload, 1) := by decide +kernel
theorem dX1_areSo_38 : decode cX1_areSo 38 = .ok (.if_icmp .eq 5, 3) := by decide +kernel
theorem dX1_areSo_41 : decode cX1_areSo 41 = .ok (.iconst 0, 1) := by decide +kernel
theorem dX1_areSo_42 : decode cX1_areSo 42 = .ok (.ireturn, 1) := by decide +kernel
theorem dX1_areSo_43 : decode cX1_areSo 43 = .ok (.iinc 2 1, 3) := by decide +kernel
theorem dX1_areSo_46 : decode cX1_areSo 46 = .ok (.goto (-44), 3) := by decide +kernel
theorem dX1_areSo_49 : decode cX1_areSo 49 = .ok (.iconst 1, 1) := by decide +kernel
theorem dX1_areSo_50 : decode cX1_areSo 50 = .ok (.ireturn, 1) := by decide +kernel
theorem dX2_init_0 : decode cX2_init 0 = .ok (.aload_n 0, 1) := by decide +kernel
theorem dX2_init_1 : decode cX2_init 1 = .ok (.invokespecial 3, 3) := by decide +kernel
theorem dX2_init_4 : decode cX2_init 4 = .ok (.aload_n 0, 1) := by decide +kernel
theorem dX2_init_5 : decode cX2_init 5 = .ok (.bipush 60, 2) := by decide +kernel
theorem dX2_init_7 : decode cX2_init 7 = .ok (.newarray .int, 2) := by decide +kernel
theorem dX2_init_9 : decode cX2_init 9 = .ok (.putfield 9, 3) := by decide +kernel
theorem dX2_init_12 : decode cX2_init 12 = .ok (.aload_n 0, 1) := by decide +kernel
theorem dX2_init_13 : decode cX2_init 13 = .ok (.iconst (-1), 1) := by decide +kernel
theorem dX2_init_14 : decode cX2_init 14 = .ok (.putfield 15, 3) := by decide +kernel
theorem dX2_init_17 : decode cX2_init 17 = .ok (.aload_n 0, 1) := by decide +kernel
theorem dX2_init_18 : decode cX2_init 18 = .ok (.iconst 0, 1) := by decide +kernel
theorem dX2_init_19 : decode cX2_init 19 = .ok (.putfield 19, 3) := by decide +kernel
theorem dX2_init_22 : decode cX2_init 22 = .ok (.return_, 1) := by decide +kernel
set_option maxRecDepth 20000 in
theorem ggX2_begin_J7_fill_53178 : GoodIn wsX2_begin wsJ7_fill_53178 := goodIn_r _ [7] (by decide +kernel) (by decide +kernel)
set_option maxRecDepth 20000 in
theorem gX2_begin_J7_fill_53178 : GoodIn wsX2_begin (va_wsS RX2 22 yJ7_fill_53178 wsJ7_fill_53178) := goodIn_app (goodIn_of _ (by decide +kernel)) ggX2_begin_J7_fill_53178
theorem dX2_begin_0 : decode cX2_begin 0 = .ok (.aload_n 0, 1) := by decide +kernel
theorem dX2_begin_1 : decode cX2_begin 1 = .ok (.getfield 9, 3) := by decide +kernel
theorem dX2_begin_4 : decode cX2_begin 4 = .ok (.iconst 0, 1) := by decide +kernel
theorem dX2_begin_5 : decode cX2_begin 5 = .ok (.invokestatic 22, 3) := by decide +kernel
theorem dX2_begin_8 : decode cX2_begin 8 = .ok (.aload_n 0, 1) := by decide +kernel
theorem dX2_begin_9 : decode cX2_begin 9 = .ok (.iload_n 1, 1) := by decide +kernel
theorem dX2_begin_10 : decode cX2_begin 10 = .ok (.putfield 15, 3) := by decide +kernel
theorem dX2_begin_13 : decode cX2_begin 13 = .ok (.aload_n 0, 1) := by decide +kernel
theorem dX2_begin_14 : decode cX2_begin 14 = .ok (.iload_n 2, 1) := by decide +kernel
theorem dX2_begin_15 : decode cX2_begin 15 = .ok (.putfield 19, 3) := by decide +kernel
theorem dX2_begin_18 : decode cX2_begin 18 = .ok (.return_, 1) := by decide +kernel
theorem dX2_drop_0 : decode cX2_drop 0 = .ok (.aload_n 0, 1) := by decide +kernel
theorem dX2_drop_1 : decode cX2_drop 1 = .ok (.iconst (-1), 1) := by decide +kernel
theorem dX2_drop_2 : decode cX2_drop 2 = .ok (.putfield 15, 3) := by decide +kernel
theorem dX2_drop_5 : decode cX2_drop 5 = .ok (.aload_n 0, 1) := by decide +kernel
theorem dX2_drop_6 : decode cX2_drop 6 = .ok (.iconst 0, 1) := by decide +kernel
theorem dX2_drop_7 : decode cX2_drop 7 = .ok (.putfield 19, 3) := by decide +kernel
theorem dX2_drop_10 : decode cX2_drop 10 = .ok (.return_, 1) := by decide +kernel
theorem dX2_hasNothing_0 : decode cX2_hasNothing 0 = .ok (.aload_n 0, 1) := by decide +kernel
theorem dX2_hasNothing_1 : decode cX2_hasNothing 1 = .ok (.getfield 15, 3) := by decide +kernel
theorem dX2_hasNothing_4 : decode cX2_hasNothing 4 = .ok (.iconst (-1), 1) := by decide +kernel
theorem dX2_hasNothing_5 : decode cX2_hasNothing 5 = .ok (.if_icmp .ne 7, 3) := by decide +kernel
theorem dX2_hasNothing_8 : decode cX2_hasNothing 8 = .ok (.iconst 1, 1) := by decide +kernel
theorem dX2_hasNothing_9 : decode cX2_hasNothing 9 = .ok (.goto 4, 3) := by decide +kernel
theorem dX2_hasNothing_12 : decode cX2_hasNothing 12 = .ok (.iconst 0, 1) := by decide +kernel
theorem dX2_hasNothing_13 : decode cX2_hasNothing 13 = .ok (.ireturn, 1) := by decide +kernel
theorem dX2_laneNow_0 : decode cX2_laneNow 0 = .ok (.aload_n 0, 1) := by decide +kernel
theorem dX2_laneNow_1 : decode cX2_laneNow 1 = .ok (.getfield 15, 3) := by decide +kernel
theorem dX2_laneNow_4 : decode cX2_laneNow 4 = .ok (.ireturn, 1) := by decide +kernel
theorem dX2_isOfAnother_0 : decode cX2_isOfAnother 0 = .ok (.aload_n 0, 1) := by decide +kernel
theorem dX2_isOfAnother_1 : decode cX2_isOfAnother 1 = .ok (.getfield 15, 3) := by decide +kernel
theorem dX2_isOfAnother_4 : decode cX2_isOfAnother 4 = .ok (.iload_n 1, 1) := by decide +kernel
theorem dX2_isOfAnother_5 : decode cX2_isOfAnother 5 = .ok (.if_icmp .eq 7, 3) := by decide +kernel
theorem dX2_isOfAnother_8 : decode cX2_isOfAnother 8 = .ok (.iconst 1, 1) := by decide +kernel
theorem dX2_isOfAnother_9 : decode cX2_isOfAnother 9 = .ok (.goto 4, 3) := by decide +kernel
theorem dX2_isOfAnother_12 : decode cX2_isOfAnother 12 = .ok (.iconst 0, 1) := by decide +kernel
theorem dX2_isOfAnother_13 : decode cX2_isOfAnother 13 = .ok (.ireturn, 1) := by decide +kernel
theorem dX2_hasCell_0 : decode cX2_hasCell 0 = .ok (.iload_n 1, 1) := by decide +kernel
theorem dX2_hasCell_1 : decode cX2_hasCell 1 = .ok (.ifCond .lt 15, 3) := by decide +kernel
theorem dX2_hasCell_4 : decode cX2_hasCell 4 = .ok (.iload_n 1, 1) := by decide +kernel
theorem dX2_hasCell_5 : decode cX2_hasCell 5 = .ok (.aload_n 0, 1) := by decide +kernel
theorem dX2_hasCell_6 : decode cX2_hasCell 6 = .ok (.getfield 19, 3) := by decide +kernel
theorem dX2_hasCell_9 : decode cX2_hasCell 9 = .ok (.if_icmp .ge 7, 3) := by decide +kernel
theorem dX2_hasCell_12 : decode cX2_hasCell 12 = .ok (.iconst 1, 1) := by decide +kernel
theorem dX2_hasCell_13 : decode cX2_hasCell 13 = .ok (.goto 4, 3) := by decide +kernel
theorem dX2_hasCell_16 : decode cX2_hasCell 16 = .ok (.iconst 0, 1) := by decide +kernel
theorem dX2_hasCell_17 : decode cX2_hasCell 17 = .ok (.ireturn, 1) := by decide +kernel
theorem dX2_hasCells_0 : decode cX2_hasCells 0 = .ok (.iload_n 1, 1) := by decide +kernel
theorem dX2_hasCells_1 : decode cX2_hasCells 1 = .ok (.ifCond .lt 29, 3) := by decide +kernel
theorem dX2_hasCells_4 : decode cX2_hasCells 4 = .ok (.iload_n 1, 1) := by decide +kernel
theorem dX2_hasCells_5 : decode cX2_hasCells 5 = .ok (.aload_n 0, 1) := by decide +kernel
theorem dX2_hasCells_6 : decode cX2_hasCells 6 = .ok (.getfield 19, 3) := by decide +kernel
theorem dX2_hasCells_9 : decode cX2_hasCells 9 = .ok (.if_icmp .gt 21, 3) := by decide +kernel
theorem dX2_hasCells_12 : decode cX2_hasCells 12 = .ok (.iload_n 2, 1) := by decide +kernel
theorem dX2_hasCells_13 : decode cX2_hasCells 13 = .ok (.ifCond .lt 17, 3) := by decide +kernel
theorem dX2_hasCells_16 : decode cX2_hasCells 16 = .ok (.iload_n 2, 1) := by decide +kernel
theorem dX2_hasCells_17 : decode cX2_hasCells 17 = .ok (.aload_n 0, 1) := by decide +kernel
theorem dX2_hasCells_18 : decode cX2_hasCells 18 = .ok (.getfield 19, 3) := by decide +kernel
theorem dX2_hasCells_21 : decode cX2_hasCells 21 = .ok (.iload_n 1, 1) := by decide +kernel
theorem dX2_hasCells_22 : decode cX2_hasCells 22 = .ok (.isub, 1) := by decide +kernel
theorem dX2_hasCells_23 : decode cX2_hasCells 23 = .ok (.if_icmp .gt 7, 3) := by decide +kernel
theorem dX2_hasCells_26 : decode cX2_hasCells 26 = .ok (.iconst 1, 1) := by decide +kernel
theorem dX2_hasCells_27 : decode cX2_hasCells 27 = .ok (.goto 4, 3) := by decide +kernel
theorem dX2_hasCells_30 : decode cX2_hasCells 30 = .ok (.iconst 0, 1) := by decide +kernel
theorem dX2_hasCells_31 : decode cX2_hasCells 31 = .ok (.ireturn, 1) := by decide +kernel
set_option maxRecDepth 20000 in
theorem ggX2_at_X2_hasCell : GoodIn wsX2_at wsX2_hasCell := goodIn_r _ [6, 7, 8, 9, 10] (by decide +kernel) (by decide +kernel)
set_option maxRecDepth 20000 in
theorem gX2_at_X2_hasCell : GoodIn wsX2_at (wsV RX2 28 RX2 yX2_hasCell wsX2_hasCell) := goodIn_app (goodIn_of _ (by decide +kernel)) ggX2_at_X2_hasCell
theorem dX2_at_0 : decode cX2_at 0 = .ok (.aload_n 0, 1) := by decide +kernel
theorem dX2_at_1 : decode cX2_at 1 = .ok (.iload_n 1, 1) := by decide +kernel
theorem dX2_at_2 : decode cX2_at 2 = .ok (.invokevirtual 28, 3) := by decide +kernel
theorem dX2_at_5 : decode cX2_at 5 = .ok (.ifCond .eq 12, 3) := by decide +kernel
theorem dX2_at_8 : decode cX2_at 8 = .ok (.aload_n 0, 1) := by decide +kernel
theorem dX2_at_9 : decode cX2_at 9 = .ok (.getfield 9, 3) := by decide +kernel
theorem dX2_at_12 : decode cX2_at 12 = .ok (.iload_n 1, 1) := by decide +kernel
theorem dX2_at_13 : decode cX2_at 13 = .ok (.iaload, 1) := by decide +kernel
theorem dX2_at_14 : decode cX2_at 14 = .ok (.goto 4, 3) := by decide +kernel
theorem dX2_at_17 : decode cX2_at 17 = .ok (.iconst 0, 1) := by decide +kernel
theorem dX2_at_18 : decode cX2_at 18 = .ok (.ireturn, 1) := by decide +kernel
set_option maxRecDepth 20000 in
theorem ggX2_write_X2_hasCell : GoodIn wsX2_write wsX2_hasCell := goodIn_r _ [6, 7, 13, 14, 15] (by decide +kernel) (by decide +kernel)
set_option maxRecDepth 20000 in
theorem gX2_write_X2_hasCell : GoodIn wsX2_write (wsV RX2 28 RX2 yX2_hasCell wsX2_hasCell) := goodIn_app (goodIn_of _ (by decide +kernel)) ggX2_write_X2_hasCell
set_option maxRecDepth 20000 in
theorem ggX2_write_X2_cut : GoodIn wsX2_write wsX2_cut := goodIn_r _ [11, 12, 13, 14, 15] (by decide +kernel) (by decide +kernel)
set_option maxRecDepth 20000 in
theorem gX2_write_X2_cut : GoodIn wsX2_write (wsV RX2 32 RX2 yX2_cut wsX2_cut) := goodIn_app (goodIn_of _ (by decide +kernel)) ggX2_write_X2_cut
theorem dX2_write_0 : decode cX2_write 0 = .ok (.aload_n 0, 1) := by decide +kernel
theorem dX2_write_1 : decode cX2_write 1 = .ok (.iload_n 1, 1) := by decide +kernel
theorem dX2_write_2 : decode cX2_write 2 = .ok (.invokevirtual 28, 3) := by decide +kernel
theorem dX2_write_5 : decode cX2_write 5 = .ok (.ifCond .eq 14, 3) := by decide +kernel
theorem dX2_write_8 : decode cX2_write 8 = .ok (.aload_n 0, 1) := by decide +kernel
theorem dX2_write_9 : decode cX2_write 9 = .ok (.getfield 9, 3) := by decide +kernel
theorem dX2_write_12 : decode cX2_write 12 = .ok (.iload_n 1, 1) := by decide +kernel
theorem dX2_write_13 : decode cX2_write 13 = .ok (.aload_n 0, 1) := by decide +kernel
theorem dX2_write_14 : decode cX2_write 14 = .ok (.iload_n 2, 1) := by decide +kernel
theorem dX2_write_15 : decode cX2_write 15 = .ok (.invokevirtual 32, 3) := by decide +kernel
theorem dX2_write_18 : decode cX2_write 18 = .ok (.iastore, 1) := by decide +kernel
theorem dX2_write_19 : decode cX2_write 19 = .ok (.return_, 1) := by decide +kernel
set_option maxRecDepth 20000 in
theorem ggX2_takeCells_X2_hasCells : GoodIn wsX2_takeCells wsX2_hasCells := goodIn_r _ [10, 11, 12, 13, 14] (by decide +kernel) (by decide +kernel)
set_option maxRecDepth 20000 in
theorem gX2_takeCells_X2_hasCells : GoodIn wsX2_takeCells (wsV RX2 36 RX2 yX2_hasCells wsX2_hasCells) := goodIn_app (goodIn_of _ (by decide +kernel)) ggX2_takeCells_X2_hasCells
theorem dX2_takeCells_0 : decode cX2_takeCells 0 = .ok (.aload_n 0, 1) := by decide +kernel
theorem dX2_takeCells_1 : decode cX2_takeCells 1 = .ok (.iload_n 1, 1) := by decide +kernel
theorem dX2_takeCells_2 : decode cX2_takeCells 2 = .ok (.iload 4, 2) := by decide +kernel
theorem dX2_takeCells_4 : decode cX2_takeCells 4 = .ok (.invokevirtual 36, 3) := by decide +kernel
theorem dX2_takeCells_7 : decode cX2_takeCells 7 = .ok (.ifCond .eq 28, 3) := by decide +kernel
theorem dX2_takeCells_10 : decode cX2_takeCells 10 = .ok (.aload_n 2, 1) := by decide +kernel
theorem dX2_takeCells_11 : decode cX2_takeCells 11 = .ok (.iload_n 3, 1) := by decide +kernel
theorem dX2_takeCells_12 : decode cX2_takeCells 12 = .ok (.iload 4, 2) := by decide +kernel
theorem dX2_takeCells_14 : decode cX2_takeCells 14 = .ok (.invokevirtual 36, 3) := by decide +kernel
theorem dX2_takeCells_17 : decode cX2_takeCells 17 = .ok (.ifCond .eq 18, 3) := by decide +kernel
theorem dX2_takeCells_20 : decode cX2_takeCells 20 = .ok (.aload_n 2, 1) := by decide +kernel
theorem dX2_takeCells_21 : decode cX2_takeCells 21 = .ok (.getfield 9, 3) := by decide +kernel
theorem dX2_takeCells_24 : decode cX2_takeCells 24 = .ok (.iload_n 3, 1) := by decide +kernel
theorem dX2_takeCells_25 : decode cX2_takeCells 25 = .ok (.aload_n 0, 1) := by decide +kernel
theorem dX2_takeCells_26 : decode cX2_takeCells 26 = .ok (.getfield 9, 3) := by decide +kernel
theorem dX2_takeCells_29 : decode cX2_takeCells 29 = .ok (.iload_n 1, 1) := by decide +kernel
theorem dX2_takeCells_30 : decode cX2_takeCells 30 = .ok (.iload 4, 2) := by decide +kernel
theorem dX2_takeCells_32 : decode cX2_takeCells 32 = .ok (.invokestatic 40, 3) := by decide +kernel
theorem dX2_takeCells_35 : decode cX2_takeCells 35 = .ok (.return_, 1) := by decide +kernel
theorem dX2_cut_0 : decode cX2_cut 0 = .ok (.aload_n 0, 1) := by decide +kernel
theorem dX2_cut_1 : decode cX2_cut 1 = .ok (.getfield 15, 3) := by decide +kernel
theorem dX2_cut_4 : decode cX2_cut 4 = .ok (.lookupswitch 34 #[(0, 28), (1, 31)], 28) := by decide +kernel
theorem dX2_cut_32 : decode cX2_cut 32 = .ok (.iload_n 1, 1) := by decide +kernel
theorem dX2_cut_33 : decode cX2_cut 33 = .ok (.i2b, 1) := by decide +kernel
theorem dX2_cut_34 : decode cX2_cut 34 = .ok (.ireturn, 1) := by decide +kernel
theorem dX2_cut_35 : decode cX2_cut 35 = .ok (.iload_n 1, 1) := by decide +kernel
theorem dX2_cut_36 : decode cX2_cut 36 = .ok (.i2s, 1) := by decide +kernel
theorem dX2_cut_37 : decode cX2_cut 37 = .ok (.ireturn, 1) := by decide +kernel
theorem dX2_cut_38 : decode cX2_cut 38 = .ok (.iload_n 1, 1) := by decide +kernel
theorem dX2_cut_39 : decode cX2_cut 39 = .ok (.ireturn, 1) := by decide +kernel
theorem dX3_init_0 : decode cX3_init 0 = .ok (.aload_n 0, 1) := by decide +kernel
theorem dX3_init_1 : decode cX3_init 1 = .ok (.invokespecial 3, 3) := by decide +kernel
theorem dX3_init_4 : decode cX3_init 4 = .ok (.aload_n 0, 1) := by decide +kernel
theorem dX3_init_5 : decode cX3_init 5 = .ok (.bipush 20, 2) := by decide +kernel
theorem dX3_init_7 : decode cX3_init 7 = .ok (.newarray .int, 2) := by decide +kernel
theorem dX3_init_9 : decode cX3_init 9 = .ok (.putfield 9, 3) := by decide +kernel
theorem dX3_init_12 : decode cX3_init 12 = .ok (.aload_n 0, 1) := by decide +kernel
theorem dX3_init_13 : decode cX3_init 13 = .ok (.bipush 20, 2) := by decide +kernel
theorem dX3_init_15 : decode cX3_init 15 = .ok (.newarray .int, 2) := by decide +kernel
theorem dX3_init_17 : decode cX3_init 17 = .ok (.putfield 15, 3) := by decide +kernel
theorem dX3_init_20 : decode cX3_init 20 = .ok (.aload_n 0, 1) := by decide +kernel
theorem dX3_init_21 : decode cX3_init 21 = .ok (.iconst 0, 1) := by decide +kernel
theorem dX3_init_22 : decode cX3_init 22 = .ok (.putfield 18, 3) := by decide +kernel
theorem dX3_init_25 : decode cX3_init 25 = .ok (.return_, 1) := by decide +kernel
set_option maxRecDepth 20000 in
theorem ggX3_load_X2_at : GoodIn wsX3_load wsX2_at := goodIn_r _ [12, 13, 14, 15, 16, 11, 17, 18, 22, 23, 24] (by decide +kernel) (by decide +kernel)
set_option maxRecDepth 20000 in
theorem gX3_load_X2_at : GoodIn wsX3_load (wsV RX3 28 RX2 yX2_at wsX2_at) := goodIn_app (goodIn_of _ (by decide +kernel)) ggX3_load_X2_at
theorem dX3_load_0 : decode cX3_load 0 = .ok (.aload_n 0, 1) := by decide +kernel
theorem dX3_load_1 : decode cX3_load 1 = .ok (.iload_n 3, 1) := by decide +kernel
theorem dX3_load_2 : decode cX3_load 2 = .ok (.bipush 20, 2) := by decide +kernel
theorem dX3_load_4 : decode cX3_load 4 = .ok (.invokestatic 22, 3) := by decide +kernel
theorem dX3_load_7 : decode cX3_load 7 = .ok (.putfield 18, 3) := by decide +kernel
theorem dX3_load_10 : decode cX3_load 10 = .ok (.iconst 0, 1) := by decide +kernel
theorem dX3_load_11 : decode cX3_load 11 = .ok (.istore 4, 2) := by decide +kernel
theorem dX3_load_13 : decode cX3_load 13 = .ok (.iload 4, 2) := by decide +kernel
theorem dX3_load_15 : decode cX3_load 15 = .ok (.aload_n 0, 1) := by decide +kernel
theorem dX3_load_16 : decode cX3_load 16 = .ok (.getfield 18, 3) := by decide +kernel
theorem dX3_load_19 : decode cX3_load 19 = .ok (.if_icmp .ge 45, 3) := by decide +kernel
theorem dX3_load_22 : decode cX3_load 22 = .ok (.aload_n 0, 1) := by decide +kernel
theorem dX3_load_23 : decode cX3_load 23 = .ok (.getfield 9, 3) := by decide +kernel
theorem dX3_load_26 : decode cX3_load 26 = .ok (.iload 4, 2) := by decide +kernel
theorem dX3_load_28 : decode cX3_load 28 = .ok (.aload_n 1, 1) := by decide +kernel
theorem dX3_load_29 : decode cX3_load 29 = .ok (.iload_n 2, 1) := by decide +kernel
theorem dX3_load_30 : decode cX3_load 30 = .ok (.iconst 2, 1) := by decide +kernel
theorem dX3_load_31 : decode cX3_load 31 = .ok (.iload 4, 2) := by decide +kernel
theorem dX3_load_33 : decode cX3_load 33 = .ok (.imul, 1) := by decide +kernel
theorem dX3_load_34 : decode cX3_load 34 = .ok (.iadd, 1) := by decide +kernel
theorem dX3_load_35 : decode cX3_load 35 = .ok (.invokevirtual 28, 3) := by decide +kernel
theorem dX3_load_38 : decode cX3_load 38 = .ok (.iastore, 1) := by decide +kernel
theorem dX3_load_39 : decode cX3_load 39 = .ok (.aload_n 0, 1) := by decide +kernel
theorem dX3_load_40 : decode cX3_load 40 = .ok (.getfield 15, 3) := by decide +kernel
theorem dX3_load_43 : decode cX3_load 43 = .ok (.iload 4, 2) := by decide +kernel
theorem dX3_load_45 : decode cX3_load 45 = .ok (.aload_n 1, 1) := by decide +kernel
theorem dX3_load_46 : decode cX3_load 46 = .ok (.iload_n 2, 1) := by decide +kernel
theorem dX3_load_47 : decode cX3_load 47 = .ok (.iconst 2, 1) := by decide +kernel
theorem dX3_load_48 : decode cX3_load 48 = .ok (.iload 4, 2) := by decide +kernel
theorem dX3_load_50 : decode cX3_load 50 = .ok (.imul, 1) := by decide +kernel
theorem dX3_load_51 : decode cX3_load 51 = .ok (.iadd, 1) := by decide +kernel
theorem dX3_load_52 : decode cX3_load 52 = .ok (.iconst 1, 1) := by decide +kernel
theorem dX3_load_53 : decode cX3_load 53 = .ok (.iadd, 1) := by decide +kernel
theorem dX3_load_54 : decode cX3_load 54 = .ok (.invokevirtual 28, 3) := by decide +kernel
theorem dX3_load_57 : decode cX3_load 57 = .ok (.iastore, 1) := by decide +kernel
theorem dX3_load_58 : decode cX3_load 58 = .ok (.iinc 4 1, 3) := by decide +kernel
theorem dX3_load_61 : decode cX3_load 61 = .ok (.goto (-48), 3) := by decide +kernel
theorem dX3_load_64 : decode cX3_load 64 = .ok (.return_, 1) := by decide +kernel
theorem dX3_howMany_0 : decode cX3_howMany 0 = .ok (.aload_n 0, 1) := by decide +kernel
theorem dX3_howMany_1 : decode cX3_howMany 1 = .ok (.getfield 18, 3) := by decide +kernel
theorem dX3_howMany_4 : decode cX3_howMany 4 = .ok (.ireturn, 1) := by decide +kernel
set_option maxRecDepth 20000 in
theorem ggX3_refusal_X0_hasPass : GoodIn wsX3_refusal wsX0_hasPass := goodIn_r _ [8, 9, 19, 20, 21, 22, 23] (by decide +kernel) (by decide +kernel)
set_option maxRecDepth 20000 in
theorem gX3_refusal_X0_hasPass : GoodIn wsX3_refusal (wsV RX3 34 RX0 yX0_hasPass wsX0_hasPass) := goodIn_app (goodIn_of _ (by decide +kernel)) ggX3_refusal_X0_hasPass
set_option maxRecDepth 20000 in
theorem ggX3_refusal_X4_isMonths : GoodIn wsX3_refusal wsX4_isMonths := goodIn_r _ [12, 13, 14, 11, 15] (by decide +kernel) (by decide +kernel)
set_option maxRecDepth 20000 in
theorem gX3_refusal_X4_isMonths_n40 : GoodIn wsX3_refusal (wsX4_isMonths) := ggX3_refusal_X4_isMonths
theorem dX3_refusal_0 : decode cX3_refusal 0 = .ok (.iconst 0, 1) := by decide +kernel
theorem dX3_refusal_1 : decode cX3_refusal 1 = .ok (.istore_n 2, 1) := by decide +kernel
theorem dX3_refusal_2 : decode cX3_refusal 2 = .ok (.iload_n 2, 1) := by decide +kernel
theorem dX3_refusal_3 : decode cX3_refusal 3 = .ok (.aload_n 0, 1) := by decide +kernel
theorem dX3_refusal_4 : decode cX3_refusal 4 = .ok (.getfield 18, 3) := by decide +kernel
theorem dX3_refusal_7 : decode cX3_refusal 7 = .ok (.if_icmp .ge 39, 3) := by decide +kernel
theorem dX3_refusal_10 : decode cX3_refusal 10 = .ok (.aload_n 1, 1) := by decide +kernel
theorem dX3_refusal_11 : decode cX3_refusal 11 = .ok (.aload_n 0, 1) := by decide +kernel
theorem dX3_refusal_12 : decode cX3_refusal 12 = .ok (.getfield 9, 3) := by decide +kernel
theorem dX3_refusal_15 : decode cX3_refusal 15 = .ok (.iload_n 2, 1) := by decide +kernel
theorem dX3_refusal_16 : decode cX3_refusal 16 = .ok (.iaload, 1) := by decide +kernel
theorem dX3_refusal_17 : decode cX3_refusal 17 = .ok (.invokevirtual 34, 3) := by decide +kernel
theorem dX3_refusal_20 : decode cX3_refusal 20 = .ok (.ifCond .ne 5, 3) := by decide +kernel
theorem dX3_refusal_23 : decode cX3_refusal 23 = .ok (.iconst (-1), 1) := by decide +kernel
theorem dX3_refusal_24 : decode cX3_refusal 24 = .ok (.ireturn, 1) := by decide +kernel
theorem dX3_refusal_25 : decode cX3_refusal 25 = .ok (.aload_n 0, 1) := by decide +kernel
theorem dX3_refusal_26 : decode cX3_refusal 26 = .ok (.getfield 15, 3) := by decide +kernel
theorem dX3_refusal_29 : decode cX3_refusal 29 = .ok (.iload_n 2, 1) := by decide +kernel
theorem dX3_refusal_30 : decode cX3_refusal 30 = .ok (.iaload, 1) := by decide +kernel
theorem dX3_refusal_31 : decode cX3_refusal 31 = .ok (.invokestatic 40, 3) := by decide +kernel
theorem dX3_refusal_34 : decode cX3_refusal 34 = .ok (.ifCond .ne 6, 3) := by decide +kernel
theorem dX3_refusal_37 : decode cX3_refusal 37 = .ok (.bipush (-2), 2) := by decide +kernel
theorem dX3_refusal_39 : decode cX3_refusal 39 = .ok (.ireturn, 1) := by decide +kernel
theorem dX3_refusal_40 : decode cX3_refusal 40 = .ok (.iinc 2 1, 3) := by decide +kernel
theorem dX3_refusal_43 : decode cX3_refusal 43 = .ok (.goto (-41), 3) := by decide +kernel
theorem dX3_refusal_46 : decode cX3_refusal 46 = .ok (.iconst 0, 1) := by decide +kernel
theorem dX3_refusal_47 : decode cX3_refusal 47 = .ok (.ireturn, 1) := by decide +kernel
theorem dX3_firstWrongPair_0 : decode cX3_firstWrongPair 0 = .ok (.iconst 1, 1) := by decide +kernel
theorem dX3_firstWrongPair_1 : decode cX3_firstWrongPair 1 = .ok (.istore_n 1, 1) := by decide +kernel
theorem dX3_firstWrongPair_2 : decode cX3_firstWrongPair 2 = .ok (.iload_n 1, 1) := by decide +kernel
theorem dX3_firstWrongPair_3 : decode cX3_firstWrongPair 3 = .ok (.aload_n 0, 1) := by decide +kernel
theorem dX3_firstWrongPair_4 : decode cX3_firstWrongPair 4 = .ok (.getfield 18, 3) := by decide +kernel
theorem dX3_firstWrongPair_7 : decode cX3_firstWrongPair 7 = .ok (.if_icmp .ge 28, 3) := by decide +kernel
theorem dX3_firstWrongPair_10 : decode cX3_firstWrongPair 10 = .ok (.aload_n 0, 1) := by decide +kernel
theorem dX3_firstWrongPair_11 : decode cX3_firstWrongPair 11 = .ok (.getfield 15, 3) := by decide +kernel
theorem dX3_firstWrongPair_14 : decode cX3_firstWrongPair 14 = .ok (.iload_n 1, 1) := by decide +kernel
theorem dX3_firstWrongPair_15 : decode cX3_firstWrongPair 15 = .ok (.iaload, 1) := by decide +kernel
theorem dX3_firstWrongPair_16 : decode cX3_firstWrongPair 16 = .ok (.aload_n 0, 1) := by decide +kernel
theorem dX3_firstWrongPair_17 : decode cX3_firstWrongPair 17 = .ok (.getfield 15, 3) := by decide +kernel
theorem dX3_firstWrongPair_20 : decode cX3_firstWrongPair 20 = .ok (.iload_n 1, 1) := by decide +kernel
theorem dX3_firstWrongPair_21 : decode cX3_firstWrongPair 21 = .ok (.iconst 1, 1) := by decide +kernel
theorem dX3_firstWrongPair_22 : decode cX3_firstWrongPair 22 = .ok (.isub, 1) := by decide +kernel
theorem dX3_firstWrongPair_23 : decode cX3_firstWrongPair 23 = .ok (.iaload, 1) := by decide +kernel
theorem dX3_firstWrongPair_24 : decode cX3_firstWrongPair 24 = .ok (.if_icmp .ge 5, 3) := by decide +kernel
theorem dX3_firstWrongPair_27 : decode cX3_firstWrongPair 27 = .ok (.iload_n 1, 1) := by decide +kernel
theorem dX3_firstWrongPair_28 : decode cX3_firstWrongPair 28 = .ok (.ireturn, 1) := by decide +kernel
theorem dX3_firstWrongPair_29 : decode cX3_firstWrongPair 29 = .ok (.iinc 1 1, 3) := by decide +kernel
theorem dX3_firstWrongPair_32 : decode cX3_firstWrongPair 32 = .ok (.goto (-30), 3) := by decide +kernel
theorem dX3_firstWrongPair_35 : decode cX3_firstWrongPair 35 = .ok (.bipush (-9), 2) := by decide +kernel
theorem dX3_firstWrongPair_37 : decode cX3_firstWrongPair 37 = .ok (.ireturn, 1) := by decide +kernel
set_option maxRecDepth 20000 in
theorem ggX3_takenBy_X0_fitting : GoodIn wsX3_takenBy wsX0_fitting := goodIn_r _ [8, 9, 10, 11, 12, 13, 7, 14, 15, 16, 17, 18, 19, 20, 21, 22, 23, 24, 25, 26, 27, 28, 29, 30, 31, 32, 33, 34, 35, 36, 37, 38, 39, 40, 41, 45, 46, 47, 48, 49] (by decide +kernel) (by decide +kernel)
set_option maxRecDepth 20000 in
theorem gX3_takenBy_X0_fitting : GoodIn wsX3_takenBy (wsV RX3 43 RX0 yX0_fitting wsX0_fitting) := goodIn_app (goodIn_of _ (by decide +kernel)) ggX3_takenBy_X0_fitting
set_option maxRecDepth 20000 in
theorem ggX3_takenBy_X4_bitIf : GoodIn wsX3_takenBy wsX4_bitIf := goodIn_r _ [41] (by decide +kernel) (by decide +kernel)
set_option maxRecDepth 20000 in
theorem gX3_takenBy_X4_bitIf_n46 : GoodIn wsX3_takenBy (wsX4_bitIf) := ggX3_takenBy_X4_bitIf
theorem dX3_takenBy_0 : decode cX3_takenBy 0 = .ok (.iconst 0, 1) := by decide +kernel
theorem dX3_takenBy_1 : decode cX3_takenBy 1 = .ok (.istore_n 3, 1) := by decide +kernel
theorem dX3_takenBy_2 : decode cX3_takenBy 2 = .ok (.iconst 0, 1) := by decide +kernel
theorem dX3_takenBy_3 : decode cX3_takenBy 3 = .ok (.istore 4, 2) := by decide +kernel
theorem dX3_takenBy_5 : decode cX3_takenBy 5 = .ok (.iload 4, 2) := by decide +kernel
theorem dX3_takenBy_7 : decode cX3_takenBy 7 = .ok (.aload_n 0, 1) := by decide +kernel
theorem dX3_takenBy_8 : decode cX3_takenBy 8 = .ok (.getfield 18, 3) := by decide +kernel
theorem dX3_takenBy_11 : decode cX3_takenBy 11 = .ok (.if_icmp .ge 45, 3) := by decide +kernel
theorem dX3_takenBy_14 : decode cX3_takenBy 14 = .ok (.iload_n 3, 1) := by decide +kernel
theorem dX3_takenBy_15 : decode cX3_takenBy 15 = .ok (.aload_n 1, 1) := by decide +kernel
theorem dX3_takenBy_16 : decode cX3_takenBy 16 = .ok (.aload_n 0, 1) := by decide +kernel
theorem dX3_takenBy_17 : decode cX3_takenBy 17 = .ok (.getfield 9, 3) := by decide +kernel
theorem dX3_takenBy_20 : decode cX3_takenBy 20 = .ok (.iload 4, 2) := by decide +kernel
theorem dX3_takenBy_22 : decode cX3_takenBy 22 = .ok (.iaload, 1) := by decide +kernel
theorem dX3_takenBy_23 : decode cX3_takenBy 23 = .ok (.aload_n 0, 1) := by decide +kernel
theorem dX3_takenBy_24 : decode cX3_takenBy 24 = .ok (.getfield 15, 3) := by decide +kernel
theorem dX3_takenBy_27 : decode cX3_takenBy 27 = .ok (.iload 4, 2) := by decide +kernel
theorem dX3_takenBy_29 : decode cX3_takenBy 29 = .ok (.iaload, 1) := by decide +kernel
theorem dX3_takenBy_30 : decode cX3_takenBy 30 = .ok (.invokevirtual 43, 3) := by decide +kernel
theorem dX3_takenBy_33 : decode cX3_takenBy 33 = .ok (.iload_n 2, 1) := by decide +kernel
theorem dX3_takenBy_34 : decode cX3_takenBy 34 = .ok (.iand, 1) := by decide +kernel
theorem dX3_takenBy_35 : decode cX3_takenBy 35 = .ok (.ifCond .ne 7, 3) := by decide +kernel
theorem dX3_takenBy_38 : decode cX3_takenBy 38 = .ok (.iconst 1, 1) := by decide +kernel
theorem dX3_takenBy_39 : decode cX3_takenBy 39 = .ok (.goto 4, 3) := by decide +kernel
theorem dX3_takenBy_42 : decode cX3_takenBy 42 = .ok (.iconst 0, 1) := by decide +kernel
theorem dX3_takenBy_43 : decode cX3_takenBy 43 = .ok (.iload 4, 2) := by decide +kernel
theorem dX3_takenBy_45 : decode cX3_takenBy 45 = .ok (.invokestatic 46, 3) := by decide +kernel
theorem dX3_takenBy_48 : decode cX3_takenBy 48 = .ok (.ior, 1) := by decide +kernel
theorem dX3_takenBy_49 : decode cX3_takenBy 49 = .ok (.istore_n 3, 1) := by decide +kernel
theorem dX3_takenBy_50 : decode cX3_takenBy 50 = .ok (.iinc 4 1, 3) := by decide +kernel
theorem dX3_takenBy_53 : decode cX3_takenBy 53 = .ok (.goto (-48), 3) := by decide +kernel
theorem dX3_takenBy_56 : decode cX3_takenBy 56 = .ok (.iload_n 3, 1) := by decide +kernel
theorem dX3_takenBy_57 : decode cX3_takenBy 57 = .ok (.ireturn, 1) := by decide +kernel
theorem dX3_firstOf_0 : decode cX3_firstOf 0 = .ok (.iconst 0, 1) := by decide +kernel
theorem dX3_firstOf_1 : decode cX3_firstOf 1 = .ok (.istore_n 2, 1) := by decide +kernel
theorem dX3_firstOf_2 : decode cX3_firstOf 2 = .ok (.iload_n 2, 1) := by decide +kernel
theorem dX3_firstOf_3 : decode cX3_firstOf 3 = .ok (.aload_n 0, 1) := by decide +kernel
theorem dX3_firstOf_4 : decode cX3_firstOf 4 = .ok (.getfield 18, 3) := by decide +kernel
theorem dX3_firstOf_7 : decode cX3_firstOf 7 = .ok (.if_icmp .ge 19, 3) := by decide +kernel
theorem dX3_firstOf_10 : decode cX3_firstOf 10 = .ok (.iload_n 1, 1) := by decide +kernel
theorem dX3_firstOf_11 : decode cX3_firstOf 11 = .ok (.iconst 1, 1) := by decide +kernel
theorem dX3_firstOf_12 : decode cX3_firstOf 12 = .ok (.iload_n 2, 1) := by decide +kernel
end
section
theorem dX3_firstOf_13 : decode cX3_firstOf 13 = .ok (.ishl, 1) := by decide +kernel
theorem dX3_firstOf_14 : decode cX3_firstOf 14 = .ok (.iand, 1) := by decide +kernel
theorem dX3_firstOf_15 : decode cX3_firstOf 15 = .ok (.ifCond .eq 5, 3) := by decide +kernel
theorem dX3_firstOf_18 : decode cX3_firstOf 18 = .ok (.iload_n 2, 1) := by decide +kernel
theorem dX3_firstOf_19 : decode cX3_firstOf 19 = .ok (.ireturn, 1) := by decide +kernel
theorem dX3_firstOf_20 : decode cX3_firstOf 20 = .ok (.iinc 2 1, 3) := by decide +kernel
theorem dX3_firstOf_23 : decode cX3_firstOf 23 = .ok (.goto (-21), 3) := by decide +kernel
theorem dX3_firstOf_26 : decode cX3_firstOf 26 = .ok (.bipush (-9), 2) := by decide +kernel
theorem dX3_firstOf_28 : decode cX3_firstOf 28 = .ok (.ireturn, 1) := by decide +kernel
set_option maxRecDepth 20000 in
theorem ggX3_goodOnes_X0_doFit : GoodIn wsX3_goodOnes wsX0_doFit := goodIn_r _ [8, 9, 10, 11, 12, 7, 13, 14, 15, 16, 17, 18, 19, 20, 21, 22, 23, 24, 25, 26, 27, 28, 29, 30, 31, 32, 33, 34, 35, 36, 37, 38, 45, 46, 47, 48, 49] (by decide +kernel) (by decide +kernel)
set_option maxRecDepth 20000 in
theorem gX3_goodOnes_X0_doFit : GoodIn wsX3_goodOnes (wsV RX3 50 RX0 yX0_doFit wsX0_doFit) := goodIn_app (goodIn_of _ (by decide +kernel)) ggX3_goodOnes_X0_doFit
set_option maxRecDepth 20000 in
theorem ggX3_goodOnes_X4_bitIf : GoodIn wsX3_goodOnes wsX4_bitIf := goodIn_r _ [41] (by decide +kernel) (by decide +kernel)
set_option maxRecDepth 20000 in
theorem gX3_goodOnes_X4_bitIf_n46 : GoodIn wsX3_goodOnes (wsX4_bitIf) := ggX3_goodOnes_X4_bitIf
theorem dX3_goodOnes_0 : decode cX3_goodOnes 0 = .ok (.iconst 0, 1) := by decide +kernel
theorem dX3_goodOnes_1 : decode cX3_goodOnes 1 = .ok (.istore_n 2, 1) := by decide +kernel
theorem dX3_goodOnes_2 : decode cX3_goodOnes 2 = .ok (.iconst 0, 1) := by decide +kernel
theorem dX3_goodOnes_3 : decode cX3_goodOnes 3 = .ok (.istore_n 3, 1) := by decide +kernel
theorem dX3_goodOnes_4 : decode cX3_goodOnes 4 = .ok (.iload_n 3, 1) := by decide +kernel
theorem dX3_goodOnes_5 : decode cX3_goodOnes 5 = .ok (.aload_n 0, 1) := by decide +kernel
theorem dX3_goodOnes_6 : decode cX3_goodOnes 6 = .ok (.getfield 18, 3) := by decide +kernel
theorem dX3_goodOnes_9 : decode cX3_goodOnes 9 = .ok (.if_icmp .ge 38, 3) := by decide +kernel
theorem dX3_goodOnes_12 : decode cX3_goodOnes 12 = .ok (.iload_n 2, 1) := by decide +kernel
theorem dX3_goodOnes_13 : decode cX3_goodOnes 13 = .ok (.aload_n 1, 1) := by decide +kernel
theorem dX3_goodOnes_14 : decode cX3_goodOnes 14 = .ok (.aload_n 0, 1) := by decide +kernel
theorem dX3_goodOnes_15 : decode cX3_goodOnes 15 = .ok (.getfield 9, 3) := by decide +kernel
theorem dX3_goodOnes_18 : decode cX3_goodOnes 18 = .ok (.iload_n 3, 1) := by decide +kernel
theorem dX3_goodOnes_19 : decode cX3_goodOnes 19 = .ok (.iaload, 1) := by decide +kernel
theorem dX3_goodOnes_20 : decode cX3_goodOnes 20 = .ok (.aload_n 0, 1) := by decide +kernel
theorem dX3_goodOnes_21 : decode cX3_goodOnes 21 = .ok (.getfield 9, 3) := by decide +kernel
theorem dX3_goodOnes_24 : decode cX3_goodOnes 24 = .ok (.iload_n 3, 1) := by decide +kernel
theorem dX3_goodOnes_25 : decode cX3_goodOnes 25 = .ok (.iaload, 1) := by decide +kernel
theorem dX3_goodOnes_26 : decode cX3_goodOnes 26 = .ok (.aload_n 0, 1) := by decide +kernel
theorem dX3_goodOnes_27 : decode cX3_goodOnes 27 = .ok (.getfield 15, 3) := by decide +kernel
theorem dX3_goodOnes_30 : decode cX3_goodOnes 30 = .ok (.iload_n 3, 1) := by decide +kernel
theorem dX3_goodOnes_31 : decode cX3_goodOnes 31 = .ok (.iaload, 1) := by decide +kernel
theorem dX3_goodOnes_32 : decode cX3_goodOnes 32 = .ok (.invokevirtual 50, 3) := by decide +kernel
theorem dX3_goodOnes_35 : decode cX3_goodOnes 35 = .ok (.iload_n 3, 1) := by decide +kernel
theorem dX3_goodOnes_36 : decode cX3_goodOnes 36 = .ok (.invokestatic 46, 3) := by decide +kernel
theorem dX3_goodOnes_39 : decode cX3_goodOnes 39 = .ok (.ior, 1) := by decide +kernel
theorem dX3_goodOnes_40 : decode cX3_goodOnes 40 = .ok (.istore_n 2, 1) := by decide +kernel
theorem dX3_goodOnes_41 : decode cX3_goodOnes 41 = .ok (.iinc 3 1, 3) := by decide +kernel
theorem dX3_goodOnes_44 : decode cX3_goodOnes 44 = .ok (.goto (-40), 3) := by decide +kernel
theorem dX3_goodOnes_47 : decode cX3_goodOnes 47 = .ok (.iload_n 2, 1) := by decide +kernel
theorem dX3_goodOnes_48 : decode cX3_goodOnes 48 = .ok (.ireturn, 1) := by decide +kernel
set_option maxRecDepth 20000 in
theorem ggX3_onesOf_X4_bitIf : GoodIn wsX3_onesOf wsX4_bitIf := goodIn_r _ [5] (by decide +kernel) (by decide +kernel)
set_option maxRecDepth 20000 in
theorem gX3_onesOf_X4_bitIf_n46 : GoodIn wsX3_onesOf (wsX4_bitIf) := ggX3_onesOf_X4_bitIf
theorem dX3_onesOf_0 : decode cX3_onesOf 0 = .ok (.iconst 0, 1) := by decide +kernel
theorem dX3_onesOf_1 : decode cX3_onesOf 1 = .ok (.istore_n 2, 1) := by decide +kernel
theorem dX3_onesOf_2 : decode cX3_onesOf 2 = .ok (.iconst 0, 1) := by decide +kernel
theorem dX3_onesOf_3 : decode cX3_onesOf 3 = .ok (.istore_n 3, 1) := by decide +kernel
theorem dX3_onesOf_4 : decode cX3_onesOf 4 = .ok (.iload_n 3, 1) := by decide +kernel
theorem dX3_onesOf_5 : decode cX3_onesOf 5 = .ok (.aload_n 0, 1) := by decide +kernel
theorem dX3_onesOf_6 : decode cX3_onesOf 6 = .ok (.getfield 18, 3) := by decide +kernel
theorem dX3_onesOf_9 : decode cX3_onesOf 9 = .ok (.if_icmp .ge 31, 3) := by decide +kernel
theorem dX3_onesOf_12 : decode cX3_onesOf 12 = .ok (.iload_n 2, 1) := by decide +kernel
theorem dX3_onesOf_13 : decode cX3_onesOf 13 = .ok (.aload_n 0, 1) := by decide +kernel
theorem dX3_onesOf_14 : decode cX3_onesOf 14 = .ok (.getfield 9, 3) := by decide +kernel
theorem dX3_onesOf_17 : decode cX3_onesOf 17 = .ok (.iload_n 3, 1) := by decide +kernel
theorem dX3_onesOf_18 : decode cX3_onesOf 18 = .ok (.iaload, 1) := by decide +kernel
theorem dX3_onesOf_19 : decode cX3_onesOf 19 = .ok (.iload_n 1, 1) := by decide +kernel
theorem dX3_onesOf_20 : decode cX3_onesOf 20 = .ok (.if_icmp .ne 7, 3) := by decide +kernel
theorem dX3_onesOf_23 : decode cX3_onesOf 23 = .ok (.iconst 1, 1) := by decide +kernel
theorem dX3_onesOf_24 : decode cX3_onesOf 24 = .ok (.goto 4, 3) := by decide +kernel
theorem dX3_onesOf_27 : decode cX3_onesOf 27 = .ok (.iconst 0, 1) := by decide +kernel
theorem dX3_onesOf_28 : decode cX3_onesOf 28 = .ok (.iload_n 3, 1) := by decide +kernel
theorem dX3_onesOf_29 : decode cX3_onesOf 29 = .ok (.invokestatic 46, 3) := by decide +kernel
theorem dX3_onesOf_32 : decode cX3_onesOf 32 = .ok (.ior, 1) := by decide +kernel
theorem dX3_onesOf_33 : decode cX3_onesOf 33 = .ok (.istore_n 2, 1) := by decide +kernel
theorem dX3_onesOf_34 : decode cX3_onesOf 34 = .ok (.iinc 3 1, 3) := by decide +kernel
theorem dX3_onesOf_37 : decode cX3_onesOf 37 = .ok (.goto (-33), 3) := by decide +kernel
theorem dX3_onesOf_40 : decode cX3_onesOf 40 = .ok (.iload_n 2, 1) := by decide +kernel
theorem dX3_onesOf_41 : decode cX3_onesOf 41 = .ok (.ireturn, 1) := by decide +kernel
set_option maxRecDepth 20000 in
theorem ggX4_init_X0_init : GoodIn wsX4_init wsX0_init := goodIn_r _ [23, 24, 2, 3, 25, 26, 27, 28, 29, 30, 58, 59, 60, 61, 62] (by decide +kernel) (by decide +kernel)
set_option maxRecDepth 20000 in
theorem gX4_init_X0_init_n19 : GoodIn wsX4_init (wsX0_init) := ggX4_init_X0_init
set_option maxRecDepth 20000 in
theorem ggX4_init_X3_init : GoodIn wsX4_init wsX3_init := goodIn_r _ [32, 33, 2, 3, 25, 34, 35, 36, 63, 64, 65] (by decide +kernel) (by decide +kernel)
set_option maxRecDepth 20000 in
theorem gX4_init_X3_init_n26 : GoodIn wsX4_init (wsX3_init) := ggX4_init_X3_init
set_option maxRecDepth 20000 in
theorem ggX4_init_X1_init : GoodIn wsX4_init wsX1_init := goodIn_r _ [38, 39, 2, 3, 25, 40, 41, 42, 43, 44, 45, 66, 67, 68, 69, 70] (by decide +kernel) (by decide +kernel)
set_option maxRecDepth 20000 in
theorem gX4_init_X1_init_n33 : GoodIn wsX4_init (wsX1_init) := ggX4_init_X1_init
set_option maxRecDepth 20000 in
theorem ggX4_init_X2_init : GoodIn wsX4_init wsX2_init := goodIn_r _ [47, 48, 2, 3, 25, 49, 50, 51, 71, 72, 73] (by decide +kernel) (by decide +kernel)
set_option maxRecDepth 20000 in
theorem gX4_init_X2_init_n45 : GoodIn wsX4_init (wsX2_init) := ggX4_init_X2_init
theorem dX4_init_0 : decode cX4_init 0 = .ok (.aload_n 0, 1) := by decide +kernel
theorem dX4_init_1 : decode cX4_init 1 = .ok (.invokespecial 3, 3) := by decide +kernel
theorem dX4_init_4 : decode cX4_init 4 = .ok (.aload_n 0, 1) := by decide +kernel
theorem dX4_init_5 : decode cX4_init 5 = .ok (.iconst 4, 1) := by decide +kernel
theorem dX4_init_6 : decode cX4_init 6 = .ok (.anewarray 11, 3) := by decide +kernel
theorem dX4_init_9 : decode cX4_init 9 = .ok (.putfield 13, 3) := by decide +kernel
theorem dX4_init_12 : decode cX4_init 12 = .ok (.aload_n 0, 1) := by decide +kernel
theorem dX4_init_13 : decode cX4_init 13 = .ok (.new 17, 3) := by decide +kernel
theorem dX4_init_16 : decode cX4_init 16 = .ok (.dup, 1) := by decide +kernel
theorem dX4_init_17 : decode cX4_init 17 = .ok (.invokespecial 19, 3) := by decide +kernel
theorem dX4_init_20 : decode cX4_init 20 = .ok (.putfield 20, 3) := by decide +kernel
theorem dX4_init_23 : decode cX4_init 23 = .ok (.aload_n 0, 1) := by decide +kernel
theorem dX4_init_24 : decode cX4_init 24 = .ok (.new 24, 3) := by decide +kernel
theorem dX4_init_27 : decode cX4_init 27 = .ok (.dup, 1) := by decide +kernel
theorem dX4_init_28 : decode cX4_init 28 = .ok (.invokespecial 26, 3) := by decide +kernel
theorem dX4_init_31 : decode cX4_init 31 = .ok (.putfield 27, 3) := by decide +kernel
theorem dX4_init_34 : decode cX4_init 34 = .ok (.aload_n 0, 1) := by decide +kernel
theorem dX4_init_35 : decode cX4_init 35 = .ok (.new 31, 3) := by decide +kernel
theorem dX4_init_38 : decode cX4_init 38 = .ok (.dup, 1) := by decide +kernel
theorem dX4_init_39 : decode cX4_init 39 = .ok (.invokespecial 33, 3) := by decide +kernel
theorem dX4_init_42 : decode cX4_init 42 = .ok (.putfield 34, 3) := by decide +kernel
theorem dX4_init_45 : decode cX4_init 45 = .ok (.aload_n 0, 1) := by decide +kernel
theorem dX4_init_46 : decode cX4_init 46 = .ok (.iconst 0, 1) := by decide +kernel
theorem dX4_init_47 : decode cX4_init 47 = .ok (.putfield 38, 3) := by decide +kernel
theorem dX4_init_50 : decode cX4_init 50 = .ok (.aload_n 0, 1) := by decide +kernel
theorem dX4_init_51 : decode cX4_init 51 = .ok (.iconst 0, 1) := by decide +kernel
theorem dX4_init_52 : decode cX4_init 52 = .ok (.putfield 42, 3) := by decide +kernel
theorem dX4_init_55 : decode cX4_init 55 = .ok (.iconst 0, 1) := by decide +kernel
theorem dX4_init_56 : decode cX4_init 56 = .ok (.istore_n 1, 1) := by decide +kernel
theorem dX4_init_57 : decode cX4_init 57 = .ok (.iload_n 1, 1) := by decide +kernel
theorem dX4_init_58 : decode cX4_init 58 = .ok (.iconst 4, 1) := by decide +kernel
theorem dX4_init_59 : decode cX4_init 59 = .ok (.if_icmp .ge 22, 3) := by decide +kernel
theorem dX4_init_62 : decode cX4_init 62 = .ok (.aload_n 0, 1) := by decide +kernel
theorem dX4_init_63 : decode cX4_init 63 = .ok (.getfield 13, 3) := by decide +kernel
theorem dX4_init_66 : decode cX4_init 66 = .ok (.iload_n 1, 1) := by decide +kernel
theorem dX4_init_67 : decode cX4_init 67 = .ok (.new 11, 3) := by decide +kernel
theorem dX4_init_70 : decode cX4_init 70 = .ok (.dup, 1) := by decide +kernel
theorem dX4_init_71 : decode cX4_init 71 = .ok (.invokespecial 45, 3) := by decide +kernel
theorem dX4_init_74 : decode cX4_init 74 = .ok (.aastore, 1) := by decide +kernel
theorem dX4_init_75 : decode cX4_init 75 = .ok (.iinc 1 1, 3) := by decide +kernel
theorem dX4_init_78 : decode cX4_init 78 = .ok (.goto (-21), 3) := by decide +kernel
theorem dX4_init_81 : decode cX4_init 81 = .ok (.return_, 1) := by decide +kernel
set_option maxRecDepth 20000 in
theorem ggX4_coast_X4_isSheet : GoodIn wsX4_coast wsX4_isSheet := goodIn_r _ [8, 9, 10, 7, 11] (by decide +kernel) (by decide +kernel)
set_option maxRecDepth 20000 in
theorem gX4_coast_X4_isSheet : GoodIn wsX4_coast (va_wsS RX4 46 yX4_isSheet wsX4_isSheet) := goodIn_app (goodIn_of _ (by decide +kernel)) ggX4_coast_X4_isSheet
set_option maxRecDepth 20000 in
theorem ggX4_coast_X4_isLane : GoodIn wsX4_coast wsX4_isLane := goodIn_r _ [14, 9, 10, 7, 11] (by decide +kernel) (by decide +kernel)
set_option maxRecDepth 20000 in
theorem gX4_coast_X4_isLane : GoodIn wsX4_coast (va_wsS RX4 50 yX4_isLane wsX4_isLane) := goodIn_app (goodIn_of _ (by decide +kernel)) ggX4_coast_X4_isLane
set_option maxRecDepth 20000 in
theorem ggX4_coast_X4_faultOfText : GoodIn wsX4_coast wsX4_faultOfText := goodIn_r _ [17, 18, 19, 7, 20, 21, 22, 23, 24, 25, 26, 27, 28, 29, 30, 31, 32, 33, 34, 35, 36, 37, 38, 101, 102, 103] (by decide +kernel) (by decide +kernel)
set_option maxRecDepth 20000 in
theorem gX4_coast_X4_faultOfText : GoodIn wsX4_coast (va_wsS RX4 53 yX4_faultOfText wsX4_faultOfText) := goodIn_app (goodIn_of _ (by decide +kernel)) ggX4_coast_X4_faultOfText
set_option maxRecDepth 20000 in
theorem ggX4_coast_X0_firstWrongCode : GoodIn wsX4_coast wsX0_firstWrongCode := goodIn_r _ [42, 43, 44, 45, 27, 46, 47, 48, 49, 50, 51, 38, 52, 53, 41, 54, 55, 56, 57, 101, 102, 103] (by decide +kernel) (by decide +kernel)
set_option maxRecDepth 20000 in
theorem gX4_coast_X0_firstWrongCode : GoodIn wsX4_coast (va_wsS RX4 57 yX0_firstWrongCode wsX0_firstWrongCode) := goodIn_app (goodIn_of _ (by decide +kernel)) ggX4_coast_X0_firstWrongCode
set_option maxRecDepth 20000 in
theorem ggX4_coast_X0_takeText : GoodIn wsX4_coast wsX0_takeText := goodIn_r _ [61, 62, 63, 64, 65, 66, 67, 68, 43, 44, 45, 27, 46, 47, 48, 49, 50, 51, 38, 69, 70, 41, 71, 72, 73, 74, 75, 76, 77, 78, 79, 80, 104, 105, 106, 107, 108, 101, 102, 103] (by decide +kernel) (by decide +kernel)
set_option maxRecDepth 20000 in
theorem gX4_coast_X0_takeText : GoodIn wsX4_coast (wsV RX4 61 RX0 yX0_takeText wsX0_takeText) := goodIn_app (goodIn_of _ (by decide +kernel)) ggX4_coast_X0_takeText
set_option maxRecDepth 20000 in
theorem ggX4_coast_X1_howMany : GoodIn wsX4_coast wsX1_howMany := goodIn_r _ [85, 86, 109, 110, 111, 112, 113] (by decide +kernel) (by decide +kernel)
set_option maxRecDepth 20000 in
theorem gX4_coast_X1_howMany : GoodIn wsX4_coast (wsV RX4 65 RX1 yX1_howMany wsX1_howMany) := goodIn_app (goodIn_of _ (by decide +kernel)) ggX4_coast_X1_howMany
set_option maxRecDepth 20000 in
theorem ggX4_coast_X1_dropLast : GoodIn wsX4_coast wsX1_dropLast := goodIn_r _ [90, 86, 109, 110, 111, 112, 113] (by decide +kernel) (by decide +kernel)
set_option maxRecDepth 20000 in
theorem gX4_coast_X1_dropLast : GoodIn wsX4_coast (wsV RX4 69 RX1 yX1_dropLast wsX1_dropLast) := goodIn_app (goodIn_of _ (by decide +kernel)) ggX4_coast_X1_dropLast
set_option maxRecDepth 20000 in
theorem ggX4_coast_X0_howMany : GoodIn wsX4_coast wsX0_howMany := goodIn_r _ [94, 66, 104, 105, 106, 107, 108] (by decide +kernel) (by decide +kernel)
set_option maxRecDepth 20000 in
theorem gX4_coast_X0_howMany : GoodIn wsX4_coast (wsV RX4 73 RX0 yX0_howMany wsX0_howMany) := goodIn_app (goodIn_of _ (by decide +kernel)) ggX4_coast_X0_howMany
theorem dX4_coast_0 : decode cX4_coast 0 = .ok (.aload_n 0, 1) := by decide +kernel
theorem dX4_coast_1 : decode cX4_coast 1 = .ok (.iconst 0, 1) := by decide +kernel
theorem dX4_coast_2 : decode cX4_coast 2 = .ok (.putfield 42, 3) := by decide +kernel
theorem dX4_coast_5 : decode cX4_coast 5 = .ok (.iload_n 1, 1) := by decide +kernel
theorem dX4_coast_6 : decode cX4_coast 6 = .ok (.invokestatic 46, 3) := by decide +kernel
theorem dX4_coast_9 : decode cX4_coast 9 = .ok (.ifCond .ne 5, 3) := by decide +kernel
theorem dX4_coast_12 : decode cX4_coast 12 = .ok (.iconst (-1), 1) := by decide +kernel
theorem dX4_coast_13 : decode cX4_coast 13 = .ok (.ireturn, 1) := by decide +kernel
theorem dX4_coast_14 : decode cX4_coast 14 = .ok (.iload_n 2, 1) := by decide +kernel
theorem dX4_coast_15 : decode cX4_coast 15 = .ok (.invokestatic 50, 3) := by decide +kernel
theorem dX4_coast_18 : decode cX4_coast 18 = .ok (.ifCond .ne 6, 3) := by decide +kernel
theorem dX4_coast_21 : decode cX4_coast 21 = .ok (.bipush (-2), 2) := by decide +kernel
theorem dX4_coast_23 : decode cX4_coast 23 = .ok (.ireturn, 1) := by decide +kernel
theorem dX4_coast_24 : decode cX4_coast 24 = .ok (.aload_n 0, 1) := by decide +kernel
theorem dX4_coast_25 : decode cX4_coast 25 = .ok (.aload_n 0, 1) := by decide +kernel
theorem dX4_coast_26 : decode cX4_coast 26 = .ok (.getfield 13, 3) := by decide +kernel
theorem dX4_coast_29 : decode cX4_coast 29 = .ok (.iload_n 1, 1) := by decide +kernel
theorem dX4_coast_30 : decode cX4_coast 30 = .ok (.aaload, 1) := by decide +kernel
theorem dX4_coast_31 : decode cX4_coast 31 = .ok (.iload_n 2, 1) := by decide +kernel
theorem dX4_coast_32 : decode cX4_coast 32 = .ok (.iload_n 3, 1) := by decide +kernel
theorem dX4_coast_33 : decode cX4_coast 33 = .ok (.iload 4, 2) := by decide +kernel
theorem dX4_coast_35 : decode cX4_coast 35 = .ok (.invokestatic 53, 3) := by decide +kernel
theorem dX4_coast_38 : decode cX4_coast 38 = .ok (.putfield 42, 3) := by decide +kernel
theorem dX4_coast_41 : decode cX4_coast 41 = .ok (.aload_n 0, 1) := by decide +kernel
theorem dX4_coast_42 : decode cX4_coast 42 = .ok (.getfield 42, 3) := by decide +kernel
theorem dX4_coast_45 : decode cX4_coast 45 = .ok (.ifCond .eq 11, 3) := by decide +kernel
theorem dX4_coast_48 : decode cX4_coast 48 = .ok (.bipush (-10), 2) := by decide +kernel
theorem dX4_coast_50 : decode cX4_coast 50 = .ok (.aload_n 0, 1) := by decide +kernel
theorem dX4_coast_51 : decode cX4_coast 51 = .ok (.getfield 42, 3) := by decide +kernel
theorem dX4_coast_54 : decode cX4_coast 54 = .ok (.isub, 1) := by decide +kernel
theorem dX4_coast_55 : decode cX4_coast 55 = .ok (.ireturn, 1) := by decide +kernel
theorem dX4_coast_56 : decode cX4_coast 56 = .ok (.aload_n 0, 1) := by decide +kernel
theorem dX4_coast_57 : decode cX4_coast 57 = .ok (.getfield 13, 3) := by decide +kernel
theorem dX4_coast_60 : decode cX4_coast 60 = .ok (.iload_n 1, 1) := by decide +kernel
theorem dX4_coast_61 : decode cX4_coast 61 = .ok (.aaload, 1) := by decide +kernel
theorem dX4_coast_62 : decode cX4_coast 62 = .ok (.iload_n 3, 1) := by decide +kernel
theorem dX4_coast_63 : decode cX4_coast 63 = .ok (.iload 4, 2) := by decide +kernel
theorem dX4_coast_65 : decode cX4_coast 65 = .ok (.invokestatic 57, 3) := by decide +kernel
theorem dX4_coast_68 : decode cX4_coast 68 = .ok (.istore 5, 2) := by decide +kernel
theorem dX4_coast_70 : decode cX4_coast 70 = .ok (.iload 5, 2) := by decide +kernel
theorem dX4_coast_72 : decode cX4_coast 72 = .ok (.bipush (-9), 2) := by decide +kernel
theorem dX4_coast_74 : decode cX4_coast 74 = .ok (.if_icmp .eq 9, 3) := by decide +kernel
theorem dX4_coast_77 : decode cX4_coast 77 = .ok (.bipush (-100), 2) := by decide +kernel
theorem dX4_coast_79 : decode cX4_coast 79 = .ok (.iload 5, 2) := by decide +kernel
theorem dX4_coast_81 : decode cX4_coast 81 = .ok (.isub, 1) := by decide +kernel
theorem dX4_coast_82 : decode cX4_coast 82 = .ok (.ireturn, 1) := by decide +kernel
theorem dX4_coast_83 : decode cX4_coast 83 = .ok (.aload_n 0, 1) := by decide +kernel
theorem dX4_coast_84 : decode cX4_coast 84 = .ok (.getfield 20, 3) := by decide +kernel
theorem dX4_coast_87 : decode cX4_coast 87 = .ok (.aload_n 0, 1) := by decide +kernel
theorem dX4_coast_88 : decode cX4_coast 88 = .ok (.getfield 13, 3) := by decide +kernel
theorem dX4_coast_91 : decode cX4_coast 91 = .ok (.iload_n 1, 1) := by decide +kernel
theorem dX4_coast_92 : decode cX4_coast 92 = .ok (.aaload, 1) := by decide +kernel
theorem dX4_coast_93 : decode cX4_coast 93 = .ok (.iload_n 3, 1) := by decide +kernel
theorem dX4_coast_94 : decode cX4_coast 94 = .ok (.iload 4, 2) := by decide +kernel
theorem dX4_coast_96 : decode cX4_coast 96 = .ok (.invokevirtual 61, 3) := by decide +kernel
theorem dX4_coast_99 : decode cX4_coast 99 = .ok (.aload_n 0, 1) := by decide +kernel
theorem dX4_coast_100 : decode cX4_coast 100 = .ok (.getfield 34, 3) := by decide +kernel
theorem dX4_coast_103 : decode cX4_coast 103 = .ok (.aload_n 0, 1) := by decide +kernel
theorem dX4_coast_104 : decode cX4_coast 104 = .ok (.getfield 34, 3) := by decide +kernel
theorem dX4_coast_107 : decode cX4_coast 107 = .ok (.invokevirtual 65, 3) := by decide +kernel
theorem dX4_coast_110 : decode cX4_coast 110 = .ok (.invokevirtual 69, 3) := by decide +kernel
theorem dX4_coast_113 : decode cX4_coast 113 = .ok (.aload_n 0, 1) := by decide +kernel
theorem dX4_coast_114 : decode cX4_coast 114 = .ok (.getfield 20, 3) := by decide +kernel
theorem dX4_coast_117 : decode cX4_coast 117 = .ok (.invokevirtual 73, 3) := by decide +kernel
theorem dX4_coast_120 : decode cX4_coast 120 = .ok (.ireturn, 1) := by decide +kernel
set_option maxRecDepth 20000 in
theorem ggX4_ofPass_X0_hasPass : GoodIn wsX4_ofPass wsX0_hasPass := goodIn_r _ [6, 7, 29, 30, 31, 32, 33] (by decide +kernel) (by decide +kernel)
set_option maxRecDepth 20000 in
theorem gX4_ofPass_X0_hasPass : GoodIn wsX4_ofPass (wsV RX4 74 RX0 yX0_hasPass wsX0_hasPass) := goodIn_app (goodIn_of _ (by decide +kernel)) ggX4_ofPass_X0_hasPass
set_option maxRecDepth 20000 in
theorem ggX4_ofPass_X4_within : GoodIn wsX4_ofPass wsX4_within := goodIn_r _ [11] (by decide +kernel) (by decide +kernel)
set_option maxRecDepth 20000 in
theorem gX4_ofPass_X4_within : GoodIn wsX4_ofPass (va_wsS RX4 77 yX4_within wsX4_within) := goodIn_app (goodIn_of _ (by decide +kernel)) ggX4_ofPass_X4_within
set_option maxRecDepth 20000 in
theorem ggX4_ofPass_X0_kindOf : GoodIn wsX4_ofPass wsX0_kindOf := goodIn_r _ [15, 16, 17, 3, 4, 5, 6, 7, 29, 30, 31, 32, 33] (by decide +kernel) (by decide +kernel)
set_option maxRecDepth 20000 in
theorem gX4_ofPass_X0_kindOf : GoodIn wsX4_ofPass (wsV RX4 81 RX0 yX0_kindOf wsX0_kindOf) := goodIn_app (goodIn_of _ (by decide +kernel)) ggX4_ofPass_X0_kindOf
set_option maxRecDepth 20000 in
theorem ggX4_ofPass_X0_heightOf : GoodIn wsX4_ofPass wsX0_heightOf := goodIn_r _ [21, 22, 17, 3, 4, 5, 6, 7, 29, 30, 31, 32, 33] (by decide +kernel) (by decide +kernel)
set_option maxRecDepth 20000 in
theorem gX4_ofPass_X0_heightOf : GoodIn wsX4_ofPass (wsV RX4 85 RX0 yX0_heightOf wsX0_heightOf) := goodIn_app (goodIn_of _ (by decide +kernel)) ggX4_ofPass_X0_heightOf
theorem dX4_ofPass_0 : decode cX4_ofPass 0 = .ok (.aload_n 0, 1) := by decide +kernel
theorem dX4_ofPass_1 : decode cX4_ofPass 1 = .ok (.getfield 20, 3) := by decide +kernel
theorem dX4_ofPass_4 : decode cX4_ofPass 4 = .ok (.iload_n 1, 1) := by decide +kernel
theorem dX4_ofPass_5 : decode cX4_ofPass 5 = .ok (.invokevirtual 74, 3) := by decide +kernel
theorem dX4_ofPass_8 : decode cX4_ofPass 8 = .ok (.ifCond .ne 5, 3) := by decide +kernel
theorem dX4_ofPass_11 : decode cX4_ofPass 11 = .ok (.iconst (-1), 1) := by decide +kernel
theorem dX4_ofPass_12 : decode cX4_ofPass 12 = .ok (.ireturn, 1) := by decide +kernel
theorem dX4_ofPass_13 : decode cX4_ofPass 13 = .ok (.iload_n 2, 1) := by decide +kernel
theorem dX4_ofPass_14 : decode cX4_ofPass 14 = .ok (.iconst 0, 1) := by decide +kernel
theorem dX4_ofPass_15 : decode cX4_ofPass 15 = .ok (.iconst 3, 1) := by decide +kernel
theorem dX4_ofPass_16 : decode cX4_ofPass 16 = .ok (.invokestatic 77, 3) := by decide +kernel
theorem dX4_ofPass_19 : decode cX4_ofPass 19 = .ok (.ifCond .ne 6, 3) := by decide +kernel
theorem dX4_ofPass_22 : decode cX4_ofPass 22 = .ok (.bipush (-2), 2) := by decide +kernel
theorem dX4_ofPass_24 : decode cX4_ofPass 24 = .ok (.ireturn, 1) := by decide +kernel
theorem dX4_ofPass_25 : decode cX4_ofPass 25 = .ok (.iload_n 2, 1) := by decide +kernel
theorem dX4_ofPass_26 : decode cX4_ofPass 26 = .ok (.ifCond .ne 14, 3) := by decide +kernel
theorem dX4_ofPass_29 : decode cX4_ofPass 29 = .ok (.aload_n 0, 1) := by decide +kernel
theorem dX4_ofPass_30 : decode cX4_ofPass 30 = .ok (.getfield 20, 3) := by decide +kernel
theorem dX4_ofPass_33 : decode cX4_ofPass 33 = .ok (.iload_n 1, 1) := by decide +kernel
theorem dX4_ofPass_34 : decode cX4_ofPass 34 = .ok (.invokevirtual 81, 3) := by decide +kernel
theorem dX4_ofPass_37 : decode cX4_ofPass 37 = .ok (.goto 14, 3) := by decide +kernel
theorem dX4_ofPass_40 : decode cX4_ofPass 40 = .ok (.aload_n 0, 1) := by decide +kernel
theorem dX4_ofPass_41 : decode cX4_ofPass 41 = .ok (.getfield 20, 3) := by decide +kernel
theorem dX4_ofPass_44 : decode cX4_ofPass 44 = .ok (.iload_n 1, 1) := by decide +kernel
theorem dX4_ofPass_45 : decode cX4_ofPass 45 = .ok (.iload_n 2, 1) := by decide +kernel
theorem dX4_ofPass_46 : decode cX4_ofPass 46 = .ok (.iconst 1, 1) := by decide +kernel
theorem dX4_ofPass_47 : decode cX4_ofPass 47 = .ok (.isub, 1) := by decide +kernel
theorem dX4_ofPass_48 : decode cX4_ofPass 48 = .ok (.invokevirtual 85, 3) := by decide +kernel
theorem dX4_ofPass_51 : decode cX4_ofPass 51 = .ok (.ireturn, 1) := by decide +kernel
set_option maxRecDepth 20000 in
theorem ggX4_trim_X0_hasPass : GoodIn wsX4_trim wsX0_hasPass := goodIn_r _ [6, 7, 31, 32, 33, 34, 35] (by decide +kernel) (by decide +kernel)
set_option maxRecDepth 20000 in
theorem gX4_trim_X0_hasPass : GoodIn wsX4_trim (wsV RX4 74 RX0 yX0_hasPass wsX0_hasPass) := goodIn_app (goodIn_of _ (by decide +kernel)) ggX4_trim_X0_hasPass
set_option maxRecDepth 20000 in
theorem ggX4_trim_X4_isPlace : GoodIn wsX4_trim wsX4_isPlace := goodIn_r _ [11, 12, 13, 10, 14] (by decide +kernel) (by decide +kernel)
set_option maxRecDepth 20000 in
theorem gX4_trim_X4_isPlace : GoodIn wsX4_trim (va_wsS RX4 89 yX4_isPlace wsX4_isPlace) := goodIn_app (goodIn_of _ (by decide +kernel)) ggX4_trim_X4_isPlace
set_option maxRecDepth 20000 in
theorem ggX4_trim_X4_within : GoodIn wsX4_trim wsX4_within := goodIn_r _ [14] (by decide +kernel) (by decide +kernel)
set_option maxRecDepth 20000 in
theorem gX4_trim_X4_within : GoodIn wsX4_trim (va_wsS RX4 77 yX4_within wsX4_within) := goodIn_app (goodIn_of _ (by decide +kernel)) ggX4_trim_X4_within
set_option maxRecDepth 20000 in
theorem ggX4_trim_X0_heightOf : GoodIn wsX4_trim wsX0_heightOf := goodIn_r _ [18, 19, 20, 3, 4, 5, 6, 7, 31, 32, 33, 34, 35] (by decide +kernel) (by decide +kernel)
set_option maxRecDepth 20000 in
theorem gX4_trim_X0_heightOf : GoodIn wsX4_trim (wsV RX4 85 RX0 yX0_heightOf wsX0_heightOf) := goodIn_app (goodIn_of _ (by decide +kernel)) ggX4_trim_X0_heightOf
set_option maxRecDepth 20000 in
theorem ggX4_trim_X0_setHeight : GoodIn wsX4_trim wsX0_setHeight := goodIn_r _ [24, 19, 20, 3, 4, 5, 6, 7, 31, 32, 33, 34, 35] (by decide +kernel) (by decide +kernel)
set_option maxRecDepth 20000 in
theorem gX4_trim_X0_setHeight : GoodIn wsX4_trim (wsV RX4 92 RX0 yX0_setHeight wsX0_setHeight) := goodIn_app (goodIn_of _ (by decide +kernel)) ggX4_trim_X0_setHeight
theorem dX4_trim_0 : decode cX4_trim 0 = .ok (.aload_n 0, 1) := by decide +kernel
theorem dX4_trim_1 : decode cX4_trim 1 = .ok (.getfield 20, 3) := by decide +kernel
theorem dX4_trim_4 : decode cX4_trim 4 = .ok (.iload_n 1, 1) := by decide +kernel
theorem dX4_trim_5 : decode cX4_trim 5 = .ok (.invokevirtual 74, 3) := by decide +kernel
theorem dX4_trim_8 : decode cX4_trim 8 = .ok (.ifCond .ne 5, 3) := by decide +kernel
theorem dX4_trim_11 : decode cX4_trim 11 = .ok (.iconst (-1), 1) := by decide +kernel
theorem dX4_trim_12 : decode cX4_trim 12 = .ok (.ireturn, 1) := by decide +kernel
theorem dX4_trim_13 : decode cX4_trim 13 = .ok (.iload_n 2, 1) := by decide +kernel
theorem dX4_trim_14 : decode cX4_trim 14 = .ok (.invokestatic 89, 3) := by decide +kernel
theorem dX4_trim_17 : decode cX4_trim 17 = .ok (.ifCond .eq 13, 3) := by decide +kernel
theorem dX4_trim_20 : decode cX4_trim 20 = .ok (.iload_n 3, 1) := by decide +kernel
theorem dX4_trim_21 : decode cX4_trim 21 = .ok (.iconst 0, 1) := by decide +kernel
theorem dX4_trim_22 : decode cX4_trim 22 = .ok (.bipush 9, 2) := by decide +kernel
theorem dX4_trim_24 : decode cX4_trim 24 = .ok (.invokestatic 77, 3) := by decide +kernel
theorem dX4_trim_27 : decode cX4_trim 27 = .ok (.ifCond .ne 6, 3) := by decide +kernel
theorem dX4_trim_30 : decode cX4_trim 30 = .ok (.bipush (-2), 2) := by decide +kernel
theorem dX4_trim_32 : decode cX4_trim 32 = .ok (.ireturn, 1) := by decide +kernel
theorem dX4_trim_33 : decode cX4_trim 33 = .ok (.aload_n 0, 1) := by decide +kernel
theorem dX4_trim_34 : decode cX4_trim 34 = .ok (.getfield 20, 3) := by decide +kernel
theorem dX4_trim_37 : decode cX4_trim 37 = .ok (.iload_n 1, 1) := by decide +kernel
theorem dX4_trim_38 : decode cX4_trim 38 = .ok (.iload_n 2, 1) := by decide +kernel
theorem dX4_trim_39 : decode cX4_trim 39 = .ok (.invokevirtual 85, 3) := by decide +kernel
theorem dX4_trim_42 : decode cX4_trim 42 = .ok (.istore 4, 2) := by decide +kernel
theorem dX4_trim_44 : decode cX4_trim 44 = .ok (.aload_n 0, 1) := by decide +kernel
theorem dX4_trim_45 : decode cX4_trim 45 = .ok (.getfield 20, 3) := by decide +kernel
theorem dX4_trim_48 : decode cX4_trim 48 = .ok (.iload_n 1, 1) := by decide +kernel
theorem dX4_trim_49 : decode cX4_trim 49 = .ok (.iload_n 2, 1) := by decide +kernel
theorem dX4_trim_50 : decode cX4_trim 50 = .ok (.iload_n 3, 1) := by decide +kernel
theorem dX4_trim_51 : decode cX4_trim 51 = .ok (.invokevirtual 92, 3) := by decide +kernel
theorem dX4_trim_54 : decode cX4_trim 54 = .ok (.iload 4, 2) := by decide +kernel
theorem dX4_trim_56 : decode cX4_trim 56 = .ok (.ireturn, 1) := by decide +kernel
set_option maxRecDepth 20000 in
theorem ggX4_slack_X4_within : GoodIn wsX4_slack wsX4_within := goodIn_r _ [5] (by decide +kernel) (by decide +kernel)
set_option maxRecDepth 20000 in
theorem gX4_slack_X4_within : GoodIn wsX4_slack (va_wsS RX4 77 yX4_within wsX4_within) := goodIn_app (goodIn_of _ (by decide +kernel)) ggX4_slack_X4_within
set_option maxRecDepth 20000 in
theorem ggX4_slack_X0_stands : GoodIn wsX4_slack wsX0_stands := goodIn_r _ [10, 11, 27, 28, 29, 30, 31] (by decide +kernel) (by decide +kernel)
set_option maxRecDepth 20000 in
theorem gX4_slack_X0_stands : GoodIn wsX4_slack (wsV RX4 96 RX0 yX0_stands wsX0_stands) := goodIn_app (goodIn_of _ (by decide +kernel)) ggX4_slack_X0_stands
set_option maxRecDepth 20000 in
theorem ggX4_slack_X0_slackNow : GoodIn wsX4_slack wsX0_slackNow := goodIn_r _ [15, 16, 27, 28, 29, 30, 31] (by decide +kernel) (by decide +kernel)
set_option maxRecDepth 20000 in
theorem gX4_slack_X0_slackNow : GoodIn wsX4_slack (wsV RX4 100 RX0 yX0_slackNow wsX0_slackNow) := goodIn_app (goodIn_of _ (by decide +kernel)) ggX4_slack_X0_slackNow
set_option maxRecDepth 20000 in
theorem ggX4_slack_X0_setSlack : GoodIn wsX4_slack wsX0_setSlack := goodIn_r _ [20, 16, 27, 28, 29, 30, 31] (by decide +kernel) (by decide +kernel)
set_option maxRecDepth 20000 in
theorem gX4_slack_X0_setSlack : GoodIn wsX4_slack (wsV RX4 103 RX0 yX0_setSlack wsX0_setSlack) := goodIn_app (goodIn_of _ (by decide +kernel)) ggX4_slack_X0_setSlack
theorem dX4_slack_0 : decode cX4_slack 0 = .ok (.iload_n 1, 1) := by decide +kernel
theorem dX4_slack_1 : decode cX4_slack 1 = .ok (.iconst 0, 1) := by decide +kernel
theorem dX4_slack_2 : decode cX4_slack 2 = .ok (.bipush 9, 2) := by decide +kernel
theorem dX4_slack_4 : decode cX4_slack 4 = .ok (.invokestatic 77, 3) := by decide +kernel
theorem dX4_slack_7 : decode cX4_slack 7 = .ok (.ifCond .ne 6, 3) := by decide +kernel
theorem dX4_slack_10 : decode cX4_slack 10 = .ok (.bipush (-2), 2) := by decide +kernel
theorem dX4_slack_12 : decode cX4_slack 12 = .ok (.ireturn, 1) := by decide +kernel
theorem dX4_slack_13 : decode cX4_slack 13 = .ok (.aload_n 0, 1) := by decide +kernel
theorem dX4_slack_14 : decode cX4_slack 14 = .ok (.getfield 20, 3) := by decide +kernel
theorem dX4_slack_17 : decode cX4_slack 17 = .ok (.invokevirtual 96, 3) := by decide +kernel
theorem dX4_slack_20 : decode cX4_slack 20 = .ok (.ifCond .ne 6, 3) := by decide +kernel
theorem dX4_slack_23 : decode cX4_slack 23 = .ok (.bipush (-3), 2) := by decide +kernel
theorem dX4_slack_25 : decode cX4_slack 25 = .ok (.ireturn, 1) := by decide +kernel
theorem dX4_slack_26 : decode cX4_slack 26 = .ok (.aload_n 0, 1) := by decide +kernel
theorem dX4_slack_27 : decode cX4_slack 27 = .ok (.getfield 20, 3) := by decide +kernel
theorem dX4_slack_30 : decode cX4_slack 30 = .ok (.invokevirtual 100, 3) := by decide +kernel
theorem dX4_slack_33 : decode cX4_slack 33 = .ok (.istore_n 2, 1) := by decide +kernel
theorem dX4_slack_34 : decode cX4_slack 34 = .ok (.aload_n 0, 1) := by decide +kernel
theorem dX4_slack_35 : decode cX4_slack 35 = .ok (.getfield 20, 3) := by decide +kernel
theorem dX4_slack_38 : decode cX4_slack 38 = .ok (.iload_n 1, 1) := by decide +kernel
theorem dX4_slack_39 : decode cX4_slack 39 = .ok (.invokevirtual 103, 3) := by decide +kernel
theorem dX4_slack_42 : decode cX4_slack 42 = .ok (.iload_n 2, 1) := by decide +kernel
theorem dX4_slack_43 : decode cX4_slack 43 = .ok (.ireturn, 1) := by decide +kernel
set_option maxRecDepth 20000 in
theorem ggX4_worn_X0_hasPass : GoodIn wsX4_worn wsX0_hasPass := goodIn_r _ [6, 7, 46, 47, 48, 49, 50] (by decide +kernel) (by decide +kernel)
set_option maxRecDepth 20000 in
theorem gX4_worn_X0_hasPass : GoodIn wsX4_worn (wsV RX4 74 RX0 yX0_hasPass wsX0_hasPass) := goodIn_app (goodIn_of _ (by decide +kernel)) ggX4_worn_X0_hasPass
set_option maxRecDepth 20000 in
theorem ggX4_worn_X4_isPlace : GoodIn wsX4_worn wsX4_isPlace := goodIn_r _ [11, 12, 13, 10, 14] (by decide +kernel) (by decide +kernel)
set_option maxRecDepth 20000 in
theorem gX4_worn_X4_isPlace : GoodIn wsX4_worn (va_wsS RX4 89 yX4_isPlace wsX4_isPlace) := goodIn_app (goodIn_of _ (by decide +kernel)) ggX4_worn_X4_isPlace
set_option maxRecDepth 20000 in
theorem ggX4_worn_X4_isMonths : GoodIn wsX4_worn wsX4_isMonths := goodIn_r _ [17, 12, 13, 10, 14] (by decide +kernel) (by decide +kernel)
set_option maxRecDepth 20000 in
theorem gX4_worn_X4_isMonths : GoodIn wsX4_worn (va_wsS RX4 106 yX4_isMonths wsX4_isMonths) := goodIn_app (goodIn_of _ (by decide +kernel)) ggX4_worn_X4_isMonths
set_option maxRecDepth 20000 in
theorem ggX4_worn_X0_lowerHeight : GoodIn wsX4_worn wsX0_lowerHeight := goodIn_r _ [21, 22, 23, 24, 25, 26, 27, 28, 5, 29, 30, 31, 3, 4, 6, 7, 32, 33, 34, 35, 36, 37, 38, 39, 46, 47, 48, 49, 50] (by decide +kernel) (by decide +kernel)
set_option maxRecDepth 20000 in
theorem gX4_worn_X0_lowerHeight : GoodIn wsX4_worn (wsV RX4 109 RX0 yX0_lowerHeight wsX0_lowerHeight) := goodIn_app (goodIn_of _ (by decide +kernel)) ggX4_worn_X0_lowerHeight
theorem dX4_worn_0 : decode cX4_worn 0 = .ok (.aload_n 0, 1) := by decide +kernel
theorem dX4_worn_1 : decode cX4_worn 1 = .ok (.getfield 20, 3) := by decide +kernel
theorem dX4_worn_4 : decode cX4_worn 4 = .ok (.iload_n 1, 1) := by decide +kernel
theorem dX4_worn_5 : decode cX4_worn 5 = .ok (.invokevirtual 74, 3) := by decide +kernel
theorem dX4_worn_8 : decode cX4_worn 8 = .ok (.ifCond .ne 5, 3) := by decide +kernel
theorem dX4_worn_11 : decode cX4_worn 11 = .ok (.iconst (-1), 1) := by decide +kernel
theorem dX4_worn_12 : decode cX4_worn 12 = .ok (.ireturn, 1) := by decide +kernel
theorem dX4_worn_13 : decode cX4_worn 13 = .ok (.iload_n 2, 1) := by decide +kernel
theorem dX4_worn_14 : decode cX4_worn 14 = .ok (.invokestatic 89, 3) := by decide +kernel
theorem dX4_worn_17 : decode cX4_worn 17 = .ok (.ifCond .eq 10, 3) := by decide +kernel
theorem dX4_worn_20 : decode cX4_worn 20 = .ok (.iload_n 3, 1) := by decide +kernel
theorem dX4_worn_21 : decode cX4_worn 21 = .ok (.invokestatic 106, 3) := by decide +kernel
theorem dX4_worn_24 : decode cX4_worn 24 = .ok (.ifCond .ne 6, 3) := by decide +kernel
theorem dX4_worn_27 : decode cX4_worn 27 = .ok (.bipush (-2), 2) := by decide +kernel
theorem dX4_worn_29 : decode cX4_worn 29 = .ok (.ireturn, 1) := by decide +kernel
theorem dX4_worn_30 : decode cX4_worn 30 = .ok (.aload_n 0, 1) := by decide +kernel
theorem dX4_worn_31 : decode cX4_worn 31 = .ok (.getfield 20, 3) := by decide +kernel
theorem dX4_worn_34 : decode cX4_worn 34 = .ok (.iload_n 1, 1) := by decide +kernel
theorem dX4_worn_35 : decode cX4_worn 35 = .ok (.iload_n 2, 1) := by decide +kernel
theorem dX4_worn_36 : decode cX4_worn 36 = .ok (.iload_n 3, 1) := by decide +kernel
theorem dX4_worn_37 : decode cX4_worn 37 = .ok (.invokevirtual 109, 3) := by decide +kernel
theorem dX4_worn_40 : decode cX4_worn 40 = .ok (.ireturn, 1) := by decide +kernel
set_option maxRecDepth 20000 in
theorem ggX4_off_X0_hasPass : GoodIn wsX4_off wsX0_hasPass := goodIn_r _ [6, 7, 46, 47, 48, 49, 50] (by decide +kernel) (by decide +kernel)
set_option maxRecDepth 20000 in
theorem gX4_off_X0_hasPass : GoodIn wsX4_off (wsV RX4 74 RX0 yX0_hasPass wsX0_hasPass) := goodIn_app (goodIn_of _ (by decide +kernel)) ggX4_off_X0_hasPass
set_option maxRecDepth 20000 in
theorem ggX4_off_X4_isMonths : GoodIn wsX4_off wsX4_isMonths := goodIn_r _ [11, 12, 13, 10, 14] (by decide +kernel) (by decide +kernel)
set_option maxRecDepth 20000 in
theorem gX4_off_X4_isMonths : GoodIn wsX4_off (va_wsS RX4 106 yX4_isMonths wsX4_isMonths) := goodIn_app (goodIn_of _ (by decide +kernel)) ggX4_off_X4_isMonths
set_option maxRecDepth 20000 in
theorem ggX4_off_X0_apart : GoodIn wsX4_off wsX0_apart := goodIn_r _ [18, 19, 20, 21, 22, 23, 24, 25, 26, 27, 28, 5, 29, 30, 31, 3, 4, 6, 7, 32, 33, 34, 35, 36, 37, 38, 39, 46, 47, 48, 49, 50] (by decide +kernel) (by decide +kernel)
set_option maxRecDepth 20000 in
theorem gX4_off_X0_apart : GoodIn wsX4_off (wsV RX4 113 RX0 yX0_apart wsX0_apart) := goodIn_app (goodIn_of _ (by decide +kernel)) ggX4_off_X0_apart
theorem dX4_off_0 : decode cX4_off 0 = .ok (.aload_n 0, 1) := by decide +kernel
theorem dX4_off_1 : decode cX4_off 1 = .ok (.getfield 20, 3) := by decide +kernel
theorem dX4_off_4 : decode cX4_off 4 = .ok (.iload_n 1, 1) := by decide +kernel
theorem dX4_off_5 : decode cX4_off 5 = .ok (.invokevirtual 74, 3) := by decide +kernel
theorem dX4_off_8 : decode cX4_off 8 = .ok (.ifCond .eq 14, 3) := by decide +kernel
theorem dX4_off_11 : decode cX4_off 11 = .ok (.aload_n 0, 1) := by decide +kernel
theorem dX4_off_12 : decode cX4_off 12 = .ok (.getfield 20, 3) := by decide +kernel
theorem dX4_off_15 : decode cX4_off 15 = .ok (.iload_n 2, 1) := by decide +kernel
theorem dX4_off_16 : decode cX4_off 16 = .ok (.invokevirtual 74, 3) := by decide +kernel
theorem dX4_off_19 : decode cX4_off 19 = .ok (.ifCond .ne 5, 3) := by decide +kernel
theorem dX4_off_22 : decode cX4_off 22 = .ok (.iconst (-1), 1) := by decide +kernel
theorem dX4_off_23 : decode cX4_off 23 = .ok (.ireturn, 1) := by decide +kernel
theorem dX4_off_24 : decode cX4_off 24 = .ok (.iload_n 3, 1) := by decide +kernel
theorem dX4_off_25 : decode cX4_off 25 = .ok (.invokestatic 106, 3) := by decide +kernel
theorem dX4_off_28 : decode cX4_off 28 = .ok (.ifCond .eq 16, 3) := by decide +kernel
theorem dX4_off_31 : decode cX4_off 31 = .ok (.aload_n 0, 1) := by decide +kernel
theorem dX4_off_32 : decode cX4_off 32 = .ok (.getfield 20, 3) := by decide +kernel
theorem dX4_off_35 : decode cX4_off 35 = .ok (.iload_n 1, 1) := by decide +kernel
theorem dX4_off_36 : decode cX4_off 36 = .ok (.iload_n 2, 1) := by decide +kernel
theorem dX4_off_37 : decode cX4_off 37 = .ok (.iload_n 3, 1) := by decide +kernel
theorem dX4_off_38 : decode cX4_off 38 = .ok (.invokevirtual 113, 3) := by decide +kernel
theorem dX4_off_41 : decode cX4_off 41 = .ok (.goto 5, 3) := by decide +kernel
theorem dX4_off_44 : decode cX4_off 44 = .ok (.bipush (-2), 2) := by decide +kernel
theorem dX4_off_46 : decode cX4_off 46 = .ok (.ireturn, 1) := by decide +kernel
set_option maxRecDepth 20000 in
theorem ggX4_fits_X0_hasPass : GoodIn wsX4_fits wsX0_hasPass := goodIn_r _ [6, 7, 53, 54, 55, 56, 57] (by decide +kernel) (by decide +kernel)
set_option maxRecDepth 20000 in
theorem gX4_fits_X0_hasPass : GoodIn wsX4_fits (wsV RX4 74 RX0 yX0_hasPass wsX0_hasPass) := goodIn_app (goodIn_of _ (by decide +kernel)) ggX4_fits_X0_hasPass
set_option maxRecDepth 20000 in
theorem ggX4_fits_X4_isMonths : GoodIn wsX4_fits wsX4_isMonths := goodIn_r _ [11, 12, 13, 10, 14] (by decide +kernel) (by decide +kernel)
set_option maxRecDepth 20000 in
theorem gX4_fits_X4_isMonths : GoodIn wsX4_fits (va_wsS RX4 106 yX4_isMonths wsX4_isMonths) := goodIn_app (goodIn_of _ (by decide +kernel)) ggX4_fits_X4_isMonths
set_option maxRecDepth 20000 in
theorem ggX4_fits_X0_fitting : GoodIn wsX4_fits wsX0_fitting := goodIn_r _ [18, 7, 19, 20, 21, 22, 5, 23, 24, 25, 26, 27, 28, 29, 30, 31, 32, 33, 34, 35, 36, 3, 4, 6, 37, 38, 39, 40, 41, 42, 43, 44, 45, 10, 46, 53, 54, 55, 56, 57] (by decide +kernel) (by decide +kernel)
set_option maxRecDepth 20000 in
theorem gX4_fits_X0_fitting : GoodIn wsX4_fits (wsV RX4 116 RX0 yX0_fitting wsX0_fitting) := goodIn_app (goodIn_of _ (by decide +kernel)) ggX4_fits_X0_fitting
theorem dX4_fits_0 : decode cX4_fits 0 = .ok (.aload_n 0, 1) := by decide +kernel
theorem dX4_fits_1 : decode cX4_fits 1 = .ok (.getfield 20, 3) := by decide +kernel
theorem dX4_fits_4 : decode cX4_fits 4 = .ok (.iload_n 1, 1) := by decide +kernel
theorem dX4_fits_5 : decode cX4_fits 5 = .ok (.invokevirtual 74, 3) := by decide +kernel
theorem dX4_fits_8 : decode cX4_fits 8 = .ok (.ifCond .ne 5, 3) := by decide +kernel
theorem dX4_fits_11 : decode cX4_fits 11 = .ok (.iconst (-1), 1) := by decide +kernel
theorem dX4_fits_12 : decode cX4_fits 12 = .ok (.ireturn, 1) := by decide +kernel
theorem dX4_fits_13 : decode cX4_fits 13 = .ok (.iload_n 2, 1) := by decide +kernel
theorem dX4_fits_14 : decode cX4_fits 14 = .ok (.invokestatic 106, 3) := by decide +kernel
theorem dX4_fits_17 : decode cX4_fits 17 = .ok (.ifCond .eq 15, 3) := by decide +kernel
theorem dX4_fits_20 : decode cX4_fits 20 = .ok (.aload_n 0, 1) := by decide +kernel
theorem dX4_fits_21 : decode cX4_fits 21 = .ok (.getfield 20, 3) := by decide +kernel
theorem dX4_fits_24 : decode cX4_fits 24 = .ok (.iload_n 1, 1) := by decide +kernel
theorem dX4_fits_25 : decode cX4_fits 25 = .ok (.iload_n 2, 1) := by decide +kernel
theorem dX4_fits_26 : decode cX4_fits 26 = .ok (.invokevirtual 116, 3) := by decide +kernel
theorem dX4_fits_29 : decode cX4_fits 29 = .ok (.goto 5, 3) := by decide +kernel
theorem dX4_fits_32 : decode cX4_fits 32 = .ok (.bipush (-2), 2) := by decide +kernel
theorem dX4_fits_34 : decode cX4_fits 34 = .ok (.ireturn, 1) := by decide +kernel
set_option maxRecDepth 20000 in
theorem ggX4_match_X0_hasPass : GoodIn wsX4_match wsX0_hasPass := goodIn_r _ [6, 7, 51, 52, 53, 54, 55] (by decide +kernel) (by decide +kernel)
set_option maxRecDepth 20000 in
theorem gX4_match_X0_hasPass : GoodIn wsX4_match (wsV RX4 74 RX0 yX0_hasPass wsX0_hasPass) := goodIn_app (goodIn_of _ (by decide +kernel)) ggX4_match_X0_hasPass
set_option maxRecDepth 20000 in
theorem ggX4_match_X4_isMonths : GoodIn wsX4_match wsX4_isMonths := goodIn_r _ [11, 12, 13, 10, 14] (by decide +kernel) (by decide +kernel)
set_option maxRecDepth 20000 in
theorem gX4_match_X4_isMonths : GoodIn wsX4_match (va_wsS RX4 106 yX4_isMonths wsX4_isMonths) := goodIn_app (goodIn_of _ (by decide +kernel)) ggX4_match_X4_isMonths
set_option maxRecDepth 20000 in
theorem ggX4_match_X0_closestFitting : GoodIn wsX4_match wsX0_closestFitting := goodIn_r _ [18, 19, 7, 20, 21, 22, 5, 23, 24, 25, 26, 27, 28, 29, 30, 31, 32, 33, 34, 35, 36, 3, 4, 6, 37, 38, 39, 40, 41, 42, 43, 44, 51, 52, 53, 54, 55] (by decide +kernel) (by decide +kernel)
set_option maxRecDepth 20000 in
theorem gX4_match_X0_closestFitting : GoodIn wsX4_match (wsV RX4 119 RX0 yX0_closestFitting wsX0_closestFitting) := goodIn_app (goodIn_of _ (by decide +kernel)) ggX4_match_X0_closestFitting
theorem dX4_match_0 : decode cX4_match 0 = .ok (.aload_n 0, 1) := by decide +kernel
theorem dX4_match_1 : decode cX4_match 1 = .ok (.getfield 20, 3) := by decide +kernel
theorem dX4_match_4 : decode cX4_match 4 = .ok (.iload_n 1, 1) := by decide +kernel
theorem dX4_match_5 : decode cX4_match 5 = .ok (.invokevirtual 74, 3) := by decide +kernel
theorem dX4_match_8 : decode cX4_match 8 = .ok (.ifCond .ne 5, 3) := by decide +kernel
theorem dX4_match_11 : decode cX4_match 11 = .ok (.iconst (-1), 1) := by decide +kernel
theorem dX4_match_12 : decode cX4_match 12 = .ok (.ireturn, 1) := by decide +kernel
theorem dX4_match_13 : decode cX4_match 13 = .ok (.iload_n 2, 1) := by decide +kernel
theorem dX4_match_14 : decode cX4_match 14 = .ok (.invokestatic 106, 3) := by decide +kernel
theorem dX4_match_17 : decode cX4_match 17 = .ok (.ifCond .eq 15, 3) := by decide +kernel
theorem dX4_match_20 : decode cX4_match 20 = .ok (.aload_n 0, 1) := by decide +kernel
theorem dX4_match_21 : decode cX4_match 21 = .ok (.getfield 20, 3) := by decide +kernel
theorem dX4_match_24 : decode cX4_match 24 = .ok (.iload_n 1, 1) := by decide +kernel
theorem dX4_match_25 : decode cX4_match 25 = .ok (.iload_n 2, 1) := by decide +kernel
theorem dX4_match_26 : decode cX4_match 26 = .ok (.invokevirtual 119, 3) := by decide +kernel
theorem dX4_match_29 : decode cX4_match 29 = .ok (.goto 5, 3) := by decide +kernel
theorem dX4_match_32 : decode cX4_match 32 = .ok (.bipush (-2), 2) := by decide +kernel
theorem dX4_match_34 : decode cX4_match 34 = .ok (.ireturn, 1) := by decide +kernel
set_option maxRecDepth 20000 in
theorem ggX4_last_X0_hasPass : GoodIn wsX4_last wsX0_hasPass := goodIn_r _ [6, 7, 48, 49, 50, 51, 52] (by decide +kernel) (by decide +kernel)
set_option maxRecDepth 20000 in
theorem gX4_last_X0_hasPass : GoodIn wsX4_last (wsV RX4 74 RX0 yX0_hasPass wsX0_hasPass) := goodIn_app (goodIn_of _ (by decide +kernel)) ggX4_last_X0_hasPass
set_option maxRecDepth 20000 in
theorem ggX4_last_X0_lastGood : GoodIn wsX4_last wsX0_lastGood := goodIn_r _ [11, 12, 13, 14, 5, 15, 16, 17, 18, 19, 20, 21, 22, 23, 24, 25, 26, 27, 28, 29, 30, 31, 32, 33, 3, 4, 6, 7, 34, 35, 36, 37, 38, 39, 40, 41, 48, 49, 50, 51, 52] (by decide +kernel) (by decide +kernel)
set_option maxRecDepth 20000 in
theorem gX4_last_X0_lastGood : GoodIn wsX4_last (wsV RX4 122 RX0 yX0_lastGood wsX0_lastGood) := goodIn_app (goodIn_of _ (by decide +kernel)) ggX4_last_X0_lastGood
theorem dX4_last_0 : decode cX4_last 0 = .ok (.aload_n 0, 1) := by decide +kernel
theorem dX4_last_1 : decode cX4_last 1 = .ok (.getfield 20, 3) := by decide +kernel
theorem dX4_last_4 : decode cX4_last 4 = .ok (.iload_n 1, 1) := by decide +kernel
theorem dX4_last_5 : decode cX4_last 5 = .ok (.invokevirtual 74, 3) := by decide +kernel
theorem dX4_last_8 : decode cX4_last 8 = .ok (.ifCond .eq 14, 3) := by decide +kernel
theorem dX4_last_11 : decode cX4_last 11 = .ok (.aload_n 0, 1) := by decide +kernel
theorem dX4_last_12 : decode cX4_last 12 = .ok (.getfield 20, 3) := by decide +kernel
theorem dX4_last_15 : decode cX4_last 15 = .ok (.iload_n 1, 1) := by decide +kernel
theorem dX4_last_16 : decode cX4_last 16 = .ok (.invokevirtual 122, 3) := by decide +kernel
theorem dX4_last_19 : decode cX4_last 19 = .ok (.goto 4, 3) := by decide +kernel
theorem dX4_last_22 : decode cX4_last 22 = .ok (.iconst (-1), 1) := by decide +kernel
theorem dX4_last_23 : decode cX4_last 23 = .ok (.ireturn, 1) := by decide +kernel
set_option maxRecDepth 20000 in
theorem ggX4_alike_X0_hasPass : GoodIn wsX4_alike wsX0_hasPass := goodIn_r _ [6, 7, 36, 37, 38, 39, 40] (by decide +kernel) (by decide +kernel)
set_option maxRecDepth 20000 in
theorem gX4_alike_X0_hasPass : GoodIn wsX4_alike (wsV RX4 74 RX0 yX0_hasPass wsX0_hasPass) := goodIn_app (goodIn_of _ (by decide +kernel)) ggX4_alike_X0_hasPass
set_option maxRecDepth 20000 in
theorem ggX4_alike_X0_likeness : GoodIn wsX4_alike wsX0_likeness := goodIn_r _ [11, 7, 12, 13, 14, 5, 15, 16, 17, 18, 19, 20, 21, 22, 23, 24, 25, 26, 3, 4, 6, 27, 28, 29, 36, 37, 38, 39, 40] (by decide +kernel) (by decide +kernel)
set_option maxRecDepth 20000 in
theorem gX4_alike_X0_likeness : GoodIn wsX4_alike (wsV RX4 125 RX0 yX0_likeness wsX0_likeness) := goodIn_app (goodIn_of _ (by decide +kernel)) ggX4_alike_X0_likeness
theorem dX4_alike_0 : decode cX4_alike 0 = .ok (.aload_n 0, 1) := by decide +kernel
theorem dX4_alike_1 : decode cX4_alike 1 = .ok (.getfield 20, 3) := by decide +kernel
theorem dX4_alike_4 : decode cX4_alike 4 = .ok (.iload_n 1, 1) := by decide +kernel
theorem dX4_alike_5 : decode cX4_alike 5 = .ok (.invokevirtual 74, 3) := by decide +kernel
theorem dX4_alike_8 : decode cX4_alike 8 = .ok (.ifCond .eq 14, 3) := by decide +kernel
theorem dX4_alike_11 : decode cX4_alike 11 = .ok (.aload_n 0, 1) := by decide +kernel
theorem dX4_alike_12 : decode cX4_alike 12 = .ok (.getfield 20, 3) := by decide +kernel
theorem dX4_alike_15 : decode cX4_alike 15 = .ok (.iload_n 1, 1) := by decide +kernel
theorem dX4_alike_16 : decode cX4_alike 16 = .ok (.invokevirtual 125, 3) := by decide +kernel
theorem dX4_alike_19 : decode cX4_alike 19 = .ok (.goto 4, 3) := by decide +kernel
theorem dX4_alike_22 : decode cX4_alike 22 = .ok (.iconst (-1), 1) := by decide +kernel
theorem dX4_alike_23 : decode cX4_alike 23 = .ok (.ireturn, 1) := by decide +kernel
set_option maxRecDepth 20000 in
theorem ggX4_most_X0_stands : GoodIn wsX4_most wsX0_stands := goodIn_r _ [6, 7, 59, 60, 61, 62, 63] (by decide +kernel) (by decide +kernel)
set_option maxRecDepth 20000 in
theorem gX4_most_X0_stands : GoodIn wsX4_most (wsV RX4 96 RX0 yX0_stands wsX0_stands) := goodIn_app (goodIn_of _ (by decide +kernel)) ggX4_most_X0_stands
set_option maxRecDepth 20000 in
theorem ggX4_most_X0_mostUnlike : GoodIn wsX4_most wsX0_mostUnlike := goodIn_r _ [11, 7, 12, 13, 14, 15, 5, 16, 17, 18, 19, 20, 21, 22, 23, 24, 25, 26, 27, 28, 29, 30, 31, 32, 33, 34, 35, 36, 37, 38, 39, 40, 41, 42, 43, 44, 45, 46, 47, 48, 49, 50, 51, 52, 59, 60, 61, 62, 63] (by decide +kernel) (by decide +kernel)
set_option maxRecDepth 20000 in
theorem gX4_most_X0_mostUnlike : GoodIn wsX4_most (wsV RX4 128 RX0 yX0_mostUnlike wsX0_mostUnlike) := goodIn_app (goodIn_of _ (by decide +kernel)) ggX4_most_X0_mostUnlike
theorem dX4_most_0 : decode cX4_most 0 = .ok (.aload_n 0, 1) := by decide +kernel
theorem dX4_most_1 : decode cX4_most 1 = .ok (.getfield 20, 3) := by decide +kernel
theorem dX4_most_4 : decode cX4_most 4 = .ok (.invokevirtual 96, 3) := by decide +kernel
theorem dX4_most_7 : decode cX4_most 7 = .ok (.ifCond .eq 13, 3) := by decide +kernel
theorem dX4_most_10 : decode cX4_most 10 = .ok (.aload_n 0, 1) := by decide +kernel
theorem dX4_most_11 : decode cX4_most 11 = .ok (.getfield 20, 3) := by decide +kernel
theorem dX4_most_14 : decode cX4_most 14 = .ok (.invokevirtual 128, 3) := by decide +kernel
theorem dX4_most_17 : decode cX4_most 17 = .ok (.goto 5, 3) := by decide +kernel
theorem dX4_most_20 : decode cX4_most 20 = .ok (.bipush (-3), 2) := by decide +kernel
theorem dX4_most_22 : decode cX4_most 22 = .ok (.ireturn, 1) := by decide +kernel
set_option maxRecDepth 20000 in
theorem ggX4_letGo_X0_stands : GoodIn wsX4_letGo wsX0_stands := goodIn_r _ [6, 7, 73, 74, 75, 76, 77] (by decide +kernel) (by decide +kernel)
set_option maxRecDepth 20000 in
theorem gX4_letGo_X0_stands : GoodIn wsX4_letGo (wsV RX4 96 RX0 yX0_stands wsX0_stands) := goodIn_app (goodIn_of _ (by decide +kernel)) ggX4_letGo_X0_stands
set_option maxRecDepth 20000 in
theorem ggX4_letGo_X0_isSet : GoodIn wsX4_letGo wsX0_isSet := goodIn_r _ [11, 12, 13, 14, 5, 15, 7, 73, 74, 75, 76, 77] (by decide +kernel) (by decide +kernel)
set_option maxRecDepth 20000 in
theorem gX4_letGo_X0_isSet : GoodIn wsX4_letGo (wsV RX4 131 RX0 yX0_isSet wsX0_isSet) := goodIn_app (goodIn_of _ (by decide +kernel)) ggX4_letGo_X0_isSet
set_option maxRecDepth 20000 in
theorem ggX4_letGo_X4_isMonths : GoodIn wsX4_letGo wsX4_isMonths := goodIn_r _ [19, 20, 21, 18, 22] (by decide +kernel) (by decide +kernel)
set_option maxRecDepth 20000 in
theorem gX4_letGo_X4_isMonths : GoodIn wsX4_letGo (va_wsS RX4 106 yX4_isMonths wsX4_isMonths) := goodIn_app (goodIn_of _ (by decide +kernel)) ggX4_letGo_X4_isMonths
set_option maxRecDepth 20000 in
theorem ggX4_letGo_X0_layAll : GoodIn wsX4_letGo wsX0_layAll := goodIn_r _ [26, 7, 27, 28, 29, 30, 5, 31, 32, 33, 34, 35, 36, 37, 38, 39, 40, 41, 42, 43, 44, 45, 46, 47, 48, 49, 50, 51, 52, 53, 54, 55, 56, 57, 58, 59, 60, 61, 18, 62, 73, 74, 75, 76, 77] (by decide +kernel) (by decide +kernel)
set_option maxRecDepth 20000 in
theorem gX4_letGo_X0_layAll : GoodIn wsX4_letGo (wsV RX4 134 RX0 yX0_layAll wsX0_layAll) := goodIn_app (goodIn_of _ (by decide +kernel)) ggX4_letGo_X0_layAll
set_option maxRecDepth 20000 in
theorem ggX4_letGo_X0_freedBy : GoodIn wsX4_letGo wsX0_freedBy := goodIn_r _ [66, 7, 27, 61, 18, 62, 73, 74, 75, 76, 77] (by decide +kernel) (by decide +kernel)
set_option maxRecDepth 20000 in
theorem gX4_letGo_X0_freedBy : GoodIn wsX4_letGo (wsV RX4 137 RX0 yX0_freedBy wsX0_freedBy) := goodIn_app (goodIn_of _ (by decide +kernel)) ggX4_letGo_X0_freedBy
theorem dX4_letGo_0 : decode cX4_letGo 0 = .ok (.aload_n 0, 1) := by decide +kernel
theorem dX4_letGo_1 : decode cX4_letGo 1 = .ok (.getfield 20, 3) := by decide +kernel
theorem dX4_letGo_4 : decode cX4_letGo 4 = .ok (.invokevirtual 96, 3) := by decide +kernel
theorem dX4_letGo_7 : decode cX4_letGo 7 = .ok (.ifCond .ne 6, 3) := by decide +kernel
theorem dX4_letGo_10 : decode cX4_letGo 10 = .ok (.bipush (-3), 2) := by decide +kernel
theorem dX4_letGo_12 : decode cX4_letGo 12 = .ok (.ireturn, 1) := by decide +kernel
theorem dX4_letGo_13 : decode cX4_letGo 13 = .ok (.aload_n 0, 1) := by decide +kernel
theorem dX4_letGo_14 : decode cX4_letGo 14 = .ok (.getfield 20, 3) := by decide +kernel
theorem dX4_letGo_17 : decode cX4_letGo 17 = .ok (.iload_n 1, 1) := by decide +kernel
theorem dX4_letGo_18 : decode cX4_letGo 18 = .ok (.invokevirtual 131, 3) := by decide +kernel
theorem dX4_letGo_21 : decode cX4_letGo 21 = .ok (.ifCond .eq 10, 3) := by decide +kernel
theorem dX4_letGo_24 : decode cX4_letGo 24 = .ok (.iload_n 2, 1) := by decide +kernel
theorem dX4_letGo_25 : decode cX4_letGo 25 = .ok (.invokestatic 106, 3) := by decide +kernel
theorem dX4_letGo_28 : decode cX4_letGo 28 = .ok (.ifCond .ne 6, 3) := by decide +kernel
theorem dX4_letGo_31 : decode cX4_letGo 31 = .ok (.bipush (-2), 2) := by decide +kernel
theorem dX4_letGo_33 : decode cX4_letGo 33 = .ok (.ireturn, 1) := by decide +kernel
theorem dX4_letGo_34 : decode cX4_letGo 34 = .ok (.aload_n 0, 1) := by decide +kernel
theorem dX4_letGo_35 : decode cX4_letGo 35 = .ok (.getfield 20, 3) := by decide +kernel
theorem dX4_letGo_38 : decode cX4_letGo 38 = .ok (.iload_n 2, 1) := by decide +kernel
theorem dX4_letGo_39 : decode cX4_letGo 39 = .ok (.invokevirtual 134, 3) := by decide +kernel
theorem dX4_letGo_42 : decode cX4_letGo 42 = .ok (.aload_n 0, 1) := by decide +kernel
theorem dX4_letGo_43 : decode cX4_letGo 43 = .ok (.getfield 20, 3) := by decide +kernel
theorem dX4_letGo_46 : decode cX4_letGo 46 = .ok (.iload_n 1, 1) := by decide +kernel
theorem dX4_letGo_47 : decode cX4_letGo 47 = .ok (.invokevirtual 137, 3) := by decide +kernel
theorem dX4_letGo_50 : decode cX4_letGo 50 = .ok (.ireturn, 1) := by decide +kernel
set_option maxRecDepth 20000 in
theorem ggX4_fewest_X4_isMonths : GoodIn wsX4_fewest wsX4_isMonths := goodIn_r _ [5, 6, 7, 4, 8] (by decide +kernel) (by decide +kernel)
set_option maxRecDepth 20000 in
theorem gX4_fewest_X4_isMonths : GoodIn wsX4_fewest (va_wsS RX4 106 yX4_isMonths wsX4_isMonths) := goodIn_app (goodIn_of _ (by decide +kernel)) ggX4_fewest_X4_isMonths
set_option maxRecDepth 20000 in
theorem ggX4_fewest_X0_stands : GoodIn wsX4_fewest wsX0_stands := goodIn_r _ [13, 14, 80, 81, 82, 83, 84] (by decide +kernel) (by decide +kernel)
set_option maxRecDepth 20000 in
theorem gX4_fewest_X0_stands : GoodIn wsX4_fewest (wsV RX4 96 RX0 yX0_stands wsX0_stands) := goodIn_app (goodIn_of _ (by decide +kernel)) ggX4_fewest_X0_stands
set_option maxRecDepth 20000 in
theorem ggX4_fewest_X0_layAll : GoodIn wsX4_fewest wsX0_layAll := goodIn_r _ [18, 14, 19, 20, 21, 22, 12, 23, 24, 25, 26, 27, 28, 29, 30, 31, 32, 33, 34, 35, 36, 37, 38, 39, 40, 41, 42, 43, 44, 45, 46, 47, 48, 49, 50, 51, 52, 53, 4, 54, 80, 81, 82, 83, 84] (by decide +kernel) (by decide +kernel)
set_option maxRecDepth 20000 in
theorem gX4_fewest_X0_layAll : GoodIn wsX4_fewest (wsV RX4 134 RX0 yX0_layAll wsX0_layAll) := goodIn_app (goodIn_of _ (by decide +kernel)) ggX4_fewest_X0_layAll
set_option maxRecDepth 20000 in
theorem ggX4_fewest_X0_fewestFreeing : GoodIn wsX4_fewest wsX0_fewestFreeing := goodIn_r _ [58, 14, 59, 60, 61, 12, 62, 63, 64, 65, 66, 67, 68, 69, 70, 71, 72, 73, 19, 53, 4, 54, 80, 81, 82, 83, 84] (by decide +kernel) (by decide +kernel)
set_option maxRecDepth 20000 in
theorem gX4_fewest_X0_fewestFreeing : GoodIn wsX4_fewest (wsV RX4 140 RX0 yX0_fewestFreeing wsX0_fewestFreeing) := goodIn_app (goodIn_of _ (by decide +kernel)) ggX4_fewest_X0_fewestFreeing
theorem dX4_fewest_0 : decode cX4_fewest 0 = .ok (.iload_n 1, 1) := by decide +kernel
theorem dX4_fewest_1 : decode cX4_fewest 1 = .ok (.invokestatic 106, 3) := by decide +kernel
theorem dX4_fewest_4 : decode cX4_fewest 4 = .ok (.ifCond .ne 6, 3) := by decide +kernel
theorem dX4_fewest_7 : decode cX4_fewest 7 = .ok (.bipush (-2), 2) := by decide +kernel
theorem dX4_fewest_9 : decode cX4_fewest 9 = .ok (.ireturn, 1) := by decide +kernel
theorem dX4_fewest_10 : decode cX4_fewest 10 = .ok (.aload_n 0, 1) := by decide +kernel
theorem dX4_fewest_11 : decode cX4_fewest 11 = .ok (.getfield 20, 3) := by decide +kernel
theorem dX4_fewest_14 : decode cX4_fewest 14 = .ok (.invokevirtual 96, 3) := by decide +kernel
theorem dX4_fewest_17 : decode cX4_fewest 17 = .ok (.ifCond .ne 6, 3) := by decide +kernel
theorem dX4_fewest_20 : decode cX4_fewest 20 = .ok (.bipush (-3), 2) := by decide +kernel
theorem dX4_fewest_22 : decode cX4_fewest 22 = .ok (.ireturn, 1) := by decide +kernel
theorem dX4_fewest_23 : decode cX4_fewest 23 = .ok (.aload_n 0, 1) := by decide +kernel
theorem dX4_fewest_24 : decode cX4_fewest 24 = .ok (.getfield 20, 3) := by decide +kernel
theorem dX4_fewest_27 : decode cX4_fewest 27 = .ok (.iload_n 1, 1) := by decide +kernel
theorem dX4_fewest_28 : decode cX4_fewest 28 = .ok (.invokevirtual 134, 3) := by decide +kernel
theorem dX4_fewest_31 : decode cX4_fewest 31 = .ok (.aload_n 0, 1) := by decide +kernel
theorem dX4_fewest_32 : decode cX4_fewest 32 = .ok (.getfield 20, 3) := by decide +kernel
theorem dX4_fewest_35 : decode cX4_fewest 35 = .ok (.invokevirtual 140, 3) := by decide +kernel
theorem dX4_fewest_38 : decode cX4_fewest 38 = .ok (.ireturn, 1) := by decide +kernel
set_option maxRecDepth 20000 in
theorem ggX4_voyages_X4_isSheet : GoodIn wsX4_voyages wsX4_isSheet := goodIn_r _ [8, 9, 10, 7, 11] (by decide +kernel) (by decide +kernel)
set_option maxRecDepth 20000 in
theorem gX4_voyages_X4_isSheet : GoodIn wsX4_voyages (va_wsS RX4 46 yX4_isSheet wsX4_isSheet) := goodIn_app (goodIn_of _ (by decide +kernel)) ggX4_voyages_X4_isSheet
set_option maxRecDepth 20000 in
theorem ggX4_voyages_X4_isLane : GoodIn wsX4_voyages wsX4_isLane := goodIn_r _ [14, 9, 10, 7, 11] (by decide +kernel) (by decide +kernel)
set_option maxRecDepth 20000 in
theorem gX4_voyages_X4_isLane : GoodIn wsX4_voyages (va_wsS RX4 50 yX4_isLane wsX4_isLane) := goodIn_app (goodIn_of _ (by decide +kernel)) ggX4_voyages_X4_isLane
set_option maxRecDepth 20000 in
theorem ggX4_voyages_X4_within : GoodIn wsX4_voyages wsX4_within := goodIn_r _ [11] (by decide +kernel) (by decide +kernel)
set_option maxRecDepth 20000 in
theorem gX4_voyages_X4_within : GoodIn wsX4_voyages (va_wsS RX4 77 yX4_within wsX4_within) := goodIn_app (goodIn_of _ (by decide +kernel)) ggX4_voyages_X4_within
set_option maxRecDepth 20000 in
theorem ggX4_voyages_X4_isAskable : GoodIn wsX4_voyages wsX4_isAskable := goodIn_r _ [17, 9, 10, 7, 11] (by decide +kernel) (by decide +kernel)
set_option maxRecDepth 20000 in
theorem gX4_voyages_X4_isAskable : GoodIn wsX4_voyages (va_wsS RX4 143 yX4_isAskable wsX4_isAskable) := goodIn_app (goodIn_of _ (by decide +kernel)) ggX4_voyages_X4_isAskable
set_option maxRecDepth 20000 in
theorem ggX4_voyages_X4_faultOfCells : GoodIn wsX4_voyages wsX4_faultOfCells := goodIn_r _ [20, 21, 22, 7, 23, 24, 25, 26, 27, 28, 29, 30, 31, 32, 33, 34, 35, 36, 37, 38, 165, 166, 167] (by decide +kernel) (by decide +kernel)
set_option maxRecDepth 20000 in
theorem gX4_voyages_X4_faultOfCells : GoodIn wsX4_voyages (va_wsS RX4 146 yX4_faultOfCells wsX4_faultOfCells) := goodIn_app (goodIn_of _ (by decide +kernel)) ggX4_voyages_X4_faultOfCells
set_option maxRecDepth 20000 in
theorem ggX4_voyages_X0_stands : GoodIn wsX4_voyages wsX0_stands := goodIn_r _ [43, 44, 168, 169, 170, 171, 172] (by decide +kernel) (by decide +kernel)
set_option maxRecDepth 20000 in
theorem gX4_voyages_X0_stands : GoodIn wsX4_voyages (wsV RX4 96 RX0 yX0_stands wsX0_stands) := goodIn_app (goodIn_of _ (by decide +kernel)) ggX4_voyages_X0_stands
set_option maxRecDepth 20000 in
theorem ggX4_voyages_X0_isSet : GoodIn wsX4_voyages wsX0_isSet := goodIn_r _ [48, 49, 50, 51, 42, 52, 44, 168, 169, 170, 171, 172] (by decide +kernel) (by decide +kernel)
set_option maxRecDepth 20000 in
theorem gX4_voyages_X0_isSet : GoodIn wsX4_voyages (wsV RX4 131 RX0 yX0_isSet wsX0_isSet) := goodIn_app (goodIn_of _ (by decide +kernel)) ggX4_voyages_X0_isSet
set_option maxRecDepth 20000 in
theorem ggX4_voyages_X3_load : GoodIn wsX4_voyages wsX3_load := goodIn_r _ [57, 58, 59, 60, 61, 62, 63, 64, 65, 66, 67, 27, 68, 69, 70, 71, 72, 73, 38, 173, 174, 175, 165, 166, 167] (by decide +kernel) (by decide +kernel)
set_option maxRecDepth 20000 in
theorem gX4_voyages_X3_load : GoodIn wsX4_voyages (wsV RX4 149 RX3 yX3_load wsX3_load) := goodIn_app (goodIn_of _ (by decide +kernel)) ggX4_voyages_X3_load
set_option maxRecDepth 20000 in
theorem ggX4_voyages_X3_refusal : GoodIn wsX4_voyages wsX3_refusal := goodIn_r _ [77, 62, 63, 64, 78, 79, 80, 42, 81, 44, 82, 7, 83, 9, 10, 11, 173, 174, 175, 168, 169, 170, 171, 172] (by decide +kernel) (by decide +kernel)
set_option maxRecDepth 20000 in
theorem gX4_voyages_X3_refusal : GoodIn wsX4_voyages (wsV RX4 152 RX3 yX3_refusal wsX3_refusal) := goodIn_app (goodIn_of _ (by decide +kernel)) ggX4_voyages_X3_refusal
set_option maxRecDepth 20000 in
theorem ggX4_voyages_X4_meet : GoodIn wsX4_voyages wsX4_meet := goodIn_r _ [87, 4, 3, 88, 89, 90, 56, 91, 62, 64, 92, 93, 94, 95, 63, 96, 97, 98, 42, 99, 44, 100, 101, 102, 103, 104, 105, 106, 60, 107, 108, 109, 110, 111, 112, 113, 114, 115, 116, 79, 80, 81, 117, 118, 119, 120, 121, 122, 123, 124, 125, 7, 126, 127, 128, 129, 130, 131, 132, 133, 134, 135, 136, 137, 138, 139, 140, 141, 142, 143, 144, 145, 146, 147, 148, 149, 150, 151, 152, 153, 154, 155, 156, 157, 158, 159, 160, 161, 162, 163, 164, 173, 174, 175, 168, 169, 170, 171, 172] (by decide +kernel) (by decide +kernel)
set_option maxRecDepth 20000 in
theorem gX4_voyages_X4_meet : GoodIn wsX4_voyages (wsV RX4 156 RX4 yX4_meet wsX4_meet) := goodIn_app (goodIn_of _ (by decide +kernel)) ggX4_voyages_X4_meet
theorem dX4_voyages_0 : decode cX4_voyages 0 = .ok (.aload_n 0, 1) := by decide +kernel
theorem dX4_voyages_1 : decode cX4_voyages 1 = .ok (.iconst 0, 1) := by decide +kernel
theorem dX4_voyages_2 : decode cX4_voyages 2 = .ok (.putfield 42, 3) := by decide +kernel
theorem dX4_voyages_5 : decode cX4_voyages 5 = .ok (.iload_n 2, 1) := by decide +kernel
theorem dX4_voyages_6 : decode cX4_voyages 6 = .ok (.invokestatic 46, 3) := by decide +kernel
theorem dX4_voyages_9 : decode cX4_voyages 9 = .ok (.ifCond .ne 5, 3) := by decide +kernel
theorem dX4_voyages_12 : decode cX4_voyages 12 = .ok (.iconst (-1), 1) := by decide +kernel
theorem dX4_voyages_13 : decode cX4_voyages 13 = .ok (.ireturn, 1) := by decide +kernel
theorem dX4_voyages_14 : decode cX4_voyages 14 = .ok (.iload_n 3, 1) := by decide +kernel
theorem dX4_voyages_15 : decode cX4_voyages 15 = .ok (.invokestatic 50, 3) := by decide +kernel
theorem dX4_voyages_18 : decode cX4_voyages 18 = .ok (.ifCond .eq 22, 3) := by decide +kernel
theorem dX4_voyages_21 : decode cX4_voyages 21 = .ok (.iload 5, 2) := by decide +kernel
theorem dX4_voyages_23 : decode cX4_voyages 23 = .ok (.iconst 0, 1) := by decide +kernel
theorem dX4_voyages_24 : decode cX4_voyages 24 = .ok (.bipush 20, 2) := by decide +kernel
theorem dX4_voyages_26 : decode cX4_voyages 26 = .ok (.invokestatic 77, 3) := by decide +kernel
theorem dX4_voyages_29 : decode cX4_voyages 29 = .ok (.ifCond .eq 11, 3) := by decide +kernel
theorem dX4_voyages_32 : decode cX4_voyages 32 = .ok (.iload 6, 2) := by decide +kernel
theorem dX4_voyages_34 : decode cX4_voyages 34 = .ok (.invokestatic 143, 3) := by decide +kernel
theorem dX4_voyages_37 : decode cX4_voyages 37 = .ok (.ifCond .ne 6, 3) := by decide +kernel
theorem dX4_voyages_40 : decode cX4_voyages 40 = .ok (.bipush (-2), 2) := by decide +kernel
theorem dX4_voyages_42 : decode cX4_voyages 42 = .ok (.ireturn, 1) := by decide +kernel
theorem dX4_voyages_43 : decode cX4_voyages 43 = .ok (.aload_n 0, 1) := by decide +kernel
theorem dX4_voyages_44 : decode cX4_voyages 44 = .ok (.aload_n 0, 1) := by decide +kernel
theorem dX4_voyages_45 : decode cX4_voyages 45 = .ok (.getfield 13, 3) := by decide +kernel
theorem dX4_voyages_48 : decode cX4_voyages 48 = .ok (.iload_n 2, 1) := by decide +kernel
theorem dX4_voyages_49 : decode cX4_voyages 49 = .ok (.aaload, 1) := by decide +kernel
theorem dX4_voyages_50 : decode cX4_voyages 50 = .ok (.iload_n 3, 1) := by decide +kernel
theorem dX4_voyages_51 : decode cX4_voyages 51 = .ok (.iload 4, 2) := by decide +kernel
theorem dX4_voyages_53 : decode cX4_voyages 53 = .ok (.iconst 2, 1) := by decide +kernel
theorem dX4_voyages_54 : decode cX4_voyages 54 = .ok (.iload 5, 2) := by decide +kernel
theorem dX4_voyages_56 : decode cX4_voyages 56 = .ok (.imul, 1) := by decide +kernel
theorem dX4_voyages_57 : decode cX4_voyages 57 = .ok (.invokestatic 146, 3) := by decide +kernel
theorem dX4_voyages_60 : decode cX4_voyages 60 = .ok (.putfield 42, 3) := by decide +kernel
theorem dX4_voyages_63 : decode cX4_voyages 63 = .ok (.aload_n 0, 1) := by decide +kernel
theorem dX4_voyages_64 : decode cX4_voyages 64 = .ok (.getfield 42, 3) := by decide +kernel
theorem dX4_voyages_67 : decode cX4_voyages 67 = .ok (.ifCond .eq 11, 3) := by decide +kernel
theorem dX4_voyages_70 : decode cX4_voyages 70 = .ok (.bipush (-10), 2) := by decide +kernel
theorem dX4_voyages_72 : decode cX4_voyages 72 = .ok (.aload_n 0, 1) := by decide +kernel
theorem dX4_voyages_73 : decode cX4_voyages 73 = .ok (.getfield 42, 3) := by decide +kernel
theorem dX4_voyages_76 : decode cX4_voyages 76 = .ok (.isub, 1) := by decide +kernel
theorem dX4_voyages_77 : decode cX4_voyages 77 = .ok (.ireturn, 1) := by decide +kernel
theorem dX4_voyages_78 : decode cX4_voyages 78 = .ok (.aload_n 0, 1) := by decide +kernel
theorem dX4_voyages_79 : decode cX4_voyages 79 = .ok (.getfield 20, 3) := by decide +kernel
theorem dX4_voyages_82 : decode cX4_voyages 82 = .ok (.invokevirtual 96, 3) := by decide +kernel
theorem dX4_voyages_85 : decode cX4_voyages 85 = .ok (.ifCond .ne 6, 3) := by decide +kernel
theorem dX4_voyages_88 : decode cX4_voyages 88 = .ok (.bipush (-3), 2) := by decide +kernel
theorem dX4_voyages_90 : decode cX4_voyages 90 = .ok (.ireturn, 1) := by decide +kernel
theorem dX4_voyages_91 : decode cX4_voyages 91 = .ok (.aload_n 0, 1) := by decide +kernel
theorem dX4_voyages_92 : decode cX4_voyages 92 = .ok (.getfield 20, 3) := by decide +kernel
theorem dX4_voyages_95 : decode cX4_voyages 95 = .ok (.iload_n 1, 1) := by decide +kernel
theorem dX4_voyages_96 : decode cX4_voyages 96 = .ok (.invokevirtual 131, 3) := by decide +kernel
theorem dX4_voyages_99 : decode cX4_voyages 99 = .ok (.ifCond .ne 6, 3) := by decide +kernel
theorem dX4_voyages_102 : decode cX4_voyages 102 = .ok (.bipush (-2), 2) := by decide +kernel
theorem dX4_voyages_104 : decode cX4_voyages 104 = .ok (.ireturn, 1) := by decide +kernel
theorem dX4_voyages_105 : decode cX4_voyages 105 = .ok (.aload_n 0, 1) := by decide +kernel
theorem dX4_voyages_106 : decode cX4_voyages 106 = .ok (.getfield 27, 3) := by decide +kernel
theorem dX4_voyages_109 : decode cX4_voyages 109 = .ok (.aload_n 0, 1) := by decide +kernel
theorem dX4_voyages_110 : decode cX4_voyages 110 = .ok (.getfield 13, 3) := by decide +kernel
theorem dX4_voyages_113 : decode cX4_voyages 113 = .ok (.iload_n 2, 1) := by decide +kernel
theorem dX4_voyages_114 : decode cX4_voyages 114 = .ok (.aaload, 1) := by decide +kernel
theorem dX4_voyages_115 : decode cX4_voyages 115 = .ok (.iload 4, 2) := by decide +kernel
theorem dX4_voyages_117 : decode cX4_voyages 117 = .ok (.iload 5, 2) := by decide +kernel
theorem dX4_voyages_119 : decode cX4_voyages 119 = .ok (.invokevirtual 149, 3) := by decide +kernel
theorem dX4_voyages_122 : decode cX4_voyages 122 = .ok (.aload_n 0, 1) := by decide +kernel
theorem dX4_voyages_123 : decode cX4_voyages 123 = .ok (.getfield 27, 3) := by decide +kernel
theorem dX4_voyages_126 : decode cX4_voyages 126 = .ok (.aload_n 0, 1) := by decide +kernel
theorem dX4_voyages_127 : decode cX4_voyages 127 = .ok (.getfield 20, 3) := by decide +kernel
theorem dX4_voyages_130 : decode cX4_voyages 130 = .ok (.invokevirtual 152, 3) := by decide +kernel
theorem dX4_voyages_133 : decode cX4_voyages 133 = .ok (.istore 7, 2) := by decide +kernel
theorem dX4_voyages_135 : decode cX4_voyages 135 = .ok (.iload 7, 2) := by decide +kernel
theorem dX4_voyages_137 : decode cX4_voyages 137 = .ok (.ifCond .ne 13, 3) := by decide +kernel
theorem dX4_voyages_140 : decode cX4_voyages 140 = .ok (.aload_n 0, 1) := by decide +kernel
theorem dX4_voyages_141 : decode cX4_voyages 141 = .ok (.iload_n 1, 1) := by decide +kernel
theorem dX4_voyages_142 : decode cX4_voyages 142 = .ok (.iload 6, 2) := by decide +kernel
theorem dX4_voyages_144 : decode cX4_voyages 144 = .ok (.invokevirtual 156, 3) := by decide +kernel
theorem dX4_voyages_147 : decode cX4_voyages 147 = .ok (.goto 5, 3) := by decide +kernel
theorem dX4_voyages_150 : decode cX4_voyages 150 = .ok (.iload 7, 2) := by decide +kernel
theorem dX4_voyages_152 : decode cX4_voyages 152 = .ok (.ireturn, 1) := by decide +kernel
set_option maxRecDepth 20000 in
theorem ggX4_meet_X3_firstWrongPair : GoodIn wsX4_meet wsX3_firstWrongPair := goodIn_r _ [7, 8, 9, 91, 92, 93] (by decide +kernel) (by decide +kernel)
set_option maxRecDepth 20000 in
theorem gX4_meet_X3_firstWrongPair : GoodIn wsX4_meet (wsV RX4 159 RX3 yX3_firstWrongPair wsX3_firstWrongPair) := goodIn_app (goodIn_of _ (by decide +kernel)) ggX4_meet_X3_firstWrongPair
set_option maxRecDepth 20000 in
theorem ggX4_meet_X3_takenBy : GoodIn wsX4_meet wsX3_takenBy := goodIn_r _ [13, 8, 14, 9, 15, 16, 17, 18, 19, 20, 21, 22, 23, 24, 25, 26, 27, 28, 29, 30, 31, 32, 33, 34, 35, 36, 37, 38, 39, 40, 41, 42, 43, 44, 45, 46, 47, 48, 49, 50, 51, 52, 91, 92, 93, 94, 95, 96, 97, 98] (by decide +kernel) (by decide +kernel)
set_option maxRecDepth 20000 in
theorem gX4_meet_X3_takenBy : GoodIn wsX4_meet (wsV RX4 162 RX3 yX3_takenBy wsX3_takenBy) := goodIn_app (goodIn_of _ (by decide +kernel)) ggX4_meet_X3_takenBy
set_option maxRecDepth 20000 in
theorem ggX4_meet_X3_howMany : GoodIn wsX4_meet wsX3_howMany := goodIn_r _ [56, 8, 91, 92, 93] (by decide +kernel) (by decide +kernel)
set_option maxRecDepth 20000 in
theorem gX4_meet_X3_howMany : GoodIn wsX4_meet (wsV RX4 166 RX3 yX3_howMany wsX3_howMany) := goodIn_app (goodIn_of _ (by decide +kernel)) ggX4_meet_X3_howMany
set_option maxRecDepth 20000 in
theorem ggX4_meet_J6_bitCount_0f7a4 : GoodIn wsX4_meet wsJ6_bitCount_0f7a4 := goodIn_r _ [60, 61, 62, 63] (by decide +kernel) (by decide +kernel)
set_option maxRecDepth 20000 in
theorem gX4_meet_J6_bitCount_0f7a4 : GoodIn wsX4_meet (va_wsS RX4 167 yJ6_bitCount_0f7a4 wsJ6_bitCount_0f7a4) := goodIn_app (goodIn_of _ (by decide +kernel)) ggX4_meet_J6_bitCount_0f7a4
set_option maxRecDepth 20000 in
theorem ggX4_meet_X3_firstOf : GoodIn wsX4_meet wsX3_firstOf := goodIn_r _ [67, 8, 91, 92, 93] (by decide +kernel) (by decide +kernel)
set_option maxRecDepth 20000 in
theorem gX4_meet_X3_firstOf : GoodIn wsX4_meet (wsV RX4 172 RX3 yX3_firstOf wsX3_firstOf) := goodIn_app (goodIn_of _ (by decide +kernel)) ggX4_meet_X3_firstOf
set_option maxRecDepth 20000 in
theorem ggX4_meet_X3_goodOnes : GoodIn wsX4_meet wsX3_goodOnes := goodIn_r _ [71, 8, 14, 9, 72, 73, 74, 18, 75, 21, 22, 23, 24, 25, 26, 27, 28, 29, 30, 31, 32, 33, 34, 35, 36, 37, 38, 39, 40, 41, 20, 42, 43, 44, 45, 46, 47, 48, 49, 50, 51, 52, 91, 92, 93, 94, 95, 96, 97, 98] (by decide +kernel) (by decide +kernel)
set_option maxRecDepth 20000 in
theorem gX4_meet_X3_goodOnes : GoodIn wsX4_meet (wsV RX4 175 RX3 yX3_goodOnes wsX3_goodOnes) := goodIn_app (goodIn_of _ (by decide +kernel)) ggX4_meet_X3_goodOnes
set_option maxRecDepth 20000 in
theorem ggX4_meet_X4_howOften : GoodIn wsX4_meet wsX4_howOften := goodIn_r _ [79, 2, 1, 80, 39, 40, 18, 41, 20, 81, 82, 83, 6, 84, 8, 14, 50, 51, 52, 57, 58, 59, 60, 61, 62, 63, 85, 86, 87, 88, 89, 90, 94, 95, 96, 97, 98, 91, 92, 93] (by decide +kernel) (by decide +kernel)
set_option maxRecDepth 20000 in
theorem gX4_meet_X4_howOften : GoodIn wsX4_meet (wsV RX4 178 RX4 yX4_howOften wsX4_howOften) := goodIn_app (goodIn_of _ (by decide +kernel)) ggX4_meet_X4_howOften
theorem dX4_meet_0 : decode cX4_meet 0 = .ok (.aload_n 0, 1) := by decide +kernel
theorem dX4_meet_1 : decode cX4_meet 1 = .ok (.getfield 27, 3) := by decide +kernel
theorem dX4_meet_4 : decode cX4_meet 4 = .ok (.invokevirtual 159, 3) := by decide +kernel
theorem dX4_meet_7 : decode cX4_meet 7 = .ok (.istore_n 3, 1) := by decide +kernel
theorem dX4_meet_8 : decode cX4_meet 8 = .ok (.iload_n 2, 1) := by decide +kernel
theorem dX4_meet_9 : decode cX4_meet 9 = .ok (.iconst 1, 1) := by decide +kernel
theorem dX4_meet_10 : decode cX4_meet 10 = .ok (.if_icmp .ne 5, 3) := by decide +kernel
theorem dX4_meet_13 : decode cX4_meet 13 = .ok (.iload_n 3, 1) := by decide +kernel
theorem dX4_meet_14 : decode cX4_meet 14 = .ok (.ireturn, 1) := by decide +kernel
theorem dX4_meet_15 : decode cX4_meet 15 = .ok (.iload_n 3, 1) := by decide +kernel
theorem dX4_meet_16 : decode cX4_meet 16 = .ok (.bipush (-9), 2) := by decide +kernel
theorem dX4_meet_18 : decode cX4_meet 18 = .ok (.if_icmp .eq 8, 3) := by decide +kernel
theorem dX4_meet_21 : decode cX4_meet 21 = .ok (.bipush (-100), 2) := by decide +kernel
theorem dX4_meet_23 : decode cX4_meet 23 = .ok (.iload_n 3, 1) := by decide +kernel
theorem dX4_meet_24 : decode cX4_meet 24 = .ok (.isub, 1) := by decide +kernel
theorem dX4_meet_25 : decode cX4_meet 25 = .ok (.ireturn, 1) := by decide +kernel
theorem dX4_meet_26 : decode cX4_meet 26 = .ok (.aload_n 0, 1) := by decide +kernel
theorem dX4_meet_27 : decode cX4_meet 27 = .ok (.getfield 27, 3) := by decide +kernel
theorem dX4_meet_30 : decode cX4_meet 30 = .ok (.aload_n 0, 1) := by decide +kernel
theorem dX4_meet_31 : decode cX4_meet 31 = .ok (.getfield 20, 3) := by decide +kernel
theorem dX4_meet_34 : decode cX4_meet 34 = .ok (.iload_n 1, 1) := by decide +kernel
theorem dX4_meet_35 : decode cX4_meet 35 = .ok (.invokevirtual 162, 3) := by decide +kernel
theorem dX4_meet_38 : decode cX4_meet 38 = .ok (.istore 4, 2) := by decide +kernel
theorem dX4_meet_40 : decode cX4_meet 40 = .ok (.iload_n 2, 1) := by decide +kernel
theorem dX4_meet_41 : decode cX4_meet 41 = .ok (.tableswitch 73 0 3 #[31, 73, 45, 55], 31) := by decide +kernel
theorem dX4_meet_72 : decode cX4_meet 72 = .ok (.aload_n 0, 1) := by decide +kernel
theorem dX4_meet_73 : decode cX4_meet 73 = .ok (.getfield 27, 3) := by decide +kernel
theorem dX4_meet_76 : decode cX4_meet 76 = .ok (.invokevirtual 166, 3) := by decide +kernel
theorem dX4_meet_79 : decode cX4_meet 79 = .ok (.iload 4, 2) := by decide +kernel
theorem dX4_meet_81 : decode cX4_meet 81 = .ok (.invokestatic 167, 3) := by decide +kernel
theorem dX4_meet_84 : decode cX4_meet 84 = .ok (.isub, 1) := by decide +kernel
theorem dX4_meet_85 : decode cX4_meet 85 = .ok (.ireturn, 1) := by decide +kernel
theorem dX4_meet_86 : decode cX4_meet 86 = .ok (.aload_n 0, 1) := by decide +kernel
theorem dX4_meet_87 : decode cX4_meet 87 = .ok (.getfield 27, 3) := by decide +kernel
theorem dX4_meet_90 : decode cX4_meet 90 = .ok (.iload 4, 2) := by decide +kernel
theorem dX4_meet_92 : decode cX4_meet 92 = .ok (.invokevirtual 172, 3) := by decide +kernel
theorem dX4_meet_95 : decode cX4_meet 95 = .ok (.ireturn, 1) := by decide +kernel
theorem dX4_meet_96 : decode cX4_meet 96 = .ok (.iload 4, 2) := by decide +kernel
theorem dX4_meet_98 : decode cX4_meet 98 = .ok (.aload_n 0, 1) := by decide +kernel
theorem dX4_meet_99 : decode cX4_meet 99 = .ok (.getfield 27, 3) := by decide +kernel
theorem dX4_meet_102 : decode cX4_meet 102 = .ok (.aload_n 0, 1) := by decide +kernel
theorem dX4_meet_103 : decode cX4_meet 103 = .ok (.getfield 20, 3) := by decide +kernel
theorem dX4_meet_106 : decode cX4_meet 106 = .ok (.invokevirtual 175, 3) := by decide +kernel
theorem dX4_meet_109 : decode cX4_meet 109 = .ok (.iand, 1) := by decide +kernel
theorem dX4_meet_110 : decode cX4_meet 110 = .ok (.invokestatic 167, 3) := by decide +kernel
theorem dX4_meet_113 : decode cX4_meet 113 = .ok (.ireturn, 1) := by decide +kernel
theorem dX4_meet_114 : decode cX4_meet 114 = .ok (.aload_n 0, 1) := by decide +kernel
theorem dX4_meet_115 : decode cX4_meet 115 = .ok (.iload 4, 2) := by decide +kernel
theorem dX4_meet_117 : decode cX4_meet 117 = .ok (.iload_n 2, 1) := by decide +kernel
theorem dX4_meet_118 : decode cX4_meet 118 = .ok (.bipush 10, 2) := by decide +kernel
theorem dX4_meet_120 : decode cX4_meet 120 = .ok (.isub, 1) := by decide +kernel
theorem dX4_meet_121 : decode cX4_meet 121 = .ok (.invokevirtual 178, 3) := by decide +kernel
theorem dX4_meet_124 : decode cX4_meet 124 = .ok (.ireturn, 1) := by decide +kernel
set_option maxRecDepth 20000 in
theorem ggX4_howOften_X0_hasPass : GoodIn wsX4_howOften wsX0_hasPass := goodIn_r _ [7, 8, 32, 33, 34, 35, 36] (by decide +kernel) (by decide +kernel)
set_option maxRecDepth 20000 in
theorem gX4_howOften_X0_hasPass : GoodIn wsX4_howOften (wsV RX4 74 RX0 yX0_hasPass wsX0_hasPass) := goodIn_app (goodIn_of _ (by decide +kernel)) ggX4_howOften_X0_hasPass
set_option maxRecDepth 20000 in
theorem ggX4_howOften_X3_onesOf : GoodIn wsX4_howOften wsX3_onesOf := goodIn_r _ [13, 14, 15, 16, 17, 18, 37, 38, 39] (by decide +kernel) (by decide +kernel)
set_option maxRecDepth 20000 in
theorem gX4_howOften_X3_onesOf : GoodIn wsX4_howOften (wsV RX4 181 RX3 yX3_onesOf wsX3_onesOf) := goodIn_app (goodIn_of _ (by decide +kernel)) ggX4_howOften_X3_onesOf
set_option maxRecDepth 20000 in
theorem ggX4_howOften_J6_bitCount_0f7a4 : GoodIn wsX4_howOften wsJ6_bitCount_0f7a4 := goodIn_r _ [22, 23, 24, 25] (by decide +kernel) (by decide +kernel)
set_option maxRecDepth 20000 in
theorem gX4_howOften_J6_bitCount_0f7a4 : GoodIn wsX4_howOften (va_wsS RX4 167 yJ6_bitCount_0f7a4 wsJ6_bitCount_0f7a4) := goodIn_app (goodIn_of _ (by decide +kernel)) ggX4_howOften_J6_bitCount_0f7a4
theorem dX4_howOften_0 : decode cX4_howOften 0 = .ok (.aload_n 0, 1) := by decide +kernel
theorem dX4_howOften_1 : decode cX4_howOften 1 = .ok (.getfield 20, 3) := by decide +kernel
theorem dX4_howOften_4 : decode cX4_howOften 4 = .ok (.iload_n 2, 1) := by decide +kernel
theorem dX4_howOften_5 : decode cX4_howOften 5 = .ok (.invokevirtual 74, 3) := by decide +kernel
theorem dX4_howOften_8 : decode cX4_howOften 8 = .ok (.ifCond .eq 19, 3) := by decide +kernel
theorem dX4_howOften_11 : decode cX4_howOften 11 = .ok (.iload_n 1, 1) := by decide +kernel
theorem dX4_howOften_12 : decode cX4_howOften 12 = .ok (.aload_n 0, 1) := by decide +kernel
theorem dX4_howOften_13 : decode cX4_howOften 13 = .ok (.getfield 27, 3) := by decide +kernel
theorem dX4_howOften_16 : decode cX4_howOften 16 = .ok (.iload_n 2, 1) := by decide +kernel
theorem dX4_howOften_17 : decode cX4_howOften 17 = .ok (.invokevirtual 181, 3) := by decide +kernel
theorem dX4_howOften_20 : decode cX4_howOften 20 = .ok (.iand, 1) := by decide +kernel
theorem dX4_howOften_21 : decode cX4_howOften 21 = .ok (.invokestatic 167, 3) := by decide +kernel
theorem dX4_howOften_24 : decode cX4_howOften 24 = .ok (.goto 5, 3) := by decide +kernel
theorem dX4_howOften_27 : decode cX4_howOften 27 = .ok (.bipush (-9), 2) := by decide +kernel
theorem dX4_howOften_29 : decode cX4_howOften 29 = .ok (.ireturn, 1) := by decide +kernel
set_option maxRecDepth 20000 in
theorem ggX4_reading_X0_hasPass : GoodIn wsX4_reading wsX0_hasPass := goodIn_r _ [7, 8, 36, 37, 38, 39, 40] (by decide +kernel) (by decide +kernel)
set_option maxRecDepth 20000 in
theorem gX4_reading_X0_hasPass : GoodIn wsX4_reading (wsV RX4 74 RX0 yX0_hasPass wsX0_hasPass) := goodIn_app (goodIn_of _ (by decide +kernel)) ggX4_reading_X0_hasPass
set_option maxRecDepth 20000 in
theorem ggX4_reading_X4_isMonths : GoodIn wsX4_reading wsX4_isMonths := goodIn_r _ [12, 13, 14, 11, 15] (by decide +kernel) (by decide +kernel)
set_option maxRecDepth 20000 in
theorem gX4_reading_X4_isMonths : GoodIn wsX4_reading (va_wsS RX4 106 yX4_isMonths wsX4_isMonths) := goodIn_app (goodIn_of _ (by decide +kernel)) ggX4_reading_X4_isMonths
set_option maxRecDepth 20000 in
theorem ggX4_reading_X1_howMany : GoodIn wsX4_reading wsX1_howMany := goodIn_r _ [20, 21, 41, 42, 43, 44, 45] (by decide +kernel) (by decide +kernel)
set_option maxRecDepth 20000 in
theorem gX4_reading_X1_howMany : GoodIn wsX4_reading (wsV RX4 65 RX1 yX1_howMany wsX1_howMany) := goodIn_app (goodIn_of _ (by decide +kernel)) ggX4_reading_X1_howMany
set_option maxRecDepth 20000 in
theorem ggX4_reading_X1_append : GoodIn wsX4_reading wsX1_append := goodIn_r _ [25, 21, 26, 27, 28, 29, 41, 42, 43, 44, 45] (by decide +kernel) (by decide +kernel)
set_option maxRecDepth 20000 in
theorem gX4_reading_X1_append : GoodIn wsX4_reading (wsV RX4 184 RX1 yX1_append wsX1_append) := goodIn_app (goodIn_of _ (by decide +kernel)) ggX4_reading_X1_append
theorem dX4_reading_0 : decode cX4_reading 0 = .ok (.aload_n 0, 1) := by decide +kernel
theorem dX4_reading_1 : decode cX4_reading 1 = .ok (.getfield 20, 3) := by decide +kernel
theorem dX4_reading_4 : decode cX4_reading 4 = .ok (.iload_n 1, 1) := by decide +kernel
theorem dX4_reading_5 : decode cX4_reading 5 = .ok (.invokevirtual 74, 3) := by decide +kernel
theorem dX4_reading_8 : decode cX4_reading 8 = .ok (.ifCond .eq 14, 3) := by decide +kernel
theorem dX4_reading_11 : decode cX4_reading 11 = .ok (.aload_n 0, 1) := by decide +kernel
theorem dX4_reading_12 : decode cX4_reading 12 = .ok (.getfield 20, 3) := by decide +kernel
theorem dX4_reading_15 : decode cX4_reading 15 = .ok (.iload_n 2, 1) := by decide +kernel
theorem dX4_reading_16 : decode cX4_reading 16 = .ok (.invokevirtual 74, 3) := by decide +kernel
theorem dX4_reading_19 : decode cX4_reading 19 = .ok (.ifCond .ne 5, 3) := by decide +kernel
theorem dX4_reading_22 : decode cX4_reading 22 = .ok (.iconst (-1), 1) := by decide +kernel
theorem dX4_reading_23 : decode cX4_reading 23 = .ok (.ireturn, 1) := by decide +kernel
theorem dX4_reading_24 : decode cX4_reading 24 = .ok (.iload_n 3, 1) := by decide +kernel
theorem dX4_reading_25 : decode cX4_reading 25 = .ok (.invokestatic 106, 3) := by decide +kernel
theorem dX4_reading_28 : decode cX4_reading 28 = .ok (.ifCond .ne 6, 3) := by decide +kernel
theorem dX4_reading_31 : decode cX4_reading 31 = .ok (.bipush (-2), 2) := by decide +kernel
theorem dX4_reading_33 : decode cX4_reading 33 = .ok (.ireturn, 1) := by decide +kernel
theorem dX4_reading_34 : decode cX4_reading 34 = .ok (.aload_n 0, 1) := by decide +kernel
theorem dX4_reading_35 : decode cX4_reading 35 = .ok (.getfield 34, 3) := by decide +kernel
theorem dX4_reading_38 : decode cX4_reading 38 = .ok (.invokevirtual 65, 3) := by decide +kernel
theorem dX4_reading_41 : decode cX4_reading 41 = .ok (.bipush 8, 2) := by decide +kernel
theorem dX4_reading_43 : decode cX4_reading 43 = .ok (.if_icmp .lt 6, 3) := by decide +kernel
theorem dX4_reading_46 : decode cX4_reading 46 = .ok (.bipush (-4), 2) := by decide +kernel
theorem dX4_reading_48 : decode cX4_reading 48 = .ok (.ireturn, 1) := by decide +kernel
theorem dX4_reading_49 : decode cX4_reading 49 = .ok (.aload_n 0, 1) := by decide +kernel
theorem dX4_reading_50 : decode cX4_reading 50 = .ok (.getfield 34, 3) := by decide +kernel
theorem dX4_reading_53 : decode cX4_reading 53 = .ok (.iload_n 1, 1) := by decide +kernel
theorem dX4_reading_54 : decode cX4_reading 54 = .ok (.iload_n 2, 1) := by decide +kernel
theorem dX4_reading_55 : decode cX4_reading 55 = .ok (.iload_n 3, 1) := by decide +kernel
theorem dX4_reading_56 : decode cX4_reading 56 = .ok (.iload 4, 2) := by decide +kernel
theorem dX4_reading_58 : decode cX4_reading 58 = .ok (.invokevirtual 184, 3) := by decide +kernel
theorem dX4_reading_61 : decode cX4_reading 61 = .ok (.aload_n 0, 1) := by decide +kernel
theorem dX4_reading_62 : decode cX4_reading 62 = .ok (.getfield 34, 3) := by decide +kernel
theorem dX4_reading_65 : decode cX4_reading 65 = .ok (.invokevirtual 65, 3) := by decide +kernel
theorem dX4_reading_68 : decode cX4_reading 68 = .ok (.iconst 1, 1) := by decide +kernel
theorem dX4_reading_69 : decode cX4_reading 69 = .ok (.isub, 1) := by decide +kernel
theorem dX4_reading_70 : decode cX4_reading 70 = .ok (.ireturn, 1) := by decide +kernel
set_option maxRecDepth 20000 in
theorem ggX4_back_X1_howMany : GoodIn wsX4_back wsX1_howMany := goodIn_r _ [6, 7, 22, 23, 24, 25, 26] (by decide +kernel) (by decide +kernel)
set_option maxRecDepth 20000 in
theorem gX4_back_X1_howMany : GoodIn wsX4_back (wsV RX4 65 RX1 yX1_howMany wsX1_howMany) := goodIn_app (goodIn_of _ (by decide +kernel)) ggX4_back_X1_howMany
set_option maxRecDepth 20000 in
theorem ggX4_back_X4_within : GoodIn wsX4_back wsX4_within := goodIn_r _ [11] (by decide +kernel) (by decide +kernel)
set_option maxRecDepth 20000 in
theorem gX4_back_X4_within : GoodIn wsX4_back (va_wsS RX4 77 yX4_within wsX4_within) := goodIn_app (goodIn_of _ (by decide +kernel)) ggX4_back_X4_within
set_option maxRecDepth 20000 in
theorem ggX4_back_X1_dropLast : GoodIn wsX4_back wsX1_dropLast := goodIn_r _ [15, 7, 22, 23, 24, 25, 26] (by decide +kernel) (by decide +kernel)
set_option maxRecDepth 20000 in
theorem gX4_back_X1_dropLast : GoodIn wsX4_back (wsV RX4 69 RX1 yX1_dropLast wsX1_dropLast) := goodIn_app (goodIn_of _ (by decide +kernel)) ggX4_back_X1_dropLast
theorem dX4_back_0 : decode cX4_back 0 = .ok (.iload_n 1, 1) := by decide +kernel
theorem dX4_back_1 : decode cX4_back 1 = .ok (.iconst 0, 1) := by decide +kernel
theorem dX4_back_2 : decode cX4_back 2 = .ok (.aload_n 0, 1) := by decide +kernel
theorem dX4_back_3 : decode cX4_back 3 = .ok (.getfield 34, 3) := by decide +kernel
theorem dX4_back_6 : decode cX4_back 6 = .ok (.invokevirtual 65, 3) := by decide +kernel
theorem dX4_back_9 : decode cX4_back 9 = .ok (.invokestatic 77, 3) := by decide +kernel
theorem dX4_back_12 : decode cX4_back 12 = .ok (.ifCond .ne 6, 3) := by decide +kernel
theorem dX4_back_15 : decode cX4_back 15 = .ok (.bipush (-2), 2) := by decide +kernel
theorem dX4_back_17 : decode cX4_back 17 = .ok (.ireturn, 1) := by decide +kernel
theorem dX4_back_18 : decode cX4_back 18 = .ok (.aload_n 0, 1) := by decide +kernel
theorem dX4_back_19 : decode cX4_back 19 = .ok (.getfield 34, 3) := by decide +kernel
theorem dX4_back_22 : decode cX4_back 22 = .ok (.iload_n 1, 1) := by decide +kernel
theorem dX4_back_23 : decode cX4_back 23 = .ok (.invokevirtual 69, 3) := by decide +kernel
theorem dX4_back_26 : decode cX4_back 26 = .ok (.aload_n 0, 1) := by decide +kernel
theorem dX4_back_27 : decode cX4_back 27 = .ok (.getfield 34, 3) := by decide +kernel
theorem dX4_back_30 : decode cX4_back 30 = .ok (.invokevirtual 65, 3) := by decide +kernel
theorem dX4_back_33 : decode cX4_back 33 = .ok (.ireturn, 1) := by decide +kernel
set_option maxRecDepth 20000 in
theorem ggX4_edges_X0_hasPass : GoodIn wsX4_edges wsX0_hasPass := goodIn_r _ [7, 8, 70, 71, 72, 73, 74] (by decide +kernel) (by decide +kernel)
set_option maxRecDepth 20000 in
theorem gX4_edges_X0_hasPass : GoodIn wsX4_edges (wsV RX4 74 RX0 yX0_hasPass wsX0_hasPass) := goodIn_app (goodIn_of _ (by decide +kernel)) ggX4_edges_X0_hasPass
set_option maxRecDepth 20000 in
theorem ggX4_edges_X4_isPlace : GoodIn wsX4_edges wsX4_isPlace := goodIn_r _ [12, 13, 14, 11, 15] (by decide +kernel) (by decide +kernel)
set_option maxRecDepth 20000 in
theorem gX4_edges_X4_isPlace : GoodIn wsX4_edges (va_wsS RX4 89 yX4_isPlace wsX4_isPlace) := goodIn_app (goodIn_of _ (by decide +kernel)) ggX4_edges_X4_isPlace
set_option maxRecDepth 20000 in
theorem ggX4_edges_X0_heightOf : GoodIn wsX4_edges wsX0_heightOf := goodIn_r _ [19, 20, 21, 4, 5, 6, 7, 8, 70, 71, 72, 73, 74] (by decide +kernel) (by decide +kernel)
set_option maxRecDepth 20000 in
theorem gX4_edges_X0_heightOf : GoodIn wsX4_edges (wsV RX4 85 RX0 yX0_heightOf wsX0_heightOf) := goodIn_app (goodIn_of _ (by decide +kernel)) ggX4_edges_X0_heightOf
set_option maxRecDepth 20000 in
theorem ggX4_edges_X0_setHeight : GoodIn wsX4_edges wsX0_setHeight := goodIn_r _ [25, 20, 21, 4, 5, 6, 7, 8, 70, 71, 72, 73, 74] (by decide +kernel) (by decide +kernel)
set_option maxRecDepth 20000 in
theorem gX4_edges_X0_setHeight : GoodIn wsX4_edges (wsV RX4 92 RX0 yX0_setHeight wsX0_setHeight) := goodIn_app (goodIn_of _ (by decide +kernel)) ggX4_edges_X0_setHeight
set_option maxRecDepth 20000 in
theorem ggX4_edges_X1_areSo : GoodIn wsX4_edges wsX1_areSo := goodIn_r _ [30, 31, 32, 33, 34, 35, 36, 37, 38, 6, 39, 40, 41, 42, 43, 44, 45, 46, 47, 48, 49, 50, 51, 52, 53, 54, 55, 56, 21, 4, 5, 7, 8, 57, 58, 59, 60, 17, 18, 19, 20, 75, 76, 77, 78, 79, 70, 71, 72, 73, 74] (by decide +kernel) (by decide +kernel)
set_option maxRecDepth 20000 in
theorem gX4_edges_X1_areSo : GoodIn wsX4_edges (wsV RX4 188 RX1 yX1_areSo wsX1_areSo) := goodIn_app (goodIn_of _ (by decide +kernel)) ggX4_edges_X1_areSo
set_option maxRecDepth 20000 in
theorem ggX4_edges_X4_bitIf : GoodIn wsX4_edges wsX4_bitIf := goodIn_r _ [63] (by decide +kernel) (by decide +kernel)
set_option maxRecDepth 20000 in
theorem gX4_edges_X4_bitIf : GoodIn wsX4_edges (va_wsS RX4 192 yX4_bitIf wsX4_bitIf) := goodIn_app (goodIn_of _ (by decide +kernel)) ggX4_edges_X4_bitIf
theorem dX4_edges_0 : decode cX4_edges 0 = .ok (.aload_n 0, 1) := by decide +kernel
theorem dX4_edges_1 : decode cX4_edges 1 = .ok (.getfield 20, 3) := by decide +kernel
theorem dX4_edges_4 : decode cX4_edges 4 = .ok (.iload_n 1, 1) := by decide +kernel
theorem dX4_edges_5 : decode cX4_edges 5 = .ok (.invokevirtual 74, 3) := by decide +kernel
theorem dX4_edges_8 : decode cX4_edges 8 = .ok (.ifCond .ne 5, 3) := by decide +kernel
theorem dX4_edges_11 : decode cX4_edges 11 = .ok (.iconst (-1), 1) := by decide +kernel
theorem dX4_edges_12 : decode cX4_edges 12 = .ok (.ireturn, 1) := by decide +kernel
theorem dX4_edges_13 : decode cX4_edges 13 = .ok (.iload_n 2, 1) := by decide +kernel
theorem dX4_edges_14 : decode cX4_edges 14 = .ok (.invokestatic 89, 3) := by decide +kernel
theorem dX4_edges_17 : decode cX4_edges 17 = .ok (.ifCond .ne 6, 3) := by decide +kernel
theorem dX4_edges_20 : decode cX4_edges 20 = .ok (.bipush (-2), 2) := by decide +kernel
theorem dX4_edges_22 : decode cX4_edges 22 = .ok (.ireturn, 1) := by decide +kernel
theorem dX4_edges_23 : decode cX4_edges 23 = .ok (.aload_n 0, 1) := by decide +kernel
theorem dX4_edges_24 : decode cX4_edges 24 = .ok (.getfield 20, 3) := by decide +kernel
theorem dX4_edges_27 : decode cX4_edges 27 = .ok (.iload_n 1, 1) := by decide +kernel
theorem dX4_edges_28 : decode cX4_edges 28 = .ok (.iload_n 2, 1) := by decide +kernel
theorem dX4_edges_29 : decode cX4_edges 29 = .ok (.invokevirtual 85, 3) := by decide +kernel
theorem dX4_edges_32 : decode cX4_edges 32 = .ok (.istore_n 3, 1) := by decide +kernel
theorem dX4_edges_33 : decode cX4_edges 33 = .ok (.iconst 0, 1) := by decide +kernel
theorem dX4_edges_34 : decode cX4_edges 34 = .ok (.istore 4, 2) := by decide +kernel
theorem dX4_edges_36 : decode cX4_edges 36 = .ok (.iconst 0, 1) := by decide +kernel
theorem dX4_edges_37 : decode cX4_edges 37 = .ok (.istore 5, 2) := by decide +kernel
theorem dX4_edges_39 : decode cX4_edges 39 = .ok (.iload 5, 2) := by decide +kernel
theorem dX4_edges_41 : decode cX4_edges 41 = .ok (.bipush 9, 2) := by decide +kernel
theorem dX4_edges_43 : decode cX4_edges 43 = .ok (.if_icmp .gt 41, 3) := by decide +kernel
theorem dX4_edges_46 : decode cX4_edges 46 = .ok (.aload_n 0, 1) := by decide +kernel
theorem dX4_edges_47 : decode cX4_edges 47 = .ok (.getfield 20, 3) := by decide +kernel
theorem dX4_edges_50 : decode cX4_edges 50 = .ok (.iload_n 1, 1) := by decide +kernel
theorem dX4_edges_51 : decode cX4_edges 51 = .ok (.iload_n 2, 1) := by decide +kernel
theorem dX4_edges_52 : decode cX4_edges 52 = .ok (.iload 5, 2) := by decide +kernel
theorem dX4_edges_54 : decode cX4_edges 54 = .ok (.invokevirtual 92, 3) := by decide +kernel
theorem dX4_edges_57 : decode cX4_edges 57 = .ok (.iload 4, 2) := by decide +kernel
theorem dX4_edges_59 : decode cX4_edges 59 = .ok (.aload_n 0, 1) := by decide +kernel
theorem dX4_edges_60 : decode cX4_edges 60 = .ok (.getfield 34, 3) := by decide +kernel
theorem dX4_edges_63 : decode cX4_edges 63 = .ok (.aload_n 0, 1) := by decide +kernel
theorem dX4_edges_64 : decode cX4_edges 64 = .ok (.getfield 20, 3) := by decide +kernel
theorem dX4_edges_67 : decode cX4_edges 67 = .ok (.invokevirtual 188, 3) := by decide +kernel
theorem dX4_edges_70 : decode cX4_edges 70 = .ok (.iload 5, 2) := by decide +kernel
theorem dX4_edges_72 : decode cX4_edges 72 = .ok (.invokestatic 192, 3) := by decide +kernel
theorem dX4_edges_75 : decode cX4_edges 75 = .ok (.ior, 1) := by decide +kernel
theorem dX4_edges_76 : decode cX4_edges 76 = .ok (.istore 4, 2) := by decide +kernel
theorem dX4_edges_78 : decode cX4_edges 78 = .ok (.iinc 5 1, 3) := by decide +kernel
theorem dX4_edges_81 : decode cX4_edges 81 = .ok (.goto (-42), 3) := by decide +kernel
theorem dX4_edges_84 : decode cX4_edges 84 = .ok (.aload_n 0, 1) := by decide +kernel
theorem dX4_edges_85 : decode cX4_edges 85 = .ok (.getfield 20, 3) := by decide +kernel
theorem dX4_edges_88 : decode cX4_edges 88 = .ok (.iload_n 1, 1) := by decide +kernel
theorem dX4_edges_89 : decode cX4_edges 89 = .ok (.iload_n 2, 1) := by decide +kernel
theorem dX4_edges_90 : decode cX4_edges 90 = .ok (.iload_n 3, 1) := by decide +kernel
theorem dX4_edges_91 : decode cX4_edges 91 = .ok (.invokevirtual 92, 3) := by decide +kernel
theorem dX4_edges_94 : decode cX4_edges 94 = .ok (.iload 4, 2) := by decide +kernel
theorem dX4_edges_96 : decode cX4_edges 96 = .ok (.ireturn, 1) := by decide +kernel
set_option maxRecDepth 20000 in
theorem ggX4_kinds_X0_hasPass : GoodIn wsX4_kinds wsX0_hasPass := goodIn_r _ [7, 8, 64, 65, 66, 67, 68] (by decide +kernel) (by decide +kernel)
set_option maxRecDepth 20000 in
theorem gX4_kinds_X0_hasPass : GoodIn wsX4_kinds (wsV RX4 74 RX0 yX0_hasPass wsX0_hasPass) := goodIn_app (goodIn_of _ (by decide +kernel)) ggX4_kinds_X0_hasPass
set_option maxRecDepth 20000 in
theorem ggX4_kinds_X0_kindOf : GoodIn wsX4_kinds wsX0_kindOf := goodIn_r _ [12, 13, 14, 4, 5, 6, 7, 8, 64, 65, 66, 67, 68] (by decide +kernel) (by decide +kernel)
set_option maxRecDepth 20000 in
theorem gX4_kinds_X0_kindOf : GoodIn wsX4_kinds (wsV RX4 81 RX0 yX0_kindOf wsX0_kindOf) := goodIn_app (goodIn_of _ (by decide +kernel)) ggX4_kinds_X0_kindOf
set_option maxRecDepth 20000 in
theorem ggX4_kinds_X0_setKind : GoodIn wsX4_kinds wsX0_setKind := goodIn_r _ [18, 13, 14, 4, 5, 6, 7, 8, 64, 65, 66, 67, 68] (by decide +kernel) (by decide +kernel)
set_option maxRecDepth 20000 in
theorem gX4_kinds_X0_setKind : GoodIn wsX4_kinds (wsV RX4 196 RX0 yX0_setKind wsX0_setKind) := goodIn_app (goodIn_of _ (by decide +kernel)) ggX4_kinds_X0_setKind
set_option maxRecDepth 20000 in
theorem ggX4_kinds_X1_areSo : GoodIn wsX4_kinds wsX1_areSo := goodIn_r _ [23, 24, 25, 26, 27, 28, 29, 30, 31, 6, 32, 33, 34, 35, 36, 37, 38, 39, 40, 41, 42, 43, 44, 45, 10, 11, 12, 13, 14, 4, 5, 7, 8, 46, 47, 48, 49, 50, 51, 52, 53, 69, 70, 71, 72, 73, 64, 65, 66, 67, 68] (by decide +kernel) (by decide +kernel)
set_option maxRecDepth 20000 in
theorem gX4_kinds_X1_areSo : GoodIn wsX4_kinds (wsV RX4 188 RX1 yX1_areSo wsX1_areSo) := goodIn_app (goodIn_of _ (by decide +kernel)) ggX4_kinds_X1_areSo
set_option maxRecDepth 20000 in
theorem ggX4_kinds_X4_bitIf : GoodIn wsX4_kinds wsX4_bitIf := goodIn_r _ [57] (by decide +kernel) (by decide +kernel)
set_option maxRecDepth 20000 in
theorem gX4_kinds_X4_bitIf : GoodIn wsX4_kinds (va_wsS RX4 192 yX4_bitIf wsX4_bitIf) := goodIn_app (goodIn_of _ (by decide +kernel)) ggX4_kinds_X4_bitIf
theorem dX4_kinds_0 : decode cX4_kinds 0 = .ok (.aload_n 0, 1) := by decide +kernel
theorem dX4_kinds_1 : decode cX4_kinds 1 = .ok (.getfield 20, 3) := by decide +kernel
theorem dX4_kinds_4 : decode cX4_kinds 4 = .ok (.iload_n 1, 1) := by decide +kernel
theorem dX4_kinds_5 : decode cX4_kinds 5 = .ok (.invokevirtual 74, 3) := by decide +kernel
theorem dX4_kinds_8 : decode cX4_kinds 8 = .ok (.ifCond .ne 5, 3) := by decide +kernel
theorem dX4_kinds_11 : decode cX4_kinds 11 = .ok (.iconst (-1), 1) := by decide +kernel
theorem dX4_kinds_12 : decode cX4_kinds 12 = .ok (.ireturn, 1) := by decide +kernel
theorem dX4_kinds_13 : decode cX4_kinds 13 = .ok (.aload_n 0, 1) := by decide +kernel
theorem dX4_kinds_14 : decode cX4_kinds 14 = .ok (.getfield 20, 3) := by decide +kernel
theorem dX4_kinds_17 : decode cX4_kinds 17 = .ok (.iload_n 1, 1) := by decide +kernel
theorem dX4_kinds_18 : decode cX4_kinds 18 = .ok (.invokevirtual 81, 3) := by decide +kernel
theorem dX4_kinds_21 : decode cX4_kinds 21 = .ok (.istore_n 2, 1) := by decide +kernel
theorem dX4_kinds_22 : decode cX4_kinds 22 = .ok (.iconst 0, 1) := by decide +kernel
theorem dX4_kinds_23 : decode cX4_kinds 23 = .ok (.istore_n 3, 1) := by decide +kernel
theorem dX4_kinds_24 : decode cX4_kinds 24 = .ok (.iconst 0, 1) := by decide +kernel
theorem dX4_kinds_25 : decode cX4_kinds 25 = .ok (.istore 4, 2) := by decide +kernel
theorem dX4_kinds_27 : decode cX4_kinds 27 = .ok (.iload 4, 2) := by decide +kernel
theorem dX4_kinds_29 : decode cX4_kinds 29 = .ok (.iconst 2, 1) := by decide +kernel
theorem dX4_kinds_30 : decode cX4_kinds 30 = .ok (.if_icmp .gt 38, 3) := by decide +kernel
theorem dX4_kinds_33 : decode cX4_kinds 33 = .ok (.aload_n 0, 1) := by decide +kernel
theorem dX4_kinds_34 : decode cX4_kinds 34 = .ok (.getfield 20, 3) := by decide +kernel
theorem dX4_kinds_37 : decode cX4_kinds 37 = .ok (.iload_n 1, 1) := by decide +kernel
theorem dX4_kinds_38 : decode cX4_kinds 38 = .ok (.iload 4, 2) := by decide +kernel
theorem dX4_kinds_40 : decode cX4_kinds 40 = .ok (.invokevirtual 196, 3) := by decide +kernel
theorem dX4_kinds_43 : decode cX4_kinds 43 = .ok (.iload_n 3, 1) := by decide +kernel
theorem dX4_kinds_44 : decode cX4_kinds 44 = .ok (.aload_n 0, 1) := by decide +kernel
theorem dX4_kinds_45 : decode cX4_kinds 45 = .ok (.getfield 34, 3) := by decide +kernel
theorem dX4_kinds_48 : decode cX4_kinds 48 = .ok (.aload_n 0, 1) := by decide +kernel
theorem dX4_kinds_49 : decode cX4_kinds 49 = .ok (.getfield 20, 3) := by decide +kernel
theorem dX4_kinds_52 : decode cX4_kinds 52 = .ok (.invokevirtual 188, 3) := by decide +kernel
theorem dX4_kinds_55 : decode cX4_kinds 55 = .ok (.iload 4, 2) := by decide +kernel
theorem dX4_kinds_57 : decode cX4_kinds 57 = .ok (.invokestatic 192, 3) := by decide +kernel
theorem dX4_kinds_60 : decode cX4_kinds 60 = .ok (.ior, 1) := by decide +kernel
theorem dX4_kinds_61 : decode cX4_kinds 61 = .ok (.istore_n 3, 1) := by decide +kernel
theorem dX4_kinds_62 : decode cX4_kinds 62 = .ok (.iinc 4 1, 3) := by decide +kernel
theorem dX4_kinds_65 : decode cX4_kinds 65 = .ok (.goto (-38), 3) := by decide +kernel
theorem dX4_kinds_68 : decode cX4_kinds 68 = .ok (.aload_n 0, 1) := by decide +kernel
theorem dX4_kinds_69 : decode cX4_kinds 69 = .ok (.getfield 20, 3) := by decide +kernel
theorem dX4_kinds_72 : decode cX4_kinds 72 = .ok (.iload_n 1, 1) := by decide +kernel
theorem dX4_kinds_73 : decode cX4_kinds 73 = .ok (.iload_n 2, 1) := by decide +kernel
theorem dX4_kinds_74 : decode cX4_kinds 74 = .ok (.invokevirtual 196, 3) := by decide +kernel
theorem dX4_kinds_77 : decode cX4_kinds 77 = .ok (.iload_n 3, 1) := by decide +kernel
theorem dX4_kinds_78 : decode cX4_kinds 78 = .ok (.ireturn, 1) := by decide +kernel
set_option maxRecDepth 20000 in
theorem ggX4_slacks_X0_stands : GoodIn wsX4_slacks wsX0_stands := goodIn_r _ [7, 8, 70, 71, 72, 73, 74] (by decide +kernel) (by decide +kernel)
set_option maxRecDepth 20000 in
theorem gX4_slacks_X0_stands : GoodIn wsX4_slacks (wsV RX4 96 RX0 yX0_stands wsX0_stands) := goodIn_app (goodIn_of _ (by decide +kernel)) ggX4_slacks_X0_stands
set_option maxRecDepth 20000 in
theorem ggX4_slacks_X0_slackNow : GoodIn wsX4_slacks wsX0_slackNow := goodIn_r _ [12, 13, 70, 71, 72, 73, 74] (by decide +kernel) (by decide +kernel)
set_option maxRecDepth 20000 in
theorem gX4_slacks_X0_slackNow : GoodIn wsX4_slacks (wsV RX4 100 RX0 yX0_slackNow wsX0_slackNow) := goodIn_app (goodIn_of _ (by decide +kernel)) ggX4_slacks_X0_slackNow
set_option maxRecDepth 20000 in
theorem ggX4_slacks_X0_setSlack : GoodIn wsX4_slacks wsX0_setSlack := goodIn_r _ [17, 13, 70, 71, 72, 73, 74] (by decide +kernel) (by decide +kernel)
set_option maxRecDepth 20000 in
theorem gX4_slacks_X0_setSlack : GoodIn wsX4_slacks (wsV RX4 103 RX0 yX0_setSlack wsX0_setSlack) := goodIn_app (goodIn_of _ (by decide +kernel)) ggX4_slacks_X0_setSlack
set_option maxRecDepth 20000 in
theorem ggX4_slacks_X1_areSo : GoodIn wsX4_slacks wsX1_areSo := goodIn_r _ [22, 23, 24, 25, 26, 27, 28, 29, 30, 6, 31, 13, 32, 33, 34, 35, 36, 37, 38, 39, 40, 41, 42, 43, 44, 45, 46, 47, 48, 49, 50, 51, 8, 52, 53, 54, 55, 56, 57, 58, 59, 75, 76, 77, 78, 79, 70, 71, 72, 73, 74] (by decide +kernel) (by decide +kernel)
set_option maxRecDepth 20000 in
theorem gX4_slacks_X1_areSo : GoodIn wsX4_slacks (wsV RX4 188 RX1 yX1_areSo wsX1_areSo) := goodIn_app (goodIn_of _ (by decide +kernel)) ggX4_slacks_X1_areSo
set_option maxRecDepth 20000 in
theorem ggX4_slacks_X4_bitIf : GoodIn wsX4_slacks wsX4_bitIf := goodIn_r _ [63] (by decide +kernel) (by decide +kernel)
set_option maxRecDepth 20000 in
theorem gX4_slacks_X4_bitIf : GoodIn wsX4_slacks (va_wsS RX4 192 yX4_bitIf wsX4_bitIf) := goodIn_app (goodIn_of _ (by decide +kernel)) ggX4_slacks_X4_bitIf
theorem dX4_slacks_0 : decode cX4_slacks 0 = .ok (.aload_n 0, 1) := by decide +kernel
theorem dX4_slacks_1 : decode cX4_slacks 1 = .ok (.getfield 20, 3) := by decide +kernel
theorem dX4_slacks_4 : decode cX4_slacks 4 = .ok (.invokevirtual 96, 3) := by decide +kernel
theorem dX4_slacks_7 : decode cX4_slacks 7 = .ok (.ifCond .ne 6, 3) := by decide +kernel
theorem dX4_slacks_10 : decode cX4_slacks 10 = .ok (.bipush (-3), 2) := by decide +kernel
theorem dX4_slacks_12 : decode cX4_slacks 12 = .ok (.ireturn, 1) := by decide +kernel
theorem dX4_slacks_13 : decode cX4_slacks 13 = .ok (.aload_n 0, 1) := by decide +kernel
theorem dX4_slacks_14 : decode cX4_slacks 14 = .ok (.getfield 20, 3) := by decide +kernel
theorem dX4_slacks_17 : decode cX4_slacks 17 = .ok (.invokevirtual 100, 3) := by decide +kernel
theorem dX4_slacks_20 : decode cX4_slacks 20 = .ok (.istore_n 1, 1) := by decide +kernel
theorem dX4_slacks_21 : decode cX4_slacks 21 = .ok (.iconst 0, 1) := by decide +kernel
theorem dX4_slacks_22 : decode cX4_slacks 22 = .ok (.istore_n 2, 1) := by decide +kernel
theorem dX4_slacks_23 : decode cX4_slacks 23 = .ok (.iconst 0, 1) := by decide +kernel
theorem dX4_slacks_24 : decode cX4_slacks 24 = .ok (.istore_n 3, 1) := by decide +kernel
theorem dX4_slacks_25 : decode cX4_slacks 25 = .ok (.iload_n 3, 1) := by decide +kernel
theorem dX4_slacks_26 : decode cX4_slacks 26 = .ok (.bipush 9, 2) := by decide +kernel
theorem dX4_slacks_28 : decode cX4_slacks 28 = .ok (.if_icmp .gt 35, 3) := by decide +kernel
theorem dX4_slacks_31 : decode cX4_slacks 31 = .ok (.aload_n 0, 1) := by decide +kernel
theorem dX4_slacks_32 : decode cX4_slacks 32 = .ok (.getfield 20, 3) := by decide +kernel
theorem dX4_slacks_35 : decode cX4_slacks 35 = .ok (.iload_n 3, 1) := by decide +kernel
theorem dX4_slacks_36 : decode cX4_slacks 36 = .ok (.invokevirtual 103, 3) := by decide +kernel
theorem dX4_slacks_39 : decode cX4_slacks 39 = .ok (.iload_n 2, 1) := by decide +kernel
theorem dX4_slacks_40 : decode cX4_slacks 40 = .ok (.aload_n 0, 1) := by decide +kernel
theorem dX4_slacks_41 : decode cX4_slacks 41 = .ok (.getfield 34, 3) := by decide +kernel
theorem dX4_slacks_44 : decode cX4_slacks 44 = .ok (.aload_n 0, 1) := by decide +kernel
theorem dX4_slacks_45 : decode cX4_slacks 45 = .ok (.getfield 20, 3) := by decide +kernel
theorem dX4_slacks_48 : decode cX4_slacks 48 = .ok (.invokevirtual 188, 3) := by decide +kernel
theorem dX4_slacks_51 : decode cX4_slacks 51 = .ok (.iload_n 3, 1) := by decide +kernel
theorem dX4_slacks_52 : decode cX4_slacks 52 = .ok (.invokestatic 192, 3) := by decide +kernel
theorem dX4_slacks_55 : decode cX4_slacks 55 = .ok (.ior, 1) := by decide +kernel
theorem dX4_slacks_56 : decode cX4_slacks 56 = .ok (.istore_n 2, 1) := by decide +kernel
theorem dX4_slacks_57 : decode cX4_slacks 57 = .ok (.iinc 3 1, 3) := by decide +kernel
theorem dX4_slacks_60 : decode cX4_slacks 60 = .ok (.goto (-35), 3) := by decide +kernel
theorem dX4_slacks_63 : decode cX4_slacks 63 = .ok (.aload_n 0, 1) := by decide +kernel
theorem dX4_slacks_64 : decode cX4_slacks 64 = .ok (.getfield 20, 3) := by decide +kernel
theorem dX4_slacks_67 : decode cX4_slacks 67 = .ok (.iload_n 1, 1) := by decide +kernel
theorem dX4_slacks_68 : decode cX4_slacks 68 = .ok (.invokevirtual 103, 3) := by decide +kernel
theorem dX4_slacks_71 : decode cX4_slacks 71 = .ok (.iload_n 2, 1) := by decide +kernel
theorem dX4_slacks_72 : decode cX4_slacks 72 = .ok (.ireturn, 1) := by decide +kernel
set_option maxRecDepth 20000 in
theorem ggX4_odds_X0_hasPass : GoodIn wsX4_odds wsX0_hasPass := goodIn_r _ [7, 8, 61, 62, 63, 64, 65] (by decide +kernel) (by decide +kernel)
set_option maxRecDepth 20000 in
theorem gX4_odds_X0_hasPass : GoodIn wsX4_odds (wsV RX4 74 RX0 yX0_hasPass wsX0_hasPass) := goodIn_app (goodIn_of _ (by decide +kernel)) ggX4_odds_X0_hasPass
set_option maxRecDepth 20000 in
theorem ggX4_odds_X4_isMonths : GoodIn wsX4_odds wsX4_isMonths := goodIn_r _ [12, 13, 14, 11, 15] (by decide +kernel) (by decide +kernel)
set_option maxRecDepth 20000 in
theorem gX4_odds_X4_isMonths : GoodIn wsX4_odds (va_wsS RX4 106 yX4_isMonths wsX4_isMonths) := goodIn_app (goodIn_of _ (by decide +kernel)) ggX4_odds_X4_isMonths
set_option maxRecDepth 20000 in
theorem ggX4_odds_X4_within : GoodIn wsX4_odds wsX4_within := goodIn_r _ [15] (by decide +kernel) (by decide +kernel)
set_option maxRecDepth 20000 in
theorem gX4_odds_X4_within : GoodIn wsX4_odds (va_wsS RX4 77 yX4_within wsX4_within) := goodIn_app (goodIn_of _ (by decide +kernel)) ggX4_odds_X4_within
set_option maxRecDepth 20000 in
theorem ggX4_odds_X0_fitting : GoodIn wsX4_odds wsX0_fitting := goodIn_r _ [19, 8, 20, 21, 22, 23, 6, 24, 25, 26, 27, 28, 29, 30, 31, 32, 33, 34, 35, 36, 37, 4, 5, 7, 38, 39, 40, 41, 42, 43, 44, 45, 46, 11, 47, 61, 62, 63, 64, 65] (by decide +kernel) (by decide +kernel)
set_option maxRecDepth 20000 in
theorem gX4_odds_X0_fitting : GoodIn wsX4_odds (wsV RX4 116 RX0 yX0_fitting wsX0_fitting) := goodIn_app (goodIn_of _ (by decide +kernel)) ggX4_odds_X0_fitting
set_option maxRecDepth 20000 in
theorem ggX4_odds_J6_bitCount_0f7a4 : GoodIn wsX4_odds wsJ6_bitCount_0f7a4 := goodIn_r _ [51, 52, 53, 54] (by decide +kernel) (by decide +kernel)
set_option maxRecDepth 20000 in
theorem gX4_odds_J6_bitCount_0f7a4 : GoodIn wsX4_odds (va_wsS RX4 167 yJ6_bitCount_0f7a4 wsJ6_bitCount_0f7a4) := goodIn_app (goodIn_of _ (by decide +kernel)) ggX4_odds_J6_bitCount_0f7a4
theorem dX4_odds_0 : decode cX4_odds 0 = .ok (.aload_n 0, 1) := by decide +kernel
theorem dX4_odds_1 : decode cX4_odds 1 = .ok (.getfield 20, 3) := by decide +kernel
theorem dX4_odds_4 : decode cX4_odds 4 = .ok (.iload_n 1, 1) := by decide +kernel
theorem dX4_odds_5 : decode cX4_odds 5 = .ok (.invokevirtual 74, 3) := by decide +kernel
theorem dX4_odds_8 : decode cX4_odds 8 = .ok (.ifCond .eq 19, 3) := by decide +kernel
theorem dX4_odds_11 : decode cX4_odds 11 = .ok (.iload_n 2, 1) := by decide +kernel
theorem dX4_odds_12 : decode cX4_odds 12 = .ok (.invokestatic 106, 3) := by decide +kernel
theorem dX4_odds_15 : decode cX4_odds 15 = .ok (.ifCond .eq 12, 3) := by decide +kernel
theorem dX4_odds_18 : decode cX4_odds 18 = .ok (.iload_n 3, 1) := by decide +kernel
theorem dX4_odds_19 : decode cX4_odds 19 = .ok (.iconst 0, 1) := by decide +kernel
theorem dX4_odds_20 : decode cX4_odds 20 = .ok (.iconst 1, 1) := by decide +kernel
theorem dX4_odds_21 : decode cX4_odds 21 = .ok (.invokestatic 77, 3) := by decide +kernel
theorem dX4_odds_24 : decode cX4_odds 24 = .ok (.ifCond .ne 7, 3) := by decide +kernel
theorem dX4_odds_27 : decode cX4_odds 27 = .ok (.ldc2_w 200, 3) := by decide +kernel
theorem dX4_odds_30 : decode cX4_odds 30 = .ok (.lreturn, 1) := by decide +kernel
theorem dX4_odds_31 : decode cX4_odds 31 = .ok (.lconst 1, 1) := by decide +kernel
theorem dX4_odds_32 : decode cX4_odds 32 = .ok (.aload_n 0, 1) := by decide +kernel
theorem dX4_odds_33 : decode cX4_odds 33 = .ok (.getfield 20, 3) := by decide +kernel
theorem dX4_odds_36 : decode cX4_odds 36 = .ok (.iload_n 1, 1) := by decide +kernel
theorem dX4_odds_37 : decode cX4_odds 37 = .ok (.iload_n 2, 1) := by decide +kernel
theorem dX4_odds_38 : decode cX4_odds 38 = .ok (.invokevirtual 116, 3) := by decide +kernel
theorem dX4_odds_41 : decode cX4_odds 41 = .ok (.invokestatic 167, 3) := by decide +kernel
theorem dX4_odds_44 : decode cX4_odds 44 = .ok (.lshl, 1) := by decide +kernel
theorem dX4_odds_45 : decode cX4_odds 45 = .ok (.lstore 4, 2) := by decide +kernel
theorem dX4_odds_47 : decode cX4_odds 47 = .ok (.iload_n 3, 1) := by decide +kernel
theorem dX4_odds_48 : decode cX4_odds 48 = .ok (.ifCond .ne 10, 3) := by decide +kernel
theorem dX4_odds_51 : decode cX4_odds 51 = .ok (.lload 4, 2) := by decide +kernel
theorem dX4_odds_53 : decode cX4_odds 53 = .ok (.lconst 1, 1) := by decide +kernel
theorem dX4_odds_54 : decode cX4_odds 54 = .ok (.lsub, 1) := by decide +kernel
theorem dX4_odds_55 : decode cX4_odds 55 = .ok (.goto 5, 3) := by decide +kernel
theorem dX4_odds_58 : decode cX4_odds 58 = .ok (.lload 4, 2) := by decide +kernel
theorem dX4_odds_60 : decode cX4_odds 60 = .ok (.lreturn, 1) := by decide +kernel
set_option maxRecDepth 20000 in
theorem ggX4_sheet_X4_isSheet : GoodIn wsX4_sheet wsX4_isSheet := goodIn_r _ [6, 7, 8, 5, 9] (by decide +kernel) (by decide +kernel)
set_option maxRecDepth 20000 in
theorem gX4_sheet_X4_isSheet : GoodIn wsX4_sheet (va_wsS RX4 46 yX4_isSheet wsX4_isSheet) := goodIn_app (goodIn_of _ (by decide +kernel)) ggX4_sheet_X4_isSheet
end
section
set_option maxRecDepth 20000 in
theorem ggX4_sheet_X4_isLane : GoodIn wsX4_sheet wsX4_isLane := goodIn_r _ [12, 7, 8, 5, 9] (by decide +kernel) (by decide +kernel)
set_option maxRecDepth 20000 in
theorem gX4_sheet_X4_isLane : GoodIn wsX4_sheet (va_wsS RX4 50 yX4_isLane wsX4_isLane) := goodIn_app (goodIn_of _ (by decide +kernel)) ggX4_sheet_X4_isLane
set_option maxRecDepth 20000 in
theorem ggX4_sheet_X4_failBy : GoodIn wsX4_sheet wsX4_failBy := goodIn_r _ [16, 1, 29, 30, 31, 32, 33, 34] (by decide +kernel) (by decide +kernel)
set_option maxRecDepth 20000 in
theorem gX4_sheet_X4_failBy : GoodIn wsX4_sheet (wsV RX4 202 RX4 yX4_failBy wsX4_failBy) := goodIn_app (goodIn_of _ (by decide +kernel)) ggX4_sheet_X4_failBy
set_option maxRecDepth 20000 in
theorem ggX4_sheet_X2_begin : GoodIn wsX4_sheet wsX2_begin := goodIn_r _ [21, 22, 23, 24, 25, 26, 27, 28, 35, 36, 37] (by decide +kernel) (by decide +kernel)
set_option maxRecDepth 20000 in
theorem gX4_sheet_X2_begin : GoodIn wsX4_sheet (wsV RX4 205 RX2 yX2_begin wsX2_begin) := goodIn_app (goodIn_of _ (by decide +kernel)) ggX4_sheet_X2_begin
theorem dX4_sheet_0 : decode cX4_sheet 0 = .ok (.aload_n 0, 1) := by decide +kernel
theorem dX4_sheet_1 : decode cX4_sheet 1 = .ok (.iconst 0, 1) := by decide +kernel
theorem dX4_sheet_2 : decode cX4_sheet 2 = .ok (.putfield 42, 3) := by decide +kernel
theorem dX4_sheet_5 : decode cX4_sheet 5 = .ok (.iload_n 1, 1) := by decide +kernel
theorem dX4_sheet_6 : decode cX4_sheet 6 = .ok (.invokestatic 46, 3) := by decide +kernel
theorem dX4_sheet_9 : decode cX4_sheet 9 = .ok (.ifCond .ne 5, 3) := by decide +kernel
theorem dX4_sheet_12 : decode cX4_sheet 12 = .ok (.iconst (-1), 1) := by decide +kernel
theorem dX4_sheet_13 : decode cX4_sheet 13 = .ok (.ireturn, 1) := by decide +kernel
theorem dX4_sheet_14 : decode cX4_sheet 14 = .ok (.iload_n 2, 1) := by decide +kernel
theorem dX4_sheet_15 : decode cX4_sheet 15 = .ok (.invokestatic 50, 3) := by decide +kernel
theorem dX4_sheet_18 : decode cX4_sheet 18 = .ok (.ifCond .eq 9, 3) := by decide +kernel
theorem dX4_sheet_21 : decode cX4_sheet 21 = .ok (.iload_n 3, 1) := by decide +kernel
theorem dX4_sheet_22 : decode cX4_sheet 22 = .ok (.bipush 60, 2) := by decide +kernel
theorem dX4_sheet_24 : decode cX4_sheet 24 = .ok (.if_icmp .le 6, 3) := by decide +kernel
theorem dX4_sheet_27 : decode cX4_sheet 27 = .ok (.bipush (-2), 2) := by decide +kernel
theorem dX4_sheet_29 : decode cX4_sheet 29 = .ok (.ireturn, 1) := by decide +kernel
theorem dX4_sheet_30 : decode cX4_sheet 30 = .ok (.iload_n 3, 1) := by decide +kernel
theorem dX4_sheet_31 : decode cX4_sheet 31 = .ok (.ifCond .ge 9, 3) := by decide +kernel
theorem dX4_sheet_34 : decode cX4_sheet 34 = .ok (.aload_n 0, 1) := by decide +kernel
theorem dX4_sheet_35 : decode cX4_sheet 35 = .ok (.iconst 4, 1) := by decide +kernel
theorem dX4_sheet_36 : decode cX4_sheet 36 = .ok (.invokevirtual 202, 3) := by decide +kernel
theorem dX4_sheet_39 : decode cX4_sheet 39 = .ok (.ireturn, 1) := by decide +kernel
theorem dX4_sheet_40 : decode cX4_sheet 40 = .ok (.aload_n 0, 1) := by decide +kernel
theorem dX4_sheet_41 : decode cX4_sheet 41 = .ok (.getfield 13, 3) := by decide +kernel
theorem dX4_sheet_44 : decode cX4_sheet 44 = .ok (.iload_n 1, 1) := by decide +kernel
theorem dX4_sheet_45 : decode cX4_sheet 45 = .ok (.aaload, 1) := by decide +kernel
theorem dX4_sheet_46 : decode cX4_sheet 46 = .ok (.iload_n 2, 1) := by decide +kernel
theorem dX4_sheet_47 : decode cX4_sheet 47 = .ok (.iload_n 3, 1) := by decide +kernel
theorem dX4_sheet_48 : decode cX4_sheet 48 = .ok (.invokevirtual 205, 3) := by decide +kernel
theorem dX4_sheet_51 : decode cX4_sheet 51 = .ok (.iconst 1, 1) := by decide +kernel
theorem dX4_sheet_52 : decode cX4_sheet 52 = .ok (.ireturn, 1) := by decide +kernel
set_option maxRecDepth 20000 in
theorem ggX4_lose_X4_isSheet : GoodIn wsX4_lose wsX4_isSheet := goodIn_r _ [5, 6, 7, 4, 8] (by decide +kernel) (by decide +kernel)
set_option maxRecDepth 20000 in
theorem gX4_lose_X4_isSheet : GoodIn wsX4_lose (va_wsS RX4 46 yX4_isSheet wsX4_isSheet) := goodIn_app (goodIn_of _ (by decide +kernel)) ggX4_lose_X4_isSheet
set_option maxRecDepth 20000 in
theorem ggX4_lose_X2_hasNothing : GoodIn wsX4_lose wsX2_hasNothing := goodIn_r _ [13, 14, 26, 27, 28] (by decide +kernel) (by decide +kernel)
set_option maxRecDepth 20000 in
theorem gX4_lose_X2_hasNothing : GoodIn wsX4_lose (wsV RX4 208 RX2 yX2_hasNothing wsX2_hasNothing) := goodIn_app (goodIn_of _ (by decide +kernel)) ggX4_lose_X2_hasNothing
set_option maxRecDepth 20000 in
theorem ggX4_lose_X2_drop : GoodIn wsX4_lose wsX2_drop := goodIn_r _ [18, 14, 19, 26, 27, 28] (by decide +kernel) (by decide +kernel)
set_option maxRecDepth 20000 in
theorem gX4_lose_X2_drop : GoodIn wsX4_lose (wsV RX4 211 RX2 yX2_drop wsX2_drop) := goodIn_app (goodIn_of _ (by decide +kernel)) ggX4_lose_X2_drop
theorem dX4_lose_0 : decode cX4_lose 0 = .ok (.iload_n 1, 1) := by decide +kernel
theorem dX4_lose_1 : decode cX4_lose 1 = .ok (.invokestatic 46, 3) := by decide +kernel
theorem dX4_lose_4 : decode cX4_lose 4 = .ok (.ifCond .ne 5, 3) := by decide +kernel
theorem dX4_lose_7 : decode cX4_lose 7 = .ok (.iconst (-1), 1) := by decide +kernel
theorem dX4_lose_8 : decode cX4_lose 8 = .ok (.ireturn, 1) := by decide +kernel
theorem dX4_lose_9 : decode cX4_lose 9 = .ok (.aload_n 0, 1) := by decide +kernel
theorem dX4_lose_10 : decode cX4_lose 10 = .ok (.getfield 13, 3) := by decide +kernel
theorem dX4_lose_13 : decode cX4_lose 13 = .ok (.iload_n 1, 1) := by decide +kernel
theorem dX4_lose_14 : decode cX4_lose 14 = .ok (.aaload, 1) := by decide +kernel
theorem dX4_lose_15 : decode cX4_lose 15 = .ok (.invokevirtual 208, 3) := by decide +kernel
theorem dX4_lose_18 : decode cX4_lose 18 = .ok (.ifCond .eq 5, 3) := by decide +kernel
theorem dX4_lose_21 : decode cX4_lose 21 = .ok (.iconst 0, 1) := by decide +kernel
theorem dX4_lose_22 : decode cX4_lose 22 = .ok (.ireturn, 1) := by decide +kernel
theorem dX4_lose_23 : decode cX4_lose 23 = .ok (.aload_n 0, 1) := by decide +kernel
theorem dX4_lose_24 : decode cX4_lose 24 = .ok (.getfield 13, 3) := by decide +kernel
theorem dX4_lose_27 : decode cX4_lose 27 = .ok (.iload_n 1, 1) := by decide +kernel
theorem dX4_lose_28 : decode cX4_lose 28 = .ok (.aaload, 1) := by decide +kernel
theorem dX4_lose_29 : decode cX4_lose 29 = .ok (.invokevirtual 211, 3) := by decide +kernel
theorem dX4_lose_32 : decode cX4_lose 32 = .ok (.iconst 1, 1) := by decide +kernel
theorem dX4_lose_33 : decode cX4_lose 33 = .ok (.ireturn, 1) := by decide +kernel
set_option maxRecDepth 20000 in
theorem ggX4_put_X4_isSheet : GoodIn wsX4_put wsX4_isSheet := goodIn_r _ [6, 7, 8, 5, 9] (by decide +kernel) (by decide +kernel)
set_option maxRecDepth 20000 in
theorem gX4_put_X4_isSheet : GoodIn wsX4_put (va_wsS RX4 46 yX4_isSheet wsX4_isSheet) := goodIn_app (goodIn_of _ (by decide +kernel)) ggX4_put_X4_isSheet
set_option maxRecDepth 20000 in
theorem ggX4_put_X2_hasNothing : GoodIn wsX4_put wsX2_hasNothing := goodIn_r _ [14, 15, 41, 42, 43] (by decide +kernel) (by decide +kernel)
set_option maxRecDepth 20000 in
theorem gX4_put_X2_hasNothing : GoodIn wsX4_put (wsV RX4 208 RX2 yX2_hasNothing wsX2_hasNothing) := goodIn_app (goodIn_of _ (by decide +kernel)) ggX4_put_X2_hasNothing
set_option maxRecDepth 20000 in
theorem ggX4_put_X4_failBy : GoodIn wsX4_put wsX4_failBy := goodIn_r _ [19, 1, 35, 36, 37, 38, 39, 40] (by decide +kernel) (by decide +kernel)
set_option maxRecDepth 20000 in
theorem gX4_put_X4_failBy : GoodIn wsX4_put (wsV RX4 202 RX4 yX4_failBy wsX4_failBy) := goodIn_app (goodIn_of _ (by decide +kernel)) ggX4_put_X4_failBy
set_option maxRecDepth 20000 in
theorem ggX4_put_X2_hasCell : GoodIn wsX4_put wsX2_hasCell := goodIn_r _ [23, 24, 41, 42, 43] (by decide +kernel) (by decide +kernel)
set_option maxRecDepth 20000 in
theorem gX4_put_X2_hasCell : GoodIn wsX4_put (wsV RX4 214 RX2 yX2_hasCell wsX2_hasCell) := goodIn_app (goodIn_of _ (by decide +kernel)) ggX4_put_X2_hasCell
set_option maxRecDepth 20000 in
theorem ggX4_put_X2_write : GoodIn wsX4_put wsX2_write := goodIn_r _ [28, 29, 30, 21, 22, 13, 23, 24, 31, 32, 33, 34, 15, 41, 42, 43] (by decide +kernel) (by decide +kernel)
set_option maxRecDepth 20000 in
theorem gX4_put_X2_write : GoodIn wsX4_put (wsV RX4 217 RX2 yX2_write wsX2_write) := goodIn_app (goodIn_of _ (by decide +kernel)) ggX4_put_X2_write
theorem dX4_put_0 : decode cX4_put 0 = .ok (.aload_n 0, 1) := by decide +kernel
theorem dX4_put_1 : decode cX4_put 1 = .ok (.iconst 0, 1) := by decide +kernel
theorem dX4_put_2 : decode cX4_put 2 = .ok (.putfield 42, 3) := by decide +kernel
theorem dX4_put_5 : decode cX4_put 5 = .ok (.iload_n 1, 1) := by decide +kernel
theorem dX4_put_6 : decode cX4_put 6 = .ok (.invokestatic 46, 3) := by decide +kernel
theorem dX4_put_9 : decode cX4_put 9 = .ok (.ifCond .ne 5, 3) := by decide +kernel
theorem dX4_put_12 : decode cX4_put 12 = .ok (.iconst (-1), 1) := by decide +kernel
theorem dX4_put_13 : decode cX4_put 13 = .ok (.ireturn, 1) := by decide +kernel
theorem dX4_put_14 : decode cX4_put 14 = .ok (.aload_n 0, 1) := by decide +kernel
theorem dX4_put_15 : decode cX4_put 15 = .ok (.getfield 13, 3) := by decide +kernel
theorem dX4_put_18 : decode cX4_put 18 = .ok (.iload_n 1, 1) := by decide +kernel
theorem dX4_put_19 : decode cX4_put 19 = .ok (.aaload, 1) := by decide +kernel
theorem dX4_put_20 : decode cX4_put 20 = .ok (.invokevirtual 208, 3) := by decide +kernel
theorem dX4_put_23 : decode cX4_put 23 = .ok (.ifCond .eq 9, 3) := by decide +kernel
theorem dX4_put_26 : decode cX4_put 26 = .ok (.aload_n 0, 1) := by decide +kernel
theorem dX4_put_27 : decode cX4_put 27 = .ok (.iconst 1, 1) := by decide +kernel
theorem dX4_put_28 : decode cX4_put 28 = .ok (.invokevirtual 202, 3) := by decide +kernel
theorem dX4_put_31 : decode cX4_put 31 = .ok (.ireturn, 1) := by decide +kernel
theorem dX4_put_32 : decode cX4_put 32 = .ok (.aload_n 0, 1) := by decide +kernel
theorem dX4_put_33 : decode cX4_put 33 = .ok (.getfield 13, 3) := by decide +kernel
theorem dX4_put_36 : decode cX4_put 36 = .ok (.iload_n 1, 1) := by decide +kernel
theorem dX4_put_37 : decode cX4_put 37 = .ok (.aaload, 1) := by decide +kernel
theorem dX4_put_38 : decode cX4_put 38 = .ok (.iload_n 2, 1) := by decide +kernel
theorem dX4_put_39 : decode cX4_put 39 = .ok (.invokevirtual 214, 3) := by decide +kernel
theorem dX4_put_42 : decode cX4_put 42 = .ok (.ifCond .ne 9, 3) := by decide +kernel
theorem dX4_put_45 : decode cX4_put 45 = .ok (.aload_n 0, 1) := by decide +kernel
theorem dX4_put_46 : decode cX4_put 46 = .ok (.iconst 3, 1) := by decide +kernel
theorem dX4_put_47 : decode cX4_put 47 = .ok (.invokevirtual 202, 3) := by decide +kernel
theorem dX4_put_50 : decode cX4_put 50 = .ok (.ireturn, 1) := by decide +kernel
theorem dX4_put_51 : decode cX4_put 51 = .ok (.aload_n 0, 1) := by decide +kernel
theorem dX4_put_52 : decode cX4_put 52 = .ok (.getfield 13, 3) := by decide +kernel
theorem dX4_put_55 : decode cX4_put 55 = .ok (.iload_n 1, 1) := by decide +kernel
theorem dX4_put_56 : decode cX4_put 56 = .ok (.aaload, 1) := by decide +kernel
theorem dX4_put_57 : decode cX4_put 57 = .ok (.iload_n 2, 1) := by decide +kernel
theorem dX4_put_58 : decode cX4_put 58 = .ok (.iload_n 3, 1) := by decide +kernel
theorem dX4_put_59 : decode cX4_put 59 = .ok (.invokevirtual 217, 3) := by decide +kernel
theorem dX4_put_62 : decode cX4_put 62 = .ok (.iconst 1, 1) := by decide +kernel
theorem dX4_put_63 : decode cX4_put 63 = .ok (.ireturn, 1) := by decide +kernel
set_option maxRecDepth 20000 in
theorem ggX4_cell_X4_isSheet : GoodIn wsX4_cell wsX4_isSheet := goodIn_r _ [7, 8, 9, 6, 10] (by decide +kernel) (by decide +kernel)
set_option maxRecDepth 20000 in
theorem gX4_cell_X4_isSheet : GoodIn wsX4_cell (va_wsS RX4 46 yX4_isSheet wsX4_isSheet) := goodIn_app (goodIn_of _ (by decide +kernel)) ggX4_cell_X4_isSheet
set_option maxRecDepth 20000 in
theorem ggX4_cell_X4_isLane : GoodIn wsX4_cell wsX4_isLane := goodIn_r _ [13, 8, 9, 6, 10] (by decide +kernel) (by decide +kernel)
set_option maxRecDepth 20000 in
theorem gX4_cell_X4_isLane : GoodIn wsX4_cell (va_wsS RX4 50 yX4_isLane wsX4_isLane) := goodIn_app (goodIn_of _ (by decide +kernel)) ggX4_cell_X4_isLane
set_option maxRecDepth 20000 in
theorem ggX4_cell_X4_faultOfRow : GoodIn wsX4_cell wsX4_faultOfRow := goodIn_r _ [16, 17, 18, 19, 20, 21, 22, 23, 24, 25, 26, 44, 45, 46] (by decide +kernel) (by decide +kernel)
set_option maxRecDepth 20000 in
theorem gX4_cell_X4_faultOfRow : GoodIn wsX4_cell (va_wsS RX4 220 yX4_faultOfRow wsX4_faultOfRow) := goodIn_app (goodIn_of _ (by decide +kernel)) ggX4_cell_X4_faultOfRow
set_option maxRecDepth 20000 in
theorem ggX4_cell_X2_hasCell : GoodIn wsX4_cell wsX2_hasCell := goodIn_r _ [30, 31, 44, 45, 46] (by decide +kernel) (by decide +kernel)
set_option maxRecDepth 20000 in
theorem gX4_cell_X2_hasCell : GoodIn wsX4_cell (wsV RX4 214 RX2 yX2_hasCell wsX2_hasCell) := goodIn_app (goodIn_of _ (by decide +kernel)) ggX4_cell_X2_hasCell
set_option maxRecDepth 20000 in
theorem ggX4_cell_X2_at : GoodIn wsX4_cell wsX2_at := goodIn_r _ [35, 36, 37, 28, 29, 20, 30, 31, 44, 45, 46] (by decide +kernel) (by decide +kernel)
set_option maxRecDepth 20000 in
theorem gX4_cell_X2_at : GoodIn wsX4_cell (wsV RX4 224 RX2 yX2_at wsX2_at) := goodIn_app (goodIn_of _ (by decide +kernel)) ggX4_cell_X2_at
theorem dX4_cell_0 : decode cX4_cell 0 = .ok (.aload_n 0, 1) := by decide +kernel
theorem dX4_cell_1 : decode cX4_cell 1 = .ok (.iconst 0, 1) := by decide +kernel
theorem dX4_cell_2 : decode cX4_cell 2 = .ok (.putfield 42, 3) := by decide +kernel
theorem dX4_cell_5 : decode cX4_cell 5 = .ok (.iload_n 1, 1) := by decide +kernel
theorem dX4_cell_6 : decode cX4_cell 6 = .ok (.invokestatic 46, 3) := by decide +kernel
theorem dX4_cell_9 : decode cX4_cell 9 = .ok (.ifCond .eq 10, 3) := by decide +kernel
theorem dX4_cell_12 : decode cX4_cell 12 = .ok (.iload_n 3, 1) := by decide +kernel
theorem dX4_cell_13 : decode cX4_cell 13 = .ok (.invokestatic 50, 3) := by decide +kernel
theorem dX4_cell_16 : decode cX4_cell 16 = .ok (.ifCond .ne 7, 3) := by decide +kernel
theorem dX4_cell_19 : decode cX4_cell 19 = .ok (.ldc2_w 200, 3) := by decide +kernel
theorem dX4_cell_22 : decode cX4_cell 22 = .ok (.lreturn, 1) := by decide +kernel
theorem dX4_cell_23 : decode cX4_cell 23 = .ok (.aload_n 0, 1) := by decide +kernel
theorem dX4_cell_24 : decode cX4_cell 24 = .ok (.aload_n 0, 1) := by decide +kernel
theorem dX4_cell_25 : decode cX4_cell 25 = .ok (.getfield 13, 3) := by decide +kernel
theorem dX4_cell_28 : decode cX4_cell 28 = .ok (.iload_n 1, 1) := by decide +kernel
theorem dX4_cell_29 : decode cX4_cell 29 = .ok (.aaload, 1) := by decide +kernel
theorem dX4_cell_30 : decode cX4_cell 30 = .ok (.iload_n 3, 1) := by decide +kernel
theorem dX4_cell_31 : decode cX4_cell 31 = .ok (.invokestatic 220, 3) := by decide +kernel
theorem dX4_cell_34 : decode cX4_cell 34 = .ok (.putfield 42, 3) := by decide +kernel
theorem dX4_cell_37 : decode cX4_cell 37 = .ok (.aload_n 0, 1) := by decide +kernel
theorem dX4_cell_38 : decode cX4_cell 38 = .ok (.getfield 42, 3) := by decide +kernel
theorem dX4_cell_41 : decode cX4_cell 41 = .ok (.ifCond .ne 21, 3) := by decide +kernel
theorem dX4_cell_44 : decode cX4_cell 44 = .ok (.aload_n 0, 1) := by decide +kernel
theorem dX4_cell_45 : decode cX4_cell 45 = .ok (.getfield 13, 3) := by decide +kernel
theorem dX4_cell_48 : decode cX4_cell 48 = .ok (.iload_n 1, 1) := by decide +kernel
theorem dX4_cell_49 : decode cX4_cell 49 = .ok (.aaload, 1) := by decide +kernel
theorem dX4_cell_50 : decode cX4_cell 50 = .ok (.iload_n 2, 1) := by decide +kernel
theorem dX4_cell_51 : decode cX4_cell 51 = .ok (.invokevirtual 214, 3) := by decide +kernel
theorem dX4_cell_54 : decode cX4_cell 54 = .ok (.ifCond .ne 8, 3) := by decide +kernel
theorem dX4_cell_57 : decode cX4_cell 57 = .ok (.aload_n 0, 1) := by decide +kernel
theorem dX4_cell_58 : decode cX4_cell 58 = .ok (.iconst 3, 1) := by decide +kernel
theorem dX4_cell_59 : decode cX4_cell 59 = .ok (.putfield 42, 3) := by decide +kernel
theorem dX4_cell_62 : decode cX4_cell 62 = .ok (.aload_n 0, 1) := by decide +kernel
theorem dX4_cell_63 : decode cX4_cell 63 = .ok (.getfield 42, 3) := by decide +kernel
theorem dX4_cell_66 : decode cX4_cell 66 = .ok (.ifCond .ne 17, 3) := by decide +kernel
theorem dX4_cell_69 : decode cX4_cell 69 = .ok (.aload_n 0, 1) := by decide +kernel
theorem dX4_cell_70 : decode cX4_cell 70 = .ok (.getfield 13, 3) := by decide +kernel
theorem dX4_cell_73 : decode cX4_cell 73 = .ok (.iload_n 1, 1) := by decide +kernel
theorem dX4_cell_74 : decode cX4_cell 74 = .ok (.aaload, 1) := by decide +kernel
theorem dX4_cell_75 : decode cX4_cell 75 = .ok (.iload_n 2, 1) := by decide +kernel
theorem dX4_cell_76 : decode cX4_cell 76 = .ok (.invokevirtual 224, 3) := by decide +kernel
theorem dX4_cell_79 : decode cX4_cell 79 = .ok (.i2l, 1) := by decide +kernel
theorem dX4_cell_80 : decode cX4_cell 80 = .ok (.goto 6, 3) := by decide +kernel
theorem dX4_cell_83 : decode cX4_cell 83 = .ok (.ldc2_w 200, 3) := by decide +kernel
theorem dX4_cell_86 : decode cX4_cell 86 = .ok (.lreturn, 1) := by decide +kernel
set_option maxRecDepth 20000 in
theorem ggX4_copy_X4_isSheet : GoodIn wsX4_copy wsX4_isSheet := goodIn_r _ [6, 7, 8, 5, 9] (by decide +kernel) (by decide +kernel)
set_option maxRecDepth 20000 in
theorem gX4_copy_X4_isSheet : GoodIn wsX4_copy (va_wsS RX4 46 yX4_isSheet wsX4_isSheet) := goodIn_app (goodIn_of _ (by decide +kernel)) ggX4_copy_X4_isSheet
set_option maxRecDepth 20000 in
theorem ggX4_copy_X2_hasNothing : GoodIn wsX4_copy wsX2_hasNothing := goodIn_r _ [14, 15, 49, 50, 51] (by decide +kernel) (by decide +kernel)
set_option maxRecDepth 20000 in
theorem gX4_copy_X2_hasNothing : GoodIn wsX4_copy (wsV RX4 208 RX2 yX2_hasNothing wsX2_hasNothing) := goodIn_app (goodIn_of _ (by decide +kernel)) ggX4_copy_X2_hasNothing
set_option maxRecDepth 20000 in
theorem ggX4_copy_X4_failBy : GoodIn wsX4_copy wsX4_failBy := goodIn_r _ [19, 1, 43, 44, 45, 46, 47, 48] (by decide +kernel) (by decide +kernel)
set_option maxRecDepth 20000 in
theorem gX4_copy_X4_failBy : GoodIn wsX4_copy (wsV RX4 202 RX4 yX4_failBy wsX4_failBy) := goodIn_app (goodIn_of _ (by decide +kernel)) ggX4_copy_X4_failBy
set_option maxRecDepth 20000 in
theorem ggX4_copy_X2_laneNow : GoodIn wsX4_copy wsX2_laneNow := goodIn_r _ [23, 15, 49, 50, 51] (by decide +kernel) (by decide +kernel)
set_option maxRecDepth 20000 in
theorem gX4_copy_X2_laneNow : GoodIn wsX4_copy (wsV RX4 227 RX2 yX2_laneNow wsX2_laneNow) := goodIn_app (goodIn_of _ (by decide +kernel)) ggX4_copy_X2_laneNow
set_option maxRecDepth 20000 in
theorem ggX4_copy_X2_isOfAnother : GoodIn wsX4_copy wsX2_isOfAnother := goodIn_r _ [27, 15, 49, 50, 51] (by decide +kernel) (by decide +kernel)
set_option maxRecDepth 20000 in
theorem gX4_copy_X2_isOfAnother : GoodIn wsX4_copy (wsV RX4 230 RX2 yX2_isOfAnother wsX2_isOfAnother) := goodIn_app (goodIn_of _ (by decide +kernel)) ggX4_copy_X2_isOfAnother
set_option maxRecDepth 20000 in
theorem ggX4_copy_X2_hasCells : GoodIn wsX4_copy wsX2_hasCells := goodIn_r _ [31, 32, 49, 50, 51] (by decide +kernel) (by decide +kernel)
set_option maxRecDepth 20000 in
theorem gX4_copy_X2_hasCells : GoodIn wsX4_copy (wsV RX4 233 RX2 yX2_hasCells wsX2_hasCells) := goodIn_app (goodIn_of _ (by decide +kernel)) ggX4_copy_X2_hasCells
set_option maxRecDepth 20000 in
theorem ggX4_copy_X2_takeCells : GoodIn wsX4_copy wsX2_takeCells := goodIn_r _ [36, 37, 38, 39, 40, 41, 42, 29, 30, 13, 31, 32, 49, 50, 51] (by decide +kernel) (by decide +kernel)
set_option maxRecDepth 20000 in
theorem gX4_copy_X2_takeCells : GoodIn wsX4_copy (wsV RX4 237 RX2 yX2_takeCells wsX2_takeCells) := goodIn_app (goodIn_of _ (by decide +kernel)) ggX4_copy_X2_takeCells
theorem dX4_copy_0 : decode cX4_copy 0 = .ok (.aload_n 0, 1) := by decide +kernel
theorem dX4_copy_1 : decode cX4_copy 1 = .ok (.iconst 0, 1) := by decide +kernel
theorem dX4_copy_2 : decode cX4_copy 2 = .ok (.putfield 42, 3) := by decide +kernel
theorem dX4_copy_5 : decode cX4_copy 5 = .ok (.iload_n 1, 1) := by decide +kernel
theorem dX4_copy_6 : decode cX4_copy 6 = .ok (.invokestatic 46, 3) := by decide +kernel
theorem dX4_copy_9 : decode cX4_copy 9 = .ok (.ifCond .eq 10, 3) := by decide +kernel
theorem dX4_copy_12 : decode cX4_copy 12 = .ok (.iload_n 3, 1) := by decide +kernel
theorem dX4_copy_13 : decode cX4_copy 13 = .ok (.invokestatic 46, 3) := by decide +kernel
theorem dX4_copy_16 : decode cX4_copy 16 = .ok (.ifCond .ne 5, 3) := by decide +kernel
theorem dX4_copy_19 : decode cX4_copy 19 = .ok (.iconst (-1), 1) := by decide +kernel
theorem dX4_copy_20 : decode cX4_copy 20 = .ok (.ireturn, 1) := by decide +kernel
theorem dX4_copy_21 : decode cX4_copy 21 = .ok (.aload_n 0, 1) := by decide +kernel
theorem dX4_copy_22 : decode cX4_copy 22 = .ok (.getfield 13, 3) := by decide +kernel
theorem dX4_copy_25 : decode cX4_copy 25 = .ok (.iload_n 1, 1) := by decide +kernel
theorem dX4_copy_26 : decode cX4_copy 26 = .ok (.aaload, 1) := by decide +kernel
theorem dX4_copy_27 : decode cX4_copy 27 = .ok (.astore 6, 2) := by decide +kernel
theorem dX4_copy_29 : decode cX4_copy 29 = .ok (.aload_n 0, 1) := by decide +kernel
theorem dX4_copy_30 : decode cX4_copy 30 = .ok (.getfield 13, 3) := by decide +kernel
theorem dX4_copy_33 : decode cX4_copy 33 = .ok (.iload_n 3, 1) := by decide +kernel
theorem dX4_copy_34 : decode cX4_copy 34 = .ok (.aaload, 1) := by decide +kernel
theorem dX4_copy_35 : decode cX4_copy 35 = .ok (.astore 7, 2) := by decide +kernel
theorem dX4_copy_37 : decode cX4_copy 37 = .ok (.aload 6, 2) := by decide +kernel
theorem dX4_copy_39 : decode cX4_copy 39 = .ok (.invokevirtual 208, 3) := by decide +kernel
theorem dX4_copy_42 : decode cX4_copy 42 = .ok (.ifCond .ne 11, 3) := by decide +kernel
theorem dX4_copy_45 : decode cX4_copy 45 = .ok (.aload 7, 2) := by decide +kernel
theorem dX4_copy_47 : decode cX4_copy 47 = .ok (.invokevirtual 208, 3) := by decide +kernel
theorem dX4_copy_50 : decode cX4_copy 50 = .ok (.ifCond .eq 9, 3) := by decide +kernel
theorem dX4_copy_53 : decode cX4_copy 53 = .ok (.aload_n 0, 1) := by decide +kernel
theorem dX4_copy_54 : decode cX4_copy 54 = .ok (.iconst 1, 1) := by decide +kernel
theorem dX4_copy_55 : decode cX4_copy 55 = .ok (.invokevirtual 202, 3) := by decide +kernel
theorem dX4_copy_58 : decode cX4_copy 58 = .ok (.ireturn, 1) := by decide +kernel
theorem dX4_copy_59 : decode cX4_copy 59 = .ok (.aload 7, 2) := by decide +kernel
theorem dX4_copy_61 : decode cX4_copy 61 = .ok (.aload 6, 2) := by decide +kernel
theorem dX4_copy_63 : decode cX4_copy 63 = .ok (.invokevirtual 227, 3) := by decide +kernel
theorem dX4_copy_66 : decode cX4_copy 66 = .ok (.invokevirtual 230, 3) := by decide +kernel
theorem dX4_copy_69 : decode cX4_copy 69 = .ok (.ifCond .eq 9, 3) := by decide +kernel
theorem dX4_copy_72 : decode cX4_copy 72 = .ok (.aload_n 0, 1) := by decide +kernel
theorem dX4_copy_73 : decode cX4_copy 73 = .ok (.iconst 2, 1) := by decide +kernel
theorem dX4_copy_74 : decode cX4_copy 74 = .ok (.invokevirtual 202, 3) := by decide +kernel
theorem dX4_copy_77 : decode cX4_copy 77 = .ok (.ireturn, 1) := by decide +kernel
theorem dX4_copy_78 : decode cX4_copy 78 = .ok (.aload 6, 2) := by decide +kernel
theorem dX4_copy_80 : decode cX4_copy 80 = .ok (.iload_n 2, 1) := by decide +kernel
theorem dX4_copy_81 : decode cX4_copy 81 = .ok (.iload 5, 2) := by decide +kernel
theorem dX4_copy_83 : decode cX4_copy 83 = .ok (.invokevirtual 233, 3) := by decide +kernel
theorem dX4_copy_86 : decode cX4_copy 86 = .ok (.ifCond .eq 15, 3) := by decide +kernel
theorem dX4_copy_89 : decode cX4_copy 89 = .ok (.aload 7, 2) := by decide +kernel
theorem dX4_copy_91 : decode cX4_copy 91 = .ok (.iload 4, 2) := by decide +kernel
theorem dX4_copy_93 : decode cX4_copy 93 = .ok (.iload 5, 2) := by decide +kernel
theorem dX4_copy_95 : decode cX4_copy 95 = .ok (.invokevirtual 233, 3) := by decide +kernel
theorem dX4_copy_98 : decode cX4_copy 98 = .ok (.ifCond .ne 9, 3) := by decide +kernel
theorem dX4_copy_101 : decode cX4_copy 101 = .ok (.aload_n 0, 1) := by decide +kernel
theorem dX4_copy_102 : decode cX4_copy 102 = .ok (.iconst 3, 1) := by decide +kernel
theorem dX4_copy_103 : decode cX4_copy 103 = .ok (.invokevirtual 202, 3) := by decide +kernel
theorem dX4_copy_106 : decode cX4_copy 106 = .ok (.ireturn, 1) := by decide +kernel
theorem dX4_copy_107 : decode cX4_copy 107 = .ok (.aload 7, 2) := by decide +kernel
theorem dX4_copy_109 : decode cX4_copy 109 = .ok (.iload 4, 2) := by decide +kernel
theorem dX4_copy_111 : decode cX4_copy 111 = .ok (.aload 6, 2) := by decide +kernel
theorem dX4_copy_113 : decode cX4_copy 113 = .ok (.iload_n 2, 1) := by decide +kernel
theorem dX4_copy_114 : decode cX4_copy 114 = .ok (.iload 5, 2) := by decide +kernel
theorem dX4_copy_116 : decode cX4_copy 116 = .ok (.invokevirtual 237, 3) := by decide +kernel
theorem dX4_copy_119 : decode cX4_copy 119 = .ok (.iload 5, 2) := by decide +kernel
theorem dX4_copy_121 : decode cX4_copy 121 = .ok (.ireturn, 1) := by decide +kernel
set_option maxRecDepth 20000 in
theorem ggX4_tell_X0_hasPass : GoodIn wsX4_tell wsX0_hasPass := goodIn_r _ [6, 7, 43, 44, 45, 46, 47] (by decide +kernel) (by decide +kernel)
set_option maxRecDepth 20000 in
theorem gX4_tell_X0_hasPass : GoodIn wsX4_tell (wsV RX4 74 RX0 yX0_hasPass wsX0_hasPass) := goodIn_app (goodIn_of _ (by decide +kernel)) ggX4_tell_X0_hasPass
set_option maxRecDepth 20000 in
theorem ggX4_tell_X0_kindOf : GoodIn wsX4_tell wsX0_kindOf := goodIn_r _ [11, 12, 13, 3, 4, 5, 6, 7, 43, 44, 45, 46, 47] (by decide +kernel) (by decide +kernel)
set_option maxRecDepth 20000 in
theorem gX4_tell_X0_kindOf : GoodIn wsX4_tell (wsV RX4 81 RX0 yX0_kindOf wsX0_kindOf) := goodIn_app (goodIn_of _ (by decide +kernel)) ggX4_tell_X0_kindOf
set_option maxRecDepth 20000 in
theorem ggX4_tell_X4_tellAsDrawn : GoodIn wsX4_tell wsX4_tellAsDrawn := goodIn_r _ [18, 19, 20, 21, 17, 22, 23, 24, 25, 26, 27, 28, 29, 30, 31, 1, 32, 33, 34, 5, 35, 36, 13, 3, 4, 6, 7, 37, 38, 39, 40, 41, 42, 43, 44, 45, 46, 47] (by decide +kernel) (by decide +kernel)
set_option maxRecDepth 20000 in
theorem gX4_tell_X4_tellAsDrawn : GoodIn wsX4_tell (wsV RX4 241 RX4 yX4_tellAsDrawn wsX4_tellAsDrawn) := goodIn_app (goodIn_of _ (by decide +kernel)) ggX4_tell_X4_tellAsDrawn
set_option maxRecDepth 20000 in
theorem ggX4_tell_X4_tellAsLent : GoodIn wsX4_tell wsX4_tellAsLent := goodIn_r _ [27, 19, 20, 21, 17, 22, 23, 28, 29, 30, 31, 1, 32, 33, 34, 5, 35, 36, 13, 3, 4, 6, 7, 37, 38, 39, 40, 41, 42, 43, 44, 45, 46, 47] (by decide +kernel) (by decide +kernel)
set_option maxRecDepth 20000 in
theorem gX4_tell_X4_tellAsLent : GoodIn wsX4_tell (wsV RX4 244 RX4 yX4_tellAsLent wsX4_tellAsLent) := goodIn_app (goodIn_of _ (by decide +kernel)) ggX4_tell_X4_tellAsLent
set_option maxRecDepth 20000 in
theorem ggX4_tell_X4_tellAsPass : GoodIn wsX4_tell wsX4_tellAsPass := goodIn_r _ [31, 1, 19, 20, 21, 17, 22, 23, 32, 33, 34, 5, 35, 36, 13, 3, 4, 6, 7, 37, 38, 39, 40, 41, 42, 43, 44, 45, 46, 47] (by decide +kernel) (by decide +kernel)
set_option maxRecDepth 20000 in
theorem gX4_tell_X4_tellAsPass : GoodIn wsX4_tell (wsV RX4 247 RX4 yX4_tellAsPass wsX4_tellAsPass) := goodIn_app (goodIn_of _ (by decide +kernel)) ggX4_tell_X4_tellAsPass
theorem dX4_tell_0 : decode cX4_tell 0 = .ok (.aload_n 0, 1) := by decide +kernel
theorem dX4_tell_1 : decode cX4_tell 1 = .ok (.getfield 20, 3) := by decide +kernel
theorem dX4_tell_4 : decode cX4_tell 4 = .ok (.iload_n 1, 1) := by decide +kernel
theorem dX4_tell_5 : decode cX4_tell 5 = .ok (.invokevirtual 74, 3) := by decide +kernel
theorem dX4_tell_8 : decode cX4_tell 8 = .ok (.ifCond .ne 5, 3) := by decide +kernel
theorem dX4_tell_11 : decode cX4_tell 11 = .ok (.iconst (-1), 1) := by decide +kernel
theorem dX4_tell_12 : decode cX4_tell 12 = .ok (.ireturn, 1) := by decide +kernel
theorem dX4_tell_13 : decode cX4_tell 13 = .ok (.aload_n 0, 1) := by decide +kernel
theorem dX4_tell_14 : decode cX4_tell 14 = .ok (.getfield 20, 3) := by decide +kernel
theorem dX4_tell_17 : decode cX4_tell 17 = .ok (.iload_n 1, 1) := by decide +kernel
theorem dX4_tell_18 : decode cX4_tell 18 = .ok (.invokevirtual 81, 3) := by decide +kernel
theorem dX4_tell_21 : decode cX4_tell 21 = .ok (.lookupswitch 39 #[(1, 33), (2, 27)], 27) := by decide +kernel
theorem dX4_tell_48 : decode cX4_tell 48 = .ok (.aload_n 0, 1) := by decide +kernel
theorem dX4_tell_49 : decode cX4_tell 49 = .ok (.iload_n 1, 1) := by decide +kernel
theorem dX4_tell_50 : decode cX4_tell 50 = .ok (.invokevirtual 241, 3) := by decide +kernel
theorem dX4_tell_53 : decode cX4_tell 53 = .ok (.ireturn, 1) := by decide +kernel
theorem dX4_tell_54 : decode cX4_tell 54 = .ok (.aload_n 0, 1) := by decide +kernel
theorem dX4_tell_55 : decode cX4_tell 55 = .ok (.iload_n 1, 1) := by decide +kernel
theorem dX4_tell_56 : decode cX4_tell 56 = .ok (.invokevirtual 244, 3) := by decide +kernel
theorem dX4_tell_59 : decode cX4_tell 59 = .ok (.ireturn, 1) := by decide +kernel
theorem dX4_tell_60 : decode cX4_tell 60 = .ok (.aload_n 0, 1) := by decide +kernel
theorem dX4_tell_61 : decode cX4_tell 61 = .ok (.iload_n 1, 1) := by decide +kernel
theorem dX4_tell_62 : decode cX4_tell 62 = .ok (.invokevirtual 247, 3) := by decide +kernel
theorem dX4_tell_65 : decode cX4_tell 65 = .ok (.ireturn, 1) := by decide +kernel
set_option maxRecDepth 20000 in
theorem ggX4_seal_X0_hasPass : GoodIn wsX4_seal wsX0_hasPass := goodIn_r _ [6, 7, 34, 35, 36, 37, 38] (by decide +kernel) (by decide +kernel)
set_option maxRecDepth 20000 in
theorem gX4_seal_X0_hasPass : GoodIn wsX4_seal (wsV RX4 74 RX0 yX0_hasPass wsX0_hasPass) := goodIn_app (goodIn_of _ (by decide +kernel)) ggX4_seal_X0_hasPass
set_option maxRecDepth 20000 in
theorem ggX4_seal_X0_kindOf : GoodIn wsX4_seal wsX0_kindOf := goodIn_r _ [11, 12, 13, 3, 4, 5, 6, 7, 34, 35, 36, 37, 38] (by decide +kernel) (by decide +kernel)
set_option maxRecDepth 20000 in
theorem gX4_seal_X0_kindOf : GoodIn wsX4_seal (wsV RX4 81 RX0 yX0_kindOf wsX0_kindOf) := goodIn_app (goodIn_of _ (by decide +kernel)) ggX4_seal_X0_kindOf
set_option maxRecDepth 20000 in
theorem ggX4_seal_X4_sealAsDrawn : GoodIn wsX4_seal wsX4_sealAsDrawn := goodIn_r _ [18, 19, 20, 21, 17, 22, 23, 28, 29, 30, 31, 32, 33] (by decide +kernel) (by decide +kernel)
set_option maxRecDepth 20000 in
theorem gX4_seal_X4_sealAsDrawn : GoodIn wsX4_seal (wsV RX4 250 RX4 yX4_sealAsDrawn wsX4_sealAsDrawn) := goodIn_app (goodIn_of _ (by decide +kernel)) ggX4_seal_X4_sealAsDrawn
set_option maxRecDepth 20000 in
theorem ggX4_seal_X4_sealAsAny : GoodIn wsX4_seal wsX4_sealAsAny := goodIn_r _ [27, 19, 20, 21, 17, 22, 23, 28, 29, 30, 31, 32, 33] (by decide +kernel) (by decide +kernel)
set_option maxRecDepth 20000 in
theorem gX4_seal_X4_sealAsAny : GoodIn wsX4_seal (wsV RX4 253 RX4 yX4_sealAsAny wsX4_sealAsAny) := goodIn_app (goodIn_of _ (by decide +kernel)) ggX4_seal_X4_sealAsAny
theorem dX4_seal_0 : decode cX4_seal 0 = .ok (.aload_n 0, 1) := by decide +kernel
theorem dX4_seal_1 : decode cX4_seal 1 = .ok (.getfield 20, 3) := by decide +kernel
theorem dX4_seal_4 : decode cX4_seal 4 = .ok (.iload_n 1, 1) := by decide +kernel
theorem dX4_seal_5 : decode cX4_seal 5 = .ok (.invokevirtual 74, 3) := by decide +kernel
theorem dX4_seal_8 : decode cX4_seal 8 = .ok (.ifCond .ne 5, 3) := by decide +kernel
theorem dX4_seal_11 : decode cX4_seal 11 = .ok (.iconst (-1), 1) := by decide +kernel
theorem dX4_seal_12 : decode cX4_seal 12 = .ok (.ireturn, 1) := by decide +kernel
theorem dX4_seal_13 : decode cX4_seal 13 = .ok (.aload_n 0, 1) := by decide +kernel
theorem dX4_seal_14 : decode cX4_seal 14 = .ok (.getfield 20, 3) := by decide +kernel
theorem dX4_seal_17 : decode cX4_seal 17 = .ok (.iload_n 1, 1) := by decide +kernel
theorem dX4_seal_18 : decode cX4_seal 18 = .ok (.invokevirtual 81, 3) := by decide +kernel
theorem dX4_seal_21 : decode cX4_seal 21 = .ok (.iconst 2, 1) := by decide +kernel
theorem dX4_seal_22 : decode cX4_seal 22 = .ok (.if_icmp .ne 10, 3) := by decide +kernel
theorem dX4_seal_25 : decode cX4_seal 25 = .ok (.aload_n 0, 1) := by decide +kernel
theorem dX4_seal_26 : decode cX4_seal 26 = .ok (.invokevirtual 250, 3) := by decide +kernel
theorem dX4_seal_29 : decode cX4_seal 29 = .ok (.goto 8, 3) := by decide +kernel
theorem dX4_seal_32 : decode cX4_seal 32 = .ok (.aload_n 0, 1) := by decide +kernel
theorem dX4_seal_33 : decode cX4_seal 33 = .ok (.iload_n 1, 1) := by decide +kernel
theorem dX4_seal_34 : decode cX4_seal 34 = .ok (.invokevirtual 253, 3) := by decide +kernel
theorem dX4_seal_37 : decode cX4_seal 37 = .ok (.ireturn, 1) := by decide +kernel
set_option maxRecDepth 20000 in
theorem ggX4_as_X0_hasPass : GoodIn wsX4_as wsX0_hasPass := goodIn_r _ [7, 8, 29, 30, 31, 32, 33] (by decide +kernel) (by decide +kernel)
set_option maxRecDepth 20000 in
theorem gX4_as_X0_hasPass : GoodIn wsX4_as (wsV RX4 74 RX0 yX0_hasPass wsX0_hasPass) := goodIn_app (goodIn_of _ (by decide +kernel)) ggX4_as_X0_hasPass
set_option maxRecDepth 20000 in
theorem ggX4_as_X4_within : GoodIn wsX4_as wsX4_within := goodIn_r _ [12] (by decide +kernel) (by decide +kernel)
set_option maxRecDepth 20000 in
theorem gX4_as_X4_within : GoodIn wsX4_as (va_wsS RX4 77 yX4_within wsX4_within) := goodIn_app (goodIn_of _ (by decide +kernel)) ggX4_as_X4_within
set_option maxRecDepth 20000 in
theorem ggX4_as_X0_kindOf : GoodIn wsX4_as wsX0_kindOf := goodIn_r _ [16, 17, 18, 4, 5, 6, 7, 8, 29, 30, 31, 32, 33] (by decide +kernel) (by decide +kernel)
set_option maxRecDepth 20000 in
theorem gX4_as_X0_kindOf : GoodIn wsX4_as (wsV RX4 81 RX0 yX0_kindOf wsX0_kindOf) := goodIn_app (goodIn_of _ (by decide +kernel)) ggX4_as_X0_kindOf
set_option maxRecDepth 20000 in
theorem ggX4_as_X4_failBy : GoodIn wsX4_as wsX4_failBy := goodIn_r _ [22, 1, 23, 24, 25, 26, 27, 28] (by decide +kernel) (by decide +kernel)
set_option maxRecDepth 20000 in
theorem gX4_as_X4_failBy : GoodIn wsX4_as (wsV RX4 202 RX4 yX4_failBy wsX4_failBy) := goodIn_app (goodIn_of _ (by decide +kernel)) ggX4_as_X4_failBy
theorem dX4_as_0 : decode cX4_as 0 = .ok (.aload_n 0, 1) := by decide +kernel
theorem dX4_as_1 : decode cX4_as 1 = .ok (.iconst 0, 1) := by decide +kernel
theorem dX4_as_2 : decode cX4_as 2 = .ok (.putfield 42, 3) := by decide +kernel
theorem dX4_as_5 : decode cX4_as 5 = .ok (.aload_n 0, 1) := by decide +kernel
theorem dX4_as_6 : decode cX4_as 6 = .ok (.getfield 20, 3) := by decide +kernel
theorem dX4_as_9 : decode cX4_as 9 = .ok (.iload_n 1, 1) := by decide +kernel
theorem dX4_as_10 : decode cX4_as 10 = .ok (.invokevirtual 74, 3) := by decide +kernel
theorem dX4_as_13 : decode cX4_as 13 = .ok (.ifCond .ne 5, 3) := by decide +kernel
theorem dX4_as_16 : decode cX4_as 16 = .ok (.iconst (-1), 1) := by decide +kernel
theorem dX4_as_17 : decode cX4_as 17 = .ok (.ireturn, 1) := by decide +kernel
theorem dX4_as_18 : decode cX4_as 18 = .ok (.iload_n 2, 1) := by decide +kernel
theorem dX4_as_19 : decode cX4_as 19 = .ok (.iconst 0, 1) := by decide +kernel
theorem dX4_as_20 : decode cX4_as 20 = .ok (.iconst 2, 1) := by decide +kernel
theorem dX4_as_21 : decode cX4_as 21 = .ok (.invokestatic 77, 3) := by decide +kernel
theorem dX4_as_24 : decode cX4_as 24 = .ok (.ifCond .ne 6, 3) := by decide +kernel
theorem dX4_as_27 : decode cX4_as 27 = .ok (.bipush (-2), 2) := by decide +kernel
theorem dX4_as_29 : decode cX4_as 29 = .ok (.ireturn, 1) := by decide +kernel
theorem dX4_as_30 : decode cX4_as 30 = .ok (.iload_n 2, 1) := by decide +kernel
theorem dX4_as_31 : decode cX4_as 31 = .ok (.aload_n 0, 1) := by decide +kernel
theorem dX4_as_32 : decode cX4_as 32 = .ok (.getfield 20, 3) := by decide +kernel
theorem dX4_as_35 : decode cX4_as 35 = .ok (.iload_n 1, 1) := by decide +kernel
theorem dX4_as_36 : decode cX4_as 36 = .ok (.invokevirtual 81, 3) := by decide +kernel
theorem dX4_as_39 : decode cX4_as 39 = .ok (.if_icmp .gt 7, 3) := by decide +kernel
theorem dX4_as_42 : decode cX4_as 42 = .ok (.iconst 1, 1) := by decide +kernel
theorem dX4_as_43 : decode cX4_as 43 = .ok (.goto 8, 3) := by decide +kernel
theorem dX4_as_46 : decode cX4_as 46 = .ok (.aload_n 0, 1) := by decide +kernel
theorem dX4_as_47 : decode cX4_as 47 = .ok (.iconst 2, 1) := by decide +kernel
theorem dX4_as_48 : decode cX4_as 48 = .ok (.invokevirtual 202, 3) := by decide +kernel
theorem dX4_as_51 : decode cX4_as 51 = .ok (.ireturn, 1) := by decide +kernel
theorem dX4_trace_0 : decode cX4_trace 0 = .ok (.aload_n 0, 1) := by decide +kernel
theorem dX4_trace_1 : decode cX4_trace 1 = .ok (.getfield 38, 3) := by decide +kernel
theorem dX4_trace_4 : decode cX4_trace 4 = .ok (.ireturn, 1) := by decide +kernel
theorem dX4_fault_0 : decode cX4_fault 0 = .ok (.aload_n 0, 1) := by decide +kernel
theorem dX4_fault_1 : decode cX4_fault 1 = .ok (.getfield 42, 3) := by decide +kernel
theorem dX4_fault_4 : decode cX4_fault 4 = .ok (.ireturn, 1) := by decide +kernel
set_option maxRecDepth 20000 in
theorem ggX4_many_X0_howMany : GoodIn wsX4_many wsX0_howMany := goodIn_r _ [7, 8, 26, 27, 28, 29, 30] (by decide +kernel) (by decide +kernel)
set_option maxRecDepth 20000 in
theorem gX4_many_X0_howMany : GoodIn wsX4_many (wsV RX4 73 RX0 yX0_howMany wsX0_howMany) := goodIn_app (goodIn_of _ (by decide +kernel)) ggX4_many_X0_howMany
set_option maxRecDepth 20000 in
theorem ggX4_many_X0_slackNow : GoodIn wsX4_many wsX0_slackNow := goodIn_r _ [12, 13, 26, 27, 28, 29, 30] (by decide +kernel) (by decide +kernel)
set_option maxRecDepth 20000 in
theorem gX4_many_X0_slackNow : GoodIn wsX4_many (wsV RX4 100 RX0 yX0_slackNow wsX0_slackNow) := goodIn_app (goodIn_of _ (by decide +kernel)) ggX4_many_X0_slackNow
set_option maxRecDepth 20000 in
theorem ggX4_many_X1_howMany : GoodIn wsX4_many wsX1_howMany := goodIn_r _ [18, 19, 31, 32, 33, 34, 35] (by decide +kernel) (by decide +kernel)
set_option maxRecDepth 20000 in
theorem gX4_many_X1_howMany : GoodIn wsX4_many (wsV RX4 65 RX1 yX1_howMany wsX1_howMany) := goodIn_app (goodIn_of _ (by decide +kernel)) ggX4_many_X1_howMany
theorem dX4_many_0 : decode cX4_many 0 = .ok (.iload_n 1, 1) := by decide +kernel
theorem dX4_many_1 : decode cX4_many 1 = .ok (.tableswitch 51 0 2 #[27, 35, 43], 27) := by decide +kernel
theorem dX4_many_28 : decode cX4_many 28 = .ok (.aload_n 0, 1) := by decide +kernel
theorem dX4_many_29 : decode cX4_many 29 = .ok (.getfield 20, 3) := by decide +kernel
theorem dX4_many_32 : decode cX4_many 32 = .ok (.invokevirtual 73, 3) := by decide +kernel
theorem dX4_many_35 : decode cX4_many 35 = .ok (.ireturn, 1) := by decide +kernel
theorem dX4_many_36 : decode cX4_many 36 = .ok (.aload_n 0, 1) := by decide +kernel
theorem dX4_many_37 : decode cX4_many 37 = .ok (.getfield 20, 3) := by decide +kernel
theorem dX4_many_40 : decode cX4_many 40 = .ok (.invokevirtual 100, 3) := by decide +kernel
theorem dX4_many_43 : decode cX4_many 43 = .ok (.ireturn, 1) := by decide +kernel
theorem dX4_many_44 : decode cX4_many 44 = .ok (.aload_n 0, 1) := by decide +kernel
theorem dX4_many_45 : decode cX4_many 45 = .ok (.getfield 34, 3) := by decide +kernel
theorem dX4_many_48 : decode cX4_many 48 = .ok (.invokevirtual 65, 3) := by decide +kernel
theorem dX4_many_51 : decode cX4_many 51 = .ok (.ireturn, 1) := by decide +kernel
theorem dX4_many_52 : decode cX4_many 52 = .ok (.bipush (-2), 2) := by decide +kernel
theorem dX4_many_54 : decode cX4_many 54 = .ok (.ireturn, 1) := by decide +kernel
set_option maxRecDepth 20000 in
theorem ggX4_tellAsPass_X4_leave : GoodIn wsX4_tellAsPass wsX4_leave := goodIn_r _ [6, 7, 19, 20, 21, 22, 23, 24] (by decide +kernel) (by decide +kernel)
set_option maxRecDepth 20000 in
theorem gX4_tellAsPass_X4_leave : GoodIn wsX4_tellAsPass (wsV RX4 256 RX4 yX4_leave wsX4_leave) := goodIn_app (goodIn_of _ (by decide +kernel)) ggX4_tellAsPass_X4_leave
set_option maxRecDepth 20000 in
theorem ggX4_tellAsPass_X0_heightOf : GoodIn wsX4_tellAsPass wsX0_heightOf := goodIn_r _ [12, 13, 14, 15, 16, 11, 17, 18, 25, 26, 27, 28, 29] (by decide +kernel) (by decide +kernel)
set_option maxRecDepth 20000 in
theorem gX4_tellAsPass_X0_heightOf : GoodIn wsX4_tellAsPass (wsV RX4 85 RX0 yX0_heightOf wsX0_heightOf) := goodIn_app (goodIn_of _ (by decide +kernel)) ggX4_tellAsPass_X0_heightOf
theorem dX4_tellAsPass_0 : decode cX4_tellAsPass 0 = .ok (.aload_n 0, 1) := by decide +kernel
theorem dX4_tellAsPass_1 : decode cX4_tellAsPass 1 = .ok (.iconst 1, 1) := by decide +kernel
theorem dX4_tellAsPass_2 : decode cX4_tellAsPass 2 = .ok (.invokevirtual 256, 3) := by decide +kernel
theorem dX4_tellAsPass_5 : decode cX4_tellAsPass 5 = .ok (.iconst 0, 1) := by decide +kernel
theorem dX4_tellAsPass_6 : decode cX4_tellAsPass 6 = .ok (.istore_n 2, 1) := by decide +kernel
theorem dX4_tellAsPass_7 : decode cX4_tellAsPass 7 = .ok (.iconst 0, 1) := by decide +kernel
theorem dX4_tellAsPass_8 : decode cX4_tellAsPass 8 = .ok (.istore_n 3, 1) := by decide +kernel
theorem dX4_tellAsPass_9 : decode cX4_tellAsPass 9 = .ok (.iload_n 3, 1) := by decide +kernel
theorem dX4_tellAsPass_10 : decode cX4_tellAsPass 10 = .ok (.iconst 3, 1) := by decide +kernel
theorem dX4_tellAsPass_11 : decode cX4_tellAsPass 11 = .ok (.if_icmp .ge 21, 3) := by decide +kernel
theorem dX4_tellAsPass_14 : decode cX4_tellAsPass 14 = .ok (.iload_n 2, 1) := by decide +kernel
theorem dX4_tellAsPass_15 : decode cX4_tellAsPass 15 = .ok (.aload_n 0, 1) := by decide +kernel
theorem dX4_tellAsPass_16 : decode cX4_tellAsPass 16 = .ok (.getfield 20, 3) := by decide +kernel
theorem dX4_tellAsPass_19 : decode cX4_tellAsPass 19 = .ok (.iload_n 1, 1) := by decide +kernel
theorem dX4_tellAsPass_20 : decode cX4_tellAsPass 20 = .ok (.iload_n 3, 1) := by decide +kernel
theorem dX4_tellAsPass_21 : decode cX4_tellAsPass 21 = .ok (.invokevirtual 85, 3) := by decide +kernel
theorem dX4_tellAsPass_24 : decode cX4_tellAsPass 24 = .ok (.iadd, 1) := by decide +kernel
theorem dX4_tellAsPass_25 : decode cX4_tellAsPass 25 = .ok (.istore_n 2, 1) := by decide +kernel
theorem dX4_tellAsPass_26 : decode cX4_tellAsPass 26 = .ok (.iinc 3 1, 3) := by decide +kernel
theorem dX4_tellAsPass_29 : decode cX4_tellAsPass 29 = .ok (.goto (-20), 3) := by decide +kernel
theorem dX4_tellAsPass_32 : decode cX4_tellAsPass 32 = .ok (.iload_n 2, 1) := by decide +kernel
theorem dX4_tellAsPass_33 : decode cX4_tellAsPass 33 = .ok (.ireturn, 1) := by decide +kernel
set_option maxRecDepth 20000 in
theorem ggX4_tellAsLent_X4_leave : GoodIn wsX4_tellAsLent wsX4_leave := goodIn_r _ [5, 6, 23, 24, 25, 26, 27, 28] (by decide +kernel) (by decide +kernel)
set_option maxRecDepth 20000 in
theorem gX4_tellAsLent_X4_leave : GoodIn wsX4_tellAsLent (wsV RX4 256 RX4 yX4_leave wsX4_leave) := goodIn_app (goodIn_of _ (by decide +kernel)) ggX4_tellAsLent_X4_leave
set_option maxRecDepth 20000 in
theorem ggX4_tellAsLent_X4_tellAsPass : GoodIn wsX4_tellAsLent wsX4_tellAsPass := goodIn_r _ [10, 11, 1, 2, 3, 4, 5, 6, 12, 13, 14, 15, 16, 17, 18, 19, 20, 21, 22, 23, 24, 25, 26, 27, 28, 29, 30, 31, 32, 33] (by decide +kernel) (by decide +kernel)
set_option maxRecDepth 20000 in
theorem gX4_tellAsLent_X4_tellAsPass : GoodIn wsX4_tellAsLent (wsV RX4 247 RX4 yX4_tellAsPass wsX4_tellAsPass) := goodIn_app (goodIn_of _ (by decide +kernel)) ggX4_tellAsLent_X4_tellAsPass
theorem dX4_tellAsLent_0 : decode cX4_tellAsLent 0 = .ok (.aload_n 0, 1) := by decide +kernel
theorem dX4_tellAsLent_1 : decode cX4_tellAsLent 1 = .ok (.iconst 2, 1) := by decide +kernel
theorem dX4_tellAsLent_2 : decode cX4_tellAsLent 2 = .ok (.invokevirtual 256, 3) := by decide +kernel
theorem dX4_tellAsLent_5 : decode cX4_tellAsLent 5 = .ok (.aload_n 0, 1) := by decide +kernel
theorem dX4_tellAsLent_6 : decode cX4_tellAsLent 6 = .ok (.iload_n 1, 1) := by decide +kernel
theorem dX4_tellAsLent_7 : decode cX4_tellAsLent 7 = .ok (.invokevirtual 247, 3) := by decide +kernel
theorem dX4_tellAsLent_10 : decode cX4_tellAsLent 10 = .ok (.bipush 100, 2) := by decide +kernel
theorem dX4_tellAsLent_12 : decode cX4_tellAsLent 12 = .ok (.iadd, 1) := by decide +kernel
theorem dX4_tellAsLent_13 : decode cX4_tellAsLent 13 = .ok (.ireturn, 1) := by decide +kernel
set_option maxRecDepth 20000 in
theorem ggX4_tellAsDrawn_X4_leave : GoodIn wsX4_tellAsDrawn wsX4_leave := goodIn_r _ [5, 6, 27, 28, 29, 30, 31, 32] (by decide +kernel) (by decide +kernel)
set_option maxRecDepth 20000 in
theorem gX4_tellAsDrawn_X4_leave : GoodIn wsX4_tellAsDrawn (wsV RX4 256 RX4 yX4_leave wsX4_leave) := goodIn_app (goodIn_of _ (by decide +kernel)) ggX4_tellAsDrawn_X4_leave
set_option maxRecDepth 20000 in
theorem ggX4_tellAsDrawn_X4_tellAsLent : GoodIn wsX4_tellAsDrawn wsX4_tellAsLent := goodIn_r _ [10, 1, 2, 3, 4, 5, 6, 11, 12, 13, 14, 15, 16, 17, 18, 19, 20, 21, 22, 23, 24, 25, 26, 27, 28, 29, 30, 31, 32, 33, 34, 35, 36, 37] (by decide +kernel) (by decide +kernel)
set_option maxRecDepth 20000 in
theorem gX4_tellAsDrawn_X4_tellAsLent : GoodIn wsX4_tellAsDrawn (wsV RX4 244 RX4 yX4_tellAsLent wsX4_tellAsLent) := goodIn_app (goodIn_of _ (by decide +kernel)) ggX4_tellAsDrawn_X4_tellAsLent
set_option maxRecDepth 20000 in
theorem ggX4_tellAsDrawn_X4_tellAsPass : GoodIn wsX4_tellAsDrawn wsX4_tellAsPass := goodIn_r _ [14, 15, 1, 2, 3, 4, 5, 6, 16, 17, 18, 19, 20, 21, 22, 23, 24, 25, 26, 27, 28, 29, 30, 31, 32, 33, 34, 35, 36, 37] (by decide +kernel) (by decide +kernel)
set_option maxRecDepth 20000 in
theorem gX4_tellAsDrawn_X4_tellAsPass : GoodIn wsX4_tellAsDrawn (wsV RX4 247 RX4 yX4_tellAsPass wsX4_tellAsPass) := goodIn_app (goodIn_of _ (by decide +kernel)) ggX4_tellAsDrawn_X4_tellAsPass
theorem dX4_tellAsDrawn_0 : decode cX4_tellAsDrawn 0 = .ok (.aload_n 0, 1) := by decide +kernel
theorem dX4_tellAsDrawn_1 : decode cX4_tellAsDrawn 1 = .ok (.iconst 3, 1) := by decide +kernel
theorem dX4_tellAsDrawn_2 : decode cX4_tellAsDrawn 2 = .ok (.invokevirtual 256, 3) := by decide +kernel
theorem dX4_tellAsDrawn_5 : decode cX4_tellAsDrawn 5 = .ok (.aload_n 0, 1) := by decide +kernel
theorem dX4_tellAsDrawn_6 : decode cX4_tellAsDrawn 6 = .ok (.iload_n 1, 1) := by decide +kernel
theorem dX4_tellAsDrawn_7 : decode cX4_tellAsDrawn 7 = .ok (.invokevirtual 244, 3) := by decide +kernel
theorem dX4_tellAsDrawn_10 : decode cX4_tellAsDrawn 10 = .ok (.istore_n 2, 1) := by decide +kernel
theorem dX4_tellAsDrawn_11 : decode cX4_tellAsDrawn 11 = .ok (.iload_n 2, 1) := by decide +kernel
theorem dX4_tellAsDrawn_12 : decode cX4_tellAsDrawn 12 = .ok (.aload_n 0, 1) := by decide +kernel
theorem dX4_tellAsDrawn_13 : decode cX4_tellAsDrawn 13 = .ok (.iload_n 1, 1) := by decide +kernel
theorem dX4_tellAsDrawn_14 : decode cX4_tellAsDrawn 14 = .ok (.invokevirtual 247, 3) := by decide +kernel
theorem dX4_tellAsDrawn_17 : decode cX4_tellAsDrawn 17 = .ok (.iadd, 1) := by decide +kernel
theorem dX4_tellAsDrawn_18 : decode cX4_tellAsDrawn 18 = .ok (.ireturn, 1) := by decide +kernel
set_option maxRecDepth 20000 in
theorem ggX4_sealAsAny_X4_leave : GoodIn wsX4_sealAsAny wsX4_leave := goodIn_r _ [5, 6, 7, 8, 9, 10, 11, 12] (by decide +kernel) (by decide +kernel)
set_option maxRecDepth 20000 in
theorem gX4_sealAsAny_X4_leave : GoodIn wsX4_sealAsAny (wsV RX4 256 RX4 yX4_leave wsX4_leave) := goodIn_app (goodIn_of _ (by decide +kernel)) ggX4_sealAsAny_X4_leave
theorem dX4_sealAsAny_0 : decode cX4_sealAsAny 0 = .ok (.aload_n 0, 1) := by decide +kernel
theorem dX4_sealAsAny_1 : decode cX4_sealAsAny 1 = .ok (.iconst 4, 1) := by decide +kernel
theorem dX4_sealAsAny_2 : decode cX4_sealAsAny 2 = .ok (.invokevirtual 256, 3) := by decide +kernel
theorem dX4_sealAsAny_5 : decode cX4_sealAsAny 5 = .ok (.iload_n 1, 1) := by decide +kernel
theorem dX4_sealAsAny_6 : decode cX4_sealAsAny 6 = .ok (.ireturn, 1) := by decide +kernel
set_option maxRecDepth 20000 in
theorem ggX4_sealAsDrawn_X4_leave : GoodIn wsX4_sealAsDrawn wsX4_leave := goodIn_r _ [5, 6, 7, 8, 9, 10, 11, 12] (by decide +kernel) (by decide +kernel)
set_option maxRecDepth 20000 in
theorem gX4_sealAsDrawn_X4_leave : GoodIn wsX4_sealAsDrawn (wsV RX4 256 RX4 yX4_leave wsX4_leave) := goodIn_app (goodIn_of _ (by decide +kernel)) ggX4_sealAsDrawn_X4_leave
theorem dX4_sealAsDrawn_0 : decode cX4_sealAsDrawn 0 = .ok (.aload_n 0, 1) := by decide +kernel
theorem dX4_sealAsDrawn_1 : decode cX4_sealAsDrawn 1 = .ok (.iconst 5, 1) := by decide +kernel
theorem dX4_sealAsDrawn_2 : decode cX4_sealAsDrawn 2 = .ok (.invokevirtual 256, 3) := by decide +kernel
theorem dX4_sealAsDrawn_5 : decode cX4_sealAsDrawn 5 = .ok (.bipush 70, 2) := by decide +kernel
theorem dX4_sealAsDrawn_7 : decode cX4_sealAsDrawn 7 = .ok (.ireturn, 1) := by decide +kernel
theorem dX4_leave_0 : decode cX4_leave 0 = .ok (.aload_n 0, 1) := by decide +kernel
theorem dX4_leave_1 : decode cX4_leave 1 = .ok (.bipush 31, 2) := by decide +kernel
theorem dX4_leave_3 : decode cX4_leave 3 = .ok (.aload_n 0, 1) := by decide +kernel
theorem dX4_leave_4 : decode cX4_leave 4 = .ok (.getfield 38, 3) := by decide +kernel
theorem dX4_leave_7 : decode cX4_leave 7 = .ok (.imul, 1) := by decide +kernel
theorem dX4_leave_8 : decode cX4_leave 8 = .ok (.iload_n 1, 1) := by decide +kernel
theorem dX4_leave_9 : decode cX4_leave 9 = .ok (.iadd, 1) := by decide +kernel
theorem dX4_leave_10 : decode cX4_leave 10 = .ok (.putfield 38, 3) := by decide +kernel
theorem dX4_leave_13 : decode cX4_leave 13 = .ok (.return_, 1) := by decide +kernel
theorem dX4_failBy_0 : decode cX4_failBy 0 = .ok (.aload_n 0, 1) := by decide +kernel
theorem dX4_failBy_1 : decode cX4_failBy 1 = .ok (.iload_n 1, 1) := by decide +kernel
theorem dX4_failBy_2 : decode cX4_failBy 2 = .ok (.putfield 42, 3) := by decide +kernel
theorem dX4_failBy_5 : decode cX4_failBy 5 = .ok (.bipush (-10), 2) := by decide +kernel
theorem dX4_failBy_7 : decode cX4_failBy 7 = .ok (.iload_n 1, 1) := by decide +kernel
theorem dX4_failBy_8 : decode cX4_failBy 8 = .ok (.isub, 1) := by decide +kernel
theorem dX4_failBy_9 : decode cX4_failBy 9 = .ok (.ireturn, 1) := by decide +kernel
set_option maxRecDepth 20000 in
theorem ggX4_faultOfRow_X2_hasNothing : GoodIn wsX4_faultOfRow wsX2_hasNothing := goodIn_r _ [5, 6, 11, 12, 13] (by decide +kernel) (by decide +kernel)
set_option maxRecDepth 20000 in
theorem gX4_faultOfRow_X2_hasNothing : GoodIn wsX4_faultOfRow (wsV RX4 208 RX2 yX2_hasNothing wsX2_hasNothing) := goodIn_app (goodIn_of _ (by decide +kernel)) ggX4_faultOfRow_X2_hasNothing
set_option maxRecDepth 20000 in
theorem ggX4_faultOfRow_X2_isOfAnother : GoodIn wsX4_faultOfRow wsX2_isOfAnother := goodIn_r _ [10, 6, 11, 12, 13] (by decide +kernel) (by decide +kernel)
set_option maxRecDepth 20000 in
theorem gX4_faultOfRow_X2_isOfAnother : GoodIn wsX4_faultOfRow (wsV RX4 230 RX2 yX2_isOfAnother wsX2_isOfAnother) := goodIn_app (goodIn_of _ (by decide +kernel)) ggX4_faultOfRow_X2_isOfAnother
theorem dX4_faultOfRow_0 : decode cX4_faultOfRow 0 = .ok (.aload_n 0, 1) := by decide +kernel
theorem dX4_faultOfRow_1 : decode cX4_faultOfRow 1 = .ok (.invokevirtual 208, 3) := by decide +kernel
theorem dX4_faultOfRow_4 : decode cX4_faultOfRow 4 = .ok (.ifCond .eq 5, 3) := by decide +kernel
theorem dX4_faultOfRow_7 : decode cX4_faultOfRow 7 = .ok (.iconst 1, 1) := by decide +kernel
theorem dX4_faultOfRow_8 : decode cX4_faultOfRow 8 = .ok (.ireturn, 1) := by decide +kernel
theorem dX4_faultOfRow_9 : decode cX4_faultOfRow 9 = .ok (.aload_n 0, 1) := by decide +kernel
theorem dX4_faultOfRow_10 : decode cX4_faultOfRow 10 = .ok (.iload_n 1, 1) := by decide +kernel
theorem dX4_faultOfRow_11 : decode cX4_faultOfRow 11 = .ok (.invokevirtual 230, 3) := by decide +kernel
theorem dX4_faultOfRow_14 : decode cX4_faultOfRow 14 = .ok (.ifCond .eq 7, 3) := by decide +kernel
theorem dX4_faultOfRow_17 : decode cX4_faultOfRow 17 = .ok (.iconst 2, 1) := by decide +kernel
theorem dX4_faultOfRow_18 : decode cX4_faultOfRow 18 = .ok (.goto 4, 3) := by decide +kernel
theorem dX4_faultOfRow_21 : decode cX4_faultOfRow 21 = .ok (.iconst 0, 1) := by decide +kernel
theorem dX4_faultOfRow_22 : decode cX4_faultOfRow 22 = .ok (.ireturn, 1) := by decide +kernel
set_option maxRecDepth 20000 in
theorem ggX4_faultOfCells_X4_faultOfRow : GoodIn wsX4_faultOfCells wsX4_faultOfRow := goodIn_r _ [4, 5, 6, 7, 8, 9, 10, 11, 12, 13, 14, 20, 21, 22] (by decide +kernel) (by decide +kernel)
set_option maxRecDepth 20000 in
theorem gX4_faultOfCells_X4_faultOfRow : GoodIn wsX4_faultOfCells (va_wsS RX4 220 yX4_faultOfRow wsX4_faultOfRow) := goodIn_app (goodIn_of _ (by decide +kernel)) ggX4_faultOfCells_X4_faultOfRow
set_option maxRecDepth 20000 in
theorem ggX4_faultOfCells_X2_hasCells : GoodIn wsX4_faultOfCells wsX2_hasCells := goodIn_r _ [18, 19, 20, 21, 22] (by decide +kernel) (by decide +kernel)
set_option maxRecDepth 20000 in
theorem gX4_faultOfCells_X2_hasCells : GoodIn wsX4_faultOfCells (wsV RX4 233 RX2 yX2_hasCells wsX2_hasCells) := goodIn_app (goodIn_of _ (by decide +kernel)) ggX4_faultOfCells_X2_hasCells
theorem dX4_faultOfCells_0 : decode cX4_faultOfCells 0 = .ok (.aload_n 0, 1) := by decide +kernel
theorem dX4_faultOfCells_1 : decode cX4_faultOfCells 1 = .ok (.iload_n 1, 1) := by decide +kernel
theorem dX4_faultOfCells_2 : decode cX4_faultOfCells 2 = .ok (.invokestatic 220, 3) := by decide +kernel
theorem dX4_faultOfCells_5 : decode cX4_faultOfCells 5 = .ok (.istore 4, 2) := by decide +kernel
theorem dX4_faultOfCells_7 : decode cX4_faultOfCells 7 = .ok (.iload 4, 2) := by decide +kernel
theorem dX4_faultOfCells_9 : decode cX4_faultOfCells 9 = .ok (.ifCond .ne 16, 3) := by decide +kernel
theorem dX4_faultOfCells_12 : decode cX4_faultOfCells 12 = .ok (.aload_n 0, 1) := by decide +kernel
theorem dX4_faultOfCells_13 : decode cX4_faultOfCells 13 = .ok (.iload_n 2, 1) := by decide +kernel
theorem dX4_faultOfCells_14 : decode cX4_faultOfCells 14 = .ok (.iload_n 3, 1) := by decide +kernel
theorem dX4_faultOfCells_15 : decode cX4_faultOfCells 15 = .ok (.invokevirtual 233, 3) := by decide +kernel
theorem dX4_faultOfCells_18 : decode cX4_faultOfCells 18 = .ok (.ifCond .ne 7, 3) := by decide +kernel
theorem dX4_faultOfCells_21 : decode cX4_faultOfCells 21 = .ok (.iconst 3, 1) := by decide +kernel
theorem dX4_faultOfCells_22 : decode cX4_faultOfCells 22 = .ok (.goto 5, 3) := by decide +kernel
theorem dX4_faultOfCells_25 : decode cX4_faultOfCells 25 = .ok (.iload 4, 2) := by decide +kernel
theorem dX4_faultOfCells_27 : decode cX4_faultOfCells 27 = .ok (.ireturn, 1) := by decide +kernel
set_option maxRecDepth 20000 in
theorem ggX4_faultOfText_X4_faultOfCells : GoodIn wsX4_faultOfText wsX4_faultOfCells := goodIn_r _ [4, 5, 6, 3, 7, 8, 9, 10, 11, 12, 13, 14, 15, 16, 17, 18, 19, 20, 21, 22, 23, 24, 25] (by decide +kernel) (by decide +kernel)
set_option maxRecDepth 20000 in
theorem gX4_faultOfText_X4_faultOfCells : GoodIn wsX4_faultOfText (va_wsS RX4 146 yX4_faultOfCells wsX4_faultOfCells) := goodIn_app (goodIn_of _ (by decide +kernel)) ggX4_faultOfText_X4_faultOfCells
theorem dX4_faultOfText_0 : decode cX4_faultOfText 0 = .ok (.aload_n 0, 1) := by decide +kernel
theorem dX4_faultOfText_1 : decode cX4_faultOfText 1 = .ok (.iload_n 1, 1) := by decide +kernel
theorem dX4_faultOfText_2 : decode cX4_faultOfText 2 = .ok (.iload_n 2, 1) := by decide +kernel
theorem dX4_faultOfText_3 : decode cX4_faultOfText 3 = .ok (.iload_n 3, 1) := by decide +kernel
theorem dX4_faultOfText_4 : decode cX4_faultOfText 4 = .ok (.invokestatic 146, 3) := by decide +kernel
theorem dX4_faultOfText_7 : decode cX4_faultOfText 7 = .ok (.istore 4, 2) := by decide +kernel
theorem dX4_faultOfText_9 : decode cX4_faultOfText 9 = .ok (.iload 4, 2) := by decide +kernel
theorem dX4_faultOfText_11 : decode cX4_faultOfText 11 = .ok (.iconst 3, 1) := by decide +kernel
theorem dX4_faultOfText_12 : decode cX4_faultOfText 12 = .ok (.if_icmp .ne 11, 3) := by decide +kernel
theorem dX4_faultOfText_15 : decode cX4_faultOfText 15 = .ok (.iload_n 3, 1) := by decide +kernel
theorem dX4_faultOfText_16 : decode cX4_faultOfText 16 = .ok (.ifCond .ge 7, 3) := by decide +kernel
theorem dX4_faultOfText_19 : decode cX4_faultOfText 19 = .ok (.iconst 4, 1) := by decide +kernel
theorem dX4_faultOfText_20 : decode cX4_faultOfText 20 = .ok (.goto 5, 3) := by decide +kernel
theorem dX4_faultOfText_23 : decode cX4_faultOfText 23 = .ok (.iload 4, 2) := by decide +kernel
theorem dX4_faultOfText_25 : decode cX4_faultOfText 25 = .ok (.ireturn, 1) := by decide +kernel
theorem dX4_within_0 : decode cX4_within 0 = .ok (.iload_n 0, 1) := by decide +kernel
theorem dX4_within_1 : decode cX4_within 1 = .ok (.iload_n 1, 1) := by decide +kernel
theorem dX4_within_2 : decode cX4_within 2 = .ok (.if_icmp .lt 12, 3) := by decide +kernel
theorem dX4_within_5 : decode cX4_within 5 = .ok (.iload_n 0, 1) := by decide +kernel
theorem dX4_within_6 : decode cX4_within 6 = .ok (.iload_n 2, 1) := by decide +kernel
theorem dX4_within_7 : decode cX4_within 7 = .ok (.if_icmp .gt 7, 3) := by decide +kernel
theorem dX4_within_10 : decode cX4_within 10 = .ok (.iconst 1, 1) := by decide +kernel
theorem dX4_within_11 : decode cX4_within 11 = .ok (.goto 4, 3) := by decide +kernel
theorem dX4_within_14 : decode cX4_within 14 = .ok (.iconst 0, 1) := by decide +kernel
theorem dX4_within_15 : decode cX4_within 15 = .ok (.ireturn, 1) := by decide +kernel
set_option maxRecDepth 20000 in
theorem ggX4_isSheet_X4_within : GoodIn wsX4_isSheet wsX4_within := goodIn_r _ [4] (by decide +kernel) (by decide +kernel)
set_option maxRecDepth 20000 in
theorem gX4_isSheet_X4_within : GoodIn wsX4_isSheet (va_wsS RX4 77 yX4_within wsX4_within) := goodIn_app (goodIn_of _ (by decide +kernel)) ggX4_isSheet_X4_within
theorem dX4_isSheet_0 : decode cX4_isSheet 0 = .ok (.iload_n 0, 1) := by decide +kernel
theorem dX4_isSheet_1 : decode cX4_isSheet 1 = .ok (.iconst 0, 1) := by decide +kernel
theorem dX4_isSheet_2 : decode cX4_isSheet 2 = .ok (.iconst 3, 1) := by decide +kernel
theorem dX4_isSheet_3 : decode cX4_isSheet 3 = .ok (.invokestatic 77, 3) := by decide +kernel
theorem dX4_isSheet_6 : decode cX4_isSheet 6 = .ok (.ireturn, 1) := by decide +kernel
set_option maxRecDepth 20000 in
theorem ggX4_isLane_X4_within : GoodIn wsX4_isLane wsX4_within := goodIn_r _ [4] (by decide +kernel) (by decide +kernel)
set_option maxRecDepth 20000 in
theorem gX4_isLane_X4_within : GoodIn wsX4_isLane (va_wsS RX4 77 yX4_within wsX4_within) := goodIn_app (goodIn_of _ (by decide +kernel)) ggX4_isLane_X4_within
theorem dX4_isLane_0 : decode cX4_isLane 0 = .ok (.iload_n 0, 1) := by decide +kernel
theorem dX4_isLane_1 : decode cX4_isLane 1 = .ok (.iconst 0, 1) := by decide +kernel
theorem dX4_isLane_2 : decode cX4_isLane 2 = .ok (.iconst 2, 1) := by decide +kernel
theorem dX4_isLane_3 : decode cX4_isLane 3 = .ok (.invokestatic 77, 3) := by decide +kernel
theorem dX4_isLane_6 : decode cX4_isLane 6 = .ok (.ireturn, 1) := by decide +kernel
set_option maxRecDepth 20000 in
theorem ggX4_isPlace_X4_within : GoodIn wsX4_isPlace wsX4_within := goodIn_r _ [4] (by decide +kernel) (by decide +kernel)
set_option maxRecDepth 20000 in
theorem gX4_isPlace_X4_within : GoodIn wsX4_isPlace (va_wsS RX4 77 yX4_within wsX4_within) := goodIn_app (goodIn_of _ (by decide +kernel)) ggX4_isPlace_X4_within
theorem dX4_isPlace_0 : decode cX4_isPlace 0 = .ok (.iload_n 0, 1) := by decide +kernel
theorem dX4_isPlace_1 : decode cX4_isPlace 1 = .ok (.iconst 0, 1) := by decide +kernel
theorem dX4_isPlace_2 : decode cX4_isPlace 2 = .ok (.iconst 2, 1) := by decide +kernel
theorem dX4_isPlace_3 : decode cX4_isPlace 3 = .ok (.invokestatic 77, 3) := by decide +kernel
theorem dX4_isPlace_6 : decode cX4_isPlace 6 = .ok (.ireturn, 1) := by decide +kernel
set_option maxRecDepth 20000 in
theorem ggX4_isMonths_X4_within : GoodIn wsX4_isMonths wsX4_within := goodIn_r _ [4] (by decide +kernel) (by decide +kernel)
set_option maxRecDepth 20000 in
theorem gX4_isMonths_X4_within : GoodIn wsX4_isMonths (va_wsS RX4 77 yX4_within wsX4_within) := goodIn_app (goodIn_of _ (by decide +kernel)) ggX4_isMonths_X4_within
theorem dX4_isMonths_0 : decode cX4_isMonths 0 = .ok (.iload_n 0, 1) := by decide +kernel
theorem dX4_isMonths_1 : decode cX4_isMonths 1 = .ok (.iconst 0, 1) := by decide +kernel
theorem dX4_isMonths_2 : decode cX4_isMonths 2 = .ok (.bipush 9, 2) := by decide +kernel
theorem dX4_isMonths_4 : decode cX4_isMonths 4 = .ok (.invokestatic 77, 3) := by decide +kernel
theorem dX4_isMonths_7 : decode cX4_isMonths 7 = .ok (.ireturn, 1) := by decide +kernel
set_option maxRecDepth 20000 in
theorem ggX4_isAskable_X4_within : GoodIn wsX4_isAskable wsX4_within := goodIn_r _ [4] (by decide +kernel) (by decide +kernel)
set_option maxRecDepth 20000 in
theorem gX4_isAskable_X4_within : GoodIn wsX4_isAskable (va_wsS RX4 77 yX4_within wsX4_within) := goodIn_app (goodIn_of _ (by decide +kernel)) ggX4_isAskable_X4_within
theorem dX4_isAskable_0 : decode cX4_isAskable 0 = .ok (.iload_n 0, 1) := by decide +kernel
theorem dX4_isAskable_1 : decode cX4_isAskable 1 = .ok (.iconst 0, 1) := by decide +kernel
theorem dX4_isAskable_2 : decode cX4_isAskable 2 = .ok (.iconst 3, 1) := by decide +kernel
theorem dX4_isAskable_3 : decode cX4_isAskable 3 = .ok (.invokestatic 77, 3) := by decide +kernel
theorem dX4_isAskable_6 : decode cX4_isAskable 6 = .ok (.ifCond .ne 14, 3) := by decide +kernel
theorem dX4_isAskable_9 : decode cX4_isAskable 9 = .ok (.iload_n 0, 1) := by decide +kernel
theorem dX4_isAskable_10 : decode cX4_isAskable 10 = .ok (.bipush 10, 2) := by decide +kernel
theorem dX4_isAskable_12 : decode cX4_isAskable 12 = .ok (.bipush 15, 2) := by decide +kernel
theorem dX4_isAskable_14 : decode cX4_isAskable 14 = .ok (.invokestatic 77, 3) := by decide +kernel
theorem dX4_isAskable_17 : decode cX4_isAskable 17 = .ok (.ifCond .eq 7, 3) := by decide +kernel
theorem dX4_isAskable_20 : decode cX4_isAskable 20 = .ok (.iconst 1, 1) := by decide +kernel
theorem dX4_isAskable_21 : decode cX4_isAskable 21 = .ok (.goto 4, 3) := by decide +kernel
theorem dX4_isAskable_24 : decode cX4_isAskable 24 = .ok (.iconst 0, 1) := by decide +kernel
theorem dX4_isAskable_25 : decode cX4_isAskable 25 = .ok (.ireturn, 1) := by decide +kernel
theorem dX4_bitIf_0 : decode cX4_bitIf 0 = .ok (.iload_n 0, 1) := by decide +kernel
theorem dX4_bitIf_1 : decode cX4_bitIf 1 = .ok (.ifCond .eq 9, 3) := by decide +kernel
theorem dX4_bitIf_4 : decode cX4_bitIf 4 = .ok (.iconst 1, 1) := by decide +kernel
theorem dX4_bitIf_5 : decode cX4_bitIf 5 = .ok (.iload_n 1, 1) := by decide +kernel
theorem dX4_bitIf_6 : decode cX4_bitIf 6 = .ok (.ishl, 1) := by decide +kernel
theorem dX4_bitIf_7 : decode cX4_bitIf 7 = .ok (.goto 4, 3) := by decide +kernel
theorem dX4_bitIf_10 : decode cX4_bitIf 10 = .ok (.iconst 0, 1) := by decide +kernel
theorem dX4_bitIf_11 : decode cX4_bitIf 11 = .ok (.ireturn, 1) := by decide +kernel
theorem dX5_init_0 : decode cX5_init 0 = .ok (.aload_n 0, 1) := by decide +kernel
theorem dX5_init_1 : decode cX5_init 1 = .ok (.invokespecial 1, 3) := by decide +kernel
theorem dX5_init_4 : decode cX5_init 4 = .ok (.aload_n 0, 1) := by decide +kernel
theorem dX5_init_5 : decode cX5_init 5 = .ok (.iconst 4, 1) := by decide +kernel
theorem dX5_init_6 : decode cX5_init 6 = .ok (.newarray .int, 2) := by decide +kernel
theorem dX5_init_8 : decode cX5_init 8 = .ok (.dup, 1) := by decide +kernel
theorem dX5_init_9 : decode cX5_init 9 = .ok (.iconst 0, 1) := by decide +kernel
theorem dX5_init_10 : decode cX5_init 10 = .ok (.bipush (-9), 2) := by decide +kernel
theorem dX5_init_12 : decode cX5_init 12 = .ok (.iastore, 1) := by decide +kernel
theorem dX5_init_13 : decode cX5_init 13 = .ok (.dup, 1) := by decide +kernel
theorem dX5_init_14 : decode cX5_init 14 = .ok (.iconst 1, 1) := by decide +kernel
theorem dX5_init_15 : decode cX5_init 15 = .ok (.bipush (-9), 2) := by decide +kernel
theorem dX5_init_17 : decode cX5_init 17 = .ok (.iastore, 1) := by decide +kernel
theorem dX5_init_18 : decode cX5_init 18 = .ok (.dup, 1) := by decide +kernel
theorem dX5_init_19 : decode cX5_init 19 = .ok (.iconst 2, 1) := by decide +kernel
theorem dX5_init_20 : decode cX5_init 20 = .ok (.bipush (-9), 2) := by decide +kernel
theorem dX5_init_22 : decode cX5_init 22 = .ok (.iastore, 1) := by decide +kernel
theorem dX5_init_23 : decode cX5_init 23 = .ok (.dup, 1) := by decide +kernel
theorem dX5_init_24 : decode cX5_init 24 = .ok (.iconst 3, 1) := by decide +kernel
theorem dX5_init_25 : decode cX5_init 25 = .ok (.bipush (-9), 2) := by decide +kernel
theorem dX5_init_27 : decode cX5_init 27 = .ok (.iastore, 1) := by decide +kernel
theorem dX5_init_28 : decode cX5_init 28 = .ok (.putfield 9, 3) := by decide +kernel
theorem dX5_init_31 : decode cX5_init 31 = .ok (.aload_n 0, 1) := by decide +kernel
theorem dX5_init_32 : decode cX5_init 32 = .ok (.iconst 4, 1) := by decide +kernel
theorem dX5_init_33 : decode cX5_init 33 = .ok (.newarray .int, 2) := by decide +kernel
theorem dX5_init_35 : decode cX5_init 35 = .ok (.putfield 13, 3) := by decide +kernel
theorem dX5_init_38 : decode cX5_init 38 = .ok (.aload_n 0, 1) := by decide +kernel
theorem dX5_init_39 : decode cX5_init 39 = .ok (.sipush 240, 3) := by decide +kernel
theorem dX5_init_42 : decode cX5_init 42 = .ok (.newarray .int, 2) := by decide +kernel
theorem dX5_init_44 : decode cX5_init 44 = .ok (.putfield 16, 3) := by decide +kernel
theorem dX5_init_47 : decode cX5_init 47 = .ok (.aload_n 0, 1) := by decide +kernel
theorem dX5_init_48 : decode cX5_init 48 = .ok (.bipush 6, 2) := by decide +kernel
theorem dX5_init_50 : decode cX5_init 50 = .ok (.newarray .int, 2) := by decide +kernel
theorem dX5_init_52 : decode cX5_init 52 = .ok (.putfield 19, 3) := by decide +kernel
theorem dX5_init_55 : decode cX5_init 55 = .ok (.aload_n 0, 1) := by decide +kernel
theorem dX5_init_56 : decode cX5_init 56 = .ok (.bipush 18, 2) := by decide +kernel
theorem dX5_init_58 : decode cX5_init 58 = .ok (.newarray .int, 2) := by decide +kernel
theorem dX5_init_60 : decode cX5_init 60 = .ok (.putfield 22, 3) := by decide +kernel
theorem dX5_init_63 : decode cX5_init 63 = .ok (.aload_n 0, 1) := by decide +kernel
theorem dX5_init_64 : decode cX5_init 64 = .ok (.bipush 6, 2) := by decide +kernel
theorem dX5_init_66 : decode cX5_init 66 = .ok (.newarray .int, 2) := by decide +kernel
theorem dX5_init_68 : decode cX5_init 68 = .ok (.putfield 25, 3) := by decide +kernel
theorem dX5_init_71 : decode cX5_init 71 = .ok (.aload_n 0, 1) := by decide +kernel
theorem dX5_init_72 : decode cX5_init 72 = .ok (.bipush 18, 2) := by decide +kernel
theorem dX5_init_74 : decode cX5_init 74 = .ok (.newarray .int, 2) := by decide +kernel
theorem dX5_init_76 : decode cX5_init 76 = .ok (.putfield 28, 3) := by decide +kernel
theorem dX5_init_79 : decode cX5_init 79 = .ok (.aload_n 0, 1) := by decide +kernel
theorem dX5_init_80 : decode cX5_init 80 = .ok (.bipush 6, 2) := by decide +kernel
theorem dX5_init_82 : decode cX5_init 82 = .ok (.newarray .int, 2) := by decide +kernel
theorem dX5_init_84 : decode cX5_init 84 = .ok (.putfield 31, 3) := by decide +kernel
theorem dX5_init_87 : decode cX5_init 87 = .ok (.aload_n 0, 1) := by decide +kernel
theorem dX5_init_88 : decode cX5_init 88 = .ok (.bipush 8, 2) := by decide +kernel
theorem dX5_init_90 : decode cX5_init 90 = .ok (.newarray .int, 2) := by decide +kernel
theorem dX5_init_92 : decode cX5_init 92 = .ok (.putfield 34, 3) := by decide +kernel
theorem dX5_init_95 : decode cX5_init 95 = .ok (.aload_n 0, 1) := by decide +kernel
theorem dX5_init_96 : decode cX5_init 96 = .ok (.bipush 8, 2) := by decide +kernel
theorem dX5_init_98 : decode cX5_init 98 = .ok (.newarray .int, 2) := by decide +kernel
theorem dX5_init_100 : decode cX5_init 100 = .ok (.putfield 37, 3) := by decide +kernel
theorem dX5_init_103 : decode cX5_init 103 = .ok (.aload_n 0, 1) := by decide +kernel
theorem dX5_init_104 : decode cX5_init 104 = .ok (.bipush 8, 2) := by decide +kernel
theorem dX5_init_106 : decode cX5_init 106 = .ok (.newarray .int, 2) := by decide +kernel
theorem dX5_init_108 : decode cX5_init 108 = .ok (.putfield 40, 3) := by decide +kernel
theorem dX5_init_111 : decode cX5_init 111 = .ok (.aload_n 0, 1) := by decide +kernel
theorem dX5_init_112 : decode cX5_init 112 = .ok (.bipush 8, 2) := by decide +kernel
theorem dX5_init_114 : decode cX5_init 114 = .ok (.newarray .boolean, 2) := by decide +kernel
theorem dX5_init_116 : decode cX5_init 116 = .ok (.putfield 43, 3) := by decide +kernel
theorem dX5_init_119 : decode cX5_init 119 = .ok (.return_, 1) := by decide +kernel
theorem dX5_fails_0 : decode cX5_fails 0 = .ok (.aload_n 0, 1) := by decide +kernel
theorem dX5_fails_1 : decode cX5_fails 1 = .ok (.iload_n 1, 1) := by decide +kernel
theorem dX5_fails_2 : decode cX5_fails 2 = .ok (.putfield 47, 3) := by decide +kernel
theorem dX5_fails_5 : decode cX5_fails 5 = .ok (.bipush (-10), 2) := by decide +kernel
theorem dX5_fails_7 : decode cX5_fails 7 = .ok (.iload_n 1, 1) := by decide +kernel
theorem dX5_fails_8 : decode cX5_fails 8 = .ok (.isub, 1) := by decide +kernel
theorem dX5_fails_9 : decode cX5_fails 9 = .ok (.ireturn, 1) := by decide +kernel
theorem dX5_lost_0 : decode cX5_lost 0 = .ok (.aload_n 0, 1) := by decide +kernel
theorem dX5_lost_1 : decode cX5_lost 1 = .ok (.iload_n 1, 1) := by decide +kernel
theorem dX5_lost_2 : decode cX5_lost 2 = .ok (.putfield 47, 3) := by decide +kernel
theorem dX5_lost_5 : decode cX5_lost 5 = .ok (.ldc2_w 51, 3) := by decide +kernel
theorem dX5_lost_8 : decode cX5_lost 8 = .ok (.lreturn, 1) := by decide +kernel
theorem dX5_within_0 : decode cX5_within 0 = .ok (.iload_n 0, 1) := by decide +kernel
theorem dX5_within_1 : decode cX5_within 1 = .ok (.iload_n 1, 1) := by decide +kernel
theorem dX5_within_2 : decode cX5_within 2 = .ok (.if_icmp .lt 12, 3) := by decide +kernel
theorem dX5_within_5 : decode cX5_within 5 = .ok (.iload_n 0, 1) := by decide +kernel
theorem dX5_within_6 : decode cX5_within 6 = .ok (.iload_n 2, 1) := by decide +kernel
theorem dX5_within_7 : decode cX5_within 7 = .ok (.if_icmp .gt 7, 3) := by decide +kernel
theorem dX5_within_10 : decode cX5_within 10 = .ok (.iconst 1, 1) := by decide +kernel
theorem dX5_within_11 : decode cX5_within 11 = .ok (.goto 4, 3) := by decide +kernel
theorem dX5_within_14 : decode cX5_within 14 = .ok (.iconst 0, 1) := by decide +kernel
theorem dX5_within_15 : decode cX5_within 15 = .ok (.ireturn, 1) := by decide +kernel
set_option maxRecDepth 20000 in
theorem ggX5_isSheet_X5_within : GoodIn wsX5_isSheet wsX5_within := goodIn_r _ [4] (by decide +kernel) (by decide +kernel)
set_option maxRecDepth 20000 in
theorem gX5_isSheet_X5_within : GoodIn wsX5_isSheet (va_wsS RX5 53 yX5_within wsX5_within) := goodIn_app (goodIn_of _ (by decide +kernel)) ggX5_isSheet_X5_within
theorem dX5_isSheet_0 : decode cX5_isSheet 0 = .ok (.iload_n 0, 1) := by decide +kernel
theorem dX5_isSheet_1 : decode cX5_isSheet 1 = .ok (.iconst 0, 1) := by decide +kernel
theorem dX5_isSheet_2 : decode cX5_isSheet 2 = .ok (.iconst 3, 1) := by decide +kernel
theorem dX5_isSheet_3 : decode cX5_isSheet 3 = .ok (.invokestatic 53, 3) := by decide +kernel
theorem dX5_isSheet_6 : decode cX5_isSheet 6 = .ok (.ireturn, 1) := by decide +kernel
set_option maxRecDepth 20000 in
theorem ggX5_isSort_X5_within : GoodIn wsX5_isSort wsX5_within := goodIn_r _ [4] (by decide +kernel) (by decide +kernel)
set_option maxRecDepth 20000 in
theorem gX5_isSort_X5_within : GoodIn wsX5_isSort (va_wsS RX5 53 yX5_within wsX5_within) := goodIn_app (goodIn_of _ (by decide +kernel)) ggX5_isSort_X5_within
theorem dX5_isSort_0 : decode cX5_isSort 0 = .ok (.iload_n 0, 1) := by decide +kernel
theorem dX5_isSort_1 : decode cX5_isSort 1 = .ok (.iconst 0, 1) := by decide +kernel
theorem dX5_isSort_2 : decode cX5_isSort 2 = .ok (.iconst 2, 1) := by decide +kernel
theorem dX5_isSort_3 : decode cX5_isSort 3 = .ok (.invokestatic 53, 3) := by decide +kernel
theorem dX5_isSort_6 : decode cX5_isSort 6 = .ok (.ireturn, 1) := by decide +kernel
theorem dX5_against_0 : decode cX5_against 0 = .ok (.aload_n 0, 1) := by decide +kernel
theorem dX5_against_1 : decode cX5_against 1 = .ok (.getfield 9, 3) := by decide +kernel
theorem dX5_against_4 : decode cX5_against 4 = .ok (.iload_n 1, 1) := by decide +kernel
theorem dX5_against_5 : decode cX5_against 5 = .ok (.iaload, 1) := by decide +kernel
theorem dX5_against_6 : decode cX5_against 6 = .ok (.bipush (-9), 2) := by decide +kernel
theorem dX5_against_8 : decode cX5_against 8 = .ok (.if_icmp .eq 15, 3) := by decide +kernel
theorem dX5_against_11 : decode cX5_against 11 = .ok (.aload_n 0, 1) := by decide +kernel
theorem dX5_against_12 : decode cX5_against 12 = .ok (.getfield 9, 3) := by decide +kernel
theorem dX5_against_15 : decode cX5_against 15 = .ok (.iload_n 1, 1) := by decide +kernel
theorem dX5_against_16 : decode cX5_against 16 = .ok (.iaload, 1) := by decide +kernel
theorem dX5_against_17 : decode cX5_against 17 = .ok (.iload_n 2, 1) := by decide +kernel
theorem dX5_against_18 : decode cX5_against 18 = .ok (.if_icmp .eq 5, 3) := by decide +kernel
theorem dX5_against_21 : decode cX5_against 21 = .ok (.iconst 2, 1) := by decide +kernel
theorem dX5_against_22 : decode cX5_against 22 = .ok (.ireturn, 1) := by decide +kernel
theorem dX5_against_23 : decode cX5_against 23 = .ok (.aload_n 0, 1) := by decide +kernel
theorem dX5_against_24 : decode cX5_against 24 = .ok (.getfield 9, 3) := by decide +kernel
theorem dX5_against_27 : decode cX5_against 27 = .ok (.iload_n 1, 1) := by decide +kernel
theorem dX5_against_28 : decode cX5_against 28 = .ok (.iaload, 1) := by decide +kernel
theorem dX5_against_29 : decode cX5_against 29 = .ok (.bipush (-9), 2) := by decide +kernel
theorem dX5_against_31 : decode cX5_against 31 = .ok (.if_icmp .ne 5, 3) := by decide +kernel
theorem dX5_against_34 : decode cX5_against 34 = .ok (.iconst 1, 1) := by decide +kernel
theorem dX5_against_35 : decode cX5_against 35 = .ok (.ireturn, 1) := by decide +kernel
theorem dX5_against_36 : decode cX5_against 36 = .ok (.iload 4, 2) := by decide +kernel
theorem dX5_against_38 : decode cX5_against 38 = .ok (.ifCond .ge 5, 3) := by decide +kernel
theorem dX5_against_41 : decode cX5_against 41 = .ok (.iconst 4, 1) := by decide +kernel
theorem dX5_against_42 : decode cX5_against 42 = .ok (.ireturn, 1) := by decide +kernel
theorem dX5_against_43 : decode cX5_against 43 = .ok (.iload_n 3, 1) := by decide +kernel
theorem dX5_against_44 : decode cX5_against 44 = .ok (.ifCond .lt 26, 3) := by decide +kernel
theorem dX5_against_47 : decode cX5_against 47 = .ok (.iload_n 3, 1) := by decide +kernel
theorem dX5_against_48 : decode cX5_against 48 = .ok (.aload_n 0, 1) := by decide +kernel
theorem dX5_against_49 : decode cX5_against 49 = .ok (.getfield 13, 3) := by decide +kernel
theorem dX5_against_52 : decode cX5_against 52 = .ok (.iload_n 1, 1) := by decide +kernel
theorem dX5_against_53 : decode cX5_against 53 = .ok (.iaload, 1) := by decide +kernel
theorem dX5_against_54 : decode cX5_against 54 = .ok (.if_icmp .gt 16, 3) := by decide +kernel
theorem dX5_against_57 : decode cX5_against 57 = .ok (.iload 4, 2) := by decide +kernel
theorem dX5_against_59 : decode cX5_against 59 = .ok (.aload_n 0, 1) := by decide +kernel
theorem dX5_against_60 : decode cX5_against 60 = .ok (.getfield 13, 3) := by decide +kernel
theorem dX5_against_63 : decode cX5_against 63 = .ok (.iload_n 1, 1) := by decide +kernel
theorem dX5_against_64 : decode cX5_against 64 = .ok (.iaload, 1) := by decide +kernel
theorem dX5_against_65 : decode cX5_against 65 = .ok (.iload_n 3, 1) := by decide +kernel
theorem dX5_against_66 : decode cX5_against 66 = .ok (.isub, 1) := by decide +kernel
theorem dX5_against_67 : decode cX5_against 67 = .ok (.if_icmp .le 7, 3) := by decide +kernel
theorem dX5_against_70 : decode cX5_against 70 = .ok (.iconst 3, 1) := by decide +kernel
theorem dX5_against_71 : decode cX5_against 71 = .ok (.goto 4, 3) := by decide +kernel
theorem dX5_against_74 : decode cX5_against 74 = .ok (.iconst 0, 1) := by decide +kernel
theorem dX5_against_75 : decode cX5_against 75 = .ok (.ireturn, 1) := by decide +kernel
theorem dX5_isPass_0 : decode cX5_isPass 0 = .ok (.iload_n 1, 1) := by decide +kernel
theorem dX5_isPass_1 : decode cX5_isPass 1 = .ok (.ifCond .lt 15, 3) := by decide +kernel
theorem dX5_isPass_4 : decode cX5_isPass 4 = .ok (.iload_n 1, 1) := by decide +kernel
theorem dX5_isPass_5 : decode cX5_isPass 5 = .ok (.aload_n 0, 1) := by decide +kernel
theorem dX5_isPass_6 : decode cX5_isPass 6 = .ok (.getfield 57, 3) := by decide +kernel
theorem dX5_isPass_9 : decode cX5_isPass 9 = .ok (.if_icmp .ge 7, 3) := by decide +kernel
theorem dX5_isPass_12 : decode cX5_isPass 12 = .ok (.iconst 1, 1) := by decide +kernel
theorem dX5_isPass_13 : decode cX5_isPass 13 = .ok (.goto 4, 3) := by decide +kernel
theorem dX5_isPass_16 : decode cX5_isPass 16 = .ok (.iconst 0, 1) := by decide +kernel
theorem dX5_isPass_17 : decode cX5_isPass 17 = .ok (.ireturn, 1) := by decide +kernel
theorem dX5_isSet_0 : decode cX5_isSet 0 = .ok (.iload_n 1, 1) := by decide +kernel
theorem dX5_isSet_1 : decode cX5_isSet 1 = .ok (.ifCond .lt 17, 3) := by decide +kernel
theorem dX5_isSet_4 : decode cX5_isSet 4 = .ok (.iload_n 1, 1) := by decide +kernel
theorem dX5_isSet_5 : decode cX5_isSet 5 = .ok (.iconst 1, 1) := by decide +kernel
theorem dX5_isSet_6 : decode cX5_isSet 6 = .ok (.aload_n 0, 1) := by decide +kernel
theorem dX5_isSet_7 : decode cX5_isSet 7 = .ok (.getfield 57, 3) := by decide +kernel
theorem dX5_isSet_10 : decode cX5_isSet 10 = .ok (.ishl, 1) := by decide +kernel
theorem dX5_isSet_11 : decode cX5_isSet 11 = .ok (.if_icmp .ge 7, 3) := by decide +kernel
theorem dX5_isSet_14 : decode cX5_isSet 14 = .ok (.iconst 1, 1) := by decide +kernel
theorem dX5_isSet_15 : decode cX5_isSet 15 = .ok (.goto 4, 3) := by decide +kernel
theorem dX5_isSet_18 : decode cX5_isSet 18 = .ok (.iconst 0, 1) := by decide +kernel
theorem dX5_isSet_19 : decode cX5_isSet 19 = .ok (.ireturn, 1) := by decide +kernel
set_option maxRecDepth 20000 in
theorem ggX5_isDigit_X5_within : GoodIn wsX5_isDigit wsX5_within := goodIn_r _ [4] (by decide +kernel) (by decide +kernel)
set_option maxRecDepth 20000 in
theorem gX5_isDigit_X5_within : GoodIn wsX5_isDigit (va_wsS RX5 53 yX5_within wsX5_within) := goodIn_app (goodIn_of _ (by decide +kernel)) ggX5_isDigit_X5_within
theorem dX5_isDigit_0 : decode cX5_isDigit 0 = .ok (.iload_n 0, 1) := by decide +kernel
theorem dX5_isDigit_1 : decode cX5_isDigit 1 = .ok (.iconst 0, 1) := by decide +kernel
theorem dX5_isDigit_2 : decode cX5_isDigit 2 = .ok (.bipush 9, 2) := by decide +kernel
theorem dX5_isDigit_4 : decode cX5_isDigit 4 = .ok (.invokestatic 53, 3) := by decide +kernel
theorem dX5_isDigit_7 : decode cX5_isDigit 7 = .ok (.ireturn, 1) := by decide +kernel
set_option maxRecDepth 20000 in
theorem ggX5_isPlace_X5_within : GoodIn wsX5_isPlace wsX5_within := goodIn_r _ [4] (by decide +kernel) (by decide +kernel)
set_option maxRecDepth 20000 in
theorem gX5_isPlace_X5_within : GoodIn wsX5_isPlace (va_wsS RX5 53 yX5_within wsX5_within) := goodIn_app (goodIn_of _ (by decide +kernel)) ggX5_isPlace_X5_within
theorem dX5_isPlace_0 : decode cX5_isPlace 0 = .ok (.iload_n 0, 1) := by decide +kernel
theorem dX5_isPlace_1 : decode cX5_isPlace 1 = .ok (.iconst 0, 1) := by decide +kernel
theorem dX5_isPlace_2 : decode cX5_isPlace 2 = .ok (.iconst 2, 1) := by decide +kernel
theorem dX5_isPlace_3 : decode cX5_isPlace 3 = .ok (.invokestatic 53, 3) := by decide +kernel
theorem dX5_isPlace_6 : decode cX5_isPlace 6 = .ok (.ireturn, 1) := by decide +kernel
set_option maxRecDepth 20000 in
theorem ggX5_digit_X5_within : GoodIn wsX5_digit wsX5_within := goodIn_r _ [6] (by decide +kernel) (by decide +kernel)
set_option maxRecDepth 20000 in
theorem gX5_digit_X5_within : GoodIn wsX5_digit (va_wsS RX5 53 yX5_within wsX5_within) := goodIn_app (goodIn_of _ (by decide +kernel)) ggX5_digit_X5_within
theorem dX5_digit_0 : decode cX5_digit 0 = .ok (.aload_n 0, 1) := by decide +kernel
theorem dX5_digit_1 : decode cX5_digit 1 = .ok (.getfield 60, 3) := by decide +kernel
theorem dX5_digit_4 : decode cX5_digit 4 = .ok (.iload_n 1, 1) := by decide +kernel
theorem dX5_digit_5 : decode cX5_digit 5 = .ok (.if_icmp .ge 22, 3) := by decide +kernel
theorem dX5_digit_8 : decode cX5_digit 8 = .ok (.aload_n 0, 1) := by decide +kernel
theorem dX5_digit_9 : decode cX5_digit 9 = .ok (.getfield 16, 3) := by decide +kernel
theorem dX5_digit_12 : decode cX5_digit 12 = .ok (.aload_n 0, 1) := by decide +kernel
theorem dX5_digit_13 : decode cX5_digit 13 = .ok (.getfield 60, 3) := by decide +kernel
theorem dX5_digit_16 : decode cX5_digit 16 = .ok (.iaload, 1) := by decide +kernel
theorem dX5_digit_17 : decode cX5_digit 17 = .ok (.bipush 48, 2) := by decide +kernel
theorem dX5_digit_19 : decode cX5_digit 19 = .ok (.bipush 57, 2) := by decide +kernel
theorem dX5_digit_21 : decode cX5_digit 21 = .ok (.invokestatic 53, 3) := by decide +kernel
theorem dX5_digit_24 : decode cX5_digit 24 = .ok (.ifCond .ne 6, 3) := by decide +kernel
theorem dX5_digit_27 : decode cX5_digit 27 = .ok (.bipush (-9), 2) := by decide +kernel
theorem dX5_digit_29 : decode cX5_digit 29 = .ok (.ireturn, 1) := by decide +kernel
theorem dX5_digit_30 : decode cX5_digit 30 = .ok (.aload_n 0, 1) := by decide +kernel
theorem dX5_digit_31 : decode cX5_digit 31 = .ok (.dup, 1) := by decide +kernel
theorem dX5_digit_32 : decode cX5_digit 32 = .ok (.getfield 60, 3) := by decide +kernel
theorem dX5_digit_35 : decode cX5_digit 35 = .ok (.iconst 1, 1) := by decide +kernel
theorem dX5_digit_36 : decode cX5_digit 36 = .ok (.iadd, 1) := by decide +kernel
theorem dX5_digit_37 : decode cX5_digit 37 = .ok (.putfield 60, 3) := by decide +kernel
theorem dX5_digit_40 : decode cX5_digit 40 = .ok (.aload_n 0, 1) := by decide +kernel
theorem dX5_digit_41 : decode cX5_digit 41 = .ok (.getfield 16, 3) := by decide +kernel
theorem dX5_digit_44 : decode cX5_digit 44 = .ok (.aload_n 0, 1) := by decide +kernel
theorem dX5_digit_45 : decode cX5_digit 45 = .ok (.getfield 60, 3) := by decide +kernel
theorem dX5_digit_48 : decode cX5_digit 48 = .ok (.iconst 1, 1) := by decide +kernel
theorem dX5_digit_49 : decode cX5_digit 49 = .ok (.isub, 1) := by decide +kernel
theorem dX5_digit_50 : decode cX5_digit 50 = .ok (.iaload, 1) := by decide +kernel
theorem dX5_digit_51 : decode cX5_digit 51 = .ok (.bipush 48, 2) := by decide +kernel
theorem dX5_digit_53 : decode cX5_digit 53 = .ok (.isub, 1) := by decide +kernel
theorem dX5_digit_54 : decode cX5_digit 54 = .ok (.ireturn, 1) := by decide +kernel
theorem dX5_isSign_0 : decode cX5_isSign 0 = .ok (.aload_n 0, 1) := by decide +kernel
theorem dX5_isSign_1 : decode cX5_isSign 1 = .ok (.getfield 60, 3) := by decide +kernel
theorem dX5_isSign_4 : decode cX5_isSign 4 = .ok (.iload_n 1, 1) := by decide +kernel
theorem dX5_isSign_5 : decode cX5_isSign 5 = .ok (.if_icmp .ge 16, 3) := by decide +kernel
theorem dX5_isSign_8 : decode cX5_isSign 8 = .ok (.aload_n 0, 1) := by decide +kernel
theorem dX5_isSign_9 : decode cX5_isSign 9 = .ok (.getfield 16, 3) := by decide +kernel
theorem dX5_isSign_12 : decode cX5_isSign 12 = .ok (.aload_n 0, 1) := by decide +kernel
theorem dX5_isSign_13 : decode cX5_isSign 13 = .ok (.getfield 60, 3) := by decide +kernel
theorem dX5_isSign_16 : decode cX5_isSign 16 = .ok (.iaload, 1) := by decide +kernel
theorem dX5_isSign_17 : decode cX5_isSign 17 = .ok (.iload_n 2, 1) := by decide +kernel
theorem dX5_isSign_18 : decode cX5_isSign 18 = .ok (.if_icmp .eq 5, 3) := by decide +kernel
theorem dX5_isSign_21 : decode cX5_isSign 21 = .ok (.iconst 0, 1) := by decide +kernel
theorem dX5_isSign_22 : decode cX5_isSign 22 = .ok (.ireturn, 1) := by decide +kernel
theorem dX5_isSign_23 : decode cX5_isSign 23 = .ok (.aload_n 0, 1) := by decide +kernel
theorem dX5_isSign_24 : decode cX5_isSign 24 = .ok (.dup, 1) := by decide +kernel
theorem dX5_isSign_25 : decode cX5_isSign 25 = .ok (.getfield 60, 3) := by decide +kernel
theorem dX5_isSign_28 : decode cX5_isSign 28 = .ok (.iconst 1, 1) := by decide +kernel
theorem dX5_isSign_29 : decode cX5_isSign 29 = .ok (.iadd, 1) := by decide +kernel
theorem dX5_isSign_30 : decode cX5_isSign 30 = .ok (.putfield 60, 3) := by decide +kernel
theorem dX5_isSign_33 : decode cX5_isSign 33 = .ok (.iconst 1, 1) := by decide +kernel
theorem dX5_isSign_34 : decode cX5_isSign 34 = .ok (.ireturn, 1) := by decide +kernel
set_option maxRecDepth 20000 in
theorem ggX5_coast_X5_isSheet : GoodIn wsX5_coast wsX5_isSheet := goodIn_r _ [15, 16, 17, 14, 18] (by decide +kernel) (by decide +kernel)
set_option maxRecDepth 20000 in
theorem gX5_coast_X5_isSheet : GoodIn wsX5_coast (va_wsS RX5 63 yX5_isSheet wsX5_isSheet) := goodIn_app (goodIn_of _ (by decide +kernel)) ggX5_coast_X5_isSheet
set_option maxRecDepth 20000 in
theorem ggX5_coast_X5_isSort : GoodIn wsX5_coast wsX5_isSort := goodIn_r _ [21, 16, 17, 14, 18] (by decide +kernel) (by decide +kernel)
set_option maxRecDepth 20000 in
theorem gX5_coast_X5_isSort : GoodIn wsX5_coast (va_wsS RX5 67 yX5_isSort wsX5_isSort) := goodIn_app (goodIn_of _ (by decide +kernel)) ggX5_coast_X5_isSort
set_option maxRecDepth 20000 in
theorem ggX5_coast_X5_against : GoodIn wsX5_coast wsX5_against := goodIn_r _ [25, 26, 27, 49, 50, 51, 52, 53, 54, 55, 56, 57, 58, 59, 60, 61, 62, 63, 64, 65, 66, 67, 68, 69, 70, 71] (by decide +kernel) (by decide +kernel)
set_option maxRecDepth 20000 in
theorem gX5_coast_X5_against : GoodIn wsX5_coast (wsV RX5 70 RX5 yX5_against wsX5_against) := goodIn_app (goodIn_of _ (by decide +kernel)) ggX5_coast_X5_against
set_option maxRecDepth 20000 in
theorem ggX5_coast_X5_fails : GoodIn wsX5_coast wsX5_fails := goodIn_r _ [31, 1, 49, 50, 51, 52, 53, 54, 55, 56, 57, 58, 59, 60, 61, 62, 63, 64, 65, 66, 67, 68, 69, 70, 71] (by decide +kernel) (by decide +kernel)
set_option maxRecDepth 20000 in
theorem gX5_coast_X5_fails : GoodIn wsX5_coast (wsV RX5 74 RX5 yX5_fails wsX5_fails) := goodIn_app (goodIn_of _ (by decide +kernel)) ggX5_coast_X5_fails
set_option maxRecDepth 20000 in
theorem ggX5_coast_X5_readCoast : GoodIn wsX5_coast wsX5_readCoast := goodIn_r _ [35, 5, 3, 2, 36, 37, 38, 14, 39, 40, 41, 42, 43, 44, 16, 17, 18, 45, 46, 47, 48, 8, 10, 49, 50, 51, 52, 53, 54, 55, 56, 57, 58, 59, 60, 61, 62, 63, 64, 65, 66, 67, 68, 69, 70, 71] (by decide +kernel) (by decide +kernel)
set_option maxRecDepth 20000 in
theorem gX5_coast_X5_readCoast : GoodIn wsX5_coast (wsV RX5 78 RX5 yX5_readCoast wsX5_readCoast) := goodIn_app (goodIn_of _ (by decide +kernel)) ggX5_coast_X5_readCoast
theorem dX5_coast_0 : decode cX5_coast 0 = .ok (.aload_n 0, 1) := by decide +kernel
theorem dX5_coast_1 : decode cX5_coast 1 = .ok (.iconst 0, 1) := by decide +kernel
theorem dX5_coast_2 : decode cX5_coast 2 = .ok (.putfield 47, 3) := by decide +kernel
theorem dX5_coast_5 : decode cX5_coast 5 = .ok (.iload_n 1, 1) := by decide +kernel
theorem dX5_coast_6 : decode cX5_coast 6 = .ok (.invokestatic 63, 3) := by decide +kernel
theorem dX5_coast_9 : decode cX5_coast 9 = .ok (.ifCond .ne 5, 3) := by decide +kernel
theorem dX5_coast_12 : decode cX5_coast 12 = .ok (.iconst (-1), 1) := by decide +kernel
theorem dX5_coast_13 : decode cX5_coast 13 = .ok (.ireturn, 1) := by decide +kernel
theorem dX5_coast_14 : decode cX5_coast 14 = .ok (.iload_n 2, 1) := by decide +kernel
theorem dX5_coast_15 : decode cX5_coast 15 = .ok (.invokestatic 67, 3) := by decide +kernel
theorem dX5_coast_18 : decode cX5_coast 18 = .ok (.ifCond .ne 6, 3) := by decide +kernel
theorem dX5_coast_21 : decode cX5_coast 21 = .ok (.bipush (-2), 2) := by decide +kernel
theorem dX5_coast_23 : decode cX5_coast 23 = .ok (.ireturn, 1) := by decide +kernel
theorem dX5_coast_24 : decode cX5_coast 24 = .ok (.aload_n 0, 1) := by decide +kernel
theorem dX5_coast_25 : decode cX5_coast 25 = .ok (.iload_n 1, 1) := by decide +kernel
theorem dX5_coast_26 : decode cX5_coast 26 = .ok (.iload_n 2, 1) := by decide +kernel
theorem dX5_coast_27 : decode cX5_coast 27 = .ok (.iload_n 3, 1) := by decide +kernel
theorem dX5_coast_28 : decode cX5_coast 28 = .ok (.iload 4, 2) := by decide +kernel
theorem dX5_coast_30 : decode cX5_coast 30 = .ok (.invokevirtual 70, 3) := by decide +kernel
theorem dX5_coast_33 : decode cX5_coast 33 = .ok (.istore 5, 2) := by decide +kernel
theorem dX5_coast_35 : decode cX5_coast 35 = .ok (.iload 5, 2) := by decide +kernel
theorem dX5_coast_37 : decode cX5_coast 37 = .ok (.ifCond .eq 10, 3) := by decide +kernel
theorem dX5_coast_40 : decode cX5_coast 40 = .ok (.aload_n 0, 1) := by decide +kernel
theorem dX5_coast_41 : decode cX5_coast 41 = .ok (.iload 5, 2) := by decide +kernel
theorem dX5_coast_43 : decode cX5_coast 43 = .ok (.invokevirtual 74, 3) := by decide +kernel
theorem dX5_coast_46 : decode cX5_coast 46 = .ok (.ireturn, 1) := by decide +kernel
theorem dX5_coast_47 : decode cX5_coast 47 = .ok (.bipush 60, 2) := by decide +kernel
theorem dX5_coast_49 : decode cX5_coast 49 = .ok (.iload_n 1, 1) := by decide +kernel
theorem dX5_coast_50 : decode cX5_coast 50 = .ok (.imul, 1) := by decide +kernel
theorem dX5_coast_51 : decode cX5_coast 51 = .ok (.iload_n 3, 1) := by decide +kernel
theorem dX5_coast_52 : decode cX5_coast 52 = .ok (.iadd, 1) := by decide +kernel
theorem dX5_coast_53 : decode cX5_coast 53 = .ok (.istore 6, 2) := by decide +kernel
theorem dX5_coast_55 : decode cX5_coast 55 = .ok (.aload_n 0, 1) := by decide +kernel
theorem dX5_coast_56 : decode cX5_coast 56 = .ok (.iload 6, 2) := by decide +kernel
theorem dX5_coast_58 : decode cX5_coast 58 = .ok (.putfield 60, 3) := by decide +kernel
theorem dX5_coast_61 : decode cX5_coast 61 = .ok (.aload_n 0, 1) := by decide +kernel
theorem dX5_coast_62 : decode cX5_coast 62 = .ok (.iload 6, 2) := by decide +kernel
theorem dX5_coast_64 : decode cX5_coast 64 = .ok (.iload 4, 2) := by decide +kernel
theorem dX5_coast_66 : decode cX5_coast 66 = .ok (.iadd, 1) := by decide +kernel
theorem dX5_coast_67 : decode cX5_coast 67 = .ok (.invokevirtual 78, 3) := by decide +kernel
theorem dX5_coast_70 : decode cX5_coast 70 = .ok (.ifCond .ne 14, 3) := by decide +kernel
theorem dX5_coast_73 : decode cX5_coast 73 = .ok (.bipush (-100), 2) := by decide +kernel
theorem dX5_coast_75 : decode cX5_coast 75 = .ok (.aload_n 0, 1) := by decide +kernel
theorem dX5_coast_76 : decode cX5_coast 76 = .ok (.getfield 60, 3) := by decide +kernel
theorem dX5_coast_79 : decode cX5_coast 79 = .ok (.iload 6, 2) := by decide +kernel
theorem dX5_coast_81 : decode cX5_coast 81 = .ok (.isub, 1) := by decide +kernel
theorem dX5_coast_82 : decode cX5_coast 82 = .ok (.isub, 1) := by decide +kernel
theorem dX5_coast_83 : decode cX5_coast 83 = .ok (.ireturn, 1) := by decide +kernel
theorem dX5_coast_84 : decode cX5_coast 84 = .ok (.aload_n 0, 1) := by decide +kernel
theorem dX5_coast_85 : decode cX5_coast 85 = .ok (.aload_n 0, 1) := by decide +kernel
theorem dX5_coast_86 : decode cX5_coast 86 = .ok (.getfield 81, 3) := by decide +kernel
theorem dX5_coast_89 : decode cX5_coast 89 = .ok (.putfield 84, 3) := by decide +kernel
theorem dX5_coast_92 : decode cX5_coast 92 = .ok (.aload_n 0, 1) := by decide +kernel
theorem dX5_coast_93 : decode cX5_coast 93 = .ok (.aload_n 0, 1) := by decide +kernel
theorem dX5_coast_94 : decode cX5_coast 94 = .ok (.getfield 87, 3) := by decide +kernel
theorem dX5_coast_97 : decode cX5_coast 97 = .ok (.putfield 57, 3) := by decide +kernel
theorem dX5_coast_100 : decode cX5_coast 100 = .ok (.iconst 0, 1) := by decide +kernel
theorem dX5_coast_101 : decode cX5_coast 101 = .ok (.istore 7, 2) := by decide +kernel
theorem dX5_coast_103 : decode cX5_coast 103 = .ok (.iload 7, 2) := by decide +kernel
theorem dX5_coast_105 : decode cX5_coast 105 = .ok (.aload_n 0, 1) := by decide +kernel
theorem dX5_coast_106 : decode cX5_coast 106 = .ok (.getfield 57, 3) := by decide +kernel
theorem dX5_coast_109 : decode cX5_coast 109 = .ok (.if_icmp .ge 62, 3) := by decide +kernel
theorem dX5_coast_112 : decode cX5_coast 112 = .ok (.aload_n 0, 1) := by decide +kernel
theorem dX5_coast_113 : decode cX5_coast 113 = .ok (.getfield 19, 3) := by decide +kernel
theorem dX5_coast_116 : decode cX5_coast 116 = .ok (.iload 7, 2) := by decide +kernel
theorem dX5_coast_118 : decode cX5_coast 118 = .ok (.aload_n 0, 1) := by decide +kernel
theorem dX5_coast_119 : decode cX5_coast 119 = .ok (.getfield 25, 3) := by decide +kernel
theorem dX5_coast_122 : decode cX5_coast 122 = .ok (.iload 7, 2) := by decide +kernel
theorem dX5_coast_124 : decode cX5_coast 124 = .ok (.iaload, 1) := by decide +kernel
theorem dX5_coast_125 : decode cX5_coast 125 = .ok (.iastore, 1) := by decide +kernel
theorem dX5_coast_126 : decode cX5_coast 126 = .ok (.iconst 0, 1) := by decide +kernel
theorem dX5_coast_127 : decode cX5_coast 127 = .ok (.istore 8, 2) := by decide +kernel
theorem dX5_coast_129 : decode cX5_coast 129 = .ok (.iload 8, 2) := by decide +kernel
theorem dX5_coast_131 : decode cX5_coast 131 = .ok (.iconst 3, 1) := by decide +kernel
theorem dX5_coast_132 : decode cX5_coast 132 = .ok (.if_icmp .ge 33, 3) := by decide +kernel
theorem dX5_coast_135 : decode cX5_coast 135 = .ok (.aload_n 0, 1) := by decide +kernel
theorem dX5_coast_136 : decode cX5_coast 136 = .ok (.getfield 22, 3) := by decide +kernel
theorem dX5_coast_139 : decode cX5_coast 139 = .ok (.iconst 3, 1) := by decide +kernel
theorem dX5_coast_140 : decode cX5_coast 140 = .ok (.iload 7, 2) := by decide +kernel
theorem dX5_coast_142 : decode cX5_coast 142 = .ok (.imul, 1) := by decide +kernel
theorem dX5_coast_143 : decode cX5_coast 143 = .ok (.iload 8, 2) := by decide +kernel
theorem dX5_coast_145 : decode cX5_coast 145 = .ok (.iadd, 1) := by decide +kernel
theorem dX5_coast_146 : decode cX5_coast 146 = .ok (.aload_n 0, 1) := by decide +kernel
theorem dX5_coast_147 : decode cX5_coast 147 = .ok (.getfield 28, 3) := by decide +kernel
theorem dX5_coast_150 : decode cX5_coast 150 = .ok (.iconst 3, 1) := by decide +kernel
theorem dX5_coast_151 : decode cX5_coast 151 = .ok (.iload 7, 2) := by decide +kernel
theorem dX5_coast_153 : decode cX5_coast 153 = .ok (.imul, 1) := by decide +kernel
theorem dX5_coast_154 : decode cX5_coast 154 = .ok (.iload 8, 2) := by decide +kernel
theorem dX5_coast_156 : decode cX5_coast 156 = .ok (.iadd, 1) := by decide +kernel
theorem dX5_coast_157 : decode cX5_coast 157 = .ok (.iaload, 1) := by decide +kernel
theorem dX5_coast_158 : decode cX5_coast 158 = .ok (.iastore, 1) := by decide +kernel
theorem dX5_coast_159 : decode cX5_coast 159 = .ok (.iinc 8 1, 3) := by decide +kernel
theorem dX5_coast_162 : decode cX5_coast 162 = .ok (.goto (-33), 3) := by decide +kernel
theorem dX5_coast_165 : decode cX5_coast 165 = .ok (.iinc 7 1, 3) := by decide +kernel
theorem dX5_coast_168 : decode cX5_coast 168 = .ok (.goto (-65), 3) := by decide +kernel
theorem dX5_coast_171 : decode cX5_coast 171 = .ok (.aload_n 0, 1) := by decide +kernel
theorem dX5_coast_172 : decode cX5_coast 172 = .ok (.iconst 0, 1) := by decide +kernel
theorem dX5_coast_173 : decode cX5_coast 173 = .ok (.putfield 90, 3) := by decide +kernel
theorem dX5_coast_176 : decode cX5_coast 176 = .ok (.aload_n 0, 1) := by decide +kernel
theorem dX5_coast_177 : decode cX5_coast 177 = .ok (.getfield 57, 3) := by decide +kernel
theorem dX5_coast_180 : decode cX5_coast 180 = .ok (.ireturn, 1) := by decide +kernel
set_option maxRecDepth 20000 in
theorem ggX5_readCoast_X5_isSign : GoodIn wsX5_readCoast wsX5_isSign := goodIn_r _ [8, 3, 9, 23, 24, 25, 26, 27, 28, 29, 30, 31, 32, 33, 34, 35, 36, 37, 38, 39, 40, 41, 42, 43, 44, 45] (by decide +kernel) (by decide +kernel)
set_option maxRecDepth 20000 in
theorem gX5_readCoast_X5_isSign : GoodIn wsX5_readCoast (wsV RX5 93 RX5 yX5_isSign wsX5_isSign) := goodIn_app (goodIn_of _ (by decide +kernel)) ggX5_readCoast_X5_isSign
set_option maxRecDepth 20000 in
theorem ggX5_readCoast_X5_digit : GoodIn wsX5_readCoast wsX5_digit := goodIn_r _ [13, 3, 9, 14, 15, 7, 16, 23, 24, 25, 26, 27, 28, 29, 30, 31, 32, 33, 34, 35, 36, 37, 38, 39, 40, 41, 42, 43, 44, 45] (by decide +kernel) (by decide +kernel)
set_option maxRecDepth 20000 in
theorem gX5_readCoast_X5_digit : GoodIn wsX5_readCoast (wsV RX5 97 RX5 yX5_digit wsX5_digit) := goodIn_app (goodIn_of _ (by decide +kernel)) ggX5_readCoast_X5_digit
set_option maxRecDepth 20000 in
theorem ggX5_readCoast_X5_readPass : GoodIn wsX5_readCoast wsX5_readPass := goodIn_r _ [20, 3, 9, 21, 1, 22, 10, 11, 12, 7, 13, 14, 15, 16, 23, 24, 25, 26, 27, 28, 29, 30, 31, 32, 33, 34, 35, 36, 37, 38, 39, 40, 41, 42, 43, 44, 45] (by decide +kernel) (by decide +kernel)
set_option maxRecDepth 20000 in
theorem gX5_readCoast_X5_readPass : GoodIn wsX5_readCoast (wsV RX5 100 RX5 yX5_readPass wsX5_readPass) := goodIn_app (goodIn_of _ (by decide +kernel)) ggX5_readCoast_X5_readPass
theorem dX5_readCoast_0 : decode cX5_readCoast 0 = .ok (.aload_n 0, 1) := by decide +kernel
theorem dX5_readCoast_1 : decode cX5_readCoast 1 = .ok (.iconst 0, 1) := by decide +kernel
theorem dX5_readCoast_2 : decode cX5_readCoast 2 = .ok (.putfield 87, 3) := by decide +kernel
theorem dX5_readCoast_5 : decode cX5_readCoast 5 = .ok (.aload_n 0, 1) := by decide +kernel
theorem dX5_readCoast_6 : decode cX5_readCoast 6 = .ok (.iload_n 1, 1) := by decide +kernel
theorem dX5_readCoast_7 : decode cX5_readCoast 7 = .ok (.bipush 101, 2) := by decide +kernel
theorem dX5_readCoast_9 : decode cX5_readCoast 9 = .ok (.invokevirtual 93, 3) := by decide +kernel
theorem dX5_readCoast_12 : decode cX5_readCoast 12 = .ok (.ifCond .ne 5, 3) := by decide +kernel
theorem dX5_readCoast_15 : decode cX5_readCoast 15 = .ok (.iconst 0, 1) := by decide +kernel
theorem dX5_readCoast_16 : decode cX5_readCoast 16 = .ok (.ireturn, 1) := by decide +kernel
theorem dX5_readCoast_17 : decode cX5_readCoast 17 = .ok (.aload_n 0, 1) := by decide +kernel
theorem dX5_readCoast_18 : decode cX5_readCoast 18 = .ok (.aload_n 0, 1) := by decide +kernel
theorem dX5_readCoast_19 : decode cX5_readCoast 19 = .ok (.iload_n 1, 1) := by decide +kernel
theorem dX5_readCoast_20 : decode cX5_readCoast 20 = .ok (.invokevirtual 97, 3) := by decide +kernel
theorem dX5_readCoast_23 : decode cX5_readCoast 23 = .ok (.putfield 81, 3) := by decide +kernel
theorem dX5_readCoast_26 : decode cX5_readCoast 26 = .ok (.aload_n 0, 1) := by decide +kernel
theorem dX5_readCoast_27 : decode cX5_readCoast 27 = .ok (.getfield 81, 3) := by decide +kernel
theorem dX5_readCoast_30 : decode cX5_readCoast 30 = .ok (.bipush (-9), 2) := by decide +kernel
theorem dX5_readCoast_32 : decode cX5_readCoast 32 = .ok (.if_icmp .ne 5, 3) := by decide +kernel
theorem dX5_readCoast_35 : decode cX5_readCoast 35 = .ok (.iconst 0, 1) := by decide +kernel
theorem dX5_readCoast_36 : decode cX5_readCoast 36 = .ok (.ireturn, 1) := by decide +kernel
theorem dX5_readCoast_37 : decode cX5_readCoast 37 = .ok (.aload_n 0, 1) := by decide +kernel
theorem dX5_readCoast_38 : decode cX5_readCoast 38 = .ok (.getfield 87, 3) := by decide +kernel
theorem dX5_readCoast_41 : decode cX5_readCoast 41 = .ok (.iconst 2, 1) := by decide +kernel
theorem dX5_readCoast_42 : decode cX5_readCoast 42 = .ok (.if_icmp .lt 20, 3) := by decide +kernel
theorem dX5_readCoast_45 : decode cX5_readCoast 45 = .ok (.aload_n 0, 1) := by decide +kernel
theorem dX5_readCoast_46 : decode cX5_readCoast 46 = .ok (.getfield 87, 3) := by decide +kernel
theorem dX5_readCoast_49 : decode cX5_readCoast 49 = .ok (.bipush 6, 2) := by decide +kernel
theorem dX5_readCoast_51 : decode cX5_readCoast 51 = .ok (.if_icmp .ge 31, 3) := by decide +kernel
theorem dX5_readCoast_54 : decode cX5_readCoast 54 = .ok (.aload_n 0, 1) := by decide +kernel
theorem dX5_readCoast_55 : decode cX5_readCoast 55 = .ok (.getfield 60, 3) := by decide +kernel
theorem dX5_readCoast_58 : decode cX5_readCoast 58 = .ok (.iload_n 1, 1) := by decide +kernel
theorem dX5_readCoast_59 : decode cX5_readCoast 59 = .ok (.if_icmp .ge 23, 3) := by decide +kernel
theorem dX5_readCoast_62 : decode cX5_readCoast 62 = .ok (.aload_n 0, 1) := by decide +kernel
theorem dX5_readCoast_63 : decode cX5_readCoast 63 = .ok (.iload_n 1, 1) := by decide +kernel
theorem dX5_readCoast_64 : decode cX5_readCoast 64 = .ok (.bipush 59, 2) := by decide +kernel
theorem dX5_readCoast_66 : decode cX5_readCoast 66 = .ok (.invokevirtual 93, 3) := by decide +kernel
theorem dX5_readCoast_69 : decode cX5_readCoast 69 = .ok (.ifCond .eq 11, 3) := by decide +kernel
theorem dX5_readCoast_72 : decode cX5_readCoast 72 = .ok (.aload_n 0, 1) := by decide +kernel
theorem dX5_readCoast_73 : decode cX5_readCoast 73 = .ok (.iload_n 1, 1) := by decide +kernel
theorem dX5_readCoast_74 : decode cX5_readCoast 74 = .ok (.invokevirtual 100, 3) := by decide +kernel
theorem dX5_readCoast_77 : decode cX5_readCoast 77 = .ok (.ifCond .ne (-40), 3) := by decide +kernel
theorem dX5_readCoast_80 : decode cX5_readCoast 80 = .ok (.iconst 0, 1) := by decide +kernel
theorem dX5_readCoast_81 : decode cX5_readCoast 81 = .ok (.ireturn, 1) := by decide +kernel
theorem dX5_readCoast_82 : decode cX5_readCoast 82 = .ok (.aload_n 0, 1) := by decide +kernel
theorem dX5_readCoast_83 : decode cX5_readCoast 83 = .ok (.getfield 60, 3) := by decide +kernel
theorem dX5_readCoast_86 : decode cX5_readCoast 86 = .ok (.iload_n 1, 1) := by decide +kernel
theorem dX5_readCoast_87 : decode cX5_readCoast 87 = .ok (.if_icmp .ne 7, 3) := by decide +kernel
theorem dX5_readCoast_90 : decode cX5_readCoast 90 = .ok (.iconst 1, 1) := by decide +kernel
theorem dX5_readCoast_91 : decode cX5_readCoast 91 = .ok (.goto 4, 3) := by decide +kernel
theorem dX5_readCoast_94 : decode cX5_readCoast 94 = .ok (.iconst 0, 1) := by decide +kernel
theorem dX5_readCoast_95 : decode cX5_readCoast 95 = .ok (.ireturn, 1) := by decide +kernel
set_option maxRecDepth 20000 in
theorem ggX5_readPass_X5_digit : GoodIn wsX5_readPass wsX5_digit := goodIn_r _ [10, 1, 2, 11, 12, 9, 13, 14, 15, 16, 17, 18, 19, 20, 21, 22, 23, 24, 25, 26, 27, 28, 29, 30, 31, 32, 33, 34, 35, 36] (by decide +kernel) (by decide +kernel)
set_option maxRecDepth 20000 in
theorem gX5_readPass_X5_digit : GoodIn wsX5_readPass (wsV RX5 97 RX5 yX5_digit wsX5_digit) := goodIn_app (goodIn_of _ (by decide +kernel)) ggX5_readPass_X5_digit
theorem dX5_readPass_0 : decode cX5_readPass 0 = .ok (.aload_n 0, 1) := by decide +kernel
theorem dX5_readPass_1 : decode cX5_readPass 1 = .ok (.getfield 60, 3) := by decide +kernel
theorem dX5_readPass_4 : decode cX5_readPass 4 = .ok (.iload_n 1, 1) := by decide +kernel
theorem dX5_readPass_5 : decode cX5_readPass 5 = .ok (.if_icmp .ge 15, 3) := by decide +kernel
theorem dX5_readPass_8 : decode cX5_readPass 8 = .ok (.aload_n 0, 1) := by decide +kernel
theorem dX5_readPass_9 : decode cX5_readPass 9 = .ok (.getfield 16, 3) := by decide +kernel
theorem dX5_readPass_12 : decode cX5_readPass 12 = .ok (.aload_n 0, 1) := by decide +kernel
theorem dX5_readPass_13 : decode cX5_readPass 13 = .ok (.getfield 60, 3) := by decide +kernel
theorem dX5_readPass_16 : decode cX5_readPass 16 = .ok (.iaload, 1) := by decide +kernel
theorem dX5_readPass_17 : decode cX5_readPass 17 = .ok (.goto 4, 3) := by decide +kernel
theorem dX5_readPass_20 : decode cX5_readPass 20 = .ok (.iconst 0, 1) := by decide +kernel
theorem dX5_readPass_21 : decode cX5_readPass 21 = .ok (.istore_n 2, 1) := by decide +kernel
theorem dX5_readPass_22 : decode cX5_readPass 22 = .ok (.aload_n 0, 1) := by decide +kernel
theorem dX5_readPass_23 : decode cX5_readPass 23 = .ok (.getfield 25, 3) := by decide +kernel
theorem dX5_readPass_26 : decode cX5_readPass 26 = .ok (.aload_n 0, 1) := by decide +kernel
theorem dX5_readPass_27 : decode cX5_readPass 27 = .ok (.getfield 87, 3) := by decide +kernel
theorem dX5_readPass_30 : decode cX5_readPass 30 = .ok (.iload_n 2, 1) := by decide +kernel
theorem dX5_readPass_31 : decode cX5_readPass 31 = .ok (.bipush 112, 2) := by decide +kernel
theorem dX5_readPass_33 : decode cX5_readPass 33 = .ok (.if_icmp .ne 7, 3) := by decide +kernel
theorem dX5_readPass_36 : decode cX5_readPass 36 = .ok (.iconst 0, 1) := by decide +kernel
theorem dX5_readPass_37 : decode cX5_readPass 37 = .ok (.goto 25, 3) := by decide +kernel
theorem dX5_readPass_40 : decode cX5_readPass 40 = .ok (.iload_n 2, 1) := by decide +kernel
theorem dX5_readPass_41 : decode cX5_readPass 41 = .ok (.bipush 108, 2) := by decide +kernel
theorem dX5_readPass_43 : decode cX5_readPass 43 = .ok (.if_icmp .ne 7, 3) := by decide +kernel
theorem dX5_readPass_46 : decode cX5_readPass 46 = .ok (.iconst 1, 1) := by decide +kernel
theorem dX5_readPass_47 : decode cX5_readPass 47 = .ok (.goto 15, 3) := by decide +kernel
theorem dX5_readPass_50 : decode cX5_readPass 50 = .ok (.iload_n 2, 1) := by decide +kernel
theorem dX5_readPass_51 : decode cX5_readPass 51 = .ok (.bipush 100, 2) := by decide +kernel
theorem dX5_readPass_53 : decode cX5_readPass 53 = .ok (.if_icmp .ne 7, 3) := by decide +kernel
theorem dX5_readPass_56 : decode cX5_readPass 56 = .ok (.iconst 2, 1) := by decide +kernel
theorem dX5_readPass_57 : decode cX5_readPass 57 = .ok (.goto 5, 3) := by decide +kernel
theorem dX5_readPass_60 : decode cX5_readPass 60 = .ok (.bipush (-9), 2) := by decide +kernel
theorem dX5_readPass_62 : decode cX5_readPass 62 = .ok (.iastore, 1) := by decide +kernel
theorem dX5_readPass_63 : decode cX5_readPass 63 = .ok (.aload_n 0, 1) := by decide +kernel
theorem dX5_readPass_64 : decode cX5_readPass 64 = .ok (.getfield 25, 3) := by decide +kernel
theorem dX5_readPass_67 : decode cX5_readPass 67 = .ok (.aload_n 0, 1) := by decide +kernel
theorem dX5_readPass_68 : decode cX5_readPass 68 = .ok (.getfield 87, 3) := by decide +kernel
theorem dX5_readPass_71 : decode cX5_readPass 71 = .ok (.iaload, 1) := by decide +kernel
theorem dX5_readPass_72 : decode cX5_readPass 72 = .ok (.bipush (-9), 2) := by decide +kernel
theorem dX5_readPass_74 : decode cX5_readPass 74 = .ok (.if_icmp .ne 5, 3) := by decide +kernel
theorem dX5_readPass_77 : decode cX5_readPass 77 = .ok (.iconst 0, 1) := by decide +kernel
theorem dX5_readPass_78 : decode cX5_readPass 78 = .ok (.ireturn, 1) := by decide +kernel
theorem dX5_readPass_79 : decode cX5_readPass 79 = .ok (.aload_n 0, 1) := by decide +kernel
theorem dX5_readPass_80 : decode cX5_readPass 80 = .ok (.dup, 1) := by decide +kernel
theorem dX5_readPass_81 : decode cX5_readPass 81 = .ok (.getfield 60, 3) := by decide +kernel
theorem dX5_readPass_84 : decode cX5_readPass 84 = .ok (.iconst 1, 1) := by decide +kernel
theorem dX5_readPass_85 : decode cX5_readPass 85 = .ok (.iadd, 1) := by decide +kernel
theorem dX5_readPass_86 : decode cX5_readPass 86 = .ok (.putfield 60, 3) := by decide +kernel
theorem dX5_readPass_89 : decode cX5_readPass 89 = .ok (.iconst 0, 1) := by decide +kernel
theorem dX5_readPass_90 : decode cX5_readPass 90 = .ok (.istore_n 3, 1) := by decide +kernel
theorem dX5_readPass_91 : decode cX5_readPass 91 = .ok (.iload_n 3, 1) := by decide +kernel
theorem dX5_readPass_92 : decode cX5_readPass 92 = .ok (.iconst 3, 1) := by decide +kernel
theorem dX5_readPass_93 : decode cX5_readPass 93 = .ok (.if_icmp .ge 47, 3) := by decide +kernel
theorem dX5_readPass_96 : decode cX5_readPass 96 = .ok (.aload_n 0, 1) := by decide +kernel
theorem dX5_readPass_97 : decode cX5_readPass 97 = .ok (.getfield 28, 3) := by decide +kernel
theorem dX5_readPass_100 : decode cX5_readPass 100 = .ok (.iconst 3, 1) := by decide +kernel
theorem dX5_readPass_101 : decode cX5_readPass 101 = .ok (.aload_n 0, 1) := by decide +kernel
theorem dX5_readPass_102 : decode cX5_readPass 102 = .ok (.getfield 87, 3) := by decide +kernel
theorem dX5_readPass_105 : decode cX5_readPass 105 = .ok (.imul, 1) := by decide +kernel
theorem dX5_readPass_106 : decode cX5_readPass 106 = .ok (.iload_n 3, 1) := by decide +kernel
theorem dX5_readPass_107 : decode cX5_readPass 107 = .ok (.iadd, 1) := by decide +kernel
theorem dX5_readPass_108 : decode cX5_readPass 108 = .ok (.aload_n 0, 1) := by decide +kernel
theorem dX5_readPass_109 : decode cX5_readPass 109 = .ok (.iload_n 1, 1) := by decide +kernel
theorem dX5_readPass_110 : decode cX5_readPass 110 = .ok (.invokevirtual 97, 3) := by decide +kernel
theorem dX5_readPass_113 : decode cX5_readPass 113 = .ok (.iastore, 1) := by decide +kernel
theorem dX5_readPass_114 : decode cX5_readPass 114 = .ok (.aload_n 0, 1) := by decide +kernel
theorem dX5_readPass_115 : decode cX5_readPass 115 = .ok (.getfield 28, 3) := by decide +kernel
theorem dX5_readPass_118 : decode cX5_readPass 118 = .ok (.iconst 3, 1) := by decide +kernel
theorem dX5_readPass_119 : decode cX5_readPass 119 = .ok (.aload_n 0, 1) := by decide +kernel
theorem dX5_readPass_120 : decode cX5_readPass 120 = .ok (.getfield 87, 3) := by decide +kernel
theorem dX5_readPass_123 : decode cX5_readPass 123 = .ok (.imul, 1) := by decide +kernel
theorem dX5_readPass_124 : decode cX5_readPass 124 = .ok (.iload_n 3, 1) := by decide +kernel
theorem dX5_readPass_125 : decode cX5_readPass 125 = .ok (.iadd, 1) := by decide +kernel
theorem dX5_readPass_126 : decode cX5_readPass 126 = .ok (.iaload, 1) := by decide +kernel
end
section
theorem dX5_readPass_127 : decode cX5_readPass 127 = .ok (.bipush (-9), 2) := by decide +kernel
theorem dX5_readPass_129 : decode cX5_readPass 129 = .ok (.if_icmp .ne 5, 3) := by decide +kernel
theorem dX5_readPass_132 : decode cX5_readPass 132 = .ok (.iconst 0, 1) := by decide +kernel
theorem dX5_readPass_133 : decode cX5_readPass 133 = .ok (.ireturn, 1) := by decide +kernel
theorem dX5_readPass_134 : decode cX5_readPass 134 = .ok (.iinc 3 1, 3) := by decide +kernel
theorem dX5_readPass_137 : decode cX5_readPass 137 = .ok (.goto (-46), 3) := by decide +kernel
theorem dX5_readPass_140 : decode cX5_readPass 140 = .ok (.aload_n 0, 1) := by decide +kernel
theorem dX5_readPass_141 : decode cX5_readPass 141 = .ok (.dup, 1) := by decide +kernel
theorem dX5_readPass_142 : decode cX5_readPass 142 = .ok (.getfield 87, 3) := by decide +kernel
theorem dX5_readPass_145 : decode cX5_readPass 145 = .ok (.iconst 1, 1) := by decide +kernel
theorem dX5_readPass_146 : decode cX5_readPass 146 = .ok (.iadd, 1) := by decide +kernel
theorem dX5_readPass_147 : decode cX5_readPass 147 = .ok (.putfield 87, 3) := by decide +kernel
theorem dX5_readPass_150 : decode cX5_readPass 150 = .ok (.iconst 1, 1) := by decide +kernel
theorem dX5_readPass_151 : decode cX5_readPass 151 = .ok (.ireturn, 1) := by decide +kernel
set_option maxRecDepth 20000 in
theorem ggX5_ofPass_X5_isPass : GoodIn wsX5_ofPass wsX5_isPass := goodIn_r _ [7, 8, 12, 13, 14, 15, 16, 17, 18, 19, 20, 21, 22, 23, 24, 25, 26, 27, 28, 29, 30, 31, 32, 33, 34] (by decide +kernel) (by decide +kernel)
set_option maxRecDepth 20000 in
theorem gX5_ofPass_X5_isPass : GoodIn wsX5_ofPass (wsV RX5 103 RX5 yX5_isPass wsX5_isPass) := goodIn_app (goodIn_of _ (by decide +kernel)) ggX5_ofPass_X5_isPass
set_option maxRecDepth 20000 in
theorem ggX5_ofPass_X5_within : GoodIn wsX5_ofPass wsX5_within := goodIn_r _ [11] (by decide +kernel) (by decide +kernel)
set_option maxRecDepth 20000 in
theorem gX5_ofPass_X5_within : GoodIn wsX5_ofPass (va_wsS RX5 53 yX5_within wsX5_within) := goodIn_app (goodIn_of _ (by decide +kernel)) ggX5_ofPass_X5_within
theorem dX5_ofPass_0 : decode cX5_ofPass 0 = .ok (.aload_n 0, 1) := by decide +kernel
theorem dX5_ofPass_1 : decode cX5_ofPass 1 = .ok (.iload_n 1, 1) := by decide +kernel
theorem dX5_ofPass_2 : decode cX5_ofPass 2 = .ok (.invokevirtual 103, 3) := by decide +kernel
theorem dX5_ofPass_5 : decode cX5_ofPass 5 = .ok (.ifCond .ne 5, 3) := by decide +kernel
theorem dX5_ofPass_8 : decode cX5_ofPass 8 = .ok (.iconst (-1), 1) := by decide +kernel
theorem dX5_ofPass_9 : decode cX5_ofPass 9 = .ok (.ireturn, 1) := by decide +kernel
theorem dX5_ofPass_10 : decode cX5_ofPass 10 = .ok (.iload_n 2, 1) := by decide +kernel
theorem dX5_ofPass_11 : decode cX5_ofPass 11 = .ok (.ifCond .ne 12, 3) := by decide +kernel
theorem dX5_ofPass_14 : decode cX5_ofPass 14 = .ok (.aload_n 0, 1) := by decide +kernel
theorem dX5_ofPass_15 : decode cX5_ofPass 15 = .ok (.getfield 19, 3) := by decide +kernel
theorem dX5_ofPass_18 : decode cX5_ofPass 18 = .ok (.iload_n 1, 1) := by decide +kernel
theorem dX5_ofPass_19 : decode cX5_ofPass 19 = .ok (.iaload, 1) := by decide +kernel
theorem dX5_ofPass_20 : decode cX5_ofPass 20 = .ok (.goto 29, 3) := by decide +kernel
theorem dX5_ofPass_23 : decode cX5_ofPass 23 = .ok (.iload_n 2, 1) := by decide +kernel
theorem dX5_ofPass_24 : decode cX5_ofPass 24 = .ok (.iconst 1, 1) := by decide +kernel
theorem dX5_ofPass_25 : decode cX5_ofPass 25 = .ok (.iconst 3, 1) := by decide +kernel
theorem dX5_ofPass_26 : decode cX5_ofPass 26 = .ok (.invokestatic 53, 3) := by decide +kernel
theorem dX5_ofPass_29 : decode cX5_ofPass 29 = .ok (.ifCond .eq 18, 3) := by decide +kernel
theorem dX5_ofPass_32 : decode cX5_ofPass 32 = .ok (.aload_n 0, 1) := by decide +kernel
theorem dX5_ofPass_33 : decode cX5_ofPass 33 = .ok (.getfield 22, 3) := by decide +kernel
theorem dX5_ofPass_36 : decode cX5_ofPass 36 = .ok (.iconst 3, 1) := by decide +kernel
theorem dX5_ofPass_37 : decode cX5_ofPass 37 = .ok (.iload_n 1, 1) := by decide +kernel
theorem dX5_ofPass_38 : decode cX5_ofPass 38 = .ok (.imul, 1) := by decide +kernel
theorem dX5_ofPass_39 : decode cX5_ofPass 39 = .ok (.iload_n 2, 1) := by decide +kernel
theorem dX5_ofPass_40 : decode cX5_ofPass 40 = .ok (.iadd, 1) := by decide +kernel
theorem dX5_ofPass_41 : decode cX5_ofPass 41 = .ok (.iconst 1, 1) := by decide +kernel
theorem dX5_ofPass_42 : decode cX5_ofPass 42 = .ok (.isub, 1) := by decide +kernel
theorem dX5_ofPass_43 : decode cX5_ofPass 43 = .ok (.iaload, 1) := by decide +kernel
theorem dX5_ofPass_44 : decode cX5_ofPass 44 = .ok (.goto 5, 3) := by decide +kernel
theorem dX5_ofPass_47 : decode cX5_ofPass 47 = .ok (.bipush (-2), 2) := by decide +kernel
theorem dX5_ofPass_49 : decode cX5_ofPass 49 = .ok (.ireturn, 1) := by decide +kernel
set_option maxRecDepth 20000 in
theorem ggX5_trim_X5_isPass : GoodIn wsX5_trim wsX5_isPass := goodIn_r _ [6, 7, 17, 18, 19, 20, 21, 22, 23, 24, 25, 26, 27, 28, 29, 30, 31, 32, 33, 34, 35, 36, 37, 38, 39] (by decide +kernel) (by decide +kernel)
set_option maxRecDepth 20000 in
theorem gX5_trim_X5_isPass : GoodIn wsX5_trim (wsV RX5 103 RX5 yX5_isPass wsX5_isPass) := goodIn_app (goodIn_of _ (by decide +kernel)) ggX5_trim_X5_isPass
set_option maxRecDepth 20000 in
theorem ggX5_trim_X5_isPlace : GoodIn wsX5_trim wsX5_isPlace := goodIn_r _ [10, 11, 12, 5, 13] (by decide +kernel) (by decide +kernel)
set_option maxRecDepth 20000 in
theorem gX5_trim_X5_isPlace : GoodIn wsX5_trim (va_wsS RX5 106 yX5_isPlace wsX5_isPlace) := goodIn_app (goodIn_of _ (by decide +kernel)) ggX5_trim_X5_isPlace
set_option maxRecDepth 20000 in
theorem ggX5_trim_X5_isDigit : GoodIn wsX5_trim wsX5_isDigit := goodIn_r _ [16, 11, 12, 5, 13] (by decide +kernel) (by decide +kernel)
set_option maxRecDepth 20000 in
theorem gX5_trim_X5_isDigit : GoodIn wsX5_trim (va_wsS RX5 109 yX5_isDigit wsX5_isDigit) := goodIn_app (goodIn_of _ (by decide +kernel)) ggX5_trim_X5_isDigit
theorem dX5_trim_0 : decode cX5_trim 0 = .ok (.aload_n 0, 1) := by decide +kernel
theorem dX5_trim_1 : decode cX5_trim 1 = .ok (.iload_n 1, 1) := by decide +kernel
theorem dX5_trim_2 : decode cX5_trim 2 = .ok (.invokevirtual 103, 3) := by decide +kernel
theorem dX5_trim_5 : decode cX5_trim 5 = .ok (.ifCond .ne 5, 3) := by decide +kernel
theorem dX5_trim_8 : decode cX5_trim 8 = .ok (.iconst (-1), 1) := by decide +kernel
theorem dX5_trim_9 : decode cX5_trim 9 = .ok (.ireturn, 1) := by decide +kernel
theorem dX5_trim_10 : decode cX5_trim 10 = .ok (.iload_n 2, 1) := by decide +kernel
theorem dX5_trim_11 : decode cX5_trim 11 = .ok (.invokestatic 106, 3) := by decide +kernel
theorem dX5_trim_14 : decode cX5_trim 14 = .ok (.ifCond .eq 10, 3) := by decide +kernel
theorem dX5_trim_17 : decode cX5_trim 17 = .ok (.iload_n 3, 1) := by decide +kernel
theorem dX5_trim_18 : decode cX5_trim 18 = .ok (.invokestatic 109, 3) := by decide +kernel
theorem dX5_trim_21 : decode cX5_trim 21 = .ok (.ifCond .ne 6, 3) := by decide +kernel
theorem dX5_trim_24 : decode cX5_trim 24 = .ok (.bipush (-2), 2) := by decide +kernel
theorem dX5_trim_26 : decode cX5_trim 26 = .ok (.ireturn, 1) := by decide +kernel
theorem dX5_trim_27 : decode cX5_trim 27 = .ok (.aload_n 0, 1) := by decide +kernel
theorem dX5_trim_28 : decode cX5_trim 28 = .ok (.getfield 22, 3) := by decide +kernel
theorem dX5_trim_31 : decode cX5_trim 31 = .ok (.iconst 3, 1) := by decide +kernel
theorem dX5_trim_32 : decode cX5_trim 32 = .ok (.iload_n 1, 1) := by decide +kernel
theorem dX5_trim_33 : decode cX5_trim 33 = .ok (.imul, 1) := by decide +kernel
theorem dX5_trim_34 : decode cX5_trim 34 = .ok (.iload_n 2, 1) := by decide +kernel
theorem dX5_trim_35 : decode cX5_trim 35 = .ok (.iadd, 1) := by decide +kernel
theorem dX5_trim_36 : decode cX5_trim 36 = .ok (.iaload, 1) := by decide +kernel
theorem dX5_trim_37 : decode cX5_trim 37 = .ok (.istore 4, 2) := by decide +kernel
theorem dX5_trim_39 : decode cX5_trim 39 = .ok (.aload_n 0, 1) := by decide +kernel
theorem dX5_trim_40 : decode cX5_trim 40 = .ok (.getfield 22, 3) := by decide +kernel
theorem dX5_trim_43 : decode cX5_trim 43 = .ok (.iconst 3, 1) := by decide +kernel
theorem dX5_trim_44 : decode cX5_trim 44 = .ok (.iload_n 1, 1) := by decide +kernel
theorem dX5_trim_45 : decode cX5_trim 45 = .ok (.imul, 1) := by decide +kernel
theorem dX5_trim_46 : decode cX5_trim 46 = .ok (.iload_n 2, 1) := by decide +kernel
theorem dX5_trim_47 : decode cX5_trim 47 = .ok (.iadd, 1) := by decide +kernel
theorem dX5_trim_48 : decode cX5_trim 48 = .ok (.iload_n 3, 1) := by decide +kernel
theorem dX5_trim_49 : decode cX5_trim 49 = .ok (.iastore, 1) := by decide +kernel
theorem dX5_trim_50 : decode cX5_trim 50 = .ok (.iload 4, 2) := by decide +kernel
theorem dX5_trim_52 : decode cX5_trim 52 = .ok (.ireturn, 1) := by decide +kernel
set_option maxRecDepth 20000 in
theorem ggX5_slack_X5_isDigit : GoodIn wsX5_slack wsX5_isDigit := goodIn_r _ [6, 7, 8, 5, 9] (by decide +kernel) (by decide +kernel)
set_option maxRecDepth 20000 in
theorem gX5_slack_X5_isDigit : GoodIn wsX5_slack (va_wsS RX5 109 yX5_isDigit wsX5_isDigit) := goodIn_app (goodIn_of _ (by decide +kernel)) ggX5_slack_X5_isDigit
theorem dX5_slack_0 : decode cX5_slack 0 = .ok (.iload_n 1, 1) := by decide +kernel
theorem dX5_slack_1 : decode cX5_slack 1 = .ok (.invokestatic 109, 3) := by decide +kernel
theorem dX5_slack_4 : decode cX5_slack 4 = .ok (.ifCond .ne 6, 3) := by decide +kernel
theorem dX5_slack_7 : decode cX5_slack 7 = .ok (.bipush (-2), 2) := by decide +kernel
theorem dX5_slack_9 : decode cX5_slack 9 = .ok (.ireturn, 1) := by decide +kernel
theorem dX5_slack_10 : decode cX5_slack 10 = .ok (.aload_n 0, 1) := by decide +kernel
theorem dX5_slack_11 : decode cX5_slack 11 = .ok (.getfield 57, 3) := by decide +kernel
theorem dX5_slack_14 : decode cX5_slack 14 = .ok (.ifCond .ne 6, 3) := by decide +kernel
theorem dX5_slack_17 : decode cX5_slack 17 = .ok (.bipush (-3), 2) := by decide +kernel
theorem dX5_slack_19 : decode cX5_slack 19 = .ok (.ireturn, 1) := by decide +kernel
theorem dX5_slack_20 : decode cX5_slack 20 = .ok (.aload_n 0, 1) := by decide +kernel
theorem dX5_slack_21 : decode cX5_slack 21 = .ok (.getfield 84, 3) := by decide +kernel
theorem dX5_slack_24 : decode cX5_slack 24 = .ok (.istore_n 2, 1) := by decide +kernel
theorem dX5_slack_25 : decode cX5_slack 25 = .ok (.aload_n 0, 1) := by decide +kernel
theorem dX5_slack_26 : decode cX5_slack 26 = .ok (.iload_n 1, 1) := by decide +kernel
theorem dX5_slack_27 : decode cX5_slack 27 = .ok (.putfield 84, 3) := by decide +kernel
theorem dX5_slack_30 : decode cX5_slack 30 = .ok (.iload_n 2, 1) := by decide +kernel
theorem dX5_slack_31 : decode cX5_slack 31 = .ok (.ireturn, 1) := by decide +kernel
theorem dX5_lower_0 : decode cX5_lower 0 = .ok (.aload_n 0, 1) := by decide +kernel
theorem dX5_lower_1 : decode cX5_lower 1 = .ok (.getfield 19, 3) := by decide +kernel
theorem dX5_lower_4 : decode cX5_lower 4 = .ok (.iload_n 1, 1) := by decide +kernel
theorem dX5_lower_5 : decode cX5_lower 5 = .ok (.iaload, 1) := by decide +kernel
theorem dX5_lower_6 : decode cX5_lower 6 = .ok (.ifCond .ne 7, 3) := by decide +kernel
theorem dX5_lower_9 : decode cX5_lower 9 = .ok (.iload_n 3, 1) := by decide +kernel
theorem dX5_lower_10 : decode cX5_lower 10 = .ok (.goto 22, 3) := by decide +kernel
theorem dX5_lower_13 : decode cX5_lower 13 = .ok (.aload_n 0, 1) := by decide +kernel
theorem dX5_lower_14 : decode cX5_lower 14 = .ok (.getfield 19, 3) := by decide +kernel
theorem dX5_lower_17 : decode cX5_lower 17 = .ok (.iload_n 1, 1) := by decide +kernel
theorem dX5_lower_18 : decode cX5_lower 18 = .ok (.iaload, 1) := by decide +kernel
theorem dX5_lower_19 : decode cX5_lower 19 = .ok (.iconst 1, 1) := by decide +kernel
theorem dX5_lower_20 : decode cX5_lower 20 = .ok (.if_icmp .ne 9, 3) := by decide +kernel
theorem dX5_lower_23 : decode cX5_lower 23 = .ok (.iload_n 3, 1) := by decide +kernel
theorem dX5_lower_24 : decode cX5_lower 24 = .ok (.iconst 1, 1) := by decide +kernel
theorem dX5_lower_25 : decode cX5_lower 25 = .ok (.iadd, 1) := by decide +kernel
theorem dX5_lower_26 : decode cX5_lower 26 = .ok (.goto 6, 3) := by decide +kernel
theorem dX5_lower_29 : decode cX5_lower 29 = .ok (.iconst 2, 1) := by decide +kernel
theorem dX5_lower_30 : decode cX5_lower 30 = .ok (.iload_n 3, 1) := by decide +kernel
theorem dX5_lower_31 : decode cX5_lower 31 = .ok (.imul, 1) := by decide +kernel
theorem dX5_lower_32 : decode cX5_lower 32 = .ok (.istore 4, 2) := by decide +kernel
theorem dX5_lower_34 : decode cX5_lower 34 = .ok (.aload_n 0, 1) := by decide +kernel
theorem dX5_lower_35 : decode cX5_lower 35 = .ok (.getfield 22, 3) := by decide +kernel
theorem dX5_lower_38 : decode cX5_lower 38 = .ok (.iconst 3, 1) := by decide +kernel
theorem dX5_lower_39 : decode cX5_lower 39 = .ok (.iload_n 1, 1) := by decide +kernel
theorem dX5_lower_40 : decode cX5_lower 40 = .ok (.imul, 1) := by decide +kernel
theorem dX5_lower_41 : decode cX5_lower 41 = .ok (.iload_n 2, 1) := by decide +kernel
theorem dX5_lower_42 : decode cX5_lower 42 = .ok (.iadd, 1) := by decide +kernel
theorem dX5_lower_43 : decode cX5_lower 43 = .ok (.iaload, 1) := by decide +kernel
theorem dX5_lower_44 : decode cX5_lower 44 = .ok (.iload 4, 2) := by decide +kernel
theorem dX5_lower_46 : decode cX5_lower 46 = .ok (.isub, 1) := by decide +kernel
theorem dX5_lower_47 : decode cX5_lower 47 = .ok (.istore 5, 2) := by decide +kernel
theorem dX5_lower_49 : decode cX5_lower 49 = .ok (.iload 5, 2) := by decide +kernel
theorem dX5_lower_51 : decode cX5_lower 51 = .ok (.ifCond .ge 7, 3) := by decide +kernel
theorem dX5_lower_54 : decode cX5_lower 54 = .ok (.iconst 0, 1) := by decide +kernel
theorem dX5_lower_55 : decode cX5_lower 55 = .ok (.goto 5, 3) := by decide +kernel
theorem dX5_lower_58 : decode cX5_lower 58 = .ok (.iload 5, 2) := by decide +kernel
theorem dX5_lower_60 : decode cX5_lower 60 = .ok (.ireturn, 1) := by decide +kernel
set_option maxRecDepth 20000 in
theorem ggX5_worn_X5_isPass : GoodIn wsX5_worn wsX5_isPass := goodIn_r _ [5, 6, 22, 23, 24, 25, 26, 27, 28, 29, 30, 31, 32, 33, 34, 35, 36, 37, 38, 39, 40, 41, 42, 43, 44] (by decide +kernel) (by decide +kernel)
set_option maxRecDepth 20000 in
theorem gX5_worn_X5_isPass : GoodIn wsX5_worn (wsV RX5 103 RX5 yX5_isPass wsX5_isPass) := goodIn_app (goodIn_of _ (by decide +kernel)) ggX5_worn_X5_isPass
set_option maxRecDepth 20000 in
theorem ggX5_worn_X5_isPlace : GoodIn wsX5_worn wsX5_isPlace := goodIn_r _ [9, 10, 11, 4, 12] (by decide +kernel) (by decide +kernel)
set_option maxRecDepth 20000 in
theorem gX5_worn_X5_isPlace : GoodIn wsX5_worn (va_wsS RX5 106 yX5_isPlace wsX5_isPlace) := goodIn_app (goodIn_of _ (by decide +kernel)) ggX5_worn_X5_isPlace
set_option maxRecDepth 20000 in
theorem ggX5_worn_X5_isDigit : GoodIn wsX5_worn wsX5_isDigit := goodIn_r _ [15, 10, 11, 4, 12] (by decide +kernel) (by decide +kernel)
set_option maxRecDepth 20000 in
theorem gX5_worn_X5_isDigit : GoodIn wsX5_worn (va_wsS RX5 109 yX5_isDigit wsX5_isDigit) := goodIn_app (goodIn_of _ (by decide +kernel)) ggX5_worn_X5_isDigit
set_option maxRecDepth 20000 in
theorem ggX5_worn_X5_lower : GoodIn wsX5_worn wsX5_lower := goodIn_r _ [19, 20, 21, 22, 23, 24, 25, 26, 27, 28, 29, 30, 31, 32, 33, 34, 35, 36, 37, 38, 39, 40, 41, 42, 43, 44] (by decide +kernel) (by decide +kernel)
set_option maxRecDepth 20000 in
theorem gX5_worn_X5_lower : GoodIn wsX5_worn (wsV RX5 112 RX5 yX5_lower wsX5_lower) := goodIn_app (goodIn_of _ (by decide +kernel)) ggX5_worn_X5_lower
theorem dX5_worn_0 : decode cX5_worn 0 = .ok (.aload_n 0, 1) := by decide +kernel
theorem dX5_worn_1 : decode cX5_worn 1 = .ok (.iload_n 1, 1) := by decide +kernel
theorem dX5_worn_2 : decode cX5_worn 2 = .ok (.invokevirtual 103, 3) := by decide +kernel
theorem dX5_worn_5 : decode cX5_worn 5 = .ok (.ifCond .ne 5, 3) := by decide +kernel
theorem dX5_worn_8 : decode cX5_worn 8 = .ok (.iconst (-1), 1) := by decide +kernel
theorem dX5_worn_9 : decode cX5_worn 9 = .ok (.ireturn, 1) := by decide +kernel
theorem dX5_worn_10 : decode cX5_worn 10 = .ok (.iload_n 2, 1) := by decide +kernel
theorem dX5_worn_11 : decode cX5_worn 11 = .ok (.invokestatic 106, 3) := by decide +kernel
theorem dX5_worn_14 : decode cX5_worn 14 = .ok (.ifCond .eq 20, 3) := by decide +kernel
theorem dX5_worn_17 : decode cX5_worn 17 = .ok (.iload_n 3, 1) := by decide +kernel
theorem dX5_worn_18 : decode cX5_worn 18 = .ok (.invokestatic 109, 3) := by decide +kernel
theorem dX5_worn_21 : decode cX5_worn 21 = .ok (.ifCond .eq 13, 3) := by decide +kernel
theorem dX5_worn_24 : decode cX5_worn 24 = .ok (.aload_n 0, 1) := by decide +kernel
theorem dX5_worn_25 : decode cX5_worn 25 = .ok (.iload_n 1, 1) := by decide +kernel
theorem dX5_worn_26 : decode cX5_worn 26 = .ok (.iload_n 2, 1) := by decide +kernel
theorem dX5_worn_27 : decode cX5_worn 27 = .ok (.iload_n 3, 1) := by decide +kernel
theorem dX5_worn_28 : decode cX5_worn 28 = .ok (.invokevirtual 112, 3) := by decide +kernel
theorem dX5_worn_31 : decode cX5_worn 31 = .ok (.goto 5, 3) := by decide +kernel
theorem dX5_worn_34 : decode cX5_worn 34 = .ok (.bipush (-2), 2) := by decide +kernel
theorem dX5_worn_36 : decode cX5_worn 36 = .ok (.ireturn, 1) := by decide +kernel
theorem dX5_apart_0 : decode cX5_apart 0 = .ok (.iload_n 0, 1) := by decide +kernel
theorem dX5_apart_1 : decode cX5_apart 1 = .ok (.iload_n 1, 1) := by decide +kernel
theorem dX5_apart_2 : decode cX5_apart 2 = .ok (.if_icmp .ge 9, 3) := by decide +kernel
theorem dX5_apart_5 : decode cX5_apart 5 = .ok (.iload_n 1, 1) := by decide +kernel
theorem dX5_apart_6 : decode cX5_apart 6 = .ok (.iload_n 0, 1) := by decide +kernel
theorem dX5_apart_7 : decode cX5_apart 7 = .ok (.isub, 1) := by decide +kernel
theorem dX5_apart_8 : decode cX5_apart 8 = .ok (.goto 6, 3) := by decide +kernel
theorem dX5_apart_11 : decode cX5_apart 11 = .ok (.iload_n 0, 1) := by decide +kernel
theorem dX5_apart_12 : decode cX5_apart 12 = .ok (.iload_n 1, 1) := by decide +kernel
theorem dX5_apart_13 : decode cX5_apart 13 = .ok (.isub, 1) := by decide +kernel
theorem dX5_apart_14 : decode cX5_apart 14 = .ok (.ireturn, 1) := by decide +kernel
set_option maxRecDepth 20000 in
theorem ggX5_offOf_X5_lower : GoodIn wsX5_offOf wsX5_lower := goodIn_r _ [6, 7, 1, 11, 12, 13, 14, 15, 16, 17, 18, 19, 20, 21, 22, 23, 24, 25, 26, 27, 28, 29, 30, 31, 32, 33] (by decide +kernel) (by decide +kernel)
set_option maxRecDepth 20000 in
theorem gX5_offOf_X5_lower : GoodIn wsX5_offOf (wsV RX5 112 RX5 yX5_lower wsX5_lower) := goodIn_app (goodIn_of _ (by decide +kernel)) ggX5_offOf_X5_lower
set_option maxRecDepth 20000 in
theorem ggX5_offOf_X5_apart : GoodIn wsX5_offOf wsX5_apart := goodIn_r _ [10] (by decide +kernel) (by decide +kernel)
set_option maxRecDepth 20000 in
theorem gX5_offOf_X5_apart : GoodIn wsX5_offOf (va_wsS RX5 116 yX5_apart wsX5_apart) := goodIn_app (goodIn_of _ (by decide +kernel)) ggX5_offOf_X5_apart
theorem dX5_offOf_0 : decode cX5_offOf 0 = .ok (.iconst 0, 1) := by decide +kernel
theorem dX5_offOf_1 : decode cX5_offOf 1 = .ok (.istore 4, 2) := by decide +kernel
theorem dX5_offOf_3 : decode cX5_offOf 3 = .ok (.iconst 0, 1) := by decide +kernel
theorem dX5_offOf_4 : decode cX5_offOf 4 = .ok (.istore 5, 2) := by decide +kernel
theorem dX5_offOf_6 : decode cX5_offOf 6 = .ok (.iload 5, 2) := by decide +kernel
theorem dX5_offOf_8 : decode cX5_offOf 8 = .ok (.iconst 3, 1) := by decide +kernel
theorem dX5_offOf_9 : decode cX5_offOf 9 = .ok (.if_icmp .ge 36, 3) := by decide +kernel
theorem dX5_offOf_12 : decode cX5_offOf 12 = .ok (.iload 4, 2) := by decide +kernel
theorem dX5_offOf_14 : decode cX5_offOf 14 = .ok (.aload_n 0, 1) := by decide +kernel
theorem dX5_offOf_15 : decode cX5_offOf 15 = .ok (.getfield 22, 3) := by decide +kernel
theorem dX5_offOf_18 : decode cX5_offOf 18 = .ok (.iconst 3, 1) := by decide +kernel
theorem dX5_offOf_19 : decode cX5_offOf 19 = .ok (.iload_n 1, 1) := by decide +kernel
theorem dX5_offOf_20 : decode cX5_offOf 20 = .ok (.imul, 1) := by decide +kernel
theorem dX5_offOf_21 : decode cX5_offOf 21 = .ok (.iload 5, 2) := by decide +kernel
theorem dX5_offOf_23 : decode cX5_offOf 23 = .ok (.iadd, 1) := by decide +kernel
theorem dX5_offOf_24 : decode cX5_offOf 24 = .ok (.iaload, 1) := by decide +kernel
theorem dX5_offOf_25 : decode cX5_offOf 25 = .ok (.aload_n 0, 1) := by decide +kernel
theorem dX5_offOf_26 : decode cX5_offOf 26 = .ok (.iload_n 2, 1) := by decide +kernel
theorem dX5_offOf_27 : decode cX5_offOf 27 = .ok (.iload 5, 2) := by decide +kernel
theorem dX5_offOf_29 : decode cX5_offOf 29 = .ok (.iload_n 3, 1) := by decide +kernel
theorem dX5_offOf_30 : decode cX5_offOf 30 = .ok (.invokevirtual 112, 3) := by decide +kernel
theorem dX5_offOf_33 : decode cX5_offOf 33 = .ok (.invokestatic 116, 3) := by decide +kernel
theorem dX5_offOf_36 : decode cX5_offOf 36 = .ok (.iadd, 1) := by decide +kernel
theorem dX5_offOf_37 : decode cX5_offOf 37 = .ok (.istore 4, 2) := by decide +kernel
theorem dX5_offOf_39 : decode cX5_offOf 39 = .ok (.iinc 5 1, 3) := by decide +kernel
theorem dX5_offOf_42 : decode cX5_offOf 42 = .ok (.goto (-36), 3) := by decide +kernel
theorem dX5_offOf_45 : decode cX5_offOf 45 = .ok (.iload 4, 2) := by decide +kernel
theorem dX5_offOf_47 : decode cX5_offOf 47 = .ok (.ireturn, 1) := by decide +kernel
set_option maxRecDepth 20000 in
theorem ggX5_isFit_X5_offOf : GoodIn wsX5_isFit wsX5_offOf := goodIn_r _ [6, 7, 8, 9, 10, 5, 11, 12, 13, 14, 15, 16, 17, 18, 19, 20, 21, 22, 23, 24, 25, 26, 27, 28, 29, 30, 31, 32, 33, 34, 35, 36, 37, 38] (by decide +kernel) (by decide +kernel)
set_option maxRecDepth 20000 in
theorem gX5_isFit_X5_offOf : GoodIn wsX5_isFit (wsV RX5 120 RX5 yX5_offOf wsX5_offOf) := goodIn_app (goodIn_of _ (by decide +kernel)) ggX5_isFit_X5_offOf
theorem dX5_isFit_0 : decode cX5_isFit 0 = .ok (.aload_n 0, 1) := by decide +kernel
theorem dX5_isFit_1 : decode cX5_isFit 1 = .ok (.iload_n 1, 1) := by decide +kernel
theorem dX5_isFit_2 : decode cX5_isFit 2 = .ok (.iload_n 2, 1) := by decide +kernel
theorem dX5_isFit_3 : decode cX5_isFit 3 = .ok (.iload_n 3, 1) := by decide +kernel
theorem dX5_isFit_4 : decode cX5_isFit 4 = .ok (.invokevirtual 120, 3) := by decide +kernel
theorem dX5_isFit_7 : decode cX5_isFit 7 = .ok (.aload_n 0, 1) := by decide +kernel
theorem dX5_isFit_8 : decode cX5_isFit 8 = .ok (.getfield 84, 3) := by decide +kernel
theorem dX5_isFit_11 : decode cX5_isFit 11 = .ok (.if_icmp .gt 7, 3) := by decide +kernel
theorem dX5_isFit_14 : decode cX5_isFit 14 = .ok (.iconst 1, 1) := by decide +kernel
theorem dX5_isFit_15 : decode cX5_isFit 15 = .ok (.goto 4, 3) := by decide +kernel
theorem dX5_isFit_18 : decode cX5_isFit 18 = .ok (.iconst 0, 1) := by decide +kernel
theorem dX5_isFit_19 : decode cX5_isFit 19 = .ok (.ireturn, 1) := by decide +kernel
set_option maxRecDepth 20000 in
theorem ggX5_fitsOf_X5_isFit : GoodIn wsX5_fitsOf wsX5_isFit := goodIn_r _ [6, 7, 8, 9, 10, 5, 11, 12, 13, 14, 15, 16, 17, 18, 19, 20, 21, 22, 23, 24, 25, 26, 27, 28, 29, 30, 31, 32, 33, 34, 35, 36, 37, 38, 39, 40, 41, 42, 43] (by decide +kernel) (by decide +kernel)
set_option maxRecDepth 20000 in
theorem gX5_fitsOf_X5_isFit : GoodIn wsX5_fitsOf (wsV RX5 123 RX5 yX5_isFit wsX5_isFit) := goodIn_app (goodIn_of _ (by decide +kernel)) ggX5_fitsOf_X5_isFit
theorem dX5_fitsOf_0 : decode cX5_fitsOf 0 = .ok (.iconst 0, 1) := by decide +kernel
theorem dX5_fitsOf_1 : decode cX5_fitsOf 1 = .ok (.istore_n 3, 1) := by decide +kernel
theorem dX5_fitsOf_2 : decode cX5_fitsOf 2 = .ok (.iconst 0, 1) := by decide +kernel
theorem dX5_fitsOf_3 : decode cX5_fitsOf 3 = .ok (.istore 4, 2) := by decide +kernel
theorem dX5_fitsOf_5 : decode cX5_fitsOf 5 = .ok (.iload 4, 2) := by decide +kernel
theorem dX5_fitsOf_7 : decode cX5_fitsOf 7 = .ok (.aload_n 0, 1) := by decide +kernel
theorem dX5_fitsOf_8 : decode cX5_fitsOf 8 = .ok (.getfield 57, 3) := by decide +kernel
theorem dX5_fitsOf_11 : decode cX5_fitsOf 11 = .ok (.if_icmp .ge 31, 3) := by decide +kernel
theorem dX5_fitsOf_14 : decode cX5_fitsOf 14 = .ok (.iload_n 3, 1) := by decide +kernel
theorem dX5_fitsOf_15 : decode cX5_fitsOf 15 = .ok (.aload_n 0, 1) := by decide +kernel
theorem dX5_fitsOf_16 : decode cX5_fitsOf 16 = .ok (.iload 4, 2) := by decide +kernel
theorem dX5_fitsOf_18 : decode cX5_fitsOf 18 = .ok (.iload_n 1, 1) := by decide +kernel
theorem dX5_fitsOf_19 : decode cX5_fitsOf 19 = .ok (.iload_n 2, 1) := by decide +kernel
theorem dX5_fitsOf_20 : decode cX5_fitsOf 20 = .ok (.invokevirtual 123, 3) := by decide +kernel
theorem dX5_fitsOf_23 : decode cX5_fitsOf 23 = .ok (.ifCond .eq 10, 3) := by decide +kernel
theorem dX5_fitsOf_26 : decode cX5_fitsOf 26 = .ok (.iconst 1, 1) := by decide +kernel
theorem dX5_fitsOf_27 : decode cX5_fitsOf 27 = .ok (.iload 4, 2) := by decide +kernel
theorem dX5_fitsOf_29 : decode cX5_fitsOf 29 = .ok (.ishl, 1) := by decide +kernel
theorem dX5_fitsOf_30 : decode cX5_fitsOf 30 = .ok (.goto 4, 3) := by decide +kernel
theorem dX5_fitsOf_33 : decode cX5_fitsOf 33 = .ok (.iconst 0, 1) := by decide +kernel
theorem dX5_fitsOf_34 : decode cX5_fitsOf 34 = .ok (.ior, 1) := by decide +kernel
theorem dX5_fitsOf_35 : decode cX5_fitsOf 35 = .ok (.istore_n 3, 1) := by decide +kernel
theorem dX5_fitsOf_36 : decode cX5_fitsOf 36 = .ok (.iinc 4 1, 3) := by decide +kernel
theorem dX5_fitsOf_39 : decode cX5_fitsOf 39 = .ok (.goto (-34), 3) := by decide +kernel
theorem dX5_fitsOf_42 : decode cX5_fitsOf 42 = .ok (.iload_n 3, 1) := by decide +kernel
theorem dX5_fitsOf_43 : decode cX5_fitsOf 43 = .ok (.ireturn, 1) := by decide +kernel
set_option maxRecDepth 20000 in
theorem ggX5_off_X5_isPass : GoodIn wsX5_off wsX5_isPass := goodIn_r _ [5, 6, 26, 27, 28, 29, 30, 31, 32, 33, 34, 35, 36, 37, 38, 39, 40, 41, 42, 43, 44, 45, 46, 47, 48] (by decide +kernel) (by decide +kernel)
set_option maxRecDepth 20000 in
theorem gX5_off_X5_isPass : GoodIn wsX5_off (wsV RX5 103 RX5 yX5_isPass wsX5_isPass) := goodIn_app (goodIn_of _ (by decide +kernel)) ggX5_off_X5_isPass
set_option maxRecDepth 20000 in
theorem ggX5_off_X5_isDigit : GoodIn wsX5_off wsX5_isDigit := goodIn_r _ [9, 10, 11, 4, 12] (by decide +kernel) (by decide +kernel)
set_option maxRecDepth 20000 in
theorem gX5_off_X5_isDigit : GoodIn wsX5_off (va_wsS RX5 109 yX5_isDigit wsX5_isDigit) := goodIn_app (goodIn_of _ (by decide +kernel)) ggX5_off_X5_isDigit
set_option maxRecDepth 20000 in
theorem ggX5_off_X5_offOf : GoodIn wsX5_off wsX5_offOf := goodIn_r _ [16, 17, 18, 19, 20, 4, 21, 22, 23, 24, 25, 26, 27, 28, 29, 30, 31, 32, 33, 34, 35, 36, 37, 38, 39, 40, 41, 42, 43, 44, 45, 46, 47, 48] (by decide +kernel) (by decide +kernel)
set_option maxRecDepth 20000 in
theorem gX5_off_X5_offOf : GoodIn wsX5_off (wsV RX5 120 RX5 yX5_offOf wsX5_offOf) := goodIn_app (goodIn_of _ (by decide +kernel)) ggX5_off_X5_offOf
theorem dX5_off_0 : decode cX5_off 0 = .ok (.aload_n 0, 1) := by decide +kernel
theorem dX5_off_1 : decode cX5_off 1 = .ok (.iload_n 1, 1) := by decide +kernel
theorem dX5_off_2 : decode cX5_off 2 = .ok (.invokevirtual 103, 3) := by decide +kernel
theorem dX5_off_5 : decode cX5_off 5 = .ok (.ifCond .eq 11, 3) := by decide +kernel
theorem dX5_off_8 : decode cX5_off 8 = .ok (.aload_n 0, 1) := by decide +kernel
theorem dX5_off_9 : decode cX5_off 9 = .ok (.iload_n 2, 1) := by decide +kernel
theorem dX5_off_10 : decode cX5_off 10 = .ok (.invokevirtual 103, 3) := by decide +kernel
theorem dX5_off_13 : decode cX5_off 13 = .ok (.ifCond .ne 5, 3) := by decide +kernel
theorem dX5_off_16 : decode cX5_off 16 = .ok (.iconst (-1), 1) := by decide +kernel
theorem dX5_off_17 : decode cX5_off 17 = .ok (.ireturn, 1) := by decide +kernel
theorem dX5_off_18 : decode cX5_off 18 = .ok (.iload_n 3, 1) := by decide +kernel
theorem dX5_off_19 : decode cX5_off 19 = .ok (.invokestatic 109, 3) := by decide +kernel
theorem dX5_off_22 : decode cX5_off 22 = .ok (.ifCond .eq 13, 3) := by decide +kernel
theorem dX5_off_25 : decode cX5_off 25 = .ok (.aload_n 0, 1) := by decide +kernel
theorem dX5_off_26 : decode cX5_off 26 = .ok (.iload_n 1, 1) := by decide +kernel
theorem dX5_off_27 : decode cX5_off 27 = .ok (.iload_n 2, 1) := by decide +kernel
theorem dX5_off_28 : decode cX5_off 28 = .ok (.iload_n 3, 1) := by decide +kernel
theorem dX5_off_29 : decode cX5_off 29 = .ok (.invokevirtual 120, 3) := by decide +kernel
theorem dX5_off_32 : decode cX5_off 32 = .ok (.goto 5, 3) := by decide +kernel
theorem dX5_off_35 : decode cX5_off 35 = .ok (.bipush (-2), 2) := by decide +kernel
theorem dX5_off_37 : decode cX5_off 37 = .ok (.ireturn, 1) := by decide +kernel
set_option maxRecDepth 20000 in
theorem ggX5_fits_X5_isPass : GoodIn wsX5_fits wsX5_isPass := goodIn_r _ [5, 6, 35, 36, 37, 38, 39, 40, 41, 42, 43, 44, 45, 46, 47, 48, 49, 50, 51, 52, 53, 54, 55, 56, 57] (by decide +kernel) (by decide +kernel)
set_option maxRecDepth 20000 in
theorem gX5_fits_X5_isPass : GoodIn wsX5_fits (wsV RX5 103 RX5 yX5_isPass wsX5_isPass) := goodIn_app (goodIn_of _ (by decide +kernel)) ggX5_fits_X5_isPass
set_option maxRecDepth 20000 in
theorem ggX5_fits_X5_isDigit : GoodIn wsX5_fits wsX5_isDigit := goodIn_r _ [9, 10, 11, 4, 12] (by decide +kernel) (by decide +kernel)
set_option maxRecDepth 20000 in
theorem gX5_fits_X5_isDigit : GoodIn wsX5_fits (va_wsS RX5 109 yX5_isDigit wsX5_isDigit) := goodIn_app (goodIn_of _ (by decide +kernel)) ggX5_fits_X5_isDigit
set_option maxRecDepth 20000 in
theorem ggX5_fits_X5_fitsOf : GoodIn wsX5_fits wsX5_fitsOf := goodIn_r _ [16, 6, 17, 18, 19, 4, 20, 21, 22, 23, 24, 25, 26, 27, 28, 29, 30, 31, 32, 33, 34, 35, 36, 37, 38, 39, 40, 41, 42, 43, 44, 45, 46, 47, 48, 49, 50, 51, 52, 53, 54, 55, 56, 57] (by decide +kernel) (by decide +kernel)
set_option maxRecDepth 20000 in
theorem gX5_fits_X5_fitsOf : GoodIn wsX5_fits (wsV RX5 126 RX5 yX5_fitsOf wsX5_fitsOf) := goodIn_app (goodIn_of _ (by decide +kernel)) ggX5_fits_X5_fitsOf
theorem dX5_fits_0 : decode cX5_fits 0 = .ok (.aload_n 0, 1) := by decide +kernel
theorem dX5_fits_1 : decode cX5_fits 1 = .ok (.iload_n 1, 1) := by decide +kernel
theorem dX5_fits_2 : decode cX5_fits 2 = .ok (.invokevirtual 103, 3) := by decide +kernel
theorem dX5_fits_5 : decode cX5_fits 5 = .ok (.ifCond .ne 5, 3) := by decide +kernel
theorem dX5_fits_8 : decode cX5_fits 8 = .ok (.iconst (-1), 1) := by decide +kernel
theorem dX5_fits_9 : decode cX5_fits 9 = .ok (.ireturn, 1) := by decide +kernel
theorem dX5_fits_10 : decode cX5_fits 10 = .ok (.iload_n 2, 1) := by decide +kernel
theorem dX5_fits_11 : decode cX5_fits 11 = .ok (.invokestatic 109, 3) := by decide +kernel
theorem dX5_fits_14 : decode cX5_fits 14 = .ok (.ifCond .eq 12, 3) := by decide +kernel
theorem dX5_fits_17 : decode cX5_fits 17 = .ok (.aload_n 0, 1) := by decide +kernel
theorem dX5_fits_18 : decode cX5_fits 18 = .ok (.iload_n 1, 1) := by decide +kernel
theorem dX5_fits_19 : decode cX5_fits 19 = .ok (.iload_n 2, 1) := by decide +kernel
theorem dX5_fits_20 : decode cX5_fits 20 = .ok (.invokevirtual 126, 3) := by decide +kernel
theorem dX5_fits_23 : decode cX5_fits 23 = .ok (.goto 5, 3) := by decide +kernel
theorem dX5_fits_26 : decode cX5_fits 26 = .ok (.bipush (-2), 2) := by decide +kernel
theorem dX5_fits_28 : decode cX5_fits 28 = .ok (.ireturn, 1) := by decide +kernel
set_option maxRecDepth 20000 in
theorem ggX5_match_X5_isPass : GoodIn wsX5_match wsX5_isPass := goodIn_r _ [6, 1, 31, 32, 33, 34, 35, 36, 37, 38, 39, 40, 41, 42, 43, 44, 45, 46, 47, 48, 49, 50, 51, 52, 53] (by decide +kernel) (by decide +kernel)
set_option maxRecDepth 20000 in
theorem gX5_match_X5_isPass : GoodIn wsX5_match (wsV RX5 103 RX5 yX5_isPass wsX5_isPass) := goodIn_app (goodIn_of _ (by decide +kernel)) ggX5_match_X5_isPass
set_option maxRecDepth 20000 in
theorem ggX5_match_X5_isDigit : GoodIn wsX5_match wsX5_isDigit := goodIn_r _ [9, 10, 11, 5, 12] (by decide +kernel) (by decide +kernel)
set_option maxRecDepth 20000 in
theorem gX5_match_X5_isDigit : GoodIn wsX5_match (va_wsS RX5 109 yX5_isDigit wsX5_isDigit) := goodIn_app (goodIn_of _ (by decide +kernel)) ggX5_match_X5_isDigit
set_option maxRecDepth 20000 in
theorem ggX5_match_X5_isFit : GoodIn wsX5_match wsX5_isFit := goodIn_r _ [16, 17, 18, 19, 20, 5, 21, 22, 23, 24, 25, 26, 27, 28, 29, 30, 31, 32, 33, 34, 35, 36, 37, 38, 39, 40, 41, 42, 43, 44, 45, 46, 47, 48, 49, 50, 51, 52, 53] (by decide +kernel) (by decide +kernel)
set_option maxRecDepth 20000 in
theorem gX5_match_X5_isFit : GoodIn wsX5_match (wsV RX5 123 RX5 yX5_isFit wsX5_isFit) := goodIn_app (goodIn_of _ (by decide +kernel)) ggX5_match_X5_isFit
set_option maxRecDepth 20000 in
theorem ggX5_match_X5_offOf : GoodIn wsX5_match wsX5_offOf := goodIn_r _ [21, 22, 23, 24, 25, 5, 26, 27, 28, 29, 30, 31, 32, 33, 34, 35, 36, 37, 38, 39, 40, 41, 42, 43, 44, 45, 46, 47, 48, 49, 50, 51, 52, 53] (by decide +kernel) (by decide +kernel)
set_option maxRecDepth 20000 in
theorem gX5_match_X5_offOf : GoodIn wsX5_match (wsV RX5 120 RX5 yX5_offOf wsX5_offOf) := goodIn_app (goodIn_of _ (by decide +kernel)) ggX5_match_X5_offOf
theorem dX5_match_0 : decode cX5_match 0 = .ok (.aload_n 0, 1) := by decide +kernel
theorem dX5_match_1 : decode cX5_match 1 = .ok (.iload_n 1, 1) := by decide +kernel
theorem dX5_match_2 : decode cX5_match 2 = .ok (.invokevirtual 103, 3) := by decide +kernel
theorem dX5_match_5 : decode cX5_match 5 = .ok (.ifCond .ne 5, 3) := by decide +kernel
theorem dX5_match_8 : decode cX5_match 8 = .ok (.iconst (-1), 1) := by decide +kernel
theorem dX5_match_9 : decode cX5_match 9 = .ok (.ireturn, 1) := by decide +kernel
theorem dX5_match_10 : decode cX5_match 10 = .ok (.iload_n 2, 1) := by decide +kernel
theorem dX5_match_11 : decode cX5_match 11 = .ok (.invokestatic 109, 3) := by decide +kernel
theorem dX5_match_14 : decode cX5_match 14 = .ok (.ifCond .ne 6, 3) := by decide +kernel
theorem dX5_match_17 : decode cX5_match 17 = .ok (.bipush (-2), 2) := by decide +kernel
theorem dX5_match_19 : decode cX5_match 19 = .ok (.ireturn, 1) := by decide +kernel
theorem dX5_match_20 : decode cX5_match 20 = .ok (.bipush (-9), 2) := by decide +kernel
theorem dX5_match_22 : decode cX5_match 22 = .ok (.istore_n 3, 1) := by decide +kernel
theorem dX5_match_23 : decode cX5_match 23 = .ok (.iconst 0, 1) := by decide +kernel
theorem dX5_match_24 : decode cX5_match 24 = .ok (.istore 4, 2) := by decide +kernel
theorem dX5_match_26 : decode cX5_match 26 = .ok (.iload 4, 2) := by decide +kernel
theorem dX5_match_28 : decode cX5_match 28 = .ok (.aload_n 0, 1) := by decide +kernel
theorem dX5_match_29 : decode cX5_match 29 = .ok (.getfield 57, 3) := by decide +kernel
theorem dX5_match_32 : decode cX5_match 32 = .ok (.if_icmp .ge 47, 3) := by decide +kernel
theorem dX5_match_35 : decode cX5_match 35 = .ok (.aload_n 0, 1) := by decide +kernel
theorem dX5_match_36 : decode cX5_match 36 = .ok (.iload 4, 2) := by decide +kernel
theorem dX5_match_38 : decode cX5_match 38 = .ok (.iload_n 1, 1) := by decide +kernel
theorem dX5_match_39 : decode cX5_match 39 = .ok (.iload_n 2, 1) := by decide +kernel
theorem dX5_match_40 : decode cX5_match 40 = .ok (.invokevirtual 123, 3) := by decide +kernel
theorem dX5_match_43 : decode cX5_match 43 = .ok (.ifCond .eq 30, 3) := by decide +kernel
theorem dX5_match_46 : decode cX5_match 46 = .ok (.iload_n 3, 1) := by decide +kernel
theorem dX5_match_47 : decode cX5_match 47 = .ok (.bipush (-9), 2) := by decide +kernel
theorem dX5_match_49 : decode cX5_match 49 = .ok (.if_icmp .eq 21, 3) := by decide +kernel
theorem dX5_match_52 : decode cX5_match 52 = .ok (.aload_n 0, 1) := by decide +kernel
theorem dX5_match_53 : decode cX5_match 53 = .ok (.iload 4, 2) := by decide +kernel
theorem dX5_match_55 : decode cX5_match 55 = .ok (.iload_n 1, 1) := by decide +kernel
theorem dX5_match_56 : decode cX5_match 56 = .ok (.iload_n 2, 1) := by decide +kernel
theorem dX5_match_57 : decode cX5_match 57 = .ok (.invokevirtual 120, 3) := by decide +kernel
theorem dX5_match_60 : decode cX5_match 60 = .ok (.aload_n 0, 1) := by decide +kernel
theorem dX5_match_61 : decode cX5_match 61 = .ok (.iload_n 3, 1) := by decide +kernel
theorem dX5_match_62 : decode cX5_match 62 = .ok (.iload_n 1, 1) := by decide +kernel
theorem dX5_match_63 : decode cX5_match 63 = .ok (.iload_n 2, 1) := by decide +kernel
theorem dX5_match_64 : decode cX5_match 64 = .ok (.invokevirtual 120, 3) := by decide +kernel
theorem dX5_match_67 : decode cX5_match 67 = .ok (.if_icmp .ge 6, 3) := by decide +kernel
theorem dX5_match_70 : decode cX5_match 70 = .ok (.iload 4, 2) := by decide +kernel
theorem dX5_match_72 : decode cX5_match 72 = .ok (.istore_n 3, 1) := by decide +kernel
theorem dX5_match_73 : decode cX5_match 73 = .ok (.iinc 4 1, 3) := by decide +kernel
theorem dX5_match_76 : decode cX5_match 76 = .ok (.goto (-50), 3) := by decide +kernel
theorem dX5_match_79 : decode cX5_match 79 = .ok (.iload_n 3, 1) := by decide +kernel
theorem dX5_match_80 : decode cX5_match 80 = .ok (.ireturn, 1) := by decide +kernel
set_option maxRecDepth 20000 in
theorem ggX5_last_X5_isPass : GoodIn wsX5_last wsX5_isPass := goodIn_r _ [5, 6, 25, 26, 27, 28, 29, 30, 31, 32, 33, 34, 35, 36, 37, 38, 39, 40, 41, 42, 43, 44, 45, 46, 47] (by decide +kernel) (by decide +kernel)
set_option maxRecDepth 20000 in
theorem gX5_last_X5_isPass : GoodIn wsX5_last (wsV RX5 103 RX5 yX5_isPass wsX5_isPass) := goodIn_app (goodIn_of _ (by decide +kernel)) ggX5_last_X5_isPass
set_option maxRecDepth 20000 in
theorem ggX5_last_X5_isFit : GoodIn wsX5_last wsX5_isFit := goodIn_r _ [10, 11, 12, 13, 14, 4, 15, 16, 17, 18, 19, 20, 21, 22, 23, 24, 25, 26, 27, 28, 29, 30, 31, 32, 33, 34, 35, 36, 37, 38, 39, 40, 41, 42, 43, 44, 45, 46, 47] (by decide +kernel) (by decide +kernel)
set_option maxRecDepth 20000 in
theorem gX5_last_X5_isFit : GoodIn wsX5_last (wsV RX5 123 RX5 yX5_isFit wsX5_isFit) := goodIn_app (goodIn_of _ (by decide +kernel)) ggX5_last_X5_isFit
theorem dX5_last_0 : decode cX5_last 0 = .ok (.aload_n 0, 1) := by decide +kernel
theorem dX5_last_1 : decode cX5_last 1 = .ok (.iload_n 1, 1) := by decide +kernel
theorem dX5_last_2 : decode cX5_last 2 = .ok (.invokevirtual 103, 3) := by decide +kernel
theorem dX5_last_5 : decode cX5_last 5 = .ok (.ifCond .ne 5, 3) := by decide +kernel
theorem dX5_last_8 : decode cX5_last 8 = .ok (.iconst (-1), 1) := by decide +kernel
theorem dX5_last_9 : decode cX5_last 9 = .ok (.ireturn, 1) := by decide +kernel
theorem dX5_last_10 : decode cX5_last 10 = .ok (.bipush 9, 2) := by decide +kernel
theorem dX5_last_12 : decode cX5_last 12 = .ok (.istore_n 2, 1) := by decide +kernel
theorem dX5_last_13 : decode cX5_last 13 = .ok (.iload_n 2, 1) := by decide +kernel
theorem dX5_last_14 : decode cX5_last 14 = .ok (.ifCond .lt 21, 3) := by decide +kernel
theorem dX5_last_17 : decode cX5_last 17 = .ok (.aload_n 0, 1) := by decide +kernel
theorem dX5_last_18 : decode cX5_last 18 = .ok (.iload_n 1, 1) := by decide +kernel
theorem dX5_last_19 : decode cX5_last 19 = .ok (.iload_n 1, 1) := by decide +kernel
theorem dX5_last_20 : decode cX5_last 20 = .ok (.iload_n 2, 1) := by decide +kernel
theorem dX5_last_21 : decode cX5_last 21 = .ok (.invokevirtual 123, 3) := by decide +kernel
theorem dX5_last_24 : decode cX5_last 24 = .ok (.ifCond .eq 5, 3) := by decide +kernel
theorem dX5_last_27 : decode cX5_last 27 = .ok (.iload_n 2, 1) := by decide +kernel
theorem dX5_last_28 : decode cX5_last 28 = .ok (.ireturn, 1) := by decide +kernel
theorem dX5_last_29 : decode cX5_last 29 = .ok (.iinc 2 (-1), 3) := by decide +kernel
theorem dX5_last_32 : decode cX5_last 32 = .ok (.goto (-19), 3) := by decide +kernel
theorem dX5_last_35 : decode cX5_last 35 = .ok (.bipush (-9), 2) := by decide +kernel
theorem dX5_last_37 : decode cX5_last 37 = .ok (.ireturn, 1) := by decide +kernel
set_option maxRecDepth 20000 in
theorem ggX5_alikeTo_X5_apart : GoodIn wsX5_alikeTo wsX5_apart := goodIn_r _ [7] (by decide +kernel) (by decide +kernel)
set_option maxRecDepth 20000 in
theorem gX5_alikeTo_X5_apart : GoodIn wsX5_alikeTo (va_wsS RX5 116 yX5_apart wsX5_apart) := goodIn_app (goodIn_of _ (by decide +kernel)) ggX5_alikeTo_X5_apart
theorem dX5_alikeTo_0 : decode cX5_alikeTo 0 = .ok (.iconst 0, 1) := by decide +kernel
theorem dX5_alikeTo_1 : decode cX5_alikeTo 1 = .ok (.istore_n 2, 1) := by decide +kernel
theorem dX5_alikeTo_2 : decode cX5_alikeTo 2 = .ok (.iconst 0, 1) := by decide +kernel
theorem dX5_alikeTo_3 : decode cX5_alikeTo 3 = .ok (.istore_n 3, 1) := by decide +kernel
theorem dX5_alikeTo_4 : decode cX5_alikeTo 4 = .ok (.iload_n 3, 1) := by decide +kernel
theorem dX5_alikeTo_5 : decode cX5_alikeTo 5 = .ok (.aload_n 0, 1) := by decide +kernel
theorem dX5_alikeTo_6 : decode cX5_alikeTo 6 = .ok (.getfield 57, 3) := by decide +kernel
theorem dX5_alikeTo_9 : decode cX5_alikeTo 9 = .ok (.if_icmp .ge 81, 3) := by decide +kernel
theorem dX5_alikeTo_12 : decode cX5_alikeTo 12 = .ok (.iconst 0, 1) := by decide +kernel
theorem dX5_alikeTo_13 : decode cX5_alikeTo 13 = .ok (.istore 4, 2) := by decide +kernel
theorem dX5_alikeTo_15 : decode cX5_alikeTo 15 = .ok (.iconst 0, 1) := by decide +kernel
theorem dX5_alikeTo_16 : decode cX5_alikeTo 16 = .ok (.istore 5, 2) := by decide +kernel
theorem dX5_alikeTo_18 : decode cX5_alikeTo 18 = .ok (.iload 5, 2) := by decide +kernel
theorem dX5_alikeTo_20 : decode cX5_alikeTo 20 = .ok (.iconst 3, 1) := by decide +kernel
theorem dX5_alikeTo_21 : decode cX5_alikeTo 21 = .ok (.if_icmp .ge 39, 3) := by decide +kernel
theorem dX5_alikeTo_24 : decode cX5_alikeTo 24 = .ok (.iload 4, 2) := by decide +kernel
theorem dX5_alikeTo_26 : decode cX5_alikeTo 26 = .ok (.aload_n 0, 1) := by decide +kernel
theorem dX5_alikeTo_27 : decode cX5_alikeTo 27 = .ok (.getfield 22, 3) := by decide +kernel
theorem dX5_alikeTo_30 : decode cX5_alikeTo 30 = .ok (.iconst 3, 1) := by decide +kernel
theorem dX5_alikeTo_31 : decode cX5_alikeTo 31 = .ok (.iload_n 1, 1) := by decide +kernel
theorem dX5_alikeTo_32 : decode cX5_alikeTo 32 = .ok (.imul, 1) := by decide +kernel
theorem dX5_alikeTo_33 : decode cX5_alikeTo 33 = .ok (.iload 5, 2) := by decide +kernel
theorem dX5_alikeTo_35 : decode cX5_alikeTo 35 = .ok (.iadd, 1) := by decide +kernel
theorem dX5_alikeTo_36 : decode cX5_alikeTo 36 = .ok (.iaload, 1) := by decide +kernel
theorem dX5_alikeTo_37 : decode cX5_alikeTo 37 = .ok (.aload_n 0, 1) := by decide +kernel
theorem dX5_alikeTo_38 : decode cX5_alikeTo 38 = .ok (.getfield 22, 3) := by decide +kernel
theorem dX5_alikeTo_41 : decode cX5_alikeTo 41 = .ok (.iconst 3, 1) := by decide +kernel
theorem dX5_alikeTo_42 : decode cX5_alikeTo 42 = .ok (.iload_n 3, 1) := by decide +kernel
theorem dX5_alikeTo_43 : decode cX5_alikeTo 43 = .ok (.imul, 1) := by decide +kernel
theorem dX5_alikeTo_44 : decode cX5_alikeTo 44 = .ok (.iload 5, 2) := by decide +kernel
theorem dX5_alikeTo_46 : decode cX5_alikeTo 46 = .ok (.iadd, 1) := by decide +kernel
theorem dX5_alikeTo_47 : decode cX5_alikeTo 47 = .ok (.iaload, 1) := by decide +kernel
theorem dX5_alikeTo_48 : decode cX5_alikeTo 48 = .ok (.invokestatic 116, 3) := by decide +kernel
theorem dX5_alikeTo_51 : decode cX5_alikeTo 51 = .ok (.iadd, 1) := by decide +kernel
theorem dX5_alikeTo_52 : decode cX5_alikeTo 52 = .ok (.istore 4, 2) := by decide +kernel
theorem dX5_alikeTo_54 : decode cX5_alikeTo 54 = .ok (.iinc 5 1, 3) := by decide +kernel
theorem dX5_alikeTo_57 : decode cX5_alikeTo 57 = .ok (.goto (-39), 3) := by decide +kernel
theorem dX5_alikeTo_60 : decode cX5_alikeTo 60 = .ok (.iload_n 2, 1) := by decide +kernel
theorem dX5_alikeTo_61 : decode cX5_alikeTo 61 = .ok (.iload_n 3, 1) := by decide +kernel
theorem dX5_alikeTo_62 : decode cX5_alikeTo 62 = .ok (.iload_n 1, 1) := by decide +kernel
theorem dX5_alikeTo_63 : decode cX5_alikeTo 63 = .ok (.if_icmp .eq 18, 3) := by decide +kernel
theorem dX5_alikeTo_66 : decode cX5_alikeTo 66 = .ok (.iload 4, 2) := by decide +kernel
theorem dX5_alikeTo_68 : decode cX5_alikeTo 68 = .ok (.aload_n 0, 1) := by decide +kernel
theorem dX5_alikeTo_69 : decode cX5_alikeTo 69 = .ok (.getfield 84, 3) := by decide +kernel
theorem dX5_alikeTo_72 : decode cX5_alikeTo 72 = .ok (.if_icmp .gt 9, 3) := by decide +kernel
theorem dX5_alikeTo_75 : decode cX5_alikeTo 75 = .ok (.iconst 1, 1) := by decide +kernel
theorem dX5_alikeTo_76 : decode cX5_alikeTo 76 = .ok (.iload_n 3, 1) := by decide +kernel
theorem dX5_alikeTo_77 : decode cX5_alikeTo 77 = .ok (.ishl, 1) := by decide +kernel
theorem dX5_alikeTo_78 : decode cX5_alikeTo 78 = .ok (.goto 4, 3) := by decide +kernel
theorem dX5_alikeTo_81 : decode cX5_alikeTo 81 = .ok (.iconst 0, 1) := by decide +kernel
theorem dX5_alikeTo_82 : decode cX5_alikeTo 82 = .ok (.ior, 1) := by decide +kernel
theorem dX5_alikeTo_83 : decode cX5_alikeTo 83 = .ok (.istore_n 2, 1) := by decide +kernel
theorem dX5_alikeTo_84 : decode cX5_alikeTo 84 = .ok (.iinc 3 1, 3) := by decide +kernel
theorem dX5_alikeTo_87 : decode cX5_alikeTo 87 = .ok (.goto (-83), 3) := by decide +kernel
theorem dX5_alikeTo_90 : decode cX5_alikeTo 90 = .ok (.iload_n 2, 1) := by decide +kernel
theorem dX5_alikeTo_91 : decode cX5_alikeTo 91 = .ok (.ireturn, 1) := by decide +kernel
set_option maxRecDepth 20000 in
theorem ggX5_alike_X5_isPass : GoodIn wsX5_alike wsX5_isPass := goodIn_r _ [5, 6, 16, 17, 18, 19, 20, 21, 22, 23, 24, 25, 26, 27, 28, 29, 30, 31, 32, 33, 34, 35, 36, 37, 38] (by decide +kernel) (by decide +kernel)
set_option maxRecDepth 20000 in
theorem gX5_alike_X5_isPass : GoodIn wsX5_alike (wsV RX5 103 RX5 yX5_isPass wsX5_isPass) := goodIn_app (goodIn_of _ (by decide +kernel)) ggX5_alike_X5_isPass
set_option maxRecDepth 20000 in
theorem ggX5_alike_X5_alikeTo : GoodIn wsX5_alike wsX5_alikeTo := goodIn_r _ [10, 6, 11, 12, 13, 14, 4, 15, 16, 17, 18, 19, 20, 21, 22, 23, 24, 25, 26, 27, 28, 29, 30, 31, 32, 33, 34, 35, 36, 37, 38] (by decide +kernel) (by decide +kernel)
set_option maxRecDepth 20000 in
theorem gX5_alike_X5_alikeTo : GoodIn wsX5_alike (wsV RX5 129 RX5 yX5_alikeTo wsX5_alikeTo) := goodIn_app (goodIn_of _ (by decide +kernel)) ggX5_alike_X5_alikeTo
theorem dX5_alike_0 : decode cX5_alike 0 = .ok (.aload_n 0, 1) := by decide +kernel
theorem dX5_alike_1 : decode cX5_alike 1 = .ok (.iload_n 1, 1) := by decide +kernel
theorem dX5_alike_2 : decode cX5_alike 2 = .ok (.invokevirtual 103, 3) := by decide +kernel
theorem dX5_alike_5 : decode cX5_alike 5 = .ok (.ifCond .eq 11, 3) := by decide +kernel
theorem dX5_alike_8 : decode cX5_alike 8 = .ok (.aload_n 0, 1) := by decide +kernel
theorem dX5_alike_9 : decode cX5_alike 9 = .ok (.iload_n 1, 1) := by decide +kernel
theorem dX5_alike_10 : decode cX5_alike 10 = .ok (.invokevirtual 129, 3) := by decide +kernel
theorem dX5_alike_13 : decode cX5_alike 13 = .ok (.goto 4, 3) := by decide +kernel
theorem dX5_alike_16 : decode cX5_alike 16 = .ok (.iconst (-1), 1) := by decide +kernel
theorem dX5_alike_17 : decode cX5_alike 17 = .ok (.ireturn, 1) := by decide +kernel
theorem dX5_size_0 : decode cX5_size 0 = .ok (.iconst 0, 1) := by decide +kernel
theorem dX5_size_1 : decode cX5_size 1 = .ok (.istore_n 1, 1) := by decide +kernel
theorem dX5_size_2 : decode cX5_size 2 = .ok (.iload_n 0, 1) := by decide +kernel
theorem dX5_size_3 : decode cX5_size 3 = .ok (.istore_n 2, 1) := by decide +kernel
theorem dX5_size_4 : decode cX5_size 4 = .ok (.iload_n 2, 1) := by decide +kernel
theorem dX5_size_5 : decode cX5_size 5 = .ok (.ifCond .le 16, 3) := by decide +kernel
theorem dX5_size_8 : decode cX5_size 8 = .ok (.iload_n 1, 1) := by decide +kernel
theorem dX5_size_9 : decode cX5_size 9 = .ok (.iload_n 2, 1) := by decide +kernel
theorem dX5_size_10 : decode cX5_size 10 = .ok (.iconst 1, 1) := by decide +kernel
theorem dX5_size_11 : decode cX5_size 11 = .ok (.iand, 1) := by decide +kernel
theorem dX5_size_12 : decode cX5_size 12 = .ok (.iadd, 1) := by decide +kernel
theorem dX5_size_13 : decode cX5_size 13 = .ok (.istore_n 1, 1) := by decide +kernel
theorem dX5_size_14 : decode cX5_size 14 = .ok (.iload_n 2, 1) := by decide +kernel
theorem dX5_size_15 : decode cX5_size 15 = .ok (.iconst 1, 1) := by decide +kernel
theorem dX5_size_16 : decode cX5_size 16 = .ok (.ishr, 1) := by decide +kernel
theorem dX5_size_17 : decode cX5_size 17 = .ok (.istore_n 2, 1) := by decide +kernel
theorem dX5_size_18 : decode cX5_size 18 = .ok (.goto (-14), 3) := by decide +kernel
theorem dX5_size_21 : decode cX5_size 21 = .ok (.iload_n 1, 1) := by decide +kernel
theorem dX5_size_22 : decode cX5_size 22 = .ok (.ireturn, 1) := by decide +kernel
set_option maxRecDepth 20000 in
theorem ggX5_areUnlike_X5_alikeTo : GoodIn wsX5_areUnlike wsX5_alikeTo := goodIn_r _ [6, 1, 7, 8, 9, 10, 5, 11, 12, 13, 14, 15, 16, 17, 18, 19, 20, 21, 22, 23, 24, 25, 26, 27, 28, 29, 30, 31, 32, 33, 34] (by decide +kernel) (by decide +kernel)
set_option maxRecDepth 20000 in
theorem gX5_areUnlike_X5_alikeTo : GoodIn wsX5_areUnlike (wsV RX5 129 RX5 yX5_alikeTo wsX5_alikeTo) := goodIn_app (goodIn_of _ (by decide +kernel)) ggX5_areUnlike_X5_alikeTo
theorem dX5_areUnlike_0 : decode cX5_areUnlike 0 = .ok (.iconst 0, 1) := by decide +kernel
theorem dX5_areUnlike_1 : decode cX5_areUnlike 1 = .ok (.istore_n 2, 1) := by decide +kernel
theorem dX5_areUnlike_2 : decode cX5_areUnlike 2 = .ok (.iload_n 2, 1) := by decide +kernel
theorem dX5_areUnlike_3 : decode cX5_areUnlike 3 = .ok (.aload_n 0, 1) := by decide +kernel
theorem dX5_areUnlike_4 : decode cX5_areUnlike 4 = .ok (.getfield 57, 3) := by decide +kernel
theorem dX5_areUnlike_7 : decode cX5_areUnlike 7 = .ok (.if_icmp .ge 30, 3) := by decide +kernel
theorem dX5_areUnlike_10 : decode cX5_areUnlike 10 = .ok (.iload_n 1, 1) := by decide +kernel
theorem dX5_areUnlike_11 : decode cX5_areUnlike 11 = .ok (.iload_n 2, 1) := by decide +kernel
theorem dX5_areUnlike_12 : decode cX5_areUnlike 12 = .ok (.ishr, 1) := by decide +kernel
theorem dX5_areUnlike_13 : decode cX5_areUnlike 13 = .ok (.iconst 1, 1) := by decide +kernel
theorem dX5_areUnlike_14 : decode cX5_areUnlike 14 = .ok (.iand, 1) := by decide +kernel
theorem dX5_areUnlike_15 : decode cX5_areUnlike 15 = .ok (.iconst 1, 1) := by decide +kernel
theorem dX5_areUnlike_16 : decode cX5_areUnlike 16 = .ok (.if_icmp .ne 15, 3) := by decide +kernel
theorem dX5_areUnlike_19 : decode cX5_areUnlike 19 = .ok (.aload_n 0, 1) := by decide +kernel
theorem dX5_areUnlike_20 : decode cX5_areUnlike 20 = .ok (.iload_n 2, 1) := by decide +kernel
theorem dX5_areUnlike_21 : decode cX5_areUnlike 21 = .ok (.invokevirtual 129, 3) := by decide +kernel
theorem dX5_areUnlike_24 : decode cX5_areUnlike 24 = .ok (.iload_n 1, 1) := by decide +kernel
theorem dX5_areUnlike_25 : decode cX5_areUnlike 25 = .ok (.iand, 1) := by decide +kernel
theorem dX5_areUnlike_26 : decode cX5_areUnlike 26 = .ok (.ifCond .eq 5, 3) := by decide +kernel
theorem dX5_areUnlike_29 : decode cX5_areUnlike 29 = .ok (.iconst 0, 1) := by decide +kernel
theorem dX5_areUnlike_30 : decode cX5_areUnlike 30 = .ok (.ireturn, 1) := by decide +kernel
theorem dX5_areUnlike_31 : decode cX5_areUnlike 31 = .ok (.iinc 2 1, 3) := by decide +kernel
theorem dX5_areUnlike_34 : decode cX5_areUnlike 34 = .ok (.goto (-32), 3) := by decide +kernel
theorem dX5_areUnlike_37 : decode cX5_areUnlike 37 = .ok (.iconst 1, 1) := by decide +kernel
theorem dX5_areUnlike_38 : decode cX5_areUnlike 38 = .ok (.ireturn, 1) := by decide +kernel
set_option maxRecDepth 20000 in
theorem ggX5_most_X5_size : GoodIn wsX5_most wsX5_size := goodIn_r _ [5] (by decide +kernel) (by decide +kernel)
set_option maxRecDepth 20000 in
theorem gX5_most_X5_size : GoodIn wsX5_most (va_wsS RX5 132 yX5_size wsX5_size) := goodIn_app (goodIn_of _ (by decide +kernel)) ggX5_most_X5_size
set_option maxRecDepth 20000 in
theorem ggX5_most_X5_areUnlike : GoodIn wsX5_most wsX5_areUnlike := goodIn_r _ [9, 1, 10, 11, 12, 4, 13, 14, 15, 16, 17, 18, 19, 20, 21, 22, 23, 24, 25, 26, 27, 28, 29, 30, 31, 32, 33, 34, 35, 36, 37, 38, 39, 40, 41] (by decide +kernel) (by decide +kernel)
set_option maxRecDepth 20000 in
theorem gX5_most_X5_areUnlike : GoodIn wsX5_most (wsV RX5 135 RX5 yX5_areUnlike wsX5_areUnlike) := goodIn_app (goodIn_of _ (by decide +kernel)) ggX5_most_X5_areUnlike
theorem dX5_most_0 : decode cX5_most 0 = .ok (.aload_n 0, 1) := by decide +kernel
theorem dX5_most_1 : decode cX5_most 1 = .ok (.getfield 57, 3) := by decide +kernel
theorem dX5_most_4 : decode cX5_most 4 = .ok (.ifCond .ne 6, 3) := by decide +kernel
theorem dX5_most_7 : decode cX5_most 7 = .ok (.bipush (-3), 2) := by decide +kernel
theorem dX5_most_9 : decode cX5_most 9 = .ok (.ireturn, 1) := by decide +kernel
theorem dX5_most_10 : decode cX5_most 10 = .ok (.iconst 0, 1) := by decide +kernel
theorem dX5_most_11 : decode cX5_most 11 = .ok (.istore_n 1, 1) := by decide +kernel
theorem dX5_most_12 : decode cX5_most 12 = .ok (.iconst 1, 1) := by decide +kernel
theorem dX5_most_13 : decode cX5_most 13 = .ok (.istore_n 2, 1) := by decide +kernel
theorem dX5_most_14 : decode cX5_most 14 = .ok (.iload_n 2, 1) := by decide +kernel
theorem dX5_most_15 : decode cX5_most 15 = .ok (.iconst 1, 1) := by decide +kernel
theorem dX5_most_16 : decode cX5_most 16 = .ok (.aload_n 0, 1) := by decide +kernel
theorem dX5_most_17 : decode cX5_most 17 = .ok (.getfield 57, 3) := by decide +kernel
theorem dX5_most_20 : decode cX5_most 20 = .ok (.ishl, 1) := by decide +kernel
theorem dX5_most_21 : decode cX5_most 21 = .ok (.if_icmp .ge 30, 3) := by decide +kernel
theorem dX5_most_24 : decode cX5_most 24 = .ok (.iload_n 2, 1) := by decide +kernel
theorem dX5_most_25 : decode cX5_most 25 = .ok (.invokestatic 132, 3) := by decide +kernel
theorem dX5_most_28 : decode cX5_most 28 = .ok (.iload_n 1, 1) := by decide +kernel
theorem dX5_most_29 : decode cX5_most 29 = .ok (.invokestatic 132, 3) := by decide +kernel
theorem dX5_most_32 : decode cX5_most 32 = .ok (.if_icmp .le 13, 3) := by decide +kernel
theorem dX5_most_35 : decode cX5_most 35 = .ok (.aload_n 0, 1) := by decide +kernel
theorem dX5_most_36 : decode cX5_most 36 = .ok (.iload_n 2, 1) := by decide +kernel
theorem dX5_most_37 : decode cX5_most 37 = .ok (.invokevirtual 135, 3) := by decide +kernel
theorem dX5_most_40 : decode cX5_most 40 = .ok (.ifCond .eq 5, 3) := by decide +kernel
theorem dX5_most_43 : decode cX5_most 43 = .ok (.iload_n 2, 1) := by decide +kernel
theorem dX5_most_44 : decode cX5_most 44 = .ok (.istore_n 1, 1) := by decide +kernel
theorem dX5_most_45 : decode cX5_most 45 = .ok (.iinc 2 1, 3) := by decide +kernel
theorem dX5_most_48 : decode cX5_most 48 = .ok (.goto (-34), 3) := by decide +kernel
theorem dX5_most_51 : decode cX5_most 51 = .ok (.iload_n 1, 1) := by decide +kernel
theorem dX5_most_52 : decode cX5_most 52 = .ok (.ireturn, 1) := by decide +kernel
set_option maxRecDepth 20000 in
theorem ggX5_goneOf_X5_fitsOf : GoodIn wsX5_goneOf wsX5_fitsOf := goodIn_r _ [6, 1, 7, 8, 9, 5, 10, 11, 12, 13, 14, 15, 16, 17, 18, 19, 20, 21, 22, 23, 24, 25, 26, 27, 28, 29, 30, 31, 32, 33, 34, 35, 36, 37, 38, 39, 40, 41, 42, 43, 44, 45, 46, 47] (by decide +kernel) (by decide +kernel)
set_option maxRecDepth 20000 in
theorem gX5_goneOf_X5_fitsOf : GoodIn wsX5_goneOf (wsV RX5 126 RX5 yX5_fitsOf wsX5_fitsOf) := goodIn_app (goodIn_of _ (by decide +kernel)) ggX5_goneOf_X5_fitsOf
theorem dX5_goneOf_0 : decode cX5_goneOf 0 = .ok (.iconst 0, 1) := by decide +kernel
theorem dX5_goneOf_1 : decode cX5_goneOf 1 = .ok (.istore_n 3, 1) := by decide +kernel
theorem dX5_goneOf_2 : decode cX5_goneOf 2 = .ok (.iconst 0, 1) := by decide +kernel
theorem dX5_goneOf_3 : decode cX5_goneOf 3 = .ok (.istore 4, 2) := by decide +kernel
theorem dX5_goneOf_5 : decode cX5_goneOf 5 = .ok (.iload 4, 2) := by decide +kernel
theorem dX5_goneOf_7 : decode cX5_goneOf 7 = .ok (.aload_n 0, 1) := by decide +kernel
theorem dX5_goneOf_8 : decode cX5_goneOf 8 = .ok (.getfield 57, 3) := by decide +kernel
theorem dX5_goneOf_11 : decode cX5_goneOf 11 = .ok (.if_icmp .ge 32, 3) := by decide +kernel
theorem dX5_goneOf_14 : decode cX5_goneOf 14 = .ok (.iload_n 3, 1) := by decide +kernel
theorem dX5_goneOf_15 : decode cX5_goneOf 15 = .ok (.aload_n 0, 1) := by decide +kernel
theorem dX5_goneOf_16 : decode cX5_goneOf 16 = .ok (.iload 4, 2) := by decide +kernel
theorem dX5_goneOf_18 : decode cX5_goneOf 18 = .ok (.iload_n 2, 1) := by decide +kernel
theorem dX5_goneOf_19 : decode cX5_goneOf 19 = .ok (.invokevirtual 126, 3) := by decide +kernel
theorem dX5_goneOf_22 : decode cX5_goneOf 22 = .ok (.iload_n 1, 1) := by decide +kernel
theorem dX5_goneOf_23 : decode cX5_goneOf 23 = .ok (.iand, 1) := by decide +kernel
theorem dX5_goneOf_24 : decode cX5_goneOf 24 = .ok (.ifCond .eq 10, 3) := by decide +kernel
theorem dX5_goneOf_27 : decode cX5_goneOf 27 = .ok (.iconst 1, 1) := by decide +kernel
theorem dX5_goneOf_28 : decode cX5_goneOf 28 = .ok (.iload 4, 2) := by decide +kernel
theorem dX5_goneOf_30 : decode cX5_goneOf 30 = .ok (.ishl, 1) := by decide +kernel
theorem dX5_goneOf_31 : decode cX5_goneOf 31 = .ok (.goto 4, 3) := by decide +kernel
theorem dX5_goneOf_34 : decode cX5_goneOf 34 = .ok (.iconst 0, 1) := by decide +kernel
theorem dX5_goneOf_35 : decode cX5_goneOf 35 = .ok (.ior, 1) := by decide +kernel
theorem dX5_goneOf_36 : decode cX5_goneOf 36 = .ok (.istore_n 3, 1) := by decide +kernel
theorem dX5_goneOf_37 : decode cX5_goneOf 37 = .ok (.iinc 4 1, 3) := by decide +kernel
theorem dX5_goneOf_40 : decode cX5_goneOf 40 = .ok (.goto (-35), 3) := by decide +kernel
theorem dX5_goneOf_43 : decode cX5_goneOf 43 = .ok (.iload_n 3, 1) := by decide +kernel
theorem dX5_goneOf_44 : decode cX5_goneOf 44 = .ok (.ireturn, 1) := by decide +kernel
set_option maxRecDepth 20000 in
theorem ggX5_letGo_X5_isSet : GoodIn wsX5_letGo wsX5_isSet := goodIn_r _ [6, 1, 39, 40, 41, 42, 43, 44, 45, 46, 47, 48, 49, 50, 51, 52, 53, 54, 55, 56, 57, 58, 59, 60, 61] (by decide +kernel) (by decide +kernel)
set_option maxRecDepth 20000 in
theorem gX5_letGo_X5_isSet : GoodIn wsX5_letGo (wsV RX5 138 RX5 yX5_isSet wsX5_isSet) := goodIn_app (goodIn_of _ (by decide +kernel)) ggX5_letGo_X5_isSet
set_option maxRecDepth 20000 in
theorem ggX5_letGo_X5_isDigit : GoodIn wsX5_letGo wsX5_isDigit := goodIn_r _ [9, 10, 11, 5, 12] (by decide +kernel) (by decide +kernel)
set_option maxRecDepth 20000 in
theorem gX5_letGo_X5_isDigit : GoodIn wsX5_letGo (va_wsS RX5 109 yX5_isDigit wsX5_isDigit) := goodIn_app (goodIn_of _ (by decide +kernel)) ggX5_letGo_X5_isDigit
set_option maxRecDepth 20000 in
theorem ggX5_letGo_X5_goneOf : GoodIn wsX5_letGo wsX5_goneOf := goodIn_r _ [16, 1, 17, 18, 19, 5, 20, 21, 22, 23, 24, 25, 26, 27, 28, 29, 30, 31, 32, 33, 34, 35, 36, 37, 38, 39, 40, 41, 42, 43, 44, 45, 46, 47, 48, 49, 50, 51, 52, 53, 54, 55, 56, 57, 58, 59, 60, 61] (by decide +kernel) (by decide +kernel)
set_option maxRecDepth 20000 in
theorem gX5_letGo_X5_goneOf : GoodIn wsX5_letGo (wsV RX5 141 RX5 yX5_goneOf wsX5_goneOf) := goodIn_app (goodIn_of _ (by decide +kernel)) ggX5_letGo_X5_goneOf
theorem dX5_letGo_0 : decode cX5_letGo 0 = .ok (.aload_n 0, 1) := by decide +kernel
theorem dX5_letGo_1 : decode cX5_letGo 1 = .ok (.getfield 57, 3) := by decide +kernel
theorem dX5_letGo_4 : decode cX5_letGo 4 = .ok (.ifCond .ne 6, 3) := by decide +kernel
theorem dX5_letGo_7 : decode cX5_letGo 7 = .ok (.bipush (-3), 2) := by decide +kernel
theorem dX5_letGo_9 : decode cX5_letGo 9 = .ok (.ireturn, 1) := by decide +kernel
theorem dX5_letGo_10 : decode cX5_letGo 10 = .ok (.aload_n 0, 1) := by decide +kernel
theorem dX5_letGo_11 : decode cX5_letGo 11 = .ok (.iload_n 1, 1) := by decide +kernel
theorem dX5_letGo_12 : decode cX5_letGo 12 = .ok (.invokevirtual 138, 3) := by decide +kernel
theorem dX5_letGo_15 : decode cX5_letGo 15 = .ok (.ifCond .eq 19, 3) := by decide +kernel
theorem dX5_letGo_18 : decode cX5_letGo 18 = .ok (.iload_n 2, 1) := by decide +kernel
theorem dX5_letGo_19 : decode cX5_letGo 19 = .ok (.invokestatic 109, 3) := by decide +kernel
theorem dX5_letGo_22 : decode cX5_letGo 22 = .ok (.ifCond .eq 12, 3) := by decide +kernel
theorem dX5_letGo_25 : decode cX5_letGo 25 = .ok (.aload_n 0, 1) := by decide +kernel
theorem dX5_letGo_26 : decode cX5_letGo 26 = .ok (.iload_n 1, 1) := by decide +kernel
theorem dX5_letGo_27 : decode cX5_letGo 27 = .ok (.iload_n 2, 1) := by decide +kernel
theorem dX5_letGo_28 : decode cX5_letGo 28 = .ok (.invokevirtual 141, 3) := by decide +kernel
theorem dX5_letGo_31 : decode cX5_letGo 31 = .ok (.goto 5, 3) := by decide +kernel
theorem dX5_letGo_34 : decode cX5_letGo 34 = .ok (.bipush (-2), 2) := by decide +kernel
theorem dX5_letGo_36 : decode cX5_letGo 36 = .ok (.ireturn, 1) := by decide +kernel
set_option maxRecDepth 20000 in
theorem ggX5_fewest_X5_isDigit : GoodIn wsX5_fewest wsX5_isDigit := goodIn_r _ [5, 6, 7, 4, 8] (by decide +kernel) (by decide +kernel)
set_option maxRecDepth 20000 in
theorem gX5_fewest_X5_isDigit : GoodIn wsX5_fewest (va_wsS RX5 109 yX5_isDigit wsX5_isDigit) := goodIn_app (goodIn_of _ (by decide +kernel)) ggX5_fewest_X5_isDigit
set_option maxRecDepth 20000 in
theorem ggX5_fewest_X5_size : GoodIn wsX5_fewest wsX5_size := goodIn_r _ [11] (by decide +kernel) (by decide +kernel)
set_option maxRecDepth 20000 in
theorem gX5_fewest_X5_size : GoodIn wsX5_fewest (va_wsS RX5 132 yX5_size wsX5_size) := goodIn_app (goodIn_of _ (by decide +kernel)) ggX5_fewest_X5_size
set_option maxRecDepth 20000 in
theorem ggX5_fewest_X5_goneOf : GoodIn wsX5_fewest wsX5_goneOf := goodIn_r _ [15, 1, 16, 17, 18, 4, 19, 20, 21, 22, 23, 24, 25, 26, 27, 28, 29, 30, 31, 32, 33, 34, 35, 36, 37, 38, 39, 40, 41, 42, 43, 44, 45, 46, 47, 48, 49, 50, 51, 52, 53, 54, 55, 56, 57, 58, 59, 60] (by decide +kernel) (by decide +kernel)
set_option maxRecDepth 20000 in
theorem gX5_fewest_X5_goneOf : GoodIn wsX5_fewest (wsV RX5 141 RX5 yX5_goneOf wsX5_goneOf) := goodIn_app (goodIn_of _ (by decide +kernel)) ggX5_fewest_X5_goneOf
theorem dX5_fewest_0 : decode cX5_fewest 0 = .ok (.iload_n 1, 1) := by decide +kernel
theorem dX5_fewest_1 : decode cX5_fewest 1 = .ok (.invokestatic 109, 3) := by decide +kernel
theorem dX5_fewest_4 : decode cX5_fewest 4 = .ok (.ifCond .ne 6, 3) := by decide +kernel
theorem dX5_fewest_7 : decode cX5_fewest 7 = .ok (.bipush (-2), 2) := by decide +kernel
theorem dX5_fewest_9 : decode cX5_fewest 9 = .ok (.ireturn, 1) := by decide +kernel
theorem dX5_fewest_10 : decode cX5_fewest 10 = .ok (.aload_n 0, 1) := by decide +kernel
theorem dX5_fewest_11 : decode cX5_fewest 11 = .ok (.getfield 57, 3) := by decide +kernel
theorem dX5_fewest_14 : decode cX5_fewest 14 = .ok (.ifCond .ne 6, 3) := by decide +kernel
theorem dX5_fewest_17 : decode cX5_fewest 17 = .ok (.bipush (-3), 2) := by decide +kernel
theorem dX5_fewest_19 : decode cX5_fewest 19 = .ok (.ireturn, 1) := by decide +kernel
theorem dX5_fewest_20 : decode cX5_fewest 20 = .ok (.bipush (-9), 2) := by decide +kernel
theorem dX5_fewest_22 : decode cX5_fewest 22 = .ok (.istore_n 2, 1) := by decide +kernel
theorem dX5_fewest_23 : decode cX5_fewest 23 = .ok (.iconst 0, 1) := by decide +kernel
theorem dX5_fewest_24 : decode cX5_fewest 24 = .ok (.istore_n 3, 1) := by decide +kernel
theorem dX5_fewest_25 : decode cX5_fewest 25 = .ok (.iload_n 3, 1) := by decide +kernel
theorem dX5_fewest_26 : decode cX5_fewest 26 = .ok (.iconst 1, 1) := by decide +kernel
theorem dX5_fewest_27 : decode cX5_fewest 27 = .ok (.aload_n 0, 1) := by decide +kernel
theorem dX5_fewest_28 : decode cX5_fewest 28 = .ok (.getfield 57, 3) := by decide +kernel
theorem dX5_fewest_31 : decode cX5_fewest 31 = .ok (.ishl, 1) := by decide +kernel
theorem dX5_fewest_32 : decode cX5_fewest 32 = .ok (.if_icmp .ge 45, 3) := by decide +kernel
theorem dX5_fewest_35 : decode cX5_fewest 35 = .ok (.iload_n 2, 1) := by decide +kernel
theorem dX5_fewest_36 : decode cX5_fewest 36 = .ok (.bipush (-9), 2) := by decide +kernel
theorem dX5_fewest_38 : decode cX5_fewest 38 = .ok (.if_icmp .eq 14, 3) := by decide +kernel
theorem dX5_fewest_41 : decode cX5_fewest 41 = .ok (.iload_n 3, 1) := by decide +kernel
theorem dX5_fewest_42 : decode cX5_fewest 42 = .ok (.invokestatic 132, 3) := by decide +kernel
theorem dX5_fewest_45 : decode cX5_fewest 45 = .ok (.iload_n 2, 1) := by decide +kernel
theorem dX5_fewest_46 : decode cX5_fewest 46 = .ok (.invokestatic 132, 3) := by decide +kernel
theorem dX5_fewest_49 : decode cX5_fewest 49 = .ok (.if_icmp .ge 22, 3) := by decide +kernel
theorem dX5_fewest_52 : decode cX5_fewest 52 = .ok (.aload_n 0, 1) := by decide +kernel
theorem dX5_fewest_53 : decode cX5_fewest 53 = .ok (.iload_n 3, 1) := by decide +kernel
theorem dX5_fewest_54 : decode cX5_fewest 54 = .ok (.iload_n 1, 1) := by decide +kernel
theorem dX5_fewest_55 : decode cX5_fewest 55 = .ok (.invokevirtual 141, 3) := by decide +kernel
theorem dX5_fewest_58 : decode cX5_fewest 58 = .ok (.iconst 1, 1) := by decide +kernel
theorem dX5_fewest_59 : decode cX5_fewest 59 = .ok (.aload_n 0, 1) := by decide +kernel
theorem dX5_fewest_60 : decode cX5_fewest 60 = .ok (.getfield 57, 3) := by decide +kernel
theorem dX5_fewest_63 : decode cX5_fewest 63 = .ok (.ishl, 1) := by decide +kernel
theorem dX5_fewest_64 : decode cX5_fewest 64 = .ok (.iconst 1, 1) := by decide +kernel
theorem dX5_fewest_65 : decode cX5_fewest 65 = .ok (.isub, 1) := by decide +kernel
theorem dX5_fewest_66 : decode cX5_fewest 66 = .ok (.if_icmp .ne 5, 3) := by decide +kernel
theorem dX5_fewest_69 : decode cX5_fewest 69 = .ok (.iload_n 3, 1) := by decide +kernel
theorem dX5_fewest_70 : decode cX5_fewest 70 = .ok (.istore_n 2, 1) := by decide +kernel
theorem dX5_fewest_71 : decode cX5_fewest 71 = .ok (.iinc 3 1, 3) := by decide +kernel
theorem dX5_fewest_74 : decode cX5_fewest 74 = .ok (.goto (-49), 3) := by decide +kernel
theorem dX5_fewest_77 : decode cX5_fewest 77 = .ok (.iload_n 2, 1) := by decide +kernel
theorem dX5_fewest_78 : decode cX5_fewest 78 = .ok (.ireturn, 1) := by decide +kernel
set_option maxRecDepth 20000 in
theorem ggX5_voyages_X5_isSheet : GoodIn wsX5_voyages wsX5_isSheet := goodIn_r _ [7, 8, 9, 6, 10] (by decide +kernel) (by decide +kernel)
set_option maxRecDepth 20000 in
theorem gX5_voyages_X5_isSheet : GoodIn wsX5_voyages (va_wsS RX5 63 yX5_isSheet wsX5_isSheet) := goodIn_app (goodIn_of _ (by decide +kernel)) ggX5_voyages_X5_isSheet
set_option maxRecDepth 20000 in
theorem ggX5_voyages_X5_isSort : GoodIn wsX5_voyages wsX5_isSort := goodIn_r _ [13, 8, 9, 6, 10] (by decide +kernel) (by decide +kernel)
set_option maxRecDepth 20000 in
theorem gX5_voyages_X5_isSort : GoodIn wsX5_voyages (va_wsS RX5 67 yX5_isSort wsX5_isSort) := goodIn_app (goodIn_of _ (by decide +kernel)) ggX5_voyages_X5_isSort
set_option maxRecDepth 20000 in
theorem ggX5_voyages_X5_within : GoodIn wsX5_voyages wsX5_within := goodIn_r _ [10] (by decide +kernel) (by decide +kernel)
set_option maxRecDepth 20000 in
theorem gX5_voyages_X5_within : GoodIn wsX5_voyages (va_wsS RX5 53 yX5_within wsX5_within) := goodIn_app (goodIn_of _ (by decide +kernel)) ggX5_voyages_X5_within
set_option maxRecDepth 20000 in
theorem ggX5_voyages_X5_against : GoodIn wsX5_voyages wsX5_against := goodIn_r _ [17, 18, 19, 69, 70, 71, 72, 73, 74, 75, 76, 77, 78, 79, 80, 81, 82, 83, 84, 85, 86, 87, 88, 89, 90, 91] (by decide +kernel) (by decide +kernel)
set_option maxRecDepth 20000 in
theorem gX5_voyages_X5_against : GoodIn wsX5_voyages (wsV RX5 70 RX5 yX5_against wsX5_against) := goodIn_app (goodIn_of _ (by decide +kernel)) ggX5_voyages_X5_against
set_option maxRecDepth 20000 in
theorem ggX5_voyages_X5_fails : GoodIn wsX5_voyages wsX5_fails := goodIn_r _ [23, 1, 69, 70, 71, 72, 73, 74, 75, 76, 77, 78, 79, 80, 81, 82, 83, 84, 85, 86, 87, 88, 89, 90, 91] (by decide +kernel) (by decide +kernel)
set_option maxRecDepth 20000 in
theorem gX5_voyages_X5_fails : GoodIn wsX5_voyages (wsV RX5 74 RX5 yX5_fails wsX5_fails) := goodIn_app (goodIn_of _ (by decide +kernel)) ggX5_voyages_X5_fails
set_option maxRecDepth 20000 in
theorem ggX5_voyages_X5_isSet : GoodIn wsX5_voyages wsX5_isSet := goodIn_r _ [27, 2, 69, 70, 71, 72, 73, 74, 75, 76, 77, 78, 79, 80, 81, 82, 83, 84, 85, 86, 87, 88, 89, 90, 91] (by decide +kernel) (by decide +kernel)
set_option maxRecDepth 20000 in
theorem gX5_voyages_X5_isSet : GoodIn wsX5_voyages (wsV RX5 138 RX5 yX5_isSet wsX5_isSet) := goodIn_app (goodIn_of _ (by decide +kernel)) ggX5_voyages_X5_isSet
set_option maxRecDepth 20000 in
theorem ggX5_voyages_X5_isPass : GoodIn wsX5_voyages wsX5_isPass := goodIn_r _ [31, 2, 69, 70, 71, 72, 73, 74, 75, 76, 77, 78, 79, 80, 81, 82, 83, 84, 85, 86, 87, 88, 89, 90, 91] (by decide +kernel) (by decide +kernel)
set_option maxRecDepth 20000 in
theorem gX5_voyages_X5_isPass : GoodIn wsX5_voyages (wsV RX5 103 RX5 yX5_isPass wsX5_isPass) := goodIn_app (goodIn_of _ (by decide +kernel)) ggX5_voyages_X5_isPass
set_option maxRecDepth 20000 in
theorem ggX5_voyages_X5_isDigit : GoodIn wsX5_voyages wsX5_isDigit := goodIn_r _ [34, 8, 9, 6, 10] (by decide +kernel) (by decide +kernel)
set_option maxRecDepth 20000 in
theorem gX5_voyages_X5_isDigit : GoodIn wsX5_voyages (va_wsS RX5 109 yX5_isDigit wsX5_isDigit) := goodIn_app (goodIn_of _ (by decide +kernel)) ggX5_voyages_X5_isDigit
set_option maxRecDepth 20000 in
theorem ggX5_voyages_X5_goVoyages : GoodIn wsX5_voyages wsX5_goVoyages := goodIn_r _ [38, 39, 40, 41, 42, 3, 43, 44, 45, 6, 46, 2, 47, 48, 49, 50, 51, 52, 53, 54, 55, 56, 57, 58, 59, 60, 61, 62, 63, 64, 69, 70, 71, 72, 73, 74, 75, 76, 77, 78, 79, 80, 81, 82, 83, 84, 85, 86, 87, 88, 89, 90, 91] (by decide +kernel) (by decide +kernel)
set_option maxRecDepth 20000 in
theorem gX5_voyages_X5_goVoyages : GoodIn wsX5_voyages (wsV RX5 144 RX5 yX5_goVoyages wsX5_goVoyages) := goodIn_app (goodIn_of _ (by decide +kernel)) ggX5_voyages_X5_goVoyages
set_option maxRecDepth 20000 in
theorem ggX5_voyages_X5_tellVoyages : GoodIn wsX5_voyages wsX5_tellVoyages := goodIn_r _ [68, 42, 39, 40, 41, 28, 29, 30, 6, 31, 2, 69, 70, 71, 72, 73, 74, 75, 76, 77, 78, 79, 80, 81, 82, 83, 84, 85, 86, 87, 88, 89, 90, 91] (by decide +kernel) (by decide +kernel)
set_option maxRecDepth 20000 in
theorem gX5_voyages_X5_tellVoyages : GoodIn wsX5_voyages (wsV RX5 147 RX5 yX5_tellVoyages wsX5_tellVoyages) := goodIn_app (goodIn_of _ (by decide +kernel)) ggX5_voyages_X5_tellVoyages
theorem dX5_voyages_0 : decode cX5_voyages 0 = .ok (.aload_n 0, 1) := by decide +kernel
theorem dX5_voyages_1 : decode cX5_voyages 1 = .ok (.iconst 0, 1) := by decide +kernel
theorem dX5_voyages_2 : decode cX5_voyages 2 = .ok (.putfield 47, 3) := by decide +kernel
theorem dX5_voyages_5 : decode cX5_voyages 5 = .ok (.iload_n 2, 1) := by decide +kernel
theorem dX5_voyages_6 : decode cX5_voyages 6 = .ok (.invokestatic 63, 3) := by decide +kernel
theorem dX5_voyages_9 : decode cX5_voyages 9 = .ok (.ifCond .ne 5, 3) := by decide +kernel
theorem dX5_voyages_12 : decode cX5_voyages 12 = .ok (.iconst (-1), 1) := by decide +kernel
theorem dX5_voyages_13 : decode cX5_voyages 13 = .ok (.ireturn, 1) := by decide +kernel
theorem dX5_voyages_14 : decode cX5_voyages 14 = .ok (.iload_n 3, 1) := by decide +kernel
theorem dX5_voyages_15 : decode cX5_voyages 15 = .ok (.invokestatic 67, 3) := by decide +kernel
theorem dX5_voyages_18 : decode cX5_voyages 18 = .ok (.ifCond .eq 36, 3) := by decide +kernel
theorem dX5_voyages_21 : decode cX5_voyages 21 = .ok (.iload 5, 2) := by decide +kernel
theorem dX5_voyages_23 : decode cX5_voyages 23 = .ok (.iconst 0, 1) := by decide +kernel
theorem dX5_voyages_24 : decode cX5_voyages 24 = .ok (.bipush 20, 2) := by decide +kernel
theorem dX5_voyages_26 : decode cX5_voyages 26 = .ok (.invokestatic 53, 3) := by decide +kernel
theorem dX5_voyages_29 : decode cX5_voyages 29 = .ok (.ifCond .eq 25, 3) := by decide +kernel
theorem dX5_voyages_32 : decode cX5_voyages 32 = .ok (.iload 6, 2) := by decide +kernel
theorem dX5_voyages_34 : decode cX5_voyages 34 = .ok (.iconst 0, 1) := by decide +kernel
theorem dX5_voyages_35 : decode cX5_voyages 35 = .ok (.iconst 3, 1) := by decide +kernel
theorem dX5_voyages_36 : decode cX5_voyages 36 = .ok (.invokestatic 53, 3) := by decide +kernel
theorem dX5_voyages_39 : decode cX5_voyages 39 = .ok (.ifCond .ne 18, 3) := by decide +kernel
theorem dX5_voyages_42 : decode cX5_voyages 42 = .ok (.iload 6, 2) := by decide +kernel
theorem dX5_voyages_44 : decode cX5_voyages 44 = .ok (.bipush 10, 2) := by decide +kernel
theorem dX5_voyages_46 : decode cX5_voyages 46 = .ok (.bipush 15, 2) := by decide +kernel
theorem dX5_voyages_48 : decode cX5_voyages 48 = .ok (.invokestatic 53, 3) := by decide +kernel
theorem dX5_voyages_51 : decode cX5_voyages 51 = .ok (.ifCond .ne 6, 3) := by decide +kernel
theorem dX5_voyages_54 : decode cX5_voyages 54 = .ok (.bipush (-2), 2) := by decide +kernel
theorem dX5_voyages_56 : decode cX5_voyages 56 = .ok (.ireturn, 1) := by decide +kernel
theorem dX5_voyages_57 : decode cX5_voyages 57 = .ok (.aload_n 0, 1) := by decide +kernel
theorem dX5_voyages_58 : decode cX5_voyages 58 = .ok (.iload_n 2, 1) := by decide +kernel
theorem dX5_voyages_59 : decode cX5_voyages 59 = .ok (.iload_n 3, 1) := by decide +kernel
theorem dX5_voyages_60 : decode cX5_voyages 60 = .ok (.iload 4, 2) := by decide +kernel
theorem dX5_voyages_62 : decode cX5_voyages 62 = .ok (.iconst 2, 1) := by decide +kernel
theorem dX5_voyages_63 : decode cX5_voyages 63 = .ok (.iload 5, 2) := by decide +kernel
theorem dX5_voyages_65 : decode cX5_voyages 65 = .ok (.imul, 1) := by decide +kernel
theorem dX5_voyages_66 : decode cX5_voyages 66 = .ok (.invokevirtual 70, 3) := by decide +kernel
theorem dX5_voyages_69 : decode cX5_voyages 69 = .ok (.istore 7, 2) := by decide +kernel
theorem dX5_voyages_71 : decode cX5_voyages 71 = .ok (.iload 7, 2) := by decide +kernel
theorem dX5_voyages_73 : decode cX5_voyages 73 = .ok (.ifCond .eq 10, 3) := by decide +kernel
theorem dX5_voyages_76 : decode cX5_voyages 76 = .ok (.aload_n 0, 1) := by decide +kernel
theorem dX5_voyages_77 : decode cX5_voyages 77 = .ok (.iload 7, 2) := by decide +kernel
theorem dX5_voyages_79 : decode cX5_voyages 79 = .ok (.invokevirtual 74, 3) := by decide +kernel
theorem dX5_voyages_82 : decode cX5_voyages 82 = .ok (.ireturn, 1) := by decide +kernel
theorem dX5_voyages_83 : decode cX5_voyages 83 = .ok (.aload_n 0, 1) := by decide +kernel
theorem dX5_voyages_84 : decode cX5_voyages 84 = .ok (.getfield 57, 3) := by decide +kernel
theorem dX5_voyages_87 : decode cX5_voyages 87 = .ok (.ifCond .ne 6, 3) := by decide +kernel
theorem dX5_voyages_90 : decode cX5_voyages 90 = .ok (.bipush (-3), 2) := by decide +kernel
theorem dX5_voyages_92 : decode cX5_voyages 92 = .ok (.ireturn, 1) := by decide +kernel
theorem dX5_voyages_93 : decode cX5_voyages 93 = .ok (.aload_n 0, 1) := by decide +kernel
theorem dX5_voyages_94 : decode cX5_voyages 94 = .ok (.iload_n 1, 1) := by decide +kernel
theorem dX5_voyages_95 : decode cX5_voyages 95 = .ok (.invokevirtual 138, 3) := by decide +kernel
theorem dX5_voyages_98 : decode cX5_voyages 98 = .ok (.ifCond .ne 6, 3) := by decide +kernel
theorem dX5_voyages_101 : decode cX5_voyages 101 = .ok (.bipush (-2), 2) := by decide +kernel
theorem dX5_voyages_103 : decode cX5_voyages 103 = .ok (.ireturn, 1) := by decide +kernel
theorem dX5_voyages_104 : decode cX5_voyages 104 = .ok (.bipush 60, 2) := by decide +kernel
theorem dX5_voyages_106 : decode cX5_voyages 106 = .ok (.iload_n 2, 1) := by decide +kernel
theorem dX5_voyages_107 : decode cX5_voyages 107 = .ok (.imul, 1) := by decide +kernel
theorem dX5_voyages_108 : decode cX5_voyages 108 = .ok (.iload 4, 2) := by decide +kernel
theorem dX5_voyages_110 : decode cX5_voyages 110 = .ok (.iadd, 1) := by decide +kernel
theorem dX5_voyages_111 : decode cX5_voyages 111 = .ok (.istore 8, 2) := by decide +kernel
theorem dX5_voyages_113 : decode cX5_voyages 113 = .ok (.iconst 0, 1) := by decide +kernel
theorem dX5_voyages_114 : decode cX5_voyages 114 = .ok (.istore 9, 2) := by decide +kernel
theorem dX5_voyages_116 : decode cX5_voyages 116 = .ok (.iload 9, 2) := by decide +kernel
theorem dX5_voyages_118 : decode cX5_voyages 118 = .ok (.iload 5, 2) := by decide +kernel
theorem dX5_voyages_120 : decode cX5_voyages 120 = .ok (.if_icmp .ge 53, 3) := by decide +kernel
theorem dX5_voyages_123 : decode cX5_voyages 123 = .ok (.aload_n 0, 1) := by decide +kernel
theorem dX5_voyages_124 : decode cX5_voyages 124 = .ok (.aload_n 0, 1) := by decide +kernel
theorem dX5_voyages_125 : decode cX5_voyages 125 = .ok (.getfield 16, 3) := by decide +kernel
theorem dX5_voyages_128 : decode cX5_voyages 128 = .ok (.iload 8, 2) := by decide +kernel
theorem dX5_voyages_130 : decode cX5_voyages 130 = .ok (.iconst 2, 1) := by decide +kernel
theorem dX5_voyages_131 : decode cX5_voyages 131 = .ok (.iload 9, 2) := by decide +kernel
theorem dX5_voyages_133 : decode cX5_voyages 133 = .ok (.imul, 1) := by decide +kernel
theorem dX5_voyages_134 : decode cX5_voyages 134 = .ok (.iadd, 1) := by decide +kernel
theorem dX5_voyages_135 : decode cX5_voyages 135 = .ok (.iaload, 1) := by decide +kernel
theorem dX5_voyages_136 : decode cX5_voyages 136 = .ok (.invokevirtual 103, 3) := by decide +kernel
theorem dX5_voyages_139 : decode cX5_voyages 139 = .ok (.ifCond .ne 5, 3) := by decide +kernel
theorem dX5_voyages_142 : decode cX5_voyages 142 = .ok (.iconst (-1), 1) := by decide +kernel
theorem dX5_voyages_143 : decode cX5_voyages 143 = .ok (.ireturn, 1) := by decide +kernel
theorem dX5_voyages_144 : decode cX5_voyages 144 = .ok (.aload_n 0, 1) := by decide +kernel
theorem dX5_voyages_145 : decode cX5_voyages 145 = .ok (.getfield 16, 3) := by decide +kernel
theorem dX5_voyages_148 : decode cX5_voyages 148 = .ok (.iload 8, 2) := by decide +kernel
theorem dX5_voyages_150 : decode cX5_voyages 150 = .ok (.iconst 2, 1) := by decide +kernel
theorem dX5_voyages_151 : decode cX5_voyages 151 = .ok (.iload 9, 2) := by decide +kernel
theorem dX5_voyages_153 : decode cX5_voyages 153 = .ok (.imul, 1) := by decide +kernel
theorem dX5_voyages_154 : decode cX5_voyages 154 = .ok (.iadd, 1) := by decide +kernel
theorem dX5_voyages_155 : decode cX5_voyages 155 = .ok (.iconst 1, 1) := by decide +kernel
theorem dX5_voyages_156 : decode cX5_voyages 156 = .ok (.iadd, 1) := by decide +kernel
theorem dX5_voyages_157 : decode cX5_voyages 157 = .ok (.iaload, 1) := by decide +kernel
theorem dX5_voyages_158 : decode cX5_voyages 158 = .ok (.invokestatic 109, 3) := by decide +kernel
theorem dX5_voyages_161 : decode cX5_voyages 161 = .ok (.ifCond .ne 6, 3) := by decide +kernel
theorem dX5_voyages_164 : decode cX5_voyages 164 = .ok (.bipush (-2), 2) := by decide +kernel
theorem dX5_voyages_166 : decode cX5_voyages 166 = .ok (.ireturn, 1) := by decide +kernel
theorem dX5_voyages_167 : decode cX5_voyages 167 = .ok (.iinc 9 1, 3) := by decide +kernel
theorem dX5_voyages_170 : decode cX5_voyages 170 = .ok (.goto (-54), 3) := by decide +kernel
theorem dX5_voyages_173 : decode cX5_voyages 173 = .ok (.aload_n 0, 1) := by decide +kernel
theorem dX5_voyages_174 : decode cX5_voyages 174 = .ok (.iload_n 1, 1) := by decide +kernel
theorem dX5_voyages_175 : decode cX5_voyages 175 = .ok (.iload 8, 2) := by decide +kernel
theorem dX5_voyages_177 : decode cX5_voyages 177 = .ok (.iload 5, 2) := by decide +kernel
theorem dX5_voyages_179 : decode cX5_voyages 179 = .ok (.invokevirtual 144, 3) := by decide +kernel
theorem dX5_voyages_182 : decode cX5_voyages 182 = .ok (.istore 9, 2) := by decide +kernel
theorem dX5_voyages_184 : decode cX5_voyages 184 = .ok (.iload 6, 2) := by decide +kernel
theorem dX5_voyages_186 : decode cX5_voyages 186 = .ok (.iconst 1, 1) := by decide +kernel
theorem dX5_voyages_187 : decode cX5_voyages 187 = .ok (.if_icmp .ne 6, 3) := by decide +kernel
theorem dX5_voyages_190 : decode cX5_voyages 190 = .ok (.iload 9, 2) := by decide +kernel
theorem dX5_voyages_192 : decode cX5_voyages 192 = .ok (.ireturn, 1) := by decide +kernel
theorem dX5_voyages_193 : decode cX5_voyages 193 = .ok (.iload 9, 2) := by decide +kernel
theorem dX5_voyages_195 : decode cX5_voyages 195 = .ok (.bipush (-9), 2) := by decide +kernel
theorem dX5_voyages_197 : decode cX5_voyages 197 = .ok (.if_icmp .ne 12, 3) := by decide +kernel
theorem dX5_voyages_200 : decode cX5_voyages 200 = .ok (.aload_n 0, 1) := by decide +kernel
theorem dX5_voyages_201 : decode cX5_voyages 201 = .ok (.iload 6, 2) := by decide +kernel
theorem dX5_voyages_203 : decode cX5_voyages 203 = .ok (.invokevirtual 147, 3) := by decide +kernel
theorem dX5_voyages_206 : decode cX5_voyages 206 = .ok (.goto 8, 3) := by decide +kernel
theorem dX5_voyages_209 : decode cX5_voyages 209 = .ok (.bipush (-100), 2) := by decide +kernel
theorem dX5_voyages_211 : decode cX5_voyages 211 = .ok (.iload 9, 2) := by decide +kernel
theorem dX5_voyages_213 : decode cX5_voyages 213 = .ok (.isub, 1) := by decide +kernel
theorem dX5_voyages_214 : decode cX5_voyages 214 = .ok (.ireturn, 1) := by decide +kernel
set_option maxRecDepth 20000 in
theorem ggX5_goVoyages_X5_fitsOf : GoodIn wsX5_goVoyages wsX5_fitsOf := goodIn_r _ [10, 11, 12, 13, 14, 9, 15, 16, 17, 18, 19, 20, 21, 22, 23, 24, 25, 26, 27, 28, 29, 30, 31, 32, 33, 34, 35, 36, 37, 38, 39, 40, 41, 42, 43, 44, 45, 46, 47, 48, 49, 50, 51, 52] (by decide +kernel) (by decide +kernel)
set_option maxRecDepth 20000 in
theorem gX5_goVoyages_X5_fitsOf : GoodIn wsX5_goVoyages (wsV RX5 126 RX5 yX5_fitsOf wsX5_fitsOf) := goodIn_app (goodIn_of _ (by decide +kernel)) ggX5_goVoyages_X5_fitsOf
set_option maxRecDepth 20000 in
theorem ggX5_goVoyages_X5_isFit : GoodIn wsX5_goVoyages wsX5_isFit := goodIn_r _ [15, 16, 17, 18, 19, 9, 20, 21, 22, 23, 24, 25, 26, 27, 28, 29, 30, 31, 32, 33, 34, 35, 36, 37, 38, 39, 40, 41, 42, 43, 44, 45, 46, 47, 48, 49, 50, 51, 52] (by decide +kernel) (by decide +kernel)
set_option maxRecDepth 20000 in
theorem gX5_goVoyages_X5_isFit : GoodIn wsX5_goVoyages (wsV RX5 123 RX5 yX5_isFit wsX5_isFit) := goodIn_app (goodIn_of _ (by decide +kernel)) ggX5_goVoyages_X5_isFit
theorem dX5_goVoyages_0 : decode cX5_goVoyages 0 = .ok (.aload_n 0, 1) := by decide +kernel
theorem dX5_goVoyages_1 : decode cX5_goVoyages 1 = .ok (.iconst 0, 1) := by decide +kernel
theorem dX5_goVoyages_2 : decode cX5_goVoyages 2 = .ok (.putfield 150, 3) := by decide +kernel
theorem dX5_goVoyages_5 : decode cX5_goVoyages 5 = .ok (.aload_n 0, 1) := by decide +kernel
theorem dX5_goVoyages_6 : decode cX5_goVoyages 6 = .ok (.bipush (-9), 2) := by decide +kernel
theorem dX5_goVoyages_8 : decode cX5_goVoyages 8 = .ok (.putfield 153, 3) := by decide +kernel
theorem dX5_goVoyages_11 : decode cX5_goVoyages 11 = .ok (.aload_n 0, 1) := by decide +kernel
theorem dX5_goVoyages_12 : decode cX5_goVoyages 12 = .ok (.iconst 0, 1) := by decide +kernel
theorem dX5_goVoyages_13 : decode cX5_goVoyages 13 = .ok (.putfield 156, 3) := by decide +kernel
theorem dX5_goVoyages_16 : decode cX5_goVoyages 16 = .ok (.iconst 0, 1) := by decide +kernel
theorem dX5_goVoyages_17 : decode cX5_goVoyages 17 = .ok (.istore 4, 2) := by decide +kernel
theorem dX5_goVoyages_19 : decode cX5_goVoyages 19 = .ok (.iload 4, 2) := by decide +kernel
theorem dX5_goVoyages_21 : decode cX5_goVoyages 21 = .ok (.bipush 6, 2) := by decide +kernel
theorem dX5_goVoyages_23 : decode cX5_goVoyages 23 = .ok (.if_icmp .ge 17, 3) := by decide +kernel
theorem dX5_goVoyages_26 : decode cX5_goVoyages 26 = .ok (.aload_n 0, 1) := by decide +kernel
theorem dX5_goVoyages_27 : decode cX5_goVoyages 27 = .ok (.getfield 31, 3) := by decide +kernel
theorem dX5_goVoyages_30 : decode cX5_goVoyages 30 = .ok (.iload 4, 2) := by decide +kernel
theorem dX5_goVoyages_32 : decode cX5_goVoyages 32 = .ok (.iconst 0, 1) := by decide +kernel
theorem dX5_goVoyages_33 : decode cX5_goVoyages 33 = .ok (.iastore, 1) := by decide +kernel
theorem dX5_goVoyages_34 : decode cX5_goVoyages 34 = .ok (.iinc 4 1, 3) := by decide +kernel
theorem dX5_goVoyages_37 : decode cX5_goVoyages 37 = .ok (.goto (-18), 3) := by decide +kernel
theorem dX5_goVoyages_40 : decode cX5_goVoyages 40 = .ok (.iconst 0, 1) := by decide +kernel
theorem dX5_goVoyages_41 : decode cX5_goVoyages 41 = .ok (.istore 4, 2) := by decide +kernel
theorem dX5_goVoyages_43 : decode cX5_goVoyages 43 = .ok (.iload 4, 2) := by decide +kernel
theorem dX5_goVoyages_45 : decode cX5_goVoyages 45 = .ok (.iload_n 3, 1) := by decide +kernel
theorem dX5_goVoyages_46 : decode cX5_goVoyages 46 = .ok (.if_icmp .ge 149, 3) := by decide +kernel
theorem dX5_goVoyages_49 : decode cX5_goVoyages 49 = .ok (.aload_n 0, 1) := by decide +kernel
theorem dX5_goVoyages_50 : decode cX5_goVoyages 50 = .ok (.getfield 16, 3) := by decide +kernel
theorem dX5_goVoyages_53 : decode cX5_goVoyages 53 = .ok (.iload_n 2, 1) := by decide +kernel
theorem dX5_goVoyages_54 : decode cX5_goVoyages 54 = .ok (.iconst 2, 1) := by decide +kernel
theorem dX5_goVoyages_55 : decode cX5_goVoyages 55 = .ok (.iload 4, 2) := by decide +kernel
theorem dX5_goVoyages_57 : decode cX5_goVoyages 57 = .ok (.imul, 1) := by decide +kernel
theorem dX5_goVoyages_58 : decode cX5_goVoyages 58 = .ok (.iadd, 1) := by decide +kernel
theorem dX5_goVoyages_59 : decode cX5_goVoyages 59 = .ok (.iaload, 1) := by decide +kernel
theorem dX5_goVoyages_60 : decode cX5_goVoyages 60 = .ok (.istore 5, 2) := by decide +kernel
theorem dX5_goVoyages_62 : decode cX5_goVoyages 62 = .ok (.aload_n 0, 1) := by decide +kernel
theorem dX5_goVoyages_63 : decode cX5_goVoyages 63 = .ok (.getfield 16, 3) := by decide +kernel
theorem dX5_goVoyages_66 : decode cX5_goVoyages 66 = .ok (.iload_n 2, 1) := by decide +kernel
theorem dX5_goVoyages_67 : decode cX5_goVoyages 67 = .ok (.iconst 2, 1) := by decide +kernel
theorem dX5_goVoyages_68 : decode cX5_goVoyages 68 = .ok (.iload 4, 2) := by decide +kernel
theorem dX5_goVoyages_70 : decode cX5_goVoyages 70 = .ok (.imul, 1) := by decide +kernel
theorem dX5_goVoyages_71 : decode cX5_goVoyages 71 = .ok (.iadd, 1) := by decide +kernel
theorem dX5_goVoyages_72 : decode cX5_goVoyages 72 = .ok (.iconst 1, 1) := by decide +kernel
theorem dX5_goVoyages_73 : decode cX5_goVoyages 73 = .ok (.iadd, 1) := by decide +kernel
theorem dX5_goVoyages_74 : decode cX5_goVoyages 74 = .ok (.iaload, 1) := by decide +kernel
theorem dX5_goVoyages_75 : decode cX5_goVoyages 75 = .ok (.istore 6, 2) := by decide +kernel
theorem dX5_goVoyages_77 : decode cX5_goVoyages 77 = .ok (.iload 4, 2) := by decide +kernel
theorem dX5_goVoyages_79 : decode cX5_goVoyages 79 = .ok (.ifCond .le 24, 3) := by decide +kernel
theorem dX5_goVoyages_82 : decode cX5_goVoyages 82 = .ok (.iload 6, 2) := by decide +kernel
theorem dX5_goVoyages_84 : decode cX5_goVoyages 84 = .ok (.aload_n 0, 1) := by decide +kernel
theorem dX5_goVoyages_85 : decode cX5_goVoyages 85 = .ok (.getfield 16, 3) := by decide +kernel
theorem dX5_goVoyages_88 : decode cX5_goVoyages 88 = .ok (.iload_n 2, 1) := by decide +kernel
theorem dX5_goVoyages_89 : decode cX5_goVoyages 89 = .ok (.iconst 2, 1) := by decide +kernel
theorem dX5_goVoyages_90 : decode cX5_goVoyages 90 = .ok (.iload 4, 2) := by decide +kernel
theorem dX5_goVoyages_92 : decode cX5_goVoyages 92 = .ok (.imul, 1) := by decide +kernel
theorem dX5_goVoyages_93 : decode cX5_goVoyages 93 = .ok (.iadd, 1) := by decide +kernel
theorem dX5_goVoyages_94 : decode cX5_goVoyages 94 = .ok (.iconst 1, 1) := by decide +kernel
theorem dX5_goVoyages_95 : decode cX5_goVoyages 95 = .ok (.isub, 1) := by decide +kernel
theorem dX5_goVoyages_96 : decode cX5_goVoyages 96 = .ok (.iaload, 1) := by decide +kernel
theorem dX5_goVoyages_97 : decode cX5_goVoyages 97 = .ok (.if_icmp .ge 6, 3) := by decide +kernel
theorem dX5_goVoyages_100 : decode cX5_goVoyages 100 = .ok (.iload 4, 2) := by decide +kernel
theorem dX5_goVoyages_102 : decode cX5_goVoyages 102 = .ok (.ireturn, 1) := by decide +kernel
theorem dX5_goVoyages_103 : decode cX5_goVoyages 103 = .ok (.aload_n 0, 1) := by decide +kernel
theorem dX5_goVoyages_104 : decode cX5_goVoyages 104 = .ok (.iload 5, 2) := by decide +kernel
theorem dX5_goVoyages_106 : decode cX5_goVoyages 106 = .ok (.iload 6, 2) := by decide +kernel
theorem dX5_goVoyages_108 : decode cX5_goVoyages 108 = .ok (.invokevirtual 126, 3) := by decide +kernel
theorem dX5_goVoyages_111 : decode cX5_goVoyages 111 = .ok (.iload_n 1, 1) := by decide +kernel
theorem dX5_goVoyages_112 : decode cX5_goVoyages 112 = .ok (.iand, 1) := by decide +kernel
theorem dX5_goVoyages_113 : decode cX5_goVoyages 113 = .ok (.ifCond .eq 16, 3) := by decide +kernel
theorem dX5_goVoyages_116 : decode cX5_goVoyages 116 = .ok (.aload_n 0, 1) := by decide +kernel
theorem dX5_goVoyages_117 : decode cX5_goVoyages 117 = .ok (.dup, 1) := by decide +kernel
theorem dX5_goVoyages_118 : decode cX5_goVoyages 118 = .ok (.getfield 150, 3) := by decide +kernel
theorem dX5_goVoyages_121 : decode cX5_goVoyages 121 = .ok (.iconst 1, 1) := by decide +kernel
theorem dX5_goVoyages_122 : decode cX5_goVoyages 122 = .ok (.iadd, 1) := by decide +kernel
theorem dX5_goVoyages_123 : decode cX5_goVoyages 123 = .ok (.putfield 150, 3) := by decide +kernel
theorem dX5_goVoyages_126 : decode cX5_goVoyages 126 = .ok (.goto 63, 3) := by decide +kernel
theorem dX5_goVoyages_129 : decode cX5_goVoyages 129 = .ok (.aload_n 0, 1) := by decide +kernel
theorem dX5_goVoyages_130 : decode cX5_goVoyages 130 = .ok (.aload_n 0, 1) := by decide +kernel
theorem dX5_goVoyages_131 : decode cX5_goVoyages 131 = .ok (.getfield 153, 3) := by decide +kernel
theorem dX5_goVoyages_134 : decode cX5_goVoyages 134 = .ok (.bipush (-9), 2) := by decide +kernel
theorem dX5_goVoyages_136 : decode cX5_goVoyages 136 = .ok (.if_icmp .ne 8, 3) := by decide +kernel
theorem dX5_goVoyages_139 : decode cX5_goVoyages 139 = .ok (.iload 4, 2) := by decide +kernel
theorem dX5_goVoyages_141 : decode cX5_goVoyages 141 = .ok (.goto 7, 3) := by decide +kernel
theorem dX5_goVoyages_144 : decode cX5_goVoyages 144 = .ok (.aload_n 0, 1) := by decide +kernel
theorem dX5_goVoyages_145 : decode cX5_goVoyages 145 = .ok (.getfield 153, 3) := by decide +kernel
theorem dX5_goVoyages_148 : decode cX5_goVoyages 148 = .ok (.putfield 153, 3) := by decide +kernel
theorem dX5_goVoyages_151 : decode cX5_goVoyages 151 = .ok (.aload_n 0, 1) := by decide +kernel
theorem dX5_goVoyages_152 : decode cX5_goVoyages 152 = .ok (.dup, 1) := by decide +kernel
theorem dX5_goVoyages_153 : decode cX5_goVoyages 153 = .ok (.getfield 156, 3) := by decide +kernel
theorem dX5_goVoyages_156 : decode cX5_goVoyages 156 = .ok (.aload_n 0, 1) := by decide +kernel
theorem dX5_goVoyages_157 : decode cX5_goVoyages 157 = .ok (.iload 5, 2) := by decide +kernel
theorem dX5_goVoyages_159 : decode cX5_goVoyages 159 = .ok (.iload 5, 2) := by decide +kernel
theorem dX5_goVoyages_161 : decode cX5_goVoyages 161 = .ok (.iload 6, 2) := by decide +kernel
theorem dX5_goVoyages_163 : decode cX5_goVoyages 163 = .ok (.invokevirtual 123, 3) := by decide +kernel
theorem dX5_goVoyages_166 : decode cX5_goVoyages 166 = .ok (.ifCond .eq 7, 3) := by decide +kernel
theorem dX5_goVoyages_169 : decode cX5_goVoyages 169 = .ok (.iconst 1, 1) := by decide +kernel
theorem dX5_goVoyages_170 : decode cX5_goVoyages 170 = .ok (.goto 4, 3) := by decide +kernel
theorem dX5_goVoyages_173 : decode cX5_goVoyages 173 = .ok (.iconst 0, 1) := by decide +kernel
theorem dX5_goVoyages_174 : decode cX5_goVoyages 174 = .ok (.iadd, 1) := by decide +kernel
theorem dX5_goVoyages_175 : decode cX5_goVoyages 175 = .ok (.putfield 156, 3) := by decide +kernel
theorem dX5_goVoyages_178 : decode cX5_goVoyages 178 = .ok (.aload_n 0, 1) := by decide +kernel
theorem dX5_goVoyages_179 : decode cX5_goVoyages 179 = .ok (.getfield 31, 3) := by decide +kernel
theorem dX5_goVoyages_182 : decode cX5_goVoyages 182 = .ok (.iload 5, 2) := by decide +kernel
theorem dX5_goVoyages_184 : decode cX5_goVoyages 184 = .ok (.dup2, 1) := by decide +kernel
theorem dX5_goVoyages_185 : decode cX5_goVoyages 185 = .ok (.iaload, 1) := by decide +kernel
theorem dX5_goVoyages_186 : decode cX5_goVoyages 186 = .ok (.iconst 1, 1) := by decide +kernel
theorem dX5_goVoyages_187 : decode cX5_goVoyages 187 = .ok (.iadd, 1) := by decide +kernel
theorem dX5_goVoyages_188 : decode cX5_goVoyages 188 = .ok (.iastore, 1) := by decide +kernel
theorem dX5_goVoyages_189 : decode cX5_goVoyages 189 = .ok (.iinc 4 1, 3) := by decide +kernel
theorem dX5_goVoyages_192 : decode cX5_goVoyages 192 = .ok (.goto (-149), 3) := by decide +kernel
theorem dX5_goVoyages_195 : decode cX5_goVoyages 195 = .ok (.bipush (-9), 2) := by decide +kernel
theorem dX5_goVoyages_197 : decode cX5_goVoyages 197 = .ok (.ireturn, 1) := by decide +kernel
set_option maxRecDepth 20000 in
theorem ggX5_tellVoyages_X5_isPass : GoodIn wsX5_tellVoyages wsX5_isPass := goodIn_r _ [9, 10, 11, 12, 13, 14, 15, 16, 17, 18, 19, 20, 21, 22, 23, 24, 25, 26, 27, 28, 29, 30, 31, 32, 33] (by decide +kernel) (by decide +kernel)
set_option maxRecDepth 20000 in
theorem gX5_tellVoyages_X5_isPass : GoodIn wsX5_tellVoyages (wsV RX5 103 RX5 yX5_isPass wsX5_isPass) := goodIn_app (goodIn_of _ (by decide +kernel)) ggX5_tellVoyages_X5_isPass
theorem dX5_tellVoyages_0 : decode cX5_tellVoyages 0 = .ok (.iload_n 1, 1) := by decide +kernel
theorem dX5_tellVoyages_1 : decode cX5_tellVoyages 1 = .ok (.bipush 10, 2) := by decide +kernel
theorem dX5_tellVoyages_3 : decode cX5_tellVoyages 3 = .ok (.if_icmp .lt 29, 3) := by decide +kernel
theorem dX5_tellVoyages_6 : decode cX5_tellVoyages 6 = .ok (.aload_n 0, 1) := by decide +kernel
theorem dX5_tellVoyages_7 : decode cX5_tellVoyages 7 = .ok (.iload_n 1, 1) := by decide +kernel
theorem dX5_tellVoyages_8 : decode cX5_tellVoyages 8 = .ok (.bipush 10, 2) := by decide +kernel
theorem dX5_tellVoyages_10 : decode cX5_tellVoyages 10 = .ok (.isub, 1) := by decide +kernel
theorem dX5_tellVoyages_11 : decode cX5_tellVoyages 11 = .ok (.invokevirtual 103, 3) := by decide +kernel
theorem dX5_tellVoyages_14 : decode cX5_tellVoyages 14 = .ok (.ifCond .eq 15, 3) := by decide +kernel
theorem dX5_tellVoyages_17 : decode cX5_tellVoyages 17 = .ok (.aload_n 0, 1) := by decide +kernel
theorem dX5_tellVoyages_18 : decode cX5_tellVoyages 18 = .ok (.getfield 31, 3) := by decide +kernel
theorem dX5_tellVoyages_21 : decode cX5_tellVoyages 21 = .ok (.iload_n 1, 1) := by decide +kernel
theorem dX5_tellVoyages_22 : decode cX5_tellVoyages 22 = .ok (.bipush 10, 2) := by decide +kernel
theorem dX5_tellVoyages_24 : decode cX5_tellVoyages 24 = .ok (.isub, 1) := by decide +kernel
theorem dX5_tellVoyages_25 : decode cX5_tellVoyages 25 = .ok (.iaload, 1) := by decide +kernel
theorem dX5_tellVoyages_26 : decode cX5_tellVoyages 26 = .ok (.goto 5, 3) := by decide +kernel
theorem dX5_tellVoyages_29 : decode cX5_tellVoyages 29 = .ok (.bipush (-9), 2) := by decide +kernel
theorem dX5_tellVoyages_31 : decode cX5_tellVoyages 31 = .ok (.ireturn, 1) := by decide +kernel
theorem dX5_tellVoyages_32 : decode cX5_tellVoyages 32 = .ok (.iload_n 1, 1) := by decide +kernel
theorem dX5_tellVoyages_33 : decode cX5_tellVoyages 33 = .ok (.ifCond .ne 10, 3) := by decide +kernel
theorem dX5_tellVoyages_36 : decode cX5_tellVoyages 36 = .ok (.aload_n 0, 1) := by decide +kernel
theorem dX5_tellVoyages_37 : decode cX5_tellVoyages 37 = .ok (.getfield 150, 3) := by decide +kernel
theorem dX5_tellVoyages_40 : decode cX5_tellVoyages 40 = .ok (.goto 19, 3) := by decide +kernel
theorem dX5_tellVoyages_43 : decode cX5_tellVoyages 43 = .ok (.iload_n 1, 1) := by decide +kernel
theorem dX5_tellVoyages_44 : decode cX5_tellVoyages 44 = .ok (.iconst 2, 1) := by decide +kernel
theorem dX5_tellVoyages_45 : decode cX5_tellVoyages 45 = .ok (.if_icmp .ne 10, 3) := by decide +kernel
theorem dX5_tellVoyages_48 : decode cX5_tellVoyages 48 = .ok (.aload_n 0, 1) := by decide +kernel
theorem dX5_tellVoyages_49 : decode cX5_tellVoyages 49 = .ok (.getfield 153, 3) := by decide +kernel
theorem dX5_tellVoyages_52 : decode cX5_tellVoyages 52 = .ok (.goto 7, 3) := by decide +kernel
theorem dX5_tellVoyages_55 : decode cX5_tellVoyages 55 = .ok (.aload_n 0, 1) := by decide +kernel
theorem dX5_tellVoyages_56 : decode cX5_tellVoyages 56 = .ok (.getfield 156, 3) := by decide +kernel
theorem dX5_tellVoyages_59 : decode cX5_tellVoyages 59 = .ok (.ireturn, 1) := by decide +kernel
set_option maxRecDepth 20000 in
theorem ggX5_reading_X5_isPass : GoodIn wsX5_reading wsX5_isPass := goodIn_r _ [10, 11, 18, 19, 20, 21, 22, 23, 24, 25, 26, 27, 28, 29, 30, 31, 32, 33, 34, 35, 36, 37, 38, 39, 40] (by decide +kernel) (by decide +kernel)
set_option maxRecDepth 20000 in
theorem gX5_reading_X5_isPass : GoodIn wsX5_reading (wsV RX5 103 RX5 yX5_isPass wsX5_isPass) := goodIn_app (goodIn_of _ (by decide +kernel)) ggX5_reading_X5_isPass
set_option maxRecDepth 20000 in
theorem ggX5_reading_X5_isDigit : GoodIn wsX5_reading wsX5_isDigit := goodIn_r _ [14, 15, 16, 9, 17] (by decide +kernel) (by decide +kernel)
set_option maxRecDepth 20000 in
theorem gX5_reading_X5_isDigit : GoodIn wsX5_reading (va_wsS RX5 109 yX5_isDigit wsX5_isDigit) := goodIn_app (goodIn_of _ (by decide +kernel)) ggX5_reading_X5_isDigit
theorem dX5_reading_0 : decode cX5_reading 0 = .ok (.aload_n 0, 1) := by decide +kernel
theorem dX5_reading_1 : decode cX5_reading 1 = .ok (.iload_n 1, 1) := by decide +kernel
theorem dX5_reading_2 : decode cX5_reading 2 = .ok (.invokevirtual 103, 3) := by decide +kernel
theorem dX5_reading_5 : decode cX5_reading 5 = .ok (.ifCond .eq 11, 3) := by decide +kernel
theorem dX5_reading_8 : decode cX5_reading 8 = .ok (.aload_n 0, 1) := by decide +kernel
theorem dX5_reading_9 : decode cX5_reading 9 = .ok (.iload_n 2, 1) := by decide +kernel
theorem dX5_reading_10 : decode cX5_reading 10 = .ok (.invokevirtual 103, 3) := by decide +kernel
theorem dX5_reading_13 : decode cX5_reading 13 = .ok (.ifCond .ne 5, 3) := by decide +kernel
theorem dX5_reading_16 : decode cX5_reading 16 = .ok (.iconst (-1), 1) := by decide +kernel
theorem dX5_reading_17 : decode cX5_reading 17 = .ok (.ireturn, 1) := by decide +kernel
theorem dX5_reading_18 : decode cX5_reading 18 = .ok (.iload_n 3, 1) := by decide +kernel
theorem dX5_reading_19 : decode cX5_reading 19 = .ok (.invokestatic 109, 3) := by decide +kernel
theorem dX5_reading_22 : decode cX5_reading 22 = .ok (.ifCond .ne 6, 3) := by decide +kernel
theorem dX5_reading_25 : decode cX5_reading 25 = .ok (.bipush (-2), 2) := by decide +kernel
theorem dX5_reading_27 : decode cX5_reading 27 = .ok (.ireturn, 1) := by decide +kernel
theorem dX5_reading_28 : decode cX5_reading 28 = .ok (.aload_n 0, 1) := by decide +kernel
theorem dX5_reading_29 : decode cX5_reading 29 = .ok (.getfield 90, 3) := by decide +kernel
theorem dX5_reading_32 : decode cX5_reading 32 = .ok (.bipush 8, 2) := by decide +kernel
theorem dX5_reading_34 : decode cX5_reading 34 = .ok (.if_icmp .ne 6, 3) := by decide +kernel
theorem dX5_reading_37 : decode cX5_reading 37 = .ok (.bipush (-4), 2) := by decide +kernel
theorem dX5_reading_39 : decode cX5_reading 39 = .ok (.ireturn, 1) := by decide +kernel
theorem dX5_reading_40 : decode cX5_reading 40 = .ok (.aload_n 0, 1) := by decide +kernel
theorem dX5_reading_41 : decode cX5_reading 41 = .ok (.getfield 34, 3) := by decide +kernel
theorem dX5_reading_44 : decode cX5_reading 44 = .ok (.aload_n 0, 1) := by decide +kernel
theorem dX5_reading_45 : decode cX5_reading 45 = .ok (.getfield 90, 3) := by decide +kernel
theorem dX5_reading_48 : decode cX5_reading 48 = .ok (.iload_n 1, 1) := by decide +kernel
theorem dX5_reading_49 : decode cX5_reading 49 = .ok (.iastore, 1) := by decide +kernel
theorem dX5_reading_50 : decode cX5_reading 50 = .ok (.aload_n 0, 1) := by decide +kernel
theorem dX5_reading_51 : decode cX5_reading 51 = .ok (.getfield 37, 3) := by decide +kernel
theorem dX5_reading_54 : decode cX5_reading 54 = .ok (.aload_n 0, 1) := by decide +kernel
theorem dX5_reading_55 : decode cX5_reading 55 = .ok (.getfield 90, 3) := by decide +kernel
theorem dX5_reading_58 : decode cX5_reading 58 = .ok (.iload_n 2, 1) := by decide +kernel
theorem dX5_reading_59 : decode cX5_reading 59 = .ok (.iastore, 1) := by decide +kernel
theorem dX5_reading_60 : decode cX5_reading 60 = .ok (.aload_n 0, 1) := by decide +kernel
theorem dX5_reading_61 : decode cX5_reading 61 = .ok (.getfield 40, 3) := by decide +kernel
theorem dX5_reading_64 : decode cX5_reading 64 = .ok (.aload_n 0, 1) := by decide +kernel
theorem dX5_reading_65 : decode cX5_reading 65 = .ok (.getfield 90, 3) := by decide +kernel
theorem dX5_reading_68 : decode cX5_reading 68 = .ok (.iload_n 3, 1) := by decide +kernel
theorem dX5_reading_69 : decode cX5_reading 69 = .ok (.iastore, 1) := by decide +kernel
theorem dX5_reading_70 : decode cX5_reading 70 = .ok (.aload_n 0, 1) := by decide +kernel
theorem dX5_reading_71 : decode cX5_reading 71 = .ok (.getfield 43, 3) := by decide +kernel
theorem dX5_reading_74 : decode cX5_reading 74 = .ok (.aload_n 0, 1) := by decide +kernel
theorem dX5_reading_75 : decode cX5_reading 75 = .ok (.getfield 90, 3) := by decide +kernel
theorem dX5_reading_78 : decode cX5_reading 78 = .ok (.iload 4, 2) := by decide +kernel
theorem dX5_reading_80 : decode cX5_reading 80 = .ok (.bastore, 1) := by decide +kernel
theorem dX5_reading_81 : decode cX5_reading 81 = .ok (.aload_n 0, 1) := by decide +kernel
theorem dX5_reading_82 : decode cX5_reading 82 = .ok (.dup, 1) := by decide +kernel
theorem dX5_reading_83 : decode cX5_reading 83 = .ok (.getfield 90, 3) := by decide +kernel
theorem dX5_reading_86 : decode cX5_reading 86 = .ok (.iconst 1, 1) := by decide +kernel
theorem dX5_reading_87 : decode cX5_reading 87 = .ok (.iadd, 1) := by decide +kernel
theorem dX5_reading_88 : decode cX5_reading 88 = .ok (.putfield 90, 3) := by decide +kernel
theorem dX5_reading_91 : decode cX5_reading 91 = .ok (.aload_n 0, 1) := by decide +kernel
theorem dX5_reading_92 : decode cX5_reading 92 = .ok (.getfield 90, 3) := by decide +kernel
theorem dX5_reading_95 : decode cX5_reading 95 = .ok (.iconst 1, 1) := by decide +kernel
theorem dX5_reading_96 : decode cX5_reading 96 = .ok (.isub, 1) := by decide +kernel
theorem dX5_reading_97 : decode cX5_reading 97 = .ok (.ireturn, 1) := by decide +kernel
set_option maxRecDepth 20000 in
theorem ggX5_back_X5_within : GoodIn wsX5_back wsX5_within := goodIn_r _ [5] (by decide +kernel) (by decide +kernel)
set_option maxRecDepth 20000 in
theorem gX5_back_X5_within : GoodIn wsX5_back (va_wsS RX5 53 yX5_within wsX5_within) := goodIn_app (goodIn_of _ (by decide +kernel)) ggX5_back_X5_within
theorem dX5_back_0 : decode cX5_back 0 = .ok (.iload_n 1, 1) := by decide +kernel
theorem dX5_back_1 : decode cX5_back 1 = .ok (.iconst 0, 1) := by decide +kernel
theorem dX5_back_2 : decode cX5_back 2 = .ok (.aload_n 0, 1) := by decide +kernel
theorem dX5_back_3 : decode cX5_back 3 = .ok (.getfield 90, 3) := by decide +kernel
theorem dX5_back_6 : decode cX5_back 6 = .ok (.invokestatic 53, 3) := by decide +kernel
theorem dX5_back_9 : decode cX5_back 9 = .ok (.ifCond .ne 6, 3) := by decide +kernel
theorem dX5_back_12 : decode cX5_back 12 = .ok (.bipush (-2), 2) := by decide +kernel
theorem dX5_back_14 : decode cX5_back 14 = .ok (.ireturn, 1) := by decide +kernel
theorem dX5_back_15 : decode cX5_back 15 = .ok (.aload_n 0, 1) := by decide +kernel
theorem dX5_back_16 : decode cX5_back 16 = .ok (.dup, 1) := by decide +kernel
theorem dX5_back_17 : decode cX5_back 17 = .ok (.getfield 90, 3) := by decide +kernel
theorem dX5_back_20 : decode cX5_back 20 = .ok (.iload_n 1, 1) := by decide +kernel
theorem dX5_back_21 : decode cX5_back 21 = .ok (.isub, 1) := by decide +kernel
theorem dX5_back_22 : decode cX5_back 22 = .ok (.putfield 90, 3) := by decide +kernel
theorem dX5_back_25 : decode cX5_back 25 = .ok (.aload_n 0, 1) := by decide +kernel
theorem dX5_back_26 : decode cX5_back 26 = .ok (.getfield 90, 3) := by decide +kernel
theorem dX5_back_29 : decode cX5_back 29 = .ok (.ireturn, 1) := by decide +kernel
set_option maxRecDepth 20000 in
theorem ggX5_areSo_X5_isFit : GoodIn wsX5_areSo wsX5_isFit := goodIn_r _ [10, 11, 12, 13, 14, 9, 15, 16, 17, 18, 19, 20, 21, 22, 23, 24, 25, 26, 27, 28, 29, 30, 31, 32, 33, 34, 35, 36, 37, 38, 39, 40, 41, 42, 43, 44, 45, 46, 47] (by decide +kernel) (by decide +kernel)
set_option maxRecDepth 20000 in
theorem gX5_areSo_X5_isFit : GoodIn wsX5_areSo (wsV RX5 123 RX5 yX5_isFit wsX5_isFit) := goodIn_app (goodIn_of _ (by decide +kernel)) ggX5_areSo_X5_isFit
theorem dX5_areSo_0 : decode cX5_areSo 0 = .ok (.iconst 0, 1) := by decide +kernel
theorem dX5_areSo_1 : decode cX5_areSo 1 = .ok (.istore_n 1, 1) := by decide +kernel
theorem dX5_areSo_2 : decode cX5_areSo 2 = .ok (.iload_n 1, 1) := by decide +kernel
theorem dX5_areSo_3 : decode cX5_areSo 3 = .ok (.aload_n 0, 1) := by decide +kernel
theorem dX5_areSo_4 : decode cX5_areSo 4 = .ok (.getfield 90, 3) := by decide +kernel
theorem dX5_areSo_7 : decode cX5_areSo 7 = .ok (.if_icmp .ge 42, 3) := by decide +kernel
theorem dX5_areSo_10 : decode cX5_areSo 10 = .ok (.aload_n 0, 1) := by decide +kernel
theorem dX5_areSo_11 : decode cX5_areSo 11 = .ok (.aload_n 0, 1) := by decide +kernel
theorem dX5_areSo_12 : decode cX5_areSo 12 = .ok (.getfield 34, 3) := by decide +kernel
theorem dX5_areSo_15 : decode cX5_areSo 15 = .ok (.iload_n 1, 1) := by decide +kernel
theorem dX5_areSo_16 : decode cX5_areSo 16 = .ok (.iaload, 1) := by decide +kernel
theorem dX5_areSo_17 : decode cX5_areSo 17 = .ok (.aload_n 0, 1) := by decide +kernel
theorem dX5_areSo_18 : decode cX5_areSo 18 = .ok (.getfield 37, 3) := by decide +kernel
theorem dX5_areSo_21 : decode cX5_areSo 21 = .ok (.iload_n 1, 1) := by decide +kernel
theorem dX5_areSo_22 : decode cX5_areSo 22 = .ok (.iaload, 1) := by decide +kernel
theorem dX5_areSo_23 : decode cX5_areSo 23 = .ok (.aload_n 0, 1) := by decide +kernel
theorem dX5_areSo_24 : decode cX5_areSo 24 = .ok (.getfield 40, 3) := by decide +kernel
theorem dX5_areSo_27 : decode cX5_areSo 27 = .ok (.iload_n 1, 1) := by decide +kernel
theorem dX5_areSo_28 : decode cX5_areSo 28 = .ok (.iaload, 1) := by decide +kernel
theorem dX5_areSo_29 : decode cX5_areSo 29 = .ok (.invokevirtual 123, 3) := by decide +kernel
theorem dX5_areSo_32 : decode cX5_areSo 32 = .ok (.aload_n 0, 1) := by decide +kernel
theorem dX5_areSo_33 : decode cX5_areSo 33 = .ok (.getfield 43, 3) := by decide +kernel
theorem dX5_areSo_36 : decode cX5_areSo 36 = .ok (.iload_n 1, 1) := by decide +kernel
theorem dX5_areSo_37 : decode cX5_areSo 37 = .ok (.baload, 1) := by decide +kernel
theorem dX5_areSo_38 : decode cX5_areSo 38 = .ok (.if_icmp .eq 5, 3) := by decide +kernel
theorem dX5_areSo_41 : decode cX5_areSo 41 = .ok (.iconst 0, 1) := by decide +kernel
theorem dX5_areSo_42 : decode cX5_areSo 42 = .ok (.ireturn, 1) := by decide +kernel
theorem dX5_areSo_43 : decode cX5_areSo 43 = .ok (.iinc 1 1, 3) := by decide +kernel
theorem dX5_areSo_46 : decode cX5_areSo 46 = .ok (.goto (-44), 3) := by decide +kernel
theorem dX5_areSo_49 : decode cX5_areSo 49 = .ok (.iconst 1, 1) := by decide +kernel
theorem dX5_areSo_50 : decode cX5_areSo 50 = .ok (.ireturn, 1) := by decide +kernel
set_option maxRecDepth 20000 in
theorem ggX5_edges_X5_isPass : GoodIn wsX5_edges wsX5_isPass := goodIn_r _ [6, 7, 40, 41, 42, 43, 44, 45, 46, 47, 48, 49, 50, 51, 52, 53, 54, 55, 56, 57, 58, 59, 60, 61, 62] (by decide +kernel) (by decide +kernel)
set_option maxRecDepth 20000 in
theorem gX5_edges_X5_isPass : GoodIn wsX5_edges (wsV RX5 103 RX5 yX5_isPass wsX5_isPass) := goodIn_app (goodIn_of _ (by decide +kernel)) ggX5_edges_X5_isPass
set_option maxRecDepth 20000 in
theorem ggX5_edges_X5_isPlace : GoodIn wsX5_edges wsX5_isPlace := goodIn_r _ [10, 11, 12, 5, 13] (by decide +kernel) (by decide +kernel)
set_option maxRecDepth 20000 in
theorem gX5_edges_X5_isPlace : GoodIn wsX5_edges (va_wsS RX5 106 yX5_isPlace wsX5_isPlace) := goodIn_app (goodIn_of _ (by decide +kernel)) ggX5_edges_X5_isPlace
set_option maxRecDepth 20000 in
theorem ggX5_edges_X5_areSo : GoodIn wsX5_edges wsX5_areSo := goodIn_r _ [17, 18, 19, 20, 21, 22, 23, 24, 25, 5, 26, 27, 28, 29, 30, 31, 1, 32, 33, 34, 35, 36, 37, 38, 39, 40, 41, 42, 43, 44, 45, 46, 47, 48, 49, 50, 51, 52, 53, 54, 55, 56, 57, 58, 59, 60, 61, 62] (by decide +kernel) (by decide +kernel)
set_option maxRecDepth 20000 in
theorem gX5_edges_X5_areSo : GoodIn wsX5_edges (wsV RX5 159 RX5 yX5_areSo wsX5_areSo) := goodIn_app (goodIn_of _ (by decide +kernel)) ggX5_edges_X5_areSo
theorem dX5_edges_0 : decode cX5_edges 0 = .ok (.aload_n 0, 1) := by decide +kernel
theorem dX5_edges_1 : decode cX5_edges 1 = .ok (.iload_n 1, 1) := by decide +kernel
theorem dX5_edges_2 : decode cX5_edges 2 = .ok (.invokevirtual 103, 3) := by decide +kernel
theorem dX5_edges_5 : decode cX5_edges 5 = .ok (.ifCond .ne 5, 3) := by decide +kernel
theorem dX5_edges_8 : decode cX5_edges 8 = .ok (.iconst (-1), 1) := by decide +kernel
theorem dX5_edges_9 : decode cX5_edges 9 = .ok (.ireturn, 1) := by decide +kernel
theorem dX5_edges_10 : decode cX5_edges 10 = .ok (.iload_n 2, 1) := by decide +kernel
theorem dX5_edges_11 : decode cX5_edges 11 = .ok (.invokestatic 106, 3) := by decide +kernel
theorem dX5_edges_14 : decode cX5_edges 14 = .ok (.ifCond .ne 6, 3) := by decide +kernel
theorem dX5_edges_17 : decode cX5_edges 17 = .ok (.bipush (-2), 2) := by decide +kernel
theorem dX5_edges_19 : decode cX5_edges 19 = .ok (.ireturn, 1) := by decide +kernel
theorem dX5_edges_20 : decode cX5_edges 20 = .ok (.iconst 3, 1) := by decide +kernel
theorem dX5_edges_21 : decode cX5_edges 21 = .ok (.iload_n 1, 1) := by decide +kernel
theorem dX5_edges_22 : decode cX5_edges 22 = .ok (.imul, 1) := by decide +kernel
theorem dX5_edges_23 : decode cX5_edges 23 = .ok (.iload_n 2, 1) := by decide +kernel
theorem dX5_edges_24 : decode cX5_edges 24 = .ok (.iadd, 1) := by decide +kernel
theorem dX5_edges_25 : decode cX5_edges 25 = .ok (.istore_n 3, 1) := by decide +kernel
theorem dX5_edges_26 : decode cX5_edges 26 = .ok (.aload_n 0, 1) := by decide +kernel
theorem dX5_edges_27 : decode cX5_edges 27 = .ok (.getfield 22, 3) := by decide +kernel
theorem dX5_edges_30 : decode cX5_edges 30 = .ok (.iload_n 3, 1) := by decide +kernel
theorem dX5_edges_31 : decode cX5_edges 31 = .ok (.iaload, 1) := by decide +kernel
theorem dX5_edges_32 : decode cX5_edges 32 = .ok (.istore 4, 2) := by decide +kernel
theorem dX5_edges_34 : decode cX5_edges 34 = .ok (.iconst 0, 1) := by decide +kernel
theorem dX5_edges_35 : decode cX5_edges 35 = .ok (.istore 5, 2) := by decide +kernel
theorem dX5_edges_37 : decode cX5_edges 37 = .ok (.iconst 0, 1) := by decide +kernel
theorem dX5_edges_38 : decode cX5_edges 38 = .ok (.istore 6, 2) := by decide +kernel
theorem dX5_edges_40 : decode cX5_edges 40 = .ok (.iload 6, 2) := by decide +kernel
theorem dX5_edges_42 : decode cX5_edges 42 = .ok (.bipush 9, 2) := by decide +kernel
theorem dX5_edges_44 : decode cX5_edges 44 = .ok (.if_icmp .gt 37, 3) := by decide +kernel
theorem dX5_edges_47 : decode cX5_edges 47 = .ok (.aload_n 0, 1) := by decide +kernel
theorem dX5_edges_48 : decode cX5_edges 48 = .ok (.getfield 22, 3) := by decide +kernel
theorem dX5_edges_51 : decode cX5_edges 51 = .ok (.iload_n 3, 1) := by decide +kernel
theorem dX5_edges_52 : decode cX5_edges 52 = .ok (.iload 6, 2) := by decide +kernel
end
section
theorem dX5_edges_54 : decode cX5_edges 54 = .ok (.iastore, 1) := by decide +kernel
theorem dX5_edges_55 : decode cX5_edges 55 = .ok (.iload 5, 2) := by decide +kernel
theorem dX5_edges_57 : decode cX5_edges 57 = .ok (.aload_n 0, 1) := by decide +kernel
theorem dX5_edges_58 : decode cX5_edges 58 = .ok (.invokevirtual 159, 3) := by decide +kernel
theorem dX5_edges_61 : decode cX5_edges 61 = .ok (.ifCond .eq 10, 3) := by decide +kernel
theorem dX5_edges_64 : decode cX5_edges 64 = .ok (.iconst 1, 1) := by decide +kernel
theorem dX5_edges_65 : decode cX5_edges 65 = .ok (.iload 6, 2) := by decide +kernel
theorem dX5_edges_67 : decode cX5_edges 67 = .ok (.ishl, 1) := by decide +kernel
theorem dX5_edges_68 : decode cX5_edges 68 = .ok (.goto 4, 3) := by decide +kernel
theorem dX5_edges_71 : decode cX5_edges 71 = .ok (.iconst 0, 1) := by decide +kernel
theorem dX5_edges_72 : decode cX5_edges 72 = .ok (.ior, 1) := by decide +kernel
theorem dX5_edges_73 : decode cX5_edges 73 = .ok (.istore 5, 2) := by decide +kernel
theorem dX5_edges_75 : decode cX5_edges 75 = .ok (.iinc 6 1, 3) := by decide +kernel
theorem dX5_edges_78 : decode cX5_edges 78 = .ok (.goto (-38), 3) := by decide +kernel
theorem dX5_edges_81 : decode cX5_edges 81 = .ok (.aload_n 0, 1) := by decide +kernel
theorem dX5_edges_82 : decode cX5_edges 82 = .ok (.getfield 22, 3) := by decide +kernel
theorem dX5_edges_85 : decode cX5_edges 85 = .ok (.iload_n 3, 1) := by decide +kernel
theorem dX5_edges_86 : decode cX5_edges 86 = .ok (.iload 4, 2) := by decide +kernel
theorem dX5_edges_88 : decode cX5_edges 88 = .ok (.iastore, 1) := by decide +kernel
theorem dX5_edges_89 : decode cX5_edges 89 = .ok (.iload 5, 2) := by decide +kernel
theorem dX5_edges_91 : decode cX5_edges 91 = .ok (.ireturn, 1) := by decide +kernel
set_option maxRecDepth 20000 in
theorem ggX5_kinds_X5_isPass : GoodIn wsX5_kinds wsX5_isPass := goodIn_r _ [6, 7, 34, 35, 36, 37, 38, 39, 40, 41, 42, 43, 44, 45, 46, 47, 48, 49, 50, 51, 52, 53, 54, 55, 56] (by decide +kernel) (by decide +kernel)
set_option maxRecDepth 20000 in
theorem gX5_kinds_X5_isPass : GoodIn wsX5_kinds (wsV RX5 103 RX5 yX5_isPass wsX5_isPass) := goodIn_app (goodIn_of _ (by decide +kernel)) ggX5_kinds_X5_isPass
set_option maxRecDepth 20000 in
theorem ggX5_kinds_X5_areSo : GoodIn wsX5_kinds wsX5_areSo := goodIn_r _ [11, 12, 13, 14, 15, 16, 17, 18, 19, 5, 20, 21, 22, 23, 24, 25, 26, 27, 28, 29, 30, 1, 31, 32, 33, 34, 35, 36, 37, 38, 39, 40, 41, 42, 43, 44, 45, 46, 47, 48, 49, 50, 51, 52, 53, 54, 55, 56] (by decide +kernel) (by decide +kernel)
set_option maxRecDepth 20000 in
theorem gX5_kinds_X5_areSo : GoodIn wsX5_kinds (wsV RX5 159 RX5 yX5_areSo wsX5_areSo) := goodIn_app (goodIn_of _ (by decide +kernel)) ggX5_kinds_X5_areSo
theorem dX5_kinds_0 : decode cX5_kinds 0 = .ok (.aload_n 0, 1) := by decide +kernel
theorem dX5_kinds_1 : decode cX5_kinds 1 = .ok (.iload_n 1, 1) := by decide +kernel
theorem dX5_kinds_2 : decode cX5_kinds 2 = .ok (.invokevirtual 103, 3) := by decide +kernel
theorem dX5_kinds_5 : decode cX5_kinds 5 = .ok (.ifCond .ne 5, 3) := by decide +kernel
theorem dX5_kinds_8 : decode cX5_kinds 8 = .ok (.iconst (-1), 1) := by decide +kernel
theorem dX5_kinds_9 : decode cX5_kinds 9 = .ok (.ireturn, 1) := by decide +kernel
theorem dX5_kinds_10 : decode cX5_kinds 10 = .ok (.aload_n 0, 1) := by decide +kernel
theorem dX5_kinds_11 : decode cX5_kinds 11 = .ok (.getfield 19, 3) := by decide +kernel
theorem dX5_kinds_14 : decode cX5_kinds 14 = .ok (.iload_n 1, 1) := by decide +kernel
theorem dX5_kinds_15 : decode cX5_kinds 15 = .ok (.iaload, 1) := by decide +kernel
theorem dX5_kinds_16 : decode cX5_kinds 16 = .ok (.istore_n 2, 1) := by decide +kernel
theorem dX5_kinds_17 : decode cX5_kinds 17 = .ok (.iconst 0, 1) := by decide +kernel
theorem dX5_kinds_18 : decode cX5_kinds 18 = .ok (.istore_n 3, 1) := by decide +kernel
theorem dX5_kinds_19 : decode cX5_kinds 19 = .ok (.iconst 0, 1) := by decide +kernel
theorem dX5_kinds_20 : decode cX5_kinds 20 = .ok (.istore 4, 2) := by decide +kernel
theorem dX5_kinds_22 : decode cX5_kinds 22 = .ok (.iload 4, 2) := by decide +kernel
theorem dX5_kinds_24 : decode cX5_kinds 24 = .ok (.iconst 3, 1) := by decide +kernel
theorem dX5_kinds_25 : decode cX5_kinds 25 = .ok (.if_icmp .ge 35, 3) := by decide +kernel
theorem dX5_kinds_28 : decode cX5_kinds 28 = .ok (.aload_n 0, 1) := by decide +kernel
theorem dX5_kinds_29 : decode cX5_kinds 29 = .ok (.getfield 19, 3) := by decide +kernel
theorem dX5_kinds_32 : decode cX5_kinds 32 = .ok (.iload_n 1, 1) := by decide +kernel
theorem dX5_kinds_33 : decode cX5_kinds 33 = .ok (.iload 4, 2) := by decide +kernel
theorem dX5_kinds_35 : decode cX5_kinds 35 = .ok (.iastore, 1) := by decide +kernel
theorem dX5_kinds_36 : decode cX5_kinds 36 = .ok (.iload_n 3, 1) := by decide +kernel
theorem dX5_kinds_37 : decode cX5_kinds 37 = .ok (.aload_n 0, 1) := by decide +kernel
theorem dX5_kinds_38 : decode cX5_kinds 38 = .ok (.invokevirtual 159, 3) := by decide +kernel
theorem dX5_kinds_41 : decode cX5_kinds 41 = .ok (.ifCond .eq 10, 3) := by decide +kernel
theorem dX5_kinds_44 : decode cX5_kinds 44 = .ok (.iconst 1, 1) := by decide +kernel
theorem dX5_kinds_45 : decode cX5_kinds 45 = .ok (.iload 4, 2) := by decide +kernel
theorem dX5_kinds_47 : decode cX5_kinds 47 = .ok (.ishl, 1) := by decide +kernel
theorem dX5_kinds_48 : decode cX5_kinds 48 = .ok (.goto 4, 3) := by decide +kernel
theorem dX5_kinds_51 : decode cX5_kinds 51 = .ok (.iconst 0, 1) := by decide +kernel
theorem dX5_kinds_52 : decode cX5_kinds 52 = .ok (.ior, 1) := by decide +kernel
theorem dX5_kinds_53 : decode cX5_kinds 53 = .ok (.istore_n 3, 1) := by decide +kernel
theorem dX5_kinds_54 : decode cX5_kinds 54 = .ok (.iinc 4 1, 3) := by decide +kernel
theorem dX5_kinds_57 : decode cX5_kinds 57 = .ok (.goto (-35), 3) := by decide +kernel
theorem dX5_kinds_60 : decode cX5_kinds 60 = .ok (.aload_n 0, 1) := by decide +kernel
theorem dX5_kinds_61 : decode cX5_kinds 61 = .ok (.getfield 19, 3) := by decide +kernel
theorem dX5_kinds_64 : decode cX5_kinds 64 = .ok (.iload_n 1, 1) := by decide +kernel
theorem dX5_kinds_65 : decode cX5_kinds 65 = .ok (.iload_n 2, 1) := by decide +kernel
theorem dX5_kinds_66 : decode cX5_kinds 66 = .ok (.iastore, 1) := by decide +kernel
theorem dX5_kinds_67 : decode cX5_kinds 67 = .ok (.iload_n 3, 1) := by decide +kernel
theorem dX5_kinds_68 : decode cX5_kinds 68 = .ok (.ireturn, 1) := by decide +kernel
set_option maxRecDepth 20000 in
theorem ggX5_slacks_X5_areSo : GoodIn wsX5_slacks wsX5_areSo := goodIn_r _ [7, 8, 9, 10, 11, 12, 13, 14, 15, 6, 16, 2, 17, 18, 19, 20, 21, 22, 23, 24, 25, 26, 27, 28, 29, 30, 31, 32, 33, 34, 35, 36, 37, 38, 39, 40, 41, 42, 43, 44, 45, 46, 47, 48, 49, 50, 51, 52] (by decide +kernel) (by decide +kernel)
set_option maxRecDepth 20000 in
theorem gX5_slacks_X5_areSo : GoodIn wsX5_slacks (wsV RX5 159 RX5 yX5_areSo wsX5_areSo) := goodIn_app (goodIn_of _ (by decide +kernel)) ggX5_slacks_X5_areSo
theorem dX5_slacks_0 : decode cX5_slacks 0 = .ok (.aload_n 0, 1) := by decide +kernel
theorem dX5_slacks_1 : decode cX5_slacks 1 = .ok (.getfield 57, 3) := by decide +kernel
theorem dX5_slacks_4 : decode cX5_slacks 4 = .ok (.ifCond .ne 6, 3) := by decide +kernel
theorem dX5_slacks_7 : decode cX5_slacks 7 = .ok (.bipush (-3), 2) := by decide +kernel
theorem dX5_slacks_9 : decode cX5_slacks 9 = .ok (.ireturn, 1) := by decide +kernel
theorem dX5_slacks_10 : decode cX5_slacks 10 = .ok (.aload_n 0, 1) := by decide +kernel
theorem dX5_slacks_11 : decode cX5_slacks 11 = .ok (.getfield 84, 3) := by decide +kernel
theorem dX5_slacks_14 : decode cX5_slacks 14 = .ok (.istore_n 1, 1) := by decide +kernel
theorem dX5_slacks_15 : decode cX5_slacks 15 = .ok (.iconst 0, 1) := by decide +kernel
theorem dX5_slacks_16 : decode cX5_slacks 16 = .ok (.istore_n 2, 1) := by decide +kernel
theorem dX5_slacks_17 : decode cX5_slacks 17 = .ok (.iconst 0, 1) := by decide +kernel
theorem dX5_slacks_18 : decode cX5_slacks 18 = .ok (.istore_n 3, 1) := by decide +kernel
theorem dX5_slacks_19 : decode cX5_slacks 19 = .ok (.iload_n 3, 1) := by decide +kernel
theorem dX5_slacks_20 : decode cX5_slacks 20 = .ok (.bipush 9, 2) := by decide +kernel
theorem dX5_slacks_22 : decode cX5_slacks 22 = .ok (.if_icmp .gt 31, 3) := by decide +kernel
theorem dX5_slacks_25 : decode cX5_slacks 25 = .ok (.aload_n 0, 1) := by decide +kernel
theorem dX5_slacks_26 : decode cX5_slacks 26 = .ok (.iload_n 3, 1) := by decide +kernel
theorem dX5_slacks_27 : decode cX5_slacks 27 = .ok (.putfield 84, 3) := by decide +kernel
theorem dX5_slacks_30 : decode cX5_slacks 30 = .ok (.iload_n 2, 1) := by decide +kernel
theorem dX5_slacks_31 : decode cX5_slacks 31 = .ok (.aload_n 0, 1) := by decide +kernel
theorem dX5_slacks_32 : decode cX5_slacks 32 = .ok (.invokevirtual 159, 3) := by decide +kernel
theorem dX5_slacks_35 : decode cX5_slacks 35 = .ok (.ifCond .eq 9, 3) := by decide +kernel
theorem dX5_slacks_38 : decode cX5_slacks 38 = .ok (.iconst 1, 1) := by decide +kernel
theorem dX5_slacks_39 : decode cX5_slacks 39 = .ok (.iload_n 3, 1) := by decide +kernel
theorem dX5_slacks_40 : decode cX5_slacks 40 = .ok (.ishl, 1) := by decide +kernel
theorem dX5_slacks_41 : decode cX5_slacks 41 = .ok (.goto 4, 3) := by decide +kernel
theorem dX5_slacks_44 : decode cX5_slacks 44 = .ok (.iconst 0, 1) := by decide +kernel
theorem dX5_slacks_45 : decode cX5_slacks 45 = .ok (.ior, 1) := by decide +kernel
theorem dX5_slacks_46 : decode cX5_slacks 46 = .ok (.istore_n 2, 1) := by decide +kernel
theorem dX5_slacks_47 : decode cX5_slacks 47 = .ok (.iinc 3 1, 3) := by decide +kernel
theorem dX5_slacks_50 : decode cX5_slacks 50 = .ok (.goto (-31), 3) := by decide +kernel
theorem dX5_slacks_53 : decode cX5_slacks 53 = .ok (.aload_n 0, 1) := by decide +kernel
theorem dX5_slacks_54 : decode cX5_slacks 54 = .ok (.iload_n 1, 1) := by decide +kernel
theorem dX5_slacks_55 : decode cX5_slacks 55 = .ok (.putfield 84, 3) := by decide +kernel
theorem dX5_slacks_58 : decode cX5_slacks 58 = .ok (.iload_n 2, 1) := by decide +kernel
theorem dX5_slacks_59 : decode cX5_slacks 59 = .ok (.ireturn, 1) := by decide +kernel
theorem dX5_inLeastTerms_0 : decode cX5_inLeastTerms 0 = .ok (.lload_n 0, 1) := by decide +kernel
theorem dX5_inLeastTerms_1 : decode cX5_inLeastTerms 1 = .ok (.lstore 5, 2) := by decide +kernel
theorem dX5_inLeastTerms_3 : decode cX5_inLeastTerms 3 = .ok (.lload_n 2, 1) := by decide +kernel
theorem dX5_inLeastTerms_4 : decode cX5_inLeastTerms 4 = .ok (.lstore 7, 2) := by decide +kernel
theorem dX5_inLeastTerms_6 : decode cX5_inLeastTerms 6 = .ok (.lload 7, 2) := by decide +kernel
theorem dX5_inLeastTerms_8 : decode cX5_inLeastTerms 8 = .ok (.lconst 0, 1) := by decide +kernel
theorem dX5_inLeastTerms_9 : decode cX5_inLeastTerms 9 = .ok (.lcmp, 1) := by decide +kernel
theorem dX5_inLeastTerms_10 : decode cX5_inLeastTerms 10 = .ok (.ifCond .eq 21, 3) := by decide +kernel
theorem dX5_inLeastTerms_13 : decode cX5_inLeastTerms 13 = .ok (.lload 5, 2) := by decide +kernel
theorem dX5_inLeastTerms_15 : decode cX5_inLeastTerms 15 = .ok (.lload 7, 2) := by decide +kernel
theorem dX5_inLeastTerms_17 : decode cX5_inLeastTerms 17 = .ok (.lrem, 1) := by decide +kernel
theorem dX5_inLeastTerms_18 : decode cX5_inLeastTerms 18 = .ok (.lstore 9, 2) := by decide +kernel
theorem dX5_inLeastTerms_20 : decode cX5_inLeastTerms 20 = .ok (.lload 7, 2) := by decide +kernel
theorem dX5_inLeastTerms_22 : decode cX5_inLeastTerms 22 = .ok (.lstore 5, 2) := by decide +kernel
theorem dX5_inLeastTerms_24 : decode cX5_inLeastTerms 24 = .ok (.lload 9, 2) := by decide +kernel
theorem dX5_inLeastTerms_26 : decode cX5_inLeastTerms 26 = .ok (.lstore 7, 2) := by decide +kernel
theorem dX5_inLeastTerms_28 : decode cX5_inLeastTerms 28 = .ok (.goto (-22), 3) := by decide +kernel
theorem dX5_inLeastTerms_31 : decode cX5_inLeastTerms 31 = .ok (.iload 4, 2) := by decide +kernel
theorem dX5_inLeastTerms_33 : decode cX5_inLeastTerms 33 = .ok (.ifCond .ne 10, 3) := by decide +kernel
theorem dX5_inLeastTerms_36 : decode cX5_inLeastTerms 36 = .ok (.lload_n 0, 1) := by decide +kernel
theorem dX5_inLeastTerms_37 : decode cX5_inLeastTerms 37 = .ok (.lload 5, 2) := by decide +kernel
theorem dX5_inLeastTerms_39 : decode cX5_inLeastTerms 39 = .ok (.ldiv, 1) := by decide +kernel
theorem dX5_inLeastTerms_40 : decode cX5_inLeastTerms 40 = .ok (.goto 7, 3) := by decide +kernel
theorem dX5_inLeastTerms_43 : decode cX5_inLeastTerms 43 = .ok (.lload_n 2, 1) := by decide +kernel
theorem dX5_inLeastTerms_44 : decode cX5_inLeastTerms 44 = .ok (.lload 5, 2) := by decide +kernel
theorem dX5_inLeastTerms_46 : decode cX5_inLeastTerms 46 = .ok (.ldiv, 1) := by decide +kernel
theorem dX5_inLeastTerms_47 : decode cX5_inLeastTerms 47 = .ok (.lreturn, 1) := by decide +kernel
set_option maxRecDepth 20000 in
theorem ggX5_odds_X5_isPass : GoodIn wsX5_odds wsX5_isPass := goodIn_r _ [7, 2, 39, 40, 41, 42, 43, 44, 45, 46, 47, 48, 49, 50, 51, 52, 53, 54, 55, 56, 57, 58, 59, 60, 61] (by decide +kernel) (by decide +kernel)
set_option maxRecDepth 20000 in
theorem gX5_odds_X5_isPass : GoodIn wsX5_odds (wsV RX5 103 RX5 yX5_isPass wsX5_isPass) := goodIn_app (goodIn_of _ (by decide +kernel)) ggX5_odds_X5_isPass
set_option maxRecDepth 20000 in
theorem ggX5_odds_X5_isDigit : GoodIn wsX5_odds wsX5_isDigit := goodIn_r _ [10, 11, 12, 6, 13] (by decide +kernel) (by decide +kernel)
set_option maxRecDepth 20000 in
theorem gX5_odds_X5_isDigit : GoodIn wsX5_odds (va_wsS RX5 109 yX5_isDigit wsX5_isDigit) := goodIn_app (goodIn_of _ (by decide +kernel)) ggX5_odds_X5_isDigit
set_option maxRecDepth 20000 in
theorem ggX5_odds_X5_within : GoodIn wsX5_odds wsX5_within := goodIn_r _ [13] (by decide +kernel) (by decide +kernel)
set_option maxRecDepth 20000 in
theorem gX5_odds_X5_within : GoodIn wsX5_odds (va_wsS RX5 53 yX5_within wsX5_within) := goodIn_app (goodIn_of _ (by decide +kernel)) ggX5_odds_X5_within
set_option maxRecDepth 20000 in
theorem ggX5_odds_X5_fitsOf : GoodIn wsX5_odds wsX5_fitsOf := goodIn_r _ [17, 2, 18, 19, 20, 6, 21, 22, 23, 24, 25, 26, 27, 28, 29, 30, 31, 32, 33, 34, 35, 39, 40, 41, 42, 43, 44, 45, 46, 47, 48, 49, 50, 51, 52, 53, 54, 55, 56, 57, 58, 59, 60, 61] (by decide +kernel) (by decide +kernel)
set_option maxRecDepth 20000 in
theorem gX5_odds_X5_fitsOf : GoodIn wsX5_odds (wsV RX5 126 RX5 yX5_fitsOf wsX5_fitsOf) := goodIn_app (goodIn_of _ (by decide +kernel)) ggX5_odds_X5_fitsOf
set_option maxRecDepth 20000 in
theorem ggX5_odds_X5_inLeastTerms : GoodIn wsX5_odds wsX5_inLeastTerms := goodIn_r _ [38] (by decide +kernel) (by decide +kernel)
set_option maxRecDepth 20000 in
theorem gX5_odds_X5_inLeastTerms : GoodIn wsX5_odds (va_wsS RX5 163 yX5_inLeastTerms wsX5_inLeastTerms) := goodIn_app (goodIn_of _ (by decide +kernel)) ggX5_odds_X5_inLeastTerms
theorem dX5_odds_0 : decode cX5_odds 0 = .ok (.aload_n 0, 1) := by decide +kernel
theorem dX5_odds_1 : decode cX5_odds 1 = .ok (.iload_n 1, 1) := by decide +kernel
theorem dX5_odds_2 : decode cX5_odds 2 = .ok (.invokevirtual 103, 3) := by decide +kernel
theorem dX5_odds_5 : decode cX5_odds 5 = .ok (.ifCond .eq 19, 3) := by decide +kernel
theorem dX5_odds_8 : decode cX5_odds 8 = .ok (.iload_n 2, 1) := by decide +kernel
theorem dX5_odds_9 : decode cX5_odds 9 = .ok (.invokestatic 109, 3) := by decide +kernel
theorem dX5_odds_12 : decode cX5_odds 12 = .ok (.ifCond .eq 12, 3) := by decide +kernel
theorem dX5_odds_15 : decode cX5_odds 15 = .ok (.iload_n 3, 1) := by decide +kernel
theorem dX5_odds_16 : decode cX5_odds 16 = .ok (.iconst 0, 1) := by decide +kernel
theorem dX5_odds_17 : decode cX5_odds 17 = .ok (.iconst 1, 1) := by decide +kernel
theorem dX5_odds_18 : decode cX5_odds 18 = .ok (.invokestatic 53, 3) := by decide +kernel
theorem dX5_odds_21 : decode cX5_odds 21 = .ok (.ifCond .ne 7, 3) := by decide +kernel
theorem dX5_odds_24 : decode cX5_odds 24 = .ok (.ldc2_w 51, 3) := by decide +kernel
theorem dX5_odds_27 : decode cX5_odds 27 = .ok (.lreturn, 1) := by decide +kernel
theorem dX5_odds_28 : decode cX5_odds 28 = .ok (.aload_n 0, 1) := by decide +kernel
theorem dX5_odds_29 : decode cX5_odds 29 = .ok (.iload_n 1, 1) := by decide +kernel
theorem dX5_odds_30 : decode cX5_odds 30 = .ok (.iload_n 2, 1) := by decide +kernel
theorem dX5_odds_31 : decode cX5_odds 31 = .ok (.invokevirtual 126, 3) := by decide +kernel
theorem dX5_odds_34 : decode cX5_odds 34 = .ok (.istore 4, 2) := by decide +kernel
theorem dX5_odds_36 : decode cX5_odds 36 = .ok (.iconst 0, 1) := by decide +kernel
theorem dX5_odds_37 : decode cX5_odds 37 = .ok (.istore 5, 2) := by decide +kernel
theorem dX5_odds_39 : decode cX5_odds 39 = .ok (.iconst 0, 1) := by decide +kernel
theorem dX5_odds_40 : decode cX5_odds 40 = .ok (.istore 6, 2) := by decide +kernel
theorem dX5_odds_42 : decode cX5_odds 42 = .ok (.iload 6, 2) := by decide +kernel
theorem dX5_odds_44 : decode cX5_odds 44 = .ok (.iconst 1, 1) := by decide +kernel
theorem dX5_odds_45 : decode cX5_odds 45 = .ok (.aload_n 0, 1) := by decide +kernel
theorem dX5_odds_46 : decode cX5_odds 46 = .ok (.getfield 57, 3) := by decide +kernel
theorem dX5_odds_49 : decode cX5_odds 49 = .ok (.ishl, 1) := by decide +kernel
theorem dX5_odds_50 : decode cX5_odds 50 = .ok (.if_icmp .ge 27, 3) := by decide +kernel
theorem dX5_odds_53 : decode cX5_odds 53 = .ok (.iload 5, 2) := by decide +kernel
theorem dX5_odds_55 : decode cX5_odds 55 = .ok (.iload 4, 2) := by decide +kernel
theorem dX5_odds_57 : decode cX5_odds 57 = .ok (.iload 6, 2) := by decide +kernel
theorem dX5_odds_59 : decode cX5_odds 59 = .ok (.iand, 1) := by decide +kernel
theorem dX5_odds_60 : decode cX5_odds 60 = .ok (.ifCond .eq 7, 3) := by decide +kernel
theorem dX5_odds_63 : decode cX5_odds 63 = .ok (.iconst 1, 1) := by decide +kernel
theorem dX5_odds_64 : decode cX5_odds 64 = .ok (.goto 4, 3) := by decide +kernel
theorem dX5_odds_67 : decode cX5_odds 67 = .ok (.iconst 0, 1) := by decide +kernel
theorem dX5_odds_68 : decode cX5_odds 68 = .ok (.iadd, 1) := by decide +kernel
theorem dX5_odds_69 : decode cX5_odds 69 = .ok (.istore 5, 2) := by decide +kernel
theorem dX5_odds_71 : decode cX5_odds 71 = .ok (.iinc 6 1, 3) := by decide +kernel
theorem dX5_odds_74 : decode cX5_odds 74 = .ok (.goto (-32), 3) := by decide +kernel
theorem dX5_odds_77 : decode cX5_odds 77 = .ok (.iload 5, 2) := by decide +kernel
theorem dX5_odds_79 : decode cX5_odds 79 = .ok (.i2l, 1) := by decide +kernel
theorem dX5_odds_80 : decode cX5_odds 80 = .ok (.lconst 1, 1) := by decide +kernel
theorem dX5_odds_81 : decode cX5_odds 81 = .ok (.aload_n 0, 1) := by decide +kernel
theorem dX5_odds_82 : decode cX5_odds 82 = .ok (.getfield 57, 3) := by decide +kernel
theorem dX5_odds_85 : decode cX5_odds 85 = .ok (.lshl, 1) := by decide +kernel
theorem dX5_odds_86 : decode cX5_odds 86 = .ok (.iload_n 3, 1) := by decide +kernel
theorem dX5_odds_87 : decode cX5_odds 87 = .ok (.invokestatic 163, 3) := by decide +kernel
theorem dX5_odds_90 : decode cX5_odds 90 = .ok (.lreturn, 1) := by decide +kernel
set_option maxRecDepth 20000 in
theorem ggX5_sheet_X5_isSheet : GoodIn wsX5_sheet wsX5_isSheet := goodIn_r _ [8, 9, 10, 7, 11] (by decide +kernel) (by decide +kernel)
set_option maxRecDepth 20000 in
theorem gX5_sheet_X5_isSheet : GoodIn wsX5_sheet (va_wsS RX5 63 yX5_isSheet wsX5_isSheet) := goodIn_app (goodIn_of _ (by decide +kernel)) ggX5_sheet_X5_isSheet
set_option maxRecDepth 20000 in
theorem ggX5_sheet_X5_isSort : GoodIn wsX5_sheet wsX5_isSort := goodIn_r _ [14, 9, 10, 7, 11] (by decide +kernel) (by decide +kernel)
set_option maxRecDepth 20000 in
theorem gX5_sheet_X5_isSort : GoodIn wsX5_sheet (va_wsS RX5 67 yX5_isSort wsX5_isSort) := goodIn_app (goodIn_of _ (by decide +kernel)) ggX5_sheet_X5_isSort
set_option maxRecDepth 20000 in
theorem ggX5_sheet_X5_fails : GoodIn wsX5_sheet wsX5_fails := goodIn_r _ [18, 1, 19, 20, 21, 22, 23, 24, 25, 26, 27, 28, 29, 30, 31, 32, 33, 34, 35, 36, 37, 38, 39, 40, 41] (by decide +kernel) (by decide +kernel)
set_option maxRecDepth 20000 in
theorem gX5_sheet_X5_fails : GoodIn wsX5_sheet (wsV RX5 74 RX5 yX5_fails wsX5_fails) := goodIn_app (goodIn_of _ (by decide +kernel)) ggX5_sheet_X5_fails
theorem dX5_sheet_0 : decode cX5_sheet 0 = .ok (.aload_n 0, 1) := by decide +kernel
theorem dX5_sheet_1 : decode cX5_sheet 1 = .ok (.iconst 0, 1) := by decide +kernel
theorem dX5_sheet_2 : decode cX5_sheet 2 = .ok (.putfield 47, 3) := by decide +kernel
theorem dX5_sheet_5 : decode cX5_sheet 5 = .ok (.iload_n 1, 1) := by decide +kernel
theorem dX5_sheet_6 : decode cX5_sheet 6 = .ok (.invokestatic 63, 3) := by decide +kernel
theorem dX5_sheet_9 : decode cX5_sheet 9 = .ok (.ifCond .ne 5, 3) := by decide +kernel
theorem dX5_sheet_12 : decode cX5_sheet 12 = .ok (.iconst (-1), 1) := by decide +kernel
theorem dX5_sheet_13 : decode cX5_sheet 13 = .ok (.ireturn, 1) := by decide +kernel
theorem dX5_sheet_14 : decode cX5_sheet 14 = .ok (.iload_n 2, 1) := by decide +kernel
theorem dX5_sheet_15 : decode cX5_sheet 15 = .ok (.invokestatic 67, 3) := by decide +kernel
theorem dX5_sheet_18 : decode cX5_sheet 18 = .ok (.ifCond .eq 9, 3) := by decide +kernel
theorem dX5_sheet_21 : decode cX5_sheet 21 = .ok (.iload_n 3, 1) := by decide +kernel
theorem dX5_sheet_22 : decode cX5_sheet 22 = .ok (.bipush 60, 2) := by decide +kernel
theorem dX5_sheet_24 : decode cX5_sheet 24 = .ok (.if_icmp .le 6, 3) := by decide +kernel
theorem dX5_sheet_27 : decode cX5_sheet 27 = .ok (.bipush (-2), 2) := by decide +kernel
theorem dX5_sheet_29 : decode cX5_sheet 29 = .ok (.ireturn, 1) := by decide +kernel
theorem dX5_sheet_30 : decode cX5_sheet 30 = .ok (.iload_n 3, 1) := by decide +kernel
theorem dX5_sheet_31 : decode cX5_sheet 31 = .ok (.ifCond .ge 9, 3) := by decide +kernel
theorem dX5_sheet_34 : decode cX5_sheet 34 = .ok (.aload_n 0, 1) := by decide +kernel
theorem dX5_sheet_35 : decode cX5_sheet 35 = .ok (.iconst 4, 1) := by decide +kernel
theorem dX5_sheet_36 : decode cX5_sheet 36 = .ok (.invokevirtual 74, 3) := by decide +kernel
theorem dX5_sheet_39 : decode cX5_sheet 39 = .ok (.ireturn, 1) := by decide +kernel
theorem dX5_sheet_40 : decode cX5_sheet 40 = .ok (.aload_n 0, 1) := by decide +kernel
theorem dX5_sheet_41 : decode cX5_sheet 41 = .ok (.getfield 9, 3) := by decide +kernel
theorem dX5_sheet_44 : decode cX5_sheet 44 = .ok (.iload_n 1, 1) := by decide +kernel
theorem dX5_sheet_45 : decode cX5_sheet 45 = .ok (.iload_n 2, 1) := by decide +kernel
theorem dX5_sheet_46 : decode cX5_sheet 46 = .ok (.iastore, 1) := by decide +kernel
theorem dX5_sheet_47 : decode cX5_sheet 47 = .ok (.aload_n 0, 1) := by decide +kernel
theorem dX5_sheet_48 : decode cX5_sheet 48 = .ok (.getfield 13, 3) := by decide +kernel
theorem dX5_sheet_51 : decode cX5_sheet 51 = .ok (.iload_n 1, 1) := by decide +kernel
theorem dX5_sheet_52 : decode cX5_sheet 52 = .ok (.iload_n 3, 1) := by decide +kernel
theorem dX5_sheet_53 : decode cX5_sheet 53 = .ok (.iastore, 1) := by decide +kernel
theorem dX5_sheet_54 : decode cX5_sheet 54 = .ok (.iconst 0, 1) := by decide +kernel
theorem dX5_sheet_55 : decode cX5_sheet 55 = .ok (.istore 4, 2) := by decide +kernel
theorem dX5_sheet_57 : decode cX5_sheet 57 = .ok (.iload 4, 2) := by decide +kernel
theorem dX5_sheet_59 : decode cX5_sheet 59 = .ok (.bipush 60, 2) := by decide +kernel
theorem dX5_sheet_61 : decode cX5_sheet 61 = .ok (.if_icmp .ge 22, 3) := by decide +kernel
theorem dX5_sheet_64 : decode cX5_sheet 64 = .ok (.aload_n 0, 1) := by decide +kernel
theorem dX5_sheet_65 : decode cX5_sheet 65 = .ok (.getfield 16, 3) := by decide +kernel
theorem dX5_sheet_68 : decode cX5_sheet 68 = .ok (.bipush 60, 2) := by decide +kernel
theorem dX5_sheet_70 : decode cX5_sheet 70 = .ok (.iload_n 1, 1) := by decide +kernel
theorem dX5_sheet_71 : decode cX5_sheet 71 = .ok (.imul, 1) := by decide +kernel
theorem dX5_sheet_72 : decode cX5_sheet 72 = .ok (.iload 4, 2) := by decide +kernel
theorem dX5_sheet_74 : decode cX5_sheet 74 = .ok (.iadd, 1) := by decide +kernel
theorem dX5_sheet_75 : decode cX5_sheet 75 = .ok (.iconst 0, 1) := by decide +kernel
theorem dX5_sheet_76 : decode cX5_sheet 76 = .ok (.iastore, 1) := by decide +kernel
theorem dX5_sheet_77 : decode cX5_sheet 77 = .ok (.iinc 4 1, 3) := by decide +kernel
theorem dX5_sheet_80 : decode cX5_sheet 80 = .ok (.goto (-23), 3) := by decide +kernel
theorem dX5_sheet_83 : decode cX5_sheet 83 = .ok (.iconst 1, 1) := by decide +kernel
theorem dX5_sheet_84 : decode cX5_sheet 84 = .ok (.ireturn, 1) := by decide +kernel
set_option maxRecDepth 20000 in
theorem ggX5_lose_X5_isSheet : GoodIn wsX5_lose wsX5_isSheet := goodIn_r _ [5, 6, 7, 4, 8] (by decide +kernel) (by decide +kernel)
set_option maxRecDepth 20000 in
theorem gX5_lose_X5_isSheet : GoodIn wsX5_lose (va_wsS RX5 63 yX5_isSheet wsX5_isSheet) := goodIn_app (goodIn_of _ (by decide +kernel)) ggX5_lose_X5_isSheet
theorem dX5_lose_0 : decode cX5_lose 0 = .ok (.iload_n 1, 1) := by decide +kernel
theorem dX5_lose_1 : decode cX5_lose 1 = .ok (.invokestatic 63, 3) := by decide +kernel
theorem dX5_lose_4 : decode cX5_lose 4 = .ok (.ifCond .ne 5, 3) := by decide +kernel
theorem dX5_lose_7 : decode cX5_lose 7 = .ok (.iconst (-1), 1) := by decide +kernel
theorem dX5_lose_8 : decode cX5_lose 8 = .ok (.ireturn, 1) := by decide +kernel
theorem dX5_lose_9 : decode cX5_lose 9 = .ok (.aload_n 0, 1) := by decide +kernel
theorem dX5_lose_10 : decode cX5_lose 10 = .ok (.getfield 9, 3) := by decide +kernel
theorem dX5_lose_13 : decode cX5_lose 13 = .ok (.iload_n 1, 1) := by decide +kernel
theorem dX5_lose_14 : decode cX5_lose 14 = .ok (.iaload, 1) := by decide +kernel
theorem dX5_lose_15 : decode cX5_lose 15 = .ok (.bipush (-9), 2) := by decide +kernel
theorem dX5_lose_17 : decode cX5_lose 17 = .ok (.if_icmp .ne 7, 3) := by decide +kernel
theorem dX5_lose_20 : decode cX5_lose 20 = .ok (.iconst 0, 1) := by decide +kernel
theorem dX5_lose_21 : decode cX5_lose 21 = .ok (.goto 4, 3) := by decide +kernel
theorem dX5_lose_24 : decode cX5_lose 24 = .ok (.iconst 1, 1) := by decide +kernel
theorem dX5_lose_25 : decode cX5_lose 25 = .ok (.istore_n 2, 1) := by decide +kernel
theorem dX5_lose_26 : decode cX5_lose 26 = .ok (.aload_n 0, 1) := by decide +kernel
theorem dX5_lose_27 : decode cX5_lose 27 = .ok (.getfield 9, 3) := by decide +kernel
theorem dX5_lose_30 : decode cX5_lose 30 = .ok (.iload_n 1, 1) := by decide +kernel
theorem dX5_lose_31 : decode cX5_lose 31 = .ok (.bipush (-9), 2) := by decide +kernel
theorem dX5_lose_33 : decode cX5_lose 33 = .ok (.iastore, 1) := by decide +kernel
theorem dX5_lose_34 : decode cX5_lose 34 = .ok (.iload_n 2, 1) := by decide +kernel
theorem dX5_lose_35 : decode cX5_lose 35 = .ok (.ireturn, 1) := by decide +kernel
set_option maxRecDepth 20000 in
theorem ggX5_put_X5_isSheet : GoodIn wsX5_put wsX5_isSheet := goodIn_r _ [8, 9, 10, 7, 11] (by decide +kernel) (by decide +kernel)
set_option maxRecDepth 20000 in
theorem gX5_put_X5_isSheet : GoodIn wsX5_put (va_wsS RX5 63 yX5_isSheet wsX5_isSheet) := goodIn_app (goodIn_of _ (by decide +kernel)) ggX5_put_X5_isSheet
set_option maxRecDepth 20000 in
theorem ggX5_put_X5_fails : GoodIn wsX5_put wsX5_fails := goodIn_r _ [15, 1, 16, 17, 18, 19, 20, 21, 22, 23, 24, 25, 26, 27, 28, 29, 30, 31, 32, 33, 34, 35, 36, 37, 38] (by decide +kernel) (by decide +kernel)
set_option maxRecDepth 20000 in
theorem gX5_put_X5_fails : GoodIn wsX5_put (wsV RX5 74 RX5 yX5_fails wsX5_fails) := goodIn_app (goodIn_of _ (by decide +kernel)) ggX5_put_X5_fails
set_option maxRecDepth 20000 in
theorem ggX5_put_X5_within : GoodIn wsX5_put wsX5_within := goodIn_r _ [11] (by decide +kernel) (by decide +kernel)
set_option maxRecDepth 20000 in
theorem gX5_put_X5_within : GoodIn wsX5_put (va_wsS RX5 53 yX5_within wsX5_within) := goodIn_app (goodIn_of _ (by decide +kernel)) ggX5_put_X5_within
theorem dX5_put_0 : decode cX5_put 0 = .ok (.aload_n 0, 1) := by decide +kernel
theorem dX5_put_1 : decode cX5_put 1 = .ok (.iconst 0, 1) := by decide +kernel
theorem dX5_put_2 : decode cX5_put 2 = .ok (.putfield 47, 3) := by decide +kernel
theorem dX5_put_5 : decode cX5_put 5 = .ok (.iload_n 1, 1) := by decide +kernel
theorem dX5_put_6 : decode cX5_put 6 = .ok (.invokestatic 63, 3) := by decide +kernel
theorem dX5_put_9 : decode cX5_put 9 = .ok (.ifCond .ne 5, 3) := by decide +kernel
theorem dX5_put_12 : decode cX5_put 12 = .ok (.iconst (-1), 1) := by decide +kernel
theorem dX5_put_13 : decode cX5_put 13 = .ok (.ireturn, 1) := by decide +kernel
theorem dX5_put_14 : decode cX5_put 14 = .ok (.aload_n 0, 1) := by decide +kernel
theorem dX5_put_15 : decode cX5_put 15 = .ok (.getfield 9, 3) := by decide +kernel
theorem dX5_put_18 : decode cX5_put 18 = .ok (.iload_n 1, 1) := by decide +kernel
theorem dX5_put_19 : decode cX5_put 19 = .ok (.iaload, 1) := by decide +kernel
theorem dX5_put_20 : decode cX5_put 20 = .ok (.bipush (-9), 2) := by decide +kernel
theorem dX5_put_22 : decode cX5_put 22 = .ok (.if_icmp .ne 9, 3) := by decide +kernel
theorem dX5_put_25 : decode cX5_put 25 = .ok (.aload_n 0, 1) := by decide +kernel
theorem dX5_put_26 : decode cX5_put 26 = .ok (.iconst 1, 1) := by decide +kernel
theorem dX5_put_27 : decode cX5_put 27 = .ok (.invokevirtual 74, 3) := by decide +kernel
theorem dX5_put_30 : decode cX5_put 30 = .ok (.ireturn, 1) := by decide +kernel
theorem dX5_put_31 : decode cX5_put 31 = .ok (.iload_n 2, 1) := by decide +kernel
theorem dX5_put_32 : decode cX5_put 32 = .ok (.iconst 0, 1) := by decide +kernel
theorem dX5_put_33 : decode cX5_put 33 = .ok (.aload_n 0, 1) := by decide +kernel
theorem dX5_put_34 : decode cX5_put 34 = .ok (.getfield 13, 3) := by decide +kernel
theorem dX5_put_37 : decode cX5_put 37 = .ok (.iload_n 1, 1) := by decide +kernel
theorem dX5_put_38 : decode cX5_put 38 = .ok (.iaload, 1) := by decide +kernel
theorem dX5_put_39 : decode cX5_put 39 = .ok (.iconst 1, 1) := by decide +kernel
theorem dX5_put_40 : decode cX5_put 40 = .ok (.isub, 1) := by decide +kernel
theorem dX5_put_41 : decode cX5_put 41 = .ok (.invokestatic 53, 3) := by decide +kernel
theorem dX5_put_44 : decode cX5_put 44 = .ok (.ifCond .ne 9, 3) := by decide +kernel
theorem dX5_put_47 : decode cX5_put 47 = .ok (.aload_n 0, 1) := by decide +kernel
theorem dX5_put_48 : decode cX5_put 48 = .ok (.iconst 3, 1) := by decide +kernel
theorem dX5_put_49 : decode cX5_put 49 = .ok (.invokevirtual 74, 3) := by decide +kernel
theorem dX5_put_52 : decode cX5_put 52 = .ok (.ireturn, 1) := by decide +kernel
theorem dX5_put_53 : decode cX5_put 53 = .ok (.aload_n 0, 1) := by decide +kernel
theorem dX5_put_54 : decode cX5_put 54 = .ok (.getfield 16, 3) := by decide +kernel
theorem dX5_put_57 : decode cX5_put 57 = .ok (.bipush 60, 2) := by decide +kernel
theorem dX5_put_59 : decode cX5_put 59 = .ok (.iload_n 1, 1) := by decide +kernel
theorem dX5_put_60 : decode cX5_put 60 = .ok (.imul, 1) := by decide +kernel
theorem dX5_put_61 : decode cX5_put 61 = .ok (.iload_n 2, 1) := by decide +kernel
theorem dX5_put_62 : decode cX5_put 62 = .ok (.iadd, 1) := by decide +kernel
theorem dX5_put_63 : decode cX5_put 63 = .ok (.aload_n 0, 1) := by decide +kernel
theorem dX5_put_64 : decode cX5_put 64 = .ok (.getfield 9, 3) := by decide +kernel
theorem dX5_put_67 : decode cX5_put 67 = .ok (.iload_n 1, 1) := by decide +kernel
theorem dX5_put_68 : decode cX5_put 68 = .ok (.iaload, 1) := by decide +kernel
theorem dX5_put_69 : decode cX5_put 69 = .ok (.ifCond .ne 8, 3) := by decide +kernel
theorem dX5_put_72 : decode cX5_put 72 = .ok (.iload_n 3, 1) := by decide +kernel
theorem dX5_put_73 : decode cX5_put 73 = .ok (.i2b, 1) := by decide +kernel
theorem dX5_put_74 : decode cX5_put 74 = .ok (.goto 19, 3) := by decide +kernel
theorem dX5_put_77 : decode cX5_put 77 = .ok (.aload_n 0, 1) := by decide +kernel
theorem dX5_put_78 : decode cX5_put 78 = .ok (.getfield 9, 3) := by decide +kernel
theorem dX5_put_81 : decode cX5_put 81 = .ok (.iload_n 1, 1) := by decide +kernel
theorem dX5_put_82 : decode cX5_put 82 = .ok (.iaload, 1) := by decide +kernel
theorem dX5_put_83 : decode cX5_put 83 = .ok (.iconst 1, 1) := by decide +kernel
theorem dX5_put_84 : decode cX5_put 84 = .ok (.if_icmp .ne 8, 3) := by decide +kernel
theorem dX5_put_87 : decode cX5_put 87 = .ok (.iload_n 3, 1) := by decide +kernel
theorem dX5_put_88 : decode cX5_put 88 = .ok (.i2s, 1) := by decide +kernel
theorem dX5_put_89 : decode cX5_put 89 = .ok (.goto 4, 3) := by decide +kernel
theorem dX5_put_92 : decode cX5_put 92 = .ok (.iload_n 3, 1) := by decide +kernel
theorem dX5_put_93 : decode cX5_put 93 = .ok (.iastore, 1) := by decide +kernel
theorem dX5_put_94 : decode cX5_put 94 = .ok (.iconst 1, 1) := by decide +kernel
theorem dX5_put_95 : decode cX5_put 95 = .ok (.ireturn, 1) := by decide +kernel
set_option maxRecDepth 20000 in
theorem ggX5_cell_X5_isSheet : GoodIn wsX5_cell wsX5_isSheet := goodIn_r _ [9, 10, 11, 8, 12] (by decide +kernel) (by decide +kernel)
set_option maxRecDepth 20000 in
theorem gX5_cell_X5_isSheet : GoodIn wsX5_cell (va_wsS RX5 63 yX5_isSheet wsX5_isSheet) := goodIn_app (goodIn_of _ (by decide +kernel)) ggX5_cell_X5_isSheet
set_option maxRecDepth 20000 in
theorem ggX5_cell_X5_isSort : GoodIn wsX5_cell wsX5_isSort := goodIn_r _ [15, 10, 11, 8, 12] (by decide +kernel) (by decide +kernel)
set_option maxRecDepth 20000 in
theorem gX5_cell_X5_isSort : GoodIn wsX5_cell (va_wsS RX5 67 yX5_isSort wsX5_isSort) := goodIn_app (goodIn_of _ (by decide +kernel)) ggX5_cell_X5_isSort
set_option maxRecDepth 20000 in
theorem ggX5_cell_X5_lost : GoodIn wsX5_cell wsX5_lost := goodIn_r _ [19, 1, 2, 20, 21, 22, 23, 24, 25, 26, 27, 28, 29, 30, 31, 32, 33, 34, 35, 36, 37, 38, 39, 40, 41, 42] (by decide +kernel) (by decide +kernel)
set_option maxRecDepth 20000 in
theorem gX5_cell_X5_lost : GoodIn wsX5_cell (wsV RX5 167 RX5 yX5_lost wsX5_lost) := goodIn_app (goodIn_of _ (by decide +kernel)) ggX5_cell_X5_lost
set_option maxRecDepth 20000 in
theorem ggX5_cell_X5_within : GoodIn wsX5_cell wsX5_within := goodIn_r _ [12] (by decide +kernel) (by decide +kernel)
set_option maxRecDepth 20000 in
theorem gX5_cell_X5_within : GoodIn wsX5_cell (va_wsS RX5 53 yX5_within wsX5_within) := goodIn_app (goodIn_of _ (by decide +kernel)) ggX5_cell_X5_within
theorem dX5_cell_0 : decode cX5_cell 0 = .ok (.aload_n 0, 1) := by decide +kernel
theorem dX5_cell_1 : decode cX5_cell 1 = .ok (.iconst 0, 1) := by decide +kernel
theorem dX5_cell_2 : decode cX5_cell 2 = .ok (.putfield 47, 3) := by decide +kernel
theorem dX5_cell_5 : decode cX5_cell 5 = .ok (.iload_n 1, 1) := by decide +kernel
theorem dX5_cell_6 : decode cX5_cell 6 = .ok (.invokestatic 63, 3) := by decide +kernel
theorem dX5_cell_9 : decode cX5_cell 9 = .ok (.ifCond .eq 10, 3) := by decide +kernel
theorem dX5_cell_12 : decode cX5_cell 12 = .ok (.iload_n 3, 1) := by decide +kernel
theorem dX5_cell_13 : decode cX5_cell 13 = .ok (.invokestatic 67, 3) := by decide +kernel
theorem dX5_cell_16 : decode cX5_cell 16 = .ok (.ifCond .ne 7, 3) := by decide +kernel
theorem dX5_cell_19 : decode cX5_cell 19 = .ok (.ldc2_w 51, 3) := by decide +kernel
theorem dX5_cell_22 : decode cX5_cell 22 = .ok (.lreturn, 1) := by decide +kernel
theorem dX5_cell_23 : decode cX5_cell 23 = .ok (.aload_n 0, 1) := by decide +kernel
theorem dX5_cell_24 : decode cX5_cell 24 = .ok (.getfield 9, 3) := by decide +kernel
theorem dX5_cell_27 : decode cX5_cell 27 = .ok (.iload_n 1, 1) := by decide +kernel
theorem dX5_cell_28 : decode cX5_cell 28 = .ok (.iaload, 1) := by decide +kernel
theorem dX5_cell_29 : decode cX5_cell 29 = .ok (.bipush (-9), 2) := by decide +kernel
theorem dX5_cell_31 : decode cX5_cell 31 = .ok (.if_icmp .eq 19, 3) := by decide +kernel
theorem dX5_cell_34 : decode cX5_cell 34 = .ok (.aload_n 0, 1) := by decide +kernel
theorem dX5_cell_35 : decode cX5_cell 35 = .ok (.getfield 9, 3) := by decide +kernel
theorem dX5_cell_38 : decode cX5_cell 38 = .ok (.iload_n 1, 1) := by decide +kernel
theorem dX5_cell_39 : decode cX5_cell 39 = .ok (.iaload, 1) := by decide +kernel
theorem dX5_cell_40 : decode cX5_cell 40 = .ok (.iload_n 3, 1) := by decide +kernel
theorem dX5_cell_41 : decode cX5_cell 41 = .ok (.if_icmp .eq 9, 3) := by decide +kernel
theorem dX5_cell_44 : decode cX5_cell 44 = .ok (.aload_n 0, 1) := by decide +kernel
theorem dX5_cell_45 : decode cX5_cell 45 = .ok (.iconst 2, 1) := by decide +kernel
theorem dX5_cell_46 : decode cX5_cell 46 = .ok (.invokevirtual 167, 3) := by decide +kernel
theorem dX5_cell_49 : decode cX5_cell 49 = .ok (.lreturn, 1) := by decide +kernel
theorem dX5_cell_50 : decode cX5_cell 50 = .ok (.aload_n 0, 1) := by decide +kernel
theorem dX5_cell_51 : decode cX5_cell 51 = .ok (.getfield 9, 3) := by decide +kernel
theorem dX5_cell_54 : decode cX5_cell 54 = .ok (.iload_n 1, 1) := by decide +kernel
theorem dX5_cell_55 : decode cX5_cell 55 = .ok (.iaload, 1) := by decide +kernel
theorem dX5_cell_56 : decode cX5_cell 56 = .ok (.bipush (-9), 2) := by decide +kernel
theorem dX5_cell_58 : decode cX5_cell 58 = .ok (.if_icmp .ne 9, 3) := by decide +kernel
theorem dX5_cell_61 : decode cX5_cell 61 = .ok (.aload_n 0, 1) := by decide +kernel
theorem dX5_cell_62 : decode cX5_cell 62 = .ok (.iconst 1, 1) := by decide +kernel
theorem dX5_cell_63 : decode cX5_cell 63 = .ok (.invokevirtual 167, 3) := by decide +kernel
theorem dX5_cell_66 : decode cX5_cell 66 = .ok (.lreturn, 1) := by decide +kernel
theorem dX5_cell_67 : decode cX5_cell 67 = .ok (.iload_n 2, 1) := by decide +kernel
theorem dX5_cell_68 : decode cX5_cell 68 = .ok (.iconst 0, 1) := by decide +kernel
theorem dX5_cell_69 : decode cX5_cell 69 = .ok (.aload_n 0, 1) := by decide +kernel
theorem dX5_cell_70 : decode cX5_cell 70 = .ok (.getfield 13, 3) := by decide +kernel
theorem dX5_cell_73 : decode cX5_cell 73 = .ok (.iload_n 1, 1) := by decide +kernel
theorem dX5_cell_74 : decode cX5_cell 74 = .ok (.iaload, 1) := by decide +kernel
theorem dX5_cell_75 : decode cX5_cell 75 = .ok (.iconst 1, 1) := by decide +kernel
theorem dX5_cell_76 : decode cX5_cell 76 = .ok (.isub, 1) := by decide +kernel
theorem dX5_cell_77 : decode cX5_cell 77 = .ok (.invokestatic 53, 3) := by decide +kernel
theorem dX5_cell_80 : decode cX5_cell 80 = .ok (.ifCond .ne 9, 3) := by decide +kernel
theorem dX5_cell_83 : decode cX5_cell 83 = .ok (.aload_n 0, 1) := by decide +kernel
theorem dX5_cell_84 : decode cX5_cell 84 = .ok (.iconst 3, 1) := by decide +kernel
theorem dX5_cell_85 : decode cX5_cell 85 = .ok (.invokevirtual 167, 3) := by decide +kernel
theorem dX5_cell_88 : decode cX5_cell 88 = .ok (.lreturn, 1) := by decide +kernel
theorem dX5_cell_89 : decode cX5_cell 89 = .ok (.aload_n 0, 1) := by decide +kernel
theorem dX5_cell_90 : decode cX5_cell 90 = .ok (.getfield 16, 3) := by decide +kernel
theorem dX5_cell_93 : decode cX5_cell 93 = .ok (.bipush 60, 2) := by decide +kernel
theorem dX5_cell_95 : decode cX5_cell 95 = .ok (.iload_n 1, 1) := by decide +kernel
theorem dX5_cell_96 : decode cX5_cell 96 = .ok (.imul, 1) := by decide +kernel
theorem dX5_cell_97 : decode cX5_cell 97 = .ok (.iload_n 2, 1) := by decide +kernel
theorem dX5_cell_98 : decode cX5_cell 98 = .ok (.iadd, 1) := by decide +kernel
theorem dX5_cell_99 : decode cX5_cell 99 = .ok (.iaload, 1) := by decide +kernel
theorem dX5_cell_100 : decode cX5_cell 100 = .ok (.i2l, 1) := by decide +kernel
theorem dX5_cell_101 : decode cX5_cell 101 = .ok (.lreturn, 1) := by decide +kernel
set_option maxRecDepth 20000 in
theorem ggX5_copy_X5_isSheet : GoodIn wsX5_copy wsX5_isSheet := goodIn_r _ [8, 9, 10, 7, 11] (by decide +kernel) (by decide +kernel)
set_option maxRecDepth 20000 in
theorem gX5_copy_X5_isSheet : GoodIn wsX5_copy (va_wsS RX5 63 yX5_isSheet wsX5_isSheet) := goodIn_app (goodIn_of _ (by decide +kernel)) ggX5_copy_X5_isSheet
set_option maxRecDepth 20000 in
theorem ggX5_copy_X5_fails : GoodIn wsX5_copy wsX5_fails := goodIn_r _ [15, 1, 16, 17, 18, 19, 20, 21, 22, 23, 24, 25, 26, 27, 28, 29, 30, 31, 32, 33, 34, 35, 36, 37, 38] (by decide +kernel) (by decide +kernel)
set_option maxRecDepth 20000 in
theorem gX5_copy_X5_fails : GoodIn wsX5_copy (wsV RX5 74 RX5 yX5_fails wsX5_fails) := goodIn_app (goodIn_of _ (by decide +kernel)) ggX5_copy_X5_fails
theorem dX5_copy_0 : decode cX5_copy 0 = .ok (.aload_n 0, 1) := by decide +kernel
theorem dX5_copy_1 : decode cX5_copy 1 = .ok (.iconst 0, 1) := by decide +kernel
theorem dX5_copy_2 : decode cX5_copy 2 = .ok (.putfield 47, 3) := by decide +kernel
theorem dX5_copy_5 : decode cX5_copy 5 = .ok (.iload_n 1, 1) := by decide +kernel
theorem dX5_copy_6 : decode cX5_copy 6 = .ok (.invokestatic 63, 3) := by decide +kernel
theorem dX5_copy_9 : decode cX5_copy 9 = .ok (.ifCond .eq 10, 3) := by decide +kernel
theorem dX5_copy_12 : decode cX5_copy 12 = .ok (.iload_n 3, 1) := by decide +kernel
theorem dX5_copy_13 : decode cX5_copy 13 = .ok (.invokestatic 63, 3) := by decide +kernel
theorem dX5_copy_16 : decode cX5_copy 16 = .ok (.ifCond .ne 5, 3) := by decide +kernel
theorem dX5_copy_19 : decode cX5_copy 19 = .ok (.iconst (-1), 1) := by decide +kernel
theorem dX5_copy_20 : decode cX5_copy 20 = .ok (.ireturn, 1) := by decide +kernel
theorem dX5_copy_21 : decode cX5_copy 21 = .ok (.aload_n 0, 1) := by decide +kernel
theorem dX5_copy_22 : decode cX5_copy 22 = .ok (.getfield 9, 3) := by decide +kernel
theorem dX5_copy_25 : decode cX5_copy 25 = .ok (.iload_n 1, 1) := by decide +kernel
theorem dX5_copy_26 : decode cX5_copy 26 = .ok (.iaload, 1) := by decide +kernel
theorem dX5_copy_27 : decode cX5_copy 27 = .ok (.bipush (-9), 2) := by decide +kernel
theorem dX5_copy_29 : decode cX5_copy 29 = .ok (.if_icmp .eq 14, 3) := by decide +kernel
theorem dX5_copy_32 : decode cX5_copy 32 = .ok (.aload_n 0, 1) := by decide +kernel
theorem dX5_copy_33 : decode cX5_copy 33 = .ok (.getfield 9, 3) := by decide +kernel
theorem dX5_copy_36 : decode cX5_copy 36 = .ok (.iload_n 3, 1) := by decide +kernel
theorem dX5_copy_37 : decode cX5_copy 37 = .ok (.iaload, 1) := by decide +kernel
theorem dX5_copy_38 : decode cX5_copy 38 = .ok (.bipush (-9), 2) := by decide +kernel
theorem dX5_copy_40 : decode cX5_copy 40 = .ok (.if_icmp .ne 9, 3) := by decide +kernel
theorem dX5_copy_43 : decode cX5_copy 43 = .ok (.aload_n 0, 1) := by decide +kernel
theorem dX5_copy_44 : decode cX5_copy 44 = .ok (.iconst 1, 1) := by decide +kernel
theorem dX5_copy_45 : decode cX5_copy 45 = .ok (.invokevirtual 74, 3) := by decide +kernel
theorem dX5_copy_48 : decode cX5_copy 48 = .ok (.ireturn, 1) := by decide +kernel
theorem dX5_copy_49 : decode cX5_copy 49 = .ok (.aload_n 0, 1) := by decide +kernel
theorem dX5_copy_50 : decode cX5_copy 50 = .ok (.getfield 9, 3) := by decide +kernel
theorem dX5_copy_53 : decode cX5_copy 53 = .ok (.iload_n 1, 1) := by decide +kernel
theorem dX5_copy_54 : decode cX5_copy 54 = .ok (.iaload, 1) := by decide +kernel
theorem dX5_copy_55 : decode cX5_copy 55 = .ok (.aload_n 0, 1) := by decide +kernel
theorem dX5_copy_56 : decode cX5_copy 56 = .ok (.getfield 9, 3) := by decide +kernel
theorem dX5_copy_59 : decode cX5_copy 59 = .ok (.iload_n 3, 1) := by decide +kernel
theorem dX5_copy_60 : decode cX5_copy 60 = .ok (.iaload, 1) := by decide +kernel
theorem dX5_copy_61 : decode cX5_copy 61 = .ok (.if_icmp .eq 9, 3) := by decide +kernel
theorem dX5_copy_64 : decode cX5_copy 64 = .ok (.aload_n 0, 1) := by decide +kernel
theorem dX5_copy_65 : decode cX5_copy 65 = .ok (.iconst 2, 1) := by decide +kernel
theorem dX5_copy_66 : decode cX5_copy 66 = .ok (.invokevirtual 74, 3) := by decide +kernel
theorem dX5_copy_69 : decode cX5_copy 69 = .ok (.ireturn, 1) := by decide +kernel
theorem dX5_copy_70 : decode cX5_copy 70 = .ok (.iload_n 2, 1) := by decide +kernel
theorem dX5_copy_71 : decode cX5_copy 71 = .ok (.ifCond .lt 38, 3) := by decide +kernel
theorem dX5_copy_74 : decode cX5_copy 74 = .ok (.iload 4, 2) := by decide +kernel
theorem dX5_copy_76 : decode cX5_copy 76 = .ok (.ifCond .lt 33, 3) := by decide +kernel
theorem dX5_copy_79 : decode cX5_copy 79 = .ok (.iload 5, 2) := by decide +kernel
theorem dX5_copy_81 : decode cX5_copy 81 = .ok (.ifCond .lt 28, 3) := by decide +kernel
theorem dX5_copy_84 : decode cX5_copy 84 = .ok (.iload_n 2, 1) := by decide +kernel
theorem dX5_copy_85 : decode cX5_copy 85 = .ok (.aload_n 0, 1) := by decide +kernel
theorem dX5_copy_86 : decode cX5_copy 86 = .ok (.getfield 13, 3) := by decide +kernel
theorem dX5_copy_89 : decode cX5_copy 89 = .ok (.iload_n 1, 1) := by decide +kernel
theorem dX5_copy_90 : decode cX5_copy 90 = .ok (.iaload, 1) := by decide +kernel
theorem dX5_copy_91 : decode cX5_copy 91 = .ok (.if_icmp .gt 18, 3) := by decide +kernel
theorem dX5_copy_94 : decode cX5_copy 94 = .ok (.iload 4, 2) := by decide +kernel
theorem dX5_copy_96 : decode cX5_copy 96 = .ok (.aload_n 0, 1) := by decide +kernel
theorem dX5_copy_97 : decode cX5_copy 97 = .ok (.getfield 13, 3) := by decide +kernel
theorem dX5_copy_100 : decode cX5_copy 100 = .ok (.iload_n 3, 1) := by decide +kernel
theorem dX5_copy_101 : decode cX5_copy 101 = .ok (.iaload, 1) := by decide +kernel
theorem dX5_copy_102 : decode cX5_copy 102 = .ok (.if_icmp .gt 7, 3) := by decide +kernel
theorem dX5_copy_105 : decode cX5_copy 105 = .ok (.iconst 1, 1) := by decide +kernel
theorem dX5_copy_106 : decode cX5_copy 106 = .ok (.goto 4, 3) := by decide +kernel
theorem dX5_copy_109 : decode cX5_copy 109 = .ok (.iconst 0, 1) := by decide +kernel
theorem dX5_copy_110 : decode cX5_copy 110 = .ok (.istore 6, 2) := by decide +kernel
theorem dX5_copy_112 : decode cX5_copy 112 = .ok (.iload 6, 2) := by decide +kernel
theorem dX5_copy_114 : decode cX5_copy 114 = .ok (.ifCond .eq 30, 3) := by decide +kernel
theorem dX5_copy_117 : decode cX5_copy 117 = .ok (.iload 5, 2) := by decide +kernel
theorem dX5_copy_119 : decode cX5_copy 119 = .ok (.aload_n 0, 1) := by decide +kernel
theorem dX5_copy_120 : decode cX5_copy 120 = .ok (.getfield 13, 3) := by decide +kernel
theorem dX5_copy_123 : decode cX5_copy 123 = .ok (.iload_n 1, 1) := by decide +kernel
theorem dX5_copy_124 : decode cX5_copy 124 = .ok (.iaload, 1) := by decide +kernel
theorem dX5_copy_125 : decode cX5_copy 125 = .ok (.iload_n 2, 1) := by decide +kernel
theorem dX5_copy_126 : decode cX5_copy 126 = .ok (.isub, 1) := by decide +kernel
theorem dX5_copy_127 : decode cX5_copy 127 = .ok (.if_icmp .gt 17, 3) := by decide +kernel
theorem dX5_copy_130 : decode cX5_copy 130 = .ok (.iload 5, 2) := by decide +kernel
theorem dX5_copy_132 : decode cX5_copy 132 = .ok (.aload_n 0, 1) := by decide +kernel
theorem dX5_copy_133 : decode cX5_copy 133 = .ok (.getfield 13, 3) := by decide +kernel
theorem dX5_copy_136 : decode cX5_copy 136 = .ok (.iload_n 3, 1) := by decide +kernel
theorem dX5_copy_137 : decode cX5_copy 137 = .ok (.iaload, 1) := by decide +kernel
theorem dX5_copy_138 : decode cX5_copy 138 = .ok (.iload 4, 2) := by decide +kernel
theorem dX5_copy_140 : decode cX5_copy 140 = .ok (.isub, 1) := by decide +kernel
theorem dX5_copy_141 : decode cX5_copy 141 = .ok (.if_icmp .le 9, 3) := by decide +kernel
theorem dX5_copy_144 : decode cX5_copy 144 = .ok (.aload_n 0, 1) := by decide +kernel
theorem dX5_copy_145 : decode cX5_copy 145 = .ok (.iconst 3, 1) := by decide +kernel
theorem dX5_copy_146 : decode cX5_copy 146 = .ok (.invokevirtual 74, 3) := by decide +kernel
theorem dX5_copy_149 : decode cX5_copy 149 = .ok (.ireturn, 1) := by decide +kernel
theorem dX5_copy_150 : decode cX5_copy 150 = .ok (.iload_n 2, 1) := by decide +kernel
theorem dX5_copy_151 : decode cX5_copy 151 = .ok (.iload 4, 2) := by decide +kernel
theorem dX5_copy_153 : decode cX5_copy 153 = .ok (.if_icmp .ge 7, 3) := by decide +kernel
theorem dX5_copy_156 : decode cX5_copy 156 = .ok (.iconst 1, 1) := by decide +kernel
theorem dX5_copy_157 : decode cX5_copy 157 = .ok (.goto 4, 3) := by decide +kernel
theorem dX5_copy_160 : decode cX5_copy 160 = .ok (.iconst 0, 1) := by decide +kernel
theorem dX5_copy_161 : decode cX5_copy 161 = .ok (.istore 7, 2) := by decide +kernel
theorem dX5_copy_163 : decode cX5_copy 163 = .ok (.iconst 0, 1) := by decide +kernel
theorem dX5_copy_164 : decode cX5_copy 164 = .ok (.istore 8, 2) := by decide +kernel
theorem dX5_copy_166 : decode cX5_copy 166 = .ok (.iload 8, 2) := by decide +kernel
theorem dX5_copy_168 : decode cX5_copy 168 = .ok (.iload 5, 2) := by decide +kernel
theorem dX5_copy_170 : decode cX5_copy 170 = .ok (.if_icmp .ge 57, 3) := by decide +kernel
theorem dX5_copy_173 : decode cX5_copy 173 = .ok (.iload 7, 2) := by decide +kernel
theorem dX5_copy_175 : decode cX5_copy 175 = .ok (.ifCond .eq 13, 3) := by decide +kernel
theorem dX5_copy_178 : decode cX5_copy 178 = .ok (.iload 5, 2) := by decide +kernel
theorem dX5_copy_180 : decode cX5_copy 180 = .ok (.iconst 1, 1) := by decide +kernel
theorem dX5_copy_181 : decode cX5_copy 181 = .ok (.isub, 1) := by decide +kernel
theorem dX5_copy_182 : decode cX5_copy 182 = .ok (.iload 8, 2) := by decide +kernel
theorem dX5_copy_184 : decode cX5_copy 184 = .ok (.isub, 1) := by decide +kernel
theorem dX5_copy_185 : decode cX5_copy 185 = .ok (.goto 5, 3) := by decide +kernel
theorem dX5_copy_188 : decode cX5_copy 188 = .ok (.iload 8, 2) := by decide +kernel
theorem dX5_copy_190 : decode cX5_copy 190 = .ok (.istore 9, 2) := by decide +kernel
theorem dX5_copy_192 : decode cX5_copy 192 = .ok (.aload_n 0, 1) := by decide +kernel
theorem dX5_copy_193 : decode cX5_copy 193 = .ok (.getfield 16, 3) := by decide +kernel
theorem dX5_copy_196 : decode cX5_copy 196 = .ok (.bipush 60, 2) := by decide +kernel
theorem dX5_copy_198 : decode cX5_copy 198 = .ok (.iload_n 3, 1) := by decide +kernel
theorem dX5_copy_199 : decode cX5_copy 199 = .ok (.imul, 1) := by decide +kernel
theorem dX5_copy_200 : decode cX5_copy 200 = .ok (.iload 4, 2) := by decide +kernel
theorem dX5_copy_202 : decode cX5_copy 202 = .ok (.iadd, 1) := by decide +kernel
theorem dX5_copy_203 : decode cX5_copy 203 = .ok (.iload 9, 2) := by decide +kernel
theorem dX5_copy_205 : decode cX5_copy 205 = .ok (.iadd, 1) := by decide +kernel
theorem dX5_copy_206 : decode cX5_copy 206 = .ok (.aload_n 0, 1) := by decide +kernel
theorem dX5_copy_207 : decode cX5_copy 207 = .ok (.getfield 16, 3) := by decide +kernel
theorem dX5_copy_210 : decode cX5_copy 210 = .ok (.bipush 60, 2) := by decide +kernel
theorem dX5_copy_212 : decode cX5_copy 212 = .ok (.iload_n 1, 1) := by decide +kernel
theorem dX5_copy_213 : decode cX5_copy 213 = .ok (.imul, 1) := by decide +kernel
theorem dX5_copy_214 : decode cX5_copy 214 = .ok (.iload_n 2, 1) := by decide +kernel
theorem dX5_copy_215 : decode cX5_copy 215 = .ok (.iadd, 1) := by decide +kernel
theorem dX5_copy_216 : decode cX5_copy 216 = .ok (.iload 9, 2) := by decide +kernel
theorem dX5_copy_218 : decode cX5_copy 218 = .ok (.iadd, 1) := by decide +kernel
theorem dX5_copy_219 : decode cX5_copy 219 = .ok (.iaload, 1) := by decide +kernel
theorem dX5_copy_220 : decode cX5_copy 220 = .ok (.iastore, 1) := by decide +kernel
theorem dX5_copy_221 : decode cX5_copy 221 = .ok (.iinc 8 1, 3) := by decide +kernel
theorem dX5_copy_224 : decode cX5_copy 224 = .ok (.goto (-58), 3) := by decide +kernel
theorem dX5_copy_227 : decode cX5_copy 227 = .ok (.iload 5, 2) := by decide +kernel
theorem dX5_copy_229 : decode cX5_copy 229 = .ok (.ireturn, 1) := by decide +kernel
theorem dX5_begins_0 : decode cX5_begins 0 = .ok (.aload_n 0, 1) := by decide +kernel
theorem dX5_begins_1 : decode cX5_begins 1 = .ok (.bipush 31, 2) := by decide +kernel
theorem dX5_begins_3 : decode cX5_begins 3 = .ok (.aload_n 0, 1) := by decide +kernel
theorem dX5_begins_4 : decode cX5_begins 4 = .ok (.getfield 171, 3) := by decide +kernel
theorem dX5_begins_7 : decode cX5_begins 7 = .ok (.imul, 1) := by decide +kernel
theorem dX5_begins_8 : decode cX5_begins 8 = .ok (.iload_n 1, 1) := by decide +kernel
theorem dX5_begins_9 : decode cX5_begins 9 = .ok (.iadd, 1) := by decide +kernel
theorem dX5_begins_10 : decode cX5_begins 10 = .ok (.putfield 171, 3) := by decide +kernel
theorem dX5_begins_13 : decode cX5_begins 13 = .ok (.return_, 1) := by decide +kernel
set_option maxRecDepth 20000 in
theorem ggX5_tell_X5_isPass : GoodIn wsX5_tell wsX5_isPass := goodIn_r _ [7, 8, 14, 15, 16, 17, 18, 19, 20, 21, 22, 23, 24, 25, 26, 27, 28, 29, 30, 31, 32, 33, 34, 35, 36] (by decide +kernel) (by decide +kernel)
set_option maxRecDepth 20000 in
theorem gX5_tell_X5_isPass : GoodIn wsX5_tell (wsV RX5 103 RX5 yX5_isPass wsX5_isPass) := goodIn_app (goodIn_of _ (by decide +kernel)) ggX5_tell_X5_isPass
set_option maxRecDepth 20000 in
theorem ggX5_tell_X5_begins : GoodIn wsX5_tell wsX5_begins := goodIn_r _ [12, 13, 14, 15, 16, 17, 18, 19, 20, 21, 22, 23, 24, 25, 26, 27, 28, 29, 30, 31, 32, 33, 34, 35, 36] (by decide +kernel) (by decide +kernel)
set_option maxRecDepth 20000 in
theorem gX5_tell_X5_begins : GoodIn wsX5_tell (wsV RX5 174 RX5 yX5_begins wsX5_begins) := goodIn_app (goodIn_of _ (by decide +kernel)) ggX5_tell_X5_begins
theorem dX5_tell_0 : decode cX5_tell 0 = .ok (.aload_n 0, 1) := by decide +kernel
theorem dX5_tell_1 : decode cX5_tell 1 = .ok (.iload_n 1, 1) := by decide +kernel
theorem dX5_tell_2 : decode cX5_tell 2 = .ok (.invokevirtual 103, 3) := by decide +kernel
theorem dX5_tell_5 : decode cX5_tell 5 = .ok (.ifCond .ne 5, 3) := by decide +kernel
theorem dX5_tell_8 : decode cX5_tell 8 = .ok (.iconst (-1), 1) := by decide +kernel
theorem dX5_tell_9 : decode cX5_tell 9 = .ok (.ireturn, 1) := by decide +kernel
theorem dX5_tell_10 : decode cX5_tell 10 = .ok (.aload_n 0, 1) := by decide +kernel
theorem dX5_tell_11 : decode cX5_tell 11 = .ok (.getfield 22, 3) := by decide +kernel
theorem dX5_tell_14 : decode cX5_tell 14 = .ok (.iconst 3, 1) := by decide +kernel
theorem dX5_tell_15 : decode cX5_tell 15 = .ok (.iload_n 1, 1) := by decide +kernel
theorem dX5_tell_16 : decode cX5_tell 16 = .ok (.imul, 1) := by decide +kernel
theorem dX5_tell_17 : decode cX5_tell 17 = .ok (.iaload, 1) := by decide +kernel
theorem dX5_tell_18 : decode cX5_tell 18 = .ok (.aload_n 0, 1) := by decide +kernel
theorem dX5_tell_19 : decode cX5_tell 19 = .ok (.getfield 22, 3) := by decide +kernel
theorem dX5_tell_22 : decode cX5_tell 22 = .ok (.iconst 3, 1) := by decide +kernel
theorem dX5_tell_23 : decode cX5_tell 23 = .ok (.iload_n 1, 1) := by decide +kernel
theorem dX5_tell_24 : decode cX5_tell 24 = .ok (.imul, 1) := by decide +kernel
theorem dX5_tell_25 : decode cX5_tell 25 = .ok (.iconst 1, 1) := by decide +kernel
theorem dX5_tell_26 : decode cX5_tell 26 = .ok (.iadd, 1) := by decide +kernel
theorem dX5_tell_27 : decode cX5_tell 27 = .ok (.iaload, 1) := by decide +kernel
theorem dX5_tell_28 : decode cX5_tell 28 = .ok (.iadd, 1) := by decide +kernel
theorem dX5_tell_29 : decode cX5_tell 29 = .ok (.aload_n 0, 1) := by decide +kernel
theorem dX5_tell_30 : decode cX5_tell 30 = .ok (.getfield 22, 3) := by decide +kernel
theorem dX5_tell_33 : decode cX5_tell 33 = .ok (.iconst 3, 1) := by decide +kernel
theorem dX5_tell_34 : decode cX5_tell 34 = .ok (.iload_n 1, 1) := by decide +kernel
theorem dX5_tell_35 : decode cX5_tell 35 = .ok (.imul, 1) := by decide +kernel
theorem dX5_tell_36 : decode cX5_tell 36 = .ok (.iconst 2, 1) := by decide +kernel
theorem dX5_tell_37 : decode cX5_tell 37 = .ok (.iadd, 1) := by decide +kernel
theorem dX5_tell_38 : decode cX5_tell 38 = .ok (.iaload, 1) := by decide +kernel
theorem dX5_tell_39 : decode cX5_tell 39 = .ok (.iadd, 1) := by decide +kernel
theorem dX5_tell_40 : decode cX5_tell 40 = .ok (.istore_n 2, 1) := by decide +kernel
theorem dX5_tell_41 : decode cX5_tell 41 = .ok (.aload_n 0, 1) := by decide +kernel
theorem dX5_tell_42 : decode cX5_tell 42 = .ok (.getfield 19, 3) := by decide +kernel
theorem dX5_tell_45 : decode cX5_tell 45 = .ok (.iload_n 1, 1) := by decide +kernel
theorem dX5_tell_46 : decode cX5_tell 46 = .ok (.iaload, 1) := by decide +kernel
theorem dX5_tell_47 : decode cX5_tell 47 = .ok (.lookupswitch 67 #[(1, 25), (2, 40)], 25) := by decide +kernel
theorem dX5_tell_72 : decode cX5_tell 72 = .ok (.aload_n 0, 1) := by decide +kernel
theorem dX5_tell_73 : decode cX5_tell 73 = .ok (.iconst 2, 1) := by decide +kernel
theorem dX5_tell_74 : decode cX5_tell 74 = .ok (.invokevirtual 174, 3) := by decide +kernel
theorem dX5_tell_77 : decode cX5_tell 77 = .ok (.aload_n 0, 1) := by decide +kernel
theorem dX5_tell_78 : decode cX5_tell 78 = .ok (.iconst 1, 1) := by decide +kernel
theorem dX5_tell_79 : decode cX5_tell 79 = .ok (.invokevirtual 174, 3) := by decide +kernel
theorem dX5_tell_82 : decode cX5_tell 82 = .ok (.iload_n 2, 1) := by decide +kernel
theorem dX5_tell_83 : decode cX5_tell 83 = .ok (.bipush 100, 2) := by decide +kernel
theorem dX5_tell_85 : decode cX5_tell 85 = .ok (.iadd, 1) := by decide +kernel
theorem dX5_tell_86 : decode cX5_tell 86 = .ok (.ireturn, 1) := by decide +kernel
theorem dX5_tell_87 : decode cX5_tell 87 = .ok (.aload_n 0, 1) := by decide +kernel
theorem dX5_tell_88 : decode cX5_tell 88 = .ok (.iconst 3, 1) := by decide +kernel
theorem dX5_tell_89 : decode cX5_tell 89 = .ok (.invokevirtual 174, 3) := by decide +kernel
theorem dX5_tell_92 : decode cX5_tell 92 = .ok (.aload_n 0, 1) := by decide +kernel
theorem dX5_tell_93 : decode cX5_tell 93 = .ok (.iconst 2, 1) := by decide +kernel
theorem dX5_tell_94 : decode cX5_tell 94 = .ok (.invokevirtual 174, 3) := by decide +kernel
theorem dX5_tell_97 : decode cX5_tell 97 = .ok (.aload_n 0, 1) := by decide +kernel
theorem dX5_tell_98 : decode cX5_tell 98 = .ok (.iconst 1, 1) := by decide +kernel
theorem dX5_tell_99 : decode cX5_tell 99 = .ok (.invokevirtual 174, 3) := by decide +kernel
theorem dX5_tell_102 : decode cX5_tell 102 = .ok (.aload_n 0, 1) := by decide +kernel
theorem dX5_tell_103 : decode cX5_tell 103 = .ok (.iconst 1, 1) := by decide +kernel
theorem dX5_tell_104 : decode cX5_tell 104 = .ok (.invokevirtual 174, 3) := by decide +kernel
theorem dX5_tell_107 : decode cX5_tell 107 = .ok (.iconst 2, 1) := by decide +kernel
theorem dX5_tell_108 : decode cX5_tell 108 = .ok (.iload_n 2, 1) := by decide +kernel
theorem dX5_tell_109 : decode cX5_tell 109 = .ok (.imul, 1) := by decide +kernel
theorem dX5_tell_110 : decode cX5_tell 110 = .ok (.bipush 100, 2) := by decide +kernel
theorem dX5_tell_112 : decode cX5_tell 112 = .ok (.iadd, 1) := by decide +kernel
theorem dX5_tell_113 : decode cX5_tell 113 = .ok (.ireturn, 1) := by decide +kernel
theorem dX5_tell_114 : decode cX5_tell 114 = .ok (.aload_n 0, 1) := by decide +kernel
theorem dX5_tell_115 : decode cX5_tell 115 = .ok (.iconst 1, 1) := by decide +kernel
theorem dX5_tell_116 : decode cX5_tell 116 = .ok (.invokevirtual 174, 3) := by decide +kernel
theorem dX5_tell_119 : decode cX5_tell 119 = .ok (.iload_n 2, 1) := by decide +kernel
theorem dX5_tell_120 : decode cX5_tell 120 = .ok (.ireturn, 1) := by decide +kernel
set_option maxRecDepth 20000 in
theorem ggX5_seal_X5_isPass : GoodIn wsX5_seal wsX5_isPass := goodIn_r _ [6, 7, 13, 14, 15, 16, 17, 18, 19, 20, 21, 22, 23, 24, 25, 26, 27, 28, 29, 30, 31, 32, 33, 34, 35] (by decide +kernel) (by decide +kernel)
set_option maxRecDepth 20000 in
theorem gX5_seal_X5_isPass : GoodIn wsX5_seal (wsV RX5 103 RX5 yX5_isPass wsX5_isPass) := goodIn_app (goodIn_of _ (by decide +kernel)) ggX5_seal_X5_isPass
set_option maxRecDepth 20000 in
theorem ggX5_seal_X5_begins : GoodIn wsX5_seal wsX5_begins := goodIn_r _ [11, 12, 13, 14, 15, 16, 17, 18, 19, 20, 21, 22, 23, 24, 25, 26, 27, 28, 29, 30, 31, 32, 33, 34, 35] (by decide +kernel) (by decide +kernel)
set_option maxRecDepth 20000 in
theorem gX5_seal_X5_begins : GoodIn wsX5_seal (wsV RX5 174 RX5 yX5_begins wsX5_begins) := goodIn_app (goodIn_of _ (by decide +kernel)) ggX5_seal_X5_begins
theorem dX5_seal_0 : decode cX5_seal 0 = .ok (.aload_n 0, 1) := by decide +kernel
theorem dX5_seal_1 : decode cX5_seal 1 = .ok (.iload_n 1, 1) := by decide +kernel
theorem dX5_seal_2 : decode cX5_seal 2 = .ok (.invokevirtual 103, 3) := by decide +kernel
theorem dX5_seal_5 : decode cX5_seal 5 = .ok (.ifCond .ne 5, 3) := by decide +kernel
theorem dX5_seal_8 : decode cX5_seal 8 = .ok (.iconst (-1), 1) := by decide +kernel
theorem dX5_seal_9 : decode cX5_seal 9 = .ok (.ireturn, 1) := by decide +kernel
theorem dX5_seal_10 : decode cX5_seal 10 = .ok (.aload_n 0, 1) := by decide +kernel
theorem dX5_seal_11 : decode cX5_seal 11 = .ok (.aload_n 0, 1) := by decide +kernel
theorem dX5_seal_12 : decode cX5_seal 12 = .ok (.getfield 19, 3) := by decide +kernel
theorem dX5_seal_15 : decode cX5_seal 15 = .ok (.iload_n 1, 1) := by decide +kernel
theorem dX5_seal_16 : decode cX5_seal 16 = .ok (.iaload, 1) := by decide +kernel
theorem dX5_seal_17 : decode cX5_seal 17 = .ok (.iconst 2, 1) := by decide +kernel
theorem dX5_seal_18 : decode cX5_seal 18 = .ok (.if_icmp .ne 7, 3) := by decide +kernel
theorem dX5_seal_21 : decode cX5_seal 21 = .ok (.iconst 5, 1) := by decide +kernel
theorem dX5_seal_22 : decode cX5_seal 22 = .ok (.goto 4, 3) := by decide +kernel
theorem dX5_seal_25 : decode cX5_seal 25 = .ok (.iconst 4, 1) := by decide +kernel
theorem dX5_seal_26 : decode cX5_seal 26 = .ok (.invokevirtual 174, 3) := by decide +kernel
theorem dX5_seal_29 : decode cX5_seal 29 = .ok (.aload_n 0, 1) := by decide +kernel
theorem dX5_seal_30 : decode cX5_seal 30 = .ok (.getfield 19, 3) := by decide +kernel
theorem dX5_seal_33 : decode cX5_seal 33 = .ok (.iload_n 1, 1) := by decide +kernel
theorem dX5_seal_34 : decode cX5_seal 34 = .ok (.iaload, 1) := by decide +kernel
theorem dX5_seal_35 : decode cX5_seal 35 = .ok (.iconst 2, 1) := by decide +kernel
theorem dX5_seal_36 : decode cX5_seal 36 = .ok (.if_icmp .ne 8, 3) := by decide +kernel
theorem dX5_seal_39 : decode cX5_seal 39 = .ok (.bipush 70, 2) := by decide +kernel
theorem dX5_seal_41 : decode cX5_seal 41 = .ok (.goto 4, 3) := by decide +kernel
theorem dX5_seal_44 : decode cX5_seal 44 = .ok (.iload_n 1, 1) := by decide +kernel
theorem dX5_seal_45 : decode cX5_seal 45 = .ok (.ireturn, 1) := by decide +kernel
set_option maxRecDepth 20000 in
theorem ggX5_as_X5_isPass : GoodIn wsX5_as wsX5_isPass := goodIn_r _ [7, 8, 16, 17, 18, 19, 20, 21, 22, 23, 24, 25, 26, 27, 28, 29, 30, 31, 32, 33, 34, 35, 36, 37, 38] (by decide +kernel) (by decide +kernel)
set_option maxRecDepth 20000 in
theorem gX5_as_X5_isPass : GoodIn wsX5_as (wsV RX5 103 RX5 yX5_isPass wsX5_isPass) := goodIn_app (goodIn_of _ (by decide +kernel)) ggX5_as_X5_isPass
set_option maxRecDepth 20000 in
theorem ggX5_as_X5_within : GoodIn wsX5_as wsX5_within := goodIn_r _ [11] (by decide +kernel) (by decide +kernel)
set_option maxRecDepth 20000 in
theorem gX5_as_X5_within : GoodIn wsX5_as (va_wsS RX5 53 yX5_within wsX5_within) := goodIn_app (goodIn_of _ (by decide +kernel)) ggX5_as_X5_within
set_option maxRecDepth 20000 in
theorem ggX5_as_X5_fails : GoodIn wsX5_as wsX5_fails := goodIn_r _ [15, 1, 16, 17, 18, 19, 20, 21, 22, 23, 24, 25, 26, 27, 28, 29, 30, 31, 32, 33, 34, 35, 36, 37, 38] (by decide +kernel) (by decide +kernel)
set_option maxRecDepth 20000 in
theorem gX5_as_X5_fails : GoodIn wsX5_as (wsV RX5 74 RX5 yX5_fails wsX5_fails) := goodIn_app (goodIn_of _ (by decide +kernel)) ggX5_as_X5_fails
theorem dX5_as_0 : decode cX5_as 0 = .ok (.aload_n 0, 1) := by decide +kernel
theorem dX5_as_1 : decode cX5_as 1 = .ok (.iconst 0, 1) := by decide +kernel
theorem dX5_as_2 : decode cX5_as 2 = .ok (.putfield 47, 3) := by decide +kernel
theorem dX5_as_5 : decode cX5_as 5 = .ok (.aload_n 0, 1) := by decide +kernel
theorem dX5_as_6 : decode cX5_as 6 = .ok (.iload_n 1, 1) := by decide +kernel
theorem dX5_as_7 : decode cX5_as 7 = .ok (.invokevirtual 103, 3) := by decide +kernel
theorem dX5_as_10 : decode cX5_as 10 = .ok (.ifCond .ne 5, 3) := by decide +kernel
theorem dX5_as_13 : decode cX5_as 13 = .ok (.iconst (-1), 1) := by decide +kernel
theorem dX5_as_14 : decode cX5_as 14 = .ok (.ireturn, 1) := by decide +kernel
theorem dX5_as_15 : decode cX5_as 15 = .ok (.iload_n 2, 1) := by decide +kernel
theorem dX5_as_16 : decode cX5_as 16 = .ok (.iconst 0, 1) := by decide +kernel
theorem dX5_as_17 : decode cX5_as 17 = .ok (.iconst 2, 1) := by decide +kernel
theorem dX5_as_18 : decode cX5_as 18 = .ok (.invokestatic 53, 3) := by decide +kernel
theorem dX5_as_21 : decode cX5_as 21 = .ok (.ifCond .ne 6, 3) := by decide +kernel
theorem dX5_as_24 : decode cX5_as 24 = .ok (.bipush (-2), 2) := by decide +kernel
theorem dX5_as_26 : decode cX5_as 26 = .ok (.ireturn, 1) := by decide +kernel
theorem dX5_as_27 : decode cX5_as 27 = .ok (.aload_n 0, 1) := by decide +kernel
theorem dX5_as_28 : decode cX5_as 28 = .ok (.getfield 19, 3) := by decide +kernel
theorem dX5_as_31 : decode cX5_as 31 = .ok (.iload_n 1, 1) := by decide +kernel
theorem dX5_as_32 : decode cX5_as 32 = .ok (.iaload, 1) := by decide +kernel
theorem dX5_as_33 : decode cX5_as 33 = .ok (.iload_n 2, 1) := by decide +kernel
theorem dX5_as_34 : decode cX5_as 34 = .ok (.if_icmp .lt 7, 3) := by decide +kernel
theorem dX5_as_37 : decode cX5_as 37 = .ok (.iconst 1, 1) := by decide +kernel
theorem dX5_as_38 : decode cX5_as 38 = .ok (.goto 8, 3) := by decide +kernel
theorem dX5_as_41 : decode cX5_as 41 = .ok (.aload_n 0, 1) := by decide +kernel
theorem dX5_as_42 : decode cX5_as 42 = .ok (.iconst 2, 1) := by decide +kernel
theorem dX5_as_43 : decode cX5_as 43 = .ok (.invokevirtual 74, 3) := by decide +kernel
theorem dX5_as_46 : decode cX5_as 46 = .ok (.ireturn, 1) := by decide +kernel
theorem dX5_trace_0 : decode cX5_trace 0 = .ok (.aload_n 0, 1) := by decide +kernel
theorem dX5_trace_1 : decode cX5_trace 1 = .ok (.getfield 171, 3) := by decide +kernel
theorem dX5_trace_4 : decode cX5_trace 4 = .ok (.ireturn, 1) := by decide +kernel
theorem dX5_fault_0 : decode cX5_fault 0 = .ok (.aload_n 0, 1) := by decide +kernel
theorem dX5_fault_1 : decode cX5_fault 1 = .ok (.getfield 47, 3) := by decide +kernel
theorem dX5_fault_4 : decode cX5_fault 4 = .ok (.ireturn, 1) := by decide +kernel
theorem dX5_many_0 : decode cX5_many 0 = .ok (.iload_n 1, 1) := by decide +kernel
theorem dX5_many_1 : decode cX5_many 1 = .ok (.ifCond .ne 10, 3) := by decide +kernel
theorem dX5_many_4 : decode cX5_many 4 = .ok (.aload_n 0, 1) := by decide +kernel
theorem dX5_many_5 : decode cX5_many 5 = .ok (.getfield 57, 3) := by decide +kernel
theorem dX5_many_8 : decode cX5_many 8 = .ok (.goto 29, 3) := by decide +kernel
theorem dX5_many_11 : decode cX5_many 11 = .ok (.iload_n 1, 1) := by decide +kernel
theorem dX5_many_12 : decode cX5_many 12 = .ok (.iconst 1, 1) := by decide +kernel
theorem dX5_many_13 : decode cX5_many 13 = .ok (.if_icmp .ne 10, 3) := by decide +kernel
theorem dX5_many_16 : decode cX5_many 16 = .ok (.aload_n 0, 1) := by decide +kernel
theorem dX5_many_17 : decode cX5_many 17 = .ok (.getfield 84, 3) := by decide +kernel
theorem dX5_many_20 : decode cX5_many 20 = .ok (.goto 17, 3) := by decide +kernel
theorem dX5_many_23 : decode cX5_many 23 = .ok (.iload_n 1, 1) := by decide +kernel
theorem dX5_many_24 : decode cX5_many 24 = .ok (.iconst 2, 1) := by decide +kernel
theorem dX5_many_25 : decode cX5_many 25 = .ok (.if_icmp .ne 10, 3) := by decide +kernel
theorem dX5_many_28 : decode cX5_many 28 = .ok (.aload_n 0, 1) := by decide +kernel
theorem dX5_many_29 : decode cX5_many 29 = .ok (.getfield 90, 3) := by decide +kernel
theorem dX5_many_32 : decode cX5_many 32 = .ok (.goto 5, 3) := by decide +kernel
theorem dX5_many_35 : decode cX5_many 35 = .ok (.bipush (-2), 2) := by decide +kernel
theorem dX5_many_37 : decode cX5_many 37 = .ok (.ireturn, 1) := by decide +kernel
theorem dJ6_bitCount_0f7a4_0 : decode cJ6_bitCount_0f7a4 0 = .ok (.iload_n 0, 1) := by decide +kernel
theorem dJ6_bitCount_0f7a4_1 : decode cJ6_bitCount_0f7a4 1 = .ok (.iload_n 0, 1) := by decide +kernel
theorem dJ6_bitCount_0f7a4_2 : decode cJ6_bitCount_0f7a4 2 = .ok (.iconst 1, 1) := by decide +kernel
theorem dJ6_bitCount_0f7a4_3 : decode cJ6_bitCount_0f7a4 3 = .ok (.iushr, 1) := by decide +kernel
theorem dJ6_bitCount_0f7a4_4 : decode cJ6_bitCount_0f7a4 4 = .ok (.ldc_w 265, 3) := by decide +kernel
theorem dJ6_bitCount_0f7a4_7 : decode cJ6_bitCount_0f7a4 7 = .ok (.iand, 1) := by decide +kernel
theorem dJ6_bitCount_0f7a4_8 : decode cJ6_bitCount_0f7a4 8 = .ok (.isub, 1) := by decide +kernel
theorem dJ6_bitCount_0f7a4_9 : decode cJ6_bitCount_0f7a4 9 = .ok (.istore_n 0, 1) := by decide +kernel
theorem dJ6_bitCount_0f7a4_10 : decode cJ6_bitCount_0f7a4 10 = .ok (.iload_n 0, 1) := by decide +kernel
theorem dJ6_bitCount_0f7a4_11 : decode cJ6_bitCount_0f7a4 11 = .ok (.ldc_w 266, 3) := by decide +kernel
theorem dJ6_bitCount_0f7a4_14 : decode cJ6_bitCount_0f7a4 14 = .ok (.iand, 1) := by decide +kernel
theorem dJ6_bitCount_0f7a4_15 : decode cJ6_bitCount_0f7a4 15 = .ok (.iload_n 0, 1) := by decide +kernel
theorem dJ6_bitCount_0f7a4_16 : decode cJ6_bitCount_0f7a4 16 = .ok (.iconst 2, 1) := by decide +kernel
theorem dJ6_bitCount_0f7a4_17 : decode cJ6_bitCount_0f7a4 17 = .ok (.iushr, 1) := by decide +kernel
theorem dJ6_bitCount_0f7a4_18 : decode cJ6_bitCount_0f7a4 18 = .ok (.ldc_w 266, 3) := by decide +kernel
theorem dJ6_bitCount_0f7a4_21 : decode cJ6_bitCount_0f7a4 21 = .ok (.iand, 1) := by decide +kernel
theorem dJ6_bitCount_0f7a4_22 : decode cJ6_bitCount_0f7a4 22 = .ok (.iadd, 1) := by decide +kernel
theorem dJ6_bitCount_0f7a4_23 : decode cJ6_bitCount_0f7a4 23 = .ok (.istore_n 0, 1) := by decide +kernel
theorem dJ6_bitCount_0f7a4_24 : decode cJ6_bitCount_0f7a4 24 = .ok (.iload_n 0, 1) := by decide +kernel
theorem dJ6_bitCount_0f7a4_25 : decode cJ6_bitCount_0f7a4 25 = .ok (.iload_n 0, 1) := by decide +kernel
theorem dJ6_bitCount_0f7a4_26 : decode cJ6_bitCount_0f7a4 26 = .ok (.iconst 4, 1) := by decide +kernel
theorem dJ6_bitCount_0f7a4_27 : decode cJ6_bitCount_0f7a4 27 = .ok (.iushr, 1) := by decide +kernel
theorem dJ6_bitCount_0f7a4_28 : decode cJ6_bitCount_0f7a4 28 = .ok (.iadd, 1) := by decide +kernel
theorem dJ6_bitCount_0f7a4_29 : decode cJ6_bitCount_0f7a4 29 = .ok (.ldc_w 267, 3) := by decide +kernel
theorem dJ6_bitCount_0f7a4_32 : decode cJ6_bitCount_0f7a4 32 = .ok (.iand, 1) := by decide +kernel
theorem dJ6_bitCount_0f7a4_33 : decode cJ6_bitCount_0f7a4 33 = .ok (.istore_n 0, 1) := by decide +kernel
theorem dJ6_bitCount_0f7a4_34 : decode cJ6_bitCount_0f7a4 34 = .ok (.iload_n 0, 1) := by decide +kernel
theorem dJ6_bitCount_0f7a4_35 : decode cJ6_bitCount_0f7a4 35 = .ok (.iload_n 0, 1) := by decide +kernel
theorem dJ6_bitCount_0f7a4_36 : decode cJ6_bitCount_0f7a4 36 = .ok (.bipush 8, 2) := by decide +kernel
theorem dJ6_bitCount_0f7a4_38 : decode cJ6_bitCount_0f7a4 38 = .ok (.iushr, 1) := by decide +kernel
theorem dJ6_bitCount_0f7a4_39 : decode cJ6_bitCount_0f7a4 39 = .ok (.iadd, 1) := by decide +kernel
theorem dJ6_bitCount_0f7a4_40 : decode cJ6_bitCount_0f7a4 40 = .ok (.istore_n 0, 1) := by decide +kernel
theorem dJ6_bitCount_0f7a4_41 : decode cJ6_bitCount_0f7a4 41 = .ok (.iload_n 0, 1) := by decide +kernel
theorem dJ6_bitCount_0f7a4_42 : decode cJ6_bitCount_0f7a4 42 = .ok (.iload_n 0, 1) := by decide +kernel
theorem dJ6_bitCount_0f7a4_43 : decode cJ6_bitCount_0f7a4 43 = .ok (.bipush 16, 2) := by decide +kernel
theorem dJ6_bitCount_0f7a4_45 : decode cJ6_bitCount_0f7a4 45 = .ok (.iushr, 1) := by decide +kernel
theorem dJ6_bitCount_0f7a4_46 : decode cJ6_bitCount_0f7a4 46 = .ok (.iadd, 1) := by decide +kernel
theorem dJ6_bitCount_0f7a4_47 : decode cJ6_bitCount_0f7a4 47 = .ok (.istore_n 0, 1) := by decide +kernel
theorem dJ6_bitCount_0f7a4_48 : decode cJ6_bitCount_0f7a4 48 = .ok (.iload_n 0, 1) := by decide +kernel
theorem dJ6_bitCount_0f7a4_49 : decode cJ6_bitCount_0f7a4 49 = .ok (.bipush 63, 2) := by decide +kernel
theorem dJ6_bitCount_0f7a4_51 : decode cJ6_bitCount_0f7a4 51 = .ok (.iand, 1) := by decide +kernel
theorem dJ6_bitCount_0f7a4_52 : decode cJ6_bitCount_0f7a4 52 = .ok (.ireturn, 1) := by decide +kernel
theorem dJ9_abs_0f7a4_0 : decode cJ9_abs_0f7a4 0 = .ok (.iload_n 0, 1) := by decide +kernel
theorem dJ9_abs_0f7a4_1 : decode cJ9_abs_0f7a4 1 = .ok (.ifCond .ge 8, 3) := by decide +kernel
theorem dJ9_abs_0f7a4_4 : decode cJ9_abs_0f7a4 4 = .ok (.iload_n 0, 1) := by decide +kernel
theorem dJ9_abs_0f7a4_5 : decode cJ9_abs_0f7a4 5 = .ok (.ineg, 1) := by decide +kernel
theorem dJ9_abs_0f7a4_6 : decode cJ9_abs_0f7a4 6 = .ok (.goto 4, 3) := by decide +kernel
theorem dJ9_abs_0f7a4_9 : decode cJ9_abs_0f7a4 9 = .ok (.iload_n 0, 1) := by decide +kernel
theorem dJ9_abs_0f7a4_10 : decode cJ9_abs_0f7a4 10 = .ok (.ireturn, 1) := by decide +kernel
theorem dJ9_max_7cf53_0 : decode cJ9_max_7cf53 0 = .ok (.iload_n 0, 1) := by decide +kernel
theorem dJ9_max_7cf53_1 : decode cJ9_max_7cf53 1 = .ok (.iload_n 1, 1) := by decide +kernel
theorem dJ9_max_7cf53_2 : decode cJ9_max_7cf53 2 = .ok (.if_icmp .lt 7, 3) := by decide +kernel
theorem dJ9_max_7cf53_5 : decode cJ9_max_7cf53 5 = .ok (.iload_n 0, 1) := by decide +kernel
theorem dJ9_max_7cf53_6 : decode cJ9_max_7cf53 6 = .ok (.goto 4, 3) := by decide +kernel
theorem dJ9_max_7cf53_9 : decode cJ9_max_7cf53 9 = .ok (.iload_n 1, 1) := by decide +kernel
theorem dJ9_max_7cf53_10 : decode cJ9_max_7cf53 10 = .ok (.ireturn, 1) := by decide +kernel
theorem dJ9_min_7cf53_0 : decode cJ9_min_7cf53 0 = .ok (.iload_n 0, 1) := by decide +kernel
theorem dJ9_min_7cf53_1 : decode cJ9_min_7cf53 1 = .ok (.iload_n 1, 1) := by decide +kernel
theorem dJ9_min_7cf53_2 : decode cJ9_min_7cf53 2 = .ok (.if_icmp .gt 7, 3) := by decide +kernel
theorem dJ9_min_7cf53_5 : decode cJ9_min_7cf53 5 = .ok (.iload_n 0, 1) := by decide +kernel
theorem dJ9_min_7cf53_6 : decode cJ9_min_7cf53 6 = .ok (.goto 4, 3) := by decide +kernel
theorem dJ9_min_7cf53_9 : decode cJ9_min_7cf53 9 = .ok (.iload_n 1, 1) := by decide +kernel
theorem dJ9_min_7cf53_10 : decode cJ9_min_7cf53 10 = .ok (.ireturn, 1) := by decide +kernel
theorem dJ7_fill_53178_0 : decode cJ7_fill_53178 0 = .ok (.iconst 0, 1) := by decide +kernel
theorem dJ7_fill_53178_1 : decode cJ7_fill_53178 1 = .ok (.istore_n 2, 1) := by decide +kernel
theorem dJ7_fill_53178_2 : decode cJ7_fill_53178 2 = .ok (.aload_n 0, 1) := by decide +kernel
theorem dJ7_fill_53178_3 : decode cJ7_fill_53178 3 = .ok (.arraylength, 1) := by decide +kernel
theorem dJ7_fill_53178_4 : decode cJ7_fill_53178 4 = .ok (.istore_n 3, 1) := by decide +kernel
theorem dJ7_fill_53178_5 : decode cJ7_fill_53178 5 = .ok (.iload_n 2, 1) := by decide +kernel
theorem dJ7_fill_53178_6 : decode cJ7_fill_53178 6 = .ok (.iload_n 3, 1) := by decide +kernel
theorem dJ7_fill_53178_7 : decode cJ7_fill_53178 7 = .ok (.if_icmp .ge 13, 3) := by decide +kernel
theorem dJ7_fill_53178_10 : decode cJ7_fill_53178 10 = .ok (.aload_n 0, 1) := by decide +kernel
theorem dJ7_fill_53178_11 : decode cJ7_fill_53178 11 = .ok (.iload_n 2, 1) := by decide +kernel
theorem dJ7_fill_53178_12 : decode cJ7_fill_53178 12 = .ok (.iload_n 1, 1) := by decide +kernel
theorem dJ7_fill_53178_13 : decode cJ7_fill_53178 13 = .ok (.iastore, 1) := by decide +kernel
theorem dJ7_fill_53178_14 : decode cJ7_fill_53178 14 = .ok (.iinc 2 1, 3) := by decide +kernel
theorem dJ7_fill_53178_17 : decode cJ7_fill_53178 17 = .ok (.goto (-12), 3) := by decide +kernel
theorem dJ7_fill_53178_20 : decode cJ7_fill_53178 20 = .ok (.return_, 1) := by decide +kernel
set_option maxRecDepth 20000 in
theorem ggL_law_X4_init : GoodIn wsL_law wsX4_init := goodIn_r _ [8, 9, 10, 11, 12, 13, 14, 15, 16, 17, 18, 19, 20, 21, 22, 23, 24, 25, 26, 27, 28, 29, 30, 31, 32, 33, 34, 35, 36, 37, 38, 39, 40, 41, 42, 43, 44, 45, 46, 47, 48, 49, 50, 51, 52, 53, 54, 55, 56, 57, 58, 59, 757, 758, 759, 760, 761, 762, 786, 787, 788, 789, 790, 791, 792, 793, 794, 795, 796, 797, 798, 799, 800, 801] (by decide +kernel) (by decide +kernel)
set_option maxRecDepth 20000 in
theorem gL_law_X4_init : GoodIn wsL_law (wsX4_init) := ggL_law_X4_init
set_option maxRecDepth 20000 in
theorem ggL_law_X5_init : GoodIn wsL_law wsX5_init := goodIn_r _ [62, 63, 10, 11, 33, 64, 65, 66, 67, 68, 69, 70, 71, 72, 73, 74, 51, 75, 763, 764, 765, 766, 767, 768, 769, 770, 771, 772, 773, 774, 775, 776, 777, 778, 779, 780, 781, 782, 783, 784, 785] (by decide +kernel) (by decide +kernel)
set_option maxRecDepth 20000 in
theorem gL_law_X5_init : GoodIn wsL_law (wsX5_init) := ggL_law_X5_init
set_option maxRecDepth 20000 in
theorem ggL_law_X4_coast : GoodIn wsL_law wsX4_coast := goodIn_r _ [79, 27, 13, 17, 25, 80, 81, 2, 82, 83, 84, 85, 86, 87, 88, 89, 90, 91, 92, 93, 94, 95, 96, 97, 98, 99, 100, 29, 101, 58, 102, 103, 104, 105, 106, 107, 108, 109, 59, 110, 111, 16, 112, 113, 114, 115, 116, 57, 117, 118, 119, 120, 121, 122, 123, 124, 125, 126, 127, 128, 129, 130, 131, 132, 133, 134, 37, 38, 34, 135, 136, 137, 138, 139, 140, 141, 35, 142, 143, 144, 145, 146, 147, 148, 24, 149, 53, 150, 151, 152, 153, 154, 155, 156, 157, 757, 758, 759, 760, 761, 762, 799, 800, 801, 786, 787, 788, 789, 790, 794, 795, 796, 797, 798] (by decide +kernel) (by decide +kernel)
set_option maxRecDepth 20000 in
theorem gL_law_X4_coast : GoodIn wsL_law (wsV RL 13 RX4 yX4_coast wsX4_coast) := goodIn_app (goodIn_of _ (by decide +kernel)) ggL_law_X4_coast
set_option maxRecDepth 20000 in
theorem ggL_law_X5_coast : GoodIn wsL_law wsX5_coast := goodIn_r _ [161, 162, 163, 164, 165, 166, 167, 67, 69, 68, 70, 168, 169, 170, 5, 171, 172, 173, 174, 175, 176, 177, 178, 179, 180, 181, 64, 65, 182, 183, 184, 185, 186, 187, 188, 189, 190, 191, 192, 193, 66, 194, 195, 196, 197, 198, 199, 200, 201, 763, 764, 765, 766, 767, 768, 769, 770, 771, 772, 773, 774, 775, 776, 777, 778, 779, 780, 781, 782, 783, 784, 785] (by decide +kernel) (by decide +kernel)
set_option maxRecDepth 20000 in
theorem gL_law_X5_coast : GoodIn wsL_law (wsV RL 17 RX5 yX5_coast wsX5_coast) := goodIn_app (goodIn_of _ (by decide +kernel)) ggL_law_X5_coast
set_option maxRecDepth 20000 in
theorem ggL_law_X4_ofPass : GoodIn wsL_law wsX4_ofPass := goodIn_r _ [205, 17, 206, 143, 144, 16, 145, 37, 83, 84, 2, 85, 207, 208, 209, 210, 34, 142, 211, 212, 213, 214, 35, 757, 758, 759, 760, 761, 762, 786, 787, 788, 789, 790] (by decide +kernel) (by decide +kernel)
set_option maxRecDepth 20000 in
theorem gL_law_X4_ofPass : GoodIn wsL_law (wsV RL 18 RX4 yX4_ofPass wsX4_ofPass) := goodIn_app (goodIn_of _ (by decide +kernel)) ggL_law_X4_ofPass
set_option maxRecDepth 20000 in
theorem ggL_law_X5_ofPass : GoodIn wsL_law wsX5_ofPass := goodIn_r _ [218, 67, 68, 219, 220, 221, 5, 222, 167, 172, 173, 174, 763, 764, 765, 766, 767, 768, 769, 770, 771, 772, 773, 774, 775, 776, 777, 778, 779, 780, 781, 782, 783, 784, 785] (by decide +kernel) (by decide +kernel)
set_option maxRecDepth 20000 in
theorem gL_law_X5_ofPass : GoodIn wsL_law (wsV RL 22 RX5 yX5_ofPass wsX5_ofPass) := goodIn_app (goodIn_of _ (by decide +kernel)) ggL_law_X5_ofPass
set_option maxRecDepth 20000 in
theorem ggL_law_X4_trim : GoodIn wsL_law wsX4_trim := goodIn_r _ [226, 17, 206, 143, 144, 16, 145, 37, 227, 228, 2, 229, 83, 84, 85, 211, 212, 213, 214, 35, 142, 230, 139, 140, 141, 757, 758, 759, 760, 761, 762, 786, 787, 788, 789, 790] (by decide +kernel) (by decide +kernel)
set_option maxRecDepth 20000 in
theorem gL_law_X4_trim : GoodIn wsL_law (wsV RL 23 RX4 yX4_trim wsX4_trim) := goodIn_app (goodIn_of _ (by decide +kernel)) ggL_law_X4_trim
set_option maxRecDepth 20000 in
theorem ggL_law_X5_trim : GoodIn wsL_law wsX5_trim := goodIn_r _ [234, 68, 219, 220, 221, 5, 222, 167, 235, 236, 237, 172, 173, 174, 238, 239, 240, 763, 764, 765, 766, 767, 768, 769, 770, 771, 772, 773, 774, 775, 776, 777, 778, 779, 780, 781, 782, 783, 784, 785] (by decide +kernel) (by decide +kernel)
set_option maxRecDepth 20000 in
theorem gL_law_X5_trim : GoodIn wsL_law (wsV RL 27 RX5 yX5_trim wsX5_trim) := goodIn_app (goodIn_of _ (by decide +kernel)) ggL_law_X5_trim
set_option maxRecDepth 20000 in
theorem ggL_law_X4_slack : GoodIn wsL_law wsX4_slack := goodIn_r _ [244, 17, 83, 84, 2, 85, 245, 246, 247, 16, 248, 37, 249, 250, 251, 252, 38, 253, 254, 255, 256, 757, 758, 759, 760, 761, 762, 786, 787, 788, 789, 790] (by decide +kernel) (by decide +kernel)
set_option maxRecDepth 20000 in
theorem gL_law_X4_slack : GoodIn wsL_law (wsV RL 28 RX4 yX4_slack wsX4_slack) := goodIn_app (goodIn_of _ (by decide +kernel)) ggL_law_X4_slack
set_option maxRecDepth 20000 in
theorem ggL_law_X5_slack : GoodIn wsL_law wsX5_slack := goodIn_r _ [260, 167, 165, 238, 239, 5, 240, 172, 173, 174, 763, 764, 765, 766, 767, 768, 769, 770, 771, 772, 773, 774, 775, 776, 777, 778, 779, 780, 781, 782, 783, 784, 785] (by decide +kernel) (by decide +kernel)
set_option maxRecDepth 20000 in
theorem gL_law_X5_slack : GoodIn wsL_law (wsV RL 32 RX5 yX5_slack wsX5_slack) := goodIn_app (goodIn_of _ (by decide +kernel)) ggL_law_X5_slack
set_option maxRecDepth 20000 in
theorem ggL_law_X4_worn : GoodIn wsL_law wsX4_worn := goodIn_r _ [264, 17, 206, 143, 144, 16, 145, 37, 227, 228, 2, 229, 83, 84, 85, 265, 266, 267, 268, 269, 270, 271, 272, 273, 133, 274, 275, 212, 213, 214, 35, 142, 276, 208, 209, 210, 34, 277, 278, 279, 757, 758, 759, 760, 761, 762, 786, 787, 788, 789, 790] (by decide +kernel) (by decide +kernel)
set_option maxRecDepth 20000 in
theorem gL_law_X4_worn : GoodIn wsL_law (wsV RL 33 RX4 yX4_worn wsX4_worn) := goodIn_app (goodIn_of _ (by decide +kernel)) ggL_law_X4_worn
set_option maxRecDepth 20000 in
theorem ggL_law_X5_worn : GoodIn wsL_law wsX5_worn := goodIn_r _ [283, 219, 220, 221, 5, 222, 167, 235, 236, 237, 172, 173, 174, 238, 239, 240, 284, 285, 286, 287, 67, 68, 763, 764, 765, 766, 767, 768, 769, 770, 771, 772, 773, 774, 775, 776, 777, 778, 779, 780, 781, 782, 783, 784, 785] (by decide +kernel) (by decide +kernel)
set_option maxRecDepth 20000 in
theorem gL_law_X5_worn : GoodIn wsL_law (wsV RL 36 RX5 yX5_worn wsX5_worn) := goodIn_app (goodIn_of _ (by decide +kernel)) ggL_law_X5_worn
set_option maxRecDepth 20000 in
theorem ggL_law_X4_off : GoodIn wsL_law wsX4_off := goodIn_r _ [291, 17, 206, 143, 144, 16, 145, 37, 265, 266, 2, 267, 83, 84, 85, 292, 293, 294, 295, 272, 273, 133, 274, 296, 297, 298, 276, 208, 209, 210, 34, 142, 277, 278, 279, 275, 212, 213, 214, 35, 757, 758, 759, 760, 761, 762, 786, 787, 788, 789, 790] (by decide +kernel) (by decide +kernel)
set_option maxRecDepth 20000 in
theorem gL_law_X4_off : GoodIn wsL_law (wsV RL 37 RX4 yX4_off wsX4_off) := goodIn_app (goodIn_of _ (by decide +kernel)) ggL_law_X4_off
set_option maxRecDepth 20000 in
theorem ggL_law_X5_off : GoodIn wsL_law wsX5_off := goodIn_r _ [302, 219, 220, 221, 5, 222, 167, 238, 239, 240, 172, 173, 174, 303, 304, 305, 306, 68, 284, 285, 286, 287, 67, 307, 308, 309, 763, 764, 765, 766, 767, 768, 769, 770, 771, 772, 773, 774, 775, 776, 777, 778, 779, 780, 781, 782, 783, 784, 785] (by decide +kernel) (by decide +kernel)
set_option maxRecDepth 20000 in
theorem gL_law_X5_off : GoodIn wsL_law (wsV RL 40 RX5 yX5_off wsX5_off) := goodIn_app (goodIn_of _ (by decide +kernel)) ggL_law_X5_off
set_option maxRecDepth 20000 in
theorem ggL_law_X4_fits : GoodIn wsL_law wsX4_fits := goodIn_r _ [313, 17, 206, 143, 144, 16, 145, 37, 265, 266, 2, 267, 83, 84, 85, 314, 315, 316, 317, 38, 318, 293, 294, 295, 272, 273, 133, 274, 296, 297, 298, 276, 208, 209, 210, 34, 142, 277, 278, 279, 275, 212, 213, 214, 35, 319, 320, 757, 758, 759, 760, 761, 762, 786, 787, 788, 789, 790] (by decide +kernel) (by decide +kernel)
set_option maxRecDepth 20000 in
theorem gL_law_X4_fits : GoodIn wsL_law (wsV RL 41 RX4 yX4_fits wsX4_fits) := goodIn_app (goodIn_of _ (by decide +kernel)) ggL_law_X4_fits
set_option maxRecDepth 20000 in
theorem ggL_law_X5_fits : GoodIn wsL_law wsX5_fits := goodIn_r _ [324, 219, 220, 221, 5, 222, 167, 238, 239, 240, 172, 173, 174, 325, 326, 327, 328, 329, 330, 331, 332, 165, 303, 304, 305, 306, 68, 284, 285, 286, 287, 67, 307, 308, 309, 763, 764, 765, 766, 767, 768, 769, 770, 771, 772, 773, 774, 775, 776, 777, 778, 779, 780, 781, 782, 783, 784, 785] (by decide +kernel) (by decide +kernel)
set_option maxRecDepth 20000 in
theorem gL_law_X5_fits : GoodIn wsL_law (wsV RL 44 RX5 yX5_fits wsX5_fits) := goodIn_app (goodIn_of _ (by decide +kernel)) ggL_law_X5_fits
set_option maxRecDepth 20000 in
theorem ggL_law_X4_match : GoodIn wsL_law wsX4_match := goodIn_r _ [336, 17, 206, 143, 144, 16, 145, 37, 265, 266, 2, 267, 83, 84, 85, 337, 338, 339, 340, 38, 318, 293, 294, 295, 272, 273, 133, 274, 296, 297, 298, 276, 208, 209, 210, 34, 142, 277, 278, 279, 275, 212, 213, 214, 35, 757, 758, 759, 760, 761, 762, 786, 787, 788, 789, 790] (by decide +kernel) (by decide +kernel)
set_option maxRecDepth 20000 in
theorem gL_law_X4_match : GoodIn wsL_law (wsV RL 45 RX4 yX4_match wsX4_match) := goodIn_app (goodIn_of _ (by decide +kernel)) ggL_law_X4_match
set_option maxRecDepth 20000 in
theorem ggL_law_X5_match : GoodIn wsL_law wsX5_match := goodIn_r _ [344, 167, 219, 220, 221, 5, 222, 238, 239, 240, 172, 173, 174, 329, 330, 331, 332, 165, 303, 304, 305, 306, 68, 284, 285, 286, 287, 67, 307, 308, 309, 763, 764, 765, 766, 767, 768, 769, 770, 771, 772, 773, 774, 775, 776, 777, 778, 779, 780, 781, 782, 783, 784, 785] (by decide +kernel) (by decide +kernel)
set_option maxRecDepth 20000 in
theorem gL_law_X5_match : GoodIn wsL_law (wsV RL 48 RX5 yX5_match wsX5_match) := goodIn_app (goodIn_of _ (by decide +kernel)) ggL_law_X5_match
set_option maxRecDepth 20000 in
theorem ggL_law_X4_last : GoodIn wsL_law wsX4_last := goodIn_r _ [348, 17, 206, 143, 144, 16, 145, 37, 349, 350, 351, 352, 353, 354, 355, 356, 38, 318, 293, 294, 295, 272, 273, 133, 274, 296, 297, 298, 276, 208, 209, 210, 34, 142, 277, 278, 279, 275, 212, 213, 214, 35, 757, 758, 759, 760, 761, 762, 786, 787, 788, 789, 790] (by decide +kernel) (by decide +kernel)
set_option maxRecDepth 20000 in
theorem gL_law_X4_last : GoodIn wsL_law (wsV RL 49 RX4 yX4_last wsX4_last) := goodIn_app (goodIn_of _ (by decide +kernel)) ggL_law_X4_last
set_option maxRecDepth 20000 in
theorem ggL_law_X5_last : GoodIn wsL_law wsX5_last := goodIn_r _ [360, 219, 220, 221, 5, 222, 167, 329, 330, 331, 332, 165, 303, 304, 305, 306, 68, 284, 285, 286, 287, 67, 307, 308, 309, 763, 764, 765, 766, 767, 768, 769, 770, 771, 772, 773, 774, 775, 776, 777, 778, 779, 780, 781, 782, 783, 784, 785] (by decide +kernel) (by decide +kernel)
set_option maxRecDepth 20000 in
theorem gL_law_X5_last : GoodIn wsL_law (wsV RL 52 RX5 yX5_last wsX5_last) := goodIn_app (goodIn_of _ (by decide +kernel)) ggL_law_X5_last
set_option maxRecDepth 20000 in
theorem ggL_law_X4_alike : GoodIn wsL_law wsX4_alike := goodIn_r _ [364, 17, 206, 143, 144, 16, 145, 37, 365, 366, 367, 368, 369, 370, 371, 372, 296, 297, 133, 298, 38, 275, 212, 213, 214, 35, 142, 319, 2, 320, 757, 758, 759, 760, 761, 762, 786, 787, 788, 789, 790] (by decide +kernel) (by decide +kernel)
set_option maxRecDepth 20000 in
theorem gL_law_X4_alike : GoodIn wsL_law (wsV RL 53 RX4 yX4_alike wsX4_alike) := goodIn_app (goodIn_of _ (by decide +kernel)) ggL_law_X4_alike
set_option maxRecDepth 20000 in
theorem ggL_law_X5_alike : GoodIn wsL_law wsX5_alike := goodIn_r _ [376, 219, 220, 221, 5, 222, 167, 377, 378, 379, 380, 68, 165, 307, 308, 309, 763, 764, 765, 766, 767, 768, 769, 770, 771, 772, 773, 774, 775, 776, 777, 778, 779, 780, 781, 782, 783, 784, 785] (by decide +kernel) (by decide +kernel)
set_option maxRecDepth 20000 in
theorem gL_law_X5_alike : GoodIn wsL_law (wsV RL 56 RX5 yX5_alike wsX5_alike) := goodIn_app (goodIn_of _ (by decide +kernel)) ggL_law_X5_alike
set_option maxRecDepth 20000 in
theorem ggL_law_X4_most : GoodIn wsL_law wsX4_most := goodIn_r _ [384, 17, 245, 246, 247, 16, 248, 37, 385, 386, 387, 388, 36, 389, 366, 367, 368, 369, 370, 371, 372, 296, 297, 133, 298, 38, 275, 212, 213, 214, 35, 142, 143, 144, 145, 319, 2, 320, 390, 391, 392, 393, 394, 395, 396, 397, 398, 399, 400, 401, 402, 403, 404, 757, 758, 759, 760, 761, 762, 786, 787, 788, 789, 790] (by decide +kernel) (by decide +kernel)
set_option maxRecDepth 20000 in
theorem gL_law_X4_most : GoodIn wsL_law (wsV RL 57 RX4 yX4_most wsX4_most) := goodIn_app (goodIn_of _ (by decide +kernel)) ggL_law_X4_most
set_option maxRecDepth 20000 in
theorem ggL_law_X5_most : GoodIn wsL_law wsX5_most := goodIn_r _ [408, 167, 409, 410, 5, 411, 412, 413, 414, 415, 377, 378, 379, 380, 68, 165, 307, 308, 309, 763, 764, 765, 766, 767, 768, 769, 770, 771, 772, 773, 774, 775, 776, 777, 778, 779, 780, 781, 782, 783, 784, 785] (by decide +kernel) (by decide +kernel)
set_option maxRecDepth 20000 in
theorem gL_law_X5_most : GoodIn wsL_law (wsV RL 61 RX5 yX5_most wsX5_most) := goodIn_app (goodIn_of _ (by decide +kernel)) ggL_law_X5_most
set_option maxRecDepth 20000 in
theorem ggL_law_X4_letGo : GoodIn wsL_law wsX4_letGo := goodIn_r _ [419, 17, 245, 246, 247, 16, 248, 37, 420, 421, 422, 423, 390, 391, 392, 393, 265, 266, 2, 267, 83, 84, 85, 424, 425, 426, 427, 36, 428, 315, 316, 317, 38, 318, 293, 294, 295, 272, 273, 133, 274, 296, 297, 298, 276, 208, 209, 210, 34, 142, 143, 144, 145, 277, 278, 279, 275, 212, 213, 214, 35, 319, 320, 429, 430, 431, 432, 757, 758, 759, 760, 761, 762, 786, 787, 788, 789, 790] (by decide +kernel) (by decide +kernel)
set_option maxRecDepth 20000 in
theorem gL_law_X4_letGo : GoodIn wsL_law (wsV RL 62 RX4 yX4_letGo wsX4_letGo) := goodIn_app (goodIn_of _ (by decide +kernel)) ggL_law_X4_letGo
set_option maxRecDepth 20000 in
theorem ggL_law_X5_letGo : GoodIn wsL_law wsX5_letGo := goodIn_r _ [436, 167, 437, 438, 439, 5, 440, 238, 239, 240, 172, 173, 174, 441, 442, 443, 444, 325, 326, 327, 328, 329, 330, 331, 332, 165, 303, 304, 305, 306, 68, 284, 285, 286, 287, 67, 307, 308, 309, 763, 764, 765, 766, 767, 768, 769, 770, 771, 772, 773, 774, 775, 776, 777, 778, 779, 780, 781, 782, 783, 784, 785] (by decide +kernel) (by decide +kernel)
set_option maxRecDepth 20000 in
theorem gL_law_X5_letGo : GoodIn wsL_law (wsV RL 65 RX5 yX5_letGo wsX5_letGo) := goodIn_app (goodIn_of _ (by decide +kernel)) ggL_law_X5_letGo
set_option maxRecDepth 20000 in
theorem ggL_law_X4_fewest : GoodIn wsL_law wsX4_fewest := goodIn_r _ [448, 17, 265, 266, 2, 267, 83, 84, 85, 245, 246, 247, 16, 248, 37, 424, 425, 426, 427, 36, 428, 315, 316, 317, 38, 318, 293, 294, 295, 272, 273, 133, 274, 296, 297, 298, 276, 208, 209, 210, 34, 142, 143, 144, 145, 277, 278, 279, 275, 212, 213, 214, 35, 319, 320, 449, 450, 451, 452, 390, 391, 392, 393, 394, 395, 396, 397, 398, 399, 400, 453, 430, 431, 432, 757, 758, 759, 760, 761, 762, 786, 787, 788, 789, 790] (by decide +kernel) (by decide +kernel)
set_option maxRecDepth 20000 in
theorem gL_law_X4_fewest : GoodIn wsL_law (wsV RL 66 RX4 yX4_fewest wsX4_fewest) := goodIn_app (goodIn_of _ (by decide +kernel)) ggL_law_X4_fewest
set_option maxRecDepth 20000 in
theorem ggL_law_X5_fewest : GoodIn wsL_law wsX5_fewest := goodIn_r _ [457, 167, 238, 239, 5, 240, 172, 173, 174, 409, 410, 411, 441, 442, 443, 444, 325, 326, 327, 328, 329, 330, 331, 332, 165, 303, 304, 305, 306, 68, 284, 285, 286, 287, 67, 307, 308, 309, 763, 764, 765, 766, 767, 768, 769, 770, 771, 772, 773, 774, 775, 776, 777, 778, 779, 780, 781, 782, 783, 784, 785] (by decide +kernel) (by decide +kernel)
set_option maxRecDepth 20000 in
theorem gL_law_X5_fewest : GoodIn wsL_law (wsV RL 69 RX5 yX5_fewest wsX5_fewest) := goodIn_app (goodIn_of _ (by decide +kernel)) ggL_law_X5_fewest
set_option maxRecDepth 20000 in
theorem ggL_law_X4_voyages : GoodIn wsL_law wsX4_voyages := goodIn_r _ [461, 27, 13, 17, 21, 80, 81, 2, 82, 83, 84, 85, 86, 87, 88, 462, 463, 464, 92, 93, 94, 95, 96, 97, 98, 99, 100, 29, 101, 58, 102, 103, 104, 105, 106, 107, 108, 109, 59, 245, 246, 247, 16, 248, 37, 420, 421, 422, 423, 390, 391, 392, 393, 465, 466, 467, 20, 468, 469, 132, 133, 134, 44, 42, 43, 470, 114, 115, 116, 57, 117, 118, 119, 120, 471, 472, 473, 474, 475, 143, 144, 145, 266, 267, 476, 477, 478, 479, 480, 481, 482, 483, 484, 485, 486, 487, 488, 315, 316, 317, 38, 318, 293, 294, 295, 272, 273, 274, 296, 297, 298, 276, 208, 209, 210, 34, 142, 277, 278, 279, 275, 212, 213, 214, 35, 319, 320, 489, 490, 491, 492, 493, 395, 396, 397, 398, 399, 400, 494, 495, 496, 497, 498, 499, 500, 501, 502, 354, 355, 356, 503, 504, 505, 506, 206, 507, 508, 509, 510, 757, 758, 759, 760, 761, 762, 799, 800, 801, 786, 787, 788, 789, 790, 791, 792, 793] (by decide +kernel) (by decide +kernel)
set_option maxRecDepth 20000 in
theorem gL_law_X4_voyages : GoodIn wsL_law (wsV RL 70 RX4 yX4_voyages wsX4_voyages) := goodIn_app (goodIn_of _ (by decide +kernel)) ggL_law_X4_voyages
set_option maxRecDepth 20000 in
theorem ggL_law_X5_voyages : GoodIn wsL_law wsX5_voyages := goodIn_r _ [514, 162, 167, 66, 169, 170, 5, 171, 172, 173, 174, 175, 176, 177, 178, 179, 180, 181, 64, 65, 182, 183, 184, 185, 437, 438, 439, 440, 219, 220, 221, 222, 238, 239, 240, 515, 516, 517, 518, 519, 520, 521, 71, 325, 326, 327, 328, 329, 330, 331, 332, 165, 303, 304, 305, 306, 68, 284, 285, 286, 287, 67, 307, 308, 309, 522, 523, 524, 525, 763, 764, 765, 766, 767, 768, 769, 770, 771, 772, 773, 774, 775, 776, 777, 778, 779, 780, 781, 782, 783, 784, 785] (by decide +kernel) (by decide +kernel)
set_option maxRecDepth 20000 in
theorem gL_law_X5_voyages : GoodIn wsL_law (wsV RL 74 RX5 yX5_voyages wsX5_voyages) := goodIn_app (goodIn_of _ (by decide +kernel)) ggL_law_X5_voyages
set_option maxRecDepth 20000 in
theorem ggL_law_X4_reading : GoodIn wsL_law wsX4_reading := goodIn_r _ [529, 17, 25, 206, 143, 144, 16, 145, 37, 265, 266, 2, 267, 83, 84, 85, 146, 147, 148, 24, 149, 53, 530, 531, 532, 533, 48, 49, 50, 52, 757, 758, 759, 760, 761, 762, 786, 787, 788, 789, 790, 794, 795, 796, 797, 798] (by decide +kernel) (by decide +kernel)
set_option maxRecDepth 20000 in
theorem gL_law_X4_reading : GoodIn wsL_law (wsV RL 75 RX4 yX4_reading wsX4_reading) := goodIn_app (goodIn_of _ (by decide +kernel)) ggL_law_X4_reading
set_option maxRecDepth 20000 in
theorem ggL_law_X5_reading : GoodIn wsL_law wsX5_reading := goodIn_r _ [537, 168, 72, 73, 74, 75, 219, 220, 221, 5, 222, 167, 238, 239, 240, 172, 173, 174, 763, 764, 765, 766, 767, 768, 769, 770, 771, 772, 773, 774, 775, 776, 777, 778, 779, 780, 781, 782, 783, 784, 785] (by decide +kernel) (by decide +kernel)
set_option maxRecDepth 20000 in
theorem gL_law_X5_reading : GoodIn wsL_law (wsV RL 79 RX5 yX5_reading wsX5_reading) := goodIn_app (goodIn_of _ (by decide +kernel)) ggL_law_X5_reading
set_option maxRecDepth 20000 in
theorem ggL_law_X4_back : GoodIn wsL_law wsX4_back := goodIn_r _ [541, 25, 146, 147, 148, 24, 149, 53, 83, 84, 2, 85, 150, 151, 152, 153, 757, 758, 759, 760, 761, 762, 794, 795, 796, 797, 798] (by decide +kernel) (by decide +kernel)
set_option maxRecDepth 20000 in
theorem gL_law_X4_back : GoodIn wsL_law (wsV RL 80 RX4 yX4_back wsX4_back) := goodIn_app (goodIn_of _ (by decide +kernel)) ggL_law_X4_back
set_option maxRecDepth 20000 in
theorem ggL_law_X5_back : GoodIn wsL_law wsX5_back := goodIn_r _ [545, 168, 172, 173, 5, 174, 763, 764, 765, 766, 767, 768, 769, 770, 771, 772, 773, 774, 775, 776, 777, 778, 779, 780, 781, 782, 783, 784, 785] (by decide +kernel) (by decide +kernel)
set_option maxRecDepth 20000 in
theorem gL_law_X5_back : GoodIn wsL_law (wsV RL 83 RX5 yX5_back wsX5_back) := goodIn_app (goodIn_of _ (by decide +kernel)) ggL_law_X5_back
set_option maxRecDepth 20000 in
theorem ggL_law_X4_edges : GoodIn wsL_law wsX4_edges := goodIn_r _ [549, 17, 25, 206, 143, 144, 16, 145, 37, 227, 228, 2, 229, 83, 84, 85, 211, 212, 213, 214, 35, 142, 230, 139, 140, 141, 550, 551, 552, 24, 553, 53, 48, 49, 50, 52, 554, 354, 355, 356, 38, 318, 293, 294, 295, 272, 273, 133, 274, 296, 297, 298, 276, 208, 209, 210, 34, 277, 278, 279, 275, 555, 319, 320, 757, 758, 759, 760, 761, 762, 786, 787, 788, 789, 790, 794, 795, 796, 797, 798] (by decide +kernel) (by decide +kernel)
set_option maxRecDepth 20000 in
theorem gL_law_X4_edges : GoodIn wsL_law (wsV RL 84 RX4 yX4_edges wsX4_edges) := goodIn_app (goodIn_of _ (by decide +kernel)) ggL_law_X4_edges
set_option maxRecDepth 20000 in
theorem ggL_law_X5_edges : GoodIn wsL_law wsX5_edges := goodIn_r _ [559, 68, 219, 220, 221, 5, 222, 167, 235, 236, 237, 172, 173, 174, 560, 561, 562, 563, 168, 72, 73, 74, 75, 329, 330, 331, 332, 165, 303, 304, 305, 306, 284, 285, 286, 287, 67, 307, 308, 309, 763, 764, 765, 766, 767, 768, 769, 770, 771, 772, 773, 774, 775, 776, 777, 778, 779, 780, 781, 782, 783, 784, 785] (by decide +kernel) (by decide +kernel)
set_option maxRecDepth 20000 in
theorem gL_law_X5_edges : GoodIn wsL_law (wsV RL 87 RX5 yX5_edges wsX5_edges) := goodIn_app (goodIn_of _ (by decide +kernel)) ggL_law_X5_edges
set_option maxRecDepth 20000 in
theorem ggL_law_X4_kinds : GoodIn wsL_law wsX4_kinds := goodIn_r _ [567, 17, 25, 206, 143, 144, 16, 145, 37, 207, 208, 209, 210, 34, 142, 568, 569, 570, 571, 550, 551, 552, 24, 553, 53, 48, 49, 50, 52, 554, 354, 355, 356, 38, 318, 293, 294, 295, 272, 273, 133, 274, 296, 297, 298, 276, 277, 278, 279, 275, 212, 213, 214, 35, 555, 319, 2, 320, 757, 758, 759, 760, 761, 762, 786, 787, 788, 789, 790, 794, 795, 796, 797, 798] (by decide +kernel) (by decide +kernel)
set_option maxRecDepth 20000 in
theorem gL_law_X4_kinds : GoodIn wsL_law (wsV RL 88 RX4 yX4_kinds wsX4_kinds) := goodIn_app (goodIn_of _ (by decide +kernel)) ggL_law_X4_kinds
set_option maxRecDepth 20000 in
theorem ggL_law_X5_kinds : GoodIn wsL_law wsX5_kinds := goodIn_r _ [575, 67, 219, 220, 221, 5, 222, 167, 560, 561, 562, 563, 168, 72, 73, 74, 75, 329, 330, 331, 332, 165, 303, 304, 305, 306, 68, 284, 285, 286, 287, 307, 308, 309, 763, 764, 765, 766, 767, 768, 769, 770, 771, 772, 773, 774, 775, 776, 777, 778, 779, 780, 781, 782, 783, 784, 785] (by decide +kernel) (by decide +kernel)
set_option maxRecDepth 20000 in
theorem gL_law_X5_kinds : GoodIn wsL_law (wsV RL 91 RX5 yX5_kinds wsX5_kinds) := goodIn_app (goodIn_of _ (by decide +kernel)) ggL_law_X5_kinds
set_option maxRecDepth 20000 in
theorem ggL_law_X4_slacks : GoodIn wsL_law wsX4_slacks := goodIn_r _ [579, 17, 25, 245, 246, 247, 16, 248, 37, 249, 250, 251, 252, 38, 253, 254, 255, 256, 550, 551, 552, 24, 553, 53, 48, 49, 50, 52, 554, 354, 355, 356, 318, 293, 294, 295, 272, 273, 133, 274, 296, 297, 298, 276, 208, 209, 210, 34, 142, 143, 144, 145, 277, 278, 279, 275, 212, 213, 214, 35, 555, 319, 2, 320, 757, 758, 759, 760, 761, 762, 786, 787, 788, 789, 790, 794, 795, 796, 797, 798] (by decide +kernel) (by decide +kernel)
set_option maxRecDepth 20000 in
theorem gL_law_X4_slacks : GoodIn wsL_law (wsV RL 92 RX4 yX4_slacks wsX4_slacks) := goodIn_app (goodIn_of _ (by decide +kernel)) ggL_law_X4_slacks
set_option maxRecDepth 20000 in
theorem ggL_law_X5_slacks : GoodIn wsL_law wsX5_slacks := goodIn_r _ [583, 167, 165, 560, 561, 562, 5, 563, 168, 72, 73, 74, 75, 329, 330, 331, 332, 303, 304, 305, 306, 68, 284, 285, 286, 287, 67, 307, 308, 309, 763, 764, 765, 766, 767, 768, 769, 770, 771, 772, 773, 774, 775, 776, 777, 778, 779, 780, 781, 782, 783, 784, 785] (by decide +kernel) (by decide +kernel)
set_option maxRecDepth 20000 in
theorem gL_law_X5_slacks : GoodIn wsL_law (wsV RL 95 RX5 yX5_slacks wsX5_slacks) := goodIn_app (goodIn_of _ (by decide +kernel)) ggL_law_X5_slacks
set_option maxRecDepth 20000 in
theorem ggL_law_X4_odds : GoodIn wsL_law wsX4_odds := goodIn_r _ [587, 17, 588, 206, 143, 144, 16, 145, 37, 265, 266, 2, 267, 83, 84, 85, 314, 315, 316, 317, 38, 318, 293, 294, 295, 272, 273, 133, 274, 296, 297, 298, 276, 208, 209, 210, 34, 142, 277, 278, 279, 275, 212, 213, 214, 35, 319, 320, 493, 395, 396, 397, 398, 399, 400, 757, 758, 759, 760, 761, 762, 786, 787, 788, 789, 790] (by decide +kernel) (by decide +kernel)
set_option maxRecDepth 20000 in
theorem gL_law_X4_odds : GoodIn wsL_law (wsV RL 96 RX4 yX4_odds wsX4_odds) := goodIn_app (goodIn_of _ (by decide +kernel)) ggL_law_X4_odds
set_option maxRecDepth 20000 in
theorem ggL_law_X5_odds : GoodIn wsL_law wsX5_odds := goodIn_r _ [592, 593, 167, 219, 220, 221, 5, 222, 238, 239, 240, 172, 173, 174, 325, 326, 327, 328, 329, 330, 331, 332, 165, 303, 304, 305, 306, 68, 284, 285, 286, 287, 67, 307, 308, 309, 594, 595, 596, 763, 764, 765, 766, 767, 768, 769, 770, 771, 772, 773, 774, 775, 776, 777, 778, 779, 780, 781, 782, 783, 784, 785] (by decide +kernel) (by decide +kernel)
set_option maxRecDepth 20000 in
theorem gL_law_X5_odds : GoodIn wsL_law (wsV RL 100 RX5 yX5_odds wsX5_odds) := goodIn_app (goodIn_of _ (by decide +kernel)) ggL_law_X5_odds
set_option maxRecDepth 20000 in
theorem ggL_law_X4_sheet : GoodIn wsL_law wsX4_sheet := goodIn_r _ [600, 27, 13, 80, 81, 2, 82, 83, 84, 85, 86, 87, 88, 601, 602, 603, 604, 605, 606, 607, 29, 608, 57, 58, 59, 609, 610, 611, 612, 757, 758, 759, 760, 761, 762, 799, 800, 801] (by decide +kernel) (by decide +kernel)
set_option maxRecDepth 20000 in
theorem gL_law_X4_sheet : GoodIn wsL_law (wsV RL 101 RX4 yX4_sheet wsX4_sheet) := goodIn_app (goodIn_of _ (by decide +kernel)) ggL_law_X4_sheet
set_option maxRecDepth 20000 in
theorem ggL_law_X5_sheet : GoodIn wsL_law wsX5_sheet := goodIn_r _ [616, 162, 64, 65, 66, 169, 170, 5, 171, 172, 173, 174, 175, 176, 177, 182, 183, 184, 185, 763, 764, 765, 766, 767, 768, 769, 770, 771, 772, 773, 774, 775, 776, 777, 778, 779, 780, 781, 782, 783, 784, 785] (by decide +kernel) (by decide +kernel)
set_option maxRecDepth 20000 in
theorem gL_law_X5_sheet : GoodIn wsL_law (wsV RL 104 RX5 yX5_sheet wsX5_sheet) := goodIn_app (goodIn_of _ (by decide +kernel)) ggL_law_X5_sheet
set_option maxRecDepth 20000 in
theorem ggL_law_X4_lose : GoodIn wsL_law wsX4_lose := goodIn_r _ [620, 13, 80, 81, 2, 82, 83, 84, 85, 98, 99, 100, 29, 101, 58, 621, 622, 623, 624, 59, 757, 758, 759, 760, 761, 762, 799, 800, 801] (by decide +kernel) (by decide +kernel)
set_option maxRecDepth 20000 in
theorem gL_law_X4_lose : GoodIn wsL_law (wsV RL 105 RX4 yX4_lose wsX4_lose) := goodIn_app (goodIn_of _ (by decide +kernel)) ggL_law_X4_lose
set_option maxRecDepth 20000 in
theorem ggL_law_X5_lose : GoodIn wsL_law wsX5_lose := goodIn_r _ [628, 64, 169, 170, 5, 171, 172, 173, 174, 763, 764, 765, 766, 767, 768, 769, 770, 771, 772, 773, 774, 775, 776, 777, 778, 779, 780, 781, 782, 783, 784, 785] (by decide +kernel) (by decide +kernel)
set_option maxRecDepth 20000 in
theorem gL_law_X5_lose : GoodIn wsL_law (wsV RL 108 RX5 yX5_lose wsX5_lose) := goodIn_app (goodIn_of _ (by decide +kernel)) ggL_law_X5_lose
set_option maxRecDepth 20000 in
theorem ggL_law_X4_put : GoodIn wsL_law wsX4_put := goodIn_r _ [632, 27, 13, 80, 81, 2, 82, 83, 84, 85, 98, 99, 100, 29, 101, 58, 601, 602, 603, 604, 633, 118, 119, 120, 59, 634, 635, 636, 637, 57, 117, 638, 639, 640, 641, 757, 758, 759, 760, 761, 762, 799, 800, 801] (by decide +kernel) (by decide +kernel)
set_option maxRecDepth 20000 in
theorem gL_law_X4_put : GoodIn wsL_law (wsV RL 109 RX4 yX4_put wsX4_put) := goodIn_app (goodIn_of _ (by decide +kernel)) ggL_law_X4_put
set_option maxRecDepth 20000 in
theorem ggL_law_X5_put : GoodIn wsL_law wsX5_put := goodIn_r _ [645, 162, 64, 65, 66, 169, 170, 5, 171, 172, 173, 174, 182, 183, 184, 185, 763, 764, 765, 766, 767, 768, 769, 770, 771, 772, 773, 774, 775, 776, 777, 778, 779, 780, 781, 782, 783, 784, 785] (by decide +kernel) (by decide +kernel)
set_option maxRecDepth 20000 in
theorem gL_law_X5_put : GoodIn wsL_law (wsV RL 112 RX5 yX5_put wsX5_put) := goodIn_app (goodIn_of _ (by decide +kernel)) ggL_law_X5_put
set_option maxRecDepth 20000 in
theorem ggL_law_X4_cell : GoodIn wsL_law wsX4_cell := goodIn_r _ [649, 27, 588, 13, 80, 81, 2, 82, 83, 84, 85, 86, 87, 88, 95, 96, 97, 98, 99, 100, 29, 101, 58, 102, 103, 104, 105, 633, 118, 119, 120, 59, 650, 114, 115, 116, 57, 117, 757, 758, 759, 760, 761, 762, 799, 800, 801] (by decide +kernel) (by decide +kernel)
set_option maxRecDepth 20000 in
theorem gL_law_X4_cell : GoodIn wsL_law (wsV RL 113 RX4 yX4_cell wsX4_cell) := goodIn_app (goodIn_of _ (by decide +kernel)) ggL_law_X4_cell
set_option maxRecDepth 20000 in
theorem ggL_law_X5_cell : GoodIn wsL_law wsX5_cell := goodIn_r _ [654, 162, 593, 64, 65, 66, 169, 170, 5, 171, 172, 173, 174, 175, 176, 177, 655, 656, 657, 658, 763, 764, 765, 766, 767, 768, 769, 770, 771, 772, 773, 774, 775, 776, 777, 778, 779, 780, 781, 782, 783, 784, 785] (by decide +kernel) (by decide +kernel)
set_option maxRecDepth 20000 in
theorem gL_law_X5_cell : GoodIn wsL_law (wsV RL 116 RX5 yX5_cell wsX5_cell) := goodIn_app (goodIn_of _ (by decide +kernel)) ggL_law_X5_cell
set_option maxRecDepth 20000 in
theorem ggL_law_X4_copy : GoodIn wsL_law wsX4_copy := goodIn_r _ [662, 27, 13, 80, 81, 2, 82, 83, 84, 85, 98, 99, 100, 29, 101, 58, 601, 602, 603, 604, 663, 664, 665, 666, 102, 103, 104, 105, 106, 107, 108, 109, 59, 667, 668, 669, 670, 57, 671, 672, 673, 674, 675, 757, 758, 759, 760, 761, 762, 799, 800, 801] (by decide +kernel) (by decide +kernel)
set_option maxRecDepth 20000 in
theorem gL_law_X4_copy : GoodIn wsL_law (wsV RL 117 RX4 yX4_copy wsX4_copy) := goodIn_app (goodIn_of _ (by decide +kernel)) ggL_law_X4_copy
set_option maxRecDepth 20000 in
theorem ggL_law_X5_copy : GoodIn wsL_law wsX5_copy := goodIn_r _ [679, 162, 64, 65, 66, 169, 170, 5, 171, 172, 173, 174, 182, 183, 184, 185, 763, 764, 765, 766, 767, 768, 769, 770, 771, 772, 773, 774, 775, 776, 777, 778, 779, 780, 781, 782, 783, 784, 785] (by decide +kernel) (by decide +kernel)
set_option maxRecDepth 20000 in
theorem gL_law_X5_copy : GoodIn wsL_law (wsV RL 121 RX5 yX5_copy wsX5_copy) := goodIn_app (goodIn_of _ (by decide +kernel)) ggL_law_X5_copy
set_option maxRecDepth 20000 in
theorem ggL_law_X4_tell : GoodIn wsL_law wsX4_tell := goodIn_r _ [683, 17, 206, 143, 144, 16, 145, 37, 207, 208, 209, 210, 34, 142, 684, 685, 686, 2, 687, 688, 689, 690, 691, 26, 692, 693, 694, 695, 696, 697, 698, 699, 211, 212, 213, 214, 35, 757, 758, 759, 760, 761, 762, 786, 787, 788, 789, 790] (by decide +kernel) (by decide +kernel)
set_option maxRecDepth 20000 in
theorem gL_law_X4_tell : GoodIn wsL_law (wsV RL 122 RX4 yX4_tell wsX4_tell) := goodIn_app (goodIn_of _ (by decide +kernel)) ggL_law_X4_tell
set_option maxRecDepth 20000 in
theorem ggL_law_X5_tell : GoodIn wsL_law wsX5_tell := goodIn_r _ [703, 68, 67, 219, 220, 221, 5, 222, 167, 704, 705, 706, 707, 708, 763, 764, 765, 766, 767, 768, 769, 770, 771, 772, 773, 774, 775, 776, 777, 778, 779, 780, 781, 782, 783, 784, 785] (by decide +kernel) (by decide +kernel)
set_option maxRecDepth 20000 in
theorem gL_law_X5_tell : GoodIn wsL_law (wsV RL 125 RX5 yX5_tell wsX5_tell) := goodIn_app (goodIn_of _ (by decide +kernel)) ggL_law_X5_tell
set_option maxRecDepth 20000 in
theorem ggL_law_X4_seal : GoodIn wsL_law wsX4_seal := goodIn_r _ [712, 17, 206, 143, 144, 16, 145, 37, 207, 208, 209, 210, 34, 142, 713, 714, 715, 2, 716, 688, 689, 690, 691, 26, 717, 718, 719, 720, 757, 758, 759, 760, 761, 762, 786, 787, 788, 789, 790] (by decide +kernel) (by decide +kernel)
set_option maxRecDepth 20000 in
theorem gL_law_X4_seal : GoodIn wsL_law (wsV RL 126 RX4 yX4_seal wsX4_seal) := goodIn_app (goodIn_of _ (by decide +kernel)) ggL_law_X4_seal
set_option maxRecDepth 20000 in
theorem ggL_law_X5_seal : GoodIn wsL_law wsX5_seal := goodIn_r _ [724, 67, 219, 220, 221, 5, 222, 167, 704, 705, 706, 707, 708, 763, 764, 765, 766, 767, 768, 769, 770, 771, 772, 773, 774, 775, 776, 777, 778, 779, 780, 781, 782, 783, 784, 785] (by decide +kernel) (by decide +kernel)
set_option maxRecDepth 20000 in
theorem gL_law_X5_seal : GoodIn wsL_law (wsV RL 129 RX5 yX5_seal wsX5_seal) := goodIn_app (goodIn_of _ (by decide +kernel)) ggL_law_X5_seal
set_option maxRecDepth 20000 in
theorem ggL_law_X4_as : GoodIn wsL_law wsX4_as := goodIn_r _ [728, 27, 17, 206, 143, 144, 16, 145, 37, 83, 84, 2, 85, 207, 208, 209, 210, 34, 142, 601, 602, 603, 604, 757, 758, 759, 760, 761, 762, 786, 787, 788, 789, 790] (by decide +kernel) (by decide +kernel)
set_option maxRecDepth 20000 in
theorem gL_law_X4_as : GoodIn wsL_law (wsV RL 130 RX4 yX4_as wsX4_as) := goodIn_app (goodIn_of _ (by decide +kernel)) ggL_law_X4_as
set_option maxRecDepth 20000 in
theorem ggL_law_X5_as : GoodIn wsL_law wsX5_as := goodIn_r _ [732, 162, 67, 219, 220, 221, 5, 222, 167, 172, 173, 174, 182, 183, 184, 185, 763, 764, 765, 766, 767, 768, 769, 770, 771, 772, 773, 774, 775, 776, 777, 778, 779, 780, 781, 782, 783, 784, 785] (by decide +kernel) (by decide +kernel)
set_option maxRecDepth 20000 in
theorem gL_law_X5_as : GoodIn wsL_law (wsV RL 133 RX5 yX5_as wsX5_as) := goodIn_app (goodIn_of _ (by decide +kernel)) ggL_law_X5_as
set_option maxRecDepth 20000 in
theorem ggL_law_X4_trace : GoodIn wsL_law wsX4_trace := goodIn_r _ [736, 26, 757, 758, 759, 760, 761, 762] (by decide +kernel) (by decide +kernel)
set_option maxRecDepth 20000 in
theorem gL_law_X4_trace : GoodIn wsL_law (wsV RL 134 RX4 yX4_trace wsX4_trace) := goodIn_app (goodIn_of _ (by decide +kernel)) ggL_law_X4_trace
set_option maxRecDepth 20000 in
theorem ggL_law_X5_trace : GoodIn wsL_law wsX5_trace := goodIn_r _ [740, 708, 763, 764, 765, 766, 767, 768, 769, 770, 771, 772, 773, 774, 775, 776, 777, 778, 779, 780, 781, 782, 783, 784, 785] (by decide +kernel) (by decide +kernel)
set_option maxRecDepth 20000 in
theorem gL_law_X5_trace : GoodIn wsL_law (wsV RL 137 RX5 yX5_trace wsX5_trace) := goodIn_app (goodIn_of _ (by decide +kernel)) ggL_law_X5_trace
set_option maxRecDepth 20000 in
theorem ggL_law_X4_fault : GoodIn wsL_law wsX4_fault := goodIn_r _ [744, 27, 757, 758, 759, 760, 761, 762] (by decide +kernel) (by decide +kernel)
set_option maxRecDepth 20000 in
theorem gL_law_X4_fault : GoodIn wsL_law (wsV RL 138 RX4 yX4_fault wsX4_fault) := goodIn_app (goodIn_of _ (by decide +kernel)) ggL_law_X4_fault
set_option maxRecDepth 20000 in
theorem ggL_law_X5_fault : GoodIn wsL_law wsX5_fault := goodIn_r _ [748, 162, 763, 764, 765, 766, 767, 768, 769, 770, 771, 772, 773, 774, 775, 776, 777, 778, 779, 780, 781, 782, 783, 784, 785] (by decide +kernel) (by decide +kernel)
set_option maxRecDepth 20000 in
theorem gL_law_X5_fault : GoodIn wsL_law (wsV RL 141 RX5 yX5_fault wsX5_fault) := goodIn_app (goodIn_of _ (by decide +kernel)) ggL_law_X5_fault
set_option maxRecDepth 20000 in
theorem ggL_law_X4_many : GoodIn wsL_law wsX4_many := goodIn_r _ [752, 17, 25, 154, 155, 156, 16, 157, 37, 249, 250, 251, 252, 38, 146, 147, 148, 24, 149, 53, 757, 758, 759, 760, 761, 762, 786, 787, 788, 789, 790, 794, 795, 796, 797, 798] (by decide +kernel) (by decide +kernel)
set_option maxRecDepth 20000 in
theorem gL_law_X4_many : GoodIn wsL_law (wsV RL 142 RX4 yX4_many wsX4_many) := goodIn_app (goodIn_of _ (by decide +kernel)) ggL_law_X4_many
set_option maxRecDepth 20000 in
theorem ggL_law_X5_many : GoodIn wsL_law wsX5_many := goodIn_r _ [756, 167, 165, 168, 763, 764, 765, 766, 767, 768, 769, 770, 771, 772, 773, 774, 775, 776, 777, 778, 779, 780, 781, 782, 783, 784, 785] (by decide +kernel) (by decide +kernel)
set_option maxRecDepth 20000 in
theorem gL_law_X5_many : GoodIn wsL_law (wsV RL 145 RX5 yX5_many wsX5_many) := goodIn_app (goodIn_of _ (by decide +kernel)) ggL_law_X5_many
theorem dL_law_0 : decode cL_law 0 = .ok (.new 7, 3) := by decide +kernel
theorem dL_law_3 : decode cL_law 3 = .ok (.dup, 1) := by decide +kernel
theorem dL_law_4 : decode cL_law 4 = .ok (.invokespecial 9, 3) := by decide +kernel
theorem dL_law_7 : decode cL_law 7 = .ok (.astore_n 1, 1) := by decide +kernel
theorem dL_law_8 : decode cL_law 8 = .ok (.new 10, 3) := by decide +kernel
theorem dL_law_11 : decode cL_law 11 = .ok (.dup, 1) := by decide +kernel
theorem dL_law_12 : decode cL_law 12 = .ok (.invokespecial 12, 3) := by decide +kernel
theorem dL_law_15 : decode cL_law 15 = .ok (.astore_n 2, 1) := by decide +kernel
theorem dL_law_16 : decode cL_law 16 = .ok (.iconst 0, 1) := by decide +kernel
theorem dL_law_17 : decode cL_law 17 = .ok (.istore_n 3, 1) := by decide +kernel
theorem dL_law_18 : decode cL_law 18 = .ok (.iload_n 3, 1) := by decide +kernel
theorem dL_law_19 : decode cL_law 19 = .ok (.aload_n 0, 1) := by decide +kernel
theorem dL_law_20 : decode cL_law 20 = .ok (.arraylength, 1) := by decide +kernel
theorem dL_law_21 : decode cL_law 21 = .ok (.bipush 7, 2) := by decide +kernel
theorem dL_law_23 : decode cL_law 23 = .ok (.isub, 1) := by decide +kernel
theorem dL_law_24 : decode cL_law 24 = .ok (.if_icmp .gt 1197, 3) := by decide +kernel
theorem dL_law_27 : decode cL_law 27 = .ok (.aload_n 0, 1) := by decide +kernel
theorem dL_law_28 : decode cL_law 28 = .ok (.iload_n 3, 1) := by decide +kernel
theorem dL_law_29 : decode cL_law 29 = .ok (.iaload, 1) := by decide +kernel
theorem dL_law_30 : decode cL_law 30 = .ok (.bipush 31, 2) := by decide +kernel
theorem dL_law_32 : decode cL_law 32 = .ok (.iand, 1) := by decide +kernel
theorem dL_law_33 : decode cL_law 33 = .ok (.tableswitch 1182 0 30 #[139, 192, 225, 268, 291, 334, 377, 410, 443, 466, 489, 502, 535, 558, 633, 702, 725, 758, 781, 794, 838, 881, 904, 947, 991, 1054, 1077, 1100, 1133, 1146, 1159], 139) := by decide +kernel
theorem dL_law_172 : decode cL_law 172 = .ok (.aload_n 1, 1) := by decide +kernel
theorem dL_law_173 : decode cL_law 173 = .ok (.aload_n 0, 1) := by decide +kernel
theorem dL_law_174 : decode cL_law 174 = .ok (.iload_n 3, 1) := by decide +kernel
theorem dL_law_175 : decode cL_law 175 = .ok (.iconst 1, 1) := by decide +kernel
theorem dL_law_176 : decode cL_law 176 = .ok (.iadd, 1) := by decide +kernel
theorem dL_law_177 : decode cL_law 177 = .ok (.iaload, 1) := by decide +kernel
theorem dL_law_178 : decode cL_law 178 = .ok (.aload_n 0, 1) := by decide +kernel
theorem dL_law_179 : decode cL_law 179 = .ok (.iload_n 3, 1) := by decide +kernel
theorem dL_law_180 : decode cL_law 180 = .ok (.iconst 2, 1) := by decide +kernel
theorem dL_law_181 : decode cL_law 181 = .ok (.iadd, 1) := by decide +kernel
theorem dL_law_182 : decode cL_law 182 = .ok (.iaload, 1) := by decide +kernel
theorem dL_law_183 : decode cL_law 183 = .ok (.aload_n 0, 1) := by decide +kernel
theorem dL_law_184 : decode cL_law 184 = .ok (.iload_n 3, 1) := by decide +kernel
theorem dL_law_185 : decode cL_law 185 = .ok (.iconst 3, 1) := by decide +kernel
theorem dL_law_186 : decode cL_law 186 = .ok (.iadd, 1) := by decide +kernel
theorem dL_law_187 : decode cL_law 187 = .ok (.iaload, 1) := by decide +kernel
theorem dL_law_188 : decode cL_law 188 = .ok (.aload_n 0, 1) := by decide +kernel
theorem dL_law_189 : decode cL_law 189 = .ok (.iload_n 3, 1) := by decide +kernel
theorem dL_law_190 : decode cL_law 190 = .ok (.iconst 4, 1) := by decide +kernel
theorem dL_law_191 : decode cL_law 191 = .ok (.iadd, 1) := by decide +kernel
theorem dL_law_192 : decode cL_law 192 = .ok (.iaload, 1) := by decide +kernel
theorem dL_law_193 : decode cL_law 193 = .ok (.invokevirtual 13, 3) := by decide +kernel
theorem dL_law_196 : decode cL_law 196 = .ok (.aload_n 2, 1) := by decide +kernel
theorem dL_law_197 : decode cL_law 197 = .ok (.aload_n 0, 1) := by decide +kernel
theorem dL_law_198 : decode cL_law 198 = .ok (.iload_n 3, 1) := by decide +kernel
theorem dL_law_199 : decode cL_law 199 = .ok (.iconst 1, 1) := by decide +kernel
theorem dL_law_200 : decode cL_law 200 = .ok (.iadd, 1) := by decide +kernel
theorem dL_law_201 : decode cL_law 201 = .ok (.iaload, 1) := by decide +kernel
theorem dL_law_202 : decode cL_law 202 = .ok (.aload_n 0, 1) := by decide +kernel
theorem dL_law_203 : decode cL_law 203 = .ok (.iload_n 3, 1) := by decide +kernel
theorem dL_law_204 : decode cL_law 204 = .ok (.iconst 2, 1) := by decide +kernel
theorem dL_law_205 : decode cL_law 205 = .ok (.iadd, 1) := by decide +kernel
theorem dL_law_206 : decode cL_law 206 = .ok (.iaload, 1) := by decide +kernel
theorem dL_law_207 : decode cL_law 207 = .ok (.aload_n 0, 1) := by decide +kernel
theorem dL_law_208 : decode cL_law 208 = .ok (.iload_n 3, 1) := by decide +kernel
theorem dL_law_209 : decode cL_law 209 = .ok (.iconst 3, 1) := by decide +kernel
theorem dL_law_210 : decode cL_law 210 = .ok (.iadd, 1) := by decide +kernel
theorem dL_law_211 : decode cL_law 211 = .ok (.iaload, 1) := by decide +kernel
theorem dL_law_212 : decode cL_law 212 = .ok (.aload_n 0, 1) := by decide +kernel
theorem dL_law_213 : decode cL_law 213 = .ok (.iload_n 3, 1) := by decide +kernel
theorem dL_law_214 : decode cL_law 214 = .ok (.iconst 4, 1) := by decide +kernel
theorem dL_law_215 : decode cL_law 215 = .ok (.iadd, 1) := by decide +kernel
theorem dL_law_216 : decode cL_law 216 = .ok (.iaload, 1) := by decide +kernel
theorem dL_law_217 : decode cL_law 217 = .ok (.invokevirtual 17, 3) := by decide +kernel
theorem dL_law_220 : decode cL_law 220 = .ok (.if_icmp .eq 995, 3) := by decide +kernel
theorem dL_law_223 : decode cL_law 223 = .ok (.iconst 0, 1) := by decide +kernel
theorem dL_law_224 : decode cL_law 224 = .ok (.ireturn, 1) := by decide +kernel
theorem dL_law_225 : decode cL_law 225 = .ok (.aload_n 1, 1) := by decide +kernel
theorem dL_law_226 : decode cL_law 226 = .ok (.aload_n 0, 1) := by decide +kernel
theorem dL_law_227 : decode cL_law 227 = .ok (.iload_n 3, 1) := by decide +kernel
theorem dL_law_228 : decode cL_law 228 = .ok (.iconst 1, 1) := by decide +kernel
theorem dL_law_229 : decode cL_law 229 = .ok (.iadd, 1) := by decide +kernel
theorem dL_law_230 : decode cL_law 230 = .ok (.iaload, 1) := by decide +kernel
theorem dL_law_231 : decode cL_law 231 = .ok (.aload_n 0, 1) := by decide +kernel
theorem dL_law_232 : decode cL_law 232 = .ok (.iload_n 3, 1) := by decide +kernel
theorem dL_law_233 : decode cL_law 233 = .ok (.iconst 2, 1) := by decide +kernel
theorem dL_law_234 : decode cL_law 234 = .ok (.iadd, 1) := by decide +kernel
theorem dL_law_235 : decode cL_law 235 = .ok (.iaload, 1) := by decide +kernel
theorem dL_law_236 : decode cL_law 236 = .ok (.invokevirtual 18, 3) := by decide +kernel
theorem dL_law_239 : decode cL_law 239 = .ok (.aload_n 2, 1) := by decide +kernel
theorem dL_law_240 : decode cL_law 240 = .ok (.aload_n 0, 1) := by decide +kernel
theorem dL_law_241 : decode cL_law 241 = .ok (.iload_n 3, 1) := by decide +kernel
theorem dL_law_242 : decode cL_law 242 = .ok (.iconst 1, 1) := by decide +kernel
theorem dL_law_243 : decode cL_law 243 = .ok (.iadd, 1) := by decide +kernel
theorem dL_law_244 : decode cL_law 244 = .ok (.iaload, 1) := by decide +kernel
theorem dL_law_245 : decode cL_law 245 = .ok (.aload_n 0, 1) := by decide +kernel
theorem dL_law_246 : decode cL_law 246 = .ok (.iload_n 3, 1) := by decide +kernel
theorem dL_law_247 : decode cL_law 247 = .ok (.iconst 2, 1) := by decide +kernel
theorem dL_law_248 : decode cL_law 248 = .ok (.iadd, 1) := by decide +kernel
theorem dL_law_249 : decode cL_law 249 = .ok (.iaload, 1) := by decide +kernel
theorem dL_law_250 : decode cL_law 250 = .ok (.invokevirtual 22, 3) := by decide +kernel
theorem dL_law_253 : decode cL_law 253 = .ok (.if_icmp .eq 962, 3) := by decide +kernel
theorem dL_law_256 : decode cL_law 256 = .ok (.iconst 0, 1) := by decide +kernel
theorem dL_law_257 : decode cL_law 257 = .ok (.ireturn, 1) := by decide +kernel
end
section
theorem dL_law_258 : decode cL_law 258 = .ok (.aload_n 1, 1) := by decide +kernel
theorem dL_law_259 : decode cL_law 259 = .ok (.aload_n 0, 1) := by decide +kernel
theorem dL_law_260 : decode cL_law 260 = .ok (.iload_n 3, 1) := by decide +kernel
theorem dL_law_261 : decode cL_law 261 = .ok (.iconst 1, 1) := by decide +kernel
theorem dL_law_262 : decode cL_law 262 = .ok (.iadd, 1) := by decide +kernel
theorem dL_law_263 : decode cL_law 263 = .ok (.iaload, 1) := by decide +kernel
theorem dL_law_264 : decode cL_law 264 = .ok (.aload_n 0, 1) := by decide +kernel
theorem dL_law_265 : decode cL_law 265 = .ok (.iload_n 3, 1) := by decide +kernel
theorem dL_law_266 : decode cL_law 266 = .ok (.iconst 2, 1) := by decide +kernel
theorem dL_law_267 : decode cL_law 267 = .ok (.iadd, 1) := by decide +kernel
theorem dL_law_268 : decode cL_law 268 = .ok (.iaload, 1) := by decide +kernel
theorem dL_law_269 : decode cL_law 269 = .ok (.aload_n 0, 1) := by decide +kernel
theorem dL_law_270 : decode cL_law 270 = .ok (.iload_n 3, 1) := by decide +kernel
theorem dL_law_271 : decode cL_law 271 = .ok (.iconst 3, 1) := by decide +kernel
theorem dL_law_272 : decode cL_law 272 = .ok (.iadd, 1) := by decide +kernel
theorem dL_law_273 : decode cL_law 273 = .ok (.iaload, 1) := by decide +kernel
theorem dL_law_274 : decode cL_law 274 = .ok (.invokevirtual 23, 3) := by decide +kernel
theorem dL_law_277 : decode cL_law 277 = .ok (.aload_n 2, 1) := by decide +kernel
theorem dL_law_278 : decode cL_law 278 = .ok (.aload_n 0, 1) := by decide +kernel
theorem dL_law_279 : decode cL_law 279 = .ok (.iload_n 3, 1) := by decide +kernel
theorem dL_law_280 : decode cL_law 280 = .ok (.iconst 1, 1) := by decide +kernel
theorem dL_law_281 : decode cL_law 281 = .ok (.iadd, 1) := by decide +kernel
theorem dL_law_282 : decode cL_law 282 = .ok (.iaload, 1) := by decide +kernel
theorem dL_law_283 : decode cL_law 283 = .ok (.aload_n 0, 1) := by decide +kernel
theorem dL_law_284 : decode cL_law 284 = .ok (.iload_n 3, 1) := by decide +kernel
theorem dL_law_285 : decode cL_law 285 = .ok (.iconst 2, 1) := by decide +kernel
theorem dL_law_286 : decode cL_law 286 = .ok (.iadd, 1) := by decide +kernel
theorem dL_law_287 : decode cL_law 287 = .ok (.iaload, 1) := by decide +kernel
theorem dL_law_288 : decode cL_law 288 = .ok (.aload_n 0, 1) := by decide +kernel
theorem dL_law_289 : decode cL_law 289 = .ok (.iload_n 3, 1) := by decide +kernel
theorem dL_law_290 : decode cL_law 290 = .ok (.iconst 3, 1) := by decide +kernel
theorem dL_law_291 : decode cL_law 291 = .ok (.iadd, 1) := by decide +kernel
theorem dL_law_292 : decode cL_law 292 = .ok (.iaload, 1) := by decide +kernel
theorem dL_law_293 : decode cL_law 293 = .ok (.invokevirtual 27, 3) := by decide +kernel
theorem dL_law_296 : decode cL_law 296 = .ok (.if_icmp .eq 919, 3) := by decide +kernel
theorem dL_law_299 : decode cL_law 299 = .ok (.iconst 0, 1) := by decide +kernel
theorem dL_law_300 : decode cL_law 300 = .ok (.ireturn, 1) := by decide +kernel
theorem dL_law_301 : decode cL_law 301 = .ok (.aload_n 1, 1) := by decide +kernel
theorem dL_law_302 : decode cL_law 302 = .ok (.aload_n 0, 1) := by decide +kernel
theorem dL_law_303 : decode cL_law 303 = .ok (.iload_n 3, 1) := by decide +kernel
theorem dL_law_304 : decode cL_law 304 = .ok (.iconst 1, 1) := by decide +kernel
theorem dL_law_305 : decode cL_law 305 = .ok (.iadd, 1) := by decide +kernel
theorem dL_law_306 : decode cL_law 306 = .ok (.iaload, 1) := by decide +kernel
theorem dL_law_307 : decode cL_law 307 = .ok (.invokevirtual 28, 3) := by decide +kernel
theorem dL_law_310 : decode cL_law 310 = .ok (.aload_n 2, 1) := by decide +kernel
theorem dL_law_311 : decode cL_law 311 = .ok (.aload_n 0, 1) := by decide +kernel
theorem dL_law_312 : decode cL_law 312 = .ok (.iload_n 3, 1) := by decide +kernel
theorem dL_law_313 : decode cL_law 313 = .ok (.iconst 1, 1) := by decide +kernel
theorem dL_law_314 : decode cL_law 314 = .ok (.iadd, 1) := by decide +kernel
theorem dL_law_315 : decode cL_law 315 = .ok (.iaload, 1) := by decide +kernel
theorem dL_law_316 : decode cL_law 316 = .ok (.invokevirtual 32, 3) := by decide +kernel
theorem dL_law_319 : decode cL_law 319 = .ok (.if_icmp .eq 896, 3) := by decide +kernel
theorem dL_law_322 : decode cL_law 322 = .ok (.iconst 0, 1) := by decide +kernel
theorem dL_law_323 : decode cL_law 323 = .ok (.ireturn, 1) := by decide +kernel
theorem dL_law_324 : decode cL_law 324 = .ok (.aload_n 1, 1) := by decide +kernel
theorem dL_law_325 : decode cL_law 325 = .ok (.aload_n 0, 1) := by decide +kernel
theorem dL_law_326 : decode cL_law 326 = .ok (.iload_n 3, 1) := by decide +kernel
theorem dL_law_327 : decode cL_law 327 = .ok (.iconst 1, 1) := by decide +kernel
theorem dL_law_328 : decode cL_law 328 = .ok (.iadd, 1) := by decide +kernel
theorem dL_law_329 : decode cL_law 329 = .ok (.iaload, 1) := by decide +kernel
theorem dL_law_330 : decode cL_law 330 = .ok (.aload_n 0, 1) := by decide +kernel
theorem dL_law_331 : decode cL_law 331 = .ok (.iload_n 3, 1) := by decide +kernel
theorem dL_law_332 : decode cL_law 332 = .ok (.iconst 2, 1) := by decide +kernel
theorem dL_law_333 : decode cL_law 333 = .ok (.iadd, 1) := by decide +kernel
theorem dL_law_334 : decode cL_law 334 = .ok (.iaload, 1) := by decide +kernel
theorem dL_law_335 : decode cL_law 335 = .ok (.aload_n 0, 1) := by decide +kernel
theorem dL_law_336 : decode cL_law 336 = .ok (.iload_n 3, 1) := by decide +kernel
theorem dL_law_337 : decode cL_law 337 = .ok (.iconst 3, 1) := by decide +kernel
theorem dL_law_338 : decode cL_law 338 = .ok (.iadd, 1) := by decide +kernel
theorem dL_law_339 : decode cL_law 339 = .ok (.iaload, 1) := by decide +kernel
theorem dL_law_340 : decode cL_law 340 = .ok (.invokevirtual 33, 3) := by decide +kernel
theorem dL_law_343 : decode cL_law 343 = .ok (.aload_n 2, 1) := by decide +kernel
theorem dL_law_344 : decode cL_law 344 = .ok (.aload_n 0, 1) := by decide +kernel
theorem dL_law_345 : decode cL_law 345 = .ok (.iload_n 3, 1) := by decide +kernel
theorem dL_law_346 : decode cL_law 346 = .ok (.iconst 1, 1) := by decide +kernel
theorem dL_law_347 : decode cL_law 347 = .ok (.iadd, 1) := by decide +kernel
theorem dL_law_348 : decode cL_law 348 = .ok (.iaload, 1) := by decide +kernel
theorem dL_law_349 : decode cL_law 349 = .ok (.aload_n 0, 1) := by decide +kernel
theorem dL_law_350 : decode cL_law 350 = .ok (.iload_n 3, 1) := by decide +kernel
theorem dL_law_351 : decode cL_law 351 = .ok (.iconst 2, 1) := by decide +kernel
theorem dL_law_352 : decode cL_law 352 = .ok (.iadd, 1) := by decide +kernel
theorem dL_law_353 : decode cL_law 353 = .ok (.iaload, 1) := by decide +kernel
theorem dL_law_354 : decode cL_law 354 = .ok (.aload_n 0, 1) := by decide +kernel
theorem dL_law_355 : decode cL_law 355 = .ok (.iload_n 3, 1) := by decide +kernel
theorem dL_law_356 : decode cL_law 356 = .ok (.iconst 3, 1) := by decide +kernel
theorem dL_law_357 : decode cL_law 357 = .ok (.iadd, 1) := by decide +kernel
theorem dL_law_358 : decode cL_law 358 = .ok (.iaload, 1) := by decide +kernel
theorem dL_law_359 : decode cL_law 359 = .ok (.invokevirtual 36, 3) := by decide +kernel
theorem dL_law_362 : decode cL_law 362 = .ok (.if_icmp .eq 853, 3) := by decide +kernel
theorem dL_law_365 : decode cL_law 365 = .ok (.iconst 0, 1) := by decide +kernel
theorem dL_law_366 : decode cL_law 366 = .ok (.ireturn, 1) := by decide +kernel
theorem dL_law_367 : decode cL_law 367 = .ok (.aload_n 1, 1) := by decide +kernel
theorem dL_law_368 : decode cL_law 368 = .ok (.aload_n 0, 1) := by decide +kernel
theorem dL_law_369 : decode cL_law 369 = .ok (.iload_n 3, 1) := by decide +kernel
theorem dL_law_370 : decode cL_law 370 = .ok (.iconst 1, 1) := by decide +kernel
theorem dL_law_371 : decode cL_law 371 = .ok (.iadd, 1) := by decide +kernel
theorem dL_law_372 : decode cL_law 372 = .ok (.iaload, 1) := by decide +kernel
theorem dL_law_373 : decode cL_law 373 = .ok (.aload_n 0, 1) := by decide +kernel
theorem dL_law_374 : decode cL_law 374 = .ok (.iload_n 3, 1) := by decide +kernel
theorem dL_law_375 : decode cL_law 375 = .ok (.iconst 2, 1) := by decide +kernel
theorem dL_law_376 : decode cL_law 376 = .ok (.iadd, 1) := by decide +kernel
theorem dL_law_377 : decode cL_law 377 = .ok (.iaload, 1) := by decide +kernel
theorem dL_law_378 : decode cL_law 378 = .ok (.aload_n 0, 1) := by decide +kernel
theorem dL_law_379 : decode cL_law 379 = .ok (.iload_n 3, 1) := by decide +kernel
theorem dL_law_380 : decode cL_law 380 = .ok (.iconst 3, 1) := by decide +kernel
theorem dL_law_381 : decode cL_law 381 = .ok (.iadd, 1) := by decide +kernel
theorem dL_law_382 : decode cL_law 382 = .ok (.iaload, 1) := by decide +kernel
theorem dL_law_383 : decode cL_law 383 = .ok (.invokevirtual 37, 3) := by decide +kernel
theorem dL_law_386 : decode cL_law 386 = .ok (.aload_n 2, 1) := by decide +kernel
theorem dL_law_387 : decode cL_law 387 = .ok (.aload_n 0, 1) := by decide +kernel
theorem dL_law_388 : decode cL_law 388 = .ok (.iload_n 3, 1) := by decide +kernel
theorem dL_law_389 : decode cL_law 389 = .ok (.iconst 1, 1) := by decide +kernel
theorem dL_law_390 : decode cL_law 390 = .ok (.iadd, 1) := by decide +kernel
theorem dL_law_391 : decode cL_law 391 = .ok (.iaload, 1) := by decide +kernel
theorem dL_law_392 : decode cL_law 392 = .ok (.aload_n 0, 1) := by decide +kernel
theorem dL_law_393 : decode cL_law 393 = .ok (.iload_n 3, 1) := by decide +kernel
theorem dL_law_394 : decode cL_law 394 = .ok (.iconst 2, 1) := by decide +kernel
theorem dL_law_395 : decode cL_law 395 = .ok (.iadd, 1) := by decide +kernel
theorem dL_law_396 : decode cL_law 396 = .ok (.iaload, 1) := by decide +kernel
theorem dL_law_397 : decode cL_law 397 = .ok (.aload_n 0, 1) := by decide +kernel
theorem dL_law_398 : decode cL_law 398 = .ok (.iload_n 3, 1) := by decide +kernel
theorem dL_law_399 : decode cL_law 399 = .ok (.iconst 3, 1) := by decide +kernel
theorem dL_law_400 : decode cL_law 400 = .ok (.iadd, 1) := by decide +kernel
theorem dL_law_401 : decode cL_law 401 = .ok (.iaload, 1) := by decide +kernel
theorem dL_law_402 : decode cL_law 402 = .ok (.invokevirtual 40, 3) := by decide +kernel
theorem dL_law_405 : decode cL_law 405 = .ok (.if_icmp .eq 810, 3) := by decide +kernel
theorem dL_law_408 : decode cL_law 408 = .ok (.iconst 0, 1) := by decide +kernel
theorem dL_law_409 : decode cL_law 409 = .ok (.ireturn, 1) := by decide +kernel
theorem dL_law_410 : decode cL_law 410 = .ok (.aload_n 1, 1) := by decide +kernel
theorem dL_law_411 : decode cL_law 411 = .ok (.aload_n 0, 1) := by decide +kernel
theorem dL_law_412 : decode cL_law 412 = .ok (.iload_n 3, 1) := by decide +kernel
theorem dL_law_413 : decode cL_law 413 = .ok (.iconst 1, 1) := by decide +kernel
theorem dL_law_414 : decode cL_law 414 = .ok (.iadd, 1) := by decide +kernel
theorem dL_law_415 : decode cL_law 415 = .ok (.iaload, 1) := by decide +kernel
theorem dL_law_416 : decode cL_law 416 = .ok (.aload_n 0, 1) := by decide +kernel
theorem dL_law_417 : decode cL_law 417 = .ok (.iload_n 3, 1) := by decide +kernel
theorem dL_law_418 : decode cL_law 418 = .ok (.iconst 2, 1) := by decide +kernel
theorem dL_law_419 : decode cL_law 419 = .ok (.iadd, 1) := by decide +kernel
theorem dL_law_420 : decode cL_law 420 = .ok (.iaload, 1) := by decide +kernel
theorem dL_law_421 : decode cL_law 421 = .ok (.invokevirtual 41, 3) := by decide +kernel
theorem dL_law_424 : decode cL_law 424 = .ok (.aload_n 2, 1) := by decide +kernel
theorem dL_law_425 : decode cL_law 425 = .ok (.aload_n 0, 1) := by decide +kernel
theorem dL_law_426 : decode cL_law 426 = .ok (.iload_n 3, 1) := by decide +kernel
theorem dL_law_427 : decode cL_law 427 = .ok (.iconst 1, 1) := by decide +kernel
theorem dL_law_428 : decode cL_law 428 = .ok (.iadd, 1) := by decide +kernel
theorem dL_law_429 : decode cL_law 429 = .ok (.iaload, 1) := by decide +kernel
theorem dL_law_430 : decode cL_law 430 = .ok (.aload_n 0, 1) := by decide +kernel
theorem dL_law_431 : decode cL_law 431 = .ok (.iload_n 3, 1) := by decide +kernel
theorem dL_law_432 : decode cL_law 432 = .ok (.iconst 2, 1) := by decide +kernel
theorem dL_law_433 : decode cL_law 433 = .ok (.iadd, 1) := by decide +kernel
theorem dL_law_434 : decode cL_law 434 = .ok (.iaload, 1) := by decide +kernel
theorem dL_law_435 : decode cL_law 435 = .ok (.invokevirtual 44, 3) := by decide +kernel
theorem dL_law_438 : decode cL_law 438 = .ok (.if_icmp .eq 777, 3) := by decide +kernel
theorem dL_law_441 : decode cL_law 441 = .ok (.iconst 0, 1) := by decide +kernel
theorem dL_law_442 : decode cL_law 442 = .ok (.ireturn, 1) := by decide +kernel
theorem dL_law_443 : decode cL_law 443 = .ok (.aload_n 1, 1) := by decide +kernel
theorem dL_law_444 : decode cL_law 444 = .ok (.aload_n 0, 1) := by decide +kernel
theorem dL_law_445 : decode cL_law 445 = .ok (.iload_n 3, 1) := by decide +kernel
theorem dL_law_446 : decode cL_law 446 = .ok (.iconst 1, 1) := by decide +kernel
theorem dL_law_447 : decode cL_law 447 = .ok (.iadd, 1) := by decide +kernel
theorem dL_law_448 : decode cL_law 448 = .ok (.iaload, 1) := by decide +kernel
theorem dL_law_449 : decode cL_law 449 = .ok (.aload_n 0, 1) := by decide +kernel
theorem dL_law_450 : decode cL_law 450 = .ok (.iload_n 3, 1) := by decide +kernel
theorem dL_law_451 : decode cL_law 451 = .ok (.iconst 2, 1) := by decide +kernel
theorem dL_law_452 : decode cL_law 452 = .ok (.iadd, 1) := by decide +kernel
theorem dL_law_453 : decode cL_law 453 = .ok (.iaload, 1) := by decide +kernel
theorem dL_law_454 : decode cL_law 454 = .ok (.invokevirtual 45, 3) := by decide +kernel
theorem dL_law_457 : decode cL_law 457 = .ok (.aload_n 2, 1) := by decide +kernel
theorem dL_law_458 : decode cL_law 458 = .ok (.aload_n 0, 1) := by decide +kernel
theorem dL_law_459 : decode cL_law 459 = .ok (.iload_n 3, 1) := by decide +kernel
theorem dL_law_460 : decode cL_law 460 = .ok (.iconst 1, 1) := by decide +kernel
theorem dL_law_461 : decode cL_law 461 = .ok (.iadd, 1) := by decide +kernel
theorem dL_law_462 : decode cL_law 462 = .ok (.iaload, 1) := by decide +kernel
theorem dL_law_463 : decode cL_law 463 = .ok (.aload_n 0, 1) := by decide +kernel
theorem dL_law_464 : decode cL_law 464 = .ok (.iload_n 3, 1) := by decide +kernel
theorem dL_law_465 : decode cL_law 465 = .ok (.iconst 2, 1) := by decide +kernel
theorem dL_law_466 : decode cL_law 466 = .ok (.iadd, 1) := by decide +kernel
theorem dL_law_467 : decode cL_law 467 = .ok (.iaload, 1) := by decide +kernel
theorem dL_law_468 : decode cL_law 468 = .ok (.invokevirtual 48, 3) := by decide +kernel
theorem dL_law_471 : decode cL_law 471 = .ok (.if_icmp .eq 744, 3) := by decide +kernel
theorem dL_law_474 : decode cL_law 474 = .ok (.iconst 0, 1) := by decide +kernel
theorem dL_law_475 : decode cL_law 475 = .ok (.ireturn, 1) := by decide +kernel
theorem dL_law_476 : decode cL_law 476 = .ok (.aload_n 1, 1) := by decide +kernel
theorem dL_law_477 : decode cL_law 477 = .ok (.aload_n 0, 1) := by decide +kernel
theorem dL_law_478 : decode cL_law 478 = .ok (.iload_n 3, 1) := by decide +kernel
theorem dL_law_479 : decode cL_law 479 = .ok (.iconst 1, 1) := by decide +kernel
theorem dL_law_480 : decode cL_law 480 = .ok (.iadd, 1) := by decide +kernel
theorem dL_law_481 : decode cL_law 481 = .ok (.iaload, 1) := by decide +kernel
theorem dL_law_482 : decode cL_law 482 = .ok (.invokevirtual 49, 3) := by decide +kernel
theorem dL_law_485 : decode cL_law 485 = .ok (.aload_n 2, 1) := by decide +kernel
theorem dL_law_486 : decode cL_law 486 = .ok (.aload_n 0, 1) := by decide +kernel
theorem dL_law_487 : decode cL_law 487 = .ok (.iload_n 3, 1) := by decide +kernel
theorem dL_law_488 : decode cL_law 488 = .ok (.iconst 1, 1) := by decide +kernel
theorem dL_law_489 : decode cL_law 489 = .ok (.iadd, 1) := by decide +kernel
theorem dL_law_490 : decode cL_law 490 = .ok (.iaload, 1) := by decide +kernel
theorem dL_law_491 : decode cL_law 491 = .ok (.invokevirtual 52, 3) := by decide +kernel
theorem dL_law_494 : decode cL_law 494 = .ok (.if_icmp .eq 721, 3) := by decide +kernel
theorem dL_law_497 : decode cL_law 497 = .ok (.iconst 0, 1) := by decide +kernel
theorem dL_law_498 : decode cL_law 498 = .ok (.ireturn, 1) := by decide +kernel
theorem dL_law_499 : decode cL_law 499 = .ok (.aload_n 1, 1) := by decide +kernel
theorem dL_law_500 : decode cL_law 500 = .ok (.aload_n 0, 1) := by decide +kernel
theorem dL_law_501 : decode cL_law 501 = .ok (.iload_n 3, 1) := by decide +kernel
theorem dL_law_502 : decode cL_law 502 = .ok (.iconst 1, 1) := by decide +kernel
theorem dL_law_503 : decode cL_law 503 = .ok (.iadd, 1) := by decide +kernel
theorem dL_law_504 : decode cL_law 504 = .ok (.iaload, 1) := by decide +kernel
theorem dL_law_505 : decode cL_law 505 = .ok (.invokevirtual 53, 3) := by decide +kernel
theorem dL_law_508 : decode cL_law 508 = .ok (.aload_n 2, 1) := by decide +kernel
theorem dL_law_509 : decode cL_law 509 = .ok (.aload_n 0, 1) := by decide +kernel
theorem dL_law_510 : decode cL_law 510 = .ok (.iload_n 3, 1) := by decide +kernel
theorem dL_law_511 : decode cL_law 511 = .ok (.iconst 1, 1) := by decide +kernel
theorem dL_law_512 : decode cL_law 512 = .ok (.iadd, 1) := by decide +kernel
theorem dL_law_513 : decode cL_law 513 = .ok (.iaload, 1) := by decide +kernel
theorem dL_law_514 : decode cL_law 514 = .ok (.invokevirtual 56, 3) := by decide +kernel
theorem dL_law_517 : decode cL_law 517 = .ok (.if_icmp .eq 698, 3) := by decide +kernel
theorem dL_law_520 : decode cL_law 520 = .ok (.iconst 0, 1) := by decide +kernel
theorem dL_law_521 : decode cL_law 521 = .ok (.ireturn, 1) := by decide +kernel
theorem dL_law_522 : decode cL_law 522 = .ok (.aload_n 1, 1) := by decide +kernel
theorem dL_law_523 : decode cL_law 523 = .ok (.invokevirtual 57, 3) := by decide +kernel
theorem dL_law_526 : decode cL_law 526 = .ok (.aload_n 2, 1) := by decide +kernel
theorem dL_law_527 : decode cL_law 527 = .ok (.invokevirtual 61, 3) := by decide +kernel
theorem dL_law_530 : decode cL_law 530 = .ok (.if_icmp .eq 685, 3) := by decide +kernel
theorem dL_law_533 : decode cL_law 533 = .ok (.iconst 0, 1) := by decide +kernel
theorem dL_law_534 : decode cL_law 534 = .ok (.ireturn, 1) := by decide +kernel
theorem dL_law_535 : decode cL_law 535 = .ok (.aload_n 1, 1) := by decide +kernel
theorem dL_law_536 : decode cL_law 536 = .ok (.aload_n 0, 1) := by decide +kernel
theorem dL_law_537 : decode cL_law 537 = .ok (.iload_n 3, 1) := by decide +kernel
theorem dL_law_538 : decode cL_law 538 = .ok (.iconst 1, 1) := by decide +kernel
theorem dL_law_539 : decode cL_law 539 = .ok (.iadd, 1) := by decide +kernel
theorem dL_law_540 : decode cL_law 540 = .ok (.iaload, 1) := by decide +kernel
theorem dL_law_541 : decode cL_law 541 = .ok (.aload_n 0, 1) := by decide +kernel
theorem dL_law_542 : decode cL_law 542 = .ok (.iload_n 3, 1) := by decide +kernel
theorem dL_law_543 : decode cL_law 543 = .ok (.iconst 2, 1) := by decide +kernel
theorem dL_law_544 : decode cL_law 544 = .ok (.iadd, 1) := by decide +kernel
theorem dL_law_545 : decode cL_law 545 = .ok (.iaload, 1) := by decide +kernel
theorem dL_law_546 : decode cL_law 546 = .ok (.invokevirtual 62, 3) := by decide +kernel
theorem dL_law_549 : decode cL_law 549 = .ok (.aload_n 2, 1) := by decide +kernel
theorem dL_law_550 : decode cL_law 550 = .ok (.aload_n 0, 1) := by decide +kernel
theorem dL_law_551 : decode cL_law 551 = .ok (.iload_n 3, 1) := by decide +kernel
theorem dL_law_552 : decode cL_law 552 = .ok (.iconst 1, 1) := by decide +kernel
theorem dL_law_553 : decode cL_law 553 = .ok (.iadd, 1) := by decide +kernel
theorem dL_law_554 : decode cL_law 554 = .ok (.iaload, 1) := by decide +kernel
theorem dL_law_555 : decode cL_law 555 = .ok (.aload_n 0, 1) := by decide +kernel
theorem dL_law_556 : decode cL_law 556 = .ok (.iload_n 3, 1) := by decide +kernel
theorem dL_law_557 : decode cL_law 557 = .ok (.iconst 2, 1) := by decide +kernel
theorem dL_law_558 : decode cL_law 558 = .ok (.iadd, 1) := by decide +kernel
theorem dL_law_559 : decode cL_law 559 = .ok (.iaload, 1) := by decide +kernel
theorem dL_law_560 : decode cL_law 560 = .ok (.invokevirtual 65, 3) := by decide +kernel
theorem dL_law_563 : decode cL_law 563 = .ok (.if_icmp .eq 652, 3) := by decide +kernel
theorem dL_law_566 : decode cL_law 566 = .ok (.iconst 0, 1) := by decide +kernel
theorem dL_law_567 : decode cL_law 567 = .ok (.ireturn, 1) := by decide +kernel
theorem dL_law_568 : decode cL_law 568 = .ok (.aload_n 1, 1) := by decide +kernel
theorem dL_law_569 : decode cL_law 569 = .ok (.aload_n 0, 1) := by decide +kernel
theorem dL_law_570 : decode cL_law 570 = .ok (.iload_n 3, 1) := by decide +kernel
theorem dL_law_571 : decode cL_law 571 = .ok (.iconst 1, 1) := by decide +kernel
theorem dL_law_572 : decode cL_law 572 = .ok (.iadd, 1) := by decide +kernel
theorem dL_law_573 : decode cL_law 573 = .ok (.iaload, 1) := by decide +kernel
theorem dL_law_574 : decode cL_law 574 = .ok (.invokevirtual 66, 3) := by decide +kernel
theorem dL_law_577 : decode cL_law 577 = .ok (.aload_n 2, 1) := by decide +kernel
theorem dL_law_578 : decode cL_law 578 = .ok (.aload_n 0, 1) := by decide +kernel
theorem dL_law_579 : decode cL_law 579 = .ok (.iload_n 3, 1) := by decide +kernel
theorem dL_law_580 : decode cL_law 580 = .ok (.iconst 1, 1) := by decide +kernel
theorem dL_law_581 : decode cL_law 581 = .ok (.iadd, 1) := by decide +kernel
theorem dL_law_582 : decode cL_law 582 = .ok (.iaload, 1) := by decide +kernel
theorem dL_law_583 : decode cL_law 583 = .ok (.invokevirtual 69, 3) := by decide +kernel
theorem dL_law_586 : decode cL_law 586 = .ok (.if_icmp .eq 629, 3) := by decide +kernel
theorem dL_law_589 : decode cL_law 589 = .ok (.iconst 0, 1) := by decide +kernel
theorem dL_law_590 : decode cL_law 590 = .ok (.ireturn, 1) := by decide +kernel
theorem dL_law_591 : decode cL_law 591 = .ok (.aload_n 1, 1) := by decide +kernel
theorem dL_law_592 : decode cL_law 592 = .ok (.aload_n 0, 1) := by decide +kernel
theorem dL_law_593 : decode cL_law 593 = .ok (.iload_n 3, 1) := by decide +kernel
theorem dL_law_594 : decode cL_law 594 = .ok (.iconst 1, 1) := by decide +kernel
theorem dL_law_595 : decode cL_law 595 = .ok (.iadd, 1) := by decide +kernel
theorem dL_law_596 : decode cL_law 596 = .ok (.iaload, 1) := by decide +kernel
theorem dL_law_597 : decode cL_law 597 = .ok (.aload_n 0, 1) := by decide +kernel
theorem dL_law_598 : decode cL_law 598 = .ok (.iload_n 3, 1) := by decide +kernel
theorem dL_law_599 : decode cL_law 599 = .ok (.iconst 2, 1) := by decide +kernel
theorem dL_law_600 : decode cL_law 600 = .ok (.iadd, 1) := by decide +kernel
theorem dL_law_601 : decode cL_law 601 = .ok (.iaload, 1) := by decide +kernel
theorem dL_law_602 : decode cL_law 602 = .ok (.aload_n 0, 1) := by decide +kernel
theorem dL_law_603 : decode cL_law 603 = .ok (.iload_n 3, 1) := by decide +kernel
theorem dL_law_604 : decode cL_law 604 = .ok (.iconst 3, 1) := by decide +kernel
theorem dL_law_605 : decode cL_law 605 = .ok (.iadd, 1) := by decide +kernel
theorem dL_law_606 : decode cL_law 606 = .ok (.iaload, 1) := by decide +kernel
theorem dL_law_607 : decode cL_law 607 = .ok (.aload_n 0, 1) := by decide +kernel
theorem dL_law_608 : decode cL_law 608 = .ok (.iload_n 3, 1) := by decide +kernel
theorem dL_law_609 : decode cL_law 609 = .ok (.iconst 4, 1) := by decide +kernel
theorem dL_law_610 : decode cL_law 610 = .ok (.iadd, 1) := by decide +kernel
theorem dL_law_611 : decode cL_law 611 = .ok (.iaload, 1) := by decide +kernel
theorem dL_law_612 : decode cL_law 612 = .ok (.aload_n 0, 1) := by decide +kernel
theorem dL_law_613 : decode cL_law 613 = .ok (.iload_n 3, 1) := by decide +kernel
theorem dL_law_614 : decode cL_law 614 = .ok (.iconst 5, 1) := by decide +kernel
theorem dL_law_615 : decode cL_law 615 = .ok (.iadd, 1) := by decide +kernel
theorem dL_law_616 : decode cL_law 616 = .ok (.iaload, 1) := by decide +kernel
theorem dL_law_617 : decode cL_law 617 = .ok (.aload_n 0, 1) := by decide +kernel
theorem dL_law_618 : decode cL_law 618 = .ok (.iload_n 3, 1) := by decide +kernel
theorem dL_law_619 : decode cL_law 619 = .ok (.bipush 6, 2) := by decide +kernel
theorem dL_law_621 : decode cL_law 621 = .ok (.iadd, 1) := by decide +kernel
theorem dL_law_622 : decode cL_law 622 = .ok (.iaload, 1) := by decide +kernel
theorem dL_law_623 : decode cL_law 623 = .ok (.invokevirtual 70, 3) := by decide +kernel
theorem dL_law_626 : decode cL_law 626 = .ok (.aload_n 2, 1) := by decide +kernel
theorem dL_law_627 : decode cL_law 627 = .ok (.aload_n 0, 1) := by decide +kernel
theorem dL_law_628 : decode cL_law 628 = .ok (.iload_n 3, 1) := by decide +kernel
theorem dL_law_629 : decode cL_law 629 = .ok (.iconst 1, 1) := by decide +kernel
theorem dL_law_630 : decode cL_law 630 = .ok (.iadd, 1) := by decide +kernel
theorem dL_law_631 : decode cL_law 631 = .ok (.iaload, 1) := by decide +kernel
theorem dL_law_632 : decode cL_law 632 = .ok (.aload_n 0, 1) := by decide +kernel
theorem dL_law_633 : decode cL_law 633 = .ok (.iload_n 3, 1) := by decide +kernel
theorem dL_law_634 : decode cL_law 634 = .ok (.iconst 2, 1) := by decide +kernel
theorem dL_law_635 : decode cL_law 635 = .ok (.iadd, 1) := by decide +kernel
theorem dL_law_636 : decode cL_law 636 = .ok (.iaload, 1) := by decide +kernel
theorem dL_law_637 : decode cL_law 637 = .ok (.aload_n 0, 1) := by decide +kernel
theorem dL_law_638 : decode cL_law 638 = .ok (.iload_n 3, 1) := by decide +kernel
theorem dL_law_639 : decode cL_law 639 = .ok (.iconst 3, 1) := by decide +kernel
theorem dL_law_640 : decode cL_law 640 = .ok (.iadd, 1) := by decide +kernel
theorem dL_law_641 : decode cL_law 641 = .ok (.iaload, 1) := by decide +kernel
theorem dL_law_642 : decode cL_law 642 = .ok (.aload_n 0, 1) := by decide +kernel
theorem dL_law_643 : decode cL_law 643 = .ok (.iload_n 3, 1) := by decide +kernel
theorem dL_law_644 : decode cL_law 644 = .ok (.iconst 4, 1) := by decide +kernel
theorem dL_law_645 : decode cL_law 645 = .ok (.iadd, 1) := by decide +kernel
theorem dL_law_646 : decode cL_law 646 = .ok (.iaload, 1) := by decide +kernel
theorem dL_law_647 : decode cL_law 647 = .ok (.aload_n 0, 1) := by decide +kernel
theorem dL_law_648 : decode cL_law 648 = .ok (.iload_n 3, 1) := by decide +kernel
theorem dL_law_649 : decode cL_law 649 = .ok (.iconst 5, 1) := by decide +kernel
theorem dL_law_650 : decode cL_law 650 = .ok (.iadd, 1) := by decide +kernel
theorem dL_law_651 : decode cL_law 651 = .ok (.iaload, 1) := by decide +kernel
theorem dL_law_652 : decode cL_law 652 = .ok (.aload_n 0, 1) := by decide +kernel
theorem dL_law_653 : decode cL_law 653 = .ok (.iload_n 3, 1) := by decide +kernel
theorem dL_law_654 : decode cL_law 654 = .ok (.bipush 6, 2) := by decide +kernel
theorem dL_law_656 : decode cL_law 656 = .ok (.iadd, 1) := by decide +kernel
theorem dL_law_657 : decode cL_law 657 = .ok (.iaload, 1) := by decide +kernel
theorem dL_law_658 : decode cL_law 658 = .ok (.invokevirtual 74, 3) := by decide +kernel
theorem dL_law_661 : decode cL_law 661 = .ok (.if_icmp .eq 554, 3) := by decide +kernel
theorem dL_law_664 : decode cL_law 664 = .ok (.iconst 0, 1) := by decide +kernel
theorem dL_law_665 : decode cL_law 665 = .ok (.ireturn, 1) := by decide +kernel
theorem dL_law_666 : decode cL_law 666 = .ok (.aload_n 1, 1) := by decide +kernel
theorem dL_law_667 : decode cL_law 667 = .ok (.aload_n 0, 1) := by decide +kernel
theorem dL_law_668 : decode cL_law 668 = .ok (.iload_n 3, 1) := by decide +kernel
theorem dL_law_669 : decode cL_law 669 = .ok (.iconst 1, 1) := by decide +kernel
theorem dL_law_670 : decode cL_law 670 = .ok (.iadd, 1) := by decide +kernel
theorem dL_law_671 : decode cL_law 671 = .ok (.iaload, 1) := by decide +kernel
theorem dL_law_672 : decode cL_law 672 = .ok (.aload_n 0, 1) := by decide +kernel
theorem dL_law_673 : decode cL_law 673 = .ok (.iload_n 3, 1) := by decide +kernel
theorem dL_law_674 : decode cL_law 674 = .ok (.iconst 2, 1) := by decide +kernel
theorem dL_law_675 : decode cL_law 675 = .ok (.iadd, 1) := by decide +kernel
theorem dL_law_676 : decode cL_law 676 = .ok (.iaload, 1) := by decide +kernel
theorem dL_law_677 : decode cL_law 677 = .ok (.aload_n 0, 1) := by decide +kernel
theorem dL_law_678 : decode cL_law 678 = .ok (.iload_n 3, 1) := by decide +kernel
theorem dL_law_679 : decode cL_law 679 = .ok (.iconst 3, 1) := by decide +kernel
theorem dL_law_680 : decode cL_law 680 = .ok (.iadd, 1) := by decide +kernel
theorem dL_law_681 : decode cL_law 681 = .ok (.iaload, 1) := by decide +kernel
theorem dL_law_682 : decode cL_law 682 = .ok (.aload_n 0, 1) := by decide +kernel
theorem dL_law_683 : decode cL_law 683 = .ok (.iload_n 3, 1) := by decide +kernel
theorem dL_law_684 : decode cL_law 684 = .ok (.iconst 4, 1) := by decide +kernel
theorem dL_law_685 : decode cL_law 685 = .ok (.iadd, 1) := by decide +kernel
theorem dL_law_686 : decode cL_law 686 = .ok (.iaload, 1) := by decide +kernel
theorem dL_law_687 : decode cL_law 687 = .ok (.ifCond .eq 7, 3) := by decide +kernel
theorem dL_law_690 : decode cL_law 690 = .ok (.iconst 1, 1) := by decide +kernel
theorem dL_law_691 : decode cL_law 691 = .ok (.goto 4, 3) := by decide +kernel
theorem dL_law_694 : decode cL_law 694 = .ok (.iconst 0, 1) := by decide +kernel
theorem dL_law_695 : decode cL_law 695 = .ok (.invokevirtual 75, 3) := by decide +kernel
theorem dL_law_698 : decode cL_law 698 = .ok (.aload_n 2, 1) := by decide +kernel
theorem dL_law_699 : decode cL_law 699 = .ok (.aload_n 0, 1) := by decide +kernel
theorem dL_law_700 : decode cL_law 700 = .ok (.iload_n 3, 1) := by decide +kernel
theorem dL_law_701 : decode cL_law 701 = .ok (.iconst 1, 1) := by decide +kernel
theorem dL_law_702 : decode cL_law 702 = .ok (.iadd, 1) := by decide +kernel
theorem dL_law_703 : decode cL_law 703 = .ok (.iaload, 1) := by decide +kernel
theorem dL_law_704 : decode cL_law 704 = .ok (.aload_n 0, 1) := by decide +kernel
theorem dL_law_705 : decode cL_law 705 = .ok (.iload_n 3, 1) := by decide +kernel
theorem dL_law_706 : decode cL_law 706 = .ok (.iconst 2, 1) := by decide +kernel
theorem dL_law_707 : decode cL_law 707 = .ok (.iadd, 1) := by decide +kernel
theorem dL_law_708 : decode cL_law 708 = .ok (.iaload, 1) := by decide +kernel
theorem dL_law_709 : decode cL_law 709 = .ok (.aload_n 0, 1) := by decide +kernel
theorem dL_law_710 : decode cL_law 710 = .ok (.iload_n 3, 1) := by decide +kernel
theorem dL_law_711 : decode cL_law 711 = .ok (.iconst 3, 1) := by decide +kernel
theorem dL_law_712 : decode cL_law 712 = .ok (.iadd, 1) := by decide +kernel
theorem dL_law_713 : decode cL_law 713 = .ok (.iaload, 1) := by decide +kernel
theorem dL_law_714 : decode cL_law 714 = .ok (.aload_n 0, 1) := by decide +kernel
theorem dL_law_715 : decode cL_law 715 = .ok (.iload_n 3, 1) := by decide +kernel
theorem dL_law_716 : decode cL_law 716 = .ok (.iconst 4, 1) := by decide +kernel
theorem dL_law_717 : decode cL_law 717 = .ok (.iadd, 1) := by decide +kernel
theorem dL_law_718 : decode cL_law 718 = .ok (.iaload, 1) := by decide +kernel
theorem dL_law_719 : decode cL_law 719 = .ok (.ifCond .eq 7, 3) := by decide +kernel
theorem dL_law_722 : decode cL_law 722 = .ok (.iconst 1, 1) := by decide +kernel
theorem dL_law_723 : decode cL_law 723 = .ok (.goto 4, 3) := by decide +kernel
theorem dL_law_726 : decode cL_law 726 = .ok (.iconst 0, 1) := by decide +kernel
theorem dL_law_727 : decode cL_law 727 = .ok (.invokevirtual 79, 3) := by decide +kernel
theorem dL_law_730 : decode cL_law 730 = .ok (.if_icmp .eq 485, 3) := by decide +kernel
theorem dL_law_733 : decode cL_law 733 = .ok (.iconst 0, 1) := by decide +kernel
theorem dL_law_734 : decode cL_law 734 = .ok (.ireturn, 1) := by decide +kernel
theorem dL_law_735 : decode cL_law 735 = .ok (.aload_n 1, 1) := by decide +kernel
theorem dL_law_736 : decode cL_law 736 = .ok (.aload_n 0, 1) := by decide +kernel
theorem dL_law_737 : decode cL_law 737 = .ok (.iload_n 3, 1) := by decide +kernel
theorem dL_law_738 : decode cL_law 738 = .ok (.iconst 1, 1) := by decide +kernel
theorem dL_law_739 : decode cL_law 739 = .ok (.iadd, 1) := by decide +kernel
theorem dL_law_740 : decode cL_law 740 = .ok (.iaload, 1) := by decide +kernel
theorem dL_law_741 : decode cL_law 741 = .ok (.invokevirtual 80, 3) := by decide +kernel
theorem dL_law_744 : decode cL_law 744 = .ok (.aload_n 2, 1) := by decide +kernel
theorem dL_law_745 : decode cL_law 745 = .ok (.aload_n 0, 1) := by decide +kernel
theorem dL_law_746 : decode cL_law 746 = .ok (.iload_n 3, 1) := by decide +kernel
theorem dL_law_747 : decode cL_law 747 = .ok (.iconst 1, 1) := by decide +kernel
theorem dL_law_748 : decode cL_law 748 = .ok (.iadd, 1) := by decide +kernel
theorem dL_law_749 : decode cL_law 749 = .ok (.iaload, 1) := by decide +kernel
theorem dL_law_750 : decode cL_law 750 = .ok (.invokevirtual 83, 3) := by decide +kernel
theorem dL_law_753 : decode cL_law 753 = .ok (.if_icmp .eq 462, 3) := by decide +kernel
theorem dL_law_756 : decode cL_law 756 = .ok (.iconst 0, 1) := by decide +kernel
theorem dL_law_757 : decode cL_law 757 = .ok (.ireturn, 1) := by decide +kernel
theorem dL_law_758 : decode cL_law 758 = .ok (.aload_n 1, 1) := by decide +kernel
theorem dL_law_759 : decode cL_law 759 = .ok (.aload_n 0, 1) := by decide +kernel
theorem dL_law_760 : decode cL_law 760 = .ok (.iload_n 3, 1) := by decide +kernel
theorem dL_law_761 : decode cL_law 761 = .ok (.iconst 1, 1) := by decide +kernel
theorem dL_law_762 : decode cL_law 762 = .ok (.iadd, 1) := by decide +kernel
theorem dL_law_763 : decode cL_law 763 = .ok (.iaload, 1) := by decide +kernel
theorem dL_law_764 : decode cL_law 764 = .ok (.aload_n 0, 1) := by decide +kernel
theorem dL_law_765 : decode cL_law 765 = .ok (.iload_n 3, 1) := by decide +kernel
theorem dL_law_766 : decode cL_law 766 = .ok (.iconst 2, 1) := by decide +kernel
theorem dL_law_767 : decode cL_law 767 = .ok (.iadd, 1) := by decide +kernel
theorem dL_law_768 : decode cL_law 768 = .ok (.iaload, 1) := by decide +kernel
theorem dL_law_769 : decode cL_law 769 = .ok (.invokevirtual 84, 3) := by decide +kernel
theorem dL_law_772 : decode cL_law 772 = .ok (.aload_n 2, 1) := by decide +kernel
theorem dL_law_773 : decode cL_law 773 = .ok (.aload_n 0, 1) := by decide +kernel
theorem dL_law_774 : decode cL_law 774 = .ok (.iload_n 3, 1) := by decide +kernel
theorem dL_law_775 : decode cL_law 775 = .ok (.iconst 1, 1) := by decide +kernel
theorem dL_law_776 : decode cL_law 776 = .ok (.iadd, 1) := by decide +kernel
theorem dL_law_777 : decode cL_law 777 = .ok (.iaload, 1) := by decide +kernel
theorem dL_law_778 : decode cL_law 778 = .ok (.aload_n 0, 1) := by decide +kernel
theorem dL_law_779 : decode cL_law 779 = .ok (.iload_n 3, 1) := by decide +kernel
theorem dL_law_780 : decode cL_law 780 = .ok (.iconst 2, 1) := by decide +kernel
theorem dL_law_781 : decode cL_law 781 = .ok (.iadd, 1) := by decide +kernel
theorem dL_law_782 : decode cL_law 782 = .ok (.iaload, 1) := by decide +kernel
theorem dL_law_783 : decode cL_law 783 = .ok (.invokevirtual 87, 3) := by decide +kernel
theorem dL_law_786 : decode cL_law 786 = .ok (.if_icmp .eq 429, 3) := by decide +kernel
theorem dL_law_789 : decode cL_law 789 = .ok (.iconst 0, 1) := by decide +kernel
theorem dL_law_790 : decode cL_law 790 = .ok (.ireturn, 1) := by decide +kernel
theorem dL_law_791 : decode cL_law 791 = .ok (.aload_n 1, 1) := by decide +kernel
theorem dL_law_792 : decode cL_law 792 = .ok (.aload_n 0, 1) := by decide +kernel
theorem dL_law_793 : decode cL_law 793 = .ok (.iload_n 3, 1) := by decide +kernel
theorem dL_law_794 : decode cL_law 794 = .ok (.iconst 1, 1) := by decide +kernel
theorem dL_law_795 : decode cL_law 795 = .ok (.iadd, 1) := by decide +kernel
theorem dL_law_796 : decode cL_law 796 = .ok (.iaload, 1) := by decide +kernel
theorem dL_law_797 : decode cL_law 797 = .ok (.invokevirtual 88, 3) := by decide +kernel
theorem dL_law_800 : decode cL_law 800 = .ok (.aload_n 2, 1) := by decide +kernel
theorem dL_law_801 : decode cL_law 801 = .ok (.aload_n 0, 1) := by decide +kernel
theorem dL_law_802 : decode cL_law 802 = .ok (.iload_n 3, 1) := by decide +kernel
theorem dL_law_803 : decode cL_law 803 = .ok (.iconst 1, 1) := by decide +kernel
theorem dL_law_804 : decode cL_law 804 = .ok (.iadd, 1) := by decide +kernel
theorem dL_law_805 : decode cL_law 805 = .ok (.iaload, 1) := by decide +kernel
theorem dL_law_806 : decode cL_law 806 = .ok (.invokevirtual 91, 3) := by decide +kernel
theorem dL_law_809 : decode cL_law 809 = .ok (.if_icmp .eq 406, 3) := by decide +kernel
theorem dL_law_812 : decode cL_law 812 = .ok (.iconst 0, 1) := by decide +kernel
theorem dL_law_813 : decode cL_law 813 = .ok (.ireturn, 1) := by decide +kernel
theorem dL_law_814 : decode cL_law 814 = .ok (.aload_n 1, 1) := by decide +kernel
theorem dL_law_815 : decode cL_law 815 = .ok (.invokevirtual 92, 3) := by decide +kernel
theorem dL_law_818 : decode cL_law 818 = .ok (.aload_n 2, 1) := by decide +kernel
theorem dL_law_819 : decode cL_law 819 = .ok (.invokevirtual 95, 3) := by decide +kernel
theorem dL_law_822 : decode cL_law 822 = .ok (.if_icmp .eq 393, 3) := by decide +kernel
theorem dL_law_825 : decode cL_law 825 = .ok (.iconst 0, 1) := by decide +kernel
theorem dL_law_826 : decode cL_law 826 = .ok (.ireturn, 1) := by decide +kernel
theorem dL_law_827 : decode cL_law 827 = .ok (.aload_n 1, 1) := by decide +kernel
theorem dL_law_828 : decode cL_law 828 = .ok (.aload_n 0, 1) := by decide +kernel
theorem dL_law_829 : decode cL_law 829 = .ok (.iload_n 3, 1) := by decide +kernel
theorem dL_law_830 : decode cL_law 830 = .ok (.iconst 1, 1) := by decide +kernel
theorem dL_law_831 : decode cL_law 831 = .ok (.iadd, 1) := by decide +kernel
theorem dL_law_832 : decode cL_law 832 = .ok (.iaload, 1) := by decide +kernel
theorem dL_law_833 : decode cL_law 833 = .ok (.aload_n 0, 1) := by decide +kernel
theorem dL_law_834 : decode cL_law 834 = .ok (.iload_n 3, 1) := by decide +kernel
theorem dL_law_835 : decode cL_law 835 = .ok (.iconst 2, 1) := by decide +kernel
theorem dL_law_836 : decode cL_law 836 = .ok (.iadd, 1) := by decide +kernel
theorem dL_law_837 : decode cL_law 837 = .ok (.iaload, 1) := by decide +kernel
theorem dL_law_838 : decode cL_law 838 = .ok (.aload_n 0, 1) := by decide +kernel
theorem dL_law_839 : decode cL_law 839 = .ok (.iload_n 3, 1) := by decide +kernel
theorem dL_law_840 : decode cL_law 840 = .ok (.iconst 3, 1) := by decide +kernel
theorem dL_law_841 : decode cL_law 841 = .ok (.iadd, 1) := by decide +kernel
theorem dL_law_842 : decode cL_law 842 = .ok (.iaload, 1) := by decide +kernel
theorem dL_law_843 : decode cL_law 843 = .ok (.invokevirtual 96, 3) := by decide +kernel
theorem dL_law_846 : decode cL_law 846 = .ok (.aload_n 2, 1) := by decide +kernel
theorem dL_law_847 : decode cL_law 847 = .ok (.aload_n 0, 1) := by decide +kernel
theorem dL_law_848 : decode cL_law 848 = .ok (.iload_n 3, 1) := by decide +kernel
theorem dL_law_849 : decode cL_law 849 = .ok (.iconst 1, 1) := by decide +kernel
theorem dL_law_850 : decode cL_law 850 = .ok (.iadd, 1) := by decide +kernel
theorem dL_law_851 : decode cL_law 851 = .ok (.iaload, 1) := by decide +kernel
theorem dL_law_852 : decode cL_law 852 = .ok (.aload_n 0, 1) := by decide +kernel
theorem dL_law_853 : decode cL_law 853 = .ok (.iload_n 3, 1) := by decide +kernel
theorem dL_law_854 : decode cL_law 854 = .ok (.iconst 2, 1) := by decide +kernel
theorem dL_law_855 : decode cL_law 855 = .ok (.iadd, 1) := by decide +kernel
theorem dL_law_856 : decode cL_law 856 = .ok (.iaload, 1) := by decide +kernel
theorem dL_law_857 : decode cL_law 857 = .ok (.aload_n 0, 1) := by decide +kernel
theorem dL_law_858 : decode cL_law 858 = .ok (.iload_n 3, 1) := by decide +kernel
theorem dL_law_859 : decode cL_law 859 = .ok (.iconst 3, 1) := by decide +kernel
theorem dL_law_860 : decode cL_law 860 = .ok (.iadd, 1) := by decide +kernel
theorem dL_law_861 : decode cL_law 861 = .ok (.iaload, 1) := by decide +kernel
theorem dL_law_862 : decode cL_law 862 = .ok (.invokevirtual 100, 3) := by decide +kernel
theorem dL_law_865 : decode cL_law 865 = .ok (.lcmp, 1) := by decide +kernel
theorem dL_law_866 : decode cL_law 866 = .ok (.ifCond .eq 349, 3) := by decide +kernel
theorem dL_law_869 : decode cL_law 869 = .ok (.iconst 0, 1) := by decide +kernel
theorem dL_law_870 : decode cL_law 870 = .ok (.ireturn, 1) := by decide +kernel
theorem dL_law_871 : decode cL_law 871 = .ok (.aload_n 1, 1) := by decide +kernel
theorem dL_law_872 : decode cL_law 872 = .ok (.aload_n 0, 1) := by decide +kernel
theorem dL_law_873 : decode cL_law 873 = .ok (.iload_n 3, 1) := by decide +kernel
theorem dL_law_874 : decode cL_law 874 = .ok (.iconst 1, 1) := by decide +kernel
theorem dL_law_875 : decode cL_law 875 = .ok (.iadd, 1) := by decide +kernel
theorem dL_law_876 : decode cL_law 876 = .ok (.iaload, 1) := by decide +kernel
theorem dL_law_877 : decode cL_law 877 = .ok (.aload_n 0, 1) := by decide +kernel
theorem dL_law_878 : decode cL_law 878 = .ok (.iload_n 3, 1) := by decide +kernel
theorem dL_law_879 : decode cL_law 879 = .ok (.iconst 2, 1) := by decide +kernel
theorem dL_law_880 : decode cL_law 880 = .ok (.iadd, 1) := by decide +kernel
theorem dL_law_881 : decode cL_law 881 = .ok (.iaload, 1) := by decide +kernel
theorem dL_law_882 : decode cL_law 882 = .ok (.aload_n 0, 1) := by decide +kernel
theorem dL_law_883 : decode cL_law 883 = .ok (.iload_n 3, 1) := by decide +kernel
theorem dL_law_884 : decode cL_law 884 = .ok (.iconst 3, 1) := by decide +kernel
theorem dL_law_885 : decode cL_law 885 = .ok (.iadd, 1) := by decide +kernel
theorem dL_law_886 : decode cL_law 886 = .ok (.iaload, 1) := by decide +kernel
theorem dL_law_887 : decode cL_law 887 = .ok (.invokevirtual 101, 3) := by decide +kernel
theorem dL_law_890 : decode cL_law 890 = .ok (.aload_n 2, 1) := by decide +kernel
theorem dL_law_891 : decode cL_law 891 = .ok (.aload_n 0, 1) := by decide +kernel
theorem dL_law_892 : decode cL_law 892 = .ok (.iload_n 3, 1) := by decide +kernel
theorem dL_law_893 : decode cL_law 893 = .ok (.iconst 1, 1) := by decide +kernel
theorem dL_law_894 : decode cL_law 894 = .ok (.iadd, 1) := by decide +kernel
theorem dL_law_895 : decode cL_law 895 = .ok (.iaload, 1) := by decide +kernel
theorem dL_law_896 : decode cL_law 896 = .ok (.aload_n 0, 1) := by decide +kernel
theorem dL_law_897 : decode cL_law 897 = .ok (.iload_n 3, 1) := by decide +kernel
theorem dL_law_898 : decode cL_law 898 = .ok (.iconst 2, 1) := by decide +kernel
theorem dL_law_899 : decode cL_law 899 = .ok (.iadd, 1) := by decide +kernel
theorem dL_law_900 : decode cL_law 900 = .ok (.iaload, 1) := by decide +kernel
theorem dL_law_901 : decode cL_law 901 = .ok (.aload_n 0, 1) := by decide +kernel
theorem dL_law_902 : decode cL_law 902 = .ok (.iload_n 3, 1) := by decide +kernel
theorem dL_law_903 : decode cL_law 903 = .ok (.iconst 3, 1) := by decide +kernel
theorem dL_law_904 : decode cL_law 904 = .ok (.iadd, 1) := by decide +kernel
theorem dL_law_905 : decode cL_law 905 = .ok (.iaload, 1) := by decide +kernel
theorem dL_law_906 : decode cL_law 906 = .ok (.invokevirtual 104, 3) := by decide +kernel
theorem dL_law_909 : decode cL_law 909 = .ok (.if_icmp .eq 306, 3) := by decide +kernel
theorem dL_law_912 : decode cL_law 912 = .ok (.iconst 0, 1) := by decide +kernel
theorem dL_law_913 : decode cL_law 913 = .ok (.ireturn, 1) := by decide +kernel
theorem dL_law_914 : decode cL_law 914 = .ok (.aload_n 1, 1) := by decide +kernel
theorem dL_law_915 : decode cL_law 915 = .ok (.aload_n 0, 1) := by decide +kernel
theorem dL_law_916 : decode cL_law 916 = .ok (.iload_n 3, 1) := by decide +kernel
theorem dL_law_917 : decode cL_law 917 = .ok (.iconst 1, 1) := by decide +kernel
theorem dL_law_918 : decode cL_law 918 = .ok (.iadd, 1) := by decide +kernel
theorem dL_law_919 : decode cL_law 919 = .ok (.iaload, 1) := by decide +kernel
theorem dL_law_920 : decode cL_law 920 = .ok (.invokevirtual 105, 3) := by decide +kernel
theorem dL_law_923 : decode cL_law 923 = .ok (.aload_n 2, 1) := by decide +kernel
theorem dL_law_924 : decode cL_law 924 = .ok (.aload_n 0, 1) := by decide +kernel
theorem dL_law_925 : decode cL_law 925 = .ok (.iload_n 3, 1) := by decide +kernel
theorem dL_law_926 : decode cL_law 926 = .ok (.iconst 1, 1) := by decide +kernel
theorem dL_law_927 : decode cL_law 927 = .ok (.iadd, 1) := by decide +kernel
theorem dL_law_928 : decode cL_law 928 = .ok (.iaload, 1) := by decide +kernel
theorem dL_law_929 : decode cL_law 929 = .ok (.invokevirtual 108, 3) := by decide +kernel
theorem dL_law_932 : decode cL_law 932 = .ok (.if_icmp .eq 283, 3) := by decide +kernel
theorem dL_law_935 : decode cL_law 935 = .ok (.iconst 0, 1) := by decide +kernel
theorem dL_law_936 : decode cL_law 936 = .ok (.ireturn, 1) := by decide +kernel
theorem dL_law_937 : decode cL_law 937 = .ok (.aload_n 1, 1) := by decide +kernel
theorem dL_law_938 : decode cL_law 938 = .ok (.aload_n 0, 1) := by decide +kernel
theorem dL_law_939 : decode cL_law 939 = .ok (.iload_n 3, 1) := by decide +kernel
theorem dL_law_940 : decode cL_law 940 = .ok (.iconst 1, 1) := by decide +kernel
theorem dL_law_941 : decode cL_law 941 = .ok (.iadd, 1) := by decide +kernel
theorem dL_law_942 : decode cL_law 942 = .ok (.iaload, 1) := by decide +kernel
theorem dL_law_943 : decode cL_law 943 = .ok (.aload_n 0, 1) := by decide +kernel
theorem dL_law_944 : decode cL_law 944 = .ok (.iload_n 3, 1) := by decide +kernel
theorem dL_law_945 : decode cL_law 945 = .ok (.iconst 2, 1) := by decide +kernel
theorem dL_law_946 : decode cL_law 946 = .ok (.iadd, 1) := by decide +kernel
theorem dL_law_947 : decode cL_law 947 = .ok (.iaload, 1) := by decide +kernel
theorem dL_law_948 : decode cL_law 948 = .ok (.aload_n 0, 1) := by decide +kernel
theorem dL_law_949 : decode cL_law 949 = .ok (.iload_n 3, 1) := by decide +kernel
theorem dL_law_950 : decode cL_law 950 = .ok (.iconst 3, 1) := by decide +kernel
theorem dL_law_951 : decode cL_law 951 = .ok (.iadd, 1) := by decide +kernel
theorem dL_law_952 : decode cL_law 952 = .ok (.iaload, 1) := by decide +kernel
theorem dL_law_953 : decode cL_law 953 = .ok (.invokevirtual 109, 3) := by decide +kernel
theorem dL_law_956 : decode cL_law 956 = .ok (.aload_n 2, 1) := by decide +kernel
theorem dL_law_957 : decode cL_law 957 = .ok (.aload_n 0, 1) := by decide +kernel
theorem dL_law_958 : decode cL_law 958 = .ok (.iload_n 3, 1) := by decide +kernel
theorem dL_law_959 : decode cL_law 959 = .ok (.iconst 1, 1) := by decide +kernel
theorem dL_law_960 : decode cL_law 960 = .ok (.iadd, 1) := by decide +kernel
theorem dL_law_961 : decode cL_law 961 = .ok (.iaload, 1) := by decide +kernel
theorem dL_law_962 : decode cL_law 962 = .ok (.aload_n 0, 1) := by decide +kernel
theorem dL_law_963 : decode cL_law 963 = .ok (.iload_n 3, 1) := by decide +kernel
theorem dL_law_964 : decode cL_law 964 = .ok (.iconst 2, 1) := by decide +kernel
theorem dL_law_965 : decode cL_law 965 = .ok (.iadd, 1) := by decide +kernel
theorem dL_law_966 : decode cL_law 966 = .ok (.iaload, 1) := by decide +kernel
theorem dL_law_967 : decode cL_law 967 = .ok (.aload_n 0, 1) := by decide +kernel
theorem dL_law_968 : decode cL_law 968 = .ok (.iload_n 3, 1) := by decide +kernel
theorem dL_law_969 : decode cL_law 969 = .ok (.iconst 3, 1) := by decide +kernel
theorem dL_law_970 : decode cL_law 970 = .ok (.iadd, 1) := by decide +kernel
theorem dL_law_971 : decode cL_law 971 = .ok (.iaload, 1) := by decide +kernel
theorem dL_law_972 : decode cL_law 972 = .ok (.invokevirtual 112, 3) := by decide +kernel
theorem dL_law_975 : decode cL_law 975 = .ok (.if_icmp .eq 240, 3) := by decide +kernel
theorem dL_law_978 : decode cL_law 978 = .ok (.iconst 0, 1) := by decide +kernel
theorem dL_law_979 : decode cL_law 979 = .ok (.ireturn, 1) := by decide +kernel
theorem dL_law_980 : decode cL_law 980 = .ok (.aload_n 1, 1) := by decide +kernel
theorem dL_law_981 : decode cL_law 981 = .ok (.aload_n 0, 1) := by decide +kernel
theorem dL_law_982 : decode cL_law 982 = .ok (.iload_n 3, 1) := by decide +kernel
theorem dL_law_983 : decode cL_law 983 = .ok (.iconst 1, 1) := by decide +kernel
theorem dL_law_984 : decode cL_law 984 = .ok (.iadd, 1) := by decide +kernel
theorem dL_law_985 : decode cL_law 985 = .ok (.iaload, 1) := by decide +kernel
theorem dL_law_986 : decode cL_law 986 = .ok (.aload_n 0, 1) := by decide +kernel
theorem dL_law_987 : decode cL_law 987 = .ok (.iload_n 3, 1) := by decide +kernel
theorem dL_law_988 : decode cL_law 988 = .ok (.iconst 2, 1) := by decide +kernel
theorem dL_law_989 : decode cL_law 989 = .ok (.iadd, 1) := by decide +kernel
theorem dL_law_990 : decode cL_law 990 = .ok (.iaload, 1) := by decide +kernel
theorem dL_law_991 : decode cL_law 991 = .ok (.aload_n 0, 1) := by decide +kernel
theorem dL_law_992 : decode cL_law 992 = .ok (.iload_n 3, 1) := by decide +kernel
theorem dL_law_993 : decode cL_law 993 = .ok (.iconst 3, 1) := by decide +kernel
theorem dL_law_994 : decode cL_law 994 = .ok (.iadd, 1) := by decide +kernel
theorem dL_law_995 : decode cL_law 995 = .ok (.iaload, 1) := by decide +kernel
theorem dL_law_996 : decode cL_law 996 = .ok (.invokevirtual 113, 3) := by decide +kernel
theorem dL_law_999 : decode cL_law 999 = .ok (.aload_n 2, 1) := by decide +kernel
theorem dL_law_1000 : decode cL_law 1000 = .ok (.aload_n 0, 1) := by decide +kernel
theorem dL_law_1001 : decode cL_law 1001 = .ok (.iload_n 3, 1) := by decide +kernel
theorem dL_law_1002 : decode cL_law 1002 = .ok (.iconst 1, 1) := by decide +kernel
theorem dL_law_1003 : decode cL_law 1003 = .ok (.iadd, 1) := by decide +kernel
theorem dL_law_1004 : decode cL_law 1004 = .ok (.iaload, 1) := by decide +kernel
theorem dL_law_1005 : decode cL_law 1005 = .ok (.aload_n 0, 1) := by decide +kernel
theorem dL_law_1006 : decode cL_law 1006 = .ok (.iload_n 3, 1) := by decide +kernel
theorem dL_law_1007 : decode cL_law 1007 = .ok (.iconst 2, 1) := by decide +kernel
theorem dL_law_1008 : decode cL_law 1008 = .ok (.iadd, 1) := by decide +kernel
theorem dL_law_1009 : decode cL_law 1009 = .ok (.iaload, 1) := by decide +kernel
theorem dL_law_1010 : decode cL_law 1010 = .ok (.aload_n 0, 1) := by decide +kernel
theorem dL_law_1011 : decode cL_law 1011 = .ok (.iload_n 3, 1) := by decide +kernel
theorem dL_law_1012 : decode cL_law 1012 = .ok (.iconst 3, 1) := by decide +kernel
theorem dL_law_1013 : decode cL_law 1013 = .ok (.iadd, 1) := by decide +kernel
theorem dL_law_1014 : decode cL_law 1014 = .ok (.iaload, 1) := by decide +kernel
theorem dL_law_1015 : decode cL_law 1015 = .ok (.invokevirtual 116, 3) := by decide +kernel
theorem dL_law_1018 : decode cL_law 1018 = .ok (.lcmp, 1) := by decide +kernel
theorem dL_law_1019 : decode cL_law 1019 = .ok (.ifCond .eq 196, 3) := by decide +kernel
theorem dL_law_1022 : decode cL_law 1022 = .ok (.iconst 0, 1) := by decide +kernel
theorem dL_law_1023 : decode cL_law 1023 = .ok (.ireturn, 1) := by decide +kernel
theorem dL_law_1024 : decode cL_law 1024 = .ok (.aload_n 1, 1) := by decide +kernel
theorem dL_law_1025 : decode cL_law 1025 = .ok (.aload_n 0, 1) := by decide +kernel
theorem dL_law_1026 : decode cL_law 1026 = .ok (.iload_n 3, 1) := by decide +kernel
theorem dL_law_1027 : decode cL_law 1027 = .ok (.iconst 1, 1) := by decide +kernel
theorem dL_law_1028 : decode cL_law 1028 = .ok (.iadd, 1) := by decide +kernel
theorem dL_law_1029 : decode cL_law 1029 = .ok (.iaload, 1) := by decide +kernel
theorem dL_law_1030 : decode cL_law 1030 = .ok (.aload_n 0, 1) := by decide +kernel
theorem dL_law_1031 : decode cL_law 1031 = .ok (.iload_n 3, 1) := by decide +kernel
theorem dL_law_1032 : decode cL_law 1032 = .ok (.iconst 2, 1) := by decide +kernel
theorem dL_law_1033 : decode cL_law 1033 = .ok (.iadd, 1) := by decide +kernel
theorem dL_law_1034 : decode cL_law 1034 = .ok (.iaload, 1) := by decide +kernel
theorem dL_law_1035 : decode cL_law 1035 = .ok (.aload_n 0, 1) := by decide +kernel
theorem dL_law_1036 : decode cL_law 1036 = .ok (.iload_n 3, 1) := by decide +kernel
theorem dL_law_1037 : decode cL_law 1037 = .ok (.iconst 3, 1) := by decide +kernel
theorem dL_law_1038 : decode cL_law 1038 = .ok (.iadd, 1) := by decide +kernel
theorem dL_law_1039 : decode cL_law 1039 = .ok (.iaload, 1) := by decide +kernel
theorem dL_law_1040 : decode cL_law 1040 = .ok (.aload_n 0, 1) := by decide +kernel
theorem dL_law_1041 : decode cL_law 1041 = .ok (.iload_n 3, 1) := by decide +kernel
theorem dL_law_1042 : decode cL_law 1042 = .ok (.iconst 4, 1) := by decide +kernel
theorem dL_law_1043 : decode cL_law 1043 = .ok (.iadd, 1) := by decide +kernel
theorem dL_law_1044 : decode cL_law 1044 = .ok (.iaload, 1) := by decide +kernel
theorem dL_law_1045 : decode cL_law 1045 = .ok (.aload_n 0, 1) := by decide +kernel
theorem dL_law_1046 : decode cL_law 1046 = .ok (.iload_n 3, 1) := by decide +kernel
theorem dL_law_1047 : decode cL_law 1047 = .ok (.iconst 5, 1) := by decide +kernel
theorem dL_law_1048 : decode cL_law 1048 = .ok (.iadd, 1) := by decide +kernel
theorem dL_law_1049 : decode cL_law 1049 = .ok (.iaload, 1) := by decide +kernel
theorem dL_law_1050 : decode cL_law 1050 = .ok (.invokevirtual 117, 3) := by decide +kernel
theorem dL_law_1053 : decode cL_law 1053 = .ok (.aload_n 2, 1) := by decide +kernel
theorem dL_law_1054 : decode cL_law 1054 = .ok (.aload_n 0, 1) := by decide +kernel
theorem dL_law_1055 : decode cL_law 1055 = .ok (.iload_n 3, 1) := by decide +kernel
theorem dL_law_1056 : decode cL_law 1056 = .ok (.iconst 1, 1) := by decide +kernel
theorem dL_law_1057 : decode cL_law 1057 = .ok (.iadd, 1) := by decide +kernel
theorem dL_law_1058 : decode cL_law 1058 = .ok (.iaload, 1) := by decide +kernel
theorem dL_law_1059 : decode cL_law 1059 = .ok (.aload_n 0, 1) := by decide +kernel
theorem dL_law_1060 : decode cL_law 1060 = .ok (.iload_n 3, 1) := by decide +kernel
theorem dL_law_1061 : decode cL_law 1061 = .ok (.iconst 2, 1) := by decide +kernel
theorem dL_law_1062 : decode cL_law 1062 = .ok (.iadd, 1) := by decide +kernel
theorem dL_law_1063 : decode cL_law 1063 = .ok (.iaload, 1) := by decide +kernel
theorem dL_law_1064 : decode cL_law 1064 = .ok (.aload_n 0, 1) := by decide +kernel
theorem dL_law_1065 : decode cL_law 1065 = .ok (.iload_n 3, 1) := by decide +kernel
theorem dL_law_1066 : decode cL_law 1066 = .ok (.iconst 3, 1) := by decide +kernel
theorem dL_law_1067 : decode cL_law 1067 = .ok (.iadd, 1) := by decide +kernel
theorem dL_law_1068 : decode cL_law 1068 = .ok (.iaload, 1) := by decide +kernel
theorem dL_law_1069 : decode cL_law 1069 = .ok (.aload_n 0, 1) := by decide +kernel
theorem dL_law_1070 : decode cL_law 1070 = .ok (.iload_n 3, 1) := by decide +kernel
theorem dL_law_1071 : decode cL_law 1071 = .ok (.iconst 4, 1) := by decide +kernel
theorem dL_law_1072 : decode cL_law 1072 = .ok (.iadd, 1) := by decide +kernel
theorem dL_law_1073 : decode cL_law 1073 = .ok (.iaload, 1) := by decide +kernel
theorem dL_law_1074 : decode cL_law 1074 = .ok (.aload_n 0, 1) := by decide +kernel
theorem dL_law_1075 : decode cL_law 1075 = .ok (.iload_n 3, 1) := by decide +kernel
theorem dL_law_1076 : decode cL_law 1076 = .ok (.iconst 5, 1) := by decide +kernel
theorem dL_law_1077 : decode cL_law 1077 = .ok (.iadd, 1) := by decide +kernel
theorem dL_law_1078 : decode cL_law 1078 = .ok (.iaload, 1) := by decide +kernel
theorem dL_law_1079 : decode cL_law 1079 = .ok (.invokevirtual 121, 3) := by decide +kernel
theorem dL_law_1082 : decode cL_law 1082 = .ok (.if_icmp .eq 133, 3) := by decide +kernel
theorem dL_law_1085 : decode cL_law 1085 = .ok (.iconst 0, 1) := by decide +kernel
theorem dL_law_1086 : decode cL_law 1086 = .ok (.ireturn, 1) := by decide +kernel
theorem dL_law_1087 : decode cL_law 1087 = .ok (.aload_n 1, 1) := by decide +kernel
theorem dL_law_1088 : decode cL_law 1088 = .ok (.aload_n 0, 1) := by decide +kernel
theorem dL_law_1089 : decode cL_law 1089 = .ok (.iload_n 3, 1) := by decide +kernel
theorem dL_law_1090 : decode cL_law 1090 = .ok (.iconst 1, 1) := by decide +kernel
theorem dL_law_1091 : decode cL_law 1091 = .ok (.iadd, 1) := by decide +kernel
theorem dL_law_1092 : decode cL_law 1092 = .ok (.iaload, 1) := by decide +kernel
theorem dL_law_1093 : decode cL_law 1093 = .ok (.invokevirtual 122, 3) := by decide +kernel
theorem dL_law_1096 : decode cL_law 1096 = .ok (.aload_n 2, 1) := by decide +kernel
theorem dL_law_1097 : decode cL_law 1097 = .ok (.aload_n 0, 1) := by decide +kernel
theorem dL_law_1098 : decode cL_law 1098 = .ok (.iload_n 3, 1) := by decide +kernel
theorem dL_law_1099 : decode cL_law 1099 = .ok (.iconst 1, 1) := by decide +kernel
theorem dL_law_1100 : decode cL_law 1100 = .ok (.iadd, 1) := by decide +kernel
theorem dL_law_1101 : decode cL_law 1101 = .ok (.iaload, 1) := by decide +kernel
theorem dL_law_1102 : decode cL_law 1102 = .ok (.invokevirtual 125, 3) := by decide +kernel
theorem dL_law_1105 : decode cL_law 1105 = .ok (.if_icmp .eq 110, 3) := by decide +kernel
theorem dL_law_1108 : decode cL_law 1108 = .ok (.iconst 0, 1) := by decide +kernel
theorem dL_law_1109 : decode cL_law 1109 = .ok (.ireturn, 1) := by decide +kernel
theorem dL_law_1110 : decode cL_law 1110 = .ok (.aload_n 1, 1) := by decide +kernel
theorem dL_law_1111 : decode cL_law 1111 = .ok (.aload_n 0, 1) := by decide +kernel
theorem dL_law_1112 : decode cL_law 1112 = .ok (.iload_n 3, 1) := by decide +kernel
theorem dL_law_1113 : decode cL_law 1113 = .ok (.iconst 1, 1) := by decide +kernel
theorem dL_law_1114 : decode cL_law 1114 = .ok (.iadd, 1) := by decide +kernel
theorem dL_law_1115 : decode cL_law 1115 = .ok (.iaload, 1) := by decide +kernel
theorem dL_law_1116 : decode cL_law 1116 = .ok (.invokevirtual 126, 3) := by decide +kernel
theorem dL_law_1119 : decode cL_law 1119 = .ok (.aload_n 2, 1) := by decide +kernel
theorem dL_law_1120 : decode cL_law 1120 = .ok (.aload_n 0, 1) := by decide +kernel
theorem dL_law_1121 : decode cL_law 1121 = .ok (.iload_n 3, 1) := by decide +kernel
theorem dL_law_1122 : decode cL_law 1122 = .ok (.iconst 1, 1) := by decide +kernel
theorem dL_law_1123 : decode cL_law 1123 = .ok (.iadd, 1) := by decide +kernel
theorem dL_law_1124 : decode cL_law 1124 = .ok (.iaload, 1) := by decide +kernel
theorem dL_law_1125 : decode cL_law 1125 = .ok (.invokevirtual 129, 3) := by decide +kernel
theorem dL_law_1128 : decode cL_law 1128 = .ok (.if_icmp .eq 87, 3) := by decide +kernel
theorem dL_law_1131 : decode cL_law 1131 = .ok (.iconst 0, 1) := by decide +kernel
theorem dL_law_1132 : decode cL_law 1132 = .ok (.ireturn, 1) := by decide +kernel
theorem dL_law_1133 : decode cL_law 1133 = .ok (.aload_n 1, 1) := by decide +kernel
theorem dL_law_1134 : decode cL_law 1134 = .ok (.aload_n 0, 1) := by decide +kernel
theorem dL_law_1135 : decode cL_law 1135 = .ok (.iload_n 3, 1) := by decide +kernel
theorem dL_law_1136 : decode cL_law 1136 = .ok (.iconst 1, 1) := by decide +kernel
theorem dL_law_1137 : decode cL_law 1137 = .ok (.iadd, 1) := by decide +kernel
theorem dL_law_1138 : decode cL_law 1138 = .ok (.iaload, 1) := by decide +kernel
theorem dL_law_1139 : decode cL_law 1139 = .ok (.aload_n 0, 1) := by decide +kernel
theorem dL_law_1140 : decode cL_law 1140 = .ok (.iload_n 3, 1) := by decide +kernel
theorem dL_law_1141 : decode cL_law 1141 = .ok (.iconst 2, 1) := by decide +kernel
theorem dL_law_1142 : decode cL_law 1142 = .ok (.iadd, 1) := by decide +kernel
theorem dL_law_1143 : decode cL_law 1143 = .ok (.iaload, 1) := by decide +kernel
theorem dL_law_1144 : decode cL_law 1144 = .ok (.invokevirtual 130, 3) := by decide +kernel
theorem dL_law_1147 : decode cL_law 1147 = .ok (.aload_n 2, 1) := by decide +kernel
theorem dL_law_1148 : decode cL_law 1148 = .ok (.aload_n 0, 1) := by decide +kernel
theorem dL_law_1149 : decode cL_law 1149 = .ok (.iload_n 3, 1) := by decide +kernel
theorem dL_law_1150 : decode cL_law 1150 = .ok (.iconst 1, 1) := by decide +kernel
theorem dL_law_1151 : decode cL_law 1151 = .ok (.iadd, 1) := by decide +kernel
theorem dL_law_1152 : decode cL_law 1152 = .ok (.iaload, 1) := by decide +kernel
theorem dL_law_1153 : decode cL_law 1153 = .ok (.aload_n 0, 1) := by decide +kernel
theorem dL_law_1154 : decode cL_law 1154 = .ok (.iload_n 3, 1) := by decide +kernel
theorem dL_law_1155 : decode cL_law 1155 = .ok (.iconst 2, 1) := by decide +kernel
theorem dL_law_1156 : decode cL_law 1156 = .ok (.iadd, 1) := by decide +kernel
theorem dL_law_1157 : decode cL_law 1157 = .ok (.iaload, 1) := by decide +kernel
theorem dL_law_1158 : decode cL_law 1158 = .ok (.invokevirtual 133, 3) := by decide +kernel
theorem dL_law_1161 : decode cL_law 1161 = .ok (.if_icmp .eq 54, 3) := by decide +kernel
theorem dL_law_1164 : decode cL_law 1164 = .ok (.iconst 0, 1) := by decide +kernel
theorem dL_law_1165 : decode cL_law 1165 = .ok (.ireturn, 1) := by decide +kernel
theorem dL_law_1166 : decode cL_law 1166 = .ok (.aload_n 1, 1) := by decide +kernel
theorem dL_law_1167 : decode cL_law 1167 = .ok (.invokevirtual 134, 3) := by decide +kernel
theorem dL_law_1170 : decode cL_law 1170 = .ok (.aload_n 2, 1) := by decide +kernel
theorem dL_law_1171 : decode cL_law 1171 = .ok (.invokevirtual 137, 3) := by decide +kernel
theorem dL_law_1174 : decode cL_law 1174 = .ok (.if_icmp .eq 41, 3) := by decide +kernel
theorem dL_law_1177 : decode cL_law 1177 = .ok (.iconst 0, 1) := by decide +kernel
theorem dL_law_1178 : decode cL_law 1178 = .ok (.ireturn, 1) := by decide +kernel
theorem dL_law_1179 : decode cL_law 1179 = .ok (.aload_n 1, 1) := by decide +kernel
theorem dL_law_1180 : decode cL_law 1180 = .ok (.invokevirtual 138, 3) := by decide +kernel
theorem dL_law_1183 : decode cL_law 1183 = .ok (.aload_n 2, 1) := by decide +kernel
theorem dL_law_1184 : decode cL_law 1184 = .ok (.invokevirtual 141, 3) := by decide +kernel
theorem dL_law_1187 : decode cL_law 1187 = .ok (.if_icmp .eq 28, 3) := by decide +kernel
theorem dL_law_1190 : decode cL_law 1190 = .ok (.iconst 0, 1) := by decide +kernel
theorem dL_law_1191 : decode cL_law 1191 = .ok (.ireturn, 1) := by decide +kernel
theorem dL_law_1192 : decode cL_law 1192 = .ok (.aload_n 1, 1) := by decide +kernel
theorem dL_law_1193 : decode cL_law 1193 = .ok (.aload_n 0, 1) := by decide +kernel
theorem dL_law_1194 : decode cL_law 1194 = .ok (.iload_n 3, 1) := by decide +kernel
theorem dL_law_1195 : decode cL_law 1195 = .ok (.iconst 1, 1) := by decide +kernel
theorem dL_law_1196 : decode cL_law 1196 = .ok (.iadd, 1) := by decide +kernel
theorem dL_law_1197 : decode cL_law 1197 = .ok (.iaload, 1) := by decide +kernel
theorem dL_law_1198 : decode cL_law 1198 = .ok (.invokevirtual 142, 3) := by decide +kernel
theorem dL_law_1201 : decode cL_law 1201 = .ok (.aload_n 2, 1) := by decide +kernel
theorem dL_law_1202 : decode cL_law 1202 = .ok (.aload_n 0, 1) := by decide +kernel
theorem dL_law_1203 : decode cL_law 1203 = .ok (.iload_n 3, 1) := by decide +kernel
theorem dL_law_1204 : decode cL_law 1204 = .ok (.iconst 1, 1) := by decide +kernel
theorem dL_law_1205 : decode cL_law 1205 = .ok (.iadd, 1) := by decide +kernel
theorem dL_law_1206 : decode cL_law 1206 = .ok (.iaload, 1) := by decide +kernel
theorem dL_law_1207 : decode cL_law 1207 = .ok (.invokevirtual 145, 3) := by decide +kernel
theorem dL_law_1210 : decode cL_law 1210 = .ok (.if_icmp .eq 5, 3) := by decide +kernel
theorem dL_law_1213 : decode cL_law 1213 = .ok (.iconst 0, 1) := by decide +kernel
theorem dL_law_1214 : decode cL_law 1214 = .ok (.ireturn, 1) := by decide +kernel
theorem dL_law_1215 : decode cL_law 1215 = .ok (.iinc 3 7, 3) := by decide +kernel
theorem dL_law_1218 : decode cL_law 1218 = .ok (.goto (-1200), 3) := by decide +kernel
theorem dL_law_1221 : decode cL_law 1221 = .ok (.iconst 1, 1) := by decide +kernel
theorem dL_law_1222 : decode cL_law 1222 = .ok (.ireturn, 1) := by decide +kernel
end
section
/-! my own rows: what is the same for all methods -/
abbrev Gx : Type := va_G × ClassId × ClassId × ClassId
abbrev gI (g : Gx) : ClassId := g.2.1
abbrev gZ (g : Gx) : ClassId := g.2.2.1
abbrev gS (g : Gx) : ClassId := g.2.2.2
abbrev tyG (g : Gx) : List (ClassId × FieldType) := [(gI g, .int), (gZ g, .boolean), (gS g, .object RX2)]
def ns_ok (U : State) : Prop := va_Nw (.methodLinkNest RX4 19 yX0_init RX4) U ∧ va_Nw (.methodLinkNest RX4 26 yX3_init RX4) U ∧ va_Nw (.methodLinkNest RX4 33 yX1_init RX4) U ∧ va_Nw (.methodLinkNest RX4 45 yX2_init RX4) U ∧ va_Nw (.methodLinkNest RX0 81 yX4_bitIf RX4) U ∧ va_Nw (.methodLinkNest RX3 40 yX4_isMonths RX4) U ∧ va_Nw (.methodLinkNest RX3 46 yX4_bitIf RX4) U
theorem ns_ok.warm {s U : State} (hW : s.WarmedH U.vm) (h : ns_ok s) : ns_ok U := ⟨va_Nw.warmM hW h.1, va_Nw.warmM hW h.2.1, va_Nw.warmM hW h.2.2.1, va_Nw.warmM hW h.2.2.2.1, va_Nw.warmM hW h.2.2.2.2.1, va_Nw.warmM hW h.2.2.2.2.2.1, va_Nw.warmM hW h.2.2.2.2.2.2⟩
theorem ns_ok.same {s U : State} (hv : s.vm = U.vm) (h : ns_ok s) : ns_ok U := ⟨va_Nw.same rfl hv h.1, va_Nw.same rfl hv h.2.1, va_Nw.same rfl hv h.2.2.1, va_Nw.same rfl hv h.2.2.2.1, va_Nw.same rfl hv h.2.2.2.2.1, va_Nw.same rfl hv h.2.2.2.2.2.1, va_Nw.same rfl hv h.2.2.2.2.2.2⟩
def KK (g : Gx) (U : State) : Prop := va_K g.1 vwCl (tyG g) U ∧ ns_ok U
abbrev PP (g : Gx) (w : va_W) (H : Heap) : Prop := va_P g.1 vwCl w H
def inW (w : va_W) : Nat → Prop := fun q => q ∈ w.map (fun x => x.1)
theorem KK.warm {g : Gx} {s U : State} (hW : s.WarmedH U.vm) (h : KK g s) : KK g U := ⟨va_K.moved hW.alike h.1, h.2.warm hW⟩
theorem KK.same {g : Gx} {s U : State} (hv : s.vm = U.vm) (h : KK g s) : KK g U := ⟨va_K.moved (by rw [hv]; exact Vm.Alike.refl U.vm) h.1, h.2.same hv⟩
/-- the start of a method that writes nothing -/
def PcR (g : Gx) (av : List Value) (w : va_W) : Array Value → State → Prop := va_Pc av (fun U => PP g w U.heap ∧ KK g U)
/-- the start of a method that writes in its own cells -/
def PcM (g : Gx) (av : List Value) (w : va_W) : Array Value → State → Prop := va_Pc av (fun U => PP g w U.heap ∧ KK g U ∧ va_D (fun _ => True) w)
theorem PcR.blind {g : Gx} {av : List Value} {w : va_W} : FrameBlind (PcR g av w) := fun a U gg mk h => ⟨h.1, h.2.1, KK.same (s := U) (U := U.calling gg mk a) rfl h.2.2⟩
theorem PcM.blind {g : Gx} {av : List Value} {w : va_W} : FrameBlind (PcM g av w) := fun a U gg mk h => ⟨h.1, h.2.1, KK.same (s := U) (U := U.calling gg mk a) rfl h.2.2.1, h.2.2.2⟩
theorem inW.D {w : va_W} {A : Nat → Prop} (h : va_D A w) : va_D (inW w) w := ⟨h.1, fun k q hk => List.mem_map.mpr ⟨q, List.mem_of_getElem? hk, rfl⟩⟩
theorem D_addr {A : Nat → Prop} {w w1 : va_W} (ha : w1.map (fun x => x.1) = w.map (fun x => x.1)) (h : va_D A w) : va_D A w1 := by
  have key : ∀ (k : Nat) (q : Nat × va_E), w1[k]? = some q → ∃ q' : Nat × va_E, w[k]? = some q' ∧ q'.1 = q.1 := by
    intro k q hq
    have h1 : (w1.map (fun x => x.1))[k]? = some q.1 := by rw [List.getElem?_map, hq]; rfl
    rw [ha, List.getElem?_map] at h1
    cases hw : w[k]? with
    | none => rw [hw] at h1; cases h1
    | some q' => rw [hw] at h1; exact ⟨q', rfl, Option.some.inj h1⟩
  refine ⟨fun i j a b hi hj e => ?_, fun k q hk => ?_⟩
  · obtain ⟨a', ha1, ha2⟩ := key i a hi
    obtain ⟨b', hb1, hb2⟩ := key j b hj
    exact h.1 i j a' b' ha1 hb1 (by rw [ha2, hb2, e])
  · obtain ⟨q', h1, h2⟩ := key k q hk
    rw [← h2]; exact h.2 k q' h1
def setAll (ws : va_W) : List Nat → va_W → va_W
  | i :: is, q :: qs => setAll (ws.set i q) is qs
  | _, _ => ws
theorem setAll_at : ∀ (is : List Nat) (w1 ws : va_W) (k : Nat) (q : Nat × va_E), (setAll ws is w1)[k]? = some q → (q ∈ w1) ∨ (ws[k]? = some q ∧ ∀ j, j < w1.length → is[j]? ≠ some k)
  | [], w1, ws, k, q, h => by
    have h' : ws[k]? = some q := by cases w1 <;> exact h
    exact Or.inr ⟨h', fun j _ hj => by simp at hj⟩
  | i :: is, [], ws, k, q, h => Or.inr ⟨h, fun j hj => absurd hj (Nat.not_lt_zero j)⟩
  | i :: is, q1 :: qs, ws, k, q, h => by
    rcases setAll_at is qs (ws.set i q1) k q h with h1 | ⟨h1, h2⟩
    · exact Or.inl (List.mem_cons_of_mem _ h1)
    · rw [List.getElem?_set] at h1
      by_cases hik : i = k
      · rw [if_pos hik] at h1
        by_cases hl : i < ws.length
        · rw [if_pos hl] at h1
          exact Or.inl (by rw [← Option.some.inj h1]; exact List.mem_cons_self)
        · rw [if_neg hl] at h1; cases h1
      · rw [if_neg hik] at h1
        refine Or.inr ⟨h1, fun j hj hjk => ?_⟩
        cases j with
        | zero => exact hik (Option.some.inj hjk)
        | succ j => exact h2 j (Nat.lt_of_succ_lt_succ hj) hjk
/-- behind a call that wrote in its own cells: the caller's world -/
theorem mu_join {g : Gx} {A : Nat → Prop} {ws w w1 ws1 : va_W} {H H1 : Heap} (hP : PP g ws H) (hD : va_D A ws) (isC : List Nat) (hC : isC.map (fun i => ws[i]?) = w.map some) (hn : w1.length = w.length) (hs : setAll ws isC w1 = ws1) (ha : ws1.map (fun x => x.1) = ws.map (fun x => x.1)) (hk : ∀ q : Nat, q < H.size → ¬ inW w q → H1[q]? = H[q]?) (hP1 : PP g w1 H1) : PP g ws1 H1 ∧ va_D A ws1 := by
  refine ⟨fun k q hq => ?_, D_addr ha hD⟩
  rw [← hs] at hq
  rcases setAll_at isC w1 ws k q hq with h | ⟨h, h2⟩
  · obtain ⟨j, hj⟩ := List.getElem?_of_mem h
    exact hP1 j q hj
  · refine (hP k q h).kept (hk q.1 (hP k q h).lt ?_)
    intro hin
    obtain ⟨x, hx, hx2⟩ := List.mem_map.mp hin
    obtain ⟨j, hj⟩ := List.getElem?_of_mem hx
    have h3 : (isC.map (fun i => ws[i]?))[j]? = some (some x) := by rw [hC, List.getElem?_map, hj]; rfl
    rw [List.getElem?_map] at h3
    cases hi : isC[j]? with
    | none => rw [hi] at h3; cases h3
    | some i =>
      rw [hi] at h3
      have h4 : ws[i]? = some x := Option.some.inj h3
      have h5 := hD.1 i k x q h4 h hx2
      subst h5
      exact h2 j (by rw [hn]; exact (List.getElem?_eq_some_iff.mp hj).1) hi
/-- the cells of a part of the world are the world's -/
theorem in_sub {A : Nat → Prop} {ws w : va_W} (hD : va_D A ws) (isC : List Nat) (hC : isC.map (fun i => ws[i]?) = w.map some) : ∀ q, inW w q → A q := by
  intro q hin
  obtain ⟨x, hx, hx2⟩ := List.mem_map.mp hin
  obtain ⟨j, hj⟩ := List.getElem?_of_mem hx
  have h3 : (isC.map (fun i => ws[i]?))[j]? = some (some x) := by rw [hC, List.getElem?_map, hj]; rfl
  rw [List.getElem?_map] at h3
  cases hi : isC[j]? with
  | none => rw [hi] at h3; cases h3
  | some i =>
    rw [hi] at h3
    rw [← hx2]
    exact hD.2 i x (Option.some.inj h3)
section Enter
variable {l : Launch} {y : MethodName} {ws ws' : List Cond} {rm : Room} {g : Gx} {av : List Value} {w : va_W} {cc : ByteArray} {maxL : Nat} {ret : Option FieldType}
theorem zenterR {Qc : Array Value → State → Outcome → State → Prop} (hy : plainName y.cls = true) (hw : ws = Cond.code y cc maxL ret :: ws') (hlen : (lg_sl av).length ≤ maxL)
    (body : ∀ (P : Program) (E : Env) (s : State) (m : MethodId) (below : List Frame) (meth : Method) (c : Code) (ls : Array Slot), P.tables.exec = Jvm.exec → c.code = cc → c.maxLocals = maxL → s.vm.findClass y.cls = some m.cls → (∀ x ∈ ws, x.before av.toArray s = true) → meth.sig.returnType = ret → meth.locks = false → PP g w s.heap → KK g s → lv_has ls maxL (lv_args 0 av) →
      W P l E rm s m av.toArray below meth c s.heap [] 0 0 (MQ below Qc av.toArray s 0 0 (fun _ => False)) (F0 m 0 ls [])) : Met l y ws rm (PcR g av w) Qc 0 0 (fun _ => False) := by
  refine Met.ofW (cc := cc) (maxL := maxL) (ret := ret) hy hw ?_
  intro p e s m args below meth c s₁ B hml hv
  obtain ⟨rfl, hP, hK⟩ := hv
  have hl := lv_entry av (n := maxL) hlen
  rw [lg_entry_eq]
  exact body p e s m below meth c _ B.exec B.bytes hml (findClass_of_methodNamed B.named) (atoms_spec (ws := ws) B.pre) B.returns B.notSynchronized hP hK hl
theorem zenterM {Qc : Array Value → State → Outcome → State → Prop} (hy : plainName y.cls = true) (hw : ws = Cond.code y cc maxL ret :: ws') (hlen : (lg_sl av).length ≤ maxL)
    (body : ∀ (P : Program) (E : Env) (s : State) (m : MethodId) (below : List Frame) (meth : Method) (c : Code) (ls : Array Slot), P.tables.exec = Jvm.exec → c.code = cc → c.maxLocals = maxL → s.vm.findClass y.cls = some m.cls → (∀ x ∈ ws, x.before av.toArray s = true) → meth.sig.returnType = ret → meth.locks = false → PP g w s.heap → KK g s → va_D (inW w) w → va_S (inW w) s.heap s.heap [] → lv_has ls maxL (lv_args 0 av) →
      W P l E rm s m av.toArray below meth c s.heap [] 0 0 (MQ below Qc av.toArray s 0 0 (inW w)) (F0 m 0 ls [])) : Met l y ws rm (PcM g av w) Qc 0 0 (inW w) := by
  refine Met.ofW (cc := cc) (maxL := maxL) (ret := ret) hy hw ?_
  intro p e s m args below meth c s₁ B hml hv
  obtain ⟨rfl, hP, hK, hD⟩ := hv
  have hl := lv_entry av (n := maxL) hlen
  rw [lg_entry_eq]
  exact body p e s m below meth c _ B.exec B.bytes hml (findClass_of_methodNamed B.named) (atoms_spec (ws := ws) B.pre) B.returns B.notSynchronized hP hK (inW.D hD) va_S.rf hl
end Enter
section Rows
variable {P : Program} {l : Launch} {E : Env} {R : Room} {s : State} {m : MethodId} {args : Array Value} {below : List Frame} {meth : Method} {c : Code} {H : Heap} {locs : List Loc} {cells slots : Nat} {Q : State → Prop}
variable {cc : ByteArray} {pc : Nat} {ls : Array Slot} {rest : List Value}
theorem zretI {ty : FieldType} {v : Int32} {post : Int32 → Prop} (hx : P.tables.exec = Jvm.exec) (hb : c.code = cc) (hr : meth.sig.returnType = some ty) (hlocks : meth.locks = false) (hn : narrow ty (.int v) = .int v) (hp : post v) (hdg : decode cc pc = .ok (.ireturn, 1)) : W P l E R s m args below meth c s.heap [] 0 0 (MQ below (vp_Si post) args s 0 0 (fun _ => False)) (F0 m pc ls [.int v]) :=
  W.zret hx hb hr hn (fun t ht _ => ⟨v, rfl, hp, ht⟩) (fun q h => by cases h) hdg hlocks
theorem zretL {v : Int64} {post : Int64 → Prop} (hx : P.tables.exec = Jvm.exec) (hb : c.code = cc) (hr : meth.sig.returnType = some .long) (hlocks : meth.locks = false) (hp : post v) (hdg : decode cc pc = .ok (.lreturn, 1)) : W P l E R s m args below meth c s.heap [] 0 0 (MQ below (vp_Sl post) args s 0 0 (fun _ => False)) (F0 m pc ls [.long v]) :=
  W.lret hx hb hr (fun t ht _ => ⟨v, rfl, hp, ht⟩) (fun q h => by cases h) hdg hlocks
theorem zretMI {g : Gx} {w : va_W} {S : Type} {ty : FieldType} {v : Int32} {post : Int32 → S → Prop} {w1 : S → va_W} (u : S) (hx : P.tables.exec = Jvm.exec) (hb : c.code = cc) (hr : meth.sig.returnType = some ty) (hlocks : meth.locks = false) (hS : va_S (inW w) s.heap H locs) (hn : narrow ty (.int v) = .int v) (hp : post v u) (hP : PP g (w1 u) H) (hdg : decode cc pc = .ok (.ireturn, 1)) : W P l E R s m args below meth c H locs 0 0 (MQ below (va_Qi post (fun u t => PP g (w1 u) t.heap) (inW w)) args s 0 0 (inW w)) (F0 m pc ls [.int v]) :=
  W.zret hx hb hr hn (fun t ht _ => ⟨⟨v, u, rfl, hp, by show PP g (w1 u) t.heap; rw [ht]; exact hP⟩, hS.F ht⟩) hS.2.2 hdg hlocks
theorem zretML {g : Gx} {w : va_W} {S : Type} {v : Int64} {post : Int64 → S → Prop} {w1 : S → va_W} (u : S) (hx : P.tables.exec = Jvm.exec) (hb : c.code = cc) (hr : meth.sig.returnType = some .long) (hlocks : meth.locks = false) (hS : va_S (inW w) s.heap H locs) (hp : post v u) (hP : PP g (w1 u) H) (hdg : decode cc pc = .ok (.lreturn, 1)) : W P l E R s m args below meth c H locs 0 0 (MQ below (va_Ql post (fun u t => PP g (w1 u) t.heap) (inW w)) args s 0 0 (inW w)) (F0 m pc ls [.long v]) :=
  W.lret hx hb hr (fun t ht _ => ⟨⟨v, u, rfl, hp, by show PP g (w1 u) t.heap; rw [ht]; exact hP⟩, hS.F ht⟩) hS.2.2 hdg hlocks
theorem zretMV {g : Gx} {w : va_W} {S : Type} {post : S → Prop} {w1 : S → va_W} (u : S) (hx : P.tables.exec = Jvm.exec) (hb : c.code = cc) (hr : meth.sig.returnType = none) (hlocks : meth.locks = false) (hS : va_S (inW w) s.heap H locs) (hp : post u) (hP : PP g (w1 u) H) (hdg : decode cc pc = .ok (.return_, 1)) : W P l E R s m args below meth c H locs 0 0 (MQ below (va_Qv post (fun u t => PP g (w1 u) t.heap) (inW w)) args s 0 0 (inW w)) (F0 m pc ls []) :=
  W.vret hx hb hr (fun t ht _ => ⟨⟨u, rfl, hp, by show PP g (w1 u) t.heap; rw [ht]; exact hP⟩, hS.F ht⟩) hS.2.2 hdg hlocks
theorem ztopI {x : Int32} (y : Int32) (h : x = y) (k : W P l E R s m args below meth c H locs cells slots Q (F0 m pc ls (.int y :: rest))) : W P l E R s m args below meth c H locs cells slots Q (F0 m pc ls (.int x :: rest)) := h ▸ k
theorem ztopL {x : Int64} (y : Int64) (h : x = y) (k : W P l E R s m args below meth c H locs cells slots Q (F0 m pc ls (.long y :: rest))) : W P l E R s m args below meth c H locs cells slots Q (F0 m pc ls (.long x :: rest)) := h ▸ k
theorem ztopR {x : Value} (y : Value) (h : x = y) (k : W P l E R s m args below meth c H locs cells slots Q (F0 m pc ls (y :: rest))) : W P l E R s m args below meth c H locs cells slots Q (F0 m pc ls (x :: rest)) := h ▸ k
theorem n_iadd (hexec : P.tables.exec = Jvm.exec) (hb : c.code = cc) {a b : Nat} (hdg : decode cc pc = .ok (.iadd, 1)) (k : W P l E R s m args below meth c H locs cells slots Q (F0 m (pc + 1) ls (.int (nI (a + b)) :: rest))) : W P l E R s m args below meth c H locs cells slots Q (F0 m pc ls (.int (nI b) :: .int (nI a) :: rest)) := lv_iadd hexec hb hdg (by rw [nI_add]; exact k)
theorem n_imul (hexec : P.tables.exec = Jvm.exec) (hb : c.code = cc) {a b : Nat} (hdg : decode cc pc = .ok (.imul, 1)) (k : W P l E R s m args below meth c H locs cells slots Q (F0 m (pc + 1) ls (.int (nI (a * b)) :: rest))) : W P l E R s m args below meth c H locs cells slots Q (F0 m pc ls (.int (nI b) :: .int (nI a) :: rest)) := lv_imul hexec hb hdg (by rw [pk_mul]; exact k)
theorem n_isub (hexec : P.tables.exec = Jvm.exec) (hb : c.code = cc) {a b : Nat} (h : b ≤ a) (hdg : decode cc pc = .ok (.isub, 1)) (k : W P l E R s m args below meth c H locs cells slots Q (F0 m (pc + 1) ls (.int (nI (a - b)) :: rest))) : W P l E R s m args below meth c H locs cells slots Q (F0 m pc ls (.int (nI b) :: .int (nI a) :: rest)) := lv_isub hexec hb hdg (by rw [pk_sub h]; exact k)
theorem n_idiv (hexec : P.tables.exec = Jvm.exec) (hb : c.code = cc) {a b : Nat} (ha : a < 2 ^ 31) (h0 : 0 < b) (hb2 : b < 2 ^ 31) (hdg : decode cc pc = .ok (.idiv, 1)) (k : W P l E R s m args below meth c H locs cells slots Q (F0 m (pc + 1) ls (.int (nI (a / b)) :: rest))) : W P l E R s m args below meth c H locs cells slots Q (F0 m pc ls (.int (nI b) :: .int (nI a) :: rest)) := lv_idiv hexec hb hdg (nI_ne0 h0 hb2) (by rw [pk_div ha h0 hb2]; exact k)
theorem n_irem (hexec : P.tables.exec = Jvm.exec) (hb : c.code = cc) {a b : Nat} (ha : a < 2 ^ 31) (h0 : 0 < b) (hb2 : b < 2 ^ 31) (hdg : decode cc pc = .ok (.irem, 1)) (k : W P l E R s m args below meth c H locs cells slots Q (F0 m (pc + 1) ls (.int (nI (a % b)) :: rest))) : W P l E R s m args below meth c H locs cells slots Q (F0 m pc ls (.int (nI b) :: .int (nI a) :: rest)) := lv_irem hexec hb hdg (nI_ne0 h0 hb2) (by rw [pk_rem ha h0 hb2]; exact k)
theorem nI_eqz {a : Nat} (ha : a < 2 ^ 31) : nI a = 0 ↔ a = 0 := by rw [← nI_0]; exact nI_eq ha (by decide)
theorem nI_and (a b : Nat) : nI a &&& nI b = nI (a &&& b) := by
  apply Int32.toBitVec_inj.mp
  show BitVec.ofNat 32 a &&& BitVec.ofNat 32 b = BitVec.ofNat 32 (a &&& b)
  rw [BitVec.ofNat_and]
theorem nI_or (a b : Nat) : nI a ||| nI b = nI (a ||| b) := by
  apply Int32.toBitVec_inj.mp
  show BitVec.ofNat 32 a ||| BitVec.ofNat 32 b = BitVec.ofNat 32 (a ||| b)
  rw [BitVec.ofNat_or]
theorem n_iand (hexec : P.tables.exec = Jvm.exec) (hb : c.code = cc) {a b : Nat} (hdg : decode cc pc = .ok (.iand, 1)) (k : W P l E R s m args below meth c H locs cells slots Q (F0 m (pc + 1) ls (.int (nI (a &&& b)) :: rest))) : W P l E R s m args below meth c H locs cells slots Q (F0 m pc ls (.int (nI b) :: .int (nI a) :: rest)) := lv_iand hexec hb hdg (by rw [nI_and]; exact k)
theorem n_ior (hexec : P.tables.exec = Jvm.exec) (hb : c.code = cc) {a b : Nat} (hdg : decode cc pc = .ok (.ior, 1)) (k : W P l E R s m args below meth c H locs cells slots Q (F0 m (pc + 1) ls (.int (nI (a ||| b)) :: rest))) : W P l E R s m args below meth c H locs cells slots Q (F0 m pc ls (.int (nI b) :: .int (nI a) :: rest)) := lv_ior hexec hb hdg (by rw [nI_or]; exact k)
theorem nI_sh : ∀ n, n < 31 → ((nI n &&& 31).toBitVec.smod 32).toNat = n := by decide +kernel
theorem nI_shl1 {n : Nat} (h : n < 31) : nI 1 <<< (nI n &&& 31) = nI (2 ^ n) := by
  have h2 : 1 * 2 ^ n < 2 ^ 32 := by rw [Nat.one_mul]; exact Nat.pow_lt_pow_right (by decide) (by omega)
  rw [pk_shlN (nI n &&& 31) n (nI_sh n h) h2, Nat.one_mul]
theorem n_ishl1 (hexec : P.tables.exec = Jvm.exec) (hb : c.code = cc) {n : Nat} (h : n < 31) (hdg : decode cc pc = .ok (.ishl, 1)) (k : W P l E R s m args below meth c H locs cells slots Q (F0 m (pc + 1) ls (.int (nI (2 ^ n)) :: rest))) : W P l E R s m args below meth c H locs cells slots Q (F0 m pc ls (.int (nI n) :: .int (nI 1) :: rest)) := lv_ishl hexec hb hdg (by rw [nI_shl1 h]; exact k)
theorem n_if_eq (hexec : P.tables.exec = Jvm.exec) (hb : c.code = cc) {a : Nat} (ha : a < 2 ^ 31) {off : Int} {tgt : Nat} (hdg : decode cc pc = .ok (.ifCond .eq off, 3)) (ht : (pc : Int) + off = (tgt : Int)) (kt : a = 0 → W P l E R s m args below meth c H locs cells slots Q (F0 m tgt ls rest)) (kf : a ≠ 0 → W P l E R s m args below meth c H locs cells slots Q (F0 m (pc + 3) ls rest)) : W P l E R s m args below meth c H locs cells slots Q (F0 m pc ls (.int (nI a) :: rest)) := lv_if_eq hexec hb hdg ht (fun q => kt ((nI_eqz ha).mp q)) (fun q => kf (fun z => q ((nI_eqz ha).mpr z)))
theorem n_if_ne (hexec : P.tables.exec = Jvm.exec) (hb : c.code = cc) {a : Nat} (ha : a < 2 ^ 31) {off : Int} {tgt : Nat} (hdg : decode cc pc = .ok (.ifCond .ne off, 3)) (ht : (pc : Int) + off = (tgt : Int)) (kt : a ≠ 0 → W P l E R s m args below meth c H locs cells slots Q (F0 m tgt ls rest)) (kf : a = 0 → W P l E R s m args below meth c H locs cells slots Q (F0 m (pc + 3) ls rest)) : W P l E R s m args below meth c H locs cells slots Q (F0 m pc ls (.int (nI a) :: rest)) := lv_if_ne hexec hb hdg ht (fun q => kt (fun z => q ((nI_eqz ha).mpr z))) (fun q => kf ((nI_eqz ha).mp q))
theorem n_icmp_eq (hexec : P.tables.exec = Jvm.exec) (hb : c.code = cc) {a b : Nat} (ha : a < 2 ^ 31) (hb2 : b < 2 ^ 31) {off : Int} {tgt : Nat} (hdg : decode cc pc = .ok (.if_icmp .eq off, 3)) (ht : (pc : Int) + off = (tgt : Int)) (kt : a = b → W P l E R s m args below meth c H locs cells slots Q (F0 m tgt ls rest)) (kf : a ≠ b → W P l E R s m args below meth c H locs cells slots Q (F0 m (pc + 3) ls rest)) : W P l E R s m args below meth c H locs cells slots Q (F0 m pc ls (.int (nI b) :: .int (nI a) :: rest)) := lv_icmp_eq hexec hb hdg ht (fun q => kt ((nI_eq ha hb2).mp q)) (fun q => kf (fun z => q ((nI_eq ha hb2).mpr z)))
theorem n_icmp_ne (hexec : P.tables.exec = Jvm.exec) (hb : c.code = cc) {a b : Nat} (ha : a < 2 ^ 31) (hb2 : b < 2 ^ 31) {off : Int} {tgt : Nat} (hdg : decode cc pc = .ok (.if_icmp .ne off, 3)) (ht : (pc : Int) + off = (tgt : Int)) (kt : a ≠ b → W P l E R s m args below meth c H locs cells slots Q (F0 m tgt ls rest)) (kf : a = b → W P l E R s m args below meth c H locs cells slots Q (F0 m (pc + 3) ls rest)) : W P l E R s m args below meth c H locs cells slots Q (F0 m pc ls (.int (nI b) :: .int (nI a) :: rest)) := lv_icmp_ne hexec hb hdg ht (fun q => kt (fun z => q ((nI_eq ha hb2).mpr z))) (fun q => kf ((nI_eq ha hb2).mp q))
end Rows
end
section
/-! my own rows, second part: comparisons of small numbers, rows of arrays, calls -/
section Rows2
variable {P : Program} {l : Launch} {E : Env} {R : Room} {s : State} {m : MethodId} {args : Array Value} {below : List Frame} {meth : Method} {c : Code} {H : Heap} {locs : List Loc} {cells slots : Nat} {Q : State → Prop}
variable {cc : ByteArray} {pc : Nat} {ls : Array Slot} {rest : List Value}
theorem n_icmp_lt (hexec : P.tables.exec = Jvm.exec) (hb : c.code = cc) {a b : Nat} (ha : a < 2 ^ 31) (hb2 : b < 2 ^ 31) {off : Int} {tgt : Nat} (hdg : decode cc pc = .ok (.if_icmp .lt off, 3)) (ht : (pc : Int) + off = (tgt : Int)) (kt : a < b → W P l E R s m args below meth c H locs cells slots Q (F0 m tgt ls rest)) (kf : b ≤ a → W P l E R s m args below meth c H locs cells slots Q (F0 m (pc + 3) ls rest)) : W P l E R s m args below meth c H locs cells slots Q (F0 m pc ls (.int (nI b) :: .int (nI a) :: rest)) := lv_icmp_lt hexec hb hdg ht (fun q => kt ((nI_ltI ha hb2).mp q)) (fun q => kf (Nat.le_of_not_lt (fun z => q ((nI_ltI ha hb2).mpr z))))
theorem n_icmp_ge (hexec : P.tables.exec = Jvm.exec) (hb : c.code = cc) {a b : Nat} (ha : a < 2 ^ 31) (hb2 : b < 2 ^ 31) {off : Int} {tgt : Nat} (hdg : decode cc pc = .ok (.if_icmp .ge off, 3)) (ht : (pc : Int) + off = (tgt : Int)) (kt : b ≤ a → W P l E R s m args below meth c H locs cells slots Q (F0 m tgt ls rest)) (kf : a < b → W P l E R s m args below meth c H locs cells slots Q (F0 m (pc + 3) ls rest)) : W P l E R s m args below meth c H locs cells slots Q (F0 m pc ls (.int (nI b) :: .int (nI a) :: rest)) := lv_icmp_ge hexec hb hdg ht (fun q => kt ((nI_leI hb2 ha).mp q)) (fun q => kf (Nat.lt_of_not_le (fun z => q ((nI_leI hb2 ha).mpr z))))
theorem n_icmp_gt (hexec : P.tables.exec = Jvm.exec) (hb : c.code = cc) {a b : Nat} (ha : a < 2 ^ 31) (hb2 : b < 2 ^ 31) {off : Int} {tgt : Nat} (hdg : decode cc pc = .ok (.if_icmp .gt off, 3)) (ht : (pc : Int) + off = (tgt : Int)) (kt : b < a → W P l E R s m args below meth c H locs cells slots Q (F0 m tgt ls rest)) (kf : a ≤ b → W P l E R s m args below meth c H locs cells slots Q (F0 m (pc + 3) ls rest)) : W P l E R s m args below meth c H locs cells slots Q (F0 m pc ls (.int (nI b) :: .int (nI a) :: rest)) := lv_icmp_gt hexec hb hdg ht (fun q => kt ((nI_ltI hb2 ha).mp q)) (fun q => kf (Nat.le_of_not_lt (fun z => q ((nI_ltI hb2 ha).mpr z))))
theorem n_icmp_le (hexec : P.tables.exec = Jvm.exec) (hb : c.code = cc) {a b : Nat} (ha : a < 2 ^ 31) (hb2 : b < 2 ^ 31) {off : Int} {tgt : Nat} (hdg : decode cc pc = .ok (.if_icmp .le off, 3)) (ht : (pc : Int) + off = (tgt : Int)) (kt : a ≤ b → W P l E R s m args below meth c H locs cells slots Q (F0 m tgt ls rest)) (kf : b < a → W P l E R s m args below meth c H locs cells slots Q (F0 m (pc + 3) ls rest)) : W P l E R s m args below meth c H locs cells slots Q (F0 m pc ls (.int (nI b) :: .int (nI a) :: rest)) := lv_icmp_le hexec hb hdg ht (fun q => kt ((nI_leI ha hb2).mp q)) (fun q => kf (Nat.lt_of_not_le (fun z => q ((nI_leI ha hb2).mpr z))))
theorem nI_n0 {a : Nat} (ha : a < 2 ^ 31) : ¬ nI a < 0 := nI_pos ha
theorem n_if_lt (hexec : P.tables.exec = Jvm.exec) (hb : c.code = cc) {a : Nat} (ha : a < 2 ^ 31) {off : Int} (hdg : decode cc pc = .ok (.ifCond .lt off, 3)) (tgt : Nat) (ht : (pc : Int) + off = (tgt : Int)) (kf : W P l E R s m args below meth c H locs cells slots Q (F0 m (pc + 3) ls rest)) : W P l E R s m args below meth c H locs cells slots Q (F0 m pc ls (.int (nI a) :: rest)) := lv_if_lt (tgt := tgt) hexec hb hdg ht (fun q => absurd q (nI_pos ha)) (fun _ => kf)
theorem n_if_ge (hexec : P.tables.exec = Jvm.exec) (hb : c.code = cc) {a : Nat} (ha : a < 2 ^ 31) {off : Int} {tgt : Nat} (hdg : decode cc pc = .ok (.ifCond .ge off, 3)) (ht : (pc : Int) + off = (tgt : Int)) (kt : W P l E R s m args below meth c H locs cells slots Q (F0 m tgt ls rest)) : W P l E R s m args below meth c H locs cells slots Q (F0 m pc ls (.int (nI a) :: rest)) := lv_if_ge hexec hb hdg ht (fun _ => kt) (fun q => absurd (nI_pos' ha) q)
theorem nI_le0 {a : Nat} (ha : a < 2 ^ 31) : nI a ≤ 0 ↔ a = 0 := by rw [← nI_0, nI_leI ha (by decide)]; omega
theorem n_if_le (hexec : P.tables.exec = Jvm.exec) (hb : c.code = cc) {a : Nat} (ha : a < 2 ^ 31) {off : Int} {tgt : Nat} (hdg : decode cc pc = .ok (.ifCond .le off, 3)) (ht : (pc : Int) + off = (tgt : Int)) (kt : a = 0 → W P l E R s m args below meth c H locs cells slots Q (F0 m tgt ls rest)) (kf : 0 < a → W P l E R s m args below meth c H locs cells slots Q (F0 m (pc + 3) ls rest)) : W P l E R s m args below meth c H locs cells slots Q (F0 m pc ls (.int (nI a) :: rest)) := lv_if_le hexec hb hdg ht (fun q => kt ((nI_le0 ha).mp q)) (fun q => kf (Nat.pos_of_ne_zero (fun z => q ((nI_le0 ha).mpr z))))
theorem n_if_gt (hexec : P.tables.exec = Jvm.exec) (hb : c.code = cc) {a : Nat} (ha : a < 2 ^ 31) {off : Int} {tgt : Nat} (hdg : decode cc pc = .ok (.ifCond .gt off, 3)) (ht : (pc : Int) + off = (tgt : Int)) (kt : 0 < a → W P l E R s m args below meth c H locs cells slots Q (F0 m tgt ls rest)) (kf : a = 0 → W P l E R s m args below meth c H locs cells slots Q (F0 m (pc + 3) ls rest)) : W P l E R s m args below meth c H locs cells slots Q (F0 m pc ls (.int (nI a) :: rest)) := lv_if_gt hexec hb hdg ht (fun q => kt (Nat.pos_of_ne_zero (fun z => absurd q (by rw [z, nI_0]; exact Int32.lt_irrefl)))) (fun q => kf (by
    rcases Nat.eq_zero_or_pos a with z | z
    · exact z
    · exact absurd (by rw [← nI_0]; exact nI_lt z ha) q))
theorem n_iinc (hexec : P.tables.exec = Jvm.exec) (hb : c.code = cc) {i nL k : Nat} {n : Int} {a d : Nat} {lv lv' : List (Nat × Value)} (hdg : decode cc pc = .ok (.iinc i n, 3)) (h : lv_has ls nL lv) (hk : lv[k]? = some (i, .int (nI a))) (hv : Int32.ofInt n = nI d) (hn : i < nL) (hl : (i, Value.int (nI (a + d))) :: lv.filter (fun q => !(q.1 == i) && !(q.1 + 1 == i && q.2.category == 2)) = lv')
    (kk : ∀ ls' : Array Slot, lv_has ls' nL lv' → W P l E R s m args below meth c H locs cells slots Q (F0 m (pc + 3) ls' rest)) : W P l E R s m args below meth c H locs cells slots Q (F0 m pc ls rest) := lv_iinc (v := nI (a + d)) (lv' := lv') hexec hb hdg h hk (by rw [hv, nI_add]) hn hl kk
variable {D : va_G} {cl : List vw_C} {A : Nat → Prop} {a : Nat} {tys : List (ClassId × FieldType)} {ws : va_W} {H0 : Heap}
/-- a cell of an array of ints, at a small number -/
theorem n_iald (hexec : P.tables.exec = Jvm.exec) (hb : c.code = cc) (hK : va_K D cl tys s) (hP : va_P D cl ws H) (q0 t0 : Nat) {cA : ClassId} {n : Nat} {f : Nat → Int32} (ha : ws[q0]? = some (a, .inl (cA, n, .inl f))) (ht : tys[t0]? = some (cA, .int)) {i : Nat} (hi : i < n) (hn : n < 2 ^ 31) {v : Int32} (hv : f i = v) (hdg : decode cc pc = .ok (.iaload, 1))
    (kk : W P l E R s m args below meth c H locs cells slots Q (F0 m (pc + 1) ls (.int v :: rest))) : W P l E R s m args below meth c H locs cells slots Q (F0 m pc ls (.int (nI i) :: .ref a :: rest)) := va_iald hexec hb hK hP q0 t0 ha ht (vp_in_nI hi hn) hdg (by rw [nI_clamp (Nat.lt_trans hi hn), hv]; exact kk)
theorem n_zald (hexec : P.tables.exec = Jvm.exec) (hb : c.code = cc) (hK : va_K D cl tys s) (hP : va_P D cl ws H) (q0 t0 : Nat) {cA : ClassId} {n : Nat} {f : Nat → Int32} (ha : ws[q0]? = some (a, .inl (cA, n, .inl f))) (ht : tys[t0]? = some (cA, .boolean)) {i : Nat} (hi : i < n) (hn : n < 2 ^ 31) {v : Int32} (hv : f i = v) (hdg : decode cc pc = .ok (.baload, 1))
    (kk : W P l E R s m args below meth c H locs cells slots Q (F0 m (pc + 1) ls (.int v :: rest))) : W P l E R s m args below meth c H locs cells slots Q (F0 m pc ls (.int (nI i) :: .ref a :: rest)) := va_zald hexec hb hK hP q0 t0 ha ht (vp_in_nI hi hn) hdg (by rw [nI_clamp (Nat.lt_trans hi hn), hv]; exact kk)
theorem n_aald (hexec : P.tables.exec = Jvm.exec) (hb : c.code = cc) (hK : va_K D cl tys s) (hP : va_P D cl ws H) (q0 t0 : Nat) {cA : ClassId} {C : String} {n : Nat} {f : Nat → Option Nat} (ha : ws[q0]? = some (a, .inl (cA, n, .inr (.inr (.inr (.inr f)))))) (ht : tys[t0]? = some (cA, .object C)) {i : Nat} (hi : i < n) (hn : n < 2 ^ 31) {b : Nat} (hv : f i = some b) (hdg : decode cc pc = .ok (.aaload, 1))
    (kk : W P l E R s m args below meth c H locs cells slots Q (F0 m (pc + 1) ls (.ref b :: rest))) : W P l E R s m args below meth c H locs cells slots Q (F0 m pc ls (.int (nI i) :: .ref a :: rest)) := va_aldq hexec hb hK hP q0 t0 ha ht (vp_in_nI hi hn) hdg (by rw [nI_clamp (Nat.lt_trans hi hn), hv]; exact kk)
/-- a cell of an array of ints becomes v: f' is the row behind it -/
theorem n_iast (hexec : P.tables.exec = Jvm.exec) (hb : c.code = cc) (hK : va_K D cl tys s) (hP : va_P D cl ws H) (hD : va_D A ws) (hS : va_S A H0 H locs) (q0 t0 : Nat) {cA : ClassId} {n : Nat} {f : Nat → Int32} (ha : ws[q0]? = some (a, .inl (cA, n, .inl f))) (ht : tys[t0]? = some (cA, .int)) {i : Nat} {x : Int32} (hi : i < n) (hn : n < 2 ^ 31) (f' : Nat → Int32) (hf : upd f i x = f') {ws1 : va_W} (h1 : ws.set q0 (a, .inl (cA, n, .inl f')) = ws1) (hdg : decode cc pc = .ok (.iastore, 1))
    (kk : ∀ (H1 : Heap) (locs1 : List Loc), va_P D cl ws1 H1 → va_D A ws1 → va_S A H0 H1 locs1 → W P l E R s m args below meth c H1 locs1 cells slots Q (F0 m (pc + 1) ls rest)) : W P l E R s m args below meth c H locs cells slots Q (F0 m pc ls (.int x :: .int (nI i) :: .ref a :: rest)) := va_iast hexec hb hK hP hD hS q0 t0 ha ht (vp_in_nI hi hn) hdg (fun H1 locs1 hp hd hs => by
    rw [nI_clamp (Nat.lt_trans hi hn), hf, h1] at hp hd
    exact kk H1 locs1 hp hd hs)
theorem n_zast (hexec : P.tables.exec = Jvm.exec) (hb : c.code = cc) (hK : va_K D cl tys s) (hP : va_P D cl ws H) (hD : va_D A ws) (hS : va_S A H0 H locs) (q0 t0 : Nat) {cA : ClassId} {n : Nat} {f : Nat → Int32} (ha : ws[q0]? = some (a, .inl (cA, n, .inl f))) (ht : tys[t0]? = some (cA, .boolean)) {i : Nat} {x : Int32} (hi : i < n) (hn : n < 2 ^ 31) (hx : vp_nar .boolean x = x) (f' : Nat → Int32) (hf : upd f i x = f') {ws1 : va_W} (h1 : ws.set q0 (a, .inl (cA, n, .inl f')) = ws1) (hdg : decode cc pc = .ok (.bastore, 1))
    (kk : ∀ (H1 : Heap) (locs1 : List Loc), va_P D cl ws1 H1 → va_D A ws1 → va_S A H0 H1 locs1 → W P l E R s m args below meth c H1 locs1 cells slots Q (F0 m (pc + 1) ls rest)) : W P l E R s m args below meth c H locs cells slots Q (F0 m pc ls (.int x :: .int (nI i) :: .ref a :: rest)) := va_zast hexec hb hK hP hD hS q0 t0 ha ht (vp_in_nI hi hn) hdg (fun H1 locs1 hp hd hs => by
    rw [nI_clamp (Nat.lt_trans hi hn), hx, hf, h1] at hp hd
    exact kk H1 locs1 hp hd hs)
/-- a field of an object becomes v: ws1 is the world behind it -/
theorem n_put (hexec : P.tables.exec = Jvm.exec) (hb : c.code = cc) {own ref C : String} {T : u_T} {N ci index : Nat} {Ts : List Cond} (hts : ∀ w ∈ Ts, w.before args s = true) (hin : ∀ w ∈ u_ws C T N, w ∈ Ts) (ty0 : Nat → FieldType) (hty : ∀ k, k < N → parseFieldDescriptor (T k).2.2.1 = some (ty0 k)) (hnm : ∀ a, a < N → ∀ b, b < N → a ≠ b → (T a).2.1 ≠ (T b).2.1) (hown : s.vm.findClass own = some m.cls) (hK : va_K D cl tys s) (hP : va_P D cl ws H) (hD : va_D A ws) (hS0 : va_S A H0 H locs) (q0 : Nat) {fs : List Value} (he : ws[q0]? = some (a, .inr (ci, fs))) (hc : cl[ci]? = some (C, T, N)) (k : Nat) (hk : k < N) (hlink : (Cond.fieldLink own index ref (T k).2.1 (T k).2.2.1).before args s = true) (hsame : ∀ x, s.fieldFound? (T k).1 (T k).2.1 (T k).2.2.1 = some x → s.fieldFound? ref (T k).2.1 (T k).2.2.1 = some x) (hfin : (T k).2.2.2 = false) {ty : FieldType} {v : Value} (hd : parseFieldDescriptor (T k).2.2.1 = some ty) (hn : narrow ty v = v) (hfit : fits ty v = true) (hl : k < fs.length) {ws1 : va_W} (h1 : ws.set q0 (a, .inr (ci, fs.set k v)) = ws1)
    (hdg : decode cc pc = .ok (.putfield index, 3)) (kk : ∀ (H1 : Heap) (locs1 : List Loc), va_P D cl ws1 H1 → va_D A ws1 → va_S A H0 H1 locs1 → W P l E R s m args below meth c H1 locs1 cells slots Q (F0 m (pc + 3) ls rest)) : W P l E R s m args below meth c H locs cells slots Q (F0 m pc ls (v :: .ref a :: rest)) := va_put hexec hb hts hin ty0 hty hnm hown hK hP hD hS0 q0 he hc k hk hlink hsame hfin hd hn hfit hl hdg (fun H1 locs1 hp hd' hs => by
    rw [h1] at hp hd'
    exact kk H1 locs1 hp hd' hs)
theorem P_nil {g : Gx} (H : Heap) : PP g [] H := fun k q h => by simp at h
/-- a call that writes nothing -/
theorem zcallR {post : Int32 → Prop} {a : Array Value} {st0 : List Value} (hr : va_Run P l E R s m args below meth c H locs cells slots 0 0 (F0 m pc ls st0) rest (vp_Si post a) (fun _ => False)) (kk : ∀ r : Int32, post r → W P l E R s m args below meth c H locs cells slots Q (F0 m (pc + 3) ls (.int r :: rest))) : W P l E R s m args below meth c H locs cells slots Q (F0 m pc ls st0) := vp_callSi hr.run kk
theorem zcallRL {post : Int64 → Prop} {a : Array Value} {st0 : List Value} (hr : va_Run P l E R s m args below meth c H locs cells slots 0 0 (F0 m pc ls st0) rest (vp_Sl post a) (fun _ => False)) (kk : ∀ r : Int64, post r → W P l E R s m args below meth c H locs cells slots Q (F0 m (pc + 3) ls (.long r :: rest))) : W P l E R s m args below meth c H locs cells slots Q (F0 m pc ls st0) := vp_callSl hr.run kk
theorem zpreV {g : Gx} {w : va_W} {C : String} {b : Nat} {As : List Value} (hK : KK g s) (hP : PP g w H) (hrc : ∃ cellB : Cell, H[b]? = some cellB ∧ cellB.vm.isStatics = false ∧ s.vm.findClass C = some cellB.cls) : PreV s H C b (PcR g (.ref b :: As) w) As := ⟨PcR.blind, hrc, fun U hU hW => ⟨rfl, by rw [hU]; exact hP, hK.warm hW⟩⟩
theorem zpreS {g : Gx} {w : va_W} {As : List Value} (hK : KK g s) (hP : PP g w H) : PreS s H (PcR g As w) As := ⟨PcR.blind, fun U hU hW => ⟨rfl, by rw [hU]; exact hP, hK.warm hW⟩⟩
theorem P_sub {g : Gx} {W0 w : va_W} (hP : PP g W0 H) (isC : List Nat) (hC : isC.map (fun i => W0[i]?) = w.map some) : PP g w H := by
  intro k q hq
  have h3 : (isC.map (fun i => W0[i]?))[k]? = some (some q) := by rw [hC, List.getElem?_map, hq]; rfl
  rw [List.getElem?_map] at h3
  cases hi : isC[k]? with
  | none => rw [hi] at h3; cases h3
  | some i => rw [hi] at h3; exact hP i q (Option.some.inj h3)
theorem zpreVM {g : Gx} {W0 w : va_W} {C : String} {b : Nat} {As : List Value} (hK : KK g s) (hP : PP g W0 H) (hD : va_D A W0) (isC : List Nat) (hC : isC.map (fun i => W0[i]?) = w.map some) (hn : va_nd isC = true) (hrc : ∃ cellB : Cell, H[b]? = some cellB ∧ cellB.vm.isStatics = false ∧ s.vm.findClass C = some cellB.cls) : PreV s H C b (PcM g (.ref b :: As) w) As := ⟨PcM.blind, hrc, fun U hU hW => ⟨rfl, by rw [hU]; exact P_sub hP isC hC, hK.warm hW, (hD.sub isC hn hC).weaken (fun _ _ _ _ => trivial)⟩⟩
theorem zpreSM {g : Gx} {W0 w : va_W} {As : List Value} (hK : KK g s) (hP : PP g W0 H) (hD : va_D A W0) (isC : List Nat) (hC : isC.map (fun i => W0[i]?) = w.map some) (hn : va_nd isC = true) : PreS s H (PcM g As w) As := ⟨PcM.blind, fun U hU hW => ⟨rfl, by rw [hU]; exact P_sub hP isC hC, hK.warm hW, (hD.sub isC hn hC).weaken (fun _ _ _ _ => trivial)⟩⟩
/-- a call that writes in its own cells, and answers an int -/
theorem zcallM {g : Gx} {S : Type} {W0 w : va_W} {post : Int32 → S → Prop} {w1 : S → va_W} {a : Array Value} {st0 : List Value} (hr : va_Run P l E R s m args below meth c H locs cells slots 0 0 (F0 m pc ls st0) rest (va_Qi post (fun u t => PP g (w1 u) t.heap) (inW w) a) (inW w)) (hP : PP g W0 H) (hD : va_D A W0) (hS : va_S A H0 H locs) (isC : List Nat) (hC : isC.map (fun i => W0[i]?) = w.map some) (ws1 : S → va_W) (hn : ∀ u, (w1 u).length = w.length) (hs : ∀ u, setAll W0 isC (w1 u) = ws1 u) (ha : ∀ u, (ws1 u).map (fun x => x.1) = W0.map (fun x => x.1))
    (kk : ∀ (r : Int32) (u : S) (H1 : Heap) (locs1 : List Loc), post r u → PP g (ws1 u) H1 → va_D A (ws1 u) → va_S A H0 H1 locs1 → W P l E R s m args below meth c H1 locs1 cells slots Q (F0 m (pc + 3) ls (.int r :: rest))) : W P l E R s m args below meth c H locs cells slots Q (F0 m pc ls st0) := by
  have hf := in_sub hD isC hC
  refine va_calli hr hS (fun q _ h => hf q h) hf (fun r u t H1 locs1 ht hvm hp hB hz hk hS1 => ?_)
  rw [ht] at hB
  obtain ⟨hP1, hD1⟩ := mu_join hP hD isC hC (hn u) (hs u) (ha u) hk hB
  exact kk r u H1 locs1 hp hP1 hD1 hS1
theorem zcallML {g : Gx} {S : Type} {W0 w : va_W} {post : Int64 → S → Prop} {w1 : S → va_W} {a : Array Value} {st0 : List Value} (hr : va_Run P l E R s m args below meth c H locs cells slots 0 0 (F0 m pc ls st0) rest (va_Ql post (fun u t => PP g (w1 u) t.heap) (inW w) a) (inW w)) (hP : PP g W0 H) (hD : va_D A W0) (hS : va_S A H0 H locs) (isC : List Nat) (hC : isC.map (fun i => W0[i]?) = w.map some) (ws1 : S → va_W) (hn : ∀ u, (w1 u).length = w.length) (hs : ∀ u, setAll W0 isC (w1 u) = ws1 u) (ha : ∀ u, (ws1 u).map (fun x => x.1) = W0.map (fun x => x.1))
    (kk : ∀ (r : Int64) (u : S) (H1 : Heap) (locs1 : List Loc), post r u → PP g (ws1 u) H1 → va_D A (ws1 u) → va_S A H0 H1 locs1 → W P l E R s m args below meth c H1 locs1 cells slots Q (F0 m (pc + 3) ls (.long r :: rest))) : W P l E R s m args below meth c H locs cells slots Q (F0 m pc ls st0) := by
  have hf := in_sub hD isC hC
  refine va_calll hr hS (fun q _ h => hf q h) hf (fun r u t H1 locs1 ht hvm hp hB hz hk hS1 => ?_)
  rw [ht] at hB
  obtain ⟨hP1, hD1⟩ := mu_join hP hD isC hC (hn u) (hs u) (ha u) hk hB
  exact kk r u H1 locs1 hp hP1 hD1 hS1
theorem zcallMv {g : Gx} {S : Type} {W0 w : va_W} {post : S → Prop} {w1 : S → va_W} {a : Array Value} {st0 : List Value} (hr : va_Run P l E R s m args below meth c H locs cells slots 0 0 (F0 m pc ls st0) rest (va_Qv post (fun u t => PP g (w1 u) t.heap) (inW w) a) (inW w)) (hP : PP g W0 H) (hD : va_D A W0) (hS : va_S A H0 H locs) (isC : List Nat) (hC : isC.map (fun i => W0[i]?) = w.map some) (ws1 : S → va_W) (hn : ∀ u, (w1 u).length = w.length) (hs : ∀ u, setAll W0 isC (w1 u) = ws1 u) (ha : ∀ u, (ws1 u).map (fun x => x.1) = W0.map (fun x => x.1))
    (kk : ∀ (u : S) (H1 : Heap) (locs1 : List Loc), post u → PP g (ws1 u) H1 → va_D A (ws1 u) → va_S A H0 H1 locs1 → W P l E R s m args below meth c H1 locs1 cells slots Q (F0 m (pc + 3) ls rest)) : W P l E R s m args below meth c H locs cells slots Q (F0 m pc ls st0) := by
  have hf := in_sub hD isC hC
  refine va_callv hr hS (fun q _ h => hf q h) hf (fun u t H1 locs1 ht hvm hp hB hz hk hS1 => ?_)
  rw [ht] at hB
  obtain ⟨hP1, hD1⟩ := mu_join hP hD isC hC (hn u) (hs u) (ha u) hk hB
  exact kk u H1 locs1 hp hP1 hD1 hS1
end Rows2
theorem upd_nI (f : Nat → Nat) (k v : Nat) : upd (fun j => nI (f j)) k (nI v) = fun j => nI (va_up f k v j) := by
  funext j
  by_cases h : j = k <;> simp [upd, va_up, h]
/-! numbers -/
def b01 (c : Prop) [Decidable c] : Nat := if c then 1 else 0
theorem b01_le (c : Prop) [Decidable c] : b01 c ≤ 1 := by unfold b01; split <;> omega
theorem b01_t {c : Prop} [Decidable c] (h : c) : b01 c = 1 := if_pos h
theorem b01_f {c : Prop} [Decidable c] (h : ¬ c) : b01 c = 0 := if_neg h
theorem b01_0 {c : Prop} [Decidable c] : b01 c = 0 ↔ ¬ c := by unfold b01; split <;> simp [*]
theorem b01_n0 {c : Prop} [Decidable c] : b01 c ≠ 0 ↔ c := by unfold b01; split <;> simp [*]
theorem nar_b {a : Nat} (h : a ≤ 1) : narrow .boolean (.int (nI a)) = .int (nI a) := by
  rcases (show a = 0 ∨ a = 1 by omega) with rfl | rfl <;> rfl
theorem vnar_b {a : Nat} (h : a ≤ 1) : vp_nar .boolean (nI a) = nI a := by
  rcases (show a = 0 ∨ a = 1 by omega) with rfl | rfl <;> rfl
/-- between two small numbers -/
theorem nI_btw {x : Int32} {n : Nat} (hn : n < 2 ^ 31) (h0 : ¬ x < 0) (h1 : x ≤ nI n) : ∃ j, j ≤ n ∧ x = nI j := by
  obtain ⟨j, hj, rfl⟩ := nI_of h0
  exact ⟨j, (nI_leI hj hn).mp h1, rfl⟩
theorem nI_btl {x : Int32} {n : Nat} (hn : n < 2 ^ 31) (h0 : ¬ x < 0) (h1 : x < nI n) : ∃ j, j < n ∧ x = nI j := by
  obtain ⟨j, hj, rfl⟩ := nI_of h0
  exact ⟨j, (nI_ltI hj hn).mp h1, rfl⟩
end
section
theorem i_nlt {a b : Int32} : ¬ a < b ↔ b ≤ a := by rw [Int32.lt_iff_toInt_lt, Int32.le_iff_toInt_le]; omega
theorem i_nle {a b : Int32} : ¬ a ≤ b ↔ b < a := by rw [Int32.lt_iff_toInt_lt, Int32.le_iff_toInt_le]; omega
/-! the words of the document, as numbers -/
def wr (k m : Nat) : Nat := if k = 0 then m else if k = 1 then m + 1 else 2 * m
def lo (kd hg : Nat → Nat) (q k m : Nat) : Nat := hg (3 * q + k) - wr (kd q) m
def dst (a b : Nat) : Nat := (a - b) + (b - a)
def sumk (f : Nat → Nat) : Nat → Nat
  | 0 => 0
  | n + 1 => sumk f n + f n
def apk (kd hg : Nat → Nat) (u q m k : Nat) : Nat := dst (hg (3 * u + k)) (lo kd hg q k m)
def ap (kd hg : Nat → Nat) (u q m : Nat) : Nat := sumk (apk kd hg u q m) 3
def alk (hg : Nat → Nat) (p q k : Nat) : Nat := dst (hg (3 * p + k)) (hg (3 * q + k))
def al (hg : Nat → Nat) (p q : Nat) : Nat := sumk (alk hg p q) 3
def bt (b k : Nat) : Nat := if b = 0 then 0 else 2 ^ k
def bset (f : Nat → Nat) : Nat → Nat
  | 0 => 0
  | n + 1 => bset f n ||| bt (f n) n
def fitb (sl : Nat) (kd hg : Nat → Nat) (u q m : Nat) : Nat := b01 (ap kd hg u q m ≤ sl)
def fset (np sl : Nat) (kd hg : Nat → Nat) (q m : Nat) : Nat := bset (fun p => fitb sl kd hg p q m) np
theorem wr_le {k m : Nat} (hm : m ≤ 9) : wr k m ≤ 18 := by unfold wr; split <;> (try split) <;> omega
theorem lo_le (kd : Nat → Nat) {hg : Nat → Nat} (hhg : ∀ j, hg j ≤ 9) (q k m : Nat) : lo kd hg q k m ≤ 9 := by
  have := hhg (3 * q + k)
  unfold lo; omega
theorem dst_le {a b : Nat} (ha : a ≤ 9) (hb : b ≤ 9) : dst a b ≤ 9 := by unfold dst; omega
theorem apk_le (kd : Nat → Nat) {hg : Nat → Nat} (hhg : ∀ j, hg j ≤ 9) (u q m k : Nat) : apk kd hg u q m k ≤ 9 := dst_le (hhg _) (lo_le kd hhg q k m)
theorem alk_le {hg : Nat → Nat} (hhg : ∀ j, hg j ≤ 9) (p q k : Nat) : alk hg p q k ≤ 9 := dst_le (hhg _) (hhg _)
theorem sumk_le {f : Nat → Nat} {c : Nat} (h : ∀ k, f k ≤ c) : ∀ n, sumk f n ≤ n * c
  | 0 => Nat.zero_le _
  | n + 1 => by
    have h1 := sumk_le h n
    have h2 := h n
    rw [sumk, Nat.succ_mul]; omega
theorem sumapk_le (kd : Nat → Nat) {hg : Nat → Nat} (hhg : ∀ j, hg j ≤ 9) (u q m i : Nat) : sumk (apk kd hg u q m) i ≤ i * 9 := sumk_le (apk_le kd hhg u q m) i
theorem sumalk_le {hg : Nat → Nat} (hhg : ∀ j, hg j ≤ 9) (p q i : Nat) : sumk (alk hg p q) i ≤ i * 9 := sumk_le (alk_le hhg p q) i
theorem ap_le (kd : Nat → Nat) {hg : Nat → Nat} (hhg : ∀ j, hg j ≤ 9) (u q m : Nat) : ap kd hg u q m ≤ 27 := sumapk_le kd hhg u q m 3
theorem al_le {hg : Nat → Nat} (hhg : ∀ j, hg j ≤ 9) (p q : Nat) : al hg p q ≤ 27 := sumalk_le hhg p q 3
theorem bt_lt {b k : Nat} : bt b k < 2 ^ (k + 1) := by
  unfold bt
  split
  · exact Nat.two_pow_pos _
  · exact Nat.pow_lt_pow_right (by decide) (Nat.lt_succ_self k)
theorem bset_lt (f : Nat → Nat) : ∀ n, bset f n < 2 ^ n
  | 0 => by simp [bset]
  | n + 1 => Nat.or_lt_two_pow (Nat.lt_of_lt_of_le (bset_lt f n) (Nat.pow_le_pow_right (by decide) (Nat.le_succ n))) bt_lt
theorem pow_le64 {n : Nat} (h : n ≤ 6) : 2 ^ n ≤ 64 := (Nat.pow_le_pow_right (by decide) h : 2 ^ n ≤ 2 ^ 6)
theorem bset_64 (f : Nat → Nat) {n : Nat} (h : n ≤ 6) : bset f n < 64 := Nat.lt_of_lt_of_le (bset_lt f n) (pow_le64 h)
theorem fset_lt (np sl : Nat) (kd hg : Nat → Nat) (q m : Nat) : fset np sl kd hg q m < 2 ^ np := bset_lt _ _
theorem fset_64 {np : Nat} (h : np ≤ 6) (sl : Nat) (kd hg : Nat → Nat) (q m : Nat) : fset np sl kd hg q m < 64 := bset_64 _ h
/-- Math.max(a - b, 0) -/
theorem mx_sub {a b : Nat} (ha : a < 2 ^ 30) (hb : b < 2 ^ 30) : (if nI a - nI b < nI 0 then nI 0 else nI a - nI b) = nI (a - b) := by
  rcases Nat.lt_or_ge a b with h | h
  · rw [if_pos (by rw [nI_0]; exact pk_sneg hb h), show a - b = 0 by omega]
  · rw [pk_sub h, if_neg (by rw [nI_0]; exact nI_pos (by omega))]
theorem neg_sub (a b : Nat) : 0 - (nI a - nI b) = nI b - nI a := by
  rw [Int32.zero_sub, Int32.neg_sub]
/-- Math.abs(a - b) -/
theorem abs_sub {a b : Nat} (ha : a < 2 ^ 30) (hb : b < 2 ^ 30) : (if 0 ≤ nI a - nI b then nI a - nI b else 0 - (nI a - nI b)) = nI (dst a b) := by
  rcases Nat.lt_or_ge a b with h | h
  · have h1 : ¬ 0 ≤ nI a - nI b := fun z => by
      have h2 := pk_sneg hb h
      rw [Int32.lt_iff_toInt_lt] at h2
      rw [Int32.le_iff_toInt_le] at z
      omega
    rw [if_neg h1, neg_sub, pk_sub (Nat.le_of_lt h)]
    congr 1
    unfold dst; omega
  · rw [pk_sub h, if_pos (nI_pos' (by omega))]
    congr 1
    unfold dst; omega
/-- is it a number of one of n things? -/
def isP (n : Nat) (p : Int32) : Prop := ¬ p < 0 ∧ p < nI n
theorem isP_of {n u : Nat} (hn : n < 2 ^ 31) (h : u < n) : isP n (nI u) := ⟨nI_pos (by omega), nI_lt h hn⟩
theorem nI_neI {a b : Nat} (ha : a < 2 ^ 31) (hb : b < 2 ^ 31) (h : a ≠ b) : ¬ nI a = nI b := fun z => h ((nI_eq ha hb).mp z)
theorem rng_post (n : Nat) (hn : n + 1 < 2 ^ 31) (v : Int32) : (∃ w, w < n + 1 ∧ v = nI w ∧ nI (b01 (nI 0 ≤ v ∧ v ≤ nI n)) = nI 1) ∨ (¬ isP (n + 1) v ∧ nI (b01 (nI 0 ≤ v ∧ v ≤ nI n)) = nI 0) := by
  by_cases h : nI 0 ≤ v ∧ v ≤ nI n
  · obtain ⟨j, h1, h2⟩ := nI_btw (x := v) (n := n) (by omega) (by rw [nI_0] at h; exact i_nlt.mpr h.1) h.2
    exact Or.inl ⟨j, by omega, h2, by rw [b01_t h]⟩
  · refine Or.inr ⟨fun z => h ?_, by rw [b01_f h]⟩
    obtain ⟨j, h1, rfl⟩ := nI_btl (n := n + 1) hn z.1 z.2
    exact ⟨nI_le (by omega) (by omega), nI_le (by omega) (by omega)⟩
theorem isSet_no {np : Nat} (hnp : np ≤ 6) {set : Int32} (h : nI (2 ^ np - 1) < set) : ¬ isP (2 ^ np) set := fun z => by
  have h6 := pow_le64 hnp
  obtain ⟨j, h1, rfl⟩ := nI_btl (n := 2 ^ np) (by omega) z.1 z.2
  have h2 := (nI_ltI (by omega) (by omega)).mp h
  omega
theorem isSet_yes {np : Nat} (hnp : np ≤ 6) {set : Int32} (h0 : ¬ set < 0) (h : ¬ nI (2 ^ np - 1) < set) : (∃ b, b < 2 ^ np ∧ set = nI b ∧ nI 1 = nI 1) ∨ (¬ isP (2 ^ np) set ∧ nI 1 = nI 0) := by
  have h6 := pow_le64 hnp
  have h7 : 1 ≤ 2 ^ np := Nat.one_le_two_pow
  obtain ⟨j, h1, rfl⟩ := nI_btw (n := 2 ^ np - 1) (by omega) h0 (i_nlt.mp h)
  exact Or.inl ⟨j, by omega, rfl, rfl⟩
end
section
/-! loops, as functions of how far they are -/
def alb (sl : Nat) (hg : Nat → Nat) (p q : Nat) : Nat := b01 (al hg p q ≤ sl)
def likb (sl : Nat) (hg : Nat → Nat) (p q : Nat) : Nat := b01 (q ≠ p ∧ al hg p q ≤ sl)
def lset (np sl : Nat) (hg : Nat → Nat) (p : Nat) : Nat := bset (likb sl hg p) np
theorem lset_lt (np sl : Nat) (hg : Nat → Nat) (p : Nat) : lset np sl hg p < 2 ^ np := bset_lt _ _
def enc : Option Nat → Int32
  | none => -9
  | some b => nI b
def mtb (sl : Nat) (f : Nat → Nat) : Nat → Option Nat
  | 0 => none
  | n + 1 => match mtb sl f n with
    | none => if f n ≤ sl then some n else none
    | some b => if f n < f b then some n else some b
def mtl (sl : Nat) (f : Nat → Nat) (n : Nat) : Nat := match mtb sl f n with
  | none => sl + 1
  | some b => f b
theorem mtb_no {sl : Nat} {f : Nat → Nat} {n : Nat} (h : mtl sl f n ≤ f n) : mtb sl f (n + 1) = mtb sl f n := by
  unfold mtl at h
  rw [mtb]
  split <;> rename_i e <;> rw [e] at h
  · rw [if_neg (by simp only at h; omega), e]
  · rw [if_neg (by simp only at h; omega), e]
theorem mtb_yes {sl : Nat} {f : Nat → Nat} {n : Nat} (h : f n < mtl sl f n) : mtb sl f (n + 1) = some n := by
  unfold mtl at h
  rw [mtb]
  split <;> rename_i e <;> rw [e] at h
  · rw [if_pos (by simp only at h; omega)]
  · rw [if_pos (by simp only at h; omega)]
theorem mtl_no {sl : Nat} {f : Nat → Nat} {n : Nat} (h : mtl sl f n ≤ f n) : mtl sl f (n + 1) = mtl sl f n := by
  have e := mtb_no h
  unfold mtl; rw [e]
theorem mtl_yes {sl : Nat} {f : Nat → Nat} {n : Nat} (h : f n < mtl sl f n) : mtl sl f (n + 1) = f n := by
  have e := mtb_yes h
  unfold mtl; rw [e]
theorem mtb_le {sl : Nat} {f : Nat → Nat} : ∀ {n b : Nat}, mtb sl f n = some b → b < n ∧ f b ≤ sl
  | 0, b, h => by cases h
  | n + 1, b, h => by
    rcases Nat.lt_or_ge (f n) (mtl sl f n) with c | c
    · rw [mtb_yes c] at h
      cases h
      refine ⟨Nat.lt_succ_self _, ?_⟩
      unfold mtl at c
      split at c
      · omega
      · rename_i b' e
        have := (mtb_le e).2
        omega
    · rw [mtb_no c] at h
      have := mtb_le h
      exact ⟨by omega, this.2⟩
theorem mtl_le {sl : Nat} {f : Nat → Nat} (n : Nat) : mtl sl f n ≤ sl + 1 := by
  unfold mtl
  split
  · omega
  · rename_i b e
    have := (mtb_le e).2
    omega
def pm : Nat → Int32
  | 0 => -1
  | k + 1 => nI k
theorem pm_neg {i : Nat} (hi : i < 2 ^ 31) (h : pm i < 0) : i = 0 := by
  cases i with
  | zero => rfl
  | succ k => exact absurd h (nI_pos (by omega))
theorem pm_pos {i : Nat} (h : ¬ pm i < 0) : ∃ k, i = k + 1 := by
  cases i with
  | zero => exact absurd (by decide) h
  | succ k => exact ⟨k, rfl⟩
theorem pm_dec (k : Nat) : nI k + Int32.ofInt (-1) = pm k := by
  cases k with
  | zero => decide
  | succ k => show nI (k + 1) + (-1) = nI k; exact pk_m1 k
def lgd (f : Nat → Nat) : Nat → Option Nat
  | 0 => none
  | n + 1 => if f n = 0 then lgd f n else some n
/-- no p below n that is in b has one of L p in b -/
def nl (b : Nat) (L : Nat → Nat) : Nat → Nat
  | 0 => 1
  | n + 1 => if nl b L n = 0 then 0 else if b &&& 2 ^ n ≠ 0 ∧ L n &&& b ≠ 0 then 0 else 1
theorem nl_le (b : Nat) (L : Nat → Nat) : ∀ n, nl b L n ≤ 1
  | 0 => Nat.le_refl _
  | n + 1 => by rw [nl]; split <;> (try split) <;> omega
theorem nl_stay {b : Nat} {L : Nat → Nat} {i : Nat} (h : nl b L i = 0) : ∀ n, i ≤ n → nl b L n = 0
  | 0, hn => by rw [Nat.le_zero.mp hn] at h; exact h
  | n + 1, hn => by
    rcases Nat.lt_or_ge i (n + 1) with c | c
    · rw [nl, if_pos (nl_stay h n (by omega))]
    · rw [← Nat.le_antisymm hn c]; exact h
theorem nl_bad {b : Nat} {L : Nat → Nat} {i : Nat} (h1 : b &&& 2 ^ i ≠ 0) (h2 : L i &&& b ≠ 0) : nl b L (i + 1) = 0 := by
  rw [nl]; split
  · rfl
  · rw [if_pos ⟨h1, h2⟩]
theorem nl_go {b : Nat} {L : Nat → Nat} {i : Nat} (h : nl b L i = 1) (h2 : ¬ (b &&& 2 ^ i ≠ 0 ∧ L i &&& b ≠ 0)) : nl b L (i + 1) = 1 := by
  rw [nl, if_neg (by omega), if_neg h2]
theorem nl_congr {b : Nat} {L L' : Nat → Nat} : ∀ {n : Nat}, (∀ j, j < n → L j = L' j) → nl b L n = nl b L' n
  | 0, _ => rfl
  | n + 1, h => by rw [nl, nl, nl_congr (fun j hj => h j (by omega)), h n (by omega)]
def fil (f g : Nat → Nat) (n : Nat) : Nat → Nat := fun j => if j < n then f j else g j
theorem fil_up (f g : Nat → Nat) (i : Nat) : va_up (fil f g i) i (f i) = fil f g (i + 1) := by
  funext j
  unfold va_up fil
  by_cases h : j = i
  · rw [if_pos h, if_pos (by omega), h]
  · rw [if_neg h]
    by_cases h2 : j < i
    · rw [if_pos h2, if_pos (by omega)]
    · rw [if_neg h2, if_neg (by omega)]
theorem fil_0 (f g : Nat → Nat) : fil f g 0 = g := by
  funext j
  unfold fil
  rw [if_neg (by omega)]
theorem fil_in {f g : Nat → Nat} {n j : Nat} (h : j < n) : fil f g n j = f j := if_pos h
def frb (L : Nat → Nat) (b q : Nat) : Nat := b01 (L q &&& b ≠ 0)
theorem bset_congr {f f' : Nat → Nat} : ∀ {n : Nat}, (∀ j, j < n → f j = f' j) → bset f n = bset f' n
  | 0, _ => rfl
  | n + 1, h => by rw [bset, bset, bset_congr (fun j hj => h j (by omega)), h n (by omega)]
/-- how many bits -/
def pcf : Nat → Nat → Nat
  | 0, _ => 0
  | f + 1, n => n % 2 + pcf f (n / 2)
def pc (n : Nat) : Nat := pcf 32 n
theorem pcf_le : ∀ (f k n : Nat), n < 2 ^ k → pcf f n ≤ k
  | 0, k, n, _ => Nat.zero_le _
  | f + 1, 0, n, h => by
    have h0 : n = 0 := by omega
    subst h0
    have := pcf_le f 0 0 (by decide)
    rw [pcf, Nat.zero_div]; omega
  | f + 1, k + 1, n, h => by
    have := pcf_le f k (n / 2) (by rw [Nat.pow_succ] at h; omega)
    rw [pcf]; omega
theorem pc_le {k n : Nat} (h : n < 2 ^ k) : pc n ≤ k := pcf_le 32 k n h
theorem pc_32 (n : Nat) : pc n ≤ 32 := by
  have key : ∀ f n, pcf f n ≤ f := fun f => by
    induction f with
    | zero => intro n; exact Nat.le_refl _
    | succ f ih => intro n; have := ih (n / 2); rw [pcf]; omega
  exact key 32 n
def ms (L : Nat → Nat) (np : Nat) : Nat → Nat
  | 0 => 0
  | n + 1 => if pc (ms L np n) < pc n ∧ nl n L np ≠ 0 then n else ms L np n
theorem ms_le (L : Nat → Nat) (np : Nat) : ∀ n, ms L np n ≤ n
  | 0 => Nat.le_refl _
  | n + 1 => by
    have := ms_le L np n
    rw [ms]; split <;> omega
theorem ms_lt (L : Nat → Nat) (np : Nat) {n M : Nat} (h : n ≤ M) (h0 : 0 < M) : ms L np n < M := by
  induction n with
  | zero => exact h0
  | succ n ih =>
    rw [ms]; split
    · omega
    · exact ih (by omega)
def fw (L : Nat → Nat) (np : Nat) : Nat → Option Nat
  | 0 => none
  | n + 1 => match fw L np n with
    | none => if bset (frb L n) np = 2 ^ np - 1 then some n else none
    | some b => if pc n < pc b ∧ bset (frb L n) np = 2 ^ np - 1 then some n else some b
def fwl (L : Nat → Nat) (np n : Nat) : Nat := match fw L np n with
  | none => np + 1
  | some b => pc b
theorem fw_yes {L : Nat → Nat} {np n : Nat} (h : pc n < fwl L np n) (h2 : bset (frb L n) np = 2 ^ np - 1) : fw L np (n + 1) = some n := by
  unfold fwl at h
  rw [fw]
  split <;> rename_i e <;> rw [e] at h
  · rw [if_pos h2]
  · rw [if_pos ⟨h, h2⟩]
theorem fw_no2 {L : Nat → Nat} {np n : Nat} (h2 : ¬ bset (frb L n) np = 2 ^ np - 1) : fw L np (n + 1) = fw L np n := by
  rw [fw]
  split
  · rename_i e; rw [if_neg h2, e]
  · rename_i e; rw [if_neg (fun z => h2 z.2), e]
theorem fw_no1 {L : Nat → Nat} {np n : Nat} (hn : n < 2 ^ np) (h : fwl L np n ≤ pc n) : fw L np (n + 1) = fw L np n := by
  have h3 := pc_le hn
  unfold fwl at h
  rw [fw]
  split <;> rename_i e <;> rw [e] at h
  · exact absurd h (by simp only; omega)
  · rw [if_neg (fun z => by simp only at h; omega), e]
theorem fwl_eq {L : Nat → Nat} {np n : Nat} (h : fw L np (n + 1) = fw L np n) : fwl L np (n + 1) = fwl L np n := by unfold fwl; rw [h]
theorem fwl_yes {L : Nat → Nat} {np n : Nat} (h : fw L np (n + 1) = some n) : fwl L np (n + 1) = pc n := by unfold fwl; rw [h]
theorem fwl_le (L : Nat → Nat) {np : Nat} (hnp : np ≤ 6) (n : Nat) : fwl L np n ≤ 32 := by
  unfold fwl
  split
  · omega
  · exact pc_32 _
theorem fw_congr {L L' : Nat → Nat} {np : Nat} (h : ∀ j, j < np → L j = L' j) : ∀ n, fw L np n = fw L' np n
  | 0 => rfl
  | n + 1 => by
    have e : bset (frb L n) np = bset (frb L' n) np := bset_congr (fun j hj => by unfold frb; rw [h j hj])
    rw [fw, fw, fw_congr h n, e]
theorem ms_congr {L L' : Nat → Nat} {np : Nat} (h : ∀ j, j < np → L j = L' j) : ∀ n, ms L np n = ms L' np n
  | 0 => rfl
  | n + 1 => by rw [ms, ms, ms_congr h n, nl_congr h]
theorem and_lt {a b c : Nat} (h : b < c) : a &&& b < c := Nat.lt_of_le_of_lt Nat.and_le_right h
theorem and_lt' {a b c : Nat} (h : a < c) : a &&& b < c := Nat.lt_of_le_of_lt Nat.and_le_left h
theorem bt_ltE (b k : Nat) : bt b k < 2 ^ (k + 1) := bt_lt
theorem fitb_le (sl : Nat) (kd hg : Nat → Nat) (u q m : Nat) : fitb sl kd hg u q m ≤ 1 := b01_le _
theorem alb_le (sl : Nat) (hg : Nat → Nat) (p q : Nat) : alb sl hg p q ≤ 1 := b01_le _
end
section
abbrev wC (g : Gx) (co ck ch cl : Nat) (np sl : Nat) (kd hg lk : Nat → Nat) : va_W := [(co, .inr (0, [.ref ck, .ref ch, .ref cl, .int (nI np), .int (nI sl)])), (ck, .inl (gI g, 6, .inl (fun j => nI (kd j)))), (ch, .inl (gI g, 18, .inl (fun j => nI (hg j)))), (cl, .inl (gI g, 6, .inl (fun j => nI (lk j))))]
set_option maxHeartbeats 8000000 in
set_option maxRecDepth 100000 in
theorem c_X4_within (l : Launch) (g : Gx) (v : Int32) (a : Int32) (b : Int32) : Met l yX4_within wsX4_within ({ frames := 0, cells := 0, slots := 0, locals := 0 } : Room) (PcR g [.int v, .int a, .int b] (([] : va_W))) (vp_Si (fun r => r = nI (b01 (a ≤ v ∧ v ≤ b)))) 0 0 (fun _ => False) := by
  refine zenterR (cc := cX4_within) (maxL := 3) (ret := (some .boolean)) (by decide) rfl (Nat.le_of_ble_eq_true rfl) ?_
  intro P E s mt below meth cd ls hx hb hml hown hts hr hlocks hP hK hl
  have hl : lv_has ls 3 [(0, .int v), (1, .int a), (2, .int b)] := hl
  have S0 : CallFix P mt cd cX4_within 3 s [.int v, .int a, .int b].toArray wsX4_within RX4 := ⟨hx, hb, hml, hown, hts⟩
  refine lv_iload_n hx hb dX4_within_0 rfl (lv_at hl 0 rfl) ?_
  refine lv_iload_n hx hb dX4_within_1 rfl (lv_at hl 1 rfl) ?_
  refine lv_icmp_lt (tgt := 14) hx hb dX4_within_2 (by decide) (fun c2 => ?_) (fun c2 => ?_)
  · refine lv_iconst (v := (nI 0)) hx hb dX4_within_14 (by decide) ?_
    exact zretI hx hb hr hlocks rfl (by rw [b01_f (fun z => absurd z.1 (i_nle.mpr c2))]) dX4_within_15
  · refine lv_iload_n hx hb dX4_within_5 rfl (lv_at hl 0 rfl) ?_
    refine lv_iload_n hx hb dX4_within_6 rfl (lv_at hl 2 rfl) ?_
    refine lv_icmp_gt (tgt := 14) hx hb dX4_within_7 (by decide) (fun c7 => ?_) (fun c7 => ?_)
    · refine lv_iconst (v := (nI 0)) hx hb dX4_within_14 (by decide) ?_
      exact zretI hx hb hr hlocks rfl (by rw [b01_f (fun z => absurd z.2 (i_nle.mpr c7))]) dX4_within_15
    · refine lv_iconst (v := (nI 1)) hx hb dX4_within_10 (by decide) ?_
      refine lv_goto (tgt := 15) hx hb dX4_within_11 (by decide) ?_
      exact zretI hx hb hr hlocks rfl (by rw [b01_t ⟨i_nlt.mp c2, i_nlt.mp c7⟩]) dX4_within_15

set_option maxHeartbeats 8000000 in
set_option maxRecDepth 100000 in
theorem c_X4_isMonths (l : Launch) (g : Gx) (v : Int32) : Met l yX4_isMonths wsX4_isMonths ({ frames := 1, cells := 0, slots := 0, locals := 22 } : Room) (PcR g [.int v] (([] : va_W))) (vp_Si (fun r => (∃ w, w < 10 ∧ v = nI w ∧ r = nI 1) ∨ (¬ isP 10 v ∧ r = nI 0))) 0 0 (fun _ => False) := by
  refine zenterR (cc := cX4_isMonths) (maxL := 1) (ret := (some .boolean)) (by decide) rfl (Nat.le_of_ble_eq_true rfl) ?_
  intro P E s mt below meth cd ls hx hb hml hown hts hr hlocks hP hK hl
  have hl : lv_has ls 1 [(0, .int v)] := hl
  have S0 : CallFix P mt cd cX4_isMonths 1 s [.int v].toArray wsX4_isMonths RX4 := ⟨hx, hb, hml, hown, hts⟩
  refine lv_iload_n hx hb dX4_isMonths_0 rfl (lv_at hl 0 rfl) ?_
  refine lv_iconst (v := (nI 0)) hx hb dX4_isMonths_1 (by decide) ?_
  refine lv_bipush (v := (nI 9)) hx hb dX4_isMonths_2 (by decide) ?_
  refine zcallR (va_runS (As := [.int v, .int (nI 0), .int (nI 9)]) (rest := []) S0 (c_X4_within l g v (nI 0) (nI 9)) (va_cwS 3 hts gX4_isMonths_X4_within rfl rfl rfl (by decide +kernel) ⟨by decide, by decide⟩) (zpreS hK (P_nil _)) rfl rfl hl.1 rfl (lv_room (Nat.le_of_ble_eq_true rfl)) dX4_isMonths_4 ⟨by decide, by decide⟩) (fun r4 h4 => ?_)
  subst h4
  exact zretI hx hb hr hlocks (nar_b (b01_le _)) (rng_post 9 (by decide) v) dX4_isMonths_7

set_option maxHeartbeats 8000000 in
set_option maxRecDepth 100000 in
theorem c_X4_bitIf (l : Launch) (g : Gx) (b : Nat) (k : Nat) (hb1 : b ≤ 1) (hk : k < 31) : Met l yX4_bitIf wsX4_bitIf ({ frames := 0, cells := 0, slots := 0, locals := 0 } : Room) (PcR g [.int (nI b), .int (nI k)] (([] : va_W))) (vp_Si (fun r => r = nI (bt b k))) 0 0 (fun _ => False) := by
  refine zenterR (cc := cX4_bitIf) (maxL := 2) (ret := (some .int)) (by decide) rfl (Nat.le_of_ble_eq_true rfl) ?_
  intro P E s mt below meth cd ls hx hb hml hown hts hr hlocks hP hK hl
  have hl : lv_has ls 2 [(0, .int (nI b)), (1, .int (nI k))] := hl
  have S0 : CallFix P mt cd cX4_bitIf 2 s [.int (nI b), .int (nI k)].toArray wsX4_bitIf RX4 := ⟨hx, hb, hml, hown, hts⟩
  refine lv_iload_n hx hb dX4_bitIf_0 rfl (lv_at hl 0 rfl) ?_
  refine n_if_eq (a := b) (tgt := 10) hx hb (by omega) dX4_bitIf_1 (by decide) (fun c1 => ?_) (fun c1 => ?_)
  · refine lv_iconst (v := (nI 0)) hx hb dX4_bitIf_10 (by decide) ?_
    exact zretI hx hb hr hlocks rfl (by rw [bt, if_pos c1]) dX4_bitIf_11
  · refine lv_iconst (v := (nI 1)) hx hb dX4_bitIf_4 (by decide) ?_
    refine lv_iload_n hx hb dX4_bitIf_5 rfl (lv_at hl 1 rfl) ?_
    refine n_ishl1 (n := k) hx hb (by omega) dX4_bitIf_6 ?_
    refine lv_goto (tgt := 11) hx hb dX4_bitIf_7 (by decide) ?_
    exact zretI hx hb hr hlocks rfl (by rw [bt, if_neg c1]) dX4_bitIf_11

set_option maxHeartbeats 8000000 in
set_option maxRecDepth 100000 in
theorem c_X0_hasPass (l : Launch) (g : Gx) (co : Nat) (ck : Nat) (ch : Nat) (cl : Nat) (np : Nat) (sl : Nat) (kd : Nat → Nat) (hg : Nat → Nat) (lk : Nat → Nat) (p : Int32) (hnp : np ≤ 6) : Met l yX0_hasPass wsX0_hasPass ({ frames := 0, cells := 0, slots := 0, locals := 0 } : Room) (PcR g [.ref co, .int p] (wC g co ck ch cl np sl kd hg lk)) (vp_Si (fun r => (∃ u, u < np ∧ p = nI u ∧ r = nI 1) ∨ (¬ isP np p ∧ r = nI 0))) 0 0 (fun _ => False) := by
  refine zenterR (cc := cX0_hasPass) (maxL := 2) (ret := (some .boolean)) (by decide) rfl (Nat.le_of_ble_eq_true rfl) ?_
  intro P E s mt below meth cd ls hx hb hml hown hts hr hlocks hP hK hl
  have hl : lv_has ls 2 [(0, .ref co), (1, .int p)] := hl
  have S0 : CallFix P mt cd cX0_hasPass 2 s [.ref co, .int p].toArray wsX0_hasPass RX0 := ⟨hx, hb, hml, hown, hts⟩
  refine lv_iload_n hx hb dX0_hasPass_0 rfl (lv_at hl 1 rfl) ?_
  refine lv_if_lt (tgt := 16) hx hb dX0_hasPass_1 (by decide) (fun c1 => ?_) (fun c1 => ?_)
  · refine lv_iconst (v := (nI 0)) hx hb dX0_hasPass_16 (by decide) ?_
    exact zretI hx hb hr hlocks rfl (Or.inr ⟨fun z => z.1 c1, rfl⟩) dX0_hasPass_17
  · refine lv_iload_n hx hb dX0_hasPass_4 rfl (lv_at hl 1 rfl) ?_
    refine lv_aload_n hx hb dX0_hasPass_5 rfl (lv_at hl 0 rfl) ?_
    refine va_get (D := g.1) (ci := 0) (v := .int (nI np)) (C := RX0) (T := TX0) (N := 5) hx hb hts (fun _ h => (List.mem_cons_of_mem _ (List.mem_append_right _ h))) hown hK.1 hP 0 rfl rfl 3 (by decide) (hts _ (List.mem_of_getElem? (i := 1) rfl)) (fun _ h9 => h9) rfl dX0_hasPass_6 ?_
    refine lv_icmp_ge (tgt := 16) hx hb dX0_hasPass_9 (by decide) (fun c9 => ?_) (fun c9 => ?_)
    · refine lv_iconst (v := (nI 0)) hx hb dX0_hasPass_16 (by decide) ?_
      exact zretI hx hb hr hlocks rfl (Or.inr ⟨fun z => absurd z.2 (i_nlt.mpr c9), rfl⟩) dX0_hasPass_17
    · refine lv_iconst (v := (nI 1)) hx hb dX0_hasPass_12 (by decide) ?_
      refine lv_goto (tgt := 17) hx hb dX0_hasPass_13 (by decide) ?_
      exact zretI hx hb hr hlocks rfl (by obtain ⟨u, h1, h2⟩ := nI_btl (n := np) (by omega) c1 (i_nle.mp c9); exact Or.inl ⟨u, h1, h2, rfl⟩) dX0_hasPass_17

set_option maxHeartbeats 8000000 in
set_option maxRecDepth 100000 in
theorem c_X0_hasPass_in (l : Launch) (g : Gx) (co : Nat) (ck : Nat) (ch : Nat) (cl : Nat) (np : Nat) (sl : Nat) (kd : Nat → Nat) (hg : Nat → Nat) (lk : Nat → Nat) (u : Nat) (hnp : np ≤ 6) (hu : u < np) : Met l yX0_hasPass wsX0_hasPass ({ frames := 0, cells := 0, slots := 0, locals := 0 } : Room) (PcR g [.ref co, .int (nI u)] (wC g co ck ch cl np sl kd hg lk)) (vp_Si (fun r => r = nI 1)) 0 0 (fun _ => False) := by
  refine zenterR (cc := cX0_hasPass) (maxL := 2) (ret := (some .boolean)) (by decide) rfl (Nat.le_of_ble_eq_true rfl) ?_
  intro P E s mt below meth cd ls hx hb hml hown hts hr hlocks hP hK hl
  have hl : lv_has ls 2 [(0, .ref co), (1, .int (nI u))] := hl
  have S0 : CallFix P mt cd cX0_hasPass 2 s [.ref co, .int (nI u)].toArray wsX0_hasPass RX0 := ⟨hx, hb, hml, hown, hts⟩
  refine lv_iload_n hx hb dX0_hasPass_0 rfl (lv_at hl 1 rfl) ?_
  refine n_if_lt (a := u) hx hb (by omega) dX0_hasPass_1 16 (by decide) ?_
  refine lv_iload_n hx hb dX0_hasPass_4 rfl (lv_at hl 1 rfl) ?_
  refine lv_aload_n hx hb dX0_hasPass_5 rfl (lv_at hl 0 rfl) ?_
  refine va_get (D := g.1) (ci := 0) (v := .int (nI np)) (C := RX0) (T := TX0) (N := 5) hx hb hts (fun _ h => (List.mem_cons_of_mem _ (List.mem_append_right _ h))) hown hK.1 hP 0 rfl rfl 3 (by decide) (hts _ (List.mem_of_getElem? (i := 1) rfl)) (fun _ h9 => h9) rfl dX0_hasPass_6 ?_
  refine n_icmp_ge (a := u) (b := np) (tgt := 16) hx hb (by omega) (by omega) dX0_hasPass_9 (by decide) (fun c9 => ?_) (fun c9 => ?_)
  · exact absurd hu (by omega)
  · refine lv_iconst (v := (nI 1)) hx hb dX0_hasPass_12 (by decide) ?_
    refine lv_goto (tgt := 17) hx hb dX0_hasPass_13 (by decide) ?_
    exact zretI hx hb hr hlocks rfl (by rfl) dX0_hasPass_17

set_option maxHeartbeats 8000000 in
set_option maxRecDepth 100000 in
theorem c_X0_stands (l : Launch) (g : Gx) (co : Nat) (ck : Nat) (ch : Nat) (cl : Nat) (np : Nat) (sl : Nat) (kd : Nat → Nat) (hg : Nat → Nat) (lk : Nat → Nat) (hnp : np ≤ 6) : Met l yX0_stands wsX0_stands ({ frames := 0, cells := 0, slots := 0, locals := 0 } : Room) (PcR g [.ref co] (wC g co ck ch cl np sl kd hg lk)) (vp_Si (fun r => r = nI (b01 (0 < np)))) 0 0 (fun _ => False) := by
  refine zenterR (cc := cX0_stands) (maxL := 1) (ret := (some .boolean)) (by decide) rfl (Nat.le_of_ble_eq_true rfl) ?_
  intro P E s mt below meth cd ls hx hb hml hown hts hr hlocks hP hK hl
  have hl : lv_has ls 1 [(0, .ref co)] := hl
  have S0 : CallFix P mt cd cX0_stands 1 s [.ref co].toArray wsX0_stands RX0 := ⟨hx, hb, hml, hown, hts⟩
  refine lv_aload_n hx hb dX0_stands_0 rfl (lv_at hl 0 rfl) ?_
  refine va_get (D := g.1) (ci := 0) (v := .int (nI np)) (C := RX0) (T := TX0) (N := 5) hx hb hts (fun _ h => (List.mem_cons_of_mem _ (List.mem_append_right _ h))) hown hK.1 hP 0 rfl rfl 3 (by decide) (hts _ (List.mem_of_getElem? (i := 1) rfl)) (fun _ h9 => h9) rfl dX0_stands_1 ?_
  refine n_if_le (a := np) (tgt := 11) hx hb (by omega) dX0_stands_4 (by decide) (fun c4 => ?_) (fun c4 => ?_)
  · refine lv_iconst (v := (nI 0)) hx hb dX0_stands_11 (by decide) ?_
    exact zretI hx hb hr hlocks rfl (by rw [b01_f (by omega)]) dX0_stands_12
  · refine lv_iconst (v := (nI 1)) hx hb dX0_stands_7 (by decide) ?_
    refine lv_goto (tgt := 12) hx hb dX0_stands_8 (by decide) ?_
    exact zretI hx hb hr hlocks rfl (by rw [b01_t c4]) dX0_stands_12

set_option maxHeartbeats 8000000 in
set_option maxRecDepth 100000 in
theorem c_X0_howMany (l : Launch) (g : Gx) (co : Nat) (ck : Nat) (ch : Nat) (cl : Nat) (np : Nat) (sl : Nat) (kd : Nat → Nat) (hg : Nat → Nat) (lk : Nat → Nat) : Met l yX0_howMany wsX0_howMany ({ frames := 0, cells := 0, slots := 0, locals := 0 } : Room) (PcR g [.ref co] (wC g co ck ch cl np sl kd hg lk)) (vp_Si (fun r => r = nI np)) 0 0 (fun _ => False) := by
  refine zenterR (cc := cX0_howMany) (maxL := 1) (ret := (some .int)) (by decide) rfl (Nat.le_of_ble_eq_true rfl) ?_
  intro P E s mt below meth cd ls hx hb hml hown hts hr hlocks hP hK hl
  have hl : lv_has ls 1 [(0, .ref co)] := hl
  have S0 : CallFix P mt cd cX0_howMany 1 s [.ref co].toArray wsX0_howMany RX0 := ⟨hx, hb, hml, hown, hts⟩
  refine lv_aload_n hx hb dX0_howMany_0 rfl (lv_at hl 0 rfl) ?_
  refine va_get (D := g.1) (ci := 0) (v := .int (nI np)) (C := RX0) (T := TX0) (N := 5) hx hb hts (fun _ h => (List.mem_cons_of_mem _ (List.mem_append_right _ h))) hown hK.1 hP 0 rfl rfl 3 (by decide) (hts _ (List.mem_of_getElem? (i := 1) rfl)) (fun _ h9 => h9) rfl dX0_howMany_1 ?_
  exact zretI hx hb hr hlocks rfl (by rfl) dX0_howMany_4

set_option maxHeartbeats 8000000 in
set_option maxRecDepth 100000 in
theorem c_X0_slackNow (l : Launch) (g : Gx) (co : Nat) (ck : Nat) (ch : Nat) (cl : Nat) (np : Nat) (sl : Nat) (kd : Nat → Nat) (hg : Nat → Nat) (lk : Nat → Nat) : Met l yX0_slackNow wsX0_slackNow ({ frames := 0, cells := 0, slots := 0, locals := 0 } : Room) (PcR g [.ref co] (wC g co ck ch cl np sl kd hg lk)) (vp_Si (fun r => r = nI sl)) 0 0 (fun _ => False) := by
  refine zenterR (cc := cX0_slackNow) (maxL := 1) (ret := (some .int)) (by decide) rfl (Nat.le_of_ble_eq_true rfl) ?_
  intro P E s mt below meth cd ls hx hb hml hown hts hr hlocks hP hK hl
  have hl : lv_has ls 1 [(0, .ref co)] := hl
  have S0 : CallFix P mt cd cX0_slackNow 1 s [.ref co].toArray wsX0_slackNow RX0 := ⟨hx, hb, hml, hown, hts⟩
  refine lv_aload_n hx hb dX0_slackNow_0 rfl (lv_at hl 0 rfl) ?_
  refine va_get (D := g.1) (ci := 0) (v := .int (nI sl)) (C := RX0) (T := TX0) (N := 5) hx hb hts (fun _ h => (List.mem_cons_of_mem _ (List.mem_append_right _ h))) hown hK.1 hP 0 rfl rfl 4 (by decide) (hts _ (List.mem_of_getElem? (i := 1) rfl)) (fun _ h9 => h9) rfl dX0_slackNow_1 ?_
  exact zretI hx hb hr hlocks rfl (by rfl) dX0_slackNow_4

set_option maxHeartbeats 8000000 in
set_option maxRecDepth 100000 in
theorem c_X0_allPasses (l : Launch) (g : Gx) (co : Nat) (ck : Nat) (ch : Nat) (cl : Nat) (np : Nat) (sl : Nat) (kd : Nat → Nat) (hg : Nat → Nat) (lk : Nat → Nat) (hnp : np ≤ 6) : Met l yX0_allPasses wsX0_allPasses ({ frames := 0, cells := 0, slots := 0, locals := 0 } : Room) (PcR g [.ref co] (wC g co ck ch cl np sl kd hg lk)) (vp_Si (fun r => r = nI (2 ^ np - 1))) 0 0 (fun _ => False) := by
  refine zenterR (cc := cX0_allPasses) (maxL := 1) (ret := (some .int)) (by decide) rfl (Nat.le_of_ble_eq_true rfl) ?_
  intro P E s mt below meth cd ls hx hb hml hown hts hr hlocks hP hK hl
  have hl : lv_has ls 1 [(0, .ref co)] := hl
  have S0 : CallFix P mt cd cX0_allPasses 1 s [.ref co].toArray wsX0_allPasses RX0 := ⟨hx, hb, hml, hown, hts⟩
  refine lv_iconst (v := (nI 1)) hx hb dX0_allPasses_0 (by decide) ?_
  refine lv_aload_n hx hb dX0_allPasses_1 rfl (lv_at hl 0 rfl) ?_
  refine va_get (D := g.1) (ci := 0) (v := .int (nI np)) (C := RX0) (T := TX0) (N := 5) hx hb hts (fun _ h => (List.mem_cons_of_mem _ (List.mem_append_right _ h))) hown hK.1 hP 0 rfl rfl 3 (by decide) (hts _ (List.mem_of_getElem? (i := 1) rfl)) (fun _ h9 => h9) rfl dX0_allPasses_2 ?_
  refine n_ishl1 (n := np) hx hb (by omega) dX0_allPasses_5 ?_
  refine lv_iconst (v := (nI 1)) hx hb dX0_allPasses_6 (by decide) ?_
  refine n_isub (a := (2 ^ np)) (b := 1) hx hb (Nat.one_le_two_pow) dX0_allPasses_7 ?_
  exact zretI hx hb hr hlocks rfl (by rfl) dX0_allPasses_8

set_option maxHeartbeats 8000000 in
set_option maxRecDepth 100000 in
theorem c_X0_isSet (l : Launch) (g : Gx) (co : Nat) (ck : Nat) (ch : Nat) (cl : Nat) (np : Nat) (sl : Nat) (kd : Nat → Nat) (hg : Nat → Nat) (lk : Nat → Nat) (set : Int32) (hnp : np ≤ 6) : Met l yX0_isSet wsX0_isSet ({ frames := 1, cells := 0, slots := 0, locals := 20 } : Room) (PcR g [.ref co, .int set] (wC g co ck ch cl np sl kd hg lk)) (vp_Si (fun r => (∃ b, b < 2 ^ np ∧ set = nI b ∧ r = nI 1) ∨ (¬ isP (2 ^ np) set ∧ r = nI 0))) 0 0 (fun _ => False) := by
  refine zenterR (cc := cX0_isSet) (maxL := 2) (ret := (some .boolean)) (by decide) rfl (Nat.le_of_ble_eq_true rfl) ?_
  intro P E s mt below meth cd ls hx hb hml hown hts hr hlocks hP hK hl
  have hl : lv_has ls 2 [(0, .ref co), (1, .int set)] := hl
  have S0 : CallFix P mt cd cX0_isSet 2 s [.ref co, .int set].toArray wsX0_isSet RX0 := ⟨hx, hb, hml, hown, hts⟩
  refine lv_iload_n hx hb dX0_isSet_0 rfl (lv_at hl 1 rfl) ?_
  refine lv_if_lt (tgt := 16) hx hb dX0_isSet_1 (by decide) (fun c1 => ?_) (fun c1 => ?_)
  · refine lv_iconst (v := (nI 0)) hx hb dX0_isSet_16 (by decide) ?_
    exact zretI hx hb hr hlocks rfl (Or.inr ⟨fun z => z.1 c1, rfl⟩) dX0_isSet_17
  · refine lv_iload_n hx hb dX0_isSet_4 rfl (lv_at hl 1 rfl) ?_
    refine lv_aload_n hx hb dX0_isSet_5 rfl (lv_at hl 0 rfl) ?_
    have hPc : PP g (wC g co ck ch cl np sl kd hg lk) _ := hP
    refine zcallR (va_runV (As := []) (rest := [.int set]) (b := co) S0 (c_X0_allPasses l g co ck ch cl np sl kd hg lk hnp) (cwV 0 hts gX0_isSet_X0_allPasses rfl rfl rfl (by decide +kernel) ⟨by decide, by decide⟩) (zpreV hK hPc (va_recv hK.1 hPc (ci := 0) (q0 := 0) rfl rfl)) rfl rfl hl.1 rfl (lv_room (Nat.le_of_ble_eq_true rfl)) dX0_isSet_6 ⟨by decide, by decide⟩) (fun r6 h6 => ?_)
    subst h6
    have f1 := (pow_le64 hnp)
    refine lv_icmp_gt (tgt := 16) hx hb dX0_isSet_9 (by decide) (fun c9 => ?_) (fun c9 => ?_)
    · refine lv_iconst (v := (nI 0)) hx hb dX0_isSet_16 (by decide) ?_
      exact zretI hx hb hr hlocks rfl (Or.inr ⟨fun z => isSet_no hnp c9 z, rfl⟩) dX0_isSet_17
    · refine lv_iconst (v := (nI 1)) hx hb dX0_isSet_12 (by decide) ?_
      refine lv_goto (tgt := 17) hx hb dX0_isSet_13 (by decide) ?_
      exact zretI hx hb hr hlocks rfl (isSet_yes hnp c1 c9) dX0_isSet_17

set_option maxHeartbeats 8000000 in
set_option maxRecDepth 100000 in
theorem c_X0_setSlack (l : Launch) (g : Gx) (co : Nat) (ck : Nat) (ch : Nat) (cl : Nat) (np : Nat) (sl : Nat) (kd : Nat → Nat) (hg : Nat → Nat) (lk : Nat → Nat) (v : Nat) : Met l yX0_setSlack wsX0_setSlack ({ frames := 0, cells := 0, slots := 0, locals := 0 } : Room) (PcM g [.ref co, .int (nI v)] (wC g co ck ch cl np sl kd hg lk)) (va_Qv (fun (uu : Unit) => True) (fun (uu : Unit) t => PP g (wC g co ck ch cl np v kd hg lk) t.heap) (inW (wC g co ck ch cl np sl kd hg lk))) 0 0 (inW (wC g co ck ch cl np sl kd hg lk)) := by
  refine zenterM (cc := cX0_setSlack) (maxL := 2) (ret := none) (by decide) rfl (Nat.le_of_ble_eq_true rfl) ?_
  intro P E s mt below meth cd ls hx hb hml hown hts hr hlocks hP hK hD hS hl
  skip
  have hl : lv_has ls 2 [(0, .ref co), (1, .int (nI v))] := hl
  have S0 : CallFix P mt cd cX0_setSlack 2 s [.ref co, .int (nI v)].toArray wsX0_setSlack RX0 := ⟨hx, hb, hml, hown, hts⟩
  refine lv_aload_n hx hb dX0_setSlack_0 rfl (lv_at hl 0 rfl) ?_
  refine lv_iload_n hx hb dX0_setSlack_1 rfl (lv_at hl 1 rfl) ?_
  refine n_put (D := g.1) (ci := 0) (v := .int (nI v)) (ty := .int) (C := RX0) (T := TX0) (N := 5) (ws1 := wC g co ck ch cl np v kd hg lk) hx hb hts (fun _ h => (List.mem_cons_of_mem _ (List.mem_append_right _ h))) tyX0 tyX0_ok nmX0 hown hK.1 hP hD hS 0 rfl rfl 4 (by decide) (hts _ (List.mem_of_getElem? (i := 1) rfl)) (fun _ h9 => h9) rfl (by decide +kernel) rfl rfl (Nat.le_of_ble_eq_true rfl) rfl dX0_setSlack_2 (fun H locs hP hD hS => ?_)
  exact zretMV (w1 := fun uu => wC g co ck ch cl np v kd hg lk) () hx hb hr hlocks hS trivial hP dX0_setSlack_5

set_option maxHeartbeats 8000000 in
set_option maxRecDepth 100000 in
theorem c_X0_kindOf (l : Launch) (g : Gx) (co : Nat) (ck : Nat) (ch : Nat) (cl : Nat) (np : Nat) (sl : Nat) (kd : Nat → Nat) (hg : Nat → Nat) (lk : Nat → Nat) (u : Nat) (hnp : np ≤ 6) (hu : u < np) : Met l yX0_kindOf wsX0_kindOf ({ frames := 1, cells := 0, slots := 0, locals := 21 } : Room) (PcR g [.ref co, .int (nI u)] (wC g co ck ch cl np sl kd hg lk)) (vp_Si (fun r => r = nI (kd u))) 0 0 (fun _ => False) := by
  refine zenterR (cc := cX0_kindOf) (maxL := 2) (ret := (some .int)) (by decide) rfl (Nat.le_of_ble_eq_true rfl) ?_
  intro P E s mt below meth cd ls hx hb hml hown hts hr hlocks hP hK hl
  have hl : lv_has ls 2 [(0, .ref co), (1, .int (nI u))] := hl
  have S0 : CallFix P mt cd cX0_kindOf 2 s [.ref co, .int (nI u)].toArray wsX0_kindOf RX0 := ⟨hx, hb, hml, hown, hts⟩
  refine lv_aload_n hx hb dX0_kindOf_0 rfl (lv_at hl 0 rfl) ?_
  refine lv_iload_n hx hb dX0_kindOf_1 rfl (lv_at hl 1 rfl) ?_
  have hPc : PP g (wC g co ck ch cl np sl kd hg lk) _ := hP
  refine zcallR (va_runV (As := [.int (nI u)]) (rest := []) (b := co) S0 (c_X0_hasPass_in l g co ck ch cl np sl kd hg lk u hnp (by omega)) (cwV 1 hts gX0_kindOf_X0_hasPass rfl rfl rfl (by decide +kernel) ⟨by decide, by decide⟩) (zpreV hK hPc (va_recv hK.1 hPc (ci := 0) (q0 := 0) rfl rfl)) rfl rfl hl.1 rfl (lv_room (Nat.le_of_ble_eq_true rfl)) dX0_kindOf_2 ⟨by decide, by decide⟩) (fun r2 h2 => ?_)
  subst h2
  refine lv_if_eq (tgt := 17) hx hb dX0_kindOf_5 (by decide) (fun c5 => ?_) (fun c5 => ?_)
  · exact absurd c5 (by decide)
  refine lv_aload_n hx hb dX0_kindOf_8 rfl (lv_at hl 0 rfl) ?_
  refine va_get (D := g.1) (ci := 0) (v := .ref ck) (C := RX0) (T := TX0) (N := 5) hx hb hts (fun _ h => (List.mem_cons_of_mem _ (List.mem_append_right _ h))) hown hK.1 hP 0 rfl rfl 0 (by decide) (hts _ (List.mem_of_getElem? (i := 1) rfl)) (fun _ h9 => h9) rfl dX0_kindOf_9 ?_
  refine lv_iload_n hx hb dX0_kindOf_12 rfl (lv_at hl 1 rfl) ?_
  refine n_iald (i := u) (v := (nI (kd u))) hx hb hK.1 hP 1 0 rfl rfl (by omega) (by decide) rfl dX0_kindOf_13 ?_
  refine lv_goto (tgt := 18) hx hb dX0_kindOf_14 (by decide) ?_
  exact zretI hx hb hr hlocks rfl (by rfl) dX0_kindOf_18

set_option maxHeartbeats 8000000 in
set_option maxRecDepth 100000 in
theorem c_X0_setKind (l : Launch) (g : Gx) (co : Nat) (ck : Nat) (ch : Nat) (cl : Nat) (np : Nat) (sl : Nat) (kd : Nat → Nat) (hg : Nat → Nat) (lk : Nat → Nat) (u : Nat) (v : Nat) (hnp : np ≤ 6) (hu : u < np) : Met l yX0_setKind wsX0_setKind ({ frames := 1, cells := 0, slots := 0, locals := 21 } : Room) (PcM g [.ref co, .int (nI u), .int (nI v)] (wC g co ck ch cl np sl kd hg lk)) (va_Qv (fun (uu : Unit) => True) (fun (uu : Unit) t => PP g (wC g co ck ch cl np sl (va_up kd u v) hg lk) t.heap) (inW (wC g co ck ch cl np sl kd hg lk))) 0 0 (inW (wC g co ck ch cl np sl kd hg lk)) := by
  refine zenterM (cc := cX0_setKind) (maxL := 3) (ret := none) (by decide) rfl (Nat.le_of_ble_eq_true rfl) ?_
  intro P E s mt below meth cd ls hx hb hml hown hts hr hlocks hP hK hD hS hl
  skip
  have hl : lv_has ls 3 [(0, .ref co), (1, .int (nI u)), (2, .int (nI v))] := hl
  have S0 : CallFix P mt cd cX0_setKind 3 s [.ref co, .int (nI u), .int (nI v)].toArray wsX0_setKind RX0 := ⟨hx, hb, hml, hown, hts⟩
  refine lv_aload_n hx hb dX0_setKind_0 rfl (lv_at hl 0 rfl) ?_
  refine lv_iload_n hx hb dX0_setKind_1 rfl (lv_at hl 1 rfl) ?_
  have hPc : PP g (wC g co ck ch cl np sl kd hg lk) _ := hP
  refine zcallR (va_runV (As := [.int (nI u)]) (rest := []) (b := co) S0 (c_X0_hasPass_in l g co ck ch cl np sl kd hg lk u hnp (by omega)) (cwV 1 hts gX0_setKind_X0_hasPass rfl rfl rfl (by decide +kernel) ⟨by decide, by decide⟩) (zpreV hK hPc (va_recv hK.1 hPc (ci := 0) (q0 := 0) rfl rfl)) rfl rfl hl.1 rfl (lv_room (Nat.le_of_ble_eq_true rfl)) dX0_setKind_2 ⟨by decide, by decide⟩) (fun r2 h2 => ?_)
  subst h2
  refine lv_if_eq (tgt := 15) hx hb dX0_setKind_5 (by decide) (fun c5 => ?_) (fun c5 => ?_)
  · exact absurd c5 (by decide)
  refine lv_aload_n hx hb dX0_setKind_8 rfl (lv_at hl 0 rfl) ?_
  refine va_get (D := g.1) (ci := 0) (v := .ref ck) (C := RX0) (T := TX0) (N := 5) hx hb hts (fun _ h => (List.mem_cons_of_mem _ (List.mem_append_right _ h))) hown hK.1 hP 0 rfl rfl 0 (by decide) (hts _ (List.mem_of_getElem? (i := 1) rfl)) (fun _ h9 => h9) rfl dX0_setKind_9 ?_
  refine lv_iload_n hx hb dX0_setKind_12 rfl (lv_at hl 1 rfl) ?_
  refine lv_iload_n hx hb dX0_setKind_13 rfl (lv_at hl 2 rfl) ?_
  refine n_iast (i := u) (x := (nI v)) (ws1 := wC g co ck ch cl np sl (va_up kd u v) hg lk) hx hb hK.1 hP hD hS 1 0 rfl rfl (by omega) (by decide) (fun j => nI ((va_up kd u v) j)) (upd_nI _ _ _) rfl dX0_setKind_14 (fun H locs hP hD hS => ?_)
  exact zretMV (w1 := fun uu => wC g co ck ch cl np sl (va_up kd u v) hg lk) () hx hb hr hlocks hS trivial hP dX0_setKind_15

set_option maxHeartbeats 8000000 in
set_option maxRecDepth 100000 in
theorem c_X0_heightOf (l : Launch) (g : Gx) (co : Nat) (ck : Nat) (ch : Nat) (cl : Nat) (np : Nat) (sl : Nat) (kd : Nat → Nat) (hg : Nat → Nat) (lk : Nat → Nat) (u : Nat) (k : Nat) (hnp : np ≤ 6) (hu : u < np) (hk : k < 3) : Met l yX0_heightOf wsX0_heightOf ({ frames := 1, cells := 0, slots := 0, locals := 21 } : Room) (PcR g [.ref co, .int (nI u), .int (nI k)] (wC g co ck ch cl np sl kd hg lk)) (vp_Si (fun r => r = nI (hg (3 * u + k)))) 0 0 (fun _ => False) := by
  refine zenterR (cc := cX0_heightOf) (maxL := 3) (ret := (some .int)) (by decide) rfl (Nat.le_of_ble_eq_true rfl) ?_
  intro P E s mt below meth cd ls hx hb hml hown hts hr hlocks hP hK hl
  have hl : lv_has ls 3 [(0, .ref co), (1, .int (nI u)), (2, .int (nI k))] := hl
  have S0 : CallFix P mt cd cX0_heightOf 3 s [.ref co, .int (nI u), .int (nI k)].toArray wsX0_heightOf RX0 := ⟨hx, hb, hml, hown, hts⟩
  refine lv_aload_n hx hb dX0_heightOf_0 rfl (lv_at hl 0 rfl) ?_
  refine lv_iload_n hx hb dX0_heightOf_1 rfl (lv_at hl 1 rfl) ?_
  have hPc : PP g (wC g co ck ch cl np sl kd hg lk) _ := hP
  refine zcallR (va_runV (As := [.int (nI u)]) (rest := []) (b := co) S0 (c_X0_hasPass_in l g co ck ch cl np sl kd hg lk u hnp (by omega)) (cwV 1 hts gX0_heightOf_X0_hasPass rfl rfl rfl (by decide +kernel) ⟨by decide, by decide⟩) (zpreV hK hPc (va_recv hK.1 hPc (ci := 0) (q0 := 0) rfl rfl)) rfl rfl hl.1 rfl (lv_room (Nat.le_of_ble_eq_true rfl)) dX0_heightOf_2 ⟨by decide, by decide⟩) (fun r2 h2 => ?_)
  subst h2
  refine lv_if_eq (tgt := 30) hx hb dX0_heightOf_5 (by decide) (fun c5 => ?_) (fun c5 => ?_)
  · exact absurd c5 (by decide)
  refine lv_iload_n hx hb dX0_heightOf_8 rfl (lv_at hl 2 rfl) ?_
  refine n_if_lt (a := k) hx hb (by omega) dX0_heightOf_9 30 (by decide) ?_
  refine lv_iload_n hx hb dX0_heightOf_12 rfl (lv_at hl 2 rfl) ?_
  refine lv_iconst (v := (nI 3)) hx hb dX0_heightOf_13 (by decide) ?_
  refine n_icmp_ge (a := k) (b := 3) (tgt := 30) hx hb (by omega) (by omega) dX0_heightOf_14 (by decide) (fun c14 => ?_) (fun c14 => ?_)
  · exact absurd hk (by omega)
  · refine lv_aload_n hx hb dX0_heightOf_17 rfl (lv_at hl 0 rfl) ?_
    refine va_get (D := g.1) (ci := 0) (v := .ref ch) (C := RX0) (T := TX0) (N := 5) hx hb hts (fun _ h => (List.mem_cons_of_mem _ (List.mem_append_right _ h))) hown hK.1 hP 0 rfl rfl 1 (by decide) (hts _ (List.mem_of_getElem? (i := 1) rfl)) (fun _ h9 => h9) rfl dX0_heightOf_18 ?_
    refine lv_iload_n hx hb dX0_heightOf_21 rfl (lv_at hl 1 rfl) ?_
    refine lv_iconst (v := (nI 3)) hx hb dX0_heightOf_22 (by decide) ?_
    refine n_imul (a := u) (b := 3) hx hb dX0_heightOf_23 ?_
    refine lv_iload_n hx hb dX0_heightOf_24 rfl (lv_at hl 2 rfl) ?_
    refine n_iadd (a := (u * 3)) (b := k) hx hb dX0_heightOf_25 ?_
    refine ztopI (nI (3 * u + k)) (by congr 1; omega) ?_
    refine n_iald (i := (3 * u + k)) (v := (nI (hg (3 * u + k)))) hx hb hK.1 hP 2 0 rfl rfl (by omega) (by decide) rfl dX0_heightOf_26 ?_
    refine lv_goto (tgt := 31) hx hb dX0_heightOf_27 (by decide) ?_
    exact zretI hx hb hr hlocks rfl (by rfl) dX0_heightOf_31

set_option maxHeartbeats 8000000 in
set_option maxRecDepth 100000 in
theorem c_X0_setHeight (l : Launch) (g : Gx) (co : Nat) (ck : Nat) (ch : Nat) (cl : Nat) (np : Nat) (sl : Nat) (kd : Nat → Nat) (hg : Nat → Nat) (lk : Nat → Nat) (u : Nat) (k : Nat) (v : Nat) (hnp : np ≤ 6) (hu : u < np) (hk : k < 3) : Met l yX0_setHeight wsX0_setHeight ({ frames := 1, cells := 0, slots := 0, locals := 21 } : Room) (PcM g [.ref co, .int (nI u), .int (nI k), .int (nI v)] (wC g co ck ch cl np sl kd hg lk)) (va_Qv (fun (uu : Unit) => True) (fun (uu : Unit) t => PP g (wC g co ck ch cl np sl kd (va_up hg (3 * u + k) v) lk) t.heap) (inW (wC g co ck ch cl np sl kd hg lk))) 0 0 (inW (wC g co ck ch cl np sl kd hg lk)) := by
  refine zenterM (cc := cX0_setHeight) (maxL := 4) (ret := none) (by decide) rfl (Nat.le_of_ble_eq_true rfl) ?_
  intro P E s mt below meth cd ls hx hb hml hown hts hr hlocks hP hK hD hS hl
  skip
  have hl : lv_has ls 4 [(0, .ref co), (1, .int (nI u)), (2, .int (nI k)), (3, .int (nI v))] := hl
  have S0 : CallFix P mt cd cX0_setHeight 4 s [.ref co, .int (nI u), .int (nI k), .int (nI v)].toArray wsX0_setHeight RX0 := ⟨hx, hb, hml, hown, hts⟩
  refine lv_aload_n hx hb dX0_setHeight_0 rfl (lv_at hl 0 rfl) ?_
  refine lv_iload_n hx hb dX0_setHeight_1 rfl (lv_at hl 1 rfl) ?_
  have hPc : PP g (wC g co ck ch cl np sl kd hg lk) _ := hP
  refine zcallR (va_runV (As := [.int (nI u)]) (rest := []) (b := co) S0 (c_X0_hasPass_in l g co ck ch cl np sl kd hg lk u hnp (by omega)) (cwV 1 hts gX0_setHeight_X0_hasPass rfl rfl rfl (by decide +kernel) ⟨by decide, by decide⟩) (zpreV hK hPc (va_recv hK.1 hPc (ci := 0) (q0 := 0) rfl rfl)) rfl rfl hl.1 rfl (lv_room (Nat.le_of_ble_eq_true rfl)) dX0_setHeight_2 ⟨by decide, by decide⟩) (fun r2 h2 => ?_)
  subst h2
  refine lv_if_eq (tgt := 28) hx hb dX0_setHeight_5 (by decide) (fun c5 => ?_) (fun c5 => ?_)
  · exact absurd c5 (by decide)
  refine lv_iload_n hx hb dX0_setHeight_8 rfl (lv_at hl 2 rfl) ?_
  refine n_if_lt (a := k) hx hb (by omega) dX0_setHeight_9 28 (by decide) ?_
  refine lv_iload_n hx hb dX0_setHeight_12 rfl (lv_at hl 2 rfl) ?_
  refine lv_iconst (v := (nI 3)) hx hb dX0_setHeight_13 (by decide) ?_
  refine n_icmp_ge (a := k) (b := 3) (tgt := 28) hx hb (by omega) (by omega) dX0_setHeight_14 (by decide) (fun c14 => ?_) (fun c14 => ?_)
  · exact absurd hk (by omega)
  · refine lv_aload_n hx hb dX0_setHeight_17 rfl (lv_at hl 0 rfl) ?_
    refine va_get (D := g.1) (ci := 0) (v := .ref ch) (C := RX0) (T := TX0) (N := 5) hx hb hts (fun _ h => (List.mem_cons_of_mem _ (List.mem_append_right _ h))) hown hK.1 hP 0 rfl rfl 1 (by decide) (hts _ (List.mem_of_getElem? (i := 1) rfl)) (fun _ h9 => h9) rfl dX0_setHeight_18 ?_
    refine lv_iload_n hx hb dX0_setHeight_21 rfl (lv_at hl 1 rfl) ?_
    refine lv_iconst (v := (nI 3)) hx hb dX0_setHeight_22 (by decide) ?_
    refine n_imul (a := u) (b := 3) hx hb dX0_setHeight_23 ?_
    refine lv_iload_n hx hb dX0_setHeight_24 rfl (lv_at hl 2 rfl) ?_
    refine n_iadd (a := (u * 3)) (b := k) hx hb dX0_setHeight_25 ?_
    refine ztopI (nI (3 * u + k)) (by congr 1; omega) ?_
    refine lv_iload_n hx hb dX0_setHeight_26 rfl (lv_at hl 3 rfl) ?_
    refine n_iast (i := (3 * u + k)) (x := (nI v)) (ws1 := wC g co ck ch cl np sl kd (va_up hg (3 * u + k) v) lk) hx hb hK.1 hP hD hS 2 0 rfl rfl (by omega) (by decide) (fun j => nI ((va_up hg (3 * u + k) v) j)) (upd_nI _ _ _) rfl dX0_setHeight_27 (fun H locs hP hD hS => ?_)
    exact zretMV (w1 := fun uu => wC g co ck ch cl np sl kd (va_up hg (3 * u + k) v) lk) () hx hb hr hlocks hS trivial hP dX0_setHeight_28

set_option maxHeartbeats 8000000 in
set_option maxRecDepth 100000 in
theorem c_X0_wear (l : Launch) (g : Gx) (k : Nat) (m : Nat) (hk : k ≤ 2) : Met l yX0_wear wsX0_wear ({ frames := 0, cells := 0, slots := 0, locals := 0 } : Room) (PcR g [.int (nI k), .int (nI m)] (([] : va_W))) (vp_Si (fun r => r = nI (wr k m))) 0 0 (fun _ => False) := by
  refine zenterR (cc := cX0_wear) (maxL := 2) (ret := (some .int)) (by decide) rfl (Nat.le_of_ble_eq_true rfl) ?_
  intro P E s mt below meth cd ls hx hb hml hown hts hr hlocks hP hK hl
  have hl : lv_has ls 2 [(0, .int (nI k)), (1, .int (nI m))] := hl
  have S0 : CallFix P mt cd cX0_wear 2 s [.int (nI k), .int (nI m)].toArray wsX0_wear RX0 := ⟨hx, hb, hml, hown, hts⟩
  refine lv_iload_n hx hb dX0_wear_0 rfl (lv_at hl 0 rfl) ?_
  by_cases c1_1 : k = 1
  · refine ztopI (nI 1) (by rw [c1_1]) ?_
    refine lv_lookup (off := 31) (tgt := 32) hx hb dX0_wear_1 (by decide) (by decide) (by decide) ?_
    refine lv_iload_n hx hb dX0_wear_32 rfl (lv_at hl 1 rfl) ?_
    refine lv_iconst (v := (nI 1)) hx hb dX0_wear_33 (by decide) ?_
    refine n_iadd (a := m) (b := 1) hx hb dX0_wear_34 ?_
    exact zretI hx hb hr hlocks rfl (by rw [c1_1]; rfl) dX0_wear_35
  by_cases c1_2 : k = 2
  · refine ztopI (nI 2) (by rw [c1_2]) ?_
    refine lv_lookup (off := 27) (tgt := 28) hx hb dX0_wear_1 (by decide) (by decide) (by decide) ?_
    refine lv_iconst (v := (nI 2)) hx hb dX0_wear_28 (by decide) ?_
    refine lv_iload_n hx hb dX0_wear_29 rfl (lv_at hl 1 rfl) ?_
    refine n_imul (a := 2) (b := m) hx hb dX0_wear_30 ?_
    exact zretI hx hb hr hlocks rfl (by rw [c1_2]; rfl) dX0_wear_31
  refine lv_lookup (off := 35) (tgt := 36) hx hb dX0_wear_1 (by decide) (by rw [lv_osw (k := nI 1) (nI_neI (by omega) (by decide) c1_1) (by decide)]; rw [lv_osw (k := nI 2) (nI_neI (by omega) (by decide) c1_2) (by decide)]; rfl) (by decide) ?_
  refine lv_iload_n hx hb dX0_wear_36 rfl (lv_at hl 1 rfl) ?_
  exact zretI hx hb hr hlocks rfl (by rw [show k = 0 by omega]; rfl) dX0_wear_37
end
section
set_option maxHeartbeats 8000000 in
set_option maxRecDepth 100000 in
theorem c_X0_lowerHeight (l : Launch) (g : Gx) (co : Nat) (ck : Nat) (ch : Nat) (cl : Nat) (np : Nat) (sl : Nat) (kd : Nat → Nat) (hg : Nat → Nat) (lk : Nat → Nat) (u : Nat) (k : Nat) (m : Nat) (hnp : np ≤ 6) (hkd : ∀ j, kd j ≤ 2) (hhg : ∀ j, hg j ≤ 9) (hu : u < np) (hk : k < 3) (hm : m ≤ 9) : Met l yX0_lowerHeight wsX0_lowerHeight ({ frames := 2, cells := 0, slots := 0, locals := 43 } : Room) (PcR g [.ref co, .int (nI u), .int (nI k), .int (nI m)] (wC g co ck ch cl np sl kd hg lk)) (vp_Si (fun r => r = nI (lo kd hg u k m))) 0 0 (fun _ => False) := by
  refine zenterR (cc := cX0_lowerHeight) (maxL := 4) (ret := (some .int)) (by decide) rfl (Nat.le_of_ble_eq_true rfl) ?_
  intro P E s mt below meth cd ls hx hb hml hown hts hr hlocks hP hK hl
  have hl : lv_has ls 4 [(0, .ref co), (1, .int (nI u)), (2, .int (nI k)), (3, .int (nI m))] := hl
  have S0 : CallFix P mt cd cX0_lowerHeight 4 s [.ref co, .int (nI u), .int (nI k), .int (nI m)].toArray wsX0_lowerHeight RX0 := ⟨hx, hb, hml, hown, hts⟩
  refine lv_aload_n hx hb dX0_lowerHeight_0 rfl (lv_at hl 0 rfl) ?_
  refine lv_iload_n hx hb dX0_lowerHeight_1 rfl (lv_at hl 1 rfl) ?_
  refine lv_iload_n hx hb dX0_lowerHeight_2 rfl (lv_at hl 2 rfl) ?_
  have hPc : PP g (wC g co ck ch cl np sl kd hg lk) _ := hP
  refine zcallR (va_runV (As := [.int (nI u), .int (nI k)]) (rest := []) (b := co) S0 (c_X0_heightOf l g co ck ch cl np sl kd hg lk u k hnp (by omega) (by omega)) (cwV 2 hts gX0_lowerHeight_X0_heightOf rfl rfl rfl (by decide +kernel) ⟨by decide, by decide⟩) (zpreV hK hPc (va_recv hK.1 hPc (ci := 0) (q0 := 0) rfl rfl)) rfl rfl hl.1 rfl (lv_room (Nat.le_of_ble_eq_true rfl)) dX0_lowerHeight_3 ⟨by decide, by decide⟩) (fun r3 h3 => ?_)
  subst h3
  refine lv_aload_n hx hb dX0_lowerHeight_6 rfl (lv_at hl 0 rfl) ?_
  refine lv_iload_n hx hb dX0_lowerHeight_7 rfl (lv_at hl 1 rfl) ?_
  have hPc : PP g (wC g co ck ch cl np sl kd hg lk) _ := hP
  refine zcallR (va_runV (As := [.int (nI u)]) (rest := [.int (nI (hg (3 * u + k)))]) (b := co) S0 (c_X0_kindOf l g co ck ch cl np sl kd hg lk u hnp (by omega)) (cwV 1 hts gX0_lowerHeight_X0_kindOf rfl rfl rfl (by decide +kernel) ⟨by decide, by decide⟩) (zpreV hK hPc (va_recv hK.1 hPc (ci := 0) (q0 := 0) rfl rfl)) rfl rfl hl.1 rfl (lv_room (Nat.le_of_ble_eq_true rfl)) dX0_lowerHeight_8 ⟨by decide, by decide⟩) (fun r8 h8 => ?_)
  subst h8
  refine lv_iload_n hx hb dX0_lowerHeight_11 rfl (lv_at hl 3 rfl) ?_
  refine zcallR (va_runS (As := [.int (nI (kd u)), .int (nI m)]) (rest := [.int (nI (hg (3 * u + k)))]) S0 (c_X0_wear l g (kd u) m (hkd u)) (va_cwS 2 hts gX0_lowerHeight_X0_wear rfl rfl rfl (by decide +kernel) ⟨by decide, by decide⟩) (zpreS hK (P_nil _)) rfl rfl hl.1 rfl (lv_room (Nat.le_of_ble_eq_true rfl)) dX0_lowerHeight_12 ⟨by decide, by decide⟩) (fun r12 h12 => ?_)
  subst h12
  refine lv_isub hx hb dX0_lowerHeight_15 ?_
  refine lv_iconst (v := (nI 0)) hx hb dX0_lowerHeight_16 (by decide) ?_
  refine va_mmax hx hb (hml.trans hl.1.symm) hown (hts _ (List.mem_of_getElem? (i := 1) rfl)) (hts _ (List.mem_of_getElem? (i := 2) rfl)) (hts _ (List.mem_of_getElem? (i := 3) rfl)) (hts _ (List.mem_of_getElem? (i := 4) rfl)) (Nat.le_of_ble_eq_true rfl) (Nat.le_of_ble_eq_true rfl) (Nat.zero_le _) (Nat.zero_le _) dX0_lowerHeight_17 ?_
  refine ztopI (nI (lo kd hg u k m)) (mx_sub (by have := hhg (3 * u + k); omega) (by have := wr_le (k := kd u) hm; omega)) ?_
  exact zretI hx hb hr hlocks rfl (by rfl) dX0_lowerHeight_20

set_option maxHeartbeats 8000000 in
set_option maxRecDepth 100000 in
theorem c_X0_apart (l : Launch) (g : Gx) (co : Nat) (ck : Nat) (ch : Nat) (cl : Nat) (np : Nat) (sl : Nat) (kd : Nat → Nat) (hg : Nat → Nat) (lk : Nat → Nat) (u : Nat) (q : Nat) (m : Nat) (hnp : np ≤ 6) (hkd : ∀ j, kd j ≤ 2) (hhg : ∀ j, hg j ≤ 9) (hu : u < np) (hq : q < np) (hm : m ≤ 9) : Met l yX0_apart wsX0_apart ({ frames := 2, cells := 0, slots := 0, locals := 43 } : Room) (PcR g [.ref co, .int (nI u), .int (nI q), .int (nI m)] (wC g co ck ch cl np sl kd hg lk)) (vp_Si (fun r => r = nI (ap kd hg u q m))) 0 0 (fun _ => False) := by
  refine zenterR (cc := cX0_apart) (maxL := 8) (ret := (some .int)) (by decide) rfl (Nat.le_of_ble_eq_true rfl) ?_
  intro P E s mt below meth cd ls hx hb hml hown hts hr hlocks hP hK hl
  have hl : lv_has ls 8 [(0, .ref co), (1, .int (nI u)), (2, .int (nI q)), (3, .int (nI m))] := hl
  have S0 : CallFix P mt cd cX0_apart 8 s [.ref co, .int (nI u), .int (nI q), .int (nI m)].toArray wsX0_apart RX0 := ⟨hx, hb, hml, hown, hts⟩
  refine lv_aload_n hx hb dX0_apart_0 rfl (lv_at hl 0 rfl) ?_
  refine lv_iload_n hx hb dX0_apart_1 rfl (lv_at hl 2 rfl) ?_
  have hPc : PP g (wC g co ck ch cl np sl kd hg lk) _ := hP
  refine zcallR (va_runV (As := [.int (nI q)]) (rest := []) (b := co) S0 (c_X0_kindOf l g co ck ch cl np sl kd hg lk q hnp hq) (cwV 1 hts gX0_apart_X0_kindOf rfl rfl rfl (by decide +kernel) ⟨by decide, by decide⟩) (zpreV hK hPc (va_recv hK.1 hPc (ci := 0) (q0 := 0) rfl rfl)) rfl rfl hl.1 rfl (lv_room (Nat.le_of_ble_eq_true rfl)) dX0_apart_2 ⟨by decide, by decide⟩) (fun r2 h2 => ?_)
  subst h2
  refine lv_iload_n hx hb dX0_apart_5 rfl (lv_at hl 3 rfl) ?_
  refine zcallR (va_runS (As := [.int (nI (kd q)), .int (nI m)]) (rest := []) S0 (c_X0_wear l g (kd q) m (hkd q)) (va_cwS 2 hts gX0_apart_X0_wear rfl rfl rfl (by decide +kernel) ⟨by decide, by decide⟩) (zpreS hK (P_nil _)) rfl rfl hl.1 rfl (lv_room (Nat.le_of_ble_eq_true rfl)) dX0_apart_6 ⟨by decide, by decide⟩) (fun r6 h6 => ?_)
  subst h6
  refine lv_istore (lv' := [(4, .int (nI (wr (kd q) m))), (0, .ref co), (1, .int (nI u)), (2, .int (nI q)), (3, .int (nI m))]) hx hb dX0_apart_9 hl (by decide) rfl (fun ls hl => ?_)
  refine lv_iconst (v := (nI 0)) hx hb dX0_apart_11 (by decide) ?_
  refine lv_istore (lv' := [(5, .int (nI 0)), (4, .int (nI (wr (kd q) m))), (0, .ref co), (1, .int (nI u)), (2, .int (nI q)), (3, .int (nI m))]) hx hb dX0_apart_12 hl (by decide) rfl (fun ls hl => ?_)
  refine lv_iconst (v := (nI 0)) hx hb dX0_apart_14 (by decide) ?_
  refine lv_istore (lv' := [(6, .int (nI 0)), (5, .int (nI 0)), (4, .int (nI (wr (kd q) m))), (0, .ref co), (1, .int (nI u)), (2, .int (nI q)), (3, .int (nI m))]) hx hb dX0_apart_15 hl (by decide) rfl (fun ls hl => ?_)
  have lp17 : ∀ (nn : Nat) (i : Nat) (ls : Array Slot), (3 - i) < nn → (i ≤ 3) → lv_has ls 8 [(0, .ref co), (1, .int (nI u)), (2, .int (nI q)), (3, .int (nI m)), (4, .int (nI (wr (kd q) m))), (5, .int (nI (sumk (apk kd hg u q m) i))), (6, .int (nI i))] → W P l E ({ frames := 2, cells := 0, slots := 0, locals := 43 } : Room) s mt [.ref co, .int (nI u), .int (nI q), .int (nI m)].toArray below meth cd s.heap [] 0 0 (MQ below (vp_Si (fun r => r = nI (ap kd hg u q m))) [.ref co, .int (nI u), .int (nI q), .int (nI m)].toArray s 0 0 (fun _ => False)) (F0 mt 17 ls []) := by
    intro nn
    induction nn with
    | zero => intro i ls hmu; exact absurd hmu (Nat.not_lt_zero _)
    | succ nn ih =>
      intro i ls hmu hi hl
      refine lv_iload hx hb dX0_apart_17 (lv_at hl 6 rfl) ?_
      refine lv_iconst (v := (nI 3)) hx hb dX0_apart_19 (by decide) ?_
      refine n_icmp_ge (a := i) (b := 3) (tgt := 63) hx hb (by omega) (by omega) dX0_apart_20 (by decide) (fun c20 => ?_) (fun c20 => ?_)
      · refine lv_iload hx hb dX0_apart_63 (lv_at hl 5 rfl) ?_
        exact zretI hx hb hr hlocks rfl (by rw [show i = 3 by omega]; rfl) dX0_apart_65
      · refine lv_aload_n hx hb dX0_apart_23 rfl (lv_at hl 0 rfl) ?_
        refine lv_iload_n hx hb dX0_apart_24 rfl (lv_at hl 2 rfl) ?_
        refine lv_iload hx hb dX0_apart_25 (lv_at hl 6 rfl) ?_
        have hPc : PP g (wC g co ck ch cl np sl kd hg lk) _ := hP
        refine zcallR (va_runV (As := [.int (nI q), .int (nI i)]) (rest := []) (b := co) S0 (c_X0_heightOf l g co ck ch cl np sl kd hg lk q i hnp hq (by omega)) (cwV 2 hts gX0_apart_X0_heightOf rfl rfl rfl (by decide +kernel) ⟨by decide, by decide⟩) (zpreV hK hPc (va_recv hK.1 hPc (ci := 0) (q0 := 0) rfl rfl)) rfl rfl hl.1 rfl (lv_room (Nat.le_of_ble_eq_true rfl)) dX0_apart_27 ⟨by decide, by decide⟩) (fun r27 h27 => ?_)
        subst h27
        refine lv_iload hx hb dX0_apart_30 (lv_at hl 4 rfl) ?_
        refine lv_isub hx hb dX0_apart_32 ?_
        refine lv_iconst (v := (nI 0)) hx hb dX0_apart_33 (by decide) ?_
        refine va_mmax hx hb (hml.trans hl.1.symm) hown (hts _ (List.mem_of_getElem? (i := 1) rfl)) (hts _ (List.mem_of_getElem? (i := 2) rfl)) (hts _ (List.mem_of_getElem? (i := 3) rfl)) (hts _ (List.mem_of_getElem? (i := 4) rfl)) (Nat.le_of_ble_eq_true rfl) (Nat.le_of_ble_eq_true rfl) (Nat.zero_le _) (Nat.zero_le _) dX0_apart_34 ?_
        refine ztopI (nI (lo kd hg q i m)) (mx_sub (by have := hhg (3 * q + i); omega) (by have := wr_le (k := kd q) hm; omega)) ?_
        refine lv_istore (lv' := [(7, .int (nI (lo kd hg q i m))), (0, .ref co), (1, .int (nI u)), (2, .int (nI q)), (3, .int (nI m)), (4, .int (nI (wr (kd q) m))), (5, .int (nI (sumk (apk kd hg u q m) i))), (6, .int (nI i))]) hx hb dX0_apart_37 hl (by decide) rfl (fun ls hl => ?_)
        refine lv_iload hx hb dX0_apart_39 (lv_at hl 6 rfl) ?_
        refine lv_aload_n hx hb dX0_apart_41 rfl (lv_at hl 1 rfl) ?_
        refine lv_iload_n hx hb dX0_apart_42 rfl (lv_at hl 2 rfl) ?_
        refine lv_iload hx hb dX0_apart_43 (lv_at hl 7 rfl) ?_
        have hPc : PP g (wC g co ck ch cl np sl kd hg lk) _ := hP
        refine zcallR (va_runV (As := [.int (nI u), .int (nI i)]) (rest := [.int (nI (sumk (apk kd hg u q m) i))]) (b := co) S0 (c_X0_heightOf l g co ck ch cl np sl kd hg lk u i hnp hu (by omega)) (cwV 2 hts gX0_apart_X0_heightOf rfl rfl rfl (by decide +kernel) ⟨by decide, by decide⟩) (zpreV hK hPc (va_recv hK.1 hPc (ci := 0) (q0 := 0) rfl rfl)) rfl rfl hl.1 rfl (lv_room (Nat.le_of_ble_eq_true rfl)) dX0_apart_45 ⟨by decide, by decide⟩) (fun r45 h45 => ?_)
        subst h45
        refine lv_iload hx hb dX0_apart_48 (lv_at hl 0 rfl) ?_
        refine lv_isub hx hb dX0_apart_50 ?_
        refine va_mabs hx hb (hml.trans hl.1.symm) hown (hts _ (List.mem_of_getElem? (i := 5) rfl)) (hts _ (List.mem_of_getElem? (i := 6) rfl)) (hts _ (List.mem_of_getElem? (i := 3) rfl)) (hts _ (List.mem_of_getElem? (i := 7) rfl)) (Nat.le_of_ble_eq_true rfl) (Nat.le_of_ble_eq_true rfl) (Nat.zero_le _) (Nat.zero_le _) dX0_apart_51 ?_
        refine ztopI (nI (apk kd hg u q m i)) (abs_sub (by have := hhg (3 * u + i); omega) (by have := lo_le kd hhg q i m; omega)) ?_
        refine n_iadd (a := (sumk (apk kd hg u q m) i)) (b := (apk kd hg u q m i)) hx hb dX0_apart_54 ?_
        refine lv_istore (lv' := [(5, .int (nI ((sumk (apk kd hg u q m) i) + (apk kd hg u q m i)))), (7, .int (nI (lo kd hg q i m))), (0, .ref co), (1, .int (nI u)), (2, .int (nI q)), (3, .int (nI m)), (4, .int (nI (wr (kd q) m))), (6, .int (nI i))]) hx hb dX0_apart_55 hl (by decide) rfl (fun ls hl => ?_)
        refine n_iinc (a := i) (d := 1) (lv' := [(6, .int (nI (i + 1))), (5, .int (nI ((sumk (apk kd hg u q m) i) + (apk kd hg u q m i)))), (7, .int (nI (lo kd hg q i m))), (0, .ref co), (1, .int (nI u)), (2, .int (nI q)), (3, .int (nI m)), (4, .int (nI (wr (kd q) m)))]) hx hb dX0_apart_57 hl (k := 7) rfl (by decide) (by decide) rfl (fun ls hl => ?_)
        refine lv_goto (tgt := 17) hx hb dX0_apart_60 (by decide) ?_
        exact ih (i + 1)  ls (by omega) (by omega) (lv_sub hl [3, 4, 5, 6, 7, 1, 0] rfl)
  exact lp17 (3 - 0 + 1) 0  ls (Nat.lt_succ_self _) (by omega) (lv_sub hl [3, 4, 5, 6, 2, 1, 0] rfl)

set_option maxHeartbeats 8000000 in
set_option maxRecDepth 100000 in
theorem c_X0_doFit (l : Launch) (g : Gx) (co : Nat) (ck : Nat) (ch : Nat) (cl : Nat) (np : Nat) (sl : Nat) (kd : Nat → Nat) (hg : Nat → Nat) (lk : Nat → Nat) (u : Nat) (q : Nat) (m : Nat) (hnp : np ≤ 6) (hsl : sl ≤ 9) (hkd : ∀ j, kd j ≤ 2) (hhg : ∀ j, hg j ≤ 9) (hu : u < np) (hq : q < np) (hm : m ≤ 9) : Met l yX0_doFit wsX0_doFit ({ frames := 3, cells := 0, slots := 0, locals := 70 } : Room) (PcR g [.ref co, .int (nI u), .int (nI q), .int (nI m)] (wC g co ck ch cl np sl kd hg lk)) (vp_Si (fun r => r = nI (fitb sl kd hg u q m))) 0 0 (fun _ => False) := by
  refine zenterR (cc := cX0_doFit) (maxL := 4) (ret := (some .boolean)) (by decide) rfl (Nat.le_of_ble_eq_true rfl) ?_
  intro P E s mt below meth cd ls hx hb hml hown hts hr hlocks hP hK hl
  have hl : lv_has ls 4 [(0, .ref co), (1, .int (nI u)), (2, .int (nI q)), (3, .int (nI m))] := hl
  have S0 : CallFix P mt cd cX0_doFit 4 s [.ref co, .int (nI u), .int (nI q), .int (nI m)].toArray wsX0_doFit RX0 := ⟨hx, hb, hml, hown, hts⟩
  refine lv_aload_n hx hb dX0_doFit_0 rfl (lv_at hl 0 rfl) ?_
  refine lv_iload_n hx hb dX0_doFit_1 rfl (lv_at hl 1 rfl) ?_
  refine lv_iload_n hx hb dX0_doFit_2 rfl (lv_at hl 2 rfl) ?_
  refine lv_iload_n hx hb dX0_doFit_3 rfl (lv_at hl 3 rfl) ?_
  have hPc : PP g (wC g co ck ch cl np sl kd hg lk) _ := hP
  refine zcallR (va_runV (As := [.int (nI u), .int (nI q), .int (nI m)]) (rest := []) (b := co) S0 (c_X0_apart l g co ck ch cl np sl kd hg lk u q m hnp hkd hhg (by omega) (by omega) (by omega)) (cwV 3 hts gX0_doFit_X0_apart rfl rfl rfl (by decide +kernel) ⟨by decide, by decide⟩) (zpreV hK hPc (va_recv hK.1 hPc (ci := 0) (q0 := 0) rfl rfl)) rfl rfl hl.1 rfl (lv_room (Nat.le_of_ble_eq_true rfl)) dX0_doFit_4 ⟨by decide, by decide⟩) (fun r4 h4 => ?_)
  subst h4
  have f1 := ap_le kd hhg u q m
  refine lv_aload_n hx hb dX0_doFit_7 rfl (lv_at hl 0 rfl) ?_
  refine va_get (D := g.1) (ci := 0) (v := .int (nI sl)) (C := RX0) (T := TX0) (N := 5) hx hb hts (fun _ h => (List.mem_cons_of_mem _ (List.mem_append_right _ h))) hown hK.1 hP 0 rfl rfl 4 (by decide) (hts _ (List.mem_of_getElem? (i := 1) rfl)) (fun _ h9 => h9) rfl dX0_doFit_8 ?_
  refine n_icmp_gt (a := (ap kd hg u q m)) (b := sl) (tgt := 18) hx hb (by omega) (by omega) dX0_doFit_11 (by decide) (fun c11 => ?_) (fun c11 => ?_)
  · refine lv_iconst (v := (nI 0)) hx hb dX0_doFit_18 (by decide) ?_
    refine ztopI (nI (fitb sl kd hg u q m)) (by rw [fitb, b01_f (by omega)]) ?_
    exact zretI hx hb hr hlocks (nar_b (b01_le _)) (by rfl) dX0_doFit_19
  · refine lv_iconst (v := (nI 1)) hx hb dX0_doFit_14 (by decide) ?_
    refine ztopI (nI (fitb sl kd hg u q m)) (by rw [fitb, b01_t c11]) ?_
    refine lv_goto (tgt := 19) hx hb dX0_doFit_15 (by decide) ?_
    exact zretI hx hb hr hlocks (nar_b (b01_le _)) (by rfl) dX0_doFit_19

set_option maxHeartbeats 8000000 in
set_option maxRecDepth 100000 in
theorem c_X0_fitting (l : Launch) (g : Gx) (co : Nat) (ck : Nat) (ch : Nat) (cl : Nat) (np : Nat) (sl : Nat) (kd : Nat → Nat) (hg : Nat → Nat) (lk : Nat → Nat) (q : Nat) (m : Nat) (hnp : np ≤ 6) (hsl : sl ≤ 9) (hkd : ∀ j, kd j ≤ 2) (hhg : ∀ j, hg j ≤ 9) (hq : q < np) (hm : m ≤ 9) : Met l yX0_fitting wsX0_fitting ({ frames := 3, cells := 0, slots := 0, locals := 70 } : Room) (PcR g [.ref co, .int (nI q), .int (nI m)] (wC g co ck ch cl np sl kd hg lk)) (vp_Si (fun r => r = nI (fset np sl kd hg q m))) 0 0 (fun _ => False) := by
  refine zenterR (cc := cX0_fitting) (maxL := 5) (ret := (some .int)) (by decide) rfl (Nat.le_of_ble_eq_true rfl) ?_
  intro P E s mt below meth cd ls hx hb hml hown hts hr hlocks hP hK hl
  have hl : lv_has ls 5 [(0, .ref co), (1, .int (nI q)), (2, .int (nI m))] := hl
  have S0 : CallFix P mt cd cX0_fitting 5 s [.ref co, .int (nI q), .int (nI m)].toArray wsX0_fitting RX0 := ⟨hx, hb, hml, hown, hts⟩
  refine lv_iconst (v := (nI 0)) hx hb dX0_fitting_0 (by decide) ?_
  refine lv_istore_n (lv' := [(3, .int (nI 0)), (0, .ref co), (1, .int (nI q)), (2, .int (nI m))]) hx hb dX0_fitting_1 rfl hl (by decide) rfl (fun ls hl => ?_)
  refine lv_iconst (v := (nI 0)) hx hb dX0_fitting_2 (by decide) ?_
  refine lv_istore (lv' := [(4, .int (nI 0)), (3, .int (nI 0)), (0, .ref co), (1, .int (nI q)), (2, .int (nI m))]) hx hb dX0_fitting_3 hl (by decide) rfl (fun ls hl => ?_)
  have lp5 : ∀ (nn : Nat) (i : Nat) (ls : Array Slot), (np - i) < nn → (i ≤ np) → lv_has ls 5 [(0, .ref co), (1, .int (nI q)), (2, .int (nI m)), (3, .int (nI (bset (fun p => fitb sl kd hg p q m) i))), (4, .int (nI i))] → W P l E ({ frames := 3, cells := 0, slots := 0, locals := 70 } : Room) s mt [.ref co, .int (nI q), .int (nI m)].toArray below meth cd s.heap [] 0 0 (MQ below (vp_Si (fun r => r = nI (fset np sl kd hg q m))) [.ref co, .int (nI q), .int (nI m)].toArray s 0 0 (fun _ => False)) (F0 mt 5 ls []) := by
    intro nn
    induction nn with
    | zero => intro i ls hmu; exact absurd hmu (Nat.not_lt_zero _)
    | succ nn ih =>
      intro i ls hmu hi hl
      refine lv_iload hx hb dX0_fitting_5 (lv_at hl 4 rfl) ?_
      refine lv_aload_n hx hb dX0_fitting_7 rfl (lv_at hl 0 rfl) ?_
      refine va_get (D := g.1) (ci := 0) (v := .int (nI np)) (C := RX0) (T := TX0) (N := 5) hx hb hts (fun _ h => (List.mem_cons_of_mem _ (List.mem_append_right _ h))) hown hK.1 hP 0 rfl rfl 3 (by decide) (hts _ (List.mem_of_getElem? (i := 1) rfl)) (fun _ h9 => h9) rfl dX0_fitting_8 ?_
      refine n_icmp_ge (a := i) (b := np) (tgt := 48) hx hb (by omega) (by omega) dX0_fitting_11 (by decide) (fun c11 => ?_) (fun c11 => ?_)
      · refine lv_iload_n hx hb dX0_fitting_48 rfl (lv_at hl 3 rfl) ?_
        exact zretI hx hb hr hlocks rfl (by rw [show i = np by omega]; rfl) dX0_fitting_49
      · refine lv_iload_n hx hb dX0_fitting_14 rfl (lv_at hl 3 rfl) ?_
        refine lv_aload_n hx hb dX0_fitting_15 rfl (lv_at hl 0 rfl) ?_
        refine lv_iload hx hb dX0_fitting_16 (lv_at hl 4 rfl) ?_
        refine lv_iload_n hx hb dX0_fitting_18 rfl (lv_at hl 1 rfl) ?_
        refine lv_iload_n hx hb dX0_fitting_19 rfl (lv_at hl 2 rfl) ?_
        have hPc : PP g (wC g co ck ch cl np sl kd hg lk) _ := hP
        refine zcallR (va_runV (As := [.int (nI i), .int (nI q), .int (nI m)]) (rest := [.int (nI (bset (fun p => fitb sl kd hg p q m) i))]) (b := co) S0 (c_X0_apart l g co ck ch cl np sl kd hg lk i q m hnp hkd hhg (by omega) (by omega) (by omega)) (cwV 3 hts gX0_fitting_X0_apart rfl rfl rfl (by decide +kernel) ⟨by decide, by decide⟩) (zpreV hK hPc (va_recv hK.1 hPc (ci := 0) (q0 := 0) rfl rfl)) rfl rfl hl.1 rfl (lv_room (Nat.le_of_ble_eq_true rfl)) dX0_fitting_20 ⟨by decide, by decide⟩) (fun r20 h20 => ?_)
        subst h20
        have f1 := ap_le kd hhg i q m
        refine lv_aload_n hx hb dX0_fitting_23 rfl (lv_at hl 0 rfl) ?_
        refine va_get (D := g.1) (ci := 0) (v := .int (nI sl)) (C := RX0) (T := TX0) (N := 5) hx hb hts (fun _ h => (List.mem_cons_of_mem _ (List.mem_append_right _ h))) hown hK.1 hP 0 rfl rfl 4 (by decide) (hts _ (List.mem_of_getElem? (i := 2) rfl)) (fun _ h9 => h9) rfl dX0_fitting_24 ?_
        refine n_icmp_gt (a := (ap kd hg i q m)) (b := sl) (tgt := 34) hx hb (by omega) (by omega) dX0_fitting_27 (by decide) (fun c27 => ?_) (fun c27 => ?_)
        · refine lv_iconst (v := (nI 0)) hx hb dX0_fitting_34 (by decide) ?_
          refine ztopI (nI (fitb sl kd hg i q m)) (by rw [fitb, b01_f (by omega)]) ?_
          refine lv_iload hx hb dX0_fitting_35 (lv_at hl 4 rfl) ?_
          refine zcallR (va_runSN (As := [.int (nI (fitb sl kd hg i q m)), .int (nI i)]) (rest := [.int (nI (bset (fun p => fitb sl kd hg p q m) i))]) S0 (c_X4_bitIf l g (fitb sl kd hg i q m) i (b01_le _) (by omega)) ⟨va_cnB 2 hts gX0_fitting_X4_bitIf_n81 rfl rfl rfl hK.2.2.2.2.2.1 (hts _ (List.mem_of_getElem? (i := 33) rfl)) (by decide +kernel) ⟨by decide, by decide⟩, (hts _ (List.mem_of_getElem? (i := 32) rfl)), trivial⟩ (zpreS hK (P_nil _)) rfl rfl hl.1 rfl (lv_room (Nat.le_of_ble_eq_true rfl)) dX0_fitting_37 ⟨by decide, by decide⟩) (fun r37 h37 => ?_)
          subst h37
          have f2 := bt_ltE (fitb sl kd hg i q m) i
          refine n_ior (a := (bset (fun p => fitb sl kd hg p q m) i)) (b := (bt (fitb sl kd hg i q m) i)) hx hb dX0_fitting_40 ?_
          refine lv_istore_n (lv' := [(3, .int (nI ((bset (fun p => fitb sl kd hg p q m) i) ||| (bt (fitb sl kd hg i q m) i)))), (0, .ref co), (1, .int (nI q)), (2, .int (nI m)), (4, .int (nI i))]) hx hb dX0_fitting_41 rfl hl (by decide) rfl (fun ls hl => ?_)
          refine n_iinc (a := i) (d := 1) (lv' := [(4, .int (nI (i + 1))), (3, .int (nI ((bset (fun p => fitb sl kd hg p q m) i) ||| (bt (fitb sl kd hg i q m) i)))), (0, .ref co), (1, .int (nI q)), (2, .int (nI m))]) hx hb dX0_fitting_42 hl (k := 4) rfl (by decide) (by decide) rfl (fun ls hl => ?_)
          refine lv_goto (tgt := 5) hx hb dX0_fitting_45 (by decide) ?_
          exact ih (i + 1)  ls (by omega) (by omega) (lv_sub hl [2, 3, 4, 1, 0] rfl)
        · refine lv_iconst (v := (nI 1)) hx hb dX0_fitting_30 (by decide) ?_
          refine ztopI (nI (fitb sl kd hg i q m)) (by rw [fitb, b01_t c27]) ?_
          refine lv_goto (tgt := 35) hx hb dX0_fitting_31 (by decide) ?_
          refine lv_iload hx hb dX0_fitting_35 (lv_at hl 4 rfl) ?_
          refine zcallR (va_runSN (As := [.int (nI (fitb sl kd hg i q m)), .int (nI i)]) (rest := [.int (nI (bset (fun p => fitb sl kd hg p q m) i))]) S0 (c_X4_bitIf l g (fitb sl kd hg i q m) i (b01_le _) (by omega)) ⟨va_cnB 2 hts gX0_fitting_X4_bitIf_n81 rfl rfl rfl hK.2.2.2.2.2.1 (hts _ (List.mem_of_getElem? (i := 33) rfl)) (by decide +kernel) ⟨by decide, by decide⟩, (hts _ (List.mem_of_getElem? (i := 32) rfl)), trivial⟩ (zpreS hK (P_nil _)) rfl rfl hl.1 rfl (lv_room (Nat.le_of_ble_eq_true rfl)) dX0_fitting_37 ⟨by decide, by decide⟩) (fun r37 h37 => ?_)
          subst h37
          have f3 := bt_ltE (fitb sl kd hg i q m) i
          refine n_ior (a := (bset (fun p => fitb sl kd hg p q m) i)) (b := (bt (fitb sl kd hg i q m) i)) hx hb dX0_fitting_40 ?_
          refine lv_istore_n (lv' := [(3, .int (nI ((bset (fun p => fitb sl kd hg p q m) i) ||| (bt (fitb sl kd hg i q m) i)))), (0, .ref co), (1, .int (nI q)), (2, .int (nI m)), (4, .int (nI i))]) hx hb dX0_fitting_41 rfl hl (by decide) rfl (fun ls hl => ?_)
          refine n_iinc (a := i) (d := 1) (lv' := [(4, .int (nI (i + 1))), (3, .int (nI ((bset (fun p => fitb sl kd hg p q m) i) ||| (bt (fitb sl kd hg i q m) i)))), (0, .ref co), (1, .int (nI q)), (2, .int (nI m))]) hx hb dX0_fitting_42 hl (k := 4) rfl (by decide) (by decide) rfl (fun ls hl => ?_)
          refine lv_goto (tgt := 5) hx hb dX0_fitting_45 (by decide) ?_
          exact ih (i + 1)  ls (by omega) (by omega) (lv_sub hl [2, 3, 4, 1, 0] rfl)
  exact lp5 (np - 0 + 1) 0  ls (Nat.lt_succ_self _) (by omega) (lv_sub hl [2, 3, 4, 1, 0] rfl)

set_option maxHeartbeats 8000000 in
set_option maxRecDepth 100000 in
theorem c_X0_closestFitting (l : Launch) (g : Gx) (co : Nat) (ck : Nat) (ch : Nat) (cl : Nat) (np : Nat) (sl : Nat) (kd : Nat → Nat) (hg : Nat → Nat) (lk : Nat → Nat) (q : Nat) (m : Nat) (hnp : np ≤ 6) (hsl : sl ≤ 9) (hkd : ∀ j, kd j ≤ 2) (hhg : ∀ j, hg j ≤ 9) (hq : q < np) (hm : m ≤ 9) : Met l yX0_closestFitting wsX0_closestFitting ({ frames := 3, cells := 0, slots := 0, locals := 70 } : Room) (PcR g [.ref co, .int (nI q), .int (nI m)] (wC g co ck ch cl np sl kd hg lk)) (vp_Si (fun r => r = enc (mtb sl (fun p => ap kd hg p q m) np))) 0 0 (fun _ => False) := by
  refine zenterR (cc := cX0_closestFitting) (maxL := 7) (ret := (some .int)) (by decide) rfl (Nat.le_of_ble_eq_true rfl) ?_
  intro P E s mt below meth cd ls hx hb hml hown hts hr hlocks hP hK hl
  have hl : lv_has ls 7 [(0, .ref co), (1, .int (nI q)), (2, .int (nI m))] := hl
  have S0 : CallFix P mt cd cX0_closestFitting 7 s [.ref co, .int (nI q), .int (nI m)].toArray wsX0_closestFitting RX0 := ⟨hx, hb, hml, hown, hts⟩
  refine lv_bipush (v := (-9)) hx hb dX0_closestFitting_0 (by decide) ?_
  refine lv_istore_n (lv' := [(3, .int (-9)), (0, .ref co), (1, .int (nI q)), (2, .int (nI m))]) hx hb dX0_closestFitting_2 rfl hl (by decide) rfl (fun ls hl => ?_)
  refine lv_aload_n hx hb dX0_closestFitting_3 rfl (lv_at hl 1 rfl) ?_
  refine va_get (D := g.1) (ci := 0) (v := .int (nI sl)) (C := RX0) (T := TX0) (N := 5) hx hb hts (fun _ h => (List.mem_cons_of_mem _ (List.mem_append_right _ h))) hown hK.1 hP 0 rfl rfl 4 (by decide) (hts _ (List.mem_of_getElem? (i := 1) rfl)) (fun _ h9 => h9) rfl dX0_closestFitting_4 ?_
  refine lv_iconst (v := (nI 1)) hx hb dX0_closestFitting_7 (by decide) ?_
  refine n_iadd (a := sl) (b := 1) hx hb dX0_closestFitting_8 ?_
  refine lv_istore (lv' := [(4, .int (nI (sl + 1))), (3, .int (-9)), (0, .ref co), (1, .int (nI q)), (2, .int (nI m))]) hx hb dX0_closestFitting_9 hl (by decide) rfl (fun ls hl => ?_)
  refine lv_iconst (v := (nI 0)) hx hb dX0_closestFitting_11 (by decide) ?_
  refine lv_istore (lv' := [(5, .int (nI 0)), (4, .int (nI (sl + 1))), (3, .int (-9)), (0, .ref co), (1, .int (nI q)), (2, .int (nI m))]) hx hb dX0_closestFitting_12 hl (by decide) rfl (fun ls hl => ?_)
  have lp14 : ∀ (nn : Nat) (i : Nat) (ls : Array Slot), (np - i) < nn → (i ≤ np) → lv_has ls 7 [(0, .ref co), (1, .int (nI q)), (2, .int (nI m)), (3, .int (enc (mtb sl (fun p => ap kd hg p q m) i))), (4, .int (nI (mtl sl (fun p => ap kd hg p q m) i))), (5, .int (nI i))] → W P l E ({ frames := 3, cells := 0, slots := 0, locals := 70 } : Room) s mt [.ref co, .int (nI q), .int (nI m)].toArray below meth cd s.heap [] 0 0 (MQ below (vp_Si (fun r => r = enc (mtb sl (fun p => ap kd hg p q m) np))) [.ref co, .int (nI q), .int (nI m)].toArray s 0 0 (fun _ => False)) (F0 mt 14 ls []) := by
    intro nn
    induction nn with
    | zero => intro i ls hmu; exact absurd hmu (Nat.not_lt_zero _)
    | succ nn ih =>
      intro i ls hmu hi hl
      have hml2 := mtl_le (sl := sl) (f := (fun p => ap kd hg p q m)) i
      refine lv_iload hx hb dX0_closestFitting_14 (lv_at hl 5 rfl) ?_
      refine lv_aload_n hx hb dX0_closestFitting_16 rfl (lv_at hl 0 rfl) ?_
      refine va_get (D := g.1) (ci := 0) (v := .int (nI np)) (C := RX0) (T := TX0) (N := 5) hx hb hts (fun _ h => (List.mem_cons_of_mem _ (List.mem_append_right _ h))) hown hK.1 hP 0 rfl rfl 3 (by decide) (hts _ (List.mem_of_getElem? (i := 2) rfl)) (fun _ h9 => h9) rfl dX0_closestFitting_17 ?_
      refine n_icmp_ge (a := i) (b := np) (tgt := 53) hx hb (by omega) (by omega) dX0_closestFitting_20 (by decide) (fun c20 => ?_) (fun c20 => ?_)
      · refine lv_iload_n hx hb dX0_closestFitting_53 rfl (lv_at hl 3 rfl) ?_
        exact zretI hx hb hr hlocks rfl (by rw [show i = np by omega]) dX0_closestFitting_54
      · refine lv_aload_n hx hb dX0_closestFitting_23 rfl (lv_at hl 0 rfl) ?_
        refine lv_iload hx hb dX0_closestFitting_24 (lv_at hl 5 rfl) ?_
        refine lv_iload_n hx hb dX0_closestFitting_26 rfl (lv_at hl 1 rfl) ?_
        refine lv_iload_n hx hb dX0_closestFitting_27 rfl (lv_at hl 2 rfl) ?_
        have hPc : PP g (wC g co ck ch cl np sl kd hg lk) _ := hP
        refine zcallR (va_runV (As := [.int (nI i), .int (nI q), .int (nI m)]) (rest := []) (b := co) S0 (c_X0_apart l g co ck ch cl np sl kd hg lk i q m hnp hkd hhg (by omega) (by omega) (by omega)) (cwV 3 hts gX0_closestFitting_X0_apart rfl rfl rfl (by decide +kernel) ⟨by decide, by decide⟩) (zpreV hK hPc (va_recv hK.1 hPc (ci := 0) (q0 := 0) rfl rfl)) rfl rfl hl.1 rfl (lv_room (Nat.le_of_ble_eq_true rfl)) dX0_closestFitting_28 ⟨by decide, by decide⟩) (fun r28 h28 => ?_)
        subst h28
        have f1 := ap_le kd hhg i q m
        refine lv_istore (lv' := [(6, .int (nI (ap kd hg i q m))), (0, .ref co), (1, .int (nI q)), (2, .int (nI m)), (3, .int (enc (mtb sl (fun p => ap kd hg p q m) i))), (4, .int (nI (mtl sl (fun p => ap kd hg p q m) i))), (5, .int (nI i))]) hx hb dX0_closestFitting_31 hl (by decide) rfl (fun ls hl => ?_)
        refine lv_iload hx hb dX0_closestFitting_33 (lv_at hl 0 rfl) ?_
        refine lv_iload hx hb dX0_closestFitting_35 (lv_at hl 5 rfl) ?_
        refine n_icmp_ge (a := (ap kd hg i q m)) (b := (mtl sl (fun p => ap kd hg p q m) i)) (tgt := 47) hx hb (by omega) (by omega) dX0_closestFitting_37 (by decide) (fun c37 => ?_) (fun c37 => ?_)
        · refine n_iinc (a := i) (d := 1) (lv' := [(5, .int (nI (i + 1))), (6, .int (nI (ap kd hg i q m))), (0, .ref co), (1, .int (nI q)), (2, .int (nI m)), (3, .int (enc (mtb sl (fun p => ap kd hg p q m) i))), (4, .int (nI (mtl sl (fun p => ap kd hg p q m) i)))]) hx hb dX0_closestFitting_47 hl (k := 6) rfl (by decide) (by decide) rfl (fun ls hl => ?_)
          refine lv_goto (tgt := 14) hx hb dX0_closestFitting_50 (by decide) ?_
          exact ih (i + 1)  ls (by omega) (by omega) (lv_sub hl [2, 3, 4, 5, 6, 0] (by rw [mtb_no (f := (fun p => ap kd hg p q m)) c37, mtl_no (f := (fun p => ap kd hg p q m)) c37]; rfl))
        · refine lv_iload hx hb dX0_closestFitting_40 (lv_at hl 6 rfl) ?_
          refine lv_istore_n (lv' := [(3, .int (nI i)), (6, .int (nI (ap kd hg i q m))), (0, .ref co), (1, .int (nI q)), (2, .int (nI m)), (4, .int (nI (mtl sl (fun p => ap kd hg p q m) i))), (5, .int (nI i))]) hx hb dX0_closestFitting_42 rfl hl (by decide) rfl (fun ls hl => ?_)
          refine lv_iload hx hb dX0_closestFitting_43 (lv_at hl 1 rfl) ?_
          refine lv_istore (lv' := [(4, .int (nI (ap kd hg i q m))), (3, .int (nI i)), (6, .int (nI (ap kd hg i q m))), (0, .ref co), (1, .int (nI q)), (2, .int (nI m)), (5, .int (nI i))]) hx hb dX0_closestFitting_45 hl (by decide) rfl (fun ls hl => ?_)
          refine n_iinc (a := i) (d := 1) (lv' := [(5, .int (nI (i + 1))), (4, .int (nI (ap kd hg i q m))), (3, .int (nI i)), (6, .int (nI (ap kd hg i q m))), (0, .ref co), (1, .int (nI q)), (2, .int (nI m))]) hx hb dX0_closestFitting_47 hl (k := 6) rfl (by decide) (by decide) rfl (fun ls hl => ?_)
          refine lv_goto (tgt := 14) hx hb dX0_closestFitting_50 (by decide) ?_
          exact ih (i + 1)  ls (by omega) (by omega) (lv_sub hl [4, 5, 6, 2, 1, 0] (by rw [mtb_yes (f := (fun p => ap kd hg p q m)) c37, mtl_yes (f := (fun p => ap kd hg p q m)) c37]; rfl))
  exact lp14 (np - 0 + 1) 0  ls (Nat.lt_succ_self _) (by omega) (lv_sub hl [3, 4, 5, 2, 1, 0] rfl)

set_option maxHeartbeats 8000000 in
set_option maxRecDepth 100000 in
theorem c_X0_lastGood (l : Launch) (g : Gx) (co : Nat) (ck : Nat) (ch : Nat) (cl : Nat) (np : Nat) (sl : Nat) (kd : Nat → Nat) (hg : Nat → Nat) (lk : Nat → Nat) (u : Nat) (hnp : np ≤ 6) (hsl : sl ≤ 9) (hkd : ∀ j, kd j ≤ 2) (hhg : ∀ j, hg j ≤ 9) (hu : u < np) : Met l yX0_lastGood wsX0_lastGood ({ frames := 4, cells := 0, slots := 0, locals := 93 } : Room) (PcR g [.ref co, .int (nI u)] (wC g co ck ch cl np sl kd hg lk)) (vp_Si (fun r => r = enc (lgd (fun m => fitb sl kd hg u u m) 10))) 0 0 (fun _ => False) := by
  refine zenterR (cc := cX0_lastGood) (maxL := 3) (ret := (some .int)) (by decide) rfl (Nat.le_of_ble_eq_true rfl) ?_
  intro P E s mt below meth cd ls hx hb hml hown hts hr hlocks hP hK hl
  have hl : lv_has ls 3 [(0, .ref co), (1, .int (nI u))] := hl
  have S0 : CallFix P mt cd cX0_lastGood 3 s [.ref co, .int (nI u)].toArray wsX0_lastGood RX0 := ⟨hx, hb, hml, hown, hts⟩
  refine lv_bipush (v := (nI 9)) hx hb dX0_lastGood_0 (by decide) ?_
  refine lv_istore_n (lv' := [(2, .int (nI 9)), (0, .ref co), (1, .int (nI u))]) hx hb dX0_lastGood_2 rfl hl (by decide) rfl (fun ls hl => ?_)
  have lp3 : ∀ (nn : Nat) (i : Nat) (ls : Array Slot), (i) < nn → (i ≤ 10) → (lgd (fun m => fitb sl kd hg u u m) 10 = lgd (fun m => fitb sl kd hg u u m) i) → lv_has ls 3 [(0, .ref co), (1, .int (nI u)), (2, .int (pm i))] → W P l E ({ frames := 4, cells := 0, slots := 0, locals := 93 } : Room) s mt [.ref co, .int (nI u)].toArray below meth cd s.heap [] 0 0 (MQ below (vp_Si (fun r => r = enc (lgd (fun m => fitb sl kd hg u u m) 10))) [.ref co, .int (nI u)].toArray s 0 0 (fun _ => False)) (F0 mt 3 ls []) := by
    intro nn
    induction nn with
    | zero => intro i ls hmu; exact absurd hmu (Nat.not_lt_zero _)
    | succ nn ih =>
      intro i ls hmu hi hv hl
      refine lv_iload_n hx hb dX0_lastGood_3 rfl (lv_at hl 2 rfl) ?_
      refine lv_if_lt (tgt := 25) hx hb dX0_lastGood_4 (by decide) (fun c4 => ?_) (fun c4 => ?_)
      · have hi0 := pm_neg (by omega) c4
        refine lv_bipush (v := (-9)) hx hb dX0_lastGood_25 (by decide) ?_
        exact zretI hx hb hr hlocks rfl (by rw [hv, hi0]; rfl) dX0_lastGood_27
      · obtain ⟨k, rfl⟩ := pm_pos c4
        have hl : lv_has ls 3 [(0, .ref co), (1, .int (nI u)), (2, .int (nI k))] := hl
        refine lv_aload_n hx hb dX0_lastGood_7 rfl (lv_at hl 0 rfl) ?_
        refine lv_iload_n hx hb dX0_lastGood_8 rfl (lv_at hl 1 rfl) ?_
        refine lv_iload_n hx hb dX0_lastGood_9 rfl (lv_at hl 1 rfl) ?_
        refine lv_iload_n hx hb dX0_lastGood_10 rfl (lv_at hl 2 rfl) ?_
        have hPc : PP g (wC g co ck ch cl np sl kd hg lk) _ := hP
        refine zcallR (va_runV (As := [.int (nI u), .int (nI u), .int (nI k)]) (rest := []) (b := co) S0 (c_X0_doFit l g co ck ch cl np sl kd hg lk u u k hnp hsl hkd hhg (by omega) hu (by omega)) (cwV 3 hts gX0_lastGood_X0_doFit rfl rfl rfl (by decide +kernel) ⟨by decide, by decide⟩) (zpreV hK hPc (va_recv hK.1 hPc (ci := 0) (q0 := 0) rfl rfl)) rfl rfl hl.1 rfl (lv_room (Nat.le_of_ble_eq_true rfl)) dX0_lastGood_11 ⟨by decide, by decide⟩) (fun r11 h11 => ?_)
        subst h11
        have f1 := fitb_le sl kd hg u u k
        refine n_if_eq (a := (fitb sl kd hg u u k)) (tgt := 19) hx hb (by omega) dX0_lastGood_14 (by decide) (fun c14 => ?_) (fun c14 => ?_)
        · refine lv_iinc (v := (pm k)) (lv' := [(2, .int (pm k)), (0, .ref co), (1, .int (nI u))]) hx hb dX0_lastGood_19 hl (k := 2) rfl (pm_dec k) (by decide) rfl (fun ls hl => ?_)
          refine lv_goto (tgt := 3) hx hb dX0_lastGood_22 (by decide) ?_
          exact ih k  ls (by omega) (by omega) (by rw [hv, lgd, if_pos c14]) (lv_sub hl [1, 2, 0] rfl)
        · refine lv_iload_n hx hb dX0_lastGood_17 rfl (lv_at hl 2 rfl) ?_
          exact zretI hx hb hr hlocks rfl (by rw [hv, lgd, if_neg c14]; rfl) dX0_lastGood_18
  exact lp3 (10 + 1) 10  ls (Nat.lt_succ_self _) (by omega) rfl (lv_sub hl [1, 2, 0] rfl)

set_option maxHeartbeats 8000000 in
set_option maxRecDepth 100000 in
theorem c_X0_areAlike (l : Launch) (g : Gx) (co : Nat) (ck : Nat) (ch : Nat) (cl : Nat) (np : Nat) (sl : Nat) (kd : Nat → Nat) (hg : Nat → Nat) (lk : Nat → Nat) (p : Nat) (q : Nat) (hnp : np ≤ 6) (hsl : sl ≤ 9) (hhg : ∀ j, hg j ≤ 9) (hp : p < np) (hq : q < np) : Met l yX0_areAlike wsX0_areAlike ({ frames := 2, cells := 0, slots := 0, locals := 43 } : Room) (PcR g [.ref co, .int (nI p), .int (nI q)] (wC g co ck ch cl np sl kd hg lk)) (vp_Si (fun r => r = nI (alb sl hg p q))) 0 0 (fun _ => False) := by
  refine zenterR (cc := cX0_areAlike) (maxL := 5) (ret := (some .boolean)) (by decide) rfl (Nat.le_of_ble_eq_true rfl) ?_
  intro P E s mt below meth cd ls hx hb hml hown hts hr hlocks hP hK hl
  have hl : lv_has ls 5 [(0, .ref co), (1, .int (nI p)), (2, .int (nI q))] := hl
  have S0 : CallFix P mt cd cX0_areAlike 5 s [.ref co, .int (nI p), .int (nI q)].toArray wsX0_areAlike RX0 := ⟨hx, hb, hml, hown, hts⟩
  refine lv_iconst (v := (nI 0)) hx hb dX0_areAlike_0 (by decide) ?_
  refine lv_istore_n (lv' := [(3, .int (nI 0)), (0, .ref co), (1, .int (nI p)), (2, .int (nI q))]) hx hb dX0_areAlike_1 rfl hl (by decide) rfl (fun ls hl => ?_)
  refine lv_iconst (v := (nI 0)) hx hb dX0_areAlike_2 (by decide) ?_
  refine lv_istore (lv' := [(4, .int (nI 0)), (3, .int (nI 0)), (0, .ref co), (1, .int (nI p)), (2, .int (nI q))]) hx hb dX0_areAlike_3 hl (by decide) rfl (fun ls hl => ?_)
  have lp5 : ∀ (nn : Nat) (i : Nat) (ls : Array Slot), (3 - i) < nn → (i ≤ 3) → lv_has ls 5 [(0, .ref co), (1, .int (nI p)), (2, .int (nI q)), (3, .int (nI (sumk (alk hg p q) i))), (4, .int (nI i))] → W P l E ({ frames := 2, cells := 0, slots := 0, locals := 43 } : Room) s mt [.ref co, .int (nI p), .int (nI q)].toArray below meth cd s.heap [] 0 0 (MQ below (vp_Si (fun r => r = nI (alb sl hg p q))) [.ref co, .int (nI p), .int (nI q)].toArray s 0 0 (fun _ => False)) (F0 mt 5 ls []) := by
    intro nn
    induction nn with
    | zero => intro i ls hmu; exact absurd hmu (Nat.not_lt_zero _)
    | succ nn ih =>
      intro i ls hmu hi hl
      refine lv_iload hx hb dX0_areAlike_5 (lv_at hl 4 rfl) ?_
      refine lv_iconst (v := (nI 3)) hx hb dX0_areAlike_7 (by decide) ?_
      refine n_icmp_ge (a := i) (b := 3) (tgt := 38) hx hb (by omega) (by omega) dX0_areAlike_8 (by decide) (fun c8 => ?_) (fun c8 => ?_)
      · obtain rfl : 3 = i := by omega
        have hl : lv_has ls 5 [(0, .ref co), (1, .int (nI p)), (2, .int (nI q)), (3, .int (nI (al hg p q))), (4, .int (nI 3))] := hl
        have hal := al_le hhg p q
        refine lv_iload_n hx hb dX0_areAlike_38 rfl (lv_at hl 3 rfl) ?_
        refine lv_aload_n hx hb dX0_areAlike_39 rfl (lv_at hl 0 rfl) ?_
        refine va_get (D := g.1) (ci := 0) (v := .int (nI sl)) (C := RX0) (T := TX0) (N := 5) hx hb hts (fun _ h => (List.mem_cons_of_mem _ (List.mem_append_right _ h))) hown hK.1 hP 0 rfl rfl 4 (by decide) (hts _ (List.mem_of_getElem? (i := 5) rfl)) (fun _ h9 => h9) rfl dX0_areAlike_40 ?_
        refine n_icmp_gt (a := (al hg p q)) (b := sl) (tgt := 50) hx hb (by omega) (by omega) dX0_areAlike_43 (by decide) (fun c43 => ?_) (fun c43 => ?_)
        · refine lv_iconst (v := (nI 0)) hx hb dX0_areAlike_50 (by decide) ?_
          refine ztopI (nI (alb sl hg p q)) (by rw [alb, b01_f (by omega)]) ?_
          exact zretI hx hb hr hlocks (nar_b (b01_le _)) (by rfl) dX0_areAlike_51
        · refine lv_iconst (v := (nI 1)) hx hb dX0_areAlike_46 (by decide) ?_
          refine ztopI (nI (alb sl hg p q)) (by rw [alb, b01_t c43]) ?_
          refine lv_goto (tgt := 51) hx hb dX0_areAlike_47 (by decide) ?_
          exact zretI hx hb hr hlocks (nar_b (b01_le _)) (by rfl) dX0_areAlike_51
      · refine lv_iload_n hx hb dX0_areAlike_11 rfl (lv_at hl 3 rfl) ?_
        refine lv_aload_n hx hb dX0_areAlike_12 rfl (lv_at hl 0 rfl) ?_
        refine lv_iload_n hx hb dX0_areAlike_13 rfl (lv_at hl 1 rfl) ?_
        refine lv_iload hx hb dX0_areAlike_14 (lv_at hl 4 rfl) ?_
        have hPc : PP g (wC g co ck ch cl np sl kd hg lk) _ := hP
        refine zcallR (va_runV (As := [.int (nI p), .int (nI i)]) (rest := [.int (nI (sumk (alk hg p q) i))]) (b := co) S0 (c_X0_heightOf l g co ck ch cl np sl kd hg lk p i hnp hp (by omega)) (cwV 2 hts gX0_areAlike_X0_heightOf rfl rfl rfl (by decide +kernel) ⟨by decide, by decide⟩) (zpreV hK hPc (va_recv hK.1 hPc (ci := 0) (q0 := 0) rfl rfl)) rfl rfl hl.1 rfl (lv_room (Nat.le_of_ble_eq_true rfl)) dX0_areAlike_16 ⟨by decide, by decide⟩) (fun r16 h16 => ?_)
        subst h16
        refine lv_aload_n hx hb dX0_areAlike_19 rfl (lv_at hl 0 rfl) ?_
        refine lv_iload_n hx hb dX0_areAlike_20 rfl (lv_at hl 2 rfl) ?_
        refine lv_iload hx hb dX0_areAlike_21 (lv_at hl 4 rfl) ?_
        have hPc : PP g (wC g co ck ch cl np sl kd hg lk) _ := hP
        refine zcallR (va_runV (As := [.int (nI q), .int (nI i)]) (rest := [.int (nI (hg (3 * p + i))), .int (nI (sumk (alk hg p q) i))]) (b := co) S0 (c_X0_heightOf l g co ck ch cl np sl kd hg lk q i hnp hq (by omega)) (cwV 2 hts gX0_areAlike_X0_heightOf rfl rfl rfl (by decide +kernel) ⟨by decide, by decide⟩) (zpreV hK hPc (va_recv hK.1 hPc (ci := 0) (q0 := 0) rfl rfl)) rfl rfl hl.1 rfl (lv_room (Nat.le_of_ble_eq_true rfl)) dX0_areAlike_23 ⟨by decide, by decide⟩) (fun r23 h23 => ?_)
        subst h23
        refine lv_isub hx hb dX0_areAlike_26 ?_
        refine va_mabs hx hb (hml.trans hl.1.symm) hown (hts _ (List.mem_of_getElem? (i := 1) rfl)) (hts _ (List.mem_of_getElem? (i := 2) rfl)) (hts _ (List.mem_of_getElem? (i := 3) rfl)) (hts _ (List.mem_of_getElem? (i := 4) rfl)) (Nat.le_of_ble_eq_true rfl) (Nat.le_of_ble_eq_true rfl) (Nat.zero_le _) (Nat.zero_le _) dX0_areAlike_27 ?_
        refine ztopI (nI (alk hg p q i)) (abs_sub (by have := hhg (3 * p + i); omega) (by have := hhg (3 * q + i); omega)) ?_
        refine n_iadd (a := (sumk (alk hg p q) i)) (b := (alk hg p q i)) hx hb dX0_areAlike_30 ?_
        refine lv_istore_n (lv' := [(3, .int (nI ((sumk (alk hg p q) i) + (alk hg p q i)))), (0, .ref co), (1, .int (nI p)), (2, .int (nI q)), (4, .int (nI i))]) hx hb dX0_areAlike_31 rfl hl (by decide) rfl (fun ls hl => ?_)
        refine n_iinc (a := i) (d := 1) (lv' := [(4, .int (nI (i + 1))), (3, .int (nI ((sumk (alk hg p q) i) + (alk hg p q i)))), (0, .ref co), (1, .int (nI p)), (2, .int (nI q))]) hx hb dX0_areAlike_32 hl (k := 4) rfl (by decide) (by decide) rfl (fun ls hl => ?_)
        refine lv_goto (tgt := 5) hx hb dX0_areAlike_35 (by decide) ?_
        exact ih (i + 1)  ls (by omega) (by omega) (lv_sub hl [2, 3, 4, 1, 0] rfl)
  exact lp5 (3 - 0 + 1) 0  ls (Nat.lt_succ_self _) (by omega) (lv_sub hl [2, 3, 4, 1, 0] rfl)

set_option maxHeartbeats 8000000 in
set_option maxRecDepth 100000 in
theorem c_X0_likeness (l : Launch) (g : Gx) (co : Nat) (ck : Nat) (ch : Nat) (cl : Nat) (np : Nat) (sl : Nat) (kd : Nat → Nat) (hg : Nat → Nat) (lk : Nat → Nat) (p : Nat) (hnp : np ≤ 6) (hsl : sl ≤ 9) (hhg : ∀ j, hg j ≤ 9) (hp : p < np) : Met l yX0_likeness wsX0_likeness ({ frames := 3, cells := 0, slots := 0, locals := 67 } : Room) (PcR g [.ref co, .int (nI p)] (wC g co ck ch cl np sl kd hg lk)) (vp_Si (fun r => r = nI (lset np sl hg p))) 0 0 (fun _ => False) := by
  refine zenterR (cc := cX0_likeness) (maxL := 4) (ret := (some .int)) (by decide) rfl (Nat.le_of_ble_eq_true rfl) ?_
  intro P E s mt below meth cd ls hx hb hml hown hts hr hlocks hP hK hl
  have hl : lv_has ls 4 [(0, .ref co), (1, .int (nI p))] := hl
  have S0 : CallFix P mt cd cX0_likeness 4 s [.ref co, .int (nI p)].toArray wsX0_likeness RX0 := ⟨hx, hb, hml, hown, hts⟩
  refine lv_iconst (v := (nI 0)) hx hb dX0_likeness_0 (by decide) ?_
  refine lv_istore_n (lv' := [(2, .int (nI 0)), (0, .ref co), (1, .int (nI p))]) hx hb dX0_likeness_1 rfl hl (by decide) rfl (fun ls hl => ?_)
  refine lv_iconst (v := (nI 0)) hx hb dX0_likeness_2 (by decide) ?_
  refine lv_istore_n (lv' := [(3, .int (nI 0)), (2, .int (nI 0)), (0, .ref co), (1, .int (nI p))]) hx hb dX0_likeness_3 rfl hl (by decide) rfl (fun ls hl => ?_)
  have lp4 : ∀ (nn : Nat) (i : Nat) (ls : Array Slot), (np - i) < nn → (i ≤ np) → lv_has ls 4 [(0, .ref co), (1, .int (nI p)), (2, .int (nI (bset (likb sl hg p) i))), (3, .int (nI i))] → W P l E ({ frames := 3, cells := 0, slots := 0, locals := 67 } : Room) s mt [.ref co, .int (nI p)].toArray below meth cd s.heap [] 0 0 (MQ below (vp_Si (fun r => r = nI (lset np sl hg p))) [.ref co, .int (nI p)].toArray s 0 0 (fun _ => False)) (F0 mt 4 ls []) := by
    intro nn
    induction nn with
    | zero => intro i ls hmu; exact absurd hmu (Nat.not_lt_zero _)
    | succ nn ih =>
      intro i ls hmu hi hl
      refine lv_iload_n hx hb dX0_likeness_4 rfl (lv_at hl 3 rfl) ?_
      refine lv_aload_n hx hb dX0_likeness_5 rfl (lv_at hl 0 rfl) ?_
      refine va_get (D := g.1) (ci := 0) (v := .int (nI np)) (C := RX0) (T := TX0) (N := 5) hx hb hts (fun _ h => (List.mem_cons_of_mem _ (List.mem_append_right _ h))) hown hK.1 hP 0 rfl rfl 3 (by decide) (hts _ (List.mem_of_getElem? (i := 1) rfl)) (fun _ h9 => h9) rfl dX0_likeness_6 ?_
      refine n_icmp_ge (a := i) (b := np) (tgt := 44) hx hb (by omega) (by omega) dX0_likeness_9 (by decide) (fun c9 => ?_) (fun c9 => ?_)
      · refine lv_iload_n hx hb dX0_likeness_44 rfl (lv_at hl 2 rfl) ?_
        exact zretI hx hb hr hlocks rfl (by rw [show i = np by omega]; rfl) dX0_likeness_45
      · refine lv_iload_n hx hb dX0_likeness_12 rfl (lv_at hl 2 rfl) ?_
        refine lv_iload_n hx hb dX0_likeness_13 rfl (lv_at hl 3 rfl) ?_
        refine lv_iload_n hx hb dX0_likeness_14 rfl (lv_at hl 1 rfl) ?_
        refine n_icmp_eq (a := i) (b := p) (tgt := 31) hx hb (by omega) (by omega) dX0_likeness_15 (by decide) (fun c15 => ?_) (fun c15 => ?_)
        · refine lv_iconst (v := (nI 0)) hx hb dX0_likeness_31 (by decide) ?_
          refine ztopI (nI (likb sl hg p i)) (by rw [likb, b01_f (fun z => z.1 c15)]) ?_
          refine lv_iload_n hx hb dX0_likeness_32 rfl (lv_at hl 3 rfl) ?_
          refine zcallR (va_runSN (As := [.int (nI (likb sl hg p i)), .int (nI i)]) (rest := [.int (nI (bset (likb sl hg p) i))]) S0 (c_X4_bitIf l g (likb sl hg p i) i (b01_le _) (by omega)) ⟨va_cnB 2 hts gX0_likeness_X4_bitIf_n81 rfl rfl rfl hK.2.2.2.2.2.1 (hts _ (List.mem_of_getElem? (i := 22) rfl)) (by decide +kernel) ⟨by decide, by decide⟩, (hts _ (List.mem_of_getElem? (i := 21) rfl)), trivial⟩ (zpreS hK (P_nil _)) rfl rfl hl.1 rfl (lv_room (Nat.le_of_ble_eq_true rfl)) dX0_likeness_33 ⟨by decide, by decide⟩) (fun r33 h33 => ?_)
          subst h33
          have f1 := bt_ltE (likb sl hg p i) i
          refine n_ior (a := (bset (likb sl hg p) i)) (b := (bt (likb sl hg p i) i)) hx hb dX0_likeness_36 ?_
          refine lv_istore_n (lv' := [(2, .int (nI ((bset (likb sl hg p) i) ||| (bt (likb sl hg p i) i)))), (0, .ref co), (1, .int (nI p)), (3, .int (nI i))]) hx hb dX0_likeness_37 rfl hl (by decide) rfl (fun ls hl => ?_)
          refine n_iinc (a := i) (d := 1) (lv' := [(3, .int (nI (i + 1))), (2, .int (nI ((bset (likb sl hg p) i) ||| (bt (likb sl hg p i) i)))), (0, .ref co), (1, .int (nI p))]) hx hb dX0_likeness_38 hl (k := 3) rfl (by decide) (by decide) rfl (fun ls hl => ?_)
          refine lv_goto (tgt := 4) hx hb dX0_likeness_41 (by decide) ?_
          exact ih (i + 1)  ls (by omega) (by omega) (lv_sub hl [2, 3, 1, 0] rfl)
        · refine lv_aload_n hx hb dX0_likeness_18 rfl (lv_at hl 0 rfl) ?_
          refine lv_iload_n hx hb dX0_likeness_19 rfl (lv_at hl 1 rfl) ?_
          refine lv_iload_n hx hb dX0_likeness_20 rfl (lv_at hl 3 rfl) ?_
          have hPc : PP g (wC g co ck ch cl np sl kd hg lk) _ := hP
          refine zcallR (va_runV (As := [.int (nI p), .int (nI i)]) (rest := [.int (nI (bset (likb sl hg p) i))]) (b := co) S0 (c_X0_areAlike l g co ck ch cl np sl kd hg lk p i hnp hsl hhg (by omega) (by omega)) (cwV 2 hts gX0_likeness_X0_areAlike rfl rfl rfl (by decide +kernel) ⟨by decide, by decide⟩) (zpreV hK hPc (va_recv hK.1 hPc (ci := 0) (q0 := 0) rfl rfl)) rfl rfl hl.1 rfl (lv_room (Nat.le_of_ble_eq_true rfl)) dX0_likeness_21 ⟨by decide, by decide⟩) (fun r21 h21 => ?_)
          subst h21
          have f2 := alb_le sl hg p i
          refine n_if_eq (a := (alb sl hg p i)) (tgt := 31) hx hb (by omega) dX0_likeness_24 (by decide) (fun c24 => ?_) (fun c24 => ?_)
          · refine lv_iconst (v := (nI 0)) hx hb dX0_likeness_31 (by decide) ?_
            refine ztopI (nI (likb sl hg p i)) (by rw [likb, b01_f (fun z => b01_0.mp c24 z.2)]) ?_
            refine lv_iload_n hx hb dX0_likeness_32 rfl (lv_at hl 3 rfl) ?_
            refine zcallR (va_runSN (As := [.int (nI (likb sl hg p i)), .int (nI i)]) (rest := [.int (nI (bset (likb sl hg p) i))]) S0 (c_X4_bitIf l g (likb sl hg p i) i (b01_le _) (by omega)) ⟨va_cnB 2 hts gX0_likeness_X4_bitIf_n81 rfl rfl rfl hK.2.2.2.2.2.1 (hts _ (List.mem_of_getElem? (i := 22) rfl)) (by decide +kernel) ⟨by decide, by decide⟩, (hts _ (List.mem_of_getElem? (i := 21) rfl)), trivial⟩ (zpreS hK (P_nil _)) rfl rfl hl.1 rfl (lv_room (Nat.le_of_ble_eq_true rfl)) dX0_likeness_33 ⟨by decide, by decide⟩) (fun r33 h33 => ?_)
            subst h33
            have f3 := bt_ltE (likb sl hg p i) i
            refine n_ior (a := (bset (likb sl hg p) i)) (b := (bt (likb sl hg p i) i)) hx hb dX0_likeness_36 ?_
            refine lv_istore_n (lv' := [(2, .int (nI ((bset (likb sl hg p) i) ||| (bt (likb sl hg p i) i)))), (0, .ref co), (1, .int (nI p)), (3, .int (nI i))]) hx hb dX0_likeness_37 rfl hl (by decide) rfl (fun ls hl => ?_)
            refine n_iinc (a := i) (d := 1) (lv' := [(3, .int (nI (i + 1))), (2, .int (nI ((bset (likb sl hg p) i) ||| (bt (likb sl hg p i) i)))), (0, .ref co), (1, .int (nI p))]) hx hb dX0_likeness_38 hl (k := 3) rfl (by decide) (by decide) rfl (fun ls hl => ?_)
            refine lv_goto (tgt := 4) hx hb dX0_likeness_41 (by decide) ?_
            exact ih (i + 1)  ls (by omega) (by omega) (lv_sub hl [2, 3, 1, 0] rfl)
          · refine lv_iconst (v := (nI 1)) hx hb dX0_likeness_27 (by decide) ?_
            refine ztopI (nI (likb sl hg p i)) (by rw [likb, b01_t ⟨c15, b01_n0.mp c24⟩]) ?_
            refine lv_goto (tgt := 32) hx hb dX0_likeness_28 (by decide) ?_
            refine lv_iload_n hx hb dX0_likeness_32 rfl (lv_at hl 3 rfl) ?_
            refine zcallR (va_runSN (As := [.int (nI (likb sl hg p i)), .int (nI i)]) (rest := [.int (nI (bset (likb sl hg p) i))]) S0 (c_X4_bitIf l g (likb sl hg p i) i (b01_le _) (by omega)) ⟨va_cnB 2 hts gX0_likeness_X4_bitIf_n81 rfl rfl rfl hK.2.2.2.2.2.1 (hts _ (List.mem_of_getElem? (i := 22) rfl)) (by decide +kernel) ⟨by decide, by decide⟩, (hts _ (List.mem_of_getElem? (i := 21) rfl)), trivial⟩ (zpreS hK (P_nil _)) rfl rfl hl.1 rfl (lv_room (Nat.le_of_ble_eq_true rfl)) dX0_likeness_33 ⟨by decide, by decide⟩) (fun r33 h33 => ?_)
            subst h33
            have f4 := bt_ltE (likb sl hg p i) i
            refine n_ior (a := (bset (likb sl hg p) i)) (b := (bt (likb sl hg p i) i)) hx hb dX0_likeness_36 ?_
            refine lv_istore_n (lv' := [(2, .int (nI ((bset (likb sl hg p) i) ||| (bt (likb sl hg p i) i)))), (0, .ref co), (1, .int (nI p)), (3, .int (nI i))]) hx hb dX0_likeness_37 rfl hl (by decide) rfl (fun ls hl => ?_)
            refine n_iinc (a := i) (d := 1) (lv' := [(3, .int (nI (i + 1))), (2, .int (nI ((bset (likb sl hg p) i) ||| (bt (likb sl hg p i) i)))), (0, .ref co), (1, .int (nI p))]) hx hb dX0_likeness_38 hl (k := 3) rfl (by decide) (by decide) rfl (fun ls hl => ?_)
            refine lv_goto (tgt := 4) hx hb dX0_likeness_41 (by decide) ?_
            exact ih (i + 1)  ls (by omega) (by omega) (lv_sub hl [2, 3, 1, 0] rfl)
  exact lp4 (np - 0 + 1) 0  ls (Nat.lt_succ_self _) (by omega) (lv_sub hl [2, 3, 1, 0] rfl)

set_option maxHeartbeats 8000000 in
set_option maxRecDepth 100000 in
theorem c_X0_noneLinkedWithin (l : Launch) (g : Gx) (co : Nat) (ck : Nat) (ch : Nat) (cl : Nat) (np : Nat) (sl : Nat) (kd : Nat → Nat) (hg : Nat → Nat) (lk : Nat → Nat) (b : Nat) (hnp : np ≤ 6) (hb6 : b < 64) : Met l yX0_noneLinkedWithin wsX0_noneLinkedWithin ({ frames := 0, cells := 0, slots := 0, locals := 0 } : Room) (PcR g [.ref co, .int (nI b)] (wC g co ck ch cl np sl kd hg lk)) (vp_Si (fun r => r = nI (nl b lk np))) 0 0 (fun _ => False) := by
  refine zenterR (cc := cX0_noneLinkedWithin) (maxL := 3) (ret := (some .boolean)) (by decide) rfl (Nat.le_of_ble_eq_true rfl) ?_
  intro P E s mt below meth cd ls hx hb hml hown hts hr hlocks hP hK hl
  have hl : lv_has ls 3 [(0, .ref co), (1, .int (nI b))] := hl
  have S0 : CallFix P mt cd cX0_noneLinkedWithin 3 s [.ref co, .int (nI b)].toArray wsX0_noneLinkedWithin RX0 := ⟨hx, hb, hml, hown, hts⟩
  refine lv_iconst (v := (nI 0)) hx hb dX0_noneLinkedWithin_0 (by decide) ?_
  refine lv_istore_n (lv' := [(2, .int (nI 0)), (0, .ref co), (1, .int (nI b))]) hx hb dX0_noneLinkedWithin_1 rfl hl (by decide) rfl (fun ls hl => ?_)
  have lp2 : ∀ (nn : Nat) (i : Nat) (ls : Array Slot), (np - i) < nn → (i ≤ np) → (nl b lk i = 1) → lv_has ls 3 [(0, .ref co), (1, .int (nI b)), (2, .int (nI i))] → W P l E ({ frames := 0, cells := 0, slots := 0, locals := 0 } : Room) s mt [.ref co, .int (nI b)].toArray below meth cd s.heap [] 0 0 (MQ below (vp_Si (fun r => r = nI (nl b lk np))) [.ref co, .int (nI b)].toArray s 0 0 (fun _ => False)) (F0 mt 2 ls []) := by
    intro nn
    induction nn with
    | zero => intro i ls hmu; exact absurd hmu (Nat.not_lt_zero _)
    | succ nn ih =>
      intro i ls hmu hi hv hl
      refine lv_iload_n hx hb dX0_noneLinkedWithin_2 rfl (lv_at hl 2 rfl) ?_
      refine lv_aload_n hx hb dX0_noneLinkedWithin_3 rfl (lv_at hl 0 rfl) ?_
      refine va_get (D := g.1) (ci := 0) (v := .int (nI np)) (C := RX0) (T := TX0) (N := 5) hx hb hts (fun _ h => (List.mem_cons_of_mem _ (List.mem_append_right _ h))) hown hK.1 hP 0 rfl rfl 3 (by decide) (hts _ (List.mem_of_getElem? (i := 1) rfl)) (fun _ h9 => h9) rfl dX0_noneLinkedWithin_4 ?_
      refine n_icmp_ge (a := i) (b := np) (tgt := 37) hx hb (by omega) (by omega) dX0_noneLinkedWithin_7 (by decide) (fun c7 => ?_) (fun c7 => ?_)
      · refine lv_iconst (v := (nI 1)) hx hb dX0_noneLinkedWithin_37 (by decide) ?_
        exact zretI hx hb hr hlocks rfl (by rw [← show i = np by omega, hv]) dX0_noneLinkedWithin_38
      · refine lv_iload_n hx hb dX0_noneLinkedWithin_10 rfl (lv_at hl 1 rfl) ?_
        refine lv_iconst (v := (nI 1)) hx hb dX0_noneLinkedWithin_11 (by decide) ?_
        refine lv_iload_n hx hb dX0_noneLinkedWithin_12 rfl (lv_at hl 2 rfl) ?_
        refine n_ishl1 (n := i) hx hb (by omega) dX0_noneLinkedWithin_13 ?_
        refine n_iand (a := b) (b := (2 ^ i)) hx hb dX0_noneLinkedWithin_14 ?_
        refine n_if_eq (a := (b &&& (2 ^ i))) (tgt := 31) hx hb (Nat.lt_trans (and_lt' hb6) (by decide)) dX0_noneLinkedWithin_15 (by decide) (fun c15 => ?_) (fun c15 => ?_)
        · refine n_iinc (a := i) (d := 1) (lv' := [(2, .int (nI (i + 1))), (0, .ref co), (1, .int (nI b))]) hx hb dX0_noneLinkedWithin_31 hl (k := 2) rfl (by decide) (by decide) rfl (fun ls hl => ?_)
          refine lv_goto (tgt := 2) hx hb dX0_noneLinkedWithin_34 (by decide) ?_
          exact ih (i + 1)  ls (by omega) (by omega) (nl_go hv (fun z => z.1 c15)) (lv_sub hl [1, 2, 0] rfl)
        · refine lv_aload_n hx hb dX0_noneLinkedWithin_18 rfl (lv_at hl 0 rfl) ?_
          refine va_get (D := g.1) (ci := 0) (v := .ref cl) (C := RX0) (T := TX0) (N := 5) hx hb hts (fun _ h => (List.mem_cons_of_mem _ (List.mem_append_right _ h))) hown hK.1 hP 0 rfl rfl 2 (by decide) (hts _ (List.mem_of_getElem? (i := 2) rfl)) (fun _ h9 => h9) rfl dX0_noneLinkedWithin_19 ?_
          refine lv_iload_n hx hb dX0_noneLinkedWithin_22 rfl (lv_at hl 2 rfl) ?_
          refine n_iald (i := i) (v := (nI (lk i))) hx hb hK.1 hP 3 0 rfl rfl (by omega) (by decide) rfl dX0_noneLinkedWithin_23 ?_
          refine lv_iload_n hx hb dX0_noneLinkedWithin_24 rfl (lv_at hl 1 rfl) ?_
          refine n_iand (a := (lk i)) (b := b) hx hb dX0_noneLinkedWithin_25 ?_
          refine n_if_eq (a := ((lk i) &&& b)) (tgt := 31) hx hb (Nat.lt_trans (and_lt hb6) (by decide)) dX0_noneLinkedWithin_26 (by decide) (fun c26 => ?_) (fun c26 => ?_)
          · refine n_iinc (a := i) (d := 1) (lv' := [(2, .int (nI (i + 1))), (0, .ref co), (1, .int (nI b))]) hx hb dX0_noneLinkedWithin_31 hl (k := 2) rfl (by decide) (by decide) rfl (fun ls hl => ?_)
            refine lv_goto (tgt := 2) hx hb dX0_noneLinkedWithin_34 (by decide) ?_
            exact ih (i + 1)  ls (by omega) (by omega) (nl_go hv (fun z => z.2 c26)) (lv_sub hl [1, 2, 0] rfl)
          · refine lv_iconst (v := (nI 0)) hx hb dX0_noneLinkedWithin_29 (by decide) ?_
            exact zretI hx hb hr hlocks rfl (by rw [nl_stay (nl_bad c15 c26) np (by omega)]) dX0_noneLinkedWithin_30
  exact lp2 (np - 0 + 1) 0  ls (Nat.lt_succ_self _) (by omega) rfl (lv_sub hl [1, 2, 0] rfl)

set_option maxHeartbeats 8000000 in
set_option maxRecDepth 100000 in
theorem c_X0_layAll (l : Launch) (g : Gx) (co : Nat) (ck : Nat) (ch : Nat) (cl : Nat) (np : Nat) (sl : Nat) (kd : Nat → Nat) (hg : Nat → Nat) (lk : Nat → Nat) (m : Nat) (hnp : np ≤ 6) (hsl : sl ≤ 9) (hkd : ∀ j, kd j ≤ 2) (hhg : ∀ j, hg j ≤ 9) (hm : m ≤ 9) : Met l yX0_layAll wsX0_layAll ({ frames := 4, cells := 0, slots := 0, locals := 94 } : Room) (PcM g [.ref co, .int (nI m)] (wC g co ck ch cl np sl kd hg lk)) (va_Qv (fun (uu : Unit) => True) (fun (uu : Unit) t => PP g (wC g co ck ch cl np sl kd hg (fil (fun q => fset np sl kd hg q m) lk np)) t.heap) (inW (wC g co ck ch cl np sl kd hg lk))) 0 0 (inW (wC g co ck ch cl np sl kd hg lk)) := by
  refine zenterM (cc := cX0_layAll) (maxL := 3) (ret := none) (by decide) rfl (Nat.le_of_ble_eq_true rfl) ?_
  intro P E s mt below meth cd ls hx hb hml hown hts hr hlocks hP hK hD hS hl
  skip
  have hl : lv_has ls 3 [(0, .ref co), (1, .int (nI m))] := hl
  have S0 : CallFix P mt cd cX0_layAll 3 s [.ref co, .int (nI m)].toArray wsX0_layAll RX0 := ⟨hx, hb, hml, hown, hts⟩
  refine lv_iconst (v := (nI 0)) hx hb dX0_layAll_0 (by decide) ?_
  refine lv_istore_n (lv' := [(2, .int (nI 0)), (0, .ref co), (1, .int (nI m))]) hx hb dX0_layAll_1 rfl hl (by decide) rfl (fun ls hl => ?_)
  have lp2 : ∀ (nn : Nat) (i : Nat) (H : Heap) (locs : List Loc) (ls : Array Slot), (np - i) < nn → (i ≤ np) → PP g (wC g co ck ch cl np sl kd hg (fil (fun q => fset np sl kd hg q m) lk i)) H → va_D (inW (wC g co ck ch cl np sl kd hg lk)) (wC g co ck ch cl np sl kd hg (fil (fun q => fset np sl kd hg q m) lk i)) → va_S (inW (wC g co ck ch cl np sl kd hg lk)) s.heap H locs → lv_has ls 3 [(0, .ref co), (1, .int (nI m)), (2, .int (nI i))] → W P l E ({ frames := 4, cells := 0, slots := 0, locals := 94 } : Room) s mt [.ref co, .int (nI m)].toArray below meth cd H locs 0 0 (MQ below (va_Qv (fun (uu : Unit) => True) (fun (uu : Unit) t => PP g (wC g co ck ch cl np sl kd hg (fil (fun q => fset np sl kd hg q m) lk np)) t.heap) (inW (wC g co ck ch cl np sl kd hg lk))) [.ref co, .int (nI m)].toArray s 0 0 (inW (wC g co ck ch cl np sl kd hg lk))) (F0 mt 2 ls []) := by
    intro nn
    induction nn with
    | zero => intro i H locs ls hmu; exact absurd hmu (Nat.not_lt_zero _)
    | succ nn ih =>
      intro i H locs ls hmu hi hP hD hS hl
      refine lv_iload_n hx hb dX0_layAll_2 rfl (lv_at hl 2 rfl) ?_
      refine lv_aload_n hx hb dX0_layAll_3 rfl (lv_at hl 0 rfl) ?_
      refine va_get (D := g.1) (ci := 0) (v := .int (nI np)) (C := RX0) (T := TX0) (N := 5) hx hb hts (fun _ h => (List.mem_cons_of_mem _ (List.mem_append_right _ h))) hown hK.1 hP 0 rfl rfl 3 (by decide) (hts _ (List.mem_of_getElem? (i := 1) rfl)) (fun _ h9 => h9) rfl dX0_layAll_4 ?_
      refine n_icmp_ge (a := i) (b := np) (tgt := 28) hx hb (by omega) (by omega) dX0_layAll_7 (by decide) (fun c7 => ?_) (fun c7 => ?_)
      · obtain rfl : np = i := by omega
        exact zretMV (w1 := fun uu => wC g co ck ch cl np sl kd hg (fil (fun q => fset np sl kd hg q m) lk np)) () hx hb hr hlocks hS trivial hP dX0_layAll_28
      · refine lv_aload_n hx hb dX0_layAll_10 rfl (lv_at hl 0 rfl) ?_
        refine va_get (D := g.1) (ci := 0) (v := .ref cl) (C := RX0) (T := TX0) (N := 5) hx hb hts (fun _ h => (List.mem_cons_of_mem _ (List.mem_append_right _ h))) hown hK.1 hP 0 rfl rfl 2 (by decide) (hts _ (List.mem_of_getElem? (i := 2) rfl)) (fun _ h9 => h9) rfl dX0_layAll_11 ?_
        refine lv_iload_n hx hb dX0_layAll_14 rfl (lv_at hl 2 rfl) ?_
        refine lv_aload_n hx hb dX0_layAll_15 rfl (lv_at hl 0 rfl) ?_
        refine lv_iload_n hx hb dX0_layAll_16 rfl (lv_at hl 2 rfl) ?_
        refine lv_iload_n hx hb dX0_layAll_17 rfl (lv_at hl 1 rfl) ?_
        have hPc : PP g (wC g co ck ch cl np sl kd hg (fil (fun q => fset np sl kd hg q m) lk i)) _ := hP
        refine zcallR (va_runV (As := [.int (nI i), .int (nI m)]) (rest := [.int (nI i), .ref cl]) (b := co) S0 (c_X0_fitting l g co ck ch cl np sl kd hg (fil (fun q => fset np sl kd hg q m) lk i) i m hnp hsl hkd hhg (by omega) (by omega)) (cwV 2 hts gX0_layAll_X0_fitting rfl rfl rfl (by decide +kernel) ⟨by decide, by decide⟩) (zpreV hK hPc (va_recv hK.1 hPc (ci := 0) (q0 := 0) rfl rfl)) rfl rfl hl.1 rfl (lv_room (Nat.le_of_ble_eq_true rfl)) dX0_layAll_18 ⟨by decide, by decide⟩) (fun r18 h18 => ?_)
        subst h18
        have f1 := fset_64 hnp sl kd hg i m
        refine n_iast (i := i) (x := (nI (fset np sl kd hg i m))) (ws1 := wC g co ck ch cl np sl kd hg (va_up (fil (fun q => fset np sl kd hg q m) lk i) i (fset np sl kd hg i m))) hx hb hK.1 hP hD hS 3 0 rfl rfl (by omega) (by decide) (fun j => nI ((va_up (fil (fun q => fset np sl kd hg q m) lk i) i (fset np sl kd hg i m)) j)) (upd_nI _ _ _) rfl dX0_layAll_21 (fun H locs hP hD hS => ?_)
        refine n_iinc (a := i) (d := 1) (lv' := [(2, .int (nI (i + 1))), (0, .ref co), (1, .int (nI m))]) hx hb dX0_layAll_22 hl (k := 2) rfl (by decide) (by decide) rfl (fun ls hl => ?_)
        refine lv_goto (tgt := 2) hx hb dX0_layAll_25 (by decide) ?_
        rw [fil_up (fun q => fset np sl kd hg q m) lk i] at hP hD
        exact ih (i + 1) _ _ ls (by omega) (by omega) hP hD hS (lv_sub hl [1, 2, 0] rfl)
  exact lp2 (np - 0 + 1) 0 _ _ ls (Nat.lt_succ_self _) (by omega) (by rw [fil_0]; exact hP) (by rw [fil_0]; exact hD) hS (lv_sub hl [1, 2, 0] rfl)

set_option maxHeartbeats 8000000 in
set_option maxRecDepth 100000 in
theorem c_X0_freedBy (l : Launch) (g : Gx) (co : Nat) (ck : Nat) (ch : Nat) (cl : Nat) (np : Nat) (sl : Nat) (kd : Nat → Nat) (hg : Nat → Nat) (lk : Nat → Nat) (b : Nat) (hnp : np ≤ 6) (hb6 : b < 64) : Met l yX0_freedBy wsX0_freedBy ({ frames := 1, cells := 0, slots := 0, locals := 21 } : Room) (PcR g [.ref co, .int (nI b)] (wC g co ck ch cl np sl kd hg lk)) (vp_Si (fun r => r = nI (bset (frb lk b) np))) 0 0 (fun _ => False) := by
  refine zenterR (cc := cX0_freedBy) (maxL := 4) (ret := (some .int)) (by decide) rfl (Nat.le_of_ble_eq_true rfl) ?_
  intro P E s mt below meth cd ls hx hb hml hown hts hr hlocks hP hK hl
  have hl : lv_has ls 4 [(0, .ref co), (1, .int (nI b))] := hl
  have S0 : CallFix P mt cd cX0_freedBy 4 s [.ref co, .int (nI b)].toArray wsX0_freedBy RX0 := ⟨hx, hb, hml, hown, hts⟩
  refine lv_iconst (v := (nI 0)) hx hb dX0_freedBy_0 (by decide) ?_
  refine lv_istore_n (lv' := [(2, .int (nI 0)), (0, .ref co), (1, .int (nI b))]) hx hb dX0_freedBy_1 rfl hl (by decide) rfl (fun ls hl => ?_)
  refine lv_iconst (v := (nI 0)) hx hb dX0_freedBy_2 (by decide) ?_
  refine lv_istore_n (lv' := [(3, .int (nI 0)), (2, .int (nI 0)), (0, .ref co), (1, .int (nI b))]) hx hb dX0_freedBy_3 rfl hl (by decide) rfl (fun ls hl => ?_)
  have lp4 : ∀ (nn : Nat) (i : Nat) (ls : Array Slot), (np - i) < nn → (i ≤ np) → lv_has ls 4 [(0, .ref co), (1, .int (nI b)), (2, .int (nI (bset (frb lk b) i))), (3, .int (nI i))] → W P l E ({ frames := 1, cells := 0, slots := 0, locals := 21 } : Room) s mt [.ref co, .int (nI b)].toArray below meth cd s.heap [] 0 0 (MQ below (vp_Si (fun r => r = nI (bset (frb lk b) np))) [.ref co, .int (nI b)].toArray s 0 0 (fun _ => False)) (F0 mt 4 ls []) := by
    intro nn
    induction nn with
    | zero => intro i ls hmu; exact absurd hmu (Nat.not_lt_zero _)
    | succ nn ih =>
      intro i ls hmu hi hl
      refine lv_iload_n hx hb dX0_freedBy_4 rfl (lv_at hl 3 rfl) ?_
      refine lv_aload_n hx hb dX0_freedBy_5 rfl (lv_at hl 0 rfl) ?_
      refine va_get (D := g.1) (ci := 0) (v := .int (nI np)) (C := RX0) (T := TX0) (N := 5) hx hb hts (fun _ h => (List.mem_cons_of_mem _ (List.mem_append_right _ h))) hown hK.1 hP 0 rfl rfl 3 (by decide) (hts _ (List.mem_of_getElem? (i := 1) rfl)) (fun _ h9 => h9) rfl dX0_freedBy_6 ?_
      refine n_icmp_ge (a := i) (b := np) (tgt := 41) hx hb (by omega) (by omega) dX0_freedBy_9 (by decide) (fun c9 => ?_) (fun c9 => ?_)
      · refine lv_iload_n hx hb dX0_freedBy_41 rfl (lv_at hl 2 rfl) ?_
        exact zretI hx hb hr hlocks rfl (by rw [show i = np by omega]) dX0_freedBy_42
      · refine lv_iload_n hx hb dX0_freedBy_12 rfl (lv_at hl 2 rfl) ?_
        refine lv_aload_n hx hb dX0_freedBy_13 rfl (lv_at hl 0 rfl) ?_
        refine va_get (D := g.1) (ci := 0) (v := .ref cl) (C := RX0) (T := TX0) (N := 5) hx hb hts (fun _ h => (List.mem_cons_of_mem _ (List.mem_append_right _ h))) hown hK.1 hP 0 rfl rfl 2 (by decide) (hts _ (List.mem_of_getElem? (i := 2) rfl)) (fun _ h9 => h9) rfl dX0_freedBy_14 ?_
        refine lv_iload_n hx hb dX0_freedBy_17 rfl (lv_at hl 3 rfl) ?_
        refine n_iald (i := i) (v := (nI (lk i))) hx hb hK.1 hP 3 0 rfl rfl (by omega) (by decide) rfl dX0_freedBy_18 ?_
        refine lv_iload_n hx hb dX0_freedBy_19 rfl (lv_at hl 1 rfl) ?_
        refine n_iand (a := (lk i)) (b := b) hx hb dX0_freedBy_20 ?_
        refine n_if_eq (a := ((lk i) &&& b)) (tgt := 28) hx hb (Nat.lt_trans (and_lt hb6) (by decide)) dX0_freedBy_21 (by decide) (fun c21 => ?_) (fun c21 => ?_)
        · refine lv_iconst (v := (nI 0)) hx hb dX0_freedBy_28 (by decide) ?_
          refine ztopI (nI (frb lk b i)) (by rw [frb, b01_f (fun z => z c21)]) ?_
          refine lv_iload_n hx hb dX0_freedBy_29 rfl (lv_at hl 3 rfl) ?_
          refine zcallR (va_runSN (As := [.int (nI (frb lk b i)), .int (nI i)]) (rest := [.int (nI (bset (frb lk b) i))]) S0 (c_X4_bitIf l g (frb lk b i) i (b01_le _) (by omega)) ⟨va_cnB 2 hts gX0_freedBy_X4_bitIf_n81 rfl rfl rfl hK.2.2.2.2.2.1 (hts _ (List.mem_of_getElem? (i := 4) rfl)) (by decide +kernel) ⟨by decide, by decide⟩, (hts _ (List.mem_of_getElem? (i := 3) rfl)), trivial⟩ (zpreS hK (P_nil _)) rfl rfl hl.1 rfl (lv_room (Nat.le_of_ble_eq_true rfl)) dX0_freedBy_30 ⟨by decide, by decide⟩) (fun r30 h30 => ?_)
          subst h30
          have f1 := bt_ltE (frb lk b i) i
          refine n_ior (a := (bset (frb lk b) i)) (b := (bt (frb lk b i) i)) hx hb dX0_freedBy_33 ?_
          refine lv_istore_n (lv' := [(2, .int (nI ((bset (frb lk b) i) ||| (bt (frb lk b i) i)))), (0, .ref co), (1, .int (nI b)), (3, .int (nI i))]) hx hb dX0_freedBy_34 rfl hl (by decide) rfl (fun ls hl => ?_)
          refine n_iinc (a := i) (d := 1) (lv' := [(3, .int (nI (i + 1))), (2, .int (nI ((bset (frb lk b) i) ||| (bt (frb lk b i) i)))), (0, .ref co), (1, .int (nI b))]) hx hb dX0_freedBy_35 hl (k := 3) rfl (by decide) (by decide) rfl (fun ls hl => ?_)
          refine lv_goto (tgt := 4) hx hb dX0_freedBy_38 (by decide) ?_
          exact ih (i + 1)  ls (by omega) (by omega) (lv_sub hl [2, 3, 1, 0] rfl)
        · refine lv_iconst (v := (nI 1)) hx hb dX0_freedBy_24 (by decide) ?_
          refine ztopI (nI (frb lk b i)) (by rw [frb, b01_t c21]) ?_
          refine lv_goto (tgt := 29) hx hb dX0_freedBy_25 (by decide) ?_
          refine lv_iload_n hx hb dX0_freedBy_29 rfl (lv_at hl 3 rfl) ?_
          refine zcallR (va_runSN (As := [.int (nI (frb lk b i)), .int (nI i)]) (rest := [.int (nI (bset (frb lk b) i))]) S0 (c_X4_bitIf l g (frb lk b i) i (b01_le _) (by omega)) ⟨va_cnB 2 hts gX0_freedBy_X4_bitIf_n81 rfl rfl rfl hK.2.2.2.2.2.1 (hts _ (List.mem_of_getElem? (i := 4) rfl)) (by decide +kernel) ⟨by decide, by decide⟩, (hts _ (List.mem_of_getElem? (i := 3) rfl)), trivial⟩ (zpreS hK (P_nil _)) rfl rfl hl.1 rfl (lv_room (Nat.le_of_ble_eq_true rfl)) dX0_freedBy_30 ⟨by decide, by decide⟩) (fun r30 h30 => ?_)
          subst h30
          have f2 := bt_ltE (frb lk b i) i
          refine n_ior (a := (bset (frb lk b) i)) (b := (bt (frb lk b i) i)) hx hb dX0_freedBy_33 ?_
          refine lv_istore_n (lv' := [(2, .int (nI ((bset (frb lk b) i) ||| (bt (frb lk b i) i)))), (0, .ref co), (1, .int (nI b)), (3, .int (nI i))]) hx hb dX0_freedBy_34 rfl hl (by decide) rfl (fun ls hl => ?_)
          refine n_iinc (a := i) (d := 1) (lv' := [(3, .int (nI (i + 1))), (2, .int (nI ((bset (frb lk b) i) ||| (bt (frb lk b i) i)))), (0, .ref co), (1, .int (nI b))]) hx hb dX0_freedBy_35 hl (k := 3) rfl (by decide) (by decide) rfl (fun ls hl => ?_)
          refine lv_goto (tgt := 4) hx hb dX0_freedBy_38 (by decide) ?_
          exact ih (i + 1)  ls (by omega) (by omega) (lv_sub hl [2, 3, 1, 0] rfl)
  exact lp4 (np - 0 + 1) 0  ls (Nat.lt_succ_self _) (by omega) (lv_sub hl [2, 3, 1, 0] rfl)
end
section
theorem zz_last : (1 : Nat) = 1 := rfl
end
