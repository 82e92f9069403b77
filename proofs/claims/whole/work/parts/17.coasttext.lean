abbrev wCS (g : Gx) (co : Nat) (ck : Nat) (ch : Nat) (cl : Nat) (sa : Nat) (ca : Nat) (np : Nat) (sl : Nat) (kd : Nat → Nat) (hg : Nat → Nat) (lk : Nat → Nat) (la : Int32) (le : Nat) (ce : Nat → Int32) : va_W := wC g co ck ch cl np sl kd hg lk ++ wS g sa ca la le ce
theorem ad_wCS {g : Gx} {co : Nat} {ck : Nat} {ch : Nat} {cl : Nat} {sa : Nat} {ca : Nat} {np : Nat} {sl : Nat} {kd : Nat → Nat} {hg : Nat → Nat} {lk : Nat → Nat} {la : Int32} {le : Nat} {ce : Nat → Int32} : (wCS g co ck ch cl sa ca np sl kd hg lk la le ce).map (fun x => x.1) = [co, ck, ch, cl, sa, ca] := rfl
theorem lz_wCS {g : Gx} {co : Nat} {ck : Nat} {ch : Nat} {cl : Nat} {sa : Nat} {ca : Nat} {np : Nat} {sl : Nat} {kd : Nat → Nat} {hg : Nat → Nat} {lk : Nat → Nat} {la : Int32} {le : Nat} {ce : Nat → Int32} : (wCS g co ck ch cl sa ca np sl kd hg lk la le ce).length = 6 := rfl
set_option maxHeartbeats 4000000 in
set_option maxRecDepth 100000 in
theorem c_X0_isDigit (l : Launch) (g : Gx) (x : Int32) : Met l yX0_isDigit wsX0_isDigit ({ frames := 0, cells := 0, slots := 0, locals := 0 } : Room) (PcR g [.int x] (([] : va_W))) (vp_Si (fun r => r = nI (dgb x))) 0 0 (fun _ => False) := by
  refine zenterR (cc := cX0_isDigit) (maxL := 1) (ret := (some .boolean)) (by decide) rfl (Nat.le_of_ble_eq_true rfl) ?_
  intro P E s mt below meth cd ls hx hb hml hown hts hr hlocks hP hK hl
  have hl : lv_has ls 1 [(0, .int x)] := hl
  have S0 : CallFix P mt cd cX0_isDigit 1 s [.int x].toArray wsX0_isDigit RX0 := ⟨hx, hb, hml, hown, hts⟩
  refine lv_iload_n hx hb dX0_isDigit_0 rfl (lv_at hl 0 rfl) ?_
  refine lv_bipush (v := (nI 48)) hx hb dX0_isDigit_1 (by decide) ?_
  refine lv_icmp_lt (tgt := 16) hx hb dX0_isDigit_3 (by decide) (fun c3 => ?_) (fun c3 => ?_)
  · refine lv_iconst (v := (nI 0)) hx hb dX0_isDigit_16 (by decide) ?_
    exact zretI hx hb hr hlocks rfl (by rw [dgb, b01_f (fun z => absurd z.1 (i_nle.mpr c3))]) dX0_isDigit_17
  · refine lv_iload_n hx hb dX0_isDigit_6 rfl (lv_at hl 0 rfl) ?_
    refine lv_bipush (v := (nI 57)) hx hb dX0_isDigit_7 (by decide) ?_
    refine lv_icmp_gt (tgt := 16) hx hb dX0_isDigit_9 (by decide) (fun c9 => ?_) (fun c9 => ?_)
    · refine lv_iconst (v := (nI 0)) hx hb dX0_isDigit_16 (by decide) ?_
      exact zretI hx hb hr hlocks rfl (by rw [dgb, b01_f (fun z => absurd z.2 (i_nle.mpr c9))]) dX0_isDigit_17
    · refine lv_iconst (v := (nI 1)) hx hb dX0_isDigit_12 (by decide) ?_
      refine lv_goto (tgt := 17) hx hb dX0_isDigit_13 (by decide) ?_
      exact zretI hx hb hr hlocks rfl (by rw [dgb, b01_t ⟨i_nlt.mp c3, i_nlt.mp c9⟩]) dX0_isDigit_17

set_option maxHeartbeats 4000000 in
set_option maxRecDepth 100000 in
theorem c_X0_goesOn (l : Launch) (g : Gx) (k : Nat) (x : Int32) (hk : k < 100) : Met l yX0_goesOn wsX0_goesOn ({ frames := 1, cells := 0, slots := 0, locals := 20 } : Room) (PcR g [.int (nI k), .int x] (([] : va_W))) (vp_Si (fun r => r = nI (gob k x))) 0 0 (fun _ => False) := by
  refine zenterR (cc := cX0_goesOn) (maxL := 2) (ret := (some .boolean)) (by decide) rfl (Nat.le_of_ble_eq_true rfl) ?_
  intro P E s mt below meth cd ls hx hb hml hown hts hr hlocks hP hK hl
  have hl : lv_has ls 2 [(0, .int (nI k)), (1, .int x)] := hl
  have S0 : CallFix P mt cd cX0_goesOn 2 s [.int (nI k), .int x].toArray wsX0_goesOn RX0 := ⟨hx, hb, hml, hown, hts⟩
  refine lv_iload_n hx hb dX0_goesOn_0 rfl (lv_at hl 0 rfl) ?_
  refine lv_bipush (v := (nI 32)) hx hb dX0_goesOn_1 (by decide) ?_
  refine n_icmp_lt (a := k) (b := 32) (tgt := 8) hx hb (by omega) (by omega) dX0_goesOn_3 (by decide) (fun c3 => ?_) (fun c3 => ?_)
  · refine lv_iload_n hx hb dX0_goesOn_8 rfl (lv_at hl 0 rfl) ?_
    refine lv_iconst (v := (nI 2)) hx hb dX0_goesOn_9 (by decide) ?_
    refine n_icmp_ge (a := k) (b := 2) (tgt := 36) hx hb (by omega) (by omega) dX0_goesOn_10 (by decide) (fun c10 => ?_) (fun c10 => ?_)
    · refine lv_iload_n hx hb dX0_goesOn_36 rfl (lv_at hl 0 rfl) ?_
      refine lv_iconst (v := (nI 2)) hx hb dX0_goesOn_37 (by decide) ?_
      refine n_isub (a := k) (b := 2) hx hb (by omega) dX0_goesOn_38 ?_
      refine lv_iconst (v := (nI 5)) hx hb dX0_goesOn_39 (by decide) ?_
      refine n_irem (a := (k - 2)) (b := 5) hx hb (by omega) (by decide) (by decide) dX0_goesOn_40 ?_
      by_cases c41_0 : ((k - 2) % 5) = 0
      · refine ztopI (nI 0) (by rw [c41_0]) ?_
        refine lv_lookup (off := 27) (tgt := 68) hx hb dX0_goesOn_41 (by decide) (by decide) (by decide) ?_
        refine lv_iload_n hx hb dX0_goesOn_68 rfl (lv_at hl 1 rfl) ?_
        refine lv_bipush (v := (nI 59)) hx hb dX0_goesOn_69 (by decide) ?_
        refine lv_icmp_ne (tgt := 78) hx hb dX0_goesOn_71 (by decide) (fun c71 => ?_) (fun c71 => ?_)
        · refine lv_iconst (v := (nI 0)) hx hb dX0_goesOn_78 (by decide) ?_
          exact zretI hx hb hr hlocks rfl (by rw [gob, if_neg (by omega), if_neg (by omega), if_neg (by omega), if_pos c41_0, b01_f c71]) dX0_goesOn_79
        · refine lv_iconst (v := (nI 1)) hx hb dX0_goesOn_74 (by decide) ?_
          refine lv_goto (tgt := 79) hx hb dX0_goesOn_75 (by decide) ?_
          exact zretI hx hb hr hlocks rfl (by rw [gob, if_neg (by omega), if_neg (by omega), if_neg (by omega), if_pos c41_0, b01_t c71]) dX0_goesOn_79
      by_cases c41_1 : ((k - 2) % 5) = 1
      · refine ztopI (nI 1) (by rw [c41_1]) ?_
        refine lv_lookup (off := 39) (tgt := 80) hx hb dX0_goesOn_41 (by decide) (by decide) (by decide) ?_
        refine lv_iload_n hx hb dX0_goesOn_80 rfl (lv_at hl 1 rfl) ?_
        refine lv_bipush (v := (nI 112)) hx hb dX0_goesOn_81 (by decide) ?_
        refine lv_icmp_eq (tgt := 98) hx hb dX0_goesOn_83 (by decide) (fun c83 => ?_) (fun c83 => ?_)
        · refine lv_iconst (v := (nI 1)) hx hb dX0_goesOn_98 (by decide) ?_
          refine lv_goto (tgt := 103) hx hb dX0_goesOn_99 (by decide) ?_
          exact zretI hx hb hr hlocks rfl (by rw [gob, if_neg (by omega), if_neg (by omega), if_neg (by omega), if_neg c41_0, if_pos c41_1, b01_t (Or.inl c83)]) dX0_goesOn_103
        · refine lv_iload_n hx hb dX0_goesOn_86 rfl (lv_at hl 1 rfl) ?_
          refine lv_bipush (v := (nI 108)) hx hb dX0_goesOn_87 (by decide) ?_
          refine lv_icmp_eq (tgt := 98) hx hb dX0_goesOn_89 (by decide) (fun c89 => ?_) (fun c89 => ?_)
          · refine lv_iconst (v := (nI 1)) hx hb dX0_goesOn_98 (by decide) ?_
            refine lv_goto (tgt := 103) hx hb dX0_goesOn_99 (by decide) ?_
            exact zretI hx hb hr hlocks rfl (by rw [gob, if_neg (by omega), if_neg (by omega), if_neg (by omega), if_neg c41_0, if_pos c41_1, b01_t (Or.inr (Or.inl c89))]) dX0_goesOn_103
          · refine lv_iload_n hx hb dX0_goesOn_92 rfl (lv_at hl 1 rfl) ?_
            refine lv_bipush (v := (nI 100)) hx hb dX0_goesOn_93 (by decide) ?_
            refine lv_icmp_ne (tgt := 102) hx hb dX0_goesOn_95 (by decide) (fun c95 => ?_) (fun c95 => ?_)
            · refine lv_iconst (v := (nI 0)) hx hb dX0_goesOn_102 (by decide) ?_
              exact zretI hx hb hr hlocks rfl (by rw [gob, if_neg (by omega), if_neg (by omega), if_neg (by omega), if_neg c41_0, if_pos c41_1, b01_f (fun z => z.elim c83 (fun z => z.elim c89 c95))]) dX0_goesOn_103
            · refine lv_iconst (v := (nI 1)) hx hb dX0_goesOn_98 (by decide) ?_
              refine lv_goto (tgt := 103) hx hb dX0_goesOn_99 (by decide) ?_
              exact zretI hx hb hr hlocks rfl (by rw [gob, if_neg (by omega), if_neg (by omega), if_neg (by omega), if_neg c41_0, if_pos c41_1, b01_t (Or.inr (Or.inr c95))]) dX0_goesOn_103
      refine lv_lookup (off := 63) (tgt := 104) hx hb dX0_goesOn_41 (by decide) (by rw [lv_osw (k := nI 0) (nI_neI (by omega) (by decide) c41_0) (by decide)]; rw [lv_osw (k := nI 1) (nI_neI (by omega) (by decide) c41_1) (by decide)]; rfl) (by decide) ?_
      refine lv_iload_n hx hb dX0_goesOn_104 rfl (lv_at hl 1 rfl) ?_
      refine zcallR (va_runS (As := [.int x]) (rest := []) S0 (c_X0_isDigit l g x) (va_cwS 1 hts gX0_goesOn_X0_isDigit rfl rfl rfl (by decide +kernel) ⟨by decide, by decide⟩) (zpreS hK (P_nil _)) rfl rfl hl.1 rfl (lv_room (Nat.le_of_ble_eq_true rfl)) dX0_goesOn_105 ⟨by decide, by decide⟩) (fun r105 h105 => ?_)
      subst h105
      have f1 := b01_le (dg x)
      exact zretI hx hb hr hlocks (nar_b (b01_le _)) (by rw [gob, if_neg (by omega), if_neg (by omega), if_neg (by omega), if_neg c41_0, if_neg c41_1]) dX0_goesOn_108
    · refine lv_iload_n hx hb dX0_goesOn_13 rfl (lv_at hl 0 rfl) ?_
      refine n_if_ne (a := k) (tgt := 31) hx hb (by omega) dX0_goesOn_14 (by decide) (fun c14 => ?_) (fun c14 => ?_)
      · refine lv_iload_n hx hb dX0_goesOn_31 rfl (lv_at hl 1 rfl) ?_
        refine zcallR (va_runS (As := [.int x]) (rest := []) S0 (c_X0_isDigit l g x) (va_cwS 1 hts gX0_goesOn_X0_isDigit rfl rfl rfl (by decide +kernel) ⟨by decide, by decide⟩) (zpreS hK (P_nil _)) rfl rfl hl.1 rfl (lv_room (Nat.le_of_ble_eq_true rfl)) dX0_goesOn_32 ⟨by decide, by decide⟩) (fun r32 h32 => ?_)
        subst h32
        have f2 := b01_le (dg x)
        exact zretI hx hb hr hlocks (nar_b (b01_le _)) (by rw [gob, if_neg (by omega), if_neg c14, if_pos (by omega)]) dX0_goesOn_35
      · refine lv_iload_n hx hb dX0_goesOn_17 rfl (lv_at hl 1 rfl) ?_
        refine lv_bipush (v := (nI 101)) hx hb dX0_goesOn_18 (by decide) ?_
        refine lv_icmp_ne (tgt := 27) hx hb dX0_goesOn_20 (by decide) (fun c20 => ?_) (fun c20 => ?_)
        · refine lv_iconst (v := (nI 0)) hx hb dX0_goesOn_27 (by decide) ?_
          refine lv_goto (tgt := 35) hx hb dX0_goesOn_28 (by decide) ?_
          exact zretI hx hb hr hlocks rfl (by rw [gob, if_neg (by omega), if_pos c14, b01_f c20]) dX0_goesOn_35
        · refine lv_iconst (v := (nI 1)) hx hb dX0_goesOn_23 (by decide) ?_
          refine lv_goto (tgt := 35) hx hb dX0_goesOn_24 (by decide) ?_
          exact zretI hx hb hr hlocks rfl (by rw [gob, if_neg (by omega), if_pos c14, b01_t c20]) dX0_goesOn_35
  · refine lv_iconst (v := (nI 0)) hx hb dX0_goesOn_6 (by decide) ?_
    exact zretI hx hb hr hlocks rfl (by rw [gob, if_pos c3]) dX0_goesOn_7

set_option maxHeartbeats 4000000 in
set_option maxRecDepth 100000 in
theorem c_X0_kindByLetter (l : Launch) (g : Gx) (x : Int32) : Met l yX0_kindByLetter wsX0_kindByLetter ({ frames := 0, cells := 0, slots := 0, locals := 0 } : Room) (PcR g [.int x] (([] : va_W))) (vp_Si (fun r => r = nI (kl x))) 0 0 (fun _ => False) := by
  refine zenterR (cc := cX0_kindByLetter) (maxL := 1) (ret := (some .int)) (by decide) rfl (Nat.le_of_ble_eq_true rfl) ?_
  intro P E s mt below meth cd ls hx hb hml hown hts hr hlocks hP hK hl
  have hl : lv_has ls 1 [(0, .int x)] := hl
  have S0 : CallFix P mt cd cX0_kindByLetter 1 s [.int x].toArray wsX0_kindByLetter RX0 := ⟨hx, hb, hml, hown, hts⟩
  refine lv_iload_n hx hb dX0_kindByLetter_0 rfl (lv_at hl 0 rfl) ?_
  by_cases c1_100 : x = nI 100
  · refine ztopI (nI 100) c1_100 ?_
    refine lv_lookup (off := 27) (tgt := 28) hx hb dX0_kindByLetter_1 (by decide) (by decide) (by decide) ?_
    refine lv_iconst (v := (nI 2)) hx hb dX0_kindByLetter_28 (by decide) ?_
    exact zretI hx hb hr hlocks rfl (by rw [kl, if_pos c1_100]) dX0_kindByLetter_29
  by_cases c1_108 : x = nI 108
  · refine ztopI (nI 108) c1_108 ?_
    refine lv_lookup (off := 29) (tgt := 30) hx hb dX0_kindByLetter_1 (by decide) (by decide) (by decide) ?_
    refine lv_iconst (v := (nI 1)) hx hb dX0_kindByLetter_30 (by decide) ?_
    exact zretI hx hb hr hlocks rfl (by rw [kl, if_neg c1_100, if_pos c1_108]) dX0_kindByLetter_31
  refine lv_lookup (off := 31) (tgt := 32) hx hb dX0_kindByLetter_1 (by decide) (by rw [lv_osw (k := nI 100) c1_100 (by decide)]; rw [lv_osw (k := nI 108) c1_108 (by decide)]; rfl) (by decide) ?_
  refine lv_iconst (v := (nI 0)) hx hb dX0_kindByLetter_32 (by decide) ?_
  exact zretI hx hb hr hlocks rfl (by rw [kl, if_neg c1_100, if_neg c1_108]) dX0_kindByLetter_33

set_option maxHeartbeats 4000000 in
set_option maxRecDepth 100000 in
theorem c_X0_firstWrongCode (l : Launch) (g : Gx) (sa : Nat) (ca : Nat) (la : Int32) (le : Nat) (ce : Nat → Int32) (i : Nat) (n : Nat) (hle : le ≤ 60) (hin : i + n ≤ le) : Met l yX0_firstWrongCode wsX0_firstWrongCode ({ frames := 2, cells := 0, slots := 0, locals := 42 } : Room) (PcR g [.ref sa, .int (nI i), .int (nI n)] (wS g sa ca la le ce)) (vp_Si (fun r => r = fwc (fun k => ce (i + k)) n)) 0 0 (fun _ => False) := by
  refine zenterR (cc := cX0_firstWrongCode) (maxL := 4) (ret := (some .int)) (by decide) rfl (Nat.le_of_ble_eq_true rfl) ?_
  intro P E s mt below meth cd ls hx hb hml hown hts hr hlocks hP hK hl
  have hl : lv_has ls 4 [(0, .ref sa), (1, .int (nI i)), (2, .int (nI n))] := hl
  have S0 : CallFix P mt cd cX0_firstWrongCode 4 s [.ref sa, .int (nI i), .int (nI n)].toArray wsX0_firstWrongCode RX0 := ⟨hx, hb, hml, hown, hts⟩
  refine lv_iconst (v := (nI 0)) hx hb dX0_firstWrongCode_0 (by decide) ?_
  refine lv_istore_n (lv' := [(3, .int (nI 0)), (0, .ref sa), (1, .int (nI i)), (2, .int (nI n))]) hx hb dX0_firstWrongCode_1 rfl hl (by decide) rfl (fun ls hl => ?_)
  have lp2 : ∀ (nn : Nat) (k : Nat) (ls : Array Slot), (n - k) < nn → (k ≤ n) → (fb (tx (fun k => ce (i + k))) k = none) → lv_has ls 4 [(0, .ref sa), (1, .int (nI i)), (2, .int (nI n)), (3, .int (nI k))] → W P l E ({ frames := 2, cells := 0, slots := 0, locals := 42 } : Room) s mt [.ref sa, .int (nI i), .int (nI n)].toArray below meth cd s.heap [] 0 0 (MQ below (vp_Si (fun r => r = fwc (fun k => ce (i + k)) n)) [.ref sa, .int (nI i), .int (nI n)].toArray s 0 0 (fun _ => False)) (F0 mt 2 ls []) := by
    intro nn
    induction nn with
    | zero => intro k ls hmu; exact absurd hmu (Nat.not_lt_zero _)
    | succ nn ih2 =>
      intro k ls hmu hk hv hl
      refine lv_iload_n hx hb dX0_firstWrongCode_2 rfl (lv_at hl 3 rfl) ?_
      refine lv_iload_n hx hb dX0_firstWrongCode_3 rfl (lv_at hl 2 rfl) ?_
      refine n_icmp_ge (a := k) (b := n) (tgt := 29) hx hb (by omega) (by omega) dX0_firstWrongCode_4 (by decide) (fun c4 => ?_) (fun c4 => ?_)
      · obtain rfl : n = k := by omega
        refine lv_iload_n hx hb dX0_firstWrongCode_29 rfl (lv_at hl 2 rfl) ?_
        refine lv_bipush (v := (nI 12)) hx hb dX0_firstWrongCode_30 (by decide) ?_
        refine n_icmp_lt (a := n) (b := 12) (tgt := 47) hx hb (by omega) (by omega) dX0_firstWrongCode_32 (by decide) (fun c32 => ?_) (fun c32 => ?_)
        · refine lv_iconst (v := (nI 0)) hx hb dX0_firstWrongCode_47 (by decide) ?_
          refine lv_istore_n (lv' := [(3, .int (nI 0)), (0, .ref sa), (1, .int (nI i)), (2, .int (nI n))]) hx hb dX0_firstWrongCode_48 rfl hl (by decide) rfl (fun ls hl => ?_)
          refine lv_iload_n hx hb dX0_firstWrongCode_49 rfl (lv_at hl 0 rfl) ?_
          refine lv_if_eq (tgt := 58) hx hb dX0_firstWrongCode_50 (by decide) (fun c50 => ?_) (fun c50 => ?_)
          rotate_left
          · exact absurd (by decide) c50
          refine lv_iload_n hx hb dX0_firstWrongCode_58 rfl (lv_at hl 3 rfl) ?_
          exact zretI hx hb hr hlocks rfl (fwc_no hv (fun z => absurd z.1 (by omega))).symm dX0_firstWrongCode_59
        · refine lv_iload_n hx hb dX0_firstWrongCode_35 rfl (lv_at hl 2 rfl) ?_
          refine lv_iconst (v := (nI 2)) hx hb dX0_firstWrongCode_36 (by decide) ?_
          refine n_isub (a := n) (b := 2) hx hb (by omega) dX0_firstWrongCode_37 ?_
          refine lv_iconst (v := (nI 5)) hx hb dX0_firstWrongCode_38 (by decide) ?_
          refine n_irem (a := (n - 2)) (b := 5) hx hb (by omega) (by decide) (by decide) dX0_firstWrongCode_39 ?_
          refine n_if_ne (a := ((n - 2) % 5)) (tgt := 47) hx hb (by omega) dX0_firstWrongCode_40 (by decide) (fun c40 => ?_) (fun c40 => ?_)
          · refine lv_iconst (v := (nI 0)) hx hb dX0_firstWrongCode_47 (by decide) ?_
            refine lv_istore_n (lv' := [(3, .int (nI 0)), (0, .ref sa), (1, .int (nI i)), (2, .int (nI n))]) hx hb dX0_firstWrongCode_48 rfl hl (by decide) rfl (fun ls hl => ?_)
            refine lv_iload_n hx hb dX0_firstWrongCode_49 rfl (lv_at hl 0 rfl) ?_
            refine lv_if_eq (tgt := 58) hx hb dX0_firstWrongCode_50 (by decide) (fun c50 => ?_) (fun c50 => ?_)
            rotate_left
            · exact absurd (by decide) c50
            refine lv_iload_n hx hb dX0_firstWrongCode_58 rfl (lv_at hl 3 rfl) ?_
            exact zretI hx hb hr hlocks rfl (fwc_no hv (fun z => c40 z.2)).symm dX0_firstWrongCode_59
          · refine lv_iconst (v := (nI 1)) hx hb dX0_firstWrongCode_43 (by decide) ?_
            refine lv_goto (tgt := 48) hx hb dX0_firstWrongCode_44 (by decide) ?_
            refine lv_istore_n (lv' := [(3, .int (nI 1)), (0, .ref sa), (1, .int (nI i)), (2, .int (nI n))]) hx hb dX0_firstWrongCode_48 rfl hl (by decide) rfl (fun ls hl => ?_)
            refine lv_iload_n hx hb dX0_firstWrongCode_49 rfl (lv_at hl 0 rfl) ?_
            refine lv_if_eq (tgt := 58) hx hb dX0_firstWrongCode_50 (by decide) (fun c50 => ?_) (fun c50 => ?_)
            · exact absurd c50 (by decide)
            refine lv_bipush (v := (-9)) hx hb dX0_firstWrongCode_53 (by decide) ?_
            refine lv_goto (tgt := 59) hx hb dX0_firstWrongCode_55 (by decide) ?_
            exact zretI hx hb hr hlocks rfl (fwc_yes hv ⟨c32, c40⟩).symm dX0_firstWrongCode_59
      · refine lv_iload_n hx hb dX0_firstWrongCode_7 rfl (lv_at hl 3 rfl) ?_
        refine lv_aload_n hx hb dX0_firstWrongCode_8 rfl (lv_at hl 0 rfl) ?_
        refine lv_iload_n hx hb dX0_firstWrongCode_9 rfl (lv_at hl 1 rfl) ?_
        refine lv_iload_n hx hb dX0_firstWrongCode_10 rfl (lv_at hl 3 rfl) ?_
        refine n_iadd (a := i) (b := k) hx hb dX0_firstWrongCode_11 ?_
        have hPc : PP g (wS g sa ca la le ce) _ := hP
        refine zcallR (va_runV (As := [.int (nI (i + k))]) (rest := [.int (nI k)]) (b := sa) S0 (c_X2_at l g sa ca la le ce (i + k) hle (by omega)) (cwV 1 hts gX0_firstWrongCode_X2_at rfl rfl rfl (by decide +kernel) ⟨by decide, by decide⟩) (zpreV hK hPc (va_recv hK.1 hPc (ci := 2) (q0 := 0) rfl rfl)) rfl rfl hl.1 rfl (lv_room (Nat.le_of_ble_eq_true rfl)) dX0_firstWrongCode_12 ⟨by decide, by decide⟩) (fun r12 h12 => ?_)
        subst h12
        refine zcallR (va_runS (As := [.int (nI k), .int (ce (i + k))]) (rest := []) S0 (c_X0_goesOn l g k (ce (i + k)) (by omega)) (va_cwS 2 hts gX0_firstWrongCode_X0_goesOn rfl rfl rfl (by decide +kernel) ⟨by decide, by decide⟩) (zpreS hK (P_nil _)) rfl rfl hl.1 rfl (lv_room (Nat.le_of_ble_eq_true rfl)) dX0_firstWrongCode_15 ⟨by decide, by decide⟩) (fun r15 h15 => ?_)
        subst h15
        have f1 := gob_le k (ce (i + k))
        refine n_if_ne (a := (gob k (ce (i + k)))) (tgt := 23) hx hb (by omega) dX0_firstWrongCode_18 (by decide) (fun c18 => ?_) (fun c18 => ?_)
        · refine n_iinc (a := k) (d := 1) (lv' := [(3, .int (nI (k + 1))), (0, .ref sa), (1, .int (nI i)), (2, .int (nI n))]) hx hb dX0_firstWrongCode_23 hl (k := 3) rfl (by decide) (by decide) rfl (fun ls hl => ?_)
          refine lv_goto (tgt := 2) hx hb dX0_firstWrongCode_26 (by decide) ?_
          exact ih2 (k + 1)  ls (by omega) (by omega) (fb_go hv c18) (lv_sub hl [1, 2, 3, 0] rfl)
        · refine lv_iload_n hx hb dX0_firstWrongCode_21 rfl (lv_at hl 3 rfl) ?_
          exact zretI hx hb hr hlocks rfl (fwc_bad hv c18 (by omega)).symm dX0_firstWrongCode_22
  exact lp2 (n - 0 + 1) 0  ls (Nat.lt_succ_self _) (by omega) rfl (lv_sub hl [1, 2, 3, 0] rfl)

set_option maxHeartbeats 4000000 in
set_option maxRecDepth 100000 in
theorem c_X0_takeText (l : Launch) (g : Gx) (co : Nat) (ck : Nat) (ch : Nat) (cl : Nat) (sa : Nat) (ca : Nat) (np : Nat) (sl : Nat) (kd : Nat → Nat) (hg : Nat → Nat) (lk : Nat → Nat) (la : Int32) (le : Nat) (ce : Nat → Int32) (i : Nat) (n : Nat) (hle : le ≤ 60) (hin : i + n ≤ le) (hok : okT (fun k => ce (i + k)) n) : Met l yX0_takeText wsX0_takeText ({ frames := 2, cells := 0, slots := 0, locals := 44 } : Room) (PcM g [.ref co, .ref sa, .int (nI i), .int (nI n)] (wCS g co ck ch cl sa ca np sl kd hg lk la le ce)) (va_Qv (fun (uu : Unit) => True) (fun (uu : Unit) t => PP g (wCS g co ck ch cl sa ca ((n - 2) / 5) (dv (ce (i + 1))) (fil (tk (fun k => ce (i + k))) kd ((n - 2) / 5)) (fil (th (fun k => ce (i + k))) hg (3 * ((n - 2) / 5))) lk la le ce) t.heap) (inW (wCS g co ck ch cl sa ca np sl kd hg lk la le ce))) 0 0 (inW (wCS g co ck ch cl sa ca np sl kd hg lk la le ce)) := by
  refine zenterM (cc := cX0_takeText) (maxL := 7) (ret := none) (by decide) rfl (Nat.le_of_ble_eq_true rfl) ?_
  intro P E s mt below meth cd ls hx hb hml hown hts hr hlocks hP hK hD hS hl
  skip
  have hl : lv_has ls 7 [(0, .ref co), (1, .ref sa), (2, .int (nI i)), (3, .int (nI n))] := hl
  have S0 : CallFix P mt cd cX0_takeText 7 s [.ref co, .ref sa, .int (nI i), .int (nI n)].toArray wsX0_takeText RX0 := ⟨hx, hb, hml, hown, hts⟩
  have hn12 := hok.2.1
  have hn32 := hok.2.2.2
  have hn6 : (n - 2) / 5 ≤ 6 := by omega
  refine lv_aload_n hx hb dX0_takeText_0 rfl (lv_at hl 0 rfl) ?_
  refine lv_iload_n hx hb dX0_takeText_1 rfl (lv_at hl 3 rfl) ?_
  refine lv_iconst (v := (nI 2)) hx hb dX0_takeText_2 (by decide) ?_
  refine n_isub (a := n) (b := 2) hx hb (by omega) dX0_takeText_3 ?_
  refine lv_iconst (v := (nI 5)) hx hb dX0_takeText_4 (by decide) ?_
  refine n_idiv (a := (n - 2)) (b := 5) hx hb (by omega) (by decide) (by decide) dX0_takeText_5 ?_
  refine lv_bipush (v := (nI 6)) hx hb dX0_takeText_6 (by decide) ?_
  refine va_mmin hx hb (hml.trans hl.1.symm) hown (hts _ (List.mem_of_getElem? (i := 1) rfl)) (hts _ (List.mem_of_getElem? (i := 2) rfl)) (hts _ (List.mem_of_getElem? (i := 3) rfl)) (hts _ (List.mem_of_getElem? (i := 4) rfl)) (Nat.le_of_ble_eq_true rfl) (Nat.le_of_ble_eq_true rfl) (Nat.zero_le _) (Nat.zero_le _) dX0_takeText_8 ?_
  refine ztopI (nI ((n - 2) / 5)) (if_neg (nI_nlt hn6 (by decide))) ?_
  refine n_put (D := g.1) (ci := 0) (v := .int (nI ((n - 2) / 5))) (ty := .int) (C := RX0) (T := TX0) (N := 5) (ws1 := wCS g co ck ch cl sa ca ((n - 2) / 5) sl kd hg lk la le ce) hx hb hts (fun _ h => (List.mem_cons_of_mem _ (List.mem_append_left _ (List.mem_append_right _ h)))) tyX0 tyX0_ok nmX0 hown hK.1 hP hD hS 0 rfl rfl 3 (by decide) (hts _ (List.mem_of_getElem? (i := 5) rfl)) (fun _ h9 => h9) rfl (by decide +kernel) rfl rfl (Nat.le_of_ble_eq_true rfl) rfl dX0_takeText_11 (fun H locs hP hD hS => ?_)
  refine lv_aload_n hx hb dX0_takeText_14 rfl (lv_at hl 0 rfl) ?_
  refine lv_aload_n hx hb dX0_takeText_15 rfl (lv_at hl 1 rfl) ?_
  refine lv_iload_n hx hb dX0_takeText_16 rfl (lv_at hl 2 rfl) ?_
  refine lv_iconst (v := (nI 1)) hx hb dX0_takeText_17 (by decide) ?_
  refine n_iadd (a := i) (b := 1) hx hb dX0_takeText_18 ?_
  have hPc : PP g (wS g sa ca la le ce) _ := (P_sub (w := wS g sa ca la le ce) hP [4, 5] rfl)
  refine zcallR (va_runV (As := [.int (nI (i + 1))]) (rest := [.ref co]) (b := sa) S0 (c_X2_at l g sa ca la le ce (i + 1) hle (by omega)) (cwV 1 hts gX0_takeText_X2_at rfl rfl rfl (by decide +kernel) ⟨by decide, by decide⟩) (zpreV hK hPc (va_recv hK.1 hPc (ci := 2) (q0 := 0) rfl rfl)) rfl rfl hl.1 rfl (lv_room (Nat.le_of_ble_eq_true rfl)) dX0_takeText_19 ⟨by decide, by decide⟩) (fun r19 h19 => ?_)
  subst h19
  refine lv_bipush (v := (nI 48)) hx hb dX0_takeText_22 (by decide) ?_
  refine lv_isub hx hb dX0_takeText_24 ?_
  refine ztopI (nI (dv (ce (i + 1)))) ((dg_dv (okT_sl hok)).1) ?_
  refine n_put (D := g.1) (ci := 0) (v := .int (nI (dv (ce (i + 1))))) (ty := .int) (C := RX0) (T := TX0) (N := 5) (ws1 := wCS g co ck ch cl sa ca ((n - 2) / 5) (dv (ce (i + 1))) kd hg lk la le ce) hx hb hts (fun _ h => (List.mem_cons_of_mem _ (List.mem_append_left _ (List.mem_append_right _ h)))) tyX0 tyX0_ok nmX0 hown hK.1 hP hD hS 0 rfl rfl 4 (by decide) (hts _ (List.mem_of_getElem? (i := 6) rfl)) (fun _ h9 => h9) rfl (by decide +kernel) rfl rfl (Nat.le_of_ble_eq_true rfl) rfl dX0_takeText_25 (fun H locs hP hD hS => ?_)
  refine lv_iconst (v := (nI 0)) hx hb dX0_takeText_28 (by decide) ?_
  refine lv_istore (lv' := [(4, .int (nI 0)), (0, .ref co), (1, .ref sa), (2, .int (nI i)), (3, .int (nI n))]) hx hb dX0_takeText_29 hl (by decide) rfl (fun ls hl => ?_)
  have lp31 : ∀ (nn : Nat) (p : Nat) (H : Heap) (locs : List Loc) (ls : Array Slot), (((n - 2) / 5) - p) < nn → (p ≤ ((n - 2) / 5)) → PP g (wCS g co ck ch cl sa ca ((n - 2) / 5) (dv (ce (i + 1))) (fil (tk (fun k => ce (i + k))) kd p) (fil (th (fun k => ce (i + k))) hg (3 * p)) lk la le ce) H → va_D (inW (wCS g co ck ch cl sa ca np sl kd hg lk la le ce)) (wCS g co ck ch cl sa ca ((n - 2) / 5) (dv (ce (i + 1))) (fil (tk (fun k => ce (i + k))) kd p) (fil (th (fun k => ce (i + k))) hg (3 * p)) lk la le ce) → va_S (inW (wCS g co ck ch cl sa ca np sl kd hg lk la le ce)) s.heap H locs → lv_has ls 7 [(0, .ref co), (1, .ref sa), (2, .int (nI i)), (3, .int (nI n)), (4, .int (nI p))] → W P l E ({ frames := 2, cells := 0, slots := 0, locals := 44 } : Room) s mt [.ref co, .ref sa, .int (nI i), .int (nI n)].toArray below meth cd H locs 0 0 (MQ below (va_Qv (fun (uu : Unit) => True) (fun (uu : Unit) t => PP g (wCS g co ck ch cl sa ca ((n - 2) / 5) (dv (ce (i + 1))) (fil (tk (fun k => ce (i + k))) kd ((n - 2) / 5)) (fil (th (fun k => ce (i + k))) hg (3 * ((n - 2) / 5))) lk la le ce) t.heap) (inW (wCS g co ck ch cl sa ca np sl kd hg lk la le ce))) [.ref co, .ref sa, .int (nI i), .int (nI n)].toArray s 0 0 (inW (wCS g co ck ch cl sa ca np sl kd hg lk la le ce))) (F0 mt 31 ls []) := by
    intro nn
    induction nn with
    | zero => intro p H locs ls hmu; exact absurd hmu (Nat.not_lt_zero _)
    | succ nn ih31 =>
      intro p H locs ls hmu hp hP hD hS hl
      refine lv_iload hx hb dX0_takeText_31 (lv_at hl 4 rfl) ?_
      refine lv_aload_n hx hb dX0_takeText_33 rfl (lv_at hl 0 rfl) ?_
      refine va_get (D := g.1) (ci := 0) (v := .int (nI ((n - 2) / 5))) (C := RX0) (T := TX0) (N := 5) hx hb hts (fun _ h => (List.mem_cons_of_mem _ (List.mem_append_left _ (List.mem_append_right _ h)))) hown hK.1 hP 0 rfl rfl 3 (by decide) (hts _ (List.mem_of_getElem? (i := 5) rfl)) (fun _ h9 => h9) rfl dX0_takeText_34 ?_
      refine n_icmp_ge (a := p) (b := ((n - 2) / 5)) (tgt := 111) hx hb (by omega) (by omega) dX0_takeText_37 (by decide) (fun c37 => ?_) (fun c37 => ?_)
      · obtain rfl : ((n - 2) / 5) = p := by omega
        exact zretMV (w1 := fun (uu : Unit) => wCS g co ck ch cl sa ca ((n - 2) / 5) (dv (ce (i + 1))) (fil (tk (fun k => ce (i + k))) kd ((n - 2) / 5)) (fil (th (fun k => ce (i + k))) hg (3 * ((n - 2) / 5))) lk la le ce) () hx hb hr hlocks hS trivial hP dX0_takeText_111
      · refine lv_iload_n hx hb dX0_takeText_40 rfl (lv_at hl 2 rfl) ?_
        refine lv_iconst (v := (nI 2)) hx hb dX0_takeText_41 (by decide) ?_
        refine n_iadd (a := i) (b := 2) hx hb dX0_takeText_42 ?_
        refine lv_iload hx hb dX0_takeText_43 (lv_at hl 4 rfl) ?_
        refine lv_iconst (v := (nI 5)) hx hb dX0_takeText_45 (by decide) ?_
        refine n_imul (a := p) (b := 5) hx hb dX0_takeText_46 ?_
        refine n_iadd (a := (i + 2)) (b := (p * 5)) hx hb dX0_takeText_47 ?_
        refine lv_iconst (v := (nI 1)) hx hb dX0_takeText_48 (by decide) ?_
        refine n_iadd (a := ((i + 2) + (p * 5))) (b := 1) hx hb dX0_takeText_49 ?_
        refine lv_istore (lv' := [(5, .int (nI (((i + 2) + (p * 5)) + 1))), (0, .ref co), (1, .ref sa), (2, .int (nI i)), (3, .int (nI n)), (4, .int (nI p))]) hx hb dX0_takeText_50 hl (by decide) rfl (fun ls hl => ?_)
        refine lv_aload_n hx hb dX0_takeText_52 rfl (lv_at hl 1 rfl) ?_
        refine va_get (D := g.1) (ci := 0) (v := .ref ck) (C := RX0) (T := TX0) (N := 5) hx hb hts (fun _ h => (List.mem_cons_of_mem _ (List.mem_append_left _ (List.mem_append_right _ h)))) hown hK.1 hP 0 rfl rfl 0 (by decide) (hts _ (List.mem_of_getElem? (i := 7) rfl)) (fun _ h9 => h9) rfl dX0_takeText_53 ?_
        refine lv_iload hx hb dX0_takeText_56 (lv_at hl 5 rfl) ?_
        refine lv_aload_n hx hb dX0_takeText_58 rfl (lv_at hl 2 rfl) ?_
        refine lv_iload hx hb dX0_takeText_59 (lv_at hl 0 rfl) ?_
        have hPc : PP g (wS g sa ca la le ce) _ := (P_sub (w := wS g sa ca la le ce) hP [4, 5] rfl)
        refine zcallR (va_runV (As := [.int (nI (((i + 2) + (p * 5)) + 1))]) (rest := [.int (nI p), .ref ck]) (b := sa) S0 (c_X2_at l g sa ca la le ce (((i + 2) + (p * 5)) + 1) hle (by omega)) (cwV 1 hts gX0_takeText_X2_at rfl rfl rfl (by decide +kernel) ⟨by decide, by decide⟩) (zpreV hK hPc (va_recv hK.1 hPc (ci := 2) (q0 := 0) rfl rfl)) rfl rfl hl.1 rfl (lv_room (Nat.le_of_ble_eq_true rfl)) dX0_takeText_61 ⟨by decide, by decide⟩) (fun r61 h61 => ?_)
        subst h61
        refine zcallR (va_runS (As := [.int (ce (((i + 2) + (p * 5)) + 1))]) (rest := [.int (nI p), .ref ck]) S0 (c_X0_kindByLetter l g (ce (((i + 2) + (p * 5)) + 1))) (va_cwS 1 hts gX0_takeText_X0_kindByLetter rfl rfl rfl (by decide +kernel) ⟨by decide, by decide⟩) (zpreS hK (P_nil _)) rfl rfl hl.1 rfl (lv_room (Nat.le_of_ble_eq_true rfl)) dX0_takeText_64 ⟨by decide, by decide⟩) (fun r64 h64 => ?_)
        subst h64
        have f1 := kl_le (ce (((i + 2) + (p * 5)) + 1))
        refine n_iast (i := p) (x := (nI (kl (ce (((i + 2) + (p * 5)) + 1))))) (ws1 := wCS g co ck ch cl sa ca ((n - 2) / 5) (dv (ce (i + 1))) (va_up (fil (tk (fun k => ce (i + k))) kd p) p (kl (ce (((i + 2) + (p * 5)) + 1)))) (fil (th (fun k => ce (i + k))) hg (3 * p)) lk la le ce) hx hb hK.1 hP hD hS 1 0 rfl rfl (by omega) (by decide) (fun j => nI ((va_up (fil (tk (fun k => ce (i + k))) kd p) p (kl (ce (((i + 2) + (p * 5)) + 1)))) j)) (upd_nI _ _ _) rfl dX0_takeText_67 (fun H locs hP hD hS => ?_)
        refine lv_iconst (v := (nI 0)) hx hb dX0_takeText_68 (by decide) ?_
        refine lv_istore (lv' := [(6, .int (nI 0)), (5, .int (nI (((i + 2) + (p * 5)) + 1))), (0, .ref co), (1, .ref sa), (2, .int (nI i)), (3, .int (nI n)), (4, .int (nI p))]) hx hb dX0_takeText_69 hl (by decide) rfl (fun ls hl => ?_)
        have lp71 : ∀ (nn : Nat) (k : Nat) (H : Heap) (locs : List Loc) (ls : Array Slot), (3 - k) < nn → (k ≤ 3) → PP g (wCS g co ck ch cl sa ca ((n - 2) / 5) (dv (ce (i + 1))) (fil (tk (fun k => ce (i + k))) kd (p + 1)) (fil (th (fun k => ce (i + k))) hg (3 * p + k)) lk la le ce) H → va_D (inW (wCS g co ck ch cl sa ca np sl kd hg lk la le ce)) (wCS g co ck ch cl sa ca ((n - 2) / 5) (dv (ce (i + 1))) (fil (tk (fun k => ce (i + k))) kd (p + 1)) (fil (th (fun k => ce (i + k))) hg (3 * p + k)) lk la le ce) → va_S (inW (wCS g co ck ch cl sa ca np sl kd hg lk la le ce)) s.heap H locs → lv_has ls 7 [(0, .ref co), (1, .ref sa), (2, .int (nI i)), (3, .int (nI n)), (4, .int (nI p)), (5, .int (nI (i + 2 + p * 5 + 1))), (6, .int (nI k))] → W P l E ({ frames := 2, cells := 0, slots := 0, locals := 44 } : Room) s mt [.ref co, .ref sa, .int (nI i), .int (nI n)].toArray below meth cd H locs 0 0 (MQ below (va_Qv (fun (uu : Unit) => True) (fun (uu : Unit) t => PP g (wCS g co ck ch cl sa ca ((n - 2) / 5) (dv (ce (i + 1))) (fil (tk (fun k => ce (i + k))) kd ((n - 2) / 5)) (fil (th (fun k => ce (i + k))) hg (3 * ((n - 2) / 5))) lk la le ce) t.heap) (inW (wCS g co ck ch cl sa ca np sl kd hg lk la le ce))) [.ref co, .ref sa, .int (nI i), .int (nI n)].toArray s 0 0 (inW (wCS g co ck ch cl sa ca np sl kd hg lk la le ce))) (F0 mt 71 ls []) := by
          intro nn
          induction nn with
          | zero => intro k H locs ls hmu; exact absurd hmu (Nat.not_lt_zero _)
          | succ nn ih71 =>
            intro k H locs ls hmu hk hP hD hS hl
            refine lv_iload hx hb dX0_takeText_71 (lv_at hl 6 rfl) ?_
            refine lv_iconst (v := (nI 3)) hx hb dX0_takeText_73 (by decide) ?_
            refine n_icmp_ge (a := k) (b := 3) (tgt := 105) hx hb (by omega) (by omega) dX0_takeText_74 (by decide) (fun c74 => ?_) (fun c74 => ?_)
            · obtain rfl : 3 = k := by omega
              refine n_iinc (a := p) (d := 1) (lv' := [(4, .int (nI (p + 1))), (0, .ref co), (1, .ref sa), (2, .int (nI i)), (3, .int (nI n)), (5, .int (nI (i + 2 + p * 5 + 1))), (6, .int (nI 3))]) hx hb dX0_takeText_105 hl (k := 4) rfl (by decide) (by decide) rfl (fun ls hl => ?_)
              refine lv_goto (tgt := 31) hx hb dX0_takeText_108 (by decide) ?_
              exact ih31 (p + 1) _ _ ls (by omega) (by omega) hP hD hS (lv_sub hl [1, 2, 3, 4, 0] rfl)
            · refine lv_aload_n hx hb dX0_takeText_77 rfl (lv_at hl 0 rfl) ?_
              refine lv_iload hx hb dX0_takeText_78 (lv_at hl 4 rfl) ?_
              refine lv_iload hx hb dX0_takeText_80 (lv_at hl 6 rfl) ?_
              refine lv_aload_n hx hb dX0_takeText_82 rfl (lv_at hl 1 rfl) ?_
              refine lv_iload hx hb dX0_takeText_83 (lv_at hl 5 rfl) ?_
              refine lv_iconst (v := (nI 1)) hx hb dX0_takeText_85 (by decide) ?_
              refine n_iadd (a := (i + 2 + p * 5 + 1)) (b := 1) hx hb dX0_takeText_86 ?_
              refine lv_iload hx hb dX0_takeText_87 (lv_at hl 6 rfl) ?_
              refine n_iadd (a := ((i + 2 + p * 5 + 1) + 1)) (b := k) hx hb dX0_takeText_89 ?_
              have hPc : PP g (wS g sa ca la le ce) _ := (P_sub (w := wS g sa ca la le ce) hP [4, 5] rfl)
              refine zcallR (va_runV (As := [.int (nI (((i + 2 + p * 5 + 1) + 1) + k))]) (rest := [.int (nI k), .int (nI p), .ref co]) (b := sa) S0 (c_X2_at l g sa ca la le ce (((i + 2 + p * 5 + 1) + 1) + k) hle (by omega)) (cwV 1 hts gX0_takeText_X2_at rfl rfl rfl (by decide +kernel) ⟨by decide, by decide⟩) (zpreV hK hPc (va_recv hK.1 hPc (ci := 2) (q0 := 0) rfl rfl)) rfl rfl hl.1 rfl (lv_room (Nat.le_of_ble_eq_true rfl)) dX0_takeText_90 ⟨by decide, by decide⟩) (fun r90 h90 => ?_)
              subst h90
              refine lv_bipush (v := (nI 48)) hx hb dX0_takeText_93 (by decide) ?_
              refine lv_isub hx hb dX0_takeText_95 ?_
              refine ztopI (nI (th (fun k => ce (i + k)) (3 * p + k))) (by rw [th_at _ (by omega), show i + 2 + p * 5 + 1 + 1 + k = i + (4 + 5 * p + k) by omega]; exact (dg_dv (okT_h (p := p) (k := k) hok (by omega) (by omega))).1) ?_
              have hPc : PP g (wC g co ck ch cl ((n - 2) / 5) (dv (ce (i + 1))) (fil (tk (fun k => ce (i + k))) kd (p + 1)) (fil (th (fun k => ce (i + k))) hg (3 * p + k)) lk) _ := P_sub hP [0, 1, 2, 3] rfl
              refine zcallMv (w := wC g co ck ch cl ((n - 2) / 5) (dv (ce (i + 1))) (fil (tk (fun k => ce (i + k))) kd (p + 1)) (fil (th (fun k => ce (i + k))) hg (3 * p + k)) lk) (va_runV (As := [.int (nI p), .int (nI k), .int (nI (th (fun k => ce (i + k)) (3 * p + k)))]) (rest := []) (b := co) S0 (c_X0_setHeight l g co ck ch cl ((n - 2) / 5) (dv (ce (i + 1))) (fil (tk (fun k => ce (i + k))) kd (p + 1)) (fil (th (fun k => ce (i + k))) hg (3 * p + k)) lk p k (th (fun k => ce (i + k)) (3 * p + k)) hn6 (by omega) (by omega)) (cwV 3 hts gX0_takeText_X0_setHeight rfl rfl rfl (by decide +kernel) ⟨by decide, by decide⟩) (zpreVM hK hP hD [0, 1, 2, 3] rfl (by decide) (va_recv hK.1 hPc (ci := 0) (q0 := 0) rfl rfl)) rfl rfl hl.1 rfl (lv_room (Nat.le_of_ble_eq_true rfl)) dX0_takeText_96 ⟨by decide, by decide⟩) hP hD hS [0, 1, 2, 3] rfl (fun uu96 => wCS g co ck ch cl sa ca ((n - 2) / 5) (dv (ce (i + 1))) (fil (tk (fun k => ce (i + k))) kd (p + 1)) (va_up (fil (th (fun k => ce (i + k))) hg (3 * p + k)) (3 * p + k) (th (fun k => ce (i + k)) (3 * p + k))) lk la le ce) (fun _ => lz_wC.trans lz_wC.symm) (fun _ => rfl) (fun _ => ad_wCS.trans ad_wCS.symm) (fun uu96 H locs h96 hP hD hS => ?_)
              refine n_iinc (a := k) (d := 1) (lv' := [(6, .int (nI (k + 1))), (0, .ref co), (1, .ref sa), (2, .int (nI i)), (3, .int (nI n)), (4, .int (nI p)), (5, .int (nI (i + 2 + p * 5 + 1)))]) hx hb dX0_takeText_99 hl (k := 6) rfl (by decide) (by decide) rfl (fun ls hl => ?_)
              refine lv_goto (tgt := 71) hx hb dX0_takeText_102 (by decide) ?_
              rw [fil_up (th (fun k => ce (i + k))) hg (3 * p + k)] at hP hD
              exact ih71 (k + 1) _ _ ls (by omega) (by omega) hP hD hS (lv_sub hl [1, 2, 3, 4, 5, 6, 0] rfl)
        have e67 : va_up (fil (tk (fun k => ce (i + k))) kd p) p (kl (ce (i + 2 + p * 5 + 1))) = fil (tk (fun k => ce (i + k))) kd (p + 1) := by rw [show kl (ce (i + 2 + p * 5 + 1)) = tk (fun k => ce (i + k)) p by (show _ = kl (ce (i + (3 + 5 * p)))); congr 2; omega]; exact fil_up _ _ _
        rw [e67] at hP hD
        exact lp71 (3 - 0 + 1) 0 _ _ ls (Nat.lt_succ_self _) (by omega) hP hD hS (lv_sub hl [2, 3, 4, 5, 6, 1, 0] rfl)
  exact lp31 (((n - 2) / 5) - 0 + 1) 0 _ _ ls (Nat.lt_succ_self _) (by omega) (by rw [fil_0, Nat.mul_zero, fil_0]; exact hP) (by rw [fil_0, Nat.mul_zero, fil_0]; exact hD) hS (lv_sub hl [1, 2, 3, 4, 0] rfl)
