theorem fC_neg {la z i n : Int32} {le : Nat} (hle : le ≤ 60) (h : n < 0) (h1 : ¬ fRI la z ≠ 0) : fCI la le z i n = 3 := by
  rw [fCI, if_neg h1, if_neg (fun z => z.2.2.1 h)]
theorem fT_of_C3 {la z i n : Int32} {le : Nat} (hle : le ≤ 60) (h : fCI la le z i n ≠ 3) : nI (fCI la le z i n) = nI (fTI la le z i n) := by
  congr 1
  by_cases h1 : fRI la z ≠ 0
  · rw [fCI, fTI, if_pos h1, if_pos h1]
  · have h2 : ¬ n < 0 := fun y => h (fC_neg hle y h1)
    rw [fCI, fTI, if_neg h1, if_neg h1, if_neg h2]
theorem fT_of_C4 {la z i n : Int32} {le : Nat} (hle : le ≤ 60) (h : fCI la le z i n = 3) (h2 : 0 ≤ n) : nI (fCI la le z i n) = nI (fTI la le z i n) := by
  congr 1
  have h3 : ¬ n < 0 := Int32.not_lt.mpr h2
  by_cases h1 : fRI la z ≠ 0
  · rw [fCI, fTI, if_pos h1, if_pos h1]
  · rw [fCI, fTI, if_neg h1, if_neg h1, if_neg h3]
theorem fT_of_C5 {la z i n : Int32} {le : Nat} (hle : le ≤ 60) (h : fCI la le z i n = 3) (h2 : ¬ 0 ≤ n) : nI 4 = nI (fTI la le z i n) := by
  congr 1
  have h3 : n < 0 := Int32.not_le.mp h2
  have h1 : ¬ fRI la z ≠ 0 := fun y => by
    have := fRI_le la z
    rw [fCI, if_pos y] at h; omega
  rw [fTI, if_neg h1, if_pos h3]
theorem P61 {n : Int32} (h : isP 61 n) : n ≤ nI 60 := by
  obtain ⟨j, h1, rfl⟩ := nI_btl (n := 61) (by decide) h.1 h.2
  exact nI_le (by omega) (by decide)
set_option maxHeartbeats 4000000 in
set_option maxRecDepth 100000 in
theorem c_X4_faultOfRow (l : Launch) (g : Gx) (sa : Nat) (ca : Nat) (la : Int32) (le : Nat) (ce : Nat → Int32) (z : Int32) : Met l yX4_faultOfRow wsX4_faultOfRow ({ frames := 1, cells := 0, slots := 0, locals := 21 } : Room) (PcR g [.ref sa, .int z] (wS g sa ca la le ce)) (vp_Si (fun r => r = nI (fRI la z))) 0 0 (fun _ => False) := by
  refine zenterR (cc := cX4_faultOfRow) (maxL := 2) (ret := (some .int)) (by decide) rfl (Nat.le_of_ble_eq_true rfl) ?_
  intro P E s mt below meth cd ls hx hb hml hown hts hr hlocks hP hK hl
  have hl : lv_has ls 2 [(0, .ref sa), (1, .int z)] := hl
  have S0 : CallFix P mt cd cX4_faultOfRow 2 s [.ref sa, .int z].toArray wsX4_faultOfRow RX4 := ⟨hx, hb, hml, hown, hts⟩
  refine lv_aload_n hx hb dX4_faultOfRow_0 rfl (lv_at hl 0 rfl) ?_
  have hPc : PP g (wS g sa ca la le ce) _ := hP
  refine zcallR (va_runV (As := []) (rest := []) (b := sa) S0 (c_X2_hasNothing l g sa ca la le ce) (cwV 0 hts gX4_faultOfRow_X2_hasNothing rfl rfl rfl (by decide +kernel) ⟨by decide, by decide⟩) (zpreV hK hPc (va_recv hK.1 hPc (ci := 2) (q0 := 0) rfl rfl)) rfl rfl hl.1 rfl (lv_room (Nat.le_of_ble_eq_true rfl)) dX4_faultOfRow_1 ⟨by decide, by decide⟩) (fun r1 h1 => ?_)
  subst h1
  have f1 := b01_le (la = -1)
  refine n_if_eq (a := (b01 (la = -1))) (tgt := 9) hx hb (by omega) dX4_faultOfRow_4 (by decide) (fun c4 => ?_) (fun c4 => ?_)
  · refine lv_aload_n hx hb dX4_faultOfRow_9 rfl (lv_at hl 0 rfl) ?_
    refine lv_iload_n hx hb dX4_faultOfRow_10 rfl (lv_at hl 1 rfl) ?_
    have hPc : PP g (wS g sa ca la le ce) _ := hP
    refine zcallR (va_runV (As := [.int z]) (rest := []) (b := sa) S0 (c_X2_isOfAnother l g sa ca la le ce z) (cwV 1 hts gX4_faultOfRow_X2_isOfAnother rfl rfl rfl (by decide +kernel) ⟨by decide, by decide⟩) (zpreV hK hPc (va_recv hK.1 hPc (ci := 2) (q0 := 0) rfl rfl)) rfl rfl hl.1 rfl (lv_room (Nat.le_of_ble_eq_true rfl)) dX4_faultOfRow_11 ⟨by decide, by decide⟩) (fun r11 h11 => ?_)
    subst h11
    have f2 := b01_le (la ≠ z)
    refine n_if_eq (a := (b01 (la ≠ z))) (tgt := 21) hx hb (by omega) dX4_faultOfRow_14 (by decide) (fun c14 => ?_) (fun c14 => ?_)
    · refine lv_iconst (v := (nI 0)) hx hb dX4_faultOfRow_21 (by decide) ?_
      exact zretI hx hb hr hlocks rfl (by rw [fRI, if_neg (b01_0.mp c4), if_neg (b01_0.mp c14)]) dX4_faultOfRow_22
    · refine lv_iconst (v := (nI 2)) hx hb dX4_faultOfRow_17 (by decide) ?_
      refine lv_goto (tgt := 22) hx hb dX4_faultOfRow_18 (by decide) ?_
      exact zretI hx hb hr hlocks rfl (by rw [fRI, if_neg (b01_0.mp c4), if_pos (b01_n0.mp c14)]) dX4_faultOfRow_22
  · refine lv_iconst (v := (nI 1)) hx hb dX4_faultOfRow_7 (by decide) ?_
    exact zretI hx hb hr hlocks rfl (by rw [fRI, if_pos (b01_n0.mp c4)]) dX4_faultOfRow_8

set_option maxHeartbeats 4000000 in
set_option maxRecDepth 100000 in
theorem c_X4_faultOfCells (l : Launch) (g : Gx) (sa : Nat) (ca : Nat) (la : Int32) (le : Nat) (ce : Nat → Int32) (z : Int32) (i : Int32) (n : Int32) (hle : le ≤ 60) : Met l yX4_faultOfCells wsX4_faultOfCells ({ frames := 2, cells := 0, slots := 0, locals := 42 } : Room) (PcR g [.ref sa, .int z, .int i, .int n] (wS g sa ca la le ce)) (vp_Si (fun r => r = nI (fCI la le z i n))) 0 0 (fun _ => False) := by
  refine zenterR (cc := cX4_faultOfCells) (maxL := 5) (ret := (some .int)) (by decide) rfl (Nat.le_of_ble_eq_true rfl) ?_
  intro P E s mt below meth cd ls hx hb hml hown hts hr hlocks hP hK hl
  have hl : lv_has ls 5 [(0, .ref sa), (1, .int z), (2, .int i), (3, .int n)] := hl
  have S0 : CallFix P mt cd cX4_faultOfCells 5 s [.ref sa, .int z, .int i, .int n].toArray wsX4_faultOfCells RX4 := ⟨hx, hb, hml, hown, hts⟩
  refine lv_aload_n hx hb dX4_faultOfCells_0 rfl (lv_at hl 0 rfl) ?_
  refine lv_iload_n hx hb dX4_faultOfCells_1 rfl (lv_at hl 1 rfl) ?_
  refine zcallR (va_runS (As := [.ref sa, .int z]) (rest := []) S0 (c_X4_faultOfRow l g sa ca la le ce z) (va_cwS 2 hts gX4_faultOfCells_X4_faultOfRow rfl rfl rfl (by decide +kernel) ⟨by decide, by decide⟩) (zpreS hK hP) rfl rfl hl.1 rfl (lv_room (Nat.le_of_ble_eq_true rfl)) dX4_faultOfCells_2 ⟨by decide, by decide⟩) (fun r2 h2 => ?_)
  subst h2
  have f1 := fRI_le la z
  refine lv_istore (lv' := [(4, .int (nI (fRI la z))), (0, .ref sa), (1, .int z), (2, .int i), (3, .int n)]) hx hb dX4_faultOfCells_5 hl (by decide) rfl (fun ls hl => ?_)
  refine lv_iload hx hb dX4_faultOfCells_7 (lv_at hl 0 rfl) ?_
  refine n_if_ne (a := (fRI la z)) (tgt := 25) hx hb (by omega) dX4_faultOfCells_9 (by decide) (fun c9 => ?_) (fun c9 => ?_)
  · refine lv_iload hx hb dX4_faultOfCells_25 (lv_at hl 0 rfl) ?_
    exact zretI hx hb hr hlocks rfl (by rw [fCI, if_pos c9]) dX4_faultOfCells_27
  · refine lv_aload_n hx hb dX4_faultOfCells_12 rfl (lv_at hl 1 rfl) ?_
    refine lv_iload_n hx hb dX4_faultOfCells_13 rfl (lv_at hl 3 rfl) ?_
    refine lv_iload_n hx hb dX4_faultOfCells_14 rfl (lv_at hl 4 rfl) ?_
    have hPc : PP g (wS g sa ca la le ce) _ := hP
    refine zcallR (va_runV (As := [.int i, .int n]) (rest := []) (b := sa) S0 (c_X2_hasCells l g sa ca la le ce i n hle) (cwV 2 hts gX4_faultOfCells_X2_hasCells rfl rfl rfl (by decide +kernel) ⟨by decide, by decide⟩) (zpreV hK hPc (va_recv hK.1 hPc (ci := 2) (q0 := 0) rfl rfl)) rfl rfl hl.1 rfl (lv_room (Nat.le_of_ble_eq_true rfl)) dX4_faultOfCells_15 ⟨by decide, by decide⟩) (fun r15 h15 => ?_)
    rcases h15 with ⟨a_15, b_15, hva_15, hvb_15, hab_15, rfl⟩ | ⟨hn_15, rfl⟩
    · subst hva_15
      subst hvb_15
      refine lv_if_ne (tgt := 25) hx hb dX4_faultOfCells_18 (by decide) (fun c18 => ?_) (fun c18 => ?_)
      rotate_left
      · exact absurd c18 (by decide)
      refine lv_iload hx hb dX4_faultOfCells_25 (lv_at hl 0 rfl) ?_
      exact zretI hx hb hr hlocks rfl (by rw [fCI, if_neg (fun z => z c9), if_pos (isB_nI hle hab_15), c9]) dX4_faultOfCells_27
    · refine lv_if_ne (tgt := 25) hx hb dX4_faultOfCells_18 (by decide) (fun c18 => ?_) (fun c18 => ?_)
      · exact absurd c18 (by decide)
      refine lv_iconst (v := (nI 3)) hx hb dX4_faultOfCells_21 (by decide) ?_
      refine lv_goto (tgt := 27) hx hb dX4_faultOfCells_22 (by decide) ?_
      exact zretI hx hb hr hlocks rfl (by rw [fCI, if_neg (fun z => z c9), if_neg (fun z => hn_15 ((isB_iff hle).mp z))]) dX4_faultOfCells_27

set_option maxHeartbeats 4000000 in
set_option maxRecDepth 100000 in
theorem c_X4_faultOfText (l : Launch) (g : Gx) (sa : Nat) (ca : Nat) (la : Int32) (le : Nat) (ce : Nat → Int32) (z : Int32) (i : Int32) (n : Int32) (hle : le ≤ 60) : Met l yX4_faultOfText wsX4_faultOfText ({ frames := 3, cells := 0, slots := 0, locals := 66 } : Room) (PcR g [.ref sa, .int z, .int i, .int n] (wS g sa ca la le ce)) (vp_Si (fun r => r = nI (fTI la le z i n))) 0 0 (fun _ => False) := by
  refine zenterR (cc := cX4_faultOfText) (maxL := 5) (ret := (some .int)) (by decide) rfl (Nat.le_of_ble_eq_true rfl) ?_
  intro P E s mt below meth cd ls hx hb hml hown hts hr hlocks hP hK hl
  have hl : lv_has ls 5 [(0, .ref sa), (1, .int z), (2, .int i), (3, .int n)] := hl
  have S0 : CallFix P mt cd cX4_faultOfText 5 s [.ref sa, .int z, .int i, .int n].toArray wsX4_faultOfText RX4 := ⟨hx, hb, hml, hown, hts⟩
  refine lv_aload_n hx hb dX4_faultOfText_0 rfl (lv_at hl 0 rfl) ?_
  refine lv_iload_n hx hb dX4_faultOfText_1 rfl (lv_at hl 1 rfl) ?_
  refine lv_iload_n hx hb dX4_faultOfText_2 rfl (lv_at hl 2 rfl) ?_
  refine lv_iload_n hx hb dX4_faultOfText_3 rfl (lv_at hl 3 rfl) ?_
  refine zcallR (va_runS (As := [.ref sa, .int z, .int i, .int n]) (rest := []) S0 (c_X4_faultOfCells l g sa ca la le ce z i n hle) (va_cwS 4 hts gX4_faultOfText_X4_faultOfCells rfl rfl rfl (by decide +kernel) ⟨by decide, by decide⟩) (zpreS hK hP) rfl rfl hl.1 rfl (lv_room (Nat.le_of_ble_eq_true rfl)) dX4_faultOfText_4 ⟨by decide, by decide⟩) (fun r4 h4 => ?_)
  subst h4
  have f1 := fCI_le la le z i n
  refine lv_istore (lv' := [(4, .int (nI (fCI la le z i n))), (0, .ref sa), (1, .int z), (2, .int i), (3, .int n)]) hx hb dX4_faultOfText_7 hl (by decide) rfl (fun ls hl => ?_)
  refine lv_iload hx hb dX4_faultOfText_9 (lv_at hl 0 rfl) ?_
  refine lv_iconst (v := (nI 3)) hx hb dX4_faultOfText_11 (by decide) ?_
  refine n_icmp_ne (a := (fCI la le z i n)) (b := 3) (tgt := 23) hx hb (by omega) (by omega) dX4_faultOfText_12 (by decide) (fun c12 => ?_) (fun c12 => ?_)
  · refine lv_iload hx hb dX4_faultOfText_23 (lv_at hl 0 rfl) ?_
    exact zretI hx hb hr hlocks rfl (fT_of_C3 hle c12) dX4_faultOfText_25
  · refine lv_iload_n hx hb dX4_faultOfText_15 rfl (lv_at hl 4 rfl) ?_
    refine lv_if_ge (tgt := 23) hx hb dX4_faultOfText_16 (by decide) (fun c16 => ?_) (fun c16 => ?_)
    · refine lv_iload hx hb dX4_faultOfText_23 (lv_at hl 0 rfl) ?_
      exact zretI hx hb hr hlocks rfl (fT_of_C4 hle c12 c16) dX4_faultOfText_25
    · refine lv_iconst (v := (nI 4)) hx hb dX4_faultOfText_19 (by decide) ?_
      refine lv_goto (tgt := 25) hx hb dX4_faultOfText_20 (by decide) ?_
      exact zretI hx hb hr hlocks rfl (fT_of_C5 hle c12 c16) dX4_faultOfText_25

set_option maxHeartbeats 4000000 in
set_option maxRecDepth 100000 in
theorem c_X4_sheet (l : Launch) (g : Gx) (x : Nat) (sh : Nat) (co : Nat) (ck : Nat) (ch : Nat) (cl : Nat) (vo : Nat) (vpa : Nat) (vma : Nat) (re : Nat) (rua : Nat) (rla : Nat) (rma : Nat) (rda : Nat) (sad : Nat → Nat) (cad : Nat → Nat) (tr : Int32) (ft : Nat) (np : Nat) (sl : Nat) (kd : Nat → Nat) (hg : Nat → Nat) (lk : Nat → Nat) (vn : Nat) (vp : Nat → Int32) (vm : Nat → Int32) (nr : Nat) (ru : Nat → Nat) (rl : Nat → Nat) (rm : Nat → Nat) (rd : Nat → Nat) (lane : Nat → Nat) (ml : Nat → Nat) (cel : Nat → Nat → Int32) (k : Int32) (y : Int32) (n : Int32) (hG : Gd np sl kd hg nr ru rl rm rd lane ml) : Met l yX4_sheet wsX4_sheet ({ frames := 2, cells := 0, slots := 0, locals := 45 } : Room) (PcM g [.ref x, .int k, .int y, .int n] (wX g x sh co ck ch cl vo vpa vma re rua rla rma rda sad cad tr ft np sl kd hg lk vn vp vm nr ru rl rm rd lane ml cel)) (va_Qi (fun (r : Int32) (uu : Unit) => r = sp_sheet k y n) (fun (uu : Unit) t => PP g (wX g x sh co ck ch cl vo vpa vma re rua rla rma rda sad cad tr (ft_sheet k y n) np sl kd hg lk vn vp vm nr ru rl rm rd (st_lane lane k y n) (st_ml ml k y n) (st_cel cel k y n)) t.heap) (inW (wX g x sh co ck ch cl vo vpa vma re rua rla rma rda sad cad tr ft np sl kd hg lk vn vp vm nr ru rl rm rd lane ml cel))) 0 0 (inW (wX g x sh co ck ch cl vo vpa vma re rua rla rma rda sad cad tr ft np sl kd hg lk vn vp vm nr ru rl rm rd lane ml cel)) := by
  refine zenterM (cc := cX4_sheet) (maxL := 4) (ret := (some .int)) (by decide) rfl (Nat.le_of_ble_eq_true rfl) ?_
  intro P E s mt below meth cd ls hx hb hml hown hts hr hlocks hP hK hD hS hl
  skip
  have hl : lv_has ls 4 [(0, .ref x), (1, .int k), (2, .int y), (3, .int n)] := hl
  have S0 : CallFix P mt cd cX4_sheet 4 s [.ref x, .int k, .int y, .int n].toArray wsX4_sheet RX4 := ⟨hx, hb, hml, hown, hts⟩
  obtain ⟨hnp, hsl, hkd, hhg, hnr, hru, hrl, hrm, hrd, hla, hmz⟩ := hG
  refine lv_aload_n hx hb dX4_sheet_0 rfl (lv_at hl 0 rfl) ?_
  refine lv_iconst (v := (nI 0)) hx hb dX4_sheet_1 (by decide) ?_
  refine n_put (D := g.1) (ci := 4) (v := .int (nI 0)) (ty := .int) (C := RX4) (T := TX4) (N := 6) (ws1 := wX g x sh co ck ch cl vo vpa vma re rua rla rma rda sad cad tr 0 np sl kd hg lk vn vp vm nr ru rl rm rd lane ml cel) hx hb hts (fun _ h => (List.mem_cons_of_mem _ (List.mem_append_left _ (List.mem_append_right _ h)))) tyX4 tyX4_ok nmX4 hown hK.1 hP hD hS 0 rfl rfl 5 (by decide) (hts _ (List.mem_of_getElem? (i := 1) rfl)) (fun _ h9 => h9) rfl (by decide +kernel) rfl rfl (Nat.le_of_ble_eq_true rfl) rfl dX4_sheet_2 (fun H locs hP hD hS => ?_)
  refine lv_iload_n hx hb dX4_sheet_5 rfl (lv_at hl 1 rfl) ?_
  refine zcallR (va_runS (As := [.int k]) (rest := []) S0 (c_X4_isSheet l g k) (va_cwS 1 hts gX4_sheet_X4_isSheet rfl rfl rfl (by decide +kernel) ⟨by decide, by decide⟩) (zpreS hK (P_nil _)) rfl rfl hl.1 rfl (lv_room (Nat.le_of_ble_eq_true rfl)) dX4_sheet_6 ⟨by decide, by decide⟩) (fun r6 h6 => ?_)
  rcases h6 with ⟨w_6, hw_6, hv_6, rfl⟩ | ⟨hn_6, rfl⟩
  · subst hv_6
    refine lv_if_ne (tgt := 14) hx hb dX4_sheet_9 (by decide) (fun c9 => ?_) (fun c9 => ?_)
    rotate_left
    · exact absurd c9 (by decide)
    refine lv_iload_n hx hb dX4_sheet_14 rfl (lv_at hl 2 rfl) ?_
    refine zcallR (va_runS (As := [.int y]) (rest := []) S0 (c_X4_isLane l g y) (va_cwS 1 hts gX4_sheet_X4_isLane rfl rfl rfl (by decide +kernel) ⟨by decide, by decide⟩) (zpreS hK (P_nil _)) rfl rfl hl.1 rfl (lv_room (Nat.le_of_ble_eq_true rfl)) dX4_sheet_15 ⟨by decide, by decide⟩) (fun r15 h15 => ?_)
    rcases h15 with ⟨w_15, hw_15, hv_15, rfl⟩ | ⟨hn_15, rfl⟩
    · subst hv_15
      refine lv_if_eq (tgt := 27) hx hb dX4_sheet_18 (by decide) (fun c18 => ?_) (fun c18 => ?_)
      · exact absurd c18 (by decide)
      refine lv_iload_n hx hb dX4_sheet_21 rfl (lv_at hl 3 rfl) ?_
      refine lv_bipush (v := (nI 60)) hx hb dX4_sheet_22 (by decide) ?_
      refine lv_icmp_le (tgt := 30) hx hb dX4_sheet_24 (by decide) (fun c24 => ?_) (fun c24 => ?_)
      · refine lv_iload_n hx hb dX4_sheet_30 rfl (lv_at hl 3 rfl) ?_
        refine lv_if_ge (tgt := 40) hx hb dX4_sheet_31 (by decide) (fun c31 => ?_) (fun c31 => ?_)
        · obtain ⟨wn, hj_wn, e_wn⟩ := nI_btw (n := 60) (by decide) (i_nlt.mpr c31) c24
          subst e_wn
          refine lv_aload_n hx hb dX4_sheet_40 rfl (lv_at hl 0 rfl) ?_
          refine va_get (D := g.1) (ci := 4) (v := .ref sh) (C := RX4) (T := TX4) (N := 6) hx hb hts (fun _ h => (List.mem_cons_of_mem _ (List.mem_append_left _ (List.mem_append_right _ h)))) hown hK.1 hP 0 rfl rfl 0 (by decide) (hts _ (List.mem_of_getElem? (i := 2) rfl)) (fun _ h9 => h9) rfl dX4_sheet_41 ?_
          refine lv_iload_n hx hb dX4_sheet_44 rfl (lv_at hl 1 rfl) ?_
          refine n_aald (i := w_6) (b := sad w_6) hx hb hK.1 hP 1 2 rfl rfl (by omega) (by decide) rfl dX4_sheet_45 ?_
          refine lv_iload_n hx hb dX4_sheet_46 rfl (lv_at hl 2 rfl) ?_
          refine lv_iload_n hx hb dX4_sheet_47 rfl (lv_at hl 3 rfl) ?_
          have hPc : PP g (wS g (sad w_6) (cad w_6) (lC (lane w_6)) (ln lane ml w_6) (cel w_6)) _ := P_sub hP [14 + 2 * w_6, 15 + 2 * w_6] (sh_pl hw_6)
          refine zcallMv (w := wS g (sad w_6) (cad w_6) (lC (lane w_6)) (ln lane ml w_6) (cel w_6)) (va_runV (As := [.int (nI w_15), .int (nI wn)]) (rest := []) (b := (sad w_6)) S0 (c_X2_begin l g (sad w_6) (cad w_6) (lC (lane w_6)) (ln lane ml w_6) (cel w_6) (nI w_15) wn) (cwV 2 hts gX4_sheet_X2_begin rfl rfl rfl (by decide +kernel) ⟨by decide, by decide⟩) (zpreVM hK hP hD [14 + 2 * w_6, 15 + 2 * w_6] (sh_pl hw_6) (sh_nd hw_6) (va_recv hK.1 hPc (ci := 2) (q0 := 0) rfl rfl)) rfl rfl hl.1 rfl (lv_room (Nat.le_of_ble_eq_true rfl)) dX4_sheet_48 ⟨by decide, by decide⟩) hP hD hS [14 + 2 * w_6, 15 + 2 * w_6] (sh_pl hw_6) (fun uu48 => wX g x sh co ck ch cl vo vpa vma re rua rla rma rda sad cad tr 0 np sl kd hg lk vn vp vm nr ru rl rm rd (va_up lane w_6 w_15) (va_up ml w_6 wn) (va_up cel w_6 (filI (fun _ => nI 0) (cel w_6) 60))) (fun _ => lz_wS.trans lz_wS.symm) (fun _ => sh_set hw_6 (va_up lane w_6 w_15) (va_up ml w_6 wn) (va_up cel w_6 (filI (fun _ => nI 0) (cel w_6) 60)) (by rw [va_up_self, lC_n (by omega)]) (by rw [ln_n (by rw [va_up_self]; omega), va_up_self]) (va_up_self _ _ _) (fun _ hj => ⟨va_up_ne _ _ hj, va_up_ne _ _ hj, va_up_ne _ _ hj⟩)) (fun _ => ad_wX.trans ad_wX.symm) (fun uu48 H locs h48 hP hD hS => ?_)
          refine lv_iconst (v := (nI 1)) hx hb dX4_sheet_51 (by decide) ?_
          exact zretMI (w1 := fun (uu : Unit) => wX g x sh co ck ch cl vo vpa vma re rua rla rma rda sad cad tr (ft_sheet (nI w_6) (nI w_15) (nI wn)) np sl kd hg lk vn vp vm nr ru rl rm rd (st_lane lane (nI w_6) (nI w_15) (nI wn)) (st_ml ml (nI w_6) (nI w_15) (nI wn)) (st_cel cel (nI w_6) (nI w_15) (nI wn))) () hx hb hr hlocks hS rfl (by rw [sp_sheet, if_pos (isP_of (by omega) hw_6), if_pos ⟨(isP_of (by omega) hw_15), nI_nlt (by omega) (by decide)⟩, if_neg (nI_pos (n := wn) (by omega))]) (by simp only [st_lane, st_ml, st_cel, ft_sheet, if_pos (c := c_sheet (nI w_6) (nI w_15) (nI wn)) ⟨(isP_of (by omega) hw_6), (isP_of (by omega) hw_15), isP_of (by decide) (by omega)⟩, if_pos (c := isP 4 (nI w_6)) (isP_of (by omega) hw_6), if_pos (c := isP 3 (nI w_15) ∧ ¬ nI 60 < nI wn) ⟨(isP_of (by omega) hw_15), nI_nlt (by omega) (by decide)⟩, if_neg (nI_pos (n := wn) (by omega)), tN_nI (u := w_6) (by omega), tN_nI (u := w_15) (by omega), tN_nI (u := wn) (by omega)]; exact hP) dX4_sheet_52
        · refine lv_aload_n hx hb dX4_sheet_34 rfl (lv_at hl 0 rfl) ?_
          refine lv_iconst (v := (nI 4)) hx hb dX4_sheet_35 (by decide) ?_
          have hPc : PP g (wXo g x sh co vo re tr 0) _ := P_sub hP [0] rfl
          refine zcallM (w := wXo g x sh co vo re tr 0) (va_runV (As := [.int (nI 4)]) (rest := []) (b := x) S0 (c_X4_failBy l g x sh co vo re tr 0 4) (cwV 1 hts gX4_sheet_X4_failBy rfl rfl rfl (by decide +kernel) ⟨by decide, by decide⟩) (zpreVM hK hP hD [0] rfl (by decide) (va_recv hK.1 hPc (ci := 4) (q0 := 0) rfl rfl)) rfl rfl hl.1 rfl (lv_room (Nat.le_of_ble_eq_true rfl)) dX4_sheet_36 ⟨by decide, by decide⟩) hP hD hS [0] rfl (fun uu36 => wX g x sh co ck ch cl vo vpa vma re rua rla rma rda sad cad tr 4 np sl kd hg lk vn vp vm nr ru rl rm rd lane ml cel) (fun _ => lz_wXo.trans lz_wXo.symm) (fun _ => rfl) (fun _ => ad_wX.trans ad_wX.symm) (fun r36 uu36 H locs h36 hP hD hS => ?_)
          subst h36
          exact zretMI (w1 := fun (uu : Unit) => wX g x sh co ck ch cl vo vpa vma re rua rla rma rda sad cad tr (ft_sheet (nI w_6) (nI w_15) n) np sl kd hg lk vn vp vm nr ru rl rm rd (st_lane lane (nI w_6) (nI w_15) n) (st_ml ml (nI w_6) (nI w_15) n) (st_cel cel (nI w_6) (nI w_15) n)) () hx hb hr hlocks hS rfl (by rw [sp_sheet, if_pos (isP_of (by omega) hw_6), if_pos ⟨(isP_of (by omega) hw_15), i_nlt.mpr c24⟩, if_pos (i_nle.mp c31)]) (by simp only [st_lane, st_ml, st_cel, ft_sheet, if_neg (c := c_sheet (nI w_6) (nI w_15) n) (fun z => z.2.2.1 (i_nle.mp c31)), if_pos (c := isP 4 (nI w_6)) (isP_of (by omega) hw_6), if_pos (c := isP 3 (nI w_15) ∧ ¬ nI 60 < n) ⟨(isP_of (by omega) hw_15), i_nlt.mpr c24⟩, if_pos (i_nle.mp c31)]; exact hP) dX4_sheet_39
      · refine lv_bipush (v := (-2)) hx hb dX4_sheet_27 (by decide) ?_
        exact zretMI (w1 := fun (uu : Unit) => wX g x sh co ck ch cl vo vpa vma re rua rla rma rda sad cad tr (ft_sheet (nI w_6) (nI w_15) n) np sl kd hg lk vn vp vm nr ru rl rm rd (st_lane lane (nI w_6) (nI w_15) n) (st_ml ml (nI w_6) (nI w_15) n) (st_cel cel (nI w_6) (nI w_15) n)) () hx hb hr hlocks hS rfl (by rw [sp_sheet, if_pos (isP_of (by omega) hw_6), if_neg (fun z => z.2 (i_nle.mp c24))]) (by simp only [st_lane, st_ml, st_cel, ft_sheet, if_neg (c := c_sheet (nI w_6) (nI w_15) n) (fun z => c24 (P61 z.2.2)), if_pos (c := isP 4 (nI w_6)) (isP_of (by omega) hw_6), if_neg (c := isP 3 (nI w_15) ∧ ¬ nI 60 < n) (fun z => z.2 (i_nle.mp c24))]; exact hP) dX4_sheet_29
    · refine lv_if_eq (tgt := 27) hx hb dX4_sheet_18 (by decide) (fun c18 => ?_) (fun c18 => ?_)
      rotate_left
      · exact absurd (by decide) c18
      refine lv_bipush (v := (-2)) hx hb dX4_sheet_27 (by decide) ?_
      exact zretMI (w1 := fun (uu : Unit) => wX g x sh co ck ch cl vo vpa vma re rua rla rma rda sad cad tr (ft_sheet (nI w_6) y n) np sl kd hg lk vn vp vm nr ru rl rm rd (st_lane lane (nI w_6) y n) (st_ml ml (nI w_6) y n) (st_cel cel (nI w_6) y n)) () hx hb hr hlocks hS rfl (by rw [sp_sheet, if_pos (isP_of (by omega) hw_6), if_neg (fun z => hn_15 z.1)]) (by simp only [st_lane, st_ml, st_cel, ft_sheet, if_neg (c := c_sheet (nI w_6) y n) (fun z => hn_15 z.2.1), if_pos (c := isP 4 (nI w_6)) (isP_of (by omega) hw_6), if_neg (c := isP 3 y ∧ ¬ nI 60 < n) (fun z => hn_15 z.1)]; exact hP) dX4_sheet_29
  · refine lv_if_ne (tgt := 14) hx hb dX4_sheet_9 (by decide) (fun c9 => ?_) (fun c9 => ?_)
    · exact absurd c9 (by decide)
    refine lv_iconst (v := (-1)) hx hb dX4_sheet_12 (by decide) ?_
    exact zretMI (w1 := fun (uu : Unit) => wX g x sh co ck ch cl vo vpa vma re rua rla rma rda sad cad tr (ft_sheet k y n) np sl kd hg lk vn vp vm nr ru rl rm rd (st_lane lane k y n) (st_ml ml k y n) (st_cel cel k y n)) () hx hb hr hlocks hS rfl (by rw [sp_sheet, if_neg hn_6]) (by simp only [st_lane, st_ml, st_cel, ft_sheet, if_neg (c := c_sheet k y n) (fun z => hn_6 z.1), if_neg hn_6]; exact hP) dX4_sheet_13

set_option maxHeartbeats 4000000 in
set_option maxRecDepth 100000 in
theorem c_X4_lose (l : Launch) (g : Gx) (x : Nat) (sh : Nat) (co : Nat) (ck : Nat) (ch : Nat) (cl : Nat) (vo : Nat) (vpa : Nat) (vma : Nat) (re : Nat) (rua : Nat) (rla : Nat) (rma : Nat) (rda : Nat) (sad : Nat → Nat) (cad : Nat → Nat) (tr : Int32) (ft : Nat) (np : Nat) (sl : Nat) (kd : Nat → Nat) (hg : Nat → Nat) (lk : Nat → Nat) (vn : Nat) (vp : Nat → Int32) (vm : Nat → Int32) (nr : Nat) (ru : Nat → Nat) (rl : Nat → Nat) (rm : Nat → Nat) (rd : Nat → Nat) (lane : Nat → Nat) (ml : Nat → Nat) (cel : Nat → Nat → Int32) (k : Int32) (hG : Gd np sl kd hg nr ru rl rm rd lane ml) : Met l yX4_lose wsX4_lose ({ frames := 2, cells := 0, slots := 0, locals := 42 } : Room) (PcM g [.ref x, .int k] (wX g x sh co ck ch cl vo vpa vma re rua rla rma rda sad cad tr ft np sl kd hg lk vn vp vm nr ru rl rm rd lane ml cel)) (va_Qi (fun (r : Int32) (uu : Unit) => r = sp_lose lane k) (fun (uu : Unit) t => PP g (wX g x sh co ck ch cl vo vpa vma re rua rla rma rda sad cad tr ft np sl kd hg lk vn vp vm nr ru rl rm rd (st_lose lane k) ml cel) t.heap) (inW (wX g x sh co ck ch cl vo vpa vma re rua rla rma rda sad cad tr ft np sl kd hg lk vn vp vm nr ru rl rm rd lane ml cel))) 0 0 (inW (wX g x sh co ck ch cl vo vpa vma re rua rla rma rda sad cad tr ft np sl kd hg lk vn vp vm nr ru rl rm rd lane ml cel)) := by
  refine zenterM (cc := cX4_lose) (maxL := 2) (ret := (some .int)) (by decide) rfl (Nat.le_of_ble_eq_true rfl) ?_
  intro P E s mt below meth cd ls hx hb hml hown hts hr hlocks hP hK hD hS hl
  skip
  have hl : lv_has ls 2 [(0, .ref x), (1, .int k)] := hl
  have S0 : CallFix P mt cd cX4_lose 2 s [.ref x, .int k].toArray wsX4_lose RX4 := ⟨hx, hb, hml, hown, hts⟩
  obtain ⟨hnp, hsl, hkd, hhg, hnr, hru, hrl, hrm, hrd, hla, hmz⟩ := hG
  refine lv_iload_n hx hb dX4_lose_0 rfl (lv_at hl 1 rfl) ?_
  refine zcallR (va_runS (As := [.int k]) (rest := []) S0 (c_X4_isSheet l g k) (va_cwS 1 hts gX4_lose_X4_isSheet rfl rfl rfl (by decide +kernel) ⟨by decide, by decide⟩) (zpreS hK (P_nil _)) rfl rfl hl.1 rfl (lv_room (Nat.le_of_ble_eq_true rfl)) dX4_lose_1 ⟨by decide, by decide⟩) (fun r1 h1 => ?_)
  rcases h1 with ⟨w_1, hw_1, hv_1, rfl⟩ | ⟨hn_1, rfl⟩
  · subst hv_1
    refine lv_if_ne (tgt := 9) hx hb dX4_lose_4 (by decide) (fun c4 => ?_) (fun c4 => ?_)
    rotate_left
    · exact absurd c4 (by decide)
    refine lv_aload_n hx hb dX4_lose_9 rfl (lv_at hl 0 rfl) ?_
    refine va_get (D := g.1) (ci := 4) (v := .ref sh) (C := RX4) (T := TX4) (N := 6) hx hb hts (fun _ h => (List.mem_cons_of_mem _ (List.mem_append_left _ (List.mem_append_right _ h)))) hown hK.1 hP 0 rfl rfl 0 (by decide) (hts _ (List.mem_of_getElem? (i := 1) rfl)) (fun _ h9 => h9) rfl dX4_lose_10 ?_
    refine lv_iload_n hx hb dX4_lose_13 rfl (lv_at hl 1 rfl) ?_
    refine n_aald (i := w_1) (b := sad w_1) hx hb hK.1 hP 1 2 rfl rfl (by omega) (by decide) rfl dX4_lose_14 ?_
    have hPc : PP g (wS g (sad w_1) (cad w_1) (lC (lane w_1)) (ln lane ml w_1) (cel w_1)) _ := (P_sub (w := wS g (sad w_1) (cad w_1) (lC (lane w_1)) (ln lane ml w_1) (cel w_1)) hP [14 + 2 * w_1, 15 + 2 * w_1] (sh_pl hw_1))
    refine zcallR (va_runV (As := []) (rest := []) (b := (sad w_1)) S0 (c_X2_hasNothing l g (sad w_1) (cad w_1) (lC (lane w_1)) (ln lane ml w_1) (cel w_1)) (cwV 0 hts gX4_lose_X2_hasNothing rfl rfl rfl (by decide +kernel) ⟨by decide, by decide⟩) (zpreV hK hPc (va_recv hK.1 hPc (ci := 2) (q0 := 0) rfl rfl)) rfl rfl hl.1 rfl (lv_room (Nat.le_of_ble_eq_true rfl)) dX4_lose_15 ⟨by decide, by decide⟩) (fun r15 h15 => ?_)
    subst h15
    have f1 := b01_le ((lC (lane w_1)) = -1)
    refine n_if_eq (a := (b01 ((lC (lane w_1)) = -1))) (tgt := 23) hx hb (by omega) dX4_lose_18 (by decide) (fun c18 => ?_) (fun c18 => ?_)
    · have h3 : lane w_1 ≠ 3 := fun z => b01_0.mp c18 (lC_3 z)
      refine lv_aload_n hx hb dX4_lose_23 rfl (lv_at hl 0 rfl) ?_
      refine va_get (D := g.1) (ci := 4) (v := .ref sh) (C := RX4) (T := TX4) (N := 6) hx hb hts (fun _ h => (List.mem_cons_of_mem _ (List.mem_append_left _ (List.mem_append_right _ h)))) hown hK.1 hP 0 rfl rfl 0 (by decide) (hts _ (List.mem_of_getElem? (i := 1) rfl)) (fun _ h9 => h9) rfl dX4_lose_24 ?_
      refine lv_iload_n hx hb dX4_lose_27 rfl (lv_at hl 1 rfl) ?_
      refine n_aald (i := w_1) (b := sad w_1) hx hb hK.1 hP 1 2 rfl rfl (by omega) (by decide) rfl dX4_lose_28 ?_
      have hPc : PP g (wS g (sad w_1) (cad w_1) (lC (lane w_1)) (ln lane ml w_1) (cel w_1)) _ := P_sub hP [14 + 2 * w_1, 15 + 2 * w_1] (sh_pl hw_1)
      refine zcallMv (w := wS g (sad w_1) (cad w_1) (lC (lane w_1)) (ln lane ml w_1) (cel w_1)) (va_runV (As := []) (rest := []) (b := (sad w_1)) S0 (c_X2_drop l g (sad w_1) (cad w_1) (lC (lane w_1)) (ln lane ml w_1) (cel w_1)) (cwV 0 hts gX4_lose_X2_drop rfl rfl rfl (by decide +kernel) ⟨by decide, by decide⟩) (zpreVM hK hP hD [14 + 2 * w_1, 15 + 2 * w_1] (sh_pl hw_1) (sh_nd hw_1) (va_recv hK.1 hPc (ci := 2) (q0 := 0) rfl rfl)) rfl rfl hl.1 rfl (lv_room (Nat.le_of_ble_eq_true rfl)) dX4_lose_29 ⟨by decide, by decide⟩) hP hD hS [14 + 2 * w_1, 15 + 2 * w_1] (sh_pl hw_1) (fun uu29 => wX g x sh co ck ch cl vo vpa vma re rua rla rma rda sad cad tr ft np sl kd hg lk vn vp vm nr ru rl rm rd (va_up lane w_1 3) ml cel) (fun _ => lz_wS.trans lz_wS.symm) (fun _ => sh_set hw_1 (va_up lane w_1 3) ml cel (by rw [va_up_self]; rfl) (ln_3 (va_up_self _ _ _)) rfl (fun _ hj => ⟨va_up_ne _ _ hj, rfl, rfl⟩)) (fun _ => ad_wX.trans ad_wX.symm) (fun uu29 H locs h29 hP hD hS => ?_)
      refine lv_iconst (v := (nI 1)) hx hb dX4_lose_32 (by decide) ?_
      exact zretMI (w1 := fun (uu : Unit) => wX g x sh co ck ch cl vo vpa vma re rua rla rma rda sad cad tr ft np sl kd hg lk vn vp vm nr ru rl rm rd (st_lose lane (nI w_1)) ml cel) () hx hb hr hlocks hS rfl (by rw [sp_lose, if_pos (isP_of (by omega) hw_1), tN_nI (u := w_1) (by omega), if_neg h3]) (by rw [st_lose, if_pos (isP_of (by omega) hw_1), tN_nI (u := w_1) (by omega)]; exact hP) dX4_lose_33
    · have h3 : lane w_1 = 3 := (lC_m1 (hla _)).mp (b01_n0.mp c18)
      refine lv_iconst (v := (nI 0)) hx hb dX4_lose_21 (by decide) ?_
      exact zretMI (w1 := fun (uu : Unit) => wX g x sh co ck ch cl vo vpa vma re rua rla rma rda sad cad tr ft np sl kd hg lk vn vp vm nr ru rl rm rd (st_lose lane (nI w_1)) ml cel) () hx hb hr hlocks hS rfl (by rw [sp_lose, if_pos (isP_of (by omega) hw_1), tN_nI (u := w_1) (by omega), if_pos h3]) (by rw [st_lose, if_pos (isP_of (by omega) hw_1), tN_nI (u := w_1) (by omega), va_up_same h3]; exact hP) dX4_lose_22
  · refine lv_if_ne (tgt := 9) hx hb dX4_lose_4 (by decide) (fun c4 => ?_) (fun c4 => ?_)
    · exact absurd c4 (by decide)
    refine lv_iconst (v := (-1)) hx hb dX4_lose_7 (by decide) ?_
    exact zretMI (w1 := fun (uu : Unit) => wX g x sh co ck ch cl vo vpa vma re rua rla rma rda sad cad tr ft np sl kd hg lk vn vp vm nr ru rl rm rd (st_lose lane k) ml cel) () hx hb hr hlocks hS rfl (by rw [sp_lose, if_neg hn_1]) (by rw [st_lose, if_neg hn_1]; exact hP) dX4_lose_8

set_option maxHeartbeats 4000000 in
set_option maxRecDepth 100000 in
theorem c_X4_put (l : Launch) (g : Gx) (x : Nat) (sh : Nat) (co : Nat) (ck : Nat) (ch : Nat) (cl : Nat) (vo : Nat) (vpa : Nat) (vma : Nat) (re : Nat) (rua : Nat) (rla : Nat) (rma : Nat) (rda : Nat) (sad : Nat → Nat) (cad : Nat → Nat) (tr : Int32) (ft : Nat) (np : Nat) (sl : Nat) (kd : Nat → Nat) (hg : Nat → Nat) (lk : Nat → Nat) (vn : Nat) (vp : Nat → Int32) (vm : Nat → Int32) (nr : Nat) (ru : Nat → Nat) (rl : Nat → Nat) (rm : Nat → Nat) (rd : Nat → Nat) (lane : Nat → Nat) (ml : Nat → Nat) (cel : Nat → Nat → Int32) (k : Int32) (i : Int32) (v : Int32) (hG : Gd np sl kd hg nr ru rl rm rd lane ml) : Met l yX4_put wsX4_put ({ frames := 2, cells := 0, slots := 0, locals := 43 } : Room) (PcM g [.ref x, .int k, .int i, .int v] (wX g x sh co ck ch cl vo vpa vma re rua rla rma rda sad cad tr ft np sl kd hg lk vn vp vm nr ru rl rm rd lane ml cel)) (va_Qi (fun (r : Int32) (uu : Unit) => r = sp_put lane ml k i) (fun (uu : Unit) t => PP g (wX g x sh co ck ch cl vo vpa vma re rua rla rma rda sad cad tr (ft_put lane ml k i) np sl kd hg lk vn vp vm nr ru rl rm rd lane ml (st_put lane ml cel k i v)) t.heap) (inW (wX g x sh co ck ch cl vo vpa vma re rua rla rma rda sad cad tr ft np sl kd hg lk vn vp vm nr ru rl rm rd lane ml cel))) 0 0 (inW (wX g x sh co ck ch cl vo vpa vma re rua rla rma rda sad cad tr ft np sl kd hg lk vn vp vm nr ru rl rm rd lane ml cel)) := by
  refine zenterM (cc := cX4_put) (maxL := 4) (ret := (some .int)) (by decide) rfl (Nat.le_of_ble_eq_true rfl) ?_
  intro P E s mt below meth cd ls hx hb hml hown hts hr hlocks hP hK hD hS hl
  skip
  have hl : lv_has ls 4 [(0, .ref x), (1, .int k), (2, .int i), (3, .int v)] := hl
  have S0 : CallFix P mt cd cX4_put 4 s [.ref x, .int k, .int i, .int v].toArray wsX4_put RX4 := ⟨hx, hb, hml, hown, hts⟩
  obtain ⟨hnp, hsl, hkd, hhg, hnr, hru, hrl, hrm, hrd, hla, hmz⟩ := hG
  refine lv_aload_n hx hb dX4_put_0 rfl (lv_at hl 0 rfl) ?_
  refine lv_iconst (v := (nI 0)) hx hb dX4_put_1 (by decide) ?_
  refine n_put (D := g.1) (ci := 4) (v := .int (nI 0)) (ty := .int) (C := RX4) (T := TX4) (N := 6) (ws1 := wX g x sh co ck ch cl vo vpa vma re rua rla rma rda sad cad tr 0 np sl kd hg lk vn vp vm nr ru rl rm rd lane ml cel) hx hb hts (fun _ h => (List.mem_cons_of_mem _ (List.mem_append_left _ (List.mem_append_right _ h)))) tyX4 tyX4_ok nmX4 hown hK.1 hP hD hS 0 rfl rfl 5 (by decide) (hts _ (List.mem_of_getElem? (i := 1) rfl)) (fun _ h9 => h9) rfl (by decide +kernel) rfl rfl (Nat.le_of_ble_eq_true rfl) rfl dX4_put_2 (fun H locs hP hD hS => ?_)
  refine lv_iload_n hx hb dX4_put_5 rfl (lv_at hl 1 rfl) ?_
  refine zcallR (va_runS (As := [.int k]) (rest := []) S0 (c_X4_isSheet l g k) (va_cwS 1 hts gX4_put_X4_isSheet rfl rfl rfl (by decide +kernel) ⟨by decide, by decide⟩) (zpreS hK (P_nil _)) rfl rfl hl.1 rfl (lv_room (Nat.le_of_ble_eq_true rfl)) dX4_put_6 ⟨by decide, by decide⟩) (fun r6 h6 => ?_)
  rcases h6 with ⟨w_6, hw_6, hv_6, rfl⟩ | ⟨hn_6, rfl⟩
  · subst hv_6
    refine lv_if_ne (tgt := 14) hx hb dX4_put_9 (by decide) (fun c9 => ?_) (fun c9 => ?_)
    rotate_left
    · exact absurd c9 (by decide)
    refine lv_aload_n hx hb dX4_put_14 rfl (lv_at hl 0 rfl) ?_
    refine va_get (D := g.1) (ci := 4) (v := .ref sh) (C := RX4) (T := TX4) (N := 6) hx hb hts (fun _ h => (List.mem_cons_of_mem _ (List.mem_append_left _ (List.mem_append_right _ h)))) hown hK.1 hP 0 rfl rfl 0 (by decide) (hts _ (List.mem_of_getElem? (i := 2) rfl)) (fun _ h9 => h9) rfl dX4_put_15 ?_
    refine lv_iload_n hx hb dX4_put_18 rfl (lv_at hl 1 rfl) ?_
    refine n_aald (i := w_6) (b := sad w_6) hx hb hK.1 hP 1 2 rfl rfl (by omega) (by decide) rfl dX4_put_19 ?_
    have hPc : PP g (wS g (sad w_6) (cad w_6) (lC (lane w_6)) (ln lane ml w_6) (cel w_6)) _ := (P_sub (w := wS g (sad w_6) (cad w_6) (lC (lane w_6)) (ln lane ml w_6) (cel w_6)) hP [14 + 2 * w_6, 15 + 2 * w_6] (sh_pl hw_6))
    refine zcallR (va_runV (As := []) (rest := []) (b := (sad w_6)) S0 (c_X2_hasNothing l g (sad w_6) (cad w_6) (lC (lane w_6)) (ln lane ml w_6) (cel w_6)) (cwV 0 hts gX4_put_X2_hasNothing rfl rfl rfl (by decide +kernel) ⟨by decide, by decide⟩) (zpreV hK hPc (va_recv hK.1 hPc (ci := 2) (q0 := 0) rfl rfl)) rfl rfl hl.1 rfl (lv_room (Nat.le_of_ble_eq_true rfl)) dX4_put_20 ⟨by decide, by decide⟩) (fun r20 h20 => ?_)
    subst h20
    have f1 := b01_le ((lC (lane w_6)) = -1)
    refine n_if_eq (a := (b01 ((lC (lane w_6)) = -1))) (tgt := 32) hx hb (by omega) dX4_put_23 (by decide) (fun c23 => ?_) (fun c23 => ?_)
    · have h3 : lane w_6 ≠ 3 := fun z => b01_0.mp c23 (lC_3 z)
      have hm6 := hmz w_6
      refine lv_aload_n hx hb dX4_put_32 rfl (lv_at hl 0 rfl) ?_
      refine va_get (D := g.1) (ci := 4) (v := .ref sh) (C := RX4) (T := TX4) (N := 6) hx hb hts (fun _ h => (List.mem_cons_of_mem _ (List.mem_append_left _ (List.mem_append_right _ h)))) hown hK.1 hP 0 rfl rfl 0 (by decide) (hts _ (List.mem_of_getElem? (i := 2) rfl)) (fun _ h9 => h9) rfl dX4_put_33 ?_
      refine lv_iload_n hx hb dX4_put_36 rfl (lv_at hl 1 rfl) ?_
      refine n_aald (i := w_6) (b := sad w_6) hx hb hK.1 hP 1 2 rfl rfl (by omega) (by decide) rfl dX4_put_37 ?_
      refine lv_iload_n hx hb dX4_put_38 rfl (lv_at hl 2 rfl) ?_
      have hPc : PP g (wS g (sad w_6) (cad w_6) (lC (lane w_6)) (ln lane ml w_6) (cel w_6)) _ := (P_sub (w := wS g (sad w_6) (cad w_6) (lC (lane w_6)) (ln lane ml w_6) (cel w_6)) hP [14 + 2 * w_6, 15 + 2 * w_6] (sh_pl hw_6))
      refine zcallR (va_runV (As := [.int i]) (rest := []) (b := (sad w_6)) S0 (c_X2_hasCell l g (sad w_6) (cad w_6) (lC (lane w_6)) (ln lane ml w_6) (cel w_6) i (ln_le hmz _)) (cwV 1 hts gX4_put_X2_hasCell rfl rfl rfl (by decide +kernel) ⟨by decide, by decide⟩) (zpreV hK hPc (va_recv hK.1 hPc (ci := 2) (q0 := 0) rfl rfl)) rfl rfl hl.1 rfl (lv_room (Nat.le_of_ble_eq_true rfl)) dX4_put_39 ⟨by decide, by decide⟩) (fun r39 h39 => ?_)
      rcases h39 with ⟨w_39, hw_39, hv_39, rfl⟩ | ⟨hn_39, rfl⟩
      · subst hv_39
        have hw39 := hw_39
        rw [ln_n h3] at hw39
        refine lv_if_ne (tgt := 51) hx hb dX4_put_42 (by decide) (fun c42 => ?_) (fun c42 => ?_)
        rotate_left
        · exact absurd c42 (by decide)
        refine lv_aload_n hx hb dX4_put_51 rfl (lv_at hl 0 rfl) ?_
        refine va_get (D := g.1) (ci := 4) (v := .ref sh) (C := RX4) (T := TX4) (N := 6) hx hb hts (fun _ h => (List.mem_cons_of_mem _ (List.mem_append_left _ (List.mem_append_right _ h)))) hown hK.1 hP 0 rfl rfl 0 (by decide) (hts _ (List.mem_of_getElem? (i := 2) rfl)) (fun _ h9 => h9) rfl dX4_put_52 ?_
        refine lv_iload_n hx hb dX4_put_55 rfl (lv_at hl 1 rfl) ?_
        refine n_aald (i := w_6) (b := sad w_6) hx hb hK.1 hP 1 2 rfl rfl (by omega) (by decide) rfl dX4_put_56 ?_
        refine lv_iload_n hx hb dX4_put_57 rfl (lv_at hl 2 rfl) ?_
        refine lv_iload_n hx hb dX4_put_58 rfl (lv_at hl 3 rfl) ?_
        have hPc : PP g (wS g (sad w_6) (cad w_6) (lC (lane w_6)) (ln lane ml w_6) (cel w_6)) _ := P_sub hP [14 + 2 * w_6, 15 + 2 * w_6] (sh_pl hw_6)
        refine zcallMv (w := wS g (sad w_6) (cad w_6) (lC (lane w_6)) (ln lane ml w_6) (cel w_6)) (va_runV (As := [.int (nI w_39), .int v]) (rest := []) (b := (sad w_6)) S0 (c_X2_write l g (sad w_6) (cad w_6) (lC (lane w_6)) (ln lane ml w_6) (cel w_6) w_39 v (ln_le hmz _) (by omega)) (cwV 2 hts gX4_put_X2_write rfl rfl rfl (by decide +kernel) ⟨by decide, by decide⟩) (zpreVM hK hP hD [14 + 2 * w_6, 15 + 2 * w_6] (sh_pl hw_6) (sh_nd hw_6) (va_recv hK.1 hPc (ci := 2) (q0 := 0) rfl rfl)) rfl rfl hl.1 rfl (lv_room (Nat.le_of_ble_eq_true rfl)) dX4_put_59 ⟨by decide, by decide⟩) hP hD hS [14 + 2 * w_6, 15 + 2 * w_6] (sh_pl hw_6) (fun uu59 => wX g x sh co ck ch cl vo vpa vma re rua rla rma rda sad cad tr 0 np sl kd hg lk vn vp vm nr ru rl rm rd lane ml (va_up cel w_6 (upd (cel w_6) w_39 (cutI (lC (lane w_6)) v)))) (fun _ => lz_wS.trans lz_wS.symm) (fun _ => sh_set hw_6 lane ml (va_up cel w_6 (upd (cel w_6) w_39 (cutI (lC (lane w_6)) v))) rfl rfl (va_up_self _ _ _) (fun _ hj => ⟨rfl, rfl, va_up_ne _ _ hj⟩)) (fun _ => ad_wX.trans ad_wX.symm) (fun uu59 H locs h59 hP hD hS => ?_)
        refine lv_iconst (v := (nI 1)) hx hb dX4_put_62 (by decide) ?_
        exact zretMI (w1 := fun (uu : Unit) => wX g x sh co ck ch cl vo vpa vma re rua rla rma rda sad cad tr (ft_put lane ml (nI w_6) (nI w_39)) np sl kd hg lk vn vp vm nr ru rl rm rd lane ml (st_put lane ml cel (nI w_6) (nI w_39) v)) () hx hb hr hlocks hS rfl (by rw [sp_put, if_pos (isP_of (by omega) hw_6), tN_nI (u := w_6) (by omega), if_neg h3, if_pos (isP_of (by omega) hw39)]) (by simp only [st_put, ft_put, tN_nI (u := w_6) (by omega), tN_nI (u := w_39) (by omega), if_pos (c := isP 4 (nI w_6) ∧ lane w_6 ≠ 3 ∧ isP (ml w_6) (nI w_39)) ⟨(isP_of (by omega) hw_6), h3, isP_of (by omega) hw39⟩, if_pos (c := isP 4 (nI w_6)) (isP_of (by omega) hw_6), if_neg h3, if_pos (c := isP (ml w_6) (nI w_39)) (isP_of (by omega) hw39), ← lC_n h3]; exact hP) dX4_put_63
      · refine lv_if_ne (tgt := 51) hx hb dX4_put_42 (by decide) (fun c42 => ?_) (fun c42 => ?_)
        · exact absurd c42 (by decide)
        refine lv_aload_n hx hb dX4_put_45 rfl (lv_at hl 0 rfl) ?_
        refine lv_iconst (v := (nI 3)) hx hb dX4_put_46 (by decide) ?_
        have hPc : PP g (wXo g x sh co vo re tr 0) _ := P_sub hP [0] rfl
        refine zcallM (w := wXo g x sh co vo re tr 0) (va_runV (As := [.int (nI 3)]) (rest := []) (b := x) S0 (c_X4_failBy l g x sh co vo re tr 0 3) (cwV 1 hts gX4_put_X4_failBy rfl rfl rfl (by decide +kernel) ⟨by decide, by decide⟩) (zpreVM hK hP hD [0] rfl (by decide) (va_recv hK.1 hPc (ci := 4) (q0 := 0) rfl rfl)) rfl rfl hl.1 rfl (lv_room (Nat.le_of_ble_eq_true rfl)) dX4_put_47 ⟨by decide, by decide⟩) hP hD hS [0] rfl (fun uu47 => wX g x sh co ck ch cl vo vpa vma re rua rla rma rda sad cad tr 3 np sl kd hg lk vn vp vm nr ru rl rm rd lane ml cel) (fun _ => lz_wXo.trans lz_wXo.symm) (fun _ => rfl) (fun _ => ad_wX.trans ad_wX.symm) (fun r47 uu47 H locs h47 hP hD hS => ?_)
        subst h47
        exact zretMI (w1 := fun (uu : Unit) => wX g x sh co ck ch cl vo vpa vma re rua rla rma rda sad cad tr (ft_put lane ml (nI w_6) i) np sl kd hg lk vn vp vm nr ru rl rm rd lane ml (st_put lane ml cel (nI w_6) i v)) () hx hb hr hlocks hS rfl (by rw [sp_put, if_pos (isP_of (by omega) hw_6), tN_nI (u := w_6) (by omega), if_neg h3, if_neg (fun z => hn_39 (by rw [ln_n h3]; exact z))]) (by simp only [st_put, ft_put, tN_nI (u := w_6) (by omega), if_neg (c := isP 4 (nI w_6) ∧ lane w_6 ≠ 3 ∧ isP (ml w_6) i) (fun z => hn_39 (by rw [ln_n h3]; exact z.2.2)), if_pos (c := isP 4 (nI w_6)) (isP_of (by omega) hw_6), if_neg h3, if_neg (c := isP (ml w_6) i) (fun z => hn_39 (by rw [ln_n h3]; exact z))]; exact hP) dX4_put_50
    · have h3 : lane w_6 = 3 := (lC_m1 (hla _)).mp (b01_n0.mp c23)
      refine lv_aload_n hx hb dX4_put_26 rfl (lv_at hl 0 rfl) ?_
      refine lv_iconst (v := (nI 1)) hx hb dX4_put_27 (by decide) ?_
      have hPc : PP g (wXo g x sh co vo re tr 0) _ := P_sub hP [0] rfl
      refine zcallM (w := wXo g x sh co vo re tr 0) (va_runV (As := [.int (nI 1)]) (rest := []) (b := x) S0 (c_X4_failBy l g x sh co vo re tr 0 1) (cwV 1 hts gX4_put_X4_failBy rfl rfl rfl (by decide +kernel) ⟨by decide, by decide⟩) (zpreVM hK hP hD [0] rfl (by decide) (va_recv hK.1 hPc (ci := 4) (q0 := 0) rfl rfl)) rfl rfl hl.1 rfl (lv_room (Nat.le_of_ble_eq_true rfl)) dX4_put_28 ⟨by decide, by decide⟩) hP hD hS [0] rfl (fun uu28 => wX g x sh co ck ch cl vo vpa vma re rua rla rma rda sad cad tr 1 np sl kd hg lk vn vp vm nr ru rl rm rd lane ml cel) (fun _ => lz_wXo.trans lz_wXo.symm) (fun _ => rfl) (fun _ => ad_wX.trans ad_wX.symm) (fun r28 uu28 H locs h28 hP hD hS => ?_)
      subst h28
      exact zretMI (w1 := fun (uu : Unit) => wX g x sh co ck ch cl vo vpa vma re rua rla rma rda sad cad tr (ft_put lane ml (nI w_6) i) np sl kd hg lk vn vp vm nr ru rl rm rd lane ml (st_put lane ml cel (nI w_6) i v)) () hx hb hr hlocks hS rfl (by rw [sp_put, if_pos (isP_of (by omega) hw_6), tN_nI (u := w_6) (by omega), if_pos h3]) (by simp only [st_put, ft_put, tN_nI (u := w_6) (by omega), if_neg (c := isP 4 (nI w_6) ∧ lane w_6 ≠ 3 ∧ isP (ml w_6) i) (fun z => z.2.1 h3), if_pos (c := isP 4 (nI w_6)) (isP_of (by omega) hw_6), if_pos h3]; exact hP) dX4_put_31
  · refine lv_if_ne (tgt := 14) hx hb dX4_put_9 (by decide) (fun c9 => ?_) (fun c9 => ?_)
    · exact absurd c9 (by decide)
    refine lv_iconst (v := (-1)) hx hb dX4_put_12 (by decide) ?_
    exact zretMI (w1 := fun (uu : Unit) => wX g x sh co ck ch cl vo vpa vma re rua rla rma rda sad cad tr (ft_put lane ml k i) np sl kd hg lk vn vp vm nr ru rl rm rd lane ml (st_put lane ml cel k i v)) () hx hb hr hlocks hS rfl (by rw [sp_put, if_neg hn_6]) (by simp only [st_put, ft_put, if_neg (c := isP 4 k ∧ lane (tN k) ≠ 3 ∧ isP (ml (tN k)) i) (fun z => hn_6 z.1), if_neg hn_6]; exact hP) dX4_put_13

set_option maxHeartbeats 4000000 in
set_option maxRecDepth 100000 in
theorem c_X4_cell (l : Launch) (g : Gx) (x : Nat) (sh : Nat) (co : Nat) (ck : Nat) (ch : Nat) (cl : Nat) (vo : Nat) (vpa : Nat) (vma : Nat) (re : Nat) (rua : Nat) (rla : Nat) (rma : Nat) (rda : Nat) (sad : Nat → Nat) (cad : Nat → Nat) (tr : Int32) (ft : Nat) (np : Nat) (sl : Nat) (kd : Nat → Nat) (hg : Nat → Nat) (lk : Nat → Nat) (vn : Nat) (vp : Nat → Int32) (vm : Nat → Int32) (nr : Nat) (ru : Nat → Nat) (rl : Nat → Nat) (rm : Nat → Nat) (rd : Nat → Nat) (lane : Nat → Nat) (ml : Nat → Nat) (cel : Nat → Nat → Int32) (k : Int32) (i : Int32) (y : Int32) (hG : Gd np sl kd hg nr ru rl rm rd lane ml) : Met l yX4_cell wsX4_cell ({ frames := 2, cells := 0, slots := 0, locals := 42 } : Room) (PcM g [.ref x, .int k, .int i, .int y] (wX g x sh co ck ch cl vo vpa vma re rua rla rma rda sad cad tr ft np sl kd hg lk vn vp vm nr ru rl rm rd lane ml cel)) (va_Ql (fun (r : Int64) (uu : Unit) => r = sp_cell lane ml cel k i y) (fun (uu : Unit) t => PP g (wX g x sh co ck ch cl vo vpa vma re rua rla rma rda sad cad tr (ft_cell lane ml k i y) np sl kd hg lk vn vp vm nr ru rl rm rd lane ml cel) t.heap) (inW (wX g x sh co ck ch cl vo vpa vma re rua rla rma rda sad cad tr ft np sl kd hg lk vn vp vm nr ru rl rm rd lane ml cel))) 0 0 (inW (wX g x sh co ck ch cl vo vpa vma re rua rla rma rda sad cad tr ft np sl kd hg lk vn vp vm nr ru rl rm rd lane ml cel)) := by
  refine zenterM (cc := cX4_cell) (maxL := 4) (ret := (some .long)) (by decide) rfl (Nat.le_of_ble_eq_true rfl) ?_
  intro P E s mt below meth cd ls hx hb hml hown hts hr hlocks hP hK hD hS hl
  skip
  have hl : lv_has ls 4 [(0, .ref x), (1, .int k), (2, .int i), (3, .int y)] := hl
  have S0 : CallFix P mt cd cX4_cell 4 s [.ref x, .int k, .int i, .int y].toArray wsX4_cell RX4 := ⟨hx, hb, hml, hown, hts⟩
  obtain ⟨hnp, hsl, hkd, hhg, hnr, hru, hrl, hrm, hrd, hla, hmz⟩ := hG
  refine lv_aload_n hx hb dX4_cell_0 rfl (lv_at hl 0 rfl) ?_
  refine lv_iconst (v := (nI 0)) hx hb dX4_cell_1 (by decide) ?_
  refine n_put (D := g.1) (ci := 4) (v := .int (nI 0)) (ty := .int) (C := RX4) (T := TX4) (N := 6) (ws1 := wX g x sh co ck ch cl vo vpa vma re rua rla rma rda sad cad tr 0 np sl kd hg lk vn vp vm nr ru rl rm rd lane ml cel) hx hb hts (fun _ h => (List.mem_cons_of_mem _ (List.mem_append_left _ (List.mem_append_right _ h)))) tyX4 tyX4_ok nmX4 hown hK.1 hP hD hS 0 rfl rfl 5 (by decide) (hts _ (List.mem_of_getElem? (i := 1) rfl)) (fun _ h9 => h9) rfl (by decide +kernel) rfl rfl (Nat.le_of_ble_eq_true rfl) rfl dX4_cell_2 (fun H locs hP hD hS => ?_)
  refine lv_iload_n hx hb dX4_cell_5 rfl (lv_at hl 1 rfl) ?_
  refine zcallR (va_runS (As := [.int k]) (rest := []) S0 (c_X4_isSheet l g k) (va_cwS 1 hts gX4_cell_X4_isSheet rfl rfl rfl (by decide +kernel) ⟨by decide, by decide⟩) (zpreS hK (P_nil _)) rfl rfl hl.1 rfl (lv_room (Nat.le_of_ble_eq_true rfl)) dX4_cell_6 ⟨by decide, by decide⟩) (fun r6 h6 => ?_)
  rcases h6 with ⟨w_6, hw_6, hv_6, rfl⟩ | ⟨hn_6, rfl⟩
  · subst hv_6
    refine lv_if_eq (tgt := 19) hx hb dX4_cell_9 (by decide) (fun c9 => ?_) (fun c9 => ?_)
    · exact absurd c9 (by decide)
    refine lv_iload_n hx hb dX4_cell_12 rfl (lv_at hl 3 rfl) ?_
    refine zcallR (va_runS (As := [.int y]) (rest := []) S0 (c_X4_isLane l g y) (va_cwS 1 hts gX4_cell_X4_isLane rfl rfl rfl (by decide +kernel) ⟨by decide, by decide⟩) (zpreS hK (P_nil _)) rfl rfl hl.1 rfl (lv_room (Nat.le_of_ble_eq_true rfl)) dX4_cell_13 ⟨by decide, by decide⟩) (fun r13 h13 => ?_)
    rcases h13 with ⟨w_13, hw_13, hv_13, rfl⟩ | ⟨hn_13, rfl⟩
    · subst hv_13
      refine lv_if_ne (tgt := 23) hx hb dX4_cell_16 (by decide) (fun c16 => ?_) (fun c16 => ?_)
      rotate_left
      · exact absurd c16 (by decide)
      refine lv_aload_n hx hb dX4_cell_23 rfl (lv_at hl 0 rfl) ?_
      refine lv_aload_n hx hb dX4_cell_24 rfl (lv_at hl 0 rfl) ?_
      refine va_get (D := g.1) (ci := 4) (v := .ref sh) (C := RX4) (T := TX4) (N := 6) hx hb hts (fun _ h => (List.mem_cons_of_mem _ (List.mem_append_left _ (List.mem_append_right _ h)))) hown hK.1 hP 0 rfl rfl 0 (by decide) (hts _ (List.mem_of_getElem? (i := 3) rfl)) (fun _ h9 => h9) rfl dX4_cell_25 ?_
      refine lv_iload_n hx hb dX4_cell_28 rfl (lv_at hl 1 rfl) ?_
      refine n_aald (i := w_6) (b := sad w_6) hx hb hK.1 hP 1 2 rfl rfl (by omega) (by decide) rfl dX4_cell_29 ?_
      refine lv_iload_n hx hb dX4_cell_30 rfl (lv_at hl 3 rfl) ?_
      refine zcallR (va_runS (As := [.ref (sad w_6), .int (nI w_13)]) (rest := [.ref x]) S0 (c_X4_faultOfRow l g (sad w_6) (cad w_6) (lC (lane w_6)) (ln lane ml w_6) (cel w_6) (nI w_13)) (va_cwS 2 hts gX4_cell_X4_faultOfRow rfl rfl rfl (by decide +kernel) ⟨by decide, by decide⟩) (zpreS hK (P_sub (w := wS g (sad w_6) (cad w_6) (lC (lane w_6)) (ln lane ml w_6) (cel w_6)) hP [14 + 2 * w_6, 15 + 2 * w_6] (sh_pl hw_6))) rfl rfl hl.1 rfl (lv_room (Nat.le_of_ble_eq_true rfl)) dX4_cell_31 ⟨by decide, by decide⟩) (fun r31 h31 => ?_)
      subst h31
      have f1 := fRI_le (lC (lane w_6)) (nI w_13)
      refine ztopI (nI (fR (lane w_6) w_13)) (by rw [fRI_eq (hla _) hw_13]) ?_
      have hfr := fR_le (lane w_6) w_13
      refine n_put (D := g.1) (ci := 4) (v := .int (nI (fR (lane w_6) w_13))) (ty := .int) (C := RX4) (T := TX4) (N := 6) (ws1 := wX g x sh co ck ch cl vo vpa vma re rua rla rma rda sad cad tr (fR (lane w_6) w_13) np sl kd hg lk vn vp vm nr ru rl rm rd lane ml cel) hx hb hts (fun _ h => (List.mem_cons_of_mem _ (List.mem_append_left _ (List.mem_append_right _ h)))) tyX4 tyX4_ok nmX4 hown hK.1 hP hD hS 0 rfl rfl 5 (by decide) (hts _ (List.mem_of_getElem? (i := 1) rfl)) (fun _ h9 => h9) rfl (by decide +kernel) rfl rfl (Nat.le_of_ble_eq_true rfl) rfl dX4_cell_34 (fun H locs hP hD hS => ?_)
      refine lv_aload_n hx hb dX4_cell_37 rfl (lv_at hl 0 rfl) ?_
      refine va_get (D := g.1) (ci := 4) (v := .int (nI (fR (lane w_6) w_13))) (C := RX4) (T := TX4) (N := 6) hx hb hts (fun _ h => (List.mem_cons_of_mem _ (List.mem_append_left _ (List.mem_append_right _ h)))) hown hK.1 hP 0 rfl rfl 5 (by decide) (hts _ (List.mem_of_getElem? (i := 1) rfl)) (fun _ h9 => h9) rfl dX4_cell_38 ?_
      refine n_if_ne (a := (fR (lane w_6) w_13)) (tgt := 62) hx hb (by omega) dX4_cell_41 (by decide) (fun c41 => ?_) (fun c41 => ?_)
      · refine lv_aload_n hx hb dX4_cell_62 rfl (lv_at hl 0 rfl) ?_
        refine va_get (D := g.1) (ci := 4) (v := .int (nI (fR (lane w_6) w_13))) (C := RX4) (T := TX4) (N := 6) hx hb hts (fun _ h => (List.mem_cons_of_mem _ (List.mem_append_left _ (List.mem_append_right _ h)))) hown hK.1 hP 0 rfl rfl 5 (by decide) (hts _ (List.mem_of_getElem? (i := 1) rfl)) (fun _ h9 => h9) rfl dX4_cell_63 ?_
        refine n_if_ne (a := (fR (lane w_6) w_13)) (tgt := 83) hx hb (by omega) dX4_cell_66 (by decide) (fun c66 => ?_) (fun c66 => ?_)
        · refine lv_ldc2 (v := (-9223372036854775808)) hx hb hown (hts _ (List.mem_of_getElem? (i := 2) rfl)) dX4_cell_83 ?_
          exact zretML (w1 := fun (uu : Unit) => wX g x sh co ck ch cl vo vpa vma re rua rla rma rda sad cad tr (ft_cell lane ml (nI w_6) i (nI w_13)) np sl kd hg lk vn vp vm nr ru rl rm rd lane ml cel) () hx hb hr hlocks hS (by rw [sp_cell, if_pos (c := isP 4 (nI w_6) ∧ isP 3 (nI w_13)) ⟨(isP_of (by omega) hw_6), (isP_of (by omega) hw_13)⟩, tN_nI (u := w_6) (by omega), tN_nI (u := w_13) (by omega), if_pos c41]) (by rw [ft_cell, if_pos (c := isP 4 (nI w_6) ∧ isP 3 (nI w_13)) ⟨(isP_of (by omega) hw_6), (isP_of (by omega) hw_13)⟩, tN_nI (u := w_6) (by omega), tN_nI (u := w_13) (by omega), if_pos c41]; exact hP) dX4_cell_86
        · exact absurd c66 c41
      · have h3 := (fR_0 c41).1
        have hm6 := hmz w_6
        refine lv_aload_n hx hb dX4_cell_44 rfl (lv_at hl 0 rfl) ?_
        refine va_get (D := g.1) (ci := 4) (v := .ref sh) (C := RX4) (T := TX4) (N := 6) hx hb hts (fun _ h => (List.mem_cons_of_mem _ (List.mem_append_left _ (List.mem_append_right _ h)))) hown hK.1 hP 0 rfl rfl 0 (by decide) (hts _ (List.mem_of_getElem? (i := 3) rfl)) (fun _ h9 => h9) rfl dX4_cell_45 ?_
        refine lv_iload_n hx hb dX4_cell_48 rfl (lv_at hl 1 rfl) ?_
        refine n_aald (i := w_6) (b := sad w_6) hx hb hK.1 hP 1 2 rfl rfl (by omega) (by decide) rfl dX4_cell_49 ?_
        refine lv_iload_n hx hb dX4_cell_50 rfl (lv_at hl 2 rfl) ?_
        have hPc : PP g (wS g (sad w_6) (cad w_6) (lC (lane w_6)) (ln lane ml w_6) (cel w_6)) _ := (P_sub (w := wS g (sad w_6) (cad w_6) (lC (lane w_6)) (ln lane ml w_6) (cel w_6)) hP [14 + 2 * w_6, 15 + 2 * w_6] (sh_pl hw_6))
        refine zcallR (va_runV (As := [.int i]) (rest := []) (b := (sad w_6)) S0 (c_X2_hasCell l g (sad w_6) (cad w_6) (lC (lane w_6)) (ln lane ml w_6) (cel w_6) i (ln_le hmz _)) (cwV 1 hts gX4_cell_X2_hasCell rfl rfl rfl (by decide +kernel) ⟨by decide, by decide⟩) (zpreV hK hPc (va_recv hK.1 hPc (ci := 2) (q0 := 0) rfl rfl)) rfl rfl hl.1 rfl (lv_room (Nat.le_of_ble_eq_true rfl)) dX4_cell_51 ⟨by decide, by decide⟩) (fun r51 h51 => ?_)
        rcases h51 with ⟨w_51, hw_51, hv_51, rfl⟩ | ⟨hn_51, rfl⟩
        · subst hv_51
          have hw51 := hw_51
          rw [ln_n h3] at hw51
          refine lv_if_ne (tgt := 62) hx hb dX4_cell_54 (by decide) (fun c54 => ?_) (fun c54 => ?_)
          rotate_left
          · exact absurd c54 (by decide)
          refine lv_aload_n hx hb dX4_cell_62 rfl (lv_at hl 0 rfl) ?_
          refine va_get (D := g.1) (ci := 4) (v := .int (nI (fR (lane w_6) w_13))) (C := RX4) (T := TX4) (N := 6) hx hb hts (fun _ h => (List.mem_cons_of_mem _ (List.mem_append_left _ (List.mem_append_right _ h)))) hown hK.1 hP 0 rfl rfl 5 (by decide) (hts _ (List.mem_of_getElem? (i := 1) rfl)) (fun _ h9 => h9) rfl dX4_cell_63 ?_
          refine n_if_ne (a := (fR (lane w_6) w_13)) (tgt := 83) hx hb (by omega) dX4_cell_66 (by decide) (fun c66 => ?_) (fun c66 => ?_)
          · exact absurd c41 c66
          · refine lv_aload_n hx hb dX4_cell_69 rfl (lv_at hl 0 rfl) ?_
            refine va_get (D := g.1) (ci := 4) (v := .ref sh) (C := RX4) (T := TX4) (N := 6) hx hb hts (fun _ h => (List.mem_cons_of_mem _ (List.mem_append_left _ (List.mem_append_right _ h)))) hown hK.1 hP 0 rfl rfl 0 (by decide) (hts _ (List.mem_of_getElem? (i := 3) rfl)) (fun _ h9 => h9) rfl dX4_cell_70 ?_
            refine lv_iload_n hx hb dX4_cell_73 rfl (lv_at hl 1 rfl) ?_
            refine n_aald (i := w_6) (b := sad w_6) hx hb hK.1 hP 1 2 rfl rfl (by omega) (by decide) rfl dX4_cell_74 ?_
            refine lv_iload_n hx hb dX4_cell_75 rfl (lv_at hl 2 rfl) ?_
            have hPc : PP g (wS g (sad w_6) (cad w_6) (lC (lane w_6)) (ln lane ml w_6) (cel w_6)) _ := (P_sub (w := wS g (sad w_6) (cad w_6) (lC (lane w_6)) (ln lane ml w_6) (cel w_6)) hP [14 + 2 * w_6, 15 + 2 * w_6] (sh_pl hw_6))
            refine zcallR (va_runV (As := [.int (nI w_51)]) (rest := []) (b := (sad w_6)) S0 (c_X2_at l g (sad w_6) (cad w_6) (lC (lane w_6)) (ln lane ml w_6) (cel w_6) w_51 (ln_le hmz _) (by omega)) (cwV 1 hts gX4_cell_X2_at rfl rfl rfl (by decide +kernel) ⟨by decide, by decide⟩) (zpreV hK hPc (va_recv hK.1 hPc (ci := 2) (q0 := 0) rfl rfl)) rfl rfl hl.1 rfl (lv_room (Nat.le_of_ble_eq_true rfl)) dX4_cell_76 ⟨by decide, by decide⟩) (fun r76 h76 => ?_)
            subst h76
            refine lv_i2l (v := ((cel w_6) w_51).toInt64) hx hb dX4_cell_79 rfl ?_
            refine lv_goto (tgt := 86) hx hb dX4_cell_80 (by decide) ?_
            exact zretML (w1 := fun (uu : Unit) => wX g x sh co ck ch cl vo vpa vma re rua rla rma rda sad cad tr (ft_cell lane ml (nI w_6) (nI w_51) (nI w_13)) np sl kd hg lk vn vp vm nr ru rl rm rd lane ml cel) () hx hb hr hlocks hS (by rw [sp_cell, if_pos (c := isP 4 (nI w_6) ∧ isP 3 (nI w_13)) ⟨(isP_of (by omega) hw_6), (isP_of (by omega) hw_13)⟩, tN_nI (u := w_6) (by omega), tN_nI (u := w_13) (by omega), if_neg (fun z => z c41), if_pos (isP_of (by omega) hw51), tN_nI (u := w_51) (by omega)]) (by rw [ft_cell, if_pos (c := isP 4 (nI w_6) ∧ isP 3 (nI w_13)) ⟨(isP_of (by omega) hw_6), (isP_of (by omega) hw_13)⟩, tN_nI (u := w_6) (by omega), tN_nI (u := w_13) (by omega), if_neg (fun z => z c41), if_pos (isP_of (by omega) hw51)]; rw [c41] at hP; exact hP) dX4_cell_86
        · refine lv_if_ne (tgt := 62) hx hb dX4_cell_54 (by decide) (fun c54 => ?_) (fun c54 => ?_)
          · exact absurd c54 (by decide)
          refine lv_aload_n hx hb dX4_cell_57 rfl (lv_at hl 0 rfl) ?_
          refine lv_iconst (v := (nI 3)) hx hb dX4_cell_58 (by decide) ?_
          refine n_put (D := g.1) (ci := 4) (v := .int (nI 3)) (ty := .int) (C := RX4) (T := TX4) (N := 6) (ws1 := wX g x sh co ck ch cl vo vpa vma re rua rla rma rda sad cad tr 3 np sl kd hg lk vn vp vm nr ru rl rm rd lane ml cel) hx hb hts (fun _ h => (List.mem_cons_of_mem _ (List.mem_append_left _ (List.mem_append_right _ h)))) tyX4 tyX4_ok nmX4 hown hK.1 hP hD hS 0 rfl rfl 5 (by decide) (hts _ (List.mem_of_getElem? (i := 1) rfl)) (fun _ h9 => h9) rfl (by decide +kernel) rfl rfl (Nat.le_of_ble_eq_true rfl) rfl dX4_cell_59 (fun H locs hP hD hS => ?_)
          refine lv_aload_n hx hb dX4_cell_62 rfl (lv_at hl 0 rfl) ?_
          refine va_get (D := g.1) (ci := 4) (v := .int (nI 3)) (C := RX4) (T := TX4) (N := 6) hx hb hts (fun _ h => (List.mem_cons_of_mem _ (List.mem_append_left _ (List.mem_append_right _ h)))) hown hK.1 hP 0 rfl rfl 5 (by decide) (hts _ (List.mem_of_getElem? (i := 1) rfl)) (fun _ h9 => h9) rfl dX4_cell_63 ?_
          refine lv_if_ne (tgt := 83) hx hb dX4_cell_66 (by decide) (fun c66 => ?_) (fun c66 => ?_)
          rotate_left
          · exact absurd c66 (by decide)
          refine lv_ldc2 (v := (-9223372036854775808)) hx hb hown (hts _ (List.mem_of_getElem? (i := 2) rfl)) dX4_cell_83 ?_
          exact zretML (w1 := fun (uu : Unit) => wX g x sh co ck ch cl vo vpa vma re rua rla rma rda sad cad tr (ft_cell lane ml (nI w_6) i (nI w_13)) np sl kd hg lk vn vp vm nr ru rl rm rd lane ml cel) () hx hb hr hlocks hS (by rw [sp_cell, if_pos (c := isP 4 (nI w_6) ∧ isP 3 (nI w_13)) ⟨(isP_of (by omega) hw_6), (isP_of (by omega) hw_13)⟩, tN_nI (u := w_6) (by omega), tN_nI (u := w_13) (by omega), if_neg (fun z => z c41), if_neg (fun z => hn_51 (by rw [ln_n h3]; exact z))]) (by rw [ft_cell, if_pos (c := isP 4 (nI w_6) ∧ isP 3 (nI w_13)) ⟨(isP_of (by omega) hw_6), (isP_of (by omega) hw_13)⟩, tN_nI (u := w_6) (by omega), tN_nI (u := w_13) (by omega), if_neg (fun z => z c41), if_neg (fun z => hn_51 (by rw [ln_n h3]; exact z))]; exact hP) dX4_cell_86
    · refine lv_if_ne (tgt := 23) hx hb dX4_cell_16 (by decide) (fun c16 => ?_) (fun c16 => ?_)
      · exact absurd c16 (by decide)
      refine lv_ldc2 (v := (-9223372036854775808)) hx hb hown (hts _ (List.mem_of_getElem? (i := 2) rfl)) dX4_cell_19 ?_
      exact zretML (w1 := fun (uu : Unit) => wX g x sh co ck ch cl vo vpa vma re rua rla rma rda sad cad tr (ft_cell lane ml (nI w_6) i y) np sl kd hg lk vn vp vm nr ru rl rm rd lane ml cel) () hx hb hr hlocks hS (by rw [sp_cell, if_neg (fun z => hn_13 z.2)]) (by rw [ft_cell, if_neg (fun z => hn_13 z.2)]; exact hP) dX4_cell_22
  · refine lv_if_eq (tgt := 19) hx hb dX4_cell_9 (by decide) (fun c9 => ?_) (fun c9 => ?_)
    rotate_left
    · exact absurd (by decide) c9
    refine lv_ldc2 (v := (-9223372036854775808)) hx hb hown (hts _ (List.mem_of_getElem? (i := 2) rfl)) dX4_cell_19 ?_
    exact zretML (w1 := fun (uu : Unit) => wX g x sh co ck ch cl vo vpa vma re rua rla rma rda sad cad tr (ft_cell lane ml k i y) np sl kd hg lk vn vp vm nr ru rl rm rd lane ml cel) () hx hb hr hlocks hS (by rw [sp_cell, if_neg (fun z => hn_6 z.1)]) (by rw [ft_cell, if_neg (fun z => hn_6 z.1)]; exact hP) dX4_cell_22
