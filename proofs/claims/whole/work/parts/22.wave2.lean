set_option maxHeartbeats 4000000 in
set_option maxRecDepth 100000 in
theorem c_X4_reading (l : Launch) (g : Gx) (x : Nat) (sh : Nat) (co : Nat) (ck : Nat) (ch : Nat) (cl : Nat) (vo : Nat) (vpa : Nat) (vma : Nat) (re : Nat) (rua : Nat) (rla : Nat) (rma : Nat) (rda : Nat) (sad : Nat → Nat) (cad : Nat → Nat) (tr : Int32) (ft : Nat) (np : Nat) (sl : Nat) (kd : Nat → Nat) (hg : Nat → Nat) (lk : Nat → Nat) (vn : Nat) (vp : Nat → Int32) (vm : Nat → Int32) (nr : Nat) (ru : Nat → Nat) (rl : Nat → Nat) (rm : Nat → Nat) (rd : Nat → Nat) (lane : Nat → Nat) (ml : Nat → Nat) (cel : Nat → Nat → Int32) (p : Int32) (q : Int32) (m : Int32) (dd : Nat) (hG : Gd np sl kd hg nr ru rl rm rd lane ml) (hd1 : dd ≤ 1) : Met l yX4_reading wsX4_reading ({ frames := 2, cells := 0, slots := 0, locals := 42 } : Room) (PcM g [.ref x, .int p, .int q, .int m, .int (nI dd)] (wX g x sh co ck ch cl vo vpa vma re rua rla rma rda sad cad tr ft np sl kd hg lk vn vp vm nr ru rl rm rd lane ml cel)) (va_Qi (fun (r : Int32) (uu : Unit) => r = sp_reading np nr p q m) (fun (uu : Unit) t => PP g (wX g x sh co ck ch cl vo vpa vma re rua rla rma rda sad cad tr ft np sl kd hg lk vn vp vm (st_nr np nr p q m) (st_r np nr p q m ru (tN p)) (st_r np nr p q m rl (tN q)) (st_r np nr p q m rm (tN m)) (st_r np nr p q m rd dd) lane ml cel) t.heap) (inW (wX g x sh co ck ch cl vo vpa vma re rua rla rma rda sad cad tr ft np sl kd hg lk vn vp vm nr ru rl rm rd lane ml cel))) 0 0 (inW (wX g x sh co ck ch cl vo vpa vma re rua rla rma rda sad cad tr ft np sl kd hg lk vn vp vm nr ru rl rm rd lane ml cel)) := by
  refine zenterM (cc := cX4_reading) (maxL := 5) (ret := (some .int)) (by decide) rfl (Nat.le_of_ble_eq_true rfl) ?_
  intro P E s mt below meth cd ls hx hb hml hown hts hr hlocks hP hK hD hS hl
  skip
  have hl : lv_has ls 5 [(0, .ref x), (1, .int p), (2, .int q), (3, .int m), (4, .int (nI dd))] := hl
  have S0 : CallFix P mt cd cX4_reading 5 s [.ref x, .int p, .int q, .int m, .int (nI dd)].toArray wsX4_reading RX4 := ⟨hx, hb, hml, hown, hts⟩
  obtain ⟨hnp, hsl, hkd, hhg, hnr, hru, hrl, hrm, hrd, hla, hmz⟩ := hG
  refine lv_aload_n hx hb dX4_reading_0 rfl (lv_at hl 0 rfl) ?_
  refine va_get (D := g.1) (ci := 4) (v := .ref co) (C := RX4) (T := TX4) (N := 6) hx hb hts (fun _ h => (List.mem_cons_of_mem _ (List.mem_append_left _ (List.mem_append_left _ (List.mem_append_right _ h))))) hown hK.1 hP 0 rfl rfl 1 (by decide) (hts _ (List.mem_of_getElem? (i := 1) rfl)) (fun _ h9 => h9) rfl dX4_reading_1 ?_
  refine lv_iload_n hx hb dX4_reading_4 rfl (lv_at hl 1 rfl) ?_
  have hPc : PP g (wC g co ck ch cl np sl kd hg lk) _ := (P_sub (w := wC g co ck ch cl np sl kd hg lk) hP [2, 3, 4, 5] rfl)
  refine zcallR (va_runV (As := [.int p]) (rest := []) (b := co) S0 (c_X0_hasPass l g co ck ch cl np sl kd hg lk p hnp) (cwV 1 hts gX4_reading_X0_hasPass rfl rfl rfl (by decide +kernel) ⟨by decide, by decide⟩) (zpreV hK hPc (va_recv hK.1 hPc (ci := 0) (q0 := 0) rfl rfl)) rfl rfl hl.1 rfl (lv_room (Nat.le_of_ble_eq_true rfl)) dX4_reading_5 ⟨by decide, by decide⟩) (fun r5 h5 => ?_)
  rcases h5 with ⟨w_5, hw_5, hv_5, rfl⟩ | ⟨hn_5, rfl⟩
  · subst hv_5
    refine lv_if_eq (tgt := 22) hx hb dX4_reading_8 (by decide) (fun c8 => ?_) (fun c8 => ?_)
    · exact absurd c8 (by decide)
    refine lv_aload_n hx hb dX4_reading_11 rfl (lv_at hl 0 rfl) ?_
    refine va_get (D := g.1) (ci := 4) (v := .ref co) (C := RX4) (T := TX4) (N := 6) hx hb hts (fun _ h => (List.mem_cons_of_mem _ (List.mem_append_left _ (List.mem_append_left _ (List.mem_append_right _ h))))) hown hK.1 hP 0 rfl rfl 1 (by decide) (hts _ (List.mem_of_getElem? (i := 1) rfl)) (fun _ h9 => h9) rfl dX4_reading_12 ?_
    refine lv_iload_n hx hb dX4_reading_15 rfl (lv_at hl 2 rfl) ?_
    have hPc : PP g (wC g co ck ch cl np sl kd hg lk) _ := (P_sub (w := wC g co ck ch cl np sl kd hg lk) hP [2, 3, 4, 5] rfl)
    refine zcallR (va_runV (As := [.int q]) (rest := []) (b := co) S0 (c_X0_hasPass l g co ck ch cl np sl kd hg lk q hnp) (cwV 1 hts gX4_reading_X0_hasPass rfl rfl rfl (by decide +kernel) ⟨by decide, by decide⟩) (zpreV hK hPc (va_recv hK.1 hPc (ci := 0) (q0 := 0) rfl rfl)) rfl rfl hl.1 rfl (lv_room (Nat.le_of_ble_eq_true rfl)) dX4_reading_16 ⟨by decide, by decide⟩) (fun r16 h16 => ?_)
    rcases h16 with ⟨w_16, hw_16, hv_16, rfl⟩ | ⟨hn_16, rfl⟩
    · subst hv_16
      refine lv_if_ne (tgt := 24) hx hb dX4_reading_19 (by decide) (fun c19 => ?_) (fun c19 => ?_)
      rotate_left
      · exact absurd c19 (by decide)
      refine lv_iload_n hx hb dX4_reading_24 rfl (lv_at hl 3 rfl) ?_
      refine zcallR (va_runS (As := [.int m]) (rest := []) S0 (c_X4_isMonths l g m) (va_cwS 1 hts gX4_reading_X4_isMonths rfl rfl rfl (by decide +kernel) ⟨by decide, by decide⟩) (zpreS hK (P_nil _)) rfl rfl hl.1 rfl (lv_room (Nat.le_of_ble_eq_true rfl)) dX4_reading_25 ⟨by decide, by decide⟩) (fun r25 h25 => ?_)
      rcases h25 with ⟨w_25, hw_25, hv_25, rfl⟩ | ⟨hn_25, rfl⟩
      · subst hv_25
        refine lv_if_ne (tgt := 34) hx hb dX4_reading_28 (by decide) (fun c28 => ?_) (fun c28 => ?_)
        rotate_left
        · exact absurd c28 (by decide)
        refine lv_aload_n hx hb dX4_reading_34 rfl (lv_at hl 0 rfl) ?_
        refine va_get (D := g.1) (ci := 4) (v := .ref re) (C := RX4) (T := TX4) (N := 6) hx hb hts (fun _ h => (List.mem_cons_of_mem _ (List.mem_append_left _ (List.mem_append_left _ (List.mem_append_right _ h))))) hown hK.1 hP 0 rfl rfl 3 (by decide) (hts _ (List.mem_of_getElem? (i := 2) rfl)) (fun _ h9 => h9) rfl dX4_reading_35 ?_
        have hPc : PP g (wR g re rua rla rma rda nr ru rl rm rd) _ := (P_sub (w := wR g re rua rla rma rda nr ru rl rm rd) hP [9, 10, 11, 12, 13] rfl)
        refine zcallR (va_runV (As := []) (rest := []) (b := re) S0 (c_X1_howMany l g re rua rla rma rda nr ru rl rm rd) (cwV 0 hts gX4_reading_X1_howMany rfl rfl rfl (by decide +kernel) ⟨by decide, by decide⟩) (zpreV hK hPc (va_recv hK.1 hPc (ci := 1) (q0 := 0) rfl rfl)) rfl rfl hl.1 rfl (lv_room (Nat.le_of_ble_eq_true rfl)) dX4_reading_38 ⟨by decide, by decide⟩) (fun r38 h38 => ?_)
        subst h38
        refine lv_bipush (v := (nI 8)) hx hb dX4_reading_41 (by decide) ?_
        refine n_icmp_lt (a := nr) (b := 8) (tgt := 49) hx hb (by omega) (by omega) dX4_reading_43 (by decide) (fun c43 => ?_) (fun c43 => ?_)
        · refine lv_aload_n hx hb dX4_reading_49 rfl (lv_at hl 0 rfl) ?_
          refine va_get (D := g.1) (ci := 4) (v := .ref re) (C := RX4) (T := TX4) (N := 6) hx hb hts (fun _ h => (List.mem_cons_of_mem _ (List.mem_append_left _ (List.mem_append_left _ (List.mem_append_right _ h))))) hown hK.1 hP 0 rfl rfl 3 (by decide) (hts _ (List.mem_of_getElem? (i := 2) rfl)) (fun _ h9 => h9) rfl dX4_reading_50 ?_
          refine lv_iload_n hx hb dX4_reading_53 rfl (lv_at hl 1 rfl) ?_
          refine lv_iload_n hx hb dX4_reading_54 rfl (lv_at hl 2 rfl) ?_
          refine lv_iload_n hx hb dX4_reading_55 rfl (lv_at hl 3 rfl) ?_
          refine lv_iload hx hb dX4_reading_56 (lv_at hl 4 rfl) ?_
          have hPc : PP g (wR g re rua rla rma rda nr ru rl rm rd) _ := P_sub hP [9, 10, 11, 12, 13] rfl
          refine zcallMv (w := wR g re rua rla rma rda nr ru rl rm rd) (va_runV (As := [.int (nI w_5), .int (nI w_16), .int (nI w_25), .int (nI dd)]) (rest := []) (b := re) S0 (c_X1_append l g re rua rla rma rda nr ru rl rm rd w_5 w_16 w_25 dd (by omega) (by omega)) (cwV 4 hts gX4_reading_X1_append rfl rfl rfl (by decide +kernel) ⟨by decide, by decide⟩) (zpreVM hK hP hD [9, 10, 11, 12, 13] rfl (by decide) (va_recv hK.1 hPc (ci := 1) (q0 := 0) rfl rfl)) rfl rfl hl.1 rfl (lv_room (Nat.le_of_ble_eq_true rfl)) dX4_reading_58 ⟨by decide, by decide⟩) hP hD hS [9, 10, 11, 12, 13] rfl (fun uu58 => wX g x sh co ck ch cl vo vpa vma re rua rla rma rda sad cad tr ft np sl kd hg lk vn vp vm (nr + 1) (va_up ru nr w_5) (va_up rl nr w_16) (va_up rm nr w_25) (va_up rd nr dd) lane ml cel) (fun _ => lz_wR.trans lz_wR.symm) (fun _ => rfl) (fun _ => ad_wX.trans ad_wX.symm) (fun uu58 H locs h58 hP hD hS => ?_)
          refine lv_aload_n hx hb dX4_reading_61 rfl (lv_at hl 0 rfl) ?_
          refine va_get (D := g.1) (ci := 4) (v := .ref re) (C := RX4) (T := TX4) (N := 6) hx hb hts (fun _ h => (List.mem_cons_of_mem _ (List.mem_append_left _ (List.mem_append_left _ (List.mem_append_right _ h))))) hown hK.1 hP 0 rfl rfl 3 (by decide) (hts _ (List.mem_of_getElem? (i := 2) rfl)) (fun _ h9 => h9) rfl dX4_reading_62 ?_
          have hPc : PP g (wR g re rua rla rma rda (nr + 1) (va_up ru nr w_5) (va_up rl nr w_16) (va_up rm nr w_25) (va_up rd nr dd)) _ := (P_sub (w := wR g re rua rla rma rda (nr + 1) (va_up ru nr w_5) (va_up rl nr w_16) (va_up rm nr w_25) (va_up rd nr dd)) hP [9, 10, 11, 12, 13] rfl)
          refine zcallR (va_runV (As := []) (rest := []) (b := re) S0 (c_X1_howMany l g re rua rla rma rda (nr + 1) (va_up ru nr w_5) (va_up rl nr w_16) (va_up rm nr w_25) (va_up rd nr dd)) (cwV 0 hts gX4_reading_X1_howMany rfl rfl rfl (by decide +kernel) ⟨by decide, by decide⟩) (zpreV hK hPc (va_recv hK.1 hPc (ci := 1) (q0 := 0) rfl rfl)) rfl rfl hl.1 rfl (lv_room (Nat.le_of_ble_eq_true rfl)) dX4_reading_65 ⟨by decide, by decide⟩) (fun r65 h65 => ?_)
          subst h65
          refine lv_iconst (v := (nI 1)) hx hb dX4_reading_68 (by decide) ?_
          refine n_isub (a := (nr + 1)) (b := 1) hx hb (by omega) dX4_reading_69 ?_
          exact zretMI (w1 := fun (uu : Unit) => wX g x sh co ck ch cl vo vpa vma re rua rla rma rda sad cad tr ft np sl kd hg lk vn vp vm (st_nr np nr (nI w_5) (nI w_16) (nI w_25)) (st_r np nr (nI w_5) (nI w_16) (nI w_25) ru (tN (nI w_5))) (st_r np nr (nI w_5) (nI w_16) (nI w_25) rl (tN (nI w_16))) (st_r np nr (nI w_5) (nI w_16) (nI w_25) rm (tN (nI w_25))) (st_r np nr (nI w_5) (nI w_16) (nI w_25) rd dd) lane ml cel) () hx hb hr hlocks hS rfl (by rw [sp_reading, if_pos ⟨(isP_of (by omega) hw_5), (isP_of (by omega) hw_16)⟩, if_pos (isP_of (by omega) hw_25), if_pos c43, Nat.add_sub_cancel]) (by simp only [st_nr, st_r, if_pos (c := c_reading np nr (nI w_5) (nI w_16) (nI w_25)) ⟨(isP_of (by omega) hw_5), (isP_of (by omega) hw_16), (isP_of (by omega) hw_25), c43⟩, tN_nI (u := w_5) (by omega), tN_nI (u := w_16) (by omega), tN_nI (u := w_25) (by omega)]; exact hP) dX4_reading_70
        · refine lv_bipush (v := (-4)) hx hb dX4_reading_46 (by decide) ?_
          exact zretMI (w1 := fun (uu : Unit) => wX g x sh co ck ch cl vo vpa vma re rua rla rma rda sad cad tr ft np sl kd hg lk vn vp vm (st_nr np nr (nI w_5) (nI w_16) (nI w_25)) (st_r np nr (nI w_5) (nI w_16) (nI w_25) ru (tN (nI w_5))) (st_r np nr (nI w_5) (nI w_16) (nI w_25) rl (tN (nI w_16))) (st_r np nr (nI w_5) (nI w_16) (nI w_25) rm (tN (nI w_25))) (st_r np nr (nI w_5) (nI w_16) (nI w_25) rd dd) lane ml cel) () hx hb hr hlocks hS rfl (by rw [sp_reading, if_pos ⟨(isP_of (by omega) hw_5), (isP_of (by omega) hw_16)⟩, if_pos (isP_of (by omega) hw_25), if_neg (by omega)]) (by simp only [st_nr, st_r, if_neg (c := c_reading np nr (nI w_5) (nI w_16) (nI w_25)) (fun z => absurd z.2.2.2 (by omega))]; exact hP) dX4_reading_48
      · refine lv_if_ne (tgt := 34) hx hb dX4_reading_28 (by decide) (fun c28 => ?_) (fun c28 => ?_)
        · exact absurd c28 (by decide)
        refine lv_bipush (v := (-2)) hx hb dX4_reading_31 (by decide) ?_
        exact zretMI (w1 := fun (uu : Unit) => wX g x sh co ck ch cl vo vpa vma re rua rla rma rda sad cad tr ft np sl kd hg lk vn vp vm (st_nr np nr (nI w_5) (nI w_16) m) (st_r np nr (nI w_5) (nI w_16) m ru (tN (nI w_5))) (st_r np nr (nI w_5) (nI w_16) m rl (tN (nI w_16))) (st_r np nr (nI w_5) (nI w_16) m rm (tN m)) (st_r np nr (nI w_5) (nI w_16) m rd dd) lane ml cel) () hx hb hr hlocks hS rfl (by rw [sp_reading, if_pos ⟨(isP_of (by omega) hw_5), (isP_of (by omega) hw_16)⟩, if_neg hn_25]) (by simp only [st_nr, st_r, if_neg (c := c_reading np nr (nI w_5) (nI w_16) m) (fun z => hn_25 z.2.2.1)]; exact hP) dX4_reading_33
    · refine lv_if_ne (tgt := 24) hx hb dX4_reading_19 (by decide) (fun c19 => ?_) (fun c19 => ?_)
      · exact absurd c19 (by decide)
      refine lv_iconst (v := (-1)) hx hb dX4_reading_22 (by decide) ?_
      exact zretMI (w1 := fun (uu : Unit) => wX g x sh co ck ch cl vo vpa vma re rua rla rma rda sad cad tr ft np sl kd hg lk vn vp vm (st_nr np nr (nI w_5) q m) (st_r np nr (nI w_5) q m ru (tN (nI w_5))) (st_r np nr (nI w_5) q m rl (tN q)) (st_r np nr (nI w_5) q m rm (tN m)) (st_r np nr (nI w_5) q m rd dd) lane ml cel) () hx hb hr hlocks hS rfl (by rw [sp_reading, if_neg (fun z => hn_16 z.2)]) (by simp only [st_nr, st_r, if_neg (c := c_reading np nr (nI w_5) q m) (fun z => hn_16 z.2.1)]; exact hP) dX4_reading_23
  · refine lv_if_eq (tgt := 22) hx hb dX4_reading_8 (by decide) (fun c8 => ?_) (fun c8 => ?_)
    rotate_left
    · exact absurd (by decide) c8
    refine lv_iconst (v := (-1)) hx hb dX4_reading_22 (by decide) ?_
    exact zretMI (w1 := fun (uu : Unit) => wX g x sh co ck ch cl vo vpa vma re rua rla rma rda sad cad tr ft np sl kd hg lk vn vp vm (st_nr np nr p q m) (st_r np nr p q m ru (tN p)) (st_r np nr p q m rl (tN q)) (st_r np nr p q m rm (tN m)) (st_r np nr p q m rd dd) lane ml cel) () hx hb hr hlocks hS rfl (by rw [sp_reading, if_neg (fun z => hn_5 z.1)]) (by simp only [st_nr, st_r, if_neg (c := c_reading np nr p q m) (fun z => hn_5 z.1)]; exact hP) dX4_reading_23

set_option maxHeartbeats 4000000 in
set_option maxRecDepth 100000 in
theorem c_X4_back (l : Launch) (g : Gx) (x : Nat) (sh : Nat) (co : Nat) (ck : Nat) (ch : Nat) (cl : Nat) (vo : Nat) (vpa : Nat) (vma : Nat) (re : Nat) (rua : Nat) (rla : Nat) (rma : Nat) (rda : Nat) (sad : Nat → Nat) (cad : Nat → Nat) (tr : Int32) (ft : Nat) (np : Nat) (sl : Nat) (kd : Nat → Nat) (hg : Nat → Nat) (lk : Nat → Nat) (vn : Nat) (vp : Nat → Int32) (vm : Nat → Int32) (nr : Nat) (ru : Nat → Nat) (rl : Nat → Nat) (rm : Nat → Nat) (rd : Nat → Nat) (lane : Nat → Nat) (ml : Nat → Nat) (cel : Nat → Nat → Int32) (k : Int32) (hG : Gd np sl kd hg nr ru rl rm rd lane ml) : Met l yX4_back wsX4_back ({ frames := 1, cells := 0, slots := 0, locals := 22 } : Room) (PcM g [.ref x, .int k] (wX g x sh co ck ch cl vo vpa vma re rua rla rma rda sad cad tr ft np sl kd hg lk vn vp vm nr ru rl rm rd lane ml cel)) (va_Qi (fun (r : Int32) (uu : Unit) => r = sp_back nr k) (fun (uu : Unit) t => PP g (wX g x sh co ck ch cl vo vpa vma re rua rla rma rda sad cad tr ft np sl kd hg lk vn vp vm (st_back nr k) ru rl rm rd lane ml cel) t.heap) (inW (wX g x sh co ck ch cl vo vpa vma re rua rla rma rda sad cad tr ft np sl kd hg lk vn vp vm nr ru rl rm rd lane ml cel))) 0 0 (inW (wX g x sh co ck ch cl vo vpa vma re rua rla rma rda sad cad tr ft np sl kd hg lk vn vp vm nr ru rl rm rd lane ml cel)) := by
  refine zenterM (cc := cX4_back) (maxL := 2) (ret := (some .int)) (by decide) rfl (Nat.le_of_ble_eq_true rfl) ?_
  intro P E s mt below meth cd ls hx hb hml hown hts hr hlocks hP hK hD hS hl
  skip
  have hl : lv_has ls 2 [(0, .ref x), (1, .int k)] := hl
  have S0 : CallFix P mt cd cX4_back 2 s [.ref x, .int k].toArray wsX4_back RX4 := ⟨hx, hb, hml, hown, hts⟩
  obtain ⟨hnp, hsl, hkd, hhg, hnr, hru, hrl, hrm, hrd, hla, hmz⟩ := hG
  refine lv_iload_n hx hb dX4_back_0 rfl (lv_at hl 1 rfl) ?_
  refine lv_iconst (v := (nI 0)) hx hb dX4_back_1 (by decide) ?_
  refine lv_aload_n hx hb dX4_back_2 rfl (lv_at hl 0 rfl) ?_
  refine va_get (D := g.1) (ci := 4) (v := .ref re) (C := RX4) (T := TX4) (N := 6) hx hb hts (fun _ h => (List.mem_cons_of_mem _ (List.mem_append_left _ (List.mem_append_right _ h)))) hown hK.1 hP 0 rfl rfl 3 (by decide) (hts _ (List.mem_of_getElem? (i := 1) rfl)) (fun _ h9 => h9) rfl dX4_back_3 ?_
  have hPc : PP g (wR g re rua rla rma rda nr ru rl rm rd) _ := (P_sub (w := wR g re rua rla rma rda nr ru rl rm rd) hP [9, 10, 11, 12, 13] rfl)
  refine zcallR (va_runV (As := []) (rest := [.int (nI 0), .int k]) (b := re) S0 (c_X1_howMany l g re rua rla rma rda nr ru rl rm rd) (cwV 0 hts gX4_back_X1_howMany rfl rfl rfl (by decide +kernel) ⟨by decide, by decide⟩) (zpreV hK hPc (va_recv hK.1 hPc (ci := 1) (q0 := 0) rfl rfl)) rfl rfl hl.1 rfl (lv_room (Nat.le_of_ble_eq_true rfl)) dX4_back_6 ⟨by decide, by decide⟩) (fun r6 h6 => ?_)
  subst h6
  refine zcallR (va_runS (As := [.int k, .int (nI 0), .int (nI nr)]) (rest := []) S0 (c_X4_within_r0 l g k nr (by omega)) (va_cwS 3 hts gX4_back_X4_within rfl rfl rfl (by decide +kernel) ⟨by decide, by decide⟩) (zpreS hK (P_nil _)) rfl rfl hl.1 rfl (lv_room (Nat.le_of_ble_eq_true rfl)) dX4_back_9 ⟨by decide, by decide⟩) (fun r9 h9 => ?_)
  rcases h9 with ⟨w_9, hw_9, hv_9, rfl⟩ | ⟨hn_9, rfl⟩
  · subst hv_9
    refine lv_if_ne (tgt := 18) hx hb dX4_back_12 (by decide) (fun c12 => ?_) (fun c12 => ?_)
    rotate_left
    · exact absurd c12 (by decide)
    refine lv_aload_n hx hb dX4_back_18 rfl (lv_at hl 0 rfl) ?_
    refine va_get (D := g.1) (ci := 4) (v := .ref re) (C := RX4) (T := TX4) (N := 6) hx hb hts (fun _ h => (List.mem_cons_of_mem _ (List.mem_append_left _ (List.mem_append_right _ h)))) hown hK.1 hP 0 rfl rfl 3 (by decide) (hts _ (List.mem_of_getElem? (i := 1) rfl)) (fun _ h9 => h9) rfl dX4_back_19 ?_
    refine lv_iload_n hx hb dX4_back_22 rfl (lv_at hl 1 rfl) ?_
    have hPc : PP g (wR g re rua rla rma rda nr ru rl rm rd) _ := P_sub hP [9, 10, 11, 12, 13] rfl
    refine zcallMv (w := wR g re rua rla rma rda nr ru rl rm rd) (va_runV (As := [.int (nI w_9)]) (rest := []) (b := re) S0 (c_X1_dropLast l g re rua rla rma rda nr ru rl rm rd w_9 (by omega) hnr) (cwV 1 hts gX4_back_X1_dropLast rfl rfl rfl (by decide +kernel) ⟨by decide, by decide⟩) (zpreVM hK hP hD [9, 10, 11, 12, 13] rfl (by decide) (va_recv hK.1 hPc (ci := 1) (q0 := 0) rfl rfl)) rfl rfl hl.1 rfl (lv_room (Nat.le_of_ble_eq_true rfl)) dX4_back_23 ⟨by decide, by decide⟩) hP hD hS [9, 10, 11, 12, 13] rfl (fun uu23 => wX g x sh co ck ch cl vo vpa vma re rua rla rma rda sad cad tr ft np sl kd hg lk vn vp vm (nr - w_9) ru rl rm rd lane ml cel) (fun _ => lz_wR.trans lz_wR.symm) (fun _ => rfl) (fun _ => ad_wX.trans ad_wX.symm) (fun uu23 H locs h23 hP hD hS => ?_)
    refine lv_aload_n hx hb dX4_back_26 rfl (lv_at hl 0 rfl) ?_
    refine va_get (D := g.1) (ci := 4) (v := .ref re) (C := RX4) (T := TX4) (N := 6) hx hb hts (fun _ h => (List.mem_cons_of_mem _ (List.mem_append_left _ (List.mem_append_right _ h)))) hown hK.1 hP 0 rfl rfl 3 (by decide) (hts _ (List.mem_of_getElem? (i := 1) rfl)) (fun _ h9 => h9) rfl dX4_back_27 ?_
    have hPc : PP g (wR g re rua rla rma rda (nr - w_9) ru rl rm rd) _ := (P_sub (w := wR g re rua rla rma rda (nr - w_9) ru rl rm rd) hP [9, 10, 11, 12, 13] rfl)
    refine zcallR (va_runV (As := []) (rest := []) (b := re) S0 (c_X1_howMany l g re rua rla rma rda (nr - w_9) ru rl rm rd) (cwV 0 hts gX4_back_X1_howMany rfl rfl rfl (by decide +kernel) ⟨by decide, by decide⟩) (zpreV hK hPc (va_recv hK.1 hPc (ci := 1) (q0 := 0) rfl rfl)) rfl rfl hl.1 rfl (lv_room (Nat.le_of_ble_eq_true rfl)) dX4_back_30 ⟨by decide, by decide⟩) (fun r30 h30 => ?_)
    subst h30
    exact zretMI (w1 := fun (uu : Unit) => wX g x sh co ck ch cl vo vpa vma re rua rla rma rda sad cad tr ft np sl kd hg lk vn vp vm (st_back nr (nI w_9)) ru rl rm rd lane ml cel) () hx hb hr hlocks hS rfl (by rw [sp_back, if_pos (isP_of (by omega) hw_9), tN_nI (u := w_9) (by omega)]) (by rw [st_back, if_pos (isP_of (by omega) hw_9), tN_nI (u := w_9) (by omega)]; exact hP) dX4_back_33
  · refine lv_if_ne (tgt := 18) hx hb dX4_back_12 (by decide) (fun c12 => ?_) (fun c12 => ?_)
    · exact absurd c12 (by decide)
    refine lv_bipush (v := (-2)) hx hb dX4_back_15 (by decide) ?_
    exact zretMI (w1 := fun (uu : Unit) => wX g x sh co ck ch cl vo vpa vma re rua rla rma rda sad cad tr ft np sl kd hg lk vn vp vm (st_back nr k) ru rl rm rd lane ml cel) () hx hb hr hlocks hS rfl (by rw [sp_back, if_neg hn_9]) (by rw [st_back, if_neg hn_9]; exact hP) dX4_back_17

set_option maxHeartbeats 4000000 in
set_option maxRecDepth 100000 in
theorem c_X4_edges (l : Launch) (g : Gx) (x : Nat) (sh : Nat) (co : Nat) (ck : Nat) (ch : Nat) (cl : Nat) (vo : Nat) (vpa : Nat) (vma : Nat) (re : Nat) (rua : Nat) (rla : Nat) (rma : Nat) (rda : Nat) (sad : Nat → Nat) (cad : Nat → Nat) (tr : Int32) (ft : Nat) (np : Nat) (sl : Nat) (kd : Nat → Nat) (hg : Nat → Nat) (lk : Nat → Nat) (vn : Nat) (vp : Nat → Int32) (vm : Nat → Int32) (nr : Nat) (ru : Nat → Nat) (rl : Nat → Nat) (rm : Nat → Nat) (rd : Nat → Nat) (lane : Nat → Nat) (ml : Nat → Nat) (cel : Nat → Nat → Int32) (p : Int32) (k : Int32) (hG : Gd np sl kd hg nr ru rl rm rd lane ml) : Met l yX4_edges wsX4_edges ({ frames := 5, cells := 0, slots := 0, locals := 115 } : Room) (PcM g [.ref x, .int p, .int k] (wX g x sh co ck ch cl vo vpa vma re rua rla rma rda sad cad tr ft np sl kd hg lk vn vp vm nr ru rl rm rd lane ml cel)) (va_Qi (fun (r : Int32) (uu : Unit) => r = sp_edges np sl kd hg nr ru rl rm rd p k) (fun (uu : Unit) t => PP g (wX g x sh co ck ch cl vo vpa vma re rua rla rma rda sad cad tr ft np sl kd hg lk vn vp vm nr ru rl rm rd lane ml cel) t.heap) (inW (wX g x sh co ck ch cl vo vpa vma re rua rla rma rda sad cad tr ft np sl kd hg lk vn vp vm nr ru rl rm rd lane ml cel))) 0 0 (inW (wX g x sh co ck ch cl vo vpa vma re rua rla rma rda sad cad tr ft np sl kd hg lk vn vp vm nr ru rl rm rd lane ml cel)) := by
  refine zenterM (cc := cX4_edges) (maxL := 6) (ret := (some .int)) (by decide) rfl (Nat.le_of_ble_eq_true rfl) ?_
  intro P E s mt below meth cd ls hx hb hml hown hts hr hlocks hP hK hD hS hl
  skip
  have hl : lv_has ls 6 [(0, .ref x), (1, .int p), (2, .int k)] := hl
  have S0 : CallFix P mt cd cX4_edges 6 s [.ref x, .int p, .int k].toArray wsX4_edges RX4 := ⟨hx, hb, hml, hown, hts⟩
  obtain ⟨hnp, hsl, hkd, hhg, hnr, hru, hrl, hrm, hrd, hla, hmz⟩ := hG
  refine lv_aload_n hx hb dX4_edges_0 rfl (lv_at hl 0 rfl) ?_
  refine va_get (D := g.1) (ci := 4) (v := .ref co) (C := RX4) (T := TX4) (N := 6) hx hb hts (fun _ h => (List.mem_cons_of_mem _ (List.mem_append_left _ (List.mem_append_left _ (List.mem_append_right _ h))))) hown hK.1 hP 0 rfl rfl 1 (by decide) (hts _ (List.mem_of_getElem? (i := 1) rfl)) (fun _ h9 => h9) rfl dX4_edges_1 ?_
  refine lv_iload_n hx hb dX4_edges_4 rfl (lv_at hl 1 rfl) ?_
  have hPc : PP g (wC g co ck ch cl np sl kd hg lk) _ := (P_sub (w := wC g co ck ch cl np sl kd hg lk) hP [2, 3, 4, 5] rfl)
  refine zcallR (va_runV (As := [.int p]) (rest := []) (b := co) S0 (c_X0_hasPass l g co ck ch cl np sl kd hg lk p hnp) (cwV 1 hts gX4_edges_X0_hasPass rfl rfl rfl (by decide +kernel) ⟨by decide, by decide⟩) (zpreV hK hPc (va_recv hK.1 hPc (ci := 0) (q0 := 0) rfl rfl)) rfl rfl hl.1 rfl (lv_room (Nat.le_of_ble_eq_true rfl)) dX4_edges_5 ⟨by decide, by decide⟩) (fun r5 h5 => ?_)
  rcases h5 with ⟨w_5, hw_5, hv_5, rfl⟩ | ⟨hn_5, rfl⟩
  · subst hv_5
    refine lv_if_ne (tgt := 13) hx hb dX4_edges_8 (by decide) (fun c8 => ?_) (fun c8 => ?_)
    rotate_left
    · exact absurd c8 (by decide)
    refine lv_iload_n hx hb dX4_edges_13 rfl (lv_at hl 2 rfl) ?_
    refine zcallR (va_runS (As := [.int k]) (rest := []) S0 (c_X4_isPlace l g k) (va_cwS 1 hts gX4_edges_X4_isPlace rfl rfl rfl (by decide +kernel) ⟨by decide, by decide⟩) (zpreS hK (P_nil _)) rfl rfl hl.1 rfl (lv_room (Nat.le_of_ble_eq_true rfl)) dX4_edges_14 ⟨by decide, by decide⟩) (fun r14 h14 => ?_)
    rcases h14 with ⟨w_14, hw_14, hv_14, rfl⟩ | ⟨hn_14, rfl⟩
    · subst hv_14
      refine lv_if_ne (tgt := 23) hx hb dX4_edges_17 (by decide) (fun c17 => ?_) (fun c17 => ?_)
      rotate_left
      · exact absurd c17 (by decide)
      refine lv_aload_n hx hb dX4_edges_23 rfl (lv_at hl 0 rfl) ?_
      refine va_get (D := g.1) (ci := 4) (v := .ref co) (C := RX4) (T := TX4) (N := 6) hx hb hts (fun _ h => (List.mem_cons_of_mem _ (List.mem_append_left _ (List.mem_append_left _ (List.mem_append_right _ h))))) hown hK.1 hP 0 rfl rfl 1 (by decide) (hts _ (List.mem_of_getElem? (i := 1) rfl)) (fun _ h9 => h9) rfl dX4_edges_24 ?_
      refine lv_iload_n hx hb dX4_edges_27 rfl (lv_at hl 1 rfl) ?_
      refine lv_iload_n hx hb dX4_edges_28 rfl (lv_at hl 2 rfl) ?_
      have hPc : PP g (wC g co ck ch cl np sl kd hg lk) _ := (P_sub (w := wC g co ck ch cl np sl kd hg lk) hP [2, 3, 4, 5] rfl)
      refine zcallR (va_runV (As := [.int (nI w_5), .int (nI w_14)]) (rest := []) (b := co) S0 (c_X0_heightOf l g co ck ch cl np sl kd hg lk w_5 w_14 hnp (by omega) (by omega)) (cwV 2 hts gX4_edges_X0_heightOf rfl rfl rfl (by decide +kernel) ⟨by decide, by decide⟩) (zpreV hK hPc (va_recv hK.1 hPc (ci := 0) (q0 := 0) rfl rfl)) rfl rfl hl.1 rfl (lv_room (Nat.le_of_ble_eq_true rfl)) dX4_edges_29 ⟨by decide, by decide⟩) (fun r29 h29 => ?_)
      subst h29
      refine lv_istore_n (lv' := [(3, .int (nI (hg (3 * w_5 + w_14)))), (0, .ref x), (1, .int (nI w_5)), (2, .int (nI w_14))]) hx hb dX4_edges_32 rfl hl (by decide) rfl (fun ls hl => ?_)
      refine lv_iconst (v := (nI 0)) hx hb dX4_edges_33 (by decide) ?_
      refine lv_istore (lv' := [(4, .int (nI 0)), (3, .int (nI (hg (3 * w_5 + w_14)))), (0, .ref x), (1, .int (nI w_5)), (2, .int (nI w_14))]) hx hb dX4_edges_34 hl (by decide) rfl (fun ls hl => ?_)
      refine lv_iconst (v := (nI 0)) hx hb dX4_edges_36 (by decide) ?_
      refine lv_istore (lv' := [(5, .int (nI 0)), (4, .int (nI 0)), (3, .int (nI (hg (3 * w_5 + w_14)))), (0, .ref x), (1, .int (nI w_5)), (2, .int (nI w_14))]) hx hb dX4_edges_37 hl (by decide) rfl (fun ls hl => ?_)
      have lp39 : ∀ (nn : Nat) (i : Nat) (h : Nat → Nat) (H : Heap) (locs : List Loc) (ls : Array Slot), (10 - i) < nn → (i ≤ 10) → (∀ v, va_up h (3 * w_5 + w_14) v = va_up hg (3 * w_5 + w_14) v) → PP g (wX g x sh co ck ch cl vo vpa vma re rua rla rma rda sad cad tr ft np sl kd h lk vn vp vm nr ru rl rm rd lane ml cel) H → va_D (inW (wX g x sh co ck ch cl vo vpa vma re rua rla rma rda sad cad tr ft np sl kd hg lk vn vp vm nr ru rl rm rd lane ml cel)) (wX g x sh co ck ch cl vo vpa vma re rua rla rma rda sad cad tr ft np sl kd h lk vn vp vm nr ru rl rm rd lane ml cel) → va_S (inW (wX g x sh co ck ch cl vo vpa vma re rua rla rma rda sad cad tr ft np sl kd hg lk vn vp vm nr ru rl rm rd lane ml cel)) s.heap H locs → lv_has ls 6 [(0, .ref x), (1, .int (nI w_5)), (2, .int (nI w_14)), (3, .int (nI (hg (3 * w_5 + w_14)))), (4, .int (nI (bset (fun v => sof sl kd (va_up hg (3 * w_5 + w_14) v) nr ru rl rm rd) i))), (5, .int (nI i))] → W P l E ({ frames := 5, cells := 0, slots := 0, locals := 115 } : Room) s mt [.ref x, .int (nI w_5), .int (nI w_14)].toArray below meth cd H locs 0 0 (MQ below (va_Qi (fun (r : Int32) (uu : Unit) => r = sp_edges np sl kd hg nr ru rl rm rd (nI w_5) (nI w_14)) (fun (uu : Unit) t => PP g (wX g x sh co ck ch cl vo vpa vma re rua rla rma rda sad cad tr ft np sl kd hg lk vn vp vm nr ru rl rm rd lane ml cel) t.heap) (inW (wX g x sh co ck ch cl vo vpa vma re rua rla rma rda sad cad tr ft np sl kd hg lk vn vp vm nr ru rl rm rd lane ml cel))) [.ref x, .int (nI w_5), .int (nI w_14)].toArray s 0 0 (inW (wX g x sh co ck ch cl vo vpa vma re rua rla rma rda sad cad tr ft np sl kd hg lk vn vp vm nr ru rl rm rd lane ml cel))) (F0 mt 39 ls []) := by
        intro nn
        induction nn with
        | zero => intro i h H locs ls hmu; exact absurd hmu (Nat.not_lt_zero _)
        | succ nn ih39 =>
          intro i h H locs ls hmu hi hh hP hD hS hl
          refine lv_iload hx hb dX4_edges_39 (lv_at hl 5 rfl) ?_
          refine lv_bipush (v := (nI 9)) hx hb dX4_edges_41 (by decide) ?_
          refine n_icmp_gt (a := i) (b := 9) (tgt := 84) hx hb (by omega) (by omega) dX4_edges_43 (by decide) (fun c43 => ?_) (fun c43 => ?_)
          · obtain rfl : 10 = i := by omega
            refine lv_aload_n hx hb dX4_edges_84 rfl (lv_at hl 0 rfl) ?_
            refine va_get (D := g.1) (ci := 4) (v := .ref co) (C := RX4) (T := TX4) (N := 6) hx hb hts (fun _ h => (List.mem_cons_of_mem _ (List.mem_append_left _ (List.mem_append_left _ (List.mem_append_right _ h))))) hown hK.1 hP 0 rfl rfl 1 (by decide) (hts _ (List.mem_of_getElem? (i := 1) rfl)) (fun _ h9 => h9) rfl dX4_edges_85 ?_
            refine lv_iload_n hx hb dX4_edges_88 rfl (lv_at hl 1 rfl) ?_
            refine lv_iload_n hx hb dX4_edges_89 rfl (lv_at hl 2 rfl) ?_
            refine lv_iload_n hx hb dX4_edges_90 rfl (lv_at hl 3 rfl) ?_
            have hPc : PP g (wC g co ck ch cl np sl kd h lk) _ := P_sub hP [2, 3, 4, 5] rfl
            refine zcallMv (w := wC g co ck ch cl np sl kd h lk) (va_runV (As := [.int (nI w_5), .int (nI w_14), .int (nI (hg (3 * w_5 + w_14)))]) (rest := []) (b := co) S0 (c_X0_setHeight l g co ck ch cl np sl kd h lk w_5 w_14 (hg (3 * w_5 + w_14)) hnp (by omega) (by omega)) (cwV 3 hts gX4_edges_X0_setHeight rfl rfl rfl (by decide +kernel) ⟨by decide, by decide⟩) (zpreVM hK hP hD [2, 3, 4, 5] rfl (by decide) (va_recv hK.1 hPc (ci := 0) (q0 := 0) rfl rfl)) rfl rfl hl.1 rfl (lv_room (Nat.le_of_ble_eq_true rfl)) dX4_edges_91 ⟨by decide, by decide⟩) hP hD hS [2, 3, 4, 5] rfl (fun uu91 => wX g x sh co ck ch cl vo vpa vma re rua rla rma rda sad cad tr ft np sl kd (va_up h (3 * w_5 + w_14) (hg (3 * w_5 + w_14))) lk vn vp vm nr ru rl rm rd lane ml cel) (fun _ => lz_wC.trans lz_wC.symm) (fun _ => rfl) (fun _ => ad_wX.trans ad_wX.symm) (fun uu91 H locs h91 hP hD hS => ?_)
            rw [hh (hg (3 * w_5 + w_14)), va_up_same rfl] at hP hD
            refine lv_iload hx hb dX4_edges_94 (lv_at hl 4 rfl) ?_
            exact zretMI (w1 := fun (uu : Unit) => wX g x sh co ck ch cl vo vpa vma re rua rla rma rda sad cad tr ft np sl kd hg lk vn vp vm nr ru rl rm rd lane ml cel) () hx hb hr hlocks hS rfl (by rw [sp_edges, if_pos (isP_of (by omega) hw_5), if_pos (isP_of (by omega) hw_14), tN_nI (u := w_5) (by omega), tN_nI (u := w_14) (by omega)]) hP dX4_edges_96
          · refine lv_aload_n hx hb dX4_edges_46 rfl (lv_at hl 0 rfl) ?_
            refine va_get (D := g.1) (ci := 4) (v := .ref co) (C := RX4) (T := TX4) (N := 6) hx hb hts (fun _ h => (List.mem_cons_of_mem _ (List.mem_append_left _ (List.mem_append_left _ (List.mem_append_right _ h))))) hown hK.1 hP 0 rfl rfl 1 (by decide) (hts _ (List.mem_of_getElem? (i := 1) rfl)) (fun _ h9 => h9) rfl dX4_edges_47 ?_
            refine lv_iload_n hx hb dX4_edges_50 rfl (lv_at hl 1 rfl) ?_
            refine lv_iload_n hx hb dX4_edges_51 rfl (lv_at hl 2 rfl) ?_
            refine lv_iload hx hb dX4_edges_52 (lv_at hl 5 rfl) ?_
            have hPc : PP g (wC g co ck ch cl np sl kd h lk) _ := P_sub hP [2, 3, 4, 5] rfl
            refine zcallMv (w := wC g co ck ch cl np sl kd h lk) (va_runV (As := [.int (nI w_5), .int (nI w_14), .int (nI i)]) (rest := []) (b := co) S0 (c_X0_setHeight l g co ck ch cl np sl kd h lk w_5 w_14 i hnp (by omega) (by omega)) (cwV 3 hts gX4_edges_X0_setHeight rfl rfl rfl (by decide +kernel) ⟨by decide, by decide⟩) (zpreVM hK hP hD [2, 3, 4, 5] rfl (by decide) (va_recv hK.1 hPc (ci := 0) (q0 := 0) rfl rfl)) rfl rfl hl.1 rfl (lv_room (Nat.le_of_ble_eq_true rfl)) dX4_edges_54 ⟨by decide, by decide⟩) hP hD hS [2, 3, 4, 5] rfl (fun uu54 => wX g x sh co ck ch cl vo vpa vma re rua rla rma rda sad cad tr ft np sl kd (va_up h (3 * w_5 + w_14) i) lk vn vp vm nr ru rl rm rd lane ml cel) (fun _ => lz_wC.trans lz_wC.symm) (fun _ => rfl) (fun _ => ad_wX.trans ad_wX.symm) (fun uu54 H locs h54 hP hD hS => ?_)
            rw [hh i] at hP hD
            refine lv_iload hx hb dX4_edges_57 (lv_at hl 4 rfl) ?_
            refine lv_aload_n hx hb dX4_edges_59 rfl (lv_at hl 0 rfl) ?_
            refine va_get (D := g.1) (ci := 4) (v := .ref re) (C := RX4) (T := TX4) (N := 6) hx hb hts (fun _ h => (List.mem_cons_of_mem _ (List.mem_append_left _ (List.mem_append_left _ (List.mem_append_right _ h))))) hown hK.1 hP 0 rfl rfl 3 (by decide) (hts _ (List.mem_of_getElem? (i := 2) rfl)) (fun _ h9 => h9) rfl dX4_edges_60 ?_
            refine lv_aload_n hx hb dX4_edges_63 rfl (lv_at hl 0 rfl) ?_
            refine va_get (D := g.1) (ci := 4) (v := .ref co) (C := RX4) (T := TX4) (N := 6) hx hb hts (fun _ h => (List.mem_cons_of_mem _ (List.mem_append_left _ (List.mem_append_left _ (List.mem_append_right _ h))))) hown hK.1 hP 0 rfl rfl 1 (by decide) (hts _ (List.mem_of_getElem? (i := 1) rfl)) (fun _ h9 => h9) rfl dX4_edges_64 ?_
            have hPc : PP g (wRC g re rua rla rma rda co ck ch cl nr ru rl rm rd np sl kd (va_up hg (3 * w_5 + w_14) i) lk) _ := (P_sub (w := wRC g re rua rla rma rda co ck ch cl nr ru rl rm rd np sl kd (va_up hg (3 * w_5 + w_14) i) lk) hP [9, 10, 11, 12, 13, 2, 3, 4, 5] rfl)
            refine zcallR (va_runV (As := [.ref co]) (rest := [.int (nI (bset (fun v => sof sl kd (va_up hg (3 * w_5 + w_14) v) nr ru rl rm rd) i))]) (b := re) S0 (c_X1_areSo l g re rua rla rma rda co ck ch cl nr ru rl rm rd np sl kd (va_up hg (3 * w_5 + w_14) i) lk hnp hsl hkd (up_le hhg (by omega)) hru hrl hrm hrd hnr) (cwV 1 hts gX4_edges_X1_areSo rfl rfl rfl (by decide +kernel) ⟨by decide, by decide⟩) (zpreV hK hPc (va_recv hK.1 hPc (ci := 1) (q0 := 0) rfl rfl)) rfl rfl hl.1 rfl (lv_room (Nat.le_of_ble_eq_true rfl)) dX4_edges_67 ⟨by decide, by decide⟩) (fun r67 h67 => ?_)
            subst h67
            have f1 := so_le (fun j => fitb sl kd (va_up hg (3 * w_5 + w_14) i) (ru j) (rl j) (rm j)) rd nr
            refine ztopI (nI (sof sl kd (va_up hg (3 * w_5 + w_14) i) nr ru rl rm rd)) (rfl) ?_
            refine lv_iload hx hb dX4_edges_70 (lv_at hl 5 rfl) ?_
            refine zcallR (va_runS (As := [.int (nI (sof sl kd (va_up hg (3 * w_5 + w_14) i) nr ru rl rm rd)), .int (nI i)]) (rest := [.int (nI (bset (fun v => sof sl kd (va_up hg (3 * w_5 + w_14) v) nr ru rl rm rd) i))]) S0 (c_X4_bitIf l g (sof sl kd (va_up hg (3 * w_5 + w_14) i) nr ru rl rm rd) i (sof_le _ _ _ _ _ _ _ _) (by omega)) (va_cwS 2 hts gX4_edges_X4_bitIf rfl rfl rfl (by decide +kernel) ⟨by decide, by decide⟩) (zpreS hK (P_nil _)) rfl rfl hl.1 rfl (lv_room (Nat.le_of_ble_eq_true rfl)) dX4_edges_72 ⟨by decide, by decide⟩) (fun r72 h72 => ?_)
            subst h72
            have f2 := bt_ltE (sof sl kd (va_up hg (3 * w_5 + w_14) i) nr ru rl rm rd) i
            refine n_ior (a := (bset (fun v => sof sl kd (va_up hg (3 * w_5 + w_14) v) nr ru rl rm rd) i)) (b := (bt (sof sl kd (va_up hg (3 * w_5 + w_14) i) nr ru rl rm rd) i)) hx hb dX4_edges_75 ?_
            refine lv_istore (lv' := [(4, .int (nI ((bset (fun v => sof sl kd (va_up hg (3 * w_5 + w_14) v) nr ru rl rm rd) i) ||| (bt (sof sl kd (va_up hg (3 * w_5 + w_14) i) nr ru rl rm rd) i)))), (0, .ref x), (1, .int (nI w_5)), (2, .int (nI w_14)), (3, .int (nI (hg (3 * w_5 + w_14)))), (5, .int (nI i))]) hx hb dX4_edges_76 hl (by decide) rfl (fun ls hl => ?_)
            refine n_iinc (a := i) (d := 1) (lv' := [(5, .int (nI (i + 1))), (4, .int (nI ((bset (fun v => sof sl kd (va_up hg (3 * w_5 + w_14) v) nr ru rl rm rd) i) ||| (bt (sof sl kd (va_up hg (3 * w_5 + w_14) i) nr ru rl rm rd) i)))), (0, .ref x), (1, .int (nI w_5)), (2, .int (nI w_14)), (3, .int (nI (hg (3 * w_5 + w_14))))]) hx hb dX4_edges_78 hl (k := 5) rfl (by decide) (by decide) rfl (fun ls hl => ?_)
            refine lv_goto (tgt := 39) hx hb dX4_edges_81 (by decide) ?_
            exact ih39 (i + 1) (va_up hg (3 * w_5 + w_14) i) _ _ ls (by omega) (by omega) (fun v => va_up_2 hg (3 * w_5 + w_14) i v) hP hD hS (lv_sub hl [2, 3, 4, 5, 1, 0] rfl)
      exact lp39 (10 - 0 + 1) 0 hg _ _ ls (Nat.lt_succ_self _) (by omega) (fun _ => rfl) hP hD hS (lv_sub hl [3, 4, 5, 2, 1, 0] rfl)
    · refine lv_if_ne (tgt := 23) hx hb dX4_edges_17 (by decide) (fun c17 => ?_) (fun c17 => ?_)
      · exact absurd c17 (by decide)
      refine lv_bipush (v := (-2)) hx hb dX4_edges_20 (by decide) ?_
      exact zretMI (w1 := fun (uu : Unit) => wX g x sh co ck ch cl vo vpa vma re rua rla rma rda sad cad tr ft np sl kd hg lk vn vp vm nr ru rl rm rd lane ml cel) () hx hb hr hlocks hS rfl (by rw [sp_edges, if_pos (isP_of (by omega) hw_5), if_neg hn_14]) hP dX4_edges_22
  · refine lv_if_ne (tgt := 13) hx hb dX4_edges_8 (by decide) (fun c8 => ?_) (fun c8 => ?_)
    · exact absurd c8 (by decide)
    refine lv_iconst (v := (-1)) hx hb dX4_edges_11 (by decide) ?_
    exact zretMI (w1 := fun (uu : Unit) => wX g x sh co ck ch cl vo vpa vma re rua rla rma rda sad cad tr ft np sl kd hg lk vn vp vm nr ru rl rm rd lane ml cel) () hx hb hr hlocks hS rfl (by rw [sp_edges, if_neg hn_5]) hP dX4_edges_12

set_option maxHeartbeats 4000000 in
set_option maxRecDepth 100000 in
theorem c_X4_kinds (l : Launch) (g : Gx) (x : Nat) (sh : Nat) (co : Nat) (ck : Nat) (ch : Nat) (cl : Nat) (vo : Nat) (vpa : Nat) (vma : Nat) (re : Nat) (rua : Nat) (rla : Nat) (rma : Nat) (rda : Nat) (sad : Nat → Nat) (cad : Nat → Nat) (tr : Int32) (ft : Nat) (np : Nat) (sl : Nat) (kd : Nat → Nat) (hg : Nat → Nat) (lk : Nat → Nat) (vn : Nat) (vp : Nat → Int32) (vm : Nat → Int32) (nr : Nat) (ru : Nat → Nat) (rl : Nat → Nat) (rm : Nat → Nat) (rd : Nat → Nat) (lane : Nat → Nat) (ml : Nat → Nat) (cel : Nat → Nat → Int32) (p : Int32) (hG : Gd np sl kd hg nr ru rl rm rd lane ml) : Met l yX4_kinds wsX4_kinds ({ frames := 5, cells := 0, slots := 0, locals := 115 } : Room) (PcM g [.ref x, .int p] (wX g x sh co ck ch cl vo vpa vma re rua rla rma rda sad cad tr ft np sl kd hg lk vn vp vm nr ru rl rm rd lane ml cel)) (va_Qi (fun (r : Int32) (uu : Unit) => r = sp_kinds np sl kd hg nr ru rl rm rd p) (fun (uu : Unit) t => PP g (wX g x sh co ck ch cl vo vpa vma re rua rla rma rda sad cad tr ft np sl kd hg lk vn vp vm nr ru rl rm rd lane ml cel) t.heap) (inW (wX g x sh co ck ch cl vo vpa vma re rua rla rma rda sad cad tr ft np sl kd hg lk vn vp vm nr ru rl rm rd lane ml cel))) 0 0 (inW (wX g x sh co ck ch cl vo vpa vma re rua rla rma rda sad cad tr ft np sl kd hg lk vn vp vm nr ru rl rm rd lane ml cel)) := by
  refine zenterM (cc := cX4_kinds) (maxL := 5) (ret := (some .int)) (by decide) rfl (Nat.le_of_ble_eq_true rfl) ?_
  intro P E s mt below meth cd ls hx hb hml hown hts hr hlocks hP hK hD hS hl
  skip
  have hl : lv_has ls 5 [(0, .ref x), (1, .int p)] := hl
  have S0 : CallFix P mt cd cX4_kinds 5 s [.ref x, .int p].toArray wsX4_kinds RX4 := ⟨hx, hb, hml, hown, hts⟩
  obtain ⟨hnp, hsl, hkd, hhg, hnr, hru, hrl, hrm, hrd, hla, hmz⟩ := hG
  refine lv_aload_n hx hb dX4_kinds_0 rfl (lv_at hl 0 rfl) ?_
  refine va_get (D := g.1) (ci := 4) (v := .ref co) (C := RX4) (T := TX4) (N := 6) hx hb hts (fun _ h => (List.mem_cons_of_mem _ (List.mem_append_left _ (List.mem_append_left _ (List.mem_append_right _ h))))) hown hK.1 hP 0 rfl rfl 1 (by decide) (hts _ (List.mem_of_getElem? (i := 1) rfl)) (fun _ h9 => h9) rfl dX4_kinds_1 ?_
  refine lv_iload_n hx hb dX4_kinds_4 rfl (lv_at hl 1 rfl) ?_
  have hPc : PP g (wC g co ck ch cl np sl kd hg lk) _ := (P_sub (w := wC g co ck ch cl np sl kd hg lk) hP [2, 3, 4, 5] rfl)
  refine zcallR (va_runV (As := [.int p]) (rest := []) (b := co) S0 (c_X0_hasPass l g co ck ch cl np sl kd hg lk p hnp) (cwV 1 hts gX4_kinds_X0_hasPass rfl rfl rfl (by decide +kernel) ⟨by decide, by decide⟩) (zpreV hK hPc (va_recv hK.1 hPc (ci := 0) (q0 := 0) rfl rfl)) rfl rfl hl.1 rfl (lv_room (Nat.le_of_ble_eq_true rfl)) dX4_kinds_5 ⟨by decide, by decide⟩) (fun r5 h5 => ?_)
  rcases h5 with ⟨w_5, hw_5, hv_5, rfl⟩ | ⟨hn_5, rfl⟩
  · subst hv_5
    refine lv_if_ne (tgt := 13) hx hb dX4_kinds_8 (by decide) (fun c8 => ?_) (fun c8 => ?_)
    rotate_left
    · exact absurd c8 (by decide)
    refine lv_aload_n hx hb dX4_kinds_13 rfl (lv_at hl 0 rfl) ?_
    refine va_get (D := g.1) (ci := 4) (v := .ref co) (C := RX4) (T := TX4) (N := 6) hx hb hts (fun _ h => (List.mem_cons_of_mem _ (List.mem_append_left _ (List.mem_append_left _ (List.mem_append_right _ h))))) hown hK.1 hP 0 rfl rfl 1 (by decide) (hts _ (List.mem_of_getElem? (i := 1) rfl)) (fun _ h9 => h9) rfl dX4_kinds_14 ?_
    refine lv_iload_n hx hb dX4_kinds_17 rfl (lv_at hl 1 rfl) ?_
    have hPc : PP g (wC g co ck ch cl np sl kd hg lk) _ := (P_sub (w := wC g co ck ch cl np sl kd hg lk) hP [2, 3, 4, 5] rfl)
    refine zcallR (va_runV (As := [.int (nI w_5)]) (rest := []) (b := co) S0 (c_X0_kindOf l g co ck ch cl np sl kd hg lk w_5 hnp (by omega)) (cwV 1 hts gX4_kinds_X0_kindOf rfl rfl rfl (by decide +kernel) ⟨by decide, by decide⟩) (zpreV hK hPc (va_recv hK.1 hPc (ci := 0) (q0 := 0) rfl rfl)) rfl rfl hl.1 rfl (lv_room (Nat.le_of_ble_eq_true rfl)) dX4_kinds_18 ⟨by decide, by decide⟩) (fun r18 h18 => ?_)
    subst h18
    refine lv_istore_n (lv' := [(2, .int (nI (kd w_5))), (0, .ref x), (1, .int (nI w_5))]) hx hb dX4_kinds_21 rfl hl (by decide) rfl (fun ls hl => ?_)
    refine lv_iconst (v := (nI 0)) hx hb dX4_kinds_22 (by decide) ?_
    refine lv_istore_n (lv' := [(3, .int (nI 0)), (2, .int (nI (kd w_5))), (0, .ref x), (1, .int (nI w_5))]) hx hb dX4_kinds_23 rfl hl (by decide) rfl (fun ls hl => ?_)
    refine lv_iconst (v := (nI 0)) hx hb dX4_kinds_24 (by decide) ?_
    refine lv_istore (lv' := [(4, .int (nI 0)), (3, .int (nI 0)), (2, .int (nI (kd w_5))), (0, .ref x), (1, .int (nI w_5))]) hx hb dX4_kinds_25 hl (by decide) rfl (fun ls hl => ?_)
    have lp27 : ∀ (nn : Nat) (i : Nat) (h : Nat → Nat) (H : Heap) (locs : List Loc) (ls : Array Slot), (3 - i) < nn → (i ≤ 3) → (∀ v, va_up h w_5 v = va_up kd w_5 v) → PP g (wX g x sh co ck ch cl vo vpa vma re rua rla rma rda sad cad tr ft np sl h hg lk vn vp vm nr ru rl rm rd lane ml cel) H → va_D (inW (wX g x sh co ck ch cl vo vpa vma re rua rla rma rda sad cad tr ft np sl kd hg lk vn vp vm nr ru rl rm rd lane ml cel)) (wX g x sh co ck ch cl vo vpa vma re rua rla rma rda sad cad tr ft np sl h hg lk vn vp vm nr ru rl rm rd lane ml cel) → va_S (inW (wX g x sh co ck ch cl vo vpa vma re rua rla rma rda sad cad tr ft np sl kd hg lk vn vp vm nr ru rl rm rd lane ml cel)) s.heap H locs → lv_has ls 5 [(0, .ref x), (1, .int (nI w_5)), (2, .int (nI (kd w_5))), (3, .int (nI (bset (fun v => sof sl (va_up kd w_5 v) hg nr ru rl rm rd) i))), (4, .int (nI i))] → W P l E ({ frames := 5, cells := 0, slots := 0, locals := 115 } : Room) s mt [.ref x, .int (nI w_5)].toArray below meth cd H locs 0 0 (MQ below (va_Qi (fun (r : Int32) (uu : Unit) => r = sp_kinds np sl kd hg nr ru rl rm rd (nI w_5)) (fun (uu : Unit) t => PP g (wX g x sh co ck ch cl vo vpa vma re rua rla rma rda sad cad tr ft np sl kd hg lk vn vp vm nr ru rl rm rd lane ml cel) t.heap) (inW (wX g x sh co ck ch cl vo vpa vma re rua rla rma rda sad cad tr ft np sl kd hg lk vn vp vm nr ru rl rm rd lane ml cel))) [.ref x, .int (nI w_5)].toArray s 0 0 (inW (wX g x sh co ck ch cl vo vpa vma re rua rla rma rda sad cad tr ft np sl kd hg lk vn vp vm nr ru rl rm rd lane ml cel))) (F0 mt 27 ls []) := by
      intro nn
      induction nn with
      | zero => intro i h H locs ls hmu; exact absurd hmu (Nat.not_lt_zero _)
      | succ nn ih27 =>
        intro i h H locs ls hmu hi hh hP hD hS hl
        refine lv_iload hx hb dX4_kinds_27 (lv_at hl 4 rfl) ?_
        refine lv_iconst (v := (nI 2)) hx hb dX4_kinds_29 (by decide) ?_
        refine n_icmp_gt (a := i) (b := 2) (tgt := 68) hx hb (by omega) (by omega) dX4_kinds_30 (by decide) (fun c30 => ?_) (fun c30 => ?_)
        · obtain rfl : 3 = i := by omega
          refine lv_aload_n hx hb dX4_kinds_68 rfl (lv_at hl 0 rfl) ?_
          refine va_get (D := g.1) (ci := 4) (v := .ref co) (C := RX4) (T := TX4) (N := 6) hx hb hts (fun _ h => (List.mem_cons_of_mem _ (List.mem_append_left _ (List.mem_append_left _ (List.mem_append_right _ h))))) hown hK.1 hP 0 rfl rfl 1 (by decide) (hts _ (List.mem_of_getElem? (i := 1) rfl)) (fun _ h9 => h9) rfl dX4_kinds_69 ?_
          refine lv_iload_n hx hb dX4_kinds_72 rfl (lv_at hl 1 rfl) ?_
          refine lv_iload_n hx hb dX4_kinds_73 rfl (lv_at hl 2 rfl) ?_
          have hPc : PP g (wC g co ck ch cl np sl h hg lk) _ := P_sub hP [2, 3, 4, 5] rfl
          refine zcallMv (w := wC g co ck ch cl np sl h hg lk) (va_runV (As := [.int (nI w_5), .int (nI (kd w_5))]) (rest := []) (b := co) S0 (c_X0_setKind l g co ck ch cl np sl h hg lk w_5 (kd w_5) hnp (by omega)) (cwV 2 hts gX4_kinds_X0_setKind rfl rfl rfl (by decide +kernel) ⟨by decide, by decide⟩) (zpreVM hK hP hD [2, 3, 4, 5] rfl (by decide) (va_recv hK.1 hPc (ci := 0) (q0 := 0) rfl rfl)) rfl rfl hl.1 rfl (lv_room (Nat.le_of_ble_eq_true rfl)) dX4_kinds_74 ⟨by decide, by decide⟩) hP hD hS [2, 3, 4, 5] rfl (fun uu74 => wX g x sh co ck ch cl vo vpa vma re rua rla rma rda sad cad tr ft np sl (va_up h w_5 (kd w_5)) hg lk vn vp vm nr ru rl rm rd lane ml cel) (fun _ => lz_wC.trans lz_wC.symm) (fun _ => rfl) (fun _ => ad_wX.trans ad_wX.symm) (fun uu74 H locs h74 hP hD hS => ?_)
          rw [hh (kd w_5), va_up_same rfl] at hP hD
          refine lv_iload_n hx hb dX4_kinds_77 rfl (lv_at hl 3 rfl) ?_
          exact zretMI (w1 := fun (uu : Unit) => wX g x sh co ck ch cl vo vpa vma re rua rla rma rda sad cad tr ft np sl kd hg lk vn vp vm nr ru rl rm rd lane ml cel) () hx hb hr hlocks hS rfl (by rw [sp_kinds, if_pos (isP_of (by omega) hw_5), tN_nI (u := w_5) (by omega)]) hP dX4_kinds_78
        · refine lv_aload_n hx hb dX4_kinds_33 rfl (lv_at hl 0 rfl) ?_
          refine va_get (D := g.1) (ci := 4) (v := .ref co) (C := RX4) (T := TX4) (N := 6) hx hb hts (fun _ h => (List.mem_cons_of_mem _ (List.mem_append_left _ (List.mem_append_left _ (List.mem_append_right _ h))))) hown hK.1 hP 0 rfl rfl 1 (by decide) (hts _ (List.mem_of_getElem? (i := 1) rfl)) (fun _ h9 => h9) rfl dX4_kinds_34 ?_
          refine lv_iload_n hx hb dX4_kinds_37 rfl (lv_at hl 1 rfl) ?_
          refine lv_iload hx hb dX4_kinds_38 (lv_at hl 4 rfl) ?_
          have hPc : PP g (wC g co ck ch cl np sl h hg lk) _ := P_sub hP [2, 3, 4, 5] rfl
          refine zcallMv (w := wC g co ck ch cl np sl h hg lk) (va_runV (As := [.int (nI w_5), .int (nI i)]) (rest := []) (b := co) S0 (c_X0_setKind l g co ck ch cl np sl h hg lk w_5 i hnp (by omega)) (cwV 2 hts gX4_kinds_X0_setKind rfl rfl rfl (by decide +kernel) ⟨by decide, by decide⟩) (zpreVM hK hP hD [2, 3, 4, 5] rfl (by decide) (va_recv hK.1 hPc (ci := 0) (q0 := 0) rfl rfl)) rfl rfl hl.1 rfl (lv_room (Nat.le_of_ble_eq_true rfl)) dX4_kinds_40 ⟨by decide, by decide⟩) hP hD hS [2, 3, 4, 5] rfl (fun uu40 => wX g x sh co ck ch cl vo vpa vma re rua rla rma rda sad cad tr ft np sl (va_up h w_5 i) hg lk vn vp vm nr ru rl rm rd lane ml cel) (fun _ => lz_wC.trans lz_wC.symm) (fun _ => rfl) (fun _ => ad_wX.trans ad_wX.symm) (fun uu40 H locs h40 hP hD hS => ?_)
          rw [hh i] at hP hD
          refine lv_iload_n hx hb dX4_kinds_43 rfl (lv_at hl 3 rfl) ?_
          refine lv_aload_n hx hb dX4_kinds_44 rfl (lv_at hl 0 rfl) ?_
          refine va_get (D := g.1) (ci := 4) (v := .ref re) (C := RX4) (T := TX4) (N := 6) hx hb hts (fun _ h => (List.mem_cons_of_mem _ (List.mem_append_left _ (List.mem_append_left _ (List.mem_append_right _ h))))) hown hK.1 hP 0 rfl rfl 3 (by decide) (hts _ (List.mem_of_getElem? (i := 2) rfl)) (fun _ h9 => h9) rfl dX4_kinds_45 ?_
          refine lv_aload_n hx hb dX4_kinds_48 rfl (lv_at hl 0 rfl) ?_
          refine va_get (D := g.1) (ci := 4) (v := .ref co) (C := RX4) (T := TX4) (N := 6) hx hb hts (fun _ h => (List.mem_cons_of_mem _ (List.mem_append_left _ (List.mem_append_left _ (List.mem_append_right _ h))))) hown hK.1 hP 0 rfl rfl 1 (by decide) (hts _ (List.mem_of_getElem? (i := 1) rfl)) (fun _ h9 => h9) rfl dX4_kinds_49 ?_
          have hPc : PP g (wRC g re rua rla rma rda co ck ch cl nr ru rl rm rd np sl (va_up kd w_5 i) hg lk) _ := (P_sub (w := wRC g re rua rla rma rda co ck ch cl nr ru rl rm rd np sl (va_up kd w_5 i) hg lk) hP [9, 10, 11, 12, 13, 2, 3, 4, 5] rfl)
          refine zcallR (va_runV (As := [.ref co]) (rest := [.int (nI (bset (fun v => sof sl (va_up kd w_5 v) hg nr ru rl rm rd) i))]) (b := re) S0 (c_X1_areSo l g re rua rla rma rda co ck ch cl nr ru rl rm rd np sl (va_up kd w_5 i) hg lk hnp hsl (up_le hkd (by omega)) hhg hru hrl hrm hrd hnr) (cwV 1 hts gX4_kinds_X1_areSo rfl rfl rfl (by decide +kernel) ⟨by decide, by decide⟩) (zpreV hK hPc (va_recv hK.1 hPc (ci := 1) (q0 := 0) rfl rfl)) rfl rfl hl.1 rfl (lv_room (Nat.le_of_ble_eq_true rfl)) dX4_kinds_52 ⟨by decide, by decide⟩) (fun r52 h52 => ?_)
          subst h52
          have f1 := so_le (fun j => fitb sl (va_up kd w_5 i) hg (ru j) (rl j) (rm j)) rd nr
          refine ztopI (nI (sof sl (va_up kd w_5 i) hg nr ru rl rm rd)) (rfl) ?_
          refine lv_iload hx hb dX4_kinds_55 (lv_at hl 4 rfl) ?_
          refine zcallR (va_runS (As := [.int (nI (sof sl (va_up kd w_5 i) hg nr ru rl rm rd)), .int (nI i)]) (rest := [.int (nI (bset (fun v => sof sl (va_up kd w_5 v) hg nr ru rl rm rd) i))]) S0 (c_X4_bitIf l g (sof sl (va_up kd w_5 i) hg nr ru rl rm rd) i (sof_le _ _ _ _ _ _ _ _) (by omega)) (va_cwS 2 hts gX4_kinds_X4_bitIf rfl rfl rfl (by decide +kernel) ⟨by decide, by decide⟩) (zpreS hK (P_nil _)) rfl rfl hl.1 rfl (lv_room (Nat.le_of_ble_eq_true rfl)) dX4_kinds_57 ⟨by decide, by decide⟩) (fun r57 h57 => ?_)
          subst h57
          have f2 := bt_ltE (sof sl (va_up kd w_5 i) hg nr ru rl rm rd) i
          refine n_ior (a := (bset (fun v => sof sl (va_up kd w_5 v) hg nr ru rl rm rd) i)) (b := (bt (sof sl (va_up kd w_5 i) hg nr ru rl rm rd) i)) hx hb dX4_kinds_60 ?_
          refine lv_istore_n (lv' := [(3, .int (nI ((bset (fun v => sof sl (va_up kd w_5 v) hg nr ru rl rm rd) i) ||| (bt (sof sl (va_up kd w_5 i) hg nr ru rl rm rd) i)))), (0, .ref x), (1, .int (nI w_5)), (2, .int (nI (kd w_5))), (4, .int (nI i))]) hx hb dX4_kinds_61 rfl hl (by decide) rfl (fun ls hl => ?_)
          refine n_iinc (a := i) (d := 1) (lv' := [(4, .int (nI (i + 1))), (3, .int (nI ((bset (fun v => sof sl (va_up kd w_5 v) hg nr ru rl rm rd) i) ||| (bt (sof sl (va_up kd w_5 i) hg nr ru rl rm rd) i)))), (0, .ref x), (1, .int (nI w_5)), (2, .int (nI (kd w_5)))]) hx hb dX4_kinds_62 hl (k := 4) rfl (by decide) (by decide) rfl (fun ls hl => ?_)
          refine lv_goto (tgt := 27) hx hb dX4_kinds_65 (by decide) ?_
          exact ih27 (i + 1) (va_up kd w_5 i) _ _ ls (by omega) (by omega) (fun v => va_up_2 kd w_5 i v) hP hD hS (lv_sub hl [2, 3, 4, 1, 0] rfl)
    exact lp27 (3 - 0 + 1) 0 kd _ _ ls (Nat.lt_succ_self _) (by omega) (fun _ => rfl) hP hD hS (lv_sub hl [3, 4, 2, 1, 0] rfl)
  · refine lv_if_ne (tgt := 13) hx hb dX4_kinds_8 (by decide) (fun c8 => ?_) (fun c8 => ?_)
    · exact absurd c8 (by decide)
    refine lv_iconst (v := (-1)) hx hb dX4_kinds_11 (by decide) ?_
    exact zretMI (w1 := fun (uu : Unit) => wX g x sh co ck ch cl vo vpa vma re rua rla rma rda sad cad tr ft np sl kd hg lk vn vp vm nr ru rl rm rd lane ml cel) () hx hb hr hlocks hS rfl (by rw [sp_kinds, if_neg hn_5]) hP dX4_kinds_12

set_option maxHeartbeats 4000000 in
set_option maxRecDepth 100000 in
theorem c_X4_slacks (l : Launch) (g : Gx) (x : Nat) (sh : Nat) (co : Nat) (ck : Nat) (ch : Nat) (cl : Nat) (vo : Nat) (vpa : Nat) (vma : Nat) (re : Nat) (rua : Nat) (rla : Nat) (rma : Nat) (rda : Nat) (sad : Nat → Nat) (cad : Nat → Nat) (tr : Int32) (ft : Nat) (np : Nat) (sl : Nat) (kd : Nat → Nat) (hg : Nat → Nat) (lk : Nat → Nat) (vn : Nat) (vp : Nat → Int32) (vm : Nat → Int32) (nr : Nat) (ru : Nat → Nat) (rl : Nat → Nat) (rm : Nat → Nat) (rd : Nat → Nat) (lane : Nat → Nat) (ml : Nat → Nat) (cel : Nat → Nat → Int32) (hG : Gd np sl kd hg nr ru rl rm rd lane ml) : Met l yX4_slacks wsX4_slacks ({ frames := 5, cells := 0, slots := 0, locals := 115 } : Room) (PcM g [.ref x] (wX g x sh co ck ch cl vo vpa vma re rua rla rma rda sad cad tr ft np sl kd hg lk vn vp vm nr ru rl rm rd lane ml cel)) (va_Qi (fun (r : Int32) (uu : Unit) => r = sp_slacks np kd hg nr ru rl rm rd) (fun (uu : Unit) t => PP g (wX g x sh co ck ch cl vo vpa vma re rua rla rma rda sad cad tr ft np sl kd hg lk vn vp vm nr ru rl rm rd lane ml cel) t.heap) (inW (wX g x sh co ck ch cl vo vpa vma re rua rla rma rda sad cad tr ft np sl kd hg lk vn vp vm nr ru rl rm rd lane ml cel))) 0 0 (inW (wX g x sh co ck ch cl vo vpa vma re rua rla rma rda sad cad tr ft np sl kd hg lk vn vp vm nr ru rl rm rd lane ml cel)) := by
  refine zenterM (cc := cX4_slacks) (maxL := 4) (ret := (some .int)) (by decide) rfl (Nat.le_of_ble_eq_true rfl) ?_
  intro P E s mt below meth cd ls hx hb hml hown hts hr hlocks hP hK hD hS hl
  skip
  have hl : lv_has ls 4 [(0, .ref x)] := hl
  have S0 : CallFix P mt cd cX4_slacks 4 s [.ref x].toArray wsX4_slacks RX4 := ⟨hx, hb, hml, hown, hts⟩
  obtain ⟨hnp, hsl, hkd, hhg, hnr, hru, hrl, hrm, hrd, hla, hmz⟩ := hG
  refine lv_aload_n hx hb dX4_slacks_0 rfl (lv_at hl 0 rfl) ?_
  refine va_get (D := g.1) (ci := 4) (v := .ref co) (C := RX4) (T := TX4) (N := 6) hx hb hts (fun _ h => (List.mem_cons_of_mem _ (List.mem_append_left _ (List.mem_append_left _ (List.mem_append_right _ h))))) hown hK.1 hP 0 rfl rfl 1 (by decide) (hts _ (List.mem_of_getElem? (i := 1) rfl)) (fun _ h9 => h9) rfl dX4_slacks_1 ?_
  have hPc : PP g (wC g co ck ch cl np sl kd hg lk) _ := (P_sub (w := wC g co ck ch cl np sl kd hg lk) hP [2, 3, 4, 5] rfl)
  refine zcallR (va_runV (As := []) (rest := []) (b := co) S0 (c_X0_stands l g co ck ch cl np sl kd hg lk hnp) (cwV 0 hts gX4_slacks_X0_stands rfl rfl rfl (by decide +kernel) ⟨by decide, by decide⟩) (zpreV hK hPc (va_recv hK.1 hPc (ci := 0) (q0 := 0) rfl rfl)) rfl rfl hl.1 rfl (lv_room (Nat.le_of_ble_eq_true rfl)) dX4_slacks_4 ⟨by decide, by decide⟩) (fun r4 h4 => ?_)
  subst h4
  have hst := b01_le (0 < np)
  refine n_if_ne (a := (b01 (0 < np))) (tgt := 13) hx hb (by omega) dX4_slacks_7 (by decide) (fun c7 => ?_) (fun c7 => ?_)
  · refine lv_aload_n hx hb dX4_slacks_13 rfl (lv_at hl 0 rfl) ?_
    refine va_get (D := g.1) (ci := 4) (v := .ref co) (C := RX4) (T := TX4) (N := 6) hx hb hts (fun _ h => (List.mem_cons_of_mem _ (List.mem_append_left _ (List.mem_append_left _ (List.mem_append_right _ h))))) hown hK.1 hP 0 rfl rfl 1 (by decide) (hts _ (List.mem_of_getElem? (i := 1) rfl)) (fun _ h9 => h9) rfl dX4_slacks_14 ?_
    have hPc : PP g (wC g co ck ch cl np sl kd hg lk) _ := (P_sub (w := wC g co ck ch cl np sl kd hg lk) hP [2, 3, 4, 5] rfl)
    refine zcallR (va_runV (As := []) (rest := []) (b := co) S0 (c_X0_slackNow l g co ck ch cl np sl kd hg lk) (cwV 0 hts gX4_slacks_X0_slackNow rfl rfl rfl (by decide +kernel) ⟨by decide, by decide⟩) (zpreV hK hPc (va_recv hK.1 hPc (ci := 0) (q0 := 0) rfl rfl)) rfl rfl hl.1 rfl (lv_room (Nat.le_of_ble_eq_true rfl)) dX4_slacks_17 ⟨by decide, by decide⟩) (fun r17 h17 => ?_)
    subst h17
    refine lv_istore_n (lv' := [(1, .int (nI sl)), (0, .ref x)]) hx hb dX4_slacks_20 rfl hl (by decide) rfl (fun ls hl => ?_)
    refine lv_iconst (v := (nI 0)) hx hb dX4_slacks_21 (by decide) ?_
    refine lv_istore_n (lv' := [(2, .int (nI 0)), (1, .int (nI sl)), (0, .ref x)]) hx hb dX4_slacks_22 rfl hl (by decide) rfl (fun ls hl => ?_)
    refine lv_iconst (v := (nI 0)) hx hb dX4_slacks_23 (by decide) ?_
    refine lv_istore_n (lv' := [(3, .int (nI 0)), (2, .int (nI 0)), (1, .int (nI sl)), (0, .ref x)]) hx hb dX4_slacks_24 rfl hl (by decide) rfl (fun ls hl => ?_)
    have lp25 : ∀ (nn : Nat) (i : Nat) (t : Nat) (H : Heap) (locs : List Loc) (ls : Array Slot), (10 - i) < nn → (i ≤ 10) → PP g (wX g x sh co ck ch cl vo vpa vma re rua rla rma rda sad cad tr ft np t kd hg lk vn vp vm nr ru rl rm rd lane ml cel) H → va_D (inW (wX g x sh co ck ch cl vo vpa vma re rua rla rma rda sad cad tr ft np sl kd hg lk vn vp vm nr ru rl rm rd lane ml cel)) (wX g x sh co ck ch cl vo vpa vma re rua rla rma rda sad cad tr ft np t kd hg lk vn vp vm nr ru rl rm rd lane ml cel) → va_S (inW (wX g x sh co ck ch cl vo vpa vma re rua rla rma rda sad cad tr ft np sl kd hg lk vn vp vm nr ru rl rm rd lane ml cel)) s.heap H locs → lv_has ls 4 [(0, .ref x), (1, .int (nI sl)), (2, .int (nI (bset (fun v => sof v kd hg nr ru rl rm rd) i))), (3, .int (nI i))] → W P l E ({ frames := 5, cells := 0, slots := 0, locals := 115 } : Room) s mt [.ref x].toArray below meth cd H locs 0 0 (MQ below (va_Qi (fun (r : Int32) (uu : Unit) => r = sp_slacks np kd hg nr ru rl rm rd) (fun (uu : Unit) t => PP g (wX g x sh co ck ch cl vo vpa vma re rua rla rma rda sad cad tr ft np sl kd hg lk vn vp vm nr ru rl rm rd lane ml cel) t.heap) (inW (wX g x sh co ck ch cl vo vpa vma re rua rla rma rda sad cad tr ft np sl kd hg lk vn vp vm nr ru rl rm rd lane ml cel))) [.ref x].toArray s 0 0 (inW (wX g x sh co ck ch cl vo vpa vma re rua rla rma rda sad cad tr ft np sl kd hg lk vn vp vm nr ru rl rm rd lane ml cel))) (F0 mt 25 ls []) := by
      intro nn
      induction nn with
      | zero => intro i t H locs ls hmu; exact absurd hmu (Nat.not_lt_zero _)
      | succ nn ih25 =>
        intro i t H locs ls hmu hi hP hD hS hl
        refine lv_iload_n hx hb dX4_slacks_25 rfl (lv_at hl 3 rfl) ?_
        refine lv_bipush (v := (nI 9)) hx hb dX4_slacks_26 (by decide) ?_
        refine n_icmp_gt (a := i) (b := 9) (tgt := 63) hx hb (by omega) (by omega) dX4_slacks_28 (by decide) (fun c28 => ?_) (fun c28 => ?_)
        · obtain rfl : 10 = i := by omega
          refine lv_aload_n hx hb dX4_slacks_63 rfl (lv_at hl 0 rfl) ?_
          refine va_get (D := g.1) (ci := 4) (v := .ref co) (C := RX4) (T := TX4) (N := 6) hx hb hts (fun _ h => (List.mem_cons_of_mem _ (List.mem_append_left _ (List.mem_append_left _ (List.mem_append_right _ h))))) hown hK.1 hP 0 rfl rfl 1 (by decide) (hts _ (List.mem_of_getElem? (i := 1) rfl)) (fun _ h9 => h9) rfl dX4_slacks_64 ?_
          refine lv_iload_n hx hb dX4_slacks_67 rfl (lv_at hl 1 rfl) ?_
          have hPc : PP g (wC g co ck ch cl np t kd hg lk) _ := P_sub hP [2, 3, 4, 5] rfl
          refine zcallMv (w := wC g co ck ch cl np t kd hg lk) (va_runV (As := [.int (nI sl)]) (rest := []) (b := co) S0 (c_X0_setSlack l g co ck ch cl np t kd hg lk sl) (cwV 1 hts gX4_slacks_X0_setSlack rfl rfl rfl (by decide +kernel) ⟨by decide, by decide⟩) (zpreVM hK hP hD [2, 3, 4, 5] rfl (by decide) (va_recv hK.1 hPc (ci := 0) (q0 := 0) rfl rfl)) rfl rfl hl.1 rfl (lv_room (Nat.le_of_ble_eq_true rfl)) dX4_slacks_68 ⟨by decide, by decide⟩) hP hD hS [2, 3, 4, 5] rfl (fun uu68 => wX g x sh co ck ch cl vo vpa vma re rua rla rma rda sad cad tr ft np sl kd hg lk vn vp vm nr ru rl rm rd lane ml cel) (fun _ => lz_wC.trans lz_wC.symm) (fun _ => rfl) (fun _ => ad_wX.trans ad_wX.symm) (fun uu68 H locs h68 hP hD hS => ?_)
          refine lv_iload_n hx hb dX4_slacks_71 rfl (lv_at hl 2 rfl) ?_
          exact zretMI (w1 := fun (uu : Unit) => wX g x sh co ck ch cl vo vpa vma re rua rla rma rda sad cad tr ft np sl kd hg lk vn vp vm nr ru rl rm rd lane ml cel) () hx hb hr hlocks hS rfl (by rw [sp_slacks, if_pos (b01_n0.mp c7)]) hP dX4_slacks_72
        · refine lv_aload_n hx hb dX4_slacks_31 rfl (lv_at hl 0 rfl) ?_
          refine va_get (D := g.1) (ci := 4) (v := .ref co) (C := RX4) (T := TX4) (N := 6) hx hb hts (fun _ h => (List.mem_cons_of_mem _ (List.mem_append_left _ (List.mem_append_left _ (List.mem_append_right _ h))))) hown hK.1 hP 0 rfl rfl 1 (by decide) (hts _ (List.mem_of_getElem? (i := 1) rfl)) (fun _ h9 => h9) rfl dX4_slacks_32 ?_
          refine lv_iload_n hx hb dX4_slacks_35 rfl (lv_at hl 3 rfl) ?_
          have hPc : PP g (wC g co ck ch cl np t kd hg lk) _ := P_sub hP [2, 3, 4, 5] rfl
          refine zcallMv (w := wC g co ck ch cl np t kd hg lk) (va_runV (As := [.int (nI i)]) (rest := []) (b := co) S0 (c_X0_setSlack l g co ck ch cl np t kd hg lk i) (cwV 1 hts gX4_slacks_X0_setSlack rfl rfl rfl (by decide +kernel) ⟨by decide, by decide⟩) (zpreVM hK hP hD [2, 3, 4, 5] rfl (by decide) (va_recv hK.1 hPc (ci := 0) (q0 := 0) rfl rfl)) rfl rfl hl.1 rfl (lv_room (Nat.le_of_ble_eq_true rfl)) dX4_slacks_36 ⟨by decide, by decide⟩) hP hD hS [2, 3, 4, 5] rfl (fun uu36 => wX g x sh co ck ch cl vo vpa vma re rua rla rma rda sad cad tr ft np i kd hg lk vn vp vm nr ru rl rm rd lane ml cel) (fun _ => lz_wC.trans lz_wC.symm) (fun _ => rfl) (fun _ => ad_wX.trans ad_wX.symm) (fun uu36 H locs h36 hP hD hS => ?_)
          refine lv_iload_n hx hb dX4_slacks_39 rfl (lv_at hl 2 rfl) ?_
          refine lv_aload_n hx hb dX4_slacks_40 rfl (lv_at hl 0 rfl) ?_
          refine va_get (D := g.1) (ci := 4) (v := .ref re) (C := RX4) (T := TX4) (N := 6) hx hb hts (fun _ h => (List.mem_cons_of_mem _ (List.mem_append_left _ (List.mem_append_left _ (List.mem_append_right _ h))))) hown hK.1 hP 0 rfl rfl 3 (by decide) (hts _ (List.mem_of_getElem? (i := 2) rfl)) (fun _ h9 => h9) rfl dX4_slacks_41 ?_
          refine lv_aload_n hx hb dX4_slacks_44 rfl (lv_at hl 0 rfl) ?_
          refine va_get (D := g.1) (ci := 4) (v := .ref co) (C := RX4) (T := TX4) (N := 6) hx hb hts (fun _ h => (List.mem_cons_of_mem _ (List.mem_append_left _ (List.mem_append_left _ (List.mem_append_right _ h))))) hown hK.1 hP 0 rfl rfl 1 (by decide) (hts _ (List.mem_of_getElem? (i := 1) rfl)) (fun _ h9 => h9) rfl dX4_slacks_45 ?_
          have hPc : PP g (wRC g re rua rla rma rda co ck ch cl nr ru rl rm rd np i kd hg lk) _ := (P_sub (w := wRC g re rua rla rma rda co ck ch cl nr ru rl rm rd np i kd hg lk) hP [9, 10, 11, 12, 13, 2, 3, 4, 5] rfl)
          refine zcallR (va_runV (As := [.ref co]) (rest := [.int (nI (bset (fun v => sof v kd hg nr ru rl rm rd) i))]) (b := re) S0 (c_X1_areSo l g re rua rla rma rda co ck ch cl nr ru rl rm rd np i kd hg lk hnp (by omega) hkd hhg hru hrl hrm hrd hnr) (cwV 1 hts gX4_slacks_X1_areSo rfl rfl rfl (by decide +kernel) ⟨by decide, by decide⟩) (zpreV hK hPc (va_recv hK.1 hPc (ci := 1) (q0 := 0) rfl rfl)) rfl rfl hl.1 rfl (lv_room (Nat.le_of_ble_eq_true rfl)) dX4_slacks_48 ⟨by decide, by decide⟩) (fun r48 h48 => ?_)
          subst h48
          have f1 := so_le (fun j => fitb i kd hg (ru j) (rl j) (rm j)) rd nr
          refine ztopI (nI (sof i kd hg nr ru rl rm rd)) (rfl) ?_
          refine lv_iload_n hx hb dX4_slacks_51 rfl (lv_at hl 3 rfl) ?_
          refine zcallR (va_runS (As := [.int (nI (sof i kd hg nr ru rl rm rd)), .int (nI i)]) (rest := [.int (nI (bset (fun v => sof v kd hg nr ru rl rm rd) i))]) S0 (c_X4_bitIf l g (sof i kd hg nr ru rl rm rd) i (sof_le _ _ _ _ _ _ _ _) (by omega)) (va_cwS 2 hts gX4_slacks_X4_bitIf rfl rfl rfl (by decide +kernel) ⟨by decide, by decide⟩) (zpreS hK (P_nil _)) rfl rfl hl.1 rfl (lv_room (Nat.le_of_ble_eq_true rfl)) dX4_slacks_52 ⟨by decide, by decide⟩) (fun r52 h52 => ?_)
          subst h52
          have f2 := bt_ltE (sof i kd hg nr ru rl rm rd) i
          refine n_ior (a := (bset (fun v => sof v kd hg nr ru rl rm rd) i)) (b := (bt (sof i kd hg nr ru rl rm rd) i)) hx hb dX4_slacks_55 ?_
          refine lv_istore_n (lv' := [(2, .int (nI ((bset (fun v => sof v kd hg nr ru rl rm rd) i) ||| (bt (sof i kd hg nr ru rl rm rd) i)))), (0, .ref x), (1, .int (nI sl)), (3, .int (nI i))]) hx hb dX4_slacks_56 rfl hl (by decide) rfl (fun ls hl => ?_)
          refine n_iinc (a := i) (d := 1) (lv' := [(3, .int (nI (i + 1))), (2, .int (nI ((bset (fun v => sof v kd hg nr ru rl rm rd) i) ||| (bt (sof i kd hg nr ru rl rm rd) i)))), (0, .ref x), (1, .int (nI sl))]) hx hb dX4_slacks_57 hl (k := 3) rfl (by decide) (by decide) rfl (fun ls hl => ?_)
          refine lv_goto (tgt := 25) hx hb dX4_slacks_60 (by decide) ?_
          exact ih25 (i + 1) i _ _ ls (by omega) (by omega) hP hD hS (lv_sub hl [2, 3, 1, 0] rfl)
    exact lp25 (10 - 0 + 1) 0 sl _ _ ls (Nat.lt_succ_self _) (by omega) hP hD hS (lv_sub hl [3, 2, 1, 0] rfl)
  · refine lv_bipush (v := (-3)) hx hb dX4_slacks_10 (by decide) ?_
    exact zretMI (w1 := fun (uu : Unit) => wX g x sh co ck ch cl vo vpa vma re rua rla rma rda sad cad tr ft np sl kd hg lk vn vp vm nr ru rl rm rd lane ml cel) () hx hb hr hlocks hS rfl (by rw [sp_slacks, if_neg (b01_0.mp c7)]) hP dX4_slacks_12

set_option maxHeartbeats 4000000 in
set_option maxRecDepth 100000 in
theorem c_X4_odds (l : Launch) (g : Gx) (x : Nat) (sh : Nat) (co : Nat) (ck : Nat) (ch : Nat) (cl : Nat) (vo : Nat) (vpa : Nat) (vma : Nat) (re : Nat) (rua : Nat) (rla : Nat) (rma : Nat) (rda : Nat) (sad : Nat → Nat) (cad : Nat → Nat) (tr : Int32) (ft : Nat) (np : Nat) (sl : Nat) (kd : Nat → Nat) (hg : Nat → Nat) (lk : Nat → Nat) (vn : Nat) (vp : Nat → Int32) (vm : Nat → Int32) (nr : Nat) (ru : Nat → Nat) (rl : Nat → Nat) (rm : Nat → Nat) (rd : Nat → Nat) (lane : Nat → Nat) (ml : Nat → Nat) (cel : Nat → Nat → Int32) (q : Int32) (m : Int32) (w : Int32) (hG : Gd np sl kd hg nr ru rl rm rd lane ml) : Met l yX4_odds wsX4_odds ({ frames := 4, cells := 0, slots := 0, locals := 94 } : Room) (PcR g [.ref x, .int q, .int m, .int w] (wX g x sh co ck ch cl vo vpa vma re rua rla rma rda sad cad tr ft np sl kd hg lk vn vp vm nr ru rl rm rd lane ml cel)) (vp_Sl (fun r => r = sp_odds np sl kd hg q m w)) 0 0 (fun _ => False) := by
  refine zenterR (cc := cX4_odds) (maxL := 6) (ret := (some .long)) (by decide) rfl (Nat.le_of_ble_eq_true rfl) ?_
  intro P E s mt below meth cd ls hx hb hml hown hts hr hlocks hP hK hl
  have hl : lv_has ls 6 [(0, .ref x), (1, .int q), (2, .int m), (3, .int w)] := hl
  have S0 : CallFix P mt cd cX4_odds 6 s [.ref x, .int q, .int m, .int w].toArray wsX4_odds RX4 := ⟨hx, hb, hml, hown, hts⟩
  obtain ⟨hnp, hsl, hkd, hhg, hnr, hru, hrl, hrm, hrd, hla, hmz⟩ := hG
  refine lv_aload_n hx hb dX4_odds_0 rfl (lv_at hl 0 rfl) ?_
  refine va_get (D := g.1) (ci := 4) (v := .ref co) (C := RX4) (T := TX4) (N := 6) hx hb hts (fun _ h => (List.mem_cons_of_mem _ (List.mem_append_left _ (List.mem_append_right _ h)))) hown hK.1 hP 0 rfl rfl 1 (by decide) (hts _ (List.mem_of_getElem? (i := 1) rfl)) (fun _ h9 => h9) rfl dX4_odds_1 ?_
  refine lv_iload_n hx hb dX4_odds_4 rfl (lv_at hl 1 rfl) ?_
  have hPc : PP g (wC g co ck ch cl np sl kd hg lk) _ := (P_sub (w := wC g co ck ch cl np sl kd hg lk) hP [2, 3, 4, 5] rfl)
  refine zcallR (va_runV (As := [.int q]) (rest := []) (b := co) S0 (c_X0_hasPass l g co ck ch cl np sl kd hg lk q hnp) (cwV 1 hts gX4_odds_X0_hasPass rfl rfl rfl (by decide +kernel) ⟨by decide, by decide⟩) (zpreV hK hPc (va_recv hK.1 hPc (ci := 0) (q0 := 0) rfl rfl)) rfl rfl hl.1 rfl (lv_room (Nat.le_of_ble_eq_true rfl)) dX4_odds_5 ⟨by decide, by decide⟩) (fun r5 h5 => ?_)
  rcases h5 with ⟨w_5, hw_5, hv_5, rfl⟩ | ⟨hn_5, rfl⟩
  · subst hv_5
    refine lv_if_eq (tgt := 27) hx hb dX4_odds_8 (by decide) (fun c8 => ?_) (fun c8 => ?_)
    · exact absurd c8 (by decide)
    refine lv_iload_n hx hb dX4_odds_11 rfl (lv_at hl 2 rfl) ?_
    refine zcallR (va_runS (As := [.int m]) (rest := []) S0 (c_X4_isMonths l g m) (va_cwS 1 hts gX4_odds_X4_isMonths rfl rfl rfl (by decide +kernel) ⟨by decide, by decide⟩) (zpreS hK (P_nil _)) rfl rfl hl.1 rfl (lv_room (Nat.le_of_ble_eq_true rfl)) dX4_odds_12 ⟨by decide, by decide⟩) (fun r12 h12 => ?_)
    rcases h12 with ⟨w_12, hw_12, hv_12, rfl⟩ | ⟨hn_12, rfl⟩
    · subst hv_12
      refine lv_if_eq (tgt := 27) hx hb dX4_odds_15 (by decide) (fun c15 => ?_) (fun c15 => ?_)
      · exact absurd c15 (by decide)
      refine lv_iload_n hx hb dX4_odds_18 rfl (lv_at hl 3 rfl) ?_
      refine lv_iconst (v := (nI 0)) hx hb dX4_odds_19 (by decide) ?_
      refine lv_iconst (v := (nI 1)) hx hb dX4_odds_20 (by decide) ?_
      refine zcallR (va_runS (As := [.int w, .int (nI 0), .int (nI 1)]) (rest := []) S0 (c_X4_within_r0 l g w 1 (by omega)) (va_cwS 3 hts gX4_odds_X4_within rfl rfl rfl (by decide +kernel) ⟨by decide, by decide⟩) (zpreS hK (P_nil _)) rfl rfl hl.1 rfl (lv_room (Nat.le_of_ble_eq_true rfl)) dX4_odds_21 ⟨by decide, by decide⟩) (fun r21 h21 => ?_)
      rcases h21 with ⟨w_21, hw_21, hv_21, rfl⟩ | ⟨hn_21, rfl⟩
      · subst hv_21
        refine lv_if_ne (tgt := 31) hx hb dX4_odds_24 (by decide) (fun c24 => ?_) (fun c24 => ?_)
        rotate_left
        · exact absurd c24 (by decide)
        refine lv_lconst (v := lN 1) hx hb dX4_odds_31 (by decide) ?_
        refine lv_aload_n hx hb dX4_odds_32 rfl (lv_at hl 0 rfl) ?_
        refine va_get (D := g.1) (ci := 4) (v := .ref co) (C := RX4) (T := TX4) (N := 6) hx hb hts (fun _ h => (List.mem_cons_of_mem _ (List.mem_append_left _ (List.mem_append_right _ h)))) hown hK.1 hP 0 rfl rfl 1 (by decide) (hts _ (List.mem_of_getElem? (i := 1) rfl)) (fun _ h9 => h9) rfl dX4_odds_33 ?_
        refine lv_iload_n hx hb dX4_odds_36 rfl (lv_at hl 1 rfl) ?_
        refine lv_iload_n hx hb dX4_odds_37 rfl (lv_at hl 2 rfl) ?_
        have hPc : PP g (wC g co ck ch cl np sl kd hg lk) _ := (P_sub (w := wC g co ck ch cl np sl kd hg lk) hP [2, 3, 4, 5] rfl)
        refine zcallR (va_runV (As := [.int (nI w_5), .int (nI w_12)]) (rest := [.long (lN 1)]) (b := co) S0 (c_X0_fitting l g co ck ch cl np sl kd hg lk w_5 w_12 hnp hsl hkd hhg (by omega) (by omega)) (cwV 2 hts gX4_odds_X0_fitting rfl rfl rfl (by decide +kernel) ⟨by decide, by decide⟩) (zpreV hK hPc (va_recv hK.1 hPc (ci := 0) (q0 := 0) rfl rfl)) rfl rfl hl.1 rfl (lv_room (Nat.le_of_ble_eq_true rfl)) dX4_odds_38 ⟨by decide, by decide⟩) (fun r38 h38 => ?_)
        subst h38
        have f1 := fset_64 hnp sl kd hg w_5 w_12
        refine zcallR (va_runS (As := [.int (nI (fset np sl kd hg w_5 w_12))]) (rest := [.long (lN 1)]) S0 (c_bitCount l g (fset np sl kd hg w_5 w_12) (by omega)) (va_cwS 1 hts gX4_odds_J6_bitCount_0f7a4 rfl rfl rfl (by decide +kernel) ⟨by decide, by decide⟩) (zpreS hK (P_nil _)) rfl rfl hl.1 rfl (lv_room (Nat.le_of_ble_eq_true rfl)) dX4_odds_41 ⟨by decide, by decide⟩) (fun r41 h41 => ?_)
        subst h41
        have f2 := pc_32 (fset np sl kd hg w_5 w_12)
        refine lv_lshl (v := ((lN 1) <<< ((nI (pc (fset np sl kd hg w_5 w_12))).toInt64 &&& 63))) hx hb dX4_odds_44 rfl ?_
        refine ztopL (lN (2 ^ pc (fset np sl kd hg w_5 w_12))) (lshl1 _ (by omega)) ?_
        refine lv_lstore (lv' := [(4, .long (lN (2 ^ pc (fset np sl kd hg w_5 w_12)))), (0, .ref x), (1, .int (nI w_5)), (2, .int (nI w_12)), (3, .int (nI w_21))]) hx hb dX4_odds_45 hl (by decide) rfl (fun ls hl => ?_)
        refine lv_iload_n hx hb dX4_odds_47 rfl (lv_at hl 4 rfl) ?_
        refine n_if_ne (a := w_21) (tgt := 58) hx hb (by omega) dX4_odds_48 (by decide) (fun c48 => ?_) (fun c48 => ?_)
        · refine lv_lload hx hb dX4_odds_58 (lv_at hl 0 rfl) ?_
          exact zretL hx hb hr hlocks (by rw [sp_odds, if_pos ⟨(isP_of (by omega) hw_5), (isP_of (by omega) hw_12), (isP_of (by omega) hw_21)⟩, if_neg (nI_neI (by omega) (by decide) c48), tN_nI (u := w_5) (by omega), tN_nI (u := w_12) (by omega)]) dX4_odds_60
        · refine lv_lload hx hb dX4_odds_51 (lv_at hl 0 rfl) ?_
          refine lv_lconst (v := lN 1) hx hb dX4_odds_53 (by decide) ?_
          refine lv_lsub hx hb dX4_odds_54 ?_
          refine ztopL (lN (2 ^ pc (fset np sl kd hg w_5 w_12) - 1)) (lN_sub Nat.one_le_two_pow) ?_
          refine lv_goto (tgt := 60) hx hb dX4_odds_55 (by decide) ?_
          exact zretL hx hb hr hlocks (by rw [sp_odds, if_pos ⟨(isP_of (by omega) hw_5), (isP_of (by omega) hw_12), (isP_of (by omega) hw_21)⟩, if_pos (by rw [c48]), tN_nI (u := w_5) (by omega), tN_nI (u := w_12) (by omega)]) dX4_odds_60
      · refine lv_if_ne (tgt := 31) hx hb dX4_odds_24 (by decide) (fun c24 => ?_) (fun c24 => ?_)
        · exact absurd c24 (by decide)
        refine lv_ldc2 (v := (-9223372036854775808)) hx hb hown (hts _ (List.mem_of_getElem? (i := 2) rfl)) dX4_odds_27 ?_
        exact zretL hx hb hr hlocks (by rw [sp_odds, if_neg (fun z => hn_21 z.2.2)]) dX4_odds_30
    · refine lv_if_eq (tgt := 27) hx hb dX4_odds_15 (by decide) (fun c15 => ?_) (fun c15 => ?_)
      rotate_left
      · exact absurd (by decide) c15
      refine lv_ldc2 (v := (-9223372036854775808)) hx hb hown (hts _ (List.mem_of_getElem? (i := 2) rfl)) dX4_odds_27 ?_
      exact zretL hx hb hr hlocks (by rw [sp_odds, if_neg (fun z => hn_12 z.2.1)]) dX4_odds_30
  · refine lv_if_eq (tgt := 27) hx hb dX4_odds_8 (by decide) (fun c8 => ?_) (fun c8 => ?_)
    rotate_left
    · exact absurd (by decide) c8
    refine lv_ldc2 (v := (-9223372036854775808)) hx hb hown (hts _ (List.mem_of_getElem? (i := 2) rfl)) dX4_odds_27 ?_
    exact zretL hx hb hr hlocks (by rw [sp_odds, if_neg (fun z => hn_5 z.1)]) dX4_odds_30

set_option maxHeartbeats 4000000 in
set_option maxRecDepth 100000 in
theorem c_X4_leave (l : Launch) (g : Gx) (x : Nat) (sh : Nat) (co : Nat) (vo : Nat) (re : Nat) (tr : Int32) (ft : Nat) (b : Nat) : Met l yX4_leave wsX4_leave ({ frames := 0, cells := 0, slots := 0, locals := 0 } : Room) (PcM g [.ref x, .int (nI b)] (wXo g x sh co vo re tr ft)) (va_Qv (fun (uu : Unit) => True) (fun (uu : Unit) t => PP g (wXo g x sh co vo re (lv tr b) ft) t.heap) (inW (wXo g x sh co vo re tr ft))) 0 0 (inW (wXo g x sh co vo re tr ft)) := by
  refine zenterM (cc := cX4_leave) (maxL := 2) (ret := none) (by decide) rfl (Nat.le_of_ble_eq_true rfl) ?_
  intro P E s mt below meth cd ls hx hb hml hown hts hr hlocks hP hK hD hS hl
  skip
  have hl : lv_has ls 2 [(0, .ref x), (1, .int (nI b))] := hl
  have S0 : CallFix P mt cd cX4_leave 2 s [.ref x, .int (nI b)].toArray wsX4_leave RX4 := ⟨hx, hb, hml, hown, hts⟩
  refine lv_aload_n hx hb dX4_leave_0 rfl (lv_at hl 0 rfl) ?_
  refine lv_bipush (v := (nI 31)) hx hb dX4_leave_1 (by decide) ?_
  refine lv_aload_n hx hb dX4_leave_3 rfl (lv_at hl 0 rfl) ?_
  refine va_get (D := g.1) (ci := 4) (v := .int tr) (C := RX4) (T := TX4) (N := 6) hx hb hts (fun _ h => (List.mem_cons_of_mem _ (List.mem_append_right _ h))) hown hK.1 hP 0 rfl rfl 4 (by decide) (hts _ (List.mem_of_getElem? (i := 1) rfl)) (fun _ h9 => h9) rfl dX4_leave_4 ?_
  refine lv_imul hx hb dX4_leave_7 ?_
  refine lv_iload_n hx hb dX4_leave_8 rfl (lv_at hl 1 rfl) ?_
  refine lv_iadd hx hb dX4_leave_9 ?_
  refine n_put (D := g.1) (ci := 4) (v := .int (((nI 31) * tr) + (nI b))) (ty := .int) (C := RX4) (T := TX4) (N := 6) (ws1 := wXo g x sh co vo re (((nI 31) * tr) + (nI b)) ft) hx hb hts (fun _ h => (List.mem_cons_of_mem _ (List.mem_append_right _ h))) tyX4 tyX4_ok nmX4 hown hK.1 hP hD hS 0 rfl rfl 4 (by decide) (hts _ (List.mem_of_getElem? (i := 1) rfl)) (fun _ h9 => h9) rfl (by decide +kernel) rfl rfl (Nat.le_of_ble_eq_true rfl) rfl dX4_leave_10 (fun H locs hP hD hS => ?_)
  exact zretMV (w1 := fun (uu : Unit) => wXo g x sh co vo re (lv tr b) ft) () hx hb hr hlocks hS trivial hP dX4_leave_13

set_option maxHeartbeats 4000000 in
set_option maxRecDepth 100000 in
theorem c_X4_failBy (l : Launch) (g : Gx) (x : Nat) (sh : Nat) (co : Nat) (vo : Nat) (re : Nat) (tr : Int32) (ft : Nat) (f : Nat) : Met l yX4_failBy wsX4_failBy ({ frames := 0, cells := 0, slots := 0, locals := 0 } : Room) (PcM g [.ref x, .int (nI f)] (wXo g x sh co vo re tr ft)) (va_Qi (fun (r : Int32) (uu : Unit) => r = fA f) (fun (uu : Unit) t => PP g (wXo g x sh co vo re tr f) t.heap) (inW (wXo g x sh co vo re tr ft))) 0 0 (inW (wXo g x sh co vo re tr ft)) := by
  refine zenterM (cc := cX4_failBy) (maxL := 2) (ret := (some .int)) (by decide) rfl (Nat.le_of_ble_eq_true rfl) ?_
  intro P E s mt below meth cd ls hx hb hml hown hts hr hlocks hP hK hD hS hl
  skip
  have hl : lv_has ls 2 [(0, .ref x), (1, .int (nI f))] := hl
  have S0 : CallFix P mt cd cX4_failBy 2 s [.ref x, .int (nI f)].toArray wsX4_failBy RX4 := ⟨hx, hb, hml, hown, hts⟩
  refine lv_aload_n hx hb dX4_failBy_0 rfl (lv_at hl 0 rfl) ?_
  refine lv_iload_n hx hb dX4_failBy_1 rfl (lv_at hl 1 rfl) ?_
  refine n_put (D := g.1) (ci := 4) (v := .int (nI f)) (ty := .int) (C := RX4) (T := TX4) (N := 6) (ws1 := wXo g x sh co vo re tr f) hx hb hts (fun _ h => (List.mem_cons_of_mem _ (List.mem_append_right _ h))) tyX4 tyX4_ok nmX4 hown hK.1 hP hD hS 0 rfl rfl 5 (by decide) (hts _ (List.mem_of_getElem? (i := 1) rfl)) (fun _ h9 => h9) rfl (by decide +kernel) rfl rfl (Nat.le_of_ble_eq_true rfl) rfl dX4_failBy_2 (fun H locs hP hD hS => ?_)
  refine lv_bipush (v := (-10)) hx hb dX4_failBy_5 (by decide) ?_
  refine lv_iload_n hx hb dX4_failBy_7 rfl (lv_at hl 1 rfl) ?_
  refine lv_isub hx hb dX4_failBy_8 ?_
  exact zretMI (w1 := fun (uu : Unit) => wXo g x sh co vo re tr f) () hx hb hr hlocks hS rfl rfl hP dX4_failBy_9

set_option maxHeartbeats 4000000 in
set_option maxRecDepth 100000 in
theorem c_X4_tellAsPass (l : Launch) (g : Gx) (x : Nat) (sh : Nat) (co : Nat) (vo : Nat) (re : Nat) (ck : Nat) (ch : Nat) (cl : Nat) (tr : Int32) (ft : Nat) (np : Nat) (sl : Nat) (kd : Nat → Nat) (hg : Nat → Nat) (lk : Nat → Nat) (u : Nat) (hnp : np ≤ 6) (hhg : ∀ j, hg j ≤ 9) (hu : u < np) : Met l yX4_tellAsPass wsX4_tellAsPass ({ frames := 2, cells := 0, slots := 0, locals := 43 } : Room) (PcM g [.ref x, .int (nI u)] (wXC g x sh co vo re ck ch cl tr ft np sl kd hg lk)) (va_Qi (fun (r : Int32) (uu : Unit) => r = nI (hsum hg u)) (fun (uu : Unit) t => PP g (wXC g x sh co vo re ck ch cl (lv tr 1) ft np sl kd hg lk) t.heap) (inW (wXC g x sh co vo re ck ch cl tr ft np sl kd hg lk))) 0 0 (inW (wXC g x sh co vo re ck ch cl tr ft np sl kd hg lk)) := by
  refine zenterM (cc := cX4_tellAsPass) (maxL := 4) (ret := (some .int)) (by decide) rfl (Nat.le_of_ble_eq_true rfl) ?_
  intro P E s mt below meth cd ls hx hb hml hown hts hr hlocks hP hK hD hS hl
  skip
  have hl : lv_has ls 4 [(0, .ref x), (1, .int (nI u))] := hl
  have S0 : CallFix P mt cd cX4_tellAsPass 4 s [.ref x, .int (nI u)].toArray wsX4_tellAsPass RX4 := ⟨hx, hb, hml, hown, hts⟩
  refine lv_aload_n hx hb dX4_tellAsPass_0 rfl (lv_at hl 0 rfl) ?_
  refine lv_iconst (v := (nI 1)) hx hb dX4_tellAsPass_1 (by decide) ?_
  have hPc : PP g (wXo g x sh co vo re tr ft) _ := P_sub hP [0] rfl
  refine zcallMv (w := wXo g x sh co vo re tr ft) (va_runV (As := [.int (nI 1)]) (rest := []) (b := x) S0 (c_X4_leave l g x sh co vo re tr ft 1) (cwV 1 hts gX4_tellAsPass_X4_leave rfl rfl rfl (by decide +kernel) ⟨by decide, by decide⟩) (zpreVM hK hP hD [0] rfl (by decide) (va_recv hK.1 hPc (ci := 4) (q0 := 0) rfl rfl)) rfl rfl hl.1 rfl (lv_room (Nat.le_of_ble_eq_true rfl)) dX4_tellAsPass_2 ⟨by decide, by decide⟩) hP hD hS [0] rfl (fun uu2 => wXC g x sh co vo re ck ch cl (lv tr 1) ft np sl kd hg lk) (fun _ => lz_wXo.trans lz_wXo.symm) (fun _ => rfl) (fun _ => ad_wXC.trans ad_wXC.symm) (fun uu2 H locs h2 hP hD hS => ?_)
  refine lv_iconst (v := (nI 0)) hx hb dX4_tellAsPass_5 (by decide) ?_
  refine lv_istore_n (lv' := [(2, .int (nI 0)), (0, .ref x), (1, .int (nI u))]) hx hb dX4_tellAsPass_6 rfl hl (by decide) rfl (fun ls hl => ?_)
  refine lv_iconst (v := (nI 0)) hx hb dX4_tellAsPass_7 (by decide) ?_
  refine lv_istore_n (lv' := [(3, .int (nI 0)), (2, .int (nI 0)), (0, .ref x), (1, .int (nI u))]) hx hb dX4_tellAsPass_8 rfl hl (by decide) rfl (fun ls hl => ?_)
  have lp9 : ∀ (nn : Nat) (i : Nat) (H : Heap) (locs : List Loc) (ls : Array Slot), (3 - i) < nn → (i ≤ 3) → PP g (wXC g x sh co vo re ck ch cl (lv tr 1) ft np sl kd hg lk) H → va_D (inW (wXC g x sh co vo re ck ch cl tr ft np sl kd hg lk)) (wXC g x sh co vo re ck ch cl (lv tr 1) ft np sl kd hg lk) → va_S (inW (wXC g x sh co vo re ck ch cl tr ft np sl kd hg lk)) s.heap H locs → lv_has ls 4 [(0, .ref x), (1, .int (nI u)), (2, .int (nI (sumk (fun k => hg (3 * u + k)) i))), (3, .int (nI i))] → W P l E ({ frames := 2, cells := 0, slots := 0, locals := 43 } : Room) s mt [.ref x, .int (nI u)].toArray below meth cd H locs 0 0 (MQ below (va_Qi (fun (r : Int32) (uu : Unit) => r = nI (hsum hg u)) (fun (uu : Unit) t => PP g (wXC g x sh co vo re ck ch cl (lv tr 1) ft np sl kd hg lk) t.heap) (inW (wXC g x sh co vo re ck ch cl tr ft np sl kd hg lk))) [.ref x, .int (nI u)].toArray s 0 0 (inW (wXC g x sh co vo re ck ch cl tr ft np sl kd hg lk))) (F0 mt 9 ls []) := by
    intro nn
    induction nn with
    | zero => intro i H locs ls hmu; exact absurd hmu (Nat.not_lt_zero _)
    | succ nn ih9 =>
      intro i H locs ls hmu hi hP hD hS hl
      refine lv_iload_n hx hb dX4_tellAsPass_9 rfl (lv_at hl 3 rfl) ?_
      refine lv_iconst (v := (nI 3)) hx hb dX4_tellAsPass_10 (by decide) ?_
      refine n_icmp_ge (a := i) (b := 3) (tgt := 32) hx hb (by omega) (by omega) dX4_tellAsPass_11 (by decide) (fun c11 => ?_) (fun c11 => ?_)
      · obtain rfl : 3 = i := by omega
        refine lv_iload_n hx hb dX4_tellAsPass_32 rfl (lv_at hl 2 rfl) ?_
        exact zretMI (w1 := fun (uu : Unit) => wXC g x sh co vo re ck ch cl (lv tr 1) ft np sl kd hg lk) () hx hb hr hlocks hS rfl rfl hP dX4_tellAsPass_33
      · refine lv_iload_n hx hb dX4_tellAsPass_14 rfl (lv_at hl 2 rfl) ?_
        refine lv_aload_n hx hb dX4_tellAsPass_15 rfl (lv_at hl 0 rfl) ?_
        refine va_get (D := g.1) (ci := 4) (v := .ref co) (C := RX4) (T := TX4) (N := 6) hx hb hts (fun _ h => (List.mem_cons_of_mem _ (List.mem_append_left _ (List.mem_append_right _ h)))) hown hK.1 hP 0 rfl rfl 1 (by decide) (hts _ (List.mem_of_getElem? (i := 1) rfl)) (fun _ h9 => h9) rfl dX4_tellAsPass_16 ?_
        refine lv_iload_n hx hb dX4_tellAsPass_19 rfl (lv_at hl 1 rfl) ?_
        refine lv_iload_n hx hb dX4_tellAsPass_20 rfl (lv_at hl 3 rfl) ?_
        have hPc : PP g (wC g co ck ch cl np sl kd hg lk) _ := (P_sub (w := wC g co ck ch cl np sl kd hg lk) hP [1, 2, 3, 4] rfl)
        refine zcallR (va_runV (As := [.int (nI u), .int (nI i)]) (rest := [.int (nI (sumk (fun k => hg (3 * u + k)) i))]) (b := co) S0 (c_X0_heightOf l g co ck ch cl np sl kd hg lk u i hnp (by omega) (by omega)) (cwV 2 hts gX4_tellAsPass_X0_heightOf rfl rfl rfl (by decide +kernel) ⟨by decide, by decide⟩) (zpreV hK hPc (va_recv hK.1 hPc (ci := 0) (q0 := 0) rfl rfl)) rfl rfl hl.1 rfl (lv_room (Nat.le_of_ble_eq_true rfl)) dX4_tellAsPass_21 ⟨by decide, by decide⟩) (fun r21 h21 => ?_)
        subst h21
        refine n_iadd (a := (sumk (fun k => hg (3 * u + k)) i)) (b := (hg (3 * u + i))) hx hb dX4_tellAsPass_24 ?_
        refine lv_istore_n (lv' := [(2, .int (nI ((sumk (fun k => hg (3 * u + k)) i) + (hg (3 * u + i))))), (0, .ref x), (1, .int (nI u)), (3, .int (nI i))]) hx hb dX4_tellAsPass_25 rfl hl (by decide) rfl (fun ls hl => ?_)
        refine n_iinc (a := i) (d := 1) (lv' := [(3, .int (nI (i + 1))), (2, .int (nI ((sumk (fun k => hg (3 * u + k)) i) + (hg (3 * u + i))))), (0, .ref x), (1, .int (nI u))]) hx hb dX4_tellAsPass_26 hl (k := 3) rfl (by decide) (by decide) rfl (fun ls hl => ?_)
        refine lv_goto (tgt := 9) hx hb dX4_tellAsPass_29 (by decide) ?_
        exact ih9 (i + 1) _ _ ls (by omega) (by omega) hP hD hS (lv_sub hl [2, 3, 1, 0] rfl)
  exact lp9 (3 - 0 + 1) 0 _ _ ls (Nat.lt_succ_self _) (by omega) hP hD hS (lv_sub hl [2, 3, 1, 0] rfl)

set_option maxHeartbeats 4000000 in
set_option maxRecDepth 100000 in
theorem c_X4_tellAsLent (l : Launch) (g : Gx) (x : Nat) (sh : Nat) (co : Nat) (vo : Nat) (re : Nat) (ck : Nat) (ch : Nat) (cl : Nat) (tr : Int32) (ft : Nat) (np : Nat) (sl : Nat) (kd : Nat → Nat) (hg : Nat → Nat) (lk : Nat → Nat) (u : Nat) (hnp : np ≤ 6) (hhg : ∀ j, hg j ≤ 9) (hu : u < np) : Met l yX4_tellAsLent wsX4_tellAsLent ({ frames := 3, cells := 0, slots := 0, locals := 66 } : Room) (PcM g [.ref x, .int (nI u)] (wXC g x sh co vo re ck ch cl tr ft np sl kd hg lk)) (va_Qi (fun (r : Int32) (uu : Unit) => r = nI (hsum hg u + 100)) (fun (uu : Unit) t => PP g (wXC g x sh co vo re ck ch cl (lv (lv tr 2) 1) ft np sl kd hg lk) t.heap) (inW (wXC g x sh co vo re ck ch cl tr ft np sl kd hg lk))) 0 0 (inW (wXC g x sh co vo re ck ch cl tr ft np sl kd hg lk)) := by
  refine zenterM (cc := cX4_tellAsLent) (maxL := 2) (ret := (some .int)) (by decide) rfl (Nat.le_of_ble_eq_true rfl) ?_
  intro P E s mt below meth cd ls hx hb hml hown hts hr hlocks hP hK hD hS hl
  skip
  have hl : lv_has ls 2 [(0, .ref x), (1, .int (nI u))] := hl
  have S0 : CallFix P mt cd cX4_tellAsLent 2 s [.ref x, .int (nI u)].toArray wsX4_tellAsLent RX4 := ⟨hx, hb, hml, hown, hts⟩
  refine lv_aload_n hx hb dX4_tellAsLent_0 rfl (lv_at hl 0 rfl) ?_
  refine lv_iconst (v := (nI 2)) hx hb dX4_tellAsLent_1 (by decide) ?_
  have hPc : PP g (wXo g x sh co vo re tr ft) _ := P_sub hP [0] rfl
  refine zcallMv (w := wXo g x sh co vo re tr ft) (va_runV (As := [.int (nI 2)]) (rest := []) (b := x) S0 (c_X4_leave l g x sh co vo re tr ft 2) (cwV 1 hts gX4_tellAsLent_X4_leave rfl rfl rfl (by decide +kernel) ⟨by decide, by decide⟩) (zpreVM hK hP hD [0] rfl (by decide) (va_recv hK.1 hPc (ci := 4) (q0 := 0) rfl rfl)) rfl rfl hl.1 rfl (lv_room (Nat.le_of_ble_eq_true rfl)) dX4_tellAsLent_2 ⟨by decide, by decide⟩) hP hD hS [0] rfl (fun uu2 => wXC g x sh co vo re ck ch cl (lv tr 2) ft np sl kd hg lk) (fun _ => lz_wXo.trans lz_wXo.symm) (fun _ => rfl) (fun _ => ad_wXC.trans ad_wXC.symm) (fun uu2 H locs h2 hP hD hS => ?_)
  refine lv_aload_n hx hb dX4_tellAsLent_5 rfl (lv_at hl 0 rfl) ?_
  refine lv_iload_n hx hb dX4_tellAsLent_6 rfl (lv_at hl 1 rfl) ?_
  have hPc : PP g (wXC g x sh co vo re ck ch cl (lv tr 2) ft np sl kd hg lk) _ := P_sub hP [0, 1, 2, 3, 4] rfl
  refine zcallM (w := wXC g x sh co vo re ck ch cl (lv tr 2) ft np sl kd hg lk) (va_runV (As := [.int (nI u)]) (rest := []) (b := x) S0 (c_X4_tellAsPass l g x sh co vo re ck ch cl (lv tr 2) ft np sl kd hg lk u hnp hhg (by omega)) (cwV 1 hts gX4_tellAsLent_X4_tellAsPass rfl rfl rfl (by decide +kernel) ⟨by decide, by decide⟩) (zpreVM hK hP hD [0, 1, 2, 3, 4] rfl (by decide) (va_recv hK.1 hPc (ci := 4) (q0 := 0) rfl rfl)) rfl rfl hl.1 rfl (lv_room (Nat.le_of_ble_eq_true rfl)) dX4_tellAsLent_7 ⟨by decide, by decide⟩) hP hD hS [0, 1, 2, 3, 4] rfl (fun uu7 => wXC g x sh co vo re ck ch cl (lv (lv tr 2) 1) ft np sl kd hg lk) (fun _ => lz_wXC.trans lz_wXC.symm) (fun _ => rfl) (fun _ => ad_wXC.trans ad_wXC.symm) (fun r7 uu7 H locs h7 hP hD hS => ?_)
  subst h7
  have f1 := hsum_le hhg u
  refine lv_bipush (v := (nI 100)) hx hb dX4_tellAsLent_10 (by decide) ?_
  refine n_iadd (a := (hsum hg u)) (b := 100) hx hb dX4_tellAsLent_12 ?_
  exact zretMI (w1 := fun (uu : Unit) => wXC g x sh co vo re ck ch cl (lv (lv tr 2) 1) ft np sl kd hg lk) () hx hb hr hlocks hS rfl rfl hP dX4_tellAsLent_13

set_option maxHeartbeats 4000000 in
set_option maxRecDepth 100000 in
theorem c_X4_tellAsDrawn (l : Launch) (g : Gx) (x : Nat) (sh : Nat) (co : Nat) (vo : Nat) (re : Nat) (ck : Nat) (ch : Nat) (cl : Nat) (tr : Int32) (ft : Nat) (np : Nat) (sl : Nat) (kd : Nat → Nat) (hg : Nat → Nat) (lk : Nat → Nat) (u : Nat) (hnp : np ≤ 6) (hhg : ∀ j, hg j ≤ 9) (hu : u < np) : Met l yX4_tellAsDrawn wsX4_tellAsDrawn ({ frames := 4, cells := 0, slots := 0, locals := 87 } : Room) (PcM g [.ref x, .int (nI u)] (wXC g x sh co vo re ck ch cl tr ft np sl kd hg lk)) (va_Qi (fun (r : Int32) (uu : Unit) => r = nI (2 * hsum hg u + 100)) (fun (uu : Unit) t => PP g (wXC g x sh co vo re ck ch cl (lv (lv (lv (lv tr 3) 2) 1) 1) ft np sl kd hg lk) t.heap) (inW (wXC g x sh co vo re ck ch cl tr ft np sl kd hg lk))) 0 0 (inW (wXC g x sh co vo re ck ch cl tr ft np sl kd hg lk)) := by
  refine zenterM (cc := cX4_tellAsDrawn) (maxL := 3) (ret := (some .int)) (by decide) rfl (Nat.le_of_ble_eq_true rfl) ?_
  intro P E s mt below meth cd ls hx hb hml hown hts hr hlocks hP hK hD hS hl
  skip
  have hl : lv_has ls 3 [(0, .ref x), (1, .int (nI u))] := hl
  have S0 : CallFix P mt cd cX4_tellAsDrawn 3 s [.ref x, .int (nI u)].toArray wsX4_tellAsDrawn RX4 := ⟨hx, hb, hml, hown, hts⟩
  refine lv_aload_n hx hb dX4_tellAsDrawn_0 rfl (lv_at hl 0 rfl) ?_
  refine lv_iconst (v := (nI 3)) hx hb dX4_tellAsDrawn_1 (by decide) ?_
  have hPc : PP g (wXo g x sh co vo re tr ft) _ := P_sub hP [0] rfl
  refine zcallMv (w := wXo g x sh co vo re tr ft) (va_runV (As := [.int (nI 3)]) (rest := []) (b := x) S0 (c_X4_leave l g x sh co vo re tr ft 3) (cwV 1 hts gX4_tellAsDrawn_X4_leave rfl rfl rfl (by decide +kernel) ⟨by decide, by decide⟩) (zpreVM hK hP hD [0] rfl (by decide) (va_recv hK.1 hPc (ci := 4) (q0 := 0) rfl rfl)) rfl rfl hl.1 rfl (lv_room (Nat.le_of_ble_eq_true rfl)) dX4_tellAsDrawn_2 ⟨by decide, by decide⟩) hP hD hS [0] rfl (fun uu2 => wXC g x sh co vo re ck ch cl (lv tr 3) ft np sl kd hg lk) (fun _ => lz_wXo.trans lz_wXo.symm) (fun _ => rfl) (fun _ => ad_wXC.trans ad_wXC.symm) (fun uu2 H locs h2 hP hD hS => ?_)
  refine lv_aload_n hx hb dX4_tellAsDrawn_5 rfl (lv_at hl 0 rfl) ?_
  refine lv_iload_n hx hb dX4_tellAsDrawn_6 rfl (lv_at hl 1 rfl) ?_
  have hPc : PP g (wXC g x sh co vo re ck ch cl (lv tr 3) ft np sl kd hg lk) _ := P_sub hP [0, 1, 2, 3, 4] rfl
  refine zcallM (w := wXC g x sh co vo re ck ch cl (lv tr 3) ft np sl kd hg lk) (va_runV (As := [.int (nI u)]) (rest := []) (b := x) S0 (c_X4_tellAsLent l g x sh co vo re ck ch cl (lv tr 3) ft np sl kd hg lk u hnp hhg (by omega)) (cwV 1 hts gX4_tellAsDrawn_X4_tellAsLent rfl rfl rfl (by decide +kernel) ⟨by decide, by decide⟩) (zpreVM hK hP hD [0, 1, 2, 3, 4] rfl (by decide) (va_recv hK.1 hPc (ci := 4) (q0 := 0) rfl rfl)) rfl rfl hl.1 rfl (lv_room (Nat.le_of_ble_eq_true rfl)) dX4_tellAsDrawn_7 ⟨by decide, by decide⟩) hP hD hS [0, 1, 2, 3, 4] rfl (fun uu7 => wXC g x sh co vo re ck ch cl (lv (lv (lv tr 3) 2) 1) ft np sl kd hg lk) (fun _ => lz_wXC.trans lz_wXC.symm) (fun _ => rfl) (fun _ => ad_wXC.trans ad_wXC.symm) (fun r7 uu7 H locs h7 hP hD hS => ?_)
  subst h7
  have f1 := hsum_le hhg u
  refine lv_istore_n (lv' := [(2, .int (nI (hsum hg u + 100))), (0, .ref x), (1, .int (nI u))]) hx hb dX4_tellAsDrawn_10 rfl hl (by decide) rfl (fun ls hl => ?_)
  refine lv_iload_n hx hb dX4_tellAsDrawn_11 rfl (lv_at hl 0 rfl) ?_
  refine lv_aload_n hx hb dX4_tellAsDrawn_12 rfl (lv_at hl 1 rfl) ?_
  refine lv_iload_n hx hb dX4_tellAsDrawn_13 rfl (lv_at hl 2 rfl) ?_
  have hPc : PP g (wXC g x sh co vo re ck ch cl (lv (lv (lv tr 3) 2) 1) ft np sl kd hg lk) _ := P_sub hP [0, 1, 2, 3, 4] rfl
  refine zcallM (w := wXC g x sh co vo re ck ch cl (lv (lv (lv tr 3) 2) 1) ft np sl kd hg lk) (va_runV (As := [.int (nI u)]) (rest := [.int (nI (hsum hg u + 100))]) (b := x) S0 (c_X4_tellAsPass l g x sh co vo re ck ch cl (lv (lv (lv tr 3) 2) 1) ft np sl kd hg lk u hnp hhg (by omega)) (cwV 1 hts gX4_tellAsDrawn_X4_tellAsPass rfl rfl rfl (by decide +kernel) ⟨by decide, by decide⟩) (zpreVM hK hP hD [0, 1, 2, 3, 4] rfl (by decide) (va_recv hK.1 hPc (ci := 4) (q0 := 0) rfl rfl)) rfl rfl hl.1 rfl (lv_room (Nat.le_of_ble_eq_true rfl)) dX4_tellAsDrawn_14 ⟨by decide, by decide⟩) hP hD hS [0, 1, 2, 3, 4] rfl (fun uu14 => wXC g x sh co vo re ck ch cl (lv (lv (lv (lv tr 3) 2) 1) 1) ft np sl kd hg lk) (fun _ => lz_wXC.trans lz_wXC.symm) (fun _ => rfl) (fun _ => ad_wXC.trans ad_wXC.symm) (fun r14 uu14 H locs h14 hP hD hS => ?_)
  subst h14
  have f2 := hsum_le hhg u
  refine n_iadd (a := (hsum hg u + 100)) (b := (hsum hg u)) hx hb dX4_tellAsDrawn_17 ?_
  exact zretMI (w1 := fun (uu : Unit) => wXC g x sh co vo re ck ch cl (lv (lv (lv (lv tr 3) 2) 1) 1) ft np sl kd hg lk) () hx hb hr hlocks hS rfl (by congr 1; omega) hP dX4_tellAsDrawn_18

set_option maxHeartbeats 4000000 in
set_option maxRecDepth 100000 in
theorem c_X4_sealAsAny (l : Launch) (g : Gx) (x : Nat) (sh : Nat) (co : Nat) (vo : Nat) (re : Nat) (tr : Int32) (ft : Nat) (p : Int32) : Met l yX4_sealAsAny wsX4_sealAsAny ({ frames := 1, cells := 0, slots := 0, locals := 21 } : Room) (PcM g [.ref x, .int p] (wXo g x sh co vo re tr ft)) (va_Qi (fun (r : Int32) (uu : Unit) => r = p) (fun (uu : Unit) t => PP g (wXo g x sh co vo re (lv tr 4) ft) t.heap) (inW (wXo g x sh co vo re tr ft))) 0 0 (inW (wXo g x sh co vo re tr ft)) := by
  refine zenterM (cc := cX4_sealAsAny) (maxL := 2) (ret := (some .int)) (by decide) rfl (Nat.le_of_ble_eq_true rfl) ?_
  intro P E s mt below meth cd ls hx hb hml hown hts hr hlocks hP hK hD hS hl
  skip
  have hl : lv_has ls 2 [(0, .ref x), (1, .int p)] := hl
  have S0 : CallFix P mt cd cX4_sealAsAny 2 s [.ref x, .int p].toArray wsX4_sealAsAny RX4 := ⟨hx, hb, hml, hown, hts⟩
  refine lv_aload_n hx hb dX4_sealAsAny_0 rfl (lv_at hl 0 rfl) ?_
  refine lv_iconst (v := (nI 4)) hx hb dX4_sealAsAny_1 (by decide) ?_
  have hPc : PP g (wXo g x sh co vo re tr ft) _ := P_sub hP [0] rfl
  refine zcallMv (w := wXo g x sh co vo re tr ft) (va_runV (As := [.int (nI 4)]) (rest := []) (b := x) S0 (c_X4_leave l g x sh co vo re tr ft 4) (cwV 1 hts gX4_sealAsAny_X4_leave rfl rfl rfl (by decide +kernel) ⟨by decide, by decide⟩) (zpreVM hK hP hD [0] rfl (by decide) (va_recv hK.1 hPc (ci := 4) (q0 := 0) rfl rfl)) rfl rfl hl.1 rfl (lv_room (Nat.le_of_ble_eq_true rfl)) dX4_sealAsAny_2 ⟨by decide, by decide⟩) hP hD hS [0] rfl (fun uu2 => wXo g x sh co vo re (lv tr 4) ft) (fun _ => lz_wXo.trans lz_wXo.symm) (fun _ => rfl) (fun _ => ad_wXo.trans ad_wXo.symm) (fun uu2 H locs h2 hP hD hS => ?_)
  refine lv_iload_n hx hb dX4_sealAsAny_5 rfl (lv_at hl 1 rfl) ?_
  exact zretMI (w1 := fun (uu : Unit) => wXo g x sh co vo re (lv tr 4) ft) () hx hb hr hlocks hS rfl rfl hP dX4_sealAsAny_6

set_option maxHeartbeats 4000000 in
set_option maxRecDepth 100000 in
theorem c_X4_sealAsDrawn (l : Launch) (g : Gx) (x : Nat) (sh : Nat) (co : Nat) (vo : Nat) (re : Nat) (tr : Int32) (ft : Nat) : Met l yX4_sealAsDrawn wsX4_sealAsDrawn ({ frames := 1, cells := 0, slots := 0, locals := 21 } : Room) (PcM g [.ref x] (wXo g x sh co vo re tr ft)) (va_Qi (fun (r : Int32) (uu : Unit) => r = nI 70) (fun (uu : Unit) t => PP g (wXo g x sh co vo re (lv tr 5) ft) t.heap) (inW (wXo g x sh co vo re tr ft))) 0 0 (inW (wXo g x sh co vo re tr ft)) := by
  refine zenterM (cc := cX4_sealAsDrawn) (maxL := 1) (ret := (some .int)) (by decide) rfl (Nat.le_of_ble_eq_true rfl) ?_
  intro P E s mt below meth cd ls hx hb hml hown hts hr hlocks hP hK hD hS hl
  skip
  have hl : lv_has ls 1 [(0, .ref x)] := hl
  have S0 : CallFix P mt cd cX4_sealAsDrawn 1 s [.ref x].toArray wsX4_sealAsDrawn RX4 := ⟨hx, hb, hml, hown, hts⟩
  refine lv_aload_n hx hb dX4_sealAsDrawn_0 rfl (lv_at hl 0 rfl) ?_
  refine lv_iconst (v := (nI 5)) hx hb dX4_sealAsDrawn_1 (by decide) ?_
  have hPc : PP g (wXo g x sh co vo re tr ft) _ := P_sub hP [0] rfl
  refine zcallMv (w := wXo g x sh co vo re tr ft) (va_runV (As := [.int (nI 5)]) (rest := []) (b := x) S0 (c_X4_leave l g x sh co vo re tr ft 5) (cwV 1 hts gX4_sealAsDrawn_X4_leave rfl rfl rfl (by decide +kernel) ⟨by decide, by decide⟩) (zpreVM hK hP hD [0] rfl (by decide) (va_recv hK.1 hPc (ci := 4) (q0 := 0) rfl rfl)) rfl rfl hl.1 rfl (lv_room (Nat.le_of_ble_eq_true rfl)) dX4_sealAsDrawn_2 ⟨by decide, by decide⟩) hP hD hS [0] rfl (fun uu2 => wXo g x sh co vo re (lv tr 5) ft) (fun _ => lz_wXo.trans lz_wXo.symm) (fun _ => rfl) (fun _ => ad_wXo.trans ad_wXo.symm) (fun uu2 H locs h2 hP hD hS => ?_)
  refine lv_bipush (v := (nI 70)) hx hb dX4_sealAsDrawn_5 (by decide) ?_
  exact zretMI (w1 := fun (uu : Unit) => wXo g x sh co vo re (lv tr 5) ft) () hx hb hr hlocks hS rfl rfl hP dX4_sealAsDrawn_7

set_option maxHeartbeats 4000000 in
set_option maxRecDepth 100000 in
theorem c_X4_tell (l : Launch) (g : Gx) (x : Nat) (sh : Nat) (co : Nat) (ck : Nat) (ch : Nat) (cl : Nat) (vo : Nat) (vpa : Nat) (vma : Nat) (re : Nat) (rua : Nat) (rla : Nat) (rma : Nat) (rda : Nat) (sad : Nat → Nat) (cad : Nat → Nat) (tr : Int32) (ft : Nat) (np : Nat) (sl : Nat) (kd : Nat → Nat) (hg : Nat → Nat) (lk : Nat → Nat) (vn : Nat) (vp : Nat → Int32) (vm : Nat → Int32) (nr : Nat) (ru : Nat → Nat) (rl : Nat → Nat) (rm : Nat → Nat) (rd : Nat → Nat) (lane : Nat → Nat) (ml : Nat → Nat) (cel : Nat → Nat → Int32) (p : Int32) (hG : Gd np sl kd hg nr ru rl rm rd lane ml) : Met l yX4_tell wsX4_tell ({ frames := 5, cells := 0, slots := 0, locals := 109 } : Room) (PcM g [.ref x, .int p] (wX g x sh co ck ch cl vo vpa vma re rua rla rma rda sad cad tr ft np sl kd hg lk vn vp vm nr ru rl rm rd lane ml cel)) (va_Qi (fun (r : Int32) (uu : Unit) => r = sp_tell np kd hg p) (fun (uu : Unit) t => PP g (wX g x sh co ck ch cl vo vpa vma re rua rla rma rda sad cad (st_tell np kd tr p) ft np sl kd hg lk vn vp vm nr ru rl rm rd lane ml cel) t.heap) (inW (wX g x sh co ck ch cl vo vpa vma re rua rla rma rda sad cad tr ft np sl kd hg lk vn vp vm nr ru rl rm rd lane ml cel))) 0 0 (inW (wX g x sh co ck ch cl vo vpa vma re rua rla rma rda sad cad tr ft np sl kd hg lk vn vp vm nr ru rl rm rd lane ml cel)) := by
  refine zenterM (cc := cX4_tell) (maxL := 2) (ret := (some .int)) (by decide) rfl (Nat.le_of_ble_eq_true rfl) ?_
  intro P E s mt below meth cd ls hx hb hml hown hts hr hlocks hP hK hD hS hl
  skip
  have hl : lv_has ls 2 [(0, .ref x), (1, .int p)] := hl
  have S0 : CallFix P mt cd cX4_tell 2 s [.ref x, .int p].toArray wsX4_tell RX4 := ⟨hx, hb, hml, hown, hts⟩
  obtain ⟨hnp, hsl, hkd, hhg, hnr, hru, hrl, hrm, hrd, hla, hmz⟩ := hG
  refine lv_aload_n hx hb dX4_tell_0 rfl (lv_at hl 0 rfl) ?_
  refine va_get (D := g.1) (ci := 4) (v := .ref co) (C := RX4) (T := TX4) (N := 6) hx hb hts (fun _ h => (List.mem_cons_of_mem _ (List.mem_append_left _ (List.mem_append_right _ h)))) hown hK.1 hP 0 rfl rfl 1 (by decide) (hts _ (List.mem_of_getElem? (i := 1) rfl)) (fun _ h9 => h9) rfl dX4_tell_1 ?_
  refine lv_iload_n hx hb dX4_tell_4 rfl (lv_at hl 1 rfl) ?_
  have hPc : PP g (wC g co ck ch cl np sl kd hg lk) _ := (P_sub (w := wC g co ck ch cl np sl kd hg lk) hP [2, 3, 4, 5] rfl)
  refine zcallR (va_runV (As := [.int p]) (rest := []) (b := co) S0 (c_X0_hasPass l g co ck ch cl np sl kd hg lk p hnp) (cwV 1 hts gX4_tell_X0_hasPass rfl rfl rfl (by decide +kernel) ⟨by decide, by decide⟩) (zpreV hK hPc (va_recv hK.1 hPc (ci := 0) (q0 := 0) rfl rfl)) rfl rfl hl.1 rfl (lv_room (Nat.le_of_ble_eq_true rfl)) dX4_tell_5 ⟨by decide, by decide⟩) (fun r5 h5 => ?_)
  rcases h5 with ⟨w_5, hw_5, hv_5, rfl⟩ | ⟨hn_5, rfl⟩
  · subst hv_5
    refine lv_if_ne (tgt := 13) hx hb dX4_tell_8 (by decide) (fun c8 => ?_) (fun c8 => ?_)
    rotate_left
    · exact absurd c8 (by decide)
    refine lv_aload_n hx hb dX4_tell_13 rfl (lv_at hl 0 rfl) ?_
    refine va_get (D := g.1) (ci := 4) (v := .ref co) (C := RX4) (T := TX4) (N := 6) hx hb hts (fun _ h => (List.mem_cons_of_mem _ (List.mem_append_left _ (List.mem_append_right _ h)))) hown hK.1 hP 0 rfl rfl 1 (by decide) (hts _ (List.mem_of_getElem? (i := 1) rfl)) (fun _ h9 => h9) rfl dX4_tell_14 ?_
    refine lv_iload_n hx hb dX4_tell_17 rfl (lv_at hl 1 rfl) ?_
    have hPc : PP g (wC g co ck ch cl np sl kd hg lk) _ := (P_sub (w := wC g co ck ch cl np sl kd hg lk) hP [2, 3, 4, 5] rfl)
    refine zcallR (va_runV (As := [.int (nI w_5)]) (rest := []) (b := co) S0 (c_X0_kindOf l g co ck ch cl np sl kd hg lk w_5 hnp (by omega)) (cwV 1 hts gX4_tell_X0_kindOf rfl rfl rfl (by decide +kernel) ⟨by decide, by decide⟩) (zpreV hK hPc (va_recv hK.1 hPc (ci := 0) (q0 := 0) rfl rfl)) rfl rfl hl.1 rfl (lv_room (Nat.le_of_ble_eq_true rfl)) dX4_tell_18 ⟨by decide, by decide⟩) (fun r18 h18 => ?_)
    subst h18
    have hk5 := hkd w_5
    by_cases c21_1 : (kd w_5) = 1
    · refine ztopI (nI 1) (by rw [c21_1]) ?_
      refine lv_lookup (off := 33) (tgt := 54) hx hb dX4_tell_21 (by decide) (by decide) (by decide) ?_
      refine lv_aload_n hx hb dX4_tell_54 rfl (lv_at hl 0 rfl) ?_
      refine lv_iload_n hx hb dX4_tell_55 rfl (lv_at hl 1 rfl) ?_
      have hPc : PP g (wXC g x sh co vo re ck ch cl tr ft np sl kd hg lk) _ := P_sub hP [0, 2, 3, 4, 5] rfl
      refine zcallM (w := wXC g x sh co vo re ck ch cl tr ft np sl kd hg lk) (va_runV (As := [.int (nI w_5)]) (rest := []) (b := x) S0 (c_X4_tellAsLent l g x sh co vo re ck ch cl tr ft np sl kd hg lk w_5 hnp hhg (by omega)) (cwV 1 hts gX4_tell_X4_tellAsLent rfl rfl rfl (by decide +kernel) ⟨by decide, by decide⟩) (zpreVM hK hP hD [0, 2, 3, 4, 5] rfl (by decide) (va_recv hK.1 hPc (ci := 4) (q0 := 0) rfl rfl)) rfl rfl hl.1 rfl (lv_room (Nat.le_of_ble_eq_true rfl)) dX4_tell_56 ⟨by decide, by decide⟩) hP hD hS [0, 2, 3, 4, 5] rfl (fun uu56 => wX g x sh co ck ch cl vo vpa vma re rua rla rma rda sad cad (lv (lv tr 2) 1) ft np sl kd hg lk vn vp vm nr ru rl rm rd lane ml cel) (fun _ => lz_wXC.trans lz_wXC.symm) (fun _ => rfl) (fun _ => ad_wX.trans ad_wX.symm) (fun r56 uu56 H locs h56 hP hD hS => ?_)
      subst h56
      have f1 := hsum_le hhg w_5
      exact zretMI (w1 := fun (uu : Unit) => wX g x sh co ck ch cl vo vpa vma re rua rla rma rda sad cad (st_tell np kd tr (nI w_5)) ft np sl kd hg lk vn vp vm nr ru rl rm rd lane ml cel) () hx hb hr hlocks hS rfl (by rw [sp_tell, if_pos (isP_of (by omega) hw_5), tN_nI (u := w_5) (by omega), if_neg (by omega), if_pos c21_1]) (by rw [st_tell, if_pos (isP_of (by omega) hw_5), tN_nI (u := w_5) (by omega), if_neg (by omega), if_pos c21_1]; exact hP) dX4_tell_59
    by_cases c21_2 : (kd w_5) = 2
    · refine ztopI (nI 2) (by rw [c21_2]) ?_
      refine lv_lookup (off := 27) (tgt := 48) hx hb dX4_tell_21 (by decide) (by decide) (by decide) ?_
      refine lv_aload_n hx hb dX4_tell_48 rfl (lv_at hl 0 rfl) ?_
      refine lv_iload_n hx hb dX4_tell_49 rfl (lv_at hl 1 rfl) ?_
      have hPc : PP g (wXC g x sh co vo re ck ch cl tr ft np sl kd hg lk) _ := P_sub hP [0, 2, 3, 4, 5] rfl
      refine zcallM (w := wXC g x sh co vo re ck ch cl tr ft np sl kd hg lk) (va_runV (As := [.int (nI w_5)]) (rest := []) (b := x) S0 (c_X4_tellAsDrawn l g x sh co vo re ck ch cl tr ft np sl kd hg lk w_5 hnp hhg (by omega)) (cwV 1 hts gX4_tell_X4_tellAsDrawn rfl rfl rfl (by decide +kernel) ⟨by decide, by decide⟩) (zpreVM hK hP hD [0, 2, 3, 4, 5] rfl (by decide) (va_recv hK.1 hPc (ci := 4) (q0 := 0) rfl rfl)) rfl rfl hl.1 rfl (lv_room (Nat.le_of_ble_eq_true rfl)) dX4_tell_50 ⟨by decide, by decide⟩) hP hD hS [0, 2, 3, 4, 5] rfl (fun uu50 => wX g x sh co ck ch cl vo vpa vma re rua rla rma rda sad cad (lv (lv (lv (lv tr 3) 2) 1) 1) ft np sl kd hg lk vn vp vm nr ru rl rm rd lane ml cel) (fun _ => lz_wXC.trans lz_wXC.symm) (fun _ => rfl) (fun _ => ad_wX.trans ad_wX.symm) (fun r50 uu50 H locs h50 hP hD hS => ?_)
      subst h50
      have f2 := hsum_le hhg w_5
      exact zretMI (w1 := fun (uu : Unit) => wX g x sh co ck ch cl vo vpa vma re rua rla rma rda sad cad (st_tell np kd tr (nI w_5)) ft np sl kd hg lk vn vp vm nr ru rl rm rd lane ml cel) () hx hb hr hlocks hS rfl (by rw [sp_tell, if_pos (isP_of (by omega) hw_5), tN_nI (u := w_5) (by omega), if_pos c21_2]) (by rw [st_tell, if_pos (isP_of (by omega) hw_5), tN_nI (u := w_5) (by omega), if_pos c21_2]; exact hP) dX4_tell_53
    refine lv_lookup (off := 39) (tgt := 60) hx hb dX4_tell_21 (by decide) (by rw [lv_osw (k := nI 1) (nI_neI (by omega) (by decide) c21_1) (by decide)]; rw [lv_osw (k := nI 2) (nI_neI (by omega) (by decide) c21_2) (by decide)]; rfl) (by decide) ?_
    refine lv_aload_n hx hb dX4_tell_60 rfl (lv_at hl 0 rfl) ?_
    refine lv_iload_n hx hb dX4_tell_61 rfl (lv_at hl 1 rfl) ?_
    have hPc : PP g (wXC g x sh co vo re ck ch cl tr ft np sl kd hg lk) _ := P_sub hP [0, 2, 3, 4, 5] rfl
    refine zcallM (w := wXC g x sh co vo re ck ch cl tr ft np sl kd hg lk) (va_runV (As := [.int (nI w_5)]) (rest := []) (b := x) S0 (c_X4_tellAsPass l g x sh co vo re ck ch cl tr ft np sl kd hg lk w_5 hnp hhg (by omega)) (cwV 1 hts gX4_tell_X4_tellAsPass rfl rfl rfl (by decide +kernel) ⟨by decide, by decide⟩) (zpreVM hK hP hD [0, 2, 3, 4, 5] rfl (by decide) (va_recv hK.1 hPc (ci := 4) (q0 := 0) rfl rfl)) rfl rfl hl.1 rfl (lv_room (Nat.le_of_ble_eq_true rfl)) dX4_tell_62 ⟨by decide, by decide⟩) hP hD hS [0, 2, 3, 4, 5] rfl (fun uu62 => wX g x sh co ck ch cl vo vpa vma re rua rla rma rda sad cad (lv tr 1) ft np sl kd hg lk vn vp vm nr ru rl rm rd lane ml cel) (fun _ => lz_wXC.trans lz_wXC.symm) (fun _ => rfl) (fun _ => ad_wX.trans ad_wX.symm) (fun r62 uu62 H locs h62 hP hD hS => ?_)
    subst h62
    have f3 := hsum_le hhg w_5
    exact zretMI (w1 := fun (uu : Unit) => wX g x sh co ck ch cl vo vpa vma re rua rla rma rda sad cad (st_tell np kd tr (nI w_5)) ft np sl kd hg lk vn vp vm nr ru rl rm rd lane ml cel) () hx hb hr hlocks hS rfl (by rw [sp_tell, if_pos (isP_of (by omega) hw_5), tN_nI (u := w_5) (by omega), if_neg c21_2, if_neg c21_1]) (by rw [st_tell, if_pos (isP_of (by omega) hw_5), tN_nI (u := w_5) (by omega), if_neg c21_2, if_neg c21_1]; exact hP) dX4_tell_65
  · refine lv_if_ne (tgt := 13) hx hb dX4_tell_8 (by decide) (fun c8 => ?_) (fun c8 => ?_)
    · exact absurd c8 (by decide)
    refine lv_iconst (v := (-1)) hx hb dX4_tell_11 (by decide) ?_
    exact zretMI (w1 := fun (uu : Unit) => wX g x sh co ck ch cl vo vpa vma re rua rla rma rda sad cad (st_tell np kd tr p) ft np sl kd hg lk vn vp vm nr ru rl rm rd lane ml cel) () hx hb hr hlocks hS rfl (by rw [sp_tell, if_neg hn_5]) (by rw [st_tell, if_neg hn_5]; exact hP) dX4_tell_12

set_option maxHeartbeats 4000000 in
set_option maxRecDepth 100000 in
theorem c_X4_seal (l : Launch) (g : Gx) (x : Nat) (sh : Nat) (co : Nat) (ck : Nat) (ch : Nat) (cl : Nat) (vo : Nat) (vpa : Nat) (vma : Nat) (re : Nat) (rua : Nat) (rla : Nat) (rma : Nat) (rda : Nat) (sad : Nat → Nat) (cad : Nat → Nat) (tr : Int32) (ft : Nat) (np : Nat) (sl : Nat) (kd : Nat → Nat) (hg : Nat → Nat) (lk : Nat → Nat) (vn : Nat) (vp : Nat → Int32) (vm : Nat → Int32) (nr : Nat) (ru : Nat → Nat) (rl : Nat → Nat) (rm : Nat → Nat) (rd : Nat → Nat) (lane : Nat → Nat) (ml : Nat → Nat) (cel : Nat → Nat → Int32) (p : Int32) (hG : Gd np sl kd hg nr ru rl rm rd lane ml) : Met l yX4_seal wsX4_seal ({ frames := 2, cells := 0, slots := 0, locals := 42 } : Room) (PcM g [.ref x, .int p] (wX g x sh co ck ch cl vo vpa vma re rua rla rma rda sad cad tr ft np sl kd hg lk vn vp vm nr ru rl rm rd lane ml cel)) (va_Qi (fun (r : Int32) (uu : Unit) => r = sp_seal np kd p) (fun (uu : Unit) t => PP g (wX g x sh co ck ch cl vo vpa vma re rua rla rma rda sad cad (st_seal np kd tr p) ft np sl kd hg lk vn vp vm nr ru rl rm rd lane ml cel) t.heap) (inW (wX g x sh co ck ch cl vo vpa vma re rua rla rma rda sad cad tr ft np sl kd hg lk vn vp vm nr ru rl rm rd lane ml cel))) 0 0 (inW (wX g x sh co ck ch cl vo vpa vma re rua rla rma rda sad cad tr ft np sl kd hg lk vn vp vm nr ru rl rm rd lane ml cel)) := by
  refine zenterM (cc := cX4_seal) (maxL := 2) (ret := (some .int)) (by decide) rfl (Nat.le_of_ble_eq_true rfl) ?_
  intro P E s mt below meth cd ls hx hb hml hown hts hr hlocks hP hK hD hS hl
  skip
  have hl : lv_has ls 2 [(0, .ref x), (1, .int p)] := hl
  have S0 : CallFix P mt cd cX4_seal 2 s [.ref x, .int p].toArray wsX4_seal RX4 := ⟨hx, hb, hml, hown, hts⟩
  obtain ⟨hnp, hsl, hkd, hhg, hnr, hru, hrl, hrm, hrd, hla, hmz⟩ := hG
  refine lv_aload_n hx hb dX4_seal_0 rfl (lv_at hl 0 rfl) ?_
  refine va_get (D := g.1) (ci := 4) (v := .ref co) (C := RX4) (T := TX4) (N := 6) hx hb hts (fun _ h => (List.mem_cons_of_mem _ (List.mem_append_left _ (List.mem_append_right _ h)))) hown hK.1 hP 0 rfl rfl 1 (by decide) (hts _ (List.mem_of_getElem? (i := 1) rfl)) (fun _ h9 => h9) rfl dX4_seal_1 ?_
  refine lv_iload_n hx hb dX4_seal_4 rfl (lv_at hl 1 rfl) ?_
  have hPc : PP g (wC g co ck ch cl np sl kd hg lk) _ := (P_sub (w := wC g co ck ch cl np sl kd hg lk) hP [2, 3, 4, 5] rfl)
  refine zcallR (va_runV (As := [.int p]) (rest := []) (b := co) S0 (c_X0_hasPass l g co ck ch cl np sl kd hg lk p hnp) (cwV 1 hts gX4_seal_X0_hasPass rfl rfl rfl (by decide +kernel) ⟨by decide, by decide⟩) (zpreV hK hPc (va_recv hK.1 hPc (ci := 0) (q0 := 0) rfl rfl)) rfl rfl hl.1 rfl (lv_room (Nat.le_of_ble_eq_true rfl)) dX4_seal_5 ⟨by decide, by decide⟩) (fun r5 h5 => ?_)
  rcases h5 with ⟨w_5, hw_5, hv_5, rfl⟩ | ⟨hn_5, rfl⟩
  · subst hv_5
    refine lv_if_ne (tgt := 13) hx hb dX4_seal_8 (by decide) (fun c8 => ?_) (fun c8 => ?_)
    rotate_left
    · exact absurd c8 (by decide)
    refine lv_aload_n hx hb dX4_seal_13 rfl (lv_at hl 0 rfl) ?_
    refine va_get (D := g.1) (ci := 4) (v := .ref co) (C := RX4) (T := TX4) (N := 6) hx hb hts (fun _ h => (List.mem_cons_of_mem _ (List.mem_append_left _ (List.mem_append_right _ h)))) hown hK.1 hP 0 rfl rfl 1 (by decide) (hts _ (List.mem_of_getElem? (i := 1) rfl)) (fun _ h9 => h9) rfl dX4_seal_14 ?_
    refine lv_iload_n hx hb dX4_seal_17 rfl (lv_at hl 1 rfl) ?_
    have hPc : PP g (wC g co ck ch cl np sl kd hg lk) _ := (P_sub (w := wC g co ck ch cl np sl kd hg lk) hP [2, 3, 4, 5] rfl)
    refine zcallR (va_runV (As := [.int (nI w_5)]) (rest := []) (b := co) S0 (c_X0_kindOf l g co ck ch cl np sl kd hg lk w_5 hnp (by omega)) (cwV 1 hts gX4_seal_X0_kindOf rfl rfl rfl (by decide +kernel) ⟨by decide, by decide⟩) (zpreV hK hPc (va_recv hK.1 hPc (ci := 0) (q0 := 0) rfl rfl)) rfl rfl hl.1 rfl (lv_room (Nat.le_of_ble_eq_true rfl)) dX4_seal_18 ⟨by decide, by decide⟩) (fun r18 h18 => ?_)
    subst h18
    have hk5 := hkd w_5
    refine lv_iconst (v := (nI 2)) hx hb dX4_seal_21 (by decide) ?_
    refine n_icmp_ne (a := (kd w_5)) (b := 2) (tgt := 32) hx hb (by omega) (by omega) dX4_seal_22 (by decide) (fun c22 => ?_) (fun c22 => ?_)
    · refine lv_aload_n hx hb dX4_seal_32 rfl (lv_at hl 0 rfl) ?_
      refine lv_iload_n hx hb dX4_seal_33 rfl (lv_at hl 1 rfl) ?_
      have hPc : PP g (wXo g x sh co vo re tr ft) _ := P_sub hP [0] rfl
      refine zcallM (w := wXo g x sh co vo re tr ft) (va_runV (As := [.int (nI w_5)]) (rest := []) (b := x) S0 (c_X4_sealAsAny l g x sh co vo re tr ft (nI w_5)) (cwV 1 hts gX4_seal_X4_sealAsAny rfl rfl rfl (by decide +kernel) ⟨by decide, by decide⟩) (zpreVM hK hP hD [0] rfl (by decide) (va_recv hK.1 hPc (ci := 4) (q0 := 0) rfl rfl)) rfl rfl hl.1 rfl (lv_room (Nat.le_of_ble_eq_true rfl)) dX4_seal_34 ⟨by decide, by decide⟩) hP hD hS [0] rfl (fun uu34 => wX g x sh co ck ch cl vo vpa vma re rua rla rma rda sad cad (lv tr 4) ft np sl kd hg lk vn vp vm nr ru rl rm rd lane ml cel) (fun _ => lz_wXo.trans lz_wXo.symm) (fun _ => rfl) (fun _ => ad_wX.trans ad_wX.symm) (fun r34 uu34 H locs h34 hP hD hS => ?_)
      subst h34
      exact zretMI (w1 := fun (uu : Unit) => wX g x sh co ck ch cl vo vpa vma re rua rla rma rda sad cad (st_seal np kd tr (nI w_5)) ft np sl kd hg lk vn vp vm nr ru rl rm rd lane ml cel) () hx hb hr hlocks hS rfl (by rw [sp_seal, if_pos (isP_of (by omega) hw_5), tN_nI (u := w_5) (by omega), if_neg c22]) (by rw [st_seal, if_pos (isP_of (by omega) hw_5), tN_nI (u := w_5) (by omega), if_neg c22]; exact hP) dX4_seal_37
    · refine lv_aload_n hx hb dX4_seal_25 rfl (lv_at hl 0 rfl) ?_
      have hPc : PP g (wXo g x sh co vo re tr ft) _ := P_sub hP [0] rfl
      refine zcallM (w := wXo g x sh co vo re tr ft) (va_runV (As := []) (rest := []) (b := x) S0 (c_X4_sealAsDrawn l g x sh co vo re tr ft) (cwV 0 hts gX4_seal_X4_sealAsDrawn rfl rfl rfl (by decide +kernel) ⟨by decide, by decide⟩) (zpreVM hK hP hD [0] rfl (by decide) (va_recv hK.1 hPc (ci := 4) (q0 := 0) rfl rfl)) rfl rfl hl.1 rfl (lv_room (Nat.le_of_ble_eq_true rfl)) dX4_seal_26 ⟨by decide, by decide⟩) hP hD hS [0] rfl (fun uu26 => wX g x sh co ck ch cl vo vpa vma re rua rla rma rda sad cad (lv tr 5) ft np sl kd hg lk vn vp vm nr ru rl rm rd lane ml cel) (fun _ => lz_wXo.trans lz_wXo.symm) (fun _ => rfl) (fun _ => ad_wX.trans ad_wX.symm) (fun r26 uu26 H locs h26 hP hD hS => ?_)
      subst h26
      refine lv_goto (tgt := 37) hx hb dX4_seal_29 (by decide) ?_
      exact zretMI (w1 := fun (uu : Unit) => wX g x sh co ck ch cl vo vpa vma re rua rla rma rda sad cad (st_seal np kd tr (nI w_5)) ft np sl kd hg lk vn vp vm nr ru rl rm rd lane ml cel) () hx hb hr hlocks hS rfl (by rw [sp_seal, if_pos (isP_of (by omega) hw_5), tN_nI (u := w_5) (by omega), if_pos c22]) (by rw [st_seal, if_pos (isP_of (by omega) hw_5), tN_nI (u := w_5) (by omega), if_pos c22]; exact hP) dX4_seal_37
  · refine lv_if_ne (tgt := 13) hx hb dX4_seal_8 (by decide) (fun c8 => ?_) (fun c8 => ?_)
    · exact absurd c8 (by decide)
    refine lv_iconst (v := (-1)) hx hb dX4_seal_11 (by decide) ?_
    exact zretMI (w1 := fun (uu : Unit) => wX g x sh co ck ch cl vo vpa vma re rua rla rma rda sad cad (st_seal np kd tr p) ft np sl kd hg lk vn vp vm nr ru rl rm rd lane ml cel) () hx hb hr hlocks hS rfl (by rw [sp_seal, if_neg hn_5]) (by rw [st_seal, if_neg hn_5]; exact hP) dX4_seal_12

set_option maxHeartbeats 4000000 in
set_option maxRecDepth 100000 in
theorem c_X4_as (l : Launch) (g : Gx) (x : Nat) (sh : Nat) (co : Nat) (ck : Nat) (ch : Nat) (cl : Nat) (vo : Nat) (vpa : Nat) (vma : Nat) (re : Nat) (rua : Nat) (rla : Nat) (rma : Nat) (rda : Nat) (sad : Nat → Nat) (cad : Nat → Nat) (tr : Int32) (ft : Nat) (np : Nat) (sl : Nat) (kd : Nat → Nat) (hg : Nat → Nat) (lk : Nat → Nat) (vn : Nat) (vp : Nat → Int32) (vm : Nat → Int32) (nr : Nat) (ru : Nat → Nat) (rl : Nat → Nat) (rm : Nat → Nat) (rd : Nat → Nat) (lane : Nat → Nat) (ml : Nat → Nat) (cel : Nat → Nat → Int32) (p : Int32) (k : Int32) (hG : Gd np sl kd hg nr ru rl rm rd lane ml) : Met l yX4_as wsX4_as ({ frames := 2, cells := 0, slots := 0, locals := 42 } : Room) (PcM g [.ref x, .int p, .int k] (wX g x sh co ck ch cl vo vpa vma re rua rla rma rda sad cad tr ft np sl kd hg lk vn vp vm nr ru rl rm rd lane ml cel)) (va_Qi (fun (r : Int32) (uu : Unit) => r = sp_as np kd p k) (fun (uu : Unit) t => PP g (wX g x sh co ck ch cl vo vpa vma re rua rla rma rda sad cad tr (ft_as np kd p k) np sl kd hg lk vn vp vm nr ru rl rm rd lane ml cel) t.heap) (inW (wX g x sh co ck ch cl vo vpa vma re rua rla rma rda sad cad tr ft np sl kd hg lk vn vp vm nr ru rl rm rd lane ml cel))) 0 0 (inW (wX g x sh co ck ch cl vo vpa vma re rua rla rma rda sad cad tr ft np sl kd hg lk vn vp vm nr ru rl rm rd lane ml cel)) := by
  refine zenterM (cc := cX4_as) (maxL := 3) (ret := (some .int)) (by decide) rfl (Nat.le_of_ble_eq_true rfl) ?_
  intro P E s mt below meth cd ls hx hb hml hown hts hr hlocks hP hK hD hS hl
  skip
  have hl : lv_has ls 3 [(0, .ref x), (1, .int p), (2, .int k)] := hl
  have S0 : CallFix P mt cd cX4_as 3 s [.ref x, .int p, .int k].toArray wsX4_as RX4 := ⟨hx, hb, hml, hown, hts⟩
  obtain ⟨hnp, hsl, hkd, hhg, hnr, hru, hrl, hrm, hrd, hla, hmz⟩ := hG
  refine lv_aload_n hx hb dX4_as_0 rfl (lv_at hl 0 rfl) ?_
  refine lv_iconst (v := (nI 0)) hx hb dX4_as_1 (by decide) ?_
  refine n_put (D := g.1) (ci := 4) (v := .int (nI 0)) (ty := .int) (C := RX4) (T := TX4) (N := 6) (ws1 := wX g x sh co ck ch cl vo vpa vma re rua rla rma rda sad cad tr 0 np sl kd hg lk vn vp vm nr ru rl rm rd lane ml cel) hx hb hts (fun _ h => (List.mem_cons_of_mem _ (List.mem_append_left _ (List.mem_append_right _ h)))) tyX4 tyX4_ok nmX4 hown hK.1 hP hD hS 0 rfl rfl 5 (by decide) (hts _ (List.mem_of_getElem? (i := 1) rfl)) (fun _ h9 => h9) rfl (by decide +kernel) rfl rfl (Nat.le_of_ble_eq_true rfl) rfl dX4_as_2 (fun H locs hP hD hS => ?_)
  refine lv_aload_n hx hb dX4_as_5 rfl (lv_at hl 0 rfl) ?_
  refine va_get (D := g.1) (ci := 4) (v := .ref co) (C := RX4) (T := TX4) (N := 6) hx hb hts (fun _ h => (List.mem_cons_of_mem _ (List.mem_append_left _ (List.mem_append_right _ h)))) hown hK.1 hP 0 rfl rfl 1 (by decide) (hts _ (List.mem_of_getElem? (i := 2) rfl)) (fun _ h9 => h9) rfl dX4_as_6 ?_
  refine lv_iload_n hx hb dX4_as_9 rfl (lv_at hl 1 rfl) ?_
  have hPc : PP g (wC g co ck ch cl np sl kd hg lk) _ := (P_sub (w := wC g co ck ch cl np sl kd hg lk) hP [2, 3, 4, 5] rfl)
  refine zcallR (va_runV (As := [.int p]) (rest := []) (b := co) S0 (c_X0_hasPass l g co ck ch cl np sl kd hg lk p hnp) (cwV 1 hts gX4_as_X0_hasPass rfl rfl rfl (by decide +kernel) ⟨by decide, by decide⟩) (zpreV hK hPc (va_recv hK.1 hPc (ci := 0) (q0 := 0) rfl rfl)) rfl rfl hl.1 rfl (lv_room (Nat.le_of_ble_eq_true rfl)) dX4_as_10 ⟨by decide, by decide⟩) (fun r10 h10 => ?_)
  rcases h10 with ⟨w_10, hw_10, hv_10, rfl⟩ | ⟨hn_10, rfl⟩
  · subst hv_10
    refine lv_if_ne (tgt := 18) hx hb dX4_as_13 (by decide) (fun c13 => ?_) (fun c13 => ?_)
    rotate_left
    · exact absurd c13 (by decide)
    refine lv_iload_n hx hb dX4_as_18 rfl (lv_at hl 2 rfl) ?_
    refine lv_iconst (v := (nI 0)) hx hb dX4_as_19 (by decide) ?_
    refine lv_iconst (v := (nI 2)) hx hb dX4_as_20 (by decide) ?_
    refine zcallR (va_runS (As := [.int k, .int (nI 0), .int (nI 2)]) (rest := []) S0 (c_X4_within_r0 l g k 2 (by omega)) (va_cwS 3 hts gX4_as_X4_within rfl rfl rfl (by decide +kernel) ⟨by decide, by decide⟩) (zpreS hK (P_nil _)) rfl rfl hl.1 rfl (lv_room (Nat.le_of_ble_eq_true rfl)) dX4_as_21 ⟨by decide, by decide⟩) (fun r21 h21 => ?_)
    rcases h21 with ⟨w_21, hw_21, hv_21, rfl⟩ | ⟨hn_21, rfl⟩
    · subst hv_21
      refine lv_if_ne (tgt := 30) hx hb dX4_as_24 (by decide) (fun c24 => ?_) (fun c24 => ?_)
      rotate_left
      · exact absurd c24 (by decide)
      refine lv_iload_n hx hb dX4_as_30 rfl (lv_at hl 2 rfl) ?_
      refine lv_aload_n hx hb dX4_as_31 rfl (lv_at hl 0 rfl) ?_
      refine va_get (D := g.1) (ci := 4) (v := .ref co) (C := RX4) (T := TX4) (N := 6) hx hb hts (fun _ h => (List.mem_cons_of_mem _ (List.mem_append_left _ (List.mem_append_right _ h)))) hown hK.1 hP 0 rfl rfl 1 (by decide) (hts _ (List.mem_of_getElem? (i := 2) rfl)) (fun _ h9 => h9) rfl dX4_as_32 ?_
      refine lv_iload_n hx hb dX4_as_35 rfl (lv_at hl 1 rfl) ?_
      have hPc : PP g (wC g co ck ch cl np sl kd hg lk) _ := (P_sub (w := wC g co ck ch cl np sl kd hg lk) hP [2, 3, 4, 5] rfl)
      refine zcallR (va_runV (As := [.int (nI w_10)]) (rest := [.int (nI w_21)]) (b := co) S0 (c_X0_kindOf l g co ck ch cl np sl kd hg lk w_10 hnp (by omega)) (cwV 1 hts gX4_as_X0_kindOf rfl rfl rfl (by decide +kernel) ⟨by decide, by decide⟩) (zpreV hK hPc (va_recv hK.1 hPc (ci := 0) (q0 := 0) rfl rfl)) rfl rfl hl.1 rfl (lv_room (Nat.le_of_ble_eq_true rfl)) dX4_as_36 ⟨by decide, by decide⟩) (fun r36 h36 => ?_)
      subst h36
      have hk5 := hkd w_10
      refine n_icmp_gt (a := w_21) (b := (kd w_10)) (tgt := 46) hx hb (by omega) (by omega) dX4_as_39 (by decide) (fun c39 => ?_) (fun c39 => ?_)
      · refine lv_aload_n hx hb dX4_as_46 rfl (lv_at hl 0 rfl) ?_
        refine lv_iconst (v := (nI 2)) hx hb dX4_as_47 (by decide) ?_
        have hPc : PP g (wXo g x sh co vo re tr 0) _ := P_sub hP [0] rfl
        refine zcallM (w := wXo g x sh co vo re tr 0) (va_runV (As := [.int (nI 2)]) (rest := []) (b := x) S0 (c_X4_failBy l g x sh co vo re tr 0 2) (cwV 1 hts gX4_as_X4_failBy rfl rfl rfl (by decide +kernel) ⟨by decide, by decide⟩) (zpreVM hK hP hD [0] rfl (by decide) (va_recv hK.1 hPc (ci := 4) (q0 := 0) rfl rfl)) rfl rfl hl.1 rfl (lv_room (Nat.le_of_ble_eq_true rfl)) dX4_as_48 ⟨by decide, by decide⟩) hP hD hS [0] rfl (fun uu48 => wX g x sh co ck ch cl vo vpa vma re rua rla rma rda sad cad tr 2 np sl kd hg lk vn vp vm nr ru rl rm rd lane ml cel) (fun _ => lz_wXo.trans lz_wXo.symm) (fun _ => rfl) (fun _ => ad_wX.trans ad_wX.symm) (fun r48 uu48 H locs h48 hP hD hS => ?_)
        subst h48
        exact zretMI (w1 := fun (uu : Unit) => wX g x sh co ck ch cl vo vpa vma re rua rla rma rda sad cad tr (ft_as np kd (nI w_10) (nI w_21)) np sl kd hg lk vn vp vm nr ru rl rm rd lane ml cel) () hx hb hr hlocks hS rfl (by rw [sp_as, if_pos (isP_of (by omega) hw_10), if_pos (isP_of (by omega) hw_21), tN_nI (u := w_10) (by omega), tN_nI (u := w_21) (by omega), if_neg (by omega)]) (by rw [ft_as, if_pos (isP_of (by omega) hw_10), if_pos (isP_of (by omega) hw_21), tN_nI (u := w_10) (by omega), tN_nI (u := w_21) (by omega), if_neg (by omega)]; exact hP) dX4_as_51
      · refine lv_iconst (v := (nI 1)) hx hb dX4_as_42 (by decide) ?_
        refine lv_goto (tgt := 51) hx hb dX4_as_43 (by decide) ?_
        exact zretMI (w1 := fun (uu : Unit) => wX g x sh co ck ch cl vo vpa vma re rua rla rma rda sad cad tr (ft_as np kd (nI w_10) (nI w_21)) np sl kd hg lk vn vp vm nr ru rl rm rd lane ml cel) () hx hb hr hlocks hS rfl (by rw [sp_as, if_pos (isP_of (by omega) hw_10), if_pos (isP_of (by omega) hw_21), tN_nI (u := w_10) (by omega), tN_nI (u := w_21) (by omega), if_pos c39]) (by rw [ft_as, if_pos (isP_of (by omega) hw_10), if_pos (isP_of (by omega) hw_21), tN_nI (u := w_10) (by omega), tN_nI (u := w_21) (by omega), if_pos c39]; exact hP) dX4_as_51
    · refine lv_if_ne (tgt := 30) hx hb dX4_as_24 (by decide) (fun c24 => ?_) (fun c24 => ?_)
      · exact absurd c24 (by decide)
      refine lv_bipush (v := (-2)) hx hb dX4_as_27 (by decide) ?_
      exact zretMI (w1 := fun (uu : Unit) => wX g x sh co ck ch cl vo vpa vma re rua rla rma rda sad cad tr (ft_as np kd (nI w_10) k) np sl kd hg lk vn vp vm nr ru rl rm rd lane ml cel) () hx hb hr hlocks hS rfl (by rw [sp_as, if_pos (isP_of (by omega) hw_10), if_neg hn_21]) (by rw [ft_as, if_pos (isP_of (by omega) hw_10), if_neg hn_21]; exact hP) dX4_as_29
  · refine lv_if_ne (tgt := 18) hx hb dX4_as_13 (by decide) (fun c13 => ?_) (fun c13 => ?_)
    · exact absurd c13 (by decide)
    refine lv_iconst (v := (-1)) hx hb dX4_as_16 (by decide) ?_
    exact zretMI (w1 := fun (uu : Unit) => wX g x sh co ck ch cl vo vpa vma re rua rla rma rda sad cad tr (ft_as np kd p k) np sl kd hg lk vn vp vm nr ru rl rm rd lane ml cel) () hx hb hr hlocks hS rfl (by rw [sp_as, if_neg hn_10]) (by rw [ft_as, if_neg hn_10]; exact hP) dX4_as_17

set_option maxHeartbeats 4000000 in
set_option maxRecDepth 100000 in
theorem c_X4_trace (l : Launch) (g : Gx) (x : Nat) (sh : Nat) (co : Nat) (ck : Nat) (ch : Nat) (cl : Nat) (vo : Nat) (vpa : Nat) (vma : Nat) (re : Nat) (rua : Nat) (rla : Nat) (rma : Nat) (rda : Nat) (sad : Nat → Nat) (cad : Nat → Nat) (tr : Int32) (ft : Nat) (np : Nat) (sl : Nat) (kd : Nat → Nat) (hg : Nat → Nat) (lk : Nat → Nat) (vn : Nat) (vp : Nat → Int32) (vm : Nat → Int32) (nr : Nat) (ru : Nat → Nat) (rl : Nat → Nat) (rm : Nat → Nat) (rd : Nat → Nat) (lane : Nat → Nat) (ml : Nat → Nat) (cel : Nat → Nat → Int32) : Met l yX4_trace wsX4_trace ({ frames := 0, cells := 0, slots := 0, locals := 0 } : Room) (PcR g [.ref x] (wX g x sh co ck ch cl vo vpa vma re rua rla rma rda sad cad tr ft np sl kd hg lk vn vp vm nr ru rl rm rd lane ml cel)) (vp_Si (fun r => r = tr)) 0 0 (fun _ => False) := by
  refine zenterR (cc := cX4_trace) (maxL := 1) (ret := (some .int)) (by decide) rfl (Nat.le_of_ble_eq_true rfl) ?_
  intro P E s mt below meth cd ls hx hb hml hown hts hr hlocks hP hK hl
  have hl : lv_has ls 1 [(0, .ref x)] := hl
  have S0 : CallFix P mt cd cX4_trace 1 s [.ref x].toArray wsX4_trace RX4 := ⟨hx, hb, hml, hown, hts⟩
  refine lv_aload_n hx hb dX4_trace_0 rfl (lv_at hl 0 rfl) ?_
  refine va_get (D := g.1) (ci := 4) (v := .int tr) (C := RX4) (T := TX4) (N := 6) hx hb hts (fun _ h => (List.mem_cons_of_mem _ (List.mem_append_right _ h))) hown hK.1 hP 0 rfl rfl 4 (by decide) (hts _ (List.mem_of_getElem? (i := 1) rfl)) (fun _ h9 => h9) rfl dX4_trace_1 ?_
  exact zretI hx hb hr hlocks rfl (by rfl) dX4_trace_4

set_option maxHeartbeats 4000000 in
set_option maxRecDepth 100000 in
theorem c_X4_fault (l : Launch) (g : Gx) (x : Nat) (sh : Nat) (co : Nat) (ck : Nat) (ch : Nat) (cl : Nat) (vo : Nat) (vpa : Nat) (vma : Nat) (re : Nat) (rua : Nat) (rla : Nat) (rma : Nat) (rda : Nat) (sad : Nat → Nat) (cad : Nat → Nat) (tr : Int32) (ft : Nat) (np : Nat) (sl : Nat) (kd : Nat → Nat) (hg : Nat → Nat) (lk : Nat → Nat) (vn : Nat) (vp : Nat → Int32) (vm : Nat → Int32) (nr : Nat) (ru : Nat → Nat) (rl : Nat → Nat) (rm : Nat → Nat) (rd : Nat → Nat) (lane : Nat → Nat) (ml : Nat → Nat) (cel : Nat → Nat → Int32) : Met l yX4_fault wsX4_fault ({ frames := 0, cells := 0, slots := 0, locals := 0 } : Room) (PcR g [.ref x] (wX g x sh co ck ch cl vo vpa vma re rua rla rma rda sad cad tr ft np sl kd hg lk vn vp vm nr ru rl rm rd lane ml cel)) (vp_Si (fun r => r = nI ft)) 0 0 (fun _ => False) := by
  refine zenterR (cc := cX4_fault) (maxL := 1) (ret := (some .int)) (by decide) rfl (Nat.le_of_ble_eq_true rfl) ?_
  intro P E s mt below meth cd ls hx hb hml hown hts hr hlocks hP hK hl
  have hl : lv_has ls 1 [(0, .ref x)] := hl
  have S0 : CallFix P mt cd cX4_fault 1 s [.ref x].toArray wsX4_fault RX4 := ⟨hx, hb, hml, hown, hts⟩
  refine lv_aload_n hx hb dX4_fault_0 rfl (lv_at hl 0 rfl) ?_
  refine va_get (D := g.1) (ci := 4) (v := .int (nI ft)) (C := RX4) (T := TX4) (N := 6) hx hb hts (fun _ h => (List.mem_cons_of_mem _ (List.mem_append_right _ h))) hown hK.1 hP 0 rfl rfl 5 (by decide) (hts _ (List.mem_of_getElem? (i := 1) rfl)) (fun _ h9 => h9) rfl dX4_fault_1 ?_
  exact zretI hx hb hr hlocks rfl (by rfl) dX4_fault_4

set_option maxHeartbeats 4000000 in
set_option maxRecDepth 100000 in
theorem c_X4_many (l : Launch) (g : Gx) (x : Nat) (sh : Nat) (co : Nat) (ck : Nat) (ch : Nat) (cl : Nat) (vo : Nat) (vpa : Nat) (vma : Nat) (re : Nat) (rua : Nat) (rla : Nat) (rma : Nat) (rda : Nat) (sad : Nat → Nat) (cad : Nat → Nat) (tr : Int32) (ft : Nat) (np : Nat) (sl : Nat) (kd : Nat → Nat) (hg : Nat → Nat) (lk : Nat → Nat) (vn : Nat) (vp : Nat → Int32) (vm : Nat → Int32) (nr : Nat) (ru : Nat → Nat) (rl : Nat → Nat) (rm : Nat → Nat) (rd : Nat → Nat) (lane : Nat → Nat) (ml : Nat → Nat) (cel : Nat → Nat → Int32) (w : Int32) : Met l yX4_many wsX4_many ({ frames := 1, cells := 0, slots := 0, locals := 20 } : Room) (PcR g [.ref x, .int w] (wX g x sh co ck ch cl vo vpa vma re rua rla rma rda sad cad tr ft np sl kd hg lk vn vp vm nr ru rl rm rd lane ml cel)) (vp_Si (fun r => r = sp_many np sl nr w)) 0 0 (fun _ => False) := by
  refine zenterR (cc := cX4_many) (maxL := 2) (ret := (some .int)) (by decide) rfl (Nat.le_of_ble_eq_true rfl) ?_
  intro P E s mt below meth cd ls hx hb hml hown hts hr hlocks hP hK hl
  have hl : lv_has ls 2 [(0, .ref x), (1, .int w)] := hl
  have S0 : CallFix P mt cd cX4_many 2 s [.ref x, .int w].toArray wsX4_many RX4 := ⟨hx, hb, hml, hown, hts⟩
  refine lv_iload_n hx hb dX4_many_0 rfl (lv_at hl 1 rfl) ?_
  by_cases c1_0 : w = nI 0
  · refine ztopI (nI 0) c1_0 ?_
    refine lv_tableIn (off := 27) (tgt := 28) hx hb dX4_many_1 (by decide) (by decide) (by rfl) (by decide) ?_
    refine lv_aload_n hx hb dX4_many_28 rfl (lv_at hl 0 rfl) ?_
    refine va_get (D := g.1) (ci := 4) (v := .ref co) (C := RX4) (T := TX4) (N := 6) hx hb hts (fun _ h => (List.mem_cons_of_mem _ (List.mem_append_left _ (List.mem_append_left _ (List.mem_append_right _ h))))) hown hK.1 hP 0 rfl rfl 1 (by decide) (hts _ (List.mem_of_getElem? (i := 1) rfl)) (fun _ h9 => h9) rfl dX4_many_29 ?_
    have hPc : PP g (wC g co ck ch cl np sl kd hg lk) _ := (P_sub (w := wC g co ck ch cl np sl kd hg lk) hP [2, 3, 4, 5] rfl)
    refine zcallR (va_runV (As := []) (rest := []) (b := co) S0 (c_X0_howMany l g co ck ch cl np sl kd hg lk) (cwV 0 hts gX4_many_X0_howMany rfl rfl rfl (by decide +kernel) ⟨by decide, by decide⟩) (zpreV hK hPc (va_recv hK.1 hPc (ci := 0) (q0 := 0) rfl rfl)) rfl rfl hl.1 rfl (lv_room (Nat.le_of_ble_eq_true rfl)) dX4_many_32 ⟨by decide, by decide⟩) (fun r32 h32 => ?_)
    subst h32
    exact zretI hx hb hr hlocks rfl (by rw [sp_many, if_pos c1_0]) dX4_many_35
  by_cases c1_1 : w = nI 1
  · refine ztopI (nI 1) c1_1 ?_
    refine lv_tableIn (off := 35) (tgt := 36) hx hb dX4_many_1 (by decide) (by decide) (by rfl) (by decide) ?_
    refine lv_aload_n hx hb dX4_many_36 rfl (lv_at hl 0 rfl) ?_
    refine va_get (D := g.1) (ci := 4) (v := .ref co) (C := RX4) (T := TX4) (N := 6) hx hb hts (fun _ h => (List.mem_cons_of_mem _ (List.mem_append_left _ (List.mem_append_left _ (List.mem_append_right _ h))))) hown hK.1 hP 0 rfl rfl 1 (by decide) (hts _ (List.mem_of_getElem? (i := 1) rfl)) (fun _ h9 => h9) rfl dX4_many_37 ?_
    have hPc : PP g (wC g co ck ch cl np sl kd hg lk) _ := (P_sub (w := wC g co ck ch cl np sl kd hg lk) hP [2, 3, 4, 5] rfl)
    refine zcallR (va_runV (As := []) (rest := []) (b := co) S0 (c_X0_slackNow l g co ck ch cl np sl kd hg lk) (cwV 0 hts gX4_many_X0_slackNow rfl rfl rfl (by decide +kernel) ⟨by decide, by decide⟩) (zpreV hK hPc (va_recv hK.1 hPc (ci := 0) (q0 := 0) rfl rfl)) rfl rfl hl.1 rfl (lv_room (Nat.le_of_ble_eq_true rfl)) dX4_many_40 ⟨by decide, by decide⟩) (fun r40 h40 => ?_)
    subst h40
    exact zretI hx hb hr hlocks rfl (by rw [sp_many, if_neg c1_0, if_pos c1_1]) dX4_many_43
  by_cases c1_2 : w = nI 2
  · refine ztopI (nI 2) c1_2 ?_
    refine lv_tableIn (off := 43) (tgt := 44) hx hb dX4_many_1 (by decide) (by decide) (by rfl) (by decide) ?_
    refine lv_aload_n hx hb dX4_many_44 rfl (lv_at hl 0 rfl) ?_
    refine va_get (D := g.1) (ci := 4) (v := .ref re) (C := RX4) (T := TX4) (N := 6) hx hb hts (fun _ h => (List.mem_cons_of_mem _ (List.mem_append_left _ (List.mem_append_left _ (List.mem_append_right _ h))))) hown hK.1 hP 0 rfl rfl 3 (by decide) (hts _ (List.mem_of_getElem? (i := 2) rfl)) (fun _ h9 => h9) rfl dX4_many_45 ?_
    have hPc : PP g (wR g re rua rla rma rda nr ru rl rm rd) _ := (P_sub (w := wR g re rua rla rma rda nr ru rl rm rd) hP [9, 10, 11, 12, 13] rfl)
    refine zcallR (va_runV (As := []) (rest := []) (b := re) S0 (c_X1_howMany l g re rua rla rma rda nr ru rl rm rd) (cwV 0 hts gX4_many_X1_howMany rfl rfl rfl (by decide +kernel) ⟨by decide, by decide⟩) (zpreV hK hPc (va_recv hK.1 hPc (ci := 1) (q0 := 0) rfl rfl)) rfl rfl hl.1 rfl (lv_room (Nat.le_of_ble_eq_true rfl)) dX4_many_48 ⟨by decide, by decide⟩) (fun r48 h48 => ?_)
    subst h48
    exact zretI hx hb hr hlocks rfl (by rw [sp_many, if_neg c1_0, if_neg c1_1, if_pos c1_2]) dX4_many_51
  refine lv_tableOut (tgt := 52) hx hb dX4_many_1 (sw_out3 c1_0 c1_1 c1_2) (by decide) ?_
  refine lv_bipush (v := (-2)) hx hb dX4_many_52 (by decide) ?_
  exact zretI hx hb hr hlocks rfl (by rw [sp_many, if_neg c1_0, if_neg c1_1, if_neg c1_2]) dX4_many_54
